/-! Calls: more of what a table has; printed by wip/whole/gen_c27.py. -/
theorem ls_x {w : Int32} (hw : ¬ inP w 2) {a b d : Int} : Op.lookupswitch.offset [(0, a), (1, b)] d w.toInt = d := by
  rw [Op.lookupswitch.offset_cons, if_neg (fun e => hw ⟨by omega, by omega⟩), Op.lookupswitch.offset_cons, if_neg (fun e => hw ⟨by omega, by omega⟩)]
  rfl
theorem td_x {w : Int32} (hw : ¬ inP w 3) : w.toInt < 0 ∨ 2 < w.toInt := by
  unfold inP at hw
  omega
noncomputable def gpN (n : Nat) (c : Nat → Nat) (lo hi : Nat) : Nat := Classical.epsilon (fun k => ∃ l i, BfI n c lo hi i l ∧ l.length ≤ i ∧ l.length = k)
theorem gp_e {n : Nat} {c : Nat → Nat} {lo hi i : Nat} {l : List Nat} (h : BfI n c lo hi i l) (he : l.length ≤ i) : l.length = gpN n c lo hi := by
  obtain ⟨l2, i2, h1, h2, h3⟩ := Classical.epsilon_spec (p := fun k => ∃ l i, BfI n c lo hi i l ∧ l.length ≤ i ∧ l.length = k) ⟨_, l, i, h, he, rfl⟩
  rw [Bf_eq h he h1 h2]
  exact h3
theorem p_unitX {S : CS} {G : Nat → Nat → Value} {B : Nat → Nat → Int32} {J : Nat → Nat → Int64} {R : Nat → Nat → Option Nat} {n : Nat} {W : WS} (hW : WC n S G B R W) {j m : Nat} {c : Nat → Nat} (hj : j < 6) (htb : tbK (wK W) j = (m, c)) (h1 : 1 ≤ m) {w : Int32} (hw : ¬ inP w 3) : CR 80 139 0 [some (.ref 2), some (.int (nI j)), some (.int w)] [] S G B J R (fun r S' G' B' J' R' => r = some (.int (-1)) ∧ WC (n + 1) S' G' B' R' W) := by
  have hS := hW.1.1
  have hF := hW.2.1
  have hO := hW.2.2.2.1
  obtain ⟨ta, ka, la, hH, hLk, hl2, hs3, hbd⟩ := hW.2.2.1
  obtain ⟨zt, hzt, ezt⟩ := (hH.2.1 j hj).2
  have ht := hH.ta hj
  have hsh := hH.2.2.2.2.2.2.1 j hj
  rw [show kH (wK W) (kD (wK W)) j = (m, c) from htb] at hsh
  have hok := tb_ok hO hj
  rw [htb] at hok
  have hn : G (ta j) 0 = .int (nI m) := hsh.1
  have hc : TabC B (ta j) m c := hsh.c hok
  have hl : Lat m c := hok.2
  have hm6 : m ≤ 6 := hok.1
  have hyes : hasP (wK W) (nI j) := (has_i hj).mpr (by rw [htb]; exact h1)
  refine cr_nx (pc' := 1) (al' := [some (.ref 2), some (.int (nI j)), some (.int w)]) (st' := [.ref 2]) d_139_0 (fun _ => rfl) ?_
  refine cr_nx (pc' := 2) (al' := [some (.ref 2), some (.int (nI j)), some (.int w)]) (st' := [.int (nI j), .ref 2]) d_139_1 (fun _ => rfl) ?_
  refine cr_pv (b := 2) (as := [.int (nI j)]) (al0 := [some (.ref 2), some (.int (nI j))]) (r := []) d_139_2 cw_139 cm_11_137 cz_126 rfl rfl (hS.i (a := 2) (by decide) (by decide)) (by rw [cw_126]; exact (hS.s (a := 2) (by decide) (by decide) rfl)) (by rw [cw_126]; decide) rfl (Nat.le_of_ble_eq_true rfl) (k_has hS hF hH hO) ?_
  show CR _ _ 5 [some (.ref 2), some (.int (nI j)), some (.int w)] [.int (bI (hasP (wK W) (nI j)))] S G B J R _
  refine cr_beq (t := 17) d_139_5 (by decide) (fun c5 => ?_) (fun c5 => ?_)
  · exact absurd hyes c5
  · refine cr_nx (pc' := 9) (al' := [some (.ref 2), some (.int (nI j)), some (.int w)]) (st' := [.int w]) d_139_8 (fun _ => rfl) ?_
    refine cr_ilt (t := 17) d_139_9 (by decide) (fun c9 => ?_) (fun c9 => ?_)
    · refine cr_nx (pc' := 18) (al' := [some (.ref 2), some (.int (nI j)), some (.int w)]) (st' := [.int (-1)]) d_139_17 (fun _ => rfl) ?_
      exact cr_ri d_139_18 cx_139 rfl ⟨rfl, hW.mo⟩
    · refine cr_nx (pc' := 13) (al' := [some (.ref 2), some (.int (nI j)), some (.int w)]) (st' := [.int w]) d_139_12 (fun _ => rfl) ?_
      refine cn_ic (v := 2) d_139_13 (by decide) ?_
      refine cr_cle (t := 19) d_139_14 (by decide) (fun c14 => ?_) (fun c14 => ?_)
      · exact absurd (show inP w 3 from ⟨by rw [i_lt0] at c9; omega, by rw [i_Nle (by decide)] at c14; omega⟩) hw
      · refine cr_nx (pc' := 18) (al' := [some (.ref 2), some (.int (nI j)), some (.int w)]) (st' := [.int (-1)]) d_139_17 (fun _ => rfl) ?_
        exact cr_ri d_139_18 cx_139 rfl ⟨rfl, hW.mo⟩
theorem r_unitX {g : Nat → Int32} {A : Nat → Nat → Int32} {n : Nat} {W : WS} (hW : WR n g A W) (hO : CoOk (wK W)) {j m : Nat} {c : Nat → Nat} (hj : j < 6) (htb : tbK (wK W) j = (m, c)) (h1 : 1 ≤ m) {w : Int32} (hw : ¬ inP w 3) : RR 80 241 0 [some (.ref 146), some (.int (nI j)), some (.int w)] [] g A (fun r g' A' => r = some (.int (-1)) ∧ WR (n + 1) g' A' W) := by
  have hsh := hW.1.1.1 j hj
  rw [show kH (wK W) (kD (wK W)) j = (m, c) from htb] at hsh
  have hok := tb_ok hO hj
  rw [htb] at hok
  have hk : A 1 (37 * j) = nI m := hsh.1
  have hl : Lat m c := hok.2
  have hm6 : m ≤ 6 := hok.1
  have hyes : isT A (nI j) := (has_r hW hO).mpr ((has_i hj).mpr (by rw [htb]; exact h1))
  refine rr_nx (pc' := 1) (al' := [some (.ref 146), some (.int (nI j)), some (.int w)]) (st' := [.ref 146]) d_241_0 (fun _ => rfl) ?_
  refine rr_nx (pc' := 2) (al' := [some (.ref 146), some (.int (nI j)), some (.int w)]) (st' := [.int (nI j), .ref 146]) d_241_1 (fun _ => rfl) ?_
  refine rr_pv (as := [.int (nI j)]) (al0 := [some (.ref 146), some (.int (nI j))]) (r := []) d_241_2 mo_241 ml_124 mz_184 rfl rfl rfl (Nat.le_of_ble_eq_true rfl) (s_isTable (nI j)) ?_
  show RR _ _ 5 [some (.ref 146), some (.int (nI j)), some (.int w)] [.int (bI (isT A (nI j)))] g A _
  refine rr_beq (t := 17) d_241_5 (by decide) (fun c5 => ?_) (fun c5 => ?_)
  · exact absurd hyes c5
  · refine rr_nx (pc' := 9) (al' := [some (.ref 146), some (.int (nI j)), some (.int w)]) (st' := [.int w]) d_241_8 (fun _ => rfl) ?_
    refine rn_ic (v := 0) d_241_9 (by decide) ?_
    refine rn_ic (v := 2) d_241_10 (by decide) ?_
    refine rr_ps (as := [.int w, .int (nI 0), .int (nI 2)]) (al0 := [some (.int w), some (.int (nI 0)), some (.int (nI 2))]) (r := []) d_241_11 mo_241 ml_106 mz_179 rfl rfl rfl (Nat.le_of_ble_eq_true rfl) (s_lies w (nI 0) (nI 2)) ?_
    show RR _ _ 14 [some (.ref 146), some (.int (nI j)), some (.int w)] [.int (bI ((nI 0) ≤ w ∧ w ≤ (nI 2)))] g A _
    refine rr_bne (t := 19) d_241_14 (by decide) (fun c14 => ?_) (fun c14 => ?_)
    · exact absurd c14 (fun e_ => hw ((in_r (m := 2) (by decide)).mp e_))
    · refine rr_nx (pc' := 18) (al' := [some (.ref 146), some (.int (nI j)), some (.int w)]) (st' := [.int (-1)]) d_241_17 (fun _ => rfl) ?_
      exact rr_ri d_241_18 mr_241 rfl ⟨rfl, hW.mo⟩
theorem p_unit0 {S : CS} {G : Nat → Nat → Value} {B : Nat → Nat → Int32} {J : Nat → Nat → Int64} {R : Nat → Nat → Option Nat} {n : Nat} {W : WS} (hW : WC n S G B R W) {j m : Nat} {c : Nat → Nat} (hj : j < 6) (htb : tbK (wK W) j = (m, c)) (h1 : 1 ≤ m) : CR 80 139 0 [some (.ref 2), some (.int (nI j)), some (.int (nI 0))] [] S G B J R (fun r S' G' B' J' R' => r = some (.int (unV 0 m c)) ∧ WC (n + 1) S' G' B' R' W) := by
  have hS := hW.1.1
  have hF := hW.2.1
  have hO := hW.2.2.2.1
  obtain ⟨ta, ka, la, hH, hLk, hl2, hs3, hbd⟩ := hW.2.2.1
  obtain ⟨zt, hzt, ezt⟩ := (hH.2.1 j hj).2
  have ht := hH.ta hj
  have hsh := hH.2.2.2.2.2.2.1 j hj
  rw [show kH (wK W) (kD (wK W)) j = (m, c) from htb] at hsh
  have hok := tb_ok hO hj
  rw [htb] at hok
  have hn : G (ta j) 0 = .int (nI m) := hsh.1
  have hc : TabC B (ta j) m c := hsh.c hok
  have hl : Lat m c := hok.2
  have hm6 : m ≤ 6 := hok.1
  have hyes : hasP (wK W) (nI j) := (has_i hj).mpr (by rw [htb]; exact h1)
  refine cr_nx (pc' := 1) (al' := [some (.ref 2), some (.int (nI j)), some (.int (nI 0))]) (st' := [.ref 2]) d_139_0 (fun _ => rfl) ?_
  refine cr_nx (pc' := 2) (al' := [some (.ref 2), some (.int (nI j)), some (.int (nI 0))]) (st' := [.int (nI j), .ref 2]) d_139_1 (fun _ => rfl) ?_
  refine cr_pv (b := 2) (as := [.int (nI j)]) (al0 := [some (.ref 2), some (.int (nI j))]) (r := []) d_139_2 cw_139 cm_11_137 cz_126 rfl rfl (hS.i (a := 2) (by decide) (by decide)) (by rw [cw_126]; exact (hS.s (a := 2) (by decide) (by decide) rfl)) (by rw [cw_126]; decide) rfl (Nat.le_of_ble_eq_true rfl) (k_has hS hF hH hO) ?_
  show CR _ _ 5 [some (.ref 2), some (.int (nI j)), some (.int (nI 0))] [.int (bI (hasP (wK W) (nI j)))] S G B J R _
  refine cr_beq (t := 17) d_139_5 (by decide) (fun c5 => ?_) (fun c5 => ?_)
  · exact absurd hyes c5
  · refine cr_nx (pc' := 9) (al' := [some (.ref 2), some (.int (nI j)), some (.int (nI 0))]) (st' := [.int (nI 0)]) d_139_8 (fun _ => rfl) ?_
    refine cn_zlt (t := 17) d_139_9 (by decide) (by first | omega | assumption | exact cu_36 (by omega) (cu_lt (by omega) (by omega))) (fun c9 => ?_) (fun c9 => ?_)
    · exact c9.elim
    · refine cr_nx (pc' := 13) (al' := [some (.ref 2), some (.int (nI j)), some (.int (nI 0))]) (st' := [.int (nI 0)]) d_139_12 (fun _ => rfl) ?_
      refine cn_ic (v := 2) d_139_13 (by decide) ?_
      refine cn_cle (t := 19) d_139_14 (by decide) (by first | omega | assumption | exact cu_36 (by omega) (cu_lt (by omega) (by omega))) (by first | omega | assumption | exact cu_36 (by omega) (cu_lt (by omega) (by omega))) (fun c14 => ?_) (fun c14 => ?_)
      · refine cr_nx (pc' := 20) (al' := [some (.ref 2), some (.int (nI j)), some (.int (nI 0))]) (st' := [.ref 2]) d_139_19 (fun _ => rfl) ?_
        refine cr_gf (v := .ref 3) d_139_20 cw_139 cf_11_10 (hS.i (a := 2) (by decide) (by decide)) (hS.s (a := 2) (by decide) (by decide) rfl) (by decide) (fx_2_0 hF) ?_
        refine cr_gf (v := .ref 4) d_139_23 cw_139 cf_11_140 (hS.i (a := 3) (by decide) (by decide)) (hS.s (a := 3) (by decide) (by decide) rfl) (by decide) (fx_3_0 hF) ?_
        refine cr_nx (pc' := 27) (al' := [some (.ref 2), some (.int (nI j)), some (.int (nI 0))]) (st' := [.int (nI j), .ref 4]) d_139_26 (fun _ => rfl) ?_
        refine cr_aa (a := 4) (v := .ref (ta j)) d_139_27 (hS.i (a := 4) (by decide) (by decide)) (by decide) (hS.s (a := 4) (by decide) (by decide) rfl) (by decide) (show j < 6 by first | omega | assumption | exact cu_36 (by omega) (cu_lt (by omega) (by omega))) (show va_rf _ = _ by rw [(hH.2.1 j hj).1]; rfl) ?_
        refine cr_nx (pc' := 29) (al' := [some (.ref 2), some (.int (nI j)), some (.int (nI 0))]) (st' := [.int (nI 0), .ref (ta j)]) d_139_28 (fun _ => rfl) ?_
        refine cn_ic (v := 2) d_139_29 (by decide) ?_
        refine cn_ceq (t := 37) d_139_30 (by decide) (by first | omega | assumption | exact cu_36 (by omega) (cu_lt (by omega) (by omega))) (by first | omega | assumption | exact cu_36 (by omega) (cu_lt (by omega) (by omega))) (fun c30 => ?_) (fun c30 => ?_)
        · omega
        · refine cn_ic (v := 1) d_139_33 (by decide) ?_
          refine cr_nx (pc' := 38) (al' := [some (.ref 2), some (.int (nI j)), some (.int (nI 0))]) (st' := [.int (nI 1), .ref (ta j)]) d_139_34 (fun _ => rfl) ?_
          refine cr_nx (pc' := 39) (al' := [some (.ref 2), some (.int (nI j)), some (.int (nI 0))]) (st' := [.int (nI 0), .int (nI 1), .ref (ta j)]) d_139_38 (fun _ => rfl) ?_
          refine cn_ic (v := 1) d_139_39 (by decide) ?_
          refine cn_ceq (t := 47) d_139_40 (by decide) (by first | omega | assumption | exact cu_36 (by omega) (cu_lt (by omega) (by omega))) (by first | omega | assumption | exact cu_36 (by omega) (cu_lt (by omega) (by omega))) (fun c40 => ?_) (fun c40 => ?_)
          · omega
          · refine cn_ic (v := 1) d_139_43 (by decide) ?_
            refine cr_nx (pc' := 48) (al' := [some (.ref 2), some (.int (nI j)), some (.int (nI 0))]) (st' := [.int (nI 1), .int (nI 1), .ref (ta j)]) d_139_44 (fun _ => rfl) ?_
            refine cr_pv (b := (ta j)) (as := [.int (nI 1), .int (nI 1)]) (al0 := [some (.ref (ta j)), some (.int (nI 1)), some (.int (nI 1)), none, none]) (r := []) d_139_48 cw_139 cm_11_227 cz_107 rfl rfl ht.1 (by rw [cw_107]; exact ht.2.2.1) (by rw [cw_107]; decide) rfl (Nat.le_of_ble_eq_true rfl) (k_unitFrom0 ht hn hc) ?_
            show CR _ _ 51 [some (.ref 2), some (.int (nI j)), some (.int (nI 0))] [.int (unV 0 m c)] S G B J R _
            exact cr_ri d_139_51 cx_139 rfl ⟨rfl, hW.mo⟩
      · omega
theorem r_unit0 {g : Nat → Int32} {A : Nat → Nat → Int32} {n : Nat} {W : WS} (hW : WR n g A W) (hO : CoOk (wK W)) {j m : Nat} {c : Nat → Nat} (hj : j < 6) (htb : tbK (wK W) j = (m, c)) (h1 : 1 ≤ m) : RR 80 241 0 [some (.ref 146), some (.int (nI j)), some (.int (nI 0))] [] g A (fun r g' A' => r = some (.int (unV 0 m c)) ∧ WR (n + 1) g' A' W) := by
  have hsh := hW.1.1.1 j hj
  rw [show kH (wK W) (kD (wK W)) j = (m, c) from htb] at hsh
  have hok := tb_ok hO hj
  rw [htb] at hok
  have hk : A 1 (37 * j) = nI m := hsh.1
  have hl : Lat m c := hok.2
  have hm6 : m ≤ 6 := hok.1
  have hyes : isT A (nI j) := (has_r hW hO).mpr ((has_i hj).mpr (by rw [htb]; exact h1))
  refine rr_nx (pc' := 1) (al' := [some (.ref 146), some (.int (nI j)), some (.int (nI 0))]) (st' := [.ref 146]) d_241_0 (fun _ => rfl) ?_
  refine rr_nx (pc' := 2) (al' := [some (.ref 146), some (.int (nI j)), some (.int (nI 0))]) (st' := [.int (nI j), .ref 146]) d_241_1 (fun _ => rfl) ?_
  refine rr_pv (as := [.int (nI j)]) (al0 := [some (.ref 146), some (.int (nI j))]) (r := []) d_241_2 mo_241 ml_124 mz_184 rfl rfl rfl (Nat.le_of_ble_eq_true rfl) (s_isTable (nI j)) ?_
  show RR _ _ 5 [some (.ref 146), some (.int (nI j)), some (.int (nI 0))] [.int (bI (isT A (nI j)))] g A _
  refine rr_beq (t := 17) d_241_5 (by decide) (fun c5 => ?_) (fun c5 => ?_)
  · exact absurd hyes c5
  · refine rr_nx (pc' := 9) (al' := [some (.ref 146), some (.int (nI j)), some (.int (nI 0))]) (st' := [.int (nI 0)]) d_241_8 (fun _ => rfl) ?_
    refine rn_ic (v := 0) d_241_9 (by decide) ?_
    refine rn_ic (v := 2) d_241_10 (by decide) ?_
    refine rr_ps (as := [.int (nI 0), .int (nI 0), .int (nI 2)]) (al0 := [some (.int (nI 0)), some (.int (nI 0)), some (.int (nI 2))]) (r := []) d_241_11 mo_241 ml_106 mz_179 rfl rfl rfl (Nat.le_of_ble_eq_true rfl) (s_lies (nI 0) (nI 0) (nI 2)) ?_
    show RR _ _ 14 [some (.ref 146), some (.int (nI j)), some (.int (nI 0))] [.int (bI ((nI 0) ≤ (nI 0) ∧ (nI 0) ≤ (nI 2)))] g A _
    refine rr_bne (t := 19) d_241_14 (by decide) (fun c14 => ?_) (fun c14 => ?_)
    · refine rr_nx (pc' := 20) (al' := [some (.ref 146), some (.int (nI j)), some (.int (nI 0))]) (st' := [.ref 146]) d_241_19 (fun _ => rfl) ?_
      refine rr_nx (pc' := 21) (al' := [some (.ref 146), some (.int (nI j)), some (.int (nI 0))]) (st' := [.int (nI j), .ref 146]) d_241_20 (fun _ => rfl) ?_
      refine rr_pv (as := [.int (nI j)]) (al0 := [some (.ref 146), some (.int (nI j)), none]) (r := []) d_241_21 mo_241 ml_248 mz_208 rfl rfl rfl (Nat.le_of_ble_eq_true rfl) (s_lays (n := m) hj hm6 hk) ?_
      obtain ⟨wl21, hwl21⟩ : ∃ w_, w_ = rf_f (fun q => A 1 (37 * j + 1 + q)) (A 4) (m * m) := ⟨_, rfl⟩
      rw [← hwl21]
      show RR _ _ 24 [some (.ref 146), some (.int (nI j)), some (.int (nI 0))] [] (upd g 6 (nI m)) (rf_u A 4 wl21) _
      have hcu := cur_l (g := g) hsh hm6 hl hwl21
      refine rr_nx (pc' := 25) (al' := [some (.ref 146), some (.int (nI j)), some (.int (nI 0))]) (st' := [.ref 146]) d_241_24 (fun _ => rfl) ?_
      refine rr_nx (pc' := 26) (al' := [some (.ref 146), some (.int (nI j)), some (.int (nI 0))]) (st' := [.int (nI 0), .ref 146]) d_241_25 (fun _ => rfl) ?_
      refine rr_pv (as := [.int (nI 0)]) (al0 := [some (.ref 146), some (.int (nI 0)), none, none, none]) (r := []) d_241_26 mo_241 ml_223 mz_212 rfl rfl rfl (Nat.le_of_ble_eq_true rfl) (s_unitOf hcu (by omega)) ?_
      show RR _ _ 29 [some (.ref 146), some (.int (nI j)), some (.int (nI 0))] [.int (unV 0 m c)] (upd g 6 (nI m)) (rf_u A 4 wl21) _
      exact rr_ri d_241_29 mr_241 rfl ⟨rfl, (hW.q (Gsm.rf.u rfl) (Ksm.rf.u rfl)).mo⟩
    · exact absurd (show nI 0 ≤ nI 0 ∧ nI 0 ≤ nI 2 by decide) c14
theorem p_unit1 {S : CS} {G : Nat → Nat → Value} {B : Nat → Nat → Int32} {J : Nat → Nat → Int64} {R : Nat → Nat → Option Nat} {n : Nat} {W : WS} (hW : WC n S G B R W) {j m : Nat} {c : Nat → Nat} (hj : j < 6) (htb : tbK (wK W) j = (m, c)) (h1 : 1 ≤ m) : CR 80 139 0 [some (.ref 2), some (.int (nI j)), some (.int (nI 1))] [] S G B J R (fun r S' G' B' J' R' => r = some (.int (unV 1 m c)) ∧ WC (n + 1) S' G' B' R' W) := by
  have hS := hW.1.1
  have hF := hW.2.1
  have hO := hW.2.2.2.1
  obtain ⟨ta, ka, la, hH, hLk, hl2, hs3, hbd⟩ := hW.2.2.1
  obtain ⟨zt, hzt, ezt⟩ := (hH.2.1 j hj).2
  have ht := hH.ta hj
  have hsh := hH.2.2.2.2.2.2.1 j hj
  rw [show kH (wK W) (kD (wK W)) j = (m, c) from htb] at hsh
  have hok := tb_ok hO hj
  rw [htb] at hok
  have hn : G (ta j) 0 = .int (nI m) := hsh.1
  have hc : TabC B (ta j) m c := hsh.c hok
  have hl : Lat m c := hok.2
  have hm6 : m ≤ 6 := hok.1
  have hyes : hasP (wK W) (nI j) := (has_i hj).mpr (by rw [htb]; exact h1)
  refine cr_nx (pc' := 1) (al' := [some (.ref 2), some (.int (nI j)), some (.int (nI 1))]) (st' := [.ref 2]) d_139_0 (fun _ => rfl) ?_
  refine cr_nx (pc' := 2) (al' := [some (.ref 2), some (.int (nI j)), some (.int (nI 1))]) (st' := [.int (nI j), .ref 2]) d_139_1 (fun _ => rfl) ?_
  refine cr_pv (b := 2) (as := [.int (nI j)]) (al0 := [some (.ref 2), some (.int (nI j))]) (r := []) d_139_2 cw_139 cm_11_137 cz_126 rfl rfl (hS.i (a := 2) (by decide) (by decide)) (by rw [cw_126]; exact (hS.s (a := 2) (by decide) (by decide) rfl)) (by rw [cw_126]; decide) rfl (Nat.le_of_ble_eq_true rfl) (k_has hS hF hH hO) ?_
  show CR _ _ 5 [some (.ref 2), some (.int (nI j)), some (.int (nI 1))] [.int (bI (hasP (wK W) (nI j)))] S G B J R _
  refine cr_beq (t := 17) d_139_5 (by decide) (fun c5 => ?_) (fun c5 => ?_)
  · exact absurd hyes c5
  · refine cr_nx (pc' := 9) (al' := [some (.ref 2), some (.int (nI j)), some (.int (nI 1))]) (st' := [.int (nI 1)]) d_139_8 (fun _ => rfl) ?_
    refine cn_zlt (t := 17) d_139_9 (by decide) (by first | omega | assumption | exact cu_36 (by omega) (cu_lt (by omega) (by omega))) (fun c9 => ?_) (fun c9 => ?_)
    · exact c9.elim
    · refine cr_nx (pc' := 13) (al' := [some (.ref 2), some (.int (nI j)), some (.int (nI 1))]) (st' := [.int (nI 1)]) d_139_12 (fun _ => rfl) ?_
      refine cn_ic (v := 2) d_139_13 (by decide) ?_
      refine cn_cle (t := 19) d_139_14 (by decide) (by first | omega | assumption | exact cu_36 (by omega) (cu_lt (by omega) (by omega))) (by first | omega | assumption | exact cu_36 (by omega) (cu_lt (by omega) (by omega))) (fun c14 => ?_) (fun c14 => ?_)
      · refine cr_nx (pc' := 20) (al' := [some (.ref 2), some (.int (nI j)), some (.int (nI 1))]) (st' := [.ref 2]) d_139_19 (fun _ => rfl) ?_
        refine cr_gf (v := .ref 3) d_139_20 cw_139 cf_11_10 (hS.i (a := 2) (by decide) (by decide)) (hS.s (a := 2) (by decide) (by decide) rfl) (by decide) (fx_2_0 hF) ?_
        refine cr_gf (v := .ref 4) d_139_23 cw_139 cf_11_140 (hS.i (a := 3) (by decide) (by decide)) (hS.s (a := 3) (by decide) (by decide) rfl) (by decide) (fx_3_0 hF) ?_
        refine cr_nx (pc' := 27) (al' := [some (.ref 2), some (.int (nI j)), some (.int (nI 1))]) (st' := [.int (nI j), .ref 4]) d_139_26 (fun _ => rfl) ?_
        refine cr_aa (a := 4) (v := .ref (ta j)) d_139_27 (hS.i (a := 4) (by decide) (by decide)) (by decide) (hS.s (a := 4) (by decide) (by decide) rfl) (by decide) (show j < 6 by first | omega | assumption | exact cu_36 (by omega) (cu_lt (by omega) (by omega))) (show va_rf _ = _ by rw [(hH.2.1 j hj).1]; rfl) ?_
        refine cr_nx (pc' := 29) (al' := [some (.ref 2), some (.int (nI j)), some (.int (nI 1))]) (st' := [.int (nI 1), .ref (ta j)]) d_139_28 (fun _ => rfl) ?_
        refine cn_ic (v := 2) d_139_29 (by decide) ?_
        refine cn_ceq (t := 37) d_139_30 (by decide) (by first | omega | assumption | exact cu_36 (by omega) (cu_lt (by omega) (by omega))) (by first | omega | assumption | exact cu_36 (by omega) (cu_lt (by omega) (by omega))) (fun c30 => ?_) (fun c30 => ?_)
        · omega
        · refine cn_ic (v := 1) d_139_33 (by decide) ?_
          refine cr_nx (pc' := 38) (al' := [some (.ref 2), some (.int (nI j)), some (.int (nI 1))]) (st' := [.int (nI 1), .ref (ta j)]) d_139_34 (fun _ => rfl) ?_
          refine cr_nx (pc' := 39) (al' := [some (.ref 2), some (.int (nI j)), some (.int (nI 1))]) (st' := [.int (nI 1), .int (nI 1), .ref (ta j)]) d_139_38 (fun _ => rfl) ?_
          refine cn_ic (v := 1) d_139_39 (by decide) ?_
          refine cn_ceq (t := 47) d_139_40 (by decide) (by first | omega | assumption | exact cu_36 (by omega) (cu_lt (by omega) (by omega))) (by first | omega | assumption | exact cu_36 (by omega) (cu_lt (by omega) (by omega))) (fun c40 => ?_) (fun c40 => ?_)
          · refine cn_ic (v := 0) d_139_47 (by decide) ?_
            refine cr_pv (b := (ta j)) (as := [.int (nI 1), .int (nI 0)]) (al0 := [some (.ref (ta j)), some (.int (nI 1)), some (.int (nI 0)), none, none]) (r := []) d_139_48 cw_139 cm_11_227 cz_107 rfl rfl ht.1 (by rw [cw_107]; exact ht.2.2.1) (by rw [cw_107]; decide) rfl (Nat.le_of_ble_eq_true rfl) (k_unitFrom1 ht hn hc) ?_
            show CR _ _ 51 [some (.ref 2), some (.int (nI j)), some (.int (nI 1))] [.int (unV 1 m c)] S G B J R _
            exact cr_ri d_139_51 cx_139 rfl ⟨rfl, hW.mo⟩
          · omega
      · omega
theorem r_unit1 {g : Nat → Int32} {A : Nat → Nat → Int32} {n : Nat} {W : WS} (hW : WR n g A W) (hO : CoOk (wK W)) {j m : Nat} {c : Nat → Nat} (hj : j < 6) (htb : tbK (wK W) j = (m, c)) (h1 : 1 ≤ m) : RR 80 241 0 [some (.ref 146), some (.int (nI j)), some (.int (nI 1))] [] g A (fun r g' A' => r = some (.int (unV 1 m c)) ∧ WR (n + 1) g' A' W) := by
  have hsh := hW.1.1.1 j hj
  rw [show kH (wK W) (kD (wK W)) j = (m, c) from htb] at hsh
  have hok := tb_ok hO hj
  rw [htb] at hok
  have hk : A 1 (37 * j) = nI m := hsh.1
  have hl : Lat m c := hok.2
  have hm6 : m ≤ 6 := hok.1
  have hyes : isT A (nI j) := (has_r hW hO).mpr ((has_i hj).mpr (by rw [htb]; exact h1))
  refine rr_nx (pc' := 1) (al' := [some (.ref 146), some (.int (nI j)), some (.int (nI 1))]) (st' := [.ref 146]) d_241_0 (fun _ => rfl) ?_
  refine rr_nx (pc' := 2) (al' := [some (.ref 146), some (.int (nI j)), some (.int (nI 1))]) (st' := [.int (nI j), .ref 146]) d_241_1 (fun _ => rfl) ?_
  refine rr_pv (as := [.int (nI j)]) (al0 := [some (.ref 146), some (.int (nI j))]) (r := []) d_241_2 mo_241 ml_124 mz_184 rfl rfl rfl (Nat.le_of_ble_eq_true rfl) (s_isTable (nI j)) ?_
  show RR _ _ 5 [some (.ref 146), some (.int (nI j)), some (.int (nI 1))] [.int (bI (isT A (nI j)))] g A _
  refine rr_beq (t := 17) d_241_5 (by decide) (fun c5 => ?_) (fun c5 => ?_)
  · exact absurd hyes c5
  · refine rr_nx (pc' := 9) (al' := [some (.ref 146), some (.int (nI j)), some (.int (nI 1))]) (st' := [.int (nI 1)]) d_241_8 (fun _ => rfl) ?_
    refine rn_ic (v := 0) d_241_9 (by decide) ?_
    refine rn_ic (v := 2) d_241_10 (by decide) ?_
    refine rr_ps (as := [.int (nI 1), .int (nI 0), .int (nI 2)]) (al0 := [some (.int (nI 1)), some (.int (nI 0)), some (.int (nI 2))]) (r := []) d_241_11 mo_241 ml_106 mz_179 rfl rfl rfl (Nat.le_of_ble_eq_true rfl) (s_lies (nI 1) (nI 0) (nI 2)) ?_
    show RR _ _ 14 [some (.ref 146), some (.int (nI j)), some (.int (nI 1))] [.int (bI ((nI 0) ≤ (nI 1) ∧ (nI 1) ≤ (nI 2)))] g A _
    refine rr_bne (t := 19) d_241_14 (by decide) (fun c14 => ?_) (fun c14 => ?_)
    · refine rr_nx (pc' := 20) (al' := [some (.ref 146), some (.int (nI j)), some (.int (nI 1))]) (st' := [.ref 146]) d_241_19 (fun _ => rfl) ?_
      refine rr_nx (pc' := 21) (al' := [some (.ref 146), some (.int (nI j)), some (.int (nI 1))]) (st' := [.int (nI j), .ref 146]) d_241_20 (fun _ => rfl) ?_
      refine rr_pv (as := [.int (nI j)]) (al0 := [some (.ref 146), some (.int (nI j)), none]) (r := []) d_241_21 mo_241 ml_248 mz_208 rfl rfl rfl (Nat.le_of_ble_eq_true rfl) (s_lays (n := m) hj hm6 hk) ?_
      obtain ⟨wl21, hwl21⟩ : ∃ w_, w_ = rf_f (fun q => A 1 (37 * j + 1 + q)) (A 4) (m * m) := ⟨_, rfl⟩
      rw [← hwl21]
      show RR _ _ 24 [some (.ref 146), some (.int (nI j)), some (.int (nI 1))] [] (upd g 6 (nI m)) (rf_u A 4 wl21) _
      have hcu := cur_l (g := g) hsh hm6 hl hwl21
      refine rr_nx (pc' := 25) (al' := [some (.ref 146), some (.int (nI j)), some (.int (nI 1))]) (st' := [.ref 146]) d_241_24 (fun _ => rfl) ?_
      refine rr_nx (pc' := 26) (al' := [some (.ref 146), some (.int (nI j)), some (.int (nI 1))]) (st' := [.int (nI 1), .ref 146]) d_241_25 (fun _ => rfl) ?_
      refine rr_pv (as := [.int (nI 1)]) (al0 := [some (.ref 146), some (.int (nI 1)), none, none, none]) (r := []) d_241_26 mo_241 ml_223 mz_212 rfl rfl rfl (Nat.le_of_ble_eq_true rfl) (s_unitOf hcu (by omega)) ?_
      show RR _ _ 29 [some (.ref 146), some (.int (nI j)), some (.int (nI 1))] [.int (unV 1 m c)] (upd g 6 (nI m)) (rf_u A 4 wl21) _
      exact rr_ri d_241_29 mr_241 rfl ⟨rfl, (hW.q (Gsm.rf.u rfl) (Ksm.rf.u rfl)).mo⟩
    · exact absurd (show nI 0 ≤ nI 1 ∧ nI 1 ≤ nI 2 by decide) c14
theorem p_unit2 {S : CS} {G : Nat → Nat → Value} {B : Nat → Nat → Int32} {J : Nat → Nat → Int64} {R : Nat → Nat → Option Nat} {n : Nat} {W : WS} (hW : WC n S G B R W) {j m : Nat} {c : Nat → Nat} (hj : j < 6) (htb : tbK (wK W) j = (m, c)) (h1 : 1 ≤ m) : CR 80 139 0 [some (.ref 2), some (.int (nI j)), some (.int (nI 2))] [] S G B J R (fun r S' G' B' J' R' => r = some (.int (unV 2 m c)) ∧ WC (n + 1) S' G' B' R' W) := by
  have hS := hW.1.1
  have hF := hW.2.1
  have hO := hW.2.2.2.1
  obtain ⟨ta, ka, la, hH, hLk, hl2, hs3, hbd⟩ := hW.2.2.1
  obtain ⟨zt, hzt, ezt⟩ := (hH.2.1 j hj).2
  have ht := hH.ta hj
  have hsh := hH.2.2.2.2.2.2.1 j hj
  rw [show kH (wK W) (kD (wK W)) j = (m, c) from htb] at hsh
  have hok := tb_ok hO hj
  rw [htb] at hok
  have hn : G (ta j) 0 = .int (nI m) := hsh.1
  have hc : TabC B (ta j) m c := hsh.c hok
  have hl : Lat m c := hok.2
  have hm6 : m ≤ 6 := hok.1
  have hyes : hasP (wK W) (nI j) := (has_i hj).mpr (by rw [htb]; exact h1)
  refine cr_nx (pc' := 1) (al' := [some (.ref 2), some (.int (nI j)), some (.int (nI 2))]) (st' := [.ref 2]) d_139_0 (fun _ => rfl) ?_
  refine cr_nx (pc' := 2) (al' := [some (.ref 2), some (.int (nI j)), some (.int (nI 2))]) (st' := [.int (nI j), .ref 2]) d_139_1 (fun _ => rfl) ?_
  refine cr_pv (b := 2) (as := [.int (nI j)]) (al0 := [some (.ref 2), some (.int (nI j))]) (r := []) d_139_2 cw_139 cm_11_137 cz_126 rfl rfl (hS.i (a := 2) (by decide) (by decide)) (by rw [cw_126]; exact (hS.s (a := 2) (by decide) (by decide) rfl)) (by rw [cw_126]; decide) rfl (Nat.le_of_ble_eq_true rfl) (k_has hS hF hH hO) ?_
  show CR _ _ 5 [some (.ref 2), some (.int (nI j)), some (.int (nI 2))] [.int (bI (hasP (wK W) (nI j)))] S G B J R _
  refine cr_beq (t := 17) d_139_5 (by decide) (fun c5 => ?_) (fun c5 => ?_)
  · exact absurd hyes c5
  · refine cr_nx (pc' := 9) (al' := [some (.ref 2), some (.int (nI j)), some (.int (nI 2))]) (st' := [.int (nI 2)]) d_139_8 (fun _ => rfl) ?_
    refine cn_zlt (t := 17) d_139_9 (by decide) (by first | omega | assumption | exact cu_36 (by omega) (cu_lt (by omega) (by omega))) (fun c9 => ?_) (fun c9 => ?_)
    · exact c9.elim
    · refine cr_nx (pc' := 13) (al' := [some (.ref 2), some (.int (nI j)), some (.int (nI 2))]) (st' := [.int (nI 2)]) d_139_12 (fun _ => rfl) ?_
      refine cn_ic (v := 2) d_139_13 (by decide) ?_
      refine cn_cle (t := 19) d_139_14 (by decide) (by first | omega | assumption | exact cu_36 (by omega) (cu_lt (by omega) (by omega))) (by first | omega | assumption | exact cu_36 (by omega) (cu_lt (by omega) (by omega))) (fun c14 => ?_) (fun c14 => ?_)
      · refine cr_nx (pc' := 20) (al' := [some (.ref 2), some (.int (nI j)), some (.int (nI 2))]) (st' := [.ref 2]) d_139_19 (fun _ => rfl) ?_
        refine cr_gf (v := .ref 3) d_139_20 cw_139 cf_11_10 (hS.i (a := 2) (by decide) (by decide)) (hS.s (a := 2) (by decide) (by decide) rfl) (by decide) (fx_2_0 hF) ?_
        refine cr_gf (v := .ref 4) d_139_23 cw_139 cf_11_140 (hS.i (a := 3) (by decide) (by decide)) (hS.s (a := 3) (by decide) (by decide) rfl) (by decide) (fx_3_0 hF) ?_
        refine cr_nx (pc' := 27) (al' := [some (.ref 2), some (.int (nI j)), some (.int (nI 2))]) (st' := [.int (nI j), .ref 4]) d_139_26 (fun _ => rfl) ?_
        refine cr_aa (a := 4) (v := .ref (ta j)) d_139_27 (hS.i (a := 4) (by decide) (by decide)) (by decide) (hS.s (a := 4) (by decide) (by decide) rfl) (by decide) (show j < 6 by first | omega | assumption | exact cu_36 (by omega) (cu_lt (by omega) (by omega))) (show va_rf _ = _ by rw [(hH.2.1 j hj).1]; rfl) ?_
        refine cr_nx (pc' := 29) (al' := [some (.ref 2), some (.int (nI j)), some (.int (nI 2))]) (st' := [.int (nI 2), .ref (ta j)]) d_139_28 (fun _ => rfl) ?_
        refine cn_ic (v := 2) d_139_29 (by decide) ?_
        refine cn_ceq (t := 37) d_139_30 (by decide) (by first | omega | assumption | exact cu_36 (by omega) (cu_lt (by omega) (by omega))) (by first | omega | assumption | exact cu_36 (by omega) (cu_lt (by omega) (by omega))) (fun c30 => ?_) (fun c30 => ?_)
        · refine cn_ic (v := 0) d_139_37 (by decide) ?_
          refine cr_nx (pc' := 39) (al' := [some (.ref 2), some (.int (nI j)), some (.int (nI 2))]) (st' := [.int (nI 2), .int (nI 0), .ref (ta j)]) d_139_38 (fun _ => rfl) ?_
          refine cn_ic (v := 1) d_139_39 (by decide) ?_
          refine cn_ceq (t := 47) d_139_40 (by decide) (by first | omega | assumption | exact cu_36 (by omega) (cu_lt (by omega) (by omega))) (by first | omega | assumption | exact cu_36 (by omega) (cu_lt (by omega) (by omega))) (fun c40 => ?_) (fun c40 => ?_)
          · omega
          · refine cn_ic (v := 1) d_139_43 (by decide) ?_
            refine cr_nx (pc' := 48) (al' := [some (.ref 2), some (.int (nI j)), some (.int (nI 2))]) (st' := [.int (nI 1), .int (nI 0), .ref (ta j)]) d_139_44 (fun _ => rfl) ?_
            refine cr_pv (b := (ta j)) (as := [.int (nI 0), .int (nI 1)]) (al0 := [some (.ref (ta j)), some (.int (nI 0)), some (.int (nI 1)), none, none]) (r := []) d_139_48 cw_139 cm_11_227 cz_107 rfl rfl ht.1 (by rw [cw_107]; exact ht.2.2.1) (by rw [cw_107]; decide) rfl (Nat.le_of_ble_eq_true rfl) (k_unitFrom2 ht hn hc) ?_
            show CR _ _ 51 [some (.ref 2), some (.int (nI j)), some (.int (nI 2))] [.int (unV 2 m c)] S G B J R _
            exact cr_ri d_139_51 cx_139 rfl ⟨rfl, hW.mo⟩
        · omega
      · omega
theorem r_unit2 {g : Nat → Int32} {A : Nat → Nat → Int32} {n : Nat} {W : WS} (hW : WR n g A W) (hO : CoOk (wK W)) {j m : Nat} {c : Nat → Nat} (hj : j < 6) (htb : tbK (wK W) j = (m, c)) (h1 : 1 ≤ m) : RR 80 241 0 [some (.ref 146), some (.int (nI j)), some (.int (nI 2))] [] g A (fun r g' A' => r = some (.int (unV 2 m c)) ∧ WR (n + 1) g' A' W) := by
  have hsh := hW.1.1.1 j hj
  rw [show kH (wK W) (kD (wK W)) j = (m, c) from htb] at hsh
  have hok := tb_ok hO hj
  rw [htb] at hok
  have hk : A 1 (37 * j) = nI m := hsh.1
  have hl : Lat m c := hok.2
  have hm6 : m ≤ 6 := hok.1
  have hyes : isT A (nI j) := (has_r hW hO).mpr ((has_i hj).mpr (by rw [htb]; exact h1))
  refine rr_nx (pc' := 1) (al' := [some (.ref 146), some (.int (nI j)), some (.int (nI 2))]) (st' := [.ref 146]) d_241_0 (fun _ => rfl) ?_
  refine rr_nx (pc' := 2) (al' := [some (.ref 146), some (.int (nI j)), some (.int (nI 2))]) (st' := [.int (nI j), .ref 146]) d_241_1 (fun _ => rfl) ?_
  refine rr_pv (as := [.int (nI j)]) (al0 := [some (.ref 146), some (.int (nI j))]) (r := []) d_241_2 mo_241 ml_124 mz_184 rfl rfl rfl (Nat.le_of_ble_eq_true rfl) (s_isTable (nI j)) ?_
  show RR _ _ 5 [some (.ref 146), some (.int (nI j)), some (.int (nI 2))] [.int (bI (isT A (nI j)))] g A _
  refine rr_beq (t := 17) d_241_5 (by decide) (fun c5 => ?_) (fun c5 => ?_)
  · exact absurd hyes c5
  · refine rr_nx (pc' := 9) (al' := [some (.ref 146), some (.int (nI j)), some (.int (nI 2))]) (st' := [.int (nI 2)]) d_241_8 (fun _ => rfl) ?_
    refine rn_ic (v := 0) d_241_9 (by decide) ?_
    refine rn_ic (v := 2) d_241_10 (by decide) ?_
    refine rr_ps (as := [.int (nI 2), .int (nI 0), .int (nI 2)]) (al0 := [some (.int (nI 2)), some (.int (nI 0)), some (.int (nI 2))]) (r := []) d_241_11 mo_241 ml_106 mz_179 rfl rfl rfl (Nat.le_of_ble_eq_true rfl) (s_lies (nI 2) (nI 0) (nI 2)) ?_
    show RR _ _ 14 [some (.ref 146), some (.int (nI j)), some (.int (nI 2))] [.int (bI ((nI 0) ≤ (nI 2) ∧ (nI 2) ≤ (nI 2)))] g A _
    refine rr_bne (t := 19) d_241_14 (by decide) (fun c14 => ?_) (fun c14 => ?_)
    · refine rr_nx (pc' := 20) (al' := [some (.ref 146), some (.int (nI j)), some (.int (nI 2))]) (st' := [.ref 146]) d_241_19 (fun _ => rfl) ?_
      refine rr_nx (pc' := 21) (al' := [some (.ref 146), some (.int (nI j)), some (.int (nI 2))]) (st' := [.int (nI j), .ref 146]) d_241_20 (fun _ => rfl) ?_
      refine rr_pv (as := [.int (nI j)]) (al0 := [some (.ref 146), some (.int (nI j)), none]) (r := []) d_241_21 mo_241 ml_248 mz_208 rfl rfl rfl (Nat.le_of_ble_eq_true rfl) (s_lays (n := m) hj hm6 hk) ?_
      obtain ⟨wl21, hwl21⟩ : ∃ w_, w_ = rf_f (fun q => A 1 (37 * j + 1 + q)) (A 4) (m * m) := ⟨_, rfl⟩
      rw [← hwl21]
      show RR _ _ 24 [some (.ref 146), some (.int (nI j)), some (.int (nI 2))] [] (upd g 6 (nI m)) (rf_u A 4 wl21) _
      have hcu := cur_l (g := g) hsh hm6 hl hwl21
      refine rr_nx (pc' := 25) (al' := [some (.ref 146), some (.int (nI j)), some (.int (nI 2))]) (st' := [.ref 146]) d_241_24 (fun _ => rfl) ?_
      refine rr_nx (pc' := 26) (al' := [some (.ref 146), some (.int (nI j)), some (.int (nI 2))]) (st' := [.int (nI 2), .ref 146]) d_241_25 (fun _ => rfl) ?_
      refine rr_pv (as := [.int (nI 2)]) (al0 := [some (.ref 146), some (.int (nI 2)), none, none, none]) (r := []) d_241_26 mo_241 ml_223 mz_212 rfl rfl rfl (Nat.le_of_ble_eq_true rfl) (s_unitOf hcu (by omega)) ?_
      show RR _ _ 29 [some (.ref 146), some (.int (nI j)), some (.int (nI 2))] [.int (unV 2 m c)] (upd g 6 (nI m)) (rf_u A 4 wl21) _
      exact rr_ri d_241_29 mr_241 rfl ⟨rfl, (hW.q (Gsm.rf.u rfl) (Ksm.rf.u rfl)).mo⟩
    · exact absurd (show nI 0 ≤ nI 2 ∧ nI 2 ≤ nI 2 by decide) c14
theorem p_unit_n {S : CS} {G : Nat → Nat → Value} {B : Nat → Nat → Int32} {J : Nat → Nat → Int64} {R : Nat → Nat → Option Nat} {n : Nat} {W : WS} (hW : WC n S G B R W) {t : Int32} (hh : ¬ hasP (wK W) t) {w : Int32} : CR 80 139 0 [some (.ref 2), some (.int t), some (.int w)] [] S G B J R (fun r S' G' B' J' R' => r = some (.int (-1)) ∧ WC (n + 1) S' G' B' R' W) := by
  have hS := hW.1.1
  have hF := hW.2.1
  have hO := hW.2.2.2.1
  obtain ⟨ta, ka, la, hH, hLk, hl2, hs3, hbd⟩ := hW.2.2.1
  refine cr_nx (pc' := 1) (al' := [some (.ref 2), some (.int t), some (.int w)]) (st' := [.ref 2]) d_139_0 (fun _ => rfl) ?_
  refine cr_nx (pc' := 2) (al' := [some (.ref 2), some (.int t), some (.int w)]) (st' := [.int t, .ref 2]) d_139_1 (fun _ => rfl) ?_
  refine cr_pv (b := 2) (as := [.int t]) (al0 := [some (.ref 2), some (.int t)]) (r := []) d_139_2 cw_139 cm_11_137 cz_126 rfl rfl (hS.i (a := 2) (by decide) (by decide)) (by rw [cw_126]; exact (hS.s (a := 2) (by decide) (by decide) rfl)) (by rw [cw_126]; decide) rfl (Nat.le_of_ble_eq_true rfl) (k_has hS hF hH hO) ?_
  show CR _ _ 5 [some (.ref 2), some (.int t), some (.int w)] [.int (bI (hasP (wK W) t))] S G B J R _
  refine cr_beq (t := 17) d_139_5 (by decide) (fun c5 => ?_) (fun c5 => ?_)
  · refine cr_nx (pc' := 18) (al' := [some (.ref 2), some (.int t), some (.int w)]) (st' := [.int (-1)]) d_139_17 (fun _ => rfl) ?_
    exact cr_ri d_139_18 cx_139 rfl ⟨rfl, hW.mo⟩
  · exact absurd c5 hh
theorem r_unit_n {g : Nat → Int32} {A : Nat → Nat → Int32} {n : Nat} {W : WS} (hW : WR n g A W) (hO : CoOk (wK W)) {t : Int32} (hh : ¬ hasP (wK W) t) {w : Int32} : RR 80 241 0 [some (.ref 146), some (.int t), some (.int w)] [] g A (fun r g' A' => r = some (.int (-1)) ∧ WR (n + 1) g' A' W) := by
  refine rr_nx (pc' := 1) (al' := [some (.ref 146), some (.int t), some (.int w)]) (st' := [.ref 146]) d_241_0 (fun _ => rfl) ?_
  refine rr_nx (pc' := 2) (al' := [some (.ref 146), some (.int t), some (.int w)]) (st' := [.int t, .ref 146]) d_241_1 (fun _ => rfl) ?_
  refine rr_pv (as := [.int t]) (al0 := [some (.ref 146), some (.int t)]) (r := []) d_241_2 mo_241 ml_124 mz_184 rfl rfl rfl (Nat.le_of_ble_eq_true rfl) (s_isTable t) ?_
  show RR _ _ 5 [some (.ref 146), some (.int t), some (.int w)] [.int (bI (isT A t))] g A _
  refine rr_beq (t := 17) d_241_5 (by decide) (fun c5 => ?_) (fun c5 => ?_)
  · refine rr_nx (pc' := 18) (al' := [some (.ref 146), some (.int t), some (.int w)]) (st' := [.int (-1)]) d_241_17 (fun _ => rfl) ?_
    exact rr_ri d_241_18 mr_241 rfl ⟨rfl, hW.mo⟩
  · exact absurd c5 (fun e_ => hh ((has_r hW hO).mp e_))
theorem T_unit {S : CS} {G : Nat → Nat → Value} {B : Nat → Nat → Int32} {J : Nat → Nat → Int64} {R : Nat → Nat → Option Nat} {g : Nat → Int32} {A : Nat → Nat → Int32} {n : Nat} {W : WS} (hC : WC n S G B R W) (hR : WR n g A W) (hn : n ≤ 10000) {t : Int32} {w : Int32} : Tie n 139 241 [some (.ref 2), some (.int t), some (.int w)] [some (.ref 146), some (.int t), some (.int w)] S G B J R g A W := by
  have hO := hC.2.2.2.1
  by_cases hh : hasP (wK W) t
  · obtain ⟨j, hj, e_, h1⟩ := has_n hh
    subst e_
    obtain ⟨⟨m, c⟩, htb⟩ : ∃ tb, tbK (wK W) j = tb := ⟨_, rfl⟩
    rw [htb] at h1
    by_cases hw : inP w 3
    · obtain ⟨k, hk, e_⟩ := in_n hw
      subst e_
      have hk2 : k = 0 ∨ k = 1 ∨ k = 2 := by omega
      rcases hk2 with rfl | rfl | rfl
      · exact ⟨_, W, p_unit0 hC hj htb h1, r_unit0 hR hO hj htb h1⟩
      · exact ⟨_, W, p_unit1 hC hj htb h1, r_unit1 hR hO hj htb h1⟩
      · exact ⟨_, W, p_unit2 hC hj htb h1, r_unit2 hR hO hj htb h1⟩
    · exact ⟨_, W, p_unitX hC hj htb h1 hw, r_unitX hR hO hj htb h1 hw⟩
  · exact ⟨_, W, p_unit_n hC hh, r_unit_n hR hO hh⟩
theorem p_countsX {S : CS} {G : Nat → Nat → Value} {B : Nat → Nat → Int32} {J : Nat → Nat → Int64} {R : Nat → Nat → Option Nat} {n : Nat} {W : WS} (hW : WC n S G B R W) {j m : Nat} {c : Nat → Nat} (hj : j < 6) (htb : tbK (wK W) j = (m, c)) (h1 : 1 ≤ m) {w : Int32} (hw : ¬ inP w 2) : CR 80 149 0 [some (.ref 2), some (.int (nI j)), some (.int w)] [] S G B J R (fun r S' G' B' J' R' => r = some (.int (-1)) ∧ WC (n + 1) S' G' B' R' W) := by
  have hS := hW.1.1
  have hF := hW.2.1
  have hO := hW.2.2.2.1
  obtain ⟨ta, ka, la, hH, hLk, hl2, hs3, hbd⟩ := hW.2.2.1
  obtain ⟨zt, hzt, ezt⟩ := (hH.2.1 j hj).2
  have ht := hH.ta hj
  have hsh := hH.2.2.2.2.2.2.1 j hj
  rw [show kH (wK W) (kD (wK W)) j = (m, c) from htb] at hsh
  have hok := tb_ok hO hj
  rw [htb] at hok
  have hn : G (ta j) 0 = .int (nI m) := hsh.1
  have hc : TabC B (ta j) m c := hsh.c hok
  have hl : Lat m c := hok.2
  have hm6 : m ≤ 6 := hok.1
  have hyes : hasP (wK W) (nI j) := (has_i hj).mpr (by rw [htb]; exact h1)
  refine cr_nx (pc' := 1) (al' := [some (.ref 2), some (.int (nI j)), some (.int w)]) (st' := [.ref 2]) d_149_0 (fun _ => rfl) ?_
  refine cr_nx (pc' := 2) (al' := [some (.ref 2), some (.int (nI j)), some (.int w)]) (st' := [.int (nI j), .ref 2]) d_149_1 (fun _ => rfl) ?_
  refine cr_pv (b := 2) (as := [.int (nI j)]) (al0 := [some (.ref 2), some (.int (nI j))]) (r := []) d_149_2 cw_149 cm_11_137 cz_126 rfl rfl (hS.i (a := 2) (by decide) (by decide)) (by rw [cw_126]; exact (hS.s (a := 2) (by decide) (by decide) rfl)) (by rw [cw_126]; decide) rfl (Nat.le_of_ble_eq_true rfl) (k_has hS hF hH hO) ?_
  show CR _ _ 5 [some (.ref 2), some (.int (nI j)), some (.int w)] [.int (bI (hasP (wK W) (nI j)))] S G B J R _
  refine cr_bne (t := 10) d_149_5 (by decide) (fun c5 => ?_) (fun c5 => ?_)
  · refine cr_nx (pc' := 11) (al' := [some (.ref 2), some (.int (nI j)), some (.int w)]) (st' := [.int w]) d_149_10 (fun _ => rfl) ?_
    refine cr_ls (off := 51) (t := 62) d_149_11 (by decide) (ls_x hw) (by decide) ?_
    refine cr_nx (pc' := 63) (al' := [some (.ref 2), some (.int (nI j)), some (.int w)]) (st' := [.int (-1)]) d_149_62 (fun _ => rfl) ?_
    exact cr_ri d_149_63 cx_149 rfl ⟨rfl, hW.mo⟩
  · exact absurd hyes c5
theorem r_countsX {g : Nat → Int32} {A : Nat → Nat → Int32} {n : Nat} {W : WS} (hW : WR n g A W) (hO : CoOk (wK W)) {j m : Nat} {c : Nat → Nat} (hj : j < 6) (htb : tbK (wK W) j = (m, c)) (h1 : 1 ≤ m) {w : Int32} (hw : ¬ inP w 2) : RR 80 253 0 [some (.ref 146), some (.int (nI j)), some (.int w), none, none, none] [] g A (fun r g' A' => r = some (.int (-1)) ∧ WR (n + 1) g' A' W) := by
  have hsh := hW.1.1.1 j hj
  rw [show kH (wK W) (kD (wK W)) j = (m, c) from htb] at hsh
  have hok := tb_ok hO hj
  rw [htb] at hok
  have hk : A 1 (37 * j) = nI m := hsh.1
  have hl : Lat m c := hok.2
  have hm6 : m ≤ 6 := hok.1
  have hyes : isT A (nI j) := (has_r hW hO).mpr ((has_i hj).mpr (by rw [htb]; exact h1))
  refine rr_nx (pc' := 1) (al' := [some (.ref 146), some (.int (nI j)), some (.int w), none, none, none]) (st' := [.ref 146]) d_253_0 (fun _ => rfl) ?_
  refine rr_nx (pc' := 2) (al' := [some (.ref 146), some (.int (nI j)), some (.int w), none, none, none]) (st' := [.int (nI j), .ref 146]) d_253_1 (fun _ => rfl) ?_
  refine rr_pv (as := [.int (nI j)]) (al0 := [some (.ref 146), some (.int (nI j))]) (r := []) d_253_2 mo_253 ml_124 mz_184 rfl rfl rfl (Nat.le_of_ble_eq_true rfl) (s_isTable (nI j)) ?_
  show RR _ _ 5 [some (.ref 146), some (.int (nI j)), some (.int w), none, none, none] [.int (bI (isT A (nI j)))] g A _
  refine rr_beq (t := 17) d_253_5 (by decide) (fun c5 => ?_) (fun c5 => ?_)
  · exact absurd hyes c5
  · refine rr_nx (pc' := 9) (al' := [some (.ref 146), some (.int (nI j)), some (.int w), none, none, none]) (st' := [.int w]) d_253_8 (fun _ => rfl) ?_
    refine rn_ic (v := 0) d_253_9 (by decide) ?_
    refine rn_ic (v := 1) d_253_10 (by decide) ?_
    refine rr_ps (as := [.int w, .int (nI 0), .int (nI 1)]) (al0 := [some (.int w), some (.int (nI 0)), some (.int (nI 1))]) (r := []) d_253_11 mo_253 ml_106 mz_179 rfl rfl rfl (Nat.le_of_ble_eq_true rfl) (s_lies w (nI 0) (nI 1)) ?_
    show RR _ _ 14 [some (.ref 146), some (.int (nI j)), some (.int w), none, none, none] [.int (bI ((nI 0) ≤ w ∧ w ≤ (nI 1)))] g A _
    refine rr_bne (t := 19) d_253_14 (by decide) (fun c14 => ?_) (fun c14 => ?_)
    · exact absurd c14 (fun e_ => hw ((in_r (m := 1) (by decide)).mp e_))
    · refine rr_nx (pc' := 18) (al' := [some (.ref 146), some (.int (nI j)), some (.int w), none, none, none]) (st' := [.int (-1)]) d_253_17 (fun _ => rfl) ?_
      exact rr_ri d_253_18 mr_253 rfl ⟨rfl, hW.mo⟩
theorem p_counts0 {S : CS} {G : Nat → Nat → Value} {B : Nat → Nat → Int32} {J : Nat → Nat → Int64} {R : Nat → Nat → Option Nat} {n : Nat} {W : WS} (hW : WC n S G B R W) {j m : Nat} {c : Nat → Nat} (hj : j < 6) (htb : tbK (wK W) j = (m, c)) (h1 : 1 ≤ m) : CR 80 149 0 [some (.ref 2), some (.int (nI j)), some (.int (nI 0))] [] S G B J R (fun r S' G' B' J' R' => r = some (.int (nI (asN m c))) ∧ WC (n + 1) S' G' B' R' W) := by
  have hS := hW.1.1
  have hF := hW.2.1
  have hO := hW.2.2.2.1
  obtain ⟨ta, ka, la, hH, hLk, hl2, hs3, hbd⟩ := hW.2.2.1
  obtain ⟨zt, hzt, ezt⟩ := (hH.2.1 j hj).2
  have ht := hH.ta hj
  have hsh := hH.2.2.2.2.2.2.1 j hj
  rw [show kH (wK W) (kD (wK W)) j = (m, c) from htb] at hsh
  have hok := tb_ok hO hj
  rw [htb] at hok
  have hn : G (ta j) 0 = .int (nI m) := hsh.1
  have hc : TabC B (ta j) m c := hsh.c hok
  have hl : Lat m c := hok.2
  have hm6 : m ≤ 6 := hok.1
  have hyes : hasP (wK W) (nI j) := (has_i hj).mpr (by rw [htb]; exact h1)
  refine cr_nx (pc' := 1) (al' := [some (.ref 2), some (.int (nI j)), some (.int (nI 0))]) (st' := [.ref 2]) d_149_0 (fun _ => rfl) ?_
  refine cr_nx (pc' := 2) (al' := [some (.ref 2), some (.int (nI j)), some (.int (nI 0))]) (st' := [.int (nI j), .ref 2]) d_149_1 (fun _ => rfl) ?_
  refine cr_pv (b := 2) (as := [.int (nI j)]) (al0 := [some (.ref 2), some (.int (nI j))]) (r := []) d_149_2 cw_149 cm_11_137 cz_126 rfl rfl (hS.i (a := 2) (by decide) (by decide)) (by rw [cw_126]; exact (hS.s (a := 2) (by decide) (by decide) rfl)) (by rw [cw_126]; decide) rfl (Nat.le_of_ble_eq_true rfl) (k_has hS hF hH hO) ?_
  show CR _ _ 5 [some (.ref 2), some (.int (nI j)), some (.int (nI 0))] [.int (bI (hasP (wK W) (nI j)))] S G B J R _
  refine cr_bne (t := 10) d_149_5 (by decide) (fun c5 => ?_) (fun c5 => ?_)
  · refine cr_nx (pc' := 11) (al' := [some (.ref 2), some (.int (nI j)), some (.int (nI 0))]) (st' := [.int (nI 0)]) d_149_10 (fun _ => rfl) ?_
    refine cr_ls (off := 25) (t := 36) d_149_11 (by decide) (by decide) (by decide) ?_
    refine cr_nx (pc' := 37) (al' := [some (.ref 2), some (.int (nI j)), some (.int (nI 0))]) (st' := [.ref 2]) d_149_36 (fun _ => rfl) ?_
    refine cr_gf (v := .ref 3) d_149_37 cw_149 cf_11_10 (hS.i (a := 2) (by decide) (by decide)) (hS.s (a := 2) (by decide) (by decide) rfl) (by decide) (fx_2_0 hF) ?_
    refine cr_gf (v := .ref 4) d_149_40 cw_149 cf_11_140 (hS.i (a := 3) (by decide) (by decide)) (hS.s (a := 3) (by decide) (by decide) rfl) (by decide) (fx_3_0 hF) ?_
    refine cr_nx (pc' := 44) (al' := [some (.ref 2), some (.int (nI j)), some (.int (nI 0))]) (st' := [.int (nI j), .ref 4]) d_149_43 (fun _ => rfl) ?_
    refine cr_aa (a := 4) (v := .ref (ta j)) d_149_44 (hS.i (a := 4) (by decide) (by decide)) (by decide) (hS.s (a := 4) (by decide) (by decide) rfl) (by decide) (show j < 6 by first | omega | assumption | exact cu_36 (by omega) (cu_lt (by omega) (by omega))) (show va_rf _ = _ by rw [(hH.2.1 j hj).1]; rfl) ?_
    refine cr_ps (as := [.ref (ta j)]) (al0 := [some (.ref (ta j)), none, none, none, none]) (r := []) d_149_45 cw_149 cm_11_278 (by decide) cz_61 rfl rfl rfl (Nat.le_of_ble_eq_true rfl) (k_joinedAlike ht hn hc) ?_
    show CR _ _ 48 [some (.ref 2), some (.int (nI j)), some (.int (nI 0))] [.int (nI (asN m c))] S G B J R _
    exact cr_ri d_149_48 cx_149 rfl ⟨rfl, hW.mo⟩
  · exact absurd hyes c5
theorem r_counts0 {g : Nat → Int32} {A : Nat → Nat → Int32} {n : Nat} {W : WS} (hW : WR n g A W) (hO : CoOk (wK W)) {j m : Nat} {c : Nat → Nat} (hj : j < 6) (htb : tbK (wK W) j = (m, c)) (h1 : 1 ≤ m) : RR 80 253 0 [some (.ref 146), some (.int (nI j)), some (.int (nI 0)), none, none, none] [] g A (fun r g' A' => r = some (.int (nI (asN m c))) ∧ WR (n + 1) g' A' W) := by
  have hsh := hW.1.1.1 j hj
  rw [show kH (wK W) (kD (wK W)) j = (m, c) from htb] at hsh
  have hok := tb_ok hO hj
  rw [htb] at hok
  have hk : A 1 (37 * j) = nI m := hsh.1
  have hl : Lat m c := hok.2
  have hm6 : m ≤ 6 := hok.1
  have hyes : isT A (nI j) := (has_r hW hO).mpr ((has_i hj).mpr (by rw [htb]; exact h1))
  refine rr_nx (pc' := 1) (al' := [some (.ref 146), some (.int (nI j)), some (.int (nI 0)), none, none, none]) (st' := [.ref 146]) d_253_0 (fun _ => rfl) ?_
  refine rr_nx (pc' := 2) (al' := [some (.ref 146), some (.int (nI j)), some (.int (nI 0)), none, none, none]) (st' := [.int (nI j), .ref 146]) d_253_1 (fun _ => rfl) ?_
  refine rr_pv (as := [.int (nI j)]) (al0 := [some (.ref 146), some (.int (nI j))]) (r := []) d_253_2 mo_253 ml_124 mz_184 rfl rfl rfl (Nat.le_of_ble_eq_true rfl) (s_isTable (nI j)) ?_
  show RR _ _ 5 [some (.ref 146), some (.int (nI j)), some (.int (nI 0)), none, none, none] [.int (bI (isT A (nI j)))] g A _
  refine rr_beq (t := 17) d_253_5 (by decide) (fun c5 => ?_) (fun c5 => ?_)
  · exact absurd hyes c5
  · refine rr_nx (pc' := 9) (al' := [some (.ref 146), some (.int (nI j)), some (.int (nI 0)), none, none, none]) (st' := [.int (nI 0)]) d_253_8 (fun _ => rfl) ?_
    refine rn_ic (v := 0) d_253_9 (by decide) ?_
    refine rn_ic (v := 1) d_253_10 (by decide) ?_
    refine rr_ps (as := [.int (nI 0), .int (nI 0), .int (nI 1)]) (al0 := [some (.int (nI 0)), some (.int (nI 0)), some (.int (nI 1))]) (r := []) d_253_11 mo_253 ml_106 mz_179 rfl rfl rfl (Nat.le_of_ble_eq_true rfl) (s_lies (nI 0) (nI 0) (nI 1)) ?_
    show RR _ _ 14 [some (.ref 146), some (.int (nI j)), some (.int (nI 0)), none, none, none] [.int (bI ((nI 0) ≤ (nI 0) ∧ (nI 0) ≤ (nI 1)))] g A _
    refine rr_bne (t := 19) d_253_14 (by decide) (fun c14 => ?_) (fun c14 => ?_)
    · refine rr_nx (pc' := 20) (al' := [some (.ref 146), some (.int (nI j)), some (.int (nI 0)), none, none, none]) (st' := [.ref 146]) d_253_19 (fun _ => rfl) ?_
      refine rr_nx (pc' := 21) (al' := [some (.ref 146), some (.int (nI j)), some (.int (nI 0)), none, none, none]) (st' := [.int (nI j), .ref 146]) d_253_20 (fun _ => rfl) ?_
      refine rr_pv (as := [.int (nI j)]) (al0 := [some (.ref 146), some (.int (nI j)), none]) (r := []) d_253_21 mo_253 ml_248 mz_208 rfl rfl rfl (Nat.le_of_ble_eq_true rfl) (s_lays (n := m) hj hm6 hk) ?_
      obtain ⟨wl21, hwl21⟩ : ∃ w_, w_ = rf_f (fun q => A 1 (37 * j + 1 + q)) (A 4) (m * m) := ⟨_, rfl⟩
      rw [← hwl21]
      show RR _ _ 24 [some (.ref 146), some (.int (nI j)), some (.int (nI 0)), none, none, none] [] (upd g 6 (nI m)) (rf_u A 4 wl21) _
      have hcu := cur_l (g := g) hsh hm6 hl hwl21
      refine rr_nx (pc' := 25) (al' := [some (.ref 146), some (.int (nI j)), some (.int (nI 0)), none, none, none]) (st' := [.int (nI 0)]) d_253_24 (fun _ => rfl) ?_
      refine rn_ine (t := 33) d_253_25 (by decide) (by first | omega | assumption | exact cu_36 (by omega) (cu_lt (by omega) (by omega))) (fun c25 => ?_) (fun c25 => ?_)
      · omega
      · refine rr_nx (pc' := 29) (al' := [some (.ref 146), some (.int (nI j)), some (.int (nI 0)), none, none, none]) (st' := [.ref 146]) d_253_28 (fun _ => rfl) ?_
        refine rr_pv (as := []) (al0 := [some (.ref 146), none, none, none, none]) (r := []) d_253_29 mo_253 ml_302 mz_254 rfl rfl rfl (Nat.le_of_ble_eq_true rfl) (s_joined hcu) ?_
        show RR _ _ 32 [some (.ref 146), some (.int (nI j)), some (.int (nI 0)), none, none, none] [.int (nI (asN m c))] (upd g 6 (nI m)) (rf_u A 4 wl21) _
        exact rr_ri d_253_32 mr_253 rfl ⟨rfl, (hW.q (Gsm.rf.u rfl) (Ksm.rf.u rfl)).mo⟩
    · exact absurd (show nI 0 ≤ nI 0 ∧ nI 0 ≤ nI 1 by decide) c14
theorem p_counts1 {S : CS} {G : Nat → Nat → Value} {B : Nat → Nat → Int32} {J : Nat → Nat → Int64} {R : Nat → Nat → Option Nat} {n : Nat} {W : WS} (hW : WC n S G B R W) {j m : Nat} {c : Nat → Nat} (hj : j < 6) (htb : tbK (wK W) j = (m, c)) (h1 : 1 ≤ m) : CR 80 149 0 [some (.ref 2), some (.int (nI j)), some (.int (nI 1))] [] S G B J R (fun r S' G' B' J' R' => r = some (.int (nI (coN m c))) ∧ WC (n + 1) S' G' B' R' W) := by
  have hS := hW.1.1
  have hF := hW.2.1
  have hO := hW.2.2.2.1
  obtain ⟨ta, ka, la, hH, hLk, hl2, hs3, hbd⟩ := hW.2.2.1
  obtain ⟨zt, hzt, ezt⟩ := (hH.2.1 j hj).2
  have ht := hH.ta hj
  have hsh := hH.2.2.2.2.2.2.1 j hj
  rw [show kH (wK W) (kD (wK W)) j = (m, c) from htb] at hsh
  have hok := tb_ok hO hj
  rw [htb] at hok
  have hn : G (ta j) 0 = .int (nI m) := hsh.1
  have hc : TabC B (ta j) m c := hsh.c hok
  have hl : Lat m c := hok.2
  have hm6 : m ≤ 6 := hok.1
  have hyes : hasP (wK W) (nI j) := (has_i hj).mpr (by rw [htb]; exact h1)
  refine cr_nx (pc' := 1) (al' := [some (.ref 2), some (.int (nI j)), some (.int (nI 1))]) (st' := [.ref 2]) d_149_0 (fun _ => rfl) ?_
  refine cr_nx (pc' := 2) (al' := [some (.ref 2), some (.int (nI j)), some (.int (nI 1))]) (st' := [.int (nI j), .ref 2]) d_149_1 (fun _ => rfl) ?_
  refine cr_pv (b := 2) (as := [.int (nI j)]) (al0 := [some (.ref 2), some (.int (nI j))]) (r := []) d_149_2 cw_149 cm_11_137 cz_126 rfl rfl (hS.i (a := 2) (by decide) (by decide)) (by rw [cw_126]; exact (hS.s (a := 2) (by decide) (by decide) rfl)) (by rw [cw_126]; decide) rfl (Nat.le_of_ble_eq_true rfl) (k_has hS hF hH hO) ?_
  show CR _ _ 5 [some (.ref 2), some (.int (nI j)), some (.int (nI 1))] [.int (bI (hasP (wK W) (nI j)))] S G B J R _
  refine cr_bne (t := 10) d_149_5 (by decide) (fun c5 => ?_) (fun c5 => ?_)
  · refine cr_nx (pc' := 11) (al' := [some (.ref 2), some (.int (nI j)), some (.int (nI 1))]) (st' := [.int (nI 1)]) d_149_10 (fun _ => rfl) ?_
    refine cr_ls (off := 38) (t := 49) d_149_11 (by decide) (by decide) (by decide) ?_
    refine cr_nx (pc' := 50) (al' := [some (.ref 2), some (.int (nI j)), some (.int (nI 1))]) (st' := [.ref 2]) d_149_49 (fun _ => rfl) ?_
    refine cr_gf (v := .ref 3) d_149_50 cw_149 cf_11_10 (hS.i (a := 2) (by decide) (by decide)) (hS.s (a := 2) (by decide) (by decide) rfl) (by decide) (fx_2_0 hF) ?_
    refine cr_gf (v := .ref 4) d_149_53 cw_149 cf_11_140 (hS.i (a := 3) (by decide) (by decide)) (hS.s (a := 3) (by decide) (by decide) rfl) (by decide) (fx_3_0 hF) ?_
    refine cr_nx (pc' := 57) (al' := [some (.ref 2), some (.int (nI j)), some (.int (nI 1))]) (st' := [.int (nI j), .ref 4]) d_149_56 (fun _ => rfl) ?_
    refine cr_aa (a := 4) (v := .ref (ta j)) d_149_57 (hS.i (a := 4) (by decide) (by decide)) (by decide) (hS.s (a := 4) (by decide) (by decide) rfl) (by decide) (show j < 6 by first | omega | assumption | exact cu_36 (by omega) (cu_lt (by omega) (by omega))) (show va_rf _ = _ by rw [(hH.2.1 j hj).1]; rfl) ?_
    refine cr_ps (as := [.ref (ta j)]) (al0 := [some (.ref (ta j)), none, none, none]) (r := []) d_149_58 cw_149 cm_11_282 (by decide) cz_62 rfl rfl rfl (Nat.le_of_ble_eq_true rfl) (k_commuting ht hn hc) ?_
    show CR _ _ 61 [some (.ref 2), some (.int (nI j)), some (.int (nI 1))] [.int (nI (coN m c))] S G B J R _
    exact cr_ri d_149_61 cx_149 rfl ⟨rfl, hW.mo⟩
  · exact absurd hyes c5
theorem r_counts1 {g : Nat → Int32} {A : Nat → Nat → Int32} {n : Nat} {W : WS} (hW : WR n g A W) (hO : CoOk (wK W)) {j m : Nat} {c : Nat → Nat} (hj : j < 6) (htb : tbK (wK W) j = (m, c)) (h1 : 1 ≤ m) : RR 80 253 0 [some (.ref 146), some (.int (nI j)), some (.int (nI 1)), none, none, none] [] g A (fun r g' A' => r = some (.int (nI (coN m c))) ∧ WR (n + 1) g' A' W) := by
  have hsh := hW.1.1.1 j hj
  rw [show kH (wK W) (kD (wK W)) j = (m, c) from htb] at hsh
  have hok := tb_ok hO hj
  rw [htb] at hok
  have hk : A 1 (37 * j) = nI m := hsh.1
  have hl : Lat m c := hok.2
  have hm6 : m ≤ 6 := hok.1
  have hyes : isT A (nI j) := (has_r hW hO).mpr ((has_i hj).mpr (by rw [htb]; exact h1))
  refine rr_nx (pc' := 1) (al' := [some (.ref 146), some (.int (nI j)), some (.int (nI 1)), none, none, none]) (st' := [.ref 146]) d_253_0 (fun _ => rfl) ?_
  refine rr_nx (pc' := 2) (al' := [some (.ref 146), some (.int (nI j)), some (.int (nI 1)), none, none, none]) (st' := [.int (nI j), .ref 146]) d_253_1 (fun _ => rfl) ?_
  refine rr_pv (as := [.int (nI j)]) (al0 := [some (.ref 146), some (.int (nI j))]) (r := []) d_253_2 mo_253 ml_124 mz_184 rfl rfl rfl (Nat.le_of_ble_eq_true rfl) (s_isTable (nI j)) ?_
  show RR _ _ 5 [some (.ref 146), some (.int (nI j)), some (.int (nI 1)), none, none, none] [.int (bI (isT A (nI j)))] g A _
  refine rr_beq (t := 17) d_253_5 (by decide) (fun c5 => ?_) (fun c5 => ?_)
  · exact absurd hyes c5
  · refine rr_nx (pc' := 9) (al' := [some (.ref 146), some (.int (nI j)), some (.int (nI 1)), none, none, none]) (st' := [.int (nI 1)]) d_253_8 (fun _ => rfl) ?_
    refine rn_ic (v := 0) d_253_9 (by decide) ?_
    refine rn_ic (v := 1) d_253_10 (by decide) ?_
    refine rr_ps (as := [.int (nI 1), .int (nI 0), .int (nI 1)]) (al0 := [some (.int (nI 1)), some (.int (nI 0)), some (.int (nI 1))]) (r := []) d_253_11 mo_253 ml_106 mz_179 rfl rfl rfl (Nat.le_of_ble_eq_true rfl) (s_lies (nI 1) (nI 0) (nI 1)) ?_
    show RR _ _ 14 [some (.ref 146), some (.int (nI j)), some (.int (nI 1)), none, none, none] [.int (bI ((nI 0) ≤ (nI 1) ∧ (nI 1) ≤ (nI 1)))] g A _
    refine rr_bne (t := 19) d_253_14 (by decide) (fun c14 => ?_) (fun c14 => ?_)
    · refine rr_nx (pc' := 20) (al' := [some (.ref 146), some (.int (nI j)), some (.int (nI 1)), none, none, none]) (st' := [.ref 146]) d_253_19 (fun _ => rfl) ?_
      refine rr_nx (pc' := 21) (al' := [some (.ref 146), some (.int (nI j)), some (.int (nI 1)), none, none, none]) (st' := [.int (nI j), .ref 146]) d_253_20 (fun _ => rfl) ?_
      refine rr_pv (as := [.int (nI j)]) (al0 := [some (.ref 146), some (.int (nI j)), none]) (r := []) d_253_21 mo_253 ml_248 mz_208 rfl rfl rfl (Nat.le_of_ble_eq_true rfl) (s_lays (n := m) hj hm6 hk) ?_
      obtain ⟨wl21, hwl21⟩ : ∃ w_, w_ = rf_f (fun q => A 1 (37 * j + 1 + q)) (A 4) (m * m) := ⟨_, rfl⟩
      rw [← hwl21]
      show RR _ _ 24 [some (.ref 146), some (.int (nI j)), some (.int (nI 1)), none, none, none] [] (upd g 6 (nI m)) (rf_u A 4 wl21) _
      have hcu := cur_l (g := g) hsh hm6 hl hwl21
      refine rr_nx (pc' := 25) (al' := [some (.ref 146), some (.int (nI j)), some (.int (nI 1)), none, none, none]) (st' := [.int (nI 1)]) d_253_24 (fun _ => rfl) ?_
      refine rn_ine (t := 33) d_253_25 (by decide) (by first | omega | assumption | exact cu_36 (by omega) (cu_lt (by omega) (by omega))) (fun c25 => ?_) (fun c25 => ?_)
      · refine rr_dr (al1 := [some (.ref 146), none, none, none, none, none]) (le_s (le_d rfl (le_d rfl (le_s (le_s (le_s (le_n))))))) ?_
        refine rr_cq (rr_wk (by decide) (s_counts_33 hcu)) ?_
        rintro r_ g_ A_ ⟨rfl, rfl, rfl⟩
        exact ⟨rfl, (hW.q (Gsm.rf.u rfl) (Ksm.rf.u rfl)).mo⟩
      · omega
    · exact absurd (show nI 0 ≤ nI 1 ∧ nI 1 ≤ nI 1 by decide) c14
theorem p_counts_n {S : CS} {G : Nat → Nat → Value} {B : Nat → Nat → Int32} {J : Nat → Nat → Int64} {R : Nat → Nat → Option Nat} {n : Nat} {W : WS} (hW : WC n S G B R W) {t : Int32} (hh : ¬ hasP (wK W) t) {w : Int32} : CR 80 149 0 [some (.ref 2), some (.int t), some (.int w)] [] S G B J R (fun r S' G' B' J' R' => r = some (.int (-1)) ∧ WC (n + 1) S' G' B' R' W) := by
  have hS := hW.1.1
  have hF := hW.2.1
  have hO := hW.2.2.2.1
  obtain ⟨ta, ka, la, hH, hLk, hl2, hs3, hbd⟩ := hW.2.2.1
  refine cr_nx (pc' := 1) (al' := [some (.ref 2), some (.int t), some (.int w)]) (st' := [.ref 2]) d_149_0 (fun _ => rfl) ?_
  refine cr_nx (pc' := 2) (al' := [some (.ref 2), some (.int t), some (.int w)]) (st' := [.int t, .ref 2]) d_149_1 (fun _ => rfl) ?_
  refine cr_pv (b := 2) (as := [.int t]) (al0 := [some (.ref 2), some (.int t)]) (r := []) d_149_2 cw_149 cm_11_137 cz_126 rfl rfl (hS.i (a := 2) (by decide) (by decide)) (by rw [cw_126]; exact (hS.s (a := 2) (by decide) (by decide) rfl)) (by rw [cw_126]; decide) rfl (Nat.le_of_ble_eq_true rfl) (k_has hS hF hH hO) ?_
  show CR _ _ 5 [some (.ref 2), some (.int t), some (.int w)] [.int (bI (hasP (wK W) t))] S G B J R _
  refine cr_bne (t := 10) d_149_5 (by decide) (fun c5 => ?_) (fun c5 => ?_)
  · exact absurd c5 hh
  · refine cr_nx (pc' := 9) (al' := [some (.ref 2), some (.int t), some (.int w)]) (st' := [.int (-1)]) d_149_8 (fun _ => rfl) ?_
    exact cr_ri d_149_9 cx_149 rfl ⟨rfl, hW.mo⟩
theorem r_counts_n {g : Nat → Int32} {A : Nat → Nat → Int32} {n : Nat} {W : WS} (hW : WR n g A W) (hO : CoOk (wK W)) {t : Int32} (hh : ¬ hasP (wK W) t) {w : Int32} : RR 80 253 0 [some (.ref 146), some (.int t), some (.int w), none, none, none] [] g A (fun r g' A' => r = some (.int (-1)) ∧ WR (n + 1) g' A' W) := by
  refine rr_nx (pc' := 1) (al' := [some (.ref 146), some (.int t), some (.int w), none, none, none]) (st' := [.ref 146]) d_253_0 (fun _ => rfl) ?_
  refine rr_nx (pc' := 2) (al' := [some (.ref 146), some (.int t), some (.int w), none, none, none]) (st' := [.int t, .ref 146]) d_253_1 (fun _ => rfl) ?_
  refine rr_pv (as := [.int t]) (al0 := [some (.ref 146), some (.int t)]) (r := []) d_253_2 mo_253 ml_124 mz_184 rfl rfl rfl (Nat.le_of_ble_eq_true rfl) (s_isTable t) ?_
  show RR _ _ 5 [some (.ref 146), some (.int t), some (.int w), none, none, none] [.int (bI (isT A t))] g A _
  refine rr_beq (t := 17) d_253_5 (by decide) (fun c5 => ?_) (fun c5 => ?_)
  · refine rr_nx (pc' := 18) (al' := [some (.ref 146), some (.int t), some (.int w), none, none, none]) (st' := [.int (-1)]) d_253_17 (fun _ => rfl) ?_
    exact rr_ri d_253_18 mr_253 rfl ⟨rfl, hW.mo⟩
  · exact absurd c5 (fun e_ => hh ((has_r hW hO).mp e_))
theorem T_counts {S : CS} {G : Nat → Nat → Value} {B : Nat → Nat → Int32} {J : Nat → Nat → Int64} {R : Nat → Nat → Option Nat} {g : Nat → Int32} {A : Nat → Nat → Int32} {n : Nat} {W : WS} (hC : WC n S G B R W) (hR : WR n g A W) (hn : n ≤ 10000) {t : Int32} {w : Int32} : Tie n 149 253 [some (.ref 2), some (.int t), some (.int w)] [some (.ref 146), some (.int t), some (.int w), none, none, none] S G B J R g A W := by
  have hO := hC.2.2.2.1
  by_cases hh : hasP (wK W) t
  · obtain ⟨j, hj, e_, h1⟩ := has_n hh
    subst e_
    obtain ⟨⟨m, c⟩, htb⟩ : ∃ tb, tbK (wK W) j = tb := ⟨_, rfl⟩
    rw [htb] at h1
    by_cases hw : inP w 2
    · obtain ⟨k, hk, e_⟩ := in_n hw
      subst e_
      have hk2 : k = 0 ∨ k = 1 := by omega
      rcases hk2 with rfl | rfl
      · exact ⟨_, W, p_counts0 hC hj htb h1, r_counts0 hR hO hj htb h1⟩
      · exact ⟨_, W, p_counts1 hC hj htb h1, r_counts1 hR hO hj htb h1⟩
    · exact ⟨_, W, p_countsX hC hj htb h1 hw, r_countsX hR hO hj htb h1 hw⟩
  · exact ⟨_, W, p_counts_n hC hh, r_counts_n hR hO hh⟩
theorem p_makersX {S : CS} {G : Nat → Nat → Value} {B : Nat → Nat → Int32} {J : Nat → Nat → Int64} {R : Nat → Nat → Option Nat} {n : Nat} {W : WS} (hW : WC n S G B R W) {j m : Nat} {c : Nat → Nat} (hj : j < 6) (htb : tbK (wK W) j = (m, c)) (h1 : 1 ≤ m) {w : Int32} (hw : ¬ inP w 2) : CR 80 152 0 [some (.ref 2), some (.int (nI j)), some (.int w), none] [] S G B J R (fun r S' G' B' J' R' => r = some (.int (-1)) ∧ WC (n + 1) S' G' B' R' W) := by
  have hS := hW.1.1
  have hF := hW.2.1
  have hO := hW.2.2.2.1
  obtain ⟨ta, ka, la, hH, hLk, hl2, hs3, hbd⟩ := hW.2.2.1
  obtain ⟨zt, hzt, ezt⟩ := (hH.2.1 j hj).2
  have ht := hH.ta hj
  have hsh := hH.2.2.2.2.2.2.1 j hj
  rw [show kH (wK W) (kD (wK W)) j = (m, c) from htb] at hsh
  have hok := tb_ok hO hj
  rw [htb] at hok
  have hn : G (ta j) 0 = .int (nI m) := hsh.1
  have hc : TabC B (ta j) m c := hsh.c hok
  have hl : Lat m c := hok.2
  have hm6 : m ≤ 6 := hok.1
  have hyes : hasP (wK W) (nI j) := (has_i hj).mpr (by rw [htb]; exact h1)
  refine cr_nx (pc' := 1) (al' := [some (.ref 2), some (.int (nI j)), some (.int w), none]) (st' := [.ref 2]) d_152_0 (fun _ => rfl) ?_
  refine cr_nx (pc' := 2) (al' := [some (.ref 2), some (.int (nI j)), some (.int w), none]) (st' := [.int (nI j), .ref 2]) d_152_1 (fun _ => rfl) ?_
  refine cr_pv (b := 2) (as := [.int (nI j)]) (al0 := [some (.ref 2), some (.int (nI j))]) (r := []) d_152_2 cw_152 cm_11_137 cz_126 rfl rfl (hS.i (a := 2) (by decide) (by decide)) (by rw [cw_126]; exact (hS.s (a := 2) (by decide) (by decide) rfl)) (by rw [cw_126]; decide) rfl (Nat.le_of_ble_eq_true rfl) (k_has hS hF hH hO) ?_
  show CR _ _ 5 [some (.ref 2), some (.int (nI j)), some (.int w), none] [.int (bI (hasP (wK W) (nI j)))] S G B J R _
  refine cr_beq (t := 17) d_152_5 (by decide) (fun c5 => ?_) (fun c5 => ?_)
  · exact absurd hyes c5
  · refine cr_nx (pc' := 9) (al' := [some (.ref 2), some (.int (nI j)), some (.int w), none]) (st' := [.int w]) d_152_8 (fun _ => rfl) ?_
    refine cr_ilt (t := 17) d_152_9 (by decide) (fun c9 => ?_) (fun c9 => ?_)
    · refine cr_nx (pc' := 18) (al' := [some (.ref 2), some (.int (nI j)), some (.int w), none]) (st' := [.int (-1)]) d_152_17 (fun _ => rfl) ?_
      exact cr_ri d_152_18 cx_152 rfl ⟨rfl, hW.mo⟩
    · refine cr_nx (pc' := 13) (al' := [some (.ref 2), some (.int (nI j)), some (.int w), none]) (st' := [.int w]) d_152_12 (fun _ => rfl) ?_
      refine cn_ic (v := 1) d_152_13 (by decide) ?_
      refine cr_cle (t := 19) d_152_14 (by decide) (fun c14 => ?_) (fun c14 => ?_)
      · exact absurd (show inP w 2 from ⟨by rw [i_lt0] at c9; omega, by rw [i_Nle (by decide)] at c14; omega⟩) hw
      · refine cr_nx (pc' := 18) (al' := [some (.ref 2), some (.int (nI j)), some (.int w), none]) (st' := [.int (-1)]) d_152_17 (fun _ => rfl) ?_
        exact cr_ri d_152_18 cx_152 rfl ⟨rfl, hW.mo⟩
theorem r_makersX {g : Nat → Int32} {A : Nat → Nat → Int32} {n : Nat} {W : WS} (hW : WR n g A W) (hO : CoOk (wK W)) {j m : Nat} {c : Nat → Nat} (hj : j < 6) (htb : tbK (wK W) j = (m, c)) (h1 : 1 ≤ m) {w : Int32} (hw : ¬ inP w 2) : RR 80 250 0 [some (.ref 146), some (.int (nI j)), some (.int w), none, none] [] g A (fun r g' A' => r = some (.int (-1)) ∧ WR (n + 1) g' A' W) := by
  have hsh := hW.1.1.1 j hj
  rw [show kH (wK W) (kD (wK W)) j = (m, c) from htb] at hsh
  have hok := tb_ok hO hj
  rw [htb] at hok
  have hk : A 1 (37 * j) = nI m := hsh.1
  have hl : Lat m c := hok.2
  have hm6 : m ≤ 6 := hok.1
  have hyes : isT A (nI j) := (has_r hW hO).mpr ((has_i hj).mpr (by rw [htb]; exact h1))
  refine rr_nx (pc' := 1) (al' := [some (.ref 146), some (.int (nI j)), some (.int w), none, none]) (st' := [.ref 146]) d_250_0 (fun _ => rfl) ?_
  refine rr_nx (pc' := 2) (al' := [some (.ref 146), some (.int (nI j)), some (.int w), none, none]) (st' := [.int (nI j), .ref 146]) d_250_1 (fun _ => rfl) ?_
  refine rr_pv (as := [.int (nI j)]) (al0 := [some (.ref 146), some (.int (nI j))]) (r := []) d_250_2 mo_250 ml_124 mz_184 rfl rfl rfl (Nat.le_of_ble_eq_true rfl) (s_isTable (nI j)) ?_
  show RR _ _ 5 [some (.ref 146), some (.int (nI j)), some (.int w), none, none] [.int (bI (isT A (nI j)))] g A _
  refine rr_beq (t := 17) d_250_5 (by decide) (fun c5 => ?_) (fun c5 => ?_)
  · exact absurd hyes c5
  · refine rr_nx (pc' := 9) (al' := [some (.ref 146), some (.int (nI j)), some (.int w), none, none]) (st' := [.int w]) d_250_8 (fun _ => rfl) ?_
    refine rn_ic (v := 0) d_250_9 (by decide) ?_
    refine rn_ic (v := 1) d_250_10 (by decide) ?_
    refine rr_ps (as := [.int w, .int (nI 0), .int (nI 1)]) (al0 := [some (.int w), some (.int (nI 0)), some (.int (nI 1))]) (r := []) d_250_11 mo_250 ml_106 mz_179 rfl rfl rfl (Nat.le_of_ble_eq_true rfl) (s_lies w (nI 0) (nI 1)) ?_
    show RR _ _ 14 [some (.ref 146), some (.int (nI j)), some (.int w), none, none] [.int (bI ((nI 0) ≤ w ∧ w ≤ (nI 1)))] g A _
    refine rr_bne (t := 19) d_250_14 (by decide) (fun c14 => ?_) (fun c14 => ?_)
    · exact absurd c14 (fun e_ => hw ((in_r (m := 1) (by decide)).mp e_))
    · refine rr_nx (pc' := 18) (al' := [some (.ref 146), some (.int (nI j)), some (.int w), none, none]) (st' := [.int (-1)]) d_250_17 (fun _ => rfl) ?_
      exact rr_ri d_250_18 mr_250 rfl ⟨rfl, hW.mo⟩
theorem p_makers0 {S : CS} {G : Nat → Nat → Value} {B : Nat → Nat → Int32} {J : Nat → Nat → Int64} {R : Nat → Nat → Option Nat} {n : Nat} {W : WS} (hW : WC n S G B R W) {j m : Nat} {c : Nat → Nat} (hj : j < 6) (htb : tbK (wK W) j = (m, c)) (h1 : 1 ≤ m) : CR 80 152 0 [some (.ref 2), some (.int (nI j)), some (.int (nI 0)), none] [] S G B J R (fun r S' G' B' J' R' => r = some (.int (nI (if 0 = 0 then onN (mkN m c) else mkN m c))) ∧ WC (n + 1) S' G' B' R' W) := by
  have hS := hW.1.1
  have hF := hW.2.1
  have hO := hW.2.2.2.1
  obtain ⟨ta, ka, la, hH, hLk, hl2, hs3, hbd⟩ := hW.2.2.1
  obtain ⟨zt, hzt, ezt⟩ := (hH.2.1 j hj).2
  have ht := hH.ta hj
  have hsh := hH.2.2.2.2.2.2.1 j hj
  rw [show kH (wK W) (kD (wK W)) j = (m, c) from htb] at hsh
  have hok := tb_ok hO hj
  rw [htb] at hok
  have hn : G (ta j) 0 = .int (nI m) := hsh.1
  have hc : TabC B (ta j) m c := hsh.c hok
  have hl : Lat m c := hok.2
  have hm6 : m ≤ 6 := hok.1
  have hyes : hasP (wK W) (nI j) := (has_i hj).mpr (by rw [htb]; exact h1)
  refine cr_nx (pc' := 1) (al' := [some (.ref 2), some (.int (nI j)), some (.int (nI 0)), none]) (st' := [.ref 2]) d_152_0 (fun _ => rfl) ?_
  refine cr_nx (pc' := 2) (al' := [some (.ref 2), some (.int (nI j)), some (.int (nI 0)), none]) (st' := [.int (nI j), .ref 2]) d_152_1 (fun _ => rfl) ?_
  refine cr_pv (b := 2) (as := [.int (nI j)]) (al0 := [some (.ref 2), some (.int (nI j))]) (r := []) d_152_2 cw_152 cm_11_137 cz_126 rfl rfl (hS.i (a := 2) (by decide) (by decide)) (by rw [cw_126]; exact (hS.s (a := 2) (by decide) (by decide) rfl)) (by rw [cw_126]; decide) rfl (Nat.le_of_ble_eq_true rfl) (k_has hS hF hH hO) ?_
  show CR _ _ 5 [some (.ref 2), some (.int (nI j)), some (.int (nI 0)), none] [.int (bI (hasP (wK W) (nI j)))] S G B J R _
  refine cr_beq (t := 17) d_152_5 (by decide) (fun c5 => ?_) (fun c5 => ?_)
  · exact absurd hyes c5
  · refine cr_nx (pc' := 9) (al' := [some (.ref 2), some (.int (nI j)), some (.int (nI 0)), none]) (st' := [.int (nI 0)]) d_152_8 (fun _ => rfl) ?_
    refine cn_zlt (t := 17) d_152_9 (by decide) (by first | omega | assumption | exact cu_36 (by omega) (cu_lt (by omega) (by omega))) (fun c9 => ?_) (fun c9 => ?_)
    · exact c9.elim
    · refine cr_nx (pc' := 13) (al' := [some (.ref 2), some (.int (nI j)), some (.int (nI 0)), none]) (st' := [.int (nI 0)]) d_152_12 (fun _ => rfl) ?_
      refine cn_ic (v := 1) d_152_13 (by decide) ?_
      refine cn_cle (t := 19) d_152_14 (by decide) (by first | omega | assumption | exact cu_36 (by omega) (cu_lt (by omega) (by omega))) (by first | omega | assumption | exact cu_36 (by omega) (cu_lt (by omega) (by omega))) (fun c14 => ?_) (fun c14 => ?_)
      · refine cr_nx (pc' := 20) (al' := [some (.ref 2), some (.int (nI j)), some (.int (nI 0)), none]) (st' := [.ref 2]) d_152_19 (fun _ => rfl) ?_
        refine cr_gf (v := .ref 3) d_152_20 cw_152 cf_11_10 (hS.i (a := 2) (by decide) (by decide)) (hS.s (a := 2) (by decide) (by decide) rfl) (by decide) (fx_2_0 hF) ?_
        refine cr_gf (v := .ref 4) d_152_23 cw_152 cf_11_140 (hS.i (a := 3) (by decide) (by decide)) (hS.s (a := 3) (by decide) (by decide) rfl) (by decide) (fx_3_0 hF) ?_
        refine cr_nx (pc' := 27) (al' := [some (.ref 2), some (.int (nI j)), some (.int (nI 0)), none]) (st' := [.int (nI j), .ref 4]) d_152_26 (fun _ => rfl) ?_
        refine cr_aa (a := 4) (v := .ref (ta j)) d_152_27 (hS.i (a := 4) (by decide) (by decide)) (by decide) (hS.s (a := 4) (by decide) (by decide) rfl) (by decide) (show j < 6 by first | omega | assumption | exact cu_36 (by omega) (cu_lt (by omega) (by omega))) (show va_rf _ = _ by rw [(hH.2.1 j hj).1]; rfl) ?_
        refine cr_ps (as := [.ref (ta j)]) (al0 := [some (.ref (ta j)), none, none, none, none]) (r := []) d_152_28 cw_152 cm_11_295 (by decide) cz_65 rfl rfl rfl (Nat.le_of_ble_eq_true rfl) (k_fewestMakers ht hn hc (by omega)) ?_
        show CR _ _ 31 [some (.ref 2), some (.int (nI j)), some (.int (nI 0)), none] [.int (nI (mkN m c))] S G B J R _
        have b28 := mkN_lt (c := c) (by omega) (show 1 ≤ m by omega) (fun q hq => (hc.2 q hq).2)
        refine cr_nx (pc' := 32) (al' := [some (.ref 2), some (.int (nI j)), some (.int (nI 0)), some (.int (nI (mkN m c)))]) (st' := []) d_152_31 (fun _ => rfl) ?_
        refine cr_nx (pc' := 33) (al' := [some (.ref 2), some (.int (nI j)), some (.int (nI 0)), some (.int (nI (mkN m c)))]) (st' := [.int (nI 0)]) d_152_32 (fun _ => rfl) ?_
        refine cn_ine (t := 43) d_152_33 (by decide) (by first | omega | assumption | exact cu_36 (by omega) (cu_lt (by omega) (by omega))) (fun c33 => ?_) (fun c33 => ?_)
        · omega
        · refine cr_nx (pc' := 37) (al' := [some (.ref 2), some (.int (nI j)), some (.int (nI 0)), some (.int (nI (mkN m c)))]) (st' := [.int (nI (mkN m c))]) d_152_36 (fun _ => rfl) ?_
          refine cr_ps (as := [.int (nI (mkN m c))]) (al0 := [some (.int (nI (mkN m c)))]) (r := []) d_152_37 cw_152 cm_11_181 (by decide) cz_290 rfl rfl rfl (Nat.le_of_ble_eq_true rfl) (k_bitCount (by omega)) ?_
          show CR _ _ 40 [some (.ref 2), some (.int (nI j)), some (.int (nI 0)), some (.int (nI (mkN m c)))] [.int (nI (onN (mkN m c)))] S G B J R _
          have b37 := onN_16 (mkN m c)
          refine cr_nx (pc' := 44) (al' := [some (.ref 2), some (.int (nI j)), some (.int (nI 0)), some (.int (nI (mkN m c)))]) (st' := [.int (nI (onN (mkN m c)))]) d_152_40 (fun _ => rfl) ?_
          exact cr_ri d_152_44 cx_152 rfl ⟨rfl, hW.mo⟩
      · omega
theorem r_makers0 {g : Nat → Int32} {A : Nat → Nat → Int32} {n : Nat} {W : WS} (hW : WR n g A W) (hO : CoOk (wK W)) {j m : Nat} {c : Nat → Nat} (hj : j < 6) (htb : tbK (wK W) j = (m, c)) (h1 : 1 ≤ m) : RR 80 250 0 [some (.ref 146), some (.int (nI j)), some (.int (nI 0)), none, none] [] g A (fun r g' A' => r = some (.int (nI (if 0 = 0 then onN (mkN m c) else mkN m c))) ∧ WR (n + 1) g' A' W) := by
  have hsh := hW.1.1.1 j hj
  rw [show kH (wK W) (kD (wK W)) j = (m, c) from htb] at hsh
  have hok := tb_ok hO hj
  rw [htb] at hok
  have hk : A 1 (37 * j) = nI m := hsh.1
  have hl : Lat m c := hok.2
  have hm6 : m ≤ 6 := hok.1
  have hyes : isT A (nI j) := (has_r hW hO).mpr ((has_i hj).mpr (by rw [htb]; exact h1))
  refine rr_nx (pc' := 1) (al' := [some (.ref 146), some (.int (nI j)), some (.int (nI 0)), none, none]) (st' := [.ref 146]) d_250_0 (fun _ => rfl) ?_
  refine rr_nx (pc' := 2) (al' := [some (.ref 146), some (.int (nI j)), some (.int (nI 0)), none, none]) (st' := [.int (nI j), .ref 146]) d_250_1 (fun _ => rfl) ?_
  refine rr_pv (as := [.int (nI j)]) (al0 := [some (.ref 146), some (.int (nI j))]) (r := []) d_250_2 mo_250 ml_124 mz_184 rfl rfl rfl (Nat.le_of_ble_eq_true rfl) (s_isTable (nI j)) ?_
  show RR _ _ 5 [some (.ref 146), some (.int (nI j)), some (.int (nI 0)), none, none] [.int (bI (isT A (nI j)))] g A _
  refine rr_beq (t := 17) d_250_5 (by decide) (fun c5 => ?_) (fun c5 => ?_)
  · exact absurd hyes c5
  · refine rr_nx (pc' := 9) (al' := [some (.ref 146), some (.int (nI j)), some (.int (nI 0)), none, none]) (st' := [.int (nI 0)]) d_250_8 (fun _ => rfl) ?_
    refine rn_ic (v := 0) d_250_9 (by decide) ?_
    refine rn_ic (v := 1) d_250_10 (by decide) ?_
    refine rr_ps (as := [.int (nI 0), .int (nI 0), .int (nI 1)]) (al0 := [some (.int (nI 0)), some (.int (nI 0)), some (.int (nI 1))]) (r := []) d_250_11 mo_250 ml_106 mz_179 rfl rfl rfl (Nat.le_of_ble_eq_true rfl) (s_lies (nI 0) (nI 0) (nI 1)) ?_
    show RR _ _ 14 [some (.ref 146), some (.int (nI j)), some (.int (nI 0)), none, none] [.int (bI ((nI 0) ≤ (nI 0) ∧ (nI 0) ≤ (nI 1)))] g A _
    refine rr_bne (t := 19) d_250_14 (by decide) (fun c14 => ?_) (fun c14 => ?_)
    · refine rr_nx (pc' := 20) (al' := [some (.ref 146), some (.int (nI j)), some (.int (nI 0)), none, none]) (st' := [.ref 146]) d_250_19 (fun _ => rfl) ?_
      refine rr_nx (pc' := 21) (al' := [some (.ref 146), some (.int (nI j)), some (.int (nI 0)), none, none]) (st' := [.int (nI j), .ref 146]) d_250_20 (fun _ => rfl) ?_
      refine rr_pv (as := [.int (nI j)]) (al0 := [some (.ref 146), some (.int (nI j)), none]) (r := []) d_250_21 mo_250 ml_248 mz_208 rfl rfl rfl (Nat.le_of_ble_eq_true rfl) (s_lays (n := m) hj hm6 hk) ?_
      obtain ⟨wl21, hwl21⟩ : ∃ w_, w_ = rf_f (fun q => A 1 (37 * j + 1 + q)) (A 4) (m * m) := ⟨_, rfl⟩
      rw [← hwl21]
      show RR _ _ 24 [some (.ref 146), some (.int (nI j)), some (.int (nI 0)), none, none] [] (upd g 6 (nI m)) (rf_u A 4 wl21) _
      have hcu := cur_l (g := g) hsh hm6 hl hwl21
      refine rr_dr (al1 := [some (.ref 146), none, some (.int (nI 0)), none, none]) (le_s (le_d rfl (le_s (le_s (le_s (le_n)))))) ?_
      refine rr_cq (rr_wk (by decide) (s_makers_24 hcu h1 (by decide))) ?_
      rintro r_ g_ A_ ⟨rfl, rfl, rfl⟩
      exact ⟨rfl, (hW.q (Gsm.rf.u rfl) (Ksm.rf.u rfl)).mo⟩
    · exact absurd (show nI 0 ≤ nI 0 ∧ nI 0 ≤ nI 1 by decide) c14
theorem p_makers1 {S : CS} {G : Nat → Nat → Value} {B : Nat → Nat → Int32} {J : Nat → Nat → Int64} {R : Nat → Nat → Option Nat} {n : Nat} {W : WS} (hW : WC n S G B R W) {j m : Nat} {c : Nat → Nat} (hj : j < 6) (htb : tbK (wK W) j = (m, c)) (h1 : 1 ≤ m) : CR 80 152 0 [some (.ref 2), some (.int (nI j)), some (.int (nI 1)), none] [] S G B J R (fun r S' G' B' J' R' => r = some (.int (nI (if 1 = 0 then onN (mkN m c) else mkN m c))) ∧ WC (n + 1) S' G' B' R' W) := by
  have hS := hW.1.1
  have hF := hW.2.1
  have hO := hW.2.2.2.1
  obtain ⟨ta, ka, la, hH, hLk, hl2, hs3, hbd⟩ := hW.2.2.1
  obtain ⟨zt, hzt, ezt⟩ := (hH.2.1 j hj).2
  have ht := hH.ta hj
  have hsh := hH.2.2.2.2.2.2.1 j hj
  rw [show kH (wK W) (kD (wK W)) j = (m, c) from htb] at hsh
  have hok := tb_ok hO hj
  rw [htb] at hok
  have hn : G (ta j) 0 = .int (nI m) := hsh.1
  have hc : TabC B (ta j) m c := hsh.c hok
  have hl : Lat m c := hok.2
  have hm6 : m ≤ 6 := hok.1
  have hyes : hasP (wK W) (nI j) := (has_i hj).mpr (by rw [htb]; exact h1)
  refine cr_nx (pc' := 1) (al' := [some (.ref 2), some (.int (nI j)), some (.int (nI 1)), none]) (st' := [.ref 2]) d_152_0 (fun _ => rfl) ?_
  refine cr_nx (pc' := 2) (al' := [some (.ref 2), some (.int (nI j)), some (.int (nI 1)), none]) (st' := [.int (nI j), .ref 2]) d_152_1 (fun _ => rfl) ?_
  refine cr_pv (b := 2) (as := [.int (nI j)]) (al0 := [some (.ref 2), some (.int (nI j))]) (r := []) d_152_2 cw_152 cm_11_137 cz_126 rfl rfl (hS.i (a := 2) (by decide) (by decide)) (by rw [cw_126]; exact (hS.s (a := 2) (by decide) (by decide) rfl)) (by rw [cw_126]; decide) rfl (Nat.le_of_ble_eq_true rfl) (k_has hS hF hH hO) ?_
  show CR _ _ 5 [some (.ref 2), some (.int (nI j)), some (.int (nI 1)), none] [.int (bI (hasP (wK W) (nI j)))] S G B J R _
  refine cr_beq (t := 17) d_152_5 (by decide) (fun c5 => ?_) (fun c5 => ?_)
  · exact absurd hyes c5
  · refine cr_nx (pc' := 9) (al' := [some (.ref 2), some (.int (nI j)), some (.int (nI 1)), none]) (st' := [.int (nI 1)]) d_152_8 (fun _ => rfl) ?_
    refine cn_zlt (t := 17) d_152_9 (by decide) (by first | omega | assumption | exact cu_36 (by omega) (cu_lt (by omega) (by omega))) (fun c9 => ?_) (fun c9 => ?_)
    · exact c9.elim
    · refine cr_nx (pc' := 13) (al' := [some (.ref 2), some (.int (nI j)), some (.int (nI 1)), none]) (st' := [.int (nI 1)]) d_152_12 (fun _ => rfl) ?_
      refine cn_ic (v := 1) d_152_13 (by decide) ?_
      refine cn_cle (t := 19) d_152_14 (by decide) (by first | omega | assumption | exact cu_36 (by omega) (cu_lt (by omega) (by omega))) (by first | omega | assumption | exact cu_36 (by omega) (cu_lt (by omega) (by omega))) (fun c14 => ?_) (fun c14 => ?_)
      · refine cr_nx (pc' := 20) (al' := [some (.ref 2), some (.int (nI j)), some (.int (nI 1)), none]) (st' := [.ref 2]) d_152_19 (fun _ => rfl) ?_
        refine cr_gf (v := .ref 3) d_152_20 cw_152 cf_11_10 (hS.i (a := 2) (by decide) (by decide)) (hS.s (a := 2) (by decide) (by decide) rfl) (by decide) (fx_2_0 hF) ?_
        refine cr_gf (v := .ref 4) d_152_23 cw_152 cf_11_140 (hS.i (a := 3) (by decide) (by decide)) (hS.s (a := 3) (by decide) (by decide) rfl) (by decide) (fx_3_0 hF) ?_
        refine cr_nx (pc' := 27) (al' := [some (.ref 2), some (.int (nI j)), some (.int (nI 1)), none]) (st' := [.int (nI j), .ref 4]) d_152_26 (fun _ => rfl) ?_
        refine cr_aa (a := 4) (v := .ref (ta j)) d_152_27 (hS.i (a := 4) (by decide) (by decide)) (by decide) (hS.s (a := 4) (by decide) (by decide) rfl) (by decide) (show j < 6 by first | omega | assumption | exact cu_36 (by omega) (cu_lt (by omega) (by omega))) (show va_rf _ = _ by rw [(hH.2.1 j hj).1]; rfl) ?_
        refine cr_ps (as := [.ref (ta j)]) (al0 := [some (.ref (ta j)), none, none, none, none]) (r := []) d_152_28 cw_152 cm_11_295 (by decide) cz_65 rfl rfl rfl (Nat.le_of_ble_eq_true rfl) (k_fewestMakers ht hn hc (by omega)) ?_
        show CR _ _ 31 [some (.ref 2), some (.int (nI j)), some (.int (nI 1)), none] [.int (nI (mkN m c))] S G B J R _
        have b28 := mkN_lt (c := c) (by omega) (show 1 ≤ m by omega) (fun q hq => (hc.2 q hq).2)
        refine cr_nx (pc' := 32) (al' := [some (.ref 2), some (.int (nI j)), some (.int (nI 1)), some (.int (nI (mkN m c)))]) (st' := []) d_152_31 (fun _ => rfl) ?_
        refine cr_nx (pc' := 33) (al' := [some (.ref 2), some (.int (nI j)), some (.int (nI 1)), some (.int (nI (mkN m c)))]) (st' := [.int (nI 1)]) d_152_32 (fun _ => rfl) ?_
        refine cn_ine (t := 43) d_152_33 (by decide) (by first | omega | assumption | exact cu_36 (by omega) (cu_lt (by omega) (by omega))) (fun c33 => ?_) (fun c33 => ?_)
        · refine cr_nx (pc' := 44) (al' := [some (.ref 2), some (.int (nI j)), some (.int (nI 1)), some (.int (nI (mkN m c)))]) (st' := [.int (nI (mkN m c))]) d_152_43 (fun _ => rfl) ?_
          exact cr_ri d_152_44 cx_152 rfl ⟨rfl, hW.mo⟩
        · omega
      · omega
theorem r_makers1 {g : Nat → Int32} {A : Nat → Nat → Int32} {n : Nat} {W : WS} (hW : WR n g A W) (hO : CoOk (wK W)) {j m : Nat} {c : Nat → Nat} (hj : j < 6) (htb : tbK (wK W) j = (m, c)) (h1 : 1 ≤ m) : RR 80 250 0 [some (.ref 146), some (.int (nI j)), some (.int (nI 1)), none, none] [] g A (fun r g' A' => r = some (.int (nI (if 1 = 0 then onN (mkN m c) else mkN m c))) ∧ WR (n + 1) g' A' W) := by
  have hsh := hW.1.1.1 j hj
  rw [show kH (wK W) (kD (wK W)) j = (m, c) from htb] at hsh
  have hok := tb_ok hO hj
  rw [htb] at hok
  have hk : A 1 (37 * j) = nI m := hsh.1
  have hl : Lat m c := hok.2
  have hm6 : m ≤ 6 := hok.1
  have hyes : isT A (nI j) := (has_r hW hO).mpr ((has_i hj).mpr (by rw [htb]; exact h1))
  refine rr_nx (pc' := 1) (al' := [some (.ref 146), some (.int (nI j)), some (.int (nI 1)), none, none]) (st' := [.ref 146]) d_250_0 (fun _ => rfl) ?_
  refine rr_nx (pc' := 2) (al' := [some (.ref 146), some (.int (nI j)), some (.int (nI 1)), none, none]) (st' := [.int (nI j), .ref 146]) d_250_1 (fun _ => rfl) ?_
  refine rr_pv (as := [.int (nI j)]) (al0 := [some (.ref 146), some (.int (nI j))]) (r := []) d_250_2 mo_250 ml_124 mz_184 rfl rfl rfl (Nat.le_of_ble_eq_true rfl) (s_isTable (nI j)) ?_
  show RR _ _ 5 [some (.ref 146), some (.int (nI j)), some (.int (nI 1)), none, none] [.int (bI (isT A (nI j)))] g A _
  refine rr_beq (t := 17) d_250_5 (by decide) (fun c5 => ?_) (fun c5 => ?_)
  · exact absurd hyes c5
  · refine rr_nx (pc' := 9) (al' := [some (.ref 146), some (.int (nI j)), some (.int (nI 1)), none, none]) (st' := [.int (nI 1)]) d_250_8 (fun _ => rfl) ?_
    refine rn_ic (v := 0) d_250_9 (by decide) ?_
    refine rn_ic (v := 1) d_250_10 (by decide) ?_
    refine rr_ps (as := [.int (nI 1), .int (nI 0), .int (nI 1)]) (al0 := [some (.int (nI 1)), some (.int (nI 0)), some (.int (nI 1))]) (r := []) d_250_11 mo_250 ml_106 mz_179 rfl rfl rfl (Nat.le_of_ble_eq_true rfl) (s_lies (nI 1) (nI 0) (nI 1)) ?_
    show RR _ _ 14 [some (.ref 146), some (.int (nI j)), some (.int (nI 1)), none, none] [.int (bI ((nI 0) ≤ (nI 1) ∧ (nI 1) ≤ (nI 1)))] g A _
    refine rr_bne (t := 19) d_250_14 (by decide) (fun c14 => ?_) (fun c14 => ?_)
    · refine rr_nx (pc' := 20) (al' := [some (.ref 146), some (.int (nI j)), some (.int (nI 1)), none, none]) (st' := [.ref 146]) d_250_19 (fun _ => rfl) ?_
      refine rr_nx (pc' := 21) (al' := [some (.ref 146), some (.int (nI j)), some (.int (nI 1)), none, none]) (st' := [.int (nI j), .ref 146]) d_250_20 (fun _ => rfl) ?_
      refine rr_pv (as := [.int (nI j)]) (al0 := [some (.ref 146), some (.int (nI j)), none]) (r := []) d_250_21 mo_250 ml_248 mz_208 rfl rfl rfl (Nat.le_of_ble_eq_true rfl) (s_lays (n := m) hj hm6 hk) ?_
      obtain ⟨wl21, hwl21⟩ : ∃ w_, w_ = rf_f (fun q => A 1 (37 * j + 1 + q)) (A 4) (m * m) := ⟨_, rfl⟩
      rw [← hwl21]
      show RR _ _ 24 [some (.ref 146), some (.int (nI j)), some (.int (nI 1)), none, none] [] (upd g 6 (nI m)) (rf_u A 4 wl21) _
      have hcu := cur_l (g := g) hsh hm6 hl hwl21
      refine rr_dr (al1 := [some (.ref 146), none, some (.int (nI 1)), none, none]) (le_s (le_d rfl (le_s (le_s (le_s (le_n)))))) ?_
      refine rr_cq (rr_wk (by decide) (s_makers_24 hcu h1 (by decide))) ?_
      rintro r_ g_ A_ ⟨rfl, rfl, rfl⟩
      exact ⟨rfl, (hW.q (Gsm.rf.u rfl) (Ksm.rf.u rfl)).mo⟩
    · exact absurd (show nI 0 ≤ nI 1 ∧ nI 1 ≤ nI 1 by decide) c14
theorem p_makers_n {S : CS} {G : Nat → Nat → Value} {B : Nat → Nat → Int32} {J : Nat → Nat → Int64} {R : Nat → Nat → Option Nat} {n : Nat} {W : WS} (hW : WC n S G B R W) {t : Int32} (hh : ¬ hasP (wK W) t) {w : Int32} : CR 80 152 0 [some (.ref 2), some (.int t), some (.int w), none] [] S G B J R (fun r S' G' B' J' R' => r = some (.int (-1)) ∧ WC (n + 1) S' G' B' R' W) := by
  have hS := hW.1.1
  have hF := hW.2.1
  have hO := hW.2.2.2.1
  obtain ⟨ta, ka, la, hH, hLk, hl2, hs3, hbd⟩ := hW.2.2.1
  refine cr_nx (pc' := 1) (al' := [some (.ref 2), some (.int t), some (.int w), none]) (st' := [.ref 2]) d_152_0 (fun _ => rfl) ?_
  refine cr_nx (pc' := 2) (al' := [some (.ref 2), some (.int t), some (.int w), none]) (st' := [.int t, .ref 2]) d_152_1 (fun _ => rfl) ?_
  refine cr_pv (b := 2) (as := [.int t]) (al0 := [some (.ref 2), some (.int t)]) (r := []) d_152_2 cw_152 cm_11_137 cz_126 rfl rfl (hS.i (a := 2) (by decide) (by decide)) (by rw [cw_126]; exact (hS.s (a := 2) (by decide) (by decide) rfl)) (by rw [cw_126]; decide) rfl (Nat.le_of_ble_eq_true rfl) (k_has hS hF hH hO) ?_
  show CR _ _ 5 [some (.ref 2), some (.int t), some (.int w), none] [.int (bI (hasP (wK W) t))] S G B J R _
  refine cr_beq (t := 17) d_152_5 (by decide) (fun c5 => ?_) (fun c5 => ?_)
  · refine cr_nx (pc' := 18) (al' := [some (.ref 2), some (.int t), some (.int w), none]) (st' := [.int (-1)]) d_152_17 (fun _ => rfl) ?_
    exact cr_ri d_152_18 cx_152 rfl ⟨rfl, hW.mo⟩
  · exact absurd c5 hh
theorem r_makers_n {g : Nat → Int32} {A : Nat → Nat → Int32} {n : Nat} {W : WS} (hW : WR n g A W) (hO : CoOk (wK W)) {t : Int32} (hh : ¬ hasP (wK W) t) {w : Int32} : RR 80 250 0 [some (.ref 146), some (.int t), some (.int w), none, none] [] g A (fun r g' A' => r = some (.int (-1)) ∧ WR (n + 1) g' A' W) := by
  refine rr_nx (pc' := 1) (al' := [some (.ref 146), some (.int t), some (.int w), none, none]) (st' := [.ref 146]) d_250_0 (fun _ => rfl) ?_
  refine rr_nx (pc' := 2) (al' := [some (.ref 146), some (.int t), some (.int w), none, none]) (st' := [.int t, .ref 146]) d_250_1 (fun _ => rfl) ?_
  refine rr_pv (as := [.int t]) (al0 := [some (.ref 146), some (.int t)]) (r := []) d_250_2 mo_250 ml_124 mz_184 rfl rfl rfl (Nat.le_of_ble_eq_true rfl) (s_isTable t) ?_
  show RR _ _ 5 [some (.ref 146), some (.int t), some (.int w), none, none] [.int (bI (isT A t))] g A _
  refine rr_beq (t := 17) d_250_5 (by decide) (fun c5 => ?_) (fun c5 => ?_)
  · refine rr_nx (pc' := 18) (al' := [some (.ref 146), some (.int t), some (.int w), none, none]) (st' := [.int (-1)]) d_250_17 (fun _ => rfl) ?_
    exact rr_ri d_250_18 mr_250 rfl ⟨rfl, hW.mo⟩
  · exact absurd c5 (fun e_ => hh ((has_r hW hO).mp e_))
theorem T_makers {S : CS} {G : Nat → Nat → Value} {B : Nat → Nat → Int32} {J : Nat → Nat → Int64} {R : Nat → Nat → Option Nat} {g : Nat → Int32} {A : Nat → Nat → Int32} {n : Nat} {W : WS} (hC : WC n S G B R W) (hR : WR n g A W) (hn : n ≤ 10000) {t : Int32} {w : Int32} : Tie n 152 250 [some (.ref 2), some (.int t), some (.int w), none] [some (.ref 146), some (.int t), some (.int w), none, none] S G B J R g A W := by
  have hO := hC.2.2.2.1
  by_cases hh : hasP (wK W) t
  · obtain ⟨j, hj, e_, h1⟩ := has_n hh
    subst e_
    obtain ⟨⟨m, c⟩, htb⟩ : ∃ tb, tbK (wK W) j = tb := ⟨_, rfl⟩
    rw [htb] at h1
    by_cases hw : inP w 2
    · obtain ⟨k, hk, e_⟩ := in_n hw
      subst e_
      have hk2 : k = 0 ∨ k = 1 := by omega
      rcases hk2 with rfl | rfl
      · exact ⟨_, W, p_makers0 hC hj htb h1, r_makers0 hR hO hj htb h1⟩
      · exact ⟨_, W, p_makers1 hC hj htb h1, r_makers1 hR hO hj htb h1⟩
    · exact ⟨_, W, p_makersX hC hj htb h1 hw, r_makersX hR hO hj htb h1 hw⟩
  · exact ⟨_, W, p_makers_n hC hh, r_makers_n hR hO hh⟩
theorem p_crossingsX {S : CS} {G : Nat → Nat → Value} {B : Nat → Nat → Int32} {J : Nat → Nat → Int64} {R : Nat → Nat → Option Nat} {n : Nat} {W : WS} (hW : WC n S G B R W) {j m : Nat} {c : Nat → Nat} (hj : j < 6) (htb : tbK (wK W) j = (m, c)) (h1 : 1 ≤ m) {w : Int32} (hw : ¬ inP w 3) : CR 80 160 0 [some (.ref 2), some (.int (nI j)), some (.int w)] [] S G B J R (fun r S' G' B' J' R' => r = some (.int (-1)) ∧ WC (n + 1) S' G' B' R' W) := by
  have hS := hW.1.1
  have hF := hW.2.1
  have hO := hW.2.2.2.1
  obtain ⟨ta, ka, la, hH, hLk, hl2, hs3, hbd⟩ := hW.2.2.1
  obtain ⟨zt, hzt, ezt⟩ := (hH.2.1 j hj).2
  have ht := hH.ta hj
  have hsh := hH.2.2.2.2.2.2.1 j hj
  rw [show kH (wK W) (kD (wK W)) j = (m, c) from htb] at hsh
  have hok := tb_ok hO hj
  rw [htb] at hok
  have hn : G (ta j) 0 = .int (nI m) := hsh.1
  have hc : TabC B (ta j) m c := hsh.c hok
  have hl : Lat m c := hok.2
  have hm6 : m ≤ 6 := hok.1
  have hyes : hasP (wK W) (nI j) := (has_i hj).mpr (by rw [htb]; exact h1)
  refine cr_nx (pc' := 1) (al' := [some (.ref 2), some (.int (nI j)), some (.int w)]) (st' := [.ref 2]) d_160_0 (fun _ => rfl) ?_
  refine cr_nx (pc' := 2) (al' := [some (.ref 2), some (.int (nI j)), some (.int w)]) (st' := [.int (nI j), .ref 2]) d_160_1 (fun _ => rfl) ?_
  refine cr_pv (b := 2) (as := [.int (nI j)]) (al0 := [some (.ref 2), some (.int (nI j))]) (r := []) d_160_2 cw_160 cm_11_137 cz_126 rfl rfl (hS.i (a := 2) (by decide) (by decide)) (by rw [cw_126]; exact (hS.s (a := 2) (by decide) (by decide) rfl)) (by rw [cw_126]; decide) rfl (Nat.le_of_ble_eq_true rfl) (k_has hS hF hH hO) ?_
  show CR _ _ 5 [some (.ref 2), some (.int (nI j)), some (.int w)] [.int (bI (hasP (wK W) (nI j)))] S G B J R _
  refine cr_bne (t := 10) d_160_5 (by decide) (fun c5 => ?_) (fun c5 => ?_)
  · refine cr_nx (pc' := 11) (al' := [some (.ref 2), some (.int (nI j)), some (.int w)]) (st' := [.int w]) d_160_10 (fun _ => rfl) ?_
    refine cr_td (t := 83) d_160_11 (td_x hw) (by decide) ?_
    refine cr_nx (pc' := 84) (al' := [some (.ref 2), some (.int (nI j)), some (.int w)]) (st' := [.int (-1)]) d_160_83 (fun _ => rfl) ?_
    exact cr_ri d_160_84 cx_160 rfl ⟨rfl, hW.mo⟩
  · exact absurd hyes c5
theorem r_crossingsX {g : Nat → Int32} {A : Nat → Nat → Int32} {n : Nat} {W : WS} (hW : WR n g A W) (hO : CoOk (wK W)) {j m : Nat} {c : Nat → Nat} (hj : j < 6) (htb : tbK (wK W) j = (m, c)) (h1 : 1 ≤ m) {w : Int32} (hw : ¬ inP w 3) : RR 80 264 0 [some (.ref 146), some (.int (nI j)), some (.int w), none, none, none, none, none] [] g A (fun r g' A' => r = some (.int (-1)) ∧ WR (n + 1) g' A' W) := by
  have hsh := hW.1.1.1 j hj
  rw [show kH (wK W) (kD (wK W)) j = (m, c) from htb] at hsh
  have hok := tb_ok hO hj
  rw [htb] at hok
  have hk : A 1 (37 * j) = nI m := hsh.1
  have hl : Lat m c := hok.2
  have hm6 : m ≤ 6 := hok.1
  have hyes : isT A (nI j) := (has_r hW hO).mpr ((has_i hj).mpr (by rw [htb]; exact h1))
  refine rr_nx (pc' := 1) (al' := [some (.ref 146), some (.int (nI j)), some (.int w), none, none, none, none, none]) (st' := [.ref 146]) d_264_0 (fun _ => rfl) ?_
  refine rr_nx (pc' := 2) (al' := [some (.ref 146), some (.int (nI j)), some (.int w), none, none, none, none, none]) (st' := [.int (nI j), .ref 146]) d_264_1 (fun _ => rfl) ?_
  refine rr_pv (as := [.int (nI j)]) (al0 := [some (.ref 146), some (.int (nI j))]) (r := []) d_264_2 mo_264 ml_124 mz_184 rfl rfl rfl (Nat.le_of_ble_eq_true rfl) (s_isTable (nI j)) ?_
  show RR _ _ 5 [some (.ref 146), some (.int (nI j)), some (.int w), none, none, none, none, none] [.int (bI (isT A (nI j)))] g A _
  refine rr_beq (t := 17) d_264_5 (by decide) (fun c5 => ?_) (fun c5 => ?_)
  · exact absurd hyes c5
  · refine rr_nx (pc' := 9) (al' := [some (.ref 146), some (.int (nI j)), some (.int w), none, none, none, none, none]) (st' := [.int w]) d_264_8 (fun _ => rfl) ?_
    refine rn_ic (v := 0) d_264_9 (by decide) ?_
    refine rn_ic (v := 2) d_264_10 (by decide) ?_
    refine rr_ps (as := [.int w, .int (nI 0), .int (nI 2)]) (al0 := [some (.int w), some (.int (nI 0)), some (.int (nI 2))]) (r := []) d_264_11 mo_264 ml_106 mz_179 rfl rfl rfl (Nat.le_of_ble_eq_true rfl) (s_lies w (nI 0) (nI 2)) ?_
    show RR _ _ 14 [some (.ref 146), some (.int (nI j)), some (.int w), none, none, none, none, none] [.int (bI ((nI 0) ≤ w ∧ w ≤ (nI 2)))] g A _
    refine rr_bne (t := 19) d_264_14 (by decide) (fun c14 => ?_) (fun c14 => ?_)
    · exact absurd c14 (fun e_ => hw ((in_r (m := 2) (by decide)).mp e_))
    · refine rr_nx (pc' := 18) (al' := [some (.ref 146), some (.int (nI j)), some (.int w), none, none, none, none, none]) (st' := [.int (-1)]) d_264_17 (fun _ => rfl) ?_
      exact rr_ri d_264_18 mr_264 rfl ⟨rfl, hW.mo⟩
theorem p_crossings0 {S : CS} {G : Nat → Nat → Value} {B : Nat → Nat → Int32} {J : Nat → Nat → Int64} {R : Nat → Nat → Option Nat} {n : Nat} {W : WS} (hW : WC n S G B R W) {j m : Nat} {c : Nat → Nat} (hj : j < 6) (htb : tbK (wK W) j = (m, c)) (h1 : 1 ≤ m) : CR 80 160 0 [some (.ref 2), some (.int (nI j)), some (.int (nI 0))] [] S G B J R (fun r S' G' B' J' R' => r = some (.int (nI ((tvL m c).length))) ∧ WC (n + 1) S' G' B' R' W) := by
  have hS := hW.1.1
  have hF := hW.2.1
  have hO := hW.2.2.2.1
  obtain ⟨ta, ka, la, hH, hLk, hl2, hs3, hbd⟩ := hW.2.2.1
  obtain ⟨zt, hzt, ezt⟩ := (hH.2.1 j hj).2
  have ht := hH.ta hj
  have hsh := hH.2.2.2.2.2.2.1 j hj
  rw [show kH (wK W) (kD (wK W)) j = (m, c) from htb] at hsh
  have hok := tb_ok hO hj
  rw [htb] at hok
  have hn : G (ta j) 0 = .int (nI m) := hsh.1
  have hc : TabC B (ta j) m c := hsh.c hok
  have hl : Lat m c := hok.2
  have hm6 : m ≤ 6 := hok.1
  have hyes : hasP (wK W) (nI j) := (has_i hj).mpr (by rw [htb]; exact h1)
  refine cr_nx (pc' := 1) (al' := [some (.ref 2), some (.int (nI j)), some (.int (nI 0))]) (st' := [.ref 2]) d_160_0 (fun _ => rfl) ?_
  refine cr_nx (pc' := 2) (al' := [some (.ref 2), some (.int (nI j)), some (.int (nI 0))]) (st' := [.int (nI j), .ref 2]) d_160_1 (fun _ => rfl) ?_
  refine cr_pv (b := 2) (as := [.int (nI j)]) (al0 := [some (.ref 2), some (.int (nI j))]) (r := []) d_160_2 cw_160 cm_11_137 cz_126 rfl rfl (hS.i (a := 2) (by decide) (by decide)) (by rw [cw_126]; exact (hS.s (a := 2) (by decide) (by decide) rfl)) (by rw [cw_126]; decide) rfl (Nat.le_of_ble_eq_true rfl) (k_has hS hF hH hO) ?_
  show CR _ _ 5 [some (.ref 2), some (.int (nI j)), some (.int (nI 0))] [.int (bI (hasP (wK W) (nI j)))] S G B J R _
  refine cr_bne (t := 10) d_160_5 (by decide) (fun c5 => ?_) (fun c5 => ?_)
  · refine cr_nx (pc' := 11) (al' := [some (.ref 2), some (.int (nI j)), some (.int (nI 0))]) (st' := [.int (nI 0)]) d_160_10 (fun _ => rfl) ?_
    refine cr_ts (off := 25) (t := 36) d_160_11 (by decide) (by decide) rfl (by decide) ?_
    refine cr_nx (pc' := 37) (al' := [some (.ref 2), some (.int (nI j)), some (.int (nI 0))]) (st' := [.ref 2]) d_160_36 (fun _ => rfl) ?_
    refine cr_gf (v := .ref 141) d_160_37 cw_160 cf_11_86 (hS.i (a := 2) (by decide) (by decide)) (hS.s (a := 2) (by decide) (by decide) rfl) (by decide) (fx_2_14 hF) ?_
    refine cr_nx (pc' := 41) (al' := [some (.ref 2), some (.int (nI j)), some (.int (nI 0))]) (st' := [.ref 2, .ref 141]) d_160_40 (fun _ => rfl) ?_
    refine cr_gf (v := .ref 3) d_160_41 cw_160 cf_11_10 (hS.i (a := 2) (by decide) (by decide)) (hS.s (a := 2) (by decide) (by decide) rfl) (by decide) (fx_2_0 hF) ?_
    refine cr_gf (v := .ref 4) d_160_44 cw_160 cf_11_140 (hS.i (a := 3) (by decide) (by decide)) (hS.s (a := 3) (by decide) (by decide) rfl) (by decide) (fx_3_0 hF) ?_
    refine cr_nx (pc' := 48) (al' := [some (.ref 2), some (.int (nI j)), some (.int (nI 0))]) (st' := [.int (nI j), .ref 4, .ref 141]) d_160_47 (fun _ => rfl) ?_
    refine cr_aa (a := 4) (v := .ref (ta j)) d_160_48 (hS.i (a := 4) (by decide) (by decide)) (by decide) (hS.s (a := 4) (by decide) (by decide) rfl) (by decide) (show j < 6 by first | omega | assumption | exact cu_36 (by omega) (cu_lt (by omega) (by omega))) (show va_rf _ = _ by rw [(hH.2.1 j hj).1]; rfl) ?_
    refine cr_cv (b := 141) (as := [.ref (ta j)]) (al0 := [some (.ref 141), some (.ref (ta j))]) (r := []) d_160_49 cw_160 cm_11_318 cz_10 rfl rfl (hS.i (a := 141) (by decide) (by decide)) (by rw [cw_10]; exact (hS.s (a := 141) (by decide) (by decide) rfl)) (by rw [cw_10]; decide) rfl (cr_wk (Nat.le_of_ble_eq_true rfl) (k_transversals hS hF ht hn hc hl (by omega))) (fun v1 S1 G1 B1 J1 R1 h1 => ?_)
    obtain ⟨q0_, q1_, q2_, q3_, h4_, h5_, _⟩ := h1
    obtain rfl := q0_
    obtain rfl := q1_.symm
    obtain rfl := q2_.symm
    obtain rfl := q3_.symm
    show CR _ _ 52 [some (.ref 2), some (.int (nI j)), some (.int (nI 0))] [.int (nI ((tvL m c).length))] S G1 B J1 R _
    exact cr_ri d_160_52 cx_160 rfl ⟨rfl, (hW.q h4_ (h5_.mo (by decide)) Bfr.rf).mo⟩
  · exact absurd hyes c5
theorem r_crossings0 {g : Nat → Int32} {A : Nat → Nat → Int32} {n : Nat} {W : WS} (hW : WR n g A W) (hO : CoOk (wK W)) {j m : Nat} {c : Nat → Nat} (hj : j < 6) (htb : tbK (wK W) j = (m, c)) (h1 : 1 ≤ m) : RR 80 264 0 [some (.ref 146), some (.int (nI j)), some (.int (nI 0)), none, none, none, none, none] [] g A (fun r g' A' => r = some (.int (nI ((tvL m c).length))) ∧ WR (n + 1) g' A' W) := by
  have hsh := hW.1.1.1 j hj
  rw [show kH (wK W) (kD (wK W)) j = (m, c) from htb] at hsh
  have hok := tb_ok hO hj
  rw [htb] at hok
  have hk : A 1 (37 * j) = nI m := hsh.1
  have hl : Lat m c := hok.2
  have hm6 : m ≤ 6 := hok.1
  have hyes : isT A (nI j) := (has_r hW hO).mpr ((has_i hj).mpr (by rw [htb]; exact h1))
  refine rr_nx (pc' := 1) (al' := [some (.ref 146), some (.int (nI j)), some (.int (nI 0)), none, none, none, none, none]) (st' := [.ref 146]) d_264_0 (fun _ => rfl) ?_
  refine rr_nx (pc' := 2) (al' := [some (.ref 146), some (.int (nI j)), some (.int (nI 0)), none, none, none, none, none]) (st' := [.int (nI j), .ref 146]) d_264_1 (fun _ => rfl) ?_
  refine rr_pv (as := [.int (nI j)]) (al0 := [some (.ref 146), some (.int (nI j))]) (r := []) d_264_2 mo_264 ml_124 mz_184 rfl rfl rfl (Nat.le_of_ble_eq_true rfl) (s_isTable (nI j)) ?_
  show RR _ _ 5 [some (.ref 146), some (.int (nI j)), some (.int (nI 0)), none, none, none, none, none] [.int (bI (isT A (nI j)))] g A _
  refine rr_beq (t := 17) d_264_5 (by decide) (fun c5 => ?_) (fun c5 => ?_)
  · exact absurd hyes c5
  · refine rr_nx (pc' := 9) (al' := [some (.ref 146), some (.int (nI j)), some (.int (nI 0)), none, none, none, none, none]) (st' := [.int (nI 0)]) d_264_8 (fun _ => rfl) ?_
    refine rn_ic (v := 0) d_264_9 (by decide) ?_
    refine rn_ic (v := 2) d_264_10 (by decide) ?_
    refine rr_ps (as := [.int (nI 0), .int (nI 0), .int (nI 2)]) (al0 := [some (.int (nI 0)), some (.int (nI 0)), some (.int (nI 2))]) (r := []) d_264_11 mo_264 ml_106 mz_179 rfl rfl rfl (Nat.le_of_ble_eq_true rfl) (s_lies (nI 0) (nI 0) (nI 2)) ?_
    show RR _ _ 14 [some (.ref 146), some (.int (nI j)), some (.int (nI 0)), none, none, none, none, none] [.int (bI ((nI 0) ≤ (nI 0) ∧ (nI 0) ≤ (nI 2)))] g A _
    refine rr_bne (t := 19) d_264_14 (by decide) (fun c14 => ?_) (fun c14 => ?_)
    · refine rr_nx (pc' := 20) (al' := [some (.ref 146), some (.int (nI j)), some (.int (nI 0)), none, none, none, none, none]) (st' := [.ref 146]) d_264_19 (fun _ => rfl) ?_
      refine rr_nx (pc' := 21) (al' := [some (.ref 146), some (.int (nI j)), some (.int (nI 0)), none, none, none, none, none]) (st' := [.int (nI j), .ref 146]) d_264_20 (fun _ => rfl) ?_
      refine rr_pv (as := [.int (nI j)]) (al0 := [some (.ref 146), some (.int (nI j)), none]) (r := []) d_264_21 mo_264 ml_248 mz_208 rfl rfl rfl (Nat.le_of_ble_eq_true rfl) (s_lays (n := m) hj hm6 hk) ?_
      obtain ⟨wl21, hwl21⟩ : ∃ w_, w_ = rf_f (fun q => A 1 (37 * j + 1 + q)) (A 4) (m * m) := ⟨_, rfl⟩
      rw [← hwl21]
      show RR _ _ 24 [some (.ref 146), some (.int (nI j)), some (.int (nI 0)), none, none, none, none, none] [] (upd g 6 (nI m)) (rf_u A 4 wl21) _
      have hcu := cur_l (g := g) hsh hm6 hl hwl21
      refine rr_dr (al1 := [some (.ref 146), none, some (.int (nI 0)), none, none, none, none, none]) (le_s (le_d rfl (le_s (le_s (le_s (le_s (le_s (le_s (le_n))))))))) ?_
      refine rr_cq (rr_wk (by decide) (s_crossings0_24 hcu hl)) ?_
      rintro r_ g_ A_ ⟨rfl, h1_, h2_⟩
      exact ⟨rfl, (hW.q ((Gsm.rf.u rfl).tr h1_) ((Ksm.rf.u rfl).tr h2_)).mo⟩
    · exact absurd (show nI 0 ≤ nI 0 ∧ nI 0 ≤ nI 2 by decide) c14
theorem p_crossings1 {S : CS} {G : Nat → Nat → Value} {B : Nat → Nat → Int32} {J : Nat → Nat → Int64} {R : Nat → Nat → Option Nat} {n : Nat} {W : WS} (hW : WC n S G B R W) {j m : Nat} {c : Nat → Nat} (hj : j < 6) (htb : tbK (wK W) j = (m, c)) (h1 : 1 ≤ m) : CR 80 160 0 [some (.ref 2), some (.int (nI j)), some (.int (nI 1))] [] S G B J R (fun r S' G' B' J' R' => r = some (.int (nI (mtN m c))) ∧ WC (n + 1) S' G' B' R' W) := by
  have hS := hW.1.1
  have hF := hW.2.1
  have hO := hW.2.2.2.1
  obtain ⟨ta, ka, la, hH, hLk, hl2, hs3, hbd⟩ := hW.2.2.1
  obtain ⟨zt, hzt, ezt⟩ := (hH.2.1 j hj).2
  have ht := hH.ta hj
  have hsh := hH.2.2.2.2.2.2.1 j hj
  rw [show kH (wK W) (kD (wK W)) j = (m, c) from htb] at hsh
  have hok := tb_ok hO hj
  rw [htb] at hok
  have hn : G (ta j) 0 = .int (nI m) := hsh.1
  have hc : TabC B (ta j) m c := hsh.c hok
  have hl : Lat m c := hok.2
  have hm6 : m ≤ 6 := hok.1
  have hyes : hasP (wK W) (nI j) := (has_i hj).mpr (by rw [htb]; exact h1)
  refine cr_nx (pc' := 1) (al' := [some (.ref 2), some (.int (nI j)), some (.int (nI 1))]) (st' := [.ref 2]) d_160_0 (fun _ => rfl) ?_
  refine cr_nx (pc' := 2) (al' := [some (.ref 2), some (.int (nI j)), some (.int (nI 1))]) (st' := [.int (nI j), .ref 2]) d_160_1 (fun _ => rfl) ?_
  refine cr_pv (b := 2) (as := [.int (nI j)]) (al0 := [some (.ref 2), some (.int (nI j))]) (r := []) d_160_2 cw_160 cm_11_137 cz_126 rfl rfl (hS.i (a := 2) (by decide) (by decide)) (by rw [cw_126]; exact (hS.s (a := 2) (by decide) (by decide) rfl)) (by rw [cw_126]; decide) rfl (Nat.le_of_ble_eq_true rfl) (k_has hS hF hH hO) ?_
  show CR _ _ 5 [some (.ref 2), some (.int (nI j)), some (.int (nI 1))] [.int (bI (hasP (wK W) (nI j)))] S G B J R _
  refine cr_bne (t := 10) d_160_5 (by decide) (fun c5 => ?_) (fun c5 => ?_)
  · refine cr_nx (pc' := 11) (al' := [some (.ref 2), some (.int (nI j)), some (.int (nI 1))]) (st' := [.int (nI 1)]) d_160_10 (fun _ => rfl) ?_
    refine cr_ts (off := 42) (t := 53) d_160_11 (by decide) (by decide) rfl (by decide) ?_
    refine cr_nx (pc' := 54) (al' := [some (.ref 2), some (.int (nI j)), some (.int (nI 1))]) (st' := [.ref 2]) d_160_53 (fun _ => rfl) ?_
    refine cr_gf (v := .ref 141) d_160_54 cw_160 cf_11_86 (hS.i (a := 2) (by decide) (by decide)) (hS.s (a := 2) (by decide) (by decide) rfl) (by decide) (fx_2_14 hF) ?_
    refine cr_nx (pc' := 58) (al' := [some (.ref 2), some (.int (nI j)), some (.int (nI 1))]) (st' := [.ref 2, .ref 141]) d_160_57 (fun _ => rfl) ?_
    refine cr_gf (v := .ref 3) d_160_58 cw_160 cf_11_10 (hS.i (a := 2) (by decide) (by decide)) (hS.s (a := 2) (by decide) (by decide) rfl) (by decide) (fx_2_0 hF) ?_
    refine cr_gf (v := .ref 4) d_160_61 cw_160 cf_11_140 (hS.i (a := 3) (by decide) (by decide)) (hS.s (a := 3) (by decide) (by decide) rfl) (by decide) (fx_3_0 hF) ?_
    refine cr_nx (pc' := 65) (al' := [some (.ref 2), some (.int (nI j)), some (.int (nI 1))]) (st' := [.int (nI j), .ref 4, .ref 141]) d_160_64 (fun _ => rfl) ?_
    refine cr_aa (a := 4) (v := .ref (ta j)) d_160_65 (hS.i (a := 4) (by decide) (by decide)) (by decide) (hS.s (a := 4) (by decide) (by decide) rfl) (by decide) (show j < 6 by first | omega | assumption | exact cu_36 (by omega) (cu_lt (by omega) (by omega))) (show va_rf _ = _ by rw [(hH.2.1 j hj).1]; rfl) ?_
    refine cr_cv (b := 141) (as := [.ref (ta j)]) (al0 := [some (.ref 141), some (.ref (ta j))]) (r := []) d_160_66 cw_160 cm_11_321 cz_12 rfl rfl (hS.i (a := 141) (by decide) (by decide)) (by rw [cw_12]; exact (hS.s (a := 141) (by decide) (by decide) rfl)) (by rw [cw_12]; decide) rfl (cr_wk (Nat.le_of_ble_eq_true rfl) (k_mates hS hF ht hn hc hl (by omega))) (fun v1 S1 G1 B1 J1 R1 h1 => ?_)
    obtain ⟨q0_, q1_, q2_, q3_, h4_, h5_⟩ := h1
    obtain rfl := q0_
    obtain rfl := q1_.symm
    obtain rfl := q2_.symm
    obtain rfl := q3_.symm
    show CR _ _ 69 [some (.ref 2), some (.int (nI j)), some (.int (nI 1))] [.int (nI (mtN m c))] S G1 B J1 R _
    exact cr_ri d_160_69 cx_160 rfl ⟨rfl, (hW.q h4_ (h5_.mo (by decide)) Bfr.rf).mo⟩
  · exact absurd hyes c5
theorem r_crossings1 {g : Nat → Int32} {A : Nat → Nat → Int32} {n : Nat} {W : WS} (hW : WR n g A W) (hO : CoOk (wK W)) {j m : Nat} {c : Nat → Nat} (hj : j < 6) (htb : tbK (wK W) j = (m, c)) (h1 : 1 ≤ m) : RR 80 264 0 [some (.ref 146), some (.int (nI j)), some (.int (nI 1)), none, none, none, none, none] [] g A (fun r g' A' => r = some (.int (nI (mtN m c))) ∧ WR (n + 1) g' A' W) := by
  have hsh := hW.1.1.1 j hj
  rw [show kH (wK W) (kD (wK W)) j = (m, c) from htb] at hsh
  have hok := tb_ok hO hj
  rw [htb] at hok
  have hk : A 1 (37 * j) = nI m := hsh.1
  have hl : Lat m c := hok.2
  have hm6 : m ≤ 6 := hok.1
  have hyes : isT A (nI j) := (has_r hW hO).mpr ((has_i hj).mpr (by rw [htb]; exact h1))
  refine rr_nx (pc' := 1) (al' := [some (.ref 146), some (.int (nI j)), some (.int (nI 1)), none, none, none, none, none]) (st' := [.ref 146]) d_264_0 (fun _ => rfl) ?_
  refine rr_nx (pc' := 2) (al' := [some (.ref 146), some (.int (nI j)), some (.int (nI 1)), none, none, none, none, none]) (st' := [.int (nI j), .ref 146]) d_264_1 (fun _ => rfl) ?_
  refine rr_pv (as := [.int (nI j)]) (al0 := [some (.ref 146), some (.int (nI j))]) (r := []) d_264_2 mo_264 ml_124 mz_184 rfl rfl rfl (Nat.le_of_ble_eq_true rfl) (s_isTable (nI j)) ?_
  show RR _ _ 5 [some (.ref 146), some (.int (nI j)), some (.int (nI 1)), none, none, none, none, none] [.int (bI (isT A (nI j)))] g A _
  refine rr_beq (t := 17) d_264_5 (by decide) (fun c5 => ?_) (fun c5 => ?_)
  · exact absurd hyes c5
  · refine rr_nx (pc' := 9) (al' := [some (.ref 146), some (.int (nI j)), some (.int (nI 1)), none, none, none, none, none]) (st' := [.int (nI 1)]) d_264_8 (fun _ => rfl) ?_
    refine rn_ic (v := 0) d_264_9 (by decide) ?_
    refine rn_ic (v := 2) d_264_10 (by decide) ?_
    refine rr_ps (as := [.int (nI 1), .int (nI 0), .int (nI 2)]) (al0 := [some (.int (nI 1)), some (.int (nI 0)), some (.int (nI 2))]) (r := []) d_264_11 mo_264 ml_106 mz_179 rfl rfl rfl (Nat.le_of_ble_eq_true rfl) (s_lies (nI 1) (nI 0) (nI 2)) ?_
    show RR _ _ 14 [some (.ref 146), some (.int (nI j)), some (.int (nI 1)), none, none, none, none, none] [.int (bI ((nI 0) ≤ (nI 1) ∧ (nI 1) ≤ (nI 2)))] g A _
    refine rr_bne (t := 19) d_264_14 (by decide) (fun c14 => ?_) (fun c14 => ?_)
    · refine rr_nx (pc' := 20) (al' := [some (.ref 146), some (.int (nI j)), some (.int (nI 1)), none, none, none, none, none]) (st' := [.ref 146]) d_264_19 (fun _ => rfl) ?_
      refine rr_nx (pc' := 21) (al' := [some (.ref 146), some (.int (nI j)), some (.int (nI 1)), none, none, none, none, none]) (st' := [.int (nI j), .ref 146]) d_264_20 (fun _ => rfl) ?_
      refine rr_pv (as := [.int (nI j)]) (al0 := [some (.ref 146), some (.int (nI j)), none]) (r := []) d_264_21 mo_264 ml_248 mz_208 rfl rfl rfl (Nat.le_of_ble_eq_true rfl) (s_lays (n := m) hj hm6 hk) ?_
      obtain ⟨wl21, hwl21⟩ : ∃ w_, w_ = rf_f (fun q => A 1 (37 * j + 1 + q)) (A 4) (m * m) := ⟨_, rfl⟩
      rw [← hwl21]
      show RR _ _ 24 [some (.ref 146), some (.int (nI j)), some (.int (nI 1)), none, none, none, none, none] [] (upd g 6 (nI m)) (rf_u A 4 wl21) _
      have hcu := cur_l (g := g) hsh hm6 hl hwl21
      refine rr_dr (al1 := [some (.ref 146), none, some (.int (nI 1)), none, none, none, none, none]) (le_s (le_d rfl (le_s (le_s (le_s (le_s (le_s (le_s (le_n))))))))) ?_
      refine rr_cq (rr_wk (by decide) (s_crossings1_24 hcu hl)) ?_
      rintro r_ g_ A_ ⟨rfl, h1_, h2_⟩
      exact ⟨rfl, (hW.q ((Gsm.rf.u rfl).tr h1_) ((Ksm.rf.u rfl).tr h2_)).mo⟩
    · exact absurd (show nI 0 ≤ nI 1 ∧ nI 1 ≤ nI 2 by decide) c14
theorem p_crossings2 {S : CS} {G : Nat → Nat → Value} {B : Nat → Nat → Int32} {J : Nat → Nat → Int64} {R : Nat → Nat → Option Nat} {n : Nat} {W : WS} (hW : WC n S G B R W) {j m : Nat} {c : Nat → Nat} (hj : j < 6) (htb : tbK (wK W) j = (m, c)) (h1 : 1 ≤ m) : CR 80 160 0 [some (.ref 2), some (.int (nI j)), some (.int (nI 2))] [] S G B J R (fun r S' G' B' J' R' => r = some (.int (nI (sqN m c))) ∧ WC (n + 1) S' G' B' R' W) := by
  have hS := hW.1.1
  have hF := hW.2.1
  have hO := hW.2.2.2.1
  obtain ⟨ta, ka, la, hH, hLk, hl2, hs3, hbd⟩ := hW.2.2.1
  obtain ⟨zt, hzt, ezt⟩ := (hH.2.1 j hj).2
  have ht := hH.ta hj
  have hsh := hH.2.2.2.2.2.2.1 j hj
  rw [show kH (wK W) (kD (wK W)) j = (m, c) from htb] at hsh
  have hok := tb_ok hO hj
  rw [htb] at hok
  have hn : G (ta j) 0 = .int (nI m) := hsh.1
  have hc : TabC B (ta j) m c := hsh.c hok
  have hl : Lat m c := hok.2
  have hm6 : m ≤ 6 := hok.1
  have hyes : hasP (wK W) (nI j) := (has_i hj).mpr (by rw [htb]; exact h1)
  refine cr_nx (pc' := 1) (al' := [some (.ref 2), some (.int (nI j)), some (.int (nI 2))]) (st' := [.ref 2]) d_160_0 (fun _ => rfl) ?_
  refine cr_nx (pc' := 2) (al' := [some (.ref 2), some (.int (nI j)), some (.int (nI 2))]) (st' := [.int (nI j), .ref 2]) d_160_1 (fun _ => rfl) ?_
  refine cr_pv (b := 2) (as := [.int (nI j)]) (al0 := [some (.ref 2), some (.int (nI j))]) (r := []) d_160_2 cw_160 cm_11_137 cz_126 rfl rfl (hS.i (a := 2) (by decide) (by decide)) (by rw [cw_126]; exact (hS.s (a := 2) (by decide) (by decide) rfl)) (by rw [cw_126]; decide) rfl (Nat.le_of_ble_eq_true rfl) (k_has hS hF hH hO) ?_
  show CR _ _ 5 [some (.ref 2), some (.int (nI j)), some (.int (nI 2))] [.int (bI (hasP (wK W) (nI j)))] S G B J R _
  refine cr_bne (t := 10) d_160_5 (by decide) (fun c5 => ?_) (fun c5 => ?_)
  · refine cr_nx (pc' := 11) (al' := [some (.ref 2), some (.int (nI j)), some (.int (nI 2))]) (st' := [.int (nI 2)]) d_160_10 (fun _ => rfl) ?_
    refine cr_ts (off := 59) (t := 70) d_160_11 (by decide) (by decide) rfl (by decide) ?_
    refine cr_nx (pc' := 71) (al' := [some (.ref 2), some (.int (nI j)), some (.int (nI 2))]) (st' := [.ref 2]) d_160_70 (fun _ => rfl) ?_
    refine cr_gf (v := .ref 3) d_160_71 cw_160 cf_11_10 (hS.i (a := 2) (by decide) (by decide)) (hS.s (a := 2) (by decide) (by decide) rfl) (by decide) (fx_2_0 hF) ?_
    refine cr_gf (v := .ref 4) d_160_74 cw_160 cf_11_140 (hS.i (a := 3) (by decide) (by decide)) (hS.s (a := 3) (by decide) (by decide) rfl) (by decide) (fx_3_0 hF) ?_
    refine cr_nx (pc' := 78) (al' := [some (.ref 2), some (.int (nI j)), some (.int (nI 2))]) (st' := [.int (nI j), .ref 4]) d_160_77 (fun _ => rfl) ?_
    refine cr_aa (a := 4) (v := .ref (ta j)) d_160_78 (hS.i (a := 4) (by decide) (by decide)) (by decide) (hS.s (a := 4) (by decide) (by decide) rfl) (by decide) (show j < 6 by first | omega | assumption | exact cu_36 (by omega) (cu_lt (by omega) (by omega))) (show va_rf _ = _ by rw [(hH.2.1 j hj).1]; rfl) ?_
    refine cr_ps (as := [.ref (ta j)]) (al0 := [some (.ref (ta j)), none, none, none]) (r := []) d_160_79 cw_160 cm_11_324 (by decide) cz_14 rfl rfl rfl (Nat.le_of_ble_eq_true rfl) (k_squares ht hn hc) ?_
    show CR _ _ 82 [some (.ref 2), some (.int (nI j)), some (.int (nI 2))] [.int (nI (sqN m c))] S G B J R _
    exact cr_ri d_160_82 cx_160 rfl ⟨rfl, hW.mo⟩
  · exact absurd hyes c5
theorem r_crossings2 {g : Nat → Int32} {A : Nat → Nat → Int32} {n : Nat} {W : WS} (hW : WR n g A W) (hO : CoOk (wK W)) {j m : Nat} {c : Nat → Nat} (hj : j < 6) (htb : tbK (wK W) j = (m, c)) (h1 : 1 ≤ m) : RR 80 264 0 [some (.ref 146), some (.int (nI j)), some (.int (nI 2)), none, none, none, none, none] [] g A (fun r g' A' => r = some (.int (nI (sqN m c))) ∧ WR (n + 1) g' A' W) := by
  have hsh := hW.1.1.1 j hj
  rw [show kH (wK W) (kD (wK W)) j = (m, c) from htb] at hsh
  have hok := tb_ok hO hj
  rw [htb] at hok
  have hk : A 1 (37 * j) = nI m := hsh.1
  have hl : Lat m c := hok.2
  have hm6 : m ≤ 6 := hok.1
  have hyes : isT A (nI j) := (has_r hW hO).mpr ((has_i hj).mpr (by rw [htb]; exact h1))
  refine rr_nx (pc' := 1) (al' := [some (.ref 146), some (.int (nI j)), some (.int (nI 2)), none, none, none, none, none]) (st' := [.ref 146]) d_264_0 (fun _ => rfl) ?_
  refine rr_nx (pc' := 2) (al' := [some (.ref 146), some (.int (nI j)), some (.int (nI 2)), none, none, none, none, none]) (st' := [.int (nI j), .ref 146]) d_264_1 (fun _ => rfl) ?_
  refine rr_pv (as := [.int (nI j)]) (al0 := [some (.ref 146), some (.int (nI j))]) (r := []) d_264_2 mo_264 ml_124 mz_184 rfl rfl rfl (Nat.le_of_ble_eq_true rfl) (s_isTable (nI j)) ?_
  show RR _ _ 5 [some (.ref 146), some (.int (nI j)), some (.int (nI 2)), none, none, none, none, none] [.int (bI (isT A (nI j)))] g A _
  refine rr_beq (t := 17) d_264_5 (by decide) (fun c5 => ?_) (fun c5 => ?_)
  · exact absurd hyes c5
  · refine rr_nx (pc' := 9) (al' := [some (.ref 146), some (.int (nI j)), some (.int (nI 2)), none, none, none, none, none]) (st' := [.int (nI 2)]) d_264_8 (fun _ => rfl) ?_
    refine rn_ic (v := 0) d_264_9 (by decide) ?_
    refine rn_ic (v := 2) d_264_10 (by decide) ?_
    refine rr_ps (as := [.int (nI 2), .int (nI 0), .int (nI 2)]) (al0 := [some (.int (nI 2)), some (.int (nI 0)), some (.int (nI 2))]) (r := []) d_264_11 mo_264 ml_106 mz_179 rfl rfl rfl (Nat.le_of_ble_eq_true rfl) (s_lies (nI 2) (nI 0) (nI 2)) ?_
    show RR _ _ 14 [some (.ref 146), some (.int (nI j)), some (.int (nI 2)), none, none, none, none, none] [.int (bI ((nI 0) ≤ (nI 2) ∧ (nI 2) ≤ (nI 2)))] g A _
    refine rr_bne (t := 19) d_264_14 (by decide) (fun c14 => ?_) (fun c14 => ?_)
    · refine rr_nx (pc' := 20) (al' := [some (.ref 146), some (.int (nI j)), some (.int (nI 2)), none, none, none, none, none]) (st' := [.ref 146]) d_264_19 (fun _ => rfl) ?_
      refine rr_nx (pc' := 21) (al' := [some (.ref 146), some (.int (nI j)), some (.int (nI 2)), none, none, none, none, none]) (st' := [.int (nI j), .ref 146]) d_264_20 (fun _ => rfl) ?_
      refine rr_pv (as := [.int (nI j)]) (al0 := [some (.ref 146), some (.int (nI j)), none]) (r := []) d_264_21 mo_264 ml_248 mz_208 rfl rfl rfl (Nat.le_of_ble_eq_true rfl) (s_lays (n := m) hj hm6 hk) ?_
      obtain ⟨wl21, hwl21⟩ : ∃ w_, w_ = rf_f (fun q => A 1 (37 * j + 1 + q)) (A 4) (m * m) := ⟨_, rfl⟩
      rw [← hwl21]
      show RR _ _ 24 [some (.ref 146), some (.int (nI j)), some (.int (nI 2)), none, none, none, none, none] [] (upd g 6 (nI m)) (rf_u A 4 wl21) _
      have hcu := cur_l (g := g) hsh hm6 hl hwl21
      refine rr_dr (al1 := [some (.ref 146), none, some (.int (nI 2)), none, none, none, none, none]) (le_s (le_d rfl (le_s (le_s (le_s (le_s (le_s (le_s (le_n))))))))) ?_
      refine rr_cq (rr_wk (by decide) (s_crossings2_24 hcu)) ?_
      rintro r_ g_ A_ ⟨rfl, rfl, rfl⟩
      exact ⟨rfl, (hW.q (Gsm.rf.u rfl) (Ksm.rf.u rfl)).mo⟩
    · exact absurd (show nI 0 ≤ nI 2 ∧ nI 2 ≤ nI 2 by decide) c14
theorem p_crossings_n {S : CS} {G : Nat → Nat → Value} {B : Nat → Nat → Int32} {J : Nat → Nat → Int64} {R : Nat → Nat → Option Nat} {n : Nat} {W : WS} (hW : WC n S G B R W) {t : Int32} (hh : ¬ hasP (wK W) t) {w : Int32} : CR 80 160 0 [some (.ref 2), some (.int t), some (.int w)] [] S G B J R (fun r S' G' B' J' R' => r = some (.int (-1)) ∧ WC (n + 1) S' G' B' R' W) := by
  have hS := hW.1.1
  have hF := hW.2.1
  have hO := hW.2.2.2.1
  obtain ⟨ta, ka, la, hH, hLk, hl2, hs3, hbd⟩ := hW.2.2.1
  refine cr_nx (pc' := 1) (al' := [some (.ref 2), some (.int t), some (.int w)]) (st' := [.ref 2]) d_160_0 (fun _ => rfl) ?_
  refine cr_nx (pc' := 2) (al' := [some (.ref 2), some (.int t), some (.int w)]) (st' := [.int t, .ref 2]) d_160_1 (fun _ => rfl) ?_
  refine cr_pv (b := 2) (as := [.int t]) (al0 := [some (.ref 2), some (.int t)]) (r := []) d_160_2 cw_160 cm_11_137 cz_126 rfl rfl (hS.i (a := 2) (by decide) (by decide)) (by rw [cw_126]; exact (hS.s (a := 2) (by decide) (by decide) rfl)) (by rw [cw_126]; decide) rfl (Nat.le_of_ble_eq_true rfl) (k_has hS hF hH hO) ?_
  show CR _ _ 5 [some (.ref 2), some (.int t), some (.int w)] [.int (bI (hasP (wK W) t))] S G B J R _
  refine cr_bne (t := 10) d_160_5 (by decide) (fun c5 => ?_) (fun c5 => ?_)
  · exact absurd c5 hh
  · refine cr_nx (pc' := 9) (al' := [some (.ref 2), some (.int t), some (.int w)]) (st' := [.int (-1)]) d_160_8 (fun _ => rfl) ?_
    exact cr_ri d_160_9 cx_160 rfl ⟨rfl, hW.mo⟩
theorem r_crossings_n {g : Nat → Int32} {A : Nat → Nat → Int32} {n : Nat} {W : WS} (hW : WR n g A W) (hO : CoOk (wK W)) {t : Int32} (hh : ¬ hasP (wK W) t) {w : Int32} : RR 80 264 0 [some (.ref 146), some (.int t), some (.int w), none, none, none, none, none] [] g A (fun r g' A' => r = some (.int (-1)) ∧ WR (n + 1) g' A' W) := by
  refine rr_nx (pc' := 1) (al' := [some (.ref 146), some (.int t), some (.int w), none, none, none, none, none]) (st' := [.ref 146]) d_264_0 (fun _ => rfl) ?_
  refine rr_nx (pc' := 2) (al' := [some (.ref 146), some (.int t), some (.int w), none, none, none, none, none]) (st' := [.int t, .ref 146]) d_264_1 (fun _ => rfl) ?_
  refine rr_pv (as := [.int t]) (al0 := [some (.ref 146), some (.int t)]) (r := []) d_264_2 mo_264 ml_124 mz_184 rfl rfl rfl (Nat.le_of_ble_eq_true rfl) (s_isTable t) ?_
  show RR _ _ 5 [some (.ref 146), some (.int t), some (.int w), none, none, none, none, none] [.int (bI (isT A t))] g A _
  refine rr_beq (t := 17) d_264_5 (by decide) (fun c5 => ?_) (fun c5 => ?_)
  · refine rr_nx (pc' := 18) (al' := [some (.ref 146), some (.int t), some (.int w), none, none, none, none, none]) (st' := [.int (-1)]) d_264_17 (fun _ => rfl) ?_
    exact rr_ri d_264_18 mr_264 rfl ⟨rfl, hW.mo⟩
  · exact absurd c5 (fun e_ => hh ((has_r hW hO).mp e_))
theorem T_crossings {S : CS} {G : Nat → Nat → Value} {B : Nat → Nat → Int32} {J : Nat → Nat → Int64} {R : Nat → Nat → Option Nat} {g : Nat → Int32} {A : Nat → Nat → Int32} {n : Nat} {W : WS} (hC : WC n S G B R W) (hR : WR n g A W) (hn : n ≤ 10000) {t : Int32} {w : Int32} : Tie n 160 264 [some (.ref 2), some (.int t), some (.int w)] [some (.ref 146), some (.int t), some (.int w), none, none, none, none, none] S G B J R g A W := by
  have hO := hC.2.2.2.1
  by_cases hh : hasP (wK W) t
  · obtain ⟨j, hj, e_, h1⟩ := has_n hh
    subst e_
    obtain ⟨⟨m, c⟩, htb⟩ : ∃ tb, tbK (wK W) j = tb := ⟨_, rfl⟩
    rw [htb] at h1
    by_cases hw : inP w 3
    · obtain ⟨k, hk, e_⟩ := in_n hw
      subst e_
      have hk2 : k = 0 ∨ k = 1 ∨ k = 2 := by omega
      rcases hk2 with rfl | rfl | rfl
      · exact ⟨_, W, p_crossings0 hC hj htb h1, r_crossings0 hR hO hj htb h1⟩
      · exact ⟨_, W, p_crossings1 hC hj htb h1, r_crossings1 hR hO hj htb h1⟩
      · exact ⟨_, W, p_crossings2 hC hj htb h1, r_crossings2 hR hO hj htb h1⟩
    · exact ⟨_, W, p_crossingsX hC hj htb h1 hw, r_crossingsX hR hO hj htb h1 hw⟩
  · exact ⟨_, W, p_crossings_n hC hh, r_crossings_n hR hO hh⟩
theorem p_groupX {S : CS} {G : Nat → Nat → Value} {B : Nat → Nat → Int32} {J : Nat → Nat → Int64} {R : Nat → Nat → Option Nat} {n : Nat} {W : WS} (hW : WC n S G B R W) {j m : Nat} {c : Nat → Nat} (hj : j < 6) (htb : tbK (wK W) j = (m, c)) (h1 : 1 ≤ m) {w : Int32} (hw : ¬ inP w 3) : CR 80 153 0 [some (.ref 2), some (.int (nI j)), some (.int w)] [] S G B J R (fun r S' G' B' J' R' => r = some (.int (-1)) ∧ WC (n + 1) S' G' B' R' W) := by
  have hS := hW.1.1
  have hF := hW.2.1
  have hO := hW.2.2.2.1
  obtain ⟨ta, ka, la, hH, hLk, hl2, hs3, hbd⟩ := hW.2.2.1
  obtain ⟨zt, hzt, ezt⟩ := (hH.2.1 j hj).2
  have ht := hH.ta hj
  have hsh := hH.2.2.2.2.2.2.1 j hj
  rw [show kH (wK W) (kD (wK W)) j = (m, c) from htb] at hsh
  have hok := tb_ok hO hj
  rw [htb] at hok
  have hn : G (ta j) 0 = .int (nI m) := hsh.1
  have hc : TabC B (ta j) m c := hsh.c hok
  have hl : Lat m c := hok.2
  have hm6 : m ≤ 6 := hok.1
  have hyes : hasP (wK W) (nI j) := (has_i hj).mpr (by rw [htb]; exact h1)
  refine cr_nx (pc' := 1) (al' := [some (.ref 2), some (.int (nI j)), some (.int w)]) (st' := [.ref 2]) d_153_0 (fun _ => rfl) ?_
  refine cr_nx (pc' := 2) (al' := [some (.ref 2), some (.int (nI j)), some (.int w)]) (st' := [.int (nI j), .ref 2]) d_153_1 (fun _ => rfl) ?_
  refine cr_pv (b := 2) (as := [.int (nI j)]) (al0 := [some (.ref 2), some (.int (nI j))]) (r := []) d_153_2 cw_153 cm_11_137 cz_126 rfl rfl (hS.i (a := 2) (by decide) (by decide)) (by rw [cw_126]; exact (hS.s (a := 2) (by decide) (by decide) rfl)) (by rw [cw_126]; decide) rfl (Nat.le_of_ble_eq_true rfl) (k_has hS hF hH hO) ?_
  show CR _ _ 5 [some (.ref 2), some (.int (nI j)), some (.int w)] [.int (bI (hasP (wK W) (nI j)))] S G B J R _
  refine cr_beq (t := 17) d_153_5 (by decide) (fun c5 => ?_) (fun c5 => ?_)
  · exact absurd hyes c5
  · refine cr_nx (pc' := 9) (al' := [some (.ref 2), some (.int (nI j)), some (.int w)]) (st' := [.int w]) d_153_8 (fun _ => rfl) ?_
    refine cr_ilt (t := 17) d_153_9 (by decide) (fun c9 => ?_) (fun c9 => ?_)
    · refine cr_nx (pc' := 18) (al' := [some (.ref 2), some (.int (nI j)), some (.int w)]) (st' := [.int (-1)]) d_153_17 (fun _ => rfl) ?_
      exact cr_ri d_153_18 cx_153 rfl ⟨rfl, hW.mo⟩
    · refine cr_nx (pc' := 13) (al' := [some (.ref 2), some (.int (nI j)), some (.int w)]) (st' := [.int w]) d_153_12 (fun _ => rfl) ?_
      refine cn_ic (v := 2) d_153_13 (by decide) ?_
      refine cr_cle (t := 19) d_153_14 (by decide) (fun c14 => ?_) (fun c14 => ?_)
      · exact absurd (show inP w 3 from ⟨by rw [i_lt0] at c9; omega, by rw [i_Nle (by decide)] at c14; omega⟩) hw
      · refine cr_nx (pc' := 18) (al' := [some (.ref 2), some (.int (nI j)), some (.int w)]) (st' := [.int (-1)]) d_153_17 (fun _ => rfl) ?_
        exact cr_ri d_153_18 cx_153 rfl ⟨rfl, hW.mo⟩
theorem r_groupX {g : Nat → Int32} {A : Nat → Nat → Int32} {n : Nat} {W : WS} (hW : WR n g A W) (hO : CoOk (wK W)) {j m : Nat} {c : Nat → Nat} (hj : j < 6) (htb : tbK (wK W) j = (m, c)) (h1 : 1 ≤ m) {w : Int32} (hw : ¬ inP w 3) : RR 80 255 0 [some (.ref 146), some (.int (nI j)), some (.int w), none, none, none, none, none] [] g A (fun r g' A' => r = some (.int (-1)) ∧ WR (n + 1) g' A' W) := by
  have hsh := hW.1.1.1 j hj
  rw [show kH (wK W) (kD (wK W)) j = (m, c) from htb] at hsh
  have hok := tb_ok hO hj
  rw [htb] at hok
  have hk : A 1 (37 * j) = nI m := hsh.1
  have hl : Lat m c := hok.2
  have hm6 : m ≤ 6 := hok.1
  have hyes : isT A (nI j) := (has_r hW hO).mpr ((has_i hj).mpr (by rw [htb]; exact h1))
  refine rr_nx (pc' := 1) (al' := [some (.ref 146), some (.int (nI j)), some (.int w), none, none, none, none, none]) (st' := [.ref 146]) d_255_0 (fun _ => rfl) ?_
  refine rr_nx (pc' := 2) (al' := [some (.ref 146), some (.int (nI j)), some (.int w), none, none, none, none, none]) (st' := [.int (nI j), .ref 146]) d_255_1 (fun _ => rfl) ?_
  refine rr_pv (as := [.int (nI j)]) (al0 := [some (.ref 146), some (.int (nI j))]) (r := []) d_255_2 mo_255 ml_124 mz_184 rfl rfl rfl (Nat.le_of_ble_eq_true rfl) (s_isTable (nI j)) ?_
  show RR _ _ 5 [some (.ref 146), some (.int (nI j)), some (.int w), none, none, none, none, none] [.int (bI (isT A (nI j)))] g A _
  refine rr_beq (t := 17) d_255_5 (by decide) (fun c5 => ?_) (fun c5 => ?_)
  · exact absurd hyes c5
  · refine rr_nx (pc' := 9) (al' := [some (.ref 146), some (.int (nI j)), some (.int w), none, none, none, none, none]) (st' := [.int w]) d_255_8 (fun _ => rfl) ?_
    refine rn_ic (v := 0) d_255_9 (by decide) ?_
    refine rn_ic (v := 2) d_255_10 (by decide) ?_
    refine rr_ps (as := [.int w, .int (nI 0), .int (nI 2)]) (al0 := [some (.int w), some (.int (nI 0)), some (.int (nI 2))]) (r := []) d_255_11 mo_255 ml_106 mz_179 rfl rfl rfl (Nat.le_of_ble_eq_true rfl) (s_lies w (nI 0) (nI 2)) ?_
    show RR _ _ 14 [some (.ref 146), some (.int (nI j)), some (.int w), none, none, none, none, none] [.int (bI ((nI 0) ≤ w ∧ w ≤ (nI 2)))] g A _
    refine rr_bne (t := 19) d_255_14 (by decide) (fun c14 => ?_) (fun c14 => ?_)
    · exact absurd c14 (fun e_ => hw ((in_r (m := 2) (by decide)).mp e_))
    · refine rr_nx (pc' := 18) (al' := [some (.ref 146), some (.int (nI j)), some (.int w), none, none, none, none, none]) (st' := [.int (-1)]) d_255_17 (fun _ => rfl) ?_
      exact rr_ri d_255_18 mr_255 rfl ⟨rfl, hW.mo⟩
theorem p_group0 {S : CS} {G : Nat → Nat → Value} {B : Nat → Nat → Int32} {J : Nat → Nat → Int64} {R : Nat → Nat → Option Nat} {n : Nat} {W : WS} (hW : WC n S G B R W) {j m : Nat} {c : Nat → Nat} (hj : j < 6) (htb : tbK (wK W) j = (m, c)) (h1 : 1 ≤ m) : CR 80 153 0 [some (.ref 2), some (.int (nI j)), some (.int (nI 0))] [] S G B J R (fun r S' G' B' J' R' => r = some (.int (nI (gpN m c 0 m))) ∧ WC (n + 1) S' G' B' R' W) := by
  have hS := hW.1.1
  have hF := hW.2.1
  have hO := hW.2.2.2.1
  obtain ⟨ta, ka, la, hH, hLk, hl2, hs3, hbd⟩ := hW.2.2.1
  obtain ⟨zt, hzt, ezt⟩ := (hH.2.1 j hj).2
  have ht := hH.ta hj
  have hsh := hH.2.2.2.2.2.2.1 j hj
  rw [show kH (wK W) (kD (wK W)) j = (m, c) from htb] at hsh
  have hok := tb_ok hO hj
  rw [htb] at hok
  have hn : G (ta j) 0 = .int (nI m) := hsh.1
  have hc : TabC B (ta j) m c := hsh.c hok
  have hl : Lat m c := hok.2
  have hm6 : m ≤ 6 := hok.1
  have hyes : hasP (wK W) (nI j) := (has_i hj).mpr (by rw [htb]; exact h1)
  refine cr_nx (pc' := 1) (al' := [some (.ref 2), some (.int (nI j)), some (.int (nI 0))]) (st' := [.ref 2]) d_153_0 (fun _ => rfl) ?_
  refine cr_nx (pc' := 2) (al' := [some (.ref 2), some (.int (nI j)), some (.int (nI 0))]) (st' := [.int (nI j), .ref 2]) d_153_1 (fun _ => rfl) ?_
  refine cr_pv (b := 2) (as := [.int (nI j)]) (al0 := [some (.ref 2), some (.int (nI j))]) (r := []) d_153_2 cw_153 cm_11_137 cz_126 rfl rfl (hS.i (a := 2) (by decide) (by decide)) (by rw [cw_126]; exact (hS.s (a := 2) (by decide) (by decide) rfl)) (by rw [cw_126]; decide) rfl (Nat.le_of_ble_eq_true rfl) (k_has hS hF hH hO) ?_
  show CR _ _ 5 [some (.ref 2), some (.int (nI j)), some (.int (nI 0))] [.int (bI (hasP (wK W) (nI j)))] S G B J R _
  refine cr_beq (t := 17) d_153_5 (by decide) (fun c5 => ?_) (fun c5 => ?_)
  · exact absurd hyes c5
  · refine cr_nx (pc' := 9) (al' := [some (.ref 2), some (.int (nI j)), some (.int (nI 0))]) (st' := [.int (nI 0)]) d_153_8 (fun _ => rfl) ?_
    refine cn_zlt (t := 17) d_153_9 (by decide) (by first | omega | assumption | exact cu_36 (by omega) (cu_lt (by omega) (by omega))) (fun c9 => ?_) (fun c9 => ?_)
    · exact c9.elim
    · refine cr_nx (pc' := 13) (al' := [some (.ref 2), some (.int (nI j)), some (.int (nI 0))]) (st' := [.int (nI 0)]) d_153_12 (fun _ => rfl) ?_
      refine cn_ic (v := 2) d_153_13 (by decide) ?_
      refine cn_cle (t := 19) d_153_14 (by decide) (by first | omega | assumption | exact cu_36 (by omega) (cu_lt (by omega) (by omega))) (by first | omega | assumption | exact cu_36 (by omega) (cu_lt (by omega) (by omega))) (fun c14 => ?_) (fun c14 => ?_)
      · refine cr_nx (pc' := 20) (al' := [some (.ref 2), some (.int (nI j)), some (.int (nI 0))]) (st' := [.ref 2]) d_153_19 (fun _ => rfl) ?_
        refine cr_gf (v := .ref 133) d_153_20 cw_153 cf_11_79 (hS.i (a := 2) (by decide) (by decide)) (hS.s (a := 2) (by decide) (by decide) rfl) (by decide) (fx_2_13 hF) ?_
        refine cr_nx (pc' := 24) (al' := [some (.ref 2), some (.int (nI j)), some (.int (nI 0))]) (st' := [.ref 2, .ref 133]) d_153_23 (fun _ => rfl) ?_
        refine cr_gf (v := .ref 3) d_153_24 cw_153 cf_11_10 (hS.i (a := 2) (by decide) (by decide)) (hS.s (a := 2) (by decide) (by decide) rfl) (by decide) (fx_2_0 hF) ?_
        refine cr_gf (v := .ref 4) d_153_27 cw_153 cf_11_140 (hS.i (a := 3) (by decide) (by decide)) (hS.s (a := 3) (by decide) (by decide) rfl) (by decide) (fx_3_0 hF) ?_
        refine cr_nx (pc' := 31) (al' := [some (.ref 2), some (.int (nI j)), some (.int (nI 0))]) (st' := [.int (nI j), .ref 4, .ref 133]) d_153_30 (fun _ => rfl) ?_
        refine cr_aa (a := 4) (v := .ref (ta j)) d_153_31 (hS.i (a := 4) (by decide) (by decide)) (by decide) (hS.s (a := 4) (by decide) (by decide) rfl) (by decide) (show j < 6 by first | omega | assumption | exact cu_36 (by omega) (cu_lt (by omega) (by omega))) (show va_rf _ = _ by rw [(hH.2.1 j hj).1]; rfl) ?_
        refine cr_nx (pc' := 33) (al' := [some (.ref 2), some (.int (nI j)), some (.int (nI 0))]) (st' := [.int (nI 0), .ref (ta j), .ref 133]) d_153_32 (fun _ => rfl) ?_
        refine cn_ic (v := 1) d_153_33 (by decide) ?_
        refine cn_ceq (t := 41) d_153_34 (by decide) (by first | omega | assumption | exact cu_36 (by omega) (cu_lt (by omega) (by omega))) (by first | omega | assumption | exact cu_36 (by omega) (cu_lt (by omega) (by omega))) (fun c34 => ?_) (fun c34 => ?_)
        · omega
        · refine cn_ic (v := 1) d_153_37 (by decide) ?_
          refine cr_nx (pc' := 42) (al' := [some (.ref 2), some (.int (nI j)), some (.int (nI 0))]) (st' := [.int (nI 1), .ref (ta j), .ref 133]) d_153_38 (fun _ => rfl) ?_
          refine cr_nx (pc' := 43) (al' := [some (.ref 2), some (.int (nI j)), some (.int (nI 0))]) (st' := [.int (nI 0), .int (nI 1), .ref (ta j), .ref 133]) d_153_42 (fun _ => rfl) ?_
          refine cn_ieq (t := 50) d_153_43 (by decide) (by first | omega | assumption | exact cu_36 (by omega) (cu_lt (by omega) (by omega))) (fun c43 => ?_) (fun c43 => ?_)
          · refine cn_ic (v := 0) d_153_50 (by decide) ?_
            refine cr_cv (b := 133) (as := [.ref (ta j), .int (nI 1), .int (nI 0)]) (al0 := [some (.ref 133), some (.ref (ta j)), some (.int (nI 1)), some (.int (nI 0)), none, none, none]) (r := []) d_153_51 cw_153 cm_11_298 cz_69 rfl rfl (hS.i (a := 133) (by decide) (by decide)) (by rw [cw_69]; exact (hS.s (a := 133) (by decide) (by decide) rfl)) (by rw [cw_69]; decide) rfl (cr_wk (Nat.le_of_ble_eq_true rfl) (k_madeBy0 hS hF ht hn hc hl h1 (by omega))) (fun v1 S1 G1 B1 J1 R1 h1 => ?_)
            obtain ⟨q1_, q2_, q3_, h4_, h5_, h6_, l, i, hB, hle, q0_⟩ := h1
            obtain rfl := q0_
            obtain rfl := q1_.symm
            obtain rfl := q2_.symm
            obtain rfl := q3_.symm
            rw [gp_e hB hle]
            show CR _ _ 54 [some (.ref 2), some (.int (nI j)), some (.int (nI 0))] [.int (nI (gpN m c 0 m))] S G1 B1 J R _
            exact cr_ri d_153_54 cx_153 rfl ⟨rfl, (hW.q h4_ (h5_.mo (by decide)) (h6_.mo (by decide))).mo⟩
          · omega
      · omega
theorem r_group0 {g : Nat → Int32} {A : Nat → Nat → Int32} {n : Nat} {W : WS} (hW : WR n g A W) (hO : CoOk (wK W)) {j m : Nat} {c : Nat → Nat} (hj : j < 6) (htb : tbK (wK W) j = (m, c)) (h1 : 1 ≤ m) : RR 80 255 0 [some (.ref 146), some (.int (nI j)), some (.int (nI 0)), none, none, none, none, none] [] g A (fun r g' A' => r = some (.int (nI (gpN m c 0 m))) ∧ WR (n + 1) g' A' W) := by
  have hsh := hW.1.1.1 j hj
  rw [show kH (wK W) (kD (wK W)) j = (m, c) from htb] at hsh
  have hok := tb_ok hO hj
  rw [htb] at hok
  have hk : A 1 (37 * j) = nI m := hsh.1
  have hl : Lat m c := hok.2
  have hm6 : m ≤ 6 := hok.1
  have hyes : isT A (nI j) := (has_r hW hO).mpr ((has_i hj).mpr (by rw [htb]; exact h1))
  refine rr_nx (pc' := 1) (al' := [some (.ref 146), some (.int (nI j)), some (.int (nI 0)), none, none, none, none, none]) (st' := [.ref 146]) d_255_0 (fun _ => rfl) ?_
  refine rr_nx (pc' := 2) (al' := [some (.ref 146), some (.int (nI j)), some (.int (nI 0)), none, none, none, none, none]) (st' := [.int (nI j), .ref 146]) d_255_1 (fun _ => rfl) ?_
  refine rr_pv (as := [.int (nI j)]) (al0 := [some (.ref 146), some (.int (nI j))]) (r := []) d_255_2 mo_255 ml_124 mz_184 rfl rfl rfl (Nat.le_of_ble_eq_true rfl) (s_isTable (nI j)) ?_
  show RR _ _ 5 [some (.ref 146), some (.int (nI j)), some (.int (nI 0)), none, none, none, none, none] [.int (bI (isT A (nI j)))] g A _
  refine rr_beq (t := 17) d_255_5 (by decide) (fun c5 => ?_) (fun c5 => ?_)
  · exact absurd hyes c5
  · refine rr_nx (pc' := 9) (al' := [some (.ref 146), some (.int (nI j)), some (.int (nI 0)), none, none, none, none, none]) (st' := [.int (nI 0)]) d_255_8 (fun _ => rfl) ?_
    refine rn_ic (v := 0) d_255_9 (by decide) ?_
    refine rn_ic (v := 2) d_255_10 (by decide) ?_
    refine rr_ps (as := [.int (nI 0), .int (nI 0), .int (nI 2)]) (al0 := [some (.int (nI 0)), some (.int (nI 0)), some (.int (nI 2))]) (r := []) d_255_11 mo_255 ml_106 mz_179 rfl rfl rfl (Nat.le_of_ble_eq_true rfl) (s_lies (nI 0) (nI 0) (nI 2)) ?_
    show RR _ _ 14 [some (.ref 146), some (.int (nI j)), some (.int (nI 0)), none, none, none, none, none] [.int (bI ((nI 0) ≤ (nI 0) ∧ (nI 0) ≤ (nI 2)))] g A _
    refine rr_bne (t := 19) d_255_14 (by decide) (fun c14 => ?_) (fun c14 => ?_)
    · refine rr_nx (pc' := 20) (al' := [some (.ref 146), some (.int (nI j)), some (.int (nI 0)), none, none, none, none, none]) (st' := [.ref 146]) d_255_19 (fun _ => rfl) ?_
      refine rr_nx (pc' := 21) (al' := [some (.ref 146), some (.int (nI j)), some (.int (nI 0)), none, none, none, none, none]) (st' := [.int (nI j), .ref 146]) d_255_20 (fun _ => rfl) ?_
      refine rr_pv (as := [.int (nI j)]) (al0 := [some (.ref 146), some (.int (nI j)), none]) (r := []) d_255_21 mo_255 ml_248 mz_208 rfl rfl rfl (Nat.le_of_ble_eq_true rfl) (s_lays (n := m) hj hm6 hk) ?_
      obtain ⟨wl21, hwl21⟩ : ∃ w_, w_ = rf_f (fun q => A 1 (37 * j + 1 + q)) (A 4) (m * m) := ⟨_, rfl⟩
      rw [← hwl21]
      show RR _ _ 24 [some (.ref 146), some (.int (nI j)), some (.int (nI 0)), none, none, none, none, none] [] (upd g 6 (nI m)) (rf_u A 4 wl21) _
      have hcu := cur_l (g := g) hsh hm6 hl hwl21
      refine rr_dr (al1 := [some (.ref 146), none, some (.int (nI 0)), none, none, none, none, none]) (le_s (le_d rfl (le_s (le_s (le_s (le_s (le_s (le_s (le_n))))))))) ?_
      refine rr_cq (rr_wk (by decide) (s_group0 hcu hl)) ?_
      rintro r_ g_ A_ ⟨l, i, hB, hle, rfl, h1_, h2_⟩
      exact ⟨by rw [gp_e hB hle], (hW.q ((Gsm.rf.u rfl).tr h1_) ((Ksm.rf.u rfl).tr h2_)).mo⟩
    · exact absurd (show nI 0 ≤ nI 0 ∧ nI 0 ≤ nI 2 by decide) c14
theorem p_group1 {S : CS} {G : Nat → Nat → Value} {B : Nat → Nat → Int32} {J : Nat → Nat → Int64} {R : Nat → Nat → Option Nat} {n : Nat} {W : WS} (hW : WC n S G B R W) {j m : Nat} {c : Nat → Nat} (hj : j < 6) (htb : tbK (wK W) j = (m, c)) (h1 : 1 ≤ m) : CR 80 153 0 [some (.ref 2), some (.int (nI j)), some (.int (nI 1))] [] S G B J R (fun r S' G' B' J' R' => r = some (.int (nI (gpN m c m (2 * m)))) ∧ WC (n + 1) S' G' B' R' W) := by
  have hS := hW.1.1
  have hF := hW.2.1
  have hO := hW.2.2.2.1
  obtain ⟨ta, ka, la, hH, hLk, hl2, hs3, hbd⟩ := hW.2.2.1
  obtain ⟨zt, hzt, ezt⟩ := (hH.2.1 j hj).2
  have ht := hH.ta hj
  have hsh := hH.2.2.2.2.2.2.1 j hj
  rw [show kH (wK W) (kD (wK W)) j = (m, c) from htb] at hsh
  have hok := tb_ok hO hj
  rw [htb] at hok
  have hn : G (ta j) 0 = .int (nI m) := hsh.1
  have hc : TabC B (ta j) m c := hsh.c hok
  have hl : Lat m c := hok.2
  have hm6 : m ≤ 6 := hok.1
  have hyes : hasP (wK W) (nI j) := (has_i hj).mpr (by rw [htb]; exact h1)
  refine cr_nx (pc' := 1) (al' := [some (.ref 2), some (.int (nI j)), some (.int (nI 1))]) (st' := [.ref 2]) d_153_0 (fun _ => rfl) ?_
  refine cr_nx (pc' := 2) (al' := [some (.ref 2), some (.int (nI j)), some (.int (nI 1))]) (st' := [.int (nI j), .ref 2]) d_153_1 (fun _ => rfl) ?_
  refine cr_pv (b := 2) (as := [.int (nI j)]) (al0 := [some (.ref 2), some (.int (nI j))]) (r := []) d_153_2 cw_153 cm_11_137 cz_126 rfl rfl (hS.i (a := 2) (by decide) (by decide)) (by rw [cw_126]; exact (hS.s (a := 2) (by decide) (by decide) rfl)) (by rw [cw_126]; decide) rfl (Nat.le_of_ble_eq_true rfl) (k_has hS hF hH hO) ?_
  show CR _ _ 5 [some (.ref 2), some (.int (nI j)), some (.int (nI 1))] [.int (bI (hasP (wK W) (nI j)))] S G B J R _
  refine cr_beq (t := 17) d_153_5 (by decide) (fun c5 => ?_) (fun c5 => ?_)
  · exact absurd hyes c5
  · refine cr_nx (pc' := 9) (al' := [some (.ref 2), some (.int (nI j)), some (.int (nI 1))]) (st' := [.int (nI 1)]) d_153_8 (fun _ => rfl) ?_
    refine cn_zlt (t := 17) d_153_9 (by decide) (by first | omega | assumption | exact cu_36 (by omega) (cu_lt (by omega) (by omega))) (fun c9 => ?_) (fun c9 => ?_)
    · exact c9.elim
    · refine cr_nx (pc' := 13) (al' := [some (.ref 2), some (.int (nI j)), some (.int (nI 1))]) (st' := [.int (nI 1)]) d_153_12 (fun _ => rfl) ?_
      refine cn_ic (v := 2) d_153_13 (by decide) ?_
      refine cn_cle (t := 19) d_153_14 (by decide) (by first | omega | assumption | exact cu_36 (by omega) (cu_lt (by omega) (by omega))) (by first | omega | assumption | exact cu_36 (by omega) (cu_lt (by omega) (by omega))) (fun c14 => ?_) (fun c14 => ?_)
      · refine cr_nx (pc' := 20) (al' := [some (.ref 2), some (.int (nI j)), some (.int (nI 1))]) (st' := [.ref 2]) d_153_19 (fun _ => rfl) ?_
        refine cr_gf (v := .ref 133) d_153_20 cw_153 cf_11_79 (hS.i (a := 2) (by decide) (by decide)) (hS.s (a := 2) (by decide) (by decide) rfl) (by decide) (fx_2_13 hF) ?_
        refine cr_nx (pc' := 24) (al' := [some (.ref 2), some (.int (nI j)), some (.int (nI 1))]) (st' := [.ref 2, .ref 133]) d_153_23 (fun _ => rfl) ?_
        refine cr_gf (v := .ref 3) d_153_24 cw_153 cf_11_10 (hS.i (a := 2) (by decide) (by decide)) (hS.s (a := 2) (by decide) (by decide) rfl) (by decide) (fx_2_0 hF) ?_
        refine cr_gf (v := .ref 4) d_153_27 cw_153 cf_11_140 (hS.i (a := 3) (by decide) (by decide)) (hS.s (a := 3) (by decide) (by decide) rfl) (by decide) (fx_3_0 hF) ?_
        refine cr_nx (pc' := 31) (al' := [some (.ref 2), some (.int (nI j)), some (.int (nI 1))]) (st' := [.int (nI j), .ref 4, .ref 133]) d_153_30 (fun _ => rfl) ?_
        refine cr_aa (a := 4) (v := .ref (ta j)) d_153_31 (hS.i (a := 4) (by decide) (by decide)) (by decide) (hS.s (a := 4) (by decide) (by decide) rfl) (by decide) (show j < 6 by first | omega | assumption | exact cu_36 (by omega) (cu_lt (by omega) (by omega))) (show va_rf _ = _ by rw [(hH.2.1 j hj).1]; rfl) ?_
        refine cr_nx (pc' := 33) (al' := [some (.ref 2), some (.int (nI j)), some (.int (nI 1))]) (st' := [.int (nI 1), .ref (ta j), .ref 133]) d_153_32 (fun _ => rfl) ?_
        refine cn_ic (v := 1) d_153_33 (by decide) ?_
        refine cn_ceq (t := 41) d_153_34 (by decide) (by first | omega | assumption | exact cu_36 (by omega) (cu_lt (by omega) (by omega))) (by first | omega | assumption | exact cu_36 (by omega) (cu_lt (by omega) (by omega))) (fun c34 => ?_) (fun c34 => ?_)
        · refine cn_ic (v := 0) d_153_41 (by decide) ?_
          refine cr_nx (pc' := 43) (al' := [some (.ref 2), some (.int (nI j)), some (.int (nI 1))]) (st' := [.int (nI 1), .int (nI 0), .ref (ta j), .ref 133]) d_153_42 (fun _ => rfl) ?_
          refine cn_ieq (t := 50) d_153_43 (by decide) (by first | omega | assumption | exact cu_36 (by omega) (cu_lt (by omega) (by omega))) (fun c43 => ?_) (fun c43 => ?_)
          · omega
          · refine cn_ic (v := 1) d_153_46 (by decide) ?_
            refine cr_nx (pc' := 51) (al' := [some (.ref 2), some (.int (nI j)), some (.int (nI 1))]) (st' := [.int (nI 1), .int (nI 0), .ref (ta j), .ref 133]) d_153_47 (fun _ => rfl) ?_
            refine cr_cv (b := 133) (as := [.ref (ta j), .int (nI 0), .int (nI 1)]) (al0 := [some (.ref 133), some (.ref (ta j)), some (.int (nI 0)), some (.int (nI 1)), none, none, none]) (r := []) d_153_51 cw_153 cm_11_298 cz_69 rfl rfl (hS.i (a := 133) (by decide) (by decide)) (by rw [cw_69]; exact (hS.s (a := 133) (by decide) (by decide) rfl)) (by rw [cw_69]; decide) rfl (cr_wk (Nat.le_of_ble_eq_true rfl) (k_madeBy1 hS hF ht hn hc hl h1 (by omega))) (fun v1 S1 G1 B1 J1 R1 h1 => ?_)
            obtain ⟨q1_, q2_, q3_, h4_, h5_, h6_, l, i, hB, hle, q0_⟩ := h1
            obtain rfl := q0_
            obtain rfl := q1_.symm
            obtain rfl := q2_.symm
            obtain rfl := q3_.symm
            rw [gp_e hB hle]
            show CR _ _ 54 [some (.ref 2), some (.int (nI j)), some (.int (nI 1))] [.int (nI (gpN m c m (2 * m)))] S G1 B1 J R _
            exact cr_ri d_153_54 cx_153 rfl ⟨rfl, (hW.q h4_ (h5_.mo (by decide)) (h6_.mo (by decide))).mo⟩
        · omega
      · omega
theorem r_group1 {g : Nat → Int32} {A : Nat → Nat → Int32} {n : Nat} {W : WS} (hW : WR n g A W) (hO : CoOk (wK W)) {j m : Nat} {c : Nat → Nat} (hj : j < 6) (htb : tbK (wK W) j = (m, c)) (h1 : 1 ≤ m) : RR 80 255 0 [some (.ref 146), some (.int (nI j)), some (.int (nI 1)), none, none, none, none, none] [] g A (fun r g' A' => r = some (.int (nI (gpN m c m (2 * m)))) ∧ WR (n + 1) g' A' W) := by
  have hsh := hW.1.1.1 j hj
  rw [show kH (wK W) (kD (wK W)) j = (m, c) from htb] at hsh
  have hok := tb_ok hO hj
  rw [htb] at hok
  have hk : A 1 (37 * j) = nI m := hsh.1
  have hl : Lat m c := hok.2
  have hm6 : m ≤ 6 := hok.1
  have hyes : isT A (nI j) := (has_r hW hO).mpr ((has_i hj).mpr (by rw [htb]; exact h1))
  refine rr_nx (pc' := 1) (al' := [some (.ref 146), some (.int (nI j)), some (.int (nI 1)), none, none, none, none, none]) (st' := [.ref 146]) d_255_0 (fun _ => rfl) ?_
  refine rr_nx (pc' := 2) (al' := [some (.ref 146), some (.int (nI j)), some (.int (nI 1)), none, none, none, none, none]) (st' := [.int (nI j), .ref 146]) d_255_1 (fun _ => rfl) ?_
  refine rr_pv (as := [.int (nI j)]) (al0 := [some (.ref 146), some (.int (nI j))]) (r := []) d_255_2 mo_255 ml_124 mz_184 rfl rfl rfl (Nat.le_of_ble_eq_true rfl) (s_isTable (nI j)) ?_
  show RR _ _ 5 [some (.ref 146), some (.int (nI j)), some (.int (nI 1)), none, none, none, none, none] [.int (bI (isT A (nI j)))] g A _
  refine rr_beq (t := 17) d_255_5 (by decide) (fun c5 => ?_) (fun c5 => ?_)
  · exact absurd hyes c5
  · refine rr_nx (pc' := 9) (al' := [some (.ref 146), some (.int (nI j)), some (.int (nI 1)), none, none, none, none, none]) (st' := [.int (nI 1)]) d_255_8 (fun _ => rfl) ?_
    refine rn_ic (v := 0) d_255_9 (by decide) ?_
    refine rn_ic (v := 2) d_255_10 (by decide) ?_
    refine rr_ps (as := [.int (nI 1), .int (nI 0), .int (nI 2)]) (al0 := [some (.int (nI 1)), some (.int (nI 0)), some (.int (nI 2))]) (r := []) d_255_11 mo_255 ml_106 mz_179 rfl rfl rfl (Nat.le_of_ble_eq_true rfl) (s_lies (nI 1) (nI 0) (nI 2)) ?_
    show RR _ _ 14 [some (.ref 146), some (.int (nI j)), some (.int (nI 1)), none, none, none, none, none] [.int (bI ((nI 0) ≤ (nI 1) ∧ (nI 1) ≤ (nI 2)))] g A _
    refine rr_bne (t := 19) d_255_14 (by decide) (fun c14 => ?_) (fun c14 => ?_)
    · refine rr_nx (pc' := 20) (al' := [some (.ref 146), some (.int (nI j)), some (.int (nI 1)), none, none, none, none, none]) (st' := [.ref 146]) d_255_19 (fun _ => rfl) ?_
      refine rr_nx (pc' := 21) (al' := [some (.ref 146), some (.int (nI j)), some (.int (nI 1)), none, none, none, none, none]) (st' := [.int (nI j), .ref 146]) d_255_20 (fun _ => rfl) ?_
      refine rr_pv (as := [.int (nI j)]) (al0 := [some (.ref 146), some (.int (nI j)), none]) (r := []) d_255_21 mo_255 ml_248 mz_208 rfl rfl rfl (Nat.le_of_ble_eq_true rfl) (s_lays (n := m) hj hm6 hk) ?_
      obtain ⟨wl21, hwl21⟩ : ∃ w_, w_ = rf_f (fun q => A 1 (37 * j + 1 + q)) (A 4) (m * m) := ⟨_, rfl⟩
      rw [← hwl21]
      show RR _ _ 24 [some (.ref 146), some (.int (nI j)), some (.int (nI 1)), none, none, none, none, none] [] (upd g 6 (nI m)) (rf_u A 4 wl21) _
      have hcu := cur_l (g := g) hsh hm6 hl hwl21
      refine rr_dr (al1 := [some (.ref 146), none, some (.int (nI 1)), none, none, none, none, none]) (le_s (le_d rfl (le_s (le_s (le_s (le_s (le_s (le_s (le_n))))))))) ?_
      refine rr_cq (rr_wk (by decide) (s_group1 hcu hl)) ?_
      rintro r_ g_ A_ ⟨l, i, hB, hle, rfl, h1_, h2_⟩
      exact ⟨by rw [gp_e hB hle], (hW.q ((Gsm.rf.u rfl).tr h1_) ((Ksm.rf.u rfl).tr h2_)).mo⟩
    · exact absurd (show nI 0 ≤ nI 1 ∧ nI 1 ≤ nI 2 by decide) c14
theorem p_group2 {S : CS} {G : Nat → Nat → Value} {B : Nat → Nat → Int32} {J : Nat → Nat → Int64} {R : Nat → Nat → Option Nat} {n : Nat} {W : WS} (hW : WC n S G B R W) {j m : Nat} {c : Nat → Nat} (hj : j < 6) (htb : tbK (wK W) j = (m, c)) (h1 : 1 ≤ m) : CR 80 153 0 [some (.ref 2), some (.int (nI j)), some (.int (nI 2))] [] S G B J R (fun r S' G' B' J' R' => r = some (.int (nI (gpN m c 0 (2 * m)))) ∧ WC (n + 1) S' G' B' R' W) := by
  have hS := hW.1.1
  have hF := hW.2.1
  have hO := hW.2.2.2.1
  obtain ⟨ta, ka, la, hH, hLk, hl2, hs3, hbd⟩ := hW.2.2.1
  obtain ⟨zt, hzt, ezt⟩ := (hH.2.1 j hj).2
  have ht := hH.ta hj
  have hsh := hH.2.2.2.2.2.2.1 j hj
  rw [show kH (wK W) (kD (wK W)) j = (m, c) from htb] at hsh
  have hok := tb_ok hO hj
  rw [htb] at hok
  have hn : G (ta j) 0 = .int (nI m) := hsh.1
  have hc : TabC B (ta j) m c := hsh.c hok
  have hl : Lat m c := hok.2
  have hm6 : m ≤ 6 := hok.1
  have hyes : hasP (wK W) (nI j) := (has_i hj).mpr (by rw [htb]; exact h1)
  refine cr_nx (pc' := 1) (al' := [some (.ref 2), some (.int (nI j)), some (.int (nI 2))]) (st' := [.ref 2]) d_153_0 (fun _ => rfl) ?_
  refine cr_nx (pc' := 2) (al' := [some (.ref 2), some (.int (nI j)), some (.int (nI 2))]) (st' := [.int (nI j), .ref 2]) d_153_1 (fun _ => rfl) ?_
  refine cr_pv (b := 2) (as := [.int (nI j)]) (al0 := [some (.ref 2), some (.int (nI j))]) (r := []) d_153_2 cw_153 cm_11_137 cz_126 rfl rfl (hS.i (a := 2) (by decide) (by decide)) (by rw [cw_126]; exact (hS.s (a := 2) (by decide) (by decide) rfl)) (by rw [cw_126]; decide) rfl (Nat.le_of_ble_eq_true rfl) (k_has hS hF hH hO) ?_
  show CR _ _ 5 [some (.ref 2), some (.int (nI j)), some (.int (nI 2))] [.int (bI (hasP (wK W) (nI j)))] S G B J R _
  refine cr_beq (t := 17) d_153_5 (by decide) (fun c5 => ?_) (fun c5 => ?_)
  · exact absurd hyes c5
  · refine cr_nx (pc' := 9) (al' := [some (.ref 2), some (.int (nI j)), some (.int (nI 2))]) (st' := [.int (nI 2)]) d_153_8 (fun _ => rfl) ?_
    refine cn_zlt (t := 17) d_153_9 (by decide) (by first | omega | assumption | exact cu_36 (by omega) (cu_lt (by omega) (by omega))) (fun c9 => ?_) (fun c9 => ?_)
    · exact c9.elim
    · refine cr_nx (pc' := 13) (al' := [some (.ref 2), some (.int (nI j)), some (.int (nI 2))]) (st' := [.int (nI 2)]) d_153_12 (fun _ => rfl) ?_
      refine cn_ic (v := 2) d_153_13 (by decide) ?_
      refine cn_cle (t := 19) d_153_14 (by decide) (by first | omega | assumption | exact cu_36 (by omega) (cu_lt (by omega) (by omega))) (by first | omega | assumption | exact cu_36 (by omega) (cu_lt (by omega) (by omega))) (fun c14 => ?_) (fun c14 => ?_)
      · refine cr_nx (pc' := 20) (al' := [some (.ref 2), some (.int (nI j)), some (.int (nI 2))]) (st' := [.ref 2]) d_153_19 (fun _ => rfl) ?_
        refine cr_gf (v := .ref 133) d_153_20 cw_153 cf_11_79 (hS.i (a := 2) (by decide) (by decide)) (hS.s (a := 2) (by decide) (by decide) rfl) (by decide) (fx_2_13 hF) ?_
        refine cr_nx (pc' := 24) (al' := [some (.ref 2), some (.int (nI j)), some (.int (nI 2))]) (st' := [.ref 2, .ref 133]) d_153_23 (fun _ => rfl) ?_
        refine cr_gf (v := .ref 3) d_153_24 cw_153 cf_11_10 (hS.i (a := 2) (by decide) (by decide)) (hS.s (a := 2) (by decide) (by decide) rfl) (by decide) (fx_2_0 hF) ?_
        refine cr_gf (v := .ref 4) d_153_27 cw_153 cf_11_140 (hS.i (a := 3) (by decide) (by decide)) (hS.s (a := 3) (by decide) (by decide) rfl) (by decide) (fx_3_0 hF) ?_
        refine cr_nx (pc' := 31) (al' := [some (.ref 2), some (.int (nI j)), some (.int (nI 2))]) (st' := [.int (nI j), .ref 4, .ref 133]) d_153_30 (fun _ => rfl) ?_
        refine cr_aa (a := 4) (v := .ref (ta j)) d_153_31 (hS.i (a := 4) (by decide) (by decide)) (by decide) (hS.s (a := 4) (by decide) (by decide) rfl) (by decide) (show j < 6 by first | omega | assumption | exact cu_36 (by omega) (cu_lt (by omega) (by omega))) (show va_rf _ = _ by rw [(hH.2.1 j hj).1]; rfl) ?_
        refine cr_nx (pc' := 33) (al' := [some (.ref 2), some (.int (nI j)), some (.int (nI 2))]) (st' := [.int (nI 2), .ref (ta j), .ref 133]) d_153_32 (fun _ => rfl) ?_
        refine cn_ic (v := 1) d_153_33 (by decide) ?_
        refine cn_ceq (t := 41) d_153_34 (by decide) (by first | omega | assumption | exact cu_36 (by omega) (cu_lt (by omega) (by omega))) (by first | omega | assumption | exact cu_36 (by omega) (cu_lt (by omega) (by omega))) (fun c34 => ?_) (fun c34 => ?_)
        · omega
        · refine cn_ic (v := 1) d_153_37 (by decide) ?_
          refine cr_nx (pc' := 42) (al' := [some (.ref 2), some (.int (nI j)), some (.int (nI 2))]) (st' := [.int (nI 1), .ref (ta j), .ref 133]) d_153_38 (fun _ => rfl) ?_
          refine cr_nx (pc' := 43) (al' := [some (.ref 2), some (.int (nI j)), some (.int (nI 2))]) (st' := [.int (nI 2), .int (nI 1), .ref (ta j), .ref 133]) d_153_42 (fun _ => rfl) ?_
          refine cn_ieq (t := 50) d_153_43 (by decide) (by first | omega | assumption | exact cu_36 (by omega) (cu_lt (by omega) (by omega))) (fun c43 => ?_) (fun c43 => ?_)
          · omega
          · refine cn_ic (v := 1) d_153_46 (by decide) ?_
            refine cr_nx (pc' := 51) (al' := [some (.ref 2), some (.int (nI j)), some (.int (nI 2))]) (st' := [.int (nI 1), .int (nI 1), .ref (ta j), .ref 133]) d_153_47 (fun _ => rfl) ?_
            refine cr_cv (b := 133) (as := [.ref (ta j), .int (nI 1), .int (nI 1)]) (al0 := [some (.ref 133), some (.ref (ta j)), some (.int (nI 1)), some (.int (nI 1)), none, none, none]) (r := []) d_153_51 cw_153 cm_11_298 cz_69 rfl rfl (hS.i (a := 133) (by decide) (by decide)) (by rw [cw_69]; exact (hS.s (a := 133) (by decide) (by decide) rfl)) (by rw [cw_69]; decide) rfl (cr_wk (Nat.le_of_ble_eq_true rfl) (k_madeBy2 hS hF ht hn hc hl h1 (by omega))) (fun v1 S1 G1 B1 J1 R1 h1 => ?_)
            obtain ⟨q1_, q2_, q3_, h4_, h5_, h6_, l, i, hB, hle, q0_⟩ := h1
            obtain rfl := q0_
            obtain rfl := q1_.symm
            obtain rfl := q2_.symm
            obtain rfl := q3_.symm
            rw [gp_e hB hle]
            show CR _ _ 54 [some (.ref 2), some (.int (nI j)), some (.int (nI 2))] [.int (nI (gpN m c 0 (2 * m)))] S G1 B1 J R _
            exact cr_ri d_153_54 cx_153 rfl ⟨rfl, (hW.q h4_ (h5_.mo (by decide)) (h6_.mo (by decide))).mo⟩
      · omega
theorem r_group2 {g : Nat → Int32} {A : Nat → Nat → Int32} {n : Nat} {W : WS} (hW : WR n g A W) (hO : CoOk (wK W)) {j m : Nat} {c : Nat → Nat} (hj : j < 6) (htb : tbK (wK W) j = (m, c)) (h1 : 1 ≤ m) : RR 80 255 0 [some (.ref 146), some (.int (nI j)), some (.int (nI 2)), none, none, none, none, none] [] g A (fun r g' A' => r = some (.int (nI (gpN m c 0 (2 * m)))) ∧ WR (n + 1) g' A' W) := by
  have hsh := hW.1.1.1 j hj
  rw [show kH (wK W) (kD (wK W)) j = (m, c) from htb] at hsh
  have hok := tb_ok hO hj
  rw [htb] at hok
  have hk : A 1 (37 * j) = nI m := hsh.1
  have hl : Lat m c := hok.2
  have hm6 : m ≤ 6 := hok.1
  have hyes : isT A (nI j) := (has_r hW hO).mpr ((has_i hj).mpr (by rw [htb]; exact h1))
  refine rr_nx (pc' := 1) (al' := [some (.ref 146), some (.int (nI j)), some (.int (nI 2)), none, none, none, none, none]) (st' := [.ref 146]) d_255_0 (fun _ => rfl) ?_
  refine rr_nx (pc' := 2) (al' := [some (.ref 146), some (.int (nI j)), some (.int (nI 2)), none, none, none, none, none]) (st' := [.int (nI j), .ref 146]) d_255_1 (fun _ => rfl) ?_
  refine rr_pv (as := [.int (nI j)]) (al0 := [some (.ref 146), some (.int (nI j))]) (r := []) d_255_2 mo_255 ml_124 mz_184 rfl rfl rfl (Nat.le_of_ble_eq_true rfl) (s_isTable (nI j)) ?_
  show RR _ _ 5 [some (.ref 146), some (.int (nI j)), some (.int (nI 2)), none, none, none, none, none] [.int (bI (isT A (nI j)))] g A _
  refine rr_beq (t := 17) d_255_5 (by decide) (fun c5 => ?_) (fun c5 => ?_)
  · exact absurd hyes c5
  · refine rr_nx (pc' := 9) (al' := [some (.ref 146), some (.int (nI j)), some (.int (nI 2)), none, none, none, none, none]) (st' := [.int (nI 2)]) d_255_8 (fun _ => rfl) ?_
    refine rn_ic (v := 0) d_255_9 (by decide) ?_
    refine rn_ic (v := 2) d_255_10 (by decide) ?_
    refine rr_ps (as := [.int (nI 2), .int (nI 0), .int (nI 2)]) (al0 := [some (.int (nI 2)), some (.int (nI 0)), some (.int (nI 2))]) (r := []) d_255_11 mo_255 ml_106 mz_179 rfl rfl rfl (Nat.le_of_ble_eq_true rfl) (s_lies (nI 2) (nI 0) (nI 2)) ?_
    show RR _ _ 14 [some (.ref 146), some (.int (nI j)), some (.int (nI 2)), none, none, none, none, none] [.int (bI ((nI 0) ≤ (nI 2) ∧ (nI 2) ≤ (nI 2)))] g A _
    refine rr_bne (t := 19) d_255_14 (by decide) (fun c14 => ?_) (fun c14 => ?_)
    · refine rr_nx (pc' := 20) (al' := [some (.ref 146), some (.int (nI j)), some (.int (nI 2)), none, none, none, none, none]) (st' := [.ref 146]) d_255_19 (fun _ => rfl) ?_
      refine rr_nx (pc' := 21) (al' := [some (.ref 146), some (.int (nI j)), some (.int (nI 2)), none, none, none, none, none]) (st' := [.int (nI j), .ref 146]) d_255_20 (fun _ => rfl) ?_
      refine rr_pv (as := [.int (nI j)]) (al0 := [some (.ref 146), some (.int (nI j)), none]) (r := []) d_255_21 mo_255 ml_248 mz_208 rfl rfl rfl (Nat.le_of_ble_eq_true rfl) (s_lays (n := m) hj hm6 hk) ?_
      obtain ⟨wl21, hwl21⟩ : ∃ w_, w_ = rf_f (fun q => A 1 (37 * j + 1 + q)) (A 4) (m * m) := ⟨_, rfl⟩
      rw [← hwl21]
      show RR _ _ 24 [some (.ref 146), some (.int (nI j)), some (.int (nI 2)), none, none, none, none, none] [] (upd g 6 (nI m)) (rf_u A 4 wl21) _
      have hcu := cur_l (g := g) hsh hm6 hl hwl21
      refine rr_dr (al1 := [some (.ref 146), none, some (.int (nI 2)), none, none, none, none, none]) (le_s (le_d rfl (le_s (le_s (le_s (le_s (le_s (le_s (le_n))))))))) ?_
      refine rr_cq (rr_wk (by decide) (s_group2 hcu hl)) ?_
      rintro r_ g_ A_ ⟨l, i, hB, hle, rfl, h1_, h2_⟩
      exact ⟨by rw [gp_e hB hle], (hW.q ((Gsm.rf.u rfl).tr h1_) ((Ksm.rf.u rfl).tr h2_)).mo⟩
    · exact absurd (show nI 0 ≤ nI 2 ∧ nI 2 ≤ nI 2 by decide) c14
theorem p_group_n {S : CS} {G : Nat → Nat → Value} {B : Nat → Nat → Int32} {J : Nat → Nat → Int64} {R : Nat → Nat → Option Nat} {n : Nat} {W : WS} (hW : WC n S G B R W) {t : Int32} (hh : ¬ hasP (wK W) t) {w : Int32} : CR 80 153 0 [some (.ref 2), some (.int t), some (.int w)] [] S G B J R (fun r S' G' B' J' R' => r = some (.int (-1)) ∧ WC (n + 1) S' G' B' R' W) := by
  have hS := hW.1.1
  have hF := hW.2.1
  have hO := hW.2.2.2.1
  obtain ⟨ta, ka, la, hH, hLk, hl2, hs3, hbd⟩ := hW.2.2.1
  refine cr_nx (pc' := 1) (al' := [some (.ref 2), some (.int t), some (.int w)]) (st' := [.ref 2]) d_153_0 (fun _ => rfl) ?_
  refine cr_nx (pc' := 2) (al' := [some (.ref 2), some (.int t), some (.int w)]) (st' := [.int t, .ref 2]) d_153_1 (fun _ => rfl) ?_
  refine cr_pv (b := 2) (as := [.int t]) (al0 := [some (.ref 2), some (.int t)]) (r := []) d_153_2 cw_153 cm_11_137 cz_126 rfl rfl (hS.i (a := 2) (by decide) (by decide)) (by rw [cw_126]; exact (hS.s (a := 2) (by decide) (by decide) rfl)) (by rw [cw_126]; decide) rfl (Nat.le_of_ble_eq_true rfl) (k_has hS hF hH hO) ?_
  show CR _ _ 5 [some (.ref 2), some (.int t), some (.int w)] [.int (bI (hasP (wK W) t))] S G B J R _
  refine cr_beq (t := 17) d_153_5 (by decide) (fun c5 => ?_) (fun c5 => ?_)
  · refine cr_nx (pc' := 18) (al' := [some (.ref 2), some (.int t), some (.int w)]) (st' := [.int (-1)]) d_153_17 (fun _ => rfl) ?_
    exact cr_ri d_153_18 cx_153 rfl ⟨rfl, hW.mo⟩
  · exact absurd c5 hh
theorem r_group_n {g : Nat → Int32} {A : Nat → Nat → Int32} {n : Nat} {W : WS} (hW : WR n g A W) (hO : CoOk (wK W)) {t : Int32} (hh : ¬ hasP (wK W) t) {w : Int32} : RR 80 255 0 [some (.ref 146), some (.int t), some (.int w), none, none, none, none, none] [] g A (fun r g' A' => r = some (.int (-1)) ∧ WR (n + 1) g' A' W) := by
  refine rr_nx (pc' := 1) (al' := [some (.ref 146), some (.int t), some (.int w), none, none, none, none, none]) (st' := [.ref 146]) d_255_0 (fun _ => rfl) ?_
  refine rr_nx (pc' := 2) (al' := [some (.ref 146), some (.int t), some (.int w), none, none, none, none, none]) (st' := [.int t, .ref 146]) d_255_1 (fun _ => rfl) ?_
  refine rr_pv (as := [.int t]) (al0 := [some (.ref 146), some (.int t)]) (r := []) d_255_2 mo_255 ml_124 mz_184 rfl rfl rfl (Nat.le_of_ble_eq_true rfl) (s_isTable t) ?_
  show RR _ _ 5 [some (.ref 146), some (.int t), some (.int w), none, none, none, none, none] [.int (bI (isT A t))] g A _
  refine rr_beq (t := 17) d_255_5 (by decide) (fun c5 => ?_) (fun c5 => ?_)
  · refine rr_nx (pc' := 18) (al' := [some (.ref 146), some (.int t), some (.int w), none, none, none, none, none]) (st' := [.int (-1)]) d_255_17 (fun _ => rfl) ?_
    exact rr_ri d_255_18 mr_255 rfl ⟨rfl, hW.mo⟩
  · exact absurd c5 (fun e_ => hh ((has_r hW hO).mp e_))
theorem T_group {S : CS} {G : Nat → Nat → Value} {B : Nat → Nat → Int32} {J : Nat → Nat → Int64} {R : Nat → Nat → Option Nat} {g : Nat → Int32} {A : Nat → Nat → Int32} {n : Nat} {W : WS} (hC : WC n S G B R W) (hR : WR n g A W) (hn : n ≤ 10000) {t : Int32} {w : Int32} : Tie n 153 255 [some (.ref 2), some (.int t), some (.int w)] [some (.ref 146), some (.int t), some (.int w), none, none, none, none, none] S G B J R g A W := by
  have hO := hC.2.2.2.1
  by_cases hh : hasP (wK W) t
  · obtain ⟨j, hj, e_, h1⟩ := has_n hh
    subst e_
    obtain ⟨⟨m, c⟩, htb⟩ : ∃ tb, tbK (wK W) j = tb := ⟨_, rfl⟩
    rw [htb] at h1
    by_cases hw : inP w 3
    · obtain ⟨k, hk, e_⟩ := in_n hw
      subst e_
      have hk2 : k = 0 ∨ k = 1 ∨ k = 2 := by omega
      rcases hk2 with rfl | rfl | rfl
      · exact ⟨_, W, p_group0 hC hj htb h1, r_group0 hR hO hj htb h1⟩
      · exact ⟨_, W, p_group1 hC hj htb h1, r_group1 hR hO hj htb h1⟩
      · exact ⟨_, W, p_group2 hC hj htb h1, r_group2 hR hO hj htb h1⟩
    · exact ⟨_, W, p_groupX hC hj htb h1 hw, r_groupX hR hO hj htb h1 hw⟩
  · exact ⟨_, W, p_group_n hC hh, r_group_n hR hO hh⟩
