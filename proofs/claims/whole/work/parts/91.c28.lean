/-! Calls: elements, cycles, parts, groups near; printed by wip/whole/gen_c28.py. -/
theorem el_i {u : Int32} {m : Nat} (hm : m < 2 ^ 31) : (0 ≤ u ∧ u < nI m) ↔ inP u m := by
  rw [Int32.le_iff_toInt_le, i_ltN hm]
  rfl
theorem el_r {u : Int32} {m : Nat} (h1 : 1 ≤ m) (hm : m < 2 ^ 31) : (nI 0 ≤ u ∧ u ≤ nI (m - 1)) ↔ inP u m := by
  rw [in_r (by omega), show m - 1 + 1 = m by omega]
abbrev twP (u v : Int32) (m : Nat) : Prop := ¬ u = v ∧ inP u m ∧ inP v m
theorem tw_i {u v : Int32} {m : Nat} (hm : m < 2 ^ 31) : (¬ u = v ∧ (0 ≤ u ∧ u < nI m) ∧ (0 ≤ v ∧ v < nI m)) ↔ twP u v m := by
  rw [el_i hm, el_i hm]
theorem un_uni {n : Nat} {c : Nat → Nat} (h : ¬ unV 0 n c = -1) : Uni n c := by
  unfold unV at h
  by_cases e : unI 0 n c < n
  · refine ⟨unI 0 n c, e, fun x hx => ?_⟩
    have := of_decide_eq_true (FX_yes _ n e) x hx
    exact ⟨this.1.resolve_left (by decide), this.2.resolve_left (by decide)⟩
  · rw [if_neg e] at h
    exact absurd rfl h
theorem p_at0 {S : CS} {G : Nat → Nat → Value} {B : Nat → Nat → Int32} {J : Nat → Nat → Int64} {R : Nat → Nat → Option Nat} {n : Nat} {W : WS} (hW : WC n S G B R W) {j m : Nat} {c : Nat → Nat} (hj : j < 6) (htb : tbK (wK W) j = (m, c)) (h1 : 1 ≤ m) {p q : Nat} (hp : p < m) (hq : q < m) : CR 80 138 0 [some (.ref 2), some (.int (nI j)), some (.int (nI 0)), some (.int (nI p)), some (.int (nI q)), none] [] S G B J R (fun r S' G' B' J' R' => r = some (.int (nI (c (m * p + q)))) ∧ WC (n + 1) S' G' B' R' W) := by
  have hS := hW.1.1
  have hF := hW.2.1
  have hO := hW.2.2.2.1
  obtain ⟨ta, ka, la, hH, hLk, hl2, hs3, hbd⟩ := hW.2.2.1
  obtain ⟨zt, hzt, ezt⟩ := (hH.2.1 j hj).2
  have ht := hH.ta hj
  have hsh := hH.2.2.2.2.2.2.1 j hj
  rw [show kH (wK W) (kD (wK W)) j = (m, c) from htb] at hsh
  have hok := tb_ok hO hj
  rw [htb] at hok
  have hn : G (ta j) 0 = .int (nI m) := hsh.1
  have hc : TabC B (ta j) m c := hsh.c hok
  have hl : Lat m c := hok.2
  have hm6 : m ≤ 6 := hok.1
  have hyes : hasP (wK W) (nI j) := (has_i hj).mpr (by rw [htb]; exact h1)
  refine cr_nx (pc' := 1) (al' := [some (.ref 2), some (.int (nI j)), some (.int (nI 0)), some (.int (nI p)), some (.int (nI q)), none]) (st' := [.ref 2]) d_138_0 (fun _ => rfl) ?_
  refine cr_nx (pc' := 2) (al' := [some (.ref 2), some (.int (nI j)), some (.int (nI 0)), some (.int (nI p)), some (.int (nI q)), none]) (st' := [.int (nI j), .ref 2]) d_138_1 (fun _ => rfl) ?_
  refine cr_pv (b := 2) (as := [.int (nI j)]) (al0 := [some (.ref 2), some (.int (nI j))]) (r := []) d_138_2 cw_138 cm_11_137 cz_126 rfl rfl (hS.i (a := 2) (by decide) (by decide)) (by rw [cw_126]; exact (hS.s (a := 2) (by decide) (by decide) rfl)) (by rw [cw_126]; decide) rfl (Nat.le_of_ble_eq_true rfl) (k_has hS hF hH hO) ?_
  show CR _ _ 5 [some (.ref 2), some (.int (nI j)), some (.int (nI 0)), some (.int (nI p)), some (.int (nI q)), none] [.int (bI (hasP (wK W) (nI j)))] S G B J R _
  refine cr_bne (t := 10) d_138_5 (by decide) (fun c5 => ?_) (fun c5 => ?_)
  · refine cr_nx (pc' := 11) (al' := [some (.ref 2), some (.int (nI j)), some (.int (nI 0)), some (.int (nI p)), some (.int (nI q)), none]) (st' := [.ref 2]) d_138_10 (fun _ => rfl) ?_
    refine cr_gf (v := .ref 3) d_138_11 cw_138 cf_11_10 (hS.i (a := 2) (by decide) (by decide)) (hS.s (a := 2) (by decide) (by decide) rfl) (by decide) (fx_2_0 hF) ?_
    refine cr_gf (v := .ref 4) d_138_14 cw_138 cf_11_140 (hS.i (a := 3) (by decide) (by decide)) (hS.s (a := 3) (by decide) (by decide) rfl) (by decide) (fx_3_0 hF) ?_
    refine cr_nx (pc' := 18) (al' := [some (.ref 2), some (.int (nI j)), some (.int (nI 0)), some (.int (nI p)), some (.int (nI q)), none]) (st' := [.int (nI j), .ref 4]) d_138_17 (fun _ => rfl) ?_
    refine cr_aa (a := 4) (v := .ref (ta j)) d_138_18 (hS.i (a := 4) (by decide) (by decide)) (by decide) (hS.s (a := 4) (by decide) (by decide) rfl) (by decide) (show j < 6 by first | omega | assumption | exact cu_36 (by omega) (cu_lt (by omega) (by omega))) (show va_rf _ = _ by rw [(hH.2.1 j hj).1]; rfl) ?_
    refine cr_nx (pc' := 21) (al' := [some (.ref 2), some (.int (nI j)), some (.int (nI 0)), some (.int (nI p)), some (.int (nI q)), some (.ref (ta j))]) (st' := []) d_138_19 (fun _ => rfl) ?_
    refine cr_nx (pc' := 23) (al' := [some (.ref 2), some (.int (nI j)), some (.int (nI 0)), some (.int (nI p)), some (.int (nI q)), some (.ref (ta j))]) (st' := [.ref (ta j)]) d_138_21 (fun _ => rfl) ?_
    refine cr_nx (pc' := 24) (al' := [some (.ref 2), some (.int (nI j)), some (.int (nI 0)), some (.int (nI p)), some (.int (nI q)), some (.ref (ta j))]) (st' := [.int (nI p), .ref (ta j)]) d_138_23 (fun _ => rfl) ?_
    refine cr_pv (b := (ta j)) (as := [.int (nI p)]) (al0 := [some (.ref (ta j)), some (.int (nI p))]) (r := []) d_138_24 cw_138 cm_11_148 cz_92 rfl rfl ht.1 (by rw [cw_92]; exact ht.2.2.1) (by rw [cw_92]; decide) rfl (Nat.le_of_ble_eq_true rfl) (k_hasElement ht hn (nI p)) ?_
    show CR _ _ 27 [some (.ref 2), some (.int (nI j)), some (.int (nI 0)), some (.int (nI p)), some (.int (nI q)), some (.ref (ta j))] [.int (bI (0 ≤ (nI p) ∧ (nI p) < nI m))] S G B J R _
    refine cr_beq (t := 40) d_138_27 (by decide) (fun c27 => ?_) (fun c27 => ?_)
    · exact absurd ((el_i (by omega)).mpr ((in_j (by omega)).mpr hp)) c27
    · refine cr_nx (pc' := 32) (al' := [some (.ref 2), some (.int (nI j)), some (.int (nI 0)), some (.int (nI p)), some (.int (nI q)), some (.ref (ta j))]) (st' := [.ref (ta j)]) d_138_30 (fun _ => rfl) ?_
      refine cr_nx (pc' := 34) (al' := [some (.ref 2), some (.int (nI j)), some (.int (nI 0)), some (.int (nI p)), some (.int (nI q)), some (.ref (ta j))]) (st' := [.int (nI q), .ref (ta j)]) d_138_32 (fun _ => rfl) ?_
      refine cr_pv (b := (ta j)) (as := [.int (nI q)]) (al0 := [some (.ref (ta j)), some (.int (nI q))]) (r := []) d_138_34 cw_138 cm_11_148 cz_92 rfl rfl ht.1 (by rw [cw_92]; exact ht.2.2.1) (by rw [cw_92]; decide) rfl (Nat.le_of_ble_eq_true rfl) (k_hasElement ht hn (nI q)) ?_
      show CR _ _ 37 [some (.ref 2), some (.int (nI j)), some (.int (nI 0)), some (.int (nI p)), some (.int (nI q)), some (.ref (ta j))] [.int (bI (0 ≤ (nI q) ∧ (nI q) < nI m))] S G B J R _
      refine cr_bne (t := 42) d_138_37 (by decide) (fun c37 => ?_) (fun c37 => ?_)
      · refine cr_nx (pc' := 43) (al' := [some (.ref 2), some (.int (nI j)), some (.int (nI 0)), some (.int (nI p)), some (.int (nI q)), some (.ref (ta j))]) (st' := [.int (nI 0)]) d_138_42 (fun _ => rfl) ?_
        refine cr_ts (off := 25) (t := 68) d_138_43 (by decide) (by decide) rfl (by decide) ?_
        refine cr_nx (pc' := 70) (al' := [some (.ref 2), some (.int (nI j)), some (.int (nI 0)), some (.int (nI p)), some (.int (nI q)), some (.ref (ta j))]) (st' := [.ref (ta j)]) d_138_68 (fun _ => rfl) ?_
        refine cr_nx (pc' := 71) (al' := [some (.ref 2), some (.int (nI j)), some (.int (nI 0)), some (.int (nI p)), some (.int (nI q)), some (.ref (ta j))]) (st' := [.int (nI p), .ref (ta j)]) d_138_70 (fun _ => rfl) ?_
        refine cr_nx (pc' := 73) (al' := [some (.ref 2), some (.int (nI j)), some (.int (nI 0)), some (.int (nI p)), some (.int (nI q)), some (.ref (ta j))]) (st' := [.int (nI q), .int (nI p), .ref (ta j)]) d_138_71 (fun _ => rfl) ?_
        refine cr_pv (b := (ta j)) (as := [.int (nI p), .int (nI q)]) (al0 := [some (.ref (ta j)), some (.int (nI p)), some (.int (nI q))]) (r := []) d_138_73 cw_138 cm_11_151 cz_91 rfl rfl ht.1 (by rw [cw_91]; exact ht.2.2.1) (by rw [cw_91]; decide) rfl (Nat.le_of_ble_eq_true rfl) (k_times ht hn hc (by omega) (by omega)) ?_
        show CR _ _ 76 [some (.ref 2), some (.int (nI j)), some (.int (nI 0)), some (.int (nI p)), some (.int (nI q)), some (.ref (ta j))] [.int (nI (c (m * p + q)))] S G B J R _
        have b73 : c (m * p + q) < m := (hc.2 _ (cu_lt (by omega) (by omega))).2
        exact cr_ri d_138_76 cx_138 rfl ⟨rfl, hW.mo⟩
      · exact absurd ((el_i (by omega)).mpr ((in_j (by omega)).mpr hq)) c37
  · exact absurd hyes c5
theorem r_at0 {g : Nat → Int32} {A : Nat → Nat → Int32} {n : Nat} {W : WS} (hW : WR n g A W) (hO : CoOk (wK W)) {j m : Nat} {c : Nat → Nat} (hj : j < 6) (htb : tbK (wK W) j = (m, c)) (h1 : 1 ≤ m) {p q : Nat} (hp : p < m) (hq : q < m) : RR 80 240 0 [some (.ref 146), some (.int (nI j)), some (.int (nI 0)), some (.int (nI p)), some (.int (nI q))] [] g A (fun r g' A' => r = some (.int (nI (c (m * p + q)))) ∧ WR (n + 1) g' A' W) := by
  have hsh := hW.1.1.1 j hj
  rw [show kH (wK W) (kD (wK W)) j = (m, c) from htb] at hsh
  have hok := tb_ok hO hj
  rw [htb] at hok
  have hk : A 1 (37 * j) = nI m := hsh.1
  have hl : Lat m c := hok.2
  have hm6 : m ≤ 6 := hok.1
  have hyes : isT A (nI j) := (has_r hW hO).mpr ((has_i hj).mpr (by rw [htb]; exact h1))
  refine rr_nx (pc' := 1) (al' := [some (.ref 146), some (.int (nI j)), some (.int (nI 0)), some (.int (nI p)), some (.int (nI q))]) (st' := [.ref 146]) d_240_0 (fun _ => rfl) ?_
  refine rr_nx (pc' := 2) (al' := [some (.ref 146), some (.int (nI j)), some (.int (nI 0)), some (.int (nI p)), some (.int (nI q))]) (st' := [.int (nI j), .ref 146]) d_240_1 (fun _ => rfl) ?_
  refine rr_pv (as := [.int (nI j)]) (al0 := [some (.ref 146), some (.int (nI j))]) (r := []) d_240_2 mo_240 ml_124 mz_184 rfl rfl rfl (Nat.le_of_ble_eq_true rfl) (s_isTable (nI j)) ?_
  show RR _ _ 5 [some (.ref 146), some (.int (nI j)), some (.int (nI 0)), some (.int (nI p)), some (.int (nI q))] [.int (bI (isT A (nI j)))] g A _
  refine rr_beq (t := 17) d_240_5 (by decide) (fun c5 => ?_) (fun c5 => ?_)
  · exact absurd hyes c5
  · refine rr_nx (pc' := 9) (al' := [some (.ref 146), some (.int (nI j)), some (.int (nI 0)), some (.int (nI p)), some (.int (nI q))]) (st' := [.int (nI 0)]) d_240_8 (fun _ => rfl) ?_
    refine rn_ic (v := 0) d_240_9 (by decide) ?_
    refine rn_ic (v := 2) d_240_10 (by decide) ?_
    refine rr_ps (as := [.int (nI 0), .int (nI 0), .int (nI 2)]) (al0 := [some (.int (nI 0)), some (.int (nI 0)), some (.int (nI 2))]) (r := []) d_240_11 mo_240 ml_106 mz_179 rfl rfl rfl (Nat.le_of_ble_eq_true rfl) (s_lies (nI 0) (nI 0) (nI 2)) ?_
    show RR _ _ 14 [some (.ref 146), some (.int (nI j)), some (.int (nI 0)), some (.int (nI p)), some (.int (nI q))] [.int (bI ((nI 0) ≤ (nI 0) ∧ (nI 0) ≤ (nI 2)))] g A _
    refine rr_bne (t := 19) d_240_14 (by decide) (fun c14 => ?_) (fun c14 => ?_)
    · refine rr_nx (pc' := 20) (al' := [some (.ref 146), some (.int (nI j)), some (.int (nI 0)), some (.int (nI p)), some (.int (nI q))]) (st' := [.ref 146]) d_240_19 (fun _ => rfl) ?_
      refine rr_nx (pc' := 21) (al' := [some (.ref 146), some (.int (nI j)), some (.int (nI 0)), some (.int (nI p)), some (.int (nI q))]) (st' := [.int (nI j), .ref 146]) d_240_20 (fun _ => rfl) ?_
      refine rr_pv (as := [.int (nI j)]) (al0 := [some (.ref 146), some (.int (nI j)), none]) (r := []) d_240_21 mo_240 ml_248 mz_208 rfl rfl rfl (Nat.le_of_ble_eq_true rfl) (s_lays (n := m) hj hm6 hk) ?_
      obtain ⟨wl21, hwl21⟩ : ∃ w_, w_ = rf_f (fun q => A 1 (37 * j + 1 + q)) (A 4) (m * m) := ⟨_, rfl⟩
      rw [← hwl21]
      show RR _ _ 24 [some (.ref 146), some (.int (nI j)), some (.int (nI 0)), some (.int (nI p)), some (.int (nI q))] [] (upd g 6 (nI m)) (rf_u A 4 wl21) _
      have hcu := cur_l (g := g) hsh hm6 hl hwl21
      refine rr_nx (pc' := 25) (al' := [some (.ref 146), some (.int (nI j)), some (.int (nI 0)), some (.int (nI p)), some (.int (nI q))]) (st' := [.ref 146]) d_240_24 (fun _ => rfl) ?_
      refine rr_nx (pc' := 26) (al' := [some (.ref 146), some (.int (nI j)), some (.int (nI 0)), some (.int (nI p)), some (.int (nI q))]) (st' := [.int (nI p), .ref 146]) d_240_25 (fun _ => rfl) ?_
      refine rr_pv (as := [.int (nI p)]) (al0 := [some (.ref 146), some (.int (nI p))]) (r := []) d_240_26 mo_240 ml_260 mz_228 rfl rfl rfl (Nat.le_of_ble_eq_true rfl) (s_isElement hcu (by omega) (nI p)) ?_
      show RR _ _ 29 [some (.ref 146), some (.int (nI j)), some (.int (nI 0)), some (.int (nI p)), some (.int (nI q))] [.int (bI (nI 0 ≤ (nI p) ∧ (nI p) ≤ nI (m - 1)))] (upd g 6 (nI m)) (rf_u A 4 wl21) _
      refine rr_beq (t := 41) d_240_29 (by decide) (fun c29 => ?_) (fun c29 => ?_)
      · exact absurd ((el_r h1 (by omega)).mpr ((in_j (by omega)).mpr hp)) c29
      · refine rr_nx (pc' := 33) (al' := [some (.ref 146), some (.int (nI j)), some (.int (nI 0)), some (.int (nI p)), some (.int (nI q))]) (st' := [.ref 146]) d_240_32 (fun _ => rfl) ?_
        refine rr_nx (pc' := 35) (al' := [some (.ref 146), some (.int (nI j)), some (.int (nI 0)), some (.int (nI p)), some (.int (nI q))]) (st' := [.int (nI q), .ref 146]) d_240_33 (fun _ => rfl) ?_
        refine rr_pv (as := [.int (nI q)]) (al0 := [some (.ref 146), some (.int (nI q))]) (r := []) d_240_35 mo_240 ml_260 mz_228 rfl rfl rfl (Nat.le_of_ble_eq_true rfl) (s_isElement hcu (by omega) (nI q)) ?_
        show RR _ _ 38 [some (.ref 146), some (.int (nI j)), some (.int (nI 0)), some (.int (nI p)), some (.int (nI q))] [.int (bI (nI 0 ≤ (nI q) ∧ (nI q) ≤ nI (m - 1)))] (upd g 6 (nI m)) (rf_u A 4 wl21) _
        refine rr_bne (t := 43) d_240_38 (by decide) (fun c38 => ?_) (fun c38 => ?_)
        · refine rr_nx (pc' := 44) (al' := [some (.ref 146), some (.int (nI j)), some (.int (nI 0)), some (.int (nI p)), some (.int (nI q))]) (st' := [.int (nI 0)]) d_240_43 (fun _ => rfl) ?_
          refine rn_ine (t := 57) d_240_44 (by decide) (by first | omega | assumption | exact cu_36 (by omega) (cu_lt (by omega) (by omega))) (fun c44 => ?_) (fun c44 => ?_)
          · omega
          · refine rr_nx (pc' := 48) (al' := [some (.ref 146), some (.int (nI j)), some (.int (nI 0)), some (.int (nI p)), some (.int (nI q))]) (st' := [.ref 146]) d_240_47 (fun _ => rfl) ?_
            refine rr_nx (pc' := 49) (al' := [some (.ref 146), some (.int (nI j)), some (.int (nI 0)), some (.int (nI p)), some (.int (nI q))]) (st' := [.int (nI p), .ref 146]) d_240_48 (fun _ => rfl) ?_
            refine rr_nx (pc' := 51) (al' := [some (.ref 146), some (.int (nI j)), some (.int (nI 0)), some (.int (nI p)), some (.int (nI q))]) (st' := [.int (nI q), .int (nI p), .ref 146]) d_240_49 (fun _ => rfl) ?_
            refine rr_pv (as := [.int (nI p), .int (nI q)]) (al0 := [some (.ref 146), some (.int (nI p)), some (.int (nI q))]) (r := []) d_240_51 mo_240 ml_130 mz_213 rfl rfl rfl (Nat.le_of_ble_eq_true rfl) (s_times hcu (by omega) (by omega)) ?_
            show RR _ _ 54 [some (.ref 146), some (.int (nI j)), some (.int (nI 0)), some (.int (nI p)), some (.int (nI q))] [.int (nI (c (m * p + q)))] (upd g 6 (nI m)) (rf_u A 4 wl21) _
            have b51 : c (m * p + q) < m := (hcu.2.2 _ (cu_lt (by omega) (by omega))).2
            refine rr_nx (pc' := 79) (al' := [some (.ref 146), some (.int (nI j)), some (.int (nI 0)), some (.int (nI p)), some (.int (nI q))]) (st' := [.int (nI (c (m * p + q)))]) d_240_54 (fun _ => rfl) ?_
            exact rr_ri d_240_79 mr_240 rfl ⟨rfl, (hW.q (Gsm.rf.u rfl) (Ksm.rf.u rfl)).mo⟩
        · exact absurd ((el_r h1 (by omega)).mpr ((in_j (by omega)).mpr hq)) c38
    · exact absurd (show nI 0 ≤ nI 0 ∧ nI 0 ≤ nI 2 by decide) c14
theorem p_at1 {S : CS} {G : Nat → Nat → Value} {B : Nat → Nat → Int32} {J : Nat → Nat → Int64} {R : Nat → Nat → Option Nat} {n : Nat} {W : WS} (hW : WC n S G B R W) {j m : Nat} {c : Nat → Nat} (hj : j < 6) (htb : tbK (wK W) j = (m, c)) (h1 : 1 ≤ m) {p q : Nat} (hp : p < m) (hq : q < m) : CR 80 138 0 [some (.ref 2), some (.int (nI j)), some (.int (nI 1)), some (.int (nI p)), some (.int (nI q)), none] [] S G B J R (fun r S' G' B' J' R' => r = some (.int (nI (undI m c p q))) ∧ WC (n + 1) S' G' B' R' W) := by
  have hS := hW.1.1
  have hF := hW.2.1
  have hO := hW.2.2.2.1
  obtain ⟨ta, ka, la, hH, hLk, hl2, hs3, hbd⟩ := hW.2.2.1
  obtain ⟨zt, hzt, ezt⟩ := (hH.2.1 j hj).2
  have ht := hH.ta hj
  have hsh := hH.2.2.2.2.2.2.1 j hj
  rw [show kH (wK W) (kD (wK W)) j = (m, c) from htb] at hsh
  have hok := tb_ok hO hj
  rw [htb] at hok
  have hn : G (ta j) 0 = .int (nI m) := hsh.1
  have hc : TabC B (ta j) m c := hsh.c hok
  have hl : Lat m c := hok.2
  have hm6 : m ≤ 6 := hok.1
  have hyes : hasP (wK W) (nI j) := (has_i hj).mpr (by rw [htb]; exact h1)
  refine cr_nx (pc' := 1) (al' := [some (.ref 2), some (.int (nI j)), some (.int (nI 1)), some (.int (nI p)), some (.int (nI q)), none]) (st' := [.ref 2]) d_138_0 (fun _ => rfl) ?_
  refine cr_nx (pc' := 2) (al' := [some (.ref 2), some (.int (nI j)), some (.int (nI 1)), some (.int (nI p)), some (.int (nI q)), none]) (st' := [.int (nI j), .ref 2]) d_138_1 (fun _ => rfl) ?_
  refine cr_pv (b := 2) (as := [.int (nI j)]) (al0 := [some (.ref 2), some (.int (nI j))]) (r := []) d_138_2 cw_138 cm_11_137 cz_126 rfl rfl (hS.i (a := 2) (by decide) (by decide)) (by rw [cw_126]; exact (hS.s (a := 2) (by decide) (by decide) rfl)) (by rw [cw_126]; decide) rfl (Nat.le_of_ble_eq_true rfl) (k_has hS hF hH hO) ?_
  show CR _ _ 5 [some (.ref 2), some (.int (nI j)), some (.int (nI 1)), some (.int (nI p)), some (.int (nI q)), none] [.int (bI (hasP (wK W) (nI j)))] S G B J R _
  refine cr_bne (t := 10) d_138_5 (by decide) (fun c5 => ?_) (fun c5 => ?_)
  · refine cr_nx (pc' := 11) (al' := [some (.ref 2), some (.int (nI j)), some (.int (nI 1)), some (.int (nI p)), some (.int (nI q)), none]) (st' := [.ref 2]) d_138_10 (fun _ => rfl) ?_
    refine cr_gf (v := .ref 3) d_138_11 cw_138 cf_11_10 (hS.i (a := 2) (by decide) (by decide)) (hS.s (a := 2) (by decide) (by decide) rfl) (by decide) (fx_2_0 hF) ?_
    refine cr_gf (v := .ref 4) d_138_14 cw_138 cf_11_140 (hS.i (a := 3) (by decide) (by decide)) (hS.s (a := 3) (by decide) (by decide) rfl) (by decide) (fx_3_0 hF) ?_
    refine cr_nx (pc' := 18) (al' := [some (.ref 2), some (.int (nI j)), some (.int (nI 1)), some (.int (nI p)), some (.int (nI q)), none]) (st' := [.int (nI j), .ref 4]) d_138_17 (fun _ => rfl) ?_
    refine cr_aa (a := 4) (v := .ref (ta j)) d_138_18 (hS.i (a := 4) (by decide) (by decide)) (by decide) (hS.s (a := 4) (by decide) (by decide) rfl) (by decide) (show j < 6 by first | omega | assumption | exact cu_36 (by omega) (cu_lt (by omega) (by omega))) (show va_rf _ = _ by rw [(hH.2.1 j hj).1]; rfl) ?_
    refine cr_nx (pc' := 21) (al' := [some (.ref 2), some (.int (nI j)), some (.int (nI 1)), some (.int (nI p)), some (.int (nI q)), some (.ref (ta j))]) (st' := []) d_138_19 (fun _ => rfl) ?_
    refine cr_nx (pc' := 23) (al' := [some (.ref 2), some (.int (nI j)), some (.int (nI 1)), some (.int (nI p)), some (.int (nI q)), some (.ref (ta j))]) (st' := [.ref (ta j)]) d_138_21 (fun _ => rfl) ?_
    refine cr_nx (pc' := 24) (al' := [some (.ref 2), some (.int (nI j)), some (.int (nI 1)), some (.int (nI p)), some (.int (nI q)), some (.ref (ta j))]) (st' := [.int (nI p), .ref (ta j)]) d_138_23 (fun _ => rfl) ?_
    refine cr_pv (b := (ta j)) (as := [.int (nI p)]) (al0 := [some (.ref (ta j)), some (.int (nI p))]) (r := []) d_138_24 cw_138 cm_11_148 cz_92 rfl rfl ht.1 (by rw [cw_92]; exact ht.2.2.1) (by rw [cw_92]; decide) rfl (Nat.le_of_ble_eq_true rfl) (k_hasElement ht hn (nI p)) ?_
    show CR _ _ 27 [some (.ref 2), some (.int (nI j)), some (.int (nI 1)), some (.int (nI p)), some (.int (nI q)), some (.ref (ta j))] [.int (bI (0 ≤ (nI p) ∧ (nI p) < nI m))] S G B J R _
    refine cr_beq (t := 40) d_138_27 (by decide) (fun c27 => ?_) (fun c27 => ?_)
    · exact absurd ((el_i (by omega)).mpr ((in_j (by omega)).mpr hp)) c27
    · refine cr_nx (pc' := 32) (al' := [some (.ref 2), some (.int (nI j)), some (.int (nI 1)), some (.int (nI p)), some (.int (nI q)), some (.ref (ta j))]) (st' := [.ref (ta j)]) d_138_30 (fun _ => rfl) ?_
      refine cr_nx (pc' := 34) (al' := [some (.ref 2), some (.int (nI j)), some (.int (nI 1)), some (.int (nI p)), some (.int (nI q)), some (.ref (ta j))]) (st' := [.int (nI q), .ref (ta j)]) d_138_32 (fun _ => rfl) ?_
      refine cr_pv (b := (ta j)) (as := [.int (nI q)]) (al0 := [some (.ref (ta j)), some (.int (nI q))]) (r := []) d_138_34 cw_138 cm_11_148 cz_92 rfl rfl ht.1 (by rw [cw_92]; exact ht.2.2.1) (by rw [cw_92]; decide) rfl (Nat.le_of_ble_eq_true rfl) (k_hasElement ht hn (nI q)) ?_
      show CR _ _ 37 [some (.ref 2), some (.int (nI j)), some (.int (nI 1)), some (.int (nI p)), some (.int (nI q)), some (.ref (ta j))] [.int (bI (0 ≤ (nI q) ∧ (nI q) < nI m))] S G B J R _
      refine cr_bne (t := 42) d_138_37 (by decide) (fun c37 => ?_) (fun c37 => ?_)
      · refine cr_nx (pc' := 43) (al' := [some (.ref 2), some (.int (nI j)), some (.int (nI 1)), some (.int (nI p)), some (.int (nI q)), some (.ref (ta j))]) (st' := [.int (nI 1)]) d_138_42 (fun _ => rfl) ?_
        refine cr_ts (off := 34) (t := 77) d_138_43 (by decide) (by decide) rfl (by decide) ?_
        refine cr_nx (pc' := 79) (al' := [some (.ref 2), some (.int (nI j)), some (.int (nI 1)), some (.int (nI p)), some (.int (nI q)), some (.ref (ta j))]) (st' := [.ref (ta j)]) d_138_77 (fun _ => rfl) ?_
        refine cr_nx (pc' := 80) (al' := [some (.ref 2), some (.int (nI j)), some (.int (nI 1)), some (.int (nI p)), some (.int (nI q)), some (.ref (ta j))]) (st' := [.int (nI p), .ref (ta j)]) d_138_79 (fun _ => rfl) ?_
        refine cr_nx (pc' := 82) (al' := [some (.ref 2), some (.int (nI j)), some (.int (nI 1)), some (.int (nI p)), some (.int (nI q)), some (.ref (ta j))]) (st' := [.int (nI q), .int (nI p), .ref (ta j)]) d_138_80 (fun _ => rfl) ?_
        refine cr_pv (b := (ta j)) (as := [.int (nI p), .int (nI q)]) (al0 := [some (.ref (ta j)), some (.int (nI p)), some (.int (nI q)), none]) (r := []) d_138_82 cw_138 cm_11_221 cz_102 rfl rfl ht.1 (by rw [cw_102]; exact ht.2.2.1) (by rw [cw_102]; decide) rfl (Nat.le_of_ble_eq_true rfl) ((fxV_t (hl.u (x := p) (v := q) (by omega) (by omega)).1 ▸ k_under ht hn hc (x := p) (v := q) (by omega) (by omega))) ?_
        show CR _ _ 85 [some (.ref 2), some (.int (nI j)), some (.int (nI 1)), some (.int (nI p)), some (.int (nI q)), some (.ref (ta j))] [.int (nI (undI m c p q))] S G B J R _
        have b82 : undI m c p q < m := (hl.u (by omega) (by omega)).1
        exact cr_ri d_138_85 cx_138 rfl ⟨rfl, hW.mo⟩
      · exact absurd ((el_i (by omega)).mpr ((in_j (by omega)).mpr hq)) c37
  · exact absurd hyes c5
theorem r_at1 {g : Nat → Int32} {A : Nat → Nat → Int32} {n : Nat} {W : WS} (hW : WR n g A W) (hO : CoOk (wK W)) {j m : Nat} {c : Nat → Nat} (hj : j < 6) (htb : tbK (wK W) j = (m, c)) (h1 : 1 ≤ m) {p q : Nat} (hp : p < m) (hq : q < m) : RR 80 240 0 [some (.ref 146), some (.int (nI j)), some (.int (nI 1)), some (.int (nI p)), some (.int (nI q))] [] g A (fun r g' A' => r = some (.int (nI (undI m c p q))) ∧ WR (n + 1) g' A' W) := by
  have hsh := hW.1.1.1 j hj
  rw [show kH (wK W) (kD (wK W)) j = (m, c) from htb] at hsh
  have hok := tb_ok hO hj
  rw [htb] at hok
  have hk : A 1 (37 * j) = nI m := hsh.1
  have hl : Lat m c := hok.2
  have hm6 : m ≤ 6 := hok.1
  have hyes : isT A (nI j) := (has_r hW hO).mpr ((has_i hj).mpr (by rw [htb]; exact h1))
  refine rr_nx (pc' := 1) (al' := [some (.ref 146), some (.int (nI j)), some (.int (nI 1)), some (.int (nI p)), some (.int (nI q))]) (st' := [.ref 146]) d_240_0 (fun _ => rfl) ?_
  refine rr_nx (pc' := 2) (al' := [some (.ref 146), some (.int (nI j)), some (.int (nI 1)), some (.int (nI p)), some (.int (nI q))]) (st' := [.int (nI j), .ref 146]) d_240_1 (fun _ => rfl) ?_
  refine rr_pv (as := [.int (nI j)]) (al0 := [some (.ref 146), some (.int (nI j))]) (r := []) d_240_2 mo_240 ml_124 mz_184 rfl rfl rfl (Nat.le_of_ble_eq_true rfl) (s_isTable (nI j)) ?_
  show RR _ _ 5 [some (.ref 146), some (.int (nI j)), some (.int (nI 1)), some (.int (nI p)), some (.int (nI q))] [.int (bI (isT A (nI j)))] g A _
  refine rr_beq (t := 17) d_240_5 (by decide) (fun c5 => ?_) (fun c5 => ?_)
  · exact absurd hyes c5
  · refine rr_nx (pc' := 9) (al' := [some (.ref 146), some (.int (nI j)), some (.int (nI 1)), some (.int (nI p)), some (.int (nI q))]) (st' := [.int (nI 1)]) d_240_8 (fun _ => rfl) ?_
    refine rn_ic (v := 0) d_240_9 (by decide) ?_
    refine rn_ic (v := 2) d_240_10 (by decide) ?_
    refine rr_ps (as := [.int (nI 1), .int (nI 0), .int (nI 2)]) (al0 := [some (.int (nI 1)), some (.int (nI 0)), some (.int (nI 2))]) (r := []) d_240_11 mo_240 ml_106 mz_179 rfl rfl rfl (Nat.le_of_ble_eq_true rfl) (s_lies (nI 1) (nI 0) (nI 2)) ?_
    show RR _ _ 14 [some (.ref 146), some (.int (nI j)), some (.int (nI 1)), some (.int (nI p)), some (.int (nI q))] [.int (bI ((nI 0) ≤ (nI 1) ∧ (nI 1) ≤ (nI 2)))] g A _
    refine rr_bne (t := 19) d_240_14 (by decide) (fun c14 => ?_) (fun c14 => ?_)
    · refine rr_nx (pc' := 20) (al' := [some (.ref 146), some (.int (nI j)), some (.int (nI 1)), some (.int (nI p)), some (.int (nI q))]) (st' := [.ref 146]) d_240_19 (fun _ => rfl) ?_
      refine rr_nx (pc' := 21) (al' := [some (.ref 146), some (.int (nI j)), some (.int (nI 1)), some (.int (nI p)), some (.int (nI q))]) (st' := [.int (nI j), .ref 146]) d_240_20 (fun _ => rfl) ?_
      refine rr_pv (as := [.int (nI j)]) (al0 := [some (.ref 146), some (.int (nI j)), none]) (r := []) d_240_21 mo_240 ml_248 mz_208 rfl rfl rfl (Nat.le_of_ble_eq_true rfl) (s_lays (n := m) hj hm6 hk) ?_
      obtain ⟨wl21, hwl21⟩ : ∃ w_, w_ = rf_f (fun q => A 1 (37 * j + 1 + q)) (A 4) (m * m) := ⟨_, rfl⟩
      rw [← hwl21]
      show RR _ _ 24 [some (.ref 146), some (.int (nI j)), some (.int (nI 1)), some (.int (nI p)), some (.int (nI q))] [] (upd g 6 (nI m)) (rf_u A 4 wl21) _
      have hcu := cur_l (g := g) hsh hm6 hl hwl21
      refine rr_nx (pc' := 25) (al' := [some (.ref 146), some (.int (nI j)), some (.int (nI 1)), some (.int (nI p)), some (.int (nI q))]) (st' := [.ref 146]) d_240_24 (fun _ => rfl) ?_
      refine rr_nx (pc' := 26) (al' := [some (.ref 146), some (.int (nI j)), some (.int (nI 1)), some (.int (nI p)), some (.int (nI q))]) (st' := [.int (nI p), .ref 146]) d_240_25 (fun _ => rfl) ?_
      refine rr_pv (as := [.int (nI p)]) (al0 := [some (.ref 146), some (.int (nI p))]) (r := []) d_240_26 mo_240 ml_260 mz_228 rfl rfl rfl (Nat.le_of_ble_eq_true rfl) (s_isElement hcu (by omega) (nI p)) ?_
      show RR _ _ 29 [some (.ref 146), some (.int (nI j)), some (.int (nI 1)), some (.int (nI p)), some (.int (nI q))] [.int (bI (nI 0 ≤ (nI p) ∧ (nI p) ≤ nI (m - 1)))] (upd g 6 (nI m)) (rf_u A 4 wl21) _
      refine rr_beq (t := 41) d_240_29 (by decide) (fun c29 => ?_) (fun c29 => ?_)
      · exact absurd ((el_r h1 (by omega)).mpr ((in_j (by omega)).mpr hp)) c29
      · refine rr_nx (pc' := 33) (al' := [some (.ref 146), some (.int (nI j)), some (.int (nI 1)), some (.int (nI p)), some (.int (nI q))]) (st' := [.ref 146]) d_240_32 (fun _ => rfl) ?_
        refine rr_nx (pc' := 35) (al' := [some (.ref 146), some (.int (nI j)), some (.int (nI 1)), some (.int (nI p)), some (.int (nI q))]) (st' := [.int (nI q), .ref 146]) d_240_33 (fun _ => rfl) ?_
        refine rr_pv (as := [.int (nI q)]) (al0 := [some (.ref 146), some (.int (nI q))]) (r := []) d_240_35 mo_240 ml_260 mz_228 rfl rfl rfl (Nat.le_of_ble_eq_true rfl) (s_isElement hcu (by omega) (nI q)) ?_
        show RR _ _ 38 [some (.ref 146), some (.int (nI j)), some (.int (nI 1)), some (.int (nI p)), some (.int (nI q))] [.int (bI (nI 0 ≤ (nI q) ∧ (nI q) ≤ nI (m - 1)))] (upd g 6 (nI m)) (rf_u A 4 wl21) _
        refine rr_bne (t := 43) d_240_38 (by decide) (fun c38 => ?_) (fun c38 => ?_)
        · refine rr_nx (pc' := 44) (al' := [some (.ref 146), some (.int (nI j)), some (.int (nI 1)), some (.int (nI p)), some (.int (nI q))]) (st' := [.int (nI 1)]) d_240_43 (fun _ => rfl) ?_
          refine rn_ine (t := 57) d_240_44 (by decide) (by first | omega | assumption | exact cu_36 (by omega) (cu_lt (by omega) (by omega))) (fun c44 => ?_) (fun c44 => ?_)
          · refine rr_nx (pc' := 58) (al' := [some (.ref 146), some (.int (nI j)), some (.int (nI 1)), some (.int (nI p)), some (.int (nI q))]) (st' := [.int (nI 1)]) d_240_57 (fun _ => rfl) ?_
            refine rn_ic (v := 1) d_240_58 (by decide) ?_
            refine rn_cne (t := 72) d_240_59 (by decide) (by first | omega | assumption | exact cu_36 (by omega) (cu_lt (by omega) (by omega))) (by first | omega | assumption | exact cu_36 (by omega) (cu_lt (by omega) (by omega))) (fun c59 => ?_) (fun c59 => ?_)
            · omega
            · refine rr_nx (pc' := 63) (al' := [some (.ref 146), some (.int (nI j)), some (.int (nI 1)), some (.int (nI p)), some (.int (nI q))]) (st' := [.ref 146]) d_240_62 (fun _ => rfl) ?_
              refine rr_nx (pc' := 64) (al' := [some (.ref 146), some (.int (nI j)), some (.int (nI 1)), some (.int (nI p)), some (.int (nI q))]) (st' := [.int (nI p), .ref 146]) d_240_63 (fun _ => rfl) ?_
              refine rr_nx (pc' := 66) (al' := [some (.ref 146), some (.int (nI j)), some (.int (nI 1)), some (.int (nI p)), some (.int (nI q))]) (st' := [.int (nI q), .int (nI p), .ref 146]) d_240_64 (fun _ => rfl) ?_
              refine rr_pv (as := [.int (nI p), .int (nI q)]) (al0 := [some (.ref 146), some (.int (nI p)), some (.int (nI q)), none]) (r := []) d_240_66 mo_240 ml_211 mz_220 rfl rfl rfl (Nat.le_of_ble_eq_true rfl) (s_behind hcu (by omega) (by omega) (hl.u (by omega) (by omega)).1 (hl.u (by omega) (by omega)).2 (Lat.un _ _)) ?_
              show RR _ _ 69 [some (.ref 146), some (.int (nI j)), some (.int (nI 1)), some (.int (nI p)), some (.int (nI q))] [.int (nI (undI m c p q))] (upd g 6 (nI m)) (rf_u A 4 wl21) _
              have b66 : undI m c p q < m := (hl.u (by omega) (by omega)).1
              refine rr_nx (pc' := 79) (al' := [some (.ref 146), some (.int (nI j)), some (.int (nI 1)), some (.int (nI p)), some (.int (nI q))]) (st' := [.int (nI (undI m c p q))]) d_240_69 (fun _ => rfl) ?_
              exact rr_ri d_240_79 mr_240 rfl ⟨rfl, (hW.q (Gsm.rf.u rfl) (Ksm.rf.u rfl)).mo⟩
          · omega
        · exact absurd ((el_r h1 (by omega)).mpr ((in_j (by omega)).mpr hq)) c38
    · exact absurd (show nI 0 ≤ nI 1 ∧ nI 1 ≤ nI 2 by decide) c14
theorem p_at2 {S : CS} {G : Nat → Nat → Value} {B : Nat → Nat → Int32} {J : Nat → Nat → Int64} {R : Nat → Nat → Option Nat} {n : Nat} {W : WS} (hW : WC n S G B R W) {j m : Nat} {c : Nat → Nat} (hj : j < 6) (htb : tbK (wK W) j = (m, c)) (h1 : 1 ≤ m) {p q : Nat} (hp : p < m) (hq : q < m) : CR 80 138 0 [some (.ref 2), some (.int (nI j)), some (.int (nI 2)), some (.int (nI p)), some (.int (nI q)), none] [] S G B J R (fun r S' G' B' J' R' => r = some (.int (nI (ovrI m c p q))) ∧ WC (n + 1) S' G' B' R' W) := by
  have hS := hW.1.1
  have hF := hW.2.1
  have hO := hW.2.2.2.1
  obtain ⟨ta, ka, la, hH, hLk, hl2, hs3, hbd⟩ := hW.2.2.1
  obtain ⟨zt, hzt, ezt⟩ := (hH.2.1 j hj).2
  have ht := hH.ta hj
  have hsh := hH.2.2.2.2.2.2.1 j hj
  rw [show kH (wK W) (kD (wK W)) j = (m, c) from htb] at hsh
  have hok := tb_ok hO hj
  rw [htb] at hok
  have hn : G (ta j) 0 = .int (nI m) := hsh.1
  have hc : TabC B (ta j) m c := hsh.c hok
  have hl : Lat m c := hok.2
  have hm6 : m ≤ 6 := hok.1
  have hyes : hasP (wK W) (nI j) := (has_i hj).mpr (by rw [htb]; exact h1)
  refine cr_nx (pc' := 1) (al' := [some (.ref 2), some (.int (nI j)), some (.int (nI 2)), some (.int (nI p)), some (.int (nI q)), none]) (st' := [.ref 2]) d_138_0 (fun _ => rfl) ?_
  refine cr_nx (pc' := 2) (al' := [some (.ref 2), some (.int (nI j)), some (.int (nI 2)), some (.int (nI p)), some (.int (nI q)), none]) (st' := [.int (nI j), .ref 2]) d_138_1 (fun _ => rfl) ?_
  refine cr_pv (b := 2) (as := [.int (nI j)]) (al0 := [some (.ref 2), some (.int (nI j))]) (r := []) d_138_2 cw_138 cm_11_137 cz_126 rfl rfl (hS.i (a := 2) (by decide) (by decide)) (by rw [cw_126]; exact (hS.s (a := 2) (by decide) (by decide) rfl)) (by rw [cw_126]; decide) rfl (Nat.le_of_ble_eq_true rfl) (k_has hS hF hH hO) ?_
  show CR _ _ 5 [some (.ref 2), some (.int (nI j)), some (.int (nI 2)), some (.int (nI p)), some (.int (nI q)), none] [.int (bI (hasP (wK W) (nI j)))] S G B J R _
  refine cr_bne (t := 10) d_138_5 (by decide) (fun c5 => ?_) (fun c5 => ?_)
  · refine cr_nx (pc' := 11) (al' := [some (.ref 2), some (.int (nI j)), some (.int (nI 2)), some (.int (nI p)), some (.int (nI q)), none]) (st' := [.ref 2]) d_138_10 (fun _ => rfl) ?_
    refine cr_gf (v := .ref 3) d_138_11 cw_138 cf_11_10 (hS.i (a := 2) (by decide) (by decide)) (hS.s (a := 2) (by decide) (by decide) rfl) (by decide) (fx_2_0 hF) ?_
    refine cr_gf (v := .ref 4) d_138_14 cw_138 cf_11_140 (hS.i (a := 3) (by decide) (by decide)) (hS.s (a := 3) (by decide) (by decide) rfl) (by decide) (fx_3_0 hF) ?_
    refine cr_nx (pc' := 18) (al' := [some (.ref 2), some (.int (nI j)), some (.int (nI 2)), some (.int (nI p)), some (.int (nI q)), none]) (st' := [.int (nI j), .ref 4]) d_138_17 (fun _ => rfl) ?_
    refine cr_aa (a := 4) (v := .ref (ta j)) d_138_18 (hS.i (a := 4) (by decide) (by decide)) (by decide) (hS.s (a := 4) (by decide) (by decide) rfl) (by decide) (show j < 6 by first | omega | assumption | exact cu_36 (by omega) (cu_lt (by omega) (by omega))) (show va_rf _ = _ by rw [(hH.2.1 j hj).1]; rfl) ?_
    refine cr_nx (pc' := 21) (al' := [some (.ref 2), some (.int (nI j)), some (.int (nI 2)), some (.int (nI p)), some (.int (nI q)), some (.ref (ta j))]) (st' := []) d_138_19 (fun _ => rfl) ?_
    refine cr_nx (pc' := 23) (al' := [some (.ref 2), some (.int (nI j)), some (.int (nI 2)), some (.int (nI p)), some (.int (nI q)), some (.ref (ta j))]) (st' := [.ref (ta j)]) d_138_21 (fun _ => rfl) ?_
    refine cr_nx (pc' := 24) (al' := [some (.ref 2), some (.int (nI j)), some (.int (nI 2)), some (.int (nI p)), some (.int (nI q)), some (.ref (ta j))]) (st' := [.int (nI p), .ref (ta j)]) d_138_23 (fun _ => rfl) ?_
    refine cr_pv (b := (ta j)) (as := [.int (nI p)]) (al0 := [some (.ref (ta j)), some (.int (nI p))]) (r := []) d_138_24 cw_138 cm_11_148 cz_92 rfl rfl ht.1 (by rw [cw_92]; exact ht.2.2.1) (by rw [cw_92]; decide) rfl (Nat.le_of_ble_eq_true rfl) (k_hasElement ht hn (nI p)) ?_
    show CR _ _ 27 [some (.ref 2), some (.int (nI j)), some (.int (nI 2)), some (.int (nI p)), some (.int (nI q)), some (.ref (ta j))] [.int (bI (0 ≤ (nI p) ∧ (nI p) < nI m))] S G B J R _
    refine cr_beq (t := 40) d_138_27 (by decide) (fun c27 => ?_) (fun c27 => ?_)
    · exact absurd ((el_i (by omega)).mpr ((in_j (by omega)).mpr hp)) c27
    · refine cr_nx (pc' := 32) (al' := [some (.ref 2), some (.int (nI j)), some (.int (nI 2)), some (.int (nI p)), some (.int (nI q)), some (.ref (ta j))]) (st' := [.ref (ta j)]) d_138_30 (fun _ => rfl) ?_
      refine cr_nx (pc' := 34) (al' := [some (.ref 2), some (.int (nI j)), some (.int (nI 2)), some (.int (nI p)), some (.int (nI q)), some (.ref (ta j))]) (st' := [.int (nI q), .ref (ta j)]) d_138_32 (fun _ => rfl) ?_
      refine cr_pv (b := (ta j)) (as := [.int (nI q)]) (al0 := [some (.ref (ta j)), some (.int (nI q))]) (r := []) d_138_34 cw_138 cm_11_148 cz_92 rfl rfl ht.1 (by rw [cw_92]; exact ht.2.2.1) (by rw [cw_92]; decide) rfl (Nat.le_of_ble_eq_true rfl) (k_hasElement ht hn (nI q)) ?_
      show CR _ _ 37 [some (.ref 2), some (.int (nI j)), some (.int (nI 2)), some (.int (nI p)), some (.int (nI q)), some (.ref (ta j))] [.int (bI (0 ≤ (nI q) ∧ (nI q) < nI m))] S G B J R _
      refine cr_bne (t := 42) d_138_37 (by decide) (fun c37 => ?_) (fun c37 => ?_)
      · refine cr_nx (pc' := 43) (al' := [some (.ref 2), some (.int (nI j)), some (.int (nI 2)), some (.int (nI p)), some (.int (nI q)), some (.ref (ta j))]) (st' := [.int (nI 2)]) d_138_42 (fun _ => rfl) ?_
        refine cr_ts (off := 43) (t := 86) d_138_43 (by decide) (by decide) rfl (by decide) ?_
        refine cr_nx (pc' := 88) (al' := [some (.ref 2), some (.int (nI j)), some (.int (nI 2)), some (.int (nI p)), some (.int (nI q)), some (.ref (ta j))]) (st' := [.ref (ta j)]) d_138_86 (fun _ => rfl) ?_
        refine cr_nx (pc' := 89) (al' := [some (.ref 2), some (.int (nI j)), some (.int (nI 2)), some (.int (nI p)), some (.int (nI q)), some (.ref (ta j))]) (st' := [.int (nI p), .ref (ta j)]) d_138_88 (fun _ => rfl) ?_
        refine cr_nx (pc' := 91) (al' := [some (.ref 2), some (.int (nI j)), some (.int (nI 2)), some (.int (nI p)), some (.int (nI q)), some (.ref (ta j))]) (st' := [.int (nI q), .int (nI p), .ref (ta j)]) d_138_89 (fun _ => rfl) ?_
        refine cr_pv (b := (ta j)) (as := [.int (nI p), .int (nI q)]) (al0 := [some (.ref (ta j)), some (.int (nI p)), some (.int (nI q)), none]) (r := []) d_138_91 cw_138 cm_11_224 cz_97 rfl rfl ht.1 (by rw [cw_97]; exact ht.2.2.1) (by rw [cw_97]; decide) rfl (Nat.le_of_ble_eq_true rfl) ((fxV_t (hl.o (x := q) (v := p) (by omega) (by omega)).1 ▸ k_over ht hn hc (x := q) (v := p) (by omega) (by omega))) ?_
        show CR _ _ 94 [some (.ref 2), some (.int (nI j)), some (.int (nI 2)), some (.int (nI p)), some (.int (nI q)), some (.ref (ta j))] [.int (nI (ovrI m c p q))] S G B J R _
        have b91 : ovrI m c p q < m := (hl.o (by omega) (by omega)).1
        exact cr_ri d_138_94 cx_138 rfl ⟨rfl, hW.mo⟩
      · exact absurd ((el_i (by omega)).mpr ((in_j (by omega)).mpr hq)) c37
  · exact absurd hyes c5
theorem r_at2 {g : Nat → Int32} {A : Nat → Nat → Int32} {n : Nat} {W : WS} (hW : WR n g A W) (hO : CoOk (wK W)) {j m : Nat} {c : Nat → Nat} (hj : j < 6) (htb : tbK (wK W) j = (m, c)) (h1 : 1 ≤ m) {p q : Nat} (hp : p < m) (hq : q < m) : RR 80 240 0 [some (.ref 146), some (.int (nI j)), some (.int (nI 2)), some (.int (nI p)), some (.int (nI q))] [] g A (fun r g' A' => r = some (.int (nI (ovrI m c p q))) ∧ WR (n + 1) g' A' W) := by
  have hsh := hW.1.1.1 j hj
  rw [show kH (wK W) (kD (wK W)) j = (m, c) from htb] at hsh
  have hok := tb_ok hO hj
  rw [htb] at hok
  have hk : A 1 (37 * j) = nI m := hsh.1
  have hl : Lat m c := hok.2
  have hm6 : m ≤ 6 := hok.1
  have hyes : isT A (nI j) := (has_r hW hO).mpr ((has_i hj).mpr (by rw [htb]; exact h1))
  refine rr_nx (pc' := 1) (al' := [some (.ref 146), some (.int (nI j)), some (.int (nI 2)), some (.int (nI p)), some (.int (nI q))]) (st' := [.ref 146]) d_240_0 (fun _ => rfl) ?_
  refine rr_nx (pc' := 2) (al' := [some (.ref 146), some (.int (nI j)), some (.int (nI 2)), some (.int (nI p)), some (.int (nI q))]) (st' := [.int (nI j), .ref 146]) d_240_1 (fun _ => rfl) ?_
  refine rr_pv (as := [.int (nI j)]) (al0 := [some (.ref 146), some (.int (nI j))]) (r := []) d_240_2 mo_240 ml_124 mz_184 rfl rfl rfl (Nat.le_of_ble_eq_true rfl) (s_isTable (nI j)) ?_
  show RR _ _ 5 [some (.ref 146), some (.int (nI j)), some (.int (nI 2)), some (.int (nI p)), some (.int (nI q))] [.int (bI (isT A (nI j)))] g A _
  refine rr_beq (t := 17) d_240_5 (by decide) (fun c5 => ?_) (fun c5 => ?_)
  · exact absurd hyes c5
  · refine rr_nx (pc' := 9) (al' := [some (.ref 146), some (.int (nI j)), some (.int (nI 2)), some (.int (nI p)), some (.int (nI q))]) (st' := [.int (nI 2)]) d_240_8 (fun _ => rfl) ?_
    refine rn_ic (v := 0) d_240_9 (by decide) ?_
    refine rn_ic (v := 2) d_240_10 (by decide) ?_
    refine rr_ps (as := [.int (nI 2), .int (nI 0), .int (nI 2)]) (al0 := [some (.int (nI 2)), some (.int (nI 0)), some (.int (nI 2))]) (r := []) d_240_11 mo_240 ml_106 mz_179 rfl rfl rfl (Nat.le_of_ble_eq_true rfl) (s_lies (nI 2) (nI 0) (nI 2)) ?_
    show RR _ _ 14 [some (.ref 146), some (.int (nI j)), some (.int (nI 2)), some (.int (nI p)), some (.int (nI q))] [.int (bI ((nI 0) ≤ (nI 2) ∧ (nI 2) ≤ (nI 2)))] g A _
    refine rr_bne (t := 19) d_240_14 (by decide) (fun c14 => ?_) (fun c14 => ?_)
    · refine rr_nx (pc' := 20) (al' := [some (.ref 146), some (.int (nI j)), some (.int (nI 2)), some (.int (nI p)), some (.int (nI q))]) (st' := [.ref 146]) d_240_19 (fun _ => rfl) ?_
      refine rr_nx (pc' := 21) (al' := [some (.ref 146), some (.int (nI j)), some (.int (nI 2)), some (.int (nI p)), some (.int (nI q))]) (st' := [.int (nI j), .ref 146]) d_240_20 (fun _ => rfl) ?_
      refine rr_pv (as := [.int (nI j)]) (al0 := [some (.ref 146), some (.int (nI j)), none]) (r := []) d_240_21 mo_240 ml_248 mz_208 rfl rfl rfl (Nat.le_of_ble_eq_true rfl) (s_lays (n := m) hj hm6 hk) ?_
      obtain ⟨wl21, hwl21⟩ : ∃ w_, w_ = rf_f (fun q => A 1 (37 * j + 1 + q)) (A 4) (m * m) := ⟨_, rfl⟩
      rw [← hwl21]
      show RR _ _ 24 [some (.ref 146), some (.int (nI j)), some (.int (nI 2)), some (.int (nI p)), some (.int (nI q))] [] (upd g 6 (nI m)) (rf_u A 4 wl21) _
      have hcu := cur_l (g := g) hsh hm6 hl hwl21
      refine rr_nx (pc' := 25) (al' := [some (.ref 146), some (.int (nI j)), some (.int (nI 2)), some (.int (nI p)), some (.int (nI q))]) (st' := [.ref 146]) d_240_24 (fun _ => rfl) ?_
      refine rr_nx (pc' := 26) (al' := [some (.ref 146), some (.int (nI j)), some (.int (nI 2)), some (.int (nI p)), some (.int (nI q))]) (st' := [.int (nI p), .ref 146]) d_240_25 (fun _ => rfl) ?_
      refine rr_pv (as := [.int (nI p)]) (al0 := [some (.ref 146), some (.int (nI p))]) (r := []) d_240_26 mo_240 ml_260 mz_228 rfl rfl rfl (Nat.le_of_ble_eq_true rfl) (s_isElement hcu (by omega) (nI p)) ?_
      show RR _ _ 29 [some (.ref 146), some (.int (nI j)), some (.int (nI 2)), some (.int (nI p)), some (.int (nI q))] [.int (bI (nI 0 ≤ (nI p) ∧ (nI p) ≤ nI (m - 1)))] (upd g 6 (nI m)) (rf_u A 4 wl21) _
      refine rr_beq (t := 41) d_240_29 (by decide) (fun c29 => ?_) (fun c29 => ?_)
      · exact absurd ((el_r h1 (by omega)).mpr ((in_j (by omega)).mpr hp)) c29
      · refine rr_nx (pc' := 33) (al' := [some (.ref 146), some (.int (nI j)), some (.int (nI 2)), some (.int (nI p)), some (.int (nI q))]) (st' := [.ref 146]) d_240_32 (fun _ => rfl) ?_
        refine rr_nx (pc' := 35) (al' := [some (.ref 146), some (.int (nI j)), some (.int (nI 2)), some (.int (nI p)), some (.int (nI q))]) (st' := [.int (nI q), .ref 146]) d_240_33 (fun _ => rfl) ?_
        refine rr_pv (as := [.int (nI q)]) (al0 := [some (.ref 146), some (.int (nI q))]) (r := []) d_240_35 mo_240 ml_260 mz_228 rfl rfl rfl (Nat.le_of_ble_eq_true rfl) (s_isElement hcu (by omega) (nI q)) ?_
        show RR _ _ 38 [some (.ref 146), some (.int (nI j)), some (.int (nI 2)), some (.int (nI p)), some (.int (nI q))] [.int (bI (nI 0 ≤ (nI q) ∧ (nI q) ≤ nI (m - 1)))] (upd g 6 (nI m)) (rf_u A 4 wl21) _
        refine rr_bne (t := 43) d_240_38 (by decide) (fun c38 => ?_) (fun c38 => ?_)
        · refine rr_nx (pc' := 44) (al' := [some (.ref 146), some (.int (nI j)), some (.int (nI 2)), some (.int (nI p)), some (.int (nI q))]) (st' := [.int (nI 2)]) d_240_43 (fun _ => rfl) ?_
          refine rn_ine (t := 57) d_240_44 (by decide) (by first | omega | assumption | exact cu_36 (by omega) (cu_lt (by omega) (by omega))) (fun c44 => ?_) (fun c44 => ?_)
          · refine rr_nx (pc' := 58) (al' := [some (.ref 146), some (.int (nI j)), some (.int (nI 2)), some (.int (nI p)), some (.int (nI q))]) (st' := [.int (nI 2)]) d_240_57 (fun _ => rfl) ?_
            refine rn_ic (v := 1) d_240_58 (by decide) ?_
            refine rn_cne (t := 72) d_240_59 (by decide) (by first | omega | assumption | exact cu_36 (by omega) (cu_lt (by omega) (by omega))) (by first | omega | assumption | exact cu_36 (by omega) (cu_lt (by omega) (by omega))) (fun c59 => ?_) (fun c59 => ?_)
            · refine rr_nx (pc' := 73) (al' := [some (.ref 146), some (.int (nI j)), some (.int (nI 2)), some (.int (nI p)), some (.int (nI q))]) (st' := [.ref 146]) d_240_72 (fun _ => rfl) ?_
              refine rr_nx (pc' := 74) (al' := [some (.ref 146), some (.int (nI j)), some (.int (nI 2)), some (.int (nI p)), some (.int (nI q))]) (st' := [.int (nI p), .ref 146]) d_240_73 (fun _ => rfl) ?_
              refine rr_nx (pc' := 76) (al' := [some (.ref 146), some (.int (nI j)), some (.int (nI 2)), some (.int (nI p)), some (.int (nI q))]) (st' := [.int (nI q), .int (nI p), .ref 146]) d_240_74 (fun _ => rfl) ?_
              refine rr_pv (as := [.int (nI p), .int (nI q)]) (al0 := [some (.ref 146), some (.int (nI p)), some (.int (nI q)), none]) (r := []) d_240_76 mo_240 ml_208 mz_219 rfl rfl rfl (Nat.le_of_ble_eq_true rfl) (s_ahead hcu (by omega) (by omega) (hl.o (by omega) (by omega)).1 (hl.o (by omega) (by omega)).2 (Lat.on _ _)) ?_
              show RR _ _ 79 [some (.ref 146), some (.int (nI j)), some (.int (nI 2)), some (.int (nI p)), some (.int (nI q))] [.int (nI (ovrI m c p q))] (upd g 6 (nI m)) (rf_u A 4 wl21) _
              have b76 : ovrI m c p q < m := (hl.o (by omega) (by omega)).1
              exact rr_ri d_240_79 mr_240 rfl ⟨rfl, (hW.q (Gsm.rf.u rfl) (Ksm.rf.u rfl)).mo⟩
            · omega
          · omega
        · exact absurd ((el_r h1 (by omega)).mpr ((in_j (by omega)).mpr hq)) c38
    · exact absurd (show nI 0 ≤ nI 2 ∧ nI 2 ≤ nI 2 by decide) c14
theorem p_atB {S : CS} {G : Nat → Nat → Value} {B : Nat → Nat → Int32} {J : Nat → Nat → Int64} {R : Nat → Nat → Option Nat} {n : Nat} {W : WS} (hW : WC n S G B R W) {j m : Nat} {c : Nat → Nat} (hj : j < 6) (htb : tbK (wK W) j = (m, c)) (h1 : 1 ≤ m) {w : Int32} {x z : Int32} (hx : ¬ (inP x m ∧ inP z m)) : CR 80 138 0 [some (.ref 2), some (.int (nI j)), some (.int w), some (.int x), some (.int z), none] [] S G B J R (fun r S' G' B' J' R' => r = some (.int (-1)) ∧ WC (n + 1) S' G' B' R' W) := by
  have hS := hW.1.1
  have hF := hW.2.1
  have hO := hW.2.2.2.1
  obtain ⟨ta, ka, la, hH, hLk, hl2, hs3, hbd⟩ := hW.2.2.1
  obtain ⟨zt, hzt, ezt⟩ := (hH.2.1 j hj).2
  have ht := hH.ta hj
  have hsh := hH.2.2.2.2.2.2.1 j hj
  rw [show kH (wK W) (kD (wK W)) j = (m, c) from htb] at hsh
  have hok := tb_ok hO hj
  rw [htb] at hok
  have hn : G (ta j) 0 = .int (nI m) := hsh.1
  have hc : TabC B (ta j) m c := hsh.c hok
  have hl : Lat m c := hok.2
  have hm6 : m ≤ 6 := hok.1
  have hyes : hasP (wK W) (nI j) := (has_i hj).mpr (by rw [htb]; exact h1)
  refine cr_nx (pc' := 1) (al' := [some (.ref 2), some (.int (nI j)), some (.int w), some (.int x), some (.int z), none]) (st' := [.ref 2]) d_138_0 (fun _ => rfl) ?_
  refine cr_nx (pc' := 2) (al' := [some (.ref 2), some (.int (nI j)), some (.int w), some (.int x), some (.int z), none]) (st' := [.int (nI j), .ref 2]) d_138_1 (fun _ => rfl) ?_
  refine cr_pv (b := 2) (as := [.int (nI j)]) (al0 := [some (.ref 2), some (.int (nI j))]) (r := []) d_138_2 cw_138 cm_11_137 cz_126 rfl rfl (hS.i (a := 2) (by decide) (by decide)) (by rw [cw_126]; exact (hS.s (a := 2) (by decide) (by decide) rfl)) (by rw [cw_126]; decide) rfl (Nat.le_of_ble_eq_true rfl) (k_has hS hF hH hO) ?_
  show CR _ _ 5 [some (.ref 2), some (.int (nI j)), some (.int w), some (.int x), some (.int z), none] [.int (bI (hasP (wK W) (nI j)))] S G B J R _
  refine cr_bne (t := 10) d_138_5 (by decide) (fun c5 => ?_) (fun c5 => ?_)
  · refine cr_nx (pc' := 11) (al' := [some (.ref 2), some (.int (nI j)), some (.int w), some (.int x), some (.int z), none]) (st' := [.ref 2]) d_138_10 (fun _ => rfl) ?_
    refine cr_gf (v := .ref 3) d_138_11 cw_138 cf_11_10 (hS.i (a := 2) (by decide) (by decide)) (hS.s (a := 2) (by decide) (by decide) rfl) (by decide) (fx_2_0 hF) ?_
    refine cr_gf (v := .ref 4) d_138_14 cw_138 cf_11_140 (hS.i (a := 3) (by decide) (by decide)) (hS.s (a := 3) (by decide) (by decide) rfl) (by decide) (fx_3_0 hF) ?_
    refine cr_nx (pc' := 18) (al' := [some (.ref 2), some (.int (nI j)), some (.int w), some (.int x), some (.int z), none]) (st' := [.int (nI j), .ref 4]) d_138_17 (fun _ => rfl) ?_
    refine cr_aa (a := 4) (v := .ref (ta j)) d_138_18 (hS.i (a := 4) (by decide) (by decide)) (by decide) (hS.s (a := 4) (by decide) (by decide) rfl) (by decide) (show j < 6 by first | omega | assumption | exact cu_36 (by omega) (cu_lt (by omega) (by omega))) (show va_rf _ = _ by rw [(hH.2.1 j hj).1]; rfl) ?_
    refine cr_nx (pc' := 21) (al' := [some (.ref 2), some (.int (nI j)), some (.int w), some (.int x), some (.int z), some (.ref (ta j))]) (st' := []) d_138_19 (fun _ => rfl) ?_
    refine cr_nx (pc' := 23) (al' := [some (.ref 2), some (.int (nI j)), some (.int w), some (.int x), some (.int z), some (.ref (ta j))]) (st' := [.ref (ta j)]) d_138_21 (fun _ => rfl) ?_
    refine cr_nx (pc' := 24) (al' := [some (.ref 2), some (.int (nI j)), some (.int w), some (.int x), some (.int z), some (.ref (ta j))]) (st' := [.int x, .ref (ta j)]) d_138_23 (fun _ => rfl) ?_
    refine cr_pv (b := (ta j)) (as := [.int x]) (al0 := [some (.ref (ta j)), some (.int x)]) (r := []) d_138_24 cw_138 cm_11_148 cz_92 rfl rfl ht.1 (by rw [cw_92]; exact ht.2.2.1) (by rw [cw_92]; decide) rfl (Nat.le_of_ble_eq_true rfl) (k_hasElement ht hn x) ?_
    show CR _ _ 27 [some (.ref 2), some (.int (nI j)), some (.int w), some (.int x), some (.int z), some (.ref (ta j))] [.int (bI (0 ≤ x ∧ x < nI m))] S G B J R _
    refine cr_beq (t := 40) d_138_27 (by decide) (fun c27 => ?_) (fun c27 => ?_)
    · refine cr_nx (pc' := 41) (al' := [some (.ref 2), some (.int (nI j)), some (.int w), some (.int x), some (.int z), some (.ref (ta j))]) (st' := [.int (-1)]) d_138_40 (fun _ => rfl) ?_
      exact cr_ri d_138_41 cx_138 rfl ⟨rfl, hW.mo⟩
    · refine cr_nx (pc' := 32) (al' := [some (.ref 2), some (.int (nI j)), some (.int w), some (.int x), some (.int z), some (.ref (ta j))]) (st' := [.ref (ta j)]) d_138_30 (fun _ => rfl) ?_
      refine cr_nx (pc' := 34) (al' := [some (.ref 2), some (.int (nI j)), some (.int w), some (.int x), some (.int z), some (.ref (ta j))]) (st' := [.int z, .ref (ta j)]) d_138_32 (fun _ => rfl) ?_
      refine cr_pv (b := (ta j)) (as := [.int z]) (al0 := [some (.ref (ta j)), some (.int z)]) (r := []) d_138_34 cw_138 cm_11_148 cz_92 rfl rfl ht.1 (by rw [cw_92]; exact ht.2.2.1) (by rw [cw_92]; decide) rfl (Nat.le_of_ble_eq_true rfl) (k_hasElement ht hn z) ?_
      show CR _ _ 37 [some (.ref 2), some (.int (nI j)), some (.int w), some (.int x), some (.int z), some (.ref (ta j))] [.int (bI (0 ≤ z ∧ z < nI m))] S G B J R _
      refine cr_bne (t := 42) d_138_37 (by decide) (fun c37 => ?_) (fun c37 => ?_)
      · exact absurd ⟨(el_i (by omega)).mp c27, (el_i (by omega)).mp c37⟩ hx
      · refine cr_nx (pc' := 41) (al' := [some (.ref 2), some (.int (nI j)), some (.int w), some (.int x), some (.int z), some (.ref (ta j))]) (st' := [.int (-1)]) d_138_40 (fun _ => rfl) ?_
        exact cr_ri d_138_41 cx_138 rfl ⟨rfl, hW.mo⟩
  · exact absurd hyes c5
theorem p_atX {S : CS} {G : Nat → Nat → Value} {B : Nat → Nat → Int32} {J : Nat → Nat → Int64} {R : Nat → Nat → Option Nat} {n : Nat} {W : WS} (hW : WC n S G B R W) {j m : Nat} {c : Nat → Nat} (hj : j < 6) (htb : tbK (wK W) j = (m, c)) (h1 : 1 ≤ m) {w : Int32} (hw : ¬ inP w 3) {p q : Nat} (hp : p < m) (hq : q < m) : CR 80 138 0 [some (.ref 2), some (.int (nI j)), some (.int w), some (.int (nI p)), some (.int (nI q)), none] [] S G B J R (fun r S' G' B' J' R' => r = some (.int (-1)) ∧ WC (n + 1) S' G' B' R' W) := by
  have hS := hW.1.1
  have hF := hW.2.1
  have hO := hW.2.2.2.1
  obtain ⟨ta, ka, la, hH, hLk, hl2, hs3, hbd⟩ := hW.2.2.1
  obtain ⟨zt, hzt, ezt⟩ := (hH.2.1 j hj).2
  have ht := hH.ta hj
  have hsh := hH.2.2.2.2.2.2.1 j hj
  rw [show kH (wK W) (kD (wK W)) j = (m, c) from htb] at hsh
  have hok := tb_ok hO hj
  rw [htb] at hok
  have hn : G (ta j) 0 = .int (nI m) := hsh.1
  have hc : TabC B (ta j) m c := hsh.c hok
  have hl : Lat m c := hok.2
  have hm6 : m ≤ 6 := hok.1
  have hyes : hasP (wK W) (nI j) := (has_i hj).mpr (by rw [htb]; exact h1)
  refine cr_nx (pc' := 1) (al' := [some (.ref 2), some (.int (nI j)), some (.int w), some (.int (nI p)), some (.int (nI q)), none]) (st' := [.ref 2]) d_138_0 (fun _ => rfl) ?_
  refine cr_nx (pc' := 2) (al' := [some (.ref 2), some (.int (nI j)), some (.int w), some (.int (nI p)), some (.int (nI q)), none]) (st' := [.int (nI j), .ref 2]) d_138_1 (fun _ => rfl) ?_
  refine cr_pv (b := 2) (as := [.int (nI j)]) (al0 := [some (.ref 2), some (.int (nI j))]) (r := []) d_138_2 cw_138 cm_11_137 cz_126 rfl rfl (hS.i (a := 2) (by decide) (by decide)) (by rw [cw_126]; exact (hS.s (a := 2) (by decide) (by decide) rfl)) (by rw [cw_126]; decide) rfl (Nat.le_of_ble_eq_true rfl) (k_has hS hF hH hO) ?_
  show CR _ _ 5 [some (.ref 2), some (.int (nI j)), some (.int w), some (.int (nI p)), some (.int (nI q)), none] [.int (bI (hasP (wK W) (nI j)))] S G B J R _
  refine cr_bne (t := 10) d_138_5 (by decide) (fun c5 => ?_) (fun c5 => ?_)
  · refine cr_nx (pc' := 11) (al' := [some (.ref 2), some (.int (nI j)), some (.int w), some (.int (nI p)), some (.int (nI q)), none]) (st' := [.ref 2]) d_138_10 (fun _ => rfl) ?_
    refine cr_gf (v := .ref 3) d_138_11 cw_138 cf_11_10 (hS.i (a := 2) (by decide) (by decide)) (hS.s (a := 2) (by decide) (by decide) rfl) (by decide) (fx_2_0 hF) ?_
    refine cr_gf (v := .ref 4) d_138_14 cw_138 cf_11_140 (hS.i (a := 3) (by decide) (by decide)) (hS.s (a := 3) (by decide) (by decide) rfl) (by decide) (fx_3_0 hF) ?_
    refine cr_nx (pc' := 18) (al' := [some (.ref 2), some (.int (nI j)), some (.int w), some (.int (nI p)), some (.int (nI q)), none]) (st' := [.int (nI j), .ref 4]) d_138_17 (fun _ => rfl) ?_
    refine cr_aa (a := 4) (v := .ref (ta j)) d_138_18 (hS.i (a := 4) (by decide) (by decide)) (by decide) (hS.s (a := 4) (by decide) (by decide) rfl) (by decide) (show j < 6 by first | omega | assumption | exact cu_36 (by omega) (cu_lt (by omega) (by omega))) (show va_rf _ = _ by rw [(hH.2.1 j hj).1]; rfl) ?_
    refine cr_nx (pc' := 21) (al' := [some (.ref 2), some (.int (nI j)), some (.int w), some (.int (nI p)), some (.int (nI q)), some (.ref (ta j))]) (st' := []) d_138_19 (fun _ => rfl) ?_
    refine cr_nx (pc' := 23) (al' := [some (.ref 2), some (.int (nI j)), some (.int w), some (.int (nI p)), some (.int (nI q)), some (.ref (ta j))]) (st' := [.ref (ta j)]) d_138_21 (fun _ => rfl) ?_
    refine cr_nx (pc' := 24) (al' := [some (.ref 2), some (.int (nI j)), some (.int w), some (.int (nI p)), some (.int (nI q)), some (.ref (ta j))]) (st' := [.int (nI p), .ref (ta j)]) d_138_23 (fun _ => rfl) ?_
    refine cr_pv (b := (ta j)) (as := [.int (nI p)]) (al0 := [some (.ref (ta j)), some (.int (nI p))]) (r := []) d_138_24 cw_138 cm_11_148 cz_92 rfl rfl ht.1 (by rw [cw_92]; exact ht.2.2.1) (by rw [cw_92]; decide) rfl (Nat.le_of_ble_eq_true rfl) (k_hasElement ht hn (nI p)) ?_
    show CR _ _ 27 [some (.ref 2), some (.int (nI j)), some (.int w), some (.int (nI p)), some (.int (nI q)), some (.ref (ta j))] [.int (bI (0 ≤ (nI p) ∧ (nI p) < nI m))] S G B J R _
    refine cr_beq (t := 40) d_138_27 (by decide) (fun c27 => ?_) (fun c27 => ?_)
    · exact absurd ((el_i (by omega)).mpr ((in_j (by omega)).mpr hp)) c27
    · refine cr_nx (pc' := 32) (al' := [some (.ref 2), some (.int (nI j)), some (.int w), some (.int (nI p)), some (.int (nI q)), some (.ref (ta j))]) (st' := [.ref (ta j)]) d_138_30 (fun _ => rfl) ?_
      refine cr_nx (pc' := 34) (al' := [some (.ref 2), some (.int (nI j)), some (.int w), some (.int (nI p)), some (.int (nI q)), some (.ref (ta j))]) (st' := [.int (nI q), .ref (ta j)]) d_138_32 (fun _ => rfl) ?_
      refine cr_pv (b := (ta j)) (as := [.int (nI q)]) (al0 := [some (.ref (ta j)), some (.int (nI q))]) (r := []) d_138_34 cw_138 cm_11_148 cz_92 rfl rfl ht.1 (by rw [cw_92]; exact ht.2.2.1) (by rw [cw_92]; decide) rfl (Nat.le_of_ble_eq_true rfl) (k_hasElement ht hn (nI q)) ?_
      show CR _ _ 37 [some (.ref 2), some (.int (nI j)), some (.int w), some (.int (nI p)), some (.int (nI q)), some (.ref (ta j))] [.int (bI (0 ≤ (nI q) ∧ (nI q) < nI m))] S G B J R _
      refine cr_bne (t := 42) d_138_37 (by decide) (fun c37 => ?_) (fun c37 => ?_)
      · refine cr_nx (pc' := 43) (al' := [some (.ref 2), some (.int (nI j)), some (.int w), some (.int (nI p)), some (.int (nI q)), some (.ref (ta j))]) (st' := [.int w]) d_138_42 (fun _ => rfl) ?_
        refine cr_td (t := 95) d_138_43 (td_x hw) (by decide) ?_
        refine cr_nx (pc' := 96) (al' := [some (.ref 2), some (.int (nI j)), some (.int w), some (.int (nI p)), some (.int (nI q)), some (.ref (ta j))]) (st' := [.int (-1)]) d_138_95 (fun _ => rfl) ?_
        exact cr_ri d_138_96 cx_138 rfl ⟨rfl, hW.mo⟩
      · exact absurd ((el_i (by omega)).mpr ((in_j (by omega)).mpr hq)) c37
  · exact absurd hyes c5
theorem r_atX {g : Nat → Int32} {A : Nat → Nat → Int32} {n : Nat} {W : WS} (hW : WR n g A W) (hO : CoOk (wK W)) {j m : Nat} {c : Nat → Nat} (hj : j < 6) (htb : tbK (wK W) j = (m, c)) (h1 : 1 ≤ m) {w : Int32} (hw : ¬ inP w 3) {x z : Int32} : RR 80 240 0 [some (.ref 146), some (.int (nI j)), some (.int w), some (.int x), some (.int z)] [] g A (fun r g' A' => r = some (.int (-1)) ∧ WR (n + 1) g' A' W) := by
  have hsh := hW.1.1.1 j hj
  rw [show kH (wK W) (kD (wK W)) j = (m, c) from htb] at hsh
  have hok := tb_ok hO hj
  rw [htb] at hok
  have hk : A 1 (37 * j) = nI m := hsh.1
  have hl : Lat m c := hok.2
  have hm6 : m ≤ 6 := hok.1
  have hyes : isT A (nI j) := (has_r hW hO).mpr ((has_i hj).mpr (by rw [htb]; exact h1))
  refine rr_nx (pc' := 1) (al' := [some (.ref 146), some (.int (nI j)), some (.int w), some (.int x), some (.int z)]) (st' := [.ref 146]) d_240_0 (fun _ => rfl) ?_
  refine rr_nx (pc' := 2) (al' := [some (.ref 146), some (.int (nI j)), some (.int w), some (.int x), some (.int z)]) (st' := [.int (nI j), .ref 146]) d_240_1 (fun _ => rfl) ?_
  refine rr_pv (as := [.int (nI j)]) (al0 := [some (.ref 146), some (.int (nI j))]) (r := []) d_240_2 mo_240 ml_124 mz_184 rfl rfl rfl (Nat.le_of_ble_eq_true rfl) (s_isTable (nI j)) ?_
  show RR _ _ 5 [some (.ref 146), some (.int (nI j)), some (.int w), some (.int x), some (.int z)] [.int (bI (isT A (nI j)))] g A _
  refine rr_beq (t := 17) d_240_5 (by decide) (fun c5 => ?_) (fun c5 => ?_)
  · exact absurd hyes c5
  · refine rr_nx (pc' := 9) (al' := [some (.ref 146), some (.int (nI j)), some (.int w), some (.int x), some (.int z)]) (st' := [.int w]) d_240_8 (fun _ => rfl) ?_
    refine rn_ic (v := 0) d_240_9 (by decide) ?_
    refine rn_ic (v := 2) d_240_10 (by decide) ?_
    refine rr_ps (as := [.int w, .int (nI 0), .int (nI 2)]) (al0 := [some (.int w), some (.int (nI 0)), some (.int (nI 2))]) (r := []) d_240_11 mo_240 ml_106 mz_179 rfl rfl rfl (Nat.le_of_ble_eq_true rfl) (s_lies w (nI 0) (nI 2)) ?_
    show RR _ _ 14 [some (.ref 146), some (.int (nI j)), some (.int w), some (.int x), some (.int z)] [.int (bI ((nI 0) ≤ w ∧ w ≤ (nI 2)))] g A _
    refine rr_bne (t := 19) d_240_14 (by decide) (fun c14 => ?_) (fun c14 => ?_)
    · exact absurd c14 (fun e_ => hw ((in_r (m := 2) (by decide)).mp e_))
    · refine rr_nx (pc' := 18) (al' := [some (.ref 146), some (.int (nI j)), some (.int w), some (.int x), some (.int z)]) (st' := [.int (-1)]) d_240_17 (fun _ => rfl) ?_
      exact rr_ri d_240_18 mr_240 rfl ⟨rfl, hW.mo⟩
theorem r_atB {g : Nat → Int32} {A : Nat → Nat → Int32} {n : Nat} {W : WS} (hW : WR n g A W) (hO : CoOk (wK W)) {j m : Nat} {c : Nat → Nat} (hj : j < 6) (htb : tbK (wK W) j = (m, c)) (h1 : 1 ≤ m) {k : Nat} (hk3 : k < 3) {x z : Int32} (hx : ¬ (inP x m ∧ inP z m)) : RR 80 240 0 [some (.ref 146), some (.int (nI j)), some (.int (nI k)), some (.int x), some (.int z)] [] g A (fun r g' A' => r = some (.int (-1)) ∧ WR (n + 1) g' A' W) := by
  have hsh := hW.1.1.1 j hj
  rw [show kH (wK W) (kD (wK W)) j = (m, c) from htb] at hsh
  have hok := tb_ok hO hj
  rw [htb] at hok
  have hk : A 1 (37 * j) = nI m := hsh.1
  have hl : Lat m c := hok.2
  have hm6 : m ≤ 6 := hok.1
  have hyes : isT A (nI j) := (has_r hW hO).mpr ((has_i hj).mpr (by rw [htb]; exact h1))
  refine rr_nx (pc' := 1) (al' := [some (.ref 146), some (.int (nI j)), some (.int (nI k)), some (.int x), some (.int z)]) (st' := [.ref 146]) d_240_0 (fun _ => rfl) ?_
  refine rr_nx (pc' := 2) (al' := [some (.ref 146), some (.int (nI j)), some (.int (nI k)), some (.int x), some (.int z)]) (st' := [.int (nI j), .ref 146]) d_240_1 (fun _ => rfl) ?_
  refine rr_pv (as := [.int (nI j)]) (al0 := [some (.ref 146), some (.int (nI j))]) (r := []) d_240_2 mo_240 ml_124 mz_184 rfl rfl rfl (Nat.le_of_ble_eq_true rfl) (s_isTable (nI j)) ?_
  show RR _ _ 5 [some (.ref 146), some (.int (nI j)), some (.int (nI k)), some (.int x), some (.int z)] [.int (bI (isT A (nI j)))] g A _
  refine rr_beq (t := 17) d_240_5 (by decide) (fun c5 => ?_) (fun c5 => ?_)
  · exact absurd hyes c5
  · refine rr_nx (pc' := 9) (al' := [some (.ref 146), some (.int (nI j)), some (.int (nI k)), some (.int x), some (.int z)]) (st' := [.int (nI k)]) d_240_8 (fun _ => rfl) ?_
    refine rn_ic (v := 0) d_240_9 (by decide) ?_
    refine rn_ic (v := 2) d_240_10 (by decide) ?_
    refine rr_ps (as := [.int (nI k), .int (nI 0), .int (nI 2)]) (al0 := [some (.int (nI k)), some (.int (nI 0)), some (.int (nI 2))]) (r := []) d_240_11 mo_240 ml_106 mz_179 rfl rfl rfl (Nat.le_of_ble_eq_true rfl) (s_lies (nI k) (nI 0) (nI 2)) ?_
    show RR _ _ 14 [some (.ref 146), some (.int (nI j)), some (.int (nI k)), some (.int x), some (.int z)] [.int (bI ((nI 0) ≤ (nI k) ∧ (nI k) ≤ (nI 2)))] g A _
    refine rr_bne (t := 19) d_240_14 (by decide) (fun c14 => ?_) (fun c14 => ?_)
    · refine rr_nx (pc' := 20) (al' := [some (.ref 146), some (.int (nI j)), some (.int (nI k)), some (.int x), some (.int z)]) (st' := [.ref 146]) d_240_19 (fun _ => rfl) ?_
      refine rr_nx (pc' := 21) (al' := [some (.ref 146), some (.int (nI j)), some (.int (nI k)), some (.int x), some (.int z)]) (st' := [.int (nI j), .ref 146]) d_240_20 (fun _ => rfl) ?_
      refine rr_pv (as := [.int (nI j)]) (al0 := [some (.ref 146), some (.int (nI j)), none]) (r := []) d_240_21 mo_240 ml_248 mz_208 rfl rfl rfl (Nat.le_of_ble_eq_true rfl) (s_lays (n := m) hj hm6 hk) ?_
      obtain ⟨wl21, hwl21⟩ : ∃ w_, w_ = rf_f (fun q => A 1 (37 * j + 1 + q)) (A 4) (m * m) := ⟨_, rfl⟩
      rw [← hwl21]
      show RR _ _ 24 [some (.ref 146), some (.int (nI j)), some (.int (nI k)), some (.int x), some (.int z)] [] (upd g 6 (nI m)) (rf_u A 4 wl21) _
      have hcu := cur_l (g := g) hsh hm6 hl hwl21
      refine rr_nx (pc' := 25) (al' := [some (.ref 146), some (.int (nI j)), some (.int (nI k)), some (.int x), some (.int z)]) (st' := [.ref 146]) d_240_24 (fun _ => rfl) ?_
      refine rr_nx (pc' := 26) (al' := [some (.ref 146), some (.int (nI j)), some (.int (nI k)), some (.int x), some (.int z)]) (st' := [.int x, .ref 146]) d_240_25 (fun _ => rfl) ?_
      refine rr_pv (as := [.int x]) (al0 := [some (.ref 146), some (.int x)]) (r := []) d_240_26 mo_240 ml_260 mz_228 rfl rfl rfl (Nat.le_of_ble_eq_true rfl) (s_isElement hcu (by omega) x) ?_
      show RR _ _ 29 [some (.ref 146), some (.int (nI j)), some (.int (nI k)), some (.int x), some (.int z)] [.int (bI (nI 0 ≤ x ∧ x ≤ nI (m - 1)))] (upd g 6 (nI m)) (rf_u A 4 wl21) _
      refine rr_beq (t := 41) d_240_29 (by decide) (fun c29 => ?_) (fun c29 => ?_)
      · refine rr_nx (pc' := 42) (al' := [some (.ref 146), some (.int (nI j)), some (.int (nI k)), some (.int x), some (.int z)]) (st' := [.int (-1)]) d_240_41 (fun _ => rfl) ?_
        exact rr_ri d_240_42 mr_240 rfl ⟨rfl, (hW.q (Gsm.rf.u rfl) (Ksm.rf.u rfl)).mo⟩
      · refine rr_nx (pc' := 33) (al' := [some (.ref 146), some (.int (nI j)), some (.int (nI k)), some (.int x), some (.int z)]) (st' := [.ref 146]) d_240_32 (fun _ => rfl) ?_
        refine rr_nx (pc' := 35) (al' := [some (.ref 146), some (.int (nI j)), some (.int (nI k)), some (.int x), some (.int z)]) (st' := [.int z, .ref 146]) d_240_33 (fun _ => rfl) ?_
        refine rr_pv (as := [.int z]) (al0 := [some (.ref 146), some (.int z)]) (r := []) d_240_35 mo_240 ml_260 mz_228 rfl rfl rfl (Nat.le_of_ble_eq_true rfl) (s_isElement hcu (by omega) z) ?_
        show RR _ _ 38 [some (.ref 146), some (.int (nI j)), some (.int (nI k)), some (.int x), some (.int z)] [.int (bI (nI 0 ≤ z ∧ z ≤ nI (m - 1)))] (upd g 6 (nI m)) (rf_u A 4 wl21) _
        refine rr_bne (t := 43) d_240_38 (by decide) (fun c38 => ?_) (fun c38 => ?_)
        · exact absurd ⟨(el_r h1 (by omega)).mp c29, (el_r h1 (by omega)).mp c38⟩ hx
        · refine rr_nx (pc' := 42) (al' := [some (.ref 146), some (.int (nI j)), some (.int (nI k)), some (.int x), some (.int z)]) (st' := [.int (-1)]) d_240_41 (fun _ => rfl) ?_
          exact rr_ri d_240_42 mr_240 rfl ⟨rfl, (hW.q (Gsm.rf.u rfl) (Ksm.rf.u rfl)).mo⟩
    · exact absurd (ia_natI (by decide) (show k ≤ 2 by omega)) c14
theorem p_at_n {S : CS} {G : Nat → Nat → Value} {B : Nat → Nat → Int32} {J : Nat → Nat → Int64} {R : Nat → Nat → Option Nat} {n : Nat} {W : WS} (hW : WC n S G B R W) {t : Int32} (hh : ¬ hasP (wK W) t) {w x z : Int32} : CR 80 138 0 [some (.ref 2), some (.int t), some (.int w), some (.int x), some (.int z), none] [] S G B J R (fun r S' G' B' J' R' => r = some (.int (-1)) ∧ WC (n + 1) S' G' B' R' W) := by
  have hS := hW.1.1
  have hF := hW.2.1
  have hO := hW.2.2.2.1
  obtain ⟨ta, ka, la, hH, hLk, hl2, hs3, hbd⟩ := hW.2.2.1
  refine cr_nx (pc' := 1) (al' := [some (.ref 2), some (.int t), some (.int w), some (.int x), some (.int z), none]) (st' := [.ref 2]) d_138_0 (fun _ => rfl) ?_
  refine cr_nx (pc' := 2) (al' := [some (.ref 2), some (.int t), some (.int w), some (.int x), some (.int z), none]) (st' := [.int t, .ref 2]) d_138_1 (fun _ => rfl) ?_
  refine cr_pv (b := 2) (as := [.int t]) (al0 := [some (.ref 2), some (.int t)]) (r := []) d_138_2 cw_138 cm_11_137 cz_126 rfl rfl (hS.i (a := 2) (by decide) (by decide)) (by rw [cw_126]; exact (hS.s (a := 2) (by decide) (by decide) rfl)) (by rw [cw_126]; decide) rfl (Nat.le_of_ble_eq_true rfl) (k_has hS hF hH hO) ?_
  show CR _ _ 5 [some (.ref 2), some (.int t), some (.int w), some (.int x), some (.int z), none] [.int (bI (hasP (wK W) t))] S G B J R _
  refine cr_bne (t := 10) d_138_5 (by decide) (fun c5 => ?_) (fun c5 => ?_)
  · exact absurd c5 hh
  · refine cr_nx (pc' := 9) (al' := [some (.ref 2), some (.int t), some (.int w), some (.int x), some (.int z), none]) (st' := [.int (-1)]) d_138_8 (fun _ => rfl) ?_
    exact cr_ri d_138_9 cx_138 rfl ⟨rfl, hW.mo⟩
theorem r_at_n {g : Nat → Int32} {A : Nat → Nat → Int32} {n : Nat} {W : WS} (hW : WR n g A W) (hO : CoOk (wK W)) {t : Int32} (hh : ¬ hasP (wK W) t) {w x z : Int32} : RR 80 240 0 [some (.ref 146), some (.int t), some (.int w), some (.int x), some (.int z)] [] g A (fun r g' A' => r = some (.int (-1)) ∧ WR (n + 1) g' A' W) := by
  refine rr_nx (pc' := 1) (al' := [some (.ref 146), some (.int t), some (.int w), some (.int x), some (.int z)]) (st' := [.ref 146]) d_240_0 (fun _ => rfl) ?_
  refine rr_nx (pc' := 2) (al' := [some (.ref 146), some (.int t), some (.int w), some (.int x), some (.int z)]) (st' := [.int t, .ref 146]) d_240_1 (fun _ => rfl) ?_
  refine rr_pv (as := [.int t]) (al0 := [some (.ref 146), some (.int t)]) (r := []) d_240_2 mo_240 ml_124 mz_184 rfl rfl rfl (Nat.le_of_ble_eq_true rfl) (s_isTable t) ?_
  show RR _ _ 5 [some (.ref 146), some (.int t), some (.int w), some (.int x), some (.int z)] [.int (bI (isT A t))] g A _
  refine rr_beq (t := 17) d_240_5 (by decide) (fun c5 => ?_) (fun c5 => ?_)
  · refine rr_nx (pc' := 18) (al' := [some (.ref 146), some (.int t), some (.int w), some (.int x), some (.int z)]) (st' := [.int (-1)]) d_240_17 (fun _ => rfl) ?_
    exact rr_ri d_240_18 mr_240 rfl ⟨rfl, hW.mo⟩
  · exact absurd c5 (fun e_ => hh ((has_r hW hO).mp e_))
theorem T_at {S : CS} {G : Nat → Nat → Value} {B : Nat → Nat → Int32} {J : Nat → Nat → Int64} {R : Nat → Nat → Option Nat} {g : Nat → Int32} {A : Nat → Nat → Int32} {n : Nat} {W : WS} (hC : WC n S G B R W) (hR : WR n g A W) (hn : n ≤ 10000) {t : Int32} {w : Int32} {x : Int32} {z : Int32} : Tie n 138 240 [some (.ref 2), some (.int t), some (.int w), some (.int x), some (.int z), none] [some (.ref 146), some (.int t), some (.int w), some (.int x), some (.int z)] S G B J R g A W := by
  have hO := hC.2.2.2.1
  by_cases hh : hasP (wK W) t
  · obtain ⟨j, hj, e_, h1⟩ := has_n hh
    subst e_
    obtain ⟨⟨m, c⟩, htb⟩ : ∃ tb, tbK (wK W) j = tb := ⟨_, rfl⟩
    rw [htb] at h1
    by_cases hx : inP x m ∧ inP z m
    · obtain ⟨p, hp, e_⟩ := in_n hx.1
      subst e_
      obtain ⟨q, hq, e_⟩ := in_n hx.2
      subst e_
      by_cases hw : inP w 3
      · obtain ⟨k, hk, e_⟩ := in_n hw
        subst e_
        have hk2 : k = 0 ∨ k = 1 ∨ k = 2 := by omega
        rcases hk2 with rfl | rfl | rfl
        · exact ⟨_, W, p_at0 hC hj htb h1 hp hq, r_at0 hR hO hj htb h1 hp hq⟩
        · exact ⟨_, W, p_at1 hC hj htb h1 hp hq, r_at1 hR hO hj htb h1 hp hq⟩
        · exact ⟨_, W, p_at2 hC hj htb h1 hp hq, r_at2 hR hO hj htb h1 hp hq⟩
      · exact ⟨_, W, p_atX hC hj htb h1 hw hp hq, r_atX hR hO hj htb h1 hw⟩
    · by_cases hw : inP w 3
      · obtain ⟨k, hk, e_⟩ := in_n hw
        subst e_
        exact ⟨_, W, p_atB hC hj htb h1 hx, r_atB hR hO hj htb h1 hk hx⟩
      · exact ⟨_, W, p_atB hC hj htb h1 hx, r_atX hR hO hj htb h1 hw⟩
  · exact ⟨_, W, p_at_n hC hh, r_at_n hR hO hh⟩
theorem p_cycles0 {S : CS} {G : Nat → Nat → Value} {B : Nat → Nat → Int32} {J : Nat → Nat → Int64} {R : Nat → Nat → Option Nat} {n : Nat} {W : WS} (hW : WC n S G B R W) {j m : Nat} {c : Nat → Nat} (hj : j < 6) (htb : tbK (wK W) j = (m, c)) (h1 : 1 ≤ m) {p q : Nat} (hp : p < m) (hq : q < m) (hpq : ¬ p = q) : CR 80 161 0 [some (.ref 2), some (.int (nI j)), some (.int (nI p)), some (.int (nI q)), some (.int (nI 0))] [] S G B J R (fun r S' G' B' J' R' => r = some (.int (nI (if 0 = 0 then cyC m (sgN m c p q) m else cyL m (sgN m c p q) m))) ∧ WC (n + 1) S' G' B' R' W) := by
  have hS := hW.1.1
  have hF := hW.2.1
  have hO := hW.2.2.2.1
  obtain ⟨ta, ka, la, hH, hLk, hl2, hs3, hbd⟩ := hW.2.2.1
  obtain ⟨zt, hzt, ezt⟩ := (hH.2.1 j hj).2
  have ht := hH.ta hj
  have hsh := hH.2.2.2.2.2.2.1 j hj
  rw [show kH (wK W) (kD (wK W)) j = (m, c) from htb] at hsh
  have hok := tb_ok hO hj
  rw [htb] at hok
  have hn : G (ta j) 0 = .int (nI m) := hsh.1
  have hc : TabC B (ta j) m c := hsh.c hok
  have hl : Lat m c := hok.2
  have hm6 : m ≤ 6 := hok.1
  have hyes : hasP (wK W) (nI j) := (has_i hj).mpr (by rw [htb]; exact h1)
  refine cr_nx (pc' := 1) (al' := [some (.ref 2), some (.int (nI j)), some (.int (nI p)), some (.int (nI q)), some (.int (nI 0))]) (st' := [.ref 2]) d_161_0 (fun _ => rfl) ?_
  refine cr_nx (pc' := 2) (al' := [some (.ref 2), some (.int (nI j)), some (.int (nI p)), some (.int (nI q)), some (.int (nI 0))]) (st' := [.int (nI j), .ref 2]) d_161_1 (fun _ => rfl) ?_
  refine cr_pv (b := 2) (as := [.int (nI j)]) (al0 := [some (.ref 2), some (.int (nI j))]) (r := []) d_161_2 cw_161 cm_11_137 cz_126 rfl rfl (hS.i (a := 2) (by decide) (by decide)) (by rw [cw_126]; exact (hS.s (a := 2) (by decide) (by decide) rfl)) (by rw [cw_126]; decide) rfl (Nat.le_of_ble_eq_true rfl) (k_has hS hF hH hO) ?_
  show CR _ _ 5 [some (.ref 2), some (.int (nI j)), some (.int (nI p)), some (.int (nI q)), some (.int (nI 0))] [.int (bI (hasP (wK W) (nI j)))] S G B J R _
  refine cr_beq (t := 25) d_161_5 (by decide) (fun c5 => ?_) (fun c5 => ?_)
  · exact absurd hyes c5
  · refine cr_nx (pc' := 9) (al' := [some (.ref 2), some (.int (nI j)), some (.int (nI p)), some (.int (nI q)), some (.int (nI 0))]) (st' := [.ref 2]) d_161_8 (fun _ => rfl) ?_
    refine cr_gf (v := .ref 3) d_161_9 cw_161 cf_11_10 (hS.i (a := 2) (by decide) (by decide)) (hS.s (a := 2) (by decide) (by decide) rfl) (by decide) (fx_2_0 hF) ?_
    refine cr_gf (v := .ref 4) d_161_12 cw_161 cf_11_140 (hS.i (a := 3) (by decide) (by decide)) (hS.s (a := 3) (by decide) (by decide) rfl) (by decide) (fx_3_0 hF) ?_
    refine cr_nx (pc' := 16) (al' := [some (.ref 2), some (.int (nI j)), some (.int (nI p)), some (.int (nI q)), some (.int (nI 0))]) (st' := [.int (nI j), .ref 4]) d_161_15 (fun _ => rfl) ?_
    refine cr_aa (a := 4) (v := .ref (ta j)) d_161_16 (hS.i (a := 4) (by decide) (by decide)) (by decide) (hS.s (a := 4) (by decide) (by decide) rfl) (by decide) (show j < 6 by first | omega | assumption | exact cu_36 (by omega) (cu_lt (by omega) (by omega))) (show va_rf _ = _ by rw [(hH.2.1 j hj).1]; rfl) ?_
    refine cr_nx (pc' := 18) (al' := [some (.ref 2), some (.int (nI j)), some (.int (nI p)), some (.int (nI q)), some (.int (nI 0))]) (st' := [.int (nI p), .ref (ta j)]) d_161_17 (fun _ => rfl) ?_
    refine cr_nx (pc' := 19) (al' := [some (.ref 2), some (.int (nI j)), some (.int (nI p)), some (.int (nI q)), some (.int (nI 0))]) (st' := [.int (nI q), .int (nI p), .ref (ta j)]) d_161_18 (fun _ => rfl) ?_
    refine cr_pv (b := (ta j)) (as := [.int (nI p), .int (nI q)]) (al0 := [some (.ref (ta j)), some (.int (nI p)), some (.int (nI q))]) (r := []) d_161_19 cw_161 cm_11_169 cz_100 rfl rfl ht.1 (by rw [cw_100]; exact ht.2.2.1) (by rw [cw_100]; decide) rfl (Nat.le_of_ble_eq_true rfl) (k_hasTwoRows ht hn (nI p) (nI q)) ?_
    show CR _ _ 22 [some (.ref 2), some (.int (nI j)), some (.int (nI p)), some (.int (nI q)), some (.int (nI 0))] [.int (bI (¬ (nI p) = (nI q) ∧ (0 ≤ (nI p) ∧ (nI p) < nI m) ∧ (0 ≤ (nI q) ∧ (nI q) < nI m)))] S G B J R _
    refine cr_bne (t := 27) d_161_22 (by decide) (fun c22 => ?_) (fun c22 => ?_)
    · refine cr_nx (pc' := 29) (al' := [some (.ref 2), some (.int (nI j)), some (.int (nI p)), some (.int (nI q)), some (.int (nI 0))]) (st' := [.int (nI 0)]) d_161_27 (fun _ => rfl) ?_
      refine cr_ls (off := 27) (t := 56) d_161_29 (by decide) (by decide) (by decide) ?_
      refine cr_nx (pc' := 57) (al' := [some (.ref 2), some (.int (nI j)), some (.int (nI p)), some (.int (nI q)), some (.int (nI 0))]) (st' := [.ref 2]) d_161_56 (fun _ => rfl) ?_
      refine cr_gf (v := .ref 3) d_161_57 cw_161 cf_11_10 (hS.i (a := 2) (by decide) (by decide)) (hS.s (a := 2) (by decide) (by decide) rfl) (by decide) (fx_2_0 hF) ?_
      refine cr_gf (v := .ref 4) d_161_60 cw_161 cf_11_140 (hS.i (a := 3) (by decide) (by decide)) (hS.s (a := 3) (by decide) (by decide) rfl) (by decide) (fx_3_0 hF) ?_
      refine cr_nx (pc' := 64) (al' := [some (.ref 2), some (.int (nI j)), some (.int (nI p)), some (.int (nI q)), some (.int (nI 0))]) (st' := [.int (nI j), .ref 4]) d_161_63 (fun _ => rfl) ?_
      refine cr_aa (a := 4) (v := .ref (ta j)) d_161_64 (hS.i (a := 4) (by decide) (by decide)) (by decide) (hS.s (a := 4) (by decide) (by decide) rfl) (by decide) (show j < 6 by first | omega | assumption | exact cu_36 (by omega) (cu_lt (by omega) (by omega))) (show va_rf _ = _ by rw [(hH.2.1 j hj).1]; rfl) ?_
      refine cr_nx (pc' := 66) (al' := [some (.ref 2), some (.int (nI j)), some (.int (nI p)), some (.int (nI q)), some (.int (nI 0))]) (st' := [.int (nI p), .ref (ta j)]) d_161_65 (fun _ => rfl) ?_
      refine cr_nx (pc' := 67) (al' := [some (.ref 2), some (.int (nI j)), some (.int (nI p)), some (.int (nI q)), some (.int (nI 0))]) (st' := [.int (nI q), .int (nI p), .ref (ta j)]) d_161_66 (fun _ => rfl) ?_
      refine cr_pv (b := (ta j)) (as := [.int (nI p), .int (nI q)]) (al0 := [some (.ref (ta j)), some (.int (nI p)), some (.int (nI q)), none, none, none]) (r := []) d_161_67 cw_161 cm_11_327 cz_110 rfl rfl ht.1 (by rw [cw_110]; exact ht.2.2.1) (by rw [cw_110]; decide) rfl (Nat.le_of_ble_eq_true rfl) (k_cycleCount ht hn hc hl hp hq) ?_
      show CR _ _ 70 [some (.ref 2), some (.int (nI j)), some (.int (nI p)), some (.int (nI q)), some (.int (nI 0))] [.int (nI (cyC m (sgN m c p q) m))] S G B J R _
      exact cr_ri d_161_70 cx_161 rfl ⟨rfl, hW.mo⟩
    · exact absurd ((tw_i (by omega)).mpr ⟨fun e_ => hpq ((nI_eq (by omega) (by omega)).mp e_), (in_j (by omega)).mpr hp, (in_j (by omega)).mpr hq⟩) c22
theorem r_cycles0 {g : Nat → Int32} {A : Nat → Nat → Int32} {n : Nat} {W : WS} (hW : WR n g A W) (hO : CoOk (wK W)) {j m : Nat} {c : Nat → Nat} (hj : j < 6) (htb : tbK (wK W) j = (m, c)) (h1 : 1 ≤ m) {p q : Nat} (hp : p < m) (hq : q < m) (hpq : ¬ p = q) : RR 80 267 0 [some (.ref 146), some (.int (nI j)), some (.int (nI p)), some (.int (nI q)), some (.int (nI 0)), none, none, none, none, none, none] [] g A (fun r g' A' => r = some (.int (nI (if 0 = 0 then cyC m (sgN m c p q) m else cyL m (sgN m c p q) m))) ∧ WR (n + 1) g' A' W) := by
  have hsh := hW.1.1.1 j hj
  rw [show kH (wK W) (kD (wK W)) j = (m, c) from htb] at hsh
  have hok := tb_ok hO hj
  rw [htb] at hok
  have hk : A 1 (37 * j) = nI m := hsh.1
  have hl : Lat m c := hok.2
  have hm6 : m ≤ 6 := hok.1
  have hyes : isT A (nI j) := (has_r hW hO).mpr ((has_i hj).mpr (by rw [htb]; exact h1))
  refine rr_nx (pc' := 1) (al' := [some (.ref 146), some (.int (nI j)), some (.int (nI p)), some (.int (nI q)), some (.int (nI 0)), none, none, none, none, none, none]) (st' := [.ref 146]) d_267_0 (fun _ => rfl) ?_
  refine rr_nx (pc' := 2) (al' := [some (.ref 146), some (.int (nI j)), some (.int (nI p)), some (.int (nI q)), some (.int (nI 0)), none, none, none, none, none, none]) (st' := [.int (nI j), .ref 146]) d_267_1 (fun _ => rfl) ?_
  refine rr_pv (as := [.int (nI j)]) (al0 := [some (.ref 146), some (.int (nI j))]) (r := []) d_267_2 mo_267 ml_124 mz_184 rfl rfl rfl (Nat.le_of_ble_eq_true rfl) (s_isTable (nI j)) ?_
  show RR _ _ 5 [some (.ref 146), some (.int (nI j)), some (.int (nI p)), some (.int (nI q)), some (.int (nI 0)), none, none, none, none, none, none] [.int (bI (isT A (nI j)))] g A _
  refine rr_beq (t := 18) d_267_5 (by decide) (fun c5 => ?_) (fun c5 => ?_)
  · exact absurd hyes c5
  · refine rr_nx (pc' := 10) (al' := [some (.ref 146), some (.int (nI j)), some (.int (nI p)), some (.int (nI q)), some (.int (nI 0)), none, none, none, none, none, none]) (st' := [.int (nI 0)]) d_267_8 (fun _ => rfl) ?_
    refine rn_ic (v := 0) d_267_10 (by decide) ?_
    refine rn_ic (v := 1) d_267_11 (by decide) ?_
    refine rr_ps (as := [.int (nI 0), .int (nI 0), .int (nI 1)]) (al0 := [some (.int (nI 0)), some (.int (nI 0)), some (.int (nI 1))]) (r := []) d_267_12 mo_267 ml_106 mz_179 rfl rfl rfl (Nat.le_of_ble_eq_true rfl) (s_lies (nI 0) (nI 0) (nI 1)) ?_
    show RR _ _ 15 [some (.ref 146), some (.int (nI j)), some (.int (nI p)), some (.int (nI q)), some (.int (nI 0)), none, none, none, none, none, none] [.int (bI ((nI 0) ≤ (nI 0) ∧ (nI 0) ≤ (nI 1)))] g A _
    refine rr_bne (t := 20) d_267_15 (by decide) (fun c15 => ?_) (fun c15 => ?_)
    · refine rr_nx (pc' := 21) (al' := [some (.ref 146), some (.int (nI j)), some (.int (nI p)), some (.int (nI q)), some (.int (nI 0)), none, none, none, none, none, none]) (st' := [.ref 146]) d_267_20 (fun _ => rfl) ?_
      refine rr_nx (pc' := 22) (al' := [some (.ref 146), some (.int (nI j)), some (.int (nI p)), some (.int (nI q)), some (.int (nI 0)), none, none, none, none, none, none]) (st' := [.int (nI j), .ref 146]) d_267_21 (fun _ => rfl) ?_
      refine rr_pv (as := [.int (nI j)]) (al0 := [some (.ref 146), some (.int (nI j)), none]) (r := []) d_267_22 mo_267 ml_248 mz_208 rfl rfl rfl (Nat.le_of_ble_eq_true rfl) (s_lays (n := m) hj hm6 hk) ?_
      obtain ⟨wl22, hwl22⟩ : ∃ w_, w_ = rf_f (fun q => A 1 (37 * j + 1 + q)) (A 4) (m * m) := ⟨_, rfl⟩
      rw [← hwl22]
      show RR _ _ 25 [some (.ref 146), some (.int (nI j)), some (.int (nI p)), some (.int (nI q)), some (.int (nI 0)), none, none, none, none, none, none] [] (upd g 6 (nI m)) (rf_u A 4 wl22) _
      have hcu := cur_l (g := g) hsh hm6 hl hwl22
      refine rr_nx (pc' := 26) (al' := [some (.ref 146), some (.int (nI j)), some (.int (nI p)), some (.int (nI q)), some (.int (nI 0)), none, none, none, none, none, none]) (st' := [.ref 146]) d_267_25 (fun _ => rfl) ?_
      refine rr_nx (pc' := 27) (al' := [some (.ref 146), some (.int (nI j)), some (.int (nI p)), some (.int (nI q)), some (.int (nI 0)), none, none, none, none, none, none]) (st' := [.int (nI p), .ref 146]) d_267_26 (fun _ => rfl) ?_
      refine rr_pv (as := [.int (nI p)]) (al0 := [some (.ref 146), some (.int (nI p))]) (r := []) d_267_27 mo_267 ml_260 mz_228 rfl rfl rfl (Nat.le_of_ble_eq_true rfl) (s_isElement hcu (by omega) (nI p)) ?_
      show RR _ _ 30 [some (.ref 146), some (.int (nI j)), some (.int (nI p)), some (.int (nI q)), some (.int (nI 0)), none, none, none, none, none, none] [.int (bI (nI 0 ≤ (nI p) ∧ (nI p) ≤ nI (m - 1)))] (upd g 6 (nI m)) (rf_u A 4 wl22) _
      refine rr_beq (t := 46) d_267_30 (by decide) (fun c30 => ?_) (fun c30 => ?_)
      · exact absurd ((el_r h1 (by omega)).mpr ((in_j (by omega)).mpr hp)) c30
      · refine rr_nx (pc' := 34) (al' := [some (.ref 146), some (.int (nI j)), some (.int (nI p)), some (.int (nI q)), some (.int (nI 0)), none, none, none, none, none, none]) (st' := [.ref 146]) d_267_33 (fun _ => rfl) ?_
        refine rr_nx (pc' := 35) (al' := [some (.ref 146), some (.int (nI j)), some (.int (nI p)), some (.int (nI q)), some (.int (nI 0)), none, none, none, none, none, none]) (st' := [.int (nI q), .ref 146]) d_267_34 (fun _ => rfl) ?_
        refine rr_pv (as := [.int (nI q)]) (al0 := [some (.ref 146), some (.int (nI q))]) (r := []) d_267_35 mo_267 ml_260 mz_228 rfl rfl rfl (Nat.le_of_ble_eq_true rfl) (s_isElement hcu (by omega) (nI q)) ?_
        show RR _ _ 38 [some (.ref 146), some (.int (nI j)), some (.int (nI p)), some (.int (nI q)), some (.int (nI 0)), none, none, none, none, none, none] [.int (bI (nI 0 ≤ (nI q) ∧ (nI q) ≤ nI (m - 1)))] (upd g 6 (nI m)) (rf_u A 4 wl22) _
        refine rr_beq (t := 46) d_267_38 (by decide) (fun c38 => ?_) (fun c38 => ?_)
        · exact absurd ((el_r h1 (by omega)).mpr ((in_j (by omega)).mpr hq)) c38
        · refine rr_nx (pc' := 42) (al' := [some (.ref 146), some (.int (nI j)), some (.int (nI p)), some (.int (nI q)), some (.int (nI 0)), none, none, none, none, none, none]) (st' := [.int (nI p)]) d_267_41 (fun _ => rfl) ?_
          refine rr_nx (pc' := 43) (al' := [some (.ref 146), some (.int (nI j)), some (.int (nI p)), some (.int (nI q)), some (.int (nI 0)), none, none, none, none, none, none]) (st' := [.int (nI q), .int (nI p)]) d_267_42 (fun _ => rfl) ?_
          refine rn_cne (t := 48) d_267_43 (by decide) (by first | omega | assumption | exact cu_36 (by omega) (cu_lt (by omega) (by omega))) (by first | omega | assumption | exact cu_36 (by omega) (cu_lt (by omega) (by omega))) (fun c43 => ?_) (fun c43 => ?_)
          · refine rr_dr (al1 := [some (.ref 146), none, some (.int (nI p)), some (.int (nI q)), some (.int (nI 0)), none, none, none, none, none, none]) (le_s (le_d rfl (le_s (le_s (le_s (le_s (le_s (le_s (le_s (le_s (le_s (le_n)))))))))))) ?_
            refine rr_cq (rr_wk (by decide) (s_cycles_48 hcu hl hp hq (by decide))) ?_
            rintro r_ g_ A_ ⟨rfl, rfl, rfl⟩
            exact ⟨rfl, (hW.q (Gsm.rf.u rfl) (Ksm.rf.u rfl)).mo⟩
          · exact absurd c43 hpq
    · exact absurd (show nI 0 ≤ nI 0 ∧ nI 0 ≤ nI 1 by decide) c15
theorem p_cycles1 {S : CS} {G : Nat → Nat → Value} {B : Nat → Nat → Int32} {J : Nat → Nat → Int64} {R : Nat → Nat → Option Nat} {n : Nat} {W : WS} (hW : WC n S G B R W) {j m : Nat} {c : Nat → Nat} (hj : j < 6) (htb : tbK (wK W) j = (m, c)) (h1 : 1 ≤ m) {p q : Nat} (hp : p < m) (hq : q < m) (hpq : ¬ p = q) : CR 80 161 0 [some (.ref 2), some (.int (nI j)), some (.int (nI p)), some (.int (nI q)), some (.int (nI 1))] [] S G B J R (fun r S' G' B' J' R' => r = some (.int (nI (if 1 = 0 then cyC m (sgN m c p q) m else cyL m (sgN m c p q) m))) ∧ WC (n + 1) S' G' B' R' W) := by
  have hS := hW.1.1
  have hF := hW.2.1
  have hO := hW.2.2.2.1
  obtain ⟨ta, ka, la, hH, hLk, hl2, hs3, hbd⟩ := hW.2.2.1
  obtain ⟨zt, hzt, ezt⟩ := (hH.2.1 j hj).2
  have ht := hH.ta hj
  have hsh := hH.2.2.2.2.2.2.1 j hj
  rw [show kH (wK W) (kD (wK W)) j = (m, c) from htb] at hsh
  have hok := tb_ok hO hj
  rw [htb] at hok
  have hn : G (ta j) 0 = .int (nI m) := hsh.1
  have hc : TabC B (ta j) m c := hsh.c hok
  have hl : Lat m c := hok.2
  have hm6 : m ≤ 6 := hok.1
  have hyes : hasP (wK W) (nI j) := (has_i hj).mpr (by rw [htb]; exact h1)
  refine cr_nx (pc' := 1) (al' := [some (.ref 2), some (.int (nI j)), some (.int (nI p)), some (.int (nI q)), some (.int (nI 1))]) (st' := [.ref 2]) d_161_0 (fun _ => rfl) ?_
  refine cr_nx (pc' := 2) (al' := [some (.ref 2), some (.int (nI j)), some (.int (nI p)), some (.int (nI q)), some (.int (nI 1))]) (st' := [.int (nI j), .ref 2]) d_161_1 (fun _ => rfl) ?_
  refine cr_pv (b := 2) (as := [.int (nI j)]) (al0 := [some (.ref 2), some (.int (nI j))]) (r := []) d_161_2 cw_161 cm_11_137 cz_126 rfl rfl (hS.i (a := 2) (by decide) (by decide)) (by rw [cw_126]; exact (hS.s (a := 2) (by decide) (by decide) rfl)) (by rw [cw_126]; decide) rfl (Nat.le_of_ble_eq_true rfl) (k_has hS hF hH hO) ?_
  show CR _ _ 5 [some (.ref 2), some (.int (nI j)), some (.int (nI p)), some (.int (nI q)), some (.int (nI 1))] [.int (bI (hasP (wK W) (nI j)))] S G B J R _
  refine cr_beq (t := 25) d_161_5 (by decide) (fun c5 => ?_) (fun c5 => ?_)
  · exact absurd hyes c5
  · refine cr_nx (pc' := 9) (al' := [some (.ref 2), some (.int (nI j)), some (.int (nI p)), some (.int (nI q)), some (.int (nI 1))]) (st' := [.ref 2]) d_161_8 (fun _ => rfl) ?_
    refine cr_gf (v := .ref 3) d_161_9 cw_161 cf_11_10 (hS.i (a := 2) (by decide) (by decide)) (hS.s (a := 2) (by decide) (by decide) rfl) (by decide) (fx_2_0 hF) ?_
    refine cr_gf (v := .ref 4) d_161_12 cw_161 cf_11_140 (hS.i (a := 3) (by decide) (by decide)) (hS.s (a := 3) (by decide) (by decide) rfl) (by decide) (fx_3_0 hF) ?_
    refine cr_nx (pc' := 16) (al' := [some (.ref 2), some (.int (nI j)), some (.int (nI p)), some (.int (nI q)), some (.int (nI 1))]) (st' := [.int (nI j), .ref 4]) d_161_15 (fun _ => rfl) ?_
    refine cr_aa (a := 4) (v := .ref (ta j)) d_161_16 (hS.i (a := 4) (by decide) (by decide)) (by decide) (hS.s (a := 4) (by decide) (by decide) rfl) (by decide) (show j < 6 by first | omega | assumption | exact cu_36 (by omega) (cu_lt (by omega) (by omega))) (show va_rf _ = _ by rw [(hH.2.1 j hj).1]; rfl) ?_
    refine cr_nx (pc' := 18) (al' := [some (.ref 2), some (.int (nI j)), some (.int (nI p)), some (.int (nI q)), some (.int (nI 1))]) (st' := [.int (nI p), .ref (ta j)]) d_161_17 (fun _ => rfl) ?_
    refine cr_nx (pc' := 19) (al' := [some (.ref 2), some (.int (nI j)), some (.int (nI p)), some (.int (nI q)), some (.int (nI 1))]) (st' := [.int (nI q), .int (nI p), .ref (ta j)]) d_161_18 (fun _ => rfl) ?_
    refine cr_pv (b := (ta j)) (as := [.int (nI p), .int (nI q)]) (al0 := [some (.ref (ta j)), some (.int (nI p)), some (.int (nI q))]) (r := []) d_161_19 cw_161 cm_11_169 cz_100 rfl rfl ht.1 (by rw [cw_100]; exact ht.2.2.1) (by rw [cw_100]; decide) rfl (Nat.le_of_ble_eq_true rfl) (k_hasTwoRows ht hn (nI p) (nI q)) ?_
    show CR _ _ 22 [some (.ref 2), some (.int (nI j)), some (.int (nI p)), some (.int (nI q)), some (.int (nI 1))] [.int (bI (¬ (nI p) = (nI q) ∧ (0 ≤ (nI p) ∧ (nI p) < nI m) ∧ (0 ≤ (nI q) ∧ (nI q) < nI m)))] S G B J R _
    refine cr_bne (t := 27) d_161_22 (by decide) (fun c22 => ?_) (fun c22 => ?_)
    · refine cr_nx (pc' := 29) (al' := [some (.ref 2), some (.int (nI j)), some (.int (nI p)), some (.int (nI q)), some (.int (nI 1))]) (st' := [.int (nI 1)]) d_161_27 (fun _ => rfl) ?_
      refine cr_ls (off := 42) (t := 71) d_161_29 (by decide) (by decide) (by decide) ?_
      refine cr_nx (pc' := 72) (al' := [some (.ref 2), some (.int (nI j)), some (.int (nI p)), some (.int (nI q)), some (.int (nI 1))]) (st' := [.ref 2]) d_161_71 (fun _ => rfl) ?_
      refine cr_gf (v := .ref 3) d_161_72 cw_161 cf_11_10 (hS.i (a := 2) (by decide) (by decide)) (hS.s (a := 2) (by decide) (by decide) rfl) (by decide) (fx_2_0 hF) ?_
      refine cr_gf (v := .ref 4) d_161_75 cw_161 cf_11_140 (hS.i (a := 3) (by decide) (by decide)) (hS.s (a := 3) (by decide) (by decide) rfl) (by decide) (fx_3_0 hF) ?_
      refine cr_nx (pc' := 79) (al' := [some (.ref 2), some (.int (nI j)), some (.int (nI p)), some (.int (nI q)), some (.int (nI 1))]) (st' := [.int (nI j), .ref 4]) d_161_78 (fun _ => rfl) ?_
      refine cr_aa (a := 4) (v := .ref (ta j)) d_161_79 (hS.i (a := 4) (by decide) (by decide)) (by decide) (hS.s (a := 4) (by decide) (by decide) rfl) (by decide) (show j < 6 by first | omega | assumption | exact cu_36 (by omega) (cu_lt (by omega) (by omega))) (show va_rf _ = _ by rw [(hH.2.1 j hj).1]; rfl) ?_
      refine cr_nx (pc' := 81) (al' := [some (.ref 2), some (.int (nI j)), some (.int (nI p)), some (.int (nI q)), some (.int (nI 1))]) (st' := [.int (nI p), .ref (ta j)]) d_161_80 (fun _ => rfl) ?_
      refine cr_nx (pc' := 82) (al' := [some (.ref 2), some (.int (nI j)), some (.int (nI p)), some (.int (nI q)), some (.int (nI 1))]) (st' := [.int (nI q), .int (nI p), .ref (ta j)]) d_161_81 (fun _ => rfl) ?_
      refine cr_pv (b := (ta j)) (as := [.int (nI p), .int (nI q)]) (al0 := [some (.ref (ta j)), some (.int (nI p)), some (.int (nI q)), none, none]) (r := []) d_161_82 cw_161 cm_11_330 cz_111 rfl rfl ht.1 (by rw [cw_111]; exact ht.2.2.1) (by rw [cw_111]; decide) rfl (Nat.le_of_ble_eq_true rfl) (k_longestCycle ht hn hc hl hp hq) ?_
      show CR _ _ 85 [some (.ref 2), some (.int (nI j)), some (.int (nI p)), some (.int (nI q)), some (.int (nI 1))] [.int (nI (cyL m (sgN m c p q) m))] S G B J R _
      exact cr_ri d_161_85 cx_161 rfl ⟨rfl, hW.mo⟩
    · exact absurd ((tw_i (by omega)).mpr ⟨fun e_ => hpq ((nI_eq (by omega) (by omega)).mp e_), (in_j (by omega)).mpr hp, (in_j (by omega)).mpr hq⟩) c22
theorem r_cycles1 {g : Nat → Int32} {A : Nat → Nat → Int32} {n : Nat} {W : WS} (hW : WR n g A W) (hO : CoOk (wK W)) {j m : Nat} {c : Nat → Nat} (hj : j < 6) (htb : tbK (wK W) j = (m, c)) (h1 : 1 ≤ m) {p q : Nat} (hp : p < m) (hq : q < m) (hpq : ¬ p = q) : RR 80 267 0 [some (.ref 146), some (.int (nI j)), some (.int (nI p)), some (.int (nI q)), some (.int (nI 1)), none, none, none, none, none, none] [] g A (fun r g' A' => r = some (.int (nI (if 1 = 0 then cyC m (sgN m c p q) m else cyL m (sgN m c p q) m))) ∧ WR (n + 1) g' A' W) := by
  have hsh := hW.1.1.1 j hj
  rw [show kH (wK W) (kD (wK W)) j = (m, c) from htb] at hsh
  have hok := tb_ok hO hj
  rw [htb] at hok
  have hk : A 1 (37 * j) = nI m := hsh.1
  have hl : Lat m c := hok.2
  have hm6 : m ≤ 6 := hok.1
  have hyes : isT A (nI j) := (has_r hW hO).mpr ((has_i hj).mpr (by rw [htb]; exact h1))
  refine rr_nx (pc' := 1) (al' := [some (.ref 146), some (.int (nI j)), some (.int (nI p)), some (.int (nI q)), some (.int (nI 1)), none, none, none, none, none, none]) (st' := [.ref 146]) d_267_0 (fun _ => rfl) ?_
  refine rr_nx (pc' := 2) (al' := [some (.ref 146), some (.int (nI j)), some (.int (nI p)), some (.int (nI q)), some (.int (nI 1)), none, none, none, none, none, none]) (st' := [.int (nI j), .ref 146]) d_267_1 (fun _ => rfl) ?_
  refine rr_pv (as := [.int (nI j)]) (al0 := [some (.ref 146), some (.int (nI j))]) (r := []) d_267_2 mo_267 ml_124 mz_184 rfl rfl rfl (Nat.le_of_ble_eq_true rfl) (s_isTable (nI j)) ?_
  show RR _ _ 5 [some (.ref 146), some (.int (nI j)), some (.int (nI p)), some (.int (nI q)), some (.int (nI 1)), none, none, none, none, none, none] [.int (bI (isT A (nI j)))] g A _
  refine rr_beq (t := 18) d_267_5 (by decide) (fun c5 => ?_) (fun c5 => ?_)
  · exact absurd hyes c5
  · refine rr_nx (pc' := 10) (al' := [some (.ref 146), some (.int (nI j)), some (.int (nI p)), some (.int (nI q)), some (.int (nI 1)), none, none, none, none, none, none]) (st' := [.int (nI 1)]) d_267_8 (fun _ => rfl) ?_
    refine rn_ic (v := 0) d_267_10 (by decide) ?_
    refine rn_ic (v := 1) d_267_11 (by decide) ?_
    refine rr_ps (as := [.int (nI 1), .int (nI 0), .int (nI 1)]) (al0 := [some (.int (nI 1)), some (.int (nI 0)), some (.int (nI 1))]) (r := []) d_267_12 mo_267 ml_106 mz_179 rfl rfl rfl (Nat.le_of_ble_eq_true rfl) (s_lies (nI 1) (nI 0) (nI 1)) ?_
    show RR _ _ 15 [some (.ref 146), some (.int (nI j)), some (.int (nI p)), some (.int (nI q)), some (.int (nI 1)), none, none, none, none, none, none] [.int (bI ((nI 0) ≤ (nI 1) ∧ (nI 1) ≤ (nI 1)))] g A _
    refine rr_bne (t := 20) d_267_15 (by decide) (fun c15 => ?_) (fun c15 => ?_)
    · refine rr_nx (pc' := 21) (al' := [some (.ref 146), some (.int (nI j)), some (.int (nI p)), some (.int (nI q)), some (.int (nI 1)), none, none, none, none, none, none]) (st' := [.ref 146]) d_267_20 (fun _ => rfl) ?_
      refine rr_nx (pc' := 22) (al' := [some (.ref 146), some (.int (nI j)), some (.int (nI p)), some (.int (nI q)), some (.int (nI 1)), none, none, none, none, none, none]) (st' := [.int (nI j), .ref 146]) d_267_21 (fun _ => rfl) ?_
      refine rr_pv (as := [.int (nI j)]) (al0 := [some (.ref 146), some (.int (nI j)), none]) (r := []) d_267_22 mo_267 ml_248 mz_208 rfl rfl rfl (Nat.le_of_ble_eq_true rfl) (s_lays (n := m) hj hm6 hk) ?_
      obtain ⟨wl22, hwl22⟩ : ∃ w_, w_ = rf_f (fun q => A 1 (37 * j + 1 + q)) (A 4) (m * m) := ⟨_, rfl⟩
      rw [← hwl22]
      show RR _ _ 25 [some (.ref 146), some (.int (nI j)), some (.int (nI p)), some (.int (nI q)), some (.int (nI 1)), none, none, none, none, none, none] [] (upd g 6 (nI m)) (rf_u A 4 wl22) _
      have hcu := cur_l (g := g) hsh hm6 hl hwl22
      refine rr_nx (pc' := 26) (al' := [some (.ref 146), some (.int (nI j)), some (.int (nI p)), some (.int (nI q)), some (.int (nI 1)), none, none, none, none, none, none]) (st' := [.ref 146]) d_267_25 (fun _ => rfl) ?_
      refine rr_nx (pc' := 27) (al' := [some (.ref 146), some (.int (nI j)), some (.int (nI p)), some (.int (nI q)), some (.int (nI 1)), none, none, none, none, none, none]) (st' := [.int (nI p), .ref 146]) d_267_26 (fun _ => rfl) ?_
      refine rr_pv (as := [.int (nI p)]) (al0 := [some (.ref 146), some (.int (nI p))]) (r := []) d_267_27 mo_267 ml_260 mz_228 rfl rfl rfl (Nat.le_of_ble_eq_true rfl) (s_isElement hcu (by omega) (nI p)) ?_
      show RR _ _ 30 [some (.ref 146), some (.int (nI j)), some (.int (nI p)), some (.int (nI q)), some (.int (nI 1)), none, none, none, none, none, none] [.int (bI (nI 0 ≤ (nI p) ∧ (nI p) ≤ nI (m - 1)))] (upd g 6 (nI m)) (rf_u A 4 wl22) _
      refine rr_beq (t := 46) d_267_30 (by decide) (fun c30 => ?_) (fun c30 => ?_)
      · exact absurd ((el_r h1 (by omega)).mpr ((in_j (by omega)).mpr hp)) c30
      · refine rr_nx (pc' := 34) (al' := [some (.ref 146), some (.int (nI j)), some (.int (nI p)), some (.int (nI q)), some (.int (nI 1)), none, none, none, none, none, none]) (st' := [.ref 146]) d_267_33 (fun _ => rfl) ?_
        refine rr_nx (pc' := 35) (al' := [some (.ref 146), some (.int (nI j)), some (.int (nI p)), some (.int (nI q)), some (.int (nI 1)), none, none, none, none, none, none]) (st' := [.int (nI q), .ref 146]) d_267_34 (fun _ => rfl) ?_
        refine rr_pv (as := [.int (nI q)]) (al0 := [some (.ref 146), some (.int (nI q))]) (r := []) d_267_35 mo_267 ml_260 mz_228 rfl rfl rfl (Nat.le_of_ble_eq_true rfl) (s_isElement hcu (by omega) (nI q)) ?_
        show RR _ _ 38 [some (.ref 146), some (.int (nI j)), some (.int (nI p)), some (.int (nI q)), some (.int (nI 1)), none, none, none, none, none, none] [.int (bI (nI 0 ≤ (nI q) ∧ (nI q) ≤ nI (m - 1)))] (upd g 6 (nI m)) (rf_u A 4 wl22) _
        refine rr_beq (t := 46) d_267_38 (by decide) (fun c38 => ?_) (fun c38 => ?_)
        · exact absurd ((el_r h1 (by omega)).mpr ((in_j (by omega)).mpr hq)) c38
        · refine rr_nx (pc' := 42) (al' := [some (.ref 146), some (.int (nI j)), some (.int (nI p)), some (.int (nI q)), some (.int (nI 1)), none, none, none, none, none, none]) (st' := [.int (nI p)]) d_267_41 (fun _ => rfl) ?_
          refine rr_nx (pc' := 43) (al' := [some (.ref 146), some (.int (nI j)), some (.int (nI p)), some (.int (nI q)), some (.int (nI 1)), none, none, none, none, none, none]) (st' := [.int (nI q), .int (nI p)]) d_267_42 (fun _ => rfl) ?_
          refine rn_cne (t := 48) d_267_43 (by decide) (by first | omega | assumption | exact cu_36 (by omega) (cu_lt (by omega) (by omega))) (by first | omega | assumption | exact cu_36 (by omega) (cu_lt (by omega) (by omega))) (fun c43 => ?_) (fun c43 => ?_)
          · refine rr_dr (al1 := [some (.ref 146), none, some (.int (nI p)), some (.int (nI q)), some (.int (nI 1)), none, none, none, none, none, none]) (le_s (le_d rfl (le_s (le_s (le_s (le_s (le_s (le_s (le_s (le_s (le_s (le_n)))))))))))) ?_
            refine rr_cq (rr_wk (by decide) (s_cycles_48 hcu hl hp hq (by decide))) ?_
            rintro r_ g_ A_ ⟨rfl, rfl, rfl⟩
            exact ⟨rfl, (hW.q (Gsm.rf.u rfl) (Ksm.rf.u rfl)).mo⟩
          · exact absurd c43 hpq
    · exact absurd (show nI 0 ≤ nI 1 ∧ nI 1 ≤ nI 1 by decide) c15
theorem p_cyclesB {S : CS} {G : Nat → Nat → Value} {B : Nat → Nat → Int32} {J : Nat → Nat → Int64} {R : Nat → Nat → Option Nat} {n : Nat} {W : WS} (hW : WC n S G B R W) {j m : Nat} {c : Nat → Nat} (hj : j < 6) (htb : tbK (wK W) j = (m, c)) (h1 : 1 ≤ m) {w : Int32} {x z : Int32} (hx : ¬ twP x z m) : CR 80 161 0 [some (.ref 2), some (.int (nI j)), some (.int x), some (.int z), some (.int w)] [] S G B J R (fun r S' G' B' J' R' => r = some (.int (-1)) ∧ WC (n + 1) S' G' B' R' W) := by
  have hS := hW.1.1
  have hF := hW.2.1
  have hO := hW.2.2.2.1
  obtain ⟨ta, ka, la, hH, hLk, hl2, hs3, hbd⟩ := hW.2.2.1
  obtain ⟨zt, hzt, ezt⟩ := (hH.2.1 j hj).2
  have ht := hH.ta hj
  have hsh := hH.2.2.2.2.2.2.1 j hj
  rw [show kH (wK W) (kD (wK W)) j = (m, c) from htb] at hsh
  have hok := tb_ok hO hj
  rw [htb] at hok
  have hn : G (ta j) 0 = .int (nI m) := hsh.1
  have hc : TabC B (ta j) m c := hsh.c hok
  have hl : Lat m c := hok.2
  have hm6 : m ≤ 6 := hok.1
  have hyes : hasP (wK W) (nI j) := (has_i hj).mpr (by rw [htb]; exact h1)
  refine cr_nx (pc' := 1) (al' := [some (.ref 2), some (.int (nI j)), some (.int x), some (.int z), some (.int w)]) (st' := [.ref 2]) d_161_0 (fun _ => rfl) ?_
  refine cr_nx (pc' := 2) (al' := [some (.ref 2), some (.int (nI j)), some (.int x), some (.int z), some (.int w)]) (st' := [.int (nI j), .ref 2]) d_161_1 (fun _ => rfl) ?_
  refine cr_pv (b := 2) (as := [.int (nI j)]) (al0 := [some (.ref 2), some (.int (nI j))]) (r := []) d_161_2 cw_161 cm_11_137 cz_126 rfl rfl (hS.i (a := 2) (by decide) (by decide)) (by rw [cw_126]; exact (hS.s (a := 2) (by decide) (by decide) rfl)) (by rw [cw_126]; decide) rfl (Nat.le_of_ble_eq_true rfl) (k_has hS hF hH hO) ?_
  show CR _ _ 5 [some (.ref 2), some (.int (nI j)), some (.int x), some (.int z), some (.int w)] [.int (bI (hasP (wK W) (nI j)))] S G B J R _
  refine cr_beq (t := 25) d_161_5 (by decide) (fun c5 => ?_) (fun c5 => ?_)
  · exact absurd hyes c5
  · refine cr_nx (pc' := 9) (al' := [some (.ref 2), some (.int (nI j)), some (.int x), some (.int z), some (.int w)]) (st' := [.ref 2]) d_161_8 (fun _ => rfl) ?_
    refine cr_gf (v := .ref 3) d_161_9 cw_161 cf_11_10 (hS.i (a := 2) (by decide) (by decide)) (hS.s (a := 2) (by decide) (by decide) rfl) (by decide) (fx_2_0 hF) ?_
    refine cr_gf (v := .ref 4) d_161_12 cw_161 cf_11_140 (hS.i (a := 3) (by decide) (by decide)) (hS.s (a := 3) (by decide) (by decide) rfl) (by decide) (fx_3_0 hF) ?_
    refine cr_nx (pc' := 16) (al' := [some (.ref 2), some (.int (nI j)), some (.int x), some (.int z), some (.int w)]) (st' := [.int (nI j), .ref 4]) d_161_15 (fun _ => rfl) ?_
    refine cr_aa (a := 4) (v := .ref (ta j)) d_161_16 (hS.i (a := 4) (by decide) (by decide)) (by decide) (hS.s (a := 4) (by decide) (by decide) rfl) (by decide) (show j < 6 by first | omega | assumption | exact cu_36 (by omega) (cu_lt (by omega) (by omega))) (show va_rf _ = _ by rw [(hH.2.1 j hj).1]; rfl) ?_
    refine cr_nx (pc' := 18) (al' := [some (.ref 2), some (.int (nI j)), some (.int x), some (.int z), some (.int w)]) (st' := [.int x, .ref (ta j)]) d_161_17 (fun _ => rfl) ?_
    refine cr_nx (pc' := 19) (al' := [some (.ref 2), some (.int (nI j)), some (.int x), some (.int z), some (.int w)]) (st' := [.int z, .int x, .ref (ta j)]) d_161_18 (fun _ => rfl) ?_
    refine cr_pv (b := (ta j)) (as := [.int x, .int z]) (al0 := [some (.ref (ta j)), some (.int x), some (.int z)]) (r := []) d_161_19 cw_161 cm_11_169 cz_100 rfl rfl ht.1 (by rw [cw_100]; exact ht.2.2.1) (by rw [cw_100]; decide) rfl (Nat.le_of_ble_eq_true rfl) (k_hasTwoRows ht hn x z) ?_
    show CR _ _ 22 [some (.ref 2), some (.int (nI j)), some (.int x), some (.int z), some (.int w)] [.int (bI (¬ x = z ∧ (0 ≤ x ∧ x < nI m) ∧ (0 ≤ z ∧ z < nI m)))] S G B J R _
    refine cr_bne (t := 27) d_161_22 (by decide) (fun c22 => ?_) (fun c22 => ?_)
    · exact absurd c22 (fun e_ => hx ((tw_i (by omega)).mp e_))
    · refine cr_nx (pc' := 26) (al' := [some (.ref 2), some (.int (nI j)), some (.int x), some (.int z), some (.int w)]) (st' := [.int (-1)]) d_161_25 (fun _ => rfl) ?_
      exact cr_ri d_161_26 cx_161 rfl ⟨rfl, hW.mo⟩
theorem p_cyclesX {S : CS} {G : Nat → Nat → Value} {B : Nat → Nat → Int32} {J : Nat → Nat → Int64} {R : Nat → Nat → Option Nat} {n : Nat} {W : WS} (hW : WC n S G B R W) {j m : Nat} {c : Nat → Nat} (hj : j < 6) (htb : tbK (wK W) j = (m, c)) (h1 : 1 ≤ m) {w : Int32} (hw : ¬ inP w 2) {p q : Nat} (hp : p < m) (hq : q < m) (hpq : ¬ p = q) : CR 80 161 0 [some (.ref 2), some (.int (nI j)), some (.int (nI p)), some (.int (nI q)), some (.int w)] [] S G B J R (fun r S' G' B' J' R' => r = some (.int (-1)) ∧ WC (n + 1) S' G' B' R' W) := by
  have hS := hW.1.1
  have hF := hW.2.1
  have hO := hW.2.2.2.1
  obtain ⟨ta, ka, la, hH, hLk, hl2, hs3, hbd⟩ := hW.2.2.1
  obtain ⟨zt, hzt, ezt⟩ := (hH.2.1 j hj).2
  have ht := hH.ta hj
  have hsh := hH.2.2.2.2.2.2.1 j hj
  rw [show kH (wK W) (kD (wK W)) j = (m, c) from htb] at hsh
  have hok := tb_ok hO hj
  rw [htb] at hok
  have hn : G (ta j) 0 = .int (nI m) := hsh.1
  have hc : TabC B (ta j) m c := hsh.c hok
  have hl : Lat m c := hok.2
  have hm6 : m ≤ 6 := hok.1
  have hyes : hasP (wK W) (nI j) := (has_i hj).mpr (by rw [htb]; exact h1)
  refine cr_nx (pc' := 1) (al' := [some (.ref 2), some (.int (nI j)), some (.int (nI p)), some (.int (nI q)), some (.int w)]) (st' := [.ref 2]) d_161_0 (fun _ => rfl) ?_
  refine cr_nx (pc' := 2) (al' := [some (.ref 2), some (.int (nI j)), some (.int (nI p)), some (.int (nI q)), some (.int w)]) (st' := [.int (nI j), .ref 2]) d_161_1 (fun _ => rfl) ?_
  refine cr_pv (b := 2) (as := [.int (nI j)]) (al0 := [some (.ref 2), some (.int (nI j))]) (r := []) d_161_2 cw_161 cm_11_137 cz_126 rfl rfl (hS.i (a := 2) (by decide) (by decide)) (by rw [cw_126]; exact (hS.s (a := 2) (by decide) (by decide) rfl)) (by rw [cw_126]; decide) rfl (Nat.le_of_ble_eq_true rfl) (k_has hS hF hH hO) ?_
  show CR _ _ 5 [some (.ref 2), some (.int (nI j)), some (.int (nI p)), some (.int (nI q)), some (.int w)] [.int (bI (hasP (wK W) (nI j)))] S G B J R _
  refine cr_beq (t := 25) d_161_5 (by decide) (fun c5 => ?_) (fun c5 => ?_)
  · exact absurd hyes c5
  · refine cr_nx (pc' := 9) (al' := [some (.ref 2), some (.int (nI j)), some (.int (nI p)), some (.int (nI q)), some (.int w)]) (st' := [.ref 2]) d_161_8 (fun _ => rfl) ?_
    refine cr_gf (v := .ref 3) d_161_9 cw_161 cf_11_10 (hS.i (a := 2) (by decide) (by decide)) (hS.s (a := 2) (by decide) (by decide) rfl) (by decide) (fx_2_0 hF) ?_
    refine cr_gf (v := .ref 4) d_161_12 cw_161 cf_11_140 (hS.i (a := 3) (by decide) (by decide)) (hS.s (a := 3) (by decide) (by decide) rfl) (by decide) (fx_3_0 hF) ?_
    refine cr_nx (pc' := 16) (al' := [some (.ref 2), some (.int (nI j)), some (.int (nI p)), some (.int (nI q)), some (.int w)]) (st' := [.int (nI j), .ref 4]) d_161_15 (fun _ => rfl) ?_
    refine cr_aa (a := 4) (v := .ref (ta j)) d_161_16 (hS.i (a := 4) (by decide) (by decide)) (by decide) (hS.s (a := 4) (by decide) (by decide) rfl) (by decide) (show j < 6 by first | omega | assumption | exact cu_36 (by omega) (cu_lt (by omega) (by omega))) (show va_rf _ = _ by rw [(hH.2.1 j hj).1]; rfl) ?_
    refine cr_nx (pc' := 18) (al' := [some (.ref 2), some (.int (nI j)), some (.int (nI p)), some (.int (nI q)), some (.int w)]) (st' := [.int (nI p), .ref (ta j)]) d_161_17 (fun _ => rfl) ?_
    refine cr_nx (pc' := 19) (al' := [some (.ref 2), some (.int (nI j)), some (.int (nI p)), some (.int (nI q)), some (.int w)]) (st' := [.int (nI q), .int (nI p), .ref (ta j)]) d_161_18 (fun _ => rfl) ?_
    refine cr_pv (b := (ta j)) (as := [.int (nI p), .int (nI q)]) (al0 := [some (.ref (ta j)), some (.int (nI p)), some (.int (nI q))]) (r := []) d_161_19 cw_161 cm_11_169 cz_100 rfl rfl ht.1 (by rw [cw_100]; exact ht.2.2.1) (by rw [cw_100]; decide) rfl (Nat.le_of_ble_eq_true rfl) (k_hasTwoRows ht hn (nI p) (nI q)) ?_
    show CR _ _ 22 [some (.ref 2), some (.int (nI j)), some (.int (nI p)), some (.int (nI q)), some (.int w)] [.int (bI (¬ (nI p) = (nI q) ∧ (0 ≤ (nI p) ∧ (nI p) < nI m) ∧ (0 ≤ (nI q) ∧ (nI q) < nI m)))] S G B J R _
    refine cr_bne (t := 27) d_161_22 (by decide) (fun c22 => ?_) (fun c22 => ?_)
    · refine cr_nx (pc' := 29) (al' := [some (.ref 2), some (.int (nI j)), some (.int (nI p)), some (.int (nI q)), some (.int w)]) (st' := [.int w]) d_161_27 (fun _ => rfl) ?_
      refine cr_ls (off := 57) (t := 86) d_161_29 (by decide) (ls_x hw) (by decide) ?_
      refine cr_nx (pc' := 87) (al' := [some (.ref 2), some (.int (nI j)), some (.int (nI p)), some (.int (nI q)), some (.int w)]) (st' := [.int (-1)]) d_161_86 (fun _ => rfl) ?_
      exact cr_ri d_161_87 cx_161 rfl ⟨rfl, hW.mo⟩
    · exact absurd ((tw_i (by omega)).mpr ⟨fun e_ => hpq ((nI_eq (by omega) (by omega)).mp e_), (in_j (by omega)).mpr hp, (in_j (by omega)).mpr hq⟩) c22
theorem r_cyclesX {g : Nat → Int32} {A : Nat → Nat → Int32} {n : Nat} {W : WS} (hW : WR n g A W) (hO : CoOk (wK W)) {j m : Nat} {c : Nat → Nat} (hj : j < 6) (htb : tbK (wK W) j = (m, c)) (h1 : 1 ≤ m) {w : Int32} (hw : ¬ inP w 2) {x z : Int32} : RR 80 267 0 [some (.ref 146), some (.int (nI j)), some (.int x), some (.int z), some (.int w), none, none, none, none, none, none] [] g A (fun r g' A' => r = some (.int (-1)) ∧ WR (n + 1) g' A' W) := by
  have hsh := hW.1.1.1 j hj
  rw [show kH (wK W) (kD (wK W)) j = (m, c) from htb] at hsh
  have hok := tb_ok hO hj
  rw [htb] at hok
  have hk : A 1 (37 * j) = nI m := hsh.1
  have hl : Lat m c := hok.2
  have hm6 : m ≤ 6 := hok.1
  have hyes : isT A (nI j) := (has_r hW hO).mpr ((has_i hj).mpr (by rw [htb]; exact h1))
  refine rr_nx (pc' := 1) (al' := [some (.ref 146), some (.int (nI j)), some (.int x), some (.int z), some (.int w), none, none, none, none, none, none]) (st' := [.ref 146]) d_267_0 (fun _ => rfl) ?_
  refine rr_nx (pc' := 2) (al' := [some (.ref 146), some (.int (nI j)), some (.int x), some (.int z), some (.int w), none, none, none, none, none, none]) (st' := [.int (nI j), .ref 146]) d_267_1 (fun _ => rfl) ?_
  refine rr_pv (as := [.int (nI j)]) (al0 := [some (.ref 146), some (.int (nI j))]) (r := []) d_267_2 mo_267 ml_124 mz_184 rfl rfl rfl (Nat.le_of_ble_eq_true rfl) (s_isTable (nI j)) ?_
  show RR _ _ 5 [some (.ref 146), some (.int (nI j)), some (.int x), some (.int z), some (.int w), none, none, none, none, none, none] [.int (bI (isT A (nI j)))] g A _
  refine rr_beq (t := 18) d_267_5 (by decide) (fun c5 => ?_) (fun c5 => ?_)
  · exact absurd hyes c5
  · refine rr_nx (pc' := 10) (al' := [some (.ref 146), some (.int (nI j)), some (.int x), some (.int z), some (.int w), none, none, none, none, none, none]) (st' := [.int w]) d_267_8 (fun _ => rfl) ?_
    refine rn_ic (v := 0) d_267_10 (by decide) ?_
    refine rn_ic (v := 1) d_267_11 (by decide) ?_
    refine rr_ps (as := [.int w, .int (nI 0), .int (nI 1)]) (al0 := [some (.int w), some (.int (nI 0)), some (.int (nI 1))]) (r := []) d_267_12 mo_267 ml_106 mz_179 rfl rfl rfl (Nat.le_of_ble_eq_true rfl) (s_lies w (nI 0) (nI 1)) ?_
    show RR _ _ 15 [some (.ref 146), some (.int (nI j)), some (.int x), some (.int z), some (.int w), none, none, none, none, none, none] [.int (bI ((nI 0) ≤ w ∧ w ≤ (nI 1)))] g A _
    refine rr_bne (t := 20) d_267_15 (by decide) (fun c15 => ?_) (fun c15 => ?_)
    · exact absurd c15 (fun e_ => hw ((in_r (m := 1) (by decide)).mp e_))
    · refine rr_nx (pc' := 19) (al' := [some (.ref 146), some (.int (nI j)), some (.int x), some (.int z), some (.int w), none, none, none, none, none, none]) (st' := [.int (-1)]) d_267_18 (fun _ => rfl) ?_
      exact rr_ri d_267_19 mr_267 rfl ⟨rfl, hW.mo⟩
theorem r_cyclesB {g : Nat → Int32} {A : Nat → Nat → Int32} {n : Nat} {W : WS} (hW : WR n g A W) (hO : CoOk (wK W)) {j m : Nat} {c : Nat → Nat} (hj : j < 6) (htb : tbK (wK W) j = (m, c)) (h1 : 1 ≤ m) {k : Nat} (hk3 : k < 2) {x z : Int32} (hx : ¬ twP x z m) : RR 80 267 0 [some (.ref 146), some (.int (nI j)), some (.int x), some (.int z), some (.int (nI k)), none, none, none, none, none, none] [] g A (fun r g' A' => r = some (.int (-1)) ∧ WR (n + 1) g' A' W) := by
  have hsh := hW.1.1.1 j hj
  rw [show kH (wK W) (kD (wK W)) j = (m, c) from htb] at hsh
  have hok := tb_ok hO hj
  rw [htb] at hok
  have hk : A 1 (37 * j) = nI m := hsh.1
  have hl : Lat m c := hok.2
  have hm6 : m ≤ 6 := hok.1
  have hyes : isT A (nI j) := (has_r hW hO).mpr ((has_i hj).mpr (by rw [htb]; exact h1))
  refine rr_nx (pc' := 1) (al' := [some (.ref 146), some (.int (nI j)), some (.int x), some (.int z), some (.int (nI k)), none, none, none, none, none, none]) (st' := [.ref 146]) d_267_0 (fun _ => rfl) ?_
  refine rr_nx (pc' := 2) (al' := [some (.ref 146), some (.int (nI j)), some (.int x), some (.int z), some (.int (nI k)), none, none, none, none, none, none]) (st' := [.int (nI j), .ref 146]) d_267_1 (fun _ => rfl) ?_
  refine rr_pv (as := [.int (nI j)]) (al0 := [some (.ref 146), some (.int (nI j))]) (r := []) d_267_2 mo_267 ml_124 mz_184 rfl rfl rfl (Nat.le_of_ble_eq_true rfl) (s_isTable (nI j)) ?_
  show RR _ _ 5 [some (.ref 146), some (.int (nI j)), some (.int x), some (.int z), some (.int (nI k)), none, none, none, none, none, none] [.int (bI (isT A (nI j)))] g A _
  refine rr_beq (t := 18) d_267_5 (by decide) (fun c5 => ?_) (fun c5 => ?_)
  · exact absurd hyes c5
  · refine rr_nx (pc' := 10) (al' := [some (.ref 146), some (.int (nI j)), some (.int x), some (.int z), some (.int (nI k)), none, none, none, none, none, none]) (st' := [.int (nI k)]) d_267_8 (fun _ => rfl) ?_
    refine rn_ic (v := 0) d_267_10 (by decide) ?_
    refine rn_ic (v := 1) d_267_11 (by decide) ?_
    refine rr_ps (as := [.int (nI k), .int (nI 0), .int (nI 1)]) (al0 := [some (.int (nI k)), some (.int (nI 0)), some (.int (nI 1))]) (r := []) d_267_12 mo_267 ml_106 mz_179 rfl rfl rfl (Nat.le_of_ble_eq_true rfl) (s_lies (nI k) (nI 0) (nI 1)) ?_
    show RR _ _ 15 [some (.ref 146), some (.int (nI j)), some (.int x), some (.int z), some (.int (nI k)), none, none, none, none, none, none] [.int (bI ((nI 0) ≤ (nI k) ∧ (nI k) ≤ (nI 1)))] g A _
    refine rr_bne (t := 20) d_267_15 (by decide) (fun c15 => ?_) (fun c15 => ?_)
    · refine rr_nx (pc' := 21) (al' := [some (.ref 146), some (.int (nI j)), some (.int x), some (.int z), some (.int (nI k)), none, none, none, none, none, none]) (st' := [.ref 146]) d_267_20 (fun _ => rfl) ?_
      refine rr_nx (pc' := 22) (al' := [some (.ref 146), some (.int (nI j)), some (.int x), some (.int z), some (.int (nI k)), none, none, none, none, none, none]) (st' := [.int (nI j), .ref 146]) d_267_21 (fun _ => rfl) ?_
      refine rr_pv (as := [.int (nI j)]) (al0 := [some (.ref 146), some (.int (nI j)), none]) (r := []) d_267_22 mo_267 ml_248 mz_208 rfl rfl rfl (Nat.le_of_ble_eq_true rfl) (s_lays (n := m) hj hm6 hk) ?_
      obtain ⟨wl22, hwl22⟩ : ∃ w_, w_ = rf_f (fun q => A 1 (37 * j + 1 + q)) (A 4) (m * m) := ⟨_, rfl⟩
      rw [← hwl22]
      show RR _ _ 25 [some (.ref 146), some (.int (nI j)), some (.int x), some (.int z), some (.int (nI k)), none, none, none, none, none, none] [] (upd g 6 (nI m)) (rf_u A 4 wl22) _
      have hcu := cur_l (g := g) hsh hm6 hl hwl22
      refine rr_nx (pc' := 26) (al' := [some (.ref 146), some (.int (nI j)), some (.int x), some (.int z), some (.int (nI k)), none, none, none, none, none, none]) (st' := [.ref 146]) d_267_25 (fun _ => rfl) ?_
      refine rr_nx (pc' := 27) (al' := [some (.ref 146), some (.int (nI j)), some (.int x), some (.int z), some (.int (nI k)), none, none, none, none, none, none]) (st' := [.int x, .ref 146]) d_267_26 (fun _ => rfl) ?_
      refine rr_pv (as := [.int x]) (al0 := [some (.ref 146), some (.int x)]) (r := []) d_267_27 mo_267 ml_260 mz_228 rfl rfl rfl (Nat.le_of_ble_eq_true rfl) (s_isElement hcu (by omega) x) ?_
      show RR _ _ 30 [some (.ref 146), some (.int (nI j)), some (.int x), some (.int z), some (.int (nI k)), none, none, none, none, none, none] [.int (bI (nI 0 ≤ x ∧ x ≤ nI (m - 1)))] (upd g 6 (nI m)) (rf_u A 4 wl22) _
      refine rr_beq (t := 46) d_267_30 (by decide) (fun c30 => ?_) (fun c30 => ?_)
      · refine rr_nx (pc' := 47) (al' := [some (.ref 146), some (.int (nI j)), some (.int x), some (.int z), some (.int (nI k)), none, none, none, none, none, none]) (st' := [.int (-1)]) d_267_46 (fun _ => rfl) ?_
        exact rr_ri d_267_47 mr_267 rfl ⟨rfl, (hW.q (Gsm.rf.u rfl) (Ksm.rf.u rfl)).mo⟩
      · refine rr_nx (pc' := 34) (al' := [some (.ref 146), some (.int (nI j)), some (.int x), some (.int z), some (.int (nI k)), none, none, none, none, none, none]) (st' := [.ref 146]) d_267_33 (fun _ => rfl) ?_
        refine rr_nx (pc' := 35) (al' := [some (.ref 146), some (.int (nI j)), some (.int x), some (.int z), some (.int (nI k)), none, none, none, none, none, none]) (st' := [.int z, .ref 146]) d_267_34 (fun _ => rfl) ?_
        refine rr_pv (as := [.int z]) (al0 := [some (.ref 146), some (.int z)]) (r := []) d_267_35 mo_267 ml_260 mz_228 rfl rfl rfl (Nat.le_of_ble_eq_true rfl) (s_isElement hcu (by omega) z) ?_
        show RR _ _ 38 [some (.ref 146), some (.int (nI j)), some (.int x), some (.int z), some (.int (nI k)), none, none, none, none, none, none] [.int (bI (nI 0 ≤ z ∧ z ≤ nI (m - 1)))] (upd g 6 (nI m)) (rf_u A 4 wl22) _
        refine rr_beq (t := 46) d_267_38 (by decide) (fun c38 => ?_) (fun c38 => ?_)
        · refine rr_nx (pc' := 47) (al' := [some (.ref 146), some (.int (nI j)), some (.int x), some (.int z), some (.int (nI k)), none, none, none, none, none, none]) (st' := [.int (-1)]) d_267_46 (fun _ => rfl) ?_
          exact rr_ri d_267_47 mr_267 rfl ⟨rfl, (hW.q (Gsm.rf.u rfl) (Ksm.rf.u rfl)).mo⟩
        · refine rr_nx (pc' := 42) (al' := [some (.ref 146), some (.int (nI j)), some (.int x), some (.int z), some (.int (nI k)), none, none, none, none, none, none]) (st' := [.int x]) d_267_41 (fun _ => rfl) ?_
          refine rr_nx (pc' := 43) (al' := [some (.ref 146), some (.int (nI j)), some (.int x), some (.int z), some (.int (nI k)), none, none, none, none, none, none]) (st' := [.int z, .int x]) d_267_42 (fun _ => rfl) ?_
          refine rr_cne (t := 48) d_267_43 (by decide) (fun c43 => ?_) (fun c43 => ?_)
          · exact absurd ⟨c43, (el_r h1 (by omega)).mp c30, (el_r h1 (by omega)).mp c38⟩ hx
          · refine rr_nx (pc' := 47) (al' := [some (.ref 146), some (.int (nI j)), some (.int x), some (.int z), some (.int (nI k)), none, none, none, none, none, none]) (st' := [.int (-1)]) d_267_46 (fun _ => rfl) ?_
            exact rr_ri d_267_47 mr_267 rfl ⟨rfl, (hW.q (Gsm.rf.u rfl) (Ksm.rf.u rfl)).mo⟩
    · exact absurd (ia_natI (by decide) (show k ≤ 1 by omega)) c15
theorem p_cycles_n {S : CS} {G : Nat → Nat → Value} {B : Nat → Nat → Int32} {J : Nat → Nat → Int64} {R : Nat → Nat → Option Nat} {n : Nat} {W : WS} (hW : WC n S G B R W) {t : Int32} (hh : ¬ hasP (wK W) t) {w x z : Int32} : CR 80 161 0 [some (.ref 2), some (.int t), some (.int x), some (.int z), some (.int w)] [] S G B J R (fun r S' G' B' J' R' => r = some (.int (-1)) ∧ WC (n + 1) S' G' B' R' W) := by
  have hS := hW.1.1
  have hF := hW.2.1
  have hO := hW.2.2.2.1
  obtain ⟨ta, ka, la, hH, hLk, hl2, hs3, hbd⟩ := hW.2.2.1
  refine cr_nx (pc' := 1) (al' := [some (.ref 2), some (.int t), some (.int x), some (.int z), some (.int w)]) (st' := [.ref 2]) d_161_0 (fun _ => rfl) ?_
  refine cr_nx (pc' := 2) (al' := [some (.ref 2), some (.int t), some (.int x), some (.int z), some (.int w)]) (st' := [.int t, .ref 2]) d_161_1 (fun _ => rfl) ?_
  refine cr_pv (b := 2) (as := [.int t]) (al0 := [some (.ref 2), some (.int t)]) (r := []) d_161_2 cw_161 cm_11_137 cz_126 rfl rfl (hS.i (a := 2) (by decide) (by decide)) (by rw [cw_126]; exact (hS.s (a := 2) (by decide) (by decide) rfl)) (by rw [cw_126]; decide) rfl (Nat.le_of_ble_eq_true rfl) (k_has hS hF hH hO) ?_
  show CR _ _ 5 [some (.ref 2), some (.int t), some (.int x), some (.int z), some (.int w)] [.int (bI (hasP (wK W) t))] S G B J R _
  refine cr_beq (t := 25) d_161_5 (by decide) (fun c5 => ?_) (fun c5 => ?_)
  · refine cr_nx (pc' := 26) (al' := [some (.ref 2), some (.int t), some (.int x), some (.int z), some (.int w)]) (st' := [.int (-1)]) d_161_25 (fun _ => rfl) ?_
    exact cr_ri d_161_26 cx_161 rfl ⟨rfl, hW.mo⟩
  · exact absurd c5 hh
theorem r_cycles_n {g : Nat → Int32} {A : Nat → Nat → Int32} {n : Nat} {W : WS} (hW : WR n g A W) (hO : CoOk (wK W)) {t : Int32} (hh : ¬ hasP (wK W) t) {w x z : Int32} : RR 80 267 0 [some (.ref 146), some (.int t), some (.int x), some (.int z), some (.int w), none, none, none, none, none, none] [] g A (fun r g' A' => r = some (.int (-1)) ∧ WR (n + 1) g' A' W) := by
  refine rr_nx (pc' := 1) (al' := [some (.ref 146), some (.int t), some (.int x), some (.int z), some (.int w), none, none, none, none, none, none]) (st' := [.ref 146]) d_267_0 (fun _ => rfl) ?_
  refine rr_nx (pc' := 2) (al' := [some (.ref 146), some (.int t), some (.int x), some (.int z), some (.int w), none, none, none, none, none, none]) (st' := [.int t, .ref 146]) d_267_1 (fun _ => rfl) ?_
  refine rr_pv (as := [.int t]) (al0 := [some (.ref 146), some (.int t)]) (r := []) d_267_2 mo_267 ml_124 mz_184 rfl rfl rfl (Nat.le_of_ble_eq_true rfl) (s_isTable t) ?_
  show RR _ _ 5 [some (.ref 146), some (.int t), some (.int x), some (.int z), some (.int w), none, none, none, none, none, none] [.int (bI (isT A t))] g A _
  refine rr_beq (t := 18) d_267_5 (by decide) (fun c5 => ?_) (fun c5 => ?_)
  · refine rr_nx (pc' := 19) (al' := [some (.ref 146), some (.int t), some (.int x), some (.int z), some (.int w), none, none, none, none, none, none]) (st' := [.int (-1)]) d_267_18 (fun _ => rfl) ?_
    exact rr_ri d_267_19 mr_267 rfl ⟨rfl, hW.mo⟩
  · exact absurd c5 (fun e_ => hh ((has_r hW hO).mp e_))
theorem T_cycles {S : CS} {G : Nat → Nat → Value} {B : Nat → Nat → Int32} {J : Nat → Nat → Int64} {R : Nat → Nat → Option Nat} {g : Nat → Int32} {A : Nat → Nat → Int32} {n : Nat} {W : WS} (hC : WC n S G B R W) (hR : WR n g A W) (hn : n ≤ 10000) {t : Int32} {x : Int32} {z : Int32} {w : Int32} : Tie n 161 267 [some (.ref 2), some (.int t), some (.int x), some (.int z), some (.int w)] [some (.ref 146), some (.int t), some (.int x), some (.int z), some (.int w), none, none, none, none, none, none] S G B J R g A W := by
  have hO := hC.2.2.2.1
  by_cases hh : hasP (wK W) t
  · obtain ⟨j, hj, e_, h1⟩ := has_n hh
    subst e_
    obtain ⟨⟨m, c⟩, htb⟩ : ∃ tb, tbK (wK W) j = tb := ⟨_, rfl⟩
    rw [htb] at h1
    by_cases hx : twP x z m
    · obtain ⟨p, hp, e_⟩ := in_n hx.2.1
      subst e_
      obtain ⟨q, hq, e_⟩ := in_n hx.2.2
      subst e_
      have hpq : ¬ p = q := fun e_ => hx.1 (by rw [e_])
      by_cases hw : inP w 2
      · obtain ⟨k, hk, e_⟩ := in_n hw
        subst e_
        have hk2 : k = 0 ∨ k = 1 := by omega
        rcases hk2 with rfl | rfl
        · exact ⟨_, W, p_cycles0 hC hj htb h1 hp hq hpq, r_cycles0 hR hO hj htb h1 hp hq hpq⟩
        · exact ⟨_, W, p_cycles1 hC hj htb h1 hp hq hpq, r_cycles1 hR hO hj htb h1 hp hq hpq⟩
      · exact ⟨_, W, p_cyclesX hC hj htb h1 hw hp hq hpq, r_cyclesX hR hO hj htb h1 hw⟩
    · by_cases hw : inP w 2
      · obtain ⟨k, hk, e_⟩ := in_n hw
        subst e_
        exact ⟨_, W, p_cyclesB hC hj htb h1 hx, r_cyclesB hR hO hj htb h1 hk hx⟩
      · exact ⟨_, W, p_cyclesB hC hj htb h1 hx, r_cyclesX hR hO hj htb h1 hw⟩
  · exact ⟨_, W, p_cycles_n hC hh, r_cycles_n hR hO hh⟩
theorem p_parts0 {S : CS} {G : Nat → Nat → Value} {B : Nat → Nat → Int32} {J : Nat → Nat → Int64} {R : Nat → Nat → Option Nat} {n : Nat} {W : WS} (hW : WC n S G B R W) {j m : Nat} {c : Nat → Nat} (hj : j < 6) (htb : tbK (wK W) j = (m, c)) (h1 : 1 ≤ m) : CR 80 151 0 [some (.ref 2), some (.int (nI j)), some (.int (nI 0)), none] [] S G B J R (fun r S' G' B' J' R' => r = some (.int (nI (cpN m c))) ∧ WC (n + 1) S' G' B' R' W) := by
  have hS := hW.1.1
  have hF := hW.2.1
  have hO := hW.2.2.2.1
  obtain ⟨ta, ka, la, hH, hLk, hl2, hs3, hbd⟩ := hW.2.2.1
  obtain ⟨zt, hzt, ezt⟩ := (hH.2.1 j hj).2
  have ht := hH.ta hj
  have hsh := hH.2.2.2.2.2.2.1 j hj
  rw [show kH (wK W) (kD (wK W)) j = (m, c) from htb] at hsh
  have hok := tb_ok hO hj
  rw [htb] at hok
  have hn : G (ta j) 0 = .int (nI m) := hsh.1
  have hc : TabC B (ta j) m c := hsh.c hok
  have hl : Lat m c := hok.2
  have hm6 : m ≤ 6 := hok.1
  have hyes : hasP (wK W) (nI j) := (has_i hj).mpr (by rw [htb]; exact h1)
  refine cr_nx (pc' := 1) (al' := [some (.ref 2), some (.int (nI j)), some (.int (nI 0)), none]) (st' := [.ref 2]) d_151_0 (fun _ => rfl) ?_
  refine cr_nx (pc' := 2) (al' := [some (.ref 2), some (.int (nI j)), some (.int (nI 0)), none]) (st' := [.int (nI j), .ref 2]) d_151_1 (fun _ => rfl) ?_
  refine cr_pv (b := 2) (as := [.int (nI j)]) (al0 := [some (.ref 2), some (.int (nI j))]) (r := []) d_151_2 cw_151 cm_11_137 cz_126 rfl rfl (hS.i (a := 2) (by decide) (by decide)) (by rw [cw_126]; exact (hS.s (a := 2) (by decide) (by decide) rfl)) (by rw [cw_126]; decide) rfl (Nat.le_of_ble_eq_true rfl) (k_has hS hF hH hO) ?_
  show CR _ _ 5 [some (.ref 2), some (.int (nI j)), some (.int (nI 0)), none] [.int (bI (hasP (wK W) (nI j)))] S G B J R _
  refine cr_beq (t := 17) d_151_5 (by decide) (fun c5 => ?_) (fun c5 => ?_)
  · exact absurd hyes c5
  · refine cr_nx (pc' := 9) (al' := [some (.ref 2), some (.int (nI j)), some (.int (nI 0)), none]) (st' := [.int (nI 0)]) d_151_8 (fun _ => rfl) ?_
    refine cn_zlt (t := 17) d_151_9 (by decide) (by first | omega | assumption | exact cu_36 (by omega) (cu_lt (by omega) (by omega))) (fun c9 => ?_) (fun c9 => ?_)
    · exact c9.elim
    · refine cr_nx (pc' := 13) (al' := [some (.ref 2), some (.int (nI j)), some (.int (nI 0)), none]) (st' := [.int (nI 0)]) d_151_12 (fun _ => rfl) ?_
      refine cn_ic (v := 1) d_151_13 (by decide) ?_
      refine cn_cle (t := 19) d_151_14 (by decide) (by first | omega | assumption | exact cu_36 (by omega) (cu_lt (by omega) (by omega))) (by first | omega | assumption | exact cu_36 (by omega) (cu_lt (by omega) (by omega))) (fun c14 => ?_) (fun c14 => ?_)
      · refine cr_nx (pc' := 20) (al' := [some (.ref 2), some (.int (nI j)), some (.int (nI 0)), none]) (st' := [.int (nI 0)]) d_151_19 (fun _ => rfl) ?_
        refine cn_ic (v := 1) d_151_20 (by decide) ?_
        refine cn_cne (t := 28) d_151_21 (by decide) (by first | omega | assumption | exact cu_36 (by omega) (cu_lt (by omega) (by omega))) (by first | omega | assumption | exact cu_36 (by omega) (cu_lt (by omega) (by omega))) (fun c21 => ?_) (fun c21 => ?_)
        · refine cn_ic (v := 0) d_151_28 (by decide) ?_
          refine cr_nx (pc' := 30) (al' := [some (.ref 2), some (.int (nI j)), some (.int (nI 0)), some (.int (nI 0))]) (st' := []) d_151_29 (fun _ => rfl) ?_
          refine cr_nx (pc' := 31) (al' := [some (.ref 2), some (.int (nI j)), some (.int (nI 0)), some (.int (nI 0))]) (st' := [.int (nI 0)]) d_151_30 (fun _ => rfl) ?_
          refine cn_ieq (t := 52) d_151_31 (by decide) (by first | omega | assumption | exact cu_36 (by omega) (cu_lt (by omega) (by omega))) (fun c31 => ?_) (fun c31 => ?_)
          · refine cr_nx (pc' := 53) (al' := [some (.ref 2), some (.int (nI j)), some (.int (nI 0)), some (.int (nI 0))]) (st' := [.ref 2]) d_151_52 (fun _ => rfl) ?_
            refine cr_gf (v := .ref 3) d_151_53 cw_151 cf_11_10 (hS.i (a := 2) (by decide) (by decide)) (hS.s (a := 2) (by decide) (by decide) rfl) (by decide) (fx_2_0 hF) ?_
            refine cr_gf (v := .ref 4) d_151_56 cw_151 cf_11_140 (hS.i (a := 3) (by decide) (by decide)) (hS.s (a := 3) (by decide) (by decide) rfl) (by decide) (fx_3_0 hF) ?_
            refine cr_nx (pc' := 60) (al' := [some (.ref 2), some (.int (nI j)), some (.int (nI 0)), some (.int (nI 0))]) (st' := [.int (nI j), .ref 4]) d_151_59 (fun _ => rfl) ?_
            refine cr_aa (a := 4) (v := .ref (ta j)) d_151_60 (hS.i (a := 4) (by decide) (by decide)) (by decide) (hS.s (a := 4) (by decide) (by decide) rfl) (by decide) (show j < 6 by first | omega | assumption | exact cu_36 (by omega) (cu_lt (by omega) (by omega))) (show va_rf _ = _ by rw [(hH.2.1 j hj).1]; rfl) ?_
            refine cr_nx (pc' := 62) (al' := [some (.ref 2), some (.int (nI j)), some (.int (nI 0)), some (.int (nI 0))]) (st' := [.int (nI 0), .ref (ta j)]) d_151_61 (fun _ => rfl) ?_
            refine cr_ps (as := [.ref (ta j), .int (nI 0)]) (al0 := [some (.ref (ta j)), some (.int (nI 0)), none, none]) (r := []) d_151_62 cw_151 cm_11_291 (by decide) cz_64 rfl rfl rfl (Nat.le_of_ble_eq_true rfl) (k_closedOnes0 ht hn hc) ?_
            show CR _ _ 65 [some (.ref 2), some (.int (nI j)), some (.int (nI 0)), some (.int (nI 0))] [.int (nI (cpN m c))] S G B J R _
            exact cr_ri d_151_65 cx_151 rfl ⟨rfl, hW.mo⟩
          · omega
        · omega
      · omega
theorem r_parts0 {g : Nat → Int32} {A : Nat → Nat → Int32} {n : Nat} {W : WS} (hW : WR n g A W) (hO : CoOk (wK W)) {j m : Nat} {c : Nat → Nat} (hj : j < 6) (htb : tbK (wK W) j = (m, c)) (h1 : 1 ≤ m) : RR 80 249 0 [some (.ref 146), some (.int (nI j)), some (.int (nI 0)), none, none] [] g A (fun r g' A' => r = some (.int (nI (cpN m c))) ∧ WR (n + 1) g' A' W) := by
  have hsh := hW.1.1.1 j hj
  rw [show kH (wK W) (kD (wK W)) j = (m, c) from htb] at hsh
  have hok := tb_ok hO hj
  rw [htb] at hok
  have hk : A 1 (37 * j) = nI m := hsh.1
  have hl : Lat m c := hok.2
  have hm6 : m ≤ 6 := hok.1
  have hyes : isT A (nI j) := (has_r hW hO).mpr ((has_i hj).mpr (by rw [htb]; exact h1))
  refine rr_nx (pc' := 1) (al' := [some (.ref 146), some (.int (nI j)), some (.int (nI 0)), none, none]) (st' := [.ref 146]) d_249_0 (fun _ => rfl) ?_
  refine rr_nx (pc' := 2) (al' := [some (.ref 146), some (.int (nI j)), some (.int (nI 0)), none, none]) (st' := [.int (nI j), .ref 146]) d_249_1 (fun _ => rfl) ?_
  refine rr_pv (as := [.int (nI j)]) (al0 := [some (.ref 146), some (.int (nI j))]) (r := []) d_249_2 mo_249 ml_124 mz_184 rfl rfl rfl (Nat.le_of_ble_eq_true rfl) (s_isTable (nI j)) ?_
  show RR _ _ 5 [some (.ref 146), some (.int (nI j)), some (.int (nI 0)), none, none] [.int (bI (isT A (nI j)))] g A _
  refine rr_beq (t := 17) d_249_5 (by decide) (fun c5 => ?_) (fun c5 => ?_)
  · exact absurd hyes c5
  · refine rr_nx (pc' := 9) (al' := [some (.ref 146), some (.int (nI j)), some (.int (nI 0)), none, none]) (st' := [.int (nI 0)]) d_249_8 (fun _ => rfl) ?_
    refine rn_ic (v := 0) d_249_9 (by decide) ?_
    refine rn_ic (v := 1) d_249_10 (by decide) ?_
    refine rr_ps (as := [.int (nI 0), .int (nI 0), .int (nI 1)]) (al0 := [some (.int (nI 0)), some (.int (nI 0)), some (.int (nI 1))]) (r := []) d_249_11 mo_249 ml_106 mz_179 rfl rfl rfl (Nat.le_of_ble_eq_true rfl) (s_lies (nI 0) (nI 0) (nI 1)) ?_
    show RR _ _ 14 [some (.ref 146), some (.int (nI j)), some (.int (nI 0)), none, none] [.int (bI ((nI 0) ≤ (nI 0) ∧ (nI 0) ≤ (nI 1)))] g A _
    refine rr_bne (t := 19) d_249_14 (by decide) (fun c14 => ?_) (fun c14 => ?_)
    · refine rr_nx (pc' := 20) (al' := [some (.ref 146), some (.int (nI j)), some (.int (nI 0)), none, none]) (st' := [.ref 146]) d_249_19 (fun _ => rfl) ?_
      refine rr_nx (pc' := 21) (al' := [some (.ref 146), some (.int (nI j)), some (.int (nI 0)), none, none]) (st' := [.int (nI j), .ref 146]) d_249_20 (fun _ => rfl) ?_
      refine rr_pv (as := [.int (nI j)]) (al0 := [some (.ref 146), some (.int (nI j)), none]) (r := []) d_249_21 mo_249 ml_248 mz_208 rfl rfl rfl (Nat.le_of_ble_eq_true rfl) (s_lays (n := m) hj hm6 hk) ?_
      obtain ⟨wl21, hwl21⟩ : ∃ w_, w_ = rf_f (fun q => A 1 (37 * j + 1 + q)) (A 4) (m * m) := ⟨_, rfl⟩
      rw [← hwl21]
      show RR _ _ 24 [some (.ref 146), some (.int (nI j)), some (.int (nI 0)), none, none] [] (upd g 6 (nI m)) (rf_u A 4 wl21) _
      have hcu := cur_l (g := g) hsh hm6 hl hwl21
      refine rr_nx (pc' := 25) (al' := [some (.ref 146), some (.int (nI j)), some (.int (nI 0)), none, none]) (st' := [.int (nI 0)]) d_249_24 (fun _ => rfl) ?_
      refine rn_ic (v := 1) d_249_25 (by decide) ?_
      refine rn_cne (t := 40) d_249_26 (by decide) (by first | omega | assumption | exact cu_36 (by omega) (cu_lt (by omega) (by omega))) (by first | omega | assumption | exact cu_36 (by omega) (cu_lt (by omega) (by omega))) (fun c26 => ?_) (fun c26 => ?_)
      · refine rr_dr (al1 := [some (.ref 146), none, some (.int (nI 0)), none, none]) (le_s (le_d rfl (le_s (le_s (le_s (le_n)))))) ?_
        refine rr_cq (rr_wk (by decide) (s_parts0_40 hcu)) ?_
        rintro r_ g_ A_ ⟨rfl, rfl, rfl⟩
        exact ⟨rfl, (hW.q (Gsm.rf.u rfl) (Ksm.rf.u rfl)).mo⟩
      · omega
    · exact absurd (show nI 0 ≤ nI 0 ∧ nI 0 ≤ nI 1 by decide) c14
theorem p_parts1 {S : CS} {G : Nat → Nat → Value} {B : Nat → Nat → Int32} {J : Nat → Nat → Int64} {R : Nat → Nat → Option Nat} {n : Nat} {W : WS} (hW : WC n S G B R W) {j m : Nat} {c : Nat → Nat} (hj : j < 6) (htb : tbK (wK W) j = (m, c)) (h1 : 1 ≤ m) (hu : ¬ unV 0 m c = -1) : CR 80 151 0 [some (.ref 2), some (.int (nI j)), some (.int (nI 1)), none] [] S G B J R (fun r S' G' B' J' R' => r = some (.int (nI (npN m c))) ∧ WC (n + 1) S' G' B' R' W) := by
  have hS := hW.1.1
  have hF := hW.2.1
  have hO := hW.2.2.2.1
  obtain ⟨ta, ka, la, hH, hLk, hl2, hs3, hbd⟩ := hW.2.2.1
  obtain ⟨zt, hzt, ezt⟩ := (hH.2.1 j hj).2
  have ht := hH.ta hj
  have hsh := hH.2.2.2.2.2.2.1 j hj
  rw [show kH (wK W) (kD (wK W)) j = (m, c) from htb] at hsh
  have hok := tb_ok hO hj
  rw [htb] at hok
  have hn : G (ta j) 0 = .int (nI m) := hsh.1
  have hc : TabC B (ta j) m c := hsh.c hok
  have hl : Lat m c := hok.2
  have hm6 : m ≤ 6 := hok.1
  have hyes : hasP (wK W) (nI j) := (has_i hj).mpr (by rw [htb]; exact h1)
  refine cr_nx (pc' := 1) (al' := [some (.ref 2), some (.int (nI j)), some (.int (nI 1)), none]) (st' := [.ref 2]) d_151_0 (fun _ => rfl) ?_
  refine cr_nx (pc' := 2) (al' := [some (.ref 2), some (.int (nI j)), some (.int (nI 1)), none]) (st' := [.int (nI j), .ref 2]) d_151_1 (fun _ => rfl) ?_
  refine cr_pv (b := 2) (as := [.int (nI j)]) (al0 := [some (.ref 2), some (.int (nI j))]) (r := []) d_151_2 cw_151 cm_11_137 cz_126 rfl rfl (hS.i (a := 2) (by decide) (by decide)) (by rw [cw_126]; exact (hS.s (a := 2) (by decide) (by decide) rfl)) (by rw [cw_126]; decide) rfl (Nat.le_of_ble_eq_true rfl) (k_has hS hF hH hO) ?_
  show CR _ _ 5 [some (.ref 2), some (.int (nI j)), some (.int (nI 1)), none] [.int (bI (hasP (wK W) (nI j)))] S G B J R _
  refine cr_beq (t := 17) d_151_5 (by decide) (fun c5 => ?_) (fun c5 => ?_)
  · exact absurd hyes c5
  · refine cr_nx (pc' := 9) (al' := [some (.ref 2), some (.int (nI j)), some (.int (nI 1)), none]) (st' := [.int (nI 1)]) d_151_8 (fun _ => rfl) ?_
    refine cn_zlt (t := 17) d_151_9 (by decide) (by first | omega | assumption | exact cu_36 (by omega) (cu_lt (by omega) (by omega))) (fun c9 => ?_) (fun c9 => ?_)
    · exact c9.elim
    · refine cr_nx (pc' := 13) (al' := [some (.ref 2), some (.int (nI j)), some (.int (nI 1)), none]) (st' := [.int (nI 1)]) d_151_12 (fun _ => rfl) ?_
      refine cn_ic (v := 1) d_151_13 (by decide) ?_
      refine cn_cle (t := 19) d_151_14 (by decide) (by first | omega | assumption | exact cu_36 (by omega) (cu_lt (by omega) (by omega))) (by first | omega | assumption | exact cu_36 (by omega) (cu_lt (by omega) (by omega))) (fun c14 => ?_) (fun c14 => ?_)
      · refine cr_nx (pc' := 20) (al' := [some (.ref 2), some (.int (nI j)), some (.int (nI 1)), none]) (st' := [.int (nI 1)]) d_151_19 (fun _ => rfl) ?_
        refine cn_ic (v := 1) d_151_20 (by decide) ?_
        refine cn_cne (t := 28) d_151_21 (by decide) (by first | omega | assumption | exact cu_36 (by omega) (cu_lt (by omega) (by omega))) (by first | omega | assumption | exact cu_36 (by omega) (cu_lt (by omega) (by omega))) (fun c21 => ?_) (fun c21 => ?_)
        · omega
        · refine cn_ic (v := 1) d_151_24 (by decide) ?_
          refine cr_nx (pc' := 29) (al' := [some (.ref 2), some (.int (nI j)), some (.int (nI 1)), none]) (st' := [.int (nI 1)]) d_151_25 (fun _ => rfl) ?_
          refine cr_nx (pc' := 30) (al' := [some (.ref 2), some (.int (nI j)), some (.int (nI 1)), some (.int (nI 1))]) (st' := []) d_151_29 (fun _ => rfl) ?_
          refine cr_nx (pc' := 31) (al' := [some (.ref 2), some (.int (nI j)), some (.int (nI 1)), some (.int (nI 1))]) (st' := [.int (nI 1)]) d_151_30 (fun _ => rfl) ?_
          refine cn_ieq (t := 52) d_151_31 (by decide) (by first | omega | assumption | exact cu_36 (by omega) (cu_lt (by omega) (by omega))) (fun c31 => ?_) (fun c31 => ?_)
          · omega
          · refine cr_nx (pc' := 35) (al' := [some (.ref 2), some (.int (nI j)), some (.int (nI 1)), some (.int (nI 1))]) (st' := [.ref 2]) d_151_34 (fun _ => rfl) ?_
            refine cr_gf (v := .ref 3) d_151_35 cw_151 cf_11_10 (hS.i (a := 2) (by decide) (by decide)) (hS.s (a := 2) (by decide) (by decide) rfl) (by decide) (fx_2_0 hF) ?_
            refine cr_gf (v := .ref 4) d_151_38 cw_151 cf_11_140 (hS.i (a := 3) (by decide) (by decide)) (hS.s (a := 3) (by decide) (by decide) rfl) (by decide) (fx_3_0 hF) ?_
            refine cr_nx (pc' := 42) (al' := [some (.ref 2), some (.int (nI j)), some (.int (nI 1)), some (.int (nI 1))]) (st' := [.int (nI j), .ref 4]) d_151_41 (fun _ => rfl) ?_
            refine cr_aa (a := 4) (v := .ref (ta j)) d_151_42 (hS.i (a := 4) (by decide) (by decide)) (by decide) (hS.s (a := 4) (by decide) (by decide) rfl) (by decide) (show j < 6 by first | omega | assumption | exact cu_36 (by omega) (cu_lt (by omega) (by omega))) (show va_rf _ = _ by rw [(hH.2.1 j hj).1]; rfl) ?_
            refine cr_pv (b := (ta j)) (as := []) (al0 := [some (.ref (ta j))]) (r := []) d_151_43 cw_151 cm_11_193 cz_106 rfl rfl ht.1 (by rw [cw_106]; exact ht.2.2.1) (by rw [cw_106]; decide) rfl (Nat.le_of_ble_eq_true rfl) (k_unitElement ht hn hc) ?_
            show CR _ _ 46 [some (.ref 2), some (.int (nI j)), some (.int (nI 1)), some (.int (nI 1))] [.int (unV 0 m c)] S G B J R _
            refine cr_nx (pc' := 47) (al' := [some (.ref 2), some (.int (nI j)), some (.int (nI 1)), some (.int (nI 1))]) (st' := [.int (-1), .int (unV 0 m c)]) d_151_46 (fun _ => rfl) ?_
            refine cr_cne (t := 52) d_151_47 (by decide) (fun c47 => ?_) (fun c47 => ?_)
            · refine cr_nx (pc' := 53) (al' := [some (.ref 2), some (.int (nI j)), some (.int (nI 1)), some (.int (nI 1))]) (st' := [.ref 2]) d_151_52 (fun _ => rfl) ?_
              refine cr_gf (v := .ref 3) d_151_53 cw_151 cf_11_10 (hS.i (a := 2) (by decide) (by decide)) (hS.s (a := 2) (by decide) (by decide) rfl) (by decide) (fx_2_0 hF) ?_
              refine cr_gf (v := .ref 4) d_151_56 cw_151 cf_11_140 (hS.i (a := 3) (by decide) (by decide)) (hS.s (a := 3) (by decide) (by decide) rfl) (by decide) (fx_3_0 hF) ?_
              refine cr_nx (pc' := 60) (al' := [some (.ref 2), some (.int (nI j)), some (.int (nI 1)), some (.int (nI 1))]) (st' := [.int (nI j), .ref 4]) d_151_59 (fun _ => rfl) ?_
              refine cr_aa (a := 4) (v := .ref (ta j)) d_151_60 (hS.i (a := 4) (by decide) (by decide)) (by decide) (hS.s (a := 4) (by decide) (by decide) rfl) (by decide) (show j < 6 by first | omega | assumption | exact cu_36 (by omega) (cu_lt (by omega) (by omega))) (show va_rf _ = _ by rw [(hH.2.1 j hj).1]; rfl) ?_
              refine cr_nx (pc' := 62) (al' := [some (.ref 2), some (.int (nI j)), some (.int (nI 1)), some (.int (nI 1))]) (st' := [.int (nI 1), .ref (ta j)]) d_151_61 (fun _ => rfl) ?_
              refine cr_ps (as := [.ref (ta j), .int (nI 1)]) (al0 := [some (.ref (ta j)), some (.int (nI 1)), none, none]) (r := []) d_151_62 cw_151 cm_11_291 (by decide) cz_64 rfl rfl rfl (Nat.le_of_ble_eq_true rfl) (k_closedOnes1 ht hn hc) ?_
              show CR _ _ 65 [some (.ref 2), some (.int (nI j)), some (.int (nI 1)), some (.int (nI 1))] [.int (nI (npN m c))] S G B J R _
              exact cr_ri d_151_65 cx_151 rfl ⟨rfl, hW.mo⟩
            · exact absurd c47 hu
      · omega
theorem r_parts1 {g : Nat → Int32} {A : Nat → Nat → Int32} {n : Nat} {W : WS} (hW : WR n g A W) (hO : CoOk (wK W)) {j m : Nat} {c : Nat → Nat} (hj : j < 6) (htb : tbK (wK W) j = (m, c)) (h1 : 1 ≤ m) (hu : ¬ unV 0 m c = -1) : RR 80 249 0 [some (.ref 146), some (.int (nI j)), some (.int (nI 1)), none, none] [] g A (fun r g' A' => r = some (.int (nI (npN m c))) ∧ WR (n + 1) g' A' W) := by
  have hsh := hW.1.1.1 j hj
  rw [show kH (wK W) (kD (wK W)) j = (m, c) from htb] at hsh
  have hok := tb_ok hO hj
  rw [htb] at hok
  have hk : A 1 (37 * j) = nI m := hsh.1
  have hl : Lat m c := hok.2
  have hm6 : m ≤ 6 := hok.1
  have hyes : isT A (nI j) := (has_r hW hO).mpr ((has_i hj).mpr (by rw [htb]; exact h1))
  refine rr_nx (pc' := 1) (al' := [some (.ref 146), some (.int (nI j)), some (.int (nI 1)), none, none]) (st' := [.ref 146]) d_249_0 (fun _ => rfl) ?_
  refine rr_nx (pc' := 2) (al' := [some (.ref 146), some (.int (nI j)), some (.int (nI 1)), none, none]) (st' := [.int (nI j), .ref 146]) d_249_1 (fun _ => rfl) ?_
  refine rr_pv (as := [.int (nI j)]) (al0 := [some (.ref 146), some (.int (nI j))]) (r := []) d_249_2 mo_249 ml_124 mz_184 rfl rfl rfl (Nat.le_of_ble_eq_true rfl) (s_isTable (nI j)) ?_
  show RR _ _ 5 [some (.ref 146), some (.int (nI j)), some (.int (nI 1)), none, none] [.int (bI (isT A (nI j)))] g A _
  refine rr_beq (t := 17) d_249_5 (by decide) (fun c5 => ?_) (fun c5 => ?_)
  · exact absurd hyes c5
  · refine rr_nx (pc' := 9) (al' := [some (.ref 146), some (.int (nI j)), some (.int (nI 1)), none, none]) (st' := [.int (nI 1)]) d_249_8 (fun _ => rfl) ?_
    refine rn_ic (v := 0) d_249_9 (by decide) ?_
    refine rn_ic (v := 1) d_249_10 (by decide) ?_
    refine rr_ps (as := [.int (nI 1), .int (nI 0), .int (nI 1)]) (al0 := [some (.int (nI 1)), some (.int (nI 0)), some (.int (nI 1))]) (r := []) d_249_11 mo_249 ml_106 mz_179 rfl rfl rfl (Nat.le_of_ble_eq_true rfl) (s_lies (nI 1) (nI 0) (nI 1)) ?_
    show RR _ _ 14 [some (.ref 146), some (.int (nI j)), some (.int (nI 1)), none, none] [.int (bI ((nI 0) ≤ (nI 1) ∧ (nI 1) ≤ (nI 1)))] g A _
    refine rr_bne (t := 19) d_249_14 (by decide) (fun c14 => ?_) (fun c14 => ?_)
    · refine rr_nx (pc' := 20) (al' := [some (.ref 146), some (.int (nI j)), some (.int (nI 1)), none, none]) (st' := [.ref 146]) d_249_19 (fun _ => rfl) ?_
      refine rr_nx (pc' := 21) (al' := [some (.ref 146), some (.int (nI j)), some (.int (nI 1)), none, none]) (st' := [.int (nI j), .ref 146]) d_249_20 (fun _ => rfl) ?_
      refine rr_pv (as := [.int (nI j)]) (al0 := [some (.ref 146), some (.int (nI j)), none]) (r := []) d_249_21 mo_249 ml_248 mz_208 rfl rfl rfl (Nat.le_of_ble_eq_true rfl) (s_lays (n := m) hj hm6 hk) ?_
      obtain ⟨wl21, hwl21⟩ : ∃ w_, w_ = rf_f (fun q => A 1 (37 * j + 1 + q)) (A 4) (m * m) := ⟨_, rfl⟩
      rw [← hwl21]
      show RR _ _ 24 [some (.ref 146), some (.int (nI j)), some (.int (nI 1)), none, none] [] (upd g 6 (nI m)) (rf_u A 4 wl21) _
      have hcu := cur_l (g := g) hsh hm6 hl hwl21
      refine rr_nx (pc' := 25) (al' := [some (.ref 146), some (.int (nI j)), some (.int (nI 1)), none, none]) (st' := [.int (nI 1)]) d_249_24 (fun _ => rfl) ?_
      refine rn_ic (v := 1) d_249_25 (by decide) ?_
      refine rn_cne (t := 40) d_249_26 (by decide) (by first | omega | assumption | exact cu_36 (by omega) (cu_lt (by omega) (by omega))) (by first | omega | assumption | exact cu_36 (by omega) (cu_lt (by omega) (by omega))) (fun c26 => ?_) (fun c26 => ?_)
      · omega
      · refine rr_nx (pc' := 30) (al' := [some (.ref 146), some (.int (nI j)), some (.int (nI 1)), none, none]) (st' := [.ref 146]) d_249_29 (fun _ => rfl) ?_
        refine rn_ic (v := 0) d_249_30 (by decide) ?_
        refine rr_pv (as := [.int (nI 0)]) (al0 := [some (.ref 146), some (.int (nI 0)), none, none, none]) (r := []) d_249_31 mo_249 ml_223 mz_212 rfl rfl rfl (Nat.le_of_ble_eq_true rfl) (s_unitOf hcu (by omega)) ?_
        show RR _ _ 34 [some (.ref 146), some (.int (nI j)), some (.int (nI 1)), none, none] [.int (unV 0 m c)] (upd g 6 (nI m)) (rf_u A 4 wl21) _
        refine rr_nx (pc' := 35) (al' := [some (.ref 146), some (.int (nI j)), some (.int (nI 1)), none, none]) (st' := [.int (-1), .int (unV 0 m c)]) d_249_34 (fun _ => rfl) ?_
        refine rr_cne (t := 40) d_249_35 (by decide) (fun c35 => ?_) (fun c35 => ?_)
        · refine rr_dr (al1 := [some (.ref 146), none, some (.int (nI 1)), none, none]) (le_s (le_d rfl (le_s (le_s (le_s (le_n)))))) ?_
          refine rr_cq (rr_wk (by decide) (s_parts1_40 hcu hl (un_uni hu))) ?_
          rintro r_ g_ A_ ⟨rfl, h1_, h2_⟩
          exact ⟨rfl, (hW.q ((Gsm.rf.u rfl).tr h1_) ((Ksm.rf.u rfl).tr h2_)).mo⟩
        · exact absurd c35 hu
    · exact absurd (show nI 0 ≤ nI 1 ∧ nI 1 ≤ nI 1 by decide) c14
theorem p_partsU {S : CS} {G : Nat → Nat → Value} {B : Nat → Nat → Int32} {J : Nat → Nat → Int64} {R : Nat → Nat → Option Nat} {n : Nat} {W : WS} (hW : WC n S G B R W) {j m : Nat} {c : Nat → Nat} (hj : j < 6) (htb : tbK (wK W) j = (m, c)) (h1 : 1 ≤ m) (hu : unV 0 m c = -1) : CR 80 151 0 [some (.ref 2), some (.int (nI j)), some (.int (nI 1)), none] [] S G B J R (fun r S' G' B' J' R' => r = some (.int (-1)) ∧ WC (n + 1) S' G' B' R' W) := by
  have hS := hW.1.1
  have hF := hW.2.1
  have hO := hW.2.2.2.1
  obtain ⟨ta, ka, la, hH, hLk, hl2, hs3, hbd⟩ := hW.2.2.1
  obtain ⟨zt, hzt, ezt⟩ := (hH.2.1 j hj).2
  have ht := hH.ta hj
  have hsh := hH.2.2.2.2.2.2.1 j hj
  rw [show kH (wK W) (kD (wK W)) j = (m, c) from htb] at hsh
  have hok := tb_ok hO hj
  rw [htb] at hok
  have hn : G (ta j) 0 = .int (nI m) := hsh.1
  have hc : TabC B (ta j) m c := hsh.c hok
  have hl : Lat m c := hok.2
  have hm6 : m ≤ 6 := hok.1
  have hyes : hasP (wK W) (nI j) := (has_i hj).mpr (by rw [htb]; exact h1)
  refine cr_nx (pc' := 1) (al' := [some (.ref 2), some (.int (nI j)), some (.int (nI 1)), none]) (st' := [.ref 2]) d_151_0 (fun _ => rfl) ?_
  refine cr_nx (pc' := 2) (al' := [some (.ref 2), some (.int (nI j)), some (.int (nI 1)), none]) (st' := [.int (nI j), .ref 2]) d_151_1 (fun _ => rfl) ?_
  refine cr_pv (b := 2) (as := [.int (nI j)]) (al0 := [some (.ref 2), some (.int (nI j))]) (r := []) d_151_2 cw_151 cm_11_137 cz_126 rfl rfl (hS.i (a := 2) (by decide) (by decide)) (by rw [cw_126]; exact (hS.s (a := 2) (by decide) (by decide) rfl)) (by rw [cw_126]; decide) rfl (Nat.le_of_ble_eq_true rfl) (k_has hS hF hH hO) ?_
  show CR _ _ 5 [some (.ref 2), some (.int (nI j)), some (.int (nI 1)), none] [.int (bI (hasP (wK W) (nI j)))] S G B J R _
  refine cr_beq (t := 17) d_151_5 (by decide) (fun c5 => ?_) (fun c5 => ?_)
  · exact absurd hyes c5
  · refine cr_nx (pc' := 9) (al' := [some (.ref 2), some (.int (nI j)), some (.int (nI 1)), none]) (st' := [.int (nI 1)]) d_151_8 (fun _ => rfl) ?_
    refine cn_zlt (t := 17) d_151_9 (by decide) (by first | omega | assumption | exact cu_36 (by omega) (cu_lt (by omega) (by omega))) (fun c9 => ?_) (fun c9 => ?_)
    · exact c9.elim
    · refine cr_nx (pc' := 13) (al' := [some (.ref 2), some (.int (nI j)), some (.int (nI 1)), none]) (st' := [.int (nI 1)]) d_151_12 (fun _ => rfl) ?_
      refine cn_ic (v := 1) d_151_13 (by decide) ?_
      refine cn_cle (t := 19) d_151_14 (by decide) (by first | omega | assumption | exact cu_36 (by omega) (cu_lt (by omega) (by omega))) (by first | omega | assumption | exact cu_36 (by omega) (cu_lt (by omega) (by omega))) (fun c14 => ?_) (fun c14 => ?_)
      · refine cr_nx (pc' := 20) (al' := [some (.ref 2), some (.int (nI j)), some (.int (nI 1)), none]) (st' := [.int (nI 1)]) d_151_19 (fun _ => rfl) ?_
        refine cn_ic (v := 1) d_151_20 (by decide) ?_
        refine cn_cne (t := 28) d_151_21 (by decide) (by first | omega | assumption | exact cu_36 (by omega) (cu_lt (by omega) (by omega))) (by first | omega | assumption | exact cu_36 (by omega) (cu_lt (by omega) (by omega))) (fun c21 => ?_) (fun c21 => ?_)
        · omega
        · refine cn_ic (v := 1) d_151_24 (by decide) ?_
          refine cr_nx (pc' := 29) (al' := [some (.ref 2), some (.int (nI j)), some (.int (nI 1)), none]) (st' := [.int (nI 1)]) d_151_25 (fun _ => rfl) ?_
          refine cr_nx (pc' := 30) (al' := [some (.ref 2), some (.int (nI j)), some (.int (nI 1)), some (.int (nI 1))]) (st' := []) d_151_29 (fun _ => rfl) ?_
          refine cr_nx (pc' := 31) (al' := [some (.ref 2), some (.int (nI j)), some (.int (nI 1)), some (.int (nI 1))]) (st' := [.int (nI 1)]) d_151_30 (fun _ => rfl) ?_
          refine cn_ieq (t := 52) d_151_31 (by decide) (by first | omega | assumption | exact cu_36 (by omega) (cu_lt (by omega) (by omega))) (fun c31 => ?_) (fun c31 => ?_)
          · omega
          · refine cr_nx (pc' := 35) (al' := [some (.ref 2), some (.int (nI j)), some (.int (nI 1)), some (.int (nI 1))]) (st' := [.ref 2]) d_151_34 (fun _ => rfl) ?_
            refine cr_gf (v := .ref 3) d_151_35 cw_151 cf_11_10 (hS.i (a := 2) (by decide) (by decide)) (hS.s (a := 2) (by decide) (by decide) rfl) (by decide) (fx_2_0 hF) ?_
            refine cr_gf (v := .ref 4) d_151_38 cw_151 cf_11_140 (hS.i (a := 3) (by decide) (by decide)) (hS.s (a := 3) (by decide) (by decide) rfl) (by decide) (fx_3_0 hF) ?_
            refine cr_nx (pc' := 42) (al' := [some (.ref 2), some (.int (nI j)), some (.int (nI 1)), some (.int (nI 1))]) (st' := [.int (nI j), .ref 4]) d_151_41 (fun _ => rfl) ?_
            refine cr_aa (a := 4) (v := .ref (ta j)) d_151_42 (hS.i (a := 4) (by decide) (by decide)) (by decide) (hS.s (a := 4) (by decide) (by decide) rfl) (by decide) (show j < 6 by first | omega | assumption | exact cu_36 (by omega) (cu_lt (by omega) (by omega))) (show va_rf _ = _ by rw [(hH.2.1 j hj).1]; rfl) ?_
            refine cr_pv (b := (ta j)) (as := []) (al0 := [some (.ref (ta j))]) (r := []) d_151_43 cw_151 cm_11_193 cz_106 rfl rfl ht.1 (by rw [cw_106]; exact ht.2.2.1) (by rw [cw_106]; decide) rfl (Nat.le_of_ble_eq_true rfl) (k_unitElement ht hn hc) ?_
            show CR _ _ 46 [some (.ref 2), some (.int (nI j)), some (.int (nI 1)), some (.int (nI 1))] [.int (unV 0 m c)] S G B J R _
            refine cr_nx (pc' := 47) (al' := [some (.ref 2), some (.int (nI j)), some (.int (nI 1)), some (.int (nI 1))]) (st' := [.int (-1), .int (unV 0 m c)]) d_151_46 (fun _ => rfl) ?_
            refine cr_cne (t := 52) d_151_47 (by decide) (fun c47 => ?_) (fun c47 => ?_)
            · exact absurd hu c47
            · refine cr_nx (pc' := 51) (al' := [some (.ref 2), some (.int (nI j)), some (.int (nI 1)), some (.int (nI 1))]) (st' := [.int (-1)]) d_151_50 (fun _ => rfl) ?_
              exact cr_ri d_151_51 cx_151 rfl ⟨rfl, hW.mo⟩
      · omega
theorem r_partsU {g : Nat → Int32} {A : Nat → Nat → Int32} {n : Nat} {W : WS} (hW : WR n g A W) (hO : CoOk (wK W)) {j m : Nat} {c : Nat → Nat} (hj : j < 6) (htb : tbK (wK W) j = (m, c)) (h1 : 1 ≤ m) (hu : unV 0 m c = -1) : RR 80 249 0 [some (.ref 146), some (.int (nI j)), some (.int (nI 1)), none, none] [] g A (fun r g' A' => r = some (.int (-1)) ∧ WR (n + 1) g' A' W) := by
  have hsh := hW.1.1.1 j hj
  rw [show kH (wK W) (kD (wK W)) j = (m, c) from htb] at hsh
  have hok := tb_ok hO hj
  rw [htb] at hok
  have hk : A 1 (37 * j) = nI m := hsh.1
  have hl : Lat m c := hok.2
  have hm6 : m ≤ 6 := hok.1
  have hyes : isT A (nI j) := (has_r hW hO).mpr ((has_i hj).mpr (by rw [htb]; exact h1))
  refine rr_nx (pc' := 1) (al' := [some (.ref 146), some (.int (nI j)), some (.int (nI 1)), none, none]) (st' := [.ref 146]) d_249_0 (fun _ => rfl) ?_
  refine rr_nx (pc' := 2) (al' := [some (.ref 146), some (.int (nI j)), some (.int (nI 1)), none, none]) (st' := [.int (nI j), .ref 146]) d_249_1 (fun _ => rfl) ?_
  refine rr_pv (as := [.int (nI j)]) (al0 := [some (.ref 146), some (.int (nI j))]) (r := []) d_249_2 mo_249 ml_124 mz_184 rfl rfl rfl (Nat.le_of_ble_eq_true rfl) (s_isTable (nI j)) ?_
  show RR _ _ 5 [some (.ref 146), some (.int (nI j)), some (.int (nI 1)), none, none] [.int (bI (isT A (nI j)))] g A _
  refine rr_beq (t := 17) d_249_5 (by decide) (fun c5 => ?_) (fun c5 => ?_)
  · exact absurd hyes c5
  · refine rr_nx (pc' := 9) (al' := [some (.ref 146), some (.int (nI j)), some (.int (nI 1)), none, none]) (st' := [.int (nI 1)]) d_249_8 (fun _ => rfl) ?_
    refine rn_ic (v := 0) d_249_9 (by decide) ?_
    refine rn_ic (v := 1) d_249_10 (by decide) ?_
    refine rr_ps (as := [.int (nI 1), .int (nI 0), .int (nI 1)]) (al0 := [some (.int (nI 1)), some (.int (nI 0)), some (.int (nI 1))]) (r := []) d_249_11 mo_249 ml_106 mz_179 rfl rfl rfl (Nat.le_of_ble_eq_true rfl) (s_lies (nI 1) (nI 0) (nI 1)) ?_
    show RR _ _ 14 [some (.ref 146), some (.int (nI j)), some (.int (nI 1)), none, none] [.int (bI ((nI 0) ≤ (nI 1) ∧ (nI 1) ≤ (nI 1)))] g A _
    refine rr_bne (t := 19) d_249_14 (by decide) (fun c14 => ?_) (fun c14 => ?_)
    · refine rr_nx (pc' := 20) (al' := [some (.ref 146), some (.int (nI j)), some (.int (nI 1)), none, none]) (st' := [.ref 146]) d_249_19 (fun _ => rfl) ?_
      refine rr_nx (pc' := 21) (al' := [some (.ref 146), some (.int (nI j)), some (.int (nI 1)), none, none]) (st' := [.int (nI j), .ref 146]) d_249_20 (fun _ => rfl) ?_
      refine rr_pv (as := [.int (nI j)]) (al0 := [some (.ref 146), some (.int (nI j)), none]) (r := []) d_249_21 mo_249 ml_248 mz_208 rfl rfl rfl (Nat.le_of_ble_eq_true rfl) (s_lays (n := m) hj hm6 hk) ?_
      obtain ⟨wl21, hwl21⟩ : ∃ w_, w_ = rf_f (fun q => A 1 (37 * j + 1 + q)) (A 4) (m * m) := ⟨_, rfl⟩
      rw [← hwl21]
      show RR _ _ 24 [some (.ref 146), some (.int (nI j)), some (.int (nI 1)), none, none] [] (upd g 6 (nI m)) (rf_u A 4 wl21) _
      have hcu := cur_l (g := g) hsh hm6 hl hwl21
      refine rr_nx (pc' := 25) (al' := [some (.ref 146), some (.int (nI j)), some (.int (nI 1)), none, none]) (st' := [.int (nI 1)]) d_249_24 (fun _ => rfl) ?_
      refine rn_ic (v := 1) d_249_25 (by decide) ?_
      refine rn_cne (t := 40) d_249_26 (by decide) (by first | omega | assumption | exact cu_36 (by omega) (cu_lt (by omega) (by omega))) (by first | omega | assumption | exact cu_36 (by omega) (cu_lt (by omega) (by omega))) (fun c26 => ?_) (fun c26 => ?_)
      · omega
      · refine rr_nx (pc' := 30) (al' := [some (.ref 146), some (.int (nI j)), some (.int (nI 1)), none, none]) (st' := [.ref 146]) d_249_29 (fun _ => rfl) ?_
        refine rn_ic (v := 0) d_249_30 (by decide) ?_
        refine rr_pv (as := [.int (nI 0)]) (al0 := [some (.ref 146), some (.int (nI 0)), none, none, none]) (r := []) d_249_31 mo_249 ml_223 mz_212 rfl rfl rfl (Nat.le_of_ble_eq_true rfl) (s_unitOf hcu (by omega)) ?_
        show RR _ _ 34 [some (.ref 146), some (.int (nI j)), some (.int (nI 1)), none, none] [.int (unV 0 m c)] (upd g 6 (nI m)) (rf_u A 4 wl21) _
        refine rr_nx (pc' := 35) (al' := [some (.ref 146), some (.int (nI j)), some (.int (nI 1)), none, none]) (st' := [.int (-1), .int (unV 0 m c)]) d_249_34 (fun _ => rfl) ?_
        refine rr_cne (t := 40) d_249_35 (by decide) (fun c35 => ?_) (fun c35 => ?_)
        · exact absurd hu c35
        · refine rr_nx (pc' := 39) (al' := [some (.ref 146), some (.int (nI j)), some (.int (nI 1)), none, none]) (st' := [.int (-1)]) d_249_38 (fun _ => rfl) ?_
          exact rr_ri d_249_39 mr_249 rfl ⟨rfl, (hW.q (Gsm.rf.u rfl) (Ksm.rf.u rfl)).mo⟩
    · exact absurd (show nI 0 ≤ nI 1 ∧ nI 1 ≤ nI 1 by decide) c14
theorem p_partsX {S : CS} {G : Nat → Nat → Value} {B : Nat → Nat → Int32} {J : Nat → Nat → Int64} {R : Nat → Nat → Option Nat} {n : Nat} {W : WS} (hW : WC n S G B R W) {j m : Nat} {c : Nat → Nat} (hj : j < 6) (htb : tbK (wK W) j = (m, c)) (h1 : 1 ≤ m) {w : Int32} (hw : ¬ inP w 2) : CR 80 151 0 [some (.ref 2), some (.int (nI j)), some (.int w), none] [] S G B J R (fun r S' G' B' J' R' => r = some (.int (-1)) ∧ WC (n + 1) S' G' B' R' W) := by
  have hS := hW.1.1
  have hF := hW.2.1
  have hO := hW.2.2.2.1
  obtain ⟨ta, ka, la, hH, hLk, hl2, hs3, hbd⟩ := hW.2.2.1
  obtain ⟨zt, hzt, ezt⟩ := (hH.2.1 j hj).2
  have ht := hH.ta hj
  have hsh := hH.2.2.2.2.2.2.1 j hj
  rw [show kH (wK W) (kD (wK W)) j = (m, c) from htb] at hsh
  have hok := tb_ok hO hj
  rw [htb] at hok
  have hn : G (ta j) 0 = .int (nI m) := hsh.1
  have hc : TabC B (ta j) m c := hsh.c hok
  have hl : Lat m c := hok.2
  have hm6 : m ≤ 6 := hok.1
  have hyes : hasP (wK W) (nI j) := (has_i hj).mpr (by rw [htb]; exact h1)
  refine cr_nx (pc' := 1) (al' := [some (.ref 2), some (.int (nI j)), some (.int w), none]) (st' := [.ref 2]) d_151_0 (fun _ => rfl) ?_
  refine cr_nx (pc' := 2) (al' := [some (.ref 2), some (.int (nI j)), some (.int w), none]) (st' := [.int (nI j), .ref 2]) d_151_1 (fun _ => rfl) ?_
  refine cr_pv (b := 2) (as := [.int (nI j)]) (al0 := [some (.ref 2), some (.int (nI j))]) (r := []) d_151_2 cw_151 cm_11_137 cz_126 rfl rfl (hS.i (a := 2) (by decide) (by decide)) (by rw [cw_126]; exact (hS.s (a := 2) (by decide) (by decide) rfl)) (by rw [cw_126]; decide) rfl (Nat.le_of_ble_eq_true rfl) (k_has hS hF hH hO) ?_
  show CR _ _ 5 [some (.ref 2), some (.int (nI j)), some (.int w), none] [.int (bI (hasP (wK W) (nI j)))] S G B J R _
  refine cr_beq (t := 17) d_151_5 (by decide) (fun c5 => ?_) (fun c5 => ?_)
  · exact absurd hyes c5
  · refine cr_nx (pc' := 9) (al' := [some (.ref 2), some (.int (nI j)), some (.int w), none]) (st' := [.int w]) d_151_8 (fun _ => rfl) ?_
    refine cr_ilt (t := 17) d_151_9 (by decide) (fun c9 => ?_) (fun c9 => ?_)
    · refine cr_nx (pc' := 18) (al' := [some (.ref 2), some (.int (nI j)), some (.int w), none]) (st' := [.int (-1)]) d_151_17 (fun _ => rfl) ?_
      exact cr_ri d_151_18 cx_151 rfl ⟨rfl, hW.mo⟩
    · refine cr_nx (pc' := 13) (al' := [some (.ref 2), some (.int (nI j)), some (.int w), none]) (st' := [.int w]) d_151_12 (fun _ => rfl) ?_
      refine cn_ic (v := 1) d_151_13 (by decide) ?_
      refine cr_cle (t := 19) d_151_14 (by decide) (fun c14 => ?_) (fun c14 => ?_)
      · exact absurd (show inP w 2 from ⟨by rw [i_lt0] at c9; omega, by rw [i_Nle (by decide)] at c14; omega⟩) hw
      · refine cr_nx (pc' := 18) (al' := [some (.ref 2), some (.int (nI j)), some (.int w), none]) (st' := [.int (-1)]) d_151_17 (fun _ => rfl) ?_
        exact cr_ri d_151_18 cx_151 rfl ⟨rfl, hW.mo⟩
theorem r_partsX {g : Nat → Int32} {A : Nat → Nat → Int32} {n : Nat} {W : WS} (hW : WR n g A W) (hO : CoOk (wK W)) {j m : Nat} {c : Nat → Nat} (hj : j < 6) (htb : tbK (wK W) j = (m, c)) (h1 : 1 ≤ m) {w : Int32} (hw : ¬ inP w 2) : RR 80 249 0 [some (.ref 146), some (.int (nI j)), some (.int w), none, none] [] g A (fun r g' A' => r = some (.int (-1)) ∧ WR (n + 1) g' A' W) := by
  have hsh := hW.1.1.1 j hj
  rw [show kH (wK W) (kD (wK W)) j = (m, c) from htb] at hsh
  have hok := tb_ok hO hj
  rw [htb] at hok
  have hk : A 1 (37 * j) = nI m := hsh.1
  have hl : Lat m c := hok.2
  have hm6 : m ≤ 6 := hok.1
  have hyes : isT A (nI j) := (has_r hW hO).mpr ((has_i hj).mpr (by rw [htb]; exact h1))
  refine rr_nx (pc' := 1) (al' := [some (.ref 146), some (.int (nI j)), some (.int w), none, none]) (st' := [.ref 146]) d_249_0 (fun _ => rfl) ?_
  refine rr_nx (pc' := 2) (al' := [some (.ref 146), some (.int (nI j)), some (.int w), none, none]) (st' := [.int (nI j), .ref 146]) d_249_1 (fun _ => rfl) ?_
  refine rr_pv (as := [.int (nI j)]) (al0 := [some (.ref 146), some (.int (nI j))]) (r := []) d_249_2 mo_249 ml_124 mz_184 rfl rfl rfl (Nat.le_of_ble_eq_true rfl) (s_isTable (nI j)) ?_
  show RR _ _ 5 [some (.ref 146), some (.int (nI j)), some (.int w), none, none] [.int (bI (isT A (nI j)))] g A _
  refine rr_beq (t := 17) d_249_5 (by decide) (fun c5 => ?_) (fun c5 => ?_)
  · exact absurd hyes c5
  · refine rr_nx (pc' := 9) (al' := [some (.ref 146), some (.int (nI j)), some (.int w), none, none]) (st' := [.int w]) d_249_8 (fun _ => rfl) ?_
    refine rn_ic (v := 0) d_249_9 (by decide) ?_
    refine rn_ic (v := 1) d_249_10 (by decide) ?_
    refine rr_ps (as := [.int w, .int (nI 0), .int (nI 1)]) (al0 := [some (.int w), some (.int (nI 0)), some (.int (nI 1))]) (r := []) d_249_11 mo_249 ml_106 mz_179 rfl rfl rfl (Nat.le_of_ble_eq_true rfl) (s_lies w (nI 0) (nI 1)) ?_
    show RR _ _ 14 [some (.ref 146), some (.int (nI j)), some (.int w), none, none] [.int (bI ((nI 0) ≤ w ∧ w ≤ (nI 1)))] g A _
    refine rr_bne (t := 19) d_249_14 (by decide) (fun c14 => ?_) (fun c14 => ?_)
    · exact absurd c14 (fun e_ => hw ((in_r (m := 1) (by decide)).mp e_))
    · refine rr_nx (pc' := 18) (al' := [some (.ref 146), some (.int (nI j)), some (.int w), none, none]) (st' := [.int (-1)]) d_249_17 (fun _ => rfl) ?_
      exact rr_ri d_249_18 mr_249 rfl ⟨rfl, hW.mo⟩
theorem p_parts_n {S : CS} {G : Nat → Nat → Value} {B : Nat → Nat → Int32} {J : Nat → Nat → Int64} {R : Nat → Nat → Option Nat} {n : Nat} {W : WS} (hW : WC n S G B R W) {t : Int32} (hh : ¬ hasP (wK W) t) {w : Int32} : CR 80 151 0 [some (.ref 2), some (.int t), some (.int w), none] [] S G B J R (fun r S' G' B' J' R' => r = some (.int (-1)) ∧ WC (n + 1) S' G' B' R' W) := by
  have hS := hW.1.1
  have hF := hW.2.1
  have hO := hW.2.2.2.1
  obtain ⟨ta, ka, la, hH, hLk, hl2, hs3, hbd⟩ := hW.2.2.1
  refine cr_nx (pc' := 1) (al' := [some (.ref 2), some (.int t), some (.int w), none]) (st' := [.ref 2]) d_151_0 (fun _ => rfl) ?_
  refine cr_nx (pc' := 2) (al' := [some (.ref 2), some (.int t), some (.int w), none]) (st' := [.int t, .ref 2]) d_151_1 (fun _ => rfl) ?_
  refine cr_pv (b := 2) (as := [.int t]) (al0 := [some (.ref 2), some (.int t)]) (r := []) d_151_2 cw_151 cm_11_137 cz_126 rfl rfl (hS.i (a := 2) (by decide) (by decide)) (by rw [cw_126]; exact (hS.s (a := 2) (by decide) (by decide) rfl)) (by rw [cw_126]; decide) rfl (Nat.le_of_ble_eq_true rfl) (k_has hS hF hH hO) ?_
  show CR _ _ 5 [some (.ref 2), some (.int t), some (.int w), none] [.int (bI (hasP (wK W) t))] S G B J R _
  refine cr_beq (t := 17) d_151_5 (by decide) (fun c5 => ?_) (fun c5 => ?_)
  · refine cr_nx (pc' := 18) (al' := [some (.ref 2), some (.int t), some (.int w), none]) (st' := [.int (-1)]) d_151_17 (fun _ => rfl) ?_
    exact cr_ri d_151_18 cx_151 rfl ⟨rfl, hW.mo⟩
  · exact absurd c5 hh
theorem r_parts_n {g : Nat → Int32} {A : Nat → Nat → Int32} {n : Nat} {W : WS} (hW : WR n g A W) (hO : CoOk (wK W)) {t : Int32} (hh : ¬ hasP (wK W) t) {w : Int32} : RR 80 249 0 [some (.ref 146), some (.int t), some (.int w), none, none] [] g A (fun r g' A' => r = some (.int (-1)) ∧ WR (n + 1) g' A' W) := by
  refine rr_nx (pc' := 1) (al' := [some (.ref 146), some (.int t), some (.int w), none, none]) (st' := [.ref 146]) d_249_0 (fun _ => rfl) ?_
  refine rr_nx (pc' := 2) (al' := [some (.ref 146), some (.int t), some (.int w), none, none]) (st' := [.int t, .ref 146]) d_249_1 (fun _ => rfl) ?_
  refine rr_pv (as := [.int t]) (al0 := [some (.ref 146), some (.int t)]) (r := []) d_249_2 mo_249 ml_124 mz_184 rfl rfl rfl (Nat.le_of_ble_eq_true rfl) (s_isTable t) ?_
  show RR _ _ 5 [some (.ref 146), some (.int t), some (.int w), none, none] [.int (bI (isT A t))] g A _
  refine rr_beq (t := 17) d_249_5 (by decide) (fun c5 => ?_) (fun c5 => ?_)
  · refine rr_nx (pc' := 18) (al' := [some (.ref 146), some (.int t), some (.int w), none, none]) (st' := [.int (-1)]) d_249_17 (fun _ => rfl) ?_
    exact rr_ri d_249_18 mr_249 rfl ⟨rfl, hW.mo⟩
  · exact absurd c5 (fun e_ => hh ((has_r hW hO).mp e_))
theorem T_parts {S : CS} {G : Nat → Nat → Value} {B : Nat → Nat → Int32} {J : Nat → Nat → Int64} {R : Nat → Nat → Option Nat} {g : Nat → Int32} {A : Nat → Nat → Int32} {n : Nat} {W : WS} (hC : WC n S G B R W) (hR : WR n g A W) (hn : n ≤ 10000) {t : Int32} {w : Int32} : Tie n 151 249 [some (.ref 2), some (.int t), some (.int w), none] [some (.ref 146), some (.int t), some (.int w), none, none] S G B J R g A W := by
  have hO := hC.2.2.2.1
  by_cases hh : hasP (wK W) t
  · obtain ⟨j, hj, e_, h1⟩ := has_n hh
    subst e_
    obtain ⟨⟨m, c⟩, htb⟩ : ∃ tb, tbK (wK W) j = tb := ⟨_, rfl⟩
    rw [htb] at h1
    by_cases hw : inP w 2
    · obtain ⟨k, hk, e_⟩ := in_n hw
      subst e_
      have hk2 : k = 0 ∨ k = 1 := by omega
      rcases hk2 with rfl | rfl
      · exact ⟨_, W, p_parts0 hC hj htb h1, r_parts0 hR hO hj htb h1⟩
      · by_cases hu : unV 0 m c = -1
        · exact ⟨_, W, p_partsU hC hj htb h1 hu, r_partsU hR hO hj htb h1 hu⟩
        · exact ⟨_, W, p_parts1 hC hj htb h1 hu, r_parts1 hR hO hj htb h1 hu⟩
    · exact ⟨_, W, p_partsX hC hj htb h1 hw, r_partsX hR hO hj htb h1 hw⟩
  · exact ⟨_, W, p_parts_n hC hh, r_parts_n hR hO hh⟩
