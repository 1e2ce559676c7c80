/-! Calls: drawn; printed by wip/whole/gen_c35.py. -/
theorem p_drawn_y {S : CS} {G : Nat → Nat → Value} {B : Nat → Nat → Int32} {J : Nat → Nat → Int64} {R : Nat → Nat → Option Nat} {n : Nat} {W : WS} (hW : WC n S G B R W) {p q : Nat} (hp : p < (wW W).1) (hq : q < (wW W).1) (hw6 : TbOk (wW W)) : CR 80 172 0 [some (.ref 2), some (.int (nI p)), some (.int (nI q))] [] S G B J R (fun r__ S' G' B' J' R' => r__ = some (.int (nI ((wW W).2 ((wW W).1 * p + q)))) ∧ WC (n + 1) S' G' B' R' W) := by
  have hS := hW.1.1
  have hF := hW.2.1
  have hO := hW.2.2.2.1
  obtain ⟨ta, ka, la, hH, hLk, hl2, hs3, hbd⟩ := hW.2.2.1
  have hn8 : G 88 0 = .int (nI (wW W).1) := hW.2.2.2.2.2.2.2.2.2.1.1.1
  have hc8 : TabC B 88 (wW W).1 (wW W).2 := hW.2.2.2.2.2.2.2.2.2.1.1.c hW.2.2.2.2.2.2.2.2.2.1.2
  have hl8 := hW.2.2.2.2.2.2.2.2.2.1.2.2
  have hm8 := hW.2.2.2.2.2.2.2.2.2.1.2.1
  refine cr_nx (pc' := 1) (al' := [some (.ref 2), some (.int (nI p)), some (.int (nI q))]) (st' := [.ref 2]) d_172_0 (fun _ => rfl) ?_
  refine cr_gf (v := .ref 88) d_172_1 cw_172 cf_11_42 (hS.i (a := 2) (by decide) (by decide)) (hS.s (a := 2) (by decide) (by decide) rfl) (by decide) (fx_2_7 hF) ?_
  refine cr_nx (pc' := 5) (al' := [some (.ref 2), some (.int (nI p)), some (.int (nI q))]) (st' := [.int (nI p), .ref 88]) d_172_4 (fun _ => rfl) ?_
  refine cr_pv (b := 88) (as := [.int (nI p)]) (al0 := [some (.ref 88), some (.int (nI p))]) (r := []) d_172_5 cw_172 cm_11_148 cz_92 rfl rfl (tb_88 hS hF).1 (by rw [cw_92]; exact (tb_88 hS hF).2.2.1) (by rw [cw_92]; decide) rfl (Nat.le_of_ble_eq_true rfl) (k_hasElement (tb_88 hS hF) hn8 (nI p)) ?_
  show CR _ _ 8 [some (.ref 2), some (.int (nI p)), some (.int (nI q))] [.int (bI (0 ≤ (nI p) ∧ (nI p) < nI ((wW W).1)))] S G B J R _
  refine cr_beq (t := 34) d_172_8 (by decide) (fun c8 => ?_) (fun c8 => ?_)
  · exact absurd ((el_i (by omega)).mpr ((in_j (by omega)).mpr hp)) c8
  · refine cr_nx (pc' := 12) (al' := [some (.ref 2), some (.int (nI p)), some (.int (nI q))]) (st' := [.ref 2]) d_172_11 (fun _ => rfl) ?_
    refine cr_gf (v := .ref 88) d_172_12 cw_172 cf_11_42 (hS.i (a := 2) (by decide) (by decide)) (hS.s (a := 2) (by decide) (by decide) rfl) (by decide) (fx_2_7 hF) ?_
    refine cr_nx (pc' := 16) (al' := [some (.ref 2), some (.int (nI p)), some (.int (nI q))]) (st' := [.int (nI q), .ref 88]) d_172_15 (fun _ => rfl) ?_
    refine cr_pv (b := 88) (as := [.int (nI q)]) (al0 := [some (.ref 88), some (.int (nI q))]) (r := []) d_172_16 cw_172 cm_11_148 cz_92 rfl rfl (tb_88 hS hF).1 (by rw [cw_92]; exact (tb_88 hS hF).2.2.1) (by rw [cw_92]; decide) rfl (Nat.le_of_ble_eq_true rfl) (k_hasElement (tb_88 hS hF) hn8 (nI q)) ?_
    show CR _ _ 19 [some (.ref 2), some (.int (nI p)), some (.int (nI q))] [.int (bI (0 ≤ (nI q) ∧ (nI q) < nI ((wW W).1)))] S G B J R _
    refine cr_beq (t := 34) d_172_19 (by decide) (fun c19 => ?_) (fun c19 => ?_)
    · exact absurd ((el_i (by omega)).mpr ((in_j (by omega)).mpr hq)) c19
    · refine cr_nx (pc' := 23) (al' := [some (.ref 2), some (.int (nI p)), some (.int (nI q))]) (st' := [.ref 2]) d_172_22 (fun _ => rfl) ?_
      refine cr_gf (v := .ref 88) d_172_23 cw_172 cf_11_42 (hS.i (a := 2) (by decide) (by decide)) (hS.s (a := 2) (by decide) (by decide) rfl) (by decide) (fx_2_7 hF) ?_
      refine cr_nx (pc' := 27) (al' := [some (.ref 2), some (.int (nI p)), some (.int (nI q))]) (st' := [.int (nI p), .ref 88]) d_172_26 (fun _ => rfl) ?_
      refine cr_nx (pc' := 28) (al' := [some (.ref 2), some (.int (nI p)), some (.int (nI q))]) (st' := [.int (nI q), .int (nI p), .ref 88]) d_172_27 (fun _ => rfl) ?_
      refine cr_pv (b := 88) (as := [.int (nI p), .int (nI q)]) (al0 := [some (.ref 88), some (.int (nI p)), some (.int (nI q))]) (r := []) d_172_28 cw_172 cm_11_151 cz_91 rfl rfl (tb_88 hS hF).1 (by rw [cw_91]; exact (tb_88 hS hF).2.2.1) (by rw [cw_91]; decide) rfl (Nat.le_of_ble_eq_true rfl) (k_times (tb_88 hS hF) hn8 hc8 (by omega) (by omega)) ?_
      show CR _ _ 31 [some (.ref 2), some (.int (nI p)), some (.int (nI q))] [.int (nI ((wW W).2 ((wW W).1 * p + q)))] S G B J R _
      have b28 : (wW W).2 ((wW W).1 * p + q) < (wW W).1 := (hc8.2 _ (cu_lt (by omega) (by omega))).2
      refine cr_nx (pc' := 35) (al' := [some (.ref 2), some (.int (nI p)), some (.int (nI q))]) (st' := [.int (nI ((wW W).2 ((wW W).1 * p + q)))]) d_172_31 (fun _ => rfl) ?_
      exact cr_ri d_172_35 cx_172 rfl ⟨rfl, hW.mo⟩
theorem p_drawn_n {S : CS} {G : Nat → Nat → Value} {B : Nat → Nat → Int32} {J : Nat → Nat → Int64} {R : Nat → Nat → Option Nat} {n : Nat} {W : WS} (hW : WC n S G B R W) {x z : Int32} (hx : ¬ (inP x (wW W).1 ∧ inP z (wW W).1)) (hw6 : TbOk (wW W)) : CR 80 172 0 [some (.ref 2), some (.int x), some (.int z)] [] S G B J R (fun r__ S' G' B' J' R' => r__ = some (.int (-1)) ∧ WC (n + 1) S' G' B' R' W) := by
  have hS := hW.1.1
  have hF := hW.2.1
  have hO := hW.2.2.2.1
  obtain ⟨ta, ka, la, hH, hLk, hl2, hs3, hbd⟩ := hW.2.2.1
  have hn8 : G 88 0 = .int (nI (wW W).1) := hW.2.2.2.2.2.2.2.2.2.1.1.1
  have hc8 : TabC B 88 (wW W).1 (wW W).2 := hW.2.2.2.2.2.2.2.2.2.1.1.c hW.2.2.2.2.2.2.2.2.2.1.2
  have hl8 := hW.2.2.2.2.2.2.2.2.2.1.2.2
  have hm8 := hW.2.2.2.2.2.2.2.2.2.1.2.1
  refine cr_nx (pc' := 1) (al' := [some (.ref 2), some (.int x), some (.int z)]) (st' := [.ref 2]) d_172_0 (fun _ => rfl) ?_
  refine cr_gf (v := .ref 88) d_172_1 cw_172 cf_11_42 (hS.i (a := 2) (by decide) (by decide)) (hS.s (a := 2) (by decide) (by decide) rfl) (by decide) (fx_2_7 hF) ?_
  refine cr_nx (pc' := 5) (al' := [some (.ref 2), some (.int x), some (.int z)]) (st' := [.int x, .ref 88]) d_172_4 (fun _ => rfl) ?_
  refine cr_pv (b := 88) (as := [.int x]) (al0 := [some (.ref 88), some (.int x)]) (r := []) d_172_5 cw_172 cm_11_148 cz_92 rfl rfl (tb_88 hS hF).1 (by rw [cw_92]; exact (tb_88 hS hF).2.2.1) (by rw [cw_92]; decide) rfl (Nat.le_of_ble_eq_true rfl) (k_hasElement (tb_88 hS hF) hn8 x) ?_
  show CR _ _ 8 [some (.ref 2), some (.int x), some (.int z)] [.int (bI (0 ≤ x ∧ x < nI ((wW W).1)))] S G B J R _
  refine cr_beq (t := 34) d_172_8 (by decide) (fun c8 => ?_) (fun c8 => ?_)
  · refine cr_nx (pc' := 35) (al' := [some (.ref 2), some (.int x), some (.int z)]) (st' := [.int (-1)]) d_172_34 (fun _ => rfl) ?_
    exact cr_ri d_172_35 cx_172 rfl ⟨rfl, hW.mo⟩
  · refine cr_nx (pc' := 12) (al' := [some (.ref 2), some (.int x), some (.int z)]) (st' := [.ref 2]) d_172_11 (fun _ => rfl) ?_
    refine cr_gf (v := .ref 88) d_172_12 cw_172 cf_11_42 (hS.i (a := 2) (by decide) (by decide)) (hS.s (a := 2) (by decide) (by decide) rfl) (by decide) (fx_2_7 hF) ?_
    refine cr_nx (pc' := 16) (al' := [some (.ref 2), some (.int x), some (.int z)]) (st' := [.int z, .ref 88]) d_172_15 (fun _ => rfl) ?_
    refine cr_pv (b := 88) (as := [.int z]) (al0 := [some (.ref 88), some (.int z)]) (r := []) d_172_16 cw_172 cm_11_148 cz_92 rfl rfl (tb_88 hS hF).1 (by rw [cw_92]; exact (tb_88 hS hF).2.2.1) (by rw [cw_92]; decide) rfl (Nat.le_of_ble_eq_true rfl) (k_hasElement (tb_88 hS hF) hn8 z) ?_
    show CR _ _ 19 [some (.ref 2), some (.int x), some (.int z)] [.int (bI (0 ≤ z ∧ z < nI ((wW W).1)))] S G B J R _
    refine cr_beq (t := 34) d_172_19 (by decide) (fun c19 => ?_) (fun c19 => ?_)
    · refine cr_nx (pc' := 35) (al' := [some (.ref 2), some (.int x), some (.int z)]) (st' := [.int (-1)]) d_172_34 (fun _ => rfl) ?_
      exact cr_ri d_172_35 cx_172 rfl ⟨rfl, hW.mo⟩
    · exact absurd ⟨(el_i (by omega)).mp c8, (el_i (by omega)).mp c19⟩ hx
theorem r_drawn_y {g : Nat → Int32} {A : Nat → Nat → Int32} {n : Nat} {W : WS} (hW : WR n g A W) (hO : CoOk (wK W)) {p q : Nat} (hp : p < (wW W).1) (hq : q < (wW W).1) (hw6 : TbOk (wW W)) : RR 80 287 0 [some (.ref 146), some (.int (nI p)), some (.int (nI q))] [] g A (fun r__ g' A' => r__ = some (.int (nI ((wW W).2 ((wW W).1 * p + q)))) ∧ WR (n + 1) g' A' W) := by
  have hm8 := hw6.1
  have h36 := Nat.mul_le_mul hm8 hm8
  have hlt : (wW W).1 * p + q < (wW W).1 * (wW W).1 := cu_lt hp hq
  refine rr_nx (pc' := 1) (al' := [some (.ref 146), some (.int (nI p)), some (.int (nI q))]) (st' := [.int (nI p)]) d_287_0 (fun _ => rfl) ?_
  refine rn_ic (v := 0) d_287_1 (by decide) ?_
  refine rr_nx (pc' := 3) (al' := [some (.ref 146), some (.int (nI p)), some (.int (nI q))]) (st' := [.ref 146, .int (nI 0), .int (nI p)]) d_287_2 (fun _ => rfl) ?_
  refine rr_gn d_287_3 mo_287 fl_398 rfl hW.2.2.2.2.2.2.2.1.1 ?_
  refine rn_ic (v := 1) d_287_6 (by decide) ?_
  refine rr_nx (pc' := 8) (al' := [some (.ref 146), some (.int (nI p)), some (.int (nI q))]) (st' := [.int ((nI ((wW W).1)) - (nI 1)), .int (nI 0), .int (nI p)]) d_287_7 (fun _ => rfl) ?_
  refine rr_ps (as := [.int (nI p), .int (nI 0), .int ((nI ((wW W).1)) - (nI 1))]) (al0 := [some (.int (nI p)), some (.int (nI 0)), some (.int ((nI ((wW W).1)) - (nI 1)))]) (r := []) d_287_8 mo_287 ml_106 mz_179 rfl rfl rfl (Nat.le_of_ble_eq_true rfl) (s_lies (nI p) (nI 0) ((nI ((wW W).1)) - (nI 1))) ?_
  show RR _ _ 11 [some (.ref 146), some (.int (nI p)), some (.int (nI q))] [.int (bI ((nI 0) ≤ (nI p) ∧ (nI p) ≤ ((nI ((wW W).1)) - (nI 1))))] g A _
  refine rr_beq (t := 44) d_287_11 (by decide) (fun c11 => ?_) (fun c11 => ?_)
  · exact absurd ((on_r hm8).mpr ((in_j (by omega)).mpr hp)) c11
  · refine rr_nx (pc' := 15) (al' := [some (.ref 146), some (.int (nI p)), some (.int (nI q))]) (st' := [.int (nI q)]) d_287_14 (fun _ => rfl) ?_
    refine rn_ic (v := 0) d_287_15 (by decide) ?_
    refine rr_nx (pc' := 17) (al' := [some (.ref 146), some (.int (nI p)), some (.int (nI q))]) (st' := [.ref 146, .int (nI 0), .int (nI q)]) d_287_16 (fun _ => rfl) ?_
    refine rr_gn d_287_17 mo_287 fl_398 rfl hW.2.2.2.2.2.2.2.1.1 ?_
    refine rn_ic (v := 1) d_287_20 (by decide) ?_
    refine rr_nx (pc' := 22) (al' := [some (.ref 146), some (.int (nI p)), some (.int (nI q))]) (st' := [.int ((nI ((wW W).1)) - (nI 1)), .int (nI 0), .int (nI q)]) d_287_21 (fun _ => rfl) ?_
    refine rr_ps (as := [.int (nI q), .int (nI 0), .int ((nI ((wW W).1)) - (nI 1))]) (al0 := [some (.int (nI q)), some (.int (nI 0)), some (.int ((nI ((wW W).1)) - (nI 1)))]) (r := []) d_287_22 mo_287 ml_106 mz_179 rfl rfl rfl (Nat.le_of_ble_eq_true rfl) (s_lies (nI q) (nI 0) ((nI ((wW W).1)) - (nI 1))) ?_
    show RR _ _ 25 [some (.ref 146), some (.int (nI p)), some (.int (nI q))] [.int (bI ((nI 0) ≤ (nI q) ∧ (nI q) ≤ ((nI ((wW W).1)) - (nI 1))))] g A _
    refine rr_beq (t := 44) d_287_25 (by decide) (fun c25 => ?_) (fun c25 => ?_)
    · exact absurd ((on_r hm8).mpr ((in_j (by omega)).mpr hq)) c25
    · refine rr_nx (pc' := 29) (al' := [some (.ref 146), some (.int (nI p)), some (.int (nI q))]) (st' := [.ref 146]) d_287_28 (fun _ => rfl) ?_
      refine rr_gf (v := .ref (147 + 26)) d_287_29 mo_287 fl_97 rfl ?_
      refine rr_nx (pc' := 33) (al' := [some (.ref 146), some (.int (nI p)), some (.int (nI q))]) (st' := [.ref 146, .ref (147 + 26)]) d_287_32 (fun _ => rfl) ?_
      refine rr_gn d_287_33 mo_287 fl_398 rfl hW.2.2.2.2.2.2.2.1.1 ?_
      refine rr_nx (pc' := 37) (al' := [some (.ref 146), some (.int (nI p)), some (.int (nI q))]) (st' := [.int (nI p), .int (nI ((wW W).1)), .ref (147 + 26)]) d_287_36 (fun _ => rfl) ?_
      refine rn_mul d_287_37  ?_
      refine rr_nx (pc' := 39) (al' := [some (.ref 146), some (.int (nI p)), some (.int (nI q))]) (st' := [.int (nI q), .int (nI (((wW W).1) * p)), .ref (147 + 26)]) d_287_38 (fun _ => rfl) ?_
      refine rn_add d_287_39  ?_
      refine rr_ia (j := 26) (v := (nI ((wW W).2 ((wW W).1 * p + q)))) d_287_40 (by decide) rfl (by decide) (show (((wW W).1) * p) + q < 36 by omega) (hW.2.2.2.2.2.2.2.1.2 _ hlt) ?_
      refine rr_nx (pc' := 45) (al' := [some (.ref 146), some (.int (nI p)), some (.int (nI q))]) (st' := [.int (nI ((wW W).2 ((wW W).1 * p + q)))]) d_287_41 (fun _ => rfl) ?_
      exact rr_ri d_287_45 mr_287 rfl ⟨rfl, hW.mo⟩
theorem r_drawn_n {g : Nat → Int32} {A : Nat → Nat → Int32} {n : Nat} {W : WS} (hW : WR n g A W) (hO : CoOk (wK W)) {x z : Int32} (hx : ¬ (inP x (wW W).1 ∧ inP z (wW W).1)) (hw6 : TbOk (wW W)) : RR 80 287 0 [some (.ref 146), some (.int x), some (.int z)] [] g A (fun r__ g' A' => r__ = some (.int (-1)) ∧ WR (n + 1) g' A' W) := by
  have hm8 := hw6.1
  refine rr_nx (pc' := 1) (al' := [some (.ref 146), some (.int x), some (.int z)]) (st' := [.int x]) d_287_0 (fun _ => rfl) ?_
  refine rn_ic (v := 0) d_287_1 (by decide) ?_
  refine rr_nx (pc' := 3) (al' := [some (.ref 146), some (.int x), some (.int z)]) (st' := [.ref 146, .int (nI 0), .int x]) d_287_2 (fun _ => rfl) ?_
  refine rr_gn d_287_3 mo_287 fl_398 rfl hW.2.2.2.2.2.2.2.1.1 ?_
  refine rn_ic (v := 1) d_287_6 (by decide) ?_
  refine rr_nx (pc' := 8) (al' := [some (.ref 146), some (.int x), some (.int z)]) (st' := [.int ((nI ((wW W).1)) - (nI 1)), .int (nI 0), .int x]) d_287_7 (fun _ => rfl) ?_
  refine rr_ps (as := [.int x, .int (nI 0), .int ((nI ((wW W).1)) - (nI 1))]) (al0 := [some (.int x), some (.int (nI 0)), some (.int ((nI ((wW W).1)) - (nI 1)))]) (r := []) d_287_8 mo_287 ml_106 mz_179 rfl rfl rfl (Nat.le_of_ble_eq_true rfl) (s_lies x (nI 0) ((nI ((wW W).1)) - (nI 1))) ?_
  show RR _ _ 11 [some (.ref 146), some (.int x), some (.int z)] [.int (bI ((nI 0) ≤ x ∧ x ≤ ((nI ((wW W).1)) - (nI 1))))] g A _
  refine rr_beq (t := 44) d_287_11 (by decide) (fun c11 => ?_) (fun c11 => ?_)
  · refine rr_nx (pc' := 45) (al' := [some (.ref 146), some (.int x), some (.int z)]) (st' := [.int (-1)]) d_287_44 (fun _ => rfl) ?_
    exact rr_ri d_287_45 mr_287 rfl ⟨rfl, hW.mo⟩
  · refine rr_nx (pc' := 15) (al' := [some (.ref 146), some (.int x), some (.int z)]) (st' := [.int z]) d_287_14 (fun _ => rfl) ?_
    refine rn_ic (v := 0) d_287_15 (by decide) ?_
    refine rr_nx (pc' := 17) (al' := [some (.ref 146), some (.int x), some (.int z)]) (st' := [.ref 146, .int (nI 0), .int z]) d_287_16 (fun _ => rfl) ?_
    refine rr_gn d_287_17 mo_287 fl_398 rfl hW.2.2.2.2.2.2.2.1.1 ?_
    refine rn_ic (v := 1) d_287_20 (by decide) ?_
    refine rr_nx (pc' := 22) (al' := [some (.ref 146), some (.int x), some (.int z)]) (st' := [.int ((nI ((wW W).1)) - (nI 1)), .int (nI 0), .int z]) d_287_21 (fun _ => rfl) ?_
    refine rr_ps (as := [.int z, .int (nI 0), .int ((nI ((wW W).1)) - (nI 1))]) (al0 := [some (.int z), some (.int (nI 0)), some (.int ((nI ((wW W).1)) - (nI 1)))]) (r := []) d_287_22 mo_287 ml_106 mz_179 rfl rfl rfl (Nat.le_of_ble_eq_true rfl) (s_lies z (nI 0) ((nI ((wW W).1)) - (nI 1))) ?_
    show RR _ _ 25 [some (.ref 146), some (.int x), some (.int z)] [.int (bI ((nI 0) ≤ z ∧ z ≤ ((nI ((wW W).1)) - (nI 1))))] g A _
    refine rr_beq (t := 44) d_287_25 (by decide) (fun c25 => ?_) (fun c25 => ?_)
    · refine rr_nx (pc' := 45) (al' := [some (.ref 146), some (.int x), some (.int z)]) (st' := [.int (-1)]) d_287_44 (fun _ => rfl) ?_
      exact rr_ri d_287_45 mr_287 rfl ⟨rfl, hW.mo⟩
    · exact absurd ⟨(on_r hm8).mp c11, (on_r hm8).mp c25⟩ hx
theorem T_drawn {S : CS} {G : Nat → Nat → Value} {B : Nat → Nat → Int32} {J : Nat → Nat → Int64} {R : Nat → Nat → Option Nat} {g : Nat → Int32} {A : Nat → Nat → Int32} {n : Nat} {W : WS} (hC : WC n S G B R W) (hR : WR n g A W) (hn : n ≤ 10000) {x : Int32} {z : Int32} : Tie n 172 287 [some (.ref 2), some (.int x), some (.int z)] [some (.ref 146), some (.int x), some (.int z)] S G B J R g A W := by
  have hO := hC.2.2.2.1
  have hw6 := hC.2.2.2.2.2.2.2.2.2.1.2
  by_cases hx : inP x (wW W).1 ∧ inP z (wW W).1
  · obtain ⟨p, hp, e_⟩ := in_n hx.1
    subst e_
    obtain ⟨q, hq, e_⟩ := in_n hx.2
    subst e_
    exact ⟨_, W, p_drawn_y hC hp hq hw6, r_drawn_y hR hO hp hq hw6⟩
  · exact ⟨_, W, p_drawn_n hC hx hw6, r_drawn_n hR hO hx hw6⟩
