/-! Calls: fillings of the board; printed by wip/whole/gen_c34.py. -/
theorem hdM {l : List (Nat → Nat)} {h : Nat → Nat} (e : l.head? = some h) : h ∈ l ∧ l.getD 0 (fun _ => 0) = h ∧ 1 ≤ l.length := by
  cases l with
  | nil => cases e
  | cons a t =>
    cases e
    exact ⟨List.mem_cons.mpr (Or.inl rfl), rfl, by rw [List.length_cons]; omega⟩
theorem hd_no {l : List (Nat → Nat)} (e : l.head? = none) : l.length = 0 := by
  cases l with
  | nil => rfl
  | cons a t => cases e
theorem p_filled_y {S : CS} {G : Nat → Nat → Value} {B : Nat → Nat → Int32} {J : Nat → Nat → Int64} {R : Nat → Nat → Option Nat} {n : Nat} {W : WS} (hW : WC n S G B R W) (hz : 0 < kS (wK W)) : CR 80 167 0 [some (.ref 2)] [] S G B J R (fun r__ S' G' B' J' R' => r__ = some (.int (nI (min 20000 (nB (kS (wK W)) (kB (wK W)))))) ∧ WC (n + 1) S' G' B' R' W) := by
  have hS := hW.1.1
  have hF := hW.2.1
  have hO := hW.2.2.2.1
  obtain ⟨ta, ka, la, hH, hLk, hl2, hs3, hbd⟩ := hW.2.2.1
  have hS6 := hO.2.2.2.1
  have hTT : ∀ q u, q < kS (wK W) * kS (wK W) → kB (wK W) q = some u → u < kS (wK W) := fun q u _ e => (hO.2.2.2.2 q u e).2
  refine cr_nx (pc' := 1) (al' := [some (.ref 2)]) (st' := [.ref 2]) d_167_0 (fun _ => rfl) ?_
  refine cr_gf (v := .ref 3) d_167_1 cw_167 cf_11_10 (hS.i (a := 2) (by decide) (by decide)) (hS.s (a := 2) (by decide) (by decide) rfl) (by decide) (fx_2_0 hF) ?_
  refine cr_gf (v := .int (nI (kS (wK W)))) d_167_4 cw_167 cf_11_342 (hS.i (a := 3) (by decide) (by decide)) (hS.s (a := 3) (by decide) (by decide) rfl) (by decide) hs3 ?_
  refine cn_ine (t := 14) d_167_7 (by decide) (by first | omega | assumption | exact cu_36 (by omega) (cu_lt (by omega) (by omega))) (fun c7 => ?_) (fun c7 => ?_)
  · refine cr_nx (pc' := 15) (al' := [some (.ref 2)]) (st' := [.ref 2]) d_167_14 (fun _ => rfl) ?_
    refine cr_gf (v := .ref 107) d_167_15 cw_167 cf_11_62 (hS.i (a := 2) (by decide) (by decide)) (hS.s (a := 2) (by decide) (by decide) rfl) (by decide) (fx_2_10 hF) ?_
    refine cr_nx (pc' := 19) (al' := [some (.ref 2)]) (st' := [.ref 2, .ref 107]) d_167_18 (fun _ => rfl) ?_
    refine cr_gf (v := .ref 3) d_167_19 cw_167 cf_11_10 (hS.i (a := 2) (by decide) (by decide)) (hS.s (a := 2) (by decide) (by decide) rfl) (by decide) (fx_2_0 hF) ?_
    refine cr_gf (v := .int (nI (kS (wK W)))) d_167_22 cw_167 cf_11_342 (hS.i (a := 3) (by decide) (by decide)) (hS.s (a := 3) (by decide) (by decide) rfl) (by decide) hs3 ?_
    refine cr_nx (pc' := 26) (al' := [some (.ref 2)]) (st' := [.ref 2, .int (nI (kS (wK W))), .ref 107]) d_167_25 (fun _ => rfl) ?_
    refine cr_gf (v := .ref 3) d_167_26 cw_167 cf_11_10 (hS.i (a := 2) (by decide) (by decide)) (hS.s (a := 2) (by decide) (by decide) rfl) (by decide) (fx_2_0 hF) ?_
    refine cr_gf (v := .ref 6) d_167_29 cw_167 cf_11_345 (hS.i (a := 3) (by decide) (by decide)) (hS.s (a := 3) (by decide) (by decide) rfl) (by decide) (fx_3_4 hF) ?_
    refine cn_sp (v := 20000) d_167_32 (by decide) ?_
    refine cr_cv (b := 107) (as := [.int (nI (kS (wK W))), .ref 6, .int (nI 20000)]) (al0 := [some (.ref 107), some (.int (nI (kS (wK W)))), some (.ref 6), some (.int (nI 20000))]) (r := []) d_167_35 cw_167 cm_11_357 cz_17 rfl rfl (hS.i (a := 107) (by decide) (by decide)) (by rw [cw_17]; exact (hS.s (a := 107) (by decide) (by decide) rfl)) (by rw [cw_17]; decide) rfl (cr_wk (Nat.le_of_ble_eq_true rfl) (k_tally hS hF hS6 hz ⟨hS.i (a := 6) (by decide) (by decide), hS.s (a := 6) (by decide) (by decide) rfl, by decide⟩ hTT hbd (by decide) (by decide))) (fun v1 S1 G1 B1 J1 R1 h1x => ?_)
    obtain ⟨q0_, ⟨q1_, q2_, q3_⟩, hg1, hF1, hb1⟩ := h1x
    obtain rfl := q0_
    obtain rfl := q1_.symm
    obtain rfl := q2_.symm
    obtain rfl := q3_.symm
    show CR _ _ 38 [some (.ref 2)] [.int (nI (min 20000 (nB (kS (wK W)) (kB (wK W)))))] S G1 B1 J R _
    exact cr_ri d_167_38 cx_167 rfl ⟨rfl, (hW.q hF1 (hg1.mo (by decide)) (hb1.mo (by decide))).mo⟩
  · omega
theorem r_filled_y {g : Nat → Int32} {A : Nat → Nat → Int32} {n : Nat} {W : WS} (hW : WR n g A W) (hO : CoOk (wK W)) (hz : 0 < kS (wK W)) : RR 80 281 0 [some (.ref 146)] [] g A (fun r__ g' A' => r__ = some (.int (nI (min 20000 (nB (kS (wK W)) (kB (wK W)))))) ∧ WR (n + 1) g' A' W) := by
  have hS6 := hO.2.2.2.1
  have hTT : ∀ q u, kB (wK W) q = some u → u < 6 := fun q u e => by have := (hO.2.2.2.2 q u e).2; omega
  have hbB : A 1 222 = nI (kS (wK W)) ∧ ∀ q, q < kS (wK W) * kS (wK W) → A 1 (223 + q) = oI (kB (wK W) q) := ⟨hW.1.2.2.2.1, hW.1.2.2.2.2⟩
  have h48 := hW.2.2.2.2.2.2.2.2.1
  refine rr_nx (pc' := 1) (al' := [some (.ref 146)]) (st' := [.ref 146]) d_281_0 (fun _ => rfl) ?_
  refine rr_gf (v := .ref (147 + 1)) d_281_1 mo_281 fl_13 rfl ?_
  refine rn_sp (v := 222) d_281_4 (by decide) ?_
  refine rr_ia (j := 1) (v := (nI (kS (wK W)))) d_281_7 (by decide) rfl (by decide) (show 222 < 5720 by first | omega | assumption | exact cu_36 (by omega) (cu_lt (by omega) (by omega))) hW.1.2.2.2.1 ?_
  refine rn_ine (t := 15) d_281_8 (by decide) (by first | omega | assumption | exact cu_36 (by omega) (cu_lt (by omega) (by omega))) (fun c8 => ?_) (fun c8 => ?_)
  · refine rr_nx (pc' := 16) (al' := [some (.ref 146)]) (st' := [.ref 146]) d_281_15 (fun _ => rfl) ?_
    refine rn_sp (v := 20000) d_281_16 (by decide) ?_
    refine rr_cv (as := [.int (nI 20000)]) (al0 := [some (.ref 146), some (.int (nI 20000)), none]) (r := []) d_281_19 mo_281 ml_383 mz_282 rfl rfl rfl (rr_wk (Nat.le_of_ble_eq_true rfl) (s_fillings (s := some 20000) hS6 hz hTT hbB h48 ⟨by decide, by decide⟩)) (fun v1 g1 A1 h1x => ?_)
    obtain ⟨q0_, h8_, hg1, ha1, hx1⟩ := h1x
    rw [show capN (some 20000) (flA (kS (wK W)) (kB (wK W))).length = min 20000 (nB (kS (wK W)) (kB (wK W))) from congrArg (min 20000) flA_n] at q0_
    obtain rfl := q0_
    show RR _ _ 22 [some (.ref 146)] [.int (nI (min 20000 (nB (kS (wK W)) (kB (wK W)))))] g1 A1 _
    exact rr_ri d_281_22 mr_281 rfl ⟨rfl, (hW.q hg1 ha1).mo⟩
  · omega
theorem p_filled_n {S : CS} {G : Nat → Nat → Value} {B : Nat → Nat → Int32} {J : Nat → Nat → Int64} {R : Nat → Nat → Option Nat} {n : Nat} {W : WS} (hW : WC n S G B R W) (hz : kS (wK W) = 0) : CR 80 167 0 [some (.ref 2)] [] S G B J R (fun r__ S' G' B' J' R' => r__ = some (.int (-1)) ∧ WC (n + 1) S' G' B' R' W) := by
  have hS := hW.1.1
  have hF := hW.2.1
  have hO := hW.2.2.2.1
  obtain ⟨ta, ka, la, hH, hLk, hl2, hs3, hbd⟩ := hW.2.2.1
  refine cr_nx (pc' := 1) (al' := [some (.ref 2)]) (st' := [.ref 2]) d_167_0 (fun _ => rfl) ?_
  refine cr_gf (v := .ref 3) d_167_1 cw_167 cf_11_10 (hS.i (a := 2) (by decide) (by decide)) (hS.s (a := 2) (by decide) (by decide) rfl) (by decide) (fx_2_0 hF) ?_
  refine cr_gf (v := .int (nI (kS (wK W)))) d_167_4 cw_167 cf_11_342 (hS.i (a := 3) (by decide) (by decide)) (hS.s (a := 3) (by decide) (by decide) rfl) (by decide) hs3 ?_
  refine cn_ine (t := 14) d_167_7 (by decide) (by first | omega | assumption | exact cu_36 (by omega) (cu_lt (by omega) (by omega))) (fun c7 => ?_) (fun c7 => ?_)
  · omega
  · refine cr_nx (pc' := 11) (al' := [some (.ref 2)]) (st' := [.int (-1)]) d_167_10 (fun _ => rfl) ?_
    refine cr_nx (pc' := 38) (al' := [some (.ref 2)]) (st' := [.int (-1)]) d_167_11 (fun _ => rfl) ?_
    exact cr_ri d_167_38 cx_167 rfl ⟨rfl, hW.mo⟩
theorem r_filled_n {g : Nat → Int32} {A : Nat → Nat → Int32} {n : Nat} {W : WS} (hW : WR n g A W) (hO : CoOk (wK W)) (hz : kS (wK W) = 0) : RR 80 281 0 [some (.ref 146)] [] g A (fun r__ g' A' => r__ = some (.int (-1)) ∧ WR (n + 1) g' A' W) := by
  refine rr_nx (pc' := 1) (al' := [some (.ref 146)]) (st' := [.ref 146]) d_281_0 (fun _ => rfl) ?_
  refine rr_gf (v := .ref (147 + 1)) d_281_1 mo_281 fl_13 rfl ?_
  refine rn_sp (v := 222) d_281_4 (by decide) ?_
  refine rr_ia (j := 1) (v := (nI (kS (wK W)))) d_281_7 (by decide) rfl (by decide) (show 222 < 5720 by first | omega | assumption | exact cu_36 (by omega) (cu_lt (by omega) (by omega))) hW.1.2.2.2.1 ?_
  refine rn_ine (t := 15) d_281_8 (by decide) (by first | omega | assumption | exact cu_36 (by omega) (cu_lt (by omega) (by omega))) (fun c8 => ?_) (fun c8 => ?_)
  · omega
  · refine rr_nx (pc' := 12) (al' := [some (.ref 146)]) (st' := [.int (-1)]) d_281_11 (fun _ => rfl) ?_
    refine rr_nx (pc' := 22) (al' := [some (.ref 146)]) (st' := [.int (-1)]) d_281_12 (fun _ => rfl) ?_
    exact rr_ri d_281_22 mr_281 rfl ⟨rfl, hW.mo⟩
theorem T_filled {S : CS} {G : Nat → Nat → Value} {B : Nat → Nat → Int32} {J : Nat → Nat → Int64} {R : Nat → Nat → Option Nat} {g : Nat → Int32} {A : Nat → Nat → Int32} {n : Nat} {W : WS} (hC : WC n S G B R W) (hR : WR n g A W) (hn : n ≤ 10000) : Tie n 167 281 [some (.ref 2)] [some (.ref 146)] S G B J R g A W := by
  have hO := hC.2.2.2.1
  by_cases hz : kS (wK W) = 0
  · exact ⟨_, W, p_filled_n hC hz, r_filled_n hR hO hz⟩
  · exact ⟨_, W, p_filled_y hC (by omega), r_filled_y hR hO (by omega)⟩
theorem p_fill_y {S : CS} {G : Nat → Nat → Value} {B : Nat → Nat → Int32} {J : Nat → Nat → Int64} {R : Nat → Nat → Option Nat} {n : Nat} {W : WS} (hW : WC n S G B R W) {k : Nat} (hk6 : k < 6) (hz : 0 < kS (wK W)) {h : Nat → Nat} (hd : (flA (kS (wK W)) (kB (wK W))).head? = some h) : CR 80 168 0 [some (.ref 2), some (.int (nI k)), none] [] S G B J R (fun r__ S' G' B' J' R' => r__ = some (.int (nI (kS (wK W)))) ∧ WC (n + 1) S' G' B' R' (chW W k (kS (wK W), h))) := by
  have hS := hW.1.1
  have hF := hW.2.1
  have hO := hW.2.2.2.1
  obtain ⟨ta, ka, la, hH, hLk, hl2, hs3, hbd⟩ := hW.2.2.1
  have hS6 := hO.2.2.2.1
  have hTT : ∀ q u, q < kS (wK W) * kS (wK W) → kB (wK W) q = some u → u < kS (wK W) := fun q u _ e => (hO.2.2.2.2 q u e).2
  refine cr_nx (pc' := 1) (al' := [some (.ref 2), some (.int (nI k)), none]) (st' := [.int (nI k)]) d_168_0 (fun _ => rfl) ?_
  refine cr_ps (as := [.int (nI k)]) (al0 := [some (.int (nI k))]) (r := []) d_168_1 cw_168 cm_11_100 (by decide) cz_118 rfl rfl rfl (Nat.le_of_ble_eq_true rfl) (k_isPlace) ?_
  show CR _ _ 4 [some (.ref 2), some (.int (nI k)), none] [.int (bI (inP (nI k) 6))] S G B J R _
  refine cr_bne (t := 13) d_168_4 (by decide) (fun c4 => ?_) (fun c4 => ?_)
  · refine cr_nx (pc' := 14) (al' := [some (.ref 2), some (.int (nI k)), none]) (st' := [.ref 2]) d_168_13 (fun _ => rfl) ?_
    refine cr_gf (v := .ref 107) d_168_14 cw_168 cf_11_62 (hS.i (a := 2) (by decide) (by decide)) (hS.s (a := 2) (by decide) (by decide) rfl) (by decide) (fx_2_10 hF) ?_
    refine cr_nx (pc' := 18) (al' := [some (.ref 2), some (.int (nI k)), none]) (st' := [.ref 2, .ref 107]) d_168_17 (fun _ => rfl) ?_
    refine cr_gf (v := .ref 86) d_168_18 cw_168 cf_11_38 (hS.i (a := 2) (by decide) (by decide)) (hS.s (a := 2) (by decide) (by decide) rfl) (by decide) (fx_2_6 hF) ?_
    refine cr_nx (pc' := 22) (al' := [some (.ref 2), some (.int (nI k)), none]) (st' := [.ref 2, .ref 86, .ref 107]) d_168_21 (fun _ => rfl) ?_
    refine cr_gf (v := .ref 3) d_168_22 cw_168 cf_11_10 (hS.i (a := 2) (by decide) (by decide)) (hS.s (a := 2) (by decide) (by decide) rfl) (by decide) (fx_2_0 hF) ?_
    refine cr_gf (v := .int (nI (kS (wK W)))) d_168_25 cw_168 cf_11_342 (hS.i (a := 3) (by decide) (by decide)) (hS.s (a := 3) (by decide) (by decide) rfl) (by decide) hs3 ?_
    refine cr_nx (pc' := 29) (al' := [some (.ref 2), some (.int (nI k)), none]) (st' := [.ref 2, .int (nI (kS (wK W))), .ref 86, .ref 107]) d_168_28 (fun _ => rfl) ?_
    refine cr_gf (v := .ref 3) d_168_29 cw_168 cf_11_10 (hS.i (a := 2) (by decide) (by decide)) (hS.s (a := 2) (by decide) (by decide) rfl) (by decide) (fx_2_0 hF) ?_
    refine cr_gf (v := .ref 6) d_168_32 cw_168 cf_11_345 (hS.i (a := 3) (by decide) (by decide)) (hS.s (a := 3) (by decide) (by decide) rfl) (by decide) (fx_3_4 hF) ?_
    refine cr_cv (b := 107) (as := [.ref 86, .int (nI (kS (wK W))), .ref 6]) (al0 := [some (.ref 107), some (.ref 86), some (.int (nI (kS (wK W)))), some (.ref 6), none]) (r := []) d_168_35 cw_168 cm_11_361 cz_21 rfl rfl (hS.i (a := 107) (by decide) (by decide)) (by rw [cw_21]; exact (hS.s (a := 107) (by decide) (by decide) rfl)) (by rw [cw_21]; decide) rfl (cr_wk (Nat.le_of_ble_eq_true rfl) (k_mkF_y hS hF hS6 hz hTT hbd hd)) (fun v1 S1 G1 B1 J1 R1 h1x => ?_)
    obtain ⟨q0_, ⟨q1_, q2_, q3_⟩, hg1, hF1, h86_, hb1, hm_⟩ := h1x
    obtain rfl := q0_
    obtain rfl := q1_.symm
    obtain rfl := q2_.symm
    obtain rfl := q3_.symm
    show CR _ _ 38 [some (.ref 2), some (.int (nI k)), none] [.int (nI 1)] S G1 B1 J R _
    refine cr_nx (pc' := 39) (al' := [some (.ref 2), some (.int (nI k)), some (.int (nI 1))]) (st' := []) d_168_38 (fun _ => rfl) ?_
    refine cr_nx (pc' := 40) (al' := [some (.ref 2), some (.int (nI k)), some (.int (nI 1))]) (st' := [.int (nI 1)]) d_168_39 (fun _ => rfl) ?_
    refine cn_ieq (t := 58) d_168_40 (by decide) (by first | omega | assumption | exact cu_36 (by omega) (cu_lt (by omega) (by omega))) (fun c40 => ?_) (fun c40 => ?_)
    · exact absurd c40 (by decide)
    · refine cr_nx (pc' := 44) (al' := [some (.ref 2), some (.int (nI k)), some (.int (nI 1))]) (st' := [.ref 2]) d_168_43 (fun _ => rfl) ?_
      refine cr_nx (pc' := 45) (al' := [some (.ref 2), some (.int (nI k)), some (.int (nI 1))]) (st' := [.int (nI k), .ref 2]) d_168_44 (fun _ => rfl) ?_
      refine cr_nx (pc' := 46) (al' := [some (.ref 2), some (.int (nI k)), some (.int (nI 1))]) (st' := [.ref 2, .int (nI k), .ref 2]) d_168_45 (fun _ => rfl) ?_
      refine cr_gf (v := .ref 86) d_168_46 cw_168 cf_11_38 (hS.i (a := 2) (by decide) (by decide)) (hS.s (a := 2) (by decide) (by decide) rfl) (by decide) (fx_2_6 hF1) ?_
      refine cr_gf (v := .int (nI (kS (wK W)))) d_168_49 cw_168 cf_11_112 (hS.i (a := 86) (by decide) (by decide)) (hS.s (a := 86) (by decide) (by decide) rfl) (by decide) h86_ ?_
      have hW1 : WC n S G1 B1 R W := (hW.q hF1 (hg1.mo (by decide)) (hb1.mo (by decide)))
      refine cr_cv (b := 2) (as := [.int (nI k), .int (nI (kS (wK W)))]) (al0 := [some (.ref 2), some (.int (nI k)), some (.int (nI (kS (wK W))))]) (r := []) d_168_52 cw_168 cm_11_115 cz_122 rfl rfl (hS.i (a := 2) (by decide) (by decide)) (by rw [cw_122]; exact (hS.s (a := 2) (by decide) (by decide) rfl)) (by rw [cw_122]; decide) rfl (cr_wk (Nat.le_of_ble_eq_true rfl) (k_change (tb := (kS (wK W), h)) hW1 hk6 ⟨hS6, (flA_m (hdM hd).1).1⟩ h86_ hm_)) (fun v2 S2 G2 B2 J2 R2 h2x => ?_)
      obtain ⟨q0_, hW2⟩ := h2x
      obtain rfl := q0_
      show CR _ _ 55 [some (.ref 2), some (.int (nI k)), some (.int (nI 1))] [.int (nI (kS (wK W)))] S2 G2 B2 J2 R2 _
      refine cr_nx (pc' := 64) (al' := [some (.ref 2), some (.int (nI k)), some (.int (nI 1))]) (st' := [.int (nI (kS (wK W)))]) d_168_55 (fun _ => rfl) ?_
      exact cr_ri d_168_64 cx_168 rfl ⟨rfl, hW2.mo⟩
  · exact absurd ((in_j (by omega)).mpr hk6) c4
theorem r_fill_y {g : Nat → Int32} {A : Nat → Nat → Int32} {n : Nat} {W : WS} (hW : WR n g A W) (hO : CoOk (wK W)) {k : Nat} (hk6 : k < 6) (hz : 0 < kS (wK W)) {h : Nat → Nat} (hd : (flA (kS (wK W)) (kB (wK W))).head? = some h) (hn5 : n ≤ 10000) : RR 80 283 0 [some (.ref 146), some (.int (nI k))] [] g A (fun r__ g' A' => r__ = some (.int (nI (kS (wK W)))) ∧ WR (n + 1) g' A' (chW W k (kS (wK W), h))) := by
  have hS6 := hO.2.2.2.1
  have hTT : ∀ q u, kB (wK W) q = some u → u < 6 := fun q u e => by have := (hO.2.2.2.2 q u e).2; omega
  have hbB : A 1 222 = nI (kS (wK W)) ∧ ∀ q, q < kS (wK W) * kS (wK W) → A 1 (223 + q) = oI (kB (wK W) q) := ⟨hW.1.2.2.2.1, hW.1.2.2.2.2⟩
  have h48 := hW.2.2.2.2.2.2.2.2.1
  have hnB : 1 ≤ nB (kS (wK W)) (kB (wK W)) := by rw [← flA_n]; exact (hdM hd).2.2
  refine rr_nx (pc' := 1) (al' := [some (.ref 146), some (.int (nI k))]) (st' := [.int (nI k)]) d_283_0 (fun _ => rfl) ?_
  refine rr_ps (as := [.int (nI k)]) (al0 := [some (.int (nI k))]) (r := []) d_283_1 mo_283 ml_117 mz_185 rfl rfl rfl (Nat.le_of_ble_eq_true rfl) (s_isSlot (nI k)) ?_
  show RR _ _ 4 [some (.ref 146), some (.int (nI k))] [.int (bI (nI 0 ≤ (nI k) ∧ (nI k) ≤ nI 5))] g A _
  refine rr_bne (t := 13) d_283_4 (by decide) (fun c4 => ?_) (fun c4 => ?_)
  · refine rr_nx (pc' := 14) (al' := [some (.ref 146), some (.int (nI k))]) (st' := [.ref 146]) d_283_13 (fun _ => rfl) ?_
    refine rr_gf (v := .ref (147 + 1)) d_283_14 mo_283 fl_13 rfl ?_
    refine rn_sp (v := 222) d_283_17 (by decide) ?_
    refine rr_ia (j := 1) (v := (nI (kS (wK W)))) d_283_20 (by decide) rfl (by decide) (show 222 < 5720 by first | omega | assumption | exact cu_36 (by omega) (cu_lt (by omega) (by omega))) hW.1.2.2.2.1 ?_
    refine rn_ieq (t := 32) d_283_21 (by decide) (by first | omega | assumption | exact cu_36 (by omega) (cu_lt (by omega) (by omega))) (fun c21 => ?_) (fun c21 => ?_)
    · omega
    · refine rr_nx (pc' := 25) (al' := [some (.ref 146), some (.int (nI k))]) (st' := [.ref 146]) d_283_24 (fun _ => rfl) ?_
      refine rn_ic (v := 1) d_283_25 (by decide) ?_
      refine rr_cv (as := [.int (nI 1)]) (al0 := [some (.ref 146), some (.int (nI 1)), none]) (r := []) d_283_26 mo_283 ml_383 mz_282 rfl rfl rfl (rr_wk (Nat.le_of_ble_eq_true rfl) (s_fillings (s := some 1) hS6 hz hTT hbB h48 ⟨by decide, by decide⟩)) (fun v1 g1 A1 h1x => ?_)
      obtain ⟨q0_, h8_, hg1, ha1, hx1⟩ := h1x
      rw [show capN (some 1) (flA (kS (wK W)) (kB (wK W))).length = min 1 (nB (kS (wK W)) (kB (wK W))) from congrArg (min 1) flA_n] at q0_
      obtain rfl := q0_
      show RR _ _ 29 [some (.ref 146), some (.int (nI k))] [.int (nI (min 1 (nB (kS (wK W)) (kB (wK W)))))] g1 A1 _
      refine rn_ine (t := 39) d_283_29 (by decide) (by first | omega | assumption | exact cu_36 (by omega) (cu_lt (by omega) (by omega))) (fun c29 => ?_) (fun c29 => ?_)
      · refine rr_nx (pc' := 40) (al' := [some (.ref 146), some (.int (nI k))]) (st' := [.ref 146]) d_283_39 (fun _ => rfl) ?_
        refine rr_nx (pc' := 41) (al' := [some (.ref 146), some (.int (nI k))]) (st' := [.int (nI k), .ref 146]) d_283_40 (fun _ => rfl) ?_
        have hW1 := hW.q hg1 ha1
        have hl_ := hdM hd
        refine rr_cv (as := [.int (nI k)]) (al0 := [some (.ref 146), some (.int (nI k)), none, none, none]) (r := []) d_283_41 mo_283 ml_257 mz_224 rfl rfl rfl (rr_wk (Nat.le_of_ble_eq_true rfl) (s_becomes (m := kS (wK W)) (c := h) hW1.1.1 hO.1 hk6 hS6 h8_ (fun q hq => (hx1 1 rfl hl_.2.2 q hq).trans (by rw [show (1 - 1 : Nat) = 0 from rfl, hl_.2.1])))) (fun v2 g2 A2 h2x => ?_)
        obtain ⟨q0_, q1_, f1, q2_, hH1, hf1⟩ := h2x
        obtain rfl := q0_
        obtain rfl := q1_.symm
        obtain rfl := q2_
        show RR _ _ 44 [some (.ref 146), some (.int (nI k))] [] g1 (rf_u A1 1 f1) _
        refine rr_nx (pc' := 45) (al' := [some (.ref 146), some (.int (nI k))]) (st' := [.ref 146]) d_283_44 (fun _ => rfl) ?_
        refine rr_nx (pc' := 46) (al' := [some (.ref 146), some (.int (nI k))]) (st' := [.ref 146, .ref 146]) d_283_45 (fun _ => rfl) ?_
        refine rr_gn d_283_46 mo_283 fl_134 rfl h8_ ?_
        refine rr_pv (as := [.int (nI (kS (wK W)))]) (al0 := [some (.ref 146), some (.int (nI (kS (wK W))))]) (r := []) d_283_49 mo_283 ml_114 mz_181 rfl rfl rfl (Nat.le_of_ble_eq_true rfl) (s_good _) ?_
        show RR _ _ 52 [some (.ref 146), some (.int (nI k))] [.int (nI (kS (wK W)))] (upd (upd g1 0 (nI 0)) 1 (g1 1 + nI 1)) (rf_u A1 1 f1) _
        exact rr_ri d_283_52 mr_283 rfl ⟨rfl, hW1.ch (by omega) hH1 hf1 rfl hO⟩
      · omega
  · exact absurd ((in_r (m := 5) (by decide)).mpr ((in_j (by omega)).mpr hk6)) c4
theorem p_fill_a {S : CS} {G : Nat → Nat → Value} {B : Nat → Nat → Int32} {J : Nat → Nat → Int64} {R : Nat → Nat → Option Nat} {n : Nat} {W : WS} (hW : WC n S G B R W) {t : Int32} (hp6 : ¬ inP t 6) : CR 80 168 0 [some (.ref 2), some (.int t), none] [] S G B J R (fun r__ S' G' B' J' R' => r__ = some (.int (-1)) ∧ WC (n + 1) S' G' B' R' (refW W (-1) 1)) := by
  have hS := hW.1.1
  have hF := hW.2.1
  have hO := hW.2.2.2.1
  obtain ⟨ta, ka, la, hH, hLk, hl2, hs3, hbd⟩ := hW.2.2.1
  refine cr_nx (pc' := 1) (al' := [some (.ref 2), some (.int t), none]) (st' := [.int t]) d_168_0 (fun _ => rfl) ?_
  refine cr_ps (as := [.int t]) (al0 := [some (.int t)]) (r := []) d_168_1 cw_168 cm_11_100 (by decide) cz_118 rfl rfl rfl (Nat.le_of_ble_eq_true rfl) (k_isPlace) ?_
  show CR _ _ 4 [some (.ref 2), some (.int t), none] [.int (bI (inP t 6))] S G B J R _
  refine cr_bne (t := 13) d_168_4 (by decide) (fun c4 => ?_) (fun c4 => ?_)
  · exact absurd c4 hp6
  · refine cr_nx (pc' := 8) (al' := [some (.ref 2), some (.int t), none]) (st' := [.ref 2]) d_168_7 (fun _ => rfl) ?_
    refine cr_nx (pc' := 9) (al' := [some (.ref 2), some (.int t), none]) (st' := [.int (-1), .ref 2]) d_168_8 (fun _ => rfl) ?_
    refine cr_pv (b := 2) (as := [.int (-1)]) (al0 := [some (.ref 2), some (.int (-1))]) (r := []) d_168_9 cw_168 cm_11_104 cz_119 rfl rfl (hS.i (a := 2) (by decide) (by decide)) (by rw [cw_119]; exact (hS.s (a := 2) (by decide) (by decide) rfl)) (by rw [cw_119]; decide) rfl (Nat.le_of_ble_eq_true rfl) (k_refuse (e := 1) hS hF (by decide) (by decide)) ?_
    show CR _ _ 12 [some (.ref 2), some (.int t), none] [.int (-1)] S (up2 G 2 16 (.int (-1))) (upr B 145 (upd (B 145) 1 (B 145 1 + nI 1))) J R _
    exact cr_ri d_168_12 cx_168 rfl ⟨rfl, (hW.rf (by decide)).mo⟩
theorem r_fill_a {g : Nat → Int32} {A : Nat → Nat → Int32} {n : Nat} {W : WS} (hW : WR n g A W) (hO : CoOk (wK W)) {t : Int32} (hp6 : ¬ inP t 6) : RR 80 283 0 [some (.ref 146), some (.int t)] [] g A (fun r__ g' A' => r__ = some (.int (-1)) ∧ WR (n + 1) g' A' (refW W (-1) 1)) := by
  refine rr_nx (pc' := 1) (al' := [some (.ref 146), some (.int t)]) (st' := [.int t]) d_283_0 (fun _ => rfl) ?_
  refine rr_ps (as := [.int t]) (al0 := [some (.int t)]) (r := []) d_283_1 mo_283 ml_117 mz_185 rfl rfl rfl (Nat.le_of_ble_eq_true rfl) (s_isSlot t) ?_
  show RR _ _ 4 [some (.ref 146), some (.int t)] [.int (bI (nI 0 ≤ t ∧ t ≤ nI 5))] g A _
  refine rr_bne (t := 13) d_283_4 (by decide) (fun c4 => ?_) (fun c4 => ?_)
  · exact absurd c4 (fun e_ => hp6 ((in_r (m := 5) (by decide)).mp e_))
  · refine rr_nx (pc' := 8) (al' := [some (.ref 146), some (.int t)]) (st' := [.ref 146]) d_283_7 (fun _ => rfl) ?_
    refine rr_nx (pc' := 9) (al' := [some (.ref 146), some (.int t)]) (st' := [.int (-1), .ref 146]) d_283_8 (fun _ => rfl) ?_
    have hW1 := hW.q (g' := g) (A' := A) Gsm.rf Ksm.rf
    refine rr_pv (as := [.int (-1)]) (al0 := [some (.ref 146), some (.int (-1))]) (r := []) d_283_9 mo_283 ml_110 mz_180 rfl rfl rfl (Nat.le_of_ble_eq_true rfl) (s_refuses (e := 1) (by decide) (by decide)) ?_
    show RR _ _ 12 [some (.ref 146), some (.int t)] [.int (-1)] (upd g 0 (-1)) (rf_u A 0 (upd (A 0) 1 (A 0 1 + nI 1))) _
    exact rr_ri d_283_12 mr_283 rfl ⟨rfl, (hW1.rf (by decide)).mo⟩
theorem p_fill_e {S : CS} {G : Nat → Nat → Value} {B : Nat → Nat → Int32} {J : Nat → Nat → Int64} {R : Nat → Nat → Option Nat} {n : Nat} {W : WS} (hW : WC n S G B R W) {k : Nat} (hk6 : k < 6) (hz : 0 < kS (wK W)) (h0 : nB (kS (wK W)) (kB (wK W)) = 0) : CR 80 168 0 [some (.ref 2), some (.int (nI k)), none] [] S G B J R (fun r__ S' G' B' J' R' => r__ = some (.int (-3)) ∧ WC (n + 1) S' G' B' R' (refW W (-3) 3)) := by
  have hS := hW.1.1
  have hF := hW.2.1
  have hO := hW.2.2.2.1
  obtain ⟨ta, ka, la, hH, hLk, hl2, hs3, hbd⟩ := hW.2.2.1
  have hS6 := hO.2.2.2.1
  have hTT : ∀ q u, q < kS (wK W) * kS (wK W) → kB (wK W) q = some u → u < kS (wK W) := fun q u _ e => (hO.2.2.2.2 q u e).2
  refine cr_nx (pc' := 1) (al' := [some (.ref 2), some (.int (nI k)), none]) (st' := [.int (nI k)]) d_168_0 (fun _ => rfl) ?_
  refine cr_ps (as := [.int (nI k)]) (al0 := [some (.int (nI k))]) (r := []) d_168_1 cw_168 cm_11_100 (by decide) cz_118 rfl rfl rfl (Nat.le_of_ble_eq_true rfl) (k_isPlace) ?_
  show CR _ _ 4 [some (.ref 2), some (.int (nI k)), none] [.int (bI (inP (nI k) 6))] S G B J R _
  refine cr_bne (t := 13) d_168_4 (by decide) (fun c4 => ?_) (fun c4 => ?_)
  · refine cr_nx (pc' := 14) (al' := [some (.ref 2), some (.int (nI k)), none]) (st' := [.ref 2]) d_168_13 (fun _ => rfl) ?_
    refine cr_gf (v := .ref 107) d_168_14 cw_168 cf_11_62 (hS.i (a := 2) (by decide) (by decide)) (hS.s (a := 2) (by decide) (by decide) rfl) (by decide) (fx_2_10 hF) ?_
    refine cr_nx (pc' := 18) (al' := [some (.ref 2), some (.int (nI k)), none]) (st' := [.ref 2, .ref 107]) d_168_17 (fun _ => rfl) ?_
    refine cr_gf (v := .ref 86) d_168_18 cw_168 cf_11_38 (hS.i (a := 2) (by decide) (by decide)) (hS.s (a := 2) (by decide) (by decide) rfl) (by decide) (fx_2_6 hF) ?_
    refine cr_nx (pc' := 22) (al' := [some (.ref 2), some (.int (nI k)), none]) (st' := [.ref 2, .ref 86, .ref 107]) d_168_21 (fun _ => rfl) ?_
    refine cr_gf (v := .ref 3) d_168_22 cw_168 cf_11_10 (hS.i (a := 2) (by decide) (by decide)) (hS.s (a := 2) (by decide) (by decide) rfl) (by decide) (fx_2_0 hF) ?_
    refine cr_gf (v := .int (nI (kS (wK W)))) d_168_25 cw_168 cf_11_342 (hS.i (a := 3) (by decide) (by decide)) (hS.s (a := 3) (by decide) (by decide) rfl) (by decide) hs3 ?_
    refine cr_nx (pc' := 29) (al' := [some (.ref 2), some (.int (nI k)), none]) (st' := [.ref 2, .int (nI (kS (wK W))), .ref 86, .ref 107]) d_168_28 (fun _ => rfl) ?_
    refine cr_gf (v := .ref 3) d_168_29 cw_168 cf_11_10 (hS.i (a := 2) (by decide) (by decide)) (hS.s (a := 2) (by decide) (by decide) rfl) (by decide) (fx_2_0 hF) ?_
    refine cr_gf (v := .ref 6) d_168_32 cw_168 cf_11_345 (hS.i (a := 3) (by decide) (by decide)) (hS.s (a := 3) (by decide) (by decide) rfl) (by decide) (fx_3_4 hF) ?_
    refine cr_cv (b := 107) (as := [.ref 86, .int (nI (kS (wK W))), .ref 6]) (al0 := [some (.ref 107), some (.ref 86), some (.int (nI (kS (wK W)))), some (.ref 6), none]) (r := []) d_168_35 cw_168 cm_11_361 cz_21 rfl rfl (hS.i (a := 107) (by decide) (by decide)) (by rw [cw_21]; exact (hS.s (a := 107) (by decide) (by decide) rfl)) (by rw [cw_21]; decide) rfl (cr_wk (Nat.le_of_ble_eq_true rfl) (k_mkF_n hS hF hS6 hz hTT hbd h0)) (fun v1 S1 G1 B1 J1 R1 h1x => ?_)
    obtain ⟨q0_, ⟨q1_, q2_, q3_⟩, hg1, hF1, hb1⟩ := h1x
    obtain rfl := q0_
    obtain rfl := q1_.symm
    obtain rfl := q2_.symm
    obtain rfl := q3_.symm
    show CR _ _ 38 [some (.ref 2), some (.int (nI k)), none] [.int (nI 0)] S G1 B1 J R _
    refine cr_nx (pc' := 39) (al' := [some (.ref 2), some (.int (nI k)), some (.int (nI 0))]) (st' := []) d_168_38 (fun _ => rfl) ?_
    refine cr_nx (pc' := 40) (al' := [some (.ref 2), some (.int (nI k)), some (.int (nI 0))]) (st' := [.int (nI 0)]) d_168_39 (fun _ => rfl) ?_
    refine cn_ieq (t := 58) d_168_40 (by decide) (by first | omega | assumption | exact cu_36 (by omega) (cu_lt (by omega) (by omega))) (fun c40 => ?_) (fun c40 => ?_)
    · refine cr_nx (pc' := 59) (al' := [some (.ref 2), some (.int (nI k)), some (.int (nI 0))]) (st' := [.ref 2]) d_168_58 (fun _ => rfl) ?_
      refine cr_nx (pc' := 61) (al' := [some (.ref 2), some (.int (nI k)), some (.int (nI 0))]) (st' := [.int (-3), .ref 2]) d_168_59 (fun _ => rfl) ?_
      refine cr_pv (b := 2) (as := [.int (-3)]) (al0 := [some (.ref 2), some (.int (-3))]) (r := []) d_168_61 cw_168 cm_11_104 cz_119 rfl rfl (hS.i (a := 2) (by decide) (by decide)) (by rw [cw_119]; exact (hS.s (a := 2) (by decide) (by decide) rfl)) (by rw [cw_119]; decide) rfl (Nat.le_of_ble_eq_true rfl) (k_refuse (e := 3) hS hF1 (by decide) (by decide)) ?_
      show CR _ _ 64 [some (.ref 2), some (.int (nI k)), some (.int (nI 0))] [.int (-3)] S (up2 G1 2 16 (.int (-3))) (upr B1 145 (upd (B1 145) 3 (B1 145 3 + nI 1))) J R _
      exact cr_ri d_168_64 cx_168 rfl ⟨rfl, ((hW.q hF1 (hg1.mo (by decide)) (hb1.mo (by decide))).rf (by decide)).mo⟩
    · omega
  · exact absurd ((in_j (by omega)).mpr hk6) c4
theorem r_fill_e {g : Nat → Int32} {A : Nat → Nat → Int32} {n : Nat} {W : WS} (hW : WR n g A W) (hO : CoOk (wK W)) {k : Nat} (hk6 : k < 6) (hz : 0 < kS (wK W)) (h0 : nB (kS (wK W)) (kB (wK W)) = 0) : RR 80 283 0 [some (.ref 146), some (.int (nI k))] [] g A (fun r__ g' A' => r__ = some (.int (-3)) ∧ WR (n + 1) g' A' (refW W (-3) 3)) := by
  have hS6 := hO.2.2.2.1
  have hTT : ∀ q u, kB (wK W) q = some u → u < 6 := fun q u e => by have := (hO.2.2.2.2 q u e).2; omega
  have hbB : A 1 222 = nI (kS (wK W)) ∧ ∀ q, q < kS (wK W) * kS (wK W) → A 1 (223 + q) = oI (kB (wK W) q) := ⟨hW.1.2.2.2.1, hW.1.2.2.2.2⟩
  have h48 := hW.2.2.2.2.2.2.2.2.1
  refine rr_nx (pc' := 1) (al' := [some (.ref 146), some (.int (nI k))]) (st' := [.int (nI k)]) d_283_0 (fun _ => rfl) ?_
  refine rr_ps (as := [.int (nI k)]) (al0 := [some (.int (nI k))]) (r := []) d_283_1 mo_283 ml_117 mz_185 rfl rfl rfl (Nat.le_of_ble_eq_true rfl) (s_isSlot (nI k)) ?_
  show RR _ _ 4 [some (.ref 146), some (.int (nI k))] [.int (bI (nI 0 ≤ (nI k) ∧ (nI k) ≤ nI 5))] g A _
  refine rr_bne (t := 13) d_283_4 (by decide) (fun c4 => ?_) (fun c4 => ?_)
  · refine rr_nx (pc' := 14) (al' := [some (.ref 146), some (.int (nI k))]) (st' := [.ref 146]) d_283_13 (fun _ => rfl) ?_
    refine rr_gf (v := .ref (147 + 1)) d_283_14 mo_283 fl_13 rfl ?_
    refine rn_sp (v := 222) d_283_17 (by decide) ?_
    refine rr_ia (j := 1) (v := (nI (kS (wK W)))) d_283_20 (by decide) rfl (by decide) (show 222 < 5720 by first | omega | assumption | exact cu_36 (by omega) (cu_lt (by omega) (by omega))) hW.1.2.2.2.1 ?_
    refine rn_ieq (t := 32) d_283_21 (by decide) (by first | omega | assumption | exact cu_36 (by omega) (cu_lt (by omega) (by omega))) (fun c21 => ?_) (fun c21 => ?_)
    · omega
    · refine rr_nx (pc' := 25) (al' := [some (.ref 146), some (.int (nI k))]) (st' := [.ref 146]) d_283_24 (fun _ => rfl) ?_
      refine rn_ic (v := 1) d_283_25 (by decide) ?_
      refine rr_cv (as := [.int (nI 1)]) (al0 := [some (.ref 146), some (.int (nI 1)), none]) (r := []) d_283_26 mo_283 ml_383 mz_282 rfl rfl rfl (rr_wk (Nat.le_of_ble_eq_true rfl) (s_fillings (s := some 1) hS6 hz hTT hbB h48 ⟨by decide, by decide⟩)) (fun v1 g1 A1 h1x => ?_)
      obtain ⟨q0_, h8_, hg1, ha1, hx1⟩ := h1x
      rw [show capN (some 1) (flA (kS (wK W)) (kB (wK W))).length = min 1 (nB (kS (wK W)) (kB (wK W))) from congrArg (min 1) flA_n] at q0_
      obtain rfl := q0_
      show RR _ _ 29 [some (.ref 146), some (.int (nI k))] [.int (nI (min 1 (nB (kS (wK W)) (kB (wK W)))))] g1 A1 _
      refine rn_ine (t := 39) d_283_29 (by decide) (by first | omega | assumption | exact cu_36 (by omega) (cu_lt (by omega) (by omega))) (fun c29 => ?_) (fun c29 => ?_)
      · omega
      · refine rr_nx (pc' := 33) (al' := [some (.ref 146), some (.int (nI k))]) (st' := [.ref 146]) d_283_32 (fun _ => rfl) ?_
        refine rr_nx (pc' := 35) (al' := [some (.ref 146), some (.int (nI k))]) (st' := [.int (-3), .ref 146]) d_283_33 (fun _ => rfl) ?_
        have hW1 := hW.q hg1 ha1
        refine rr_pv (as := [.int (-3)]) (al0 := [some (.ref 146), some (.int (-3))]) (r := []) d_283_35 mo_283 ml_110 mz_180 rfl rfl rfl (Nat.le_of_ble_eq_true rfl) (s_refuses (e := 3) (by decide) (by decide)) ?_
        show RR _ _ 38 [some (.ref 146), some (.int (nI k))] [.int (-3)] (upd g1 0 (-3)) (rf_u A1 0 (upd (A1 0) 3 (A1 0 3 + nI 1))) _
        exact rr_ri d_283_38 mr_283 rfl ⟨rfl, (hW1.rf (by decide)).mo⟩
  · exact absurd ((in_r (m := 5) (by decide)).mpr ((in_j (by omega)).mpr hk6)) c4
theorem p_fill_z {S : CS} {G : Nat → Nat → Value} {B : Nat → Nat → Int32} {J : Nat → Nat → Int64} {R : Nat → Nat → Option Nat} {n : Nat} {W : WS} (hW : WC n S G B R W) {k : Nat} (hk6 : k < 6) (hz : kS (wK W) = 0) : CR 80 168 0 [some (.ref 2), some (.int (nI k)), none] [] S G B J R (fun r__ S' G' B' J' R' => r__ = some (.int (-3)) ∧ WC (n + 1) S' G' B' R' (refW W (-3) 3)) := by
  have hS := hW.1.1
  have hF := hW.2.1
  have hO := hW.2.2.2.1
  obtain ⟨ta, ka, la, hH, hLk, hl2, hs3, hbd⟩ := hW.2.2.1
  have hS6 := hO.2.2.2.1
  have hTT : ∀ q u, q < kS (wK W) * kS (wK W) → kB (wK W) q = some u → u < kS (wK W) := fun q u _ e => (hO.2.2.2.2 q u e).2
  rw [hz] at hs3
  refine cr_nx (pc' := 1) (al' := [some (.ref 2), some (.int (nI k)), none]) (st' := [.int (nI k)]) d_168_0 (fun _ => rfl) ?_
  refine cr_ps (as := [.int (nI k)]) (al0 := [some (.int (nI k))]) (r := []) d_168_1 cw_168 cm_11_100 (by decide) cz_118 rfl rfl rfl (Nat.le_of_ble_eq_true rfl) (k_isPlace) ?_
  show CR _ _ 4 [some (.ref 2), some (.int (nI k)), none] [.int (bI (inP (nI k) 6))] S G B J R _
  refine cr_bne (t := 13) d_168_4 (by decide) (fun c4 => ?_) (fun c4 => ?_)
  · refine cr_nx (pc' := 14) (al' := [some (.ref 2), some (.int (nI k)), none]) (st' := [.ref 2]) d_168_13 (fun _ => rfl) ?_
    refine cr_gf (v := .ref 107) d_168_14 cw_168 cf_11_62 (hS.i (a := 2) (by decide) (by decide)) (hS.s (a := 2) (by decide) (by decide) rfl) (by decide) (fx_2_10 hF) ?_
    refine cr_nx (pc' := 18) (al' := [some (.ref 2), some (.int (nI k)), none]) (st' := [.ref 2, .ref 107]) d_168_17 (fun _ => rfl) ?_
    refine cr_gf (v := .ref 86) d_168_18 cw_168 cf_11_38 (hS.i (a := 2) (by decide) (by decide)) (hS.s (a := 2) (by decide) (by decide) rfl) (by decide) (fx_2_6 hF) ?_
    refine cr_nx (pc' := 22) (al' := [some (.ref 2), some (.int (nI k)), none]) (st' := [.ref 2, .ref 86, .ref 107]) d_168_21 (fun _ => rfl) ?_
    refine cr_gf (v := .ref 3) d_168_22 cw_168 cf_11_10 (hS.i (a := 2) (by decide) (by decide)) (hS.s (a := 2) (by decide) (by decide) rfl) (by decide) (fx_2_0 hF) ?_
    refine cr_gf (v := .int (nI 0)) d_168_25 cw_168 cf_11_342 (hS.i (a := 3) (by decide) (by decide)) (hS.s (a := 3) (by decide) (by decide) rfl) (by decide) hs3 ?_
    refine cr_nx (pc' := 29) (al' := [some (.ref 2), some (.int (nI k)), none]) (st' := [.ref 2, .int (nI 0), .ref 86, .ref 107]) d_168_28 (fun _ => rfl) ?_
    refine cr_gf (v := .ref 3) d_168_29 cw_168 cf_11_10 (hS.i (a := 2) (by decide) (by decide)) (hS.s (a := 2) (by decide) (by decide) rfl) (by decide) (fx_2_0 hF) ?_
    refine cr_gf (v := .ref 6) d_168_32 cw_168 cf_11_345 (hS.i (a := 3) (by decide) (by decide)) (hS.s (a := 3) (by decide) (by decide) rfl) (by decide) (fx_3_4 hF) ?_
    refine cr_cv (b := 107) (as := [.ref 86, .int (nI 0), .ref 6]) (al0 := [some (.ref 107), some (.ref 86), some (.int (nI 0)), some (.ref 6), none]) (r := []) d_168_35 cw_168 cm_11_361 cz_21 rfl rfl (hS.i (a := 107) (by decide) (by decide)) (by rw [cw_21]; exact (hS.s (a := 107) (by decide) (by decide) rfl)) (by rw [cw_21]; decide) rfl (cr_wk (Nat.le_of_ble_eq_true rfl) (k_mkF_0 hS hF)) (fun v1 S1 G1 B1 J1 R1 h1x => ?_)
    obtain ⟨q0_, ⟨q1_, q2_, q3_⟩, hg1, hF1, hb1⟩ := h1x
    obtain rfl := q0_
    obtain rfl := q1_.symm
    obtain rfl := q2_.symm
    obtain rfl := q3_.symm
    show CR _ _ 38 [some (.ref 2), some (.int (nI k)), none] [.int (nI 0)] S G1 B1 J R _
    refine cr_nx (pc' := 39) (al' := [some (.ref 2), some (.int (nI k)), some (.int (nI 0))]) (st' := []) d_168_38 (fun _ => rfl) ?_
    refine cr_nx (pc' := 40) (al' := [some (.ref 2), some (.int (nI k)), some (.int (nI 0))]) (st' := [.int (nI 0)]) d_168_39 (fun _ => rfl) ?_
    refine cn_ieq (t := 58) d_168_40 (by decide) (by first | omega | assumption | exact cu_36 (by omega) (cu_lt (by omega) (by omega))) (fun c40 => ?_) (fun c40 => ?_)
    · refine cr_nx (pc' := 59) (al' := [some (.ref 2), some (.int (nI k)), some (.int (nI 0))]) (st' := [.ref 2]) d_168_58 (fun _ => rfl) ?_
      refine cr_nx (pc' := 61) (al' := [some (.ref 2), some (.int (nI k)), some (.int (nI 0))]) (st' := [.int (-3), .ref 2]) d_168_59 (fun _ => rfl) ?_
      refine cr_pv (b := 2) (as := [.int (-3)]) (al0 := [some (.ref 2), some (.int (-3))]) (r := []) d_168_61 cw_168 cm_11_104 cz_119 rfl rfl (hS.i (a := 2) (by decide) (by decide)) (by rw [cw_119]; exact (hS.s (a := 2) (by decide) (by decide) rfl)) (by rw [cw_119]; decide) rfl (Nat.le_of_ble_eq_true rfl) (k_refuse (e := 3) hS hF1 (by decide) (by decide)) ?_
      show CR _ _ 64 [some (.ref 2), some (.int (nI k)), some (.int (nI 0))] [.int (-3)] S (up2 G1 2 16 (.int (-3))) (upr B1 145 (upd (B1 145) 3 (B1 145 3 + nI 1))) J R _
      exact cr_ri d_168_64 cx_168 rfl ⟨rfl, ((hW.q hF1 (hg1.mo (by decide)) (hb1.mo (by decide))).rf (by decide)).mo⟩
    · omega
  · exact absurd ((in_j (by omega)).mpr hk6) c4
theorem r_fill_z {g : Nat → Int32} {A : Nat → Nat → Int32} {n : Nat} {W : WS} (hW : WR n g A W) (hO : CoOk (wK W)) {k : Nat} (hk6 : k < 6) (hz : kS (wK W) = 0) : RR 80 283 0 [some (.ref 146), some (.int (nI k))] [] g A (fun r__ g' A' => r__ = some (.int (-3)) ∧ WR (n + 1) g' A' (refW W (-3) 3)) := by
  refine rr_nx (pc' := 1) (al' := [some (.ref 146), some (.int (nI k))]) (st' := [.int (nI k)]) d_283_0 (fun _ => rfl) ?_
  refine rr_ps (as := [.int (nI k)]) (al0 := [some (.int (nI k))]) (r := []) d_283_1 mo_283 ml_117 mz_185 rfl rfl rfl (Nat.le_of_ble_eq_true rfl) (s_isSlot (nI k)) ?_
  show RR _ _ 4 [some (.ref 146), some (.int (nI k))] [.int (bI (nI 0 ≤ (nI k) ∧ (nI k) ≤ nI 5))] g A _
  refine rr_bne (t := 13) d_283_4 (by decide) (fun c4 => ?_) (fun c4 => ?_)
  · refine rr_nx (pc' := 14) (al' := [some (.ref 146), some (.int (nI k))]) (st' := [.ref 146]) d_283_13 (fun _ => rfl) ?_
    refine rr_gf (v := .ref (147 + 1)) d_283_14 mo_283 fl_13 rfl ?_
    refine rn_sp (v := 222) d_283_17 (by decide) ?_
    refine rr_ia (j := 1) (v := (nI (kS (wK W)))) d_283_20 (by decide) rfl (by decide) (show 222 < 5720 by first | omega | assumption | exact cu_36 (by omega) (cu_lt (by omega) (by omega))) hW.1.2.2.2.1 ?_
    refine rn_ieq (t := 32) d_283_21 (by decide) (by first | omega | assumption | exact cu_36 (by omega) (cu_lt (by omega) (by omega))) (fun c21 => ?_) (fun c21 => ?_)
    · refine rr_nx (pc' := 33) (al' := [some (.ref 146), some (.int (nI k))]) (st' := [.ref 146]) d_283_32 (fun _ => rfl) ?_
      refine rr_nx (pc' := 35) (al' := [some (.ref 146), some (.int (nI k))]) (st' := [.int (-3), .ref 146]) d_283_33 (fun _ => rfl) ?_
      have hW1 := hW.q (g' := g) (A' := A) Gsm.rf Ksm.rf
      refine rr_pv (as := [.int (-3)]) (al0 := [some (.ref 146), some (.int (-3))]) (r := []) d_283_35 mo_283 ml_110 mz_180 rfl rfl rfl (Nat.le_of_ble_eq_true rfl) (s_refuses (e := 3) (by decide) (by decide)) ?_
      show RR _ _ 38 [some (.ref 146), some (.int (nI k))] [.int (-3)] (upd g 0 (-3)) (rf_u A 0 (upd (A 0) 3 (A 0 3 + nI 1))) _
      exact rr_ri d_283_38 mr_283 rfl ⟨rfl, (hW1.rf (by decide)).mo⟩
    · omega
  · exact absurd ((in_r (m := 5) (by decide)).mpr ((in_j (by omega)).mpr hk6)) c4
theorem T_fill {S : CS} {G : Nat → Nat → Value} {B : Nat → Nat → Int32} {J : Nat → Nat → Int64} {R : Nat → Nat → Option Nat} {g : Nat → Int32} {A : Nat → Nat → Int32} {n : Nat} {W : WS} (hC : WC n S G B R W) (hR : WR n g A W) (hn : n ≤ 10000) {t : Int32} : Tie n 168 283 [some (.ref 2), some (.int t), none] [some (.ref 146), some (.int t)] S G B J R g A W := by
  have hO := hC.2.2.2.1
  by_cases hp6 : inP t 6
  · obtain ⟨k, hk6, e_⟩ := in_n hp6
    subst e_
    by_cases hz : kS (wK W) = 0
    · exact ⟨_, _, p_fill_z hC hk6 hz, r_fill_z hR hO hk6 hz⟩
    · cases hd : (flA (kS (wK W)) (kB (wK W))).head? with
      | none => exact ⟨_, _, p_fill_e hC hk6 (by omega) (by rw [← flA_n]; exact hd_no hd), r_fill_e hR hO hk6 (by omega) (by rw [← flA_n]; exact hd_no hd)⟩
      | some h => exact ⟨_, _, p_fill_y hC hk6 (by omega) hd, r_fill_y hR hO hk6 (by omega) hd hn⟩
  · exact ⟨_, _, p_fill_a hC hp6, r_fill_a hR hO hp6⟩
