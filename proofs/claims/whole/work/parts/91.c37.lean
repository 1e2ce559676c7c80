/-! Calls: end, turn; printed by wip/whole/gen_c37.py. -/
def enW (W : WS) (t : Nat) : WS := (wK W, wI W, wT W, t, wF W, wS W, wR W, wW W)
theorem WC.en {S : CS} {G : Nat → Nat → Value} {B : Nat → Nat → Int32} {R : Nat → Nat → Option Nat} {n : Nat} {W : WS} (h : WC n S G B R W) {t : Nat} (ht : t ≤ wL W) : WC n S (up2 G 2 3 (.int (nI t))) B R (enW W t) := h.u2 h.2.1.u2 (fun b hb => up2_g hb) (fun b _ _ => rfl) rfl rfl rfl ⟨by show t ≤ 400; have := h.2.2.2.2.2.1.1; omega, up2_s, fun i hi => h.2.2.2.2.2.1.2.2 i (Nat.lt_of_lt_of_le hi ht)⟩ (by rw [up2_n (by decide)]; exact h.2.2.2.2.2.2.1) (by rw [up2_n (by decide)]; exact h.2.2.2.2.2.2.2.1) (fun e he => h.2.2.2.2.2.2.2.2.1 e he)
theorem WR.en {n : Nat} {g : Nat → Int32} {A : Nat → Nat → Int32} {W : WS} (h : WR n g A W) {t : Nat} (ht : t ≤ wL W) : WR n (upd g 13 (nI t)) A (enW W t) := by
  obtain ⟨h1, h2, h3, h4, h5, h6, h7, h8, h9, ver, h10, h11, h12⟩ := h
  unfold WR VcR
  rw [pk_us]
  simp only [pk_un (show (14 : Nat) ≠ 13 by decide), pk_un (show (0 : Nat) ≠ 13 by decide), pk_un (show (56 : Nat) ≠ 13 by decide), pk_un (show (48 : Nat) ≠ 13 by decide), pk_un (show (1 : Nat) ≠ 13 by decide), pk_un (show (50 : Nat) ≠ 13 by decide), pk_un (show (51 : Nat) ≠ 13 by decide), pk_un (show (52 : Nat) ≠ 13 by decide), pk_un (show (53 : Nat) ≠ 13 by decide), pk_un (show (54 : Nat) ≠ 13 by decide)]
  exact ⟨h1, h2, h3, ⟨rfl, fun i hi => h4.2 i (Nat.lt_of_lt_of_le hi ht)⟩, h5, h6, h7, h8, h9, ver, h10, h11, h12⟩
theorem orb_64 {n : Nat} {s : Nat → Nat} (h : Per n s) (hn : n ≤ 6) {x : Nat} (hx : x < n) : orb n s x < 64 := by
  refine Nat.lt_pow_two_of_testBit (n := 6) _ (fun i hi => ?_)
  cases e : (orb n s x).testBit i with
  | false => rfl
  | true =>
    have := orb_lt h hx e
    omega
theorem p_end_y {S : CS} {G : Nat → Nat → Value} {B : Nat → Nat → Int32} {J : Nat → Nat → Int64} {R : Nat → Nat → Option Nat} {n : Nat} {W : WS} (hW : WC n S G B R W) {t : Nat} (ht : t ≤ wL W) : CR 80 116 0 [some (.ref 2), some (.int (nI t))] [] S G B J R (fun r__ S' G' B' J' R' => r__ = some (.int (nI t)) ∧ WC (n + 1) S' G' B' R' (enW W t)) := by
  have hS := hW.1.1
  have hF := hW.2.1
  have hO := hW.2.2.2.1
  obtain ⟨ta, ka, la, hH, hLk, hl2, hs3, hbd⟩ := hW.2.2.1
  have h400 := hW.2.2.2.2.2.1.1
  refine cr_nx (pc' := 1) (al' := [some (.ref 2), some (.int (nI t))]) (st' := [.int (nI t)]) d_116_0 (fun _ => rfl) ?_
  refine cn_zlt (t := 12) d_116_1 (by decide) (by first | omega | assumption | exact cu_36 (by omega) (cu_lt (by omega) (by omega))) (fun c1 => ?_) (fun c1 => ?_)
  · exact c1.elim
  · refine cr_nx (pc' := 5) (al' := [some (.ref 2), some (.int (nI t))]) (st' := [.int (nI t)]) d_116_4 (fun _ => rfl) ?_
    refine cr_nx (pc' := 6) (al' := [some (.ref 2), some (.int (nI t))]) (st' := [.ref 2, .int (nI t)]) d_116_5 (fun _ => rfl) ?_
    refine cr_gf (v := .int (nI (wL W))) d_116_6 cw_116 cf_11_93 (hS.i (a := 2) (by decide) (by decide)) (hS.s (a := 2) (by decide) (by decide) rfl) (by decide) hW.2.2.2.2.2.1.2.1 ?_
    refine cn_cle (t := 14) d_116_9 (by decide) (by first | omega | assumption | exact cu_36 (by omega) (cu_lt (by omega) (by omega))) (by first | omega | assumption | exact cu_36 (by omega) (cu_lt (by omega) (by omega))) (fun c9 => ?_) (fun c9 => ?_)
    · refine cr_nx (pc' := 15) (al' := [some (.ref 2), some (.int (nI t))]) (st' := [.ref 2]) d_116_14 (fun _ => rfl) ?_
      refine cr_nx (pc' := 16) (al' := [some (.ref 2), some (.int (nI t))]) (st' := [.int (nI t), .ref 2]) d_116_15 (fun _ => rfl) ?_
      refine cp_11_3  d_116_16 cw_116 cf_11_93 (hS.i (a := 2) (by decide) (by decide)) (hS.s (a := 2) (by decide) (by decide) rfl) (by decide) ?_
      refine cr_nx (pc' := 20) (al' := [some (.ref 2), some (.int (nI t))]) (st' := [.int (nI t)]) d_116_19 (fun _ => rfl) ?_
      exact cr_ri d_116_20 cx_116 rfl ⟨rfl, (hW.en ht).mo⟩
    · omega
theorem p_end_n {S : CS} {G : Nat → Nat → Value} {B : Nat → Nat → Int32} {J : Nat → Nat → Int64} {R : Nat → Nat → Option Nat} {n : Nat} {W : WS} (hW : WC n S G B R W) {u : Int32} (hu : ¬ inP u (wL W + 1)) : CR 80 116 0 [some (.ref 2), some (.int u)] [] S G B J R (fun r__ S' G' B' J' R' => r__ = some (.int (-1)) ∧ WC (n + 1) S' G' B' R' W) := by
  have hS := hW.1.1
  have hF := hW.2.1
  have hO := hW.2.2.2.1
  obtain ⟨ta, ka, la, hH, hLk, hl2, hs3, hbd⟩ := hW.2.2.1
  have h400 := hW.2.2.2.2.2.1.1
  refine cr_nx (pc' := 1) (al' := [some (.ref 2), some (.int u)]) (st' := [.int u]) d_116_0 (fun _ => rfl) ?_
  refine cr_ilt (t := 12) d_116_1 (by decide) (fun c1 => ?_) (fun c1 => ?_)
  · refine cr_nx (pc' := 13) (al' := [some (.ref 2), some (.int u)]) (st' := [.int (-1)]) d_116_12 (fun _ => rfl) ?_
    exact cr_ri d_116_13 cx_116 rfl ⟨rfl, hW.mo⟩
  · refine cr_nx (pc' := 5) (al' := [some (.ref 2), some (.int u)]) (st' := [.int u]) d_116_4 (fun _ => rfl) ?_
    refine cr_nx (pc' := 6) (al' := [some (.ref 2), some (.int u)]) (st' := [.ref 2, .int u]) d_116_5 (fun _ => rfl) ?_
    refine cr_gf (v := .int (nI (wL W))) d_116_6 cw_116 cf_11_93 (hS.i (a := 2) (by decide) (by decide)) (hS.s (a := 2) (by decide) (by decide) rfl) (by decide) hW.2.2.2.2.2.1.2.1 ?_
    refine cr_cle (t := 14) d_116_9 (by decide) (fun c9 => ?_) (fun c9 => ?_)
    · exact absurd (show inP u (wL W + 1) from ⟨by rw [i_lt0] at c1; omega, by rw [i_Nle (by omega)] at c9; omega⟩) hu
    · refine cr_nx (pc' := 13) (al' := [some (.ref 2), some (.int u)]) (st' := [.int (-1)]) d_116_12 (fun _ => rfl) ?_
      exact cr_ri d_116_13 cx_116 rfl ⟨rfl, hW.mo⟩
theorem r_end_y {g : Nat → Int32} {A : Nat → Nat → Int32} {n : Nat} {W : WS} (hW : WR n g A W) (hO : CoOk (wK W)) {t : Nat} (ht : t ≤ wL W) (hL4 : wL W ≤ 400) : RR 80 190 0 [some (.ref 146), some (.int (nI t))] [] g A (fun r__ g' A' => r__ = some (.int (nI t)) ∧ WR (n + 1) g' A' (enW W t)) := by
  refine rr_nx (pc' := 1) (al' := [some (.ref 146), some (.int (nI t))]) (st' := [.int (nI t)]) d_190_0 (fun _ => rfl) ?_
  refine rn_ic (v := 0) d_190_1 (by decide) ?_
  refine rr_nx (pc' := 3) (al' := [some (.ref 146), some (.int (nI t))]) (st' := [.ref 146, .int (nI 0), .int (nI t)]) d_190_2 (fun _ => rfl) ?_
  refine rr_gn d_190_3 mo_190 fl_137 rfl hW.2.2.2.1.1 ?_
  refine rr_ps (as := [.int (nI t), .int (nI 0), .int (nI (wL W))]) (al0 := [some (.int (nI t)), some (.int (nI 0)), some (.int (nI (wL W)))]) (r := []) d_190_6 mo_190 ml_106 mz_179 rfl rfl rfl (Nat.le_of_ble_eq_true rfl) (s_lies (nI t) (nI 0) (nI (wL W))) ?_
  show RR _ _ 9 [some (.ref 146), some (.int (nI t))] [.int (bI ((nI 0) ≤ (nI t) ∧ (nI t) ≤ (nI (wL W))))] g A _
  refine rr_bne (t := 14) d_190_9 (by decide) (fun c9 => ?_) (fun c9 => ?_)
  · refine rr_nx (pc' := 15) (al' := [some (.ref 146), some (.int (nI t))]) (st' := [.ref 146]) d_190_14 (fun _ => rfl) ?_
    refine rr_nx (pc' := 16) (al' := [some (.ref 146), some (.int (nI t))]) (st' := [.int (nI t), .ref 146]) d_190_15 (fun _ => rfl) ?_
    refine rp_13 d_190_16 mo_190 fl_137  ?_
    refine rr_nx (pc' := 20) (al' := [some (.ref 146), some (.int (nI t))]) (st' := [.int (nI t)]) d_190_19 (fun _ => rfl) ?_
    exact rr_ri d_190_20 mr_190 rfl ⟨rfl, (hW.en ht).mo⟩
  · exact absurd (ia_natI (by omega) ht) c9
theorem r_end_n {g : Nat → Int32} {A : Nat → Nat → Int32} {n : Nat} {W : WS} (hW : WR n g A W) (hO : CoOk (wK W)) {u : Int32} (hu : ¬ inP u (wL W + 1)) (hL4 : wL W ≤ 400) : RR 80 190 0 [some (.ref 146), some (.int u)] [] g A (fun r__ g' A' => r__ = some (.int (-1)) ∧ WR (n + 1) g' A' W) := by
  refine rr_nx (pc' := 1) (al' := [some (.ref 146), some (.int u)]) (st' := [.int u]) d_190_0 (fun _ => rfl) ?_
  refine rn_ic (v := 0) d_190_1 (by decide) ?_
  refine rr_nx (pc' := 3) (al' := [some (.ref 146), some (.int u)]) (st' := [.ref 146, .int (nI 0), .int u]) d_190_2 (fun _ => rfl) ?_
  refine rr_gn d_190_3 mo_190 fl_137 rfl hW.2.2.2.1.1 ?_
  refine rr_ps (as := [.int u, .int (nI 0), .int (nI (wL W))]) (al0 := [some (.int u), some (.int (nI 0)), some (.int (nI (wL W)))]) (r := []) d_190_6 mo_190 ml_106 mz_179 rfl rfl rfl (Nat.le_of_ble_eq_true rfl) (s_lies u (nI 0) (nI (wL W))) ?_
  show RR _ _ 9 [some (.ref 146), some (.int u)] [.int (bI ((nI 0) ≤ u ∧ u ≤ (nI (wL W))))] g A _
  refine rr_bne (t := 14) d_190_9 (by decide) (fun c9 => ?_) (fun c9 => ?_)
  · exact absurd c9 (fun e_ => hu ((in_r (by omega)).mp e_))
  · refine rr_nx (pc' := 13) (al' := [some (.ref 146), some (.int u)]) (st' := [.int (-1)]) d_190_12 (fun _ => rfl) ?_
    exact rr_ri d_190_13 mr_190 rfl ⟨rfl, hW.mo⟩
theorem T_end {S : CS} {G : Nat → Nat → Value} {B : Nat → Nat → Int32} {J : Nat → Nat → Int64} {R : Nat → Nat → Option Nat} {g : Nat → Int32} {A : Nat → Nat → Int32} {n : Nat} {W : WS} (hC : WC n S G B R W) (hR : WR n g A W) (hn : n ≤ 10000) {u : Int32} : Tie n 116 190 [some (.ref 2), some (.int u)] [some (.ref 146), some (.int u)] S G B J R g A W := by
  have hO := hC.2.2.2.1
  have hL4 := hC.2.2.2.2.2.1.1
  by_cases hu : inP u (wL W + 1)
  · obtain ⟨t, ht, e_⟩ := in_n hu
    subst e_
    exact ⟨_, _, p_end_y hC (by omega), r_end_y hR hO (by omega) hL4⟩
  · exact ⟨_, W, p_end_n hC hu, r_end_n hR hO hu hL4⟩
theorem p_turn_y {S : CS} {G : Nat → Nat → Value} {B : Nat → Nat → Int32} {J : Nat → Nat → Int64} {R : Nat → Nat → Option Nat} {n : Nat} {W : WS} (hW : WC n S G B R W) {j m : Nat} {c : Nat → Nat} (hj : j < 6) (htb : tbK (wK W) j = (m, c)) (h1 : 1 ≤ m) {p q k : Nat} (hp : p < m) (hq : q < m) (hpq : ¬ p = q) (hk7 : k < m) : CR 80 130 0 [some (.ref 2), some (.int (nI j)), some (.int (nI p)), some (.int (nI q)), some (.int (nI k)), none, none] [] S G B J R (fun r__ S' G' B' J' R' => r__ = some (.int (nI (onN (orb m (sgN m c p q) k)))) ∧ WC (n + 1) S' G' B' R' (chW W j (m, swN m c p q (orb m (sgN m c p q) k)))) := by
  have hS := hW.1.1
  have hF := hW.2.1
  have hO := hW.2.2.2.1
  obtain ⟨ta, ka, la, hH, hLk, hl2, hs3, hbd⟩ := hW.2.2.1
  obtain ⟨zt, hzt, ezt⟩ := (hH.2.1 j hj).2
  have ht := hH.ta hj
  have hsh := hH.2.2.2.2.2.2.1 j hj
  rw [show kH (wK W) (kD (wK W)) j = (m, c) from htb] at hsh
  have hok := tb_ok hO hj
  rw [htb] at hok
  have hn : G (ta j) 0 = .int (nI m) := hsh.1
  have hc : TabC B (ta j) m c := hsh.c hok
  have hl : Lat m c := hok.2
  have hm6 : m ≤ 6 := hok.1
  have hyes : hasP (wK W) (nI j) := (has_i hj).mpr (by rw [htb]; exact h1)
  have h36 := Nat.mul_le_mul hm6 hm6
  have hper := sg_per hl hp hq
  have ho64 := orb_64 hper hm6 hk7
  refine cr_nx (pc' := 1) (al' := [some (.ref 2), some (.int (nI j)), some (.int (nI p)), some (.int (nI q)), some (.int (nI k)), none, none]) (st' := [.ref 2]) d_130_0 (fun _ => rfl) ?_
  refine cr_nx (pc' := 2) (al' := [some (.ref 2), some (.int (nI j)), some (.int (nI p)), some (.int (nI q)), some (.int (nI k)), none, none]) (st' := [.int (nI j), .ref 2]) d_130_1 (fun _ => rfl) ?_
  refine cr_pv (b := 2) (as := [.int (nI j)]) (al0 := [some (.ref 2), some (.int (nI j))]) (r := []) d_130_2 cw_130 cm_11_137 cz_126 rfl rfl (hS.i (a := 2) (by decide) (by decide)) (by rw [cw_126]; exact (hS.s (a := 2) (by decide) (by decide) rfl)) (by rw [cw_126]; decide) rfl (Nat.le_of_ble_eq_true rfl) (k_has hS hF hH hO) ?_
  show CR _ _ 5 [some (.ref 2), some (.int (nI j)), some (.int (nI p)), some (.int (nI q)), some (.int (nI k)), none, none] [.int (bI (hasP (wK W) (nI j)))] S G B J R _
  refine cr_bne (t := 15) d_130_5 (by decide) (fun c5 => ?_) (fun c5 => ?_)
  · refine cr_nx (pc' := 16) (al' := [some (.ref 2), some (.int (nI j)), some (.int (nI p)), some (.int (nI q)), some (.int (nI k)), none, none]) (st' := [.ref 2]) d_130_15 (fun _ => rfl) ?_
    refine cr_gf (v := .ref 3) d_130_16 cw_130 cf_11_10 (hS.i (a := 2) (by decide) (by decide)) (hS.s (a := 2) (by decide) (by decide) rfl) (by decide) (fx_2_0 hF) ?_
    refine cr_gf (v := .ref 4) d_130_19 cw_130 cf_11_140 (hS.i (a := 3) (by decide) (by decide)) (hS.s (a := 3) (by decide) (by decide) rfl) (by decide) (fx_3_0 hF) ?_
    refine cr_nx (pc' := 23) (al' := [some (.ref 2), some (.int (nI j)), some (.int (nI p)), some (.int (nI q)), some (.int (nI k)), none, none]) (st' := [.int (nI j), .ref 4]) d_130_22 (fun _ => rfl) ?_
    refine cr_aa (a := 4) (v := .ref (ta j)) d_130_23 (hS.i (a := 4) (by decide) (by decide)) (by decide) (hS.s (a := 4) (by decide) (by decide) rfl) (by decide) (show j < 6 by first | omega | assumption | exact cu_36 (by omega) (cu_lt (by omega) (by omega))) (show va_rf _ = _ by rw [(hH.2.1 j hj).1]; rfl) ?_
    refine cr_nx (pc' := 26) (al' := [some (.ref 2), some (.int (nI j)), some (.int (nI p)), some (.int (nI q)), some (.int (nI k)), some (.ref (ta j)), none]) (st' := []) d_130_24 (fun _ => rfl) ?_
    refine cr_nx (pc' := 28) (al' := [some (.ref 2), some (.int (nI j)), some (.int (nI p)), some (.int (nI q)), some (.int (nI k)), some (.ref (ta j)), none]) (st' := [.ref (ta j)]) d_130_26 (fun _ => rfl) ?_
    refine cr_nx (pc' := 29) (al' := [some (.ref 2), some (.int (nI j)), some (.int (nI p)), some (.int (nI q)), some (.int (nI k)), some (.ref (ta j)), none]) (st' := [.int (nI p), .ref (ta j)]) d_130_28 (fun _ => rfl) ?_
    refine cr_nx (pc' := 30) (al' := [some (.ref 2), some (.int (nI j)), some (.int (nI p)), some (.int (nI q)), some (.int (nI k)), some (.ref (ta j)), none]) (st' := [.int (nI q), .int (nI p), .ref (ta j)]) d_130_29 (fun _ => rfl) ?_
    refine cr_pv (b := (ta j)) (as := [.int (nI p), .int (nI q)]) (al0 := [some (.ref (ta j)), some (.int (nI p)), some (.int (nI q))]) (r := []) d_130_30 cw_130 cm_11_169 cz_100 rfl rfl ht.1 (by rw [cw_100]; exact ht.2.2.1) (by rw [cw_100]; decide) rfl (Nat.le_of_ble_eq_true rfl) (k_hasTwoRows ht hn (nI p) (nI q)) ?_
    show CR _ _ 33 [some (.ref 2), some (.int (nI j)), some (.int (nI p)), some (.int (nI q)), some (.int (nI k)), some (.ref (ta j)), none] [.int (bI (¬ (nI p) = (nI q) ∧ (0 ≤ (nI p) ∧ (nI p) < nI m) ∧ (0 ≤ (nI q) ∧ (nI q) < nI m)))] S G B J R _
    refine cr_beq (t := 46) d_130_33 (by decide) (fun c33 => ?_) (fun c33 => ?_)
    · exact absurd ((tw_i (by omega)).mpr ⟨fun e_ => hpq ((nI_eq (by omega) (by omega)).mp e_), (in_j (by omega)).mpr hp, (in_j (by omega)).mpr hq⟩) c33
    · refine cr_nx (pc' := 38) (al' := [some (.ref 2), some (.int (nI j)), some (.int (nI p)), some (.int (nI q)), some (.int (nI k)), some (.ref (ta j)), none]) (st' := [.ref (ta j)]) d_130_36 (fun _ => rfl) ?_
      refine cr_nx (pc' := 40) (al' := [some (.ref 2), some (.int (nI j)), some (.int (nI p)), some (.int (nI q)), some (.int (nI k)), some (.ref (ta j)), none]) (st' := [.int (nI k), .ref (ta j)]) d_130_38 (fun _ => rfl) ?_
      refine cr_pv (b := (ta j)) (as := [.int (nI k)]) (al0 := [some (.ref (ta j)), some (.int (nI k))]) (r := []) d_130_40 cw_130 cm_11_148 cz_92 rfl rfl ht.1 (by rw [cw_92]; exact ht.2.2.1) (by rw [cw_92]; decide) rfl (Nat.le_of_ble_eq_true rfl) (k_hasElement ht hn (nI k)) ?_
      show CR _ _ 43 [some (.ref 2), some (.int (nI j)), some (.int (nI p)), some (.int (nI q)), some (.int (nI k)), some (.ref (ta j)), none] [.int (bI (0 ≤ (nI k) ∧ (nI k) < nI m))] S G B J R _
      refine cr_bne (t := 52) d_130_43 (by decide) (fun c43 => ?_) (fun c43 => ?_)
      · refine cr_nx (pc' := 53) (al' := [some (.ref 2), some (.int (nI j)), some (.int (nI p)), some (.int (nI q)), some (.int (nI k)), some (.ref (ta j)), none]) (st' := [.ref 2]) d_130_52 (fun _ => rfl) ?_
        refine cr_gf (v := .ref 86) d_130_53 cw_130 cf_11_38 (hS.i (a := 2) (by decide) (by decide)) (hS.s (a := 2) (by decide) (by decide) rfl) (by decide) (fx_2_6 hF) ?_
        refine cr_nx (pc' := 58) (al' := [some (.ref 2), some (.int (nI j)), some (.int (nI p)), some (.int (nI q)), some (.int (nI k)), some (.ref (ta j)), none]) (st' := [.ref (ta j), .ref 86]) d_130_56 (fun _ => rfl) ?_
        refine cr_pv (b := 86) (as := [.ref (ta j)]) (al0 := [some (.ref 86), some (.ref (ta j))]) (r := []) d_130_58 cw_130 cm_11_144 cz_93 rfl rfl (hS.i (a := 86) (by decide) (by decide)) (by rw [cw_93]; exact (hS.s (a := 86) (by decide) (by decide) rfl)) (by rw [cw_93]; decide) rfl (Nat.le_of_ble_eq_true rfl) (k_become (tb_86 hS hF) ht (by omega) hn) ?_
        show CR _ _ 61 [some (.ref 2), some (.int (nI j)), some (.int (nI p)), some (.int (nI q)), some (.int (nI k)), some (.ref (ta j)), none] [] S (up2 G 86 0 (.int (nI m))) (upr B 87 (va_cpy (B (ta j + 1)) (B 87) 0 0 36)) J R _
        refine cr_nx (pc' := 62) (al' := [some (.ref 2), some (.int (nI j)), some (.int (nI p)), some (.int (nI q)), some (.int (nI k)), some (.ref (ta j)), none]) (st' := [.ref 2]) d_130_61 (fun _ => rfl) ?_
        refine cr_gf (v := .ref 86) d_130_62 cw_130 cf_11_38 (hS.i (a := 2) (by decide) (by decide)) (hS.s (a := 2) (by decide) (by decide) rfl) (by decide) (by simp [up2]; exact (fx_2_6 hF)) ?_
        refine cr_nx (pc' := 66) (al' := [some (.ref 2), some (.int (nI j)), some (.int (nI p)), some (.int (nI q)), some (.int (nI k)), some (.ref (ta j)), none]) (st' := [.int (nI p), .ref 86]) d_130_65 (fun _ => rfl) ?_
        refine cr_nx (pc' := 67) (al' := [some (.ref 2), some (.int (nI j)), some (.int (nI p)), some (.int (nI q)), some (.int (nI k)), some (.ref (ta j)), none]) (st' := [.int (nI q), .int (nI p), .ref 86]) d_130_66 (fun _ => rfl) ?_
        refine cr_nx (pc' := 69) (al' := [some (.ref 2), some (.int (nI j)), some (.int (nI p)), some (.int (nI q)), some (.int (nI k)), some (.ref (ta j)), none]) (st' := [.int (nI k), .int (nI q), .int (nI p), .ref 86]) d_130_67 (fun _ => rfl) ?_
        have hcD : TabC (upr B 87 (va_cpy (B (ta j + 1)) (B 87) 0 0 36)) 86 m c := ⟨hm6, fun i hi => ⟨by rw [show (86 + 1 : Nat) = 87 from rfl, upr_s, cpy_36 (by omega)]; exact hsh.2 i hi, hl.1 i hi⟩⟩
        refine cr_pv (b := 86) (as := [.int (nI p), .int (nI q), .int (nI k)]) (al0 := [some (.ref 86), some (.int (nI p)), some (.int (nI q)), some (.int (nI k)), none, none, none]) (r := []) d_130_69 cw_130 cm_11_173 cz_101 rfl rfl (hS.i (a := 86) (by decide) (by decide)) (by rw [cw_101]; exact (hS.s (a := 86) (by decide) (by decide) rfl)) (by rw [cw_101]; decide) rfl (Nat.le_of_ble_eq_true rfl) (k_cycleFrom (tb_86 hS hF).up up2_s hcD hl hp hq hk7) ?_
        show CR _ _ 72 [some (.ref 2), some (.int (nI j)), some (.int (nI p)), some (.int (nI q)), some (.int (nI k)), some (.ref (ta j)), none] [.int (nI (orb m (sgN m c p q) k))] S (up2 G 86 0 (.int (nI m))) (upr B 87 (va_cpy (B (ta j + 1)) (B 87) 0 0 36)) J R _
        refine cr_nx (pc' := 74) (al' := [some (.ref 2), some (.int (nI j)), some (.int (nI p)), some (.int (nI q)), some (.int (nI k)), some (.ref (ta j)), some (.int (nI (orb m (sgN m c p q) k)))]) (st' := []) d_130_72 (fun _ => rfl) ?_
        refine cr_nx (pc' := 75) (al' := [some (.ref 2), some (.int (nI j)), some (.int (nI p)), some (.int (nI q)), some (.int (nI k)), some (.ref (ta j)), some (.int (nI (orb m (sgN m c p q) k)))]) (st' := [.ref 2]) d_130_74 (fun _ => rfl) ?_
        refine cr_gf (v := .ref 86) d_130_75 cw_130 cf_11_38 (hS.i (a := 2) (by decide) (by decide)) (hS.s (a := 2) (by decide) (by decide) rfl) (by decide) (by simp [up2]; exact (fx_2_6 hF)) ?_
        refine cr_nx (pc' := 79) (al' := [some (.ref 2), some (.int (nI j)), some (.int (nI p)), some (.int (nI q)), some (.int (nI k)), some (.ref (ta j)), some (.int (nI (orb m (sgN m c p q) k)))]) (st' := [.int (nI p), .ref 86]) d_130_78 (fun _ => rfl) ?_
        refine cr_nx (pc' := 80) (al' := [some (.ref 2), some (.int (nI j)), some (.int (nI p)), some (.int (nI q)), some (.int (nI k)), some (.ref (ta j)), some (.int (nI (orb m (sgN m c p q) k)))]) (st' := [.int (nI q), .int (nI p), .ref 86]) d_130_79 (fun _ => rfl) ?_
        refine cr_nx (pc' := 82) (al' := [some (.ref 2), some (.int (nI j)), some (.int (nI p)), some (.int (nI q)), some (.int (nI k)), some (.ref (ta j)), some (.int (nI (orb m (sgN m c p q) k)))]) (st' := [.int (nI (orb m (sgN m c p q) k)), .int (nI q), .int (nI p), .ref 86]) d_130_80 (fun _ => rfl) ?_
        refine cr_cv (b := 86) (as := [.int (nI p), .int (nI q), .int (nI (orb m (sgN m c p q) k))]) (al0 := [some (.ref 86), some (.int (nI p)), some (.int (nI q)), some (.int (nI (orb m (sgN m c p q) k))), none]) (r := []) d_130_82 cw_130 cm_11_177 cz_103 rfl rfl (hS.i (a := 86) (by decide) (by decide)) (by rw [cw_103]; exact (hS.s (a := 86) (by decide) (by decide) rfl)) (by rw [cw_103]; decide) rfl (cr_wk (Nat.le_of_ble_eq_true rfl) (k_switchRows (tb_86 hS hF).up up2_s hcD hp hq hpq ho64)) (fun v1 S1 G1 B1 J1 R1 h1x => ?_)
        obtain ⟨q0_, q1_, q2_, q3_, q4_, w86, q9_, hw86⟩ := h1x
        obtain rfl := q0_
        obtain rfl := q1_.symm
        obtain rfl := q2_.symm
        obtain rfl := q3_.symm
        obtain rfl := q4_.symm
        obtain rfl := q9_
        show CR _ _ 85 [some (.ref 2), some (.int (nI j)), some (.int (nI p)), some (.int (nI q)), some (.int (nI k)), some (.ref (ta j)), some (.int (nI (orb m (sgN m c p q) k)))] [] S (up2 G 86 0 (.int (nI m))) (upr (upr B 87 (va_cpy (B (ta j + 1)) (B 87) 0 0 36)) 87 w86) J R _
        refine cr_nx (pc' := 86) (al' := [some (.ref 2), some (.int (nI j)), some (.int (nI p)), some (.int (nI q)), some (.int (nI k)), some (.ref (ta j)), some (.int (nI (orb m (sgN m c p q) k)))]) (st' := [.ref 2]) d_130_85 (fun _ => rfl) ?_
        refine cr_nx (pc' := 87) (al' := [some (.ref 2), some (.int (nI j)), some (.int (nI p)), some (.int (nI q)), some (.int (nI k)), some (.ref (ta j)), some (.int (nI (orb m (sgN m c p q) k)))]) (st' := [.int (nI j), .ref 2]) d_130_86 (fun _ => rfl) ?_
        refine cr_nx (pc' := 89) (al' := [some (.ref 2), some (.int (nI j)), some (.int (nI p)), some (.int (nI q)), some (.int (nI k)), some (.ref (ta j)), some (.int (nI (orb m (sgN m c p q) k)))]) (st' := [.int (nI (orb m (sgN m c p q) k)), .int (nI j), .ref 2]) d_130_87 (fun _ => rfl) ?_
        refine cr_ps (as := [.int (nI (orb m (sgN m c p q) k))]) (al0 := [some (.int (nI (orb m (sgN m c p q) k)))]) (r := [.int (nI j), .ref 2]) d_130_89 cw_130 cm_11_181 (by decide) cz_290 rfl rfl rfl (Nat.le_of_ble_eq_true rfl) (k_bitCount ho64) ?_
        show CR _ _ 92 [some (.ref 2), some (.int (nI j)), some (.int (nI p)), some (.int (nI q)), some (.int (nI k)), some (.ref (ta j)), some (.int (nI (orb m (sgN m c p q) k)))] [.int (nI (onN (orb m (sgN m c p q) k))), .int (nI j), .ref 2] S (up2 G 86 0 (.int (nI m))) (upr (upr B 87 (va_cpy (B (ta j + 1)) (B 87) 0 0 36)) 87 w86) J R _
        have hW1 : WC n S (up2 G 86 0 (.int (nI m))) (upr (upr B 87 (va_cpy (B (ta j + 1)) (B 87) 0 0 36)) 87 w86) R W := hW.q (FxG.ut hF) (Gfr.rf.u (by decide)) ((Bfr.rf.u (by decide)).u (by decide))
        refine cr_cv (b := 2) (as := [.int (nI j), .int (nI (onN (orb m (sgN m c p q) k)))]) (al0 := [some (.ref 2), some (.int (nI j)), some (.int (nI (onN (orb m (sgN m c p q) k))))]) (r := []) d_130_92 cw_130 cm_11_115 cz_122 rfl rfl (hS.i (a := 2) (by decide) (by decide)) (by rw [cw_122]; exact (hS.s (a := 2) (by decide) (by decide) rfl)) (by rw [cw_122]; decide) rfl (cr_wk (Nat.le_of_ble_eq_true rfl) (k_change (tb := (m, swN m c p q (orb m (sgN m c p q) k))) hW1 hj ⟨hm6, orb_lat hl hp hq hpq hk7⟩ up2_s (fun q hq => by rw [upr_s]; exact hw86 q hq))) (fun v1 S1 G1 B1 J1 R1 h1x => ?_)
        obtain ⟨q0_, hW2⟩ := h1x
        obtain rfl := q0_
        show CR _ _ 95 [some (.ref 2), some (.int (nI j)), some (.int (nI p)), some (.int (nI q)), some (.int (nI k)), some (.ref (ta j)), some (.int (nI (orb m (sgN m c p q) k)))] [.int (nI (onN (orb m (sgN m c p q) k)))] S1 G1 B1 J1 R1 _
        exact cr_ri d_130_95 cx_130 rfl ⟨rfl, hW2.mo⟩
      · exact absurd ((el_i (by omega)).mpr ((in_j (by omega)).mpr hk7)) c43
  · exact absurd hyes c5
theorem r_turn_y {g : Nat → Int32} {A : Nat → Nat → Int32} {n : Nat} {W : WS} (hW : WR n g A W) (hO : CoOk (wK W)) {j m : Nat} {c : Nat → Nat} (hj : j < 6) (htb : tbK (wK W) j = (m, c)) (h1 : 1 ≤ m) {p q k : Nat} (hp : p < m) (hq : q < m) (hpq : ¬ p = q) (hk7 : k < m) (hn5 : n ≤ 10000) : RR 80 236 0 [some (.ref 146), some (.int (nI j)), some (.int (nI p)), some (.int (nI q)), some (.int (nI k)), none, none] [] g A (fun r__ g' A' => r__ = some (.int (nI (onN (orb m (sgN m c p q) k)))) ∧ WR (n + 1) g' A' (chW W j (m, swN m c p q (orb m (sgN m c p q) k)))) := by
  have hsh := hW.1.1.1 j hj
  rw [show kH (wK W) (kD (wK W)) j = (m, c) from htb] at hsh
  have hok := tb_ok hO hj
  rw [htb] at hok
  have hk : A 1 (37 * j) = nI m := hsh.1
  have hl : Lat m c := hok.2
  have hm6 : m ≤ 6 := hok.1
  have hyes : isT A (nI j) := (has_r hW hO).mpr ((has_i hj).mpr (by rw [htb]; exact h1))
  have h36 := Nat.mul_le_mul hm6 hm6
  have hper := sg_per hl hp hq
  have ho64 := orb_64 hper hm6 hk7
  refine rr_nx (pc' := 1) (al' := [some (.ref 146), some (.int (nI j)), some (.int (nI p)), some (.int (nI q)), some (.int (nI k)), none, none]) (st' := [.ref 146]) d_236_0 (fun _ => rfl) ?_
  refine rr_nx (pc' := 2) (al' := [some (.ref 146), some (.int (nI j)), some (.int (nI p)), some (.int (nI q)), some (.int (nI k)), none, none]) (st' := [.int (nI j), .ref 146]) d_236_1 (fun _ => rfl) ?_
  refine rr_pv (as := [.int (nI j)]) (al0 := [some (.ref 146), some (.int (nI j))]) (r := []) d_236_2 mo_236 ml_124 mz_184 rfl rfl rfl (Nat.le_of_ble_eq_true rfl) (s_isTable (nI j)) ?_
  show RR _ _ 5 [some (.ref 146), some (.int (nI j)), some (.int (nI p)), some (.int (nI q)), some (.int (nI k)), none, none] [.int (bI (isT A (nI j)))] g A _
  refine rr_bne (t := 15) d_236_5 (by decide) (fun c5 => ?_) (fun c5 => ?_)
  · refine rr_nx (pc' := 16) (al' := [some (.ref 146), some (.int (nI j)), some (.int (nI p)), some (.int (nI q)), some (.int (nI k)), none, none]) (st' := [.ref 146]) d_236_15 (fun _ => rfl) ?_
    refine rr_nx (pc' := 17) (al' := [some (.ref 146), some (.int (nI j)), some (.int (nI p)), some (.int (nI q)), some (.int (nI k)), none, none]) (st' := [.int (nI j), .ref 146]) d_236_16 (fun _ => rfl) ?_
    refine rr_pv (as := [.int (nI j)]) (al0 := [some (.ref 146), some (.int (nI j)), none]) (r := []) d_236_17 mo_236 ml_248 mz_208 rfl rfl rfl (Nat.le_of_ble_eq_true rfl) (s_lays (n := m) hj hm6 hk) ?_
    obtain ⟨wl17, hwl17⟩ : ∃ w_, w_ = rf_f (fun q => A 1 (37 * j + 1 + q)) (A 4) (m * m) := ⟨_, rfl⟩
    rw [← hwl17]
    show RR _ _ 20 [some (.ref 146), some (.int (nI j)), some (.int (nI p)), some (.int (nI q)), some (.int (nI k)), none, none] [] (upd g 6 (nI m)) (rf_u A 4 wl17) _
    have hcu := cur_l (g := g) hsh hm6 hl hwl17
    refine rr_nx (pc' := 21) (al' := [some (.ref 146), some (.int (nI j)), some (.int (nI p)), some (.int (nI q)), some (.int (nI k)), none, none]) (st' := [.ref 146]) d_236_20 (fun _ => rfl) ?_
    refine rr_nx (pc' := 22) (al' := [some (.ref 146), some (.int (nI j)), some (.int (nI p)), some (.int (nI q)), some (.int (nI k)), none, none]) (st' := [.int (nI p), .ref 146]) d_236_21 (fun _ => rfl) ?_
    refine rr_pv (as := [.int (nI p)]) (al0 := [some (.ref 146), some (.int (nI p))]) (r := []) d_236_22 mo_236 ml_260 mz_228 rfl rfl rfl (Nat.le_of_ble_eq_true rfl) (s_isElement hcu (by omega) (nI p)) ?_
    show RR _ _ 25 [some (.ref 146), some (.int (nI j)), some (.int (nI p)), some (.int (nI q)), some (.int (nI k)), none, none] [.int (bI (nI 0 ≤ (nI p) ∧ (nI p) ≤ nI (m - 1)))] (upd g 6 (nI m)) (rf_u A 4 wl17) _
    refine rr_beq (t := 50) d_236_25 (by decide) (fun c25 => ?_) (fun c25 => ?_)
    · exact absurd ((el_r h1 (by omega)).mpr ((in_j (by omega)).mpr hp)) c25
    · refine rr_nx (pc' := 29) (al' := [some (.ref 146), some (.int (nI j)), some (.int (nI p)), some (.int (nI q)), some (.int (nI k)), none, none]) (st' := [.ref 146]) d_236_28 (fun _ => rfl) ?_
      refine rr_nx (pc' := 30) (al' := [some (.ref 146), some (.int (nI j)), some (.int (nI p)), some (.int (nI q)), some (.int (nI k)), none, none]) (st' := [.int (nI q), .ref 146]) d_236_29 (fun _ => rfl) ?_
      refine rr_pv (as := [.int (nI q)]) (al0 := [some (.ref 146), some (.int (nI q))]) (r := []) d_236_30 mo_236 ml_260 mz_228 rfl rfl rfl (Nat.le_of_ble_eq_true rfl) (s_isElement hcu (by omega) (nI q)) ?_
      show RR _ _ 33 [some (.ref 146), some (.int (nI j)), some (.int (nI p)), some (.int (nI q)), some (.int (nI k)), none, none] [.int (bI (nI 0 ≤ (nI q) ∧ (nI q) ≤ nI (m - 1)))] (upd g 6 (nI m)) (rf_u A 4 wl17) _
      refine rr_beq (t := 50) d_236_33 (by decide) (fun c33 => ?_) (fun c33 => ?_)
      · exact absurd ((el_r h1 (by omega)).mpr ((in_j (by omega)).mpr hq)) c33
      · refine rr_nx (pc' := 37) (al' := [some (.ref 146), some (.int (nI j)), some (.int (nI p)), some (.int (nI q)), some (.int (nI k)), none, none]) (st' := [.int (nI p)]) d_236_36 (fun _ => rfl) ?_
        refine rr_nx (pc' := 38) (al' := [some (.ref 146), some (.int (nI j)), some (.int (nI p)), some (.int (nI q)), some (.int (nI k)), none, none]) (st' := [.int (nI q), .int (nI p)]) d_236_37 (fun _ => rfl) ?_
        refine rn_ceq (t := 50) d_236_38 (by decide) (by first | omega | assumption | exact cu_36 (by omega) (cu_lt (by omega) (by omega))) (by first | omega | assumption | exact cu_36 (by omega) (cu_lt (by omega) (by omega))) (fun c38 => ?_) (fun c38 => ?_)
        · exact absurd c38 hpq
        · refine rr_nx (pc' := 42) (al' := [some (.ref 146), some (.int (nI j)), some (.int (nI p)), some (.int (nI q)), some (.int (nI k)), none, none]) (st' := [.ref 146]) d_236_41 (fun _ => rfl) ?_
          refine rr_nx (pc' := 44) (al' := [some (.ref 146), some (.int (nI j)), some (.int (nI p)), some (.int (nI q)), some (.int (nI k)), none, none]) (st' := [.int (nI k), .ref 146]) d_236_42 (fun _ => rfl) ?_
          refine rr_pv (as := [.int (nI k)]) (al0 := [some (.ref 146), some (.int (nI k))]) (r := []) d_236_44 mo_236 ml_260 mz_228 rfl rfl rfl (Nat.le_of_ble_eq_true rfl) (s_isElement hcu (by omega) (nI k)) ?_
          show RR _ _ 47 [some (.ref 146), some (.int (nI j)), some (.int (nI p)), some (.int (nI q)), some (.int (nI k)), none, none] [.int (bI (nI 0 ≤ (nI k) ∧ (nI k) ≤ nI (m - 1)))] (upd g 6 (nI m)) (rf_u A 4 wl17) _
          refine rr_bne (t := 56) d_236_47 (by decide) (fun c47 => ?_) (fun c47 => ?_)
          · refine rr_nx (pc' := 57) (al' := [some (.ref 146), some (.int (nI j)), some (.int (nI p)), some (.int (nI q)), some (.int (nI k)), none, none]) (st' := [.ref 146]) d_236_56 (fun _ => rfl) ?_
            refine rr_nx (pc' := 58) (al' := [some (.ref 146), some (.int (nI j)), some (.int (nI p)), some (.int (nI q)), some (.int (nI k)), none, none]) (st' := [.int (nI p), .ref 146]) d_236_57 (fun _ => rfl) ?_
            refine rr_nx (pc' := 59) (al' := [some (.ref 146), some (.int (nI j)), some (.int (nI p)), some (.int (nI q)), some (.int (nI k)), none, none]) (st' := [.int (nI q), .int (nI p), .ref 146]) d_236_58 (fun _ => rfl) ?_
            refine rr_nx (pc' := 61) (al' := [some (.ref 146), some (.int (nI j)), some (.int (nI p)), some (.int (nI q)), some (.int (nI k)), none, none]) (st' := [.int (nI k), .int (nI q), .int (nI p), .ref 146]) d_236_59 (fun _ => rfl) ?_
            refine rr_cv (as := [.int (nI p), .int (nI q), .int (nI k)]) (al0 := [some (.ref 146), some (.int (nI p)), some (.int (nI q)), some (.int (nI k)), none, none, none, none, none, none]) (r := []) d_236_61 mo_236 ml_279 mz_237 rfl rfl rfl (rr_wk (Nat.le_of_ble_eq_true rfl) (s_switches hcu hl hp hq hpq hk7)) (fun v1 g1 A1 h1x => ?_)
            obtain ⟨q0_, q1_, w4, q2_, hw4⟩ := h1x
            obtain rfl := q0_
            obtain rfl := q1_
            obtain rfl := q2_
            rw [rf_u_u]
            show RR _ _ 64 [some (.ref 146), some (.int (nI j)), some (.int (nI p)), some (.int (nI q)), some (.int (nI k)), none, none] [.int (nI (pdN m (sgN m c p q) k))] (upd g 6 (nI m)) (rf_u A 4 w4) _
            refine rr_nx (pc' := 66) (al' := [some (.ref 146), some (.int (nI j)), some (.int (nI p)), some (.int (nI q)), some (.int (nI k)), some (.int (nI (pdN m (sgN m c p q) k))), none]) (st' := []) d_236_64 (fun _ => rfl) ?_
            refine rr_nx (pc' := 67) (al' := [some (.ref 146), some (.int (nI j)), some (.int (nI p)), some (.int (nI q)), some (.int (nI k)), some (.int (nI (pdN m (sgN m c p q) k))), none]) (st' := [.ref 146]) d_236_66 (fun _ => rfl) ?_
            refine rr_nx (pc' := 68) (al' := [some (.ref 146), some (.int (nI j)), some (.int (nI p)), some (.int (nI q)), some (.int (nI k)), some (.int (nI (pdN m (sgN m c p q) k))), none]) (st' := [.ref 146, .ref 146]) d_236_67 (fun _ => rfl) ?_
            refine rr_gf (v := .int (nI m)) d_236_68 mo_236 fl_127 rfl ?_
            refine rp_8 d_236_71 mo_236 fl_134  ?_
            refine rn_ic (v := 0) d_236_74 (by decide) ?_
            refine rr_nx (pc' := 77) (al' := [some (.ref 146), some (.int (nI j)), some (.int (nI p)), some (.int (nI q)), some (.int (nI k)), some (.int (nI (pdN m (sgN m c p q) k))), some (.int (nI 0))]) (st' := []) d_236_75 (fun _ => rfl) ?_
            refine rr_A (show (rf_u A 4 w4) = (rf_u (rf_u A 4 w4) 5 (A 5)) by rw [show A 5 = rf_u A 4 w4 5 by rw [rf_u_n (by decide)], rf_u_id]) ?_
            refine rr_upw (al := fun i w_ => [some (.ref 146), some (.int (nI j)), some (.int (nI p)), some (.int (nI q)), some (.int (nI k)), some (.int (nI (pdN m (sgN m c p q) k))), some (.int (nI i))]) (G := fun i w_ => (upd (upd g 6 (nI m)) 8 (nI m))) (B := fun i w_ => (rf_u (rf_u A 4 w4) 5 w_)) (P := fun i w_ => ∀ y_, y_ < i → w_ y_ = nI (swN m c p q (orb m (sgN m c p q) k) y_)) (n := m * m) (fun i w_ hi pi ihi => ?_) (fun w_ pi => ?_) 0 (A 5) (by omega) (all_0)
            · show RR _ _ 77 [some (.ref 146), some (.int (nI j)), some (.int (nI p)), some (.int (nI q)), some (.int (nI k)), some (.int (nI (pdN m (sgN m c p q) k))), some (.int (nI i))] [] (upd (upd g 6 (nI m)) 8 (nI m)) (rf_u (rf_u A 4 w4) 5 w_) _
              refine rr_nx (pc' := 79) (al' := [some (.ref 146), some (.int (nI j)), some (.int (nI p)), some (.int (nI q)), some (.int (nI k)), some (.int (nI (pdN m (sgN m c p q) k))), some (.int (nI i))]) (st' := [.int (nI i)]) d_236_77 (fun _ => rfl) ?_
              refine rr_nx (pc' := 80) (al' := [some (.ref 146), some (.int (nI j)), some (.int (nI p)), some (.int (nI q)), some (.int (nI k)), some (.int (nI (pdN m (sgN m c p q) k))), some (.int (nI i))]) (st' := [.ref 146, .int (nI i)]) d_236_79 (fun _ => rfl) ?_
              refine rr_gf (v := .int (nI m)) d_236_80 mo_236 fl_127 rfl ?_
              refine rr_nx (pc' := 84) (al' := [some (.ref 146), some (.int (nI j)), some (.int (nI p)), some (.int (nI q)), some (.int (nI k)), some (.int (nI (pdN m (sgN m c p q) k))), some (.int (nI i))]) (st' := [.ref 146, .int (nI m), .int (nI i)]) d_236_83 (fun _ => rfl) ?_
              refine rr_gf (v := .int (nI m)) d_236_84 mo_236 fl_127 rfl ?_
              refine rn_mul d_236_87  ?_
              refine rn_cge (t := 111) d_236_88 (by decide) (by omega) (by omega) (fun c88 => ?_) (fun c88 => ?_)
              · omega
              · refine rr_nx (pc' := 92) (al' := [some (.ref 146), some (.int (nI j)), some (.int (nI p)), some (.int (nI q)), some (.int (nI k)), some (.int (nI (pdN m (sgN m c p q) k))), some (.int (nI i))]) (st' := [.ref 146]) d_236_91 (fun _ => rfl) ?_
                refine rr_gf (v := .ref (147 + 5)) d_236_92 mo_236 fl_26 rfl ?_
                refine rr_nx (pc' := 97) (al' := [some (.ref 146), some (.int (nI j)), some (.int (nI p)), some (.int (nI q)), some (.int (nI k)), some (.int (nI (pdN m (sgN m c p q) k))), some (.int (nI i))]) (st' := [.int (nI i), .ref (147 + 5)]) d_236_95 (fun _ => rfl) ?_
                refine rr_nx (pc' := 98) (al' := [some (.ref 146), some (.int (nI j)), some (.int (nI p)), some (.int (nI q)), some (.int (nI k)), some (.int (nI (pdN m (sgN m c p q) k))), some (.int (nI i))]) (st' := [.ref 146, .int (nI i), .ref (147 + 5)]) d_236_97 (fun _ => rfl) ?_
                refine rr_gf (v := .ref (147 + 4)) d_236_98 mo_236 fl_23 rfl ?_
                refine rr_nx (pc' := 103) (al' := [some (.ref 146), some (.int (nI j)), some (.int (nI p)), some (.int (nI q)), some (.int (nI k)), some (.int (nI (pdN m (sgN m c p q) k))), some (.int (nI i))]) (st' := [.int (nI i), .ref (147 + 4), .int (nI i), .ref (147 + 5)]) d_236_101 (fun _ => rfl) ?_
                refine rr_ia (j := 4) (v := (nI (swN m c p q (orb m (sgN m c p q) k) i))) d_236_103 (by decide) rfl (by decide) (show i < 36 by omega) ((congrFun ((rf_u_n (by decide)).trans rf_u_s) i).trans (hw4 i hi)) ?_
                refine rr_iS (j := 5) (A1 := (rf_u (rf_u A 4 w4) 5 (upd w_ i (nI (swN m c p q (orb m (sgN m c p q) k) i))))) d_236_104 (by decide) rfl (by decide) (show i < 36 by omega) rf_uw ?_
                refine rn_inc d_236_105 rfl rfl ?_
                show RR _ _ 108 [some (.ref 146), some (.int (nI j)), some (.int (nI p)), some (.int (nI q)), some (.int (nI k)), some (.int (nI (pdN m (sgN m c p q) k))), some (.int (nI (i + 1)))] [] (upd (upd g 6 (nI m)) 8 (nI m)) (rf_u (rf_u A 4 w4) 5 (upd w_ i (nI (swN m c p q (orb m (sgN m c p q) k) i)))) _
                refine rr_nx (pc' := 77) (al' := [some (.ref 146), some (.int (nI j)), some (.int (nI p)), some (.int (nI q)), some (.int (nI k)), some (.int (nI (pdN m (sgN m c p q) k))), some (.int (nI (i + 1)))]) (st' := []) d_236_108 (fun _ => rfl) ?_
                exact ihi (upd w_ i (nI (swN m c p q (orb m (sgN m c p q) k) i))) (up_all (f := fun y_ => nI (swN m c p q (orb m (sgN m c p q) k) y_)) pi rfl)
            · show RR _ _ 77 [some (.ref 146), some (.int (nI j)), some (.int (nI p)), some (.int (nI q)), some (.int (nI k)), some (.int (nI (pdN m (sgN m c p q) k))), some (.int (nI (m * m)))] [] (upd (upd g 6 (nI m)) 8 (nI m)) (rf_u (rf_u A 4 w4) 5 w_) _
              refine rr_nx (pc' := 79) (al' := [some (.ref 146), some (.int (nI j)), some (.int (nI p)), some (.int (nI q)), some (.int (nI k)), some (.int (nI (pdN m (sgN m c p q) k))), some (.int (nI (m * m)))]) (st' := [.int (nI (m * m))]) d_236_77 (fun _ => rfl) ?_
              refine rr_nx (pc' := 80) (al' := [some (.ref 146), some (.int (nI j)), some (.int (nI p)), some (.int (nI q)), some (.int (nI k)), some (.int (nI (pdN m (sgN m c p q) k))), some (.int (nI (m * m)))]) (st' := [.ref 146, .int (nI (m * m))]) d_236_79 (fun _ => rfl) ?_
              refine rr_gf (v := .int (nI m)) d_236_80 mo_236 fl_127 rfl ?_
              refine rr_nx (pc' := 84) (al' := [some (.ref 146), some (.int (nI j)), some (.int (nI p)), some (.int (nI q)), some (.int (nI k)), some (.int (nI (pdN m (sgN m c p q) k))), some (.int (nI (m * m)))]) (st' := [.ref 146, .int (nI m), .int (nI (m * m))]) d_236_83 (fun _ => rfl) ?_
              refine rr_gf (v := .int (nI m)) d_236_84 mo_236 fl_127 rfl ?_
              refine rn_mul d_236_87  ?_
              refine rn_cge (t := 111) d_236_88 (by decide) (by omega) (by omega) (fun c88 => ?_) (fun c88 => ?_)
              · refine rr_nx (pc' := 112) (al' := [some (.ref 146), some (.int (nI j)), some (.int (nI p)), some (.int (nI q)), some (.int (nI k)), some (.int (nI (pdN m (sgN m c p q) k))), some (.int (nI (m * m)))]) (st' := [.ref 146]) d_236_111 (fun _ => rfl) ?_
                refine rr_nx (pc' := 113) (al' := [some (.ref 146), some (.int (nI j)), some (.int (nI p)), some (.int (nI q)), some (.int (nI k)), some (.int (nI (pdN m (sgN m c p q) k))), some (.int (nI (m * m)))]) (st' := [.int (nI j), .ref 146]) d_236_112 (fun _ => rfl) ?_
                have hW1 := hW.q (g' := (upd (upd g 6 (nI m)) 8 (nI m))) (A' := (rf_u (rf_u A 4 w4) 5 w_)) ((Gsm.rf.u rfl).u rfl) ((Ksm.rf.u rfl).u rfl)
                refine rr_cv (as := [.int (nI j)]) (al0 := [some (.ref 146), some (.int (nI j)), none, none, none]) (r := []) d_236_113 mo_236 ml_257 mz_224 rfl rfl rfl (rr_wk (Nat.le_of_ble_eq_true rfl) (s_becomes (m := m) (c := swN m c p q (orb m (sgN m c p q) k)) hW1.1.1 hO.1 hj hm6 (by rfl) (fun q hq => by rw [rf_u_s]; exact pi q hq))) (fun v1 g1 A1 h1x => ?_)
                obtain ⟨q0_, q1_, f1, q2_, hH1, hf1⟩ := h1x
                obtain rfl := q0_
                obtain rfl := q1_
                obtain rfl := q2_
                show RR _ _ 116 [some (.ref 146), some (.int (nI j)), some (.int (nI p)), some (.int (nI q)), some (.int (nI k)), some (.int (nI (pdN m (sgN m c p q) k))), some (.int (nI (m * m)))] [] (upd (upd g 6 (nI m)) 8 (nI m)) (rf_u (rf_u (rf_u A 4 w4) 5 w_) 1 f1) _
                refine rr_nx (pc' := 117) (al' := [some (.ref 146), some (.int (nI j)), some (.int (nI p)), some (.int (nI q)), some (.int (nI k)), some (.int (nI (pdN m (sgN m c p q) k))), some (.int (nI (m * m)))]) (st' := [.ref 146]) d_236_116 (fun _ => rfl) ?_
                refine rr_nx (pc' := 119) (al' := [some (.ref 146), some (.int (nI j)), some (.int (nI p)), some (.int (nI q)), some (.int (nI k)), some (.int (nI (pdN m (sgN m c p q) k))), some (.int (nI (m * m)))]) (st' := [.int (nI (pdN m (sgN m c p q) k)), .ref 146]) d_236_117 (fun _ => rfl) ?_
                refine rr_pv (as := [.int (nI (pdN m (sgN m c p q) k))]) (al0 := [some (.ref 146), some (.int (nI (pdN m (sgN m c p q) k)))]) (r := []) d_236_119 mo_236 ml_114 mz_181 rfl rfl rfl (Nat.le_of_ble_eq_true rfl) (s_good _) ?_
                show RR _ _ 122 [some (.ref 146), some (.int (nI j)), some (.int (nI p)), some (.int (nI q)), some (.int (nI k)), some (.int (nI (pdN m (sgN m c p q) k))), some (.int (nI (m * m)))] [.int (nI (pdN m (sgN m c p q) k))] (upd (upd (upd (upd g 6 (nI m)) 8 (nI m)) 0 (nI 0)) 1 ((upd (upd g 6 (nI m)) 8 (nI m)) 1 + nI 1)) (rf_u (rf_u (rf_u A 4 w4) 5 w_) 1 f1) _
                exact rr_ri d_236_122 mr_236 rfl ⟨by rw [orb_on hper hm6 hk7], hW1.ch (by omega) hH1 hf1 rfl hO⟩
              · omega
          · exact absurd ((el_r h1 (by omega)).mpr ((in_j (by omega)).mpr hk7)) c47
  · exact absurd hyes c5
theorem p_turn_n {S : CS} {G : Nat → Nat → Value} {B : Nat → Nat → Int32} {J : Nat → Nat → Int64} {R : Nat → Nat → Option Nat} {n : Nat} {W : WS} (hW : WC n S G B R W) {t : Int32} (hh : ¬ hasP (wK W) t) {x z v : Int32} : CR 80 130 0 [some (.ref 2), some (.int t), some (.int x), some (.int z), some (.int v), none, none] [] S G B J R (fun r__ S' G' B' J' R' => r__ = some (.int (-2)) ∧ WC (n + 1) S' G' B' R' (refW W (-2) 2)) := by
  have hS := hW.1.1
  have hF := hW.2.1
  have hO := hW.2.2.2.1
  obtain ⟨ta, ka, la, hH, hLk, hl2, hs3, hbd⟩ := hW.2.2.1
  refine cr_nx (pc' := 1) (al' := [some (.ref 2), some (.int t), some (.int x), some (.int z), some (.int v), none, none]) (st' := [.ref 2]) d_130_0 (fun _ => rfl) ?_
  refine cr_nx (pc' := 2) (al' := [some (.ref 2), some (.int t), some (.int x), some (.int z), some (.int v), none, none]) (st' := [.int t, .ref 2]) d_130_1 (fun _ => rfl) ?_
  refine cr_pv (b := 2) (as := [.int t]) (al0 := [some (.ref 2), some (.int t)]) (r := []) d_130_2 cw_130 cm_11_137 cz_126 rfl rfl (hS.i (a := 2) (by decide) (by decide)) (by rw [cw_126]; exact (hS.s (a := 2) (by decide) (by decide) rfl)) (by rw [cw_126]; decide) rfl (Nat.le_of_ble_eq_true rfl) (k_has hS hF hH hO) ?_
  show CR _ _ 5 [some (.ref 2), some (.int t), some (.int x), some (.int z), some (.int v), none, none] [.int (bI (hasP (wK W) t))] S G B J R _
  refine cr_bne (t := 15) d_130_5 (by decide) (fun c5 => ?_) (fun c5 => ?_)
  · exact absurd c5 hh
  · refine cr_nx (pc' := 9) (al' := [some (.ref 2), some (.int t), some (.int x), some (.int z), some (.int v), none, none]) (st' := [.ref 2]) d_130_8 (fun _ => rfl) ?_
    refine cr_nx (pc' := 11) (al' := [some (.ref 2), some (.int t), some (.int x), some (.int z), some (.int v), none, none]) (st' := [.int (-2), .ref 2]) d_130_9 (fun _ => rfl) ?_
    refine cr_pv (b := 2) (as := [.int (-2)]) (al0 := [some (.ref 2), some (.int (-2))]) (r := []) d_130_11 cw_130 cm_11_104 cz_119 rfl rfl (hS.i (a := 2) (by decide) (by decide)) (by rw [cw_119]; exact (hS.s (a := 2) (by decide) (by decide) rfl)) (by rw [cw_119]; decide) rfl (Nat.le_of_ble_eq_true rfl) (k_refuse (e := 2) hS hF (by decide) (by decide)) ?_
    show CR _ _ 14 [some (.ref 2), some (.int t), some (.int x), some (.int z), some (.int v), none, none] [.int (-2)] S (up2 G 2 16 (.int (-2))) (upr B 145 (upd (B 145) 2 (B 145 2 + nI 1))) J R _
    exact cr_ri d_130_14 cx_130 rfl ⟨rfl, (hW.rf (by decide)).mo⟩
theorem r_turn_n {g : Nat → Int32} {A : Nat → Nat → Int32} {n : Nat} {W : WS} (hW : WR n g A W) (hO : CoOk (wK W)) {t : Int32} (hh : ¬ hasP (wK W) t) {x z v : Int32} : RR 80 236 0 [some (.ref 146), some (.int t), some (.int x), some (.int z), some (.int v), none, none] [] g A (fun r__ g' A' => r__ = some (.int (-2)) ∧ WR (n + 1) g' A' (refW W (-2) 2)) := by
  refine rr_nx (pc' := 1) (al' := [some (.ref 146), some (.int t), some (.int x), some (.int z), some (.int v), none, none]) (st' := [.ref 146]) d_236_0 (fun _ => rfl) ?_
  refine rr_nx (pc' := 2) (al' := [some (.ref 146), some (.int t), some (.int x), some (.int z), some (.int v), none, none]) (st' := [.int t, .ref 146]) d_236_1 (fun _ => rfl) ?_
  refine rr_pv (as := [.int t]) (al0 := [some (.ref 146), some (.int t)]) (r := []) d_236_2 mo_236 ml_124 mz_184 rfl rfl rfl (Nat.le_of_ble_eq_true rfl) (s_isTable t) ?_
  show RR _ _ 5 [some (.ref 146), some (.int t), some (.int x), some (.int z), some (.int v), none, none] [.int (bI (isT A t))] g A _
  refine rr_bne (t := 15) d_236_5 (by decide) (fun c5 => ?_) (fun c5 => ?_)
  · exact absurd c5 (fun e_ => hh ((has_r hW hO).mp e_))
  · refine rr_nx (pc' := 9) (al' := [some (.ref 146), some (.int t), some (.int x), some (.int z), some (.int v), none, none]) (st' := [.ref 146]) d_236_8 (fun _ => rfl) ?_
    refine rr_nx (pc' := 11) (al' := [some (.ref 146), some (.int t), some (.int x), some (.int z), some (.int v), none, none]) (st' := [.int (-2), .ref 146]) d_236_9 (fun _ => rfl) ?_
    have hW1 := hW.q (g' := g) (A' := A) Gsm.rf Ksm.rf
    refine rr_pv (as := [.int (-2)]) (al0 := [some (.ref 146), some (.int (-2))]) (r := []) d_236_11 mo_236 ml_110 mz_180 rfl rfl rfl (Nat.le_of_ble_eq_true rfl) (s_refuses (e := 2) (by decide) (by decide)) ?_
    show RR _ _ 14 [some (.ref 146), some (.int t), some (.int x), some (.int z), some (.int v), none, none] [.int (-2)] (upd g 0 (-2)) (rf_u A 0 (upd (A 0) 2 (A 0 2 + nI 1))) _
    exact rr_ri d_236_14 mr_236 rfl ⟨rfl, (hW1.rf (by decide)).mo⟩
theorem p_turn_b {S : CS} {G : Nat → Nat → Value} {B : Nat → Nat → Int32} {J : Nat → Nat → Int64} {R : Nat → Nat → Option Nat} {n : Nat} {W : WS} (hW : WC n S G B R W) {j m : Nat} {c : Nat → Nat} (hj : j < 6) (htb : tbK (wK W) j = (m, c)) (h1 : 1 ≤ m) {x z v : Int32} (hx : ¬ (twP x z m ∧ inP v m)) : CR 80 130 0 [some (.ref 2), some (.int (nI j)), some (.int x), some (.int z), some (.int v), none, none] [] S G B J R (fun r__ S' G' B' J' R' => r__ = some (.int (-1)) ∧ WC (n + 1) S' G' B' R' (refW W (-1) 1)) := by
  have hS := hW.1.1
  have hF := hW.2.1
  have hO := hW.2.2.2.1
  obtain ⟨ta, ka, la, hH, hLk, hl2, hs3, hbd⟩ := hW.2.2.1
  obtain ⟨zt, hzt, ezt⟩ := (hH.2.1 j hj).2
  have ht := hH.ta hj
  have hsh := hH.2.2.2.2.2.2.1 j hj
  rw [show kH (wK W) (kD (wK W)) j = (m, c) from htb] at hsh
  have hok := tb_ok hO hj
  rw [htb] at hok
  have hn : G (ta j) 0 = .int (nI m) := hsh.1
  have hc : TabC B (ta j) m c := hsh.c hok
  have hl : Lat m c := hok.2
  have hm6 : m ≤ 6 := hok.1
  have hyes : hasP (wK W) (nI j) := (has_i hj).mpr (by rw [htb]; exact h1)
  refine cr_nx (pc' := 1) (al' := [some (.ref 2), some (.int (nI j)), some (.int x), some (.int z), some (.int v), none, none]) (st' := [.ref 2]) d_130_0 (fun _ => rfl) ?_
  refine cr_nx (pc' := 2) (al' := [some (.ref 2), some (.int (nI j)), some (.int x), some (.int z), some (.int v), none, none]) (st' := [.int (nI j), .ref 2]) d_130_1 (fun _ => rfl) ?_
  refine cr_pv (b := 2) (as := [.int (nI j)]) (al0 := [some (.ref 2), some (.int (nI j))]) (r := []) d_130_2 cw_130 cm_11_137 cz_126 rfl rfl (hS.i (a := 2) (by decide) (by decide)) (by rw [cw_126]; exact (hS.s (a := 2) (by decide) (by decide) rfl)) (by rw [cw_126]; decide) rfl (Nat.le_of_ble_eq_true rfl) (k_has hS hF hH hO) ?_
  show CR _ _ 5 [some (.ref 2), some (.int (nI j)), some (.int x), some (.int z), some (.int v), none, none] [.int (bI (hasP (wK W) (nI j)))] S G B J R _
  refine cr_bne (t := 15) d_130_5 (by decide) (fun c5 => ?_) (fun c5 => ?_)
  · refine cr_nx (pc' := 16) (al' := [some (.ref 2), some (.int (nI j)), some (.int x), some (.int z), some (.int v), none, none]) (st' := [.ref 2]) d_130_15 (fun _ => rfl) ?_
    refine cr_gf (v := .ref 3) d_130_16 cw_130 cf_11_10 (hS.i (a := 2) (by decide) (by decide)) (hS.s (a := 2) (by decide) (by decide) rfl) (by decide) (fx_2_0 hF) ?_
    refine cr_gf (v := .ref 4) d_130_19 cw_130 cf_11_140 (hS.i (a := 3) (by decide) (by decide)) (hS.s (a := 3) (by decide) (by decide) rfl) (by decide) (fx_3_0 hF) ?_
    refine cr_nx (pc' := 23) (al' := [some (.ref 2), some (.int (nI j)), some (.int x), some (.int z), some (.int v), none, none]) (st' := [.int (nI j), .ref 4]) d_130_22 (fun _ => rfl) ?_
    refine cr_aa (a := 4) (v := .ref (ta j)) d_130_23 (hS.i (a := 4) (by decide) (by decide)) (by decide) (hS.s (a := 4) (by decide) (by decide) rfl) (by decide) (show j < 6 by first | omega | assumption | exact cu_36 (by omega) (cu_lt (by omega) (by omega))) (show va_rf _ = _ by rw [(hH.2.1 j hj).1]; rfl) ?_
    refine cr_nx (pc' := 26) (al' := [some (.ref 2), some (.int (nI j)), some (.int x), some (.int z), some (.int v), some (.ref (ta j)), none]) (st' := []) d_130_24 (fun _ => rfl) ?_
    refine cr_nx (pc' := 28) (al' := [some (.ref 2), some (.int (nI j)), some (.int x), some (.int z), some (.int v), some (.ref (ta j)), none]) (st' := [.ref (ta j)]) d_130_26 (fun _ => rfl) ?_
    refine cr_nx (pc' := 29) (al' := [some (.ref 2), some (.int (nI j)), some (.int x), some (.int z), some (.int v), some (.ref (ta j)), none]) (st' := [.int x, .ref (ta j)]) d_130_28 (fun _ => rfl) ?_
    refine cr_nx (pc' := 30) (al' := [some (.ref 2), some (.int (nI j)), some (.int x), some (.int z), some (.int v), some (.ref (ta j)), none]) (st' := [.int z, .int x, .ref (ta j)]) d_130_29 (fun _ => rfl) ?_
    refine cr_pv (b := (ta j)) (as := [.int x, .int z]) (al0 := [some (.ref (ta j)), some (.int x), some (.int z)]) (r := []) d_130_30 cw_130 cm_11_169 cz_100 rfl rfl ht.1 (by rw [cw_100]; exact ht.2.2.1) (by rw [cw_100]; decide) rfl (Nat.le_of_ble_eq_true rfl) (k_hasTwoRows ht hn x z) ?_
    show CR _ _ 33 [some (.ref 2), some (.int (nI j)), some (.int x), some (.int z), some (.int v), some (.ref (ta j)), none] [.int (bI (¬ x = z ∧ (0 ≤ x ∧ x < nI m) ∧ (0 ≤ z ∧ z < nI m)))] S G B J R _
    refine cr_beq (t := 46) d_130_33 (by decide) (fun c33 => ?_) (fun c33 => ?_)
    · refine cr_nx (pc' := 47) (al' := [some (.ref 2), some (.int (nI j)), some (.int x), some (.int z), some (.int v), some (.ref (ta j)), none]) (st' := [.ref 2]) d_130_46 (fun _ => rfl) ?_
      refine cr_nx (pc' := 48) (al' := [some (.ref 2), some (.int (nI j)), some (.int x), some (.int z), some (.int v), some (.ref (ta j)), none]) (st' := [.int (-1), .ref 2]) d_130_47 (fun _ => rfl) ?_
      refine cr_pv (b := 2) (as := [.int (-1)]) (al0 := [some (.ref 2), some (.int (-1))]) (r := []) d_130_48 cw_130 cm_11_104 cz_119 rfl rfl (hS.i (a := 2) (by decide) (by decide)) (by rw [cw_119]; exact (hS.s (a := 2) (by decide) (by decide) rfl)) (by rw [cw_119]; decide) rfl (Nat.le_of_ble_eq_true rfl) (k_refuse (e := 1) hS hF (by decide) (by decide)) ?_
      show CR _ _ 51 [some (.ref 2), some (.int (nI j)), some (.int x), some (.int z), some (.int v), some (.ref (ta j)), none] [.int (-1)] S (up2 G 2 16 (.int (-1))) (upr B 145 (upd (B 145) 1 (B 145 1 + nI 1))) J R _
      exact cr_ri d_130_51 cx_130 rfl ⟨rfl, (hW.rf (by decide)).mo⟩
    · refine cr_nx (pc' := 38) (al' := [some (.ref 2), some (.int (nI j)), some (.int x), some (.int z), some (.int v), some (.ref (ta j)), none]) (st' := [.ref (ta j)]) d_130_36 (fun _ => rfl) ?_
      refine cr_nx (pc' := 40) (al' := [some (.ref 2), some (.int (nI j)), some (.int x), some (.int z), some (.int v), some (.ref (ta j)), none]) (st' := [.int v, .ref (ta j)]) d_130_38 (fun _ => rfl) ?_
      refine cr_pv (b := (ta j)) (as := [.int v]) (al0 := [some (.ref (ta j)), some (.int v)]) (r := []) d_130_40 cw_130 cm_11_148 cz_92 rfl rfl ht.1 (by rw [cw_92]; exact ht.2.2.1) (by rw [cw_92]; decide) rfl (Nat.le_of_ble_eq_true rfl) (k_hasElement ht hn v) ?_
      show CR _ _ 43 [some (.ref 2), some (.int (nI j)), some (.int x), some (.int z), some (.int v), some (.ref (ta j)), none] [.int (bI (0 ≤ v ∧ v < nI m))] S G B J R _
      refine cr_bne (t := 52) d_130_43 (by decide) (fun c43 => ?_) (fun c43 => ?_)
      · exact absurd ⟨(tw_i (by omega)).mp c33, (el_i (by omega)).mp c43⟩ hx
      · refine cr_nx (pc' := 47) (al' := [some (.ref 2), some (.int (nI j)), some (.int x), some (.int z), some (.int v), some (.ref (ta j)), none]) (st' := [.ref 2]) d_130_46 (fun _ => rfl) ?_
        refine cr_nx (pc' := 48) (al' := [some (.ref 2), some (.int (nI j)), some (.int x), some (.int z), some (.int v), some (.ref (ta j)), none]) (st' := [.int (-1), .ref 2]) d_130_47 (fun _ => rfl) ?_
        refine cr_pv (b := 2) (as := [.int (-1)]) (al0 := [some (.ref 2), some (.int (-1))]) (r := []) d_130_48 cw_130 cm_11_104 cz_119 rfl rfl (hS.i (a := 2) (by decide) (by decide)) (by rw [cw_119]; exact (hS.s (a := 2) (by decide) (by decide) rfl)) (by rw [cw_119]; decide) rfl (Nat.le_of_ble_eq_true rfl) (k_refuse (e := 1) hS hF (by decide) (by decide)) ?_
        show CR _ _ 51 [some (.ref 2), some (.int (nI j)), some (.int x), some (.int z), some (.int v), some (.ref (ta j)), none] [.int (-1)] S (up2 G 2 16 (.int (-1))) (upr B 145 (upd (B 145) 1 (B 145 1 + nI 1))) J R _
        exact cr_ri d_130_51 cx_130 rfl ⟨rfl, (hW.rf (by decide)).mo⟩
  · exact absurd hyes c5
theorem r_turn_b {g : Nat → Int32} {A : Nat → Nat → Int32} {n : Nat} {W : WS} (hW : WR n g A W) (hO : CoOk (wK W)) {j m : Nat} {c : Nat → Nat} (hj : j < 6) (htb : tbK (wK W) j = (m, c)) (h1 : 1 ≤ m) {x z v : Int32} (hx : ¬ (twP x z m ∧ inP v m)) : RR 80 236 0 [some (.ref 146), some (.int (nI j)), some (.int x), some (.int z), some (.int v), none, none] [] g A (fun r__ g' A' => r__ = some (.int (-1)) ∧ WR (n + 1) g' A' (refW W (-1) 1)) := by
  have hsh := hW.1.1.1 j hj
  rw [show kH (wK W) (kD (wK W)) j = (m, c) from htb] at hsh
  have hok := tb_ok hO hj
  rw [htb] at hok
  have hk : A 1 (37 * j) = nI m := hsh.1
  have hl : Lat m c := hok.2
  have hm6 : m ≤ 6 := hok.1
  have hyes : isT A (nI j) := (has_r hW hO).mpr ((has_i hj).mpr (by rw [htb]; exact h1))
  refine rr_nx (pc' := 1) (al' := [some (.ref 146), some (.int (nI j)), some (.int x), some (.int z), some (.int v), none, none]) (st' := [.ref 146]) d_236_0 (fun _ => rfl) ?_
  refine rr_nx (pc' := 2) (al' := [some (.ref 146), some (.int (nI j)), some (.int x), some (.int z), some (.int v), none, none]) (st' := [.int (nI j), .ref 146]) d_236_1 (fun _ => rfl) ?_
  refine rr_pv (as := [.int (nI j)]) (al0 := [some (.ref 146), some (.int (nI j))]) (r := []) d_236_2 mo_236 ml_124 mz_184 rfl rfl rfl (Nat.le_of_ble_eq_true rfl) (s_isTable (nI j)) ?_
  show RR _ _ 5 [some (.ref 146), some (.int (nI j)), some (.int x), some (.int z), some (.int v), none, none] [.int (bI (isT A (nI j)))] g A _
  refine rr_bne (t := 15) d_236_5 (by decide) (fun c5 => ?_) (fun c5 => ?_)
  · refine rr_nx (pc' := 16) (al' := [some (.ref 146), some (.int (nI j)), some (.int x), some (.int z), some (.int v), none, none]) (st' := [.ref 146]) d_236_15 (fun _ => rfl) ?_
    refine rr_nx (pc' := 17) (al' := [some (.ref 146), some (.int (nI j)), some (.int x), some (.int z), some (.int v), none, none]) (st' := [.int (nI j), .ref 146]) d_236_16 (fun _ => rfl) ?_
    refine rr_pv (as := [.int (nI j)]) (al0 := [some (.ref 146), some (.int (nI j)), none]) (r := []) d_236_17 mo_236 ml_248 mz_208 rfl rfl rfl (Nat.le_of_ble_eq_true rfl) (s_lays (n := m) hj hm6 hk) ?_
    obtain ⟨wl17, hwl17⟩ : ∃ w_, w_ = rf_f (fun q => A 1 (37 * j + 1 + q)) (A 4) (m * m) := ⟨_, rfl⟩
    rw [← hwl17]
    show RR _ _ 20 [some (.ref 146), some (.int (nI j)), some (.int x), some (.int z), some (.int v), none, none] [] (upd g 6 (nI m)) (rf_u A 4 wl17) _
    have hcu := cur_l (g := g) hsh hm6 hl hwl17
    refine rr_nx (pc' := 21) (al' := [some (.ref 146), some (.int (nI j)), some (.int x), some (.int z), some (.int v), none, none]) (st' := [.ref 146]) d_236_20 (fun _ => rfl) ?_
    refine rr_nx (pc' := 22) (al' := [some (.ref 146), some (.int (nI j)), some (.int x), some (.int z), some (.int v), none, none]) (st' := [.int x, .ref 146]) d_236_21 (fun _ => rfl) ?_
    refine rr_pv (as := [.int x]) (al0 := [some (.ref 146), some (.int x)]) (r := []) d_236_22 mo_236 ml_260 mz_228 rfl rfl rfl (Nat.le_of_ble_eq_true rfl) (s_isElement hcu (by omega) x) ?_
    show RR _ _ 25 [some (.ref 146), some (.int (nI j)), some (.int x), some (.int z), some (.int v), none, none] [.int (bI (nI 0 ≤ x ∧ x ≤ nI (m - 1)))] (upd g 6 (nI m)) (rf_u A 4 wl17) _
    refine rr_beq (t := 50) d_236_25 (by decide) (fun c25 => ?_) (fun c25 => ?_)
    · refine rr_nx (pc' := 51) (al' := [some (.ref 146), some (.int (nI j)), some (.int x), some (.int z), some (.int v), none, none]) (st' := [.ref 146]) d_236_50 (fun _ => rfl) ?_
      refine rr_nx (pc' := 52) (al' := [some (.ref 146), some (.int (nI j)), some (.int x), some (.int z), some (.int v), none, none]) (st' := [.int (-1), .ref 146]) d_236_51 (fun _ => rfl) ?_
      have hW1 := hW.q (g' := (upd g 6 (nI m))) (A' := (rf_u A 4 wl17)) (Gsm.rf.u rfl) (Ksm.rf.u rfl)
      refine rr_pv (as := [.int (-1)]) (al0 := [some (.ref 146), some (.int (-1))]) (r := []) d_236_52 mo_236 ml_110 mz_180 rfl rfl rfl (Nat.le_of_ble_eq_true rfl) (s_refuses (e := 1) (by decide) (by decide)) ?_
      show RR _ _ 55 [some (.ref 146), some (.int (nI j)), some (.int x), some (.int z), some (.int v), none, none] [.int (-1)] (upd (upd g 6 (nI m)) 0 (-1)) (rf_u (rf_u A 4 wl17) 0 (upd ((rf_u A 4 wl17) 0) 1 ((rf_u A 4 wl17) 0 1 + nI 1))) _
      exact rr_ri d_236_55 mr_236 rfl ⟨rfl, (hW1.rf (by decide)).mo⟩
    · refine rr_nx (pc' := 29) (al' := [some (.ref 146), some (.int (nI j)), some (.int x), some (.int z), some (.int v), none, none]) (st' := [.ref 146]) d_236_28 (fun _ => rfl) ?_
      refine rr_nx (pc' := 30) (al' := [some (.ref 146), some (.int (nI j)), some (.int x), some (.int z), some (.int v), none, none]) (st' := [.int z, .ref 146]) d_236_29 (fun _ => rfl) ?_
      refine rr_pv (as := [.int z]) (al0 := [some (.ref 146), some (.int z)]) (r := []) d_236_30 mo_236 ml_260 mz_228 rfl rfl rfl (Nat.le_of_ble_eq_true rfl) (s_isElement hcu (by omega) z) ?_
      show RR _ _ 33 [some (.ref 146), some (.int (nI j)), some (.int x), some (.int z), some (.int v), none, none] [.int (bI (nI 0 ≤ z ∧ z ≤ nI (m - 1)))] (upd g 6 (nI m)) (rf_u A 4 wl17) _
      refine rr_beq (t := 50) d_236_33 (by decide) (fun c33 => ?_) (fun c33 => ?_)
      · refine rr_nx (pc' := 51) (al' := [some (.ref 146), some (.int (nI j)), some (.int x), some (.int z), some (.int v), none, none]) (st' := [.ref 146]) d_236_50 (fun _ => rfl) ?_
        refine rr_nx (pc' := 52) (al' := [some (.ref 146), some (.int (nI j)), some (.int x), some (.int z), some (.int v), none, none]) (st' := [.int (-1), .ref 146]) d_236_51 (fun _ => rfl) ?_
        have hW1 := hW.q (g' := (upd g 6 (nI m))) (A' := (rf_u A 4 wl17)) (Gsm.rf.u rfl) (Ksm.rf.u rfl)
        refine rr_pv (as := [.int (-1)]) (al0 := [some (.ref 146), some (.int (-1))]) (r := []) d_236_52 mo_236 ml_110 mz_180 rfl rfl rfl (Nat.le_of_ble_eq_true rfl) (s_refuses (e := 1) (by decide) (by decide)) ?_
        show RR _ _ 55 [some (.ref 146), some (.int (nI j)), some (.int x), some (.int z), some (.int v), none, none] [.int (-1)] (upd (upd g 6 (nI m)) 0 (-1)) (rf_u (rf_u A 4 wl17) 0 (upd ((rf_u A 4 wl17) 0) 1 ((rf_u A 4 wl17) 0 1 + nI 1))) _
        exact rr_ri d_236_55 mr_236 rfl ⟨rfl, (hW1.rf (by decide)).mo⟩
      · refine rr_nx (pc' := 37) (al' := [some (.ref 146), some (.int (nI j)), some (.int x), some (.int z), some (.int v), none, none]) (st' := [.int x]) d_236_36 (fun _ => rfl) ?_
        refine rr_nx (pc' := 38) (al' := [some (.ref 146), some (.int (nI j)), some (.int x), some (.int z), some (.int v), none, none]) (st' := [.int z, .int x]) d_236_37 (fun _ => rfl) ?_
        refine rr_ceq (t := 50) d_236_38 (by decide) (fun c38 => ?_) (fun c38 => ?_)
        · refine rr_nx (pc' := 51) (al' := [some (.ref 146), some (.int (nI j)), some (.int x), some (.int z), some (.int v), none, none]) (st' := [.ref 146]) d_236_50 (fun _ => rfl) ?_
          refine rr_nx (pc' := 52) (al' := [some (.ref 146), some (.int (nI j)), some (.int x), some (.int z), some (.int v), none, none]) (st' := [.int (-1), .ref 146]) d_236_51 (fun _ => rfl) ?_
          have hW1 := hW.q (g' := (upd g 6 (nI m))) (A' := (rf_u A 4 wl17)) (Gsm.rf.u rfl) (Ksm.rf.u rfl)
          refine rr_pv (as := [.int (-1)]) (al0 := [some (.ref 146), some (.int (-1))]) (r := []) d_236_52 mo_236 ml_110 mz_180 rfl rfl rfl (Nat.le_of_ble_eq_true rfl) (s_refuses (e := 1) (by decide) (by decide)) ?_
          show RR _ _ 55 [some (.ref 146), some (.int (nI j)), some (.int x), some (.int z), some (.int v), none, none] [.int (-1)] (upd (upd g 6 (nI m)) 0 (-1)) (rf_u (rf_u A 4 wl17) 0 (upd ((rf_u A 4 wl17) 0) 1 ((rf_u A 4 wl17) 0 1 + nI 1))) _
          exact rr_ri d_236_55 mr_236 rfl ⟨rfl, (hW1.rf (by decide)).mo⟩
        · refine rr_nx (pc' := 42) (al' := [some (.ref 146), some (.int (nI j)), some (.int x), some (.int z), some (.int v), none, none]) (st' := [.ref 146]) d_236_41 (fun _ => rfl) ?_
          refine rr_nx (pc' := 44) (al' := [some (.ref 146), some (.int (nI j)), some (.int x), some (.int z), some (.int v), none, none]) (st' := [.int v, .ref 146]) d_236_42 (fun _ => rfl) ?_
          refine rr_pv (as := [.int v]) (al0 := [some (.ref 146), some (.int v)]) (r := []) d_236_44 mo_236 ml_260 mz_228 rfl rfl rfl (Nat.le_of_ble_eq_true rfl) (s_isElement hcu (by omega) v) ?_
          show RR _ _ 47 [some (.ref 146), some (.int (nI j)), some (.int x), some (.int z), some (.int v), none, none] [.int (bI (nI 0 ≤ v ∧ v ≤ nI (m - 1)))] (upd g 6 (nI m)) (rf_u A 4 wl17) _
          refine rr_bne (t := 56) d_236_47 (by decide) (fun c47 => ?_) (fun c47 => ?_)
          · exact absurd ⟨⟨c38, (el_r h1 (by omega)).mp c25, (el_r h1 (by omega)).mp c33⟩, (el_r h1 (by omega)).mp c47⟩ hx
          · refine rr_nx (pc' := 51) (al' := [some (.ref 146), some (.int (nI j)), some (.int x), some (.int z), some (.int v), none, none]) (st' := [.ref 146]) d_236_50 (fun _ => rfl) ?_
            refine rr_nx (pc' := 52) (al' := [some (.ref 146), some (.int (nI j)), some (.int x), some (.int z), some (.int v), none, none]) (st' := [.int (-1), .ref 146]) d_236_51 (fun _ => rfl) ?_
            have hW1 := hW.q (g' := (upd g 6 (nI m))) (A' := (rf_u A 4 wl17)) (Gsm.rf.u rfl) (Ksm.rf.u rfl)
            refine rr_pv (as := [.int (-1)]) (al0 := [some (.ref 146), some (.int (-1))]) (r := []) d_236_52 mo_236 ml_110 mz_180 rfl rfl rfl (Nat.le_of_ble_eq_true rfl) (s_refuses (e := 1) (by decide) (by decide)) ?_
            show RR _ _ 55 [some (.ref 146), some (.int (nI j)), some (.int x), some (.int z), some (.int v), none, none] [.int (-1)] (upd (upd g 6 (nI m)) 0 (-1)) (rf_u (rf_u A 4 wl17) 0 (upd ((rf_u A 4 wl17) 0) 1 ((rf_u A 4 wl17) 0 1 + nI 1))) _
            exact rr_ri d_236_55 mr_236 rfl ⟨rfl, (hW1.rf (by decide)).mo⟩
  · exact absurd hyes c5
theorem T_turn {S : CS} {G : Nat → Nat → Value} {B : Nat → Nat → Int32} {J : Nat → Nat → Int64} {R : Nat → Nat → Option Nat} {g : Nat → Int32} {A : Nat → Nat → Int32} {n : Nat} {W : WS} (hC : WC n S G B R W) (hR : WR n g A W) (hn : n ≤ 10000) {t : Int32} {x : Int32} {z : Int32} {v : Int32} : Tie n 130 236 [some (.ref 2), some (.int t), some (.int x), some (.int z), some (.int v), none, none] [some (.ref 146), some (.int t), some (.int x), some (.int z), some (.int v), none, none] S G B J R g A W := by
  have hO := hC.2.2.2.1
  by_cases hh : hasP (wK W) t
  · obtain ⟨j, hj, e_, h1⟩ := has_n hh
    subst e_
    obtain ⟨⟨m, c⟩, htb⟩ : ∃ tb, tbK (wK W) j = tb := ⟨_, rfl⟩
    rw [htb] at h1
    by_cases hx : twP x z m ∧ inP v m
    · obtain ⟨p, hp, e_⟩ := in_n hx.1.2.1
      subst e_
      obtain ⟨q, hq, e_⟩ := in_n hx.1.2.2
      subst e_
      obtain ⟨k, hk7, e_⟩ := in_n hx.2
      subst e_
      have hpq : ¬ p = q := fun e_ => hx.1.1 (by rw [e_])
      exact ⟨_, _, p_turn_y hC hj htb h1 hp hq hpq hk7, r_turn_y hR hO hj htb h1 hp hq hpq hk7 hn⟩
    · exact ⟨_, _, p_turn_b hC hj htb h1 hx, r_turn_b hR hO hj htb h1 hx⟩
  · exact ⟨_, _, p_turn_n hC hh, r_turn_n hR hO hh⟩
