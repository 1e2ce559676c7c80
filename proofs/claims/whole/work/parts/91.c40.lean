/-! Calls: listed, find; printed by wip/whole/gen_c40.py. -/
theorem tb_K {h K l : Nat} (hh : h < 1 * 2 ^ K) (e : h.testBit l = true) : l < K := Nat.lt_of_not_le (fun q => by
  rw [Nat.testBit_lt_two_pow (Nat.lt_of_lt_of_le (by omega : h < 2 ^ K) (Nat.pow_le_pow_right (by decide) q))] at e
  cases e)
theorem ls_c {S : CS} {G : Nat → Nat → Value} {B : Nat → Nat → Int32} {J : Nat → Nat → Int64} {R : Nat → Nat → Option Nat} (hS : ShOk S) {K n hold no : Nat} {cds : Nat → Nat → Nat} {Ns la : Nat → Nat} (hK : LkC K cds Ns la S G B R 5) (hn6 : n ≤ 6) (hn : 0 < n) (hn97 : G 97 0 = .int (nI n)) (h4 : G 96 4 = .ref 5) (h5 : G 96 5 = .int (nI hold)) (h6 : G 96 6 = .int (nI no)) (hh : hold < 1 * 2 ^ K) (hn2 : no < 1 * 2 ^ K) : LsC n (lsB K cds Ns hold no n) S G B J R := by
  intro c G1 B1 hl hB hg hF1 h96 hb
  have h256 : 1 * 2 ^ K ≤ 2 ^ 8 := by rw [Nat.one_mul]; exact Nat.pow_le_pow_right (by decide) hK.1
  exact k_isListed hS hF1 (hK.cg (fun a ha => hg a (by simp; omega)) (fun a ha => hb a (by simp; omega))) hn6 hn (by rw [hg 97 (by decide)]; exact hn97) ⟨hn6, fun q hq => ⟨hB q hq, hl.1 q hq⟩⟩ hl ((h96 4 (by decide)).trans h4) ((h96 5 (by decide)).trans h5) ((h96 6 (by decide)).trans h6) (by omega) (by omega) (fun _ e => tb_K hh e) (fun _ e => tb_K hn2 e)
theorem ar_r {x : Int32} {K : Nat} (hK : K ≤ 8) : (nI 0 ≤ x ∧ x ≤ nI (1 * 2 ^ K - 1)) ↔ inP x (1 * 2 ^ K) := by
  have h256 : 1 * 2 ^ K ≤ 2 ^ 8 := by rw [Nat.one_mul]; exact Nat.pow_le_pow_right (by decide) hK
  have h1 : 0 < 1 * 2 ^ K := by rw [Nat.one_mul]; exact Nat.two_pow_pos K
  rw [in_r (by omega), Nat.sub_add_cancel h1]
theorem gd_m {l : List (Nat → Nat)} {i : Nat} {d : Nat → Nat} (h : i < l.length) : l.getD i d ∈ l := by
  rw [List.getD_eq_getElem?_getD, List.getElem?_eq_getElem h]
  exact List.getElem_mem h
theorem fl_fil {n : Nat} {P : (Nat → Nat) → Bool} (hn6 : n ≤ 6) (hn : 0 < n) : ((flA n (T00 n)).filter P).length ≤ 9408 := Nat.le_trans (List.length_filter_le _ _) (fl_9408 hn6 hn)
/-- what was listed is kept -/
theorem WR.vc {n : Nat} {g g1 : Nat → Int32} {A A1 : Nat → Nat → Int32} {W : WS} {m hold no : Nat} (h0 : WR n g A W) (hg : Gsm g g1) (ha : Ksm A A1) (hm : m ≤ 6) (hh : hold < 256) (hno : no < 256) : WR n (upd (upd (upd (upd (upd g1 54 (nI ((flA m (T00 m)).filter (lsB (kL (wK W)) (kW (wK W)) (kN (wK W)) hold no m)).length)) 50 (g1 1)) 51 (nI m)) 52 (nI hold)) 53 (nI no)) A1 W := by
  obtain ⟨h1, h2, h3, h4, h5, h6, h7, h8, h9, ver, h10, h11, h12⟩ := h0.q hg ha
  unfold WR VcR
  simp only [pk_un (show (13 : Nat) ≠ 50 by decide), pk_un (show (13 : Nat) ≠ 51 by decide), pk_un (show (13 : Nat) ≠ 52 by decide), pk_un (show (13 : Nat) ≠ 53 by decide), pk_un (show (13 : Nat) ≠ 54 by decide), pk_un (show (14 : Nat) ≠ 50 by decide), pk_un (show (14 : Nat) ≠ 51 by decide), pk_un (show (14 : Nat) ≠ 52 by decide), pk_un (show (14 : Nat) ≠ 53 by decide), pk_un (show (14 : Nat) ≠ 54 by decide), pk_un (show (0 : Nat) ≠ 50 by decide), pk_un (show (0 : Nat) ≠ 51 by decide), pk_un (show (0 : Nat) ≠ 52 by decide), pk_un (show (0 : Nat) ≠ 53 by decide), pk_un (show (0 : Nat) ≠ 54 by decide), pk_un (show (56 : Nat) ≠ 50 by decide), pk_un (show (56 : Nat) ≠ 51 by decide), pk_un (show (56 : Nat) ≠ 52 by decide), pk_un (show (56 : Nat) ≠ 53 by decide), pk_un (show (56 : Nat) ≠ 54 by decide), pk_un (show (48 : Nat) ≠ 50 by decide), pk_un (show (48 : Nat) ≠ 51 by decide), pk_un (show (48 : Nat) ≠ 52 by decide), pk_un (show (48 : Nat) ≠ 53 by decide), pk_un (show (48 : Nat) ≠ 54 by decide), pk_un (show (1 : Nat) ≠ 50 by decide), pk_un (show (1 : Nat) ≠ 51 by decide), pk_un (show (1 : Nat) ≠ 52 by decide), pk_un (show (1 : Nat) ≠ 53 by decide), pk_un (show (1 : Nat) ≠ 54 by decide), pk_un (show (50 : Nat) ≠ 51 by decide), pk_un (show (50 : Nat) ≠ 52 by decide), pk_un (show (50 : Nat) ≠ 53 by decide), pk_un (show (51 : Nat) ≠ 52 by decide), pk_un (show (51 : Nat) ≠ 53 by decide), pk_un (show (52 : Nat) ≠ 53 by decide), pk_un (show (54 : Nat) ≠ 50 by decide), pk_un (show (54 : Nat) ≠ 51 by decide), pk_un (show (54 : Nat) ≠ 52 by decide), pk_un (show (54 : Nat) ≠ 53 by decide), pk_us]
  refine ⟨h1, h2, h3, h4, h5, h6, h7, h8, h9, ver, h10, h11, Or.inr ⟨ver, Nat.le_refl _, h11, fun _ sz hold2 no2 b1 b2 b3 e1 e2 e3 => ?_⟩⟩
  rw [← (nI_eq (by omega) (by omega)).mp e1, ← (nI_eq (by omega) (by omega)).mp e2, ← (nI_eq (by omega) (by omega)).mp e3]
theorem s_areLaws {g : Nat → Int32} {A : Nat → Nat → Int32} {n : Nat} {W : WS} (hW : WR n g A W) (hO : CoOk (wK W)) {t : Int32} : RR 1 272 0 [some (.ref 146), some (.int t)] [] g A (rP (some (.int (bI (inP t (1 * 2 ^ kL (wK W)))))) g A) := by
  refine rr_nx (pc' := 1) (al' := [some (.ref 146), some (.int t)]) (st' := [.int t]) d_272_0 (fun _ => rfl) ?_
  refine rn_ic (v := 0) d_272_1 (by decide) ?_
  refine rn_ic (v := 1) d_272_2 (by decide) ?_
  refine rr_nx (pc' := 4) (al' := [some (.ref 146), some (.int t)]) (st' := [.ref 146, .int (nI 1), .int (nI 0), .int t]) d_272_3 (fun _ => rfl) ?_
  refine rr_gf (v := .ref (147 + 1)) d_272_4 mo_272 fl_13 rfl ?_
  refine rn_sp (v := 2509) d_272_7 (by decide) ?_
  refine rr_ia (j := 1) (v := (nI (kL (wK W)))) d_272_10 (by decide) rfl (by decide) (show 2509 < 5720 by first | omega | assumption | exact cu_36 (by omega) (cu_lt (by omega) (by omega))) hW.1.2.1 ?_
  refine rn_shl d_272_11 (by have := hO.2.1; omega) ?_
  refine rn_ic (v := 1) d_272_12 (by decide) ?_
  refine rn_sub d_272_13 (by rw [Nat.one_mul]; exact Nat.two_pow_pos _) ?_
  refine rr_ps (as := [.int t, .int (nI 0), .int (nI ((1 * 2 ^ (kL (wK W))) - 1))]) (al0 := [some (.int t), some (.int (nI 0)), some (.int (nI ((1 * 2 ^ (kL (wK W))) - 1)))]) (r := []) d_272_14 mo_272 ml_106 mz_179 rfl rfl rfl (Nat.le_of_ble_eq_true rfl) (s_lies t (nI 0) (nI ((1 * 2 ^ (kL (wK W))) - 1))) ?_
  show RR _ _ 17 [some (.ref 146), some (.int t)] [.int (bI ((nI 0) ≤ t ∧ t ≤ (nI ((1 * 2 ^ (kL (wK W))) - 1))))] g A _
  exact rr_ri d_272_17 mr_272 (bI_nar _) ⟨congrArg (fun z__ => some (Value.int z__)) (bI_c (ar_r hO.2.1)), rfl, rfl⟩
theorem p_listed_y {S : CS} {G : Nat → Nat → Value} {B : Nat → Nat → Int32} {J : Nat → Nat → Int64} {R : Nat → Nat → Option Nat} {n : Nat} {W : WS} (hW : WC n S G B R W) {m : Nat} (h1 : 1 ≤ m) (hm6 : m ≤ 6) {hold no : Nat} (hh : hold < 1 * 2 ^ kL (wK W)) (hno : no < 1 * 2 ^ kL (wK W)) : CR 80 145 0 [some (.ref 2), some (.int (nI m)), some (.int (nI hold)), some (.int (nI no))] [] S G B J R (fun r__ S' G' B' J' R' => r__ = some (.int (nI ((flA m (T00 m)).filter (lsB (kL (wK W)) (kW (wK W)) (kN (wK W)) hold no m)).length)) ∧ WC (n + 1) S' G' B' R' W) := by
  have hS := hW.1.1
  have hF := hW.2.1
  have hO := hW.2.2.2.1
  obtain ⟨ta, ka, la, hH, hLk, hl2, hs3, hbd⟩ := hW.2.2.1
  have h256 : 1 * 2 ^ kL (wK W) ≤ 2 ^ 8 := by rw [Nat.one_mul]; exact Nat.pow_le_pow_right (by decide) hO.2.1
  refine cr_nx (pc' := 1) (al' := [some (.ref 2), some (.int (nI m)), some (.int (nI hold)), some (.int (nI no))]) (st' := [.int (nI m)]) d_145_0 (fun _ => rfl) ?_
  refine cr_ps (as := [.int (nI m)]) (al0 := [some (.int (nI m))]) (r := []) d_145_1 cw_145 cm_11_119 (by decide) cz_121 rfl rfl rfl (Nat.le_of_ble_eq_true rfl) (k_isSize) ?_
  show CR _ _ 4 [some (.ref 2), some (.int (nI m)), some (.int (nI hold)), some (.int (nI no))] [.int (bI (szP (nI m)))] S G B J R _
  refine cr_beq (t := 23) d_145_4 (by decide) (fun c4 => ?_) (fun c4 => ?_)
  · exact absurd (sz_j h1 hm6) c4
  · refine cr_nx (pc' := 8) (al' := [some (.ref 2), some (.int (nI m)), some (.int (nI hold)), some (.int (nI no))]) (st' := [.ref 2]) d_145_7 (fun _ => rfl) ?_
    refine cr_nx (pc' := 9) (al' := [some (.ref 2), some (.int (nI m)), some (.int (nI hold)), some (.int (nI no))]) (st' := [.int (nI hold), .ref 2]) d_145_8 (fun _ => rfl) ?_
    refine cr_pv (b := 2) (as := [.int (nI hold)]) (al0 := [some (.ref 2), some (.int (nI hold))]) (r := []) d_145_9 cw_145 cm_11_258 cz_146 rfl rfl (hS.i (a := 2) (by decide) (by decide)) (by rw [cw_146]; exact (hS.s (a := 2) (by decide) (by decide) rfl)) (by rw [cw_146]; decide) rfl (Nat.le_of_ble_eq_true rfl) (k_areLaws hS hF hl2 hO.2.1) ?_
    show CR _ _ 12 [some (.ref 2), some (.int (nI m)), some (.int (nI hold)), some (.int (nI no))] [.int (bI (inP (nI hold) (1 * 2 ^ kL (wK W))))] S G B J R _
    refine cr_beq (t := 23) d_145_12 (by decide) (fun c12 => ?_) (fun c12 => ?_)
    · exact absurd ((in_j (by omega)).mpr hh) c12
    · refine cr_nx (pc' := 16) (al' := [some (.ref 2), some (.int (nI m)), some (.int (nI hold)), some (.int (nI no))]) (st' := [.ref 2]) d_145_15 (fun _ => rfl) ?_
      refine cr_nx (pc' := 17) (al' := [some (.ref 2), some (.int (nI m)), some (.int (nI hold)), some (.int (nI no))]) (st' := [.int (nI no), .ref 2]) d_145_16 (fun _ => rfl) ?_
      refine cr_pv (b := 2) (as := [.int (nI no)]) (al0 := [some (.ref 2), some (.int (nI no))]) (r := []) d_145_17 cw_145 cm_11_258 cz_146 rfl rfl (hS.i (a := 2) (by decide) (by decide)) (by rw [cw_146]; exact (hS.s (a := 2) (by decide) (by decide) rfl)) (by rw [cw_146]; decide) rfl (Nat.le_of_ble_eq_true rfl) (k_areLaws hS hF hl2 hO.2.1) ?_
      show CR _ _ 20 [some (.ref 2), some (.int (nI m)), some (.int (nI hold)), some (.int (nI no))] [.int (bI (inP (nI no) (1 * 2 ^ kL (wK W))))] S G B J R _
      refine cr_bne (t := 25) d_145_20 (by decide) (fun c20 => ?_) (fun c20 => ?_)
      · refine cr_nx (pc' := 26) (al' := [some (.ref 2), some (.int (nI m)), some (.int (nI hold)), some (.int (nI no))]) (st' := [.ref 2]) d_145_25 (fun _ => rfl) ?_
        refine cr_gf (v := .ref 96) d_145_26 cw_145 cf_11_55 (hS.i (a := 2) (by decide) (by decide)) (hS.s (a := 2) (by decide) (by decide) rfl) (by decide) (fx_2_9 hF) ?_
        refine cr_nx (pc' := 30) (al' := [some (.ref 2), some (.int (nI m)), some (.int (nI hold)), some (.int (nI no))]) (st' := [.ref 2, .ref 96]) d_145_29 (fun _ => rfl) ?_
        refine cr_gf (v := .ref 3) d_145_30 cw_145 cf_11_10 (hS.i (a := 2) (by decide) (by decide)) (hS.s (a := 2) (by decide) (by decide) rfl) (by decide) (fx_2_0 hF) ?_
        refine cr_gf (v := .ref 5) d_145_33 cw_145 cf_11_241 (hS.i (a := 3) (by decide) (by decide)) (hS.s (a := 3) (by decide) (by decide) rfl) (by decide) (fx_3_1 hF) ?_
        refine cr_nx (pc' := 37) (al' := [some (.ref 2), some (.int (nI m)), some (.int (nI hold)), some (.int (nI no))]) (st' := [.int (nI hold), .ref 5, .ref 96]) d_145_36 (fun _ => rfl) ?_
        refine cr_nx (pc' := 38) (al' := [some (.ref 2), some (.int (nI m)), some (.int (nI hold)), some (.int (nI no))]) (st' := [.int (nI no), .int (nI hold), .ref 5, .ref 96]) d_145_37 (fun _ => rfl) ?_
        refine cr_pv (b := 96) (as := [.ref 5, .int (nI hold), .int (nI no)]) (al0 := [some (.ref 96), some (.ref 5), some (.int (nI hold)), some (.int (nI no))]) (r := []) d_145_38 cw_145 cm_11_261 cz_35 rfl rfl (hS.i (a := 96) (by decide) (by decide)) (by rw [cw_35]; exact (hS.s (a := 96) (by decide) (by decide) rfl)) (by rw [cw_35]; decide) rfl (Nat.le_of_ble_eq_true rfl) (k_choose hS) ?_
        show CR _ _ 41 [some (.ref 2), some (.int (nI m)), some (.int (nI hold)), some (.int (nI no))] [] S (up2 (up2 (up2 G 96 4 (.ref 5)) 96 5 (.int (nI hold))) 96 6 (.int (nI no))) B J R _
        refine cr_nx (pc' := 42) (al' := [some (.ref 2), some (.int (nI m)), some (.int (nI hold)), some (.int (nI no))]) (st' := [.ref 2]) d_145_41 (fun _ => rfl) ?_
        refine cr_gf (v := .ref 96) d_145_42 cw_145 cf_11_55 (hS.i (a := 2) (by decide) (by decide)) (hS.s (a := 2) (by decide) (by decide) rfl) (by decide) (by simp [up2]; exact (fx_2_9 hF)) ?_
        refine cr_nx (pc' := 46) (al' := [some (.ref 2), some (.int (nI m)), some (.int (nI hold)), some (.int (nI no))]) (st' := [.int (nI m), .ref 96]) d_145_45 (fun _ => rfl) ?_
        refine cr_nx (pc' := 47) (al' := [some (.ref 2), some (.int (nI m)), some (.int (nI hold)), some (.int (nI no))]) (st' := [.int (-1), .int (nI m), .ref 96]) d_145_46 (fun _ => rfl) ?_
        refine cr_cv (b := 96) (as := [.int (nI m), .int (-1)]) (al0 := [some (.ref 96), some (.int (nI m)), some (.int (-1)), none]) (r := []) d_145_47 cw_145 cm_11_265 cz_36 rfl rfl (hS.i (a := 96) (by decide) (by decide)) (by rw [cw_36]; exact (hS.s (a := 96) (by decide) (by decide) rfl)) (by rw [cw_36]; decide) rfl (cr_wk (Nat.le_of_ble_eq_true rfl) (k_seek (wt := none) (P := lsB (kL (wK W)) (kW (wK W)) (kN (wK W)) hold no m) hS (FxG.u9 (Or.inl ⟨rfl, Or.inr (by decide)⟩) (FxG.u9 (Or.inl ⟨rfl, Or.inr (by decide)⟩) (FxG.u9 (Or.inl ⟨rfl, Or.inr (by decide)⟩) hF))) hm6 h1 (fun _ e_ => by cases e_) (fun G_ B_ e_ hb_ => by subst e_; exact ls_c hS (hLk.cg (fun a_ ha_ => by rw [up2_g (by omega), up2_g (by omega), up2_g (by omega), up2_g (by omega), up2_g (by omega), up2_g (by omega)]) (fun a_ ha_ => hb_ a_ (by simp; omega))) hm6 h1 up2_s (by rw [up2_n (by decide), up2_n (by decide), up2_n (by decide), up2_n (by decide), up2_n (by decide), up2_s]) (by rw [up2_n (by decide), up2_n (by decide), up2_n (by decide), up2_n (by decide), up2_s]) (by rw [up2_n (by decide), up2_n (by decide), up2_n (by decide), up2_s]) hh hno) (by have := fl_9408 hm6 h1; omega))) (fun v1 S1 G1 B1 J1 R1 h1x => ?_)
        obtain ⟨⟨q1_, q2_, q3_⟩, hg1, hF1, hb1, h97_, hor⟩ := h1x
        obtain rfl := q1_.symm
        obtain rfl := q2_.symm
        obtain rfl := q3_.symm
        have hW1 : WC n S G1 B1 R W := hW.q hF1 (Gfr.tr (((Gfr.rf.u (by decide)).u (by decide)).u (by decide)) (hg1.mo (by decide))) (hb1.mo (by decide))
        obtain ⟨q0_, _, hc_⟩ := hor.resolve_right (fun h_ => by obtain ⟨w_, e_, _⟩ := h_.2; cases e_)
        obtain rfl := q0_
        show CR _ _ 50 [some (.ref 2), some (.int (nI m)), some (.int (nI hold)), some (.int (nI no))] [.int (nI 0)] S G1 B1 J R _
        refine cr_nx (pc' := 51) (al' := [some (.ref 2), some (.int (nI m)), some (.int (nI hold)), some (.int (nI no))]) (st' := []) d_145_50 (fun _ => rfl) ?_
        refine cr_nx (pc' := 52) (al' := [some (.ref 2), some (.int (nI m)), some (.int (nI hold)), some (.int (nI no))]) (st' := [.ref 2]) d_145_51 (fun _ => rfl) ?_
        refine cr_gf (v := .ref 96) d_145_52 cw_145 cf_11_55 (hS.i (a := 2) (by decide) (by decide)) (hS.s (a := 2) (by decide) (by decide) rfl) (by decide) (fx_2_9 hF1) ?_
        refine cr_gf (v := .int (nI (((flA m (T00 m)).filter (lsB (kL (wK W)) (kW (wK W)) (kN (wK W)) hold no m)).length))) d_145_55 cw_145 cf_11_268 (hS.i (a := 96) (by decide) (by decide)) (hS.s (a := 96) (by decide) (by decide) rfl) (by decide) hc_ ?_
        exact cr_ri d_145_58 cx_145 rfl ⟨rfl, hW1.mo⟩
      · exact absurd ((in_j (by omega)).mpr hno) c20
theorem nI_n1 {z : Nat} (h : z < 2 ^ 31) : ¬ (-1 : Int32) = nI z := fun e => by
  have h1 := congrArg Int32.toInt e
  rw [nI_toInt h] at h1
  have h2 : (-1 : Int32).toInt = -1 := by decide
  omega
theorem VcR.hit {n : Nat} {g : Nat → Int32} {W : WS} {m hold no : Nat} (h : VcR n g (wK W)) (hn5 : n ≤ 10000) (hm : m ≤ 6) (hh : hold < 256) (hno : no < 256) (e0 : g 50 = g 1) (e1 : g 51 = nI m) (e2 : g 52 = nI hold) (e3 : g 53 = nI no) : g 54 = nI ((flA m (T00 m)).filter (lsB (kL (wK W)) (kW (wK W)) (kN (wK W)) hold no m)).length := by
  obtain ⟨ver, h10, h11, h12⟩ := h
  rcases h12 with q | ⟨v, hv, q, h⟩
  · exact absurd (q.symm.trans (e0.trans h11)) (nI_n1 (by omega))
  · exact h ((nI_eq (by omega) (by omega)).mp (q.symm.trans (e0.trans h11))) m hold no hm hh hno e1 e2 e3
theorem r_listed_y {g : Nat → Int32} {A : Nat → Nat → Int32} {n : Nat} {W : WS} (hW : WR n g A W) (hO : CoOk (wK W)) {m : Nat} (h1 : 1 ≤ m) (hm6 : m ≤ 6) {hold no : Nat} (hh : hold < 1 * 2 ^ kL (wK W)) (hno : no < 1 * 2 ^ kL (wK W)) (hn5 : n ≤ 10000) : RR 80 271 0 [some (.ref 146), some (.int (nI m)), some (.int (nI hold)), some (.int (nI no))] [] g A (fun r__ g' A' => r__ = some (.int (nI ((flA m (T00 m)).filter (lsB (kL (wK W)) (kW (wK W)) (kN (wK W)) hold no m)).length)) ∧ WR (n + 1) g' A' W) := by
  have h256 : 1 * 2 ^ kL (wK W) ≤ 2 ^ 8 := by rw [Nat.one_mul]; exact Nat.pow_le_pow_right (by decide) hO.2.1
  refine rr_nx (pc' := 1) (al' := [some (.ref 146), some (.int (nI m)), some (.int (nI hold)), some (.int (nI no))]) (st' := [.int (nI m)]) d_271_0 (fun _ => rfl) ?_
  refine rn_ic (v := 1) d_271_1 (by decide) ?_
  refine rn_bp (v := 6) d_271_2 (by decide) ?_
  refine rr_ps (as := [.int (nI m), .int (nI 1), .int (nI 6)]) (al0 := [some (.int (nI m)), some (.int (nI 1)), some (.int (nI 6))]) (r := []) d_271_4 mo_271 ml_106 mz_179 rfl rfl rfl (Nat.le_of_ble_eq_true rfl) (s_lies (nI m) (nI 1) (nI 6)) ?_
  show RR _ _ 7 [some (.ref 146), some (.int (nI m)), some (.int (nI hold)), some (.int (nI no))] [.int (bI ((nI 1) ≤ (nI m) ∧ (nI m) ≤ (nI 6)))] g A _
  refine rr_beq (t := 26) d_271_7 (by decide) (fun c7 => ?_) (fun c7 => ?_)
  · exact absurd (sz_r.mpr (sz_j h1 hm6)) c7
  · refine rr_nx (pc' := 11) (al' := [some (.ref 146), some (.int (nI m)), some (.int (nI hold)), some (.int (nI no))]) (st' := [.ref 146]) d_271_10 (fun _ => rfl) ?_
    refine rr_nx (pc' := 12) (al' := [some (.ref 146), some (.int (nI m)), some (.int (nI hold)), some (.int (nI no))]) (st' := [.int (nI hold), .ref 146]) d_271_11 (fun _ => rfl) ?_
    refine rr_pv (as := [.int (nI hold)]) (al0 := [some (.ref 146), some (.int (nI hold))]) (r := []) d_271_12 mo_271 ml_361 mz_272 rfl rfl rfl (Nat.le_of_ble_eq_true rfl) (s_areLaws hW hO) ?_
    show RR _ _ 15 [some (.ref 146), some (.int (nI m)), some (.int (nI hold)), some (.int (nI no))] [.int (bI (inP (nI hold) (1 * 2 ^ kL (wK W))))] g A _
    refine rr_beq (t := 26) d_271_15 (by decide) (fun c15 => ?_) (fun c15 => ?_)
    · exact absurd ((in_j (by omega)).mpr hh) c15
    · refine rr_nx (pc' := 19) (al' := [some (.ref 146), some (.int (nI m)), some (.int (nI hold)), some (.int (nI no))]) (st' := [.ref 146]) d_271_18 (fun _ => rfl) ?_
      refine rr_nx (pc' := 20) (al' := [some (.ref 146), some (.int (nI m)), some (.int (nI hold)), some (.int (nI no))]) (st' := [.int (nI no), .ref 146]) d_271_19 (fun _ => rfl) ?_
      refine rr_pv (as := [.int (nI no)]) (al0 := [some (.ref 146), some (.int (nI no))]) (r := []) d_271_20 mo_271 ml_361 mz_272 rfl rfl rfl (Nat.le_of_ble_eq_true rfl) (s_areLaws hW hO) ?_
      show RR _ _ 23 [some (.ref 146), some (.int (nI m)), some (.int (nI hold)), some (.int (nI no))] [.int (bI (inP (nI no) (1 * 2 ^ kL (wK W))))] g A _
      refine rr_bne (t := 28) d_271_23 (by decide) (fun c23 => ?_) (fun c23 => ?_)
      · refine rr_nx (pc' := 29) (al' := [some (.ref 146), some (.int (nI m)), some (.int (nI hold)), some (.int (nI no))]) (st' := [.ref 146]) d_271_28 (fun _ => rfl) ?_
        refine rr_gf (v := .int (g 50)) d_271_29 mo_271 fl_94 rfl ?_
        refine rr_nx (pc' := 33) (al' := [some (.ref 146), some (.int (nI m)), some (.int (nI hold)), some (.int (nI no))]) (st' := [.ref 146, .int (g 50)]) d_271_32 (fun _ => rfl) ?_
        refine rr_gf (v := .int (g 1)) d_271_33 mo_271 fl_103 rfl ?_
        refine rr_cne (t := 68) d_271_36 (by decide) (fun c36 => ?_) (fun c36 => ?_)
        · refine rr_nx (pc' := 69) (al' := [some (.ref 146), some (.int (nI m)), some (.int (nI hold)), some (.int (nI no))]) (st' := [.ref 146]) d_271_68 (fun _ => rfl) ?_
          refine rr_nx (pc' := 70) (al' := [some (.ref 146), some (.int (nI m)), some (.int (nI hold)), some (.int (nI no))]) (st' := [.ref 146, .ref 146]) d_271_69 (fun _ => rfl) ?_
          refine rr_nx (pc' := 71) (al' := [some (.ref 146), some (.int (nI m)), some (.int (nI hold)), some (.int (nI no))]) (st' := [.int (nI m), .ref 146, .ref 146]) d_271_70 (fun _ => rfl) ?_
          refine rr_nx (pc' := 72) (al' := [some (.ref 146), some (.int (nI m)), some (.int (nI hold)), some (.int (nI no))]) (st' := [.int (nI hold), .int (nI m), .ref 146, .ref 146]) d_271_71 (fun _ => rfl) ?_
          refine rr_nx (pc' := 73) (al' := [some (.ref 146), some (.int (nI m)), some (.int (nI hold)), some (.int (nI no))]) (st' := [.int (nI no), .int (nI hold), .int (nI m), .ref 146, .ref 146]) d_271_72 (fun _ => rfl) ?_
          refine rr_nx (pc' := 74) (al' := [some (.ref 146), some (.int (nI m)), some (.int (nI hold)), some (.int (nI no))]) (st' := [.int (-1), .int (nI no), .int (nI hold), .int (nI m), .ref 146, .ref 146]) d_271_73 (fun _ => rfl) ?_
          refine rr_cv (as := [.int (nI m), .int (nI hold), .int (nI no), .int (-1)]) (al0 := [some (.ref 146), some (.int (nI m)), some (.int (nI hold)), some (.int (nI no)), some (.int (-1)), none]) (r := [.ref 146]) d_271_74 mo_271 ml_376 mz_273 rfl rfl rfl (rr_wk (Nat.le_of_ble_eq_true rfl) (s_lists (s := none) (hold := hold) (no := no) hm6 h1 (hW.lk hO) (by omega) (by omega) hW.2.2.2.2.2.2.2.2.1 (show 0 + (flA m (T00 m)).length ≤ 100000 by have := fl_9408 hm6 h1; omega))) (fun v1 g1 A1 h1x => ?_)
          obtain ⟨q0_, h8_, hg1, ha1, hx1⟩ := h1x
          rw [show capN none ((flA m (T00 m)).filter (lsB (kL (wK W)) (kW (wK W)) (kN (wK W)) hold no m)).length = ((flA m (T00 m)).filter (lsB (kL (wK W)) (kW (wK W)) (kN (wK W)) hold no m)).length from rfl] at q0_
          obtain rfl := q0_
          show RR _ _ 77 [some (.ref 146), some (.int (nI m)), some (.int (nI hold)), some (.int (nI no))] [.int (nI (((flA m (T00 m)).filter (lsB (kL (wK W)) (kW (wK W)) (kN (wK W)) hold no m)).length)), .ref 146] g1 A1 _
          refine rp_54 d_271_77 mo_271 fl_373  ?_
          refine rr_nx (pc' := 81) (al' := [some (.ref 146), some (.int (nI m)), some (.int (nI hold)), some (.int (nI no))]) (st' := [.ref 146]) d_271_80 (fun _ => rfl) ?_
          refine rr_nx (pc' := 82) (al' := [some (.ref 146), some (.int (nI m)), some (.int (nI hold)), some (.int (nI no))]) (st' := [.ref 146, .ref 146]) d_271_81 (fun _ => rfl) ?_
          refine rr_gf (v := .int (g1 1)) d_271_82 mo_271 fl_103 rfl ?_
          refine rp_50 d_271_85 mo_271 fl_94  ?_
          refine rr_nx (pc' := 89) (al' := [some (.ref 146), some (.int (nI m)), some (.int (nI hold)), some (.int (nI no))]) (st' := [.ref 146]) d_271_88 (fun _ => rfl) ?_
          refine rr_nx (pc' := 90) (al' := [some (.ref 146), some (.int (nI m)), some (.int (nI hold)), some (.int (nI no))]) (st' := [.int (nI m), .ref 146]) d_271_89 (fun _ => rfl) ?_
          refine rp_51 d_271_90 mo_271 fl_364  ?_
          refine rr_nx (pc' := 94) (al' := [some (.ref 146), some (.int (nI m)), some (.int (nI hold)), some (.int (nI no))]) (st' := [.ref 146]) d_271_93 (fun _ => rfl) ?_
          refine rr_nx (pc' := 95) (al' := [some (.ref 146), some (.int (nI m)), some (.int (nI hold)), some (.int (nI no))]) (st' := [.int (nI hold), .ref 146]) d_271_94 (fun _ => rfl) ?_
          refine rp_52 d_271_95 mo_271 fl_367  ?_
          refine rr_nx (pc' := 99) (al' := [some (.ref 146), some (.int (nI m)), some (.int (nI hold)), some (.int (nI no))]) (st' := [.ref 146]) d_271_98 (fun _ => rfl) ?_
          refine rr_nx (pc' := 100) (al' := [some (.ref 146), some (.int (nI m)), some (.int (nI hold)), some (.int (nI no))]) (st' := [.int (nI no), .ref 146]) d_271_99 (fun _ => rfl) ?_
          refine rp_53 d_271_100 mo_271 fl_370  ?_
          refine rr_nx (pc' := 104) (al' := [some (.ref 146), some (.int (nI m)), some (.int (nI hold)), some (.int (nI no))]) (st' := [.ref 146]) d_271_103 (fun _ => rfl) ?_
          refine rr_gf (v := .int (nI (((flA m (T00 m)).filter (lsB (kL (wK W)) (kW (wK W)) (kN (wK W)) hold no m)).length))) d_271_104 mo_271 fl_373 rfl ?_
          exact rr_ri d_271_107 mr_271 rfl ⟨rfl, (hW.vc hg1 ha1 hm6 (by omega) (by omega)).mo⟩
        · refine rr_nx (pc' := 40) (al' := [some (.ref 146), some (.int (nI m)), some (.int (nI hold)), some (.int (nI no))]) (st' := [.ref 146]) d_271_39 (fun _ => rfl) ?_
          refine rr_gf (v := .int (g 51)) d_271_40 mo_271 fl_364 rfl ?_
          refine rr_nx (pc' := 44) (al' := [some (.ref 146), some (.int (nI m)), some (.int (nI hold)), some (.int (nI no))]) (st' := [.int (nI m), .int (g 51)]) d_271_43 (fun _ => rfl) ?_
          refine rr_cne (t := 68) d_271_44 (by decide) (fun c44 => ?_) (fun c44 => ?_)
          · refine rr_nx (pc' := 69) (al' := [some (.ref 146), some (.int (nI m)), some (.int (nI hold)), some (.int (nI no))]) (st' := [.ref 146]) d_271_68 (fun _ => rfl) ?_
            refine rr_nx (pc' := 70) (al' := [some (.ref 146), some (.int (nI m)), some (.int (nI hold)), some (.int (nI no))]) (st' := [.ref 146, .ref 146]) d_271_69 (fun _ => rfl) ?_
            refine rr_nx (pc' := 71) (al' := [some (.ref 146), some (.int (nI m)), some (.int (nI hold)), some (.int (nI no))]) (st' := [.int (nI m), .ref 146, .ref 146]) d_271_70 (fun _ => rfl) ?_
            refine rr_nx (pc' := 72) (al' := [some (.ref 146), some (.int (nI m)), some (.int (nI hold)), some (.int (nI no))]) (st' := [.int (nI hold), .int (nI m), .ref 146, .ref 146]) d_271_71 (fun _ => rfl) ?_
            refine rr_nx (pc' := 73) (al' := [some (.ref 146), some (.int (nI m)), some (.int (nI hold)), some (.int (nI no))]) (st' := [.int (nI no), .int (nI hold), .int (nI m), .ref 146, .ref 146]) d_271_72 (fun _ => rfl) ?_
            refine rr_nx (pc' := 74) (al' := [some (.ref 146), some (.int (nI m)), some (.int (nI hold)), some (.int (nI no))]) (st' := [.int (-1), .int (nI no), .int (nI hold), .int (nI m), .ref 146, .ref 146]) d_271_73 (fun _ => rfl) ?_
            refine rr_cv (as := [.int (nI m), .int (nI hold), .int (nI no), .int (-1)]) (al0 := [some (.ref 146), some (.int (nI m)), some (.int (nI hold)), some (.int (nI no)), some (.int (-1)), none]) (r := [.ref 146]) d_271_74 mo_271 ml_376 mz_273 rfl rfl rfl (rr_wk (Nat.le_of_ble_eq_true rfl) (s_lists (s := none) (hold := hold) (no := no) hm6 h1 (hW.lk hO) (by omega) (by omega) hW.2.2.2.2.2.2.2.2.1 (show 0 + (flA m (T00 m)).length ≤ 100000 by have := fl_9408 hm6 h1; omega))) (fun v1 g1 A1 h1x => ?_)
            obtain ⟨q0_, h8_, hg1, ha1, hx1⟩ := h1x
            rw [show capN none ((flA m (T00 m)).filter (lsB (kL (wK W)) (kW (wK W)) (kN (wK W)) hold no m)).length = ((flA m (T00 m)).filter (lsB (kL (wK W)) (kW (wK W)) (kN (wK W)) hold no m)).length from rfl] at q0_
            obtain rfl := q0_
            show RR _ _ 77 [some (.ref 146), some (.int (nI m)), some (.int (nI hold)), some (.int (nI no))] [.int (nI (((flA m (T00 m)).filter (lsB (kL (wK W)) (kW (wK W)) (kN (wK W)) hold no m)).length)), .ref 146] g1 A1 _
            refine rp_54 d_271_77 mo_271 fl_373  ?_
            refine rr_nx (pc' := 81) (al' := [some (.ref 146), some (.int (nI m)), some (.int (nI hold)), some (.int (nI no))]) (st' := [.ref 146]) d_271_80 (fun _ => rfl) ?_
            refine rr_nx (pc' := 82) (al' := [some (.ref 146), some (.int (nI m)), some (.int (nI hold)), some (.int (nI no))]) (st' := [.ref 146, .ref 146]) d_271_81 (fun _ => rfl) ?_
            refine rr_gf (v := .int (g1 1)) d_271_82 mo_271 fl_103 rfl ?_
            refine rp_50 d_271_85 mo_271 fl_94  ?_
            refine rr_nx (pc' := 89) (al' := [some (.ref 146), some (.int (nI m)), some (.int (nI hold)), some (.int (nI no))]) (st' := [.ref 146]) d_271_88 (fun _ => rfl) ?_
            refine rr_nx (pc' := 90) (al' := [some (.ref 146), some (.int (nI m)), some (.int (nI hold)), some (.int (nI no))]) (st' := [.int (nI m), .ref 146]) d_271_89 (fun _ => rfl) ?_
            refine rp_51 d_271_90 mo_271 fl_364  ?_
            refine rr_nx (pc' := 94) (al' := [some (.ref 146), some (.int (nI m)), some (.int (nI hold)), some (.int (nI no))]) (st' := [.ref 146]) d_271_93 (fun _ => rfl) ?_
            refine rr_nx (pc' := 95) (al' := [some (.ref 146), some (.int (nI m)), some (.int (nI hold)), some (.int (nI no))]) (st' := [.int (nI hold), .ref 146]) d_271_94 (fun _ => rfl) ?_
            refine rp_52 d_271_95 mo_271 fl_367  ?_
            refine rr_nx (pc' := 99) (al' := [some (.ref 146), some (.int (nI m)), some (.int (nI hold)), some (.int (nI no))]) (st' := [.ref 146]) d_271_98 (fun _ => rfl) ?_
            refine rr_nx (pc' := 100) (al' := [some (.ref 146), some (.int (nI m)), some (.int (nI hold)), some (.int (nI no))]) (st' := [.int (nI no), .ref 146]) d_271_99 (fun _ => rfl) ?_
            refine rp_53 d_271_100 mo_271 fl_370  ?_
            refine rr_nx (pc' := 104) (al' := [some (.ref 146), some (.int (nI m)), some (.int (nI hold)), some (.int (nI no))]) (st' := [.ref 146]) d_271_103 (fun _ => rfl) ?_
            refine rr_gf (v := .int (nI (((flA m (T00 m)).filter (lsB (kL (wK W)) (kW (wK W)) (kN (wK W)) hold no m)).length))) d_271_104 mo_271 fl_373 rfl ?_
            exact rr_ri d_271_107 mr_271 rfl ⟨rfl, (hW.vc hg1 ha1 hm6 (by omega) (by omega)).mo⟩
          · refine rr_nx (pc' := 48) (al' := [some (.ref 146), some (.int (nI m)), some (.int (nI hold)), some (.int (nI no))]) (st' := [.ref 146]) d_271_47 (fun _ => rfl) ?_
            refine rr_gf (v := .int (g 52)) d_271_48 mo_271 fl_367 rfl ?_
            refine rr_nx (pc' := 52) (al' := [some (.ref 146), some (.int (nI m)), some (.int (nI hold)), some (.int (nI no))]) (st' := [.int (nI hold), .int (g 52)]) d_271_51 (fun _ => rfl) ?_
            refine rr_cne (t := 68) d_271_52 (by decide) (fun c52 => ?_) (fun c52 => ?_)
            · refine rr_nx (pc' := 69) (al' := [some (.ref 146), some (.int (nI m)), some (.int (nI hold)), some (.int (nI no))]) (st' := [.ref 146]) d_271_68 (fun _ => rfl) ?_
              refine rr_nx (pc' := 70) (al' := [some (.ref 146), some (.int (nI m)), some (.int (nI hold)), some (.int (nI no))]) (st' := [.ref 146, .ref 146]) d_271_69 (fun _ => rfl) ?_
              refine rr_nx (pc' := 71) (al' := [some (.ref 146), some (.int (nI m)), some (.int (nI hold)), some (.int (nI no))]) (st' := [.int (nI m), .ref 146, .ref 146]) d_271_70 (fun _ => rfl) ?_
              refine rr_nx (pc' := 72) (al' := [some (.ref 146), some (.int (nI m)), some (.int (nI hold)), some (.int (nI no))]) (st' := [.int (nI hold), .int (nI m), .ref 146, .ref 146]) d_271_71 (fun _ => rfl) ?_
              refine rr_nx (pc' := 73) (al' := [some (.ref 146), some (.int (nI m)), some (.int (nI hold)), some (.int (nI no))]) (st' := [.int (nI no), .int (nI hold), .int (nI m), .ref 146, .ref 146]) d_271_72 (fun _ => rfl) ?_
              refine rr_nx (pc' := 74) (al' := [some (.ref 146), some (.int (nI m)), some (.int (nI hold)), some (.int (nI no))]) (st' := [.int (-1), .int (nI no), .int (nI hold), .int (nI m), .ref 146, .ref 146]) d_271_73 (fun _ => rfl) ?_
              refine rr_cv (as := [.int (nI m), .int (nI hold), .int (nI no), .int (-1)]) (al0 := [some (.ref 146), some (.int (nI m)), some (.int (nI hold)), some (.int (nI no)), some (.int (-1)), none]) (r := [.ref 146]) d_271_74 mo_271 ml_376 mz_273 rfl rfl rfl (rr_wk (Nat.le_of_ble_eq_true rfl) (s_lists (s := none) (hold := hold) (no := no) hm6 h1 (hW.lk hO) (by omega) (by omega) hW.2.2.2.2.2.2.2.2.1 (show 0 + (flA m (T00 m)).length ≤ 100000 by have := fl_9408 hm6 h1; omega))) (fun v1 g1 A1 h1x => ?_)
              obtain ⟨q0_, h8_, hg1, ha1, hx1⟩ := h1x
              rw [show capN none ((flA m (T00 m)).filter (lsB (kL (wK W)) (kW (wK W)) (kN (wK W)) hold no m)).length = ((flA m (T00 m)).filter (lsB (kL (wK W)) (kW (wK W)) (kN (wK W)) hold no m)).length from rfl] at q0_
              obtain rfl := q0_
              show RR _ _ 77 [some (.ref 146), some (.int (nI m)), some (.int (nI hold)), some (.int (nI no))] [.int (nI (((flA m (T00 m)).filter (lsB (kL (wK W)) (kW (wK W)) (kN (wK W)) hold no m)).length)), .ref 146] g1 A1 _
              refine rp_54 d_271_77 mo_271 fl_373  ?_
              refine rr_nx (pc' := 81) (al' := [some (.ref 146), some (.int (nI m)), some (.int (nI hold)), some (.int (nI no))]) (st' := [.ref 146]) d_271_80 (fun _ => rfl) ?_
              refine rr_nx (pc' := 82) (al' := [some (.ref 146), some (.int (nI m)), some (.int (nI hold)), some (.int (nI no))]) (st' := [.ref 146, .ref 146]) d_271_81 (fun _ => rfl) ?_
              refine rr_gf (v := .int (g1 1)) d_271_82 mo_271 fl_103 rfl ?_
              refine rp_50 d_271_85 mo_271 fl_94  ?_
              refine rr_nx (pc' := 89) (al' := [some (.ref 146), some (.int (nI m)), some (.int (nI hold)), some (.int (nI no))]) (st' := [.ref 146]) d_271_88 (fun _ => rfl) ?_
              refine rr_nx (pc' := 90) (al' := [some (.ref 146), some (.int (nI m)), some (.int (nI hold)), some (.int (nI no))]) (st' := [.int (nI m), .ref 146]) d_271_89 (fun _ => rfl) ?_
              refine rp_51 d_271_90 mo_271 fl_364  ?_
              refine rr_nx (pc' := 94) (al' := [some (.ref 146), some (.int (nI m)), some (.int (nI hold)), some (.int (nI no))]) (st' := [.ref 146]) d_271_93 (fun _ => rfl) ?_
              refine rr_nx (pc' := 95) (al' := [some (.ref 146), some (.int (nI m)), some (.int (nI hold)), some (.int (nI no))]) (st' := [.int (nI hold), .ref 146]) d_271_94 (fun _ => rfl) ?_
              refine rp_52 d_271_95 mo_271 fl_367  ?_
              refine rr_nx (pc' := 99) (al' := [some (.ref 146), some (.int (nI m)), some (.int (nI hold)), some (.int (nI no))]) (st' := [.ref 146]) d_271_98 (fun _ => rfl) ?_
              refine rr_nx (pc' := 100) (al' := [some (.ref 146), some (.int (nI m)), some (.int (nI hold)), some (.int (nI no))]) (st' := [.int (nI no), .ref 146]) d_271_99 (fun _ => rfl) ?_
              refine rp_53 d_271_100 mo_271 fl_370  ?_
              refine rr_nx (pc' := 104) (al' := [some (.ref 146), some (.int (nI m)), some (.int (nI hold)), some (.int (nI no))]) (st' := [.ref 146]) d_271_103 (fun _ => rfl) ?_
              refine rr_gf (v := .int (nI (((flA m (T00 m)).filter (lsB (kL (wK W)) (kW (wK W)) (kN (wK W)) hold no m)).length))) d_271_104 mo_271 fl_373 rfl ?_
              exact rr_ri d_271_107 mr_271 rfl ⟨rfl, (hW.vc hg1 ha1 hm6 (by omega) (by omega)).mo⟩
            · refine rr_nx (pc' := 56) (al' := [some (.ref 146), some (.int (nI m)), some (.int (nI hold)), some (.int (nI no))]) (st' := [.ref 146]) d_271_55 (fun _ => rfl) ?_
              refine rr_gf (v := .int (g 53)) d_271_56 mo_271 fl_370 rfl ?_
              refine rr_nx (pc' := 60) (al' := [some (.ref 146), some (.int (nI m)), some (.int (nI hold)), some (.int (nI no))]) (st' := [.int (nI no), .int (g 53)]) d_271_59 (fun _ => rfl) ?_
              refine rr_cne (t := 68) d_271_60 (by decide) (fun c60 => ?_) (fun c60 => ?_)
              · refine rr_nx (pc' := 69) (al' := [some (.ref 146), some (.int (nI m)), some (.int (nI hold)), some (.int (nI no))]) (st' := [.ref 146]) d_271_68 (fun _ => rfl) ?_
                refine rr_nx (pc' := 70) (al' := [some (.ref 146), some (.int (nI m)), some (.int (nI hold)), some (.int (nI no))]) (st' := [.ref 146, .ref 146]) d_271_69 (fun _ => rfl) ?_
                refine rr_nx (pc' := 71) (al' := [some (.ref 146), some (.int (nI m)), some (.int (nI hold)), some (.int (nI no))]) (st' := [.int (nI m), .ref 146, .ref 146]) d_271_70 (fun _ => rfl) ?_
                refine rr_nx (pc' := 72) (al' := [some (.ref 146), some (.int (nI m)), some (.int (nI hold)), some (.int (nI no))]) (st' := [.int (nI hold), .int (nI m), .ref 146, .ref 146]) d_271_71 (fun _ => rfl) ?_
                refine rr_nx (pc' := 73) (al' := [some (.ref 146), some (.int (nI m)), some (.int (nI hold)), some (.int (nI no))]) (st' := [.int (nI no), .int (nI hold), .int (nI m), .ref 146, .ref 146]) d_271_72 (fun _ => rfl) ?_
                refine rr_nx (pc' := 74) (al' := [some (.ref 146), some (.int (nI m)), some (.int (nI hold)), some (.int (nI no))]) (st' := [.int (-1), .int (nI no), .int (nI hold), .int (nI m), .ref 146, .ref 146]) d_271_73 (fun _ => rfl) ?_
                refine rr_cv (as := [.int (nI m), .int (nI hold), .int (nI no), .int (-1)]) (al0 := [some (.ref 146), some (.int (nI m)), some (.int (nI hold)), some (.int (nI no)), some (.int (-1)), none]) (r := [.ref 146]) d_271_74 mo_271 ml_376 mz_273 rfl rfl rfl (rr_wk (Nat.le_of_ble_eq_true rfl) (s_lists (s := none) (hold := hold) (no := no) hm6 h1 (hW.lk hO) (by omega) (by omega) hW.2.2.2.2.2.2.2.2.1 (show 0 + (flA m (T00 m)).length ≤ 100000 by have := fl_9408 hm6 h1; omega))) (fun v1 g1 A1 h1x => ?_)
                obtain ⟨q0_, h8_, hg1, ha1, hx1⟩ := h1x
                rw [show capN none ((flA m (T00 m)).filter (lsB (kL (wK W)) (kW (wK W)) (kN (wK W)) hold no m)).length = ((flA m (T00 m)).filter (lsB (kL (wK W)) (kW (wK W)) (kN (wK W)) hold no m)).length from rfl] at q0_
                obtain rfl := q0_
                show RR _ _ 77 [some (.ref 146), some (.int (nI m)), some (.int (nI hold)), some (.int (nI no))] [.int (nI (((flA m (T00 m)).filter (lsB (kL (wK W)) (kW (wK W)) (kN (wK W)) hold no m)).length)), .ref 146] g1 A1 _
                refine rp_54 d_271_77 mo_271 fl_373  ?_
                refine rr_nx (pc' := 81) (al' := [some (.ref 146), some (.int (nI m)), some (.int (nI hold)), some (.int (nI no))]) (st' := [.ref 146]) d_271_80 (fun _ => rfl) ?_
                refine rr_nx (pc' := 82) (al' := [some (.ref 146), some (.int (nI m)), some (.int (nI hold)), some (.int (nI no))]) (st' := [.ref 146, .ref 146]) d_271_81 (fun _ => rfl) ?_
                refine rr_gf (v := .int (g1 1)) d_271_82 mo_271 fl_103 rfl ?_
                refine rp_50 d_271_85 mo_271 fl_94  ?_
                refine rr_nx (pc' := 89) (al' := [some (.ref 146), some (.int (nI m)), some (.int (nI hold)), some (.int (nI no))]) (st' := [.ref 146]) d_271_88 (fun _ => rfl) ?_
                refine rr_nx (pc' := 90) (al' := [some (.ref 146), some (.int (nI m)), some (.int (nI hold)), some (.int (nI no))]) (st' := [.int (nI m), .ref 146]) d_271_89 (fun _ => rfl) ?_
                refine rp_51 d_271_90 mo_271 fl_364  ?_
                refine rr_nx (pc' := 94) (al' := [some (.ref 146), some (.int (nI m)), some (.int (nI hold)), some (.int (nI no))]) (st' := [.ref 146]) d_271_93 (fun _ => rfl) ?_
                refine rr_nx (pc' := 95) (al' := [some (.ref 146), some (.int (nI m)), some (.int (nI hold)), some (.int (nI no))]) (st' := [.int (nI hold), .ref 146]) d_271_94 (fun _ => rfl) ?_
                refine rp_52 d_271_95 mo_271 fl_367  ?_
                refine rr_nx (pc' := 99) (al' := [some (.ref 146), some (.int (nI m)), some (.int (nI hold)), some (.int (nI no))]) (st' := [.ref 146]) d_271_98 (fun _ => rfl) ?_
                refine rr_nx (pc' := 100) (al' := [some (.ref 146), some (.int (nI m)), some (.int (nI hold)), some (.int (nI no))]) (st' := [.int (nI no), .ref 146]) d_271_99 (fun _ => rfl) ?_
                refine rp_53 d_271_100 mo_271 fl_370  ?_
                refine rr_nx (pc' := 104) (al' := [some (.ref 146), some (.int (nI m)), some (.int (nI hold)), some (.int (nI no))]) (st' := [.ref 146]) d_271_103 (fun _ => rfl) ?_
                refine rr_gf (v := .int (nI (((flA m (T00 m)).filter (lsB (kL (wK W)) (kW (wK W)) (kN (wK W)) hold no m)).length))) d_271_104 mo_271 fl_373 rfl ?_
                exact rr_ri d_271_107 mr_271 rfl ⟨rfl, (hW.vc hg1 ha1 hm6 (by omega) (by omega)).mo⟩
              · refine rr_nx (pc' := 64) (al' := [some (.ref 146), some (.int (nI m)), some (.int (nI hold)), some (.int (nI no))]) (st' := [.ref 146]) d_271_63 (fun _ => rfl) ?_
                refine rr_gf (v := .int (g 54)) d_271_64 mo_271 fl_373 rfl ?_
                exact rr_ri d_271_67 mr_271 rfl ⟨congrArg (fun z__ => some (Value.int z__)) (hW.2.2.2.2.2.2.2.2.2.hit hn5 hm6 (by omega) (by omega) c36 c44 c52 c60), hW.mo⟩
      · exact absurd ((in_j (by omega)).mpr hno) c23
theorem p_listed_n {S : CS} {G : Nat → Nat → Value} {B : Nat → Nat → Int32} {J : Nat → Nat → Int64} {R : Nat → Nat → Option Nat} {n : Nat} {W : WS} (hW : WC n S G B R W)  {x z v : Int32} (hx : ¬ (szP x ∧ inP z (1 * 2 ^ kL (wK W)) ∧ inP v (1 * 2 ^ kL (wK W)))) : CR 80 145 0 [some (.ref 2), some (.int x), some (.int z), some (.int v)] [] S G B J R (fun r__ S' G' B' J' R' => r__ = some (.int (-1)) ∧ WC (n + 1) S' G' B' R' W) := by
  have hS := hW.1.1
  have hF := hW.2.1
  have hO := hW.2.2.2.1
  obtain ⟨ta, ka, la, hH, hLk, hl2, hs3, hbd⟩ := hW.2.2.1
  refine cr_nx (pc' := 1) (al' := [some (.ref 2), some (.int x), some (.int z), some (.int v)]) (st' := [.int x]) d_145_0 (fun _ => rfl) ?_
  refine cr_ps (as := [.int x]) (al0 := [some (.int x)]) (r := []) d_145_1 cw_145 cm_11_119 (by decide) cz_121 rfl rfl rfl (Nat.le_of_ble_eq_true rfl) (k_isSize) ?_
  show CR _ _ 4 [some (.ref 2), some (.int x), some (.int z), some (.int v)] [.int (bI (szP x))] S G B J R _
  refine cr_beq (t := 23) d_145_4 (by decide) (fun c4 => ?_) (fun c4 => ?_)
  · refine cr_nx (pc' := 24) (al' := [some (.ref 2), some (.int x), some (.int z), some (.int v)]) (st' := [.int (-1)]) d_145_23 (fun _ => rfl) ?_
    exact cr_ri d_145_24 cx_145 rfl ⟨rfl, hW.mo⟩
  · refine cr_nx (pc' := 8) (al' := [some (.ref 2), some (.int x), some (.int z), some (.int v)]) (st' := [.ref 2]) d_145_7 (fun _ => rfl) ?_
    refine cr_nx (pc' := 9) (al' := [some (.ref 2), some (.int x), some (.int z), some (.int v)]) (st' := [.int z, .ref 2]) d_145_8 (fun _ => rfl) ?_
    refine cr_pv (b := 2) (as := [.int z]) (al0 := [some (.ref 2), some (.int z)]) (r := []) d_145_9 cw_145 cm_11_258 cz_146 rfl rfl (hS.i (a := 2) (by decide) (by decide)) (by rw [cw_146]; exact (hS.s (a := 2) (by decide) (by decide) rfl)) (by rw [cw_146]; decide) rfl (Nat.le_of_ble_eq_true rfl) (k_areLaws hS hF hl2 hO.2.1) ?_
    show CR _ _ 12 [some (.ref 2), some (.int x), some (.int z), some (.int v)] [.int (bI (inP z (1 * 2 ^ kL (wK W))))] S G B J R _
    refine cr_beq (t := 23) d_145_12 (by decide) (fun c12 => ?_) (fun c12 => ?_)
    · refine cr_nx (pc' := 24) (al' := [some (.ref 2), some (.int x), some (.int z), some (.int v)]) (st' := [.int (-1)]) d_145_23 (fun _ => rfl) ?_
      exact cr_ri d_145_24 cx_145 rfl ⟨rfl, hW.mo⟩
    · refine cr_nx (pc' := 16) (al' := [some (.ref 2), some (.int x), some (.int z), some (.int v)]) (st' := [.ref 2]) d_145_15 (fun _ => rfl) ?_
      refine cr_nx (pc' := 17) (al' := [some (.ref 2), some (.int x), some (.int z), some (.int v)]) (st' := [.int v, .ref 2]) d_145_16 (fun _ => rfl) ?_
      refine cr_pv (b := 2) (as := [.int v]) (al0 := [some (.ref 2), some (.int v)]) (r := []) d_145_17 cw_145 cm_11_258 cz_146 rfl rfl (hS.i (a := 2) (by decide) (by decide)) (by rw [cw_146]; exact (hS.s (a := 2) (by decide) (by decide) rfl)) (by rw [cw_146]; decide) rfl (Nat.le_of_ble_eq_true rfl) (k_areLaws hS hF hl2 hO.2.1) ?_
      show CR _ _ 20 [some (.ref 2), some (.int x), some (.int z), some (.int v)] [.int (bI (inP v (1 * 2 ^ kL (wK W))))] S G B J R _
      refine cr_bne (t := 25) d_145_20 (by decide) (fun c20 => ?_) (fun c20 => ?_)
      · exact absurd ⟨c4, c12, c20⟩ hx
      · refine cr_nx (pc' := 24) (al' := [some (.ref 2), some (.int x), some (.int z), some (.int v)]) (st' := [.int (-1)]) d_145_23 (fun _ => rfl) ?_
        exact cr_ri d_145_24 cx_145 rfl ⟨rfl, hW.mo⟩
theorem r_listed_n {g : Nat → Int32} {A : Nat → Nat → Int32} {n : Nat} {W : WS} (hW : WR n g A W) (hO : CoOk (wK W))  {x z v : Int32} (hx : ¬ (szP x ∧ inP z (1 * 2 ^ kL (wK W)) ∧ inP v (1 * 2 ^ kL (wK W)))) : RR 80 271 0 [some (.ref 146), some (.int x), some (.int z), some (.int v)] [] g A (fun r__ g' A' => r__ = some (.int (-1)) ∧ WR (n + 1) g' A' W) := by
  refine rr_nx (pc' := 1) (al' := [some (.ref 146), some (.int x), some (.int z), some (.int v)]) (st' := [.int x]) d_271_0 (fun _ => rfl) ?_
  refine rn_ic (v := 1) d_271_1 (by decide) ?_
  refine rn_bp (v := 6) d_271_2 (by decide) ?_
  refine rr_ps (as := [.int x, .int (nI 1), .int (nI 6)]) (al0 := [some (.int x), some (.int (nI 1)), some (.int (nI 6))]) (r := []) d_271_4 mo_271 ml_106 mz_179 rfl rfl rfl (Nat.le_of_ble_eq_true rfl) (s_lies x (nI 1) (nI 6)) ?_
  show RR _ _ 7 [some (.ref 146), some (.int x), some (.int z), some (.int v)] [.int (bI ((nI 1) ≤ x ∧ x ≤ (nI 6)))] g A _
  refine rr_beq (t := 26) d_271_7 (by decide) (fun c7 => ?_) (fun c7 => ?_)
  · refine rr_nx (pc' := 27) (al' := [some (.ref 146), some (.int x), some (.int z), some (.int v)]) (st' := [.int (-1)]) d_271_26 (fun _ => rfl) ?_
    exact rr_ri d_271_27 mr_271 rfl ⟨rfl, hW.mo⟩
  · refine rr_nx (pc' := 11) (al' := [some (.ref 146), some (.int x), some (.int z), some (.int v)]) (st' := [.ref 146]) d_271_10 (fun _ => rfl) ?_
    refine rr_nx (pc' := 12) (al' := [some (.ref 146), some (.int x), some (.int z), some (.int v)]) (st' := [.int z, .ref 146]) d_271_11 (fun _ => rfl) ?_
    refine rr_pv (as := [.int z]) (al0 := [some (.ref 146), some (.int z)]) (r := []) d_271_12 mo_271 ml_361 mz_272 rfl rfl rfl (Nat.le_of_ble_eq_true rfl) (s_areLaws hW hO) ?_
    show RR _ _ 15 [some (.ref 146), some (.int x), some (.int z), some (.int v)] [.int (bI (inP z (1 * 2 ^ kL (wK W))))] g A _
    refine rr_beq (t := 26) d_271_15 (by decide) (fun c15 => ?_) (fun c15 => ?_)
    · refine rr_nx (pc' := 27) (al' := [some (.ref 146), some (.int x), some (.int z), some (.int v)]) (st' := [.int (-1)]) d_271_26 (fun _ => rfl) ?_
      exact rr_ri d_271_27 mr_271 rfl ⟨rfl, hW.mo⟩
    · refine rr_nx (pc' := 19) (al' := [some (.ref 146), some (.int x), some (.int z), some (.int v)]) (st' := [.ref 146]) d_271_18 (fun _ => rfl) ?_
      refine rr_nx (pc' := 20) (al' := [some (.ref 146), some (.int x), some (.int z), some (.int v)]) (st' := [.int v, .ref 146]) d_271_19 (fun _ => rfl) ?_
      refine rr_pv (as := [.int v]) (al0 := [some (.ref 146), some (.int v)]) (r := []) d_271_20 mo_271 ml_361 mz_272 rfl rfl rfl (Nat.le_of_ble_eq_true rfl) (s_areLaws hW hO) ?_
      show RR _ _ 23 [some (.ref 146), some (.int x), some (.int z), some (.int v)] [.int (bI (inP v (1 * 2 ^ kL (wK W))))] g A _
      refine rr_bne (t := 28) d_271_23 (by decide) (fun c23 => ?_) (fun c23 => ?_)
      · exact absurd ⟨sz_r.mp c7, c15, c23⟩ hx
      · refine rr_nx (pc' := 27) (al' := [some (.ref 146), some (.int x), some (.int z), some (.int v)]) (st' := [.int (-1)]) d_271_26 (fun _ => rfl) ?_
        exact rr_ri d_271_27 mr_271 rfl ⟨rfl, hW.mo⟩
theorem T_listed {S : CS} {G : Nat → Nat → Value} {B : Nat → Nat → Int32} {J : Nat → Nat → Int64} {R : Nat → Nat → Option Nat} {g : Nat → Int32} {A : Nat → Nat → Int32} {n : Nat} {W : WS} (hC : WC n S G B R W) (hR : WR n g A W) (hn : n ≤ 10000) {x : Int32} {z : Int32} {v : Int32} : Tie n 145 271 [some (.ref 2), some (.int x), some (.int z), some (.int v)] [some (.ref 146), some (.int x), some (.int z), some (.int v)] S G B J R g A W := by
  have hO := hC.2.2.2.1
  by_cases hx : szP x ∧ inP z (1 * 2 ^ kL (wK W)) ∧ inP v (1 * 2 ^ kL (wK W))
  · obtain ⟨m, h1, hm6, e_⟩ := sz_n hx.1
    subst e_
    obtain ⟨hold, hh, e_⟩ := in_n hx.2.1
    subst e_
    obtain ⟨no, hno, e_⟩ := in_n hx.2.2
    subst e_
    exact ⟨_, W, p_listed_y hC h1 hm6 hh hno, r_listed_y hR hO h1 hm6 hh hno hn⟩
  · exact ⟨_, W, p_listed_n hC hx, r_listed_n hR hO hx⟩
theorem p_find_y {S : CS} {G : Nat → Nat → Value} {B : Nat → Nat → Int32} {J : Nat → Nat → Int64} {R : Nat → Nat → Option Nat} {n : Nat} {W : WS} (hW : WC n S G B R W) {k : Nat} (hk6 : k < 6) {m : Nat} (h1 : 1 ≤ m) (hm6 : m ≤ 6) {hold no : Nat} (hh : hold < 1 * 2 ^ kL (wK W)) (hno : no < 1 * 2 ^ kL (wK W)) {i : Nat} (hi : i < ((flA m (T00 m)).filter (lsB (kL (wK W)) (kW (wK W)) (kN (wK W)) hold no m)).length) : CR 80 147 0 [some (.ref 2), some (.int (nI k)), some (.int (nI m)), some (.int (nI hold)), some (.int (nI no)), some (.int (nI i))] [] S G B J R (fun r__ S' G' B' J' R' => r__ = some (.int (nI 0)) ∧ WC (n + 1) S' G' B' R' (chW W k (m, ((flA m (T00 m)).filter (lsB (kL (wK W)) (kW (wK W)) (kN (wK W)) hold no m)).getD i (fun _ => 0)))) := by
  have hS := hW.1.1
  have hF := hW.2.1
  have hO := hW.2.2.2.1
  obtain ⟨ta, ka, la, hH, hLk, hl2, hs3, hbd⟩ := hW.2.2.1
  have h256 : 1 * 2 ^ kL (wK W) ≤ 2 ^ 8 := by rw [Nat.one_mul]; exact Nat.pow_le_pow_right (by decide) hO.2.1
  have h94 : ((flA m (T00 m)).filter (lsB (kL (wK W)) (kW (wK W)) (kN (wK W)) hold no m)).length ≤ 9408 := fl_fil hm6 h1
  refine cr_nx (pc' := 1) (al' := [some (.ref 2), some (.int (nI k)), some (.int (nI m)), some (.int (nI hold)), some (.int (nI no)), some (.int (nI i))]) (st' := [.int (nI k)]) d_147_0 (fun _ => rfl) ?_
  refine cr_ps (as := [.int (nI k)]) (al0 := [some (.int (nI k))]) (r := []) d_147_1 cw_147 cm_11_100 (by decide) cz_118 rfl rfl rfl (Nat.le_of_ble_eq_true rfl) (k_isPlace) ?_
  show CR _ _ 4 [some (.ref 2), some (.int (nI k)), some (.int (nI m)), some (.int (nI hold)), some (.int (nI no)), some (.int (nI i))] [.int (bI (inP (nI k) 6))] S G B J R _
  refine cr_beq (t := 31) d_147_4 (by decide) (fun c4 => ?_) (fun c4 => ?_)
  · exact absurd ((in_j (by omega)).mpr hk6) c4
  · refine cr_nx (pc' := 8) (al' := [some (.ref 2), some (.int (nI k)), some (.int (nI m)), some (.int (nI hold)), some (.int (nI no)), some (.int (nI i))]) (st' := [.int (nI m)]) d_147_7 (fun _ => rfl) ?_
    refine cr_ps (as := [.int (nI m)]) (al0 := [some (.int (nI m))]) (r := []) d_147_8 cw_147 cm_11_119 (by decide) cz_121 rfl rfl rfl (Nat.le_of_ble_eq_true rfl) (k_isSize) ?_
    show CR _ _ 11 [some (.ref 2), some (.int (nI k)), some (.int (nI m)), some (.int (nI hold)), some (.int (nI no)), some (.int (nI i))] [.int (bI (szP (nI m)))] S G B J R _
    refine cr_beq (t := 31) d_147_11 (by decide) (fun c11 => ?_) (fun c11 => ?_)
    · exact absurd (sz_j h1 hm6) c11
    · refine cr_nx (pc' := 15) (al' := [some (.ref 2), some (.int (nI k)), some (.int (nI m)), some (.int (nI hold)), some (.int (nI no)), some (.int (nI i))]) (st' := [.ref 2]) d_147_14 (fun _ => rfl) ?_
      refine cr_nx (pc' := 16) (al' := [some (.ref 2), some (.int (nI k)), some (.int (nI m)), some (.int (nI hold)), some (.int (nI no)), some (.int (nI i))]) (st' := [.int (nI hold), .ref 2]) d_147_15 (fun _ => rfl) ?_
      refine cr_pv (b := 2) (as := [.int (nI hold)]) (al0 := [some (.ref 2), some (.int (nI hold))]) (r := []) d_147_16 cw_147 cm_11_258 cz_146 rfl rfl (hS.i (a := 2) (by decide) (by decide)) (by rw [cw_146]; exact (hS.s (a := 2) (by decide) (by decide) rfl)) (by rw [cw_146]; decide) rfl (Nat.le_of_ble_eq_true rfl) (k_areLaws hS hF hl2 hO.2.1) ?_
      show CR _ _ 19 [some (.ref 2), some (.int (nI k)), some (.int (nI m)), some (.int (nI hold)), some (.int (nI no)), some (.int (nI i))] [.int (bI (inP (nI hold) (1 * 2 ^ kL (wK W))))] S G B J R _
      refine cr_beq (t := 31) d_147_19 (by decide) (fun c19 => ?_) (fun c19 => ?_)
      · exact absurd ((in_j (by omega)).mpr hh) c19
      · refine cr_nx (pc' := 23) (al' := [some (.ref 2), some (.int (nI k)), some (.int (nI m)), some (.int (nI hold)), some (.int (nI no)), some (.int (nI i))]) (st' := [.ref 2]) d_147_22 (fun _ => rfl) ?_
        refine cr_nx (pc' := 25) (al' := [some (.ref 2), some (.int (nI k)), some (.int (nI m)), some (.int (nI hold)), some (.int (nI no)), some (.int (nI i))]) (st' := [.int (nI no), .ref 2]) d_147_23 (fun _ => rfl) ?_
        refine cr_pv (b := 2) (as := [.int (nI no)]) (al0 := [some (.ref 2), some (.int (nI no))]) (r := []) d_147_25 cw_147 cm_11_258 cz_146 rfl rfl (hS.i (a := 2) (by decide) (by decide)) (by rw [cw_146]; exact (hS.s (a := 2) (by decide) (by decide) rfl)) (by rw [cw_146]; decide) rfl (Nat.le_of_ble_eq_true rfl) (k_areLaws hS hF hl2 hO.2.1) ?_
        show CR _ _ 28 [some (.ref 2), some (.int (nI k)), some (.int (nI m)), some (.int (nI hold)), some (.int (nI no)), some (.int (nI i))] [.int (bI (inP (nI no) (1 * 2 ^ kL (wK W))))] S G B J R _
        refine cr_bne (t := 37) d_147_28 (by decide) (fun c28 => ?_) (fun c28 => ?_)
        · refine cr_nx (pc' := 38) (al' := [some (.ref 2), some (.int (nI k)), some (.int (nI m)), some (.int (nI hold)), some (.int (nI no)), some (.int (nI i))]) (st' := [.ref 2]) d_147_37 (fun _ => rfl) ?_
          refine cr_gf (v := .ref 96) d_147_38 cw_147 cf_11_55 (hS.i (a := 2) (by decide) (by decide)) (hS.s (a := 2) (by decide) (by decide) rfl) (by decide) (fx_2_9 hF) ?_
          refine cr_nx (pc' := 42) (al' := [some (.ref 2), some (.int (nI k)), some (.int (nI m)), some (.int (nI hold)), some (.int (nI no)), some (.int (nI i))]) (st' := [.ref 2, .ref 96]) d_147_41 (fun _ => rfl) ?_
          refine cr_gf (v := .ref 3) d_147_42 cw_147 cf_11_10 (hS.i (a := 2) (by decide) (by decide)) (hS.s (a := 2) (by decide) (by decide) rfl) (by decide) (fx_2_0 hF) ?_
          refine cr_gf (v := .ref 5) d_147_45 cw_147 cf_11_241 (hS.i (a := 3) (by decide) (by decide)) (hS.s (a := 3) (by decide) (by decide) rfl) (by decide) (fx_3_1 hF) ?_
          refine cr_nx (pc' := 49) (al' := [some (.ref 2), some (.int (nI k)), some (.int (nI m)), some (.int (nI hold)), some (.int (nI no)), some (.int (nI i))]) (st' := [.int (nI hold), .ref 5, .ref 96]) d_147_48 (fun _ => rfl) ?_
          refine cr_nx (pc' := 51) (al' := [some (.ref 2), some (.int (nI k)), some (.int (nI m)), some (.int (nI hold)), some (.int (nI no)), some (.int (nI i))]) (st' := [.int (nI no), .int (nI hold), .ref 5, .ref 96]) d_147_49 (fun _ => rfl) ?_
          refine cr_pv (b := 96) (as := [.ref 5, .int (nI hold), .int (nI no)]) (al0 := [some (.ref 96), some (.ref 5), some (.int (nI hold)), some (.int (nI no))]) (r := []) d_147_51 cw_147 cm_11_261 cz_35 rfl rfl (hS.i (a := 96) (by decide) (by decide)) (by rw [cw_35]; exact (hS.s (a := 96) (by decide) (by decide) rfl)) (by rw [cw_35]; decide) rfl (Nat.le_of_ble_eq_true rfl) (k_choose hS) ?_
          show CR _ _ 54 [some (.ref 2), some (.int (nI k)), some (.int (nI m)), some (.int (nI hold)), some (.int (nI no)), some (.int (nI i))] [] S (up2 (up2 (up2 G 96 4 (.ref 5)) 96 5 (.int (nI hold))) 96 6 (.int (nI no))) B J R _
          refine cr_nx (pc' := 56) (al' := [some (.ref 2), some (.int (nI k)), some (.int (nI m)), some (.int (nI hold)), some (.int (nI no)), some (.int (nI i))]) (st' := [.int (nI i)]) d_147_54 (fun _ => rfl) ?_
          refine cn_zlt (t := 72) d_147_56 (by decide) (by first | omega | assumption | exact cu_36 (by omega) (cu_lt (by omega) (by omega))) (fun c56 => ?_) (fun c56 => ?_)
          · exact c56.elim
          · refine cr_nx (pc' := 60) (al' := [some (.ref 2), some (.int (nI k)), some (.int (nI m)), some (.int (nI hold)), some (.int (nI no)), some (.int (nI i))]) (st' := [.ref 2]) d_147_59 (fun _ => rfl) ?_
            refine cr_gf (v := .ref 96) d_147_60 cw_147 cf_11_55 (hS.i (a := 2) (by decide) (by decide)) (hS.s (a := 2) (by decide) (by decide) rfl) (by decide) (by simp [up2]; exact (fx_2_9 hF)) ?_
            refine cr_nx (pc' := 64) (al' := [some (.ref 2), some (.int (nI k)), some (.int (nI m)), some (.int (nI hold)), some (.int (nI no)), some (.int (nI i))]) (st' := [.int (nI m), .ref 96]) d_147_63 (fun _ => rfl) ?_
            refine cr_nx (pc' := 66) (al' := [some (.ref 2), some (.int (nI k)), some (.int (nI m)), some (.int (nI hold)), some (.int (nI no)), some (.int (nI i))]) (st' := [.int (nI i), .int (nI m), .ref 96]) d_147_64 (fun _ => rfl) ?_
            refine cr_cv (b := 96) (as := [.int (nI m), .int (nI i)]) (al0 := [some (.ref 96), some (.int (nI m)), some (.int (nI i)), none]) (r := []) d_147_66 cw_147 cm_11_265 cz_36 rfl rfl (hS.i (a := 96) (by decide) (by decide)) (by rw [cw_36]; exact (hS.s (a := 96) (by decide) (by decide) rfl)) (by rw [cw_36]; decide) rfl (cr_wk (Nat.le_of_ble_eq_true rfl) (k_seek (wt := some i) (P := lsB (kL (wK W)) (kW (wK W)) (kN (wK W)) hold no m) hS (FxG.u9 (Or.inl ⟨rfl, Or.inr (by decide)⟩) (FxG.u9 (Or.inl ⟨rfl, Or.inr (by decide)⟩) (FxG.u9 (Or.inl ⟨rfl, Or.inr (by decide)⟩) hF))) hm6 h1 (fun _ e_ => by cases e_; omega) (fun G_ B_ e_ hb_ => by subst e_; exact ls_c hS (hLk.cg (fun a_ ha_ => by rw [up2_g (by omega), up2_g (by omega), up2_g (by omega), up2_g (by omega), up2_g (by omega), up2_g (by omega)]) (fun a_ ha_ => hb_ a_ (by simp; omega))) hm6 h1 up2_s (by rw [up2_n (by decide), up2_n (by decide), up2_n (by decide), up2_n (by decide), up2_n (by decide), up2_s]) (by rw [up2_n (by decide), up2_n (by decide), up2_n (by decide), up2_n (by decide), up2_s]) (by rw [up2_n (by decide), up2_n (by decide), up2_n (by decide), up2_s]) hh hno) (by have := fl_9408 hm6 h1; omega))) (fun v1 S1 G1 B1 J1 R1 h1x => ?_)
            obtain ⟨⟨q1_, q2_, q3_⟩, hg1, hF1, hb1, h97_, hor⟩ := h1x
            obtain rfl := q1_.symm
            obtain rfl := q2_.symm
            obtain rfl := q3_.symm
            have hW1 : WC n S G1 B1 R W := hW.q hF1 (Gfr.tr (((Gfr.rf.u (by decide)).u (by decide)).u (by decide)) (hg1.mo (by decide))) (hb1.mo (by decide))
            obtain ⟨q0_, w_, ew_, _, hcl_⟩ := hor.resolve_left (fun h_ => by have := h_.2.1 i rfl; omega)
            cases ew_
            obtain rfl := q0_
            show CR _ _ 69 [some (.ref 2), some (.int (nI k)), some (.int (nI m)), some (.int (nI hold)), some (.int (nI no)), some (.int (nI i))] [.int (nI 1)] S G1 B1 J R _
            refine cn_ine (t := 79) d_147_69 (by decide) (by first | omega | assumption | exact cu_36 (by omega) (cu_lt (by omega) (by omega))) (fun c69 => ?_) (fun c69 => ?_)
            · refine cr_nx (pc' := 80) (al' := [some (.ref 2), some (.int (nI k)), some (.int (nI m)), some (.int (nI hold)), some (.int (nI no)), some (.int (nI i))]) (st' := [.ref 2]) d_147_79 (fun _ => rfl) ?_
              refine cr_gf (v := .ref 86) d_147_80 cw_147 cf_11_38 (hS.i (a := 2) (by decide) (by decide)) (hS.s (a := 2) (by decide) (by decide) rfl) (by decide) (fx_2_6 hF1) ?_
              refine cr_nx (pc' := 84) (al' := [some (.ref 2), some (.int (nI k)), some (.int (nI m)), some (.int (nI hold)), some (.int (nI no)), some (.int (nI i))]) (st' := [.ref 2, .ref 86]) d_147_83 (fun _ => rfl) ?_
              refine cr_gf (v := .ref 96) d_147_84 cw_147 cf_11_55 (hS.i (a := 2) (by decide) (by decide)) (hS.s (a := 2) (by decide) (by decide) rfl) (by decide) (fx_2_9 hF1) ?_
              refine cr_gf (v := .ref 97) d_147_87 cw_147 cf_11_271 (hS.i (a := 96) (by decide) (by decide)) (hS.s (a := 96) (by decide) (by decide) rfl) (by decide) (fx_96_0 hF1) ?_
              refine cr_pv (b := 86) (as := [.ref 97]) (al0 := [some (.ref 86), some (.ref 97)]) (r := []) d_147_90 cw_147 cm_11_144 cz_93 rfl rfl (hS.i (a := 86) (by decide) (by decide)) (by rw [cw_93]; exact (hS.s (a := 86) (by decide) (by decide) rfl)) (by rw [cw_93]; decide) rfl (Nat.le_of_ble_eq_true rfl) (k_become (tb_86 hS hF1) (tb_97 hS hF1) (by decide) h97_) ?_
              show CR _ _ 93 [some (.ref 2), some (.int (nI k)), some (.int (nI m)), some (.int (nI hold)), some (.int (nI no)), some (.int (nI i))] [] S (up2 G1 86 0 (.int (nI m))) (upr B1 87 (va_cpy (B1 98) (B1 87) 0 0 36)) J R _
              refine cr_nx (pc' := 94) (al' := [some (.ref 2), some (.int (nI k)), some (.int (nI m)), some (.int (nI hold)), some (.int (nI no)), some (.int (nI i))]) (st' := [.ref 2]) d_147_93 (fun _ => rfl) ?_
              refine cr_nx (pc' := 95) (al' := [some (.ref 2), some (.int (nI k)), some (.int (nI m)), some (.int (nI hold)), some (.int (nI no)), some (.int (nI i))]) (st' := [.int (nI k), .ref 2]) d_147_94 (fun _ => rfl) ?_
              refine cn_ic (v := 0) d_147_95 (by decide) ?_
              have hW3 : WC n S (up2 G1 86 0 (.int (nI m))) (upr B1 87 (va_cpy (B1 98) (B1 87) 0 0 36)) R W := hW1.q (FxG.ut hF1) (Gfr.rf.u (by decide)) (Bfr.rf.u (by decide))
              refine cr_cv (b := 2) (as := [.int (nI k), .int (nI 0)]) (al0 := [some (.ref 2), some (.int (nI k)), some (.int (nI 0))]) (r := []) d_147_96 cw_147 cm_11_115 cz_122 rfl rfl (hS.i (a := 2) (by decide) (by decide)) (by rw [cw_122]; exact (hS.s (a := 2) (by decide) (by decide) rfl)) (by rw [cw_122]; decide) rfl (cr_wk (Nat.le_of_ble_eq_true rfl) (k_change (tb := (m, ((flA m (T00 m)).filter (lsB (kL (wK W)) (kW (wK W)) (kN (wK W)) hold no m)).getD i (fun _ => 0))) hW3 hk6 ⟨hm6, (flA_m (List.mem_filter.mp (gd_m hi)).1).1⟩ up2_s (fun q hq => by rw [upr_s, cpy_36 (by have := Nat.mul_le_mul hm6 hm6; dsimp only at hq; omega)]; exact hcl_ q hq))) (fun v2 S2 G2 B2 J2 R2 h2x => ?_)
              obtain ⟨q0_, hW2⟩ := h2x
              obtain rfl := q0_
              show CR _ _ 99 [some (.ref 2), some (.int (nI k)), some (.int (nI m)), some (.int (nI hold)), some (.int (nI no)), some (.int (nI i))] [.int (nI 0)] S2 G2 B2 J2 R2 _
              exact cr_ri d_147_99 cx_147 rfl ⟨rfl, hW2.mo⟩
            · exact absurd c69 (by decide)
        · exact absurd ((in_j (by omega)).mpr hno) c28
theorem r_find_y {g : Nat → Int32} {A : Nat → Nat → Int32} {n : Nat} {W : WS} (hW : WR n g A W) (hO : CoOk (wK W)) {k : Nat} (hk6 : k < 6) {m : Nat} (h1 : 1 ≤ m) (hm6 : m ≤ 6) {hold no : Nat} (hh : hold < 1 * 2 ^ kL (wK W)) (hno : no < 1 * 2 ^ kL (wK W)) {i : Nat} (hi : i < ((flA m (T00 m)).filter (lsB (kL (wK W)) (kW (wK W)) (kN (wK W)) hold no m)).length) (hn5 : n ≤ 10000) : RR 80 277 0 [some (.ref 146), some (.int (nI k)), some (.int (nI m)), some (.int (nI hold)), some (.int (nI no)), some (.int (nI i))] [] g A (fun r__ g' A' => r__ = some (.int (nI 0)) ∧ WR (n + 1) g' A' (chW W k (m, ((flA m (T00 m)).filter (lsB (kL (wK W)) (kW (wK W)) (kN (wK W)) hold no m)).getD i (fun _ => 0)))) := by
  have h256 : 1 * 2 ^ kL (wK W) ≤ 2 ^ 8 := by rw [Nat.one_mul]; exact Nat.pow_le_pow_right (by decide) hO.2.1
  have h94 : ((flA m (T00 m)).filter (lsB (kL (wK W)) (kW (wK W)) (kN (wK W)) hold no m)).length ≤ 9408 := fl_fil hm6 h1
  refine rr_nx (pc' := 1) (al' := [some (.ref 146), some (.int (nI k)), some (.int (nI m)), some (.int (nI hold)), some (.int (nI no)), some (.int (nI i))]) (st' := [.int (nI k)]) d_277_0 (fun _ => rfl) ?_
  refine rr_ps (as := [.int (nI k)]) (al0 := [some (.int (nI k))]) (r := []) d_277_1 mo_277 ml_117 mz_185 rfl rfl rfl (Nat.le_of_ble_eq_true rfl) (s_isSlot (nI k)) ?_
  show RR _ _ 4 [some (.ref 146), some (.int (nI k)), some (.int (nI m)), some (.int (nI hold)), some (.int (nI no)), some (.int (nI i))] [.int (bI (nI 0 ≤ (nI k) ∧ (nI k) ≤ nI 5))] g A _
  refine rr_beq (t := 34) d_277_4 (by decide) (fun c4 => ?_) (fun c4 => ?_)
  · exact absurd ((in_r (m := 5) (by decide)).mpr ((in_j (by omega)).mpr hk6)) c4
  · refine rr_nx (pc' := 8) (al' := [some (.ref 146), some (.int (nI k)), some (.int (nI m)), some (.int (nI hold)), some (.int (nI no)), some (.int (nI i))]) (st' := [.int (nI m)]) d_277_7 (fun _ => rfl) ?_
    refine rn_ic (v := 1) d_277_8 (by decide) ?_
    refine rn_bp (v := 6) d_277_9 (by decide) ?_
    refine rr_ps (as := [.int (nI m), .int (nI 1), .int (nI 6)]) (al0 := [some (.int (nI m)), some (.int (nI 1)), some (.int (nI 6))]) (r := []) d_277_11 mo_277 ml_106 mz_179 rfl rfl rfl (Nat.le_of_ble_eq_true rfl) (s_lies (nI m) (nI 1) (nI 6)) ?_
    show RR _ _ 14 [some (.ref 146), some (.int (nI k)), some (.int (nI m)), some (.int (nI hold)), some (.int (nI no)), some (.int (nI i))] [.int (bI ((nI 1) ≤ (nI m) ∧ (nI m) ≤ (nI 6)))] g A _
    refine rr_beq (t := 34) d_277_14 (by decide) (fun c14 => ?_) (fun c14 => ?_)
    · exact absurd (sz_r.mpr (sz_j h1 hm6)) c14
    · refine rr_nx (pc' := 18) (al' := [some (.ref 146), some (.int (nI k)), some (.int (nI m)), some (.int (nI hold)), some (.int (nI no)), some (.int (nI i))]) (st' := [.ref 146]) d_277_17 (fun _ => rfl) ?_
      refine rr_nx (pc' := 19) (al' := [some (.ref 146), some (.int (nI k)), some (.int (nI m)), some (.int (nI hold)), some (.int (nI no)), some (.int (nI i))]) (st' := [.int (nI hold), .ref 146]) d_277_18 (fun _ => rfl) ?_
      refine rr_pv (as := [.int (nI hold)]) (al0 := [some (.ref 146), some (.int (nI hold))]) (r := []) d_277_19 mo_277 ml_361 mz_272 rfl rfl rfl (Nat.le_of_ble_eq_true rfl) (s_areLaws hW hO) ?_
      show RR _ _ 22 [some (.ref 146), some (.int (nI k)), some (.int (nI m)), some (.int (nI hold)), some (.int (nI no)), some (.int (nI i))] [.int (bI (inP (nI hold) (1 * 2 ^ kL (wK W))))] g A _
      refine rr_beq (t := 34) d_277_22 (by decide) (fun c22 => ?_) (fun c22 => ?_)
      · exact absurd ((in_j (by omega)).mpr hh) c22
      · refine rr_nx (pc' := 26) (al' := [some (.ref 146), some (.int (nI k)), some (.int (nI m)), some (.int (nI hold)), some (.int (nI no)), some (.int (nI i))]) (st' := [.ref 146]) d_277_25 (fun _ => rfl) ?_
        refine rr_nx (pc' := 28) (al' := [some (.ref 146), some (.int (nI k)), some (.int (nI m)), some (.int (nI hold)), some (.int (nI no)), some (.int (nI i))]) (st' := [.int (nI no), .ref 146]) d_277_26 (fun _ => rfl) ?_
        refine rr_pv (as := [.int (nI no)]) (al0 := [some (.ref 146), some (.int (nI no))]) (r := []) d_277_28 mo_277 ml_361 mz_272 rfl rfl rfl (Nat.le_of_ble_eq_true rfl) (s_areLaws hW hO) ?_
        show RR _ _ 31 [some (.ref 146), some (.int (nI k)), some (.int (nI m)), some (.int (nI hold)), some (.int (nI no)), some (.int (nI i))] [.int (bI (inP (nI no) (1 * 2 ^ kL (wK W))))] g A _
        refine rr_bne (t := 40) d_277_31 (by decide) (fun c31 => ?_) (fun c31 => ?_)
        · refine rr_nx (pc' := 42) (al' := [some (.ref 146), some (.int (nI k)), some (.int (nI m)), some (.int (nI hold)), some (.int (nI no)), some (.int (nI i))]) (st' := [.int (nI i)]) d_277_40 (fun _ => rfl) ?_
          refine rn_ic (v := 0) d_277_42 (by decide) ?_
          refine rn_sp (v := 9407) d_277_43 (by decide) ?_
          refine rr_ps (as := [.int (nI i), .int (nI 0), .int (nI 9407)]) (al0 := [some (.int (nI i)), some (.int (nI 0)), some (.int (nI 9407))]) (r := []) d_277_46 mo_277 ml_106 mz_179 rfl rfl rfl (Nat.le_of_ble_eq_true rfl) (s_lies (nI i) (nI 0) (nI 9407)) ?_
          show RR _ _ 49 [some (.ref 146), some (.int (nI k)), some (.int (nI m)), some (.int (nI hold)), some (.int (nI no)), some (.int (nI i))] [.int (bI ((nI 0) ≤ (nI i) ∧ (nI i) ≤ (nI 9407)))] g A _
          refine rr_beq (t := 71) d_277_49 (by decide) (fun c49 => ?_) (fun c49 => ?_)
          · exact absurd ((in_r (m := 9407) (by decide)).mpr ((in_j (by omega)).mpr (by omega))) c49
          · refine rr_nx (pc' := 53) (al' := [some (.ref 146), some (.int (nI k)), some (.int (nI m)), some (.int (nI hold)), some (.int (nI no)), some (.int (nI i))]) (st' := [.ref 146]) d_277_52 (fun _ => rfl) ?_
            refine rr_nx (pc' := 54) (al' := [some (.ref 146), some (.int (nI k)), some (.int (nI m)), some (.int (nI hold)), some (.int (nI no)), some (.int (nI i))]) (st' := [.int (nI m), .ref 146]) d_277_53 (fun _ => rfl) ?_
            refine rr_nx (pc' := 55) (al' := [some (.ref 146), some (.int (nI k)), some (.int (nI m)), some (.int (nI hold)), some (.int (nI no)), some (.int (nI i))]) (st' := [.int (nI hold), .int (nI m), .ref 146]) d_277_54 (fun _ => rfl) ?_
            refine rr_nx (pc' := 57) (al' := [some (.ref 146), some (.int (nI k)), some (.int (nI m)), some (.int (nI hold)), some (.int (nI no)), some (.int (nI i))]) (st' := [.int (nI no), .int (nI hold), .int (nI m), .ref 146]) d_277_55 (fun _ => rfl) ?_
            refine rr_nx (pc' := 59) (al' := [some (.ref 146), some (.int (nI k)), some (.int (nI m)), some (.int (nI hold)), some (.int (nI no)), some (.int (nI i))]) (st' := [.int (nI i), .int (nI no), .int (nI hold), .int (nI m), .ref 146]) d_277_57 (fun _ => rfl) ?_
            refine rn_ic (v := 1) d_277_59 (by decide) ?_
            refine rn_add d_277_60  ?_
            refine rr_cv (as := [.int (nI m), .int (nI hold), .int (nI no), .int (nI (i + 1))]) (al0 := [some (.ref 146), some (.int (nI m)), some (.int (nI hold)), some (.int (nI no)), some (.int (nI (i + 1))), none]) (r := []) d_277_61 mo_277 ml_376 mz_273 rfl rfl rfl (rr_wk (Nat.le_of_ble_eq_true rfl) (s_lists (s := some (i + 1)) (hold := hold) (no := no) hm6 h1 (hW.lk hO) (by omega) (by omega) hW.2.2.2.2.2.2.2.2.1 ⟨by omega, by omega⟩)) (fun v1 g1 A1 h1x => ?_)
            obtain ⟨q0_, h8_, hg1, ha1, hx1⟩ := h1x
            rw [show capN (some (i + 1)) ((flA m (T00 m)).filter (lsB (kL (wK W)) (kW (wK W)) (kN (wK W)) hold no m)).length = i + 1 from Nat.min_eq_left hi] at q0_
            obtain rfl := q0_
            show RR _ _ 64 [some (.ref 146), some (.int (nI k)), some (.int (nI m)), some (.int (nI hold)), some (.int (nI no)), some (.int (nI i))] [.int (nI (i + 1))] g1 A1 _
            refine rr_nx (pc' := 66) (al' := [some (.ref 146), some (.int (nI k)), some (.int (nI m)), some (.int (nI hold)), some (.int (nI no)), some (.int (nI i))]) (st' := [.int (nI i), .int (nI (i + 1))]) d_277_64 (fun _ => rfl) ?_
            refine rn_ic (v := 1) d_277_66 (by decide) ?_
            refine rn_add d_277_67  ?_
            refine rn_ceq (t := 78) d_277_68 (by decide) (by first | omega | assumption | exact cu_36 (by omega) (cu_lt (by omega) (by omega))) (by first | omega | assumption | exact cu_36 (by omega) (cu_lt (by omega) (by omega))) (fun c68 => ?_) (fun c68 => ?_)
            · refine rr_nx (pc' := 79) (al' := [some (.ref 146), some (.int (nI k)), some (.int (nI m)), some (.int (nI hold)), some (.int (nI no)), some (.int (nI i))]) (st' := [.ref 146]) d_277_78 (fun _ => rfl) ?_
              refine rr_nx (pc' := 80) (al' := [some (.ref 146), some (.int (nI k)), some (.int (nI m)), some (.int (nI hold)), some (.int (nI no)), some (.int (nI i))]) (st' := [.int (nI k), .ref 146]) d_277_79 (fun _ => rfl) ?_
              have hW1 := hW.q hg1 ha1
              refine rr_cv (as := [.int (nI k)]) (al0 := [some (.ref 146), some (.int (nI k)), none, none, none]) (r := []) d_277_80 mo_277 ml_257 mz_224 rfl rfl rfl (rr_wk (Nat.le_of_ble_eq_true rfl) (s_becomes (m := m) (c := ((flA m (T00 m)).filter (lsB (kL (wK W)) (kW (wK W)) (kN (wK W)) hold no m)).getD i (fun _ => 0)) hW1.1.1 hO.1 hk6 hm6 h8_ (fun q hq => hx1 (i + 1) rfl hi q hq))) (fun v2 g2 A2 h2x => ?_)
              obtain ⟨q0_, q1_, f1, q2_, hH1, hf1⟩ := h2x
              obtain rfl := q0_
              obtain rfl := q1_.symm
              obtain rfl := q2_
              show RR _ _ 83 [some (.ref 146), some (.int (nI k)), some (.int (nI m)), some (.int (nI hold)), some (.int (nI no)), some (.int (nI i))] [] g1 (rf_u A1 1 f1) _
              refine rr_nx (pc' := 84) (al' := [some (.ref 146), some (.int (nI k)), some (.int (nI m)), some (.int (nI hold)), some (.int (nI no)), some (.int (nI i))]) (st' := [.ref 146]) d_277_83 (fun _ => rfl) ?_
              refine rn_ic (v := 0) d_277_84 (by decide) ?_
              refine rr_pv (as := [.int (nI 0)]) (al0 := [some (.ref 146), some (.int (nI 0))]) (r := []) d_277_85 mo_277 ml_114 mz_181 rfl rfl rfl (Nat.le_of_ble_eq_true rfl) (s_good _) ?_
              show RR _ _ 88 [some (.ref 146), some (.int (nI k)), some (.int (nI m)), some (.int (nI hold)), some (.int (nI no)), some (.int (nI i))] [.int (nI 0)] (upd (upd g1 0 (nI 0)) 1 (g1 1 + nI 1)) (rf_u A1 1 f1) _
              exact rr_ri d_277_88 mr_277 rfl ⟨rfl, hW1.ch (by omega) hH1 hf1 rfl hO⟩
            · exact absurd rfl c68
        · exact absurd ((in_j (by omega)).mpr hno) c31
theorem p_find_b {S : CS} {G : Nat → Nat → Value} {B : Nat → Nat → Int32} {J : Nat → Nat → Int64} {R : Nat → Nat → Option Nat} {n : Nat} {W : WS} (hW : WC n S G B R W) {t u : Int32} {x z v : Int32} (hx : ¬ (inP t 6 ∧ szP x ∧ inP z (1 * 2 ^ kL (wK W)) ∧ inP v (1 * 2 ^ kL (wK W)))) : CR 80 147 0 [some (.ref 2), some (.int t), some (.int x), some (.int z), some (.int v), some (.int u)] [] S G B J R (fun r__ S' G' B' J' R' => r__ = some (.int (-1)) ∧ WC (n + 1) S' G' B' R' (refW W (-1) 1)) := by
  have hS := hW.1.1
  have hF := hW.2.1
  have hO := hW.2.2.2.1
  obtain ⟨ta, ka, la, hH, hLk, hl2, hs3, hbd⟩ := hW.2.2.1
  refine cr_nx (pc' := 1) (al' := [some (.ref 2), some (.int t), some (.int x), some (.int z), some (.int v), some (.int u)]) (st' := [.int t]) d_147_0 (fun _ => rfl) ?_
  refine cr_ps (as := [.int t]) (al0 := [some (.int t)]) (r := []) d_147_1 cw_147 cm_11_100 (by decide) cz_118 rfl rfl rfl (Nat.le_of_ble_eq_true rfl) (k_isPlace) ?_
  show CR _ _ 4 [some (.ref 2), some (.int t), some (.int x), some (.int z), some (.int v), some (.int u)] [.int (bI (inP t 6))] S G B J R _
  refine cr_beq (t := 31) d_147_4 (by decide) (fun c4 => ?_) (fun c4 => ?_)
  · refine cr_nx (pc' := 32) (al' := [some (.ref 2), some (.int t), some (.int x), some (.int z), some (.int v), some (.int u)]) (st' := [.ref 2]) d_147_31 (fun _ => rfl) ?_
    refine cr_nx (pc' := 33) (al' := [some (.ref 2), some (.int t), some (.int x), some (.int z), some (.int v), some (.int u)]) (st' := [.int (-1), .ref 2]) d_147_32 (fun _ => rfl) ?_
    refine cr_pv (b := 2) (as := [.int (-1)]) (al0 := [some (.ref 2), some (.int (-1))]) (r := []) d_147_33 cw_147 cm_11_104 cz_119 rfl rfl (hS.i (a := 2) (by decide) (by decide)) (by rw [cw_119]; exact (hS.s (a := 2) (by decide) (by decide) rfl)) (by rw [cw_119]; decide) rfl (Nat.le_of_ble_eq_true rfl) (k_refuse (e := 1) hS hF (by decide) (by decide)) ?_
    show CR _ _ 36 [some (.ref 2), some (.int t), some (.int x), some (.int z), some (.int v), some (.int u)] [.int (-1)] S (up2 G 2 16 (.int (-1))) (upr B 145 (upd (B 145) 1 (B 145 1 + nI 1))) J R _
    exact cr_ri d_147_36 cx_147 rfl ⟨rfl, (hW.rf (by decide)).mo⟩
  · refine cr_nx (pc' := 8) (al' := [some (.ref 2), some (.int t), some (.int x), some (.int z), some (.int v), some (.int u)]) (st' := [.int x]) d_147_7 (fun _ => rfl) ?_
    refine cr_ps (as := [.int x]) (al0 := [some (.int x)]) (r := []) d_147_8 cw_147 cm_11_119 (by decide) cz_121 rfl rfl rfl (Nat.le_of_ble_eq_true rfl) (k_isSize) ?_
    show CR _ _ 11 [some (.ref 2), some (.int t), some (.int x), some (.int z), some (.int v), some (.int u)] [.int (bI (szP x))] S G B J R _
    refine cr_beq (t := 31) d_147_11 (by decide) (fun c11 => ?_) (fun c11 => ?_)
    · refine cr_nx (pc' := 32) (al' := [some (.ref 2), some (.int t), some (.int x), some (.int z), some (.int v), some (.int u)]) (st' := [.ref 2]) d_147_31 (fun _ => rfl) ?_
      refine cr_nx (pc' := 33) (al' := [some (.ref 2), some (.int t), some (.int x), some (.int z), some (.int v), some (.int u)]) (st' := [.int (-1), .ref 2]) d_147_32 (fun _ => rfl) ?_
      refine cr_pv (b := 2) (as := [.int (-1)]) (al0 := [some (.ref 2), some (.int (-1))]) (r := []) d_147_33 cw_147 cm_11_104 cz_119 rfl rfl (hS.i (a := 2) (by decide) (by decide)) (by rw [cw_119]; exact (hS.s (a := 2) (by decide) (by decide) rfl)) (by rw [cw_119]; decide) rfl (Nat.le_of_ble_eq_true rfl) (k_refuse (e := 1) hS hF (by decide) (by decide)) ?_
      show CR _ _ 36 [some (.ref 2), some (.int t), some (.int x), some (.int z), some (.int v), some (.int u)] [.int (-1)] S (up2 G 2 16 (.int (-1))) (upr B 145 (upd (B 145) 1 (B 145 1 + nI 1))) J R _
      exact cr_ri d_147_36 cx_147 rfl ⟨rfl, (hW.rf (by decide)).mo⟩
    · refine cr_nx (pc' := 15) (al' := [some (.ref 2), some (.int t), some (.int x), some (.int z), some (.int v), some (.int u)]) (st' := [.ref 2]) d_147_14 (fun _ => rfl) ?_
      refine cr_nx (pc' := 16) (al' := [some (.ref 2), some (.int t), some (.int x), some (.int z), some (.int v), some (.int u)]) (st' := [.int z, .ref 2]) d_147_15 (fun _ => rfl) ?_
      refine cr_pv (b := 2) (as := [.int z]) (al0 := [some (.ref 2), some (.int z)]) (r := []) d_147_16 cw_147 cm_11_258 cz_146 rfl rfl (hS.i (a := 2) (by decide) (by decide)) (by rw [cw_146]; exact (hS.s (a := 2) (by decide) (by decide) rfl)) (by rw [cw_146]; decide) rfl (Nat.le_of_ble_eq_true rfl) (k_areLaws hS hF hl2 hO.2.1) ?_
      show CR _ _ 19 [some (.ref 2), some (.int t), some (.int x), some (.int z), some (.int v), some (.int u)] [.int (bI (inP z (1 * 2 ^ kL (wK W))))] S G B J R _
      refine cr_beq (t := 31) d_147_19 (by decide) (fun c19 => ?_) (fun c19 => ?_)
      · refine cr_nx (pc' := 32) (al' := [some (.ref 2), some (.int t), some (.int x), some (.int z), some (.int v), some (.int u)]) (st' := [.ref 2]) d_147_31 (fun _ => rfl) ?_
        refine cr_nx (pc' := 33) (al' := [some (.ref 2), some (.int t), some (.int x), some (.int z), some (.int v), some (.int u)]) (st' := [.int (-1), .ref 2]) d_147_32 (fun _ => rfl) ?_
        refine cr_pv (b := 2) (as := [.int (-1)]) (al0 := [some (.ref 2), some (.int (-1))]) (r := []) d_147_33 cw_147 cm_11_104 cz_119 rfl rfl (hS.i (a := 2) (by decide) (by decide)) (by rw [cw_119]; exact (hS.s (a := 2) (by decide) (by decide) rfl)) (by rw [cw_119]; decide) rfl (Nat.le_of_ble_eq_true rfl) (k_refuse (e := 1) hS hF (by decide) (by decide)) ?_
        show CR _ _ 36 [some (.ref 2), some (.int t), some (.int x), some (.int z), some (.int v), some (.int u)] [.int (-1)] S (up2 G 2 16 (.int (-1))) (upr B 145 (upd (B 145) 1 (B 145 1 + nI 1))) J R _
        exact cr_ri d_147_36 cx_147 rfl ⟨rfl, (hW.rf (by decide)).mo⟩
      · refine cr_nx (pc' := 23) (al' := [some (.ref 2), some (.int t), some (.int x), some (.int z), some (.int v), some (.int u)]) (st' := [.ref 2]) d_147_22 (fun _ => rfl) ?_
        refine cr_nx (pc' := 25) (al' := [some (.ref 2), some (.int t), some (.int x), some (.int z), some (.int v), some (.int u)]) (st' := [.int v, .ref 2]) d_147_23 (fun _ => rfl) ?_
        refine cr_pv (b := 2) (as := [.int v]) (al0 := [some (.ref 2), some (.int v)]) (r := []) d_147_25 cw_147 cm_11_258 cz_146 rfl rfl (hS.i (a := 2) (by decide) (by decide)) (by rw [cw_146]; exact (hS.s (a := 2) (by decide) (by decide) rfl)) (by rw [cw_146]; decide) rfl (Nat.le_of_ble_eq_true rfl) (k_areLaws hS hF hl2 hO.2.1) ?_
        show CR _ _ 28 [some (.ref 2), some (.int t), some (.int x), some (.int z), some (.int v), some (.int u)] [.int (bI (inP v (1 * 2 ^ kL (wK W))))] S G B J R _
        refine cr_bne (t := 37) d_147_28 (by decide) (fun c28 => ?_) (fun c28 => ?_)
        · exact absurd ⟨c4, c11, c19, c28⟩ hx
        · refine cr_nx (pc' := 32) (al' := [some (.ref 2), some (.int t), some (.int x), some (.int z), some (.int v), some (.int u)]) (st' := [.ref 2]) d_147_31 (fun _ => rfl) ?_
          refine cr_nx (pc' := 33) (al' := [some (.ref 2), some (.int t), some (.int x), some (.int z), some (.int v), some (.int u)]) (st' := [.int (-1), .ref 2]) d_147_32 (fun _ => rfl) ?_
          refine cr_pv (b := 2) (as := [.int (-1)]) (al0 := [some (.ref 2), some (.int (-1))]) (r := []) d_147_33 cw_147 cm_11_104 cz_119 rfl rfl (hS.i (a := 2) (by decide) (by decide)) (by rw [cw_119]; exact (hS.s (a := 2) (by decide) (by decide) rfl)) (by rw [cw_119]; decide) rfl (Nat.le_of_ble_eq_true rfl) (k_refuse (e := 1) hS hF (by decide) (by decide)) ?_
          show CR _ _ 36 [some (.ref 2), some (.int t), some (.int x), some (.int z), some (.int v), some (.int u)] [.int (-1)] S (up2 G 2 16 (.int (-1))) (upr B 145 (upd (B 145) 1 (B 145 1 + nI 1))) J R _
          exact cr_ri d_147_36 cx_147 rfl ⟨rfl, (hW.rf (by decide)).mo⟩
theorem r_find_b {g : Nat → Int32} {A : Nat → Nat → Int32} {n : Nat} {W : WS} (hW : WR n g A W) (hO : CoOk (wK W)) {t u : Int32} {x z v : Int32} (hx : ¬ (inP t 6 ∧ szP x ∧ inP z (1 * 2 ^ kL (wK W)) ∧ inP v (1 * 2 ^ kL (wK W)))) : RR 80 277 0 [some (.ref 146), some (.int t), some (.int x), some (.int z), some (.int v), some (.int u)] [] g A (fun r__ g' A' => r__ = some (.int (-1)) ∧ WR (n + 1) g' A' (refW W (-1) 1)) := by
  refine rr_nx (pc' := 1) (al' := [some (.ref 146), some (.int t), some (.int x), some (.int z), some (.int v), some (.int u)]) (st' := [.int t]) d_277_0 (fun _ => rfl) ?_
  refine rr_ps (as := [.int t]) (al0 := [some (.int t)]) (r := []) d_277_1 mo_277 ml_117 mz_185 rfl rfl rfl (Nat.le_of_ble_eq_true rfl) (s_isSlot t) ?_
  show RR _ _ 4 [some (.ref 146), some (.int t), some (.int x), some (.int z), some (.int v), some (.int u)] [.int (bI (nI 0 ≤ t ∧ t ≤ nI 5))] g A _
  refine rr_beq (t := 34) d_277_4 (by decide) (fun c4 => ?_) (fun c4 => ?_)
  · refine rr_nx (pc' := 35) (al' := [some (.ref 146), some (.int t), some (.int x), some (.int z), some (.int v), some (.int u)]) (st' := [.ref 146]) d_277_34 (fun _ => rfl) ?_
    refine rr_nx (pc' := 36) (al' := [some (.ref 146), some (.int t), some (.int x), some (.int z), some (.int v), some (.int u)]) (st' := [.int (-1), .ref 146]) d_277_35 (fun _ => rfl) ?_
    have hW1 := hW.q (g' := g) (A' := A) Gsm.rf Ksm.rf
    refine rr_pv (as := [.int (-1)]) (al0 := [some (.ref 146), some (.int (-1))]) (r := []) d_277_36 mo_277 ml_110 mz_180 rfl rfl rfl (Nat.le_of_ble_eq_true rfl) (s_refuses (e := 1) (by decide) (by decide)) ?_
    show RR _ _ 39 [some (.ref 146), some (.int t), some (.int x), some (.int z), some (.int v), some (.int u)] [.int (-1)] (upd g 0 (-1)) (rf_u A 0 (upd (A 0) 1 (A 0 1 + nI 1))) _
    exact rr_ri d_277_39 mr_277 rfl ⟨rfl, (hW1.rf (by decide)).mo⟩
  · refine rr_nx (pc' := 8) (al' := [some (.ref 146), some (.int t), some (.int x), some (.int z), some (.int v), some (.int u)]) (st' := [.int x]) d_277_7 (fun _ => rfl) ?_
    refine rn_ic (v := 1) d_277_8 (by decide) ?_
    refine rn_bp (v := 6) d_277_9 (by decide) ?_
    refine rr_ps (as := [.int x, .int (nI 1), .int (nI 6)]) (al0 := [some (.int x), some (.int (nI 1)), some (.int (nI 6))]) (r := []) d_277_11 mo_277 ml_106 mz_179 rfl rfl rfl (Nat.le_of_ble_eq_true rfl) (s_lies x (nI 1) (nI 6)) ?_
    show RR _ _ 14 [some (.ref 146), some (.int t), some (.int x), some (.int z), some (.int v), some (.int u)] [.int (bI ((nI 1) ≤ x ∧ x ≤ (nI 6)))] g A _
    refine rr_beq (t := 34) d_277_14 (by decide) (fun c14 => ?_) (fun c14 => ?_)
    · refine rr_nx (pc' := 35) (al' := [some (.ref 146), some (.int t), some (.int x), some (.int z), some (.int v), some (.int u)]) (st' := [.ref 146]) d_277_34 (fun _ => rfl) ?_
      refine rr_nx (pc' := 36) (al' := [some (.ref 146), some (.int t), some (.int x), some (.int z), some (.int v), some (.int u)]) (st' := [.int (-1), .ref 146]) d_277_35 (fun _ => rfl) ?_
      have hW1 := hW.q (g' := g) (A' := A) Gsm.rf Ksm.rf
      refine rr_pv (as := [.int (-1)]) (al0 := [some (.ref 146), some (.int (-1))]) (r := []) d_277_36 mo_277 ml_110 mz_180 rfl rfl rfl (Nat.le_of_ble_eq_true rfl) (s_refuses (e := 1) (by decide) (by decide)) ?_
      show RR _ _ 39 [some (.ref 146), some (.int t), some (.int x), some (.int z), some (.int v), some (.int u)] [.int (-1)] (upd g 0 (-1)) (rf_u A 0 (upd (A 0) 1 (A 0 1 + nI 1))) _
      exact rr_ri d_277_39 mr_277 rfl ⟨rfl, (hW1.rf (by decide)).mo⟩
    · refine rr_nx (pc' := 18) (al' := [some (.ref 146), some (.int t), some (.int x), some (.int z), some (.int v), some (.int u)]) (st' := [.ref 146]) d_277_17 (fun _ => rfl) ?_
      refine rr_nx (pc' := 19) (al' := [some (.ref 146), some (.int t), some (.int x), some (.int z), some (.int v), some (.int u)]) (st' := [.int z, .ref 146]) d_277_18 (fun _ => rfl) ?_
      refine rr_pv (as := [.int z]) (al0 := [some (.ref 146), some (.int z)]) (r := []) d_277_19 mo_277 ml_361 mz_272 rfl rfl rfl (Nat.le_of_ble_eq_true rfl) (s_areLaws hW hO) ?_
      show RR _ _ 22 [some (.ref 146), some (.int t), some (.int x), some (.int z), some (.int v), some (.int u)] [.int (bI (inP z (1 * 2 ^ kL (wK W))))] g A _
      refine rr_beq (t := 34) d_277_22 (by decide) (fun c22 => ?_) (fun c22 => ?_)
      · refine rr_nx (pc' := 35) (al' := [some (.ref 146), some (.int t), some (.int x), some (.int z), some (.int v), some (.int u)]) (st' := [.ref 146]) d_277_34 (fun _ => rfl) ?_
        refine rr_nx (pc' := 36) (al' := [some (.ref 146), some (.int t), some (.int x), some (.int z), some (.int v), some (.int u)]) (st' := [.int (-1), .ref 146]) d_277_35 (fun _ => rfl) ?_
        have hW1 := hW.q (g' := g) (A' := A) Gsm.rf Ksm.rf
        refine rr_pv (as := [.int (-1)]) (al0 := [some (.ref 146), some (.int (-1))]) (r := []) d_277_36 mo_277 ml_110 mz_180 rfl rfl rfl (Nat.le_of_ble_eq_true rfl) (s_refuses (e := 1) (by decide) (by decide)) ?_
        show RR _ _ 39 [some (.ref 146), some (.int t), some (.int x), some (.int z), some (.int v), some (.int u)] [.int (-1)] (upd g 0 (-1)) (rf_u A 0 (upd (A 0) 1 (A 0 1 + nI 1))) _
        exact rr_ri d_277_39 mr_277 rfl ⟨rfl, (hW1.rf (by decide)).mo⟩
      · refine rr_nx (pc' := 26) (al' := [some (.ref 146), some (.int t), some (.int x), some (.int z), some (.int v), some (.int u)]) (st' := [.ref 146]) d_277_25 (fun _ => rfl) ?_
        refine rr_nx (pc' := 28) (al' := [some (.ref 146), some (.int t), some (.int x), some (.int z), some (.int v), some (.int u)]) (st' := [.int v, .ref 146]) d_277_26 (fun _ => rfl) ?_
        refine rr_pv (as := [.int v]) (al0 := [some (.ref 146), some (.int v)]) (r := []) d_277_28 mo_277 ml_361 mz_272 rfl rfl rfl (Nat.le_of_ble_eq_true rfl) (s_areLaws hW hO) ?_
        show RR _ _ 31 [some (.ref 146), some (.int t), some (.int x), some (.int z), some (.int v), some (.int u)] [.int (bI (inP v (1 * 2 ^ kL (wK W))))] g A _
        refine rr_bne (t := 40) d_277_31 (by decide) (fun c31 => ?_) (fun c31 => ?_)
        · exact absurd ⟨(in_r (m := 5) (by decide)).mp c4, sz_r.mp c14, c22, c31⟩ hx
        · refine rr_nx (pc' := 35) (al' := [some (.ref 146), some (.int t), some (.int x), some (.int z), some (.int v), some (.int u)]) (st' := [.ref 146]) d_277_34 (fun _ => rfl) ?_
          refine rr_nx (pc' := 36) (al' := [some (.ref 146), some (.int t), some (.int x), some (.int z), some (.int v), some (.int u)]) (st' := [.int (-1), .ref 146]) d_277_35 (fun _ => rfl) ?_
          have hW1 := hW.q (g' := g) (A' := A) Gsm.rf Ksm.rf
          refine rr_pv (as := [.int (-1)]) (al0 := [some (.ref 146), some (.int (-1))]) (r := []) d_277_36 mo_277 ml_110 mz_180 rfl rfl rfl (Nat.le_of_ble_eq_true rfl) (s_refuses (e := 1) (by decide) (by decide)) ?_
          show RR _ _ 39 [some (.ref 146), some (.int t), some (.int x), some (.int z), some (.int v), some (.int u)] [.int (-1)] (upd g 0 (-1)) (rf_u A 0 (upd (A 0) 1 (A 0 1 + nI 1))) _
          exact rr_ri d_277_39 mr_277 rfl ⟨rfl, (hW1.rf (by decide)).mo⟩
theorem p_find_m {S : CS} {G : Nat → Nat → Value} {B : Nat → Nat → Int32} {J : Nat → Nat → Int64} {R : Nat → Nat → Option Nat} {n : Nat} {W : WS} (hW : WC n S G B R W) {k : Nat} (hk6 : k < 6) {m : Nat} (h1 : 1 ≤ m) (hm6 : m ≤ 6) {hold no : Nat} (hh : hold < 1 * 2 ^ kL (wK W)) (hno : no < 1 * 2 ^ kL (wK W)) {u : Int32} (hu : u.toInt < 0) : CR 80 147 0 [some (.ref 2), some (.int (nI k)), some (.int (nI m)), some (.int (nI hold)), some (.int (nI no)), some (.int u)] [] S G B J R (fun r__ S' G' B' J' R' => r__ = some (.int (-3)) ∧ WC (n + 1) S' G' B' R' (refW W (-3) 3)) := by
  have hS := hW.1.1
  have hF := hW.2.1
  have hO := hW.2.2.2.1
  obtain ⟨ta, ka, la, hH, hLk, hl2, hs3, hbd⟩ := hW.2.2.1
  have h256 : 1 * 2 ^ kL (wK W) ≤ 2 ^ 8 := by rw [Nat.one_mul]; exact Nat.pow_le_pow_right (by decide) hO.2.1
  refine cr_nx (pc' := 1) (al' := [some (.ref 2), some (.int (nI k)), some (.int (nI m)), some (.int (nI hold)), some (.int (nI no)), some (.int u)]) (st' := [.int (nI k)]) d_147_0 (fun _ => rfl) ?_
  refine cr_ps (as := [.int (nI k)]) (al0 := [some (.int (nI k))]) (r := []) d_147_1 cw_147 cm_11_100 (by decide) cz_118 rfl rfl rfl (Nat.le_of_ble_eq_true rfl) (k_isPlace) ?_
  show CR _ _ 4 [some (.ref 2), some (.int (nI k)), some (.int (nI m)), some (.int (nI hold)), some (.int (nI no)), some (.int u)] [.int (bI (inP (nI k) 6))] S G B J R _
  refine cr_beq (t := 31) d_147_4 (by decide) (fun c4 => ?_) (fun c4 => ?_)
  · exact absurd ((in_j (by omega)).mpr hk6) c4
  · refine cr_nx (pc' := 8) (al' := [some (.ref 2), some (.int (nI k)), some (.int (nI m)), some (.int (nI hold)), some (.int (nI no)), some (.int u)]) (st' := [.int (nI m)]) d_147_7 (fun _ => rfl) ?_
    refine cr_ps (as := [.int (nI m)]) (al0 := [some (.int (nI m))]) (r := []) d_147_8 cw_147 cm_11_119 (by decide) cz_121 rfl rfl rfl (Nat.le_of_ble_eq_true rfl) (k_isSize) ?_
    show CR _ _ 11 [some (.ref 2), some (.int (nI k)), some (.int (nI m)), some (.int (nI hold)), some (.int (nI no)), some (.int u)] [.int (bI (szP (nI m)))] S G B J R _
    refine cr_beq (t := 31) d_147_11 (by decide) (fun c11 => ?_) (fun c11 => ?_)
    · exact absurd (sz_j h1 hm6) c11
    · refine cr_nx (pc' := 15) (al' := [some (.ref 2), some (.int (nI k)), some (.int (nI m)), some (.int (nI hold)), some (.int (nI no)), some (.int u)]) (st' := [.ref 2]) d_147_14 (fun _ => rfl) ?_
      refine cr_nx (pc' := 16) (al' := [some (.ref 2), some (.int (nI k)), some (.int (nI m)), some (.int (nI hold)), some (.int (nI no)), some (.int u)]) (st' := [.int (nI hold), .ref 2]) d_147_15 (fun _ => rfl) ?_
      refine cr_pv (b := 2) (as := [.int (nI hold)]) (al0 := [some (.ref 2), some (.int (nI hold))]) (r := []) d_147_16 cw_147 cm_11_258 cz_146 rfl rfl (hS.i (a := 2) (by decide) (by decide)) (by rw [cw_146]; exact (hS.s (a := 2) (by decide) (by decide) rfl)) (by rw [cw_146]; decide) rfl (Nat.le_of_ble_eq_true rfl) (k_areLaws hS hF hl2 hO.2.1) ?_
      show CR _ _ 19 [some (.ref 2), some (.int (nI k)), some (.int (nI m)), some (.int (nI hold)), some (.int (nI no)), some (.int u)] [.int (bI (inP (nI hold) (1 * 2 ^ kL (wK W))))] S G B J R _
      refine cr_beq (t := 31) d_147_19 (by decide) (fun c19 => ?_) (fun c19 => ?_)
      · exact absurd ((in_j (by omega)).mpr hh) c19
      · refine cr_nx (pc' := 23) (al' := [some (.ref 2), some (.int (nI k)), some (.int (nI m)), some (.int (nI hold)), some (.int (nI no)), some (.int u)]) (st' := [.ref 2]) d_147_22 (fun _ => rfl) ?_
        refine cr_nx (pc' := 25) (al' := [some (.ref 2), some (.int (nI k)), some (.int (nI m)), some (.int (nI hold)), some (.int (nI no)), some (.int u)]) (st' := [.int (nI no), .ref 2]) d_147_23 (fun _ => rfl) ?_
        refine cr_pv (b := 2) (as := [.int (nI no)]) (al0 := [some (.ref 2), some (.int (nI no))]) (r := []) d_147_25 cw_147 cm_11_258 cz_146 rfl rfl (hS.i (a := 2) (by decide) (by decide)) (by rw [cw_146]; exact (hS.s (a := 2) (by decide) (by decide) rfl)) (by rw [cw_146]; decide) rfl (Nat.le_of_ble_eq_true rfl) (k_areLaws hS hF hl2 hO.2.1) ?_
        show CR _ _ 28 [some (.ref 2), some (.int (nI k)), some (.int (nI m)), some (.int (nI hold)), some (.int (nI no)), some (.int u)] [.int (bI (inP (nI no) (1 * 2 ^ kL (wK W))))] S G B J R _
        refine cr_bne (t := 37) d_147_28 (by decide) (fun c28 => ?_) (fun c28 => ?_)
        · refine cr_nx (pc' := 38) (al' := [some (.ref 2), some (.int (nI k)), some (.int (nI m)), some (.int (nI hold)), some (.int (nI no)), some (.int u)]) (st' := [.ref 2]) d_147_37 (fun _ => rfl) ?_
          refine cr_gf (v := .ref 96) d_147_38 cw_147 cf_11_55 (hS.i (a := 2) (by decide) (by decide)) (hS.s (a := 2) (by decide) (by decide) rfl) (by decide) (fx_2_9 hF) ?_
          refine cr_nx (pc' := 42) (al' := [some (.ref 2), some (.int (nI k)), some (.int (nI m)), some (.int (nI hold)), some (.int (nI no)), some (.int u)]) (st' := [.ref 2, .ref 96]) d_147_41 (fun _ => rfl) ?_
          refine cr_gf (v := .ref 3) d_147_42 cw_147 cf_11_10 (hS.i (a := 2) (by decide) (by decide)) (hS.s (a := 2) (by decide) (by decide) rfl) (by decide) (fx_2_0 hF) ?_
          refine cr_gf (v := .ref 5) d_147_45 cw_147 cf_11_241 (hS.i (a := 3) (by decide) (by decide)) (hS.s (a := 3) (by decide) (by decide) rfl) (by decide) (fx_3_1 hF) ?_
          refine cr_nx (pc' := 49) (al' := [some (.ref 2), some (.int (nI k)), some (.int (nI m)), some (.int (nI hold)), some (.int (nI no)), some (.int u)]) (st' := [.int (nI hold), .ref 5, .ref 96]) d_147_48 (fun _ => rfl) ?_
          refine cr_nx (pc' := 51) (al' := [some (.ref 2), some (.int (nI k)), some (.int (nI m)), some (.int (nI hold)), some (.int (nI no)), some (.int u)]) (st' := [.int (nI no), .int (nI hold), .ref 5, .ref 96]) d_147_49 (fun _ => rfl) ?_
          refine cr_pv (b := 96) (as := [.ref 5, .int (nI hold), .int (nI no)]) (al0 := [some (.ref 96), some (.ref 5), some (.int (nI hold)), some (.int (nI no))]) (r := []) d_147_51 cw_147 cm_11_261 cz_35 rfl rfl (hS.i (a := 96) (by decide) (by decide)) (by rw [cw_35]; exact (hS.s (a := 96) (by decide) (by decide) rfl)) (by rw [cw_35]; decide) rfl (Nat.le_of_ble_eq_true rfl) (k_choose hS) ?_
          show CR _ _ 54 [some (.ref 2), some (.int (nI k)), some (.int (nI m)), some (.int (nI hold)), some (.int (nI no)), some (.int u)] [] S (up2 (up2 (up2 G 96 4 (.ref 5)) 96 5 (.int (nI hold))) 96 6 (.int (nI no))) B J R _
          refine cr_nx (pc' := 56) (al' := [some (.ref 2), some (.int (nI k)), some (.int (nI m)), some (.int (nI hold)), some (.int (nI no)), some (.int u)]) (st' := [.int u]) d_147_54 (fun _ => rfl) ?_
          refine cr_ilt (t := 72) d_147_56 (by decide) (fun c56 => ?_) (fun c56 => ?_)
          · refine cr_nx (pc' := 73) (al' := [some (.ref 2), some (.int (nI k)), some (.int (nI m)), some (.int (nI hold)), some (.int (nI no)), some (.int u)]) (st' := [.ref 2]) d_147_72 (fun _ => rfl) ?_
            refine cr_nx (pc' := 75) (al' := [some (.ref 2), some (.int (nI k)), some (.int (nI m)), some (.int (nI hold)), some (.int (nI no)), some (.int u)]) (st' := [.int (-3), .ref 2]) d_147_73 (fun _ => rfl) ?_
            have hW1 : WC n S (up2 (up2 (up2 G 96 4 (.ref 5)) 96 5 (.int (nI hold))) 96 6 (.int (nI no))) B R W := hW.q (FxG.u9 (Or.inl ⟨rfl, Or.inr (by decide)⟩) (FxG.u9 (Or.inl ⟨rfl, Or.inr (by decide)⟩) (FxG.u9 (Or.inl ⟨rfl, Or.inr (by decide)⟩) hF))) (((Gfr.rf.u (by decide)).u (by decide)).u (by decide)) Bfr.rf
            refine cr_pv (b := 2) (as := [.int (-3)]) (al0 := [some (.ref 2), some (.int (-3))]) (r := []) d_147_75 cw_147 cm_11_104 cz_119 rfl rfl (hS.i (a := 2) (by decide) (by decide)) (by rw [cw_119]; exact (hS.s (a := 2) (by decide) (by decide) rfl)) (by rw [cw_119]; decide) rfl (Nat.le_of_ble_eq_true rfl) (k_refuse (e := 3) hS hW1.2.1 (by decide) (by decide)) ?_
            show CR _ _ 78 [some (.ref 2), some (.int (nI k)), some (.int (nI m)), some (.int (nI hold)), some (.int (nI no)), some (.int u)] [.int (-3)] S (up2 (up2 (up2 (up2 G 96 4 (.ref 5)) 96 5 (.int (nI hold))) 96 6 (.int (nI no))) 2 16 (.int (-3))) (upr B 145 (upd (B 145) 3 (B 145 3 + nI 1))) J R _
            exact cr_ri d_147_78 cx_147 rfl ⟨rfl, (hW1.rf (by decide)).mo⟩
          · exact absurd (i_lt0.mpr hu) c56
        · exact absurd ((in_j (by omega)).mpr hno) c28
theorem r_find_m {g : Nat → Int32} {A : Nat → Nat → Int32} {n : Nat} {W : WS} (hW : WR n g A W) (hO : CoOk (wK W)) {k : Nat} (hk6 : k < 6) {m : Nat} (h1 : 1 ≤ m) (hm6 : m ≤ 6) {hold no : Nat} (hh : hold < 1 * 2 ^ kL (wK W)) (hno : no < 1 * 2 ^ kL (wK W)) {u : Int32} (hu : u.toInt < 0) : RR 80 277 0 [some (.ref 146), some (.int (nI k)), some (.int (nI m)), some (.int (nI hold)), some (.int (nI no)), some (.int u)] [] g A (fun r__ g' A' => r__ = some (.int (-3)) ∧ WR (n + 1) g' A' (refW W (-3) 3)) := by
  have h256 : 1 * 2 ^ kL (wK W) ≤ 2 ^ 8 := by rw [Nat.one_mul]; exact Nat.pow_le_pow_right (by decide) hO.2.1
  refine rr_nx (pc' := 1) (al' := [some (.ref 146), some (.int (nI k)), some (.int (nI m)), some (.int (nI hold)), some (.int (nI no)), some (.int u)]) (st' := [.int (nI k)]) d_277_0 (fun _ => rfl) ?_
  refine rr_ps (as := [.int (nI k)]) (al0 := [some (.int (nI k))]) (r := []) d_277_1 mo_277 ml_117 mz_185 rfl rfl rfl (Nat.le_of_ble_eq_true rfl) (s_isSlot (nI k)) ?_
  show RR _ _ 4 [some (.ref 146), some (.int (nI k)), some (.int (nI m)), some (.int (nI hold)), some (.int (nI no)), some (.int u)] [.int (bI (nI 0 ≤ (nI k) ∧ (nI k) ≤ nI 5))] g A _
  refine rr_beq (t := 34) d_277_4 (by decide) (fun c4 => ?_) (fun c4 => ?_)
  · exact absurd ((in_r (m := 5) (by decide)).mpr ((in_j (by omega)).mpr hk6)) c4
  · refine rr_nx (pc' := 8) (al' := [some (.ref 146), some (.int (nI k)), some (.int (nI m)), some (.int (nI hold)), some (.int (nI no)), some (.int u)]) (st' := [.int (nI m)]) d_277_7 (fun _ => rfl) ?_
    refine rn_ic (v := 1) d_277_8 (by decide) ?_
    refine rn_bp (v := 6) d_277_9 (by decide) ?_
    refine rr_ps (as := [.int (nI m), .int (nI 1), .int (nI 6)]) (al0 := [some (.int (nI m)), some (.int (nI 1)), some (.int (nI 6))]) (r := []) d_277_11 mo_277 ml_106 mz_179 rfl rfl rfl (Nat.le_of_ble_eq_true rfl) (s_lies (nI m) (nI 1) (nI 6)) ?_
    show RR _ _ 14 [some (.ref 146), some (.int (nI k)), some (.int (nI m)), some (.int (nI hold)), some (.int (nI no)), some (.int u)] [.int (bI ((nI 1) ≤ (nI m) ∧ (nI m) ≤ (nI 6)))] g A _
    refine rr_beq (t := 34) d_277_14 (by decide) (fun c14 => ?_) (fun c14 => ?_)
    · exact absurd (sz_r.mpr (sz_j h1 hm6)) c14
    · refine rr_nx (pc' := 18) (al' := [some (.ref 146), some (.int (nI k)), some (.int (nI m)), some (.int (nI hold)), some (.int (nI no)), some (.int u)]) (st' := [.ref 146]) d_277_17 (fun _ => rfl) ?_
      refine rr_nx (pc' := 19) (al' := [some (.ref 146), some (.int (nI k)), some (.int (nI m)), some (.int (nI hold)), some (.int (nI no)), some (.int u)]) (st' := [.int (nI hold), .ref 146]) d_277_18 (fun _ => rfl) ?_
      refine rr_pv (as := [.int (nI hold)]) (al0 := [some (.ref 146), some (.int (nI hold))]) (r := []) d_277_19 mo_277 ml_361 mz_272 rfl rfl rfl (Nat.le_of_ble_eq_true rfl) (s_areLaws hW hO) ?_
      show RR _ _ 22 [some (.ref 146), some (.int (nI k)), some (.int (nI m)), some (.int (nI hold)), some (.int (nI no)), some (.int u)] [.int (bI (inP (nI hold) (1 * 2 ^ kL (wK W))))] g A _
      refine rr_beq (t := 34) d_277_22 (by decide) (fun c22 => ?_) (fun c22 => ?_)
      · exact absurd ((in_j (by omega)).mpr hh) c22
      · refine rr_nx (pc' := 26) (al' := [some (.ref 146), some (.int (nI k)), some (.int (nI m)), some (.int (nI hold)), some (.int (nI no)), some (.int u)]) (st' := [.ref 146]) d_277_25 (fun _ => rfl) ?_
        refine rr_nx (pc' := 28) (al' := [some (.ref 146), some (.int (nI k)), some (.int (nI m)), some (.int (nI hold)), some (.int (nI no)), some (.int u)]) (st' := [.int (nI no), .ref 146]) d_277_26 (fun _ => rfl) ?_
        refine rr_pv (as := [.int (nI no)]) (al0 := [some (.ref 146), some (.int (nI no))]) (r := []) d_277_28 mo_277 ml_361 mz_272 rfl rfl rfl (Nat.le_of_ble_eq_true rfl) (s_areLaws hW hO) ?_
        show RR _ _ 31 [some (.ref 146), some (.int (nI k)), some (.int (nI m)), some (.int (nI hold)), some (.int (nI no)), some (.int u)] [.int (bI (inP (nI no) (1 * 2 ^ kL (wK W))))] g A _
        refine rr_bne (t := 40) d_277_31 (by decide) (fun c31 => ?_) (fun c31 => ?_)
        · refine rr_nx (pc' := 42) (al' := [some (.ref 146), some (.int (nI k)), some (.int (nI m)), some (.int (nI hold)), some (.int (nI no)), some (.int u)]) (st' := [.int u]) d_277_40 (fun _ => rfl) ?_
          refine rn_ic (v := 0) d_277_42 (by decide) ?_
          refine rn_sp (v := 9407) d_277_43 (by decide) ?_
          refine rr_ps (as := [.int u, .int (nI 0), .int (nI 9407)]) (al0 := [some (.int u), some (.int (nI 0)), some (.int (nI 9407))]) (r := []) d_277_46 mo_277 ml_106 mz_179 rfl rfl rfl (Nat.le_of_ble_eq_true rfl) (s_lies u (nI 0) (nI 9407)) ?_
          show RR _ _ 49 [some (.ref 146), some (.int (nI k)), some (.int (nI m)), some (.int (nI hold)), some (.int (nI no)), some (.int u)] [.int (bI ((nI 0) ≤ u ∧ u ≤ (nI 9407)))] g A _
          refine rr_beq (t := 71) d_277_49 (by decide) (fun c49 => ?_) (fun c49 => ?_)
          · refine rr_nx (pc' := 72) (al' := [some (.ref 146), some (.int (nI k)), some (.int (nI m)), some (.int (nI hold)), some (.int (nI no)), some (.int u)]) (st' := [.ref 146]) d_277_71 (fun _ => rfl) ?_
            refine rr_nx (pc' := 74) (al' := [some (.ref 146), some (.int (nI k)), some (.int (nI m)), some (.int (nI hold)), some (.int (nI no)), some (.int u)]) (st' := [.int (-3), .ref 146]) d_277_72 (fun _ => rfl) ?_
            have hW1 := hW.q (g' := g) (A' := A) Gsm.rf Ksm.rf
            refine rr_pv (as := [.int (-3)]) (al0 := [some (.ref 146), some (.int (-3))]) (r := []) d_277_74 mo_277 ml_110 mz_180 rfl rfl rfl (Nat.le_of_ble_eq_true rfl) (s_refuses (e := 3) (by decide) (by decide)) ?_
            show RR _ _ 77 [some (.ref 146), some (.int (nI k)), some (.int (nI m)), some (.int (nI hold)), some (.int (nI no)), some (.int u)] [.int (-3)] (upd g 0 (-3)) (rf_u A 0 (upd (A 0) 3 (A 0 3 + nI 1))) _
            exact rr_ri d_277_77 mr_277 rfl ⟨rfl, (hW1.rf (by decide)).mo⟩
          · exact absurd c49 (fun e_ => by have := ((in_r (m := 9407) (by decide)).mp e_).1; omega)
        · exact absurd ((in_j (by omega)).mpr hno) c31
theorem p_find_e {S : CS} {G : Nat → Nat → Value} {B : Nat → Nat → Int32} {J : Nat → Nat → Int64} {R : Nat → Nat → Option Nat} {n : Nat} {W : WS} (hW : WC n S G B R W) {k : Nat} (hk6 : k < 6) {m : Nat} (h1 : 1 ≤ m) (hm6 : m ≤ 6) {hold no : Nat} (hh : hold < 1 * 2 ^ kL (wK W)) (hno : no < 1 * 2 ^ kL (wK W)) {i : Nat} (hi : ((flA m (T00 m)).filter (lsB (kL (wK W)) (kW (wK W)) (kN (wK W)) hold no m)).length ≤ i) (hi3 : i < 2 ^ 31) : CR 80 147 0 [some (.ref 2), some (.int (nI k)), some (.int (nI m)), some (.int (nI hold)), some (.int (nI no)), some (.int (nI i))] [] S G B J R (fun r__ S' G' B' J' R' => r__ = some (.int (-3)) ∧ WC (n + 1) S' G' B' R' (refW W (-3) 3)) := by
  have hS := hW.1.1
  have hF := hW.2.1
  have hO := hW.2.2.2.1
  obtain ⟨ta, ka, la, hH, hLk, hl2, hs3, hbd⟩ := hW.2.2.1
  have h256 : 1 * 2 ^ kL (wK W) ≤ 2 ^ 8 := by rw [Nat.one_mul]; exact Nat.pow_le_pow_right (by decide) hO.2.1
  refine cr_nx (pc' := 1) (al' := [some (.ref 2), some (.int (nI k)), some (.int (nI m)), some (.int (nI hold)), some (.int (nI no)), some (.int (nI i))]) (st' := [.int (nI k)]) d_147_0 (fun _ => rfl) ?_
  refine cr_ps (as := [.int (nI k)]) (al0 := [some (.int (nI k))]) (r := []) d_147_1 cw_147 cm_11_100 (by decide) cz_118 rfl rfl rfl (Nat.le_of_ble_eq_true rfl) (k_isPlace) ?_
  show CR _ _ 4 [some (.ref 2), some (.int (nI k)), some (.int (nI m)), some (.int (nI hold)), some (.int (nI no)), some (.int (nI i))] [.int (bI (inP (nI k) 6))] S G B J R _
  refine cr_beq (t := 31) d_147_4 (by decide) (fun c4 => ?_) (fun c4 => ?_)
  · exact absurd ((in_j (by omega)).mpr hk6) c4
  · refine cr_nx (pc' := 8) (al' := [some (.ref 2), some (.int (nI k)), some (.int (nI m)), some (.int (nI hold)), some (.int (nI no)), some (.int (nI i))]) (st' := [.int (nI m)]) d_147_7 (fun _ => rfl) ?_
    refine cr_ps (as := [.int (nI m)]) (al0 := [some (.int (nI m))]) (r := []) d_147_8 cw_147 cm_11_119 (by decide) cz_121 rfl rfl rfl (Nat.le_of_ble_eq_true rfl) (k_isSize) ?_
    show CR _ _ 11 [some (.ref 2), some (.int (nI k)), some (.int (nI m)), some (.int (nI hold)), some (.int (nI no)), some (.int (nI i))] [.int (bI (szP (nI m)))] S G B J R _
    refine cr_beq (t := 31) d_147_11 (by decide) (fun c11 => ?_) (fun c11 => ?_)
    · exact absurd (sz_j h1 hm6) c11
    · refine cr_nx (pc' := 15) (al' := [some (.ref 2), some (.int (nI k)), some (.int (nI m)), some (.int (nI hold)), some (.int (nI no)), some (.int (nI i))]) (st' := [.ref 2]) d_147_14 (fun _ => rfl) ?_
      refine cr_nx (pc' := 16) (al' := [some (.ref 2), some (.int (nI k)), some (.int (nI m)), some (.int (nI hold)), some (.int (nI no)), some (.int (nI i))]) (st' := [.int (nI hold), .ref 2]) d_147_15 (fun _ => rfl) ?_
      refine cr_pv (b := 2) (as := [.int (nI hold)]) (al0 := [some (.ref 2), some (.int (nI hold))]) (r := []) d_147_16 cw_147 cm_11_258 cz_146 rfl rfl (hS.i (a := 2) (by decide) (by decide)) (by rw [cw_146]; exact (hS.s (a := 2) (by decide) (by decide) rfl)) (by rw [cw_146]; decide) rfl (Nat.le_of_ble_eq_true rfl) (k_areLaws hS hF hl2 hO.2.1) ?_
      show CR _ _ 19 [some (.ref 2), some (.int (nI k)), some (.int (nI m)), some (.int (nI hold)), some (.int (nI no)), some (.int (nI i))] [.int (bI (inP (nI hold) (1 * 2 ^ kL (wK W))))] S G B J R _
      refine cr_beq (t := 31) d_147_19 (by decide) (fun c19 => ?_) (fun c19 => ?_)
      · exact absurd ((in_j (by omega)).mpr hh) c19
      · refine cr_nx (pc' := 23) (al' := [some (.ref 2), some (.int (nI k)), some (.int (nI m)), some (.int (nI hold)), some (.int (nI no)), some (.int (nI i))]) (st' := [.ref 2]) d_147_22 (fun _ => rfl) ?_
        refine cr_nx (pc' := 25) (al' := [some (.ref 2), some (.int (nI k)), some (.int (nI m)), some (.int (nI hold)), some (.int (nI no)), some (.int (nI i))]) (st' := [.int (nI no), .ref 2]) d_147_23 (fun _ => rfl) ?_
        refine cr_pv (b := 2) (as := [.int (nI no)]) (al0 := [some (.ref 2), some (.int (nI no))]) (r := []) d_147_25 cw_147 cm_11_258 cz_146 rfl rfl (hS.i (a := 2) (by decide) (by decide)) (by rw [cw_146]; exact (hS.s (a := 2) (by decide) (by decide) rfl)) (by rw [cw_146]; decide) rfl (Nat.le_of_ble_eq_true rfl) (k_areLaws hS hF hl2 hO.2.1) ?_
        show CR _ _ 28 [some (.ref 2), some (.int (nI k)), some (.int (nI m)), some (.int (nI hold)), some (.int (nI no)), some (.int (nI i))] [.int (bI (inP (nI no) (1 * 2 ^ kL (wK W))))] S G B J R _
        refine cr_bne (t := 37) d_147_28 (by decide) (fun c28 => ?_) (fun c28 => ?_)
        · refine cr_nx (pc' := 38) (al' := [some (.ref 2), some (.int (nI k)), some (.int (nI m)), some (.int (nI hold)), some (.int (nI no)), some (.int (nI i))]) (st' := [.ref 2]) d_147_37 (fun _ => rfl) ?_
          refine cr_gf (v := .ref 96) d_147_38 cw_147 cf_11_55 (hS.i (a := 2) (by decide) (by decide)) (hS.s (a := 2) (by decide) (by decide) rfl) (by decide) (fx_2_9 hF) ?_
          refine cr_nx (pc' := 42) (al' := [some (.ref 2), some (.int (nI k)), some (.int (nI m)), some (.int (nI hold)), some (.int (nI no)), some (.int (nI i))]) (st' := [.ref 2, .ref 96]) d_147_41 (fun _ => rfl) ?_
          refine cr_gf (v := .ref 3) d_147_42 cw_147 cf_11_10 (hS.i (a := 2) (by decide) (by decide)) (hS.s (a := 2) (by decide) (by decide) rfl) (by decide) (fx_2_0 hF) ?_
          refine cr_gf (v := .ref 5) d_147_45 cw_147 cf_11_241 (hS.i (a := 3) (by decide) (by decide)) (hS.s (a := 3) (by decide) (by decide) rfl) (by decide) (fx_3_1 hF) ?_
          refine cr_nx (pc' := 49) (al' := [some (.ref 2), some (.int (nI k)), some (.int (nI m)), some (.int (nI hold)), some (.int (nI no)), some (.int (nI i))]) (st' := [.int (nI hold), .ref 5, .ref 96]) d_147_48 (fun _ => rfl) ?_
          refine cr_nx (pc' := 51) (al' := [some (.ref 2), some (.int (nI k)), some (.int (nI m)), some (.int (nI hold)), some (.int (nI no)), some (.int (nI i))]) (st' := [.int (nI no), .int (nI hold), .ref 5, .ref 96]) d_147_49 (fun _ => rfl) ?_
          refine cr_pv (b := 96) (as := [.ref 5, .int (nI hold), .int (nI no)]) (al0 := [some (.ref 96), some (.ref 5), some (.int (nI hold)), some (.int (nI no))]) (r := []) d_147_51 cw_147 cm_11_261 cz_35 rfl rfl (hS.i (a := 96) (by decide) (by decide)) (by rw [cw_35]; exact (hS.s (a := 96) (by decide) (by decide) rfl)) (by rw [cw_35]; decide) rfl (Nat.le_of_ble_eq_true rfl) (k_choose hS) ?_
          show CR _ _ 54 [some (.ref 2), some (.int (nI k)), some (.int (nI m)), some (.int (nI hold)), some (.int (nI no)), some (.int (nI i))] [] S (up2 (up2 (up2 G 96 4 (.ref 5)) 96 5 (.int (nI hold))) 96 6 (.int (nI no))) B J R _
          refine cr_nx (pc' := 56) (al' := [some (.ref 2), some (.int (nI k)), some (.int (nI m)), some (.int (nI hold)), some (.int (nI no)), some (.int (nI i))]) (st' := [.int (nI i)]) d_147_54 (fun _ => rfl) ?_
          refine cn_zlt (t := 72) d_147_56 (by decide) (by first | omega | assumption | exact cu_36 (by omega) (cu_lt (by omega) (by omega))) (fun c56 => ?_) (fun c56 => ?_)
          · exact c56.elim
          · refine cr_nx (pc' := 60) (al' := [some (.ref 2), some (.int (nI k)), some (.int (nI m)), some (.int (nI hold)), some (.int (nI no)), some (.int (nI i))]) (st' := [.ref 2]) d_147_59 (fun _ => rfl) ?_
            refine cr_gf (v := .ref 96) d_147_60 cw_147 cf_11_55 (hS.i (a := 2) (by decide) (by decide)) (hS.s (a := 2) (by decide) (by decide) rfl) (by decide) (by simp [up2]; exact (fx_2_9 hF)) ?_
            refine cr_nx (pc' := 64) (al' := [some (.ref 2), some (.int (nI k)), some (.int (nI m)), some (.int (nI hold)), some (.int (nI no)), some (.int (nI i))]) (st' := [.int (nI m), .ref 96]) d_147_63 (fun _ => rfl) ?_
            refine cr_nx (pc' := 66) (al' := [some (.ref 2), some (.int (nI k)), some (.int (nI m)), some (.int (nI hold)), some (.int (nI no)), some (.int (nI i))]) (st' := [.int (nI i), .int (nI m), .ref 96]) d_147_64 (fun _ => rfl) ?_
            refine cr_cv (b := 96) (as := [.int (nI m), .int (nI i)]) (al0 := [some (.ref 96), some (.int (nI m)), some (.int (nI i)), none]) (r := []) d_147_66 cw_147 cm_11_265 cz_36 rfl rfl (hS.i (a := 96) (by decide) (by decide)) (by rw [cw_36]; exact (hS.s (a := 96) (by decide) (by decide) rfl)) (by rw [cw_36]; decide) rfl (cr_wk (Nat.le_of_ble_eq_true rfl) (k_seek (wt := some i) (P := lsB (kL (wK W)) (kW (wK W)) (kN (wK W)) hold no m) hS (FxG.u9 (Or.inl ⟨rfl, Or.inr (by decide)⟩) (FxG.u9 (Or.inl ⟨rfl, Or.inr (by decide)⟩) (FxG.u9 (Or.inl ⟨rfl, Or.inr (by decide)⟩) hF))) hm6 h1 (fun _ e_ => by cases e_; omega) (fun G_ B_ e_ hb_ => by subst e_; exact ls_c hS (hLk.cg (fun a_ ha_ => by rw [up2_g (by omega), up2_g (by omega), up2_g (by omega), up2_g (by omega), up2_g (by omega), up2_g (by omega)]) (fun a_ ha_ => hb_ a_ (by simp; omega))) hm6 h1 up2_s (by rw [up2_n (by decide), up2_n (by decide), up2_n (by decide), up2_n (by decide), up2_n (by decide), up2_s]) (by rw [up2_n (by decide), up2_n (by decide), up2_n (by decide), up2_n (by decide), up2_s]) (by rw [up2_n (by decide), up2_n (by decide), up2_n (by decide), up2_s]) hh hno) (by have := fl_9408 hm6 h1; omega))) (fun v1 S1 G1 B1 J1 R1 h1x => ?_)
            obtain ⟨⟨q1_, q2_, q3_⟩, hg1, hF1, hb1, h97_, hor⟩ := h1x
            obtain rfl := q1_.symm
            obtain rfl := q2_.symm
            obtain rfl := q3_.symm
            have hW1 : WC n S G1 B1 R W := hW.q hF1 (Gfr.tr (((Gfr.rf.u (by decide)).u (by decide)).u (by decide)) (hg1.mo (by decide))) (hb1.mo (by decide))
            obtain ⟨q0_, _, _⟩ := hor.resolve_right (fun h_ => by obtain ⟨w_, e_, h3_, _⟩ := h_.2; cases e_; omega)
            obtain rfl := q0_
            show CR _ _ 69 [some (.ref 2), some (.int (nI k)), some (.int (nI m)), some (.int (nI hold)), some (.int (nI no)), some (.int (nI i))] [.int (nI 0)] S G1 B1 J R _
            refine cn_ine (t := 79) d_147_69 (by decide) (by first | omega | assumption | exact cu_36 (by omega) (cu_lt (by omega) (by omega))) (fun c69 => ?_) (fun c69 => ?_)
            · omega
            · refine cr_nx (pc' := 73) (al' := [some (.ref 2), some (.int (nI k)), some (.int (nI m)), some (.int (nI hold)), some (.int (nI no)), some (.int (nI i))]) (st' := [.ref 2]) d_147_72 (fun _ => rfl) ?_
              refine cr_nx (pc' := 75) (al' := [some (.ref 2), some (.int (nI k)), some (.int (nI m)), some (.int (nI hold)), some (.int (nI no)), some (.int (nI i))]) (st' := [.int (-3), .ref 2]) d_147_73 (fun _ => rfl) ?_
              refine cr_pv (b := 2) (as := [.int (-3)]) (al0 := [some (.ref 2), some (.int (-3))]) (r := []) d_147_75 cw_147 cm_11_104 cz_119 rfl rfl (hS.i (a := 2) (by decide) (by decide)) (by rw [cw_119]; exact (hS.s (a := 2) (by decide) (by decide) rfl)) (by rw [cw_119]; decide) rfl (Nat.le_of_ble_eq_true rfl) (k_refuse (e := 3) hS hF1 (by decide) (by decide)) ?_
              show CR _ _ 78 [some (.ref 2), some (.int (nI k)), some (.int (nI m)), some (.int (nI hold)), some (.int (nI no)), some (.int (nI i))] [.int (-3)] S (up2 G1 2 16 (.int (-3))) (upr B1 145 (upd (B1 145) 3 (B1 145 3 + nI 1))) J R _
              exact cr_ri d_147_78 cx_147 rfl ⟨rfl, (hW1.rf (by decide)).mo⟩
        · exact absurd ((in_j (by omega)).mpr hno) c28
theorem r_find_e {g : Nat → Int32} {A : Nat → Nat → Int32} {n : Nat} {W : WS} (hW : WR n g A W) (hO : CoOk (wK W)) {k : Nat} (hk6 : k < 6) {m : Nat} (h1 : 1 ≤ m) (hm6 : m ≤ 6) {hold no : Nat} (hh : hold < 1 * 2 ^ kL (wK W)) (hno : no < 1 * 2 ^ kL (wK W)) {i : Nat} (hi : ((flA m (T00 m)).filter (lsB (kL (wK W)) (kW (wK W)) (kN (wK W)) hold no m)).length ≤ i) (hi3 : i < 2 ^ 31) : RR 80 277 0 [some (.ref 146), some (.int (nI k)), some (.int (nI m)), some (.int (nI hold)), some (.int (nI no)), some (.int (nI i))] [] g A (fun r__ g' A' => r__ = some (.int (-3)) ∧ WR (n + 1) g' A' (refW W (-3) 3)) := by
  have h256 : 1 * 2 ^ kL (wK W) ≤ 2 ^ 8 := by rw [Nat.one_mul]; exact Nat.pow_le_pow_right (by decide) hO.2.1
  have h94 : ((flA m (T00 m)).filter (lsB (kL (wK W)) (kW (wK W)) (kN (wK W)) hold no m)).length ≤ 9408 := fl_fil hm6 h1
  refine rr_nx (pc' := 1) (al' := [some (.ref 146), some (.int (nI k)), some (.int (nI m)), some (.int (nI hold)), some (.int (nI no)), some (.int (nI i))]) (st' := [.int (nI k)]) d_277_0 (fun _ => rfl) ?_
  refine rr_ps (as := [.int (nI k)]) (al0 := [some (.int (nI k))]) (r := []) d_277_1 mo_277 ml_117 mz_185 rfl rfl rfl (Nat.le_of_ble_eq_true rfl) (s_isSlot (nI k)) ?_
  show RR _ _ 4 [some (.ref 146), some (.int (nI k)), some (.int (nI m)), some (.int (nI hold)), some (.int (nI no)), some (.int (nI i))] [.int (bI (nI 0 ≤ (nI k) ∧ (nI k) ≤ nI 5))] g A _
  refine rr_beq (t := 34) d_277_4 (by decide) (fun c4 => ?_) (fun c4 => ?_)
  · exact absurd ((in_r (m := 5) (by decide)).mpr ((in_j (by omega)).mpr hk6)) c4
  · refine rr_nx (pc' := 8) (al' := [some (.ref 146), some (.int (nI k)), some (.int (nI m)), some (.int (nI hold)), some (.int (nI no)), some (.int (nI i))]) (st' := [.int (nI m)]) d_277_7 (fun _ => rfl) ?_
    refine rn_ic (v := 1) d_277_8 (by decide) ?_
    refine rn_bp (v := 6) d_277_9 (by decide) ?_
    refine rr_ps (as := [.int (nI m), .int (nI 1), .int (nI 6)]) (al0 := [some (.int (nI m)), some (.int (nI 1)), some (.int (nI 6))]) (r := []) d_277_11 mo_277 ml_106 mz_179 rfl rfl rfl (Nat.le_of_ble_eq_true rfl) (s_lies (nI m) (nI 1) (nI 6)) ?_
    show RR _ _ 14 [some (.ref 146), some (.int (nI k)), some (.int (nI m)), some (.int (nI hold)), some (.int (nI no)), some (.int (nI i))] [.int (bI ((nI 1) ≤ (nI m) ∧ (nI m) ≤ (nI 6)))] g A _
    refine rr_beq (t := 34) d_277_14 (by decide) (fun c14 => ?_) (fun c14 => ?_)
    · exact absurd (sz_r.mpr (sz_j h1 hm6)) c14
    · refine rr_nx (pc' := 18) (al' := [some (.ref 146), some (.int (nI k)), some (.int (nI m)), some (.int (nI hold)), some (.int (nI no)), some (.int (nI i))]) (st' := [.ref 146]) d_277_17 (fun _ => rfl) ?_
      refine rr_nx (pc' := 19) (al' := [some (.ref 146), some (.int (nI k)), some (.int (nI m)), some (.int (nI hold)), some (.int (nI no)), some (.int (nI i))]) (st' := [.int (nI hold), .ref 146]) d_277_18 (fun _ => rfl) ?_
      refine rr_pv (as := [.int (nI hold)]) (al0 := [some (.ref 146), some (.int (nI hold))]) (r := []) d_277_19 mo_277 ml_361 mz_272 rfl rfl rfl (Nat.le_of_ble_eq_true rfl) (s_areLaws hW hO) ?_
      show RR _ _ 22 [some (.ref 146), some (.int (nI k)), some (.int (nI m)), some (.int (nI hold)), some (.int (nI no)), some (.int (nI i))] [.int (bI (inP (nI hold) (1 * 2 ^ kL (wK W))))] g A _
      refine rr_beq (t := 34) d_277_22 (by decide) (fun c22 => ?_) (fun c22 => ?_)
      · exact absurd ((in_j (by omega)).mpr hh) c22
      · refine rr_nx (pc' := 26) (al' := [some (.ref 146), some (.int (nI k)), some (.int (nI m)), some (.int (nI hold)), some (.int (nI no)), some (.int (nI i))]) (st' := [.ref 146]) d_277_25 (fun _ => rfl) ?_
        refine rr_nx (pc' := 28) (al' := [some (.ref 146), some (.int (nI k)), some (.int (nI m)), some (.int (nI hold)), some (.int (nI no)), some (.int (nI i))]) (st' := [.int (nI no), .ref 146]) d_277_26 (fun _ => rfl) ?_
        refine rr_pv (as := [.int (nI no)]) (al0 := [some (.ref 146), some (.int (nI no))]) (r := []) d_277_28 mo_277 ml_361 mz_272 rfl rfl rfl (Nat.le_of_ble_eq_true rfl) (s_areLaws hW hO) ?_
        show RR _ _ 31 [some (.ref 146), some (.int (nI k)), some (.int (nI m)), some (.int (nI hold)), some (.int (nI no)), some (.int (nI i))] [.int (bI (inP (nI no) (1 * 2 ^ kL (wK W))))] g A _
        refine rr_bne (t := 40) d_277_31 (by decide) (fun c31 => ?_) (fun c31 => ?_)
        · refine rr_nx (pc' := 42) (al' := [some (.ref 146), some (.int (nI k)), some (.int (nI m)), some (.int (nI hold)), some (.int (nI no)), some (.int (nI i))]) (st' := [.int (nI i)]) d_277_40 (fun _ => rfl) ?_
          refine rn_ic (v := 0) d_277_42 (by decide) ?_
          refine rn_sp (v := 9407) d_277_43 (by decide) ?_
          refine rr_ps (as := [.int (nI i), .int (nI 0), .int (nI 9407)]) (al0 := [some (.int (nI i)), some (.int (nI 0)), some (.int (nI 9407))]) (r := []) d_277_46 mo_277 ml_106 mz_179 rfl rfl rfl (Nat.le_of_ble_eq_true rfl) (s_lies (nI i) (nI 0) (nI 9407)) ?_
          show RR _ _ 49 [some (.ref 146), some (.int (nI k)), some (.int (nI m)), some (.int (nI hold)), some (.int (nI no)), some (.int (nI i))] [.int (bI ((nI 0) ≤ (nI i) ∧ (nI i) ≤ (nI 9407)))] g A _
          refine rr_beq (t := 71) d_277_49 (by decide) (fun c49 => ?_) (fun c49 => ?_)
          · refine rr_nx (pc' := 72) (al' := [some (.ref 146), some (.int (nI k)), some (.int (nI m)), some (.int (nI hold)), some (.int (nI no)), some (.int (nI i))]) (st' := [.ref 146]) d_277_71 (fun _ => rfl) ?_
            refine rr_nx (pc' := 74) (al' := [some (.ref 146), some (.int (nI k)), some (.int (nI m)), some (.int (nI hold)), some (.int (nI no)), some (.int (nI i))]) (st' := [.int (-3), .ref 146]) d_277_72 (fun _ => rfl) ?_
            have hW1 := hW.q (g' := g) (A' := A) Gsm.rf Ksm.rf
            refine rr_pv (as := [.int (-3)]) (al0 := [some (.ref 146), some (.int (-3))]) (r := []) d_277_74 mo_277 ml_110 mz_180 rfl rfl rfl (Nat.le_of_ble_eq_true rfl) (s_refuses (e := 3) (by decide) (by decide)) ?_
            show RR _ _ 77 [some (.ref 146), some (.int (nI k)), some (.int (nI m)), some (.int (nI hold)), some (.int (nI no)), some (.int (nI i))] [.int (-3)] (upd g 0 (-3)) (rf_u A 0 (upd (A 0) 3 (A 0 3 + nI 1))) _
            exact rr_ri d_277_77 mr_277 rfl ⟨rfl, (hW1.rf (by decide)).mo⟩
          · refine rr_nx (pc' := 53) (al' := [some (.ref 146), some (.int (nI k)), some (.int (nI m)), some (.int (nI hold)), some (.int (nI no)), some (.int (nI i))]) (st' := [.ref 146]) d_277_52 (fun _ => rfl) ?_
            refine rr_nx (pc' := 54) (al' := [some (.ref 146), some (.int (nI k)), some (.int (nI m)), some (.int (nI hold)), some (.int (nI no)), some (.int (nI i))]) (st' := [.int (nI m), .ref 146]) d_277_53 (fun _ => rfl) ?_
            refine rr_nx (pc' := 55) (al' := [some (.ref 146), some (.int (nI k)), some (.int (nI m)), some (.int (nI hold)), some (.int (nI no)), some (.int (nI i))]) (st' := [.int (nI hold), .int (nI m), .ref 146]) d_277_54 (fun _ => rfl) ?_
            refine rr_nx (pc' := 57) (al' := [some (.ref 146), some (.int (nI k)), some (.int (nI m)), some (.int (nI hold)), some (.int (nI no)), some (.int (nI i))]) (st' := [.int (nI no), .int (nI hold), .int (nI m), .ref 146]) d_277_55 (fun _ => rfl) ?_
            refine rr_nx (pc' := 59) (al' := [some (.ref 146), some (.int (nI k)), some (.int (nI m)), some (.int (nI hold)), some (.int (nI no)), some (.int (nI i))]) (st' := [.int (nI i), .int (nI no), .int (nI hold), .int (nI m), .ref 146]) d_277_57 (fun _ => rfl) ?_
            refine rn_ic (v := 1) d_277_59 (by decide) ?_
            refine rn_add d_277_60  ?_
            refine rr_cv (as := [.int (nI m), .int (nI hold), .int (nI no), .int (nI (i + 1))]) (al0 := [some (.ref 146), some (.int (nI m)), some (.int (nI hold)), some (.int (nI no)), some (.int (nI (i + 1))), none]) (r := []) d_277_61 mo_277 ml_376 mz_273 rfl rfl rfl (rr_wk (Nat.le_of_ble_eq_true rfl) (s_lists (s := some (i + 1)) (hold := hold) (no := no) hm6 h1 (hW.lk hO) (by omega) (by omega) hW.2.2.2.2.2.2.2.2.1 ⟨by omega, by have := (in_r (m := 9407) (by decide)).mp c49; rw [in_j (by omega)] at this; omega⟩)) (fun v1 g1 A1 h1x => ?_)
            obtain ⟨q0_, h8_, hg1, ha1, hx1⟩ := h1x
            rw [show capN (some (i + 1)) ((flA m (T00 m)).filter (lsB (kL (wK W)) (kW (wK W)) (kN (wK W)) hold no m)).length = ((flA m (T00 m)).filter (lsB (kL (wK W)) (kW (wK W)) (kN (wK W)) hold no m)).length from Nat.min_eq_right (by omega)] at q0_
            obtain rfl := q0_
            show RR _ _ 64 [some (.ref 146), some (.int (nI k)), some (.int (nI m)), some (.int (nI hold)), some (.int (nI no)), some (.int (nI i))] [.int (nI (((flA m (T00 m)).filter (lsB (kL (wK W)) (kW (wK W)) (kN (wK W)) hold no m)).length))] g1 A1 _
            refine rr_nx (pc' := 66) (al' := [some (.ref 146), some (.int (nI k)), some (.int (nI m)), some (.int (nI hold)), some (.int (nI no)), some (.int (nI i))]) (st' := [.int (nI i), .int (nI (((flA m (T00 m)).filter (lsB (kL (wK W)) (kW (wK W)) (kN (wK W)) hold no m)).length))]) d_277_64 (fun _ => rfl) ?_
            refine rn_ic (v := 1) d_277_66 (by decide) ?_
            refine rn_add d_277_67  ?_
            refine rn_ceq (t := 78) d_277_68 (by decide) (by omega) (by have := (in_r (m := 9407) (by decide)).mp c49; rw [in_j (by omega)] at this; omega) (fun c68 => ?_) (fun c68 => ?_)
            · omega
            · refine rr_nx (pc' := 72) (al' := [some (.ref 146), some (.int (nI k)), some (.int (nI m)), some (.int (nI hold)), some (.int (nI no)), some (.int (nI i))]) (st' := [.ref 146]) d_277_71 (fun _ => rfl) ?_
              refine rr_nx (pc' := 74) (al' := [some (.ref 146), some (.int (nI k)), some (.int (nI m)), some (.int (nI hold)), some (.int (nI no)), some (.int (nI i))]) (st' := [.int (-3), .ref 146]) d_277_72 (fun _ => rfl) ?_
              have hW1 := hW.q hg1 ha1
              refine rr_pv (as := [.int (-3)]) (al0 := [some (.ref 146), some (.int (-3))]) (r := []) d_277_74 mo_277 ml_110 mz_180 rfl rfl rfl (Nat.le_of_ble_eq_true rfl) (s_refuses (e := 3) (by decide) (by decide)) ?_
              show RR _ _ 77 [some (.ref 146), some (.int (nI k)), some (.int (nI m)), some (.int (nI hold)), some (.int (nI no)), some (.int (nI i))] [.int (-3)] (upd g1 0 (-3)) (rf_u A1 0 (upd (A1 0) 3 (A1 0 3 + nI 1))) _
              exact rr_ri d_277_77 mr_277 rfl ⟨rfl, (hW1.rf (by decide)).mo⟩
        · exact absurd ((in_j (by omega)).mpr hno) c31
theorem T_find {S : CS} {G : Nat → Nat → Value} {B : Nat → Nat → Int32} {J : Nat → Nat → Int64} {R : Nat → Nat → Option Nat} {g : Nat → Int32} {A : Nat → Nat → Int32} {n : Nat} {W : WS} (hC : WC n S G B R W) (hR : WR n g A W) (hn : n ≤ 10000) {t : Int32} {x : Int32} {z : Int32} {v : Int32} {u : Int32} : Tie n 147 277 [some (.ref 2), some (.int t), some (.int x), some (.int z), some (.int v), some (.int u)] [some (.ref 146), some (.int t), some (.int x), some (.int z), some (.int v), some (.int u)] S G B J R g A W := by
  have hO := hC.2.2.2.1
  by_cases hx : inP t 6 ∧ szP x ∧ inP z (1 * 2 ^ kL (wK W)) ∧ inP v (1 * 2 ^ kL (wK W))
  · obtain ⟨k, hk6, e_⟩ := in_n hx.1
    subst e_
    obtain ⟨m, h1, hm6, e_⟩ := sz_n hx.2.1
    subst e_
    obtain ⟨hold, hh, e_⟩ := in_n hx.2.2.1
    subst e_
    obtain ⟨no, hno, e_⟩ := in_n hx.2.2.2
    subst e_
    by_cases hu : u.toInt < 0
    · exact ⟨_, _, p_find_m hC hk6 h1 hm6 hh hno hu, r_find_m hR hO hk6 h1 hm6 hh hno hu⟩
    · obtain ⟨i, hi3, e_⟩ := in_n (x := u) (m := 2 ^ 31) ⟨by omega, by have := Int32.toInt_lt u; omega⟩
      subst e_
      by_cases hi : i < ((flA m (T00 m)).filter (lsB (kL (wK W)) (kW (wK W)) (kN (wK W)) hold no m)).length
      · exact ⟨_, _, p_find_y hC hk6 h1 hm6 hh hno hi, r_find_y hR hO hk6 h1 hm6 hh hno hi hn⟩
      · exact ⟨_, _, p_find_e hC hk6 h1 hm6 hh hno (by omega) hi3, r_find_e hR hO hk6 h1 hm6 hh hno (by omega) hi3⟩
  · exact ⟨_, _, p_find_b hC hx, r_find_b hR hO hx⟩
