/-! Calls: image, back; printed by wip/whole/gen_c49.py. -/
theorem cl_11_7 : am_cl 11 7 = some 9 := by decide +kernel
theorem k_imB {S : CS} {G : Nat → Nat → Value} {B : Nat → Nat → Int32} {J : Nat → Nat → Int64} {R : Nat → Nat → Option Nat} {n : Nat} {W : WS} {k a : Nat} {K : Core} (h : WC n S G B R W) (hk : k < 2) (hK : wI W k = some K) (hr : R 81 k = some a) : CR 1 86 0 [some (.ref a), some (.ref 3), none] [] S G B J R (SbQ a (wK W) S G B J R) := by
  obtain ⟨⟨a1, a2, a3, a3x⟩, a4, a5, a6, ⟨i1, ia, i2, i3⟩, _⟩ := h
  obtain ⟨p1, p2, p3, p4, ⟨ta, ka, la, hH, _⟩, p6⟩ := i3 k K hk hK
  rw [hr] at p1
  cases p1
  exact k_stBecome p3 p4 hH.st (sh_3 a1) (sg_3 a4) a5 a3x.1 a6 (by omega) (a3x.2 k _ hk hr).2.1
theorem k_bkB {S : CS} {G : Nat → Nat → Value} {B : Nat → Nat → Int32} {J : Nat → Nat → Int64} {R : Nat → Nat → Option Nat} {n : Nat} {W : WS} {k a : Nat} {K : Core} (h : WC n S G B R W) (hk : k < 2) (hK : wI W k = some K) (hr : R 81 k = some a) : CR 1 86 0 [some (.ref 3), some (.ref a), none] [] S G B J R (SbQ 3 K S G B J R) := by
  obtain ⟨⟨a1, a2, a3, a3x⟩, a4, ⟨ta, ka, la, hH, _⟩, a6, ⟨i1, ia, i2, i3⟩, _⟩ := h
  obtain ⟨p1, p2, p3, p4, p5, p6⟩ := i3 k K hk hK
  rw [hr] at p1
  cases p1
  exact k_stBecome (sh_3 a1) (sg_3 a4) hH.st p3 p4 p5 (a3x.2 k _ hk hr).2 p6 (by omega) a3x.1.1
theorem WC.io {S : CS} {G : Nat → Nat → Value} {B : Nat → Nat → Int32} {R : Nat → Nat → Option Nat} {n : Nat} {W : WS} (h : WC n S G B R W) : ∀ i K, i < 2 → wI W i = some K → CoOk K := fun i K hi hK => by
  obtain ⟨i1, ia, i2, i3⟩ := h.2.2.2.2.1
  exact (i3 i K hi hK).2.2.2.2.2
theorem WC.ir {S : CS} {G : Nat → Nat → Value} {B : Nat → Nat → Int32} {R : Nat → Nat → Option Nat} {n : Nat} {W : WS} (h : WC n S G B R W) {k : Nat} {K : Core} (hk : k < 2) (hK : wI W k = some K) : ∃ a, R 81 k = some a ∧ cs_in S.1 a ∧ S.2 a = (109, 9) := by
  obtain ⟨i1, ia, i2, i3⟩ := h.2.2.2.2.1
  obtain ⟨p1, p2, p3, _⟩ := i3 k K hk hK
  exact ⟨ia k, p1, (p3 0 (by decide)).1, p3.s 0 (by decide) rfl⟩
theorem im_ii {W : WS} {k : Nat} {K : Core} : imW (iiW W k K) k = imW W k := by
  unfold imW iiW
  have : (fun i => if i = k then some (wK W) else if i = k then some K else wI W i) = fun i => if i = k then some (wK W) else wI W i := by
    funext i
    by_cases e : i = k
    · rw [if_pos e, if_pos e]
    · rw [if_neg e, if_neg e, if_neg e]
  exact congrArg (fun f => (wK W, f, wT W, wL W, wF W, nI 0, wR W, wW W)) this
theorem p_image_y {S : CS} {G : Nat → Nat → Value} {B : Nat → Nat → Int32} {J : Nat → Nat → Int64} {R : Nat → Nat → Option Nat} {n : Nat} {W : WS} (hW : WC n S G B R W) {k : Nat} (hk : k < 2) {K : Core} (hI : wI W k = some K) : CR 80 173 0 [some (.ref 2), some (.int (nI k))] [] S G B J R (fun r__ S' G' B' J' R' => r__ = some (.int (nI 0)) ∧ WC (n + 1) S' G' B' R' (imW W k)) := by
  have hS := hW.1.1
  have hF := hW.2.1
  have hO := hW.2.2.2.1
  obtain ⟨ta, ka, la, hH, hLk, hl2, hs3, hbd⟩ := hW.2.2.1
  obtain ⟨a, hr, hai, has⟩ := hW.ir hk hI
  refine cr_nx (pc' := 1) (al' := [some (.ref 2), some (.int (nI k))]) (st' := [.int (nI k)]) d_173_0 (fun _ => rfl) ?_
  refine cn_zlt (t := 9) d_173_1 (by decide) (by first | omega | assumption | exact cu_36 (by omega) (cu_lt (by omega) (by omega))) (fun c1 => ?_) (fun c1 => ?_)
  · exact c1.elim
  · refine cr_nx (pc' := 5) (al' := [some (.ref 2), some (.int (nI k))]) (st' := [.int (nI k)]) d_173_4 (fun _ => rfl) ?_
    refine cn_ic (v := 2) d_173_5 (by decide) ?_
    refine cn_clt (t := 15) d_173_6 (by decide) (by omega) (by decide) (fun c6 => ?_) (fun c6 => ?_)
    · refine cr_nx (pc' := 16) (al' := [some (.ref 2), some (.int (nI k))]) (st' := [.ref 2]) d_173_15 (fun _ => rfl) ?_
      refine cr_gf (v := .ref 81) d_173_16 cw_173 cf_11_16 (hS.i (a := 2) (by decide) (by decide)) (hS.s (a := 2) (by decide) (by decide) rfl) (by decide) (fx_2_1 hF) ?_
      refine cr_nx (pc' := 20) (al' := [some (.ref 2), some (.int (nI k))]) (st' := [.int (nI k), .ref 81]) d_173_19 (fun _ => rfl) ?_
      refine cr_aa (a := 81) (v := .ref a) d_173_20 (hS.i (a := 81) (by decide) (by decide)) (by decide) (hS.s (a := 81) (by decide) (by decide) rfl) (by decide) (show k < 2 by first | omega | assumption | exact cu_36 (by omega) (cu_lt (by omega) (by omega))) (show va_rf (R 81 k) = _ by rw [hr]; rfl) ?_
      refine cr_nx (pc' := 37) (al' := [some (.ref 2), some (.int (nI k))]) (st' := []) d_173_21 (fun _ => rfl) ?_
      refine cr_nx (pc' := 38) (al' := [some (.ref 2), some (.int (nI k))]) (st' := [.ref 2]) d_173_37 (fun _ => rfl) ?_
      refine cr_gf (v := .ref 81) d_173_38 cw_173 cf_11_16 (hS.i (a := 2) (by decide) (by decide)) (hS.s (a := 2) (by decide) (by decide) rfl) (by decide) (fx_2_1 hF) ?_
      refine cr_nx (pc' := 42) (al' := [some (.ref 2), some (.int (nI k))]) (st' := [.int (nI k), .ref 81]) d_173_41 (fun _ => rfl) ?_
      refine cr_aa (a := 81) (v := .ref a) d_173_42 (hS.i (a := 81) (by decide) (by decide)) (by decide) (hS.s (a := 81) (by decide) (by decide) rfl) (by decide) (show k < 2 by first | omega | assumption | exact cu_36 (by omega) (cu_lt (by omega) (by omega))) (show va_rf (R 81 k) = _ by rw [hr]; rfl) ?_
      refine cr_nx (pc' := 44) (al' := [some (.ref 2), some (.int (nI k))]) (st' := [.ref 2, .ref a]) d_173_43 (fun _ => rfl) ?_
      refine cr_gf (v := .ref 3) d_173_44 cw_173 cf_11_10 (hS.i (a := 2) (by decide) (by decide)) (hS.s (a := 2) (by decide) (by decide) rfl) (by decide) (fx_2_0 hF) ?_
      refine cr_cv (b := a) (as := [.ref 3]) (al0 := [some (.ref a), some (.ref 3), none]) (r := []) d_173_47 cw_173 cm_11_370 cz_86 rfl rfl hai (by rw [cw_86]; exact has) (by rw [cw_86]; decide) rfl (cr_wk (Nat.le_of_ble_eq_true rfl) (k_imB hW hk hI hr)) (fun v9 S9 G9 B9 J9 R9 h9x => ?_)
      have hq9 := h9x
      obtain ⟨q0_, q1_, q2_, _⟩ := h9x
      obtain rfl := q0_
      obtain rfl := q1_
      obtain rfl := q2_.symm
      show CR _ _ 50 [some (.ref 2), some (.int (nI k))] [] S9 G9 B9 J R9 _
      refine cr_nx (pc' := 51) (al' := [some (.ref 2), some (.int (nI k))]) (st' := [.ref 2]) d_173_50 (fun _ => rfl) ?_
      refine cn_ic (v := 0) d_173_51 (by decide) ?_
      refine cr_pv (b := 2) (as := [.int (nI 0)]) (al0 := [some (.ref 2), some (.int (nI 0))]) (r := []) d_173_52 cw_173 cm_11_212 cz_123 rfl rfl (hS.i (a := 2) (by decide) (by decide)) (by rw [cw_123]; exact (hS.s (a := 2) (by decide) (by decide) rfl)) (by rw [cw_123]; decide) rfl (Nat.le_of_ble_eq_true rfl) (k_accept hS) ?_
      show CR _ _ 55 [some (.ref 2), some (.int (nI k))] [.int (nI 0)] S9 (up2 G9 2 16 (.int (nI 0))) B9 J R9 _
      exact cr_ri d_173_55 cx_173 rfl ⟨rfl, (hW.ib hk hr hq9).mo⟩
    · omega
theorem p_image_n {S : CS} {G : Nat → Nat → Value} {B : Nat → Nat → Int32} {J : Nat → Nat → Int64} {R : Nat → Nat → Option Nat} {n : Nat} {W : WS} (hW : WC n S G B R W) {k : Nat} (hk : k < 2) (hI : wI W k = none) : CR 80 173 0 [some (.ref 2), some (.int (nI k))] [] S G B J R (fun r__ S' G' B' J' R' => r__ = some (.int (nI 0)) ∧ WC (n + 1) S' G' B' R' (imW W k)) := by
  have hS := hW.1.1
  have hF := hW.2.1
  have hO := hW.2.2.2.1
  obtain ⟨ta, ka, la, hH, hLk, hl2, hs3, hbd⟩ := hW.2.2.1
  have hrz : R 81 k = none := hW.2.2.2.2.1.1 k hk hI
  refine cr_nx (pc' := 1) (al' := [some (.ref 2), some (.int (nI k))]) (st' := [.int (nI k)]) d_173_0 (fun _ => rfl) ?_
  refine cn_zlt (t := 9) d_173_1 (by decide) (by first | omega | assumption | exact cu_36 (by omega) (cu_lt (by omega) (by omega))) (fun c1 => ?_) (fun c1 => ?_)
  · exact c1.elim
  · refine cr_nx (pc' := 5) (al' := [some (.ref 2), some (.int (nI k))]) (st' := [.int (nI k)]) d_173_4 (fun _ => rfl) ?_
    refine cn_ic (v := 2) d_173_5 (by decide) ?_
    refine cn_clt (t := 15) d_173_6 (by decide) (by omega) (by decide) (fun c6 => ?_) (fun c6 => ?_)
    · refine cr_nx (pc' := 16) (al' := [some (.ref 2), some (.int (nI k))]) (st' := [.ref 2]) d_173_15 (fun _ => rfl) ?_
      refine cr_gf (v := .ref 81) d_173_16 cw_173 cf_11_16 (hS.i (a := 2) (by decide) (by decide)) (hS.s (a := 2) (by decide) (by decide) rfl) (by decide) (fx_2_1 hF) ?_
      refine cr_nx (pc' := 20) (al' := [some (.ref 2), some (.int (nI k))]) (st' := [.int (nI k), .ref 81]) d_173_19 (fun _ => rfl) ?_
      refine cr_aa (a := 81) (v := .null) d_173_20 (hS.i (a := 81) (by decide) (by decide)) (by decide) (hS.s (a := 81) (by decide) (by decide) rfl) (by decide) (show k < 2 by first | omega | assumption | exact cu_36 (by omega) (cu_lt (by omega) (by omega))) (show va_rf (R 81 k) = _ by rw [hrz]; rfl) ?_
      refine cr_nx (pc' := 24) (al' := [some (.ref 2), some (.int (nI k))]) (st' := []) d_173_21 (fun _ => rfl) ?_
      refine cr_nx (pc' := 25) (al' := [some (.ref 2), some (.int (nI k))]) (st' := [.ref 2]) d_173_24 (fun _ => rfl) ?_
      refine cr_gf (v := .ref 81) d_173_25 cw_173 cf_11_16 (hS.i (a := 2) (by decide) (by decide)) (hS.s (a := 2) (by decide) (by decide) rfl) (by decide) (fx_2_1 hF) ?_
      refine cr_nx (pc' := 29) (al' := [some (.ref 2), some (.int (nI k))]) (st' := [.int (nI k), .ref 81]) d_173_28 (fun _ => rfl) ?_
      refine cr_nw d_173_29 cw_173 cl_11_7 (by decide) (by have := hS.1; omega) ?_
      rw [show am_N 9 = 9 by decide +kernel]
      refine cr_nx (pc' := 33) (al' := [some (.ref 2), some (.int (nI k))]) (st' := [.ref S.1, .ref S.1, .int (nI k), .ref 81]) d_173_32 (fun _ => rfl) ?_
      refine cr_ci (b := S.1) (as := []) (al0 := [some (.ref S.1), none]) d_173_33 cw_173 cm_11_9 (Or.inl rfl) cz_80 rfl rfl rfl (cr_wk (show 1 ≤ 79 by decide) (k_stInit (a := S.1) ⟨cs_pi hS, cs_ps⟩ rfl upr_s ⟨by show 2 ≤ S.1 + 1; have := hS.1; omega, Or.inr (by show 174 ≤ S.1 + 1; have := hS.1; omega)⟩)) (fun v2 S2 G2 B2 J2 R2 h2x => ?_)
      obtain ⟨q0_, q1_, hst⟩ := h2x
      obtain rfl := q0_
      obtain rfl := q1_.symm
      have hWn := hW.nw hk hI hst
      have hS := hWn.1.1
      have hF := hWn.2.1
      have hIn : wI (iiW W k K00) k = some K00 := if_pos rfl
      have hrn : upr R2 81 (va_up (R2 81) k (some S.1)) 81 k = some S.1 := by rw [upr_s]; exact if_pos rfl
      have hsn := hWn.2.2.2.2.1.sh hk hrn
      show CR _ _ 36 [some (.ref 2), some (.int (nI k))] [.ref S.1, .int (nI k), .ref 81] S2 G2 B2 J R2 _
      refine cr_aS (a := 81) (b := S.1) (c := 9) (R1 := (upr R2 81 (va_up (R2 81) k (some S.1)))) d_173_36 (hS.i (a := 81) (by decide) (by decide)) (hsn 0 (by decide)).1 (by decide) (hS.s (a := 81) (by decide) (by decide) rfl) (hsn.s 0 (by decide) rfl) (by first | decide | omega) (show k < 2 by first | omega | assumption | exact cu_36 (by omega) (cu_lt (by omega) (by omega))) rfl ?_
      refine cr_nx (pc' := 38) (al' := [some (.ref 2), some (.int (nI k))]) (st' := [.ref 2]) d_173_37 (fun _ => rfl) ?_
      refine cr_gf (v := .ref 81) d_173_38 cw_173 cf_11_16 (hS.i (a := 2) (by decide) (by decide)) (hS.s (a := 2) (by decide) (by decide) rfl) (by decide) (fx_2_1 hF) ?_
      refine cr_nx (pc' := 42) (al' := [some (.ref 2), some (.int (nI k))]) (st' := [.int (nI k), .ref 81]) d_173_41 (fun _ => rfl) ?_
      refine cr_aa (a := 81) (v := .ref S.1) d_173_42 (hS.i (a := 81) (by decide) (by decide)) (by decide) (hS.s (a := 81) (by decide) (by decide) rfl) (by decide) (show k < 2 by first | omega | assumption | exact cu_36 (by omega) (cu_lt (by omega) (by omega))) (show va_rf (upr R2 81 (va_up (R2 81) k (some S.1)) 81 k) = _ by rw [hrn]; rfl) ?_
      refine cr_nx (pc' := 44) (al' := [some (.ref 2), some (.int (nI k))]) (st' := [.ref 2, .ref S.1]) d_173_43 (fun _ => rfl) ?_
      refine cr_gf (v := .ref 3) d_173_44 cw_173 cf_11_10 (hS.i (a := 2) (by decide) (by decide)) (hS.s (a := 2) (by decide) (by decide) rfl) (by decide) (fx_2_0 hF) ?_
      refine cr_cv (b := S.1) (as := [.ref 3]) (al0 := [some (.ref S.1), some (.ref 3), none]) (r := []) d_173_47 cw_173 cm_11_370 cz_86 rfl rfl (hsn 0 (by decide)).1 (by rw [cw_86]; exact (hsn.s 0 (by decide) rfl)) (by rw [cw_86]; decide) rfl (cr_wk (Nat.le_of_ble_eq_true rfl) (k_imB hWn hk hIn hrn)) (fun v9 S9 G9 B9 J9 R9 h9x => ?_)
      have hq9 := h9x
      obtain ⟨q0_, q1_, q2_, _⟩ := h9x
      obtain rfl := q0_
      obtain rfl := q1_
      obtain rfl := q2_.symm
      show CR _ _ 50 [some (.ref 2), some (.int (nI k))] [] S9 G9 B9 J R9 _
      refine cr_nx (pc' := 51) (al' := [some (.ref 2), some (.int (nI k))]) (st' := [.ref 2]) d_173_50 (fun _ => rfl) ?_
      refine cn_ic (v := 0) d_173_51 (by decide) ?_
      refine cr_pv (b := 2) (as := [.int (nI 0)]) (al0 := [some (.ref 2), some (.int (nI 0))]) (r := []) d_173_52 cw_173 cm_11_212 cz_123 rfl rfl (hS.i (a := 2) (by decide) (by decide)) (by rw [cw_123]; exact (hS.s (a := 2) (by decide) (by decide) rfl)) (by rw [cw_123]; decide) rfl (Nat.le_of_ble_eq_true rfl) (k_accept hS) ?_
      show CR _ _ 55 [some (.ref 2), some (.int (nI k))] [.int (nI 0)] S9 (up2 G9 2 16 (.int (nI 0))) B9 J R9 _
      exact cr_ri d_173_55 cx_173 rfl ⟨rfl, im_ii ▸ hWn.ib hk hrn hq9⟩
    · omega
theorem p_image_b {S : CS} {G : Nat → Nat → Value} {B : Nat → Nat → Int32} {J : Nat → Nat → Int64} {R : Nat → Nat → Option Nat} {n : Nat} {W : WS} (hW : WC n S G B R W) {u : Int32} (hu : ¬ inP u 2) : CR 80 173 0 [some (.ref 2), some (.int u)] [] S G B J R (fun r__ S' G' B' J' R' => r__ = some (.int (-1)) ∧ WC (n + 1) S' G' B' R' (refW W (-1) 1)) := by
  have hS := hW.1.1
  have hF := hW.2.1
  have hO := hW.2.2.2.1
  obtain ⟨ta, ka, la, hH, hLk, hl2, hs3, hbd⟩ := hW.2.2.1
  refine cr_nx (pc' := 1) (al' := [some (.ref 2), some (.int u)]) (st' := [.int u]) d_173_0 (fun _ => rfl) ?_
  refine cr_ilt (t := 9) d_173_1 (by decide) (fun c1 => ?_) (fun c1 => ?_)
  · refine cr_nx (pc' := 10) (al' := [some (.ref 2), some (.int u)]) (st' := [.ref 2]) d_173_9 (fun _ => rfl) ?_
    refine cr_nx (pc' := 11) (al' := [some (.ref 2), some (.int u)]) (st' := [.int (-1), .ref 2]) d_173_10 (fun _ => rfl) ?_
    refine cr_pv (b := 2) (as := [.int (-1)]) (al0 := [some (.ref 2), some (.int (-1))]) (r := []) d_173_11 cw_173 cm_11_104 cz_119 rfl rfl (hS.i (a := 2) (by decide) (by decide)) (by rw [cw_119]; exact (hS.s (a := 2) (by decide) (by decide) rfl)) (by rw [cw_119]; decide) rfl (Nat.le_of_ble_eq_true rfl) (k_refuse (e := 1) hS hF (by decide) (by decide)) ?_
    show CR _ _ 14 [some (.ref 2), some (.int u)] [.int (-1)] S (up2 G 2 16 (.int (-1))) (upr B 145 (upd (B 145) 1 (B 145 1 + nI 1))) J R _
    exact cr_ri d_173_14 cx_173 rfl ⟨rfl, (hW.rf (by decide)).mo⟩
  · refine cr_nx (pc' := 5) (al' := [some (.ref 2), some (.int u)]) (st' := [.int u]) d_173_4 (fun _ => rfl) ?_
    refine cn_ic (v := 2) d_173_5 (by decide) ?_
    refine cr_clt (t := 15) d_173_6 (by decide) (fun c6 => ?_) (fun c6 => ?_)
    · exact absurd ⟨by rw [i_lt0] at c1; omega, by rw [i_ltN (by decide)] at c6; omega⟩ hu
    · refine cr_nx (pc' := 10) (al' := [some (.ref 2), some (.int u)]) (st' := [.ref 2]) d_173_9 (fun _ => rfl) ?_
      refine cr_nx (pc' := 11) (al' := [some (.ref 2), some (.int u)]) (st' := [.int (-1), .ref 2]) d_173_10 (fun _ => rfl) ?_
      refine cr_pv (b := 2) (as := [.int (-1)]) (al0 := [some (.ref 2), some (.int (-1))]) (r := []) d_173_11 cw_173 cm_11_104 cz_119 rfl rfl (hS.i (a := 2) (by decide) (by decide)) (by rw [cw_119]; exact (hS.s (a := 2) (by decide) (by decide) rfl)) (by rw [cw_119]; decide) rfl (Nat.le_of_ble_eq_true rfl) (k_refuse (e := 1) hS hF (by decide) (by decide)) ?_
      show CR _ _ 14 [some (.ref 2), some (.int u)] [.int (-1)] S (up2 G 2 16 (.int (-1))) (upr B 145 (upd (B 145) 1 (B 145 1 + nI 1))) J R _
      exact cr_ri d_173_14 cx_173 rfl ⟨rfl, (hW.rf (by decide)).mo⟩
theorem r_image_b {g : Nat → Int32} {A : Nat → Nat → Int32} {n : Nat} {W : WS} (hW : WR n g A W) (hO : CoOk (wK W)) {u : Int32} (hu : ¬ inP u 2) : RR 80 178 0 [some (.ref 146), some (.int u), none] [] g A (fun r__ g' A' => r__ = some (.int (-1)) ∧ WR (n + 1) g' A' (refW W (-1) 1)) := by
  refine rr_nx (pc' := 1) (al' := [some (.ref 146), some (.int u), none]) (st' := [.int u]) d_178_0 (fun _ => rfl) ?_
  refine rn_ic (v := 0) d_178_1 (by decide) ?_
  refine rn_ic (v := 1) d_178_2 (by decide) ?_
  refine rr_ps (as := [.int u, .int (nI 0), .int (nI 1)]) (al0 := [some (.int u), some (.int (nI 0)), some (.int (nI 1))]) (r := []) d_178_3 mo_178 ml_106 mz_179 rfl rfl rfl (Nat.le_of_ble_eq_true rfl) (s_lies u (nI 0) (nI 1)) ?_
  show RR _ _ 6 [some (.ref 146), some (.int u), none] [.int (bI ((nI 0) ≤ u ∧ u ≤ (nI 1)))] g A _
  refine rr_bne (t := 15) d_178_6 (by decide) (fun c6 => ?_) (fun c6 => ?_)
  · exact absurd c6 (fun e_ => hu ((in_r (m := 1) (by decide)).mp e_))
  · refine rr_nx (pc' := 10) (al' := [some (.ref 146), some (.int u), none]) (st' := [.ref 146]) d_178_9 (fun _ => rfl) ?_
    refine rr_nx (pc' := 11) (al' := [some (.ref 146), some (.int u), none]) (st' := [.int (-1), .ref 146]) d_178_10 (fun _ => rfl) ?_
    have hW1 := hW.q (g' := g) (A' := A) Gsm.rf Ksm.rf
    refine rr_pv (as := [.int (-1)]) (al0 := [some (.ref 146), some (.int (-1))]) (r := []) d_178_11 mo_178 ml_110 mz_180 rfl rfl rfl (Nat.le_of_ble_eq_true rfl) (s_refuses (e := 1) (by decide) (by decide)) ?_
    show RR _ _ 14 [some (.ref 146), some (.int u), none] [.int (-1)] (upd g 0 (-1)) (rf_u A 0 (upd (A 0) 1 (A 0 1 + nI 1))) _
    exact rr_ri d_178_14 mr_178 rfl ⟨rfl, (hW1.rf (by decide)).mo⟩
theorem p_back_y {S : CS} {G : Nat → Nat → Value} {B : Nat → Nat → Int32} {J : Nat → Nat → Int64} {R : Nat → Nat → Option Nat} {n : Nat} {W : WS} (hW : WC n S G B R W) {k : Nat} (hk : k < 2) {K : Core} (hI : wI W k = some K) : CR 80 174 0 [some (.ref 2), some (.int (nI k))] [] S G B J R (fun r__ S' G' B' J' R' => r__ = some (.int (nI 0)) ∧ WC (n + 1) S' G' B' R' (bkW W K)) := by
  have hS := hW.1.1
  have hF := hW.2.1
  have hO := hW.2.2.2.1
  obtain ⟨ta, ka, la, hH, hLk, hl2, hs3, hbd⟩ := hW.2.2.1
  obtain ⟨a, hr, hai, has⟩ := hW.ir hk hI
  refine cr_nx (pc' := 1) (al' := [some (.ref 2), some (.int (nI k))]) (st' := [.int (nI k)]) d_174_0 (fun _ => rfl) ?_
  refine cn_zlt (t := 9) d_174_1 (by decide) (by first | omega | assumption | exact cu_36 (by omega) (cu_lt (by omega) (by omega))) (fun c1 => ?_) (fun c1 => ?_)
  · exact c1.elim
  · refine cr_nx (pc' := 5) (al' := [some (.ref 2), some (.int (nI k))]) (st' := [.int (nI k)]) d_174_4 (fun _ => rfl) ?_
    refine cn_ic (v := 2) d_174_5 (by decide) ?_
    refine cn_clt (t := 15) d_174_6 (by decide) (by omega) (by decide) (fun c6 => ?_) (fun c6 => ?_)
    · refine cr_nx (pc' := 16) (al' := [some (.ref 2), some (.int (nI k))]) (st' := [.ref 2]) d_174_15 (fun _ => rfl) ?_
      refine cr_gf (v := .ref 81) d_174_16 cw_174 cf_11_16 (hS.i (a := 2) (by decide) (by decide)) (hS.s (a := 2) (by decide) (by decide) rfl) (by decide) (fx_2_1 hF) ?_
      refine cr_nx (pc' := 20) (al' := [some (.ref 2), some (.int (nI k))]) (st' := [.int (nI k), .ref 81]) d_174_19 (fun _ => rfl) ?_
      refine cr_aa (a := 81) (v := .ref a) d_174_20 (hS.i (a := 81) (by decide) (by decide)) (by decide) (hS.s (a := 81) (by decide) (by decide) rfl) (by decide) (show k < 2 by first | omega | assumption | exact cu_36 (by omega) (cu_lt (by omega) (by omega))) (show va_rf (R 81 k) = _ by rw [hr]; rfl) ?_
      refine cr_nx (pc' := 31) (al' := [some (.ref 2), some (.int (nI k))]) (st' := []) d_174_21 (fun _ => rfl) ?_
      refine cr_nx (pc' := 32) (al' := [some (.ref 2), some (.int (nI k))]) (st' := [.ref 2]) d_174_31 (fun _ => rfl) ?_
      refine cr_gf (v := .ref 3) d_174_32 cw_174 cf_11_10 (hS.i (a := 2) (by decide) (by decide)) (hS.s (a := 2) (by decide) (by decide) rfl) (by decide) (fx_2_0 hF) ?_
      refine cr_nx (pc' := 36) (al' := [some (.ref 2), some (.int (nI k))]) (st' := [.ref 2, .ref 3]) d_174_35 (fun _ => rfl) ?_
      refine cr_gf (v := .ref 81) d_174_36 cw_174 cf_11_16 (hS.i (a := 2) (by decide) (by decide)) (hS.s (a := 2) (by decide) (by decide) rfl) (by decide) (fx_2_1 hF) ?_
      refine cr_nx (pc' := 40) (al' := [some (.ref 2), some (.int (nI k))]) (st' := [.int (nI k), .ref 81, .ref 3]) d_174_39 (fun _ => rfl) ?_
      refine cr_aa (a := 81) (v := .ref a) d_174_40 (hS.i (a := 81) (by decide) (by decide)) (by decide) (hS.s (a := 81) (by decide) (by decide) rfl) (by decide) (show k < 2 by first | omega | assumption | exact cu_36 (by omega) (cu_lt (by omega) (by omega))) (show va_rf (R 81 k) = _ by rw [hr]; rfl) ?_
      refine cr_cv (b := 3) (as := [.ref a]) (al0 := [some (.ref 3), some (.ref a), none]) (r := []) d_174_41 cw_174 cm_11_370 cz_86 rfl rfl (hS.i (a := 3) (by decide) (by decide)) (by rw [cw_86]; exact (hS.s (a := 3) (by decide) (by decide) rfl)) (by rw [cw_86]; decide) rfl (cr_wk (Nat.le_of_ble_eq_true rfl) (k_bkB hW hk hI hr)) (fun v9 S9 G9 B9 J9 R9 h9x => ?_)
      have hq9 := h9x
      obtain ⟨q0_, q1_, q2_, _⟩ := h9x
      obtain rfl := q0_
      obtain rfl := q1_
      obtain rfl := q2_.symm
      show CR _ _ 44 [some (.ref 2), some (.int (nI k))] [] S9 G9 B9 J R9 _
      refine cr_nx (pc' := 45) (al' := [some (.ref 2), some (.int (nI k))]) (st' := [.ref 2]) d_174_44 (fun _ => rfl) ?_
      refine cn_ic (v := 0) d_174_45 (by decide) ?_
      refine cr_pv (b := 2) (as := [.int (nI 0)]) (al0 := [some (.ref 2), some (.int (nI 0))]) (r := []) d_174_46 cw_174 cm_11_212 cz_123 rfl rfl (hS.i (a := 2) (by decide) (by decide)) (by rw [cw_123]; exact (hS.s (a := 2) (by decide) (by decide) rfl)) (by rw [cw_123]; decide) rfl (Nat.le_of_ble_eq_true rfl) (k_accept hS) ?_
      show CR _ _ 49 [some (.ref 2), some (.int (nI k))] [.int (nI 0)] S9 (up2 G9 2 16 (.int (nI 0))) B9 J R9 _
      exact cr_ri d_174_49 cx_174 rfl ⟨rfl, (hW.bk (hW.io k K hk hI) hq9).mo⟩
    · omega
theorem p_back_n {S : CS} {G : Nat → Nat → Value} {B : Nat → Nat → Int32} {J : Nat → Nat → Int64} {R : Nat → Nat → Option Nat} {n : Nat} {W : WS} (hW : WC n S G B R W) {k : Nat} (hk : k < 2) (hI : wI W k = none) : CR 80 174 0 [some (.ref 2), some (.int (nI k))] [] S G B J R (fun r__ S' G' B' J' R' => r__ = some (.int (-2)) ∧ WC (n + 1) S' G' B' R' (refW W (-2) 2)) := by
  have hS := hW.1.1
  have hF := hW.2.1
  have hO := hW.2.2.2.1
  obtain ⟨ta, ka, la, hH, hLk, hl2, hs3, hbd⟩ := hW.2.2.1
  have hrz : R 81 k = none := hW.2.2.2.2.1.1 k hk hI
  refine cr_nx (pc' := 1) (al' := [some (.ref 2), some (.int (nI k))]) (st' := [.int (nI k)]) d_174_0 (fun _ => rfl) ?_
  refine cn_zlt (t := 9) d_174_1 (by decide) (by first | omega | assumption | exact cu_36 (by omega) (cu_lt (by omega) (by omega))) (fun c1 => ?_) (fun c1 => ?_)
  · exact c1.elim
  · refine cr_nx (pc' := 5) (al' := [some (.ref 2), some (.int (nI k))]) (st' := [.int (nI k)]) d_174_4 (fun _ => rfl) ?_
    refine cn_ic (v := 2) d_174_5 (by decide) ?_
    refine cn_clt (t := 15) d_174_6 (by decide) (by omega) (by decide) (fun c6 => ?_) (fun c6 => ?_)
    · refine cr_nx (pc' := 16) (al' := [some (.ref 2), some (.int (nI k))]) (st' := [.ref 2]) d_174_15 (fun _ => rfl) ?_
      refine cr_gf (v := .ref 81) d_174_16 cw_174 cf_11_16 (hS.i (a := 2) (by decide) (by decide)) (hS.s (a := 2) (by decide) (by decide) rfl) (by decide) (fx_2_1 hF) ?_
      refine cr_nx (pc' := 20) (al' := [some (.ref 2), some (.int (nI k))]) (st' := [.int (nI k), .ref 81]) d_174_19 (fun _ => rfl) ?_
      refine cr_aa (a := 81) (v := .null) d_174_20 (hS.i (a := 81) (by decide) (by decide)) (by decide) (hS.s (a := 81) (by decide) (by decide) rfl) (by decide) (show k < 2 by first | omega | assumption | exact cu_36 (by omega) (cu_lt (by omega) (by omega))) (show va_rf (R 81 k) = _ by rw [hrz]; rfl) ?_
      refine cr_nx (pc' := 24) (al' := [some (.ref 2), some (.int (nI k))]) (st' := []) d_174_21 (fun _ => rfl) ?_
      refine cr_nx (pc' := 25) (al' := [some (.ref 2), some (.int (nI k))]) (st' := [.ref 2]) d_174_24 (fun _ => rfl) ?_
      refine cr_nx (pc' := 27) (al' := [some (.ref 2), some (.int (nI k))]) (st' := [.int (-2), .ref 2]) d_174_25 (fun _ => rfl) ?_
      refine cr_pv (b := 2) (as := [.int (-2)]) (al0 := [some (.ref 2), some (.int (-2))]) (r := []) d_174_27 cw_174 cm_11_104 cz_119 rfl rfl (hS.i (a := 2) (by decide) (by decide)) (by rw [cw_119]; exact (hS.s (a := 2) (by decide) (by decide) rfl)) (by rw [cw_119]; decide) rfl (Nat.le_of_ble_eq_true rfl) (k_refuse (e := 2) hS hF (by decide) (by decide)) ?_
      show CR _ _ 30 [some (.ref 2), some (.int (nI k))] [.int (-2)] S (up2 G 2 16 (.int (-2))) (upr B 145 (upd (B 145) 2 (B 145 2 + nI 1))) J R _
      exact cr_ri d_174_30 cx_174 rfl ⟨rfl, (hW.rf (by decide)).mo⟩
    · omega
theorem r_back_n {g : Nat → Int32} {A : Nat → Nat → Int32} {n : Nat} {W : WS} (hW : WR n g A W) (hO : CoOk (wK W)) {k : Nat} (hk : k < 2) (hI : wI W k = none) : RR 80 182 0 [some (.ref 146), some (.int (nI k)), none] [] g A (fun r__ g' A' => r__ = some (.int (-2)) ∧ WR (n + 1) g' A' (refW W (-2) 2)) := by
  refine rr_nx (pc' := 1) (al' := [some (.ref 146), some (.int (nI k)), none]) (st' := [.int (nI k)]) d_182_0 (fun _ => rfl) ?_
  refine rn_ic (v := 0) d_182_1 (by decide) ?_
  refine rn_ic (v := 1) d_182_2 (by decide) ?_
  refine rr_ps (as := [.int (nI k), .int (nI 0), .int (nI 1)]) (al0 := [some (.int (nI k)), some (.int (nI 0)), some (.int (nI 1))]) (r := []) d_182_3 mo_182 ml_106 mz_179 rfl rfl rfl (Nat.le_of_ble_eq_true rfl) (s_lies (nI k) (nI 0) (nI 1)) ?_
  show RR _ _ 6 [some (.ref 146), some (.int (nI k)), none] [.int (bI ((nI 0) ≤ (nI k) ∧ (nI k) ≤ (nI 1)))] g A _
  refine rr_bne (t := 15) d_182_6 (by decide) (fun c6 => ?_) (fun c6 => ?_)
  · refine rr_nx (pc' := 16) (al' := [some (.ref 146), some (.int (nI k)), none]) (st' := [.ref 146]) d_182_15 (fun _ => rfl) ?_
    refine rr_gf (v := .ref (147 + 3)) d_182_16 mo_182 fl_19 rfl ?_
    refine rr_nx (pc' := 20) (al' := [some (.ref 146), some (.int (nI k)), none]) (st' := [.int (nI k), .ref (147 + 3)]) d_182_19 (fun _ => rfl) ?_
    refine rr_ba (j := 3) (v := (nI 0)) d_182_20 (by decide) (by decide) (by decide) (show k < 2 by omega) ((hW.2.1 k hk).1 hI) ?_
    refine rn_ine (t := 31) d_182_21 (by decide) (by first | omega | assumption | exact cu_36 (by omega) (cu_lt (by omega) (by omega))) (fun c21 => ?_) (fun c21 => ?_)
    · omega
    · refine rr_nx (pc' := 25) (al' := [some (.ref 146), some (.int (nI k)), none]) (st' := [.ref 146]) d_182_24 (fun _ => rfl) ?_
      refine rr_nx (pc' := 27) (al' := [some (.ref 146), some (.int (nI k)), none]) (st' := [.int (-2), .ref 146]) d_182_25 (fun _ => rfl) ?_
      have hW1 := hW.q (g' := g) (A' := A) Gsm.rf Ksm.rf
      refine rr_pv (as := [.int (-2)]) (al0 := [some (.ref 146), some (.int (-2))]) (r := []) d_182_27 mo_182 ml_110 mz_180 rfl rfl rfl (Nat.le_of_ble_eq_true rfl) (s_refuses (e := 2) (by decide) (by decide)) ?_
      show RR _ _ 30 [some (.ref 146), some (.int (nI k)), none] [.int (-2)] (upd g 0 (-2)) (rf_u A 0 (upd (A 0) 2 (A 0 2 + nI 1))) _
      exact rr_ri d_182_30 mr_182 rfl ⟨rfl, (hW1.rf (by decide)).mo⟩
  · exact absurd (ia_natI (by decide) (show k ≤ 1 by omega)) c6
theorem p_back_b {S : CS} {G : Nat → Nat → Value} {B : Nat → Nat → Int32} {J : Nat → Nat → Int64} {R : Nat → Nat → Option Nat} {n : Nat} {W : WS} (hW : WC n S G B R W) {u : Int32} (hu : ¬ inP u 2) : CR 80 174 0 [some (.ref 2), some (.int u)] [] S G B J R (fun r__ S' G' B' J' R' => r__ = some (.int (-1)) ∧ WC (n + 1) S' G' B' R' (refW W (-1) 1)) := by
  have hS := hW.1.1
  have hF := hW.2.1
  have hO := hW.2.2.2.1
  obtain ⟨ta, ka, la, hH, hLk, hl2, hs3, hbd⟩ := hW.2.2.1
  refine cr_nx (pc' := 1) (al' := [some (.ref 2), some (.int u)]) (st' := [.int u]) d_174_0 (fun _ => rfl) ?_
  refine cr_ilt (t := 9) d_174_1 (by decide) (fun c1 => ?_) (fun c1 => ?_)
  · refine cr_nx (pc' := 10) (al' := [some (.ref 2), some (.int u)]) (st' := [.ref 2]) d_174_9 (fun _ => rfl) ?_
    refine cr_nx (pc' := 11) (al' := [some (.ref 2), some (.int u)]) (st' := [.int (-1), .ref 2]) d_174_10 (fun _ => rfl) ?_
    refine cr_pv (b := 2) (as := [.int (-1)]) (al0 := [some (.ref 2), some (.int (-1))]) (r := []) d_174_11 cw_174 cm_11_104 cz_119 rfl rfl (hS.i (a := 2) (by decide) (by decide)) (by rw [cw_119]; exact (hS.s (a := 2) (by decide) (by decide) rfl)) (by rw [cw_119]; decide) rfl (Nat.le_of_ble_eq_true rfl) (k_refuse (e := 1) hS hF (by decide) (by decide)) ?_
    show CR _ _ 14 [some (.ref 2), some (.int u)] [.int (-1)] S (up2 G 2 16 (.int (-1))) (upr B 145 (upd (B 145) 1 (B 145 1 + nI 1))) J R _
    exact cr_ri d_174_14 cx_174 rfl ⟨rfl, (hW.rf (by decide)).mo⟩
  · refine cr_nx (pc' := 5) (al' := [some (.ref 2), some (.int u)]) (st' := [.int u]) d_174_4 (fun _ => rfl) ?_
    refine cn_ic (v := 2) d_174_5 (by decide) ?_
    refine cr_clt (t := 15) d_174_6 (by decide) (fun c6 => ?_) (fun c6 => ?_)
    · exact absurd ⟨by rw [i_lt0] at c1; omega, by rw [i_ltN (by decide)] at c6; omega⟩ hu
    · refine cr_nx (pc' := 10) (al' := [some (.ref 2), some (.int u)]) (st' := [.ref 2]) d_174_9 (fun _ => rfl) ?_
      refine cr_nx (pc' := 11) (al' := [some (.ref 2), some (.int u)]) (st' := [.int (-1), .ref 2]) d_174_10 (fun _ => rfl) ?_
      refine cr_pv (b := 2) (as := [.int (-1)]) (al0 := [some (.ref 2), some (.int (-1))]) (r := []) d_174_11 cw_174 cm_11_104 cz_119 rfl rfl (hS.i (a := 2) (by decide) (by decide)) (by rw [cw_119]; exact (hS.s (a := 2) (by decide) (by decide) rfl)) (by rw [cw_119]; decide) rfl (Nat.le_of_ble_eq_true rfl) (k_refuse (e := 1) hS hF (by decide) (by decide)) ?_
      show CR _ _ 14 [some (.ref 2), some (.int u)] [.int (-1)] S (up2 G 2 16 (.int (-1))) (upr B 145 (upd (B 145) 1 (B 145 1 + nI 1))) J R _
      exact cr_ri d_174_14 cx_174 rfl ⟨rfl, (hW.rf (by decide)).mo⟩
theorem r_back_b {g : Nat → Int32} {A : Nat → Nat → Int32} {n : Nat} {W : WS} (hW : WR n g A W) (hO : CoOk (wK W)) {u : Int32} (hu : ¬ inP u 2) : RR 80 182 0 [some (.ref 146), some (.int u), none] [] g A (fun r__ g' A' => r__ = some (.int (-1)) ∧ WR (n + 1) g' A' (refW W (-1) 1)) := by
  refine rr_nx (pc' := 1) (al' := [some (.ref 146), some (.int u), none]) (st' := [.int u]) d_182_0 (fun _ => rfl) ?_
  refine rn_ic (v := 0) d_182_1 (by decide) ?_
  refine rn_ic (v := 1) d_182_2 (by decide) ?_
  refine rr_ps (as := [.int u, .int (nI 0), .int (nI 1)]) (al0 := [some (.int u), some (.int (nI 0)), some (.int (nI 1))]) (r := []) d_182_3 mo_182 ml_106 mz_179 rfl rfl rfl (Nat.le_of_ble_eq_true rfl) (s_lies u (nI 0) (nI 1)) ?_
  show RR _ _ 6 [some (.ref 146), some (.int u), none] [.int (bI ((nI 0) ≤ u ∧ u ≤ (nI 1)))] g A _
  refine rr_bne (t := 15) d_182_6 (by decide) (fun c6 => ?_) (fun c6 => ?_)
  · exact absurd c6 (fun e_ => hu ((in_r (m := 1) (by decide)).mp e_))
  · refine rr_nx (pc' := 10) (al' := [some (.ref 146), some (.int u), none]) (st' := [.ref 146]) d_182_9 (fun _ => rfl) ?_
    refine rr_nx (pc' := 11) (al' := [some (.ref 146), some (.int u), none]) (st' := [.int (-1), .ref 146]) d_182_10 (fun _ => rfl) ?_
    have hW1 := hW.q (g' := g) (A' := A) Gsm.rf Ksm.rf
    refine rr_pv (as := [.int (-1)]) (al0 := [some (.ref 146), some (.int (-1))]) (r := []) d_182_11 mo_182 ml_110 mz_180 rfl rfl rfl (Nat.le_of_ble_eq_true rfl) (s_refuses (e := 1) (by decide) (by decide)) ?_
    show RR _ _ 14 [some (.ref 146), some (.int u), none] [.int (-1)] (upd g 0 (-1)) (rf_u A 0 (upd (A 0) 1 (A 0 1 + nI 1))) _
    exact rr_ri d_182_14 mr_182 rfl ⟨rfl, (hW1.rf (by decide)).mo⟩
theorem r_image_y {g : Nat → Int32} {A : Nat → Nat → Int32} {n : Nat} {W : WS} (hW : WR n g A W) (hO : CoOk (wK W)) {k : Nat} (hk : k < 2) (hIO : ∀ i K, i < 2 → wI W i = some K → CoOk K) (hn5 : n ≤ 10000) : RR 80 178 0 [some (.ref 146), some (.int (nI k)), none] [] g A (fun r__ g' A' => r__ = some (.int (nI 0)) ∧ WR (n + 1) g' A' (imW W k)) := by
  refine rr_nx (pc' := 1) (al' := [some (.ref 146), some (.int (nI k)), none]) (st' := [.int (nI k)]) d_178_0 (fun _ => rfl) ?_
  refine rn_ic (v := 0) d_178_1 (by decide) ?_
  refine rn_ic (v := 1) d_178_2 (by decide) ?_
  refine rr_ps (as := [.int (nI k), .int (nI 0), .int (nI 1)]) (al0 := [some (.int (nI k)), some (.int (nI 0)), some (.int (nI 1))]) (r := []) d_178_3 mo_178 ml_106 mz_179 rfl rfl rfl (Nat.le_of_ble_eq_true rfl) (s_lies (nI k) (nI 0) (nI 1)) ?_
  show RR _ _ 6 [some (.ref 146), some (.int (nI k)), none] [.int (bI ((nI 0) ≤ (nI k) ∧ (nI k) ≤ (nI 1)))] g A _
  refine rr_bne (t := 15) d_178_6 (by decide) (fun c6 => ?_) (fun c6 => ?_)
  · refine rn_ic (v := 0) d_178_15 (by decide) ?_
    refine rr_nx (pc' := 17) (al' := [some (.ref 146), some (.int (nI k)), some (.int (nI 0))]) (st' := []) d_178_16 (fun _ => rfl) ?_
    refine rr_A (show A = (rf_u A 2 (pasF (A 2) (5720 * k) (fun i_ => A 1 i_) 0)) by rw [pasF_0, rf_u_id]) ?_
    refine rr_up (al := fun i => [some (.ref 146), some (.int (nI k)), some (.int (nI i))]) (G := fun i => g) (B := fun i => (rf_u A 2 (pasF (A 2) (5720 * k) (fun i_ => A 1 i_) i))) (P := fun i => True) (n := 5720) (fun i hi pi ihi => ?_) (fun pi => ?_) 0  (by omega) (trivial)
    · show RR _ _ 17 [some (.ref 146), some (.int (nI k)), some (.int (nI i))] [] g (rf_u A 2 (pasF (A 2) (5720 * k) (fun i_ => A 1 i_) i)) _
      refine rr_nx (pc' := 18) (al' := [some (.ref 146), some (.int (nI k)), some (.int (nI i))]) (st' := [.int (nI i)]) d_178_17 (fun _ => rfl) ?_
      refine rn_sp (v := 5720) d_178_18 (by decide) ?_
      refine rn_cge (t := 48) d_178_21 (by decide) (by omega) (by decide) (fun c21 => ?_) (fun c21 => ?_)
      · omega
      · refine rr_nx (pc' := 25) (al' := [some (.ref 146), some (.int (nI k)), some (.int (nI i))]) (st' := [.ref 146]) d_178_24 (fun _ => rfl) ?_
        refine rr_gf (v := .ref (147 + 2)) d_178_25 mo_178 fl_16 rfl ?_
        refine rn_sp (v := 5720) d_178_28 (by decide) ?_
        refine rr_nx (pc' := 32) (al' := [some (.ref 146), some (.int (nI k)), some (.int (nI i))]) (st' := [.int (nI k), .int (nI 5720), .ref (147 + 2)]) d_178_31 (fun _ => rfl) ?_
        refine rn_mul d_178_32  ?_
        refine rr_nx (pc' := 34) (al' := [some (.ref 146), some (.int (nI k)), some (.int (nI i))]) (st' := [.int (nI i), .int (nI (5720 * k)), .ref (147 + 2)]) d_178_33 (fun _ => rfl) ?_
        refine rn_add d_178_34  ?_
        refine rr_nx (pc' := 36) (al' := [some (.ref 146), some (.int (nI k)), some (.int (nI i))]) (st' := [.ref 146, .int (nI ((5720 * k) + i)), .ref (147 + 2)]) d_178_35 (fun _ => rfl) ?_
        refine rr_gf (v := .ref (147 + 1)) d_178_36 mo_178 fl_13 rfl ?_
        refine rr_nx (pc' := 40) (al' := [some (.ref 146), some (.int (nI k)), some (.int (nI i))]) (st' := [.int (nI i), .ref (147 + 1), .int (nI ((5720 * k) + i)), .ref (147 + 2)]) d_178_39 (fun _ => rfl) ?_
        refine rr_ia (j := 1) (v := (A 1 i)) d_178_40 (by decide) rfl (by decide) (show i < 5720 by omega) (by rw [rf_u_n (by decide)]) ?_
        refine rr_iS (j := 2) (A1 := (rf_u A 2 (upd (pasF (A 2) (5720 * k) (fun i_ => A 1 i_) i) ((5720 * k) + i) (A 1 i)))) d_178_41 (by decide) rfl (by decide) (show (5720 * k) + i < 11440 by omega) rf_uw ?_
        refine rn_inc d_178_42 rfl rfl ?_
        show RR _ _ 45 [some (.ref 146), some (.int (nI k)), some (.int (nI (i + 1)))] [] g (rf_u A 2 (upd (pasF (A 2) (5720 * k) (fun i_ => A 1 i_) i) ((5720 * k) + i) (A 1 i))) _
        refine rr_nx (pc' := 17) (al' := [some (.ref 146), some (.int (nI k)), some (.int (nI (i + 1)))]) (st' := []) d_178_45 (fun _ => rfl) ?_
        refine rr_A (show (rf_u A 2 (upd (pasF (A 2) (5720 * k) (fun i_ => A 1 i_) i) ((5720 * k) + i) (A 1 i))) = (rf_u A 2 (pasF (A 2) (5720 * k) (fun i_ => A 1 i_) (i + 1))) by exact congrArg (rf_u A 2) (pasF_s (v := fun i_ => A 1 i_))) ?_
        exact ihi  (trivial)
    · show RR _ _ 17 [some (.ref 146), some (.int (nI k)), some (.int (nI 5720))] [] g (rf_u A 2 (pasF (A 2) (5720 * k) (fun i_ => A 1 i_) 5720)) _
      refine rr_nx (pc' := 18) (al' := [some (.ref 146), some (.int (nI k)), some (.int (nI 5720))]) (st' := [.int (nI 5720)]) d_178_17 (fun _ => rfl) ?_
      refine rn_sp (v := 5720) d_178_18 (by decide) ?_
      refine rn_cge (t := 48) d_178_21 (by decide) (by omega) (by decide) (fun c21 => ?_) (fun c21 => ?_)
      · refine rr_nx (pc' := 49) (al' := [some (.ref 146), some (.int (nI k)), some (.int (nI 5720))]) (st' := [.ref 146]) d_178_48 (fun _ => rfl) ?_
        refine rr_gf (v := .ref (147 + 3)) d_178_49 mo_178 fl_19 rfl ?_
        refine rr_nx (pc' := 53) (al' := [some (.ref 146), some (.int (nI k)), some (.int (nI 5720))]) (st' := [.int (nI k), .ref (147 + 3)]) d_178_52 (fun _ => rfl) ?_
        refine rn_ic (v := 1) d_178_53 (by decide) ?_
        refine rr_zS (j := 3) (A1 := (rf_u (rf_u A 2 (pasF (A 2) (5720 * k) (fun i_ => A 1 i_) 5720)) 3 (upd (A 3) k (vp_nar .boolean (nI 1))))) d_178_54 (by decide) rfl (by decide) (show k < 2 by omega) rfl ?_
        refine rr_nx (pc' := 56) (al' := [some (.ref 146), some (.int (nI k)), some (.int (nI 5720))]) (st' := [.ref 146]) d_178_55 (fun _ => rfl) ?_
        refine rn_ic (v := 0) d_178_56 (by decide) ?_
        refine rr_pv (as := [.int (nI 0)]) (al0 := [some (.ref 146), some (.int (nI 0))]) (r := []) d_178_57 mo_178 ml_114 mz_181 rfl rfl rfl (Nat.le_of_ble_eq_true rfl) (s_good _) ?_
        show RR _ _ 60 [some (.ref 146), some (.int (nI k)), some (.int (nI 5720))] [.int (nI 0)] (upd (upd g 0 (nI 0)) 1 (g 1 + nI 1)) (rf_u (rf_u A 2 (pasF (A 2) (5720 * k) (fun i_ => A 1 i_) 5720)) 3 (upd (A 3) k (vp_nar .boolean (nI 1)))) _
        exact rr_ri d_178_60 mr_178 rfl ⟨rfl, hW.im (by omega) hO hIO hk (fun i_ hi_ => pasF_in hi_) (fun j_ h1_ h2_ i_ hi_ => pasF_out (by omega)) (pk_us.trans (by decide)) (fun j_ h_ => pk_un h_) rfl⟩
      · omega
  · exact absurd (ia_natI (by decide) (show k ≤ 1 by omega)) c6
theorem r_back_y {g : Nat → Int32} {A : Nat → Nat → Int32} {n : Nat} {W : WS} (hW : WR n g A W) (hO : CoOk (wK W)) {k : Nat} (hk : k < 2) {K : Core} (hI : wI W k = some K) (hOK : CoOk K) (hn5 : n ≤ 10000) : RR 80 182 0 [some (.ref 146), some (.int (nI k)), none] [] g A (fun r__ g' A' => r__ = some (.int (nI 0)) ∧ WR (n + 1) g' A' (bkW W K)) := by
  refine rr_nx (pc' := 1) (al' := [some (.ref 146), some (.int (nI k)), none]) (st' := [.int (nI k)]) d_182_0 (fun _ => rfl) ?_
  refine rn_ic (v := 0) d_182_1 (by decide) ?_
  refine rn_ic (v := 1) d_182_2 (by decide) ?_
  refine rr_ps (as := [.int (nI k), .int (nI 0), .int (nI 1)]) (al0 := [some (.int (nI k)), some (.int (nI 0)), some (.int (nI 1))]) (r := []) d_182_3 mo_182 ml_106 mz_179 rfl rfl rfl (Nat.le_of_ble_eq_true rfl) (s_lies (nI k) (nI 0) (nI 1)) ?_
  show RR _ _ 6 [some (.ref 146), some (.int (nI k)), none] [.int (bI ((nI 0) ≤ (nI k) ∧ (nI k) ≤ (nI 1)))] g A _
  refine rr_bne (t := 15) d_182_6 (by decide) (fun c6 => ?_) (fun c6 => ?_)
  · refine rr_nx (pc' := 16) (al' := [some (.ref 146), some (.int (nI k)), none]) (st' := [.ref 146]) d_182_15 (fun _ => rfl) ?_
    refine rr_gf (v := .ref (147 + 3)) d_182_16 mo_182 fl_19 rfl ?_
    refine rr_nx (pc' := 20) (al' := [some (.ref 146), some (.int (nI k)), none]) (st' := [.int (nI k), .ref (147 + 3)]) d_182_19 (fun _ => rfl) ?_
    refine rr_ba (j := 3) (v := (nI 1)) d_182_20 (by decide) (by decide) (by decide) (show k < 2 by omega) ((hW.2.1 k hk).2 K hI).1 ?_
    refine rn_ine (t := 31) d_182_21 (by decide) (by first | omega | assumption | exact cu_36 (by omega) (cu_lt (by omega) (by omega))) (fun c21 => ?_) (fun c21 => ?_)
    · refine rn_ic (v := 0) d_182_31 (by decide) ?_
      refine rr_nx (pc' := 33) (al' := [some (.ref 146), some (.int (nI k)), some (.int (nI 0))]) (st' := []) d_182_32 (fun _ => rfl) ?_
      refine rr_A (show A = (rf_u A 1 (pasF (A 1) 0 (fun i_ => A 2 (5720 * k + i_)) 0)) by rw [pasF_0, rf_u_id]) ?_
      refine rr_up (al := fun i => [some (.ref 146), some (.int (nI k)), some (.int (nI i))]) (G := fun i => g) (B := fun i => (rf_u A 1 (pasF (A 1) 0 (fun i_ => A 2 (5720 * k + i_)) i))) (P := fun i => True) (n := 5720) (fun i hi pi ihi => ?_) (fun pi => ?_) 0  (by omega) (trivial)
      · show RR _ _ 33 [some (.ref 146), some (.int (nI k)), some (.int (nI i))] [] g (rf_u A 1 (pasF (A 1) 0 (fun i_ => A 2 (5720 * k + i_)) i)) _
        refine rr_nx (pc' := 34) (al' := [some (.ref 146), some (.int (nI k)), some (.int (nI i))]) (st' := [.int (nI i)]) d_182_33 (fun _ => rfl) ?_
        refine rn_sp (v := 5720) d_182_34 (by decide) ?_
        refine rn_cge (t := 64) d_182_37 (by decide) (by omega) (by decide) (fun c37 => ?_) (fun c37 => ?_)
        · omega
        · refine rr_nx (pc' := 41) (al' := [some (.ref 146), some (.int (nI k)), some (.int (nI i))]) (st' := [.ref 146]) d_182_40 (fun _ => rfl) ?_
          refine rr_gf (v := .ref (147 + 1)) d_182_41 mo_182 fl_13 rfl ?_
          refine rr_nx (pc' := 45) (al' := [some (.ref 146), some (.int (nI k)), some (.int (nI i))]) (st' := [.int (nI i), .ref (147 + 1)]) d_182_44 (fun _ => rfl) ?_
          refine rr_nx (pc' := 46) (al' := [some (.ref 146), some (.int (nI k)), some (.int (nI i))]) (st' := [.ref 146, .int (nI i), .ref (147 + 1)]) d_182_45 (fun _ => rfl) ?_
          refine rr_gf (v := .ref (147 + 2)) d_182_46 mo_182 fl_16 rfl ?_
          refine rn_sp (v := 5720) d_182_49 (by decide) ?_
          refine rr_nx (pc' := 53) (al' := [some (.ref 146), some (.int (nI k)), some (.int (nI i))]) (st' := [.int (nI k), .int (nI 5720), .ref (147 + 2), .int (nI i), .ref (147 + 1)]) d_182_52 (fun _ => rfl) ?_
          refine rn_mul d_182_53  ?_
          refine rr_nx (pc' := 55) (al' := [some (.ref 146), some (.int (nI k)), some (.int (nI i))]) (st' := [.int (nI i), .int (nI (5720 * k)), .ref (147 + 2), .int (nI i), .ref (147 + 1)]) d_182_54 (fun _ => rfl) ?_
          refine rn_add d_182_55  ?_
          refine rr_ia (j := 2) (v := (A 2 (5720 * k + i))) d_182_56 (by decide) rfl (by decide) (show (5720 * k) + i < 11440 by omega) (by rw [rf_u_n (by decide)]) ?_
          refine rr_iS (j := 1) (A1 := (rf_u A 1 (upd (pasF (A 1) 0 (fun i_ => A 2 (5720 * k + i_)) i) i (A 2 (5720 * k + i))))) d_182_57 (by decide) rfl (by decide) (show i < 5720 by omega) rf_uw ?_
          refine rn_inc d_182_58 rfl rfl ?_
          show RR _ _ 61 [some (.ref 146), some (.int (nI k)), some (.int (nI (i + 1)))] [] g (rf_u A 1 (upd (pasF (A 1) 0 (fun i_ => A 2 (5720 * k + i_)) i) i (A 2 (5720 * k + i)))) _
          refine rr_nx (pc' := 33) (al' := [some (.ref 146), some (.int (nI k)), some (.int (nI (i + 1)))]) (st' := []) d_182_61 (fun _ => rfl) ?_
          refine rr_A (show (rf_u A 1 (upd (pasF (A 1) 0 (fun i_ => A 2 (5720 * k + i_)) i) i (A 2 (5720 * k + i)))) = (rf_u A 1 (pasF (A 1) 0 (fun i_ => A 2 (5720 * k + i_)) (i + 1))) by have h_ := pasF_s (f := A 1) (dst := 0) (n := i) (v := fun i_ => A 2 (5720 * k + i_)); rw [Nat.zero_add] at h_; exact congrArg (rf_u A 1) h_) ?_
          exact ihi  (trivial)
      · show RR _ _ 33 [some (.ref 146), some (.int (nI k)), some (.int (nI 5720))] [] g (rf_u A 1 (pasF (A 1) 0 (fun i_ => A 2 (5720 * k + i_)) 5720)) _
        refine rr_nx (pc' := 34) (al' := [some (.ref 146), some (.int (nI k)), some (.int (nI 5720))]) (st' := [.int (nI 5720)]) d_182_33 (fun _ => rfl) ?_
        refine rn_sp (v := 5720) d_182_34 (by decide) ?_
        refine rn_cge (t := 64) d_182_37 (by decide) (by omega) (by decide) (fun c37 => ?_) (fun c37 => ?_)
        · refine rr_nx (pc' := 65) (al' := [some (.ref 146), some (.int (nI k)), some (.int (nI 5720))]) (st' := [.ref 146]) d_182_64 (fun _ => rfl) ?_
          refine rn_ic (v := 0) d_182_65 (by decide) ?_
          refine rr_pv (as := [.int (nI 0)]) (al0 := [some (.ref 146), some (.int (nI 0))]) (r := []) d_182_66 mo_182 ml_114 mz_181 rfl rfl rfl (Nat.le_of_ble_eq_true rfl) (s_good _) ?_
          show RR _ _ 69 [some (.ref 146), some (.int (nI k)), some (.int (nI 5720))] [.int (nI 0)] (upd (upd g 0 (nI 0)) 1 (g 1 + nI 1)) (rf_u A 1 (pasF (A 1) 0 (fun i_ => A 2 (5720 * k + i_)) 5720)) _
          exact rr_ri d_182_69 mr_182 rfl ⟨rfl, hW.ky (by omega) (((hW.2.1 k hk).2 K hI).2.cg hOK (fun i_ hi_ => by have h_ := pasF_in (f := A 1) (dst := 0) (v := fun i_ => A 2 (5720 * k + i_)) hi_; rw [Nat.zero_add] at h_; exact h_)) rfl rfl rfl rfl rfl rfl rfl rfl⟩
        · omega
    · omega
  · exact absurd (ia_natI (by decide) (show k ≤ 1 by omega)) c6
theorem T_image {S : CS} {G : Nat → Nat → Value} {B : Nat → Nat → Int32} {J : Nat → Nat → Int64} {R : Nat → Nat → Option Nat} {g : Nat → Int32} {A : Nat → Nat → Int32} {n : Nat} {W : WS} (hC : WC n S G B R W) (hR : WR n g A W) (hn : n ≤ 10000) {u : Int32} : Tie n 173 178 [some (.ref 2), some (.int u)] [some (.ref 146), some (.int u), none] S G B J R g A W := by
  have hO := hC.2.2.2.1
  by_cases hu : inP u 2
  · obtain ⟨k, hk, e_⟩ := in_n hu
    subst e_
    cases hI : wI W k with
    | none => exact ⟨_, _, p_image_n hC hk hI, r_image_y hR hO hk hC.io hn⟩
    | some K => exact ⟨_, _, p_image_y hC hk hI, r_image_y hR hO hk hC.io hn⟩
  · exact ⟨_, _, p_image_b hC hu, r_image_b hR hO hu⟩
theorem T_back {S : CS} {G : Nat → Nat → Value} {B : Nat → Nat → Int32} {J : Nat → Nat → Int64} {R : Nat → Nat → Option Nat} {g : Nat → Int32} {A : Nat → Nat → Int32} {n : Nat} {W : WS} (hC : WC n S G B R W) (hR : WR n g A W) (hn : n ≤ 10000) {u : Int32} : Tie n 174 182 [some (.ref 2), some (.int u)] [some (.ref 146), some (.int u), none] S G B J R g A W := by
  have hO := hC.2.2.2.1
  by_cases hu : inP u 2
  · obtain ⟨k, hk, e_⟩ := in_n hu
    subst e_
    cases hI : wI W k with
    | none => exact ⟨_, _, p_back_n hC hk hI, r_back_n hR hO hk hI⟩
    | some K => exact ⟨_, _, p_back_y hC hk hI, r_back_y hR hO hk hI (hC.io k K hk hI) hn⟩
  · exact ⟨_, _, p_back_b hC hu, r_back_b hR hO hu⟩
