/-! Calls: holds, fails; printed by wip/whole/gen_c39.py. -/
noncomputable def fsE (br : Nat → Nat → Nat → Bool) (xs ys zs : Nat) : Nat × Nat × Nat := Classical.epsilon (fun t : Nat × Nat × Nat => FsT br xs ys zs t.1 t.2.1 t.2.2)
theorem fs_e {br : Nat → Nat → Nat → Bool} {xs ys zs x y z : Nat} (h : FsT br xs ys zs x y z) : (fsE br xs ys zs).1 = x ∧ (fsE br xs ys zs).2.1 = y ∧ (fsE br xs ys zs).2.2 = z := by
  have := Classical.epsilon_spec (p := fun t : Nat × Nat × Nat => FsT br xs ys zs t.1 t.2.1 t.2.2) ⟨(x, y, z), h⟩
  exact FsT.un this h
/-- the first values at which a law is broken -/
noncomputable def fsL (n : Nat) (c : Nat → Nat) (e : Nat) (cod : Nat → Nat) (N : Nat) : Nat × Nat × Nat := fsE (fun x y z => lwB cod (vlF x y z e) (jnW n c) 401) (spN n (lwR cod N 401).2.2.1 0) (spN n (lwR cod N 401).2.2.1 1) (spN n (lwR cod N 401).2.2.1 2)
theorem LwO.e {l N : Nat} {cod : Nat → Nat} {A A' : Nat → Nat → Int32} (h : LwO l N cod A) (e : A' 1 = A 1) : LwO l N cod A' := by
  unfold LwO LwK
  rw [e]
  exact h
theorem WR.lw {n : Nat} {g : Nat → Int32} {A : Nat → Nat → Int32} {W : WS} (hW : WR n g A W) (hO : CoOk (wK W)) {l : Nat} (hl : l < kL (wK W)) : LwO l (kN (wK W) l) (kW (wK W) l) A := by
  obtain ⟨a1, a2, a3, a4⟩ := hO.2.2.1 l hl
  have h8 := hO.2.1
  exact ⟨⟨⟨by omega, a1, a2⟩, (hW.1.2.2.1 l hl).1, (hW.1.2.2.1 l hl).2, a3⟩, a4⟩
theorem WR.lk {n : Nat} {g : Nat → Int32} {A : Nat → Nat → Int32} {W : WS} (hW : WR n g A W) (hO : CoOk (wK W)) : LkA (kL (wK W)) (kW (wK W)) (kN (wK W)) A := ⟨hO.2.1, hW.1.2.1, fun _ hl => hW.lw hO hl⟩
theorem Gt0.gs {g : Nat → Int32} {A : Nat → Nat → Int32} {g' : Nat → Int32} {A' : Nat → Nat → Int32} (h : Gt0 g A g' A') : Gsm g g' ∧ Ksm A A' := ⟨fun k hk => h.1 k (by unfold kpG at hk; simp at hk; omega), fun j hj => h.2 j (fun e => by rw [e] at hj; exact absurd hj (by decide))⟩
theorem GtF.g0 {g : Nat → Int32} {A : Nat → Nat → Int32} {e : Nat} {g' : Nat → Int32} {A' : Nat → Nat → Int32} (h : GtF g A e (g', A')) : Gt0 g A g' A' := ⟨h.1, h.2.1⟩
theorem s_isLaw {g : Nat → Int32} {A : Nat → Nat → Int32} {n : Nat} {W : WS} (hW : WR n g A W) (hO : CoOk (wK W)) {t : Int32} : RR 1 207 0 [some (.ref 146), some (.int t)] [] g A (rP (some (.int (bI (inP t (kL (wK W)))))) g A) := by
  refine rr_nx (pc' := 1) (al' := [some (.ref 146), some (.int t)]) (st' := [.int t]) d_207_0 (fun _ => rfl) ?_
  refine rn_ic (v := 0) d_207_1 (by decide) ?_
  refine rr_nx (pc' := 3) (al' := [some (.ref 146), some (.int t)]) (st' := [.ref 146, .int (nI 0), .int t]) d_207_2 (fun _ => rfl) ?_
  refine rr_gf (v := .ref (147 + 1)) d_207_3 mo_207 fl_13 rfl ?_
  refine rn_sp (v := 2509) d_207_6 (by decide) ?_
  refine rr_ia (j := 1) (v := (nI (kL (wK W)))) d_207_9 (by decide) rfl (by decide) (show 2509 < 5720 by first | omega | assumption | exact cu_36 (by omega) (cu_lt (by omega) (by omega))) hW.1.2.1 ?_
  refine rn_ic (v := 1) d_207_10 (by decide) ?_
  refine rr_nx (pc' := 12) (al' := [some (.ref 146), some (.int t)]) (st' := [.int ((nI (kL (wK W))) - (nI 1)), .int (nI 0), .int t]) d_207_11 (fun _ => rfl) ?_
  refine rr_ps (as := [.int t, .int (nI 0), .int ((nI (kL (wK W))) - (nI 1))]) (al0 := [some (.int t), some (.int (nI 0)), some (.int ((nI (kL (wK W))) - (nI 1)))]) (r := []) d_207_12 mo_207 ml_106 mz_179 rfl rfl rfl (Nat.le_of_ble_eq_true rfl) (s_lies t (nI 0) ((nI (kL (wK W))) - (nI 1))) ?_
  show RR _ _ 15 [some (.ref 146), some (.int t)] [.int (bI ((nI 0) ≤ t ∧ t ≤ ((nI (kL (wK W))) - (nI 1))))] g A _
  exact rr_ri d_207_15 mr_207 (bI_nar _) ⟨congrArg (fun z__ => some (Value.int z__)) (bI_c (in_r1 (by have := hO.2.1; omega))), rfl, rfl⟩
theorem k_letterValue {S : CS} {G : Nat → Nat → Value} {B : Nat → Nat → Int32} {J : Nat → Nat → Int64} {R : Nat → Nat → Option Nat} (hS : ShOk S) (hF : FxG G) {q : Nat} (hq : q < 4) : CR 0 8 0 [some (.ref 90), some (.int (nI q))] [] S G B J R (cP (some (.int (B 94 q))) S G B J R) := by
  refine cr_nx (pc' := 1) (al' := [some (.ref 90), some (.int (nI q))]) (st' := [.ref 90]) d_8_0 (fun _ => rfl) ?_
  refine cr_gf (v := .ref 94) d_8_1 cw_8 cf_0_23 (hS.i (a := 90) (by decide) (by decide)) (hS.s (a := 90) (by decide) (by decide) rfl) (by decide) (fx_90_5 hF) ?_
  refine cr_nx (pc' := 5) (al' := [some (.ref 90), some (.int (nI q))]) (st' := [.int (nI q), .ref 94]) d_8_4 (fun _ => rfl) ?_
  refine cr_ia (a := 94) (v := (B 94 q)) d_8_5 (hS.i (a := 94) (by decide) (by decide)) (hS.s (a := 94) (by decide) (by decide) rfl) (by first | decide | omega) (show q < 4 by first | omega | assumption | exact cu_36 (by omega) (cu_lt (by omega) (by omega))) rfl ?_
  exact cr_ri d_8_6 cx_8 rfl ⟨rfl, rfl, rfl, rfl, rfl, rfl⟩
theorem p_holds_y {S : CS} {G : Nat → Nat → Value} {B : Nat → Nat → Int32} {J : Nat → Nat → Int64} {R : Nat → Nat → Option Nat} {n : Nat} {W : WS} (hW : WC n S G B R W) {j m : Nat} {c : Nat → Nat} (hj : j < 6) (htb : tbK (wK W) j = (m, c)) (h1 : 1 ≤ m) {l e : Nat} (hll : l < kL (wK W)) (he : e < m) (hu1 : (if unV 0 m c < nI 0 then nI 0 else unV 0 m c) = nI e) (hu2 : (if unV 0 m c = -1 then nI 0 else unV 0 m c) = nI e) : CR 80 142 0 [some (.ref 2), some (.int (nI j)), some (.int (nI l))] [] S G B J R (fun r__ S' G' B' J' R' => r__ = some (.int (nI (if lwC m c e (kW (wK W) l) (kN (wK W) l) = 0 then 1 else 0))) ∧ WC (n + 1) S' G' B' R' W) := by
  have hS := hW.1.1
  have hF := hW.2.1
  have hO := hW.2.2.2.1
  obtain ⟨ta, ka, la, hH, hLk, hl2, hs3, hbd⟩ := hW.2.2.1
  obtain ⟨zt, hzt, ezt⟩ := (hH.2.1 j hj).2
  have ht := hH.ta hj
  have hsh := hH.2.2.2.2.2.2.1 j hj
  rw [show kH (wK W) (kD (wK W)) j = (m, c) from htb] at hsh
  have hok := tb_ok hO hj
  rw [htb] at hok
  have hn : G (ta j) 0 = .int (nI m) := hsh.1
  have hc : TabC B (ta j) m c := hsh.c hok
  have hl : Lat m c := hok.2
  have hm6 : m ≤ 6 := hok.1
  have hyes : hasP (wK W) (nI j) := (has_i hj).mpr (by rw [htb]; exact h1)
  have hLs0 := (hLk.2 l hll).2
  have hla := hLs0.2.1
  refine cr_nx (pc' := 1) (al' := [some (.ref 2), some (.int (nI j)), some (.int (nI l))]) (st' := [.ref 2]) d_142_0 (fun _ => rfl) ?_
  refine cr_nx (pc' := 2) (al' := [some (.ref 2), some (.int (nI j)), some (.int (nI l))]) (st' := [.int (nI j), .ref 2]) d_142_1 (fun _ => rfl) ?_
  refine cr_pv (b := 2) (as := [.int (nI j)]) (al0 := [some (.ref 2), some (.int (nI j))]) (r := []) d_142_2 cw_142 cm_11_137 cz_126 rfl rfl (hS.i (a := 2) (by decide) (by decide)) (by rw [cw_126]; exact (hS.s (a := 2) (by decide) (by decide) rfl)) (by rw [cw_126]; decide) rfl (Nat.le_of_ble_eq_true rfl) (k_has hS hF hH hO) ?_
  show CR _ _ 5 [some (.ref 2), some (.int (nI j)), some (.int (nI l))] [.int (bI (hasP (wK W) (nI j)))] S G B J R _
  refine cr_beq (t := 16) d_142_5 (by decide) (fun c5 => ?_) (fun c5 => ?_)
  · exact absurd hyes c5
  · refine cr_nx (pc' := 9) (al' := [some (.ref 2), some (.int (nI j)), some (.int (nI l))]) (st' := [.ref 2]) d_142_8 (fun _ => rfl) ?_
    refine cr_nx (pc' := 10) (al' := [some (.ref 2), some (.int (nI j)), some (.int (nI l))]) (st' := [.int (nI l), .ref 2]) d_142_9 (fun _ => rfl) ?_
    refine cr_pv (b := 2) (as := [.int (nI l)]) (al0 := [some (.ref 2), some (.int (nI l))]) (r := []) d_142_10 cw_142 cm_11_245 cz_143 rfl rfl (hS.i (a := 2) (by decide) (by decide)) (by rw [cw_143]; exact (hS.s (a := 2) (by decide) (by decide) rfl)) (by rw [cw_143]; decide) rfl (Nat.le_of_ble_eq_true rfl) (k_hasLaw hS hF hl2 hO.2.1) ?_
    show CR _ _ 13 [some (.ref 2), some (.int (nI j)), some (.int (nI l))] [.int (bI (inP (nI l) (kL (wK W))))] S G B J R _
    refine cr_bne (t := 18) d_142_13 (by decide) (fun c13 => ?_) (fun c13 => ?_)
    · refine cr_nx (pc' := 19) (al' := [some (.ref 2), some (.int (nI j)), some (.int (nI l))]) (st' := [.ref 2]) d_142_18 (fun _ => rfl) ?_
      refine cr_gf (v := .ref 90) d_142_19 cw_142 cf_11_48 (hS.i (a := 2) (by decide) (by decide)) (hS.s (a := 2) (by decide) (by decide) rfl) (by decide) (fx_2_8 hF) ?_
      refine cr_nx (pc' := 23) (al' := [some (.ref 2), some (.int (nI j)), some (.int (nI l))]) (st' := [.ref 2, .ref 90]) d_142_22 (fun _ => rfl) ?_
      refine cr_gf (v := .ref 3) d_142_23 cw_142 cf_11_10 (hS.i (a := 2) (by decide) (by decide)) (hS.s (a := 2) (by decide) (by decide) rfl) (by decide) (fx_2_0 hF) ?_
      refine cr_gf (v := .ref 4) d_142_26 cw_142 cf_11_140 (hS.i (a := 3) (by decide) (by decide)) (hS.s (a := 3) (by decide) (by decide) rfl) (by decide) (fx_3_0 hF) ?_
      refine cr_nx (pc' := 30) (al' := [some (.ref 2), some (.int (nI j)), some (.int (nI l))]) (st' := [.int (nI j), .ref 4, .ref 90]) d_142_29 (fun _ => rfl) ?_
      refine cr_aa (a := 4) (v := .ref (ta j)) d_142_30 (hS.i (a := 4) (by decide) (by decide)) (by decide) (hS.s (a := 4) (by decide) (by decide) rfl) (by decide) (show j < 6 by first | omega | assumption | exact cu_36 (by omega) (cu_lt (by omega) (by omega))) (show va_rf _ = _ by rw [(hH.2.1 j hj).1]; rfl) ?_
      refine cr_nx (pc' := 32) (al' := [some (.ref 2), some (.int (nI j)), some (.int (nI l))]) (st' := [.ref 2, .ref (ta j), .ref 90]) d_142_31 (fun _ => rfl) ?_
      refine cr_gf (v := .ref 3) d_142_32 cw_142 cf_11_10 (hS.i (a := 2) (by decide) (by decide)) (hS.s (a := 2) (by decide) (by decide) rfl) (by decide) (fx_2_0 hF) ?_
      refine cr_gf (v := .ref 4) d_142_35 cw_142 cf_11_140 (hS.i (a := 3) (by decide) (by decide)) (hS.s (a := 3) (by decide) (by decide) rfl) (by decide) (fx_3_0 hF) ?_
      refine cr_nx (pc' := 39) (al' := [some (.ref 2), some (.int (nI j)), some (.int (nI l))]) (st' := [.int (nI j), .ref 4, .ref (ta j), .ref 90]) d_142_38 (fun _ => rfl) ?_
      refine cr_aa (a := 4) (v := .ref (ta j)) d_142_39 (hS.i (a := 4) (by decide) (by decide)) (by decide) (hS.s (a := 4) (by decide) (by decide) rfl) (by decide) (show j < 6 by first | omega | assumption | exact cu_36 (by omega) (cu_lt (by omega) (by omega))) (show va_rf _ = _ by rw [(hH.2.1 j hj).1]; rfl) ?_
      refine cr_pv (b := (ta j)) (as := []) (al0 := [some (.ref (ta j))]) (r := [.ref (ta j), .ref 90]) d_142_40 cw_142 cm_11_193 cz_106 rfl rfl ht.1 (by rw [cw_106]; exact ht.2.2.1) (by rw [cw_106]; decide) rfl (Nat.le_of_ble_eq_true rfl) (k_unitElement ht hn hc) ?_
      show CR _ _ 43 [some (.ref 2), some (.int (nI j)), some (.int (nI l))] [.int (unV 0 m c), .ref (ta j), .ref 90] S G B J R _
      refine cr_pv (b := 90) (as := [.ref (ta j), .int (unV 0 m c)]) (al0 := [some (.ref 90), some (.ref (ta j)), some (.int (unV 0 m c))]) (r := []) d_142_43 cw_142 cm_11_248 cz_1 rfl rfl (hS.i (a := 90) (by decide) (by decide)) (by rw [cw_1]; exact (hS.s (a := 90) (by decide) (by decide) rfl)) (by rw [cw_1]; decide) rfl (Nat.le_of_ble_eq_true rfl) (k_look (a := 90) (t := ta j) (e := e) (ck_90 hS hF) ht hn (by omega) hu1) ?_
      show CR _ _ 46 [some (.ref 2), some (.int (nI j)), some (.int (nI l))] [] S (up2 (up2 (up2 G 90 0 (.int (nI m))) 90 1 (.ref (ta j + 1))) 90 2 (.int (nI 0))) (upr B (90 + 4) (upd (B (90 + 4)) 3 (nI e))) J R _
      refine cr_nx (pc' := 47) (al' := [some (.ref 2), some (.int (nI j)), some (.int (nI l))]) (st' := [.ref 2]) d_142_46 (fun _ => rfl) ?_
      refine cr_gf (v := .ref 90) d_142_47 cw_142 cf_11_48 (hS.i (a := 2) (by decide) (by decide)) (hS.s (a := 2) (by decide) (by decide) rfl) (by decide) (by simp [up2]; exact (fx_2_8 hF)) ?_
      refine cr_nx (pc' := 51) (al' := [some (.ref 2), some (.int (nI j)), some (.int (nI l))]) (st' := [.ref 2, .ref 90]) d_142_50 (fun _ => rfl) ?_
      refine cr_gf (v := .ref 3) d_142_51 cw_142 cf_11_10 (hS.i (a := 2) (by decide) (by decide)) (hS.s (a := 2) (by decide) (by decide) rfl) (by decide) (by simp [up2]; exact (fx_2_0 hF)) ?_
      refine cr_gf (v := .ref 5) d_142_54 cw_142 cf_11_241 (hS.i (a := 3) (by decide) (by decide)) (hS.s (a := 3) (by decide) (by decide) rfl) (by decide) (by simp [up2]; exact (fx_3_1 hF)) ?_
      refine cr_nx (pc' := 58) (al' := [some (.ref 2), some (.int (nI j)), some (.int (nI l))]) (st' := [.int (nI l), .ref 5, .ref 90]) d_142_57 (fun _ => rfl) ?_
      refine cr_aa (a := 5) (v := .ref (la l)) d_142_58 (hS.i (a := 5) (by decide) (by decide)) (by decide) (hS.s (a := 5) (by decide) (by decide) rfl) (by decide) (show l < 8 by (have := hO.2.1; omega)) (show va_rf (R 5 l) = _ by rw [(hLk.2 l hll).1]; rfl) ?_
      refine cn_ic (v := 1) d_142_59 (by decide) ?_
      have hLs := hLs0.cg (G' := (up2 (up2 (up2 G 90 0 (.int (nI m))) 90 1 (.ref (ta j + 1))) 90 2 (.int (nI 0)))) (B' := (upr B (90 + 4) (upd (B (90 + 4)) 3 (nI e)))) (by rw [up2_g (by omega), up2_g (by omega), up2_g (by omega)]) (by rw [upr_n (by omega)])
      refine cr_cv (b := 90) (as := [.ref (la l), .int (nI 1)]) (al0 := [some (.ref 90), some (.ref (la l)), some (.int (nI 1)), none, none, none, none, none, none, none]) (r := []) d_142_60 cw_142 cm_11_251 cz_2 rfl rfl (hS.i (a := 90) (by decide) (by decide)) (by rw [cw_2]; exact (hS.s (a := 90) (by decide) (by decide) rfl)) (by rw [cw_2]; decide) rfl (cr_wk (Nat.le_of_ble_eq_true rfl) (k_failures1 (a := 90) (m := ta j + 1) (l := la l) hm6 h1 hl he (by omega) ⟨by omega, by omega, by omega, by omega⟩ ⟨by omega, by omega, by omega, by omega⟩ hLs.ok (CkL.mk (J := J) (R := R) (ck_90 hS hF) ht hc (by omega)) hLs.1)) (fun v1 S1 G1 B1 J1 R1 h1x => ?_)
      obtain ⟨⟨q1_, q2_, q3_⟩, hg1, hb1, hk1, hor⟩ := h1x
      obtain rfl := q1_.symm
      obtain rfl := q2_.symm
      obtain rfl := q3_.symm
      rw [hLs.br] at hor
      have hG1 : Gfr [90] G G1 := Gfr.tr (((Gfr.rf.u (by decide)).u (by decide)).u (by decide)) hg1
      have hB1 : Bfr [92, 93, 94, 95] B B1 := Bfr.tr (Bfr.rf.u (by decide)) hb1
      have hF1 := fx_90c hF hG1 hk1.1
      obtain ⟨z, hz, hz1, hzz, hv⟩ : ∃ z, v1 = some (.int (nI z)) ∧ z ≤ 1 ∧ (z = 0 ↔ lwC m c e (kW (wK W) l) (kN (wK W) l) = 0) ∧ (z = 1 → B1 94 0 = nI (fsL m c e (kW (wK W) l) (kN (wK W) l)).1 ∧ B1 94 1 = nI (fsL m c e (kW (wK W) l) (kN (wK W) l)).2.1 ∧ B1 94 2 = nI (fsL m c e (kW (wK W) l) (kN (wK W) l)).2.2) := hor.elim (fun h_ => ⟨0, h_.1, by omega, ⟨fun _ => f3_0.mpr h_.2, fun _ => rfl⟩, fun e_ => absurd e_ (by decide)⟩) (fun h_ => ⟨1, h_.1, by omega, ⟨fun e_ => absurd e_ (by decide), fun e_ => by obtain ⟨_, _, _, h2_, _⟩ := h_.2; exact absurd (f3_0.mp e_) h2_.no⟩, fun _ => by obtain ⟨_, _, _, h2_, h3_, h4_, h5_⟩ := h_.2; obtain ⟨e1_, e2_, e3_⟩ := fs_e h2_; exact ⟨h3_.trans (congrArg nI e1_.symm), h4_.trans (congrArg nI e2_.symm), h5_.trans (congrArg nI e3_.symm)⟩⟩)
      obtain rfl := hz
      show CR _ _ 63 [some (.ref 2), some (.int (nI j)), some (.int (nI l))] [.int (nI z)] S G1 B1 J R _
      refine cn_ine (t := 70) d_142_63 (by decide) (by first | omega | assumption | exact cu_36 (by omega) (cu_lt (by omega) (by omega))) (fun c63 => ?_) (fun c63 => ?_)
      · refine cn_ic (v := 0) d_142_70 (by decide) ?_
        exact cr_ri d_142_71 cx_142 rfl ⟨by rw [if_neg (fun e_ => by have := hzz.mpr e_; omega)], (hW.q hF1 (hG1.mo (by decide)) (hB1.mo (by decide))).mo⟩
      · refine cn_ic (v := 1) d_142_66 (by decide) ?_
        refine cr_nx (pc' := 71) (al' := [some (.ref 2), some (.int (nI j)), some (.int (nI l))]) (st' := [.int (nI 1)]) d_142_67 (fun _ => rfl) ?_
        exact cr_ri d_142_71 cx_142 rfl ⟨by rw [if_pos (hzz.mp (by omega))], (hW.q hF1 (hG1.mo (by decide)) (hB1.mo (by decide))).mo⟩
    · exact absurd ((in_j (by have := hO.2.1; omega)).mpr hll) c13
theorem r_holds_y {g : Nat → Int32} {A : Nat → Nat → Int32} {n : Nat} {W : WS} (hW : WR n g A W) (hO : CoOk (wK W)) {j m : Nat} {c : Nat → Nat} (hj : j < 6) (htb : tbK (wK W) j = (m, c)) (h1 : 1 ≤ m) {l e : Nat} (hll : l < kL (wK W)) (he : e < m) (hu1 : (if unV 0 m c < nI 0 then nI 0 else unV 0 m c) = nI e) (hu2 : (if unV 0 m c = -1 then nI 0 else unV 0 m c) = nI e) : RR 80 206 0 [some (.ref 146), some (.int (nI j)), some (.int (nI l))] [] g A (fun r__ g' A' => r__ = some (.int (nI (if lwC m c e (kW (wK W) l) (kN (wK W) l) = 0 then 1 else 0))) ∧ WR (n + 1) g' A' W) := by
  have hsh := hW.1.1.1 j hj
  rw [show kH (wK W) (kD (wK W)) j = (m, c) from htb] at hsh
  have hok := tb_ok hO hj
  rw [htb] at hok
  have hk : A 1 (37 * j) = nI m := hsh.1
  have hl : Lat m c := hok.2
  have hm6 : m ≤ 6 := hok.1
  have hyes : isT A (nI j) := (has_r hW hO).mpr ((has_i hj).mpr (by rw [htb]; exact h1))
  refine rr_nx (pc' := 1) (al' := [some (.ref 146), some (.int (nI j)), some (.int (nI l))]) (st' := [.ref 146]) d_206_0 (fun _ => rfl) ?_
  refine rr_nx (pc' := 2) (al' := [some (.ref 146), some (.int (nI j)), some (.int (nI l))]) (st' := [.int (nI j), .ref 146]) d_206_1 (fun _ => rfl) ?_
  refine rr_pv (as := [.int (nI j)]) (al0 := [some (.ref 146), some (.int (nI j))]) (r := []) d_206_2 mo_206 ml_124 mz_184 rfl rfl rfl (Nat.le_of_ble_eq_true rfl) (s_isTable (nI j)) ?_
  show RR _ _ 5 [some (.ref 146), some (.int (nI j)), some (.int (nI l))] [.int (bI (isT A (nI j)))] g A _
  refine rr_beq (t := 16) d_206_5 (by decide) (fun c5 => ?_) (fun c5 => ?_)
  · exact absurd hyes c5
  · refine rr_nx (pc' := 9) (al' := [some (.ref 146), some (.int (nI j)), some (.int (nI l))]) (st' := [.ref 146]) d_206_8 (fun _ => rfl) ?_
    refine rr_nx (pc' := 10) (al' := [some (.ref 146), some (.int (nI j)), some (.int (nI l))]) (st' := [.int (nI l), .ref 146]) d_206_9 (fun _ => rfl) ?_
    refine rr_pv (as := [.int (nI l)]) (al0 := [some (.ref 146), some (.int (nI l))]) (r := []) d_206_10 mo_206 ml_245 mz_207 rfl rfl rfl (Nat.le_of_ble_eq_true rfl) (s_isLaw hW hO) ?_
    show RR _ _ 13 [some (.ref 146), some (.int (nI j)), some (.int (nI l))] [.int (bI (inP (nI l) (kL (wK W))))] g A _
    refine rr_bne (t := 18) d_206_13 (by decide) (fun c13 => ?_) (fun c13 => ?_)
    · refine rr_nx (pc' := 19) (al' := [some (.ref 146), some (.int (nI j)), some (.int (nI l))]) (st' := [.ref 146]) d_206_18 (fun _ => rfl) ?_
      refine rr_nx (pc' := 20) (al' := [some (.ref 146), some (.int (nI j)), some (.int (nI l))]) (st' := [.int (nI j), .ref 146]) d_206_19 (fun _ => rfl) ?_
      refine rr_pv (as := [.int (nI j)]) (al0 := [some (.ref 146), some (.int (nI j)), none]) (r := []) d_206_20 mo_206 ml_248 mz_208 rfl rfl rfl (Nat.le_of_ble_eq_true rfl) (s_lays (n := m) hj hm6 hk) ?_
      obtain ⟨wl20, hwl20⟩ : ∃ w_, w_ = rf_f (fun q => A 1 (37 * j + 1 + q)) (A 4) (m * m) := ⟨_, rfl⟩
      rw [← hwl20]
      show RR _ _ 23 [some (.ref 146), some (.int (nI j)), some (.int (nI l))] [] (upd g 6 (nI m)) (rf_u A 4 wl20) _
      have hcu := cur_l (g := g) hsh hm6 hl hwl20
      refine rr_nx (pc' := 24) (al' := [some (.ref 146), some (.int (nI j)), some (.int (nI l))]) (st' := [.ref 146]) d_206_23 (fun _ => rfl) ?_
      refine rr_nx (pc' := 25) (al' := [some (.ref 146), some (.int (nI j)), some (.int (nI l))]) (st' := [.int (nI l), .ref 146]) d_206_24 (fun _ => rfl) ?_
      have hLo := (hW.lw hO hll).e (A' := (rf_u A 4 wl20)) (rf_u_n (by decide))
      refine rr_cv (as := [.int (nI l)]) (al0 := [some (.ref 146), some (.int (nI l))]) (r := []) d_206_25 mo_206 ml_251 mz_209 rfl rfl rfl (rr_wk (Nat.le_of_ble_eq_true rfl) (s_isSo hLo hcu hl he hu2)) (fun v1 g1 A1 h1x => ?_)
      obtain ⟨q0_, hGt⟩ := h1x
      obtain rfl := q0_
      obtain ⟨hGs, hKs⟩ := hGt.gs
      show RR _ _ 28 [some (.ref 146), some (.int (nI j)), some (.int (nI l))] [.int (bI (lwC m c e (kW (wK W) l) (kN (wK W) l) = 0))] g1 A1 _
      refine rr_beq (t := 35) d_206_28 (by decide) (fun c28 => ?_) (fun c28 => ?_)
      · refine rn_ic (v := 0) d_206_35 (by decide) ?_
        exact rr_ri d_206_36 mr_206 rfl ⟨by rw [if_neg c28], (hW.q ((Gsm.rf.u rfl).tr hGs) ((Ksm.rf.u rfl).tr hKs)).mo⟩
      · refine rn_ic (v := 1) d_206_31 (by decide) ?_
        refine rr_nx (pc' := 36) (al' := [some (.ref 146), some (.int (nI j)), some (.int (nI l))]) (st' := [.int (nI 1)]) d_206_32 (fun _ => rfl) ?_
        exact rr_ri d_206_36 mr_206 rfl ⟨by rw [if_pos c28], (hW.q ((Gsm.rf.u rfl).tr hGs) ((Ksm.rf.u rfl).tr hKs)).mo⟩
    · exact absurd ((in_j (by have := hO.2.1; omega)).mpr hll) c13
theorem p_holds_x {S : CS} {G : Nat → Nat → Value} {B : Nat → Nat → Int32} {J : Nat → Nat → Int64} {R : Nat → Nat → Option Nat} {n : Nat} {W : WS} (hW : WC n S G B R W) {j m : Nat} {c : Nat → Nat} (hj : j < 6) (htb : tbK (wK W) j = (m, c)) (h1 : 1 ≤ m) {w : Int32} (hw : ¬ inP w (kL (wK W))) : CR 80 142 0 [some (.ref 2), some (.int (nI j)), some (.int w)] [] S G B J R (fun r__ S' G' B' J' R' => r__ = some (.int (-1)) ∧ WC (n + 1) S' G' B' R' W) := by
  have hS := hW.1.1
  have hF := hW.2.1
  have hO := hW.2.2.2.1
  obtain ⟨ta, ka, la, hH, hLk, hl2, hs3, hbd⟩ := hW.2.2.1
  obtain ⟨zt, hzt, ezt⟩ := (hH.2.1 j hj).2
  have ht := hH.ta hj
  have hsh := hH.2.2.2.2.2.2.1 j hj
  rw [show kH (wK W) (kD (wK W)) j = (m, c) from htb] at hsh
  have hok := tb_ok hO hj
  rw [htb] at hok
  have hn : G (ta j) 0 = .int (nI m) := hsh.1
  have hc : TabC B (ta j) m c := hsh.c hok
  have hl : Lat m c := hok.2
  have hm6 : m ≤ 6 := hok.1
  have hyes : hasP (wK W) (nI j) := (has_i hj).mpr (by rw [htb]; exact h1)
  refine cr_nx (pc' := 1) (al' := [some (.ref 2), some (.int (nI j)), some (.int w)]) (st' := [.ref 2]) d_142_0 (fun _ => rfl) ?_
  refine cr_nx (pc' := 2) (al' := [some (.ref 2), some (.int (nI j)), some (.int w)]) (st' := [.int (nI j), .ref 2]) d_142_1 (fun _ => rfl) ?_
  refine cr_pv (b := 2) (as := [.int (nI j)]) (al0 := [some (.ref 2), some (.int (nI j))]) (r := []) d_142_2 cw_142 cm_11_137 cz_126 rfl rfl (hS.i (a := 2) (by decide) (by decide)) (by rw [cw_126]; exact (hS.s (a := 2) (by decide) (by decide) rfl)) (by rw [cw_126]; decide) rfl (Nat.le_of_ble_eq_true rfl) (k_has hS hF hH hO) ?_
  show CR _ _ 5 [some (.ref 2), some (.int (nI j)), some (.int w)] [.int (bI (hasP (wK W) (nI j)))] S G B J R _
  refine cr_beq (t := 16) d_142_5 (by decide) (fun c5 => ?_) (fun c5 => ?_)
  · exact absurd hyes c5
  · refine cr_nx (pc' := 9) (al' := [some (.ref 2), some (.int (nI j)), some (.int w)]) (st' := [.ref 2]) d_142_8 (fun _ => rfl) ?_
    refine cr_nx (pc' := 10) (al' := [some (.ref 2), some (.int (nI j)), some (.int w)]) (st' := [.int w, .ref 2]) d_142_9 (fun _ => rfl) ?_
    refine cr_pv (b := 2) (as := [.int w]) (al0 := [some (.ref 2), some (.int w)]) (r := []) d_142_10 cw_142 cm_11_245 cz_143 rfl rfl (hS.i (a := 2) (by decide) (by decide)) (by rw [cw_143]; exact (hS.s (a := 2) (by decide) (by decide) rfl)) (by rw [cw_143]; decide) rfl (Nat.le_of_ble_eq_true rfl) (k_hasLaw hS hF hl2 hO.2.1) ?_
    show CR _ _ 13 [some (.ref 2), some (.int (nI j)), some (.int w)] [.int (bI (inP w (kL (wK W))))] S G B J R _
    refine cr_bne (t := 18) d_142_13 (by decide) (fun c13 => ?_) (fun c13 => ?_)
    · exact absurd c13 hw
    · refine cr_nx (pc' := 17) (al' := [some (.ref 2), some (.int (nI j)), some (.int w)]) (st' := [.int (-1)]) d_142_16 (fun _ => rfl) ?_
      exact cr_ri d_142_17 cx_142 rfl ⟨rfl, hW.mo⟩
theorem r_holds_x {g : Nat → Int32} {A : Nat → Nat → Int32} {n : Nat} {W : WS} (hW : WR n g A W) (hO : CoOk (wK W)) {j m : Nat} {c : Nat → Nat} (hj : j < 6) (htb : tbK (wK W) j = (m, c)) (h1 : 1 ≤ m) {w : Int32} (hw : ¬ inP w (kL (wK W))) : RR 80 206 0 [some (.ref 146), some (.int (nI j)), some (.int w)] [] g A (fun r__ g' A' => r__ = some (.int (-1)) ∧ WR (n + 1) g' A' W) := by
  have hsh := hW.1.1.1 j hj
  rw [show kH (wK W) (kD (wK W)) j = (m, c) from htb] at hsh
  have hok := tb_ok hO hj
  rw [htb] at hok
  have hk : A 1 (37 * j) = nI m := hsh.1
  have hl : Lat m c := hok.2
  have hm6 : m ≤ 6 := hok.1
  have hyes : isT A (nI j) := (has_r hW hO).mpr ((has_i hj).mpr (by rw [htb]; exact h1))
  refine rr_nx (pc' := 1) (al' := [some (.ref 146), some (.int (nI j)), some (.int w)]) (st' := [.ref 146]) d_206_0 (fun _ => rfl) ?_
  refine rr_nx (pc' := 2) (al' := [some (.ref 146), some (.int (nI j)), some (.int w)]) (st' := [.int (nI j), .ref 146]) d_206_1 (fun _ => rfl) ?_
  refine rr_pv (as := [.int (nI j)]) (al0 := [some (.ref 146), some (.int (nI j))]) (r := []) d_206_2 mo_206 ml_124 mz_184 rfl rfl rfl (Nat.le_of_ble_eq_true rfl) (s_isTable (nI j)) ?_
  show RR _ _ 5 [some (.ref 146), some (.int (nI j)), some (.int w)] [.int (bI (isT A (nI j)))] g A _
  refine rr_beq (t := 16) d_206_5 (by decide) (fun c5 => ?_) (fun c5 => ?_)
  · exact absurd hyes c5
  · refine rr_nx (pc' := 9) (al' := [some (.ref 146), some (.int (nI j)), some (.int w)]) (st' := [.ref 146]) d_206_8 (fun _ => rfl) ?_
    refine rr_nx (pc' := 10) (al' := [some (.ref 146), some (.int (nI j)), some (.int w)]) (st' := [.int w, .ref 146]) d_206_9 (fun _ => rfl) ?_
    refine rr_pv (as := [.int w]) (al0 := [some (.ref 146), some (.int w)]) (r := []) d_206_10 mo_206 ml_245 mz_207 rfl rfl rfl (Nat.le_of_ble_eq_true rfl) (s_isLaw hW hO) ?_
    show RR _ _ 13 [some (.ref 146), some (.int (nI j)), some (.int w)] [.int (bI (inP w (kL (wK W))))] g A _
    refine rr_bne (t := 18) d_206_13 (by decide) (fun c13 => ?_) (fun c13 => ?_)
    · exact absurd c13 hw
    · refine rr_nx (pc' := 17) (al' := [some (.ref 146), some (.int (nI j)), some (.int w)]) (st' := [.int (-1)]) d_206_16 (fun _ => rfl) ?_
      exact rr_ri d_206_17 mr_206 rfl ⟨rfl, hW.mo⟩
theorem p_holds_n {S : CS} {G : Nat → Nat → Value} {B : Nat → Nat → Int32} {J : Nat → Nat → Int64} {R : Nat → Nat → Option Nat} {n : Nat} {W : WS} (hW : WC n S G B R W) {t : Int32} (hh : ¬ hasP (wK W) t) {w : Int32} : CR 80 142 0 [some (.ref 2), some (.int t), some (.int w)] [] S G B J R (fun r__ S' G' B' J' R' => r__ = some (.int (-1)) ∧ WC (n + 1) S' G' B' R' W) := by
  have hS := hW.1.1
  have hF := hW.2.1
  have hO := hW.2.2.2.1
  obtain ⟨ta, ka, la, hH, hLk, hl2, hs3, hbd⟩ := hW.2.2.1
  refine cr_nx (pc' := 1) (al' := [some (.ref 2), some (.int t), some (.int w)]) (st' := [.ref 2]) d_142_0 (fun _ => rfl) ?_
  refine cr_nx (pc' := 2) (al' := [some (.ref 2), some (.int t), some (.int w)]) (st' := [.int t, .ref 2]) d_142_1 (fun _ => rfl) ?_
  refine cr_pv (b := 2) (as := [.int t]) (al0 := [some (.ref 2), some (.int t)]) (r := []) d_142_2 cw_142 cm_11_137 cz_126 rfl rfl (hS.i (a := 2) (by decide) (by decide)) (by rw [cw_126]; exact (hS.s (a := 2) (by decide) (by decide) rfl)) (by rw [cw_126]; decide) rfl (Nat.le_of_ble_eq_true rfl) (k_has hS hF hH hO) ?_
  show CR _ _ 5 [some (.ref 2), some (.int t), some (.int w)] [.int (bI (hasP (wK W) t))] S G B J R _
  refine cr_beq (t := 16) d_142_5 (by decide) (fun c5 => ?_) (fun c5 => ?_)
  · refine cr_nx (pc' := 17) (al' := [some (.ref 2), some (.int t), some (.int w)]) (st' := [.int (-1)]) d_142_16 (fun _ => rfl) ?_
    exact cr_ri d_142_17 cx_142 rfl ⟨rfl, hW.mo⟩
  · exact absurd c5 hh
theorem r_holds_n {g : Nat → Int32} {A : Nat → Nat → Int32} {n : Nat} {W : WS} (hW : WR n g A W) (hO : CoOk (wK W)) {t : Int32} (hh : ¬ hasP (wK W) t) {w : Int32} : RR 80 206 0 [some (.ref 146), some (.int t), some (.int w)] [] g A (fun r__ g' A' => r__ = some (.int (-1)) ∧ WR (n + 1) g' A' W) := by
  refine rr_nx (pc' := 1) (al' := [some (.ref 146), some (.int t), some (.int w)]) (st' := [.ref 146]) d_206_0 (fun _ => rfl) ?_
  refine rr_nx (pc' := 2) (al' := [some (.ref 146), some (.int t), some (.int w)]) (st' := [.int t, .ref 146]) d_206_1 (fun _ => rfl) ?_
  refine rr_pv (as := [.int t]) (al0 := [some (.ref 146), some (.int t)]) (r := []) d_206_2 mo_206 ml_124 mz_184 rfl rfl rfl (Nat.le_of_ble_eq_true rfl) (s_isTable t) ?_
  show RR _ _ 5 [some (.ref 146), some (.int t), some (.int w)] [.int (bI (isT A t))] g A _
  refine rr_beq (t := 16) d_206_5 (by decide) (fun c5 => ?_) (fun c5 => ?_)
  · refine rr_nx (pc' := 17) (al' := [some (.ref 146), some (.int t), some (.int w)]) (st' := [.int (-1)]) d_206_16 (fun _ => rfl) ?_
    exact rr_ri d_206_17 mr_206 rfl ⟨rfl, hW.mo⟩
  · exact absurd c5 (fun e_ => hh ((has_r hW hO).mp e_))
theorem T_holds {S : CS} {G : Nat → Nat → Value} {B : Nat → Nat → Int32} {J : Nat → Nat → Int64} {R : Nat → Nat → Option Nat} {g : Nat → Int32} {A : Nat → Nat → Int32} {n : Nat} {W : WS} (hC : WC n S G B R W) (hR : WR n g A W) (hn : n ≤ 10000) {t : Int32} {w : Int32} : Tie n 142 206 [some (.ref 2), some (.int t), some (.int w)] [some (.ref 146), some (.int t), some (.int w)] S G B J R g A W := by
  have hO := hC.2.2.2.1
  by_cases hh : hasP (wK W) t
  · obtain ⟨j, hj, e_, h1⟩ := has_n hh
    subst e_
    obtain ⟨⟨m, c⟩, htb⟩ : ∃ tb, tbK (wK W) j = tb := ⟨_, rfl⟩
    rw [htb] at h1
    by_cases hw : inP w (kL (wK W))
    · obtain ⟨l, hll, e_⟩ := in_n hw
      subst e_
      obtain ⟨e, he, hu1, hu2⟩ := un_e (c := c) h1 (by have := (tb_ok hO hj).1; rw [htb] at this; exact this)
      exact ⟨_, W, p_holds_y hC hj htb h1 hll he hu1 hu2, r_holds_y hR hO hj htb h1 hll he hu1 hu2⟩
    · exact ⟨_, W, p_holds_x hC hj htb h1 hw, r_holds_x hR hO hj htb h1 hw⟩
  · exact ⟨_, W, p_holds_n hC hh, r_holds_n hR hO hh⟩
theorem p_fails0 {S : CS} {G : Nat → Nat → Value} {B : Nat → Nat → Int32} {J : Nat → Nat → Int64} {R : Nat → Nat → Option Nat} {n : Nat} {W : WS} (hW : WC n S G B R W) {j m : Nat} {c : Nat → Nat} (hj : j < 6) (htb : tbK (wK W) j = (m, c)) (h1 : 1 ≤ m) {l e : Nat} (hll : l < kL (wK W)) (he : e < m) (hu1 : (if unV 0 m c < nI 0 then nI 0 else unV 0 m c) = nI e) (hu2 : (if unV 0 m c = -1 then nI 0 else unV 0 m c) = nI e) : CR 80 144 0 [some (.ref 2), some (.int (nI j)), some (.int (nI l)), some (.int (nI 0)), none] [] S G B J R (fun r__ S' G' B' J' R' => r__ = some (.int (nI (lwC m c e (kW (wK W) l) (kN (wK W) l)))) ∧ WC (n + 1) S' G' B' R' W) := by
  have hS := hW.1.1
  have hF := hW.2.1
  have hO := hW.2.2.2.1
  obtain ⟨ta, ka, la, hH, hLk, hl2, hs3, hbd⟩ := hW.2.2.1
  obtain ⟨zt, hzt, ezt⟩ := (hH.2.1 j hj).2
  have ht := hH.ta hj
  have hsh := hH.2.2.2.2.2.2.1 j hj
  rw [show kH (wK W) (kD (wK W)) j = (m, c) from htb] at hsh
  have hok := tb_ok hO hj
  rw [htb] at hok
  have hn : G (ta j) 0 = .int (nI m) := hsh.1
  have hc : TabC B (ta j) m c := hsh.c hok
  have hl : Lat m c := hok.2
  have hm6 : m ≤ 6 := hok.1
  have hyes : hasP (wK W) (nI j) := (has_i hj).mpr (by rw [htb]; exact h1)
  have hLs0 := (hLk.2 l hll).2
  have hla := hLs0.2.1
  refine cr_nx (pc' := 1) (al' := [some (.ref 2), some (.int (nI j)), some (.int (nI l)), some (.int (nI 0)), none]) (st' := [.ref 2]) d_144_0 (fun _ => rfl) ?_
  refine cr_nx (pc' := 2) (al' := [some (.ref 2), some (.int (nI j)), some (.int (nI l)), some (.int (nI 0)), none]) (st' := [.int (nI j), .ref 2]) d_144_1 (fun _ => rfl) ?_
  refine cr_pv (b := 2) (as := [.int (nI j)]) (al0 := [some (.ref 2), some (.int (nI j))]) (r := []) d_144_2 cw_144 cm_11_137 cz_126 rfl rfl (hS.i (a := 2) (by decide) (by decide)) (by rw [cw_126]; exact (hS.s (a := 2) (by decide) (by decide) rfl)) (by rw [cw_126]; decide) rfl (Nat.le_of_ble_eq_true rfl) (k_has hS hF hH hO) ?_
  show CR _ _ 5 [some (.ref 2), some (.int (nI j)), some (.int (nI l)), some (.int (nI 0)), none] [.int (bI (hasP (wK W) (nI j)))] S G B J R _
  refine cr_beq (t := 25) d_144_5 (by decide) (fun c5 => ?_) (fun c5 => ?_)
  · exact absurd hyes c5
  · refine cr_nx (pc' := 9) (al' := [some (.ref 2), some (.int (nI j)), some (.int (nI l)), some (.int (nI 0)), none]) (st' := [.ref 2]) d_144_8 (fun _ => rfl) ?_
    refine cr_nx (pc' := 10) (al' := [some (.ref 2), some (.int (nI j)), some (.int (nI l)), some (.int (nI 0)), none]) (st' := [.int (nI l), .ref 2]) d_144_9 (fun _ => rfl) ?_
    refine cr_pv (b := 2) (as := [.int (nI l)]) (al0 := [some (.ref 2), some (.int (nI l))]) (r := []) d_144_10 cw_144 cm_11_245 cz_143 rfl rfl (hS.i (a := 2) (by decide) (by decide)) (by rw [cw_143]; exact (hS.s (a := 2) (by decide) (by decide) rfl)) (by rw [cw_143]; decide) rfl (Nat.le_of_ble_eq_true rfl) (k_hasLaw hS hF hl2 hO.2.1) ?_
    show CR _ _ 13 [some (.ref 2), some (.int (nI j)), some (.int (nI l)), some (.int (nI 0)), none] [.int (bI (inP (nI l) (kL (wK W))))] S G B J R _
    refine cr_beq (t := 25) d_144_13 (by decide) (fun c13 => ?_) (fun c13 => ?_)
    · exact absurd ((in_j (by have := hO.2.1; omega)).mpr hll) c13
    · refine cr_nx (pc' := 17) (al' := [some (.ref 2), some (.int (nI j)), some (.int (nI l)), some (.int (nI 0)), none]) (st' := [.int (nI 0)]) d_144_16 (fun _ => rfl) ?_
      refine cn_zlt (t := 25) d_144_17 (by decide) (by first | omega | assumption | exact cu_36 (by omega) (cu_lt (by omega) (by omega))) (fun c17 => ?_) (fun c17 => ?_)
      · exact c17.elim
      · refine cr_nx (pc' := 21) (al' := [some (.ref 2), some (.int (nI j)), some (.int (nI l)), some (.int (nI 0)), none]) (st' := [.int (nI 0)]) d_144_20 (fun _ => rfl) ?_
        refine cn_ic (v := 3) d_144_21 (by decide) ?_
        refine cn_cle (t := 27) d_144_22 (by decide) (by first | omega | assumption | exact cu_36 (by omega) (cu_lt (by omega) (by omega))) (by first | omega | assumption | exact cu_36 (by omega) (cu_lt (by omega) (by omega))) (fun c22 => ?_) (fun c22 => ?_)
        · refine cr_nx (pc' := 28) (al' := [some (.ref 2), some (.int (nI j)), some (.int (nI l)), some (.int (nI 0)), none]) (st' := [.ref 2]) d_144_27 (fun _ => rfl) ?_
          refine cr_gf (v := .ref 90) d_144_28 cw_144 cf_11_48 (hS.i (a := 2) (by decide) (by decide)) (hS.s (a := 2) (by decide) (by decide) rfl) (by decide) (fx_2_8 hF) ?_
          refine cr_nx (pc' := 32) (al' := [some (.ref 2), some (.int (nI j)), some (.int (nI l)), some (.int (nI 0)), none]) (st' := [.ref 2, .ref 90]) d_144_31 (fun _ => rfl) ?_
          refine cr_gf (v := .ref 3) d_144_32 cw_144 cf_11_10 (hS.i (a := 2) (by decide) (by decide)) (hS.s (a := 2) (by decide) (by decide) rfl) (by decide) (fx_2_0 hF) ?_
          refine cr_gf (v := .ref 4) d_144_35 cw_144 cf_11_140 (hS.i (a := 3) (by decide) (by decide)) (hS.s (a := 3) (by decide) (by decide) rfl) (by decide) (fx_3_0 hF) ?_
          refine cr_nx (pc' := 39) (al' := [some (.ref 2), some (.int (nI j)), some (.int (nI l)), some (.int (nI 0)), none]) (st' := [.int (nI j), .ref 4, .ref 90]) d_144_38 (fun _ => rfl) ?_
          refine cr_aa (a := 4) (v := .ref (ta j)) d_144_39 (hS.i (a := 4) (by decide) (by decide)) (by decide) (hS.s (a := 4) (by decide) (by decide) rfl) (by decide) (show j < 6 by first | omega | assumption | exact cu_36 (by omega) (cu_lt (by omega) (by omega))) (show va_rf _ = _ by rw [(hH.2.1 j hj).1]; rfl) ?_
          refine cr_nx (pc' := 41) (al' := [some (.ref 2), some (.int (nI j)), some (.int (nI l)), some (.int (nI 0)), none]) (st' := [.ref 2, .ref (ta j), .ref 90]) d_144_40 (fun _ => rfl) ?_
          refine cr_gf (v := .ref 3) d_144_41 cw_144 cf_11_10 (hS.i (a := 2) (by decide) (by decide)) (hS.s (a := 2) (by decide) (by decide) rfl) (by decide) (fx_2_0 hF) ?_
          refine cr_gf (v := .ref 4) d_144_44 cw_144 cf_11_140 (hS.i (a := 3) (by decide) (by decide)) (hS.s (a := 3) (by decide) (by decide) rfl) (by decide) (fx_3_0 hF) ?_
          refine cr_nx (pc' := 48) (al' := [some (.ref 2), some (.int (nI j)), some (.int (nI l)), some (.int (nI 0)), none]) (st' := [.int (nI j), .ref 4, .ref (ta j), .ref 90]) d_144_47 (fun _ => rfl) ?_
          refine cr_aa (a := 4) (v := .ref (ta j)) d_144_48 (hS.i (a := 4) (by decide) (by decide)) (by decide) (hS.s (a := 4) (by decide) (by decide) rfl) (by decide) (show j < 6 by first | omega | assumption | exact cu_36 (by omega) (cu_lt (by omega) (by omega))) (show va_rf _ = _ by rw [(hH.2.1 j hj).1]; rfl) ?_
          refine cr_pv (b := (ta j)) (as := []) (al0 := [some (.ref (ta j))]) (r := [.ref (ta j), .ref 90]) d_144_49 cw_144 cm_11_193 cz_106 rfl rfl ht.1 (by rw [cw_106]; exact ht.2.2.1) (by rw [cw_106]; decide) rfl (Nat.le_of_ble_eq_true rfl) (k_unitElement ht hn hc) ?_
          show CR _ _ 52 [some (.ref 2), some (.int (nI j)), some (.int (nI l)), some (.int (nI 0)), none] [.int (unV 0 m c), .ref (ta j), .ref 90] S G B J R _
          refine cr_pv (b := 90) (as := [.ref (ta j), .int (unV 0 m c)]) (al0 := [some (.ref 90), some (.ref (ta j)), some (.int (unV 0 m c))]) (r := []) d_144_52 cw_144 cm_11_248 cz_1 rfl rfl (hS.i (a := 90) (by decide) (by decide)) (by rw [cw_1]; exact (hS.s (a := 90) (by decide) (by decide) rfl)) (by rw [cw_1]; decide) rfl (Nat.le_of_ble_eq_true rfl) (k_look (a := 90) (t := ta j) (e := e) (ck_90 hS hF) ht hn (by omega) hu1) ?_
          show CR _ _ 55 [some (.ref 2), some (.int (nI j)), some (.int (nI l)), some (.int (nI 0)), none] [] S (up2 (up2 (up2 G 90 0 (.int (nI m))) 90 1 (.ref (ta j + 1))) 90 2 (.int (nI 0))) (upr B (90 + 4) (upd (B (90 + 4)) 3 (nI e))) J R _
          refine cr_nx (pc' := 56) (al' := [some (.ref 2), some (.int (nI j)), some (.int (nI l)), some (.int (nI 0)), none]) (st' := [.int (nI 0)]) d_144_55 (fun _ => rfl) ?_
          refine cn_ine (t := 79) d_144_56 (by decide) (by first | omega | assumption | exact cu_36 (by omega) (cu_lt (by omega) (by omega))) (fun c56 => ?_) (fun c56 => ?_)
          · omega
          · refine cr_nx (pc' := 60) (al' := [some (.ref 2), some (.int (nI j)), some (.int (nI l)), some (.int (nI 0)), none]) (st' := [.ref 2]) d_144_59 (fun _ => rfl) ?_
            refine cr_gf (v := .ref 90) d_144_60 cw_144 cf_11_48 (hS.i (a := 2) (by decide) (by decide)) (hS.s (a := 2) (by decide) (by decide) rfl) (by decide) (by simp [up2]; exact (fx_2_8 hF)) ?_
            refine cr_nx (pc' := 64) (al' := [some (.ref 2), some (.int (nI j)), some (.int (nI l)), some (.int (nI 0)), none]) (st' := [.ref 2, .ref 90]) d_144_63 (fun _ => rfl) ?_
            refine cr_gf (v := .ref 3) d_144_64 cw_144 cf_11_10 (hS.i (a := 2) (by decide) (by decide)) (hS.s (a := 2) (by decide) (by decide) rfl) (by decide) (by simp [up2]; exact (fx_2_0 hF)) ?_
            refine cr_gf (v := .ref 5) d_144_67 cw_144 cf_11_241 (hS.i (a := 3) (by decide) (by decide)) (hS.s (a := 3) (by decide) (by decide) rfl) (by decide) (by simp [up2]; exact (fx_3_1 hF)) ?_
            refine cr_nx (pc' := 71) (al' := [some (.ref 2), some (.int (nI j)), some (.int (nI l)), some (.int (nI 0)), none]) (st' := [.int (nI l), .ref 5, .ref 90]) d_144_70 (fun _ => rfl) ?_
            refine cr_aa (a := 5) (v := .ref (la l)) d_144_71 (hS.i (a := 5) (by decide) (by decide)) (by decide) (hS.s (a := 5) (by decide) (by decide) rfl) (by decide) (show l < 8 by (have := hO.2.1; omega)) (show va_rf (R 5 l) = _ by rw [(hLk.2 l hll).1]; rfl) ?_
            refine cn_sp (v := 216) d_144_72 (by decide) ?_
            have hLs := hLs0.cg (G' := (up2 (up2 (up2 G 90 0 (.int (nI m))) 90 1 (.ref (ta j + 1))) 90 2 (.int (nI 0)))) (B' := (upr B (90 + 4) (upd (B (90 + 4)) 3 (nI e)))) (by rw [up2_g (by omega), up2_g (by omega), up2_g (by omega)]) (by rw [upr_n (by omega)])
            refine cr_cv (b := 90) (as := [.ref (la l), .int (nI 216)]) (al0 := [some (.ref 90), some (.ref (la l)), some (.int (nI 216)), none, none, none, none, none, none, none]) (r := []) d_144_75 cw_144 cm_11_251 cz_2 rfl rfl (hS.i (a := 90) (by decide) (by decide)) (by rw [cw_2]; exact (hS.s (a := 90) (by decide) (by decide) rfl)) (by rw [cw_2]; decide) rfl (cr_wk (Nat.le_of_ble_eq_true rfl) (k_failuresN (a := 90) (m := ta j + 1) (l := la l) hm6 h1 hl he (by omega) ⟨by omega, by omega, by omega, by omega⟩ ⟨by omega, by omega, by omega, by omega⟩ hLs.ok (CkL.mk (J := J) (R := R) (ck_90 hS hF) ht hc (by omega)) hLs.1)) (fun v1 S1 G1 B1 J1 R1 h1x => ?_)
            obtain ⟨⟨q1_, q2_, q3_⟩, hg1, hb1, hk1, hor⟩ := h1x
            obtain rfl := q1_.symm
            obtain rfl := q2_.symm
            obtain rfl := q3_.symm
            rw [hLs.br] at hor
            have hG1 : Gfr [90] G G1 := Gfr.tr (((Gfr.rf.u (by decide)).u (by decide)).u (by decide)) hg1
            have hB1 : Bfr [92, 93, 94, 95] B B1 := Bfr.tr (Bfr.rf.u (by decide)) hb1
            have hF1 := fx_90c hF hG1 hk1.1
            obtain rfl := hor
            show CR _ _ 78 [some (.ref 2), some (.int (nI j)), some (.int (nI l)), some (.int (nI 0)), none] [.int (nI (lwC m c e (kW (wK W) l) (kN (wK W) l)))] S G1 B1 J R _
            exact cr_ri d_144_78 cx_144 rfl ⟨rfl, (hW.q hF1 (hG1.mo (by decide)) (hB1.mo (by decide))).mo⟩
        · omega
theorem r_fails0 {g : Nat → Int32} {A : Nat → Nat → Int32} {n : Nat} {W : WS} (hW : WR n g A W) (hO : CoOk (wK W)) {j m : Nat} {c : Nat → Nat} (hj : j < 6) (htb : tbK (wK W) j = (m, c)) (h1 : 1 ≤ m) {l e : Nat} (hll : l < kL (wK W)) (he : e < m) (hu1 : (if unV 0 m c < nI 0 then nI 0 else unV 0 m c) = nI e) (hu2 : (if unV 0 m c = -1 then nI 0 else unV 0 m c) = nI e) : RR 80 221 0 [some (.ref 146), some (.int (nI j)), some (.int (nI l)), some (.int (nI 0))] [] g A (fun r__ g' A' => r__ = some (.int (nI (lwC m c e (kW (wK W) l) (kN (wK W) l)))) ∧ WR (n + 1) g' A' W) := by
  have hsh := hW.1.1.1 j hj
  rw [show kH (wK W) (kD (wK W)) j = (m, c) from htb] at hsh
  have hok := tb_ok hO hj
  rw [htb] at hok
  have hk : A 1 (37 * j) = nI m := hsh.1
  have hl : Lat m c := hok.2
  have hm6 : m ≤ 6 := hok.1
  have hyes : isT A (nI j) := (has_r hW hO).mpr ((has_i hj).mpr (by rw [htb]; exact h1))
  refine rr_nx (pc' := 1) (al' := [some (.ref 146), some (.int (nI j)), some (.int (nI l)), some (.int (nI 0))]) (st' := [.ref 146]) d_221_0 (fun _ => rfl) ?_
  refine rr_nx (pc' := 2) (al' := [some (.ref 146), some (.int (nI j)), some (.int (nI l)), some (.int (nI 0))]) (st' := [.int (nI j), .ref 146]) d_221_1 (fun _ => rfl) ?_
  refine rr_pv (as := [.int (nI j)]) (al0 := [some (.ref 146), some (.int (nI j))]) (r := []) d_221_2 mo_221 ml_124 mz_184 rfl rfl rfl (Nat.le_of_ble_eq_true rfl) (s_isTable (nI j)) ?_
  show RR _ _ 5 [some (.ref 146), some (.int (nI j)), some (.int (nI l)), some (.int (nI 0))] [.int (bI (isT A (nI j)))] g A _
  refine rr_beq (t := 25) d_221_5 (by decide) (fun c5 => ?_) (fun c5 => ?_)
  · exact absurd hyes c5
  · refine rr_nx (pc' := 9) (al' := [some (.ref 146), some (.int (nI j)), some (.int (nI l)), some (.int (nI 0))]) (st' := [.ref 146]) d_221_8 (fun _ => rfl) ?_
    refine rr_nx (pc' := 10) (al' := [some (.ref 146), some (.int (nI j)), some (.int (nI l)), some (.int (nI 0))]) (st' := [.int (nI l), .ref 146]) d_221_9 (fun _ => rfl) ?_
    refine rr_pv (as := [.int (nI l)]) (al0 := [some (.ref 146), some (.int (nI l))]) (r := []) d_221_10 mo_221 ml_245 mz_207 rfl rfl rfl (Nat.le_of_ble_eq_true rfl) (s_isLaw hW hO) ?_
    show RR _ _ 13 [some (.ref 146), some (.int (nI j)), some (.int (nI l)), some (.int (nI 0))] [.int (bI (inP (nI l) (kL (wK W))))] g A _
    refine rr_beq (t := 25) d_221_13 (by decide) (fun c13 => ?_) (fun c13 => ?_)
    · exact absurd ((in_j (by have := hO.2.1; omega)).mpr hll) c13
    · refine rr_nx (pc' := 17) (al' := [some (.ref 146), some (.int (nI j)), some (.int (nI l)), some (.int (nI 0))]) (st' := [.int (nI 0)]) d_221_16 (fun _ => rfl) ?_
      refine rn_ic (v := 0) d_221_17 (by decide) ?_
      refine rn_ic (v := 3) d_221_18 (by decide) ?_
      refine rr_ps (as := [.int (nI 0), .int (nI 0), .int (nI 3)]) (al0 := [some (.int (nI 0)), some (.int (nI 0)), some (.int (nI 3))]) (r := []) d_221_19 mo_221 ml_106 mz_179 rfl rfl rfl (Nat.le_of_ble_eq_true rfl) (s_lies (nI 0) (nI 0) (nI 3)) ?_
      show RR _ _ 22 [some (.ref 146), some (.int (nI j)), some (.int (nI l)), some (.int (nI 0))] [.int (bI ((nI 0) ≤ (nI 0) ∧ (nI 0) ≤ (nI 3)))] g A _
      refine rr_bne (t := 27) d_221_22 (by decide) (fun c22 => ?_) (fun c22 => ?_)
      · refine rr_nx (pc' := 28) (al' := [some (.ref 146), some (.int (nI j)), some (.int (nI l)), some (.int (nI 0))]) (st' := [.ref 146]) d_221_27 (fun _ => rfl) ?_
        refine rr_nx (pc' := 29) (al' := [some (.ref 146), some (.int (nI j)), some (.int (nI l)), some (.int (nI 0))]) (st' := [.int (nI j), .ref 146]) d_221_28 (fun _ => rfl) ?_
        refine rr_pv (as := [.int (nI j)]) (al0 := [some (.ref 146), some (.int (nI j)), none]) (r := []) d_221_29 mo_221 ml_248 mz_208 rfl rfl rfl (Nat.le_of_ble_eq_true rfl) (s_lays (n := m) hj hm6 hk) ?_
        obtain ⟨wl29, hwl29⟩ : ∃ w_, w_ = rf_f (fun q => A 1 (37 * j + 1 + q)) (A 4) (m * m) := ⟨_, rfl⟩
        rw [← hwl29]
        show RR _ _ 32 [some (.ref 146), some (.int (nI j)), some (.int (nI l)), some (.int (nI 0))] [] (upd g 6 (nI m)) (rf_u A 4 wl29) _
        have hcu := cur_l (g := g) hsh hm6 hl hwl29
        refine rr_nx (pc' := 33) (al' := [some (.ref 146), some (.int (nI j)), some (.int (nI l)), some (.int (nI 0))]) (st' := [.ref 146]) d_221_32 (fun _ => rfl) ?_
        refine rr_nx (pc' := 34) (al' := [some (.ref 146), some (.int (nI j)), some (.int (nI l)), some (.int (nI 0))]) (st' := [.int (nI l), .ref 146]) d_221_33 (fun _ => rfl) ?_
        refine rn_ic (v := 0) d_221_34 (by decide) ?_
        have hLo := (hW.lw hO hll).e (A' := (rf_u A 4 wl29)) (rf_u_n (by decide))
        refine rr_cv (as := [.int (nI l), .int (nI 0)]) (al0 := [some (.ref 146), some (.int (nI l)), some (.int (nI 0)), none, none, none, none]) (r := []) d_221_35 mo_221 ml_241 mz_210 rfl rfl rfl (rr_wk (Nat.le_of_ble_eq_true rfl) (s_goesN hLo.1 hcu hl (by have := hLo.1.1.2.1; omega) hLo.2 he (sp_R (k := 0) hLo.v (by decide)) (sp_R (k := 1) hLo.v (by decide)) (sp_R (k := 2) hLo.v (by decide)) hu2)) (fun v1 g1 A1 h1x => ?_)
        obtain ⟨q0_, hGt, h26, hor⟩ := h1x
        obtain rfl := q0_
        obtain ⟨hGs, hKs⟩ := hGt.g0.gs
        have h26 : g1 26 = nI (lwC m c e (kW (wK W) l) (kN (wK W) l)) := h26
        have hq : ((lwC m c e (kW (wK W) l) (kN (wK W) l) = 0 ∧ g1 27 = -1 ∧ g1 28 = -1 ∧ g1 29 = -1) ∨ (¬ lwC m c e (kW (wK W) l) (kN (wK W) l) = 0 ∧ g1 27 = nI (fsL m c e (kW (wK W) l) (kN (wK W) l)).1 ∧ g1 28 = nI (fsL m c e (kW (wK W) l) (kN (wK W) l)).2.1 ∧ g1 29 = nI (fsL m c e (kW (wK W) l) (kN (wK W) l)).2.2)) := hor.elim (fun h_ => Or.inl ⟨h_.1, h_.2.2⟩) (fun h_ => Or.inr ⟨fun e_ => by have := h_.1; have e_ : f3N _ _ _ _ = 0 := e_; omega, by obtain ⟨_, _, _, h2_, h3_, h4_, h5_⟩ := h_.2; obtain ⟨e1_, e2_, e3_⟩ := fs_e h2_; exact ⟨h3_.trans (congrArg nI e1_.symm), h4_.trans (congrArg nI e2_.symm), h5_.trans (congrArg nI e3_.symm)⟩⟩)
        show RR _ _ 38 [some (.ref 146), some (.int (nI j)), some (.int (nI l)), some (.int (nI 0))] [] g1 A1 _
        refine rr_nx (pc' := 39) (al' := [some (.ref 146), some (.int (nI j)), some (.int (nI l)), some (.int (nI 0))]) (st' := [.int (nI 0)]) d_221_38 (fun _ => rfl) ?_
        refine rn_ine (t := 49) d_221_39 (by decide) (by first | omega | assumption | exact cu_36 (by omega) (cu_lt (by omega) (by omega))) (fun c39 => ?_) (fun c39 => ?_)
        · omega
        · refine rr_nx (pc' := 43) (al' := [some (.ref 146), some (.int (nI j)), some (.int (nI l)), some (.int (nI 0))]) (st' := [.ref 146]) d_221_42 (fun _ => rfl) ?_
          refine rr_gf (v := .int (g1 26)) d_221_43 mo_221 fl_226 rfl ?_
          refine rr_nx (pc' := 77) (al' := [some (.ref 146), some (.int (nI j)), some (.int (nI l)), some (.int (nI 0))]) (st' := [.int (g1 26)]) d_221_46 (fun _ => rfl) ?_
          exact rr_ri d_221_77 mr_221 rfl ⟨by rw [h26], (hW.q ((Gsm.rf.u rfl).tr hGs) ((Ksm.rf.u rfl).tr hKs)).mo⟩
      · exact absurd (show nI 0 ≤ nI 0 ∧ nI 0 ≤ nI 3 by decide) c22
theorem p_fails1 {S : CS} {G : Nat → Nat → Value} {B : Nat → Nat → Int32} {J : Nat → Nat → Int64} {R : Nat → Nat → Option Nat} {n : Nat} {W : WS} (hW : WC n S G B R W) {j m : Nat} {c : Nat → Nat} (hj : j < 6) (htb : tbK (wK W) j = (m, c)) (h1 : 1 ≤ m) {l e : Nat} (hll : l < kL (wK W)) (he : e < m) (hu1 : (if unV 0 m c < nI 0 then nI 0 else unV 0 m c) = nI e) (hu2 : (if unV 0 m c = -1 then nI 0 else unV 0 m c) = nI e) : CR 80 144 0 [some (.ref 2), some (.int (nI j)), some (.int (nI l)), some (.int (nI 1)), none] [] S G B J R (fun r__ S' G' B' J' R' => r__ = some (.int (if lwC m c e (kW (wK W) l) (kN (wK W) l) = 0 then -1 else nI (fsL m c e (kW (wK W) l) (kN (wK W) l)).1)) ∧ WC (n + 1) S' G' B' R' W) := by
  have hS := hW.1.1
  have hF := hW.2.1
  have hO := hW.2.2.2.1
  obtain ⟨ta, ka, la, hH, hLk, hl2, hs3, hbd⟩ := hW.2.2.1
  obtain ⟨zt, hzt, ezt⟩ := (hH.2.1 j hj).2
  have ht := hH.ta hj
  have hsh := hH.2.2.2.2.2.2.1 j hj
  rw [show kH (wK W) (kD (wK W)) j = (m, c) from htb] at hsh
  have hok := tb_ok hO hj
  rw [htb] at hok
  have hn : G (ta j) 0 = .int (nI m) := hsh.1
  have hc : TabC B (ta j) m c := hsh.c hok
  have hl : Lat m c := hok.2
  have hm6 : m ≤ 6 := hok.1
  have hyes : hasP (wK W) (nI j) := (has_i hj).mpr (by rw [htb]; exact h1)
  have hLs0 := (hLk.2 l hll).2
  have hla := hLs0.2.1
  refine cr_nx (pc' := 1) (al' := [some (.ref 2), some (.int (nI j)), some (.int (nI l)), some (.int (nI 1)), none]) (st' := [.ref 2]) d_144_0 (fun _ => rfl) ?_
  refine cr_nx (pc' := 2) (al' := [some (.ref 2), some (.int (nI j)), some (.int (nI l)), some (.int (nI 1)), none]) (st' := [.int (nI j), .ref 2]) d_144_1 (fun _ => rfl) ?_
  refine cr_pv (b := 2) (as := [.int (nI j)]) (al0 := [some (.ref 2), some (.int (nI j))]) (r := []) d_144_2 cw_144 cm_11_137 cz_126 rfl rfl (hS.i (a := 2) (by decide) (by decide)) (by rw [cw_126]; exact (hS.s (a := 2) (by decide) (by decide) rfl)) (by rw [cw_126]; decide) rfl (Nat.le_of_ble_eq_true rfl) (k_has hS hF hH hO) ?_
  show CR _ _ 5 [some (.ref 2), some (.int (nI j)), some (.int (nI l)), some (.int (nI 1)), none] [.int (bI (hasP (wK W) (nI j)))] S G B J R _
  refine cr_beq (t := 25) d_144_5 (by decide) (fun c5 => ?_) (fun c5 => ?_)
  · exact absurd hyes c5
  · refine cr_nx (pc' := 9) (al' := [some (.ref 2), some (.int (nI j)), some (.int (nI l)), some (.int (nI 1)), none]) (st' := [.ref 2]) d_144_8 (fun _ => rfl) ?_
    refine cr_nx (pc' := 10) (al' := [some (.ref 2), some (.int (nI j)), some (.int (nI l)), some (.int (nI 1)), none]) (st' := [.int (nI l), .ref 2]) d_144_9 (fun _ => rfl) ?_
    refine cr_pv (b := 2) (as := [.int (nI l)]) (al0 := [some (.ref 2), some (.int (nI l))]) (r := []) d_144_10 cw_144 cm_11_245 cz_143 rfl rfl (hS.i (a := 2) (by decide) (by decide)) (by rw [cw_143]; exact (hS.s (a := 2) (by decide) (by decide) rfl)) (by rw [cw_143]; decide) rfl (Nat.le_of_ble_eq_true rfl) (k_hasLaw hS hF hl2 hO.2.1) ?_
    show CR _ _ 13 [some (.ref 2), some (.int (nI j)), some (.int (nI l)), some (.int (nI 1)), none] [.int (bI (inP (nI l) (kL (wK W))))] S G B J R _
    refine cr_beq (t := 25) d_144_13 (by decide) (fun c13 => ?_) (fun c13 => ?_)
    · exact absurd ((in_j (by have := hO.2.1; omega)).mpr hll) c13
    · refine cr_nx (pc' := 17) (al' := [some (.ref 2), some (.int (nI j)), some (.int (nI l)), some (.int (nI 1)), none]) (st' := [.int (nI 1)]) d_144_16 (fun _ => rfl) ?_
      refine cn_zlt (t := 25) d_144_17 (by decide) (by first | omega | assumption | exact cu_36 (by omega) (cu_lt (by omega) (by omega))) (fun c17 => ?_) (fun c17 => ?_)
      · exact c17.elim
      · refine cr_nx (pc' := 21) (al' := [some (.ref 2), some (.int (nI j)), some (.int (nI l)), some (.int (nI 1)), none]) (st' := [.int (nI 1)]) d_144_20 (fun _ => rfl) ?_
        refine cn_ic (v := 3) d_144_21 (by decide) ?_
        refine cn_cle (t := 27) d_144_22 (by decide) (by first | omega | assumption | exact cu_36 (by omega) (cu_lt (by omega) (by omega))) (by first | omega | assumption | exact cu_36 (by omega) (cu_lt (by omega) (by omega))) (fun c22 => ?_) (fun c22 => ?_)
        · refine cr_nx (pc' := 28) (al' := [some (.ref 2), some (.int (nI j)), some (.int (nI l)), some (.int (nI 1)), none]) (st' := [.ref 2]) d_144_27 (fun _ => rfl) ?_
          refine cr_gf (v := .ref 90) d_144_28 cw_144 cf_11_48 (hS.i (a := 2) (by decide) (by decide)) (hS.s (a := 2) (by decide) (by decide) rfl) (by decide) (fx_2_8 hF) ?_
          refine cr_nx (pc' := 32) (al' := [some (.ref 2), some (.int (nI j)), some (.int (nI l)), some (.int (nI 1)), none]) (st' := [.ref 2, .ref 90]) d_144_31 (fun _ => rfl) ?_
          refine cr_gf (v := .ref 3) d_144_32 cw_144 cf_11_10 (hS.i (a := 2) (by decide) (by decide)) (hS.s (a := 2) (by decide) (by decide) rfl) (by decide) (fx_2_0 hF) ?_
          refine cr_gf (v := .ref 4) d_144_35 cw_144 cf_11_140 (hS.i (a := 3) (by decide) (by decide)) (hS.s (a := 3) (by decide) (by decide) rfl) (by decide) (fx_3_0 hF) ?_
          refine cr_nx (pc' := 39) (al' := [some (.ref 2), some (.int (nI j)), some (.int (nI l)), some (.int (nI 1)), none]) (st' := [.int (nI j), .ref 4, .ref 90]) d_144_38 (fun _ => rfl) ?_
          refine cr_aa (a := 4) (v := .ref (ta j)) d_144_39 (hS.i (a := 4) (by decide) (by decide)) (by decide) (hS.s (a := 4) (by decide) (by decide) rfl) (by decide) (show j < 6 by first | omega | assumption | exact cu_36 (by omega) (cu_lt (by omega) (by omega))) (show va_rf _ = _ by rw [(hH.2.1 j hj).1]; rfl) ?_
          refine cr_nx (pc' := 41) (al' := [some (.ref 2), some (.int (nI j)), some (.int (nI l)), some (.int (nI 1)), none]) (st' := [.ref 2, .ref (ta j), .ref 90]) d_144_40 (fun _ => rfl) ?_
          refine cr_gf (v := .ref 3) d_144_41 cw_144 cf_11_10 (hS.i (a := 2) (by decide) (by decide)) (hS.s (a := 2) (by decide) (by decide) rfl) (by decide) (fx_2_0 hF) ?_
          refine cr_gf (v := .ref 4) d_144_44 cw_144 cf_11_140 (hS.i (a := 3) (by decide) (by decide)) (hS.s (a := 3) (by decide) (by decide) rfl) (by decide) (fx_3_0 hF) ?_
          refine cr_nx (pc' := 48) (al' := [some (.ref 2), some (.int (nI j)), some (.int (nI l)), some (.int (nI 1)), none]) (st' := [.int (nI j), .ref 4, .ref (ta j), .ref 90]) d_144_47 (fun _ => rfl) ?_
          refine cr_aa (a := 4) (v := .ref (ta j)) d_144_48 (hS.i (a := 4) (by decide) (by decide)) (by decide) (hS.s (a := 4) (by decide) (by decide) rfl) (by decide) (show j < 6 by first | omega | assumption | exact cu_36 (by omega) (cu_lt (by omega) (by omega))) (show va_rf _ = _ by rw [(hH.2.1 j hj).1]; rfl) ?_
          refine cr_pv (b := (ta j)) (as := []) (al0 := [some (.ref (ta j))]) (r := [.ref (ta j), .ref 90]) d_144_49 cw_144 cm_11_193 cz_106 rfl rfl ht.1 (by rw [cw_106]; exact ht.2.2.1) (by rw [cw_106]; decide) rfl (Nat.le_of_ble_eq_true rfl) (k_unitElement ht hn hc) ?_
          show CR _ _ 52 [some (.ref 2), some (.int (nI j)), some (.int (nI l)), some (.int (nI 1)), none] [.int (unV 0 m c), .ref (ta j), .ref 90] S G B J R _
          refine cr_pv (b := 90) (as := [.ref (ta j), .int (unV 0 m c)]) (al0 := [some (.ref 90), some (.ref (ta j)), some (.int (unV 0 m c))]) (r := []) d_144_52 cw_144 cm_11_248 cz_1 rfl rfl (hS.i (a := 90) (by decide) (by decide)) (by rw [cw_1]; exact (hS.s (a := 90) (by decide) (by decide) rfl)) (by rw [cw_1]; decide) rfl (Nat.le_of_ble_eq_true rfl) (k_look (a := 90) (t := ta j) (e := e) (ck_90 hS hF) ht hn (by omega) hu1) ?_
          show CR _ _ 55 [some (.ref 2), some (.int (nI j)), some (.int (nI l)), some (.int (nI 1)), none] [] S (up2 (up2 (up2 G 90 0 (.int (nI m))) 90 1 (.ref (ta j + 1))) 90 2 (.int (nI 0))) (upr B (90 + 4) (upd (B (90 + 4)) 3 (nI e))) J R _
          refine cr_nx (pc' := 56) (al' := [some (.ref 2), some (.int (nI j)), some (.int (nI l)), some (.int (nI 1)), none]) (st' := [.int (nI 1)]) d_144_55 (fun _ => rfl) ?_
          refine cn_ine (t := 79) d_144_56 (by decide) (by first | omega | assumption | exact cu_36 (by omega) (cu_lt (by omega) (by omega))) (fun c56 => ?_) (fun c56 => ?_)
          · refine cr_nx (pc' := 80) (al' := [some (.ref 2), some (.int (nI j)), some (.int (nI l)), some (.int (nI 1)), none]) (st' := [.ref 2]) d_144_79 (fun _ => rfl) ?_
            refine cr_gf (v := .ref 90) d_144_80 cw_144 cf_11_48 (hS.i (a := 2) (by decide) (by decide)) (hS.s (a := 2) (by decide) (by decide) rfl) (by decide) (by simp [up2]; exact (fx_2_8 hF)) ?_
            refine cr_nx (pc' := 84) (al' := [some (.ref 2), some (.int (nI j)), some (.int (nI l)), some (.int (nI 1)), none]) (st' := [.ref 2, .ref 90]) d_144_83 (fun _ => rfl) ?_
            refine cr_gf (v := .ref 3) d_144_84 cw_144 cf_11_10 (hS.i (a := 2) (by decide) (by decide)) (hS.s (a := 2) (by decide) (by decide) rfl) (by decide) (by simp [up2]; exact (fx_2_0 hF)) ?_
            refine cr_gf (v := .ref 5) d_144_87 cw_144 cf_11_241 (hS.i (a := 3) (by decide) (by decide)) (hS.s (a := 3) (by decide) (by decide) rfl) (by decide) (by simp [up2]; exact (fx_3_1 hF)) ?_
            refine cr_nx (pc' := 91) (al' := [some (.ref 2), some (.int (nI j)), some (.int (nI l)), some (.int (nI 1)), none]) (st' := [.int (nI l), .ref 5, .ref 90]) d_144_90 (fun _ => rfl) ?_
            refine cr_aa (a := 5) (v := .ref (la l)) d_144_91 (hS.i (a := 5) (by decide) (by decide)) (by decide) (hS.s (a := 5) (by decide) (by decide) rfl) (by decide) (show l < 8 by (have := hO.2.1; omega)) (show va_rf (R 5 l) = _ by rw [(hLk.2 l hll).1]; rfl) ?_
            refine cn_ic (v := 1) d_144_92 (by decide) ?_
            have hLs := hLs0.cg (G' := (up2 (up2 (up2 G 90 0 (.int (nI m))) 90 1 (.ref (ta j + 1))) 90 2 (.int (nI 0)))) (B' := (upr B (90 + 4) (upd (B (90 + 4)) 3 (nI e)))) (by rw [up2_g (by omega), up2_g (by omega), up2_g (by omega)]) (by rw [upr_n (by omega)])
            refine cr_cv (b := 90) (as := [.ref (la l), .int (nI 1)]) (al0 := [some (.ref 90), some (.ref (la l)), some (.int (nI 1)), none, none, none, none, none, none, none]) (r := []) d_144_93 cw_144 cm_11_251 cz_2 rfl rfl (hS.i (a := 90) (by decide) (by decide)) (by rw [cw_2]; exact (hS.s (a := 90) (by decide) (by decide) rfl)) (by rw [cw_2]; decide) rfl (cr_wk (Nat.le_of_ble_eq_true rfl) (k_failures1 (a := 90) (m := ta j + 1) (l := la l) hm6 h1 hl he (by omega) ⟨by omega, by omega, by omega, by omega⟩ ⟨by omega, by omega, by omega, by omega⟩ hLs.ok (CkL.mk (J := J) (R := R) (ck_90 hS hF) ht hc (by omega)) hLs.1)) (fun v1 S1 G1 B1 J1 R1 h1x => ?_)
            obtain ⟨⟨q1_, q2_, q3_⟩, hg1, hb1, hk1, hor⟩ := h1x
            obtain rfl := q1_.symm
            obtain rfl := q2_.symm
            obtain rfl := q3_.symm
            rw [hLs.br] at hor
            have hG1 : Gfr [90] G G1 := Gfr.tr (((Gfr.rf.u (by decide)).u (by decide)).u (by decide)) hg1
            have hB1 : Bfr [92, 93, 94, 95] B B1 := Bfr.tr (Bfr.rf.u (by decide)) hb1
            have hF1 := fx_90c hF hG1 hk1.1
            obtain ⟨z, hz, hz1, hzz, hv⟩ : ∃ z, v1 = some (.int (nI z)) ∧ z ≤ 1 ∧ (z = 0 ↔ lwC m c e (kW (wK W) l) (kN (wK W) l) = 0) ∧ (z = 1 → B1 94 0 = nI (fsL m c e (kW (wK W) l) (kN (wK W) l)).1 ∧ B1 94 1 = nI (fsL m c e (kW (wK W) l) (kN (wK W) l)).2.1 ∧ B1 94 2 = nI (fsL m c e (kW (wK W) l) (kN (wK W) l)).2.2) := hor.elim (fun h_ => ⟨0, h_.1, by omega, ⟨fun _ => f3_0.mpr h_.2, fun _ => rfl⟩, fun e_ => absurd e_ (by decide)⟩) (fun h_ => ⟨1, h_.1, by omega, ⟨fun e_ => absurd e_ (by decide), fun e_ => by obtain ⟨_, _, _, h2_, _⟩ := h_.2; exact absurd (f3_0.mp e_) h2_.no⟩, fun _ => by obtain ⟨_, _, _, h2_, h3_, h4_, h5_⟩ := h_.2; obtain ⟨e1_, e2_, e3_⟩ := fs_e h2_; exact ⟨h3_.trans (congrArg nI e1_.symm), h4_.trans (congrArg nI e2_.symm), h5_.trans (congrArg nI e3_.symm)⟩⟩)
            obtain rfl := hz
            show CR _ _ 96 [some (.ref 2), some (.int (nI j)), some (.int (nI l)), some (.int (nI 1)), none] [.int (nI z)] S G1 B1 J R _
            refine cr_nx (pc' := 98) (al' := [some (.ref 2), some (.int (nI j)), some (.int (nI l)), some (.int (nI 1)), some (.int (nI z))]) (st' := []) d_144_96 (fun _ => rfl) ?_
            refine cr_nx (pc' := 100) (al' := [some (.ref 2), some (.int (nI j)), some (.int (nI l)), some (.int (nI 1)), some (.int (nI z))]) (st' := [.int (nI z)]) d_144_98 (fun _ => rfl) ?_
            refine cn_ine (t := 107) d_144_100 (by decide) (by first | omega | assumption | exact cu_36 (by omega) (cu_lt (by omega) (by omega))) (fun c100 => ?_) (fun c100 => ?_)
            · refine cr_nx (pc' := 108) (al' := [some (.ref 2), some (.int (nI j)), some (.int (nI l)), some (.int (nI 1)), some (.int (nI z))]) (st' := [.ref 2]) d_144_107 (fun _ => rfl) ?_
              refine cr_gf (v := .ref 90) d_144_108 cw_144 cf_11_48 (hS.i (a := 2) (by decide) (by decide)) (hS.s (a := 2) (by decide) (by decide) rfl) (by decide) (fx_2_8 hF1) ?_
              refine cr_nx (pc' := 112) (al' := [some (.ref 2), some (.int (nI j)), some (.int (nI l)), some (.int (nI 1)), some (.int (nI z))]) (st' := [.int (nI 1), .ref 90]) d_144_111 (fun _ => rfl) ?_
              refine cn_ic (v := 1) d_144_112 (by decide) ?_
              refine cn_sub d_144_113 (by first | omega | assumption | exact cu_36 (by omega) (cu_lt (by omega) (by omega))) ?_
              refine cr_pv (b := 90) (as := [.int (nI (1 - 1))]) (al0 := [some (.ref 90), some (.int (nI (1 - 1)))]) (r := []) d_144_114 cw_144 cm_11_255 cz_8 rfl rfl (hS.i (a := 90) (by decide) (by decide)) (by rw [cw_8]; exact (hS.s (a := 90) (by decide) (by decide) rfl)) (by rw [cw_8]; decide) rfl (Nat.le_of_ble_eq_true rfl) (k_letterValue hS hF1 (by decide)) ?_
              show CR _ _ 117 [some (.ref 2), some (.int (nI j)), some (.int (nI l)), some (.int (nI 1)), some (.int (nI z))] [.int (B1 94 0)] S G1 B1 J R _
              exact cr_ri d_144_117 cx_144 rfl ⟨by rw [if_neg (fun e_ => by have := hzz.mpr e_; omega), (hv (by omega)).1], (hW.q hF1 (hG1.mo (by decide)) (hB1.mo (by decide))).mo⟩
            · refine cr_nx (pc' := 104) (al' := [some (.ref 2), some (.int (nI j)), some (.int (nI l)), some (.int (nI 1)), some (.int (nI z))]) (st' := [.int (-1)]) d_144_103 (fun _ => rfl) ?_
              refine cr_nx (pc' := 117) (al' := [some (.ref 2), some (.int (nI j)), some (.int (nI l)), some (.int (nI 1)), some (.int (nI z))]) (st' := [.int (-1)]) d_144_104 (fun _ => rfl) ?_
              exact cr_ri d_144_117 cx_144 rfl ⟨by rw [if_pos (hzz.mp (by omega))], (hW.q hF1 (hG1.mo (by decide)) (hB1.mo (by decide))).mo⟩
          · omega
        · omega
theorem r_fails1 {g : Nat → Int32} {A : Nat → Nat → Int32} {n : Nat} {W : WS} (hW : WR n g A W) (hO : CoOk (wK W)) {j m : Nat} {c : Nat → Nat} (hj : j < 6) (htb : tbK (wK W) j = (m, c)) (h1 : 1 ≤ m) {l e : Nat} (hll : l < kL (wK W)) (he : e < m) (hu1 : (if unV 0 m c < nI 0 then nI 0 else unV 0 m c) = nI e) (hu2 : (if unV 0 m c = -1 then nI 0 else unV 0 m c) = nI e) : RR 80 221 0 [some (.ref 146), some (.int (nI j)), some (.int (nI l)), some (.int (nI 1))] [] g A (fun r__ g' A' => r__ = some (.int (if lwC m c e (kW (wK W) l) (kN (wK W) l) = 0 then -1 else nI (fsL m c e (kW (wK W) l) (kN (wK W) l)).1)) ∧ WR (n + 1) g' A' W) := by
  have hsh := hW.1.1.1 j hj
  rw [show kH (wK W) (kD (wK W)) j = (m, c) from htb] at hsh
  have hok := tb_ok hO hj
  rw [htb] at hok
  have hk : A 1 (37 * j) = nI m := hsh.1
  have hl : Lat m c := hok.2
  have hm6 : m ≤ 6 := hok.1
  have hyes : isT A (nI j) := (has_r hW hO).mpr ((has_i hj).mpr (by rw [htb]; exact h1))
  refine rr_nx (pc' := 1) (al' := [some (.ref 146), some (.int (nI j)), some (.int (nI l)), some (.int (nI 1))]) (st' := [.ref 146]) d_221_0 (fun _ => rfl) ?_
  refine rr_nx (pc' := 2) (al' := [some (.ref 146), some (.int (nI j)), some (.int (nI l)), some (.int (nI 1))]) (st' := [.int (nI j), .ref 146]) d_221_1 (fun _ => rfl) ?_
  refine rr_pv (as := [.int (nI j)]) (al0 := [some (.ref 146), some (.int (nI j))]) (r := []) d_221_2 mo_221 ml_124 mz_184 rfl rfl rfl (Nat.le_of_ble_eq_true rfl) (s_isTable (nI j)) ?_
  show RR _ _ 5 [some (.ref 146), some (.int (nI j)), some (.int (nI l)), some (.int (nI 1))] [.int (bI (isT A (nI j)))] g A _
  refine rr_beq (t := 25) d_221_5 (by decide) (fun c5 => ?_) (fun c5 => ?_)
  · exact absurd hyes c5
  · refine rr_nx (pc' := 9) (al' := [some (.ref 146), some (.int (nI j)), some (.int (nI l)), some (.int (nI 1))]) (st' := [.ref 146]) d_221_8 (fun _ => rfl) ?_
    refine rr_nx (pc' := 10) (al' := [some (.ref 146), some (.int (nI j)), some (.int (nI l)), some (.int (nI 1))]) (st' := [.int (nI l), .ref 146]) d_221_9 (fun _ => rfl) ?_
    refine rr_pv (as := [.int (nI l)]) (al0 := [some (.ref 146), some (.int (nI l))]) (r := []) d_221_10 mo_221 ml_245 mz_207 rfl rfl rfl (Nat.le_of_ble_eq_true rfl) (s_isLaw hW hO) ?_
    show RR _ _ 13 [some (.ref 146), some (.int (nI j)), some (.int (nI l)), some (.int (nI 1))] [.int (bI (inP (nI l) (kL (wK W))))] g A _
    refine rr_beq (t := 25) d_221_13 (by decide) (fun c13 => ?_) (fun c13 => ?_)
    · exact absurd ((in_j (by have := hO.2.1; omega)).mpr hll) c13
    · refine rr_nx (pc' := 17) (al' := [some (.ref 146), some (.int (nI j)), some (.int (nI l)), some (.int (nI 1))]) (st' := [.int (nI 1)]) d_221_16 (fun _ => rfl) ?_
      refine rn_ic (v := 0) d_221_17 (by decide) ?_
      refine rn_ic (v := 3) d_221_18 (by decide) ?_
      refine rr_ps (as := [.int (nI 1), .int (nI 0), .int (nI 3)]) (al0 := [some (.int (nI 1)), some (.int (nI 0)), some (.int (nI 3))]) (r := []) d_221_19 mo_221 ml_106 mz_179 rfl rfl rfl (Nat.le_of_ble_eq_true rfl) (s_lies (nI 1) (nI 0) (nI 3)) ?_
      show RR _ _ 22 [some (.ref 146), some (.int (nI j)), some (.int (nI l)), some (.int (nI 1))] [.int (bI ((nI 0) ≤ (nI 1) ∧ (nI 1) ≤ (nI 3)))] g A _
      refine rr_bne (t := 27) d_221_22 (by decide) (fun c22 => ?_) (fun c22 => ?_)
      · refine rr_nx (pc' := 28) (al' := [some (.ref 146), some (.int (nI j)), some (.int (nI l)), some (.int (nI 1))]) (st' := [.ref 146]) d_221_27 (fun _ => rfl) ?_
        refine rr_nx (pc' := 29) (al' := [some (.ref 146), some (.int (nI j)), some (.int (nI l)), some (.int (nI 1))]) (st' := [.int (nI j), .ref 146]) d_221_28 (fun _ => rfl) ?_
        refine rr_pv (as := [.int (nI j)]) (al0 := [some (.ref 146), some (.int (nI j)), none]) (r := []) d_221_29 mo_221 ml_248 mz_208 rfl rfl rfl (Nat.le_of_ble_eq_true rfl) (s_lays (n := m) hj hm6 hk) ?_
        obtain ⟨wl29, hwl29⟩ : ∃ w_, w_ = rf_f (fun q => A 1 (37 * j + 1 + q)) (A 4) (m * m) := ⟨_, rfl⟩
        rw [← hwl29]
        show RR _ _ 32 [some (.ref 146), some (.int (nI j)), some (.int (nI l)), some (.int (nI 1))] [] (upd g 6 (nI m)) (rf_u A 4 wl29) _
        have hcu := cur_l (g := g) hsh hm6 hl hwl29
        refine rr_nx (pc' := 33) (al' := [some (.ref 146), some (.int (nI j)), some (.int (nI l)), some (.int (nI 1))]) (st' := [.ref 146]) d_221_32 (fun _ => rfl) ?_
        refine rr_nx (pc' := 34) (al' := [some (.ref 146), some (.int (nI j)), some (.int (nI l)), some (.int (nI 1))]) (st' := [.int (nI l), .ref 146]) d_221_33 (fun _ => rfl) ?_
        refine rn_ic (v := 0) d_221_34 (by decide) ?_
        have hLo := (hW.lw hO hll).e (A' := (rf_u A 4 wl29)) (rf_u_n (by decide))
        refine rr_cv (as := [.int (nI l), .int (nI 0)]) (al0 := [some (.ref 146), some (.int (nI l)), some (.int (nI 0)), none, none, none, none]) (r := []) d_221_35 mo_221 ml_241 mz_210 rfl rfl rfl (rr_wk (Nat.le_of_ble_eq_true rfl) (s_goesN hLo.1 hcu hl (by have := hLo.1.1.2.1; omega) hLo.2 he (sp_R (k := 0) hLo.v (by decide)) (sp_R (k := 1) hLo.v (by decide)) (sp_R (k := 2) hLo.v (by decide)) hu2)) (fun v1 g1 A1 h1x => ?_)
        obtain ⟨q0_, hGt, h26, hor⟩ := h1x
        obtain rfl := q0_
        obtain ⟨hGs, hKs⟩ := hGt.g0.gs
        have h26 : g1 26 = nI (lwC m c e (kW (wK W) l) (kN (wK W) l)) := h26
        have hq : ((lwC m c e (kW (wK W) l) (kN (wK W) l) = 0 ∧ g1 27 = -1 ∧ g1 28 = -1 ∧ g1 29 = -1) ∨ (¬ lwC m c e (kW (wK W) l) (kN (wK W) l) = 0 ∧ g1 27 = nI (fsL m c e (kW (wK W) l) (kN (wK W) l)).1 ∧ g1 28 = nI (fsL m c e (kW (wK W) l) (kN (wK W) l)).2.1 ∧ g1 29 = nI (fsL m c e (kW (wK W) l) (kN (wK W) l)).2.2)) := hor.elim (fun h_ => Or.inl ⟨h_.1, h_.2.2⟩) (fun h_ => Or.inr ⟨fun e_ => by have := h_.1; have e_ : f3N _ _ _ _ = 0 := e_; omega, by obtain ⟨_, _, _, h2_, h3_, h4_, h5_⟩ := h_.2; obtain ⟨e1_, e2_, e3_⟩ := fs_e h2_; exact ⟨h3_.trans (congrArg nI e1_.symm), h4_.trans (congrArg nI e2_.symm), h5_.trans (congrArg nI e3_.symm)⟩⟩)
        show RR _ _ 38 [some (.ref 146), some (.int (nI j)), some (.int (nI l)), some (.int (nI 1))] [] g1 A1 _
        refine rr_nx (pc' := 39) (al' := [some (.ref 146), some (.int (nI j)), some (.int (nI l)), some (.int (nI 1))]) (st' := [.int (nI 1)]) d_221_38 (fun _ => rfl) ?_
        refine rn_ine (t := 49) d_221_39 (by decide) (by first | omega | assumption | exact cu_36 (by omega) (cu_lt (by omega) (by omega))) (fun c39 => ?_) (fun c39 => ?_)
        · refine rr_nx (pc' := 50) (al' := [some (.ref 146), some (.int (nI j)), some (.int (nI l)), some (.int (nI 1))]) (st' := [.int (nI 1)]) d_221_49 (fun _ => rfl) ?_
          refine rn_ic (v := 1) d_221_50 (by decide) ?_
          refine rn_cne (t := 61) d_221_51 (by decide) (by first | omega | assumption | exact cu_36 (by omega) (cu_lt (by omega) (by omega))) (by first | omega | assumption | exact cu_36 (by omega) (cu_lt (by omega) (by omega))) (fun c51 => ?_) (fun c51 => ?_)
          · omega
          · refine rr_nx (pc' := 55) (al' := [some (.ref 146), some (.int (nI j)), some (.int (nI l)), some (.int (nI 1))]) (st' := [.ref 146]) d_221_54 (fun _ => rfl) ?_
            refine rr_gf (v := .int (g1 27)) d_221_55 mo_221 fl_229 rfl ?_
            refine rr_nx (pc' := 77) (al' := [some (.ref 146), some (.int (nI j)), some (.int (nI l)), some (.int (nI 1))]) (st' := [.int (g1 27)]) d_221_58 (fun _ => rfl) ?_
            exact rr_ri d_221_77 mr_221 rfl ⟨hq.elim (fun q_ => by rw [if_pos q_.1, q_.2.1]) (fun q_ => by rw [if_neg q_.1, q_.2.1]), (hW.q ((Gsm.rf.u rfl).tr hGs) ((Ksm.rf.u rfl).tr hKs)).mo⟩
        · omega
      · exact absurd (show nI 0 ≤ nI 1 ∧ nI 1 ≤ nI 3 by decide) c22
theorem p_fails2 {S : CS} {G : Nat → Nat → Value} {B : Nat → Nat → Int32} {J : Nat → Nat → Int64} {R : Nat → Nat → Option Nat} {n : Nat} {W : WS} (hW : WC n S G B R W) {j m : Nat} {c : Nat → Nat} (hj : j < 6) (htb : tbK (wK W) j = (m, c)) (h1 : 1 ≤ m) {l e : Nat} (hll : l < kL (wK W)) (he : e < m) (hu1 : (if unV 0 m c < nI 0 then nI 0 else unV 0 m c) = nI e) (hu2 : (if unV 0 m c = -1 then nI 0 else unV 0 m c) = nI e) : CR 80 144 0 [some (.ref 2), some (.int (nI j)), some (.int (nI l)), some (.int (nI 2)), none] [] S G B J R (fun r__ S' G' B' J' R' => r__ = some (.int (if lwC m c e (kW (wK W) l) (kN (wK W) l) = 0 then -1 else nI (fsL m c e (kW (wK W) l) (kN (wK W) l)).2.1)) ∧ WC (n + 1) S' G' B' R' W) := by
  have hS := hW.1.1
  have hF := hW.2.1
  have hO := hW.2.2.2.1
  obtain ⟨ta, ka, la, hH, hLk, hl2, hs3, hbd⟩ := hW.2.2.1
  obtain ⟨zt, hzt, ezt⟩ := (hH.2.1 j hj).2
  have ht := hH.ta hj
  have hsh := hH.2.2.2.2.2.2.1 j hj
  rw [show kH (wK W) (kD (wK W)) j = (m, c) from htb] at hsh
  have hok := tb_ok hO hj
  rw [htb] at hok
  have hn : G (ta j) 0 = .int (nI m) := hsh.1
  have hc : TabC B (ta j) m c := hsh.c hok
  have hl : Lat m c := hok.2
  have hm6 : m ≤ 6 := hok.1
  have hyes : hasP (wK W) (nI j) := (has_i hj).mpr (by rw [htb]; exact h1)
  have hLs0 := (hLk.2 l hll).2
  have hla := hLs0.2.1
  refine cr_nx (pc' := 1) (al' := [some (.ref 2), some (.int (nI j)), some (.int (nI l)), some (.int (nI 2)), none]) (st' := [.ref 2]) d_144_0 (fun _ => rfl) ?_
  refine cr_nx (pc' := 2) (al' := [some (.ref 2), some (.int (nI j)), some (.int (nI l)), some (.int (nI 2)), none]) (st' := [.int (nI j), .ref 2]) d_144_1 (fun _ => rfl) ?_
  refine cr_pv (b := 2) (as := [.int (nI j)]) (al0 := [some (.ref 2), some (.int (nI j))]) (r := []) d_144_2 cw_144 cm_11_137 cz_126 rfl rfl (hS.i (a := 2) (by decide) (by decide)) (by rw [cw_126]; exact (hS.s (a := 2) (by decide) (by decide) rfl)) (by rw [cw_126]; decide) rfl (Nat.le_of_ble_eq_true rfl) (k_has hS hF hH hO) ?_
  show CR _ _ 5 [some (.ref 2), some (.int (nI j)), some (.int (nI l)), some (.int (nI 2)), none] [.int (bI (hasP (wK W) (nI j)))] S G B J R _
  refine cr_beq (t := 25) d_144_5 (by decide) (fun c5 => ?_) (fun c5 => ?_)
  · exact absurd hyes c5
  · refine cr_nx (pc' := 9) (al' := [some (.ref 2), some (.int (nI j)), some (.int (nI l)), some (.int (nI 2)), none]) (st' := [.ref 2]) d_144_8 (fun _ => rfl) ?_
    refine cr_nx (pc' := 10) (al' := [some (.ref 2), some (.int (nI j)), some (.int (nI l)), some (.int (nI 2)), none]) (st' := [.int (nI l), .ref 2]) d_144_9 (fun _ => rfl) ?_
    refine cr_pv (b := 2) (as := [.int (nI l)]) (al0 := [some (.ref 2), some (.int (nI l))]) (r := []) d_144_10 cw_144 cm_11_245 cz_143 rfl rfl (hS.i (a := 2) (by decide) (by decide)) (by rw [cw_143]; exact (hS.s (a := 2) (by decide) (by decide) rfl)) (by rw [cw_143]; decide) rfl (Nat.le_of_ble_eq_true rfl) (k_hasLaw hS hF hl2 hO.2.1) ?_
    show CR _ _ 13 [some (.ref 2), some (.int (nI j)), some (.int (nI l)), some (.int (nI 2)), none] [.int (bI (inP (nI l) (kL (wK W))))] S G B J R _
    refine cr_beq (t := 25) d_144_13 (by decide) (fun c13 => ?_) (fun c13 => ?_)
    · exact absurd ((in_j (by have := hO.2.1; omega)).mpr hll) c13
    · refine cr_nx (pc' := 17) (al' := [some (.ref 2), some (.int (nI j)), some (.int (nI l)), some (.int (nI 2)), none]) (st' := [.int (nI 2)]) d_144_16 (fun _ => rfl) ?_
      refine cn_zlt (t := 25) d_144_17 (by decide) (by first | omega | assumption | exact cu_36 (by omega) (cu_lt (by omega) (by omega))) (fun c17 => ?_) (fun c17 => ?_)
      · exact c17.elim
      · refine cr_nx (pc' := 21) (al' := [some (.ref 2), some (.int (nI j)), some (.int (nI l)), some (.int (nI 2)), none]) (st' := [.int (nI 2)]) d_144_20 (fun _ => rfl) ?_
        refine cn_ic (v := 3) d_144_21 (by decide) ?_
        refine cn_cle (t := 27) d_144_22 (by decide) (by first | omega | assumption | exact cu_36 (by omega) (cu_lt (by omega) (by omega))) (by first | omega | assumption | exact cu_36 (by omega) (cu_lt (by omega) (by omega))) (fun c22 => ?_) (fun c22 => ?_)
        · refine cr_nx (pc' := 28) (al' := [some (.ref 2), some (.int (nI j)), some (.int (nI l)), some (.int (nI 2)), none]) (st' := [.ref 2]) d_144_27 (fun _ => rfl) ?_
          refine cr_gf (v := .ref 90) d_144_28 cw_144 cf_11_48 (hS.i (a := 2) (by decide) (by decide)) (hS.s (a := 2) (by decide) (by decide) rfl) (by decide) (fx_2_8 hF) ?_
          refine cr_nx (pc' := 32) (al' := [some (.ref 2), some (.int (nI j)), some (.int (nI l)), some (.int (nI 2)), none]) (st' := [.ref 2, .ref 90]) d_144_31 (fun _ => rfl) ?_
          refine cr_gf (v := .ref 3) d_144_32 cw_144 cf_11_10 (hS.i (a := 2) (by decide) (by decide)) (hS.s (a := 2) (by decide) (by decide) rfl) (by decide) (fx_2_0 hF) ?_
          refine cr_gf (v := .ref 4) d_144_35 cw_144 cf_11_140 (hS.i (a := 3) (by decide) (by decide)) (hS.s (a := 3) (by decide) (by decide) rfl) (by decide) (fx_3_0 hF) ?_
          refine cr_nx (pc' := 39) (al' := [some (.ref 2), some (.int (nI j)), some (.int (nI l)), some (.int (nI 2)), none]) (st' := [.int (nI j), .ref 4, .ref 90]) d_144_38 (fun _ => rfl) ?_
          refine cr_aa (a := 4) (v := .ref (ta j)) d_144_39 (hS.i (a := 4) (by decide) (by decide)) (by decide) (hS.s (a := 4) (by decide) (by decide) rfl) (by decide) (show j < 6 by first | omega | assumption | exact cu_36 (by omega) (cu_lt (by omega) (by omega))) (show va_rf _ = _ by rw [(hH.2.1 j hj).1]; rfl) ?_
          refine cr_nx (pc' := 41) (al' := [some (.ref 2), some (.int (nI j)), some (.int (nI l)), some (.int (nI 2)), none]) (st' := [.ref 2, .ref (ta j), .ref 90]) d_144_40 (fun _ => rfl) ?_
          refine cr_gf (v := .ref 3) d_144_41 cw_144 cf_11_10 (hS.i (a := 2) (by decide) (by decide)) (hS.s (a := 2) (by decide) (by decide) rfl) (by decide) (fx_2_0 hF) ?_
          refine cr_gf (v := .ref 4) d_144_44 cw_144 cf_11_140 (hS.i (a := 3) (by decide) (by decide)) (hS.s (a := 3) (by decide) (by decide) rfl) (by decide) (fx_3_0 hF) ?_
          refine cr_nx (pc' := 48) (al' := [some (.ref 2), some (.int (nI j)), some (.int (nI l)), some (.int (nI 2)), none]) (st' := [.int (nI j), .ref 4, .ref (ta j), .ref 90]) d_144_47 (fun _ => rfl) ?_
          refine cr_aa (a := 4) (v := .ref (ta j)) d_144_48 (hS.i (a := 4) (by decide) (by decide)) (by decide) (hS.s (a := 4) (by decide) (by decide) rfl) (by decide) (show j < 6 by first | omega | assumption | exact cu_36 (by omega) (cu_lt (by omega) (by omega))) (show va_rf _ = _ by rw [(hH.2.1 j hj).1]; rfl) ?_
          refine cr_pv (b := (ta j)) (as := []) (al0 := [some (.ref (ta j))]) (r := [.ref (ta j), .ref 90]) d_144_49 cw_144 cm_11_193 cz_106 rfl rfl ht.1 (by rw [cw_106]; exact ht.2.2.1) (by rw [cw_106]; decide) rfl (Nat.le_of_ble_eq_true rfl) (k_unitElement ht hn hc) ?_
          show CR _ _ 52 [some (.ref 2), some (.int (nI j)), some (.int (nI l)), some (.int (nI 2)), none] [.int (unV 0 m c), .ref (ta j), .ref 90] S G B J R _
          refine cr_pv (b := 90) (as := [.ref (ta j), .int (unV 0 m c)]) (al0 := [some (.ref 90), some (.ref (ta j)), some (.int (unV 0 m c))]) (r := []) d_144_52 cw_144 cm_11_248 cz_1 rfl rfl (hS.i (a := 90) (by decide) (by decide)) (by rw [cw_1]; exact (hS.s (a := 90) (by decide) (by decide) rfl)) (by rw [cw_1]; decide) rfl (Nat.le_of_ble_eq_true rfl) (k_look (a := 90) (t := ta j) (e := e) (ck_90 hS hF) ht hn (by omega) hu1) ?_
          show CR _ _ 55 [some (.ref 2), some (.int (nI j)), some (.int (nI l)), some (.int (nI 2)), none] [] S (up2 (up2 (up2 G 90 0 (.int (nI m))) 90 1 (.ref (ta j + 1))) 90 2 (.int (nI 0))) (upr B (90 + 4) (upd (B (90 + 4)) 3 (nI e))) J R _
          refine cr_nx (pc' := 56) (al' := [some (.ref 2), some (.int (nI j)), some (.int (nI l)), some (.int (nI 2)), none]) (st' := [.int (nI 2)]) d_144_55 (fun _ => rfl) ?_
          refine cn_ine (t := 79) d_144_56 (by decide) (by first | omega | assumption | exact cu_36 (by omega) (cu_lt (by omega) (by omega))) (fun c56 => ?_) (fun c56 => ?_)
          · refine cr_nx (pc' := 80) (al' := [some (.ref 2), some (.int (nI j)), some (.int (nI l)), some (.int (nI 2)), none]) (st' := [.ref 2]) d_144_79 (fun _ => rfl) ?_
            refine cr_gf (v := .ref 90) d_144_80 cw_144 cf_11_48 (hS.i (a := 2) (by decide) (by decide)) (hS.s (a := 2) (by decide) (by decide) rfl) (by decide) (by simp [up2]; exact (fx_2_8 hF)) ?_
            refine cr_nx (pc' := 84) (al' := [some (.ref 2), some (.int (nI j)), some (.int (nI l)), some (.int (nI 2)), none]) (st' := [.ref 2, .ref 90]) d_144_83 (fun _ => rfl) ?_
            refine cr_gf (v := .ref 3) d_144_84 cw_144 cf_11_10 (hS.i (a := 2) (by decide) (by decide)) (hS.s (a := 2) (by decide) (by decide) rfl) (by decide) (by simp [up2]; exact (fx_2_0 hF)) ?_
            refine cr_gf (v := .ref 5) d_144_87 cw_144 cf_11_241 (hS.i (a := 3) (by decide) (by decide)) (hS.s (a := 3) (by decide) (by decide) rfl) (by decide) (by simp [up2]; exact (fx_3_1 hF)) ?_
            refine cr_nx (pc' := 91) (al' := [some (.ref 2), some (.int (nI j)), some (.int (nI l)), some (.int (nI 2)), none]) (st' := [.int (nI l), .ref 5, .ref 90]) d_144_90 (fun _ => rfl) ?_
            refine cr_aa (a := 5) (v := .ref (la l)) d_144_91 (hS.i (a := 5) (by decide) (by decide)) (by decide) (hS.s (a := 5) (by decide) (by decide) rfl) (by decide) (show l < 8 by (have := hO.2.1; omega)) (show va_rf (R 5 l) = _ by rw [(hLk.2 l hll).1]; rfl) ?_
            refine cn_ic (v := 1) d_144_92 (by decide) ?_
            have hLs := hLs0.cg (G' := (up2 (up2 (up2 G 90 0 (.int (nI m))) 90 1 (.ref (ta j + 1))) 90 2 (.int (nI 0)))) (B' := (upr B (90 + 4) (upd (B (90 + 4)) 3 (nI e)))) (by rw [up2_g (by omega), up2_g (by omega), up2_g (by omega)]) (by rw [upr_n (by omega)])
            refine cr_cv (b := 90) (as := [.ref (la l), .int (nI 1)]) (al0 := [some (.ref 90), some (.ref (la l)), some (.int (nI 1)), none, none, none, none, none, none, none]) (r := []) d_144_93 cw_144 cm_11_251 cz_2 rfl rfl (hS.i (a := 90) (by decide) (by decide)) (by rw [cw_2]; exact (hS.s (a := 90) (by decide) (by decide) rfl)) (by rw [cw_2]; decide) rfl (cr_wk (Nat.le_of_ble_eq_true rfl) (k_failures1 (a := 90) (m := ta j + 1) (l := la l) hm6 h1 hl he (by omega) ⟨by omega, by omega, by omega, by omega⟩ ⟨by omega, by omega, by omega, by omega⟩ hLs.ok (CkL.mk (J := J) (R := R) (ck_90 hS hF) ht hc (by omega)) hLs.1)) (fun v1 S1 G1 B1 J1 R1 h1x => ?_)
            obtain ⟨⟨q1_, q2_, q3_⟩, hg1, hb1, hk1, hor⟩ := h1x
            obtain rfl := q1_.symm
            obtain rfl := q2_.symm
            obtain rfl := q3_.symm
            rw [hLs.br] at hor
            have hG1 : Gfr [90] G G1 := Gfr.tr (((Gfr.rf.u (by decide)).u (by decide)).u (by decide)) hg1
            have hB1 : Bfr [92, 93, 94, 95] B B1 := Bfr.tr (Bfr.rf.u (by decide)) hb1
            have hF1 := fx_90c hF hG1 hk1.1
            obtain ⟨z, hz, hz1, hzz, hv⟩ : ∃ z, v1 = some (.int (nI z)) ∧ z ≤ 1 ∧ (z = 0 ↔ lwC m c e (kW (wK W) l) (kN (wK W) l) = 0) ∧ (z = 1 → B1 94 0 = nI (fsL m c e (kW (wK W) l) (kN (wK W) l)).1 ∧ B1 94 1 = nI (fsL m c e (kW (wK W) l) (kN (wK W) l)).2.1 ∧ B1 94 2 = nI (fsL m c e (kW (wK W) l) (kN (wK W) l)).2.2) := hor.elim (fun h_ => ⟨0, h_.1, by omega, ⟨fun _ => f3_0.mpr h_.2, fun _ => rfl⟩, fun e_ => absurd e_ (by decide)⟩) (fun h_ => ⟨1, h_.1, by omega, ⟨fun e_ => absurd e_ (by decide), fun e_ => by obtain ⟨_, _, _, h2_, _⟩ := h_.2; exact absurd (f3_0.mp e_) h2_.no⟩, fun _ => by obtain ⟨_, _, _, h2_, h3_, h4_, h5_⟩ := h_.2; obtain ⟨e1_, e2_, e3_⟩ := fs_e h2_; exact ⟨h3_.trans (congrArg nI e1_.symm), h4_.trans (congrArg nI e2_.symm), h5_.trans (congrArg nI e3_.symm)⟩⟩)
            obtain rfl := hz
            show CR _ _ 96 [some (.ref 2), some (.int (nI j)), some (.int (nI l)), some (.int (nI 2)), none] [.int (nI z)] S G1 B1 J R _
            refine cr_nx (pc' := 98) (al' := [some (.ref 2), some (.int (nI j)), some (.int (nI l)), some (.int (nI 2)), some (.int (nI z))]) (st' := []) d_144_96 (fun _ => rfl) ?_
            refine cr_nx (pc' := 100) (al' := [some (.ref 2), some (.int (nI j)), some (.int (nI l)), some (.int (nI 2)), some (.int (nI z))]) (st' := [.int (nI z)]) d_144_98 (fun _ => rfl) ?_
            refine cn_ine (t := 107) d_144_100 (by decide) (by first | omega | assumption | exact cu_36 (by omega) (cu_lt (by omega) (by omega))) (fun c100 => ?_) (fun c100 => ?_)
            · refine cr_nx (pc' := 108) (al' := [some (.ref 2), some (.int (nI j)), some (.int (nI l)), some (.int (nI 2)), some (.int (nI z))]) (st' := [.ref 2]) d_144_107 (fun _ => rfl) ?_
              refine cr_gf (v := .ref 90) d_144_108 cw_144 cf_11_48 (hS.i (a := 2) (by decide) (by decide)) (hS.s (a := 2) (by decide) (by decide) rfl) (by decide) (fx_2_8 hF1) ?_
              refine cr_nx (pc' := 112) (al' := [some (.ref 2), some (.int (nI j)), some (.int (nI l)), some (.int (nI 2)), some (.int (nI z))]) (st' := [.int (nI 2), .ref 90]) d_144_111 (fun _ => rfl) ?_
              refine cn_ic (v := 1) d_144_112 (by decide) ?_
              refine cn_sub d_144_113 (by first | omega | assumption | exact cu_36 (by omega) (cu_lt (by omega) (by omega))) ?_
              refine cr_pv (b := 90) (as := [.int (nI (2 - 1))]) (al0 := [some (.ref 90), some (.int (nI (2 - 1)))]) (r := []) d_144_114 cw_144 cm_11_255 cz_8 rfl rfl (hS.i (a := 90) (by decide) (by decide)) (by rw [cw_8]; exact (hS.s (a := 90) (by decide) (by decide) rfl)) (by rw [cw_8]; decide) rfl (Nat.le_of_ble_eq_true rfl) (k_letterValue hS hF1 (by decide)) ?_
              show CR _ _ 117 [some (.ref 2), some (.int (nI j)), some (.int (nI l)), some (.int (nI 2)), some (.int (nI z))] [.int (B1 94 1)] S G1 B1 J R _
              exact cr_ri d_144_117 cx_144 rfl ⟨by rw [if_neg (fun e_ => by have := hzz.mpr e_; omega), (hv (by omega)).2.1], (hW.q hF1 (hG1.mo (by decide)) (hB1.mo (by decide))).mo⟩
            · refine cr_nx (pc' := 104) (al' := [some (.ref 2), some (.int (nI j)), some (.int (nI l)), some (.int (nI 2)), some (.int (nI z))]) (st' := [.int (-1)]) d_144_103 (fun _ => rfl) ?_
              refine cr_nx (pc' := 117) (al' := [some (.ref 2), some (.int (nI j)), some (.int (nI l)), some (.int (nI 2)), some (.int (nI z))]) (st' := [.int (-1)]) d_144_104 (fun _ => rfl) ?_
              exact cr_ri d_144_117 cx_144 rfl ⟨by rw [if_pos (hzz.mp (by omega))], (hW.q hF1 (hG1.mo (by decide)) (hB1.mo (by decide))).mo⟩
          · omega
        · omega
theorem r_fails2 {g : Nat → Int32} {A : Nat → Nat → Int32} {n : Nat} {W : WS} (hW : WR n g A W) (hO : CoOk (wK W)) {j m : Nat} {c : Nat → Nat} (hj : j < 6) (htb : tbK (wK W) j = (m, c)) (h1 : 1 ≤ m) {l e : Nat} (hll : l < kL (wK W)) (he : e < m) (hu1 : (if unV 0 m c < nI 0 then nI 0 else unV 0 m c) = nI e) (hu2 : (if unV 0 m c = -1 then nI 0 else unV 0 m c) = nI e) : RR 80 221 0 [some (.ref 146), some (.int (nI j)), some (.int (nI l)), some (.int (nI 2))] [] g A (fun r__ g' A' => r__ = some (.int (if lwC m c e (kW (wK W) l) (kN (wK W) l) = 0 then -1 else nI (fsL m c e (kW (wK W) l) (kN (wK W) l)).2.1)) ∧ WR (n + 1) g' A' W) := by
  have hsh := hW.1.1.1 j hj
  rw [show kH (wK W) (kD (wK W)) j = (m, c) from htb] at hsh
  have hok := tb_ok hO hj
  rw [htb] at hok
  have hk : A 1 (37 * j) = nI m := hsh.1
  have hl : Lat m c := hok.2
  have hm6 : m ≤ 6 := hok.1
  have hyes : isT A (nI j) := (has_r hW hO).mpr ((has_i hj).mpr (by rw [htb]; exact h1))
  refine rr_nx (pc' := 1) (al' := [some (.ref 146), some (.int (nI j)), some (.int (nI l)), some (.int (nI 2))]) (st' := [.ref 146]) d_221_0 (fun _ => rfl) ?_
  refine rr_nx (pc' := 2) (al' := [some (.ref 146), some (.int (nI j)), some (.int (nI l)), some (.int (nI 2))]) (st' := [.int (nI j), .ref 146]) d_221_1 (fun _ => rfl) ?_
  refine rr_pv (as := [.int (nI j)]) (al0 := [some (.ref 146), some (.int (nI j))]) (r := []) d_221_2 mo_221 ml_124 mz_184 rfl rfl rfl (Nat.le_of_ble_eq_true rfl) (s_isTable (nI j)) ?_
  show RR _ _ 5 [some (.ref 146), some (.int (nI j)), some (.int (nI l)), some (.int (nI 2))] [.int (bI (isT A (nI j)))] g A _
  refine rr_beq (t := 25) d_221_5 (by decide) (fun c5 => ?_) (fun c5 => ?_)
  · exact absurd hyes c5
  · refine rr_nx (pc' := 9) (al' := [some (.ref 146), some (.int (nI j)), some (.int (nI l)), some (.int (nI 2))]) (st' := [.ref 146]) d_221_8 (fun _ => rfl) ?_
    refine rr_nx (pc' := 10) (al' := [some (.ref 146), some (.int (nI j)), some (.int (nI l)), some (.int (nI 2))]) (st' := [.int (nI l), .ref 146]) d_221_9 (fun _ => rfl) ?_
    refine rr_pv (as := [.int (nI l)]) (al0 := [some (.ref 146), some (.int (nI l))]) (r := []) d_221_10 mo_221 ml_245 mz_207 rfl rfl rfl (Nat.le_of_ble_eq_true rfl) (s_isLaw hW hO) ?_
    show RR _ _ 13 [some (.ref 146), some (.int (nI j)), some (.int (nI l)), some (.int (nI 2))] [.int (bI (inP (nI l) (kL (wK W))))] g A _
    refine rr_beq (t := 25) d_221_13 (by decide) (fun c13 => ?_) (fun c13 => ?_)
    · exact absurd ((in_j (by have := hO.2.1; omega)).mpr hll) c13
    · refine rr_nx (pc' := 17) (al' := [some (.ref 146), some (.int (nI j)), some (.int (nI l)), some (.int (nI 2))]) (st' := [.int (nI 2)]) d_221_16 (fun _ => rfl) ?_
      refine rn_ic (v := 0) d_221_17 (by decide) ?_
      refine rn_ic (v := 3) d_221_18 (by decide) ?_
      refine rr_ps (as := [.int (nI 2), .int (nI 0), .int (nI 3)]) (al0 := [some (.int (nI 2)), some (.int (nI 0)), some (.int (nI 3))]) (r := []) d_221_19 mo_221 ml_106 mz_179 rfl rfl rfl (Nat.le_of_ble_eq_true rfl) (s_lies (nI 2) (nI 0) (nI 3)) ?_
      show RR _ _ 22 [some (.ref 146), some (.int (nI j)), some (.int (nI l)), some (.int (nI 2))] [.int (bI ((nI 0) ≤ (nI 2) ∧ (nI 2) ≤ (nI 3)))] g A _
      refine rr_bne (t := 27) d_221_22 (by decide) (fun c22 => ?_) (fun c22 => ?_)
      · refine rr_nx (pc' := 28) (al' := [some (.ref 146), some (.int (nI j)), some (.int (nI l)), some (.int (nI 2))]) (st' := [.ref 146]) d_221_27 (fun _ => rfl) ?_
        refine rr_nx (pc' := 29) (al' := [some (.ref 146), some (.int (nI j)), some (.int (nI l)), some (.int (nI 2))]) (st' := [.int (nI j), .ref 146]) d_221_28 (fun _ => rfl) ?_
        refine rr_pv (as := [.int (nI j)]) (al0 := [some (.ref 146), some (.int (nI j)), none]) (r := []) d_221_29 mo_221 ml_248 mz_208 rfl rfl rfl (Nat.le_of_ble_eq_true rfl) (s_lays (n := m) hj hm6 hk) ?_
        obtain ⟨wl29, hwl29⟩ : ∃ w_, w_ = rf_f (fun q => A 1 (37 * j + 1 + q)) (A 4) (m * m) := ⟨_, rfl⟩
        rw [← hwl29]
        show RR _ _ 32 [some (.ref 146), some (.int (nI j)), some (.int (nI l)), some (.int (nI 2))] [] (upd g 6 (nI m)) (rf_u A 4 wl29) _
        have hcu := cur_l (g := g) hsh hm6 hl hwl29
        refine rr_nx (pc' := 33) (al' := [some (.ref 146), some (.int (nI j)), some (.int (nI l)), some (.int (nI 2))]) (st' := [.ref 146]) d_221_32 (fun _ => rfl) ?_
        refine rr_nx (pc' := 34) (al' := [some (.ref 146), some (.int (nI j)), some (.int (nI l)), some (.int (nI 2))]) (st' := [.int (nI l), .ref 146]) d_221_33 (fun _ => rfl) ?_
        refine rn_ic (v := 0) d_221_34 (by decide) ?_
        have hLo := (hW.lw hO hll).e (A' := (rf_u A 4 wl29)) (rf_u_n (by decide))
        refine rr_cv (as := [.int (nI l), .int (nI 0)]) (al0 := [some (.ref 146), some (.int (nI l)), some (.int (nI 0)), none, none, none, none]) (r := []) d_221_35 mo_221 ml_241 mz_210 rfl rfl rfl (rr_wk (Nat.le_of_ble_eq_true rfl) (s_goesN hLo.1 hcu hl (by have := hLo.1.1.2.1; omega) hLo.2 he (sp_R (k := 0) hLo.v (by decide)) (sp_R (k := 1) hLo.v (by decide)) (sp_R (k := 2) hLo.v (by decide)) hu2)) (fun v1 g1 A1 h1x => ?_)
        obtain ⟨q0_, hGt, h26, hor⟩ := h1x
        obtain rfl := q0_
        obtain ⟨hGs, hKs⟩ := hGt.g0.gs
        have h26 : g1 26 = nI (lwC m c e (kW (wK W) l) (kN (wK W) l)) := h26
        have hq : ((lwC m c e (kW (wK W) l) (kN (wK W) l) = 0 ∧ g1 27 = -1 ∧ g1 28 = -1 ∧ g1 29 = -1) ∨ (¬ lwC m c e (kW (wK W) l) (kN (wK W) l) = 0 ∧ g1 27 = nI (fsL m c e (kW (wK W) l) (kN (wK W) l)).1 ∧ g1 28 = nI (fsL m c e (kW (wK W) l) (kN (wK W) l)).2.1 ∧ g1 29 = nI (fsL m c e (kW (wK W) l) (kN (wK W) l)).2.2)) := hor.elim (fun h_ => Or.inl ⟨h_.1, h_.2.2⟩) (fun h_ => Or.inr ⟨fun e_ => by have := h_.1; have e_ : f3N _ _ _ _ = 0 := e_; omega, by obtain ⟨_, _, _, h2_, h3_, h4_, h5_⟩ := h_.2; obtain ⟨e1_, e2_, e3_⟩ := fs_e h2_; exact ⟨h3_.trans (congrArg nI e1_.symm), h4_.trans (congrArg nI e2_.symm), h5_.trans (congrArg nI e3_.symm)⟩⟩)
        show RR _ _ 38 [some (.ref 146), some (.int (nI j)), some (.int (nI l)), some (.int (nI 2))] [] g1 A1 _
        refine rr_nx (pc' := 39) (al' := [some (.ref 146), some (.int (nI j)), some (.int (nI l)), some (.int (nI 2))]) (st' := [.int (nI 2)]) d_221_38 (fun _ => rfl) ?_
        refine rn_ine (t := 49) d_221_39 (by decide) (by first | omega | assumption | exact cu_36 (by omega) (cu_lt (by omega) (by omega))) (fun c39 => ?_) (fun c39 => ?_)
        · refine rr_nx (pc' := 50) (al' := [some (.ref 146), some (.int (nI j)), some (.int (nI l)), some (.int (nI 2))]) (st' := [.int (nI 2)]) d_221_49 (fun _ => rfl) ?_
          refine rn_ic (v := 1) d_221_50 (by decide) ?_
          refine rn_cne (t := 61) d_221_51 (by decide) (by first | omega | assumption | exact cu_36 (by omega) (cu_lt (by omega) (by omega))) (by first | omega | assumption | exact cu_36 (by omega) (cu_lt (by omega) (by omega))) (fun c51 => ?_) (fun c51 => ?_)
          · refine rr_nx (pc' := 62) (al' := [some (.ref 146), some (.int (nI j)), some (.int (nI l)), some (.int (nI 2))]) (st' := [.int (nI 2)]) d_221_61 (fun _ => rfl) ?_
            refine rn_ic (v := 2) d_221_62 (by decide) ?_
            refine rn_cne (t := 73) d_221_63 (by decide) (by first | omega | assumption | exact cu_36 (by omega) (cu_lt (by omega) (by omega))) (by first | omega | assumption | exact cu_36 (by omega) (cu_lt (by omega) (by omega))) (fun c63 => ?_) (fun c63 => ?_)
            · omega
            · refine rr_nx (pc' := 67) (al' := [some (.ref 146), some (.int (nI j)), some (.int (nI l)), some (.int (nI 2))]) (st' := [.ref 146]) d_221_66 (fun _ => rfl) ?_
              refine rr_gf (v := .int (g1 28)) d_221_67 mo_221 fl_232 rfl ?_
              refine rr_nx (pc' := 77) (al' := [some (.ref 146), some (.int (nI j)), some (.int (nI l)), some (.int (nI 2))]) (st' := [.int (g1 28)]) d_221_70 (fun _ => rfl) ?_
              exact rr_ri d_221_77 mr_221 rfl ⟨hq.elim (fun q_ => by rw [if_pos q_.1, q_.2.2.1]) (fun q_ => by rw [if_neg q_.1, q_.2.2.1]), (hW.q ((Gsm.rf.u rfl).tr hGs) ((Ksm.rf.u rfl).tr hKs)).mo⟩
          · omega
        · omega
      · exact absurd (show nI 0 ≤ nI 2 ∧ nI 2 ≤ nI 3 by decide) c22
theorem p_fails3 {S : CS} {G : Nat → Nat → Value} {B : Nat → Nat → Int32} {J : Nat → Nat → Int64} {R : Nat → Nat → Option Nat} {n : Nat} {W : WS} (hW : WC n S G B R W) {j m : Nat} {c : Nat → Nat} (hj : j < 6) (htb : tbK (wK W) j = (m, c)) (h1 : 1 ≤ m) {l e : Nat} (hll : l < kL (wK W)) (he : e < m) (hu1 : (if unV 0 m c < nI 0 then nI 0 else unV 0 m c) = nI e) (hu2 : (if unV 0 m c = -1 then nI 0 else unV 0 m c) = nI e) : CR 80 144 0 [some (.ref 2), some (.int (nI j)), some (.int (nI l)), some (.int (nI 3)), none] [] S G B J R (fun r__ S' G' B' J' R' => r__ = some (.int (if lwC m c e (kW (wK W) l) (kN (wK W) l) = 0 then -1 else nI (fsL m c e (kW (wK W) l) (kN (wK W) l)).2.2)) ∧ WC (n + 1) S' G' B' R' W) := by
  have hS := hW.1.1
  have hF := hW.2.1
  have hO := hW.2.2.2.1
  obtain ⟨ta, ka, la, hH, hLk, hl2, hs3, hbd⟩ := hW.2.2.1
  obtain ⟨zt, hzt, ezt⟩ := (hH.2.1 j hj).2
  have ht := hH.ta hj
  have hsh := hH.2.2.2.2.2.2.1 j hj
  rw [show kH (wK W) (kD (wK W)) j = (m, c) from htb] at hsh
  have hok := tb_ok hO hj
  rw [htb] at hok
  have hn : G (ta j) 0 = .int (nI m) := hsh.1
  have hc : TabC B (ta j) m c := hsh.c hok
  have hl : Lat m c := hok.2
  have hm6 : m ≤ 6 := hok.1
  have hyes : hasP (wK W) (nI j) := (has_i hj).mpr (by rw [htb]; exact h1)
  have hLs0 := (hLk.2 l hll).2
  have hla := hLs0.2.1
  refine cr_nx (pc' := 1) (al' := [some (.ref 2), some (.int (nI j)), some (.int (nI l)), some (.int (nI 3)), none]) (st' := [.ref 2]) d_144_0 (fun _ => rfl) ?_
  refine cr_nx (pc' := 2) (al' := [some (.ref 2), some (.int (nI j)), some (.int (nI l)), some (.int (nI 3)), none]) (st' := [.int (nI j), .ref 2]) d_144_1 (fun _ => rfl) ?_
  refine cr_pv (b := 2) (as := [.int (nI j)]) (al0 := [some (.ref 2), some (.int (nI j))]) (r := []) d_144_2 cw_144 cm_11_137 cz_126 rfl rfl (hS.i (a := 2) (by decide) (by decide)) (by rw [cw_126]; exact (hS.s (a := 2) (by decide) (by decide) rfl)) (by rw [cw_126]; decide) rfl (Nat.le_of_ble_eq_true rfl) (k_has hS hF hH hO) ?_
  show CR _ _ 5 [some (.ref 2), some (.int (nI j)), some (.int (nI l)), some (.int (nI 3)), none] [.int (bI (hasP (wK W) (nI j)))] S G B J R _
  refine cr_beq (t := 25) d_144_5 (by decide) (fun c5 => ?_) (fun c5 => ?_)
  · exact absurd hyes c5
  · refine cr_nx (pc' := 9) (al' := [some (.ref 2), some (.int (nI j)), some (.int (nI l)), some (.int (nI 3)), none]) (st' := [.ref 2]) d_144_8 (fun _ => rfl) ?_
    refine cr_nx (pc' := 10) (al' := [some (.ref 2), some (.int (nI j)), some (.int (nI l)), some (.int (nI 3)), none]) (st' := [.int (nI l), .ref 2]) d_144_9 (fun _ => rfl) ?_
    refine cr_pv (b := 2) (as := [.int (nI l)]) (al0 := [some (.ref 2), some (.int (nI l))]) (r := []) d_144_10 cw_144 cm_11_245 cz_143 rfl rfl (hS.i (a := 2) (by decide) (by decide)) (by rw [cw_143]; exact (hS.s (a := 2) (by decide) (by decide) rfl)) (by rw [cw_143]; decide) rfl (Nat.le_of_ble_eq_true rfl) (k_hasLaw hS hF hl2 hO.2.1) ?_
    show CR _ _ 13 [some (.ref 2), some (.int (nI j)), some (.int (nI l)), some (.int (nI 3)), none] [.int (bI (inP (nI l) (kL (wK W))))] S G B J R _
    refine cr_beq (t := 25) d_144_13 (by decide) (fun c13 => ?_) (fun c13 => ?_)
    · exact absurd ((in_j (by have := hO.2.1; omega)).mpr hll) c13
    · refine cr_nx (pc' := 17) (al' := [some (.ref 2), some (.int (nI j)), some (.int (nI l)), some (.int (nI 3)), none]) (st' := [.int (nI 3)]) d_144_16 (fun _ => rfl) ?_
      refine cn_zlt (t := 25) d_144_17 (by decide) (by first | omega | assumption | exact cu_36 (by omega) (cu_lt (by omega) (by omega))) (fun c17 => ?_) (fun c17 => ?_)
      · exact c17.elim
      · refine cr_nx (pc' := 21) (al' := [some (.ref 2), some (.int (nI j)), some (.int (nI l)), some (.int (nI 3)), none]) (st' := [.int (nI 3)]) d_144_20 (fun _ => rfl) ?_
        refine cn_ic (v := 3) d_144_21 (by decide) ?_
        refine cn_cle (t := 27) d_144_22 (by decide) (by first | omega | assumption | exact cu_36 (by omega) (cu_lt (by omega) (by omega))) (by first | omega | assumption | exact cu_36 (by omega) (cu_lt (by omega) (by omega))) (fun c22 => ?_) (fun c22 => ?_)
        · refine cr_nx (pc' := 28) (al' := [some (.ref 2), some (.int (nI j)), some (.int (nI l)), some (.int (nI 3)), none]) (st' := [.ref 2]) d_144_27 (fun _ => rfl) ?_
          refine cr_gf (v := .ref 90) d_144_28 cw_144 cf_11_48 (hS.i (a := 2) (by decide) (by decide)) (hS.s (a := 2) (by decide) (by decide) rfl) (by decide) (fx_2_8 hF) ?_
          refine cr_nx (pc' := 32) (al' := [some (.ref 2), some (.int (nI j)), some (.int (nI l)), some (.int (nI 3)), none]) (st' := [.ref 2, .ref 90]) d_144_31 (fun _ => rfl) ?_
          refine cr_gf (v := .ref 3) d_144_32 cw_144 cf_11_10 (hS.i (a := 2) (by decide) (by decide)) (hS.s (a := 2) (by decide) (by decide) rfl) (by decide) (fx_2_0 hF) ?_
          refine cr_gf (v := .ref 4) d_144_35 cw_144 cf_11_140 (hS.i (a := 3) (by decide) (by decide)) (hS.s (a := 3) (by decide) (by decide) rfl) (by decide) (fx_3_0 hF) ?_
          refine cr_nx (pc' := 39) (al' := [some (.ref 2), some (.int (nI j)), some (.int (nI l)), some (.int (nI 3)), none]) (st' := [.int (nI j), .ref 4, .ref 90]) d_144_38 (fun _ => rfl) ?_
          refine cr_aa (a := 4) (v := .ref (ta j)) d_144_39 (hS.i (a := 4) (by decide) (by decide)) (by decide) (hS.s (a := 4) (by decide) (by decide) rfl) (by decide) (show j < 6 by first | omega | assumption | exact cu_36 (by omega) (cu_lt (by omega) (by omega))) (show va_rf _ = _ by rw [(hH.2.1 j hj).1]; rfl) ?_
          refine cr_nx (pc' := 41) (al' := [some (.ref 2), some (.int (nI j)), some (.int (nI l)), some (.int (nI 3)), none]) (st' := [.ref 2, .ref (ta j), .ref 90]) d_144_40 (fun _ => rfl) ?_
          refine cr_gf (v := .ref 3) d_144_41 cw_144 cf_11_10 (hS.i (a := 2) (by decide) (by decide)) (hS.s (a := 2) (by decide) (by decide) rfl) (by decide) (fx_2_0 hF) ?_
          refine cr_gf (v := .ref 4) d_144_44 cw_144 cf_11_140 (hS.i (a := 3) (by decide) (by decide)) (hS.s (a := 3) (by decide) (by decide) rfl) (by decide) (fx_3_0 hF) ?_
          refine cr_nx (pc' := 48) (al' := [some (.ref 2), some (.int (nI j)), some (.int (nI l)), some (.int (nI 3)), none]) (st' := [.int (nI j), .ref 4, .ref (ta j), .ref 90]) d_144_47 (fun _ => rfl) ?_
          refine cr_aa (a := 4) (v := .ref (ta j)) d_144_48 (hS.i (a := 4) (by decide) (by decide)) (by decide) (hS.s (a := 4) (by decide) (by decide) rfl) (by decide) (show j < 6 by first | omega | assumption | exact cu_36 (by omega) (cu_lt (by omega) (by omega))) (show va_rf _ = _ by rw [(hH.2.1 j hj).1]; rfl) ?_
          refine cr_pv (b := (ta j)) (as := []) (al0 := [some (.ref (ta j))]) (r := [.ref (ta j), .ref 90]) d_144_49 cw_144 cm_11_193 cz_106 rfl rfl ht.1 (by rw [cw_106]; exact ht.2.2.1) (by rw [cw_106]; decide) rfl (Nat.le_of_ble_eq_true rfl) (k_unitElement ht hn hc) ?_
          show CR _ _ 52 [some (.ref 2), some (.int (nI j)), some (.int (nI l)), some (.int (nI 3)), none] [.int (unV 0 m c), .ref (ta j), .ref 90] S G B J R _
          refine cr_pv (b := 90) (as := [.ref (ta j), .int (unV 0 m c)]) (al0 := [some (.ref 90), some (.ref (ta j)), some (.int (unV 0 m c))]) (r := []) d_144_52 cw_144 cm_11_248 cz_1 rfl rfl (hS.i (a := 90) (by decide) (by decide)) (by rw [cw_1]; exact (hS.s (a := 90) (by decide) (by decide) rfl)) (by rw [cw_1]; decide) rfl (Nat.le_of_ble_eq_true rfl) (k_look (a := 90) (t := ta j) (e := e) (ck_90 hS hF) ht hn (by omega) hu1) ?_
          show CR _ _ 55 [some (.ref 2), some (.int (nI j)), some (.int (nI l)), some (.int (nI 3)), none] [] S (up2 (up2 (up2 G 90 0 (.int (nI m))) 90 1 (.ref (ta j + 1))) 90 2 (.int (nI 0))) (upr B (90 + 4) (upd (B (90 + 4)) 3 (nI e))) J R _
          refine cr_nx (pc' := 56) (al' := [some (.ref 2), some (.int (nI j)), some (.int (nI l)), some (.int (nI 3)), none]) (st' := [.int (nI 3)]) d_144_55 (fun _ => rfl) ?_
          refine cn_ine (t := 79) d_144_56 (by decide) (by first | omega | assumption | exact cu_36 (by omega) (cu_lt (by omega) (by omega))) (fun c56 => ?_) (fun c56 => ?_)
          · refine cr_nx (pc' := 80) (al' := [some (.ref 2), some (.int (nI j)), some (.int (nI l)), some (.int (nI 3)), none]) (st' := [.ref 2]) d_144_79 (fun _ => rfl) ?_
            refine cr_gf (v := .ref 90) d_144_80 cw_144 cf_11_48 (hS.i (a := 2) (by decide) (by decide)) (hS.s (a := 2) (by decide) (by decide) rfl) (by decide) (by simp [up2]; exact (fx_2_8 hF)) ?_
            refine cr_nx (pc' := 84) (al' := [some (.ref 2), some (.int (nI j)), some (.int (nI l)), some (.int (nI 3)), none]) (st' := [.ref 2, .ref 90]) d_144_83 (fun _ => rfl) ?_
            refine cr_gf (v := .ref 3) d_144_84 cw_144 cf_11_10 (hS.i (a := 2) (by decide) (by decide)) (hS.s (a := 2) (by decide) (by decide) rfl) (by decide) (by simp [up2]; exact (fx_2_0 hF)) ?_
            refine cr_gf (v := .ref 5) d_144_87 cw_144 cf_11_241 (hS.i (a := 3) (by decide) (by decide)) (hS.s (a := 3) (by decide) (by decide) rfl) (by decide) (by simp [up2]; exact (fx_3_1 hF)) ?_
            refine cr_nx (pc' := 91) (al' := [some (.ref 2), some (.int (nI j)), some (.int (nI l)), some (.int (nI 3)), none]) (st' := [.int (nI l), .ref 5, .ref 90]) d_144_90 (fun _ => rfl) ?_
            refine cr_aa (a := 5) (v := .ref (la l)) d_144_91 (hS.i (a := 5) (by decide) (by decide)) (by decide) (hS.s (a := 5) (by decide) (by decide) rfl) (by decide) (show l < 8 by (have := hO.2.1; omega)) (show va_rf (R 5 l) = _ by rw [(hLk.2 l hll).1]; rfl) ?_
            refine cn_ic (v := 1) d_144_92 (by decide) ?_
            have hLs := hLs0.cg (G' := (up2 (up2 (up2 G 90 0 (.int (nI m))) 90 1 (.ref (ta j + 1))) 90 2 (.int (nI 0)))) (B' := (upr B (90 + 4) (upd (B (90 + 4)) 3 (nI e)))) (by rw [up2_g (by omega), up2_g (by omega), up2_g (by omega)]) (by rw [upr_n (by omega)])
            refine cr_cv (b := 90) (as := [.ref (la l), .int (nI 1)]) (al0 := [some (.ref 90), some (.ref (la l)), some (.int (nI 1)), none, none, none, none, none, none, none]) (r := []) d_144_93 cw_144 cm_11_251 cz_2 rfl rfl (hS.i (a := 90) (by decide) (by decide)) (by rw [cw_2]; exact (hS.s (a := 90) (by decide) (by decide) rfl)) (by rw [cw_2]; decide) rfl (cr_wk (Nat.le_of_ble_eq_true rfl) (k_failures1 (a := 90) (m := ta j + 1) (l := la l) hm6 h1 hl he (by omega) ⟨by omega, by omega, by omega, by omega⟩ ⟨by omega, by omega, by omega, by omega⟩ hLs.ok (CkL.mk (J := J) (R := R) (ck_90 hS hF) ht hc (by omega)) hLs.1)) (fun v1 S1 G1 B1 J1 R1 h1x => ?_)
            obtain ⟨⟨q1_, q2_, q3_⟩, hg1, hb1, hk1, hor⟩ := h1x
            obtain rfl := q1_.symm
            obtain rfl := q2_.symm
            obtain rfl := q3_.symm
            rw [hLs.br] at hor
            have hG1 : Gfr [90] G G1 := Gfr.tr (((Gfr.rf.u (by decide)).u (by decide)).u (by decide)) hg1
            have hB1 : Bfr [92, 93, 94, 95] B B1 := Bfr.tr (Bfr.rf.u (by decide)) hb1
            have hF1 := fx_90c hF hG1 hk1.1
            obtain ⟨z, hz, hz1, hzz, hv⟩ : ∃ z, v1 = some (.int (nI z)) ∧ z ≤ 1 ∧ (z = 0 ↔ lwC m c e (kW (wK W) l) (kN (wK W) l) = 0) ∧ (z = 1 → B1 94 0 = nI (fsL m c e (kW (wK W) l) (kN (wK W) l)).1 ∧ B1 94 1 = nI (fsL m c e (kW (wK W) l) (kN (wK W) l)).2.1 ∧ B1 94 2 = nI (fsL m c e (kW (wK W) l) (kN (wK W) l)).2.2) := hor.elim (fun h_ => ⟨0, h_.1, by omega, ⟨fun _ => f3_0.mpr h_.2, fun _ => rfl⟩, fun e_ => absurd e_ (by decide)⟩) (fun h_ => ⟨1, h_.1, by omega, ⟨fun e_ => absurd e_ (by decide), fun e_ => by obtain ⟨_, _, _, h2_, _⟩ := h_.2; exact absurd (f3_0.mp e_) h2_.no⟩, fun _ => by obtain ⟨_, _, _, h2_, h3_, h4_, h5_⟩ := h_.2; obtain ⟨e1_, e2_, e3_⟩ := fs_e h2_; exact ⟨h3_.trans (congrArg nI e1_.symm), h4_.trans (congrArg nI e2_.symm), h5_.trans (congrArg nI e3_.symm)⟩⟩)
            obtain rfl := hz
            show CR _ _ 96 [some (.ref 2), some (.int (nI j)), some (.int (nI l)), some (.int (nI 3)), none] [.int (nI z)] S G1 B1 J R _
            refine cr_nx (pc' := 98) (al' := [some (.ref 2), some (.int (nI j)), some (.int (nI l)), some (.int (nI 3)), some (.int (nI z))]) (st' := []) d_144_96 (fun _ => rfl) ?_
            refine cr_nx (pc' := 100) (al' := [some (.ref 2), some (.int (nI j)), some (.int (nI l)), some (.int (nI 3)), some (.int (nI z))]) (st' := [.int (nI z)]) d_144_98 (fun _ => rfl) ?_
            refine cn_ine (t := 107) d_144_100 (by decide) (by first | omega | assumption | exact cu_36 (by omega) (cu_lt (by omega) (by omega))) (fun c100 => ?_) (fun c100 => ?_)
            · refine cr_nx (pc' := 108) (al' := [some (.ref 2), some (.int (nI j)), some (.int (nI l)), some (.int (nI 3)), some (.int (nI z))]) (st' := [.ref 2]) d_144_107 (fun _ => rfl) ?_
              refine cr_gf (v := .ref 90) d_144_108 cw_144 cf_11_48 (hS.i (a := 2) (by decide) (by decide)) (hS.s (a := 2) (by decide) (by decide) rfl) (by decide) (fx_2_8 hF1) ?_
              refine cr_nx (pc' := 112) (al' := [some (.ref 2), some (.int (nI j)), some (.int (nI l)), some (.int (nI 3)), some (.int (nI z))]) (st' := [.int (nI 3), .ref 90]) d_144_111 (fun _ => rfl) ?_
              refine cn_ic (v := 1) d_144_112 (by decide) ?_
              refine cn_sub d_144_113 (by first | omega | assumption | exact cu_36 (by omega) (cu_lt (by omega) (by omega))) ?_
              refine cr_pv (b := 90) (as := [.int (nI (3 - 1))]) (al0 := [some (.ref 90), some (.int (nI (3 - 1)))]) (r := []) d_144_114 cw_144 cm_11_255 cz_8 rfl rfl (hS.i (a := 90) (by decide) (by decide)) (by rw [cw_8]; exact (hS.s (a := 90) (by decide) (by decide) rfl)) (by rw [cw_8]; decide) rfl (Nat.le_of_ble_eq_true rfl) (k_letterValue hS hF1 (by decide)) ?_
              show CR _ _ 117 [some (.ref 2), some (.int (nI j)), some (.int (nI l)), some (.int (nI 3)), some (.int (nI z))] [.int (B1 94 2)] S G1 B1 J R _
              exact cr_ri d_144_117 cx_144 rfl ⟨by rw [if_neg (fun e_ => by have := hzz.mpr e_; omega), (hv (by omega)).2.2], (hW.q hF1 (hG1.mo (by decide)) (hB1.mo (by decide))).mo⟩
            · refine cr_nx (pc' := 104) (al' := [some (.ref 2), some (.int (nI j)), some (.int (nI l)), some (.int (nI 3)), some (.int (nI z))]) (st' := [.int (-1)]) d_144_103 (fun _ => rfl) ?_
              refine cr_nx (pc' := 117) (al' := [some (.ref 2), some (.int (nI j)), some (.int (nI l)), some (.int (nI 3)), some (.int (nI z))]) (st' := [.int (-1)]) d_144_104 (fun _ => rfl) ?_
              exact cr_ri d_144_117 cx_144 rfl ⟨by rw [if_pos (hzz.mp (by omega))], (hW.q hF1 (hG1.mo (by decide)) (hB1.mo (by decide))).mo⟩
          · omega
        · omega
theorem r_fails3 {g : Nat → Int32} {A : Nat → Nat → Int32} {n : Nat} {W : WS} (hW : WR n g A W) (hO : CoOk (wK W)) {j m : Nat} {c : Nat → Nat} (hj : j < 6) (htb : tbK (wK W) j = (m, c)) (h1 : 1 ≤ m) {l e : Nat} (hll : l < kL (wK W)) (he : e < m) (hu1 : (if unV 0 m c < nI 0 then nI 0 else unV 0 m c) = nI e) (hu2 : (if unV 0 m c = -1 then nI 0 else unV 0 m c) = nI e) : RR 80 221 0 [some (.ref 146), some (.int (nI j)), some (.int (nI l)), some (.int (nI 3))] [] g A (fun r__ g' A' => r__ = some (.int (if lwC m c e (kW (wK W) l) (kN (wK W) l) = 0 then -1 else nI (fsL m c e (kW (wK W) l) (kN (wK W) l)).2.2)) ∧ WR (n + 1) g' A' W) := by
  have hsh := hW.1.1.1 j hj
  rw [show kH (wK W) (kD (wK W)) j = (m, c) from htb] at hsh
  have hok := tb_ok hO hj
  rw [htb] at hok
  have hk : A 1 (37 * j) = nI m := hsh.1
  have hl : Lat m c := hok.2
  have hm6 : m ≤ 6 := hok.1
  have hyes : isT A (nI j) := (has_r hW hO).mpr ((has_i hj).mpr (by rw [htb]; exact h1))
  refine rr_nx (pc' := 1) (al' := [some (.ref 146), some (.int (nI j)), some (.int (nI l)), some (.int (nI 3))]) (st' := [.ref 146]) d_221_0 (fun _ => rfl) ?_
  refine rr_nx (pc' := 2) (al' := [some (.ref 146), some (.int (nI j)), some (.int (nI l)), some (.int (nI 3))]) (st' := [.int (nI j), .ref 146]) d_221_1 (fun _ => rfl) ?_
  refine rr_pv (as := [.int (nI j)]) (al0 := [some (.ref 146), some (.int (nI j))]) (r := []) d_221_2 mo_221 ml_124 mz_184 rfl rfl rfl (Nat.le_of_ble_eq_true rfl) (s_isTable (nI j)) ?_
  show RR _ _ 5 [some (.ref 146), some (.int (nI j)), some (.int (nI l)), some (.int (nI 3))] [.int (bI (isT A (nI j)))] g A _
  refine rr_beq (t := 25) d_221_5 (by decide) (fun c5 => ?_) (fun c5 => ?_)
  · exact absurd hyes c5
  · refine rr_nx (pc' := 9) (al' := [some (.ref 146), some (.int (nI j)), some (.int (nI l)), some (.int (nI 3))]) (st' := [.ref 146]) d_221_8 (fun _ => rfl) ?_
    refine rr_nx (pc' := 10) (al' := [some (.ref 146), some (.int (nI j)), some (.int (nI l)), some (.int (nI 3))]) (st' := [.int (nI l), .ref 146]) d_221_9 (fun _ => rfl) ?_
    refine rr_pv (as := [.int (nI l)]) (al0 := [some (.ref 146), some (.int (nI l))]) (r := []) d_221_10 mo_221 ml_245 mz_207 rfl rfl rfl (Nat.le_of_ble_eq_true rfl) (s_isLaw hW hO) ?_
    show RR _ _ 13 [some (.ref 146), some (.int (nI j)), some (.int (nI l)), some (.int (nI 3))] [.int (bI (inP (nI l) (kL (wK W))))] g A _
    refine rr_beq (t := 25) d_221_13 (by decide) (fun c13 => ?_) (fun c13 => ?_)
    · exact absurd ((in_j (by have := hO.2.1; omega)).mpr hll) c13
    · refine rr_nx (pc' := 17) (al' := [some (.ref 146), some (.int (nI j)), some (.int (nI l)), some (.int (nI 3))]) (st' := [.int (nI 3)]) d_221_16 (fun _ => rfl) ?_
      refine rn_ic (v := 0) d_221_17 (by decide) ?_
      refine rn_ic (v := 3) d_221_18 (by decide) ?_
      refine rr_ps (as := [.int (nI 3), .int (nI 0), .int (nI 3)]) (al0 := [some (.int (nI 3)), some (.int (nI 0)), some (.int (nI 3))]) (r := []) d_221_19 mo_221 ml_106 mz_179 rfl rfl rfl (Nat.le_of_ble_eq_true rfl) (s_lies (nI 3) (nI 0) (nI 3)) ?_
      show RR _ _ 22 [some (.ref 146), some (.int (nI j)), some (.int (nI l)), some (.int (nI 3))] [.int (bI ((nI 0) ≤ (nI 3) ∧ (nI 3) ≤ (nI 3)))] g A _
      refine rr_bne (t := 27) d_221_22 (by decide) (fun c22 => ?_) (fun c22 => ?_)
      · refine rr_nx (pc' := 28) (al' := [some (.ref 146), some (.int (nI j)), some (.int (nI l)), some (.int (nI 3))]) (st' := [.ref 146]) d_221_27 (fun _ => rfl) ?_
        refine rr_nx (pc' := 29) (al' := [some (.ref 146), some (.int (nI j)), some (.int (nI l)), some (.int (nI 3))]) (st' := [.int (nI j), .ref 146]) d_221_28 (fun _ => rfl) ?_
        refine rr_pv (as := [.int (nI j)]) (al0 := [some (.ref 146), some (.int (nI j)), none]) (r := []) d_221_29 mo_221 ml_248 mz_208 rfl rfl rfl (Nat.le_of_ble_eq_true rfl) (s_lays (n := m) hj hm6 hk) ?_
        obtain ⟨wl29, hwl29⟩ : ∃ w_, w_ = rf_f (fun q => A 1 (37 * j + 1 + q)) (A 4) (m * m) := ⟨_, rfl⟩
        rw [← hwl29]
        show RR _ _ 32 [some (.ref 146), some (.int (nI j)), some (.int (nI l)), some (.int (nI 3))] [] (upd g 6 (nI m)) (rf_u A 4 wl29) _
        have hcu := cur_l (g := g) hsh hm6 hl hwl29
        refine rr_nx (pc' := 33) (al' := [some (.ref 146), some (.int (nI j)), some (.int (nI l)), some (.int (nI 3))]) (st' := [.ref 146]) d_221_32 (fun _ => rfl) ?_
        refine rr_nx (pc' := 34) (al' := [some (.ref 146), some (.int (nI j)), some (.int (nI l)), some (.int (nI 3))]) (st' := [.int (nI l), .ref 146]) d_221_33 (fun _ => rfl) ?_
        refine rn_ic (v := 0) d_221_34 (by decide) ?_
        have hLo := (hW.lw hO hll).e (A' := (rf_u A 4 wl29)) (rf_u_n (by decide))
        refine rr_cv (as := [.int (nI l), .int (nI 0)]) (al0 := [some (.ref 146), some (.int (nI l)), some (.int (nI 0)), none, none, none, none]) (r := []) d_221_35 mo_221 ml_241 mz_210 rfl rfl rfl (rr_wk (Nat.le_of_ble_eq_true rfl) (s_goesN hLo.1 hcu hl (by have := hLo.1.1.2.1; omega) hLo.2 he (sp_R (k := 0) hLo.v (by decide)) (sp_R (k := 1) hLo.v (by decide)) (sp_R (k := 2) hLo.v (by decide)) hu2)) (fun v1 g1 A1 h1x => ?_)
        obtain ⟨q0_, hGt, h26, hor⟩ := h1x
        obtain rfl := q0_
        obtain ⟨hGs, hKs⟩ := hGt.g0.gs
        have h26 : g1 26 = nI (lwC m c e (kW (wK W) l) (kN (wK W) l)) := h26
        have hq : ((lwC m c e (kW (wK W) l) (kN (wK W) l) = 0 ∧ g1 27 = -1 ∧ g1 28 = -1 ∧ g1 29 = -1) ∨ (¬ lwC m c e (kW (wK W) l) (kN (wK W) l) = 0 ∧ g1 27 = nI (fsL m c e (kW (wK W) l) (kN (wK W) l)).1 ∧ g1 28 = nI (fsL m c e (kW (wK W) l) (kN (wK W) l)).2.1 ∧ g1 29 = nI (fsL m c e (kW (wK W) l) (kN (wK W) l)).2.2)) := hor.elim (fun h_ => Or.inl ⟨h_.1, h_.2.2⟩) (fun h_ => Or.inr ⟨fun e_ => by have := h_.1; have e_ : f3N _ _ _ _ = 0 := e_; omega, by obtain ⟨_, _, _, h2_, h3_, h4_, h5_⟩ := h_.2; obtain ⟨e1_, e2_, e3_⟩ := fs_e h2_; exact ⟨h3_.trans (congrArg nI e1_.symm), h4_.trans (congrArg nI e2_.symm), h5_.trans (congrArg nI e3_.symm)⟩⟩)
        show RR _ _ 38 [some (.ref 146), some (.int (nI j)), some (.int (nI l)), some (.int (nI 3))] [] g1 A1 _
        refine rr_nx (pc' := 39) (al' := [some (.ref 146), some (.int (nI j)), some (.int (nI l)), some (.int (nI 3))]) (st' := [.int (nI 3)]) d_221_38 (fun _ => rfl) ?_
        refine rn_ine (t := 49) d_221_39 (by decide) (by first | omega | assumption | exact cu_36 (by omega) (cu_lt (by omega) (by omega))) (fun c39 => ?_) (fun c39 => ?_)
        · refine rr_nx (pc' := 50) (al' := [some (.ref 146), some (.int (nI j)), some (.int (nI l)), some (.int (nI 3))]) (st' := [.int (nI 3)]) d_221_49 (fun _ => rfl) ?_
          refine rn_ic (v := 1) d_221_50 (by decide) ?_
          refine rn_cne (t := 61) d_221_51 (by decide) (by first | omega | assumption | exact cu_36 (by omega) (cu_lt (by omega) (by omega))) (by first | omega | assumption | exact cu_36 (by omega) (cu_lt (by omega) (by omega))) (fun c51 => ?_) (fun c51 => ?_)
          · refine rr_nx (pc' := 62) (al' := [some (.ref 146), some (.int (nI j)), some (.int (nI l)), some (.int (nI 3))]) (st' := [.int (nI 3)]) d_221_61 (fun _ => rfl) ?_
            refine rn_ic (v := 2) d_221_62 (by decide) ?_
            refine rn_cne (t := 73) d_221_63 (by decide) (by first | omega | assumption | exact cu_36 (by omega) (cu_lt (by omega) (by omega))) (by first | omega | assumption | exact cu_36 (by omega) (cu_lt (by omega) (by omega))) (fun c63 => ?_) (fun c63 => ?_)
            · refine rr_nx (pc' := 74) (al' := [some (.ref 146), some (.int (nI j)), some (.int (nI l)), some (.int (nI 3))]) (st' := [.ref 146]) d_221_73 (fun _ => rfl) ?_
              refine rr_gf (v := .int (g1 29)) d_221_74 mo_221 fl_235 rfl ?_
              exact rr_ri d_221_77 mr_221 rfl ⟨hq.elim (fun q_ => by rw [if_pos q_.1, q_.2.2.2]) (fun q_ => by rw [if_neg q_.1, q_.2.2.2]), (hW.q ((Gsm.rf.u rfl).tr hGs) ((Ksm.rf.u rfl).tr hKs)).mo⟩
            · omega
          · omega
        · omega
      · exact absurd (show nI 0 ≤ nI 3 ∧ nI 3 ≤ nI 3 by decide) c22
theorem p_failsX {S : CS} {G : Nat → Nat → Value} {B : Nat → Nat → Int32} {J : Nat → Nat → Int64} {R : Nat → Nat → Option Nat} {n : Nat} {W : WS} (hW : WC n S G B R W) {j m : Nat} {c : Nat → Nat} (hj : j < 6) (htb : tbK (wK W) j = (m, c)) (h1 : 1 ≤ m) {l : Nat} (hll : l < kL (wK W)) {w : Int32} (hw : ¬ inP w 4) : CR 80 144 0 [some (.ref 2), some (.int (nI j)), some (.int (nI l)), some (.int w), none] [] S G B J R (fun r__ S' G' B' J' R' => r__ = some (.int (-1)) ∧ WC (n + 1) S' G' B' R' W) := by
  have hS := hW.1.1
  have hF := hW.2.1
  have hO := hW.2.2.2.1
  obtain ⟨ta, ka, la, hH, hLk, hl2, hs3, hbd⟩ := hW.2.2.1
  obtain ⟨zt, hzt, ezt⟩ := (hH.2.1 j hj).2
  have ht := hH.ta hj
  have hsh := hH.2.2.2.2.2.2.1 j hj
  rw [show kH (wK W) (kD (wK W)) j = (m, c) from htb] at hsh
  have hok := tb_ok hO hj
  rw [htb] at hok
  have hn : G (ta j) 0 = .int (nI m) := hsh.1
  have hc : TabC B (ta j) m c := hsh.c hok
  have hl : Lat m c := hok.2
  have hm6 : m ≤ 6 := hok.1
  have hyes : hasP (wK W) (nI j) := (has_i hj).mpr (by rw [htb]; exact h1)
  refine cr_nx (pc' := 1) (al' := [some (.ref 2), some (.int (nI j)), some (.int (nI l)), some (.int w), none]) (st' := [.ref 2]) d_144_0 (fun _ => rfl) ?_
  refine cr_nx (pc' := 2) (al' := [some (.ref 2), some (.int (nI j)), some (.int (nI l)), some (.int w), none]) (st' := [.int (nI j), .ref 2]) d_144_1 (fun _ => rfl) ?_
  refine cr_pv (b := 2) (as := [.int (nI j)]) (al0 := [some (.ref 2), some (.int (nI j))]) (r := []) d_144_2 cw_144 cm_11_137 cz_126 rfl rfl (hS.i (a := 2) (by decide) (by decide)) (by rw [cw_126]; exact (hS.s (a := 2) (by decide) (by decide) rfl)) (by rw [cw_126]; decide) rfl (Nat.le_of_ble_eq_true rfl) (k_has hS hF hH hO) ?_
  show CR _ _ 5 [some (.ref 2), some (.int (nI j)), some (.int (nI l)), some (.int w), none] [.int (bI (hasP (wK W) (nI j)))] S G B J R _
  refine cr_beq (t := 25) d_144_5 (by decide) (fun c5 => ?_) (fun c5 => ?_)
  · exact absurd hyes c5
  · refine cr_nx (pc' := 9) (al' := [some (.ref 2), some (.int (nI j)), some (.int (nI l)), some (.int w), none]) (st' := [.ref 2]) d_144_8 (fun _ => rfl) ?_
    refine cr_nx (pc' := 10) (al' := [some (.ref 2), some (.int (nI j)), some (.int (nI l)), some (.int w), none]) (st' := [.int (nI l), .ref 2]) d_144_9 (fun _ => rfl) ?_
    refine cr_pv (b := 2) (as := [.int (nI l)]) (al0 := [some (.ref 2), some (.int (nI l))]) (r := []) d_144_10 cw_144 cm_11_245 cz_143 rfl rfl (hS.i (a := 2) (by decide) (by decide)) (by rw [cw_143]; exact (hS.s (a := 2) (by decide) (by decide) rfl)) (by rw [cw_143]; decide) rfl (Nat.le_of_ble_eq_true rfl) (k_hasLaw hS hF hl2 hO.2.1) ?_
    show CR _ _ 13 [some (.ref 2), some (.int (nI j)), some (.int (nI l)), some (.int w), none] [.int (bI (inP (nI l) (kL (wK W))))] S G B J R _
    refine cr_beq (t := 25) d_144_13 (by decide) (fun c13 => ?_) (fun c13 => ?_)
    · exact absurd ((in_j (by have := hO.2.1; omega)).mpr hll) c13
    · refine cr_nx (pc' := 17) (al' := [some (.ref 2), some (.int (nI j)), some (.int (nI l)), some (.int w), none]) (st' := [.int w]) d_144_16 (fun _ => rfl) ?_
      refine cr_ilt (t := 25) d_144_17 (by decide) (fun c17 => ?_) (fun c17 => ?_)
      · refine cr_nx (pc' := 26) (al' := [some (.ref 2), some (.int (nI j)), some (.int (nI l)), some (.int w), none]) (st' := [.int (-1)]) d_144_25 (fun _ => rfl) ?_
        exact cr_ri d_144_26 cx_144 rfl ⟨rfl, hW.mo⟩
      · refine cr_nx (pc' := 21) (al' := [some (.ref 2), some (.int (nI j)), some (.int (nI l)), some (.int w), none]) (st' := [.int w]) d_144_20 (fun _ => rfl) ?_
        refine cn_ic (v := 3) d_144_21 (by decide) ?_
        refine cr_cle (t := 27) d_144_22 (by decide) (fun c22 => ?_) (fun c22 => ?_)
        · exact absurd (show inP w 4 from ⟨by rw [i_lt0] at c17; omega, by rw [i_Nle (by decide)] at c22; omega⟩) hw
        · refine cr_nx (pc' := 26) (al' := [some (.ref 2), some (.int (nI j)), some (.int (nI l)), some (.int w), none]) (st' := [.int (-1)]) d_144_25 (fun _ => rfl) ?_
          exact cr_ri d_144_26 cx_144 rfl ⟨rfl, hW.mo⟩
theorem r_failsX {g : Nat → Int32} {A : Nat → Nat → Int32} {n : Nat} {W : WS} (hW : WR n g A W) (hO : CoOk (wK W)) {j m : Nat} {c : Nat → Nat} (hj : j < 6) (htb : tbK (wK W) j = (m, c)) (h1 : 1 ≤ m) {l : Nat} (hll : l < kL (wK W)) {w : Int32} (hw : ¬ inP w 4) : RR 80 221 0 [some (.ref 146), some (.int (nI j)), some (.int (nI l)), some (.int w)] [] g A (fun r__ g' A' => r__ = some (.int (-1)) ∧ WR (n + 1) g' A' W) := by
  have hsh := hW.1.1.1 j hj
  rw [show kH (wK W) (kD (wK W)) j = (m, c) from htb] at hsh
  have hok := tb_ok hO hj
  rw [htb] at hok
  have hk : A 1 (37 * j) = nI m := hsh.1
  have hl : Lat m c := hok.2
  have hm6 : m ≤ 6 := hok.1
  have hyes : isT A (nI j) := (has_r hW hO).mpr ((has_i hj).mpr (by rw [htb]; exact h1))
  refine rr_nx (pc' := 1) (al' := [some (.ref 146), some (.int (nI j)), some (.int (nI l)), some (.int w)]) (st' := [.ref 146]) d_221_0 (fun _ => rfl) ?_
  refine rr_nx (pc' := 2) (al' := [some (.ref 146), some (.int (nI j)), some (.int (nI l)), some (.int w)]) (st' := [.int (nI j), .ref 146]) d_221_1 (fun _ => rfl) ?_
  refine rr_pv (as := [.int (nI j)]) (al0 := [some (.ref 146), some (.int (nI j))]) (r := []) d_221_2 mo_221 ml_124 mz_184 rfl rfl rfl (Nat.le_of_ble_eq_true rfl) (s_isTable (nI j)) ?_
  show RR _ _ 5 [some (.ref 146), some (.int (nI j)), some (.int (nI l)), some (.int w)] [.int (bI (isT A (nI j)))] g A _
  refine rr_beq (t := 25) d_221_5 (by decide) (fun c5 => ?_) (fun c5 => ?_)
  · exact absurd hyes c5
  · refine rr_nx (pc' := 9) (al' := [some (.ref 146), some (.int (nI j)), some (.int (nI l)), some (.int w)]) (st' := [.ref 146]) d_221_8 (fun _ => rfl) ?_
    refine rr_nx (pc' := 10) (al' := [some (.ref 146), some (.int (nI j)), some (.int (nI l)), some (.int w)]) (st' := [.int (nI l), .ref 146]) d_221_9 (fun _ => rfl) ?_
    refine rr_pv (as := [.int (nI l)]) (al0 := [some (.ref 146), some (.int (nI l))]) (r := []) d_221_10 mo_221 ml_245 mz_207 rfl rfl rfl (Nat.le_of_ble_eq_true rfl) (s_isLaw hW hO) ?_
    show RR _ _ 13 [some (.ref 146), some (.int (nI j)), some (.int (nI l)), some (.int w)] [.int (bI (inP (nI l) (kL (wK W))))] g A _
    refine rr_beq (t := 25) d_221_13 (by decide) (fun c13 => ?_) (fun c13 => ?_)
    · exact absurd ((in_j (by have := hO.2.1; omega)).mpr hll) c13
    · refine rr_nx (pc' := 17) (al' := [some (.ref 146), some (.int (nI j)), some (.int (nI l)), some (.int w)]) (st' := [.int w]) d_221_16 (fun _ => rfl) ?_
      refine rn_ic (v := 0) d_221_17 (by decide) ?_
      refine rn_ic (v := 3) d_221_18 (by decide) ?_
      refine rr_ps (as := [.int w, .int (nI 0), .int (nI 3)]) (al0 := [some (.int w), some (.int (nI 0)), some (.int (nI 3))]) (r := []) d_221_19 mo_221 ml_106 mz_179 rfl rfl rfl (Nat.le_of_ble_eq_true rfl) (s_lies w (nI 0) (nI 3)) ?_
      show RR _ _ 22 [some (.ref 146), some (.int (nI j)), some (.int (nI l)), some (.int w)] [.int (bI ((nI 0) ≤ w ∧ w ≤ (nI 3)))] g A _
      refine rr_bne (t := 27) d_221_22 (by decide) (fun c22 => ?_) (fun c22 => ?_)
      · exact absurd c22 (fun e_ => hw ((in_r (m := 3) (by decide)).mp e_))
      · refine rr_nx (pc' := 26) (al' := [some (.ref 146), some (.int (nI j)), some (.int (nI l)), some (.int w)]) (st' := [.int (-1)]) d_221_25 (fun _ => rfl) ?_
        exact rr_ri d_221_26 mr_221 rfl ⟨rfl, hW.mo⟩
theorem p_fails_x {S : CS} {G : Nat → Nat → Value} {B : Nat → Nat → Int32} {J : Nat → Nat → Int64} {R : Nat → Nat → Option Nat} {n : Nat} {W : WS} (hW : WC n S G B R W) {j m : Nat} {c : Nat → Nat} (hj : j < 6) (htb : tbK (wK W) j = (m, c)) (h1 : 1 ≤ m) {v w : Int32} (hv : ¬ inP v (kL (wK W))) : CR 80 144 0 [some (.ref 2), some (.int (nI j)), some (.int v), some (.int w), none] [] S G B J R (fun r__ S' G' B' J' R' => r__ = some (.int (-1)) ∧ WC (n + 1) S' G' B' R' W) := by
  have hS := hW.1.1
  have hF := hW.2.1
  have hO := hW.2.2.2.1
  obtain ⟨ta, ka, la, hH, hLk, hl2, hs3, hbd⟩ := hW.2.2.1
  obtain ⟨zt, hzt, ezt⟩ := (hH.2.1 j hj).2
  have ht := hH.ta hj
  have hsh := hH.2.2.2.2.2.2.1 j hj
  rw [show kH (wK W) (kD (wK W)) j = (m, c) from htb] at hsh
  have hok := tb_ok hO hj
  rw [htb] at hok
  have hn : G (ta j) 0 = .int (nI m) := hsh.1
  have hc : TabC B (ta j) m c := hsh.c hok
  have hl : Lat m c := hok.2
  have hm6 : m ≤ 6 := hok.1
  have hyes : hasP (wK W) (nI j) := (has_i hj).mpr (by rw [htb]; exact h1)
  refine cr_nx (pc' := 1) (al' := [some (.ref 2), some (.int (nI j)), some (.int v), some (.int w), none]) (st' := [.ref 2]) d_144_0 (fun _ => rfl) ?_
  refine cr_nx (pc' := 2) (al' := [some (.ref 2), some (.int (nI j)), some (.int v), some (.int w), none]) (st' := [.int (nI j), .ref 2]) d_144_1 (fun _ => rfl) ?_
  refine cr_pv (b := 2) (as := [.int (nI j)]) (al0 := [some (.ref 2), some (.int (nI j))]) (r := []) d_144_2 cw_144 cm_11_137 cz_126 rfl rfl (hS.i (a := 2) (by decide) (by decide)) (by rw [cw_126]; exact (hS.s (a := 2) (by decide) (by decide) rfl)) (by rw [cw_126]; decide) rfl (Nat.le_of_ble_eq_true rfl) (k_has hS hF hH hO) ?_
  show CR _ _ 5 [some (.ref 2), some (.int (nI j)), some (.int v), some (.int w), none] [.int (bI (hasP (wK W) (nI j)))] S G B J R _
  refine cr_beq (t := 25) d_144_5 (by decide) (fun c5 => ?_) (fun c5 => ?_)
  · exact absurd hyes c5
  · refine cr_nx (pc' := 9) (al' := [some (.ref 2), some (.int (nI j)), some (.int v), some (.int w), none]) (st' := [.ref 2]) d_144_8 (fun _ => rfl) ?_
    refine cr_nx (pc' := 10) (al' := [some (.ref 2), some (.int (nI j)), some (.int v), some (.int w), none]) (st' := [.int v, .ref 2]) d_144_9 (fun _ => rfl) ?_
    refine cr_pv (b := 2) (as := [.int v]) (al0 := [some (.ref 2), some (.int v)]) (r := []) d_144_10 cw_144 cm_11_245 cz_143 rfl rfl (hS.i (a := 2) (by decide) (by decide)) (by rw [cw_143]; exact (hS.s (a := 2) (by decide) (by decide) rfl)) (by rw [cw_143]; decide) rfl (Nat.le_of_ble_eq_true rfl) (k_hasLaw hS hF hl2 hO.2.1) ?_
    show CR _ _ 13 [some (.ref 2), some (.int (nI j)), some (.int v), some (.int w), none] [.int (bI (inP v (kL (wK W))))] S G B J R _
    refine cr_beq (t := 25) d_144_13 (by decide) (fun c13 => ?_) (fun c13 => ?_)
    · refine cr_nx (pc' := 26) (al' := [some (.ref 2), some (.int (nI j)), some (.int v), some (.int w), none]) (st' := [.int (-1)]) d_144_25 (fun _ => rfl) ?_
      exact cr_ri d_144_26 cx_144 rfl ⟨rfl, hW.mo⟩
    · exact absurd c13 hv
theorem r_fails_x {g : Nat → Int32} {A : Nat → Nat → Int32} {n : Nat} {W : WS} (hW : WR n g A W) (hO : CoOk (wK W)) {j m : Nat} {c : Nat → Nat} (hj : j < 6) (htb : tbK (wK W) j = (m, c)) (h1 : 1 ≤ m) {v w : Int32} (hv : ¬ inP v (kL (wK W))) : RR 80 221 0 [some (.ref 146), some (.int (nI j)), some (.int v), some (.int w)] [] g A (fun r__ g' A' => r__ = some (.int (-1)) ∧ WR (n + 1) g' A' W) := by
  have hsh := hW.1.1.1 j hj
  rw [show kH (wK W) (kD (wK W)) j = (m, c) from htb] at hsh
  have hok := tb_ok hO hj
  rw [htb] at hok
  have hk : A 1 (37 * j) = nI m := hsh.1
  have hl : Lat m c := hok.2
  have hm6 : m ≤ 6 := hok.1
  have hyes : isT A (nI j) := (has_r hW hO).mpr ((has_i hj).mpr (by rw [htb]; exact h1))
  refine rr_nx (pc' := 1) (al' := [some (.ref 146), some (.int (nI j)), some (.int v), some (.int w)]) (st' := [.ref 146]) d_221_0 (fun _ => rfl) ?_
  refine rr_nx (pc' := 2) (al' := [some (.ref 146), some (.int (nI j)), some (.int v), some (.int w)]) (st' := [.int (nI j), .ref 146]) d_221_1 (fun _ => rfl) ?_
  refine rr_pv (as := [.int (nI j)]) (al0 := [some (.ref 146), some (.int (nI j))]) (r := []) d_221_2 mo_221 ml_124 mz_184 rfl rfl rfl (Nat.le_of_ble_eq_true rfl) (s_isTable (nI j)) ?_
  show RR _ _ 5 [some (.ref 146), some (.int (nI j)), some (.int v), some (.int w)] [.int (bI (isT A (nI j)))] g A _
  refine rr_beq (t := 25) d_221_5 (by decide) (fun c5 => ?_) (fun c5 => ?_)
  · exact absurd hyes c5
  · refine rr_nx (pc' := 9) (al' := [some (.ref 146), some (.int (nI j)), some (.int v), some (.int w)]) (st' := [.ref 146]) d_221_8 (fun _ => rfl) ?_
    refine rr_nx (pc' := 10) (al' := [some (.ref 146), some (.int (nI j)), some (.int v), some (.int w)]) (st' := [.int v, .ref 146]) d_221_9 (fun _ => rfl) ?_
    refine rr_pv (as := [.int v]) (al0 := [some (.ref 146), some (.int v)]) (r := []) d_221_10 mo_221 ml_245 mz_207 rfl rfl rfl (Nat.le_of_ble_eq_true rfl) (s_isLaw hW hO) ?_
    show RR _ _ 13 [some (.ref 146), some (.int (nI j)), some (.int v), some (.int w)] [.int (bI (inP v (kL (wK W))))] g A _
    refine rr_beq (t := 25) d_221_13 (by decide) (fun c13 => ?_) (fun c13 => ?_)
    · refine rr_nx (pc' := 26) (al' := [some (.ref 146), some (.int (nI j)), some (.int v), some (.int w)]) (st' := [.int (-1)]) d_221_25 (fun _ => rfl) ?_
      exact rr_ri d_221_26 mr_221 rfl ⟨rfl, hW.mo⟩
    · exact absurd c13 hv
theorem p_fails_n {S : CS} {G : Nat → Nat → Value} {B : Nat → Nat → Int32} {J : Nat → Nat → Int64} {R : Nat → Nat → Option Nat} {n : Nat} {W : WS} (hW : WC n S G B R W) {t : Int32} (hh : ¬ hasP (wK W) t) {v w : Int32} : CR 80 144 0 [some (.ref 2), some (.int t), some (.int v), some (.int w), none] [] S G B J R (fun r__ S' G' B' J' R' => r__ = some (.int (-1)) ∧ WC (n + 1) S' G' B' R' W) := by
  have hS := hW.1.1
  have hF := hW.2.1
  have hO := hW.2.2.2.1
  obtain ⟨ta, ka, la, hH, hLk, hl2, hs3, hbd⟩ := hW.2.2.1
  refine cr_nx (pc' := 1) (al' := [some (.ref 2), some (.int t), some (.int v), some (.int w), none]) (st' := [.ref 2]) d_144_0 (fun _ => rfl) ?_
  refine cr_nx (pc' := 2) (al' := [some (.ref 2), some (.int t), some (.int v), some (.int w), none]) (st' := [.int t, .ref 2]) d_144_1 (fun _ => rfl) ?_
  refine cr_pv (b := 2) (as := [.int t]) (al0 := [some (.ref 2), some (.int t)]) (r := []) d_144_2 cw_144 cm_11_137 cz_126 rfl rfl (hS.i (a := 2) (by decide) (by decide)) (by rw [cw_126]; exact (hS.s (a := 2) (by decide) (by decide) rfl)) (by rw [cw_126]; decide) rfl (Nat.le_of_ble_eq_true rfl) (k_has hS hF hH hO) ?_
  show CR _ _ 5 [some (.ref 2), some (.int t), some (.int v), some (.int w), none] [.int (bI (hasP (wK W) t))] S G B J R _
  refine cr_beq (t := 25) d_144_5 (by decide) (fun c5 => ?_) (fun c5 => ?_)
  · refine cr_nx (pc' := 26) (al' := [some (.ref 2), some (.int t), some (.int v), some (.int w), none]) (st' := [.int (-1)]) d_144_25 (fun _ => rfl) ?_
    exact cr_ri d_144_26 cx_144 rfl ⟨rfl, hW.mo⟩
  · exact absurd c5 hh
theorem r_fails_n {g : Nat → Int32} {A : Nat → Nat → Int32} {n : Nat} {W : WS} (hW : WR n g A W) (hO : CoOk (wK W)) {t : Int32} (hh : ¬ hasP (wK W) t) {v w : Int32} : RR 80 221 0 [some (.ref 146), some (.int t), some (.int v), some (.int w)] [] g A (fun r__ g' A' => r__ = some (.int (-1)) ∧ WR (n + 1) g' A' W) := by
  refine rr_nx (pc' := 1) (al' := [some (.ref 146), some (.int t), some (.int v), some (.int w)]) (st' := [.ref 146]) d_221_0 (fun _ => rfl) ?_
  refine rr_nx (pc' := 2) (al' := [some (.ref 146), some (.int t), some (.int v), some (.int w)]) (st' := [.int t, .ref 146]) d_221_1 (fun _ => rfl) ?_
  refine rr_pv (as := [.int t]) (al0 := [some (.ref 146), some (.int t)]) (r := []) d_221_2 mo_221 ml_124 mz_184 rfl rfl rfl (Nat.le_of_ble_eq_true rfl) (s_isTable t) ?_
  show RR _ _ 5 [some (.ref 146), some (.int t), some (.int v), some (.int w)] [.int (bI (isT A t))] g A _
  refine rr_beq (t := 25) d_221_5 (by decide) (fun c5 => ?_) (fun c5 => ?_)
  · refine rr_nx (pc' := 26) (al' := [some (.ref 146), some (.int t), some (.int v), some (.int w)]) (st' := [.int (-1)]) d_221_25 (fun _ => rfl) ?_
    exact rr_ri d_221_26 mr_221 rfl ⟨rfl, hW.mo⟩
  · exact absurd c5 (fun e_ => hh ((has_r hW hO).mp e_))
theorem T_fails {S : CS} {G : Nat → Nat → Value} {B : Nat → Nat → Int32} {J : Nat → Nat → Int64} {R : Nat → Nat → Option Nat} {g : Nat → Int32} {A : Nat → Nat → Int32} {n : Nat} {W : WS} (hC : WC n S G B R W) (hR : WR n g A W) (hn : n ≤ 10000) {t : Int32} {v : Int32} {w : Int32} : Tie n 144 221 [some (.ref 2), some (.int t), some (.int v), some (.int w), none] [some (.ref 146), some (.int t), some (.int v), some (.int w)] S G B J R g A W := by
  have hO := hC.2.2.2.1
  by_cases hh : hasP (wK W) t
  · obtain ⟨j, hj, e_, h1⟩ := has_n hh
    subst e_
    obtain ⟨⟨m, c⟩, htb⟩ : ∃ tb, tbK (wK W) j = tb := ⟨_, rfl⟩
    rw [htb] at h1
    by_cases hv : inP v (kL (wK W))
    · obtain ⟨l, hll, e_⟩ := in_n hv
      subst e_
      obtain ⟨e, he, hu1, hu2⟩ := un_e (c := c) h1 (by have := (tb_ok hO hj).1; rw [htb] at this; exact this)
      by_cases hw : inP w 4
      · obtain ⟨k, hk, e_⟩ := in_n hw
        subst e_
        have hk2 : k = 0 ∨ k = 1 ∨ k = 2 ∨ k = 3 := by omega
        rcases hk2 with rfl | rfl | rfl | rfl
        · exact ⟨_, W, p_fails0 hC hj htb h1 hll he hu1 hu2, r_fails0 hR hO hj htb h1 hll he hu1 hu2⟩
        · exact ⟨_, W, p_fails1 hC hj htb h1 hll he hu1 hu2, r_fails1 hR hO hj htb h1 hll he hu1 hu2⟩
        · exact ⟨_, W, p_fails2 hC hj htb h1 hll he hu1 hu2, r_fails2 hR hO hj htb h1 hll he hu1 hu2⟩
        · exact ⟨_, W, p_fails3 hC hj htb h1 hll he hu1 hu2, r_fails3 hR hO hj htb h1 hll he hu1 hu2⟩
      · exact ⟨_, W, p_failsX hC hj htb h1 hll hw, r_failsX hR hO hj htb h1 hll hw⟩
    · exact ⟨_, W, p_fails_x hC hj htb h1 hv, r_fails_x hR hO hj htb h1 hv⟩
  · exact ⟨_, W, p_fails_n hC hh, r_fails_n hR hO hh⟩
