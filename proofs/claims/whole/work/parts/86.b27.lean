/-! Laws: the class reads terms, equations, sides; printed by wip/whole/gen_b27.py. -/
theorem k_rt_0 {S : CS} {G : Nat → Nat → Value} {B : Nat → Nat → Int32} {J : Nat → Nat → Int64} {R : Nat → Nat → Option Nat} {Q : CQ} (hS : ShOk S) {t : Nat → Nat} {len : Nat} {s : LSt} (hs : RdS t len G B s) {k : Nat} {r : Bool × LSt} {d : Nat} (ihx : CR (k + 1) 31 0 [some (.ref 83), some (.int (nI d))] [] S G B J R (RdK t len S G B J R r)) (hk : r.1 = true → ∀ G1 B1, Gfr [83] G G1 → Bfr [85] B B1 → RdS t len G1 B1 r.2 → CR (k + 1 + 1) 30 12 [some (.ref 83), some (.int (nI d)), some (.int (nI 0)), none] [] S G1 B1 J R Q) (hf : r.1 = false → ∀ G1 B1, Gfr [83] G G1 → Bfr [85] B B1 → G1 83 2 = .int (nI (tkP t len r.2.1)) → Q (some (.int (nI 0))) S G1 B1 J R) : CR (k + 1 + 1) 30 0 [some (.ref 83), some (.int (nI d)), none, none] [] S G B J R Q := by
  obtain ⟨j1, j2, j3, j4, j5, j6, j7, j8, j9, j10, j11⟩ := kj_all t len s.1
  have hm4 := hs.m
  refine cr_nx (pc' := 1) (al' := [some (.ref 83), some (.int (nI d)), none, none]) (st' := [.ref 83]) d_30_0 (fun _ => rfl) ?_
  refine cr_nx (pc' := 2) (al' := [some (.ref 83), some (.int (nI d)), none, none]) (st' := [.int (nI d), .ref 83]) d_30_1 (fun _ => rfl) ?_
  refine cr_cv (b := 83) (as := [.int (nI d)]) (al0 := [some (.ref 83), some (.int (nI d))]) (r := []) d_30_2 cw_30 cm_4_73 cz_31 rfl rfl (hS.i (a := 83) (by decide) (by decide)) (by rw [cw_31]; exact (hS.s (a := 83) (by decide) (by decide) rfl)) (by rw [cw_31]; decide) rfl (cr_wk (Nat.le_refl _) (ihx)) (fun v1 S1 G2 B2 J1 R1 h1 => ?_)
  obtain ⟨q0_, q1_, q2_, q3_, gf2, bf2, hs2⟩ := h1
  obtain rfl := q0_
  obtain rfl := q1_.symm
  obtain rfl := q2_.symm
  obtain rfl := q3_.symm
  show CR _ _ 5 [some (.ref 83), some (.int (nI d)), none, none] [.int (bI (r.1 = true))] S G2 B2 J R _
  refine cr_bne (t := 10) d_30_5 (by decide) (fun c5 => ?_) (fun c5 => ?_)
  · refine cn_ic (v := 0) d_30_10 (by decide) ?_
    refine cr_nx (pc' := 12) (al' := [some (.ref 83), some (.int (nI d)), some (.int (nI 0)), none]) (st' := []) d_30_11 (fun _ => rfl) ?_
    exact hk c5 G2 B2 gf2 bf2 (hs2.1 c5)
  · refine cn_ic (v := 0) d_30_8 (by decide) ?_
    exact cr_ri d_30_9 cx_30 (by decide) (hf (by simpa using c5) G2 B2 gf2 bf2 (hs2.2 (by simpa using c5)))
theorem k_rt12_n {S : CS} {G : Nat → Nat → Value} {B : Nat → Nat → Int32} {J : Nat → Nat → Int64} {R : Nat → Nat → Option Nat} (hS : ShOk S) {t : Nat → Nat} {len : Nat} {s : LSt} (hs : RdS t len G B s) {d i : Nat} (hi : i ≤ len) (hop : ¬ isOp (tkC t len s.1) = true) : CR (0) 30 12 [some (.ref 83), some (.int (nI d)), some (.int (nI i)), none] [] S G B J R (RdK t len S G B J R (true, s)) := by
  obtain ⟨j1, j2, j3, j4, j5, j6, j7, j8, j9, j10, j11⟩ := kj_all t len s.1
  have hm4 := hs.m
  refine cr_nx (pc' := 13) (al' := [some (.ref 83), some (.int (nI d)), some (.int (nI i)), none]) (st' := [.int (nI i)]) d_30_12 (fun _ => rfl) ?_
  refine cr_nx (pc' := 14) (al' := [some (.ref 83), some (.int (nI d)), some (.int (nI i)), none]) (st' := [.ref 83, .int (nI i)]) d_30_13 (fun _ => rfl) ?_
  refine cr_gf (v := .int (nI len)) d_30_14 cw_30 cf_4_26 (hS.i (a := 83) (by decide) (by decide)) (hS.s (a := 83) (by decide) (by decide) rfl) (by decide) hs.n ?_
  refine cn_cgt (t := 67) d_30_17 (by decide) (by first | omega | assumption | exact cu_36 (by omega) (cu_lt (by omega) (by omega))) (by first | omega | assumption | exact cu_36 (by omega) (cu_lt (by omega) (by omega))) (fun c17 => ?_) (fun c17 => ?_)
  · omega
  · refine cr_nx (pc' := 21) (al' := [some (.ref 83), some (.int (nI d)), some (.int (nI i)), none]) (st' := [.ref 83]) d_30_20 (fun _ => rfl) ?_
    refine cr_gf (v := .int (nI (kjN t len s.1))) d_30_21 cw_30 cf_4_48 (hS.i (a := 83) (by decide) (by decide)) (hS.s (a := 83) (by decide) (by decide) rfl) (by decide) hs.k ?_
    refine cn_ic (v := 4) d_30_24 (by decide) ?_
    refine cn_clt (t := 67) d_30_25 (by decide) (by first | omega | assumption | exact cu_36 (by omega) (cu_lt (by omega) (by omega))) (by first | omega | assumption | exact cu_36 (by omega) (cu_lt (by omega) (by omega))) (fun c25 => ?_) (fun c25 => ?_)
    · refine cn_ic (v := 1) d_30_67 (by decide) ?_
      exact cr_ri d_30_68 cx_30 (by decide) ⟨bI_tt, rfl, rfl, rfl, Gfr.rf, Bfr.rf, fun _ => hs, fun q => absurd (show true = false from q) (by decide)⟩
    · refine cr_nx (pc' := 29) (al' := [some (.ref 83), some (.int (nI d)), some (.int (nI i)), none]) (st' := [.ref 83]) d_30_28 (fun _ => rfl) ?_
      refine cr_gf (v := .int (nI (kjN t len s.1))) d_30_29 cw_30 cf_4_48 (hS.i (a := 83) (by decide) (by decide)) (hS.s (a := 83) (by decide) (by decide) rfl) (by decide) hs.k ?_
      refine cn_bp (v := 6) d_30_32 (by decide) ?_
      refine cn_cgt (t := 67) d_30_34 (by decide) (by first | omega | assumption | exact cu_36 (by omega) (cu_lt (by omega) (by omega))) (by first | omega | assumption | exact cu_36 (by omega) (cu_lt (by omega) (by omega))) (fun c34 => ?_) (fun c34 => ?_)
      · refine cn_ic (v := 1) d_30_67 (by decide) ?_
        exact cr_ri d_30_68 cx_30 (by decide) ⟨bI_tt, rfl, rfl, rfl, Gfr.rf, Bfr.rf, fun _ => hs, fun q => absurd (show true = false from q) (by decide)⟩
      · exact absurd (j5.mp (by omega)) hop
theorem k_rt12_o {S : CS} {G : Nat → Nat → Value} {B : Nat → Nat → Int32} {J : Nat → Nat → Int64} {R : Nat → Nat → Option Nat} {Q : CQ} (hS : ShOk S) {t : Nat → Nat} {len : Nat} {s : LSt} (hs : RdS t len G B s) {k : Nat} {r : Bool × LSt} {d i : Nat} (hi : i ≤ len) (hop : isOp (tkC t len s.1) = true) (ihx : ∀ G1 B1, RdS t len G1 B1 (s.1 + 1, s.2.1, s.2.2) → CR (k + 1) 31 0 [some (.ref 83), some (.int (nI d))] [] S G1 B1 J R (RdK t len S G1 B1 J R r)) (hl : r.1 = true → r.2.2.2.length < 64) (hk : r.1 = true → ∀ G1 B1, Gfr [83] G G1 → Bfr [85] B B1 → RdS t len G1 B1 (r.2.1, r.2.2.1, r.2.2.2 ++ [opN (tkC t len s.1)]) → CR (k + 1 + 1) 30 12 [some (.ref 83), some (.int (nI d)), some (.int (nI (i + 1))), none] [] S G1 B1 J R Q) (hf : r.1 = false → ∀ G1 B1, Gfr [83] G G1 → Bfr [85] B B1 → G1 83 2 = .int (nI (tkP t len r.2.1)) → Q (some (.int (nI 0))) S G1 B1 J R) : CR (k + 1 + 1) 30 12 [some (.ref 83), some (.int (nI d)), some (.int (nI i)), none] [] S G B J R Q := by
  obtain ⟨j1, j2, j3, j4, j5, j6, j7, j8, j9, j10, j11⟩ := kj_all t len s.1
  have hm4 := hs.m
  refine cr_nx (pc' := 13) (al' := [some (.ref 83), some (.int (nI d)), some (.int (nI i)), none]) (st' := [.int (nI i)]) d_30_12 (fun _ => rfl) ?_
  refine cr_nx (pc' := 14) (al' := [some (.ref 83), some (.int (nI d)), some (.int (nI i)), none]) (st' := [.ref 83, .int (nI i)]) d_30_13 (fun _ => rfl) ?_
  refine cr_gf (v := .int (nI len)) d_30_14 cw_30 cf_4_26 (hS.i (a := 83) (by decide) (by decide)) (hS.s (a := 83) (by decide) (by decide) rfl) (by decide) hs.n ?_
  refine cn_cgt (t := 67) d_30_17 (by decide) (by first | omega | assumption | exact cu_36 (by omega) (cu_lt (by omega) (by omega))) (by first | omega | assumption | exact cu_36 (by omega) (cu_lt (by omega) (by omega))) (fun c17 => ?_) (fun c17 => ?_)
  · omega
  · refine cr_nx (pc' := 21) (al' := [some (.ref 83), some (.int (nI d)), some (.int (nI i)), none]) (st' := [.ref 83]) d_30_20 (fun _ => rfl) ?_
    refine cr_gf (v := .int (nI (kjN t len s.1))) d_30_21 cw_30 cf_4_48 (hS.i (a := 83) (by decide) (by decide)) (hS.s (a := 83) (by decide) (by decide) rfl) (by decide) hs.k ?_
    refine cn_ic (v := 4) d_30_24 (by decide) ?_
    refine cn_clt (t := 67) d_30_25 (by decide) (by first | omega | assumption | exact cu_36 (by omega) (cu_lt (by omega) (by omega))) (by first | omega | assumption | exact cu_36 (by omega) (cu_lt (by omega) (by omega))) (fun c25 => ?_) (fun c25 => ?_)
    · exact absurd (j5.mpr hop) (by omega)
    · refine cr_nx (pc' := 29) (al' := [some (.ref 83), some (.int (nI d)), some (.int (nI i)), none]) (st' := [.ref 83]) d_30_28 (fun _ => rfl) ?_
      refine cr_gf (v := .int (nI (kjN t len s.1))) d_30_29 cw_30 cf_4_48 (hS.i (a := 83) (by decide) (by decide)) (hS.s (a := 83) (by decide) (by decide) rfl) (by decide) hs.k ?_
      refine cn_bp (v := 6) d_30_32 (by decide) ?_
      refine cn_cgt (t := 67) d_30_34 (by decide) (by first | omega | assumption | exact cu_36 (by omega) (cu_lt (by omega) (by omega))) (by first | omega | assumption | exact cu_36 (by omega) (cu_lt (by omega) (by omega))) (fun c34 => ?_) (fun c34 => ?_)
      · exact absurd (j5.mpr hop) (by omega)
      · refine cr_nx (pc' := 38) (al' := [some (.ref 83), some (.int (nI d)), some (.int (nI i)), none]) (st' := [.ref 83]) d_30_37 (fun _ => rfl) ?_
        refine cr_gf (v := .int (nI (kjN t len s.1))) d_30_38 cw_30 cf_4_48 (hS.i (a := 83) (by decide) (by decide)) (hS.s (a := 83) (by decide) (by decide) rfl) (by decide) hs.k ?_
        refine cr_nx (pc' := 42) (al' := [some (.ref 83), some (.int (nI d)), some (.int (nI i)), some (.int (nI (kjN t len s.1)))]) (st' := []) d_30_41 (fun _ => rfl) ?_
        refine cr_nx (pc' := 43) (al' := [some (.ref 83), some (.int (nI d)), some (.int (nI i)), some (.int (nI (kjN t len s.1)))]) (st' := [.ref 83]) d_30_42 (fun _ => rfl) ?_
        refine cr_cv (b := 83) (as := []) (al0 := [some (.ref 83), none]) (r := []) d_30_43 cw_30 cm_4_41 cz_26 rfl rfl (hS.i (a := 83) (by decide) (by decide)) (by rw [cw_26]; exact (hS.s (a := 83) (by decide) (by decide) rfl)) (by rw [cw_26]; decide) rfl (cr_wk (by omega) (k_goOnS hS hs (by have := op_0 hop; omega) (by have := op_0 hop; omega))) (fun v1 S1 G43 B43 J1 R1 h1 => ?_)
        obtain ⟨q0_, q1_, q2_, q3_, gf43, bf43, hs43⟩ := h1
        obtain rfl := q0_
        obtain rfl := q1_.symm
        obtain rfl := q2_.symm
        obtain rfl := q3_.symm
        show CR _ _ 46 [some (.ref 83), some (.int (nI d)), some (.int (nI i)), some (.int (nI (kjN t len s.1)))] [] S G43 B43 J R _
        refine cr_nx (pc' := 47) (al' := [some (.ref 83), some (.int (nI d)), some (.int (nI i)), some (.int (nI (kjN t len s.1)))]) (st' := [.ref 83]) d_30_46 (fun _ => rfl) ?_
        refine cr_nx (pc' := 48) (al' := [some (.ref 83), some (.int (nI d)), some (.int (nI i)), some (.int (nI (kjN t len s.1)))]) (st' := [.int (nI d), .ref 83]) d_30_47 (fun _ => rfl) ?_
        refine cr_cv (b := 83) (as := [.int (nI d)]) (al0 := [some (.ref 83), some (.int (nI d))]) (r := []) d_30_48 cw_30 cm_4_73 cz_31 rfl rfl (hS.i (a := 83) (by decide) (by decide)) (by rw [cw_31]; exact (hS.s (a := 83) (by decide) (by decide) rfl)) (by rw [cw_31]; decide) rfl (cr_wk (Nat.le_refl _) (ihx G43 B43 hs43)) (fun v1 S1 G48 B48 J1 R1 h1 => ?_)
        obtain ⟨q0_, q1_, q2_, q3_, gf48, bf48, hs48⟩ := h1
        obtain rfl := q0_
        obtain rfl := q1_.symm
        obtain rfl := q2_.symm
        obtain rfl := q3_.symm
        show CR _ _ 51 [some (.ref 83), some (.int (nI d)), some (.int (nI i)), some (.int (nI (kjN t len s.1)))] [.int (bI (r.1 = true))] S G48 B48 J R _
        refine cr_bne (t := 56) d_30_51 (by decide) (fun c51 => ?_) (fun c51 => ?_)
        · refine cr_nx (pc' := 57) (al' := [some (.ref 83), some (.int (nI d)), some (.int (nI i)), some (.int (nI (kjN t len s.1)))]) (st' := [.ref 83]) d_30_56 (fun _ => rfl) ?_
          refine cr_nx (pc' := 58) (al' := [some (.ref 83), some (.int (nI d)), some (.int (nI i)), some (.int (nI (kjN t len s.1)))]) (st' := [.int (nI (kjN t len s.1)), .ref 83]) d_30_57 (fun _ => rfl) ?_
          refine cr_cv (b := 83) (as := [.int (nI (kjN t len s.1))]) (al0 := [some (.ref 83), some (.int (nI (kjN t len s.1)))]) (r := []) d_30_58 cw_30 cm_4_69 cz_32 rfl rfl (hS.i (a := 83) (by decide) (by decide)) (by rw [cw_32]; exact (hS.s (a := 83) (by decide) (by decide) rfl)) (by rw [cw_32]; decide) rfl (cr_wk (by omega) (k_emitS hS (hs48.1 c51) (hl c51) (by have := j5.mpr hop; omega))) (fun v1 S1 G58 B58 J1 R1 h1 => ?_)
          obtain ⟨q0_, q1_, q2_, q3_, gf58, bf58, hs58⟩ := h1
          obtain rfl := q0_
          obtain rfl := q1_.symm
          obtain rfl := q2_.symm
          obtain rfl := q3_.symm
          show CR _ _ 61 [some (.ref 83), some (.int (nI d)), some (.int (nI i)), some (.int (nI (kjN t len s.1)))] [] S G58 B58 J R _
          refine cn_inc d_30_61 rfl rfl ?_
          show CR _ _ 64 [some (.ref 83), some (.int (nI d)), some (.int (nI (i + 1))), some (.int (nI (kjN t len s.1)))] [] S G58 B58 J R _
          refine cr_nx (pc' := 12) (al' := [some (.ref 83), some (.int (nI d)), some (.int (nI (i + 1))), some (.int (nI (kjN t len s.1)))]) (st' := []) d_30_64 (fun _ => rfl) ?_
          refine cr_dr (al1 := [some (.ref 83), some (.int (nI d)), some (.int (nI (i + 1))), none]) (le_s (le_s (le_s (le_d rfl (le_n))))) ?_
          rw [j6 hop] at hs58
          exact hk c51 G58 B58 ((gf43.tr gf48).tr gf58) ((bf43.tr bf48).tr bf58) hs58
        · refine cn_ic (v := 0) d_30_54 (by decide) ?_
          exact cr_ri d_30_55 cx_30 (by decide) (hf (by simpa using c51) G48 B48 (gf43.tr gf48) (bf43.tr bf48) (hs48.2 (by simpa using c51)))
theorem k_rt_loop {t : Nat → Nat} {len F e : Nat} (hP : PtK t len F e) : ∀ (f i : Nat) {S : CS} {G : Nat → Nat → Value} {B : Nat → Nat → Int32} {J : Nat → Nat → Int64} {R : Nat → Nat → Option Nat} {s : LSt}, ShOk S → RdS t len G B s → s.1 ≤ tkN t len → s.2.1 ≤ 32 → s.2.2.length ≤ 2 * s.2.1 → tkN t len < s.1 + f → i ≤ s.1 → CR (2 * e + 4) 30 12 [some (.ref 83), some (.int (nI (8 - e))), some (.int (nI i)), none] [] S G B J R (RdK t len S G B J R (rst (tkC t len) (prt (tkC t len) F e) f s))
  | 0, i, S, G, B, J, R, s, hS, hs, h1, h2, hw, h3, hi => by omega
  | f + 1, i, S, G, B, J, R, s, hS, hs, h1, h2, hw, h3, hi => by
    have hE := tkC_E t len
    have hN := (tkN_f (t := t) (len := len)).1
    by_cases hop : isOp (tkC t len s.1) = true
    · have hlt := cd_in hE h1 (by have := op_0 hop; omega)
      rw [rst_s hop]
      have hok := prt_ok (F := F) hE e (s.1 + 1, s.2.1, s.2.2) (by show s.1 + 1 ≤ _; omega) h2
      rcases hr : prt (tkC t len) F e (s.1 + 1, s.2.1, s.2.2) with ⟨b, u⟩
      rw [hr] at hok
      obtain ⟨o1, o2, o3, o4, o5, o6⟩ := hok
      dsimp only at o1 o2 o3 o4 o5 o6
      refine k_rt12_o (k := 2 * e + 2) (r := (b, u)) hS hs (by omega) hop (fun G1 B1 h => ?_) (fun q => ?_) (fun q G1 B1 hg hb h => ?_) (fun q G1 B1 hg hb h => ?_)
      · rw [← hr]
        exact hP hS h (by show s.1 + 1 ≤ _; omega) h2 hw
      · have := o6 q
        dsimp only
        omega
      · have q : b = true := q
        subst q
        have o3 := o3 rfl
        have o6 := o6 rfl
        exact cr_cq (k_rt_loop hP f (i + 1) (s := (u.1, u.2.1, u.2.2 ++ [opN (tkC t len s.1)])) hS h o2 o5 (by dsimp only; rw [List.length_append]; simp only [List.length_singleton]; omega) (by dsimp only; omega) (by dsimp only; omega)) (fun r S' G' B' J' R' h => RdP.tr hg hb h)
      · have q : b = false := q
        subst q
        exact ⟨bI_ff, rfl, rfl, rfl, hg, hb, fun q => absurd (show false = true from q) (by decide), fun _ => h⟩
    · rw [rst_n hop]
      exact cr_wk (Nat.zero_le _) (k_rt12_n hS hs (by omega) hop)
theorem k_readTerm {t : Nat → Nat} {len F e : Nat} (hF : tkN t len < F) (hP : PtK t len F e) : TmK t len F e := by
  intro S G B J R s hS hs h1 h2 hw
  have hE := tkC_E t len
  have hok := prt_ok (F := F) hE e s h1 h2
  have hrun := hP (J := J) (R := R) hS hs h1 h2 hw
  unfold trm
  rcases hr : prt (tkC t len) F e s with ⟨b, u⟩
  rw [hr] at hok hrun
  obtain ⟨o1, o2, o3, o4, o5, o6⟩ := hok
  dsimp only at o1 o2 o3 o4 o5 o6
  refine k_rt_0 (k := 2 * e + 2) (r := (b, u)) hS hs hrun (fun q G1 B1 hg hb h => ?_) (fun q G1 B1 hg hb h => ?_)
  · have q : b = true := q
    subst q
    have o6 := o6 rfl
    exact cr_cq (k_rt_loop hP F 0 (s := u) hS h o2 o5 (by omega) (by omega) (Nat.zero_le _)) (fun r S' G' B' J' R' h => RdP.tr hg hb h)
  · have q : b = false := q
    subst q
    exact ⟨bI_ff, rfl, rfl, rfl, hg, hb, fun q => absurd (show false = true from q) (by decide), fun _ => h⟩
theorem k_reads {t : Nat → Nat} {len F : Nat} (hF : tkN t len < F) : ∀ e, e ≤ 8 → PtK t len F e ∧ TmK t len F e
  | 0, _ => ⟨k_readPart_0, k_readTerm hF k_readPart_0⟩
  | e + 1, he => by
    have h : PtK t len F (e + 1) := k_readPart_s (show e < 8 by omega) (k_reads hF e (by omega)).2
    exact ⟨h, k_readTerm hF h⟩
theorem k_eqw {S : CS} {G : Nat → Nat → Value} {B : Nat → Nat → Int32} {J : Nat → Nat → Int64} {R : Nat → Nat → Option Nat} (hS : ShOk S) {t : Nat → Nat} {len : Nat} {s : LSt} (hs : RdS t len G B s) {k : Nat} {r r2 : Bool × LSt} (ihx : CR (k + 1) 30 0 [some (.ref 83), some (.int (nI 0)), none, none] [] S G B J R (RdK t len S G B J R r)) (ihy : r.1 = true → tkC t len r.2.1 = 161 → ∀ G1 B1, RdS t len G1 B1 (r.2.1 + 1, r.2.2.1, r.2.2.2) → CR (k + 1) 30 0 [some (.ref 83), some (.int (nI 0)), none, none] [] S G1 B1 J R (RdK t len S G1 B1 J R r2)) (hl : r.1 = true → tkC t len r.2.1 = 161 → r2.1 = true → r2.2.2.2.length < 64) : CR (k + 1 + 1) 29 0 [some (.ref 83)] [] S G B J R (RdK t len S G B J R (if r.1 = true ∧ tkC t len r.2.1 = 161 then (if r2.1 = true then (true, r2.2.1, r2.2.2.1, r2.2.2.2 ++ [7]) else (false, r2.2)) else (false, r.2))) := by
  obtain ⟨j1, j2, j3, j4, j5, j6, j7, j8, j9, j10, j11⟩ := kj_all t len s.1
  have hm4 := hs.m
  refine cr_nx (pc' := 1) (al' := [some (.ref 83)]) (st' := [.ref 83]) d_29_0 (fun _ => rfl) ?_
  refine cn_ic (v := 0) d_29_1 (by decide) ?_
  refine cr_cv (b := 83) (as := [.int (nI 0)]) (al0 := [some (.ref 83), some (.int (nI 0)), none, none]) (r := []) d_29_2 cw_29 cm_4_65 cz_30 rfl rfl (hS.i (a := 83) (by decide) (by decide)) (by rw [cw_30]; exact (hS.s (a := 83) (by decide) (by decide) rfl)) (by rw [cw_30]; decide) rfl (cr_wk (Nat.le_refl _) (ihx)) (fun v1 S1 G2 B2 J1 R1 h1 => ?_)
  obtain ⟨q0_, q1_, q2_, q3_, gf2, bf2, hs2⟩ := h1
  obtain rfl := q0_
  obtain rfl := q1_.symm
  obtain rfl := q2_.symm
  obtain rfl := q3_.symm
  show CR _ _ 5 [some (.ref 83)] [.int (bI (r.1 = true))] S G2 B2 J R _
  refine cr_beq (t := 17) d_29_5 (by decide) (fun c5 => ?_) (fun c5 => ?_)
  · refine cn_ic (v := 0) d_29_17 (by decide) ?_
    exact cr_ri d_29_18 cx_29 (by decide) (by rw [if_neg (fun q => c5 q.1)]; exact ⟨bI_ff, rfl, rfl, rfl, gf2, bf2, fun q => absurd (show false = true from q) (by decide), fun _ => hs2.2 (by simpa using c5)⟩)
  · refine cr_nx (pc' := 9) (al' := [some (.ref 83)]) (st' := [.ref 83]) d_29_8 (fun _ => rfl) ?_
    refine cr_gf (v := .int (nI (kjN t len r.2.1))) d_29_9 cw_29 cf_4_48 (hS.i (a := 83) (by decide) (by decide)) (hS.s (a := 83) (by decide) (by decide) rfl) (by decide) (hs2.1 c5).k ?_
    refine cn_bp (v := 7) d_29_12 (by decide) ?_
    refine cn_ceq (t := 19) d_29_14 (by decide) (by have := (kj_all t len r.2.1).2.2.2.2.2.2.2.2.2.2; omega) (by omega) (fun c14 => ?_) (fun c14 => ?_)
    · refine cr_nx (pc' := 20) (al' := [some (.ref 83)]) (st' := [.ref 83]) d_29_19 (fun _ => rfl) ?_
      refine cr_cv (b := 83) (as := []) (al0 := [some (.ref 83), none]) (r := []) d_29_20 cw_29 cm_4_41 cz_26 rfl rfl (hS.i (a := 83) (by decide) (by decide)) (by rw [cw_26]; exact (hS.s (a := 83) (by decide) (by decide) rfl)) (by rw [cw_26]; decide) rfl (cr_wk (by omega) (k_goOnS hS (hs2.1 c5) (by have := (kj_all t len r.2.1).2.2.2.2.2.2.1.mp c14; omega) (by have := (kj_all t len r.2.1).2.2.2.2.2.2.1.mp c14; omega))) (fun v1 S1 G20 B20 J1 R1 h1 => ?_)
      obtain ⟨q0_, q1_, q2_, q3_, gf20, bf20, hs20⟩ := h1
      obtain rfl := q0_
      obtain rfl := q1_.symm
      obtain rfl := q2_.symm
      obtain rfl := q3_.symm
      show CR _ _ 23 [some (.ref 83)] [] S G20 B20 J R _
      refine cr_nx (pc' := 24) (al' := [some (.ref 83)]) (st' := [.ref 83]) d_29_23 (fun _ => rfl) ?_
      refine cn_ic (v := 0) d_29_24 (by decide) ?_
      refine cr_cv (b := 83) (as := [.int (nI 0)]) (al0 := [some (.ref 83), some (.int (nI 0)), none, none]) (r := []) d_29_25 cw_29 cm_4_65 cz_30 rfl rfl (hS.i (a := 83) (by decide) (by decide)) (by rw [cw_30]; exact (hS.s (a := 83) (by decide) (by decide) rfl)) (by rw [cw_30]; decide) rfl (cr_wk (Nat.le_refl _) (ihy c5 ((kj_all t len r.2.1).2.2.2.2.2.2.1.mp c14) G20 B20 hs20)) (fun v1 S1 G25 B25 J1 R1 h1 => ?_)
      obtain ⟨q0_, q1_, q2_, q3_, gf25, bf25, hs25⟩ := h1
      obtain rfl := q0_
      obtain rfl := q1_.symm
      obtain rfl := q2_.symm
      obtain rfl := q3_.symm
      show CR _ _ 28 [some (.ref 83)] [.int (bI (r2.1 = true))] S G25 B25 J R _
      refine cr_bne (t := 33) d_29_28 (by decide) (fun c28 => ?_) (fun c28 => ?_)
      · refine cr_nx (pc' := 34) (al' := [some (.ref 83)]) (st' := [.ref 83]) d_29_33 (fun _ => rfl) ?_
        refine cn_bp (v := 7) d_29_34 (by decide) ?_
        refine cr_cv (b := 83) (as := [.int (nI 7)]) (al0 := [some (.ref 83), some (.int (nI 7))]) (r := []) d_29_36 cw_29 cm_4_69 cz_32 rfl rfl (hS.i (a := 83) (by decide) (by decide)) (by rw [cw_32]; exact (hS.s (a := 83) (by decide) (by decide) rfl)) (by rw [cw_32]; decide) rfl (cr_wk (by omega) (k_emitS hS (hs25.1 c28) (hl c5 ((kj_all t len r.2.1).2.2.2.2.2.2.1.mp c14) c28) (by decide))) (fun v1 S1 G36 B36 J1 R1 h1 => ?_)
        obtain ⟨q0_, q1_, q2_, q3_, gf36, bf36, hs36⟩ := h1
        obtain rfl := q0_
        obtain rfl := q1_.symm
        obtain rfl := q2_.symm
        obtain rfl := q3_.symm
        show CR _ _ 39 [some (.ref 83)] [] S G36 B36 J R _
        refine cn_ic (v := 1) d_29_39 (by decide) ?_
        exact cr_ri d_29_40 cx_29 (by decide) (by rw [if_pos ⟨c5, (kj_all t len r.2.1).2.2.2.2.2.2.1.mp c14⟩, if_pos c28]; exact ⟨bI_tt, rfl, rfl, rfl, ((gf2.tr gf20).tr gf25).tr gf36, ((bf2.tr bf20).tr bf25).tr bf36, fun _ => hs36, fun q => absurd (show true = false from q) (by decide)⟩)
      · refine cn_ic (v := 0) d_29_31 (by decide) ?_
        exact cr_ri d_29_32 cx_29 (by decide) (by rw [if_pos ⟨c5, (kj_all t len r.2.1).2.2.2.2.2.2.1.mp c14⟩, if_neg c28]; exact ⟨bI_ff, rfl, rfl, rfl, (gf2.tr gf20).tr gf25, (bf2.tr bf20).tr bf25, fun q => absurd (show false = true from q) (by decide), fun _ => hs25.2 (by simpa using c28)⟩)
    · refine cn_ic (v := 0) d_29_17 (by decide) ?_
      exact cr_ri d_29_18 cx_29 (by decide) (by rw [if_neg (fun q => c14 ((kj_all t len r.2.1).2.2.2.2.2.2.1.mpr q.2))]; exact ⟨bI_ff, rfl, rfl, rfl, gf2, bf2, fun q => absurd (show false = true from q) (by decide), fun _ => (hs2.1 c5).p⟩)
theorem eqn_w {cod : Nat → Nat} {F : Nat} {s : LSt} {r r2 : Bool × LSt} (hr : trm cod F (prt cod F 8) s = r) (hr2 : trm cod F (prt cod F 8) (r.2.1 + 1, r.2.2.1, r.2.2.2) = r2) : eqn cod F s = if r.1 = true ∧ cod r.2.1 = 161 then (if r2.1 = true then (true, r2.2.1, r2.2.2.1, r2.2.2.2 ++ [7]) else (false, r2.2)) else (false, r.2) := by
  unfold eqn
  rw [hr]
  rcases r with ⟨b, u⟩
  cases b
  · rw [if_neg (by simp)]
  · dsimp only at hr2 ⊢
    by_cases h : cod u.1 = 161
    · rw [if_pos h, if_pos ⟨rfl, h⟩, hr2]
      rcases r2 with ⟨b2, v⟩
      cases b2
      · rw [if_neg (by simp)]
      · rw [if_pos rfl]
    · rw [if_neg h, if_neg (fun q => h q.2)]
def EqK (t : Nat → Nat) (len F : Nat) : Prop := ∀ {S : CS} {G : Nat → Nat → Value} {B : Nat → Nat → Int32} {J : Nat → Nat → Int64} {R : Nat → Nat → Option Nat} {s : LSt}, ShOk S → RdS t len G B s → s.1 ≤ tkN t len → s.2.1 ≤ 32 → s.2.2.length ≤ 2 * s.2.1 → CR 21 29 0 [some (.ref 83)] [] S G B J R (RdK t len S G B J R (eqn (tkC t len) F s))
theorem k_readEquation {t : Nat → Nat} {len F : Nat} (hF : tkN t len < F) : EqK t len F := by
  intro S G B J R s hS hs h1 h2 hw
  have hE := tkC_E t len
  have hT : TmK t len F 8 := (k_reads hF 8 (Nat.le_refl 8)).2
  have hok := tr8_ok (F := F) (e := 8) hE s h1 h2
  have hrun := hT (J := J) (R := R) hS hs h1 h2 hw
  obtain ⟨r, hr⟩ : ∃ r, trm (tkC t len) F (prt (tkC t len) F 8) s = r := ⟨_, rfl⟩
  obtain ⟨r2, hr2⟩ : ∃ r2, trm (tkC t len) F (prt (tkC t len) F 8) (r.2.1 + 1, r.2.2.1, r.2.2.2) = r2 := ⟨_, rfl⟩
  rw [eqn_w hr hr2]
  rw [hr] at hok hrun
  obtain ⟨o1, o2, o3, o4, o5, o6⟩ := hok
  refine k_eqw (k := 19) hS hs hrun (fun q c G1 B1 h => ?_) (fun q c q2 => ?_)
  · have hlt := cd_in hE o2 (by omega)
    have o6 := o6 q
    rw [← hr2]
    exact hT hS h (by show r.2.1 + 1 ≤ _; omega) o5 (by dsimp only; omega)
  · have hlt := cd_in hE o2 (by omega)
    have o6 := o6 q
    have hok2 := tr8_ok (F := F) (e := 8) hE (r.2.1 + 1, r.2.2.1, r.2.2.2) (by show r.2.1 + 1 ≤ _; omega) o5
    rw [hr2] at hok2
    obtain ⟨p1, p2, p3, p4, p5, p6⟩ := hok2
    have p6 := p6 q2
    dsimp only at p6
    omega
theorem k_sd2 {S : CS} {G : Nat → Nat → Value} {B : Nat → Nat → Int32} {J : Nat → Nat → Int64} {R : Nat → Nat → Option Nat} {Q : CQ} (hS : ShOk S) {t : Nat → Nat} {len : Nat} {s : LSt} (hs : RdS t len G B s) {k : Nat} {r : Bool × LSt} {i : Nat} (hi : i ≤ len) (ihx : CR (k + 1) 29 0 [some (.ref 83)] [] S G B J R (RdK t len S G B J R r)) (hk : r.1 = true → tkC t len r.2.1 = 144 → ∀ G1 B1, Gfr [83] G G1 → Bfr [85] B B1 → RdS t len G1 B1 (r.2.1 + 1, r.2.2.1, r.2.2.2) → CR (k + 1 + 1) 28 2 [some (.ref 83), some (.int (nI (i + 1)))] [] S G1 B1 J R Q) (hn : r.1 = true → ¬ tkC t len r.2.1 = 144 → ∀ G1 B1, Gfr [83] G G1 → Bfr [85] B B1 → RdS t len G1 B1 r.2 → Q (some (.int (nI 1))) S G1 B1 J R) (hf : r.1 = false → ∀ G1 B1, Gfr [83] G G1 → Bfr [85] B B1 → G1 83 2 = .int (nI (tkP t len r.2.1)) → Q (some (.int (nI 0))) S G1 B1 J R) : CR (k + 1 + 1) 28 2 [some (.ref 83), some (.int (nI i))] [] S G B J R Q := by
  obtain ⟨j1, j2, j3, j4, j5, j6, j7, j8, j9, j10, j11⟩ := kj_all t len s.1
  have hm4 := hs.m
  refine cr_nx (pc' := 3) (al' := [some (.ref 83), some (.int (nI i))]) (st' := [.int (nI i)]) d_28_2 (fun _ => rfl) ?_
  refine cr_nx (pc' := 4) (al' := [some (.ref 83), some (.int (nI i))]) (st' := [.ref 83, .int (nI i)]) d_28_3 (fun _ => rfl) ?_
  refine cr_gf (v := .int (nI len)) d_28_4 cw_28 cf_4_26 (hS.i (a := 83) (by decide) (by decide)) (hS.s (a := 83) (by decide) (by decide) rfl) (by decide) hs.n ?_
  refine cn_cgt (t := 40) d_28_7 (by decide) (by first | omega | assumption | exact cu_36 (by omega) (cu_lt (by omega) (by omega))) (by first | omega | assumption | exact cu_36 (by omega) (cu_lt (by omega) (by omega))) (fun c7 => ?_) (fun c7 => ?_)
  · omega
  · refine cr_nx (pc' := 11) (al' := [some (.ref 83), some (.int (nI i))]) (st' := [.ref 83]) d_28_10 (fun _ => rfl) ?_
    refine cr_cv (b := 83) (as := []) (al0 := [some (.ref 83)]) (r := []) d_28_11 cw_28 cm_4_62 cz_29 rfl rfl (hS.i (a := 83) (by decide) (by decide)) (by rw [cw_29]; exact (hS.s (a := 83) (by decide) (by decide) rfl)) (by rw [cw_29]; decide) rfl (cr_wk (Nat.le_refl _) (ihx)) (fun v1 S1 G11 B11 J1 R1 h1 => ?_)
    obtain ⟨q0_, q1_, q2_, q3_, gf11, bf11, hs11⟩ := h1
    obtain rfl := q0_
    obtain rfl := q1_.symm
    obtain rfl := q2_.symm
    obtain rfl := q3_.symm
    show CR _ _ 14 [some (.ref 83), some (.int (nI i))] [.int (bI (r.1 = true))] S G11 B11 J R _
    refine cr_bne (t := 19) d_28_14 (by decide) (fun c14 => ?_) (fun c14 => ?_)
    · refine cr_nx (pc' := 20) (al' := [some (.ref 83), some (.int (nI i))]) (st' := [.ref 83]) d_28_19 (fun _ => rfl) ?_
      refine cr_gf (v := .int (nI (kjN t len r.2.1))) d_28_20 cw_28 cf_4_48 (hS.i (a := 83) (by decide) (by decide)) (hS.s (a := 83) (by decide) (by decide) rfl) (by decide) (hs11.1 c14).k ?_
      refine cn_bp (v := 8) d_28_23 (by decide) ?_
      refine cn_ceq (t := 30) d_28_25 (by decide) (by have := (kj_all t len r.2.1).2.2.2.2.2.2.2.2.2.2; omega) (by omega) (fun c25 => ?_) (fun c25 => ?_)
      · refine cr_nx (pc' := 31) (al' := [some (.ref 83), some (.int (nI i))]) (st' := [.ref 83]) d_28_30 (fun _ => rfl) ?_
        refine cr_cv (b := 83) (as := []) (al0 := [some (.ref 83), none]) (r := []) d_28_31 cw_28 cm_4_41 cz_26 rfl rfl (hS.i (a := 83) (by decide) (by decide)) (by rw [cw_26]; exact (hS.s (a := 83) (by decide) (by decide) rfl)) (by rw [cw_26]; decide) rfl (cr_wk (by omega) (k_goOnS hS (hs11.1 c14) (by have := (kj_all t len r.2.1).2.2.2.2.2.2.2.1.mp c25; omega) (by have := (kj_all t len r.2.1).2.2.2.2.2.2.2.1.mp c25; omega))) (fun v1 S1 G31 B31 J1 R1 h1 => ?_)
        obtain ⟨q0_, q1_, q2_, q3_, gf31, bf31, hs31⟩ := h1
        obtain rfl := q0_
        obtain rfl := q1_.symm
        obtain rfl := q2_.symm
        obtain rfl := q3_.symm
        show CR _ _ 34 [some (.ref 83), some (.int (nI i))] [] S G31 B31 J R _
        refine cn_inc d_28_34 rfl rfl ?_
        show CR _ _ 37 [some (.ref 83), some (.int (nI (i + 1)))] [] S G31 B31 J R _
        refine cr_nx (pc' := 2) (al' := [some (.ref 83), some (.int (nI (i + 1)))]) (st' := []) d_28_37 (fun _ => rfl) ?_
        exact hk c14 ((kj_all t len r.2.1).2.2.2.2.2.2.2.1.mp c25) G31 B31 (gf11.tr gf31) (bf11.tr bf31) hs31
      · refine cn_ic (v := 1) d_28_28 (by decide) ?_
        exact cr_ri d_28_29 cx_28 (by decide) (hn c14 (fun q => c25 ((kj_all t len r.2.1).2.2.2.2.2.2.2.1.mpr q)) G11 B11 gf11 bf11 (hs11.1 c14))
    · refine cn_ic (v := 0) d_28_17 (by decide) ?_
      exact cr_ri d_28_18 cx_28 (by decide) (hf (by simpa using c14) G11 B11 gf11 bf11 (hs11.2 (by simpa using c14)))
theorem k_sd_loop {t : Nat → Nat} {len F : Nat} (hP : EqK t len F) : ∀ (f i : Nat) {S : CS} {G : Nat → Nat → Value} {B : Nat → Nat → Int32} {J : Nat → Nat → Int64} {R : Nat → Nat → Option Nat} {s : LSt}, ShOk S → RdS t len G B s → s.1 ≤ tkN t len → s.2.1 ≤ 32 → s.2.2.length ≤ 2 * s.2.1 → tkN t len < s.1 + f → i ≤ s.1 → CR 22 28 2 [some (.ref 83), some (.int (nI i))] [] S G B J R (RdK t len S G B J R (match eqn (tkC t len) F s with
    | (true, u) => sdR (tkC t len) F f u
    | (false, u) => (false, u)))
  | 0, i, S, G, B, J, R, s, hS, hs, h1, h2, hw, h3, hi => by omega
  | f + 1, i, S, G, B, J, R, s, hS, hs, h1, h2, hw, h3, hi => by
    have hE := tkC_E t len
    have hN := (tkN_f (t := t) (len := len)).1
    have hok := eqn_ok (F := F) hE s h1 h2
    have hrun := hP (J := J) (R := R) hS hs h1 h2 hw
    rcases hr : eqn (tkC t len) F s with ⟨b, u⟩
    rw [hr] at hok hrun
    obtain ⟨o1, o2, o3, o4, o5, o6⟩ := hok
    dsimp only at o1 o2 o3 o4 o5 o6
    refine k_sd2 (k := 20) (r := (b, u)) hS hs (by omega) hrun (fun q c G1 B1 hg hb h => ?_) (fun q c G1 B1 hg hb h => ?_) (fun q G1 B1 hg hb h => ?_)
    · have q : b = true := q
      subst q
      have c : tkC t len u.1 = 144 := c
      have hlt := cd_in hE o2 (by omega)
      have o6 := o6 rfl
      have o3 := o3 rfl
      dsimp only
      rw [sdR_s c]
      exact cr_cq (k_sd_loop hP f (i + 1) (s := (u.1 + 1, u.2.1, u.2.2)) hS h (by show u.1 + 1 ≤ _; omega) o5 (by dsimp only; omega) (by dsimp only; omega) (by dsimp only; omega)) (fun r S' G' B' J' R' h => RdP.tr hg hb h)
    · have q : b = true := q
      subst q
      dsimp only
      rw [sdR_n c]
      exact ⟨bI_tt, rfl, rfl, rfl, hg, hb, fun _ => h, fun q => absurd (show true = false from q) (by decide)⟩
    · have q : b = false := q
      subst q
      exact ⟨bI_ff, rfl, rfl, rfl, hg, hb, fun q => absurd (show false = true from q) (by decide), fun _ => h⟩
theorem k_sd0 {S : CS} {G : Nat → Nat → Value} {B : Nat → Nat → Int32} {J : Nat → Nat → Int64} {R : Nat → Nat → Option Nat} {Q : CQ} {K : Nat} (hk : CR K 28 2 [some (.ref 83), some (.int (nI 0))] [] S G B J R Q) : CR K 28 0 [some (.ref 83), none] [] S G B J R Q := by
  refine cn_ic (v := 0) d_28_0 (by decide) ?_
  refine cr_nx (pc' := 2) (al' := [some (.ref 83), some (.int (nI 0))]) (st' := []) d_28_1 (fun _ => rfl) ?_
  exact hk
theorem k_readSide {t : Nat → Nat} {len F : Nat} (hF : tkN t len < F) {S : CS} {G : Nat → Nat → Value} {B : Nat → Nat → Int32} {J : Nat → Nat → Int64} {R : Nat → Nat → Option Nat} {s : LSt} (hS : ShOk S) (hs : RdS t len G B s) (h1 : s.1 ≤ tkN t len) (h2 : s.2.1 ≤ 32) (hw : s.2.2.length ≤ 2 * s.2.1) : CR 22 28 0 [some (.ref 83), none] [] S G B J R (RdK t len S G B J R (sid (tkC t len) F s)) := k_sd0 (k_sd_loop (k_readEquation hF) F 0 hS hs h1 h2 hw (by omega) (Nat.zero_le _))
