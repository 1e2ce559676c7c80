/-! Laws: the class reads a law; printed by wip/whole/gen_b29.py. -/
theorem k_rl0 {S : CS} {G : Nat → Nat → Value} {B : Nat → Nat → Int32} {J : Nat → Nat → Int64} {R : Nat → Nat → Option Nat} {Q : CQ} {t : Nat → Nat} {len K : Nat} (hS : ShOk S) (h5 : G 83 5 = .ref 85) (hl4 : len ≤ 400) (hB : ∀ i, i < len → B 82 i = nI (t i) ∧ t i < 256) (hk : ∀ G1, Gfr [83] G G1 → RdS t len G1 B (0, 0, []) → CR (K + 1 + 1) 25 39 [some (.ref 83), some (.ref 82), some (.int (nI len)), none] [] S G1 B J R Q) : CR (K + 1 + 1) 25 0 [some (.ref 83), some (.ref 82), some (.int (nI len)), none] [] S G B J R Q := by
  refine cr_nx (pc' := 1) (al' := [some (.ref 83), some (.ref 82), some (.int (nI len)), none]) (st' := [.ref 83]) d_25_0 (fun _ => rfl) ?_
  refine cr_nx (pc' := 2) (al' := [some (.ref 83), some (.ref 82), some (.int (nI len)), none]) (st' := [.ref 82, .ref 83]) d_25_1 (fun _ => rfl) ?_
  refine cp_4_0  d_25_2 cw_25 cf_4_7 (hS.i (a := 83) (by decide) (by decide)) (hS.s (a := 83) (by decide) (by decide) rfl) (by decide) ?_
  refine cr_nx (pc' := 6) (al' := [some (.ref 83), some (.ref 82), some (.int (nI len)), none]) (st' := [.ref 83]) d_25_5 (fun _ => rfl) ?_
  refine cr_nx (pc' := 7) (al' := [some (.ref 83), some (.ref 82), some (.int (nI len)), none]) (st' := [.int (nI len), .ref 83]) d_25_6 (fun _ => rfl) ?_
  refine cr_nx (pc' := 8) (al' := [some (.ref 83), some (.ref 82), some (.int (nI len)), none]) (st' := [.ref 82, .int (nI len), .ref 83]) d_25_7 (fun _ => rfl) ?_
  refine cr_le d_25_8 (hS.i (a := 82) (by decide) (by decide)) (by decide) (by decide) (hS.s (a := 82) (by decide) (by decide) rfl) ?_
  refine cr_mn d_25_9 cw_25 cm_4_20 rfl ?_
  refine cr_tp (z := (nI len)) (if_neg (fun q => by have := (nI_ltI (by decide) (by omega)).mp q; omega)) ?_
  refine cp_4_1  d_25_12 cw_25 cf_4_26 (hS.i (a := 83) (by decide) (by decide)) (hS.s (a := 83) (by decide) (by decide) rfl) (by decide) ?_
  refine cr_nx (pc' := 16) (al' := [some (.ref 83), some (.ref 82), some (.int (nI len)), none]) (st' := [.ref 83]) d_25_15 (fun _ => rfl) ?_
  refine cn_ic (v := 0) d_25_16 (by decide) ?_
  refine cp_4_3  d_25_17 cw_25 cf_4_29 (hS.i (a := 83) (by decide) (by decide)) (hS.s (a := 83) (by decide) (by decide) rfl) (by decide) ?_
  refine cr_nx (pc' := 21) (al' := [some (.ref 83), some (.ref 82), some (.int (nI len)), none]) (st' := [.ref 83]) d_25_20 (fun _ => rfl) ?_
  refine cn_ic (v := 0) d_25_21 (by decide) ?_
  refine cp_4_6  d_25_22 cw_25 cf_4_32 (hS.i (a := 83) (by decide) (by decide)) (hS.s (a := 83) (by decide) (by decide) rfl) (by decide) ?_
  refine cr_nx (pc' := 26) (al' := [some (.ref 83), some (.ref 82), some (.int (nI len)), none]) (st' := [.ref 83]) d_25_25 (fun _ => rfl) ?_
  refine cn_ic (v := 0) d_25_26 (by decide) ?_
  refine cp_4_7  d_25_27 cw_25 cf_4_35 (hS.i (a := 83) (by decide) (by decide)) (hS.s (a := 83) (by decide) (by decide) rfl) (by decide) ?_
  refine cr_nx (pc' := 31) (al' := [some (.ref 83), some (.ref 82), some (.int (nI len)), none]) (st' := [.ref 83]) d_25_30 (fun _ => rfl) ?_
  refine cn_ic (v := 0) d_25_31 (by decide) ?_
  refine cp_4_8  d_25_32 cw_25 cf_4_38 (hS.i (a := 83) (by decide) (by decide)) (hS.s (a := 83) (by decide) (by decide) rfl) (by decide) ?_
  refine cr_nx (pc' := 36) (al' := [some (.ref 83), some (.ref 82), some (.int (nI len)), none]) (st' := [.ref 83]) d_25_35 (fun _ => rfl) ?_
  refine cr_pv (b := 83) (as := []) (al0 := [some (.ref 83), none]) (r := []) d_25_36 cw_25 cm_4_41 cz_26 rfl rfl (hS.i (a := 83) (by decide) (by decide)) (by rw [cw_26]; exact (hS.s (a := 83) (by decide) (by decide) rfl)) (by rw [cw_26]; decide) rfl (by omega) (k_goOn hS ⟨by simp [up2], by simp [up2], by simp [up2]; exact h5, hl4, hB⟩ (q := 0) (by simp [up2]) (Nat.zero_le _)) ?_
  show CR _ _ 39 [some (.ref 83), some (.ref 82), some (.int (nI len)), none] [] S (up2 (up2 (up2 (up2 (up2 (up2 (up2 (up2 (up2 G 83 0 (.ref 82)) 83 1 (.int (nI len))) 83 3 (.int (nI 0))) 83 6 (.int (nI 0))) 83 7 (.int (nI 0))) 83 8 (.int (nI 0))) 83 2 (.int (nI (skp t len 0)))) 83 3 (.int (nI (enC t len (skp t len 0))))) 83 4 (.int (nI (kdT t len (skp t len 0))))) B J R _
  refine hk _ (fun b hb => by (have hb3 : b ≠ 83 := (by simpa using hb)); (funext k_); (simp [up2, hb3])) ⟨⟨by simp [up2], by simp [up2], by simp [up2]; exact h5, hl4, hB⟩, ?_, ?_, ?_, ?_, ?_, ?_, fun i hi => absurd hi (Nat.not_lt_zero _)⟩
  all_goals simp [up2, tkP, kjN, usN]
theorem RdS.pu {t : Nat → Nat} {len a : Nat} {f : Nat → Value} {G : Nat → Nat → Value} {B : Nat → Nat → Int32} {s : LSt} (h : RdS t len G B s) (ha : 83 ≠ a) : RdS t len (upr G a f) B s := by
  unfold RdS RdT at *
  rw [upr_n ha]
  exact h
theorem cl_4_51 : am_cl 4 51 = some 3 := by decide +kernel
theorem kj_end {t : Nat → Nat} {len j : Nat} (hj : j ≤ tkN t len) : kjN t len j = 12 ↔ j = tkN t len := by
  obtain ⟨h1, h2, h3⟩ := tkN_f (t := t) (len := len)
  rw [(kj_all t len j).2.2.2.2.2.2.2.2.2.1]
  constructor
  · intro e
    rcases Nat.lt_or_ge j (tkN t len) with q | q
    · have := h2 j q
      omega
    · omega
  · intro e
    rw [e]
    exact h3
theorem k_rl75 {S : CS} {G : Nat → Nat → Value} {B : Nat → Nat → Int32} {J : Nat → Nat → Int64} {R : Nat → Nat → Option Nat} {Q : CQ} {t : Nat → Nat} {len n0 i : Nat} {s : LSt} (hS : ShOk S) (hs : RdS t len G B s) (h1 : s.1 ≤ tkN t len) (hl : s.2.2.length < 64) (hk : s.1 = tkN t len → ∀ G' B', (∀ b, b ≠ S.1 → G' b = G b) → (∀ b, b ≠ S.1 + 1 → B' b = B b) → LawAt (cs_pu (cs_pu S (100 + 3, 3)) (0, s.2.2.length)) G' B' S.1 s.2.2 i → Q (some (.ref S.1)) (cs_pu (cs_pu S (100 + 3, 3)) (0, s.2.2.length)) G' B' J R) (hf : ¬ s.1 = tkN t len → Q (some .null) S G B J R) : CR 1 25 75 [some (.ref 83), some (.ref 82), some (.int (nI n0)), some (.int (nI i))] [] S G B J R Q := by
  refine cr_nx (pc' := 76) (al' := [some (.ref 83), some (.ref 82), some (.int (nI n0)), some (.int (nI i))]) (st' := [.ref 83]) d_25_75 (fun _ => rfl) ?_
  refine cr_gf (v := .int (nI (kjN t len s.1))) d_25_76 cw_25 cf_4_48 (hS.i (a := 83) (by decide) (by decide)) (hS.s (a := 83) (by decide) (by decide) rfl) (by decide) hs.k ?_
  refine cn_bp (v := 12) d_25_79 (by decide) ?_
  refine cn_cne (t := 110) d_25_81 (by decide) (by have := (kj_all t len s.1).2.2.2.2.2.2.2.2.2.2; omega) (by omega) (fun c81 => ?_) (fun c81 => ?_)
  · refine cr_nx (pc' := 111) (al' := [some (.ref 83), some (.ref 82), some (.int (nI n0)), some (.int (nI i))]) (st' := [.null]) d_25_110 (fun _ => rfl) ?_
    exact cr_rN d_25_111 cx_25 (by first | exact Or.inl ⟨_, rfl⟩ | exact Or.inr ⟨_, rfl⟩) (hf (fun q => c81 ((kj_end h1).mpr q)))
  · refine cr_nw d_25_84 cw_25 cl_4_51 (by decide) (by have := hS.1; omega) ?_
    rw [show am_N 3 = 3 by decide +kernel]
    refine k_rl87 (S := cs_pu S (100 + 3, 3)) (a := S.1) hS.pu (cs_pi hS) cs_ps rfl (hs.pu (by have := hS.1; omega)) hl (fun G' B' hg hb h => ?_)
    exact hk ((kj_end h1).mp c81) G' B' (fun b hb => by rw [hg b hb, upr_n hb]) hb h
theorem k_rl39 {S : CS} {G : Nat → Nat → Value} {B : Nat → Nat → Int32} {J : Nat → Nat → Int64} {R : Nat → Nat → Option Nat} {Q : CQ} {t : Nat → Nat} {len k : Nat} {r r2 : Bool × LSt} (hS : ShOk S) (ihx : CR (k + 1) 28 0 [some (.ref 83), none] [] S G B J R (RdK t len S G B J R r)) (ihy : r.1 = true → tkC t len r.2.1 = 5 → ∀ G1 B1, RdS t len G1 B1 (r.2.1 + 1, r.2.2.1, r.2.2.2) → CR (k + 1) 28 0 [some (.ref 83), none] [] S G1 B1 J R (RdK t len S G1 B1 J R r2)) (hkA : r.1 = true → ¬ tkC t len r.2.1 = 5 → ∀ G1 B1, Gfr [83] G G1 → Bfr [85] B B1 → RdS t len G1 B1 r.2 → CR (k + 1 + 1) 25 75 [some (.ref 83), some (.ref 82), some (.int (nI len)), some (.int (nI r.2.2.2.length))] [] S G1 B1 J R Q) (hkB : r.1 = true → tkC t len r.2.1 = 5 → r2.1 = true → ∀ G1 B1, Gfr [83] G G1 → Bfr [85] B B1 → RdS t len G1 B1 r2.2 → CR (k + 1 + 1) 25 75 [some (.ref 83), some (.ref 82), some (.int (nI len)), some (.int (nI r.2.2.2.length))] [] S G1 B1 J R Q) (hf1 : r.1 = false → ∀ G1 B1, Gfr [83] G G1 → Bfr [85] B B1 → G1 83 2 = .int (nI (tkP t len r.2.1)) → Q (some .null) S G1 B1 J R) (hf2 : r.1 = true → tkC t len r.2.1 = 5 → r2.1 = false → ∀ G1 B1, Gfr [83] G G1 → Bfr [85] B B1 → G1 83 2 = .int (nI (tkP t len r2.2.1)) → Q (some .null) S G1 B1 J R) : CR (k + 1 + 1) 25 39 [some (.ref 83), some (.ref 82), some (.int (nI len)), none] [] S G B J R Q := by
  refine cr_nx (pc' := 40) (al' := [some (.ref 83), some (.ref 82), some (.int (nI len)), none]) (st' := [.ref 83]) d_25_39 (fun _ => rfl) ?_
  refine cr_cv (b := 83) (as := []) (al0 := [some (.ref 83), none]) (r := []) d_25_40 cw_25 cm_4_44 cz_28 rfl rfl (hS.i (a := 83) (by decide) (by decide)) (by rw [cw_28]; exact (hS.s (a := 83) (by decide) (by decide) rfl)) (by rw [cw_28]; decide) rfl (cr_wk (Nat.le_refl _) (ihx)) (fun v1 S1 G40 B40 J1 R1 h1 => ?_)
  obtain ⟨q0_, q1_, q2_, q3_, gf40, bf40, hs40⟩ := h1
  obtain rfl := q0_
  obtain rfl := q1_.symm
  obtain rfl := q2_.symm
  obtain rfl := q3_.symm
  show CR _ _ 43 [some (.ref 83), some (.ref 82), some (.int (nI len)), none] [.int (bI (r.1 = true))] S G40 B40 J R _
  refine cr_bne (t := 48) d_25_43 (by decide) (fun c43 => ?_) (fun c43 => ?_)
  · refine cr_nx (pc' := 49) (al' := [some (.ref 83), some (.ref 82), some (.int (nI len)), none]) (st' := [.ref 83]) d_25_48 (fun _ => rfl) ?_
    refine cr_gf (v := .int (nI r.2.2.2.length)) d_25_49 cw_25 cf_4_32 (hS.i (a := 83) (by decide) (by decide)) (hS.s (a := 83) (by decide) (by decide) rfl) (by decide) (hs40.1 c43).z ?_
    refine cr_nx (pc' := 53) (al' := [some (.ref 83), some (.ref 82), some (.int (nI len)), some (.int (nI r.2.2.2.length))]) (st' := []) d_25_52 (fun _ => rfl) ?_
    refine cr_nx (pc' := 54) (al' := [some (.ref 83), some (.ref 82), some (.int (nI len)), some (.int (nI r.2.2.2.length))]) (st' := [.ref 83]) d_25_53 (fun _ => rfl) ?_
    refine cr_gf (v := .int (nI (kjN t len r.2.1))) d_25_54 cw_25 cf_4_48 (hS.i (a := 83) (by decide) (by decide)) (hS.s (a := 83) (by decide) (by decide) rfl) (by decide) (hs40.1 c43).k ?_
    refine cn_bp (v := 9) d_25_57 (by decide) ?_
    refine cn_cne (t := 75) d_25_59 (by decide) (by have := (kj_all t len r.2.1).2.2.2.2.2.2.2.2.2.2; omega) (by omega) (fun c59 => ?_) (fun c59 => ?_)
    · exact hkA c43 (fun q => c59 ((kj_all t len r.2.1).2.2.2.2.2.2.2.2.1.mpr q)) G40 B40 gf40 bf40 (hs40.1 c43)
    · refine cr_nx (pc' := 63) (al' := [some (.ref 83), some (.ref 82), some (.int (nI len)), some (.int (nI r.2.2.2.length))]) (st' := [.ref 83]) d_25_62 (fun _ => rfl) ?_
      refine cr_cv (b := 83) (as := []) (al0 := [some (.ref 83), none]) (r := []) d_25_63 cw_25 cm_4_41 cz_26 rfl rfl (hS.i (a := 83) (by decide) (by decide)) (by rw [cw_26]; exact (hS.s (a := 83) (by decide) (by decide) rfl)) (by rw [cw_26]; decide) rfl (cr_wk (by omega) (k_goOnS hS (hs40.1 c43) (by have := (kj_all t len r.2.1).2.2.2.2.2.2.2.2.1.mp c59; omega) (by have := (kj_all t len r.2.1).2.2.2.2.2.2.2.2.1.mp c59; omega))) (fun v1 S1 G63 B63 J1 R1 h1 => ?_)
      obtain ⟨q0_, q1_, q2_, q3_, gf63, bf63, hs63⟩ := h1
      obtain rfl := q0_
      obtain rfl := q1_.symm
      obtain rfl := q2_.symm
      obtain rfl := q3_.symm
      show CR _ _ 66 [some (.ref 83), some (.ref 82), some (.int (nI len)), some (.int (nI r.2.2.2.length))] [] S G63 B63 J R _
      refine cr_nx (pc' := 67) (al' := [some (.ref 83), some (.ref 82), some (.int (nI len)), some (.int (nI r.2.2.2.length))]) (st' := [.ref 83]) d_25_66 (fun _ => rfl) ?_
      refine cr_cv (b := 83) (as := []) (al0 := [some (.ref 83), none]) (r := []) d_25_67 cw_25 cm_4_44 cz_28 rfl rfl (hS.i (a := 83) (by decide) (by decide)) (by rw [cw_28]; exact (hS.s (a := 83) (by decide) (by decide) rfl)) (by rw [cw_28]; decide) rfl (cr_wk (Nat.le_refl _) (ihy c43 ((kj_all t len r.2.1).2.2.2.2.2.2.2.2.1.mp c59) G63 B63 hs63)) (fun v1 S1 G67 B67 J1 R1 h1 => ?_)
      obtain ⟨q0_, q1_, q2_, q3_, gf67, bf67, hs67⟩ := h1
      obtain rfl := q0_
      obtain rfl := q1_.symm
      obtain rfl := q2_.symm
      obtain rfl := q3_.symm
      show CR _ _ 70 [some (.ref 83), some (.ref 82), some (.int (nI len)), some (.int (nI r.2.2.2.length))] [.int (bI (r2.1 = true))] S G67 B67 J R _
      refine cr_bne (t := 75) d_25_70 (by decide) (fun c70 => ?_) (fun c70 => ?_)
      · exact hkB c43 ((kj_all t len r.2.1).2.2.2.2.2.2.2.2.1.mp c59) c70 G67 B67 ((gf40.tr gf63).tr gf67) ((bf40.tr bf63).tr bf67) (hs67.1 c70)
      · refine cr_nx (pc' := 74) (al' := [some (.ref 83), some (.ref 82), some (.int (nI len)), some (.int (nI r.2.2.2.length))]) (st' := [.null]) d_25_73 (fun _ => rfl) ?_
        exact cr_rN d_25_74 cx_25 (by first | exact Or.inl ⟨_, rfl⟩ | exact Or.inr ⟨_, rfl⟩) (hf2 c43 ((kj_all t len r.2.1).2.2.2.2.2.2.2.2.1.mp c59) (by simpa using c70) G67 B67 ((gf40.tr gf63).tr gf67) ((bf40.tr bf63).tr bf67) (hs67.2 (by simpa using c70)))
  · refine cr_nx (pc' := 47) (al' := [some (.ref 83), some (.ref 82), some (.int (nI len)), none]) (st' := [.null]) d_25_46 (fun _ => rfl) ?_
    exact cr_rN d_25_47 cx_25 (by first | exact Or.inl ⟨_, rfl⟩ | exact Or.inr ⟨_, rfl⟩) (hf1 (by simpa using c43) G40 B40 gf40 bf40 (hs40.2 (by simpa using c43)))
theorem lwR_w {cod : Nat → Nat} {N F : Nat} {r r2 : Bool × LSt} (hr : sid cod F (0, 0, []) = r) (hr2 : sid cod F (r.2.1 + 1, r.2.2.1, r.2.2.2) = r2) : lwR cod N F = if r.1 = true then (if cod r.2.1 = 5 then (if r2.1 = true then (decide (r2.2.1 = N), r2.2.1, r2.2.2.2, r.2.2.2.length) else (false, r2.2.1, [], 0)) else (decide (r.2.1 = N), r.2.1, r.2.2.2, r.2.2.2.length)) else (false, r.2.1, [], 0) := by
  unfold lwR
  rw [hr]
  rcases r with ⟨b, u⟩
  cases b
  · rw [if_neg (by simp)]
  · rw [if_pos rfl]
    dsimp only at hr2 ⊢
    by_cases h : cod u.1 = 5
    · rw [if_pos h, if_pos h, hr2]
      rcases r2 with ⟨b2, v⟩
      cases b2
      · rw [if_neg (by simp)]
      · rw [if_pos rfl]
    · rw [if_neg h, if_neg h]
/-- what the class's reading of a law leaves -/
def LwQ (t : Nat → Nat) (len : Nat) (S : CS) (G : Nat → Nat → Value) (B : Nat → Nat → Int32) (J : Nat → Nat → Int64) (R : Nat → Nat → Option Nat) (L : Bool × Nat × List Nat × Nat) : CQ := fun v S' G' B' J' R' => J' = J ∧ R' = R ∧ (L.1 = true → v = some (.ref S.1) ∧ S' = cs_pu (cs_pu S (100 + 3, 3)) (0, L.2.2.1.length) ∧ (∀ b, b ≠ 83 → b ≠ S.1 → G' b = G b) ∧ (∀ b, b ≠ 85 → b ≠ S.1 + 1 → B' b = B b) ∧ LawAt S' G' B' S.1 L.2.2.1 L.2.2.2) ∧ (L.1 = false → v = some .null ∧ S' = S ∧ Gfr [83] G G' ∧ Bfr [85] B B' ∧ G' 83 2 = .int (nI (tkP t len L.2.1)))
theorem lwq_75 {t : Nat → Nat} {len n0 i K : Nat} {S : CS} {G G0 : Nat → Nat → Value} {B B0 : Nat → Nat → Int32} {J : Nat → Nat → Int64} {R : Nat → Nat → Option Nat} {s : LSt} (hS : ShOk S) (hs : RdS t len G B s) (h1 : s.1 ≤ tkN t len) (hl : s.2.2.length < 64) (hg : Gfr [83] G0 G) (hb : Bfr [85] B0 B) (hK : 1 ≤ K) : CR K 25 75 [some (.ref 83), some (.ref 82), some (.int (nI n0)), some (.int (nI i))] [] S G B J R (LwQ t len S G0 B0 J R (decide (s.1 = tkN t len), s.1, s.2.2, i)) := by
  refine cr_wk hK (k_rl75 hS hs h1 hl (fun q G' B' a1 a2 a3 => ?_) (fun q => ?_))
  · refine ⟨rfl, rfl, fun _ => ⟨rfl, rfl, fun b b1 b2 => (a1 b b2).trans (hg b (by simpa using b1)), fun b b1 b2 => (a2 b b2).trans (hb b (by simpa using b1)), a3⟩, fun e => ?_⟩
    exact absurd q (of_decide_eq_false e)
  · exact ⟨rfl, rfl, fun e => absurd (of_decide_eq_true e) q, fun _ => ⟨rfl, rfl, hg, hb, hs.p⟩⟩
theorem k_readLaw {t : Nat → Nat} {len F : Nat} {S : CS} {G : Nat → Nat → Value} {B : Nat → Nat → Int32} {J : Nat → Nat → Int64} {R : Nat → Nat → Option Nat} (hS : ShOk S) (h5 : G 83 5 = .ref 85) (hl4 : len ≤ 400) (hB : ∀ i, i < len → B 82 i = nI (t i) ∧ t i < 256) (hF : tkN t len < F) : CR 23 25 0 [some (.ref 83), some (.ref 82), some (.int (nI len)), none] [] S G B J R (LwQ t len S G B J R (lwR (tkC t len) (tkN t len) F)) := by
  have hE := tkC_E t len
  refine k_rl0 (K := 21) hS h5 hl4 hB (fun G1 hg hs => ?_)
  obtain ⟨r, hr⟩ : ∃ r, sid (tkC t len) F (0, 0, []) = r := ⟨_, rfl⟩
  obtain ⟨r2, hr2⟩ : ∃ r2, sid (tkC t len) F (r.2.1 + 1, r.2.2.1, r.2.2.2) = r2 := ⟨_, rfl⟩
  rw [lwR_w hr hr2]
  have hok := sid_ok (F := F) hE (0, 0, []) (Nat.zero_le _) (Nat.zero_le _)
  rw [hr] at hok
  obtain ⟨o1, o2, o3, o4, o5⟩ := hok
  have e0 : r.1 = true → r.2.2.2.length + 1 ≤ 2 * r.2.2.1 := fun q => by have := o5 q; simp only [List.length_nil] at this; omega
  refine k_rl39 (t := t) (len := len) (k := 21) (r := r) (r2 := r2) hS ?_ (fun q c G2 B2 h => ?_) (fun q c G2 B2 g2 b2 h => ?_) (fun q c q2 G2 B2 g2 b2 h => ?_) (fun q G2 B2 g2 b2 h => ?_) (fun q c q2 G2 B2 g2 b2 h => ?_)
  · rw [← hr]
    exact k_readSide hF hS hs (Nat.zero_le _) (Nat.zero_le _) (Nat.zero_le _)
  · have hlt := cd_in hE o2 (by omega)
    have := e0 q
    rw [← hr2]
    exact k_readSide hF hS h (by show r.2.1 + 1 ≤ _; omega) o4 (by show r.2.2.2.length ≤ 2 * r.2.2.1; omega)
  · rw [if_pos q, if_neg c]
    have := e0 q
    exact lwq_75 hS h o2 (by omega) (hg.tr g2) b2 (by omega)
  · have hlt := cd_in hE o2 (by omega)
    have := e0 q
    rw [if_pos q, if_pos c, if_pos q2]
    have hok2 := sid_ok (F := F) hE (r.2.1 + 1, r.2.2.1, r.2.2.2) (by show r.2.1 + 1 ≤ _; omega) o4
    rw [hr2] at hok2
    obtain ⟨p1, p2, p3, p4, p5⟩ := hok2
    have p5 := p5 q2
    dsimp only at p5
    exact lwq_75 hS h p2 (by omega) (hg.tr g2) b2 (by omega)
  · rw [if_neg (by rw [q]; decide)]
    exact ⟨rfl, rfl, fun e => absurd (show false = true from e) (by decide), fun _ => ⟨rfl, rfl, hg.tr g2, b2, h⟩⟩
  · rw [if_pos q, if_pos c, if_neg (by rw [q2]; decide)]
    exact ⟨rfl, rfl, fun e => absurd (show false = true from e) (by decide), fun _ => ⟨rfl, rfl, hg.tr g2, b2, h⟩⟩
