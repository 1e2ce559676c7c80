/-! Names, the class: the latest name is kept; printed by wip/whole/gen_b13.py. -/
theorem cpy_36 {B : Nat → Int32} {f : Nat → Int32} {q : Nat} (h : q < 36) : va_cpy B f 0 0 36 q = B q := by
  unfold va_cpy
  rw [if_pos ⟨Nat.zero_le q, by omega⟩, Nat.zero_add, Nat.sub_zero]
theorem df_0 {m : Nat} {c d : Nat → Nat} (h : dfN m c d = 0) : ∀ q, q < m → c q = d q := by
  intro q hq
  have h1 : dfF c d q ≤ SM (dfF c d) m := by
    have := SM_gr (f := dfF c d) (show q + 1 ≤ m from hq)
    rw [SM_s] at this
    omega
  unfold dfN at h
  have h2 : dfF c d q = 0 := by omega
  unfold dfF at h2
  by_cases e : c q = d q
  · exact e
  · rw [if_neg e] at h2
    cases h2
def NmOk111 (G : Nat → Nat → Value) (B : Nat → Nat → Int32) : Prop := G 111 1 = .int (-1) ∨ ∃ l n c, l ≤ 2 ∧ Lat n c ∧ 1 ≤ n ∧ G 111 1 = .int (nI l) ∧ G 112 0 = .int (nI n) ∧ TabC B 112 n c ∧ G 114 0 = .int (nI n) ∧ ∃ bb, (∀ q, q < n * n → B (114 + 1) q = nI (bb q) ∧ bb q < n) ∧ MinS (n * n) (NmF l n c) 1 bb
theorem k_nameOf43_0_111 {S : CS} {G : Nat → Nat → Value} {B : Nat → Nat → Int32} {J : Nat → Nat → Int64} {R : Nat → Nat → Option Nat} (hS : ShOk S) (hF : FxG G) {a n : Nat} {c : Nat → Nat} (ht : TabAt S G a) (hn : G a 0 = .int (nI n)) (hc : TabC B a n c) (hl : Lat n c) (hn1 : 1 ≤ n) (hap : a < 111 ∨ 133 ≤ a) : CR 5 40 43 [some (.ref 111), some (.ref a), some (.int (nI 0)), none] [] S G B J R (fun r_ S' G' B' J' R' => r_ = some (.ref 114) ∧ S' = S ∧ J' = J ∧ R' = R ∧ FxG G' ∧ Gfr [111, 112, 114, 116, 118] G G' ∧ Bfr [113, 115, 117, 119, 120, 121] B B' ∧ NmOk111 G' B' ∧ G' 114 0 = .int (nI n) ∧ ∃ bb, (∀ q, q < n * n → B' (114 + 1) q = nI (bb q) ∧ bb q < n) ∧ MinS (n * n) (NmF 0 n c) 1 bb) := by
  have hn6 := hc.1
  refine cr_nx (pc' := 44) (al' := [some (.ref 111), some (.ref a), some (.int (nI 0)), none]) (st' := [.ref 111]) d_40_43 (fun _ => rfl) ?_
  refine cr_gf (v := .ref 112) d_40_44 cw_40 cf_6_12 (hS.i (a := 111) (by decide) (by decide)) (hS.s (a := 111) (by decide) (by decide) rfl) (by decide) (fx_111_0 hF) ?_
  refine cr_nx (pc' := 48) (al' := [some (.ref 111), some (.ref a), some (.int (nI 0)), none]) (st' := [.ref a, .ref 112]) d_40_47 (fun _ => rfl) ?_
  refine cr_pv (b := 112) (as := [.ref a]) (al0 := [some (.ref 112), some (.ref a)]) (r := []) d_40_48 cw_40 cm_6_45 cz_93 rfl rfl (hS.i (a := 112) (by decide) (by decide)) (by rw [cw_93]; exact (hS.s (a := 112) (by decide) (by decide) rfl)) (by rw [cw_93]; decide) rfl (Nat.le_of_ble_eq_true rfl) (k_become (tb_112 hS hF) ht (by omega) hn) ?_
  show CR _ _ 51 [some (.ref 111), some (.ref a), some (.int (nI 0)), none] [] S (up2 G 112 0 (.int (nI n))) (upr B (112 + 1) (va_cpy (B (a + 1)) (B (112 + 1)) 0 0 36)) J R _
  refine cr_nx (pc' := 52) (al' := [some (.ref 111), some (.ref a), some (.int (nI 0)), none]) (st' := [.ref 111]) d_40_51 (fun _ => rfl) ?_
  refine cr_nx (pc' := 53) (al' := [some (.ref 111), some (.ref a), some (.int (nI 0)), none]) (st' := [.int (nI 0), .ref 111]) d_40_52 (fun _ => rfl) ?_
  refine cp_6_1  d_40_53 cw_40 cf_6_18 (hS.i (a := 111) (by decide) (by decide)) (hS.s (a := 111) (by decide) (by decide) rfl) (by decide) ?_
  refine cr_nx (pc' := 57) (al' := [some (.ref 111), some (.ref a), some (.int (nI 0)), none]) (st' := [.ref 111]) d_40_56 (fun _ => rfl) ?_
  refine cr_gf (v := .ref 114) d_40_57 cw_40 cf_6_22 (hS.i (a := 111) (by decide) (by decide)) (hS.s (a := 111) (by decide) (by decide) rfl) (by decide) (by simp [up2]; exact (fx_111_2 hF)) ?_
  refine cn_ic (v := 0) d_40_60 (by decide) ?_
  refine cp_10_0  d_40_61 cw_40 cf_6_38 (hS.i (a := 114) (by decide) (by decide)) (hS.s (a := 114) (by decide) (by decide) rfl) (by decide) ?_
  refine cr_nx (pc' := 65) (al' := [some (.ref 111), some (.ref a), some (.int (nI 0)), none]) (st' := [.ref 111]) d_40_64 (fun _ => rfl) ?_
  have hc1 : TabC (upr B (112 + 1) (va_cpy (B (a + 1)) (B (112 + 1)) 0 0 36)) 112 n c := ⟨hn6, fun q hq => ⟨by rw [upr_s, cpy_36 (cu_36 hn6 hq)]; exact (hc.2 q hq).1, hl.1 q hq⟩⟩
  refine cr_cv (b := 111) (as := []) (al0 := [some (.ref 111), none, none]) (r := []) d_40_65 cw_40 cm_6_49 cz_41 rfl rfl (hS.i (a := 111) (by decide) (by decide)) (by rw [cw_41]; exact (hS.s (a := 111) (by decide) (by decide) rfl)) (by rw [cw_41]; decide) rfl (cr_wk (Nat.le_of_ble_eq_true rfl) (k_offerAll0_111 hS (((hF.u0 (by decide)).up (by decide +kernel)).u0 (by decide)) (by rw [up2_n (by decide), up2_n (by decide)]; exact up2_s) hc1 hl hn1 up2_s (by rw [up2_n (by decide)]; exact up2_s))) (fun v1 S1 G2 B2 J1 R1 h1 => ?_)
  obtain ⟨q0_, q1_, q2_, q3_, fx2, gf2, bf2, gb2, b2, hb2, mi2⟩ := h1
  obtain rfl := q0_
  obtain rfl := q1_.symm
  obtain rfl := q2_.symm
  obtain rfl := q3_.symm
  show CR _ _ 68 [some (.ref 111), some (.ref a), some (.int (nI 0)), none] [] S G2 B2 J R _
  refine cr_nx (pc' := 69) (al' := [some (.ref 111), some (.ref a), some (.int (nI 0)), none]) (st' := [.ref 111]) d_40_68 (fun _ => rfl) ?_
  refine cr_gf (v := .ref 114) d_40_69 cw_40 cf_6_22 (hS.i (a := 111) (by decide) (by decide)) (hS.s (a := 111) (by decide) (by decide) rfl) (by decide) (fx_111_2 fx2) ?_
  exact cr_ra d_40_72 cx_40 (by first | exact Or.inl ⟨_, rfl⟩ | exact Or.inr ⟨_, rfl⟩) ⟨rfl, rfl, rfl, rfl, fx2, (((Gfr.rf.u (by decide)).u (by decide)).u (by decide)).tr (gf2.mo (by decide)), (Bfr.rf.u (by decide)).tr (bf2.mo (by decide)), Or.inr ⟨0, n, c, by decide, hl, hn1, by rw [gf2 111 (by decide), up2_n (by decide)]; exact up2_s, by rw [gf2 112 (by decide), up2_n (by decide), up2_n (by decide)]; exact up2_s, bf2.c (by decide) hc1, gb2, b2, hb2, mi2⟩, gb2, b2, hb2, mi2⟩
theorem k_nameOfA0_111 {S : CS} {G : Nat → Nat → Value} {B : Nat → Nat → Int32} {J : Nat → Nat → Int64} {R : Nat → Nat → Option Nat} (hS : ShOk S) (hF : FxG G) {a n : Nat} {c : Nat → Nat} (ht : TabAt S G a) (hn : G a 0 = .int (nI n)) (hc : TabC B a n c) (hl : Lat n c) (hn1 : 1 ≤ n) (hap : a < 111 ∨ 133 ≤ a) (hA1 : G 111 1 = .int (-1)) : CR 5 40 0 [some (.ref 111), some (.ref a), some (.int (nI 0)), none] [] S G B J R (fun r_ S' G' B' J' R' => r_ = some (.ref 114) ∧ S' = S ∧ J' = J ∧ R' = R ∧ FxG G' ∧ Gfr [111, 112, 114, 116, 118] G G' ∧ Bfr [113, 115, 117, 119, 120, 121] B B' ∧ NmOk111 G' B' ∧ G' 114 0 = .int (nI n) ∧ ∃ bb, (∀ q, q < n * n → B' (114 + 1) q = nI (bb q) ∧ bb q < n) ∧ MinS (n * n) (NmF 0 n c) 1 bb) := by
  have hn6 := hc.1
  refine cr_nx (pc' := 1) (al' := [some (.ref 111), some (.ref a), some (.int (nI 0)), none]) (st' := [.int (nI 0)]) d_40_0 (fun _ => rfl) ?_
  refine cr_nx (pc' := 2) (al' := [some (.ref 111), some (.ref a), some (.int (nI 0)), none]) (st' := [.ref 111, .int (nI 0)]) d_40_1 (fun _ => rfl) ?_
  refine cr_gf (v := .int (-1)) d_40_2 cw_40 cf_6_18 (hS.i (a := 111) (by decide) (by decide)) (hS.s (a := 111) (by decide) (by decide) rfl) (by decide) hA1 ?_
  refine cr_cne (t := 37) d_40_5 (by decide) (fun c5 => ?_) (fun c5 => ?_)
  · refine cn_ic (v := 0) d_40_37 (by decide) ?_
    refine cr_nx (pc' := 39) (al' := [some (.ref 111), some (.ref a), some (.int (nI 0)), some (.int (nI 0))]) (st' := []) d_40_38 (fun _ => rfl) ?_
    refine cr_nx (pc' := 40) (al' := [some (.ref 111), some (.ref a), some (.int (nI 0)), some (.int (nI 0))]) (st' := [.int (nI 0)]) d_40_39 (fun _ => rfl) ?_
    refine cn_ine (t := 68) d_40_40 (by decide) (by first | omega | assumption | exact cu_36 (by omega) (cu_lt (by omega) (by omega))) (fun c40 => ?_) (fun c40 => ?_)
    · omega
    · refine cr_dr (al1 := [some (.ref 111), some (.ref a), some (.int (nI 0)), none]) (le_s (le_s (le_s (le_d rfl (le_n))))) ?_
      exact cr_wk (Nat.le_of_ble_eq_true rfl) (k_nameOf43_0_111 hS hF ht hn hc hl hn1 hap)
  · exact absurd c5 (ia_ne (by decide))
theorem k_nameOfB0_111 {S : CS} {G : Nat → Nat → Value} {B : Nat → Nat → Int32} {J : Nat → Nat → Int64} {R : Nat → Nat → Option Nat} (hS : ShOk S) (hF : FxG G) {a n : Nat} {c : Nat → Nat} (ht : TabAt S G a) (hn : G a 0 = .int (nI n)) (hc : TabC B a n c) (hl : Lat n c) (hn1 : 1 ≤ n) (hap : a < 111 ∨ 133 ≤ a) {l0 n0 : Nat} {c0 bb : Nat → Nat} (hOk : NmOk111 G B) (hl2 : l0 ≤ 2) (hL0 : Lat n0 c0) (hA1 : G 111 1 = .int (nI l0)) (hA2 : G 112 0 = .int (nI n0)) (hT0 : TabC B 112 n0 c0) (hA3 : G 114 0 = .int (nI n0)) (hbb : ∀ q, q < n0 * n0 → B (114 + 1) q = nI (bb q) ∧ bb q < n0) (hM : MinS (n0 * n0) (NmF l0 n0 c0) 1 bb) : CR 5 40 0 [some (.ref 111), some (.ref a), some (.int (nI 0)), none] [] S G B J R (fun r_ S' G' B' J' R' => r_ = some (.ref 114) ∧ S' = S ∧ J' = J ∧ R' = R ∧ FxG G' ∧ Gfr [111, 112, 114, 116, 118] G G' ∧ Bfr [113, 115, 117, 119, 120, 121] B B' ∧ NmOk111 G' B' ∧ G' 114 0 = .int (nI n) ∧ ∃ bb, (∀ q, q < n * n → B' (114 + 1) q = nI (bb q) ∧ bb q < n) ∧ MinS (n * n) (NmF 0 n c) 1 bb) := by
  have hn6 := hc.1
  have hn06 := hT0.1
  refine cr_nx (pc' := 1) (al' := [some (.ref 111), some (.ref a), some (.int (nI 0)), none]) (st' := [.int (nI 0)]) d_40_0 (fun _ => rfl) ?_
  refine cr_nx (pc' := 2) (al' := [some (.ref 111), some (.ref a), some (.int (nI 0)), none]) (st' := [.ref 111, .int (nI 0)]) d_40_1 (fun _ => rfl) ?_
  refine cr_gf (v := .int (nI l0)) d_40_2 cw_40 cf_6_18 (hS.i (a := 111) (by decide) (by decide)) (hS.s (a := 111) (by decide) (by decide) rfl) (by decide) hA1 ?_
  refine cn_cne (t := 37) d_40_5 (by decide) (by first | omega | assumption | exact cu_36 (by omega) (cu_lt (by omega) (by omega))) (by first | omega | assumption | exact cu_36 (by omega) (cu_lt (by omega) (by omega))) (fun c5 => ?_) (fun c5 => ?_)
  · refine cn_ic (v := 0) d_40_37 (by decide) ?_
    refine cr_nx (pc' := 39) (al' := [some (.ref 111), some (.ref a), some (.int (nI 0)), some (.int (nI 0))]) (st' := []) d_40_38 (fun _ => rfl) ?_
    refine cr_nx (pc' := 40) (al' := [some (.ref 111), some (.ref a), some (.int (nI 0)), some (.int (nI 0))]) (st' := [.int (nI 0)]) d_40_39 (fun _ => rfl) ?_
    refine cn_ine (t := 68) d_40_40 (by decide) (by first | omega | assumption | exact cu_36 (by omega) (cu_lt (by omega) (by omega))) (fun c40 => ?_) (fun c40 => ?_)
    · omega
    · refine cr_dr (al1 := [some (.ref 111), some (.ref a), some (.int (nI 0)), none]) (le_s (le_s (le_s (le_d rfl (le_n))))) ?_
      exact cr_wk (Nat.le_of_ble_eq_true rfl) (k_nameOf43_0_111 hS hF ht hn hc hl hn1 hap)
  · refine cr_nx (pc' := 9) (al' := [some (.ref 111), some (.ref a), some (.int (nI 0)), none]) (st' := [.ref a]) d_40_8 (fun _ => rfl) ?_
    refine cr_gf (v := .int (nI n)) d_40_9 cw_40 cf_6_38 ht.1 ht.2.2.1 (by decide) hn ?_
    refine cr_nx (pc' := 13) (al' := [some (.ref 111), some (.ref a), some (.int (nI 0)), none]) (st' := [.ref 111, .int (nI n)]) d_40_12 (fun _ => rfl) ?_
    refine cr_gf (v := .ref 112) d_40_13 cw_40 cf_6_12 (hS.i (a := 111) (by decide) (by decide)) (hS.s (a := 111) (by decide) (by decide) rfl) (by decide) (fx_111_0 hF) ?_
    refine cr_gf (v := .int (nI n0)) d_40_16 cw_40 cf_6_38 (hS.i (a := 112) (by decide) (by decide)) (hS.s (a := 112) (by decide) (by decide) rfl) (by decide) hA2 ?_
    refine cn_cne (t := 37) d_40_19 (by decide) (by first | omega | assumption | exact cu_36 (by omega) (cu_lt (by omega) (by omega))) (by first | omega | assumption | exact cu_36 (by omega) (cu_lt (by omega) (by omega))) (fun c19 => ?_) (fun c19 => ?_)
    · refine cn_ic (v := 0) d_40_37 (by decide) ?_
      refine cr_nx (pc' := 39) (al' := [some (.ref 111), some (.ref a), some (.int (nI 0)), some (.int (nI 0))]) (st' := []) d_40_38 (fun _ => rfl) ?_
      refine cr_nx (pc' := 40) (al' := [some (.ref 111), some (.ref a), some (.int (nI 0)), some (.int (nI 0))]) (st' := [.int (nI 0)]) d_40_39 (fun _ => rfl) ?_
      refine cn_ine (t := 68) d_40_40 (by decide) (by first | omega | assumption | exact cu_36 (by omega) (cu_lt (by omega) (by omega))) (fun c40 => ?_) (fun c40 => ?_)
      · omega
      · refine cr_dr (al1 := [some (.ref 111), some (.ref a), some (.int (nI 0)), none]) (le_s (le_s (le_s (le_d rfl (le_n))))) ?_
        exact cr_wk (Nat.le_of_ble_eq_true rfl) (k_nameOf43_0_111 hS hF ht hn hc hl hn1 hap)
    · refine cr_nx (pc' := 23) (al' := [some (.ref 111), some (.ref a), some (.int (nI 0)), none]) (st' := [.ref a]) d_40_22 (fun _ => rfl) ?_
      refine cr_nx (pc' := 24) (al' := [some (.ref 111), some (.ref a), some (.int (nI 0)), none]) (st' := [.ref 111, .ref a]) d_40_23 (fun _ => rfl) ?_
      refine cr_gf (v := .ref 112) d_40_24 cw_40 cf_6_12 (hS.i (a := 111) (by decide) (by decide)) (hS.s (a := 111) (by decide) (by decide) rfl) (by decide) (fx_111_0 hF) ?_
      obtain rfl := c19
      refine cr_pv (b := a) (as := [.ref 112]) (al0 := [some (.ref a), some (.ref 112), none, none]) (r := []) d_40_27 cw_40 cm_6_41 cz_109 rfl rfl ht.1 (by rw [cw_109]; exact ht.2.2.1) (by rw [cw_109]; decide) rfl (Nat.le_of_ble_eq_true rfl) (k_differences ht hn hc (tb_112 hS hF) hT0) ?_
      show CR _ _ 30 [some (.ref 111), some (.ref a), some (.int (nI 0)), none] [.int (nI (dfN (n * n) c c0))] S G B J R _
      have hd := dfN_le (n * n) c c0
      have hnn : n * n ≤ 36 := Nat.mul_le_mul hn6 hn6
      refine cn_ine (t := 37) d_40_30 (by decide) (by first | omega | assumption | exact cu_36 (by omega) (cu_lt (by omega) (by omega))) (fun c30 => ?_) (fun c30 => ?_)
      · refine cn_ic (v := 0) d_40_37 (by decide) ?_
        refine cr_nx (pc' := 39) (al' := [some (.ref 111), some (.ref a), some (.int (nI 0)), some (.int (nI 0))]) (st' := []) d_40_38 (fun _ => rfl) ?_
        refine cr_nx (pc' := 40) (al' := [some (.ref 111), some (.ref a), some (.int (nI 0)), some (.int (nI 0))]) (st' := [.int (nI 0)]) d_40_39 (fun _ => rfl) ?_
        refine cn_ine (t := 68) d_40_40 (by decide) (by first | omega | assumption | exact cu_36 (by omega) (cu_lt (by omega) (by omega))) (fun c40 => ?_) (fun c40 => ?_)
        · omega
        · refine cr_dr (al1 := [some (.ref 111), some (.ref a), some (.int (nI 0)), none]) (le_s (le_s (le_s (le_d rfl (le_n))))) ?_
          exact cr_wk (Nat.le_of_ble_eq_true rfl) (k_nameOf43_0_111 hS hF ht hn hc hl hn1 hap)
      · refine cn_ic (v := 1) d_40_33 (by decide) ?_
        refine cr_nx (pc' := 38) (al' := [some (.ref 111), some (.ref a), some (.int (nI 0)), none]) (st' := [.int (nI 1)]) d_40_34 (fun _ => rfl) ?_
        refine cr_nx (pc' := 39) (al' := [some (.ref 111), some (.ref a), some (.int (nI 0)), some (.int (nI 1))]) (st' := []) d_40_38 (fun _ => rfl) ?_
        refine cr_nx (pc' := 40) (al' := [some (.ref 111), some (.ref a), some (.int (nI 0)), some (.int (nI 1))]) (st' := [.int (nI 1)]) d_40_39 (fun _ => rfl) ?_
        refine cn_ine (t := 68) d_40_40 (by decide) (by first | omega | assumption | exact cu_36 (by omega) (cu_lt (by omega) (by omega))) (fun c40 => ?_) (fun c40 => ?_)
        · refine cr_nx (pc' := 69) (al' := [some (.ref 111), some (.ref a), some (.int (nI 0)), some (.int (nI 1))]) (st' := [.ref 111]) d_40_68 (fun _ => rfl) ?_
          refine cr_gf (v := .ref 114) d_40_69 cw_40 cf_6_22 (hS.i (a := 111) (by decide) (by decide)) (hS.s (a := 111) (by decide) (by decide) rfl) (by decide) (fx_111_2 hF) ?_
          exact cr_ra d_40_72 cx_40 (by first | exact Or.inl ⟨_, rfl⟩ | exact Or.inr ⟨_, rfl⟩) (by
              have he := df_0 c30
              have hl0 : 0 = l0 := c5
              subst hl0
              have hM2 := Min_iff hM (NmF_cg (c := c0) (d := c) hL0 (fun q hq => (he q hq).symm))
              exact ⟨rfl, rfl, rfl, rfl, hF, Gfr.rf, Bfr.rf, hOk, hA3, bb, hbb, hM2⟩)
        · omega
theorem k_nameOf0_111 {S : CS} {G : Nat → Nat → Value} {B : Nat → Nat → Int32} {J : Nat → Nat → Int64} {R : Nat → Nat → Option Nat} (hS : ShOk S) (hF : FxG G) {a n : Nat} {c : Nat → Nat} (ht : TabAt S G a) (hn : G a 0 = .int (nI n)) (hc : TabC B a n c) (hl : Lat n c) (hn1 : 1 ≤ n) (hap : a < 111 ∨ 133 ≤ a) (hOk : NmOk111 G B) : CR 5 40 0 [some (.ref 111), some (.ref a), some (.int (nI 0)), none] [] S G B J R (fun r_ S' G' B' J' R' => r_ = some (.ref 114) ∧ S' = S ∧ J' = J ∧ R' = R ∧ FxG G' ∧ Gfr [111, 112, 114, 116, 118] G G' ∧ Bfr [113, 115, 117, 119, 120, 121] B B' ∧ NmOk111 G' B' ∧ G' 114 0 = .int (nI n) ∧ ∃ bb, (∀ q, q < n * n → B' (114 + 1) q = nI (bb q) ∧ bb q < n) ∧ MinS (n * n) (NmF 0 n c) 1 bb) := by
  rcases hOk with h | ⟨l0, n0, c0, a1, a2, a3, a4, a5, a6, a7, bb, a8, a9⟩
  · exact k_nameOfA0_111 hS hF ht hn hc hl hn1 hap h
  · exact k_nameOfB0_111 hS hF ht hn hc hl hn1 hap (Or.inr ⟨l0, n0, c0, a1, a2, a3, a4, a5, a6, a7, bb, a8, a9⟩) a1 a2 a4 a5 a6 a7 a8 a9
theorem k_nameOf43_1_111 {S : CS} {G : Nat → Nat → Value} {B : Nat → Nat → Int32} {J : Nat → Nat → Int64} {R : Nat → Nat → Option Nat} (hS : ShOk S) (hF : FxG G) {a n : Nat} {c : Nat → Nat} (ht : TabAt S G a) (hn : G a 0 = .int (nI n)) (hc : TabC B a n c) (hl : Lat n c) (hn1 : 1 ≤ n) (hap : a < 111 ∨ 133 ≤ a) : CR 5 40 43 [some (.ref 111), some (.ref a), some (.int (nI 1)), none] [] S G B J R (fun r_ S' G' B' J' R' => r_ = some (.ref 114) ∧ S' = S ∧ J' = J ∧ R' = R ∧ FxG G' ∧ Gfr [111, 112, 114, 116, 118] G G' ∧ Bfr [113, 115, 117, 119, 120, 121] B B' ∧ NmOk111 G' B' ∧ G' 114 0 = .int (nI n) ∧ ∃ bb, (∀ q, q < n * n → B' (114 + 1) q = nI (bb q) ∧ bb q < n) ∧ MinS (n * n) (NmF 1 n c) 1 bb) := by
  have hn6 := hc.1
  refine cr_nx (pc' := 44) (al' := [some (.ref 111), some (.ref a), some (.int (nI 1)), none]) (st' := [.ref 111]) d_40_43 (fun _ => rfl) ?_
  refine cr_gf (v := .ref 112) d_40_44 cw_40 cf_6_12 (hS.i (a := 111) (by decide) (by decide)) (hS.s (a := 111) (by decide) (by decide) rfl) (by decide) (fx_111_0 hF) ?_
  refine cr_nx (pc' := 48) (al' := [some (.ref 111), some (.ref a), some (.int (nI 1)), none]) (st' := [.ref a, .ref 112]) d_40_47 (fun _ => rfl) ?_
  refine cr_pv (b := 112) (as := [.ref a]) (al0 := [some (.ref 112), some (.ref a)]) (r := []) d_40_48 cw_40 cm_6_45 cz_93 rfl rfl (hS.i (a := 112) (by decide) (by decide)) (by rw [cw_93]; exact (hS.s (a := 112) (by decide) (by decide) rfl)) (by rw [cw_93]; decide) rfl (Nat.le_of_ble_eq_true rfl) (k_become (tb_112 hS hF) ht (by omega) hn) ?_
  show CR _ _ 51 [some (.ref 111), some (.ref a), some (.int (nI 1)), none] [] S (up2 G 112 0 (.int (nI n))) (upr B (112 + 1) (va_cpy (B (a + 1)) (B (112 + 1)) 0 0 36)) J R _
  refine cr_nx (pc' := 52) (al' := [some (.ref 111), some (.ref a), some (.int (nI 1)), none]) (st' := [.ref 111]) d_40_51 (fun _ => rfl) ?_
  refine cr_nx (pc' := 53) (al' := [some (.ref 111), some (.ref a), some (.int (nI 1)), none]) (st' := [.int (nI 1), .ref 111]) d_40_52 (fun _ => rfl) ?_
  refine cp_6_1  d_40_53 cw_40 cf_6_18 (hS.i (a := 111) (by decide) (by decide)) (hS.s (a := 111) (by decide) (by decide) rfl) (by decide) ?_
  refine cr_nx (pc' := 57) (al' := [some (.ref 111), some (.ref a), some (.int (nI 1)), none]) (st' := [.ref 111]) d_40_56 (fun _ => rfl) ?_
  refine cr_gf (v := .ref 114) d_40_57 cw_40 cf_6_22 (hS.i (a := 111) (by decide) (by decide)) (hS.s (a := 111) (by decide) (by decide) rfl) (by decide) (by simp [up2]; exact (fx_111_2 hF)) ?_
  refine cn_ic (v := 0) d_40_60 (by decide) ?_
  refine cp_10_0  d_40_61 cw_40 cf_6_38 (hS.i (a := 114) (by decide) (by decide)) (hS.s (a := 114) (by decide) (by decide) rfl) (by decide) ?_
  refine cr_nx (pc' := 65) (al' := [some (.ref 111), some (.ref a), some (.int (nI 1)), none]) (st' := [.ref 111]) d_40_64 (fun _ => rfl) ?_
  have hc1 : TabC (upr B (112 + 1) (va_cpy (B (a + 1)) (B (112 + 1)) 0 0 36)) 112 n c := ⟨hn6, fun q hq => ⟨by rw [upr_s, cpy_36 (cu_36 hn6 hq)]; exact (hc.2 q hq).1, hl.1 q hq⟩⟩
  refine cr_cv (b := 111) (as := []) (al0 := [some (.ref 111), none, none]) (r := []) d_40_65 cw_40 cm_6_49 cz_41 rfl rfl (hS.i (a := 111) (by decide) (by decide)) (by rw [cw_41]; exact (hS.s (a := 111) (by decide) (by decide) rfl)) (by rw [cw_41]; decide) rfl (cr_wk (Nat.le_of_ble_eq_true rfl) (k_offerAll1_111 hS (((hF.u0 (by decide)).up (by decide +kernel)).u0 (by decide)) (by rw [up2_n (by decide), up2_n (by decide)]; exact up2_s) hc1 hl hn1 up2_s (by rw [up2_n (by decide)]; exact up2_s))) (fun v1 S1 G2 B2 J1 R1 h1 => ?_)
  obtain ⟨q0_, q1_, q2_, q3_, fx2, gf2, bf2, gb2, b2, hb2, mi2⟩ := h1
  obtain rfl := q0_
  obtain rfl := q1_.symm
  obtain rfl := q2_.symm
  obtain rfl := q3_.symm
  show CR _ _ 68 [some (.ref 111), some (.ref a), some (.int (nI 1)), none] [] S G2 B2 J R _
  refine cr_nx (pc' := 69) (al' := [some (.ref 111), some (.ref a), some (.int (nI 1)), none]) (st' := [.ref 111]) d_40_68 (fun _ => rfl) ?_
  refine cr_gf (v := .ref 114) d_40_69 cw_40 cf_6_22 (hS.i (a := 111) (by decide) (by decide)) (hS.s (a := 111) (by decide) (by decide) rfl) (by decide) (fx_111_2 fx2) ?_
  exact cr_ra d_40_72 cx_40 (by first | exact Or.inl ⟨_, rfl⟩ | exact Or.inr ⟨_, rfl⟩) ⟨rfl, rfl, rfl, rfl, fx2, (((Gfr.rf.u (by decide)).u (by decide)).u (by decide)).tr (gf2.mo (by decide)), (Bfr.rf.u (by decide)).tr (bf2.mo (by decide)), Or.inr ⟨1, n, c, by decide, hl, hn1, by rw [gf2 111 (by decide), up2_n (by decide)]; exact up2_s, by rw [gf2 112 (by decide), up2_n (by decide), up2_n (by decide)]; exact up2_s, bf2.c (by decide) hc1, gb2, b2, hb2, mi2⟩, gb2, b2, hb2, mi2⟩
theorem k_nameOfA1_111 {S : CS} {G : Nat → Nat → Value} {B : Nat → Nat → Int32} {J : Nat → Nat → Int64} {R : Nat → Nat → Option Nat} (hS : ShOk S) (hF : FxG G) {a n : Nat} {c : Nat → Nat} (ht : TabAt S G a) (hn : G a 0 = .int (nI n)) (hc : TabC B a n c) (hl : Lat n c) (hn1 : 1 ≤ n) (hap : a < 111 ∨ 133 ≤ a) (hA1 : G 111 1 = .int (-1)) : CR 5 40 0 [some (.ref 111), some (.ref a), some (.int (nI 1)), none] [] S G B J R (fun r_ S' G' B' J' R' => r_ = some (.ref 114) ∧ S' = S ∧ J' = J ∧ R' = R ∧ FxG G' ∧ Gfr [111, 112, 114, 116, 118] G G' ∧ Bfr [113, 115, 117, 119, 120, 121] B B' ∧ NmOk111 G' B' ∧ G' 114 0 = .int (nI n) ∧ ∃ bb, (∀ q, q < n * n → B' (114 + 1) q = nI (bb q) ∧ bb q < n) ∧ MinS (n * n) (NmF 1 n c) 1 bb) := by
  have hn6 := hc.1
  refine cr_nx (pc' := 1) (al' := [some (.ref 111), some (.ref a), some (.int (nI 1)), none]) (st' := [.int (nI 1)]) d_40_0 (fun _ => rfl) ?_
  refine cr_nx (pc' := 2) (al' := [some (.ref 111), some (.ref a), some (.int (nI 1)), none]) (st' := [.ref 111, .int (nI 1)]) d_40_1 (fun _ => rfl) ?_
  refine cr_gf (v := .int (-1)) d_40_2 cw_40 cf_6_18 (hS.i (a := 111) (by decide) (by decide)) (hS.s (a := 111) (by decide) (by decide) rfl) (by decide) hA1 ?_
  refine cr_cne (t := 37) d_40_5 (by decide) (fun c5 => ?_) (fun c5 => ?_)
  · refine cn_ic (v := 0) d_40_37 (by decide) ?_
    refine cr_nx (pc' := 39) (al' := [some (.ref 111), some (.ref a), some (.int (nI 1)), some (.int (nI 0))]) (st' := []) d_40_38 (fun _ => rfl) ?_
    refine cr_nx (pc' := 40) (al' := [some (.ref 111), some (.ref a), some (.int (nI 1)), some (.int (nI 0))]) (st' := [.int (nI 0)]) d_40_39 (fun _ => rfl) ?_
    refine cn_ine (t := 68) d_40_40 (by decide) (by first | omega | assumption | exact cu_36 (by omega) (cu_lt (by omega) (by omega))) (fun c40 => ?_) (fun c40 => ?_)
    · omega
    · refine cr_dr (al1 := [some (.ref 111), some (.ref a), some (.int (nI 1)), none]) (le_s (le_s (le_s (le_d rfl (le_n))))) ?_
      exact cr_wk (Nat.le_of_ble_eq_true rfl) (k_nameOf43_1_111 hS hF ht hn hc hl hn1 hap)
  · exact absurd c5 (ia_ne (by decide))
theorem k_nameOfB1_111 {S : CS} {G : Nat → Nat → Value} {B : Nat → Nat → Int32} {J : Nat → Nat → Int64} {R : Nat → Nat → Option Nat} (hS : ShOk S) (hF : FxG G) {a n : Nat} {c : Nat → Nat} (ht : TabAt S G a) (hn : G a 0 = .int (nI n)) (hc : TabC B a n c) (hl : Lat n c) (hn1 : 1 ≤ n) (hap : a < 111 ∨ 133 ≤ a) {l0 n0 : Nat} {c0 bb : Nat → Nat} (hOk : NmOk111 G B) (hl2 : l0 ≤ 2) (hL0 : Lat n0 c0) (hA1 : G 111 1 = .int (nI l0)) (hA2 : G 112 0 = .int (nI n0)) (hT0 : TabC B 112 n0 c0) (hA3 : G 114 0 = .int (nI n0)) (hbb : ∀ q, q < n0 * n0 → B (114 + 1) q = nI (bb q) ∧ bb q < n0) (hM : MinS (n0 * n0) (NmF l0 n0 c0) 1 bb) : CR 5 40 0 [some (.ref 111), some (.ref a), some (.int (nI 1)), none] [] S G B J R (fun r_ S' G' B' J' R' => r_ = some (.ref 114) ∧ S' = S ∧ J' = J ∧ R' = R ∧ FxG G' ∧ Gfr [111, 112, 114, 116, 118] G G' ∧ Bfr [113, 115, 117, 119, 120, 121] B B' ∧ NmOk111 G' B' ∧ G' 114 0 = .int (nI n) ∧ ∃ bb, (∀ q, q < n * n → B' (114 + 1) q = nI (bb q) ∧ bb q < n) ∧ MinS (n * n) (NmF 1 n c) 1 bb) := by
  have hn6 := hc.1
  have hn06 := hT0.1
  refine cr_nx (pc' := 1) (al' := [some (.ref 111), some (.ref a), some (.int (nI 1)), none]) (st' := [.int (nI 1)]) d_40_0 (fun _ => rfl) ?_
  refine cr_nx (pc' := 2) (al' := [some (.ref 111), some (.ref a), some (.int (nI 1)), none]) (st' := [.ref 111, .int (nI 1)]) d_40_1 (fun _ => rfl) ?_
  refine cr_gf (v := .int (nI l0)) d_40_2 cw_40 cf_6_18 (hS.i (a := 111) (by decide) (by decide)) (hS.s (a := 111) (by decide) (by decide) rfl) (by decide) hA1 ?_
  refine cn_cne (t := 37) d_40_5 (by decide) (by first | omega | assumption | exact cu_36 (by omega) (cu_lt (by omega) (by omega))) (by first | omega | assumption | exact cu_36 (by omega) (cu_lt (by omega) (by omega))) (fun c5 => ?_) (fun c5 => ?_)
  · refine cn_ic (v := 0) d_40_37 (by decide) ?_
    refine cr_nx (pc' := 39) (al' := [some (.ref 111), some (.ref a), some (.int (nI 1)), some (.int (nI 0))]) (st' := []) d_40_38 (fun _ => rfl) ?_
    refine cr_nx (pc' := 40) (al' := [some (.ref 111), some (.ref a), some (.int (nI 1)), some (.int (nI 0))]) (st' := [.int (nI 0)]) d_40_39 (fun _ => rfl) ?_
    refine cn_ine (t := 68) d_40_40 (by decide) (by first | omega | assumption | exact cu_36 (by omega) (cu_lt (by omega) (by omega))) (fun c40 => ?_) (fun c40 => ?_)
    · omega
    · refine cr_dr (al1 := [some (.ref 111), some (.ref a), some (.int (nI 1)), none]) (le_s (le_s (le_s (le_d rfl (le_n))))) ?_
      exact cr_wk (Nat.le_of_ble_eq_true rfl) (k_nameOf43_1_111 hS hF ht hn hc hl hn1 hap)
  · refine cr_nx (pc' := 9) (al' := [some (.ref 111), some (.ref a), some (.int (nI 1)), none]) (st' := [.ref a]) d_40_8 (fun _ => rfl) ?_
    refine cr_gf (v := .int (nI n)) d_40_9 cw_40 cf_6_38 ht.1 ht.2.2.1 (by decide) hn ?_
    refine cr_nx (pc' := 13) (al' := [some (.ref 111), some (.ref a), some (.int (nI 1)), none]) (st' := [.ref 111, .int (nI n)]) d_40_12 (fun _ => rfl) ?_
    refine cr_gf (v := .ref 112) d_40_13 cw_40 cf_6_12 (hS.i (a := 111) (by decide) (by decide)) (hS.s (a := 111) (by decide) (by decide) rfl) (by decide) (fx_111_0 hF) ?_
    refine cr_gf (v := .int (nI n0)) d_40_16 cw_40 cf_6_38 (hS.i (a := 112) (by decide) (by decide)) (hS.s (a := 112) (by decide) (by decide) rfl) (by decide) hA2 ?_
    refine cn_cne (t := 37) d_40_19 (by decide) (by first | omega | assumption | exact cu_36 (by omega) (cu_lt (by omega) (by omega))) (by first | omega | assumption | exact cu_36 (by omega) (cu_lt (by omega) (by omega))) (fun c19 => ?_) (fun c19 => ?_)
    · refine cn_ic (v := 0) d_40_37 (by decide) ?_
      refine cr_nx (pc' := 39) (al' := [some (.ref 111), some (.ref a), some (.int (nI 1)), some (.int (nI 0))]) (st' := []) d_40_38 (fun _ => rfl) ?_
      refine cr_nx (pc' := 40) (al' := [some (.ref 111), some (.ref a), some (.int (nI 1)), some (.int (nI 0))]) (st' := [.int (nI 0)]) d_40_39 (fun _ => rfl) ?_
      refine cn_ine (t := 68) d_40_40 (by decide) (by first | omega | assumption | exact cu_36 (by omega) (cu_lt (by omega) (by omega))) (fun c40 => ?_) (fun c40 => ?_)
      · omega
      · refine cr_dr (al1 := [some (.ref 111), some (.ref a), some (.int (nI 1)), none]) (le_s (le_s (le_s (le_d rfl (le_n))))) ?_
        exact cr_wk (Nat.le_of_ble_eq_true rfl) (k_nameOf43_1_111 hS hF ht hn hc hl hn1 hap)
    · refine cr_nx (pc' := 23) (al' := [some (.ref 111), some (.ref a), some (.int (nI 1)), none]) (st' := [.ref a]) d_40_22 (fun _ => rfl) ?_
      refine cr_nx (pc' := 24) (al' := [some (.ref 111), some (.ref a), some (.int (nI 1)), none]) (st' := [.ref 111, .ref a]) d_40_23 (fun _ => rfl) ?_
      refine cr_gf (v := .ref 112) d_40_24 cw_40 cf_6_12 (hS.i (a := 111) (by decide) (by decide)) (hS.s (a := 111) (by decide) (by decide) rfl) (by decide) (fx_111_0 hF) ?_
      obtain rfl := c19
      refine cr_pv (b := a) (as := [.ref 112]) (al0 := [some (.ref a), some (.ref 112), none, none]) (r := []) d_40_27 cw_40 cm_6_41 cz_109 rfl rfl ht.1 (by rw [cw_109]; exact ht.2.2.1) (by rw [cw_109]; decide) rfl (Nat.le_of_ble_eq_true rfl) (k_differences ht hn hc (tb_112 hS hF) hT0) ?_
      show CR _ _ 30 [some (.ref 111), some (.ref a), some (.int (nI 1)), none] [.int (nI (dfN (n * n) c c0))] S G B J R _
      have hd := dfN_le (n * n) c c0
      have hnn : n * n ≤ 36 := Nat.mul_le_mul hn6 hn6
      refine cn_ine (t := 37) d_40_30 (by decide) (by first | omega | assumption | exact cu_36 (by omega) (cu_lt (by omega) (by omega))) (fun c30 => ?_) (fun c30 => ?_)
      · refine cn_ic (v := 0) d_40_37 (by decide) ?_
        refine cr_nx (pc' := 39) (al' := [some (.ref 111), some (.ref a), some (.int (nI 1)), some (.int (nI 0))]) (st' := []) d_40_38 (fun _ => rfl) ?_
        refine cr_nx (pc' := 40) (al' := [some (.ref 111), some (.ref a), some (.int (nI 1)), some (.int (nI 0))]) (st' := [.int (nI 0)]) d_40_39 (fun _ => rfl) ?_
        refine cn_ine (t := 68) d_40_40 (by decide) (by first | omega | assumption | exact cu_36 (by omega) (cu_lt (by omega) (by omega))) (fun c40 => ?_) (fun c40 => ?_)
        · omega
        · refine cr_dr (al1 := [some (.ref 111), some (.ref a), some (.int (nI 1)), none]) (le_s (le_s (le_s (le_d rfl (le_n))))) ?_
          exact cr_wk (Nat.le_of_ble_eq_true rfl) (k_nameOf43_1_111 hS hF ht hn hc hl hn1 hap)
      · refine cn_ic (v := 1) d_40_33 (by decide) ?_
        refine cr_nx (pc' := 38) (al' := [some (.ref 111), some (.ref a), some (.int (nI 1)), none]) (st' := [.int (nI 1)]) d_40_34 (fun _ => rfl) ?_
        refine cr_nx (pc' := 39) (al' := [some (.ref 111), some (.ref a), some (.int (nI 1)), some (.int (nI 1))]) (st' := []) d_40_38 (fun _ => rfl) ?_
        refine cr_nx (pc' := 40) (al' := [some (.ref 111), some (.ref a), some (.int (nI 1)), some (.int (nI 1))]) (st' := [.int (nI 1)]) d_40_39 (fun _ => rfl) ?_
        refine cn_ine (t := 68) d_40_40 (by decide) (by first | omega | assumption | exact cu_36 (by omega) (cu_lt (by omega) (by omega))) (fun c40 => ?_) (fun c40 => ?_)
        · refine cr_nx (pc' := 69) (al' := [some (.ref 111), some (.ref a), some (.int (nI 1)), some (.int (nI 1))]) (st' := [.ref 111]) d_40_68 (fun _ => rfl) ?_
          refine cr_gf (v := .ref 114) d_40_69 cw_40 cf_6_22 (hS.i (a := 111) (by decide) (by decide)) (hS.s (a := 111) (by decide) (by decide) rfl) (by decide) (fx_111_2 hF) ?_
          exact cr_ra d_40_72 cx_40 (by first | exact Or.inl ⟨_, rfl⟩ | exact Or.inr ⟨_, rfl⟩) (by
              have he := df_0 c30
              have hl0 : 1 = l0 := c5
              subst hl0
              have hM2 := Min_iff hM (NmF_cg (c := c0) (d := c) hL0 (fun q hq => (he q hq).symm))
              exact ⟨rfl, rfl, rfl, rfl, hF, Gfr.rf, Bfr.rf, hOk, hA3, bb, hbb, hM2⟩)
        · omega
theorem k_nameOf1_111 {S : CS} {G : Nat → Nat → Value} {B : Nat → Nat → Int32} {J : Nat → Nat → Int64} {R : Nat → Nat → Option Nat} (hS : ShOk S) (hF : FxG G) {a n : Nat} {c : Nat → Nat} (ht : TabAt S G a) (hn : G a 0 = .int (nI n)) (hc : TabC B a n c) (hl : Lat n c) (hn1 : 1 ≤ n) (hap : a < 111 ∨ 133 ≤ a) (hOk : NmOk111 G B) : CR 5 40 0 [some (.ref 111), some (.ref a), some (.int (nI 1)), none] [] S G B J R (fun r_ S' G' B' J' R' => r_ = some (.ref 114) ∧ S' = S ∧ J' = J ∧ R' = R ∧ FxG G' ∧ Gfr [111, 112, 114, 116, 118] G G' ∧ Bfr [113, 115, 117, 119, 120, 121] B B' ∧ NmOk111 G' B' ∧ G' 114 0 = .int (nI n) ∧ ∃ bb, (∀ q, q < n * n → B' (114 + 1) q = nI (bb q) ∧ bb q < n) ∧ MinS (n * n) (NmF 1 n c) 1 bb) := by
  rcases hOk with h | ⟨l0, n0, c0, a1, a2, a3, a4, a5, a6, a7, bb, a8, a9⟩
  · exact k_nameOfA1_111 hS hF ht hn hc hl hn1 hap h
  · exact k_nameOfB1_111 hS hF ht hn hc hl hn1 hap (Or.inr ⟨l0, n0, c0, a1, a2, a3, a4, a5, a6, a7, bb, a8, a9⟩) a1 a2 a4 a5 a6 a7 a8 a9
theorem k_nameOf43_2_111 {S : CS} {G : Nat → Nat → Value} {B : Nat → Nat → Int32} {J : Nat → Nat → Int64} {R : Nat → Nat → Option Nat} (hS : ShOk S) (hF : FxG G) {a n : Nat} {c : Nat → Nat} (ht : TabAt S G a) (hn : G a 0 = .int (nI n)) (hc : TabC B a n c) (hl : Lat n c) (hn1 : 1 ≤ n) (hap : a < 111 ∨ 133 ≤ a) : CR 5 40 43 [some (.ref 111), some (.ref a), some (.int (nI 2)), none] [] S G B J R (fun r_ S' G' B' J' R' => r_ = some (.ref 114) ∧ S' = S ∧ J' = J ∧ R' = R ∧ FxG G' ∧ Gfr [111, 112, 114, 116, 118] G G' ∧ Bfr [113, 115, 117, 119, 120, 121] B B' ∧ NmOk111 G' B' ∧ G' 114 0 = .int (nI n) ∧ ∃ bb, (∀ q, q < n * n → B' (114 + 1) q = nI (bb q) ∧ bb q < n) ∧ MinS (n * n) (NmF 2 n c) 1 bb) := by
  have hn6 := hc.1
  refine cr_nx (pc' := 44) (al' := [some (.ref 111), some (.ref a), some (.int (nI 2)), none]) (st' := [.ref 111]) d_40_43 (fun _ => rfl) ?_
  refine cr_gf (v := .ref 112) d_40_44 cw_40 cf_6_12 (hS.i (a := 111) (by decide) (by decide)) (hS.s (a := 111) (by decide) (by decide) rfl) (by decide) (fx_111_0 hF) ?_
  refine cr_nx (pc' := 48) (al' := [some (.ref 111), some (.ref a), some (.int (nI 2)), none]) (st' := [.ref a, .ref 112]) d_40_47 (fun _ => rfl) ?_
  refine cr_pv (b := 112) (as := [.ref a]) (al0 := [some (.ref 112), some (.ref a)]) (r := []) d_40_48 cw_40 cm_6_45 cz_93 rfl rfl (hS.i (a := 112) (by decide) (by decide)) (by rw [cw_93]; exact (hS.s (a := 112) (by decide) (by decide) rfl)) (by rw [cw_93]; decide) rfl (Nat.le_of_ble_eq_true rfl) (k_become (tb_112 hS hF) ht (by omega) hn) ?_
  show CR _ _ 51 [some (.ref 111), some (.ref a), some (.int (nI 2)), none] [] S (up2 G 112 0 (.int (nI n))) (upr B (112 + 1) (va_cpy (B (a + 1)) (B (112 + 1)) 0 0 36)) J R _
  refine cr_nx (pc' := 52) (al' := [some (.ref 111), some (.ref a), some (.int (nI 2)), none]) (st' := [.ref 111]) d_40_51 (fun _ => rfl) ?_
  refine cr_nx (pc' := 53) (al' := [some (.ref 111), some (.ref a), some (.int (nI 2)), none]) (st' := [.int (nI 2), .ref 111]) d_40_52 (fun _ => rfl) ?_
  refine cp_6_1  d_40_53 cw_40 cf_6_18 (hS.i (a := 111) (by decide) (by decide)) (hS.s (a := 111) (by decide) (by decide) rfl) (by decide) ?_
  refine cr_nx (pc' := 57) (al' := [some (.ref 111), some (.ref a), some (.int (nI 2)), none]) (st' := [.ref 111]) d_40_56 (fun _ => rfl) ?_
  refine cr_gf (v := .ref 114) d_40_57 cw_40 cf_6_22 (hS.i (a := 111) (by decide) (by decide)) (hS.s (a := 111) (by decide) (by decide) rfl) (by decide) (by simp [up2]; exact (fx_111_2 hF)) ?_
  refine cn_ic (v := 0) d_40_60 (by decide) ?_
  refine cp_10_0  d_40_61 cw_40 cf_6_38 (hS.i (a := 114) (by decide) (by decide)) (hS.s (a := 114) (by decide) (by decide) rfl) (by decide) ?_
  refine cr_nx (pc' := 65) (al' := [some (.ref 111), some (.ref a), some (.int (nI 2)), none]) (st' := [.ref 111]) d_40_64 (fun _ => rfl) ?_
  have hc1 : TabC (upr B (112 + 1) (va_cpy (B (a + 1)) (B (112 + 1)) 0 0 36)) 112 n c := ⟨hn6, fun q hq => ⟨by rw [upr_s, cpy_36 (cu_36 hn6 hq)]; exact (hc.2 q hq).1, hl.1 q hq⟩⟩
  refine cr_cv (b := 111) (as := []) (al0 := [some (.ref 111), none, none]) (r := []) d_40_65 cw_40 cm_6_49 cz_41 rfl rfl (hS.i (a := 111) (by decide) (by decide)) (by rw [cw_41]; exact (hS.s (a := 111) (by decide) (by decide) rfl)) (by rw [cw_41]; decide) rfl (cr_wk (Nat.le_of_ble_eq_true rfl) (k_offerAll2_111 hS (((hF.u0 (by decide)).up (by decide +kernel)).u0 (by decide)) (by rw [up2_n (by decide), up2_n (by decide)]; exact up2_s) hc1 hl hn1 up2_s (by rw [up2_n (by decide)]; exact up2_s))) (fun v1 S1 G2 B2 J1 R1 h1 => ?_)
  obtain ⟨q0_, q1_, q2_, q3_, fx2, gf2, bf2, gb2, b2, hb2, mi2⟩ := h1
  obtain rfl := q0_
  obtain rfl := q1_.symm
  obtain rfl := q2_.symm
  obtain rfl := q3_.symm
  show CR _ _ 68 [some (.ref 111), some (.ref a), some (.int (nI 2)), none] [] S G2 B2 J R _
  refine cr_nx (pc' := 69) (al' := [some (.ref 111), some (.ref a), some (.int (nI 2)), none]) (st' := [.ref 111]) d_40_68 (fun _ => rfl) ?_
  refine cr_gf (v := .ref 114) d_40_69 cw_40 cf_6_22 (hS.i (a := 111) (by decide) (by decide)) (hS.s (a := 111) (by decide) (by decide) rfl) (by decide) (fx_111_2 fx2) ?_
  exact cr_ra d_40_72 cx_40 (by first | exact Or.inl ⟨_, rfl⟩ | exact Or.inr ⟨_, rfl⟩) ⟨rfl, rfl, rfl, rfl, fx2, (((Gfr.rf.u (by decide)).u (by decide)).u (by decide)).tr (gf2.mo (by decide)), (Bfr.rf.u (by decide)).tr (bf2.mo (by decide)), Or.inr ⟨2, n, c, by decide, hl, hn1, by rw [gf2 111 (by decide), up2_n (by decide)]; exact up2_s, by rw [gf2 112 (by decide), up2_n (by decide), up2_n (by decide)]; exact up2_s, bf2.c (by decide) hc1, gb2, b2, hb2, mi2⟩, gb2, b2, hb2, mi2⟩
theorem k_nameOfA2_111 {S : CS} {G : Nat → Nat → Value} {B : Nat → Nat → Int32} {J : Nat → Nat → Int64} {R : Nat → Nat → Option Nat} (hS : ShOk S) (hF : FxG G) {a n : Nat} {c : Nat → Nat} (ht : TabAt S G a) (hn : G a 0 = .int (nI n)) (hc : TabC B a n c) (hl : Lat n c) (hn1 : 1 ≤ n) (hap : a < 111 ∨ 133 ≤ a) (hA1 : G 111 1 = .int (-1)) : CR 5 40 0 [some (.ref 111), some (.ref a), some (.int (nI 2)), none] [] S G B J R (fun r_ S' G' B' J' R' => r_ = some (.ref 114) ∧ S' = S ∧ J' = J ∧ R' = R ∧ FxG G' ∧ Gfr [111, 112, 114, 116, 118] G G' ∧ Bfr [113, 115, 117, 119, 120, 121] B B' ∧ NmOk111 G' B' ∧ G' 114 0 = .int (nI n) ∧ ∃ bb, (∀ q, q < n * n → B' (114 + 1) q = nI (bb q) ∧ bb q < n) ∧ MinS (n * n) (NmF 2 n c) 1 bb) := by
  have hn6 := hc.1
  refine cr_nx (pc' := 1) (al' := [some (.ref 111), some (.ref a), some (.int (nI 2)), none]) (st' := [.int (nI 2)]) d_40_0 (fun _ => rfl) ?_
  refine cr_nx (pc' := 2) (al' := [some (.ref 111), some (.ref a), some (.int (nI 2)), none]) (st' := [.ref 111, .int (nI 2)]) d_40_1 (fun _ => rfl) ?_
  refine cr_gf (v := .int (-1)) d_40_2 cw_40 cf_6_18 (hS.i (a := 111) (by decide) (by decide)) (hS.s (a := 111) (by decide) (by decide) rfl) (by decide) hA1 ?_
  refine cr_cne (t := 37) d_40_5 (by decide) (fun c5 => ?_) (fun c5 => ?_)
  · refine cn_ic (v := 0) d_40_37 (by decide) ?_
    refine cr_nx (pc' := 39) (al' := [some (.ref 111), some (.ref a), some (.int (nI 2)), some (.int (nI 0))]) (st' := []) d_40_38 (fun _ => rfl) ?_
    refine cr_nx (pc' := 40) (al' := [some (.ref 111), some (.ref a), some (.int (nI 2)), some (.int (nI 0))]) (st' := [.int (nI 0)]) d_40_39 (fun _ => rfl) ?_
    refine cn_ine (t := 68) d_40_40 (by decide) (by first | omega | assumption | exact cu_36 (by omega) (cu_lt (by omega) (by omega))) (fun c40 => ?_) (fun c40 => ?_)
    · omega
    · refine cr_dr (al1 := [some (.ref 111), some (.ref a), some (.int (nI 2)), none]) (le_s (le_s (le_s (le_d rfl (le_n))))) ?_
      exact cr_wk (Nat.le_of_ble_eq_true rfl) (k_nameOf43_2_111 hS hF ht hn hc hl hn1 hap)
  · exact absurd c5 (ia_ne (by decide))
theorem k_nameOfB2_111 {S : CS} {G : Nat → Nat → Value} {B : Nat → Nat → Int32} {J : Nat → Nat → Int64} {R : Nat → Nat → Option Nat} (hS : ShOk S) (hF : FxG G) {a n : Nat} {c : Nat → Nat} (ht : TabAt S G a) (hn : G a 0 = .int (nI n)) (hc : TabC B a n c) (hl : Lat n c) (hn1 : 1 ≤ n) (hap : a < 111 ∨ 133 ≤ a) {l0 n0 : Nat} {c0 bb : Nat → Nat} (hOk : NmOk111 G B) (hl2 : l0 ≤ 2) (hL0 : Lat n0 c0) (hA1 : G 111 1 = .int (nI l0)) (hA2 : G 112 0 = .int (nI n0)) (hT0 : TabC B 112 n0 c0) (hA3 : G 114 0 = .int (nI n0)) (hbb : ∀ q, q < n0 * n0 → B (114 + 1) q = nI (bb q) ∧ bb q < n0) (hM : MinS (n0 * n0) (NmF l0 n0 c0) 1 bb) : CR 5 40 0 [some (.ref 111), some (.ref a), some (.int (nI 2)), none] [] S G B J R (fun r_ S' G' B' J' R' => r_ = some (.ref 114) ∧ S' = S ∧ J' = J ∧ R' = R ∧ FxG G' ∧ Gfr [111, 112, 114, 116, 118] G G' ∧ Bfr [113, 115, 117, 119, 120, 121] B B' ∧ NmOk111 G' B' ∧ G' 114 0 = .int (nI n) ∧ ∃ bb, (∀ q, q < n * n → B' (114 + 1) q = nI (bb q) ∧ bb q < n) ∧ MinS (n * n) (NmF 2 n c) 1 bb) := by
  have hn6 := hc.1
  have hn06 := hT0.1
  refine cr_nx (pc' := 1) (al' := [some (.ref 111), some (.ref a), some (.int (nI 2)), none]) (st' := [.int (nI 2)]) d_40_0 (fun _ => rfl) ?_
  refine cr_nx (pc' := 2) (al' := [some (.ref 111), some (.ref a), some (.int (nI 2)), none]) (st' := [.ref 111, .int (nI 2)]) d_40_1 (fun _ => rfl) ?_
  refine cr_gf (v := .int (nI l0)) d_40_2 cw_40 cf_6_18 (hS.i (a := 111) (by decide) (by decide)) (hS.s (a := 111) (by decide) (by decide) rfl) (by decide) hA1 ?_
  refine cn_cne (t := 37) d_40_5 (by decide) (by first | omega | assumption | exact cu_36 (by omega) (cu_lt (by omega) (by omega))) (by first | omega | assumption | exact cu_36 (by omega) (cu_lt (by omega) (by omega))) (fun c5 => ?_) (fun c5 => ?_)
  · refine cn_ic (v := 0) d_40_37 (by decide) ?_
    refine cr_nx (pc' := 39) (al' := [some (.ref 111), some (.ref a), some (.int (nI 2)), some (.int (nI 0))]) (st' := []) d_40_38 (fun _ => rfl) ?_
    refine cr_nx (pc' := 40) (al' := [some (.ref 111), some (.ref a), some (.int (nI 2)), some (.int (nI 0))]) (st' := [.int (nI 0)]) d_40_39 (fun _ => rfl) ?_
    refine cn_ine (t := 68) d_40_40 (by decide) (by first | omega | assumption | exact cu_36 (by omega) (cu_lt (by omega) (by omega))) (fun c40 => ?_) (fun c40 => ?_)
    · omega
    · refine cr_dr (al1 := [some (.ref 111), some (.ref a), some (.int (nI 2)), none]) (le_s (le_s (le_s (le_d rfl (le_n))))) ?_
      exact cr_wk (Nat.le_of_ble_eq_true rfl) (k_nameOf43_2_111 hS hF ht hn hc hl hn1 hap)
  · refine cr_nx (pc' := 9) (al' := [some (.ref 111), some (.ref a), some (.int (nI 2)), none]) (st' := [.ref a]) d_40_8 (fun _ => rfl) ?_
    refine cr_gf (v := .int (nI n)) d_40_9 cw_40 cf_6_38 ht.1 ht.2.2.1 (by decide) hn ?_
    refine cr_nx (pc' := 13) (al' := [some (.ref 111), some (.ref a), some (.int (nI 2)), none]) (st' := [.ref 111, .int (nI n)]) d_40_12 (fun _ => rfl) ?_
    refine cr_gf (v := .ref 112) d_40_13 cw_40 cf_6_12 (hS.i (a := 111) (by decide) (by decide)) (hS.s (a := 111) (by decide) (by decide) rfl) (by decide) (fx_111_0 hF) ?_
    refine cr_gf (v := .int (nI n0)) d_40_16 cw_40 cf_6_38 (hS.i (a := 112) (by decide) (by decide)) (hS.s (a := 112) (by decide) (by decide) rfl) (by decide) hA2 ?_
    refine cn_cne (t := 37) d_40_19 (by decide) (by first | omega | assumption | exact cu_36 (by omega) (cu_lt (by omega) (by omega))) (by first | omega | assumption | exact cu_36 (by omega) (cu_lt (by omega) (by omega))) (fun c19 => ?_) (fun c19 => ?_)
    · refine cn_ic (v := 0) d_40_37 (by decide) ?_
      refine cr_nx (pc' := 39) (al' := [some (.ref 111), some (.ref a), some (.int (nI 2)), some (.int (nI 0))]) (st' := []) d_40_38 (fun _ => rfl) ?_
      refine cr_nx (pc' := 40) (al' := [some (.ref 111), some (.ref a), some (.int (nI 2)), some (.int (nI 0))]) (st' := [.int (nI 0)]) d_40_39 (fun _ => rfl) ?_
      refine cn_ine (t := 68) d_40_40 (by decide) (by first | omega | assumption | exact cu_36 (by omega) (cu_lt (by omega) (by omega))) (fun c40 => ?_) (fun c40 => ?_)
      · omega
      · refine cr_dr (al1 := [some (.ref 111), some (.ref a), some (.int (nI 2)), none]) (le_s (le_s (le_s (le_d rfl (le_n))))) ?_
        exact cr_wk (Nat.le_of_ble_eq_true rfl) (k_nameOf43_2_111 hS hF ht hn hc hl hn1 hap)
    · refine cr_nx (pc' := 23) (al' := [some (.ref 111), some (.ref a), some (.int (nI 2)), none]) (st' := [.ref a]) d_40_22 (fun _ => rfl) ?_
      refine cr_nx (pc' := 24) (al' := [some (.ref 111), some (.ref a), some (.int (nI 2)), none]) (st' := [.ref 111, .ref a]) d_40_23 (fun _ => rfl) ?_
      refine cr_gf (v := .ref 112) d_40_24 cw_40 cf_6_12 (hS.i (a := 111) (by decide) (by decide)) (hS.s (a := 111) (by decide) (by decide) rfl) (by decide) (fx_111_0 hF) ?_
      obtain rfl := c19
      refine cr_pv (b := a) (as := [.ref 112]) (al0 := [some (.ref a), some (.ref 112), none, none]) (r := []) d_40_27 cw_40 cm_6_41 cz_109 rfl rfl ht.1 (by rw [cw_109]; exact ht.2.2.1) (by rw [cw_109]; decide) rfl (Nat.le_of_ble_eq_true rfl) (k_differences ht hn hc (tb_112 hS hF) hT0) ?_
      show CR _ _ 30 [some (.ref 111), some (.ref a), some (.int (nI 2)), none] [.int (nI (dfN (n * n) c c0))] S G B J R _
      have hd := dfN_le (n * n) c c0
      have hnn : n * n ≤ 36 := Nat.mul_le_mul hn6 hn6
      refine cn_ine (t := 37) d_40_30 (by decide) (by first | omega | assumption | exact cu_36 (by omega) (cu_lt (by omega) (by omega))) (fun c30 => ?_) (fun c30 => ?_)
      · refine cn_ic (v := 0) d_40_37 (by decide) ?_
        refine cr_nx (pc' := 39) (al' := [some (.ref 111), some (.ref a), some (.int (nI 2)), some (.int (nI 0))]) (st' := []) d_40_38 (fun _ => rfl) ?_
        refine cr_nx (pc' := 40) (al' := [some (.ref 111), some (.ref a), some (.int (nI 2)), some (.int (nI 0))]) (st' := [.int (nI 0)]) d_40_39 (fun _ => rfl) ?_
        refine cn_ine (t := 68) d_40_40 (by decide) (by first | omega | assumption | exact cu_36 (by omega) (cu_lt (by omega) (by omega))) (fun c40 => ?_) (fun c40 => ?_)
        · omega
        · refine cr_dr (al1 := [some (.ref 111), some (.ref a), some (.int (nI 2)), none]) (le_s (le_s (le_s (le_d rfl (le_n))))) ?_
          exact cr_wk (Nat.le_of_ble_eq_true rfl) (k_nameOf43_2_111 hS hF ht hn hc hl hn1 hap)
      · refine cn_ic (v := 1) d_40_33 (by decide) ?_
        refine cr_nx (pc' := 38) (al' := [some (.ref 111), some (.ref a), some (.int (nI 2)), none]) (st' := [.int (nI 1)]) d_40_34 (fun _ => rfl) ?_
        refine cr_nx (pc' := 39) (al' := [some (.ref 111), some (.ref a), some (.int (nI 2)), some (.int (nI 1))]) (st' := []) d_40_38 (fun _ => rfl) ?_
        refine cr_nx (pc' := 40) (al' := [some (.ref 111), some (.ref a), some (.int (nI 2)), some (.int (nI 1))]) (st' := [.int (nI 1)]) d_40_39 (fun _ => rfl) ?_
        refine cn_ine (t := 68) d_40_40 (by decide) (by first | omega | assumption | exact cu_36 (by omega) (cu_lt (by omega) (by omega))) (fun c40 => ?_) (fun c40 => ?_)
        · refine cr_nx (pc' := 69) (al' := [some (.ref 111), some (.ref a), some (.int (nI 2)), some (.int (nI 1))]) (st' := [.ref 111]) d_40_68 (fun _ => rfl) ?_
          refine cr_gf (v := .ref 114) d_40_69 cw_40 cf_6_22 (hS.i (a := 111) (by decide) (by decide)) (hS.s (a := 111) (by decide) (by decide) rfl) (by decide) (fx_111_2 hF) ?_
          exact cr_ra d_40_72 cx_40 (by first | exact Or.inl ⟨_, rfl⟩ | exact Or.inr ⟨_, rfl⟩) (by
              have he := df_0 c30
              have hl0 : 2 = l0 := c5
              subst hl0
              have hM2 := Min_iff hM (NmF_cg (c := c0) (d := c) hL0 (fun q hq => (he q hq).symm))
              exact ⟨rfl, rfl, rfl, rfl, hF, Gfr.rf, Bfr.rf, hOk, hA3, bb, hbb, hM2⟩)
        · omega
theorem k_nameOf2_111 {S : CS} {G : Nat → Nat → Value} {B : Nat → Nat → Int32} {J : Nat → Nat → Int64} {R : Nat → Nat → Option Nat} (hS : ShOk S) (hF : FxG G) {a n : Nat} {c : Nat → Nat} (ht : TabAt S G a) (hn : G a 0 = .int (nI n)) (hc : TabC B a n c) (hl : Lat n c) (hn1 : 1 ≤ n) (hap : a < 111 ∨ 133 ≤ a) (hOk : NmOk111 G B) : CR 5 40 0 [some (.ref 111), some (.ref a), some (.int (nI 2)), none] [] S G B J R (fun r_ S' G' B' J' R' => r_ = some (.ref 114) ∧ S' = S ∧ J' = J ∧ R' = R ∧ FxG G' ∧ Gfr [111, 112, 114, 116, 118] G G' ∧ Bfr [113, 115, 117, 119, 120, 121] B B' ∧ NmOk111 G' B' ∧ G' 114 0 = .int (nI n) ∧ ∃ bb, (∀ q, q < n * n → B' (114 + 1) q = nI (bb q) ∧ bb q < n) ∧ MinS (n * n) (NmF 2 n c) 1 bb) := by
  rcases hOk with h | ⟨l0, n0, c0, a1, a2, a3, a4, a5, a6, a7, bb, a8, a9⟩
  · exact k_nameOfA2_111 hS hF ht hn hc hl hn1 hap h
  · exact k_nameOfB2_111 hS hF ht hn hc hl hn1 hap (Or.inr ⟨l0, n0, c0, a1, a2, a3, a4, a5, a6, a7, bb, a8, a9⟩) a1 a2 a4 a5 a6 a7 a8 a9
def NmOk122 (G : Nat → Nat → Value) (B : Nat → Nat → Int32) : Prop := G 122 1 = .int (-1) ∨ ∃ l n c, l ≤ 2 ∧ Lat n c ∧ 1 ≤ n ∧ G 122 1 = .int (nI l) ∧ G 123 0 = .int (nI n) ∧ TabC B 123 n c ∧ G 125 0 = .int (nI n) ∧ ∃ bb, (∀ q, q < n * n → B (125 + 1) q = nI (bb q) ∧ bb q < n) ∧ MinS (n * n) (NmF l n c) 1 bb
theorem k_nameOf43_0_122 {S : CS} {G : Nat → Nat → Value} {B : Nat → Nat → Int32} {J : Nat → Nat → Int64} {R : Nat → Nat → Option Nat} (hS : ShOk S) (hF : FxG G) {a n : Nat} {c : Nat → Nat} (ht : TabAt S G a) (hn : G a 0 = .int (nI n)) (hc : TabC B a n c) (hl : Lat n c) (hn1 : 1 ≤ n) (hap : a < 111 ∨ 133 ≤ a) : CR 5 40 43 [some (.ref 122), some (.ref a), some (.int (nI 0)), none] [] S G B J R (fun r_ S' G' B' J' R' => r_ = some (.ref 125) ∧ S' = S ∧ J' = J ∧ R' = R ∧ FxG G' ∧ Gfr [122, 123, 125, 127, 129] G G' ∧ Bfr [124, 126, 128, 130, 131, 132] B B' ∧ NmOk122 G' B' ∧ G' 125 0 = .int (nI n) ∧ ∃ bb, (∀ q, q < n * n → B' (125 + 1) q = nI (bb q) ∧ bb q < n) ∧ MinS (n * n) (NmF 0 n c) 1 bb) := by
  have hn6 := hc.1
  refine cr_nx (pc' := 44) (al' := [some (.ref 122), some (.ref a), some (.int (nI 0)), none]) (st' := [.ref 122]) d_40_43 (fun _ => rfl) ?_
  refine cr_gf (v := .ref 123) d_40_44 cw_40 cf_6_12 (hS.i (a := 122) (by decide) (by decide)) (hS.s (a := 122) (by decide) (by decide) rfl) (by decide) (fx_122_0 hF) ?_
  refine cr_nx (pc' := 48) (al' := [some (.ref 122), some (.ref a), some (.int (nI 0)), none]) (st' := [.ref a, .ref 123]) d_40_47 (fun _ => rfl) ?_
  refine cr_pv (b := 123) (as := [.ref a]) (al0 := [some (.ref 123), some (.ref a)]) (r := []) d_40_48 cw_40 cm_6_45 cz_93 rfl rfl (hS.i (a := 123) (by decide) (by decide)) (by rw [cw_93]; exact (hS.s (a := 123) (by decide) (by decide) rfl)) (by rw [cw_93]; decide) rfl (Nat.le_of_ble_eq_true rfl) (k_become (tb_123 hS hF) ht (by omega) hn) ?_
  show CR _ _ 51 [some (.ref 122), some (.ref a), some (.int (nI 0)), none] [] S (up2 G 123 0 (.int (nI n))) (upr B (123 + 1) (va_cpy (B (a + 1)) (B (123 + 1)) 0 0 36)) J R _
  refine cr_nx (pc' := 52) (al' := [some (.ref 122), some (.ref a), some (.int (nI 0)), none]) (st' := [.ref 122]) d_40_51 (fun _ => rfl) ?_
  refine cr_nx (pc' := 53) (al' := [some (.ref 122), some (.ref a), some (.int (nI 0)), none]) (st' := [.int (nI 0), .ref 122]) d_40_52 (fun _ => rfl) ?_
  refine cp_6_1  d_40_53 cw_40 cf_6_18 (hS.i (a := 122) (by decide) (by decide)) (hS.s (a := 122) (by decide) (by decide) rfl) (by decide) ?_
  refine cr_nx (pc' := 57) (al' := [some (.ref 122), some (.ref a), some (.int (nI 0)), none]) (st' := [.ref 122]) d_40_56 (fun _ => rfl) ?_
  refine cr_gf (v := .ref 125) d_40_57 cw_40 cf_6_22 (hS.i (a := 122) (by decide) (by decide)) (hS.s (a := 122) (by decide) (by decide) rfl) (by decide) (by simp [up2]; exact (fx_122_2 hF)) ?_
  refine cn_ic (v := 0) d_40_60 (by decide) ?_
  refine cp_10_0  d_40_61 cw_40 cf_6_38 (hS.i (a := 125) (by decide) (by decide)) (hS.s (a := 125) (by decide) (by decide) rfl) (by decide) ?_
  refine cr_nx (pc' := 65) (al' := [some (.ref 122), some (.ref a), some (.int (nI 0)), none]) (st' := [.ref 122]) d_40_64 (fun _ => rfl) ?_
  have hc1 : TabC (upr B (123 + 1) (va_cpy (B (a + 1)) (B (123 + 1)) 0 0 36)) 123 n c := ⟨hn6, fun q hq => ⟨by rw [upr_s, cpy_36 (cu_36 hn6 hq)]; exact (hc.2 q hq).1, hl.1 q hq⟩⟩
  refine cr_cv (b := 122) (as := []) (al0 := [some (.ref 122), none, none]) (r := []) d_40_65 cw_40 cm_6_49 cz_41 rfl rfl (hS.i (a := 122) (by decide) (by decide)) (by rw [cw_41]; exact (hS.s (a := 122) (by decide) (by decide) rfl)) (by rw [cw_41]; decide) rfl (cr_wk (Nat.le_of_ble_eq_true rfl) (k_offerAll0_122 hS (((hF.u0 (by decide)).up (by decide +kernel)).u0 (by decide)) (by rw [up2_n (by decide), up2_n (by decide)]; exact up2_s) hc1 hl hn1 up2_s (by rw [up2_n (by decide)]; exact up2_s))) (fun v1 S1 G2 B2 J1 R1 h1 => ?_)
  obtain ⟨q0_, q1_, q2_, q3_, fx2, gf2, bf2, gb2, b2, hb2, mi2⟩ := h1
  obtain rfl := q0_
  obtain rfl := q1_.symm
  obtain rfl := q2_.symm
  obtain rfl := q3_.symm
  show CR _ _ 68 [some (.ref 122), some (.ref a), some (.int (nI 0)), none] [] S G2 B2 J R _
  refine cr_nx (pc' := 69) (al' := [some (.ref 122), some (.ref a), some (.int (nI 0)), none]) (st' := [.ref 122]) d_40_68 (fun _ => rfl) ?_
  refine cr_gf (v := .ref 125) d_40_69 cw_40 cf_6_22 (hS.i (a := 122) (by decide) (by decide)) (hS.s (a := 122) (by decide) (by decide) rfl) (by decide) (fx_122_2 fx2) ?_
  exact cr_ra d_40_72 cx_40 (by first | exact Or.inl ⟨_, rfl⟩ | exact Or.inr ⟨_, rfl⟩) ⟨rfl, rfl, rfl, rfl, fx2, (((Gfr.rf.u (by decide)).u (by decide)).u (by decide)).tr (gf2.mo (by decide)), (Bfr.rf.u (by decide)).tr (bf2.mo (by decide)), Or.inr ⟨0, n, c, by decide, hl, hn1, by rw [gf2 122 (by decide), up2_n (by decide)]; exact up2_s, by rw [gf2 123 (by decide), up2_n (by decide), up2_n (by decide)]; exact up2_s, bf2.c (by decide) hc1, gb2, b2, hb2, mi2⟩, gb2, b2, hb2, mi2⟩
theorem k_nameOfA0_122 {S : CS} {G : Nat → Nat → Value} {B : Nat → Nat → Int32} {J : Nat → Nat → Int64} {R : Nat → Nat → Option Nat} (hS : ShOk S) (hF : FxG G) {a n : Nat} {c : Nat → Nat} (ht : TabAt S G a) (hn : G a 0 = .int (nI n)) (hc : TabC B a n c) (hl : Lat n c) (hn1 : 1 ≤ n) (hap : a < 111 ∨ 133 ≤ a) (hA1 : G 122 1 = .int (-1)) : CR 5 40 0 [some (.ref 122), some (.ref a), some (.int (nI 0)), none] [] S G B J R (fun r_ S' G' B' J' R' => r_ = some (.ref 125) ∧ S' = S ∧ J' = J ∧ R' = R ∧ FxG G' ∧ Gfr [122, 123, 125, 127, 129] G G' ∧ Bfr [124, 126, 128, 130, 131, 132] B B' ∧ NmOk122 G' B' ∧ G' 125 0 = .int (nI n) ∧ ∃ bb, (∀ q, q < n * n → B' (125 + 1) q = nI (bb q) ∧ bb q < n) ∧ MinS (n * n) (NmF 0 n c) 1 bb) := by
  have hn6 := hc.1
  refine cr_nx (pc' := 1) (al' := [some (.ref 122), some (.ref a), some (.int (nI 0)), none]) (st' := [.int (nI 0)]) d_40_0 (fun _ => rfl) ?_
  refine cr_nx (pc' := 2) (al' := [some (.ref 122), some (.ref a), some (.int (nI 0)), none]) (st' := [.ref 122, .int (nI 0)]) d_40_1 (fun _ => rfl) ?_
  refine cr_gf (v := .int (-1)) d_40_2 cw_40 cf_6_18 (hS.i (a := 122) (by decide) (by decide)) (hS.s (a := 122) (by decide) (by decide) rfl) (by decide) hA1 ?_
  refine cr_cne (t := 37) d_40_5 (by decide) (fun c5 => ?_) (fun c5 => ?_)
  · refine cn_ic (v := 0) d_40_37 (by decide) ?_
    refine cr_nx (pc' := 39) (al' := [some (.ref 122), some (.ref a), some (.int (nI 0)), some (.int (nI 0))]) (st' := []) d_40_38 (fun _ => rfl) ?_
    refine cr_nx (pc' := 40) (al' := [some (.ref 122), some (.ref a), some (.int (nI 0)), some (.int (nI 0))]) (st' := [.int (nI 0)]) d_40_39 (fun _ => rfl) ?_
    refine cn_ine (t := 68) d_40_40 (by decide) (by first | omega | assumption | exact cu_36 (by omega) (cu_lt (by omega) (by omega))) (fun c40 => ?_) (fun c40 => ?_)
    · omega
    · refine cr_dr (al1 := [some (.ref 122), some (.ref a), some (.int (nI 0)), none]) (le_s (le_s (le_s (le_d rfl (le_n))))) ?_
      exact cr_wk (Nat.le_of_ble_eq_true rfl) (k_nameOf43_0_122 hS hF ht hn hc hl hn1 hap)
  · exact absurd c5 (ia_ne (by decide))
theorem k_nameOfB0_122 {S : CS} {G : Nat → Nat → Value} {B : Nat → Nat → Int32} {J : Nat → Nat → Int64} {R : Nat → Nat → Option Nat} (hS : ShOk S) (hF : FxG G) {a n : Nat} {c : Nat → Nat} (ht : TabAt S G a) (hn : G a 0 = .int (nI n)) (hc : TabC B a n c) (hl : Lat n c) (hn1 : 1 ≤ n) (hap : a < 111 ∨ 133 ≤ a) {l0 n0 : Nat} {c0 bb : Nat → Nat} (hOk : NmOk122 G B) (hl2 : l0 ≤ 2) (hL0 : Lat n0 c0) (hA1 : G 122 1 = .int (nI l0)) (hA2 : G 123 0 = .int (nI n0)) (hT0 : TabC B 123 n0 c0) (hA3 : G 125 0 = .int (nI n0)) (hbb : ∀ q, q < n0 * n0 → B (125 + 1) q = nI (bb q) ∧ bb q < n0) (hM : MinS (n0 * n0) (NmF l0 n0 c0) 1 bb) : CR 5 40 0 [some (.ref 122), some (.ref a), some (.int (nI 0)), none] [] S G B J R (fun r_ S' G' B' J' R' => r_ = some (.ref 125) ∧ S' = S ∧ J' = J ∧ R' = R ∧ FxG G' ∧ Gfr [122, 123, 125, 127, 129] G G' ∧ Bfr [124, 126, 128, 130, 131, 132] B B' ∧ NmOk122 G' B' ∧ G' 125 0 = .int (nI n) ∧ ∃ bb, (∀ q, q < n * n → B' (125 + 1) q = nI (bb q) ∧ bb q < n) ∧ MinS (n * n) (NmF 0 n c) 1 bb) := by
  have hn6 := hc.1
  have hn06 := hT0.1
  refine cr_nx (pc' := 1) (al' := [some (.ref 122), some (.ref a), some (.int (nI 0)), none]) (st' := [.int (nI 0)]) d_40_0 (fun _ => rfl) ?_
  refine cr_nx (pc' := 2) (al' := [some (.ref 122), some (.ref a), some (.int (nI 0)), none]) (st' := [.ref 122, .int (nI 0)]) d_40_1 (fun _ => rfl) ?_
  refine cr_gf (v := .int (nI l0)) d_40_2 cw_40 cf_6_18 (hS.i (a := 122) (by decide) (by decide)) (hS.s (a := 122) (by decide) (by decide) rfl) (by decide) hA1 ?_
  refine cn_cne (t := 37) d_40_5 (by decide) (by first | omega | assumption | exact cu_36 (by omega) (cu_lt (by omega) (by omega))) (by first | omega | assumption | exact cu_36 (by omega) (cu_lt (by omega) (by omega))) (fun c5 => ?_) (fun c5 => ?_)
  · refine cn_ic (v := 0) d_40_37 (by decide) ?_
    refine cr_nx (pc' := 39) (al' := [some (.ref 122), some (.ref a), some (.int (nI 0)), some (.int (nI 0))]) (st' := []) d_40_38 (fun _ => rfl) ?_
    refine cr_nx (pc' := 40) (al' := [some (.ref 122), some (.ref a), some (.int (nI 0)), some (.int (nI 0))]) (st' := [.int (nI 0)]) d_40_39 (fun _ => rfl) ?_
    refine cn_ine (t := 68) d_40_40 (by decide) (by first | omega | assumption | exact cu_36 (by omega) (cu_lt (by omega) (by omega))) (fun c40 => ?_) (fun c40 => ?_)
    · omega
    · refine cr_dr (al1 := [some (.ref 122), some (.ref a), some (.int (nI 0)), none]) (le_s (le_s (le_s (le_d rfl (le_n))))) ?_
      exact cr_wk (Nat.le_of_ble_eq_true rfl) (k_nameOf43_0_122 hS hF ht hn hc hl hn1 hap)
  · refine cr_nx (pc' := 9) (al' := [some (.ref 122), some (.ref a), some (.int (nI 0)), none]) (st' := [.ref a]) d_40_8 (fun _ => rfl) ?_
    refine cr_gf (v := .int (nI n)) d_40_9 cw_40 cf_6_38 ht.1 ht.2.2.1 (by decide) hn ?_
    refine cr_nx (pc' := 13) (al' := [some (.ref 122), some (.ref a), some (.int (nI 0)), none]) (st' := [.ref 122, .int (nI n)]) d_40_12 (fun _ => rfl) ?_
    refine cr_gf (v := .ref 123) d_40_13 cw_40 cf_6_12 (hS.i (a := 122) (by decide) (by decide)) (hS.s (a := 122) (by decide) (by decide) rfl) (by decide) (fx_122_0 hF) ?_
    refine cr_gf (v := .int (nI n0)) d_40_16 cw_40 cf_6_38 (hS.i (a := 123) (by decide) (by decide)) (hS.s (a := 123) (by decide) (by decide) rfl) (by decide) hA2 ?_
    refine cn_cne (t := 37) d_40_19 (by decide) (by first | omega | assumption | exact cu_36 (by omega) (cu_lt (by omega) (by omega))) (by first | omega | assumption | exact cu_36 (by omega) (cu_lt (by omega) (by omega))) (fun c19 => ?_) (fun c19 => ?_)
    · refine cn_ic (v := 0) d_40_37 (by decide) ?_
      refine cr_nx (pc' := 39) (al' := [some (.ref 122), some (.ref a), some (.int (nI 0)), some (.int (nI 0))]) (st' := []) d_40_38 (fun _ => rfl) ?_
      refine cr_nx (pc' := 40) (al' := [some (.ref 122), some (.ref a), some (.int (nI 0)), some (.int (nI 0))]) (st' := [.int (nI 0)]) d_40_39 (fun _ => rfl) ?_
      refine cn_ine (t := 68) d_40_40 (by decide) (by first | omega | assumption | exact cu_36 (by omega) (cu_lt (by omega) (by omega))) (fun c40 => ?_) (fun c40 => ?_)
      · omega
      · refine cr_dr (al1 := [some (.ref 122), some (.ref a), some (.int (nI 0)), none]) (le_s (le_s (le_s (le_d rfl (le_n))))) ?_
        exact cr_wk (Nat.le_of_ble_eq_true rfl) (k_nameOf43_0_122 hS hF ht hn hc hl hn1 hap)
    · refine cr_nx (pc' := 23) (al' := [some (.ref 122), some (.ref a), some (.int (nI 0)), none]) (st' := [.ref a]) d_40_22 (fun _ => rfl) ?_
      refine cr_nx (pc' := 24) (al' := [some (.ref 122), some (.ref a), some (.int (nI 0)), none]) (st' := [.ref 122, .ref a]) d_40_23 (fun _ => rfl) ?_
      refine cr_gf (v := .ref 123) d_40_24 cw_40 cf_6_12 (hS.i (a := 122) (by decide) (by decide)) (hS.s (a := 122) (by decide) (by decide) rfl) (by decide) (fx_122_0 hF) ?_
      obtain rfl := c19
      refine cr_pv (b := a) (as := [.ref 123]) (al0 := [some (.ref a), some (.ref 123), none, none]) (r := []) d_40_27 cw_40 cm_6_41 cz_109 rfl rfl ht.1 (by rw [cw_109]; exact ht.2.2.1) (by rw [cw_109]; decide) rfl (Nat.le_of_ble_eq_true rfl) (k_differences ht hn hc (tb_123 hS hF) hT0) ?_
      show CR _ _ 30 [some (.ref 122), some (.ref a), some (.int (nI 0)), none] [.int (nI (dfN (n * n) c c0))] S G B J R _
      have hd := dfN_le (n * n) c c0
      have hnn : n * n ≤ 36 := Nat.mul_le_mul hn6 hn6
      refine cn_ine (t := 37) d_40_30 (by decide) (by first | omega | assumption | exact cu_36 (by omega) (cu_lt (by omega) (by omega))) (fun c30 => ?_) (fun c30 => ?_)
      · refine cn_ic (v := 0) d_40_37 (by decide) ?_
        refine cr_nx (pc' := 39) (al' := [some (.ref 122), some (.ref a), some (.int (nI 0)), some (.int (nI 0))]) (st' := []) d_40_38 (fun _ => rfl) ?_
        refine cr_nx (pc' := 40) (al' := [some (.ref 122), some (.ref a), some (.int (nI 0)), some (.int (nI 0))]) (st' := [.int (nI 0)]) d_40_39 (fun _ => rfl) ?_
        refine cn_ine (t := 68) d_40_40 (by decide) (by first | omega | assumption | exact cu_36 (by omega) (cu_lt (by omega) (by omega))) (fun c40 => ?_) (fun c40 => ?_)
        · omega
        · refine cr_dr (al1 := [some (.ref 122), some (.ref a), some (.int (nI 0)), none]) (le_s (le_s (le_s (le_d rfl (le_n))))) ?_
          exact cr_wk (Nat.le_of_ble_eq_true rfl) (k_nameOf43_0_122 hS hF ht hn hc hl hn1 hap)
      · refine cn_ic (v := 1) d_40_33 (by decide) ?_
        refine cr_nx (pc' := 38) (al' := [some (.ref 122), some (.ref a), some (.int (nI 0)), none]) (st' := [.int (nI 1)]) d_40_34 (fun _ => rfl) ?_
        refine cr_nx (pc' := 39) (al' := [some (.ref 122), some (.ref a), some (.int (nI 0)), some (.int (nI 1))]) (st' := []) d_40_38 (fun _ => rfl) ?_
        refine cr_nx (pc' := 40) (al' := [some (.ref 122), some (.ref a), some (.int (nI 0)), some (.int (nI 1))]) (st' := [.int (nI 1)]) d_40_39 (fun _ => rfl) ?_
        refine cn_ine (t := 68) d_40_40 (by decide) (by first | omega | assumption | exact cu_36 (by omega) (cu_lt (by omega) (by omega))) (fun c40 => ?_) (fun c40 => ?_)
        · refine cr_nx (pc' := 69) (al' := [some (.ref 122), some (.ref a), some (.int (nI 0)), some (.int (nI 1))]) (st' := [.ref 122]) d_40_68 (fun _ => rfl) ?_
          refine cr_gf (v := .ref 125) d_40_69 cw_40 cf_6_22 (hS.i (a := 122) (by decide) (by decide)) (hS.s (a := 122) (by decide) (by decide) rfl) (by decide) (fx_122_2 hF) ?_
          exact cr_ra d_40_72 cx_40 (by first | exact Or.inl ⟨_, rfl⟩ | exact Or.inr ⟨_, rfl⟩) (by
              have he := df_0 c30
              have hl0 : 0 = l0 := c5
              subst hl0
              have hM2 := Min_iff hM (NmF_cg (c := c0) (d := c) hL0 (fun q hq => (he q hq).symm))
              exact ⟨rfl, rfl, rfl, rfl, hF, Gfr.rf, Bfr.rf, hOk, hA3, bb, hbb, hM2⟩)
        · omega
theorem k_nameOf0_122 {S : CS} {G : Nat → Nat → Value} {B : Nat → Nat → Int32} {J : Nat → Nat → Int64} {R : Nat → Nat → Option Nat} (hS : ShOk S) (hF : FxG G) {a n : Nat} {c : Nat → Nat} (ht : TabAt S G a) (hn : G a 0 = .int (nI n)) (hc : TabC B a n c) (hl : Lat n c) (hn1 : 1 ≤ n) (hap : a < 111 ∨ 133 ≤ a) (hOk : NmOk122 G B) : CR 5 40 0 [some (.ref 122), some (.ref a), some (.int (nI 0)), none] [] S G B J R (fun r_ S' G' B' J' R' => r_ = some (.ref 125) ∧ S' = S ∧ J' = J ∧ R' = R ∧ FxG G' ∧ Gfr [122, 123, 125, 127, 129] G G' ∧ Bfr [124, 126, 128, 130, 131, 132] B B' ∧ NmOk122 G' B' ∧ G' 125 0 = .int (nI n) ∧ ∃ bb, (∀ q, q < n * n → B' (125 + 1) q = nI (bb q) ∧ bb q < n) ∧ MinS (n * n) (NmF 0 n c) 1 bb) := by
  rcases hOk with h | ⟨l0, n0, c0, a1, a2, a3, a4, a5, a6, a7, bb, a8, a9⟩
  · exact k_nameOfA0_122 hS hF ht hn hc hl hn1 hap h
  · exact k_nameOfB0_122 hS hF ht hn hc hl hn1 hap (Or.inr ⟨l0, n0, c0, a1, a2, a3, a4, a5, a6, a7, bb, a8, a9⟩) a1 a2 a4 a5 a6 a7 a8 a9
theorem k_nameOf43_1_122 {S : CS} {G : Nat → Nat → Value} {B : Nat → Nat → Int32} {J : Nat → Nat → Int64} {R : Nat → Nat → Option Nat} (hS : ShOk S) (hF : FxG G) {a n : Nat} {c : Nat → Nat} (ht : TabAt S G a) (hn : G a 0 = .int (nI n)) (hc : TabC B a n c) (hl : Lat n c) (hn1 : 1 ≤ n) (hap : a < 111 ∨ 133 ≤ a) : CR 5 40 43 [some (.ref 122), some (.ref a), some (.int (nI 1)), none] [] S G B J R (fun r_ S' G' B' J' R' => r_ = some (.ref 125) ∧ S' = S ∧ J' = J ∧ R' = R ∧ FxG G' ∧ Gfr [122, 123, 125, 127, 129] G G' ∧ Bfr [124, 126, 128, 130, 131, 132] B B' ∧ NmOk122 G' B' ∧ G' 125 0 = .int (nI n) ∧ ∃ bb, (∀ q, q < n * n → B' (125 + 1) q = nI (bb q) ∧ bb q < n) ∧ MinS (n * n) (NmF 1 n c) 1 bb) := by
  have hn6 := hc.1
  refine cr_nx (pc' := 44) (al' := [some (.ref 122), some (.ref a), some (.int (nI 1)), none]) (st' := [.ref 122]) d_40_43 (fun _ => rfl) ?_
  refine cr_gf (v := .ref 123) d_40_44 cw_40 cf_6_12 (hS.i (a := 122) (by decide) (by decide)) (hS.s (a := 122) (by decide) (by decide) rfl) (by decide) (fx_122_0 hF) ?_
  refine cr_nx (pc' := 48) (al' := [some (.ref 122), some (.ref a), some (.int (nI 1)), none]) (st' := [.ref a, .ref 123]) d_40_47 (fun _ => rfl) ?_
  refine cr_pv (b := 123) (as := [.ref a]) (al0 := [some (.ref 123), some (.ref a)]) (r := []) d_40_48 cw_40 cm_6_45 cz_93 rfl rfl (hS.i (a := 123) (by decide) (by decide)) (by rw [cw_93]; exact (hS.s (a := 123) (by decide) (by decide) rfl)) (by rw [cw_93]; decide) rfl (Nat.le_of_ble_eq_true rfl) (k_become (tb_123 hS hF) ht (by omega) hn) ?_
  show CR _ _ 51 [some (.ref 122), some (.ref a), some (.int (nI 1)), none] [] S (up2 G 123 0 (.int (nI n))) (upr B (123 + 1) (va_cpy (B (a + 1)) (B (123 + 1)) 0 0 36)) J R _
  refine cr_nx (pc' := 52) (al' := [some (.ref 122), some (.ref a), some (.int (nI 1)), none]) (st' := [.ref 122]) d_40_51 (fun _ => rfl) ?_
  refine cr_nx (pc' := 53) (al' := [some (.ref 122), some (.ref a), some (.int (nI 1)), none]) (st' := [.int (nI 1), .ref 122]) d_40_52 (fun _ => rfl) ?_
  refine cp_6_1  d_40_53 cw_40 cf_6_18 (hS.i (a := 122) (by decide) (by decide)) (hS.s (a := 122) (by decide) (by decide) rfl) (by decide) ?_
  refine cr_nx (pc' := 57) (al' := [some (.ref 122), some (.ref a), some (.int (nI 1)), none]) (st' := [.ref 122]) d_40_56 (fun _ => rfl) ?_
  refine cr_gf (v := .ref 125) d_40_57 cw_40 cf_6_22 (hS.i (a := 122) (by decide) (by decide)) (hS.s (a := 122) (by decide) (by decide) rfl) (by decide) (by simp [up2]; exact (fx_122_2 hF)) ?_
  refine cn_ic (v := 0) d_40_60 (by decide) ?_
  refine cp_10_0  d_40_61 cw_40 cf_6_38 (hS.i (a := 125) (by decide) (by decide)) (hS.s (a := 125) (by decide) (by decide) rfl) (by decide) ?_
  refine cr_nx (pc' := 65) (al' := [some (.ref 122), some (.ref a), some (.int (nI 1)), none]) (st' := [.ref 122]) d_40_64 (fun _ => rfl) ?_
  have hc1 : TabC (upr B (123 + 1) (va_cpy (B (a + 1)) (B (123 + 1)) 0 0 36)) 123 n c := ⟨hn6, fun q hq => ⟨by rw [upr_s, cpy_36 (cu_36 hn6 hq)]; exact (hc.2 q hq).1, hl.1 q hq⟩⟩
  refine cr_cv (b := 122) (as := []) (al0 := [some (.ref 122), none, none]) (r := []) d_40_65 cw_40 cm_6_49 cz_41 rfl rfl (hS.i (a := 122) (by decide) (by decide)) (by rw [cw_41]; exact (hS.s (a := 122) (by decide) (by decide) rfl)) (by rw [cw_41]; decide) rfl (cr_wk (Nat.le_of_ble_eq_true rfl) (k_offerAll1_122 hS (((hF.u0 (by decide)).up (by decide +kernel)).u0 (by decide)) (by rw [up2_n (by decide), up2_n (by decide)]; exact up2_s) hc1 hl hn1 up2_s (by rw [up2_n (by decide)]; exact up2_s))) (fun v1 S1 G2 B2 J1 R1 h1 => ?_)
  obtain ⟨q0_, q1_, q2_, q3_, fx2, gf2, bf2, gb2, b2, hb2, mi2⟩ := h1
  obtain rfl := q0_
  obtain rfl := q1_.symm
  obtain rfl := q2_.symm
  obtain rfl := q3_.symm
  show CR _ _ 68 [some (.ref 122), some (.ref a), some (.int (nI 1)), none] [] S G2 B2 J R _
  refine cr_nx (pc' := 69) (al' := [some (.ref 122), some (.ref a), some (.int (nI 1)), none]) (st' := [.ref 122]) d_40_68 (fun _ => rfl) ?_
  refine cr_gf (v := .ref 125) d_40_69 cw_40 cf_6_22 (hS.i (a := 122) (by decide) (by decide)) (hS.s (a := 122) (by decide) (by decide) rfl) (by decide) (fx_122_2 fx2) ?_
  exact cr_ra d_40_72 cx_40 (by first | exact Or.inl ⟨_, rfl⟩ | exact Or.inr ⟨_, rfl⟩) ⟨rfl, rfl, rfl, rfl, fx2, (((Gfr.rf.u (by decide)).u (by decide)).u (by decide)).tr (gf2.mo (by decide)), (Bfr.rf.u (by decide)).tr (bf2.mo (by decide)), Or.inr ⟨1, n, c, by decide, hl, hn1, by rw [gf2 122 (by decide), up2_n (by decide)]; exact up2_s, by rw [gf2 123 (by decide), up2_n (by decide), up2_n (by decide)]; exact up2_s, bf2.c (by decide) hc1, gb2, b2, hb2, mi2⟩, gb2, b2, hb2, mi2⟩
theorem k_nameOfA1_122 {S : CS} {G : Nat → Nat → Value} {B : Nat → Nat → Int32} {J : Nat → Nat → Int64} {R : Nat → Nat → Option Nat} (hS : ShOk S) (hF : FxG G) {a n : Nat} {c : Nat → Nat} (ht : TabAt S G a) (hn : G a 0 = .int (nI n)) (hc : TabC B a n c) (hl : Lat n c) (hn1 : 1 ≤ n) (hap : a < 111 ∨ 133 ≤ a) (hA1 : G 122 1 = .int (-1)) : CR 5 40 0 [some (.ref 122), some (.ref a), some (.int (nI 1)), none] [] S G B J R (fun r_ S' G' B' J' R' => r_ = some (.ref 125) ∧ S' = S ∧ J' = J ∧ R' = R ∧ FxG G' ∧ Gfr [122, 123, 125, 127, 129] G G' ∧ Bfr [124, 126, 128, 130, 131, 132] B B' ∧ NmOk122 G' B' ∧ G' 125 0 = .int (nI n) ∧ ∃ bb, (∀ q, q < n * n → B' (125 + 1) q = nI (bb q) ∧ bb q < n) ∧ MinS (n * n) (NmF 1 n c) 1 bb) := by
  have hn6 := hc.1
  refine cr_nx (pc' := 1) (al' := [some (.ref 122), some (.ref a), some (.int (nI 1)), none]) (st' := [.int (nI 1)]) d_40_0 (fun _ => rfl) ?_
  refine cr_nx (pc' := 2) (al' := [some (.ref 122), some (.ref a), some (.int (nI 1)), none]) (st' := [.ref 122, .int (nI 1)]) d_40_1 (fun _ => rfl) ?_
  refine cr_gf (v := .int (-1)) d_40_2 cw_40 cf_6_18 (hS.i (a := 122) (by decide) (by decide)) (hS.s (a := 122) (by decide) (by decide) rfl) (by decide) hA1 ?_
  refine cr_cne (t := 37) d_40_5 (by decide) (fun c5 => ?_) (fun c5 => ?_)
  · refine cn_ic (v := 0) d_40_37 (by decide) ?_
    refine cr_nx (pc' := 39) (al' := [some (.ref 122), some (.ref a), some (.int (nI 1)), some (.int (nI 0))]) (st' := []) d_40_38 (fun _ => rfl) ?_
    refine cr_nx (pc' := 40) (al' := [some (.ref 122), some (.ref a), some (.int (nI 1)), some (.int (nI 0))]) (st' := [.int (nI 0)]) d_40_39 (fun _ => rfl) ?_
    refine cn_ine (t := 68) d_40_40 (by decide) (by first | omega | assumption | exact cu_36 (by omega) (cu_lt (by omega) (by omega))) (fun c40 => ?_) (fun c40 => ?_)
    · omega
    · refine cr_dr (al1 := [some (.ref 122), some (.ref a), some (.int (nI 1)), none]) (le_s (le_s (le_s (le_d rfl (le_n))))) ?_
      exact cr_wk (Nat.le_of_ble_eq_true rfl) (k_nameOf43_1_122 hS hF ht hn hc hl hn1 hap)
  · exact absurd c5 (ia_ne (by decide))
theorem k_nameOfB1_122 {S : CS} {G : Nat → Nat → Value} {B : Nat → Nat → Int32} {J : Nat → Nat → Int64} {R : Nat → Nat → Option Nat} (hS : ShOk S) (hF : FxG G) {a n : Nat} {c : Nat → Nat} (ht : TabAt S G a) (hn : G a 0 = .int (nI n)) (hc : TabC B a n c) (hl : Lat n c) (hn1 : 1 ≤ n) (hap : a < 111 ∨ 133 ≤ a) {l0 n0 : Nat} {c0 bb : Nat → Nat} (hOk : NmOk122 G B) (hl2 : l0 ≤ 2) (hL0 : Lat n0 c0) (hA1 : G 122 1 = .int (nI l0)) (hA2 : G 123 0 = .int (nI n0)) (hT0 : TabC B 123 n0 c0) (hA3 : G 125 0 = .int (nI n0)) (hbb : ∀ q, q < n0 * n0 → B (125 + 1) q = nI (bb q) ∧ bb q < n0) (hM : MinS (n0 * n0) (NmF l0 n0 c0) 1 bb) : CR 5 40 0 [some (.ref 122), some (.ref a), some (.int (nI 1)), none] [] S G B J R (fun r_ S' G' B' J' R' => r_ = some (.ref 125) ∧ S' = S ∧ J' = J ∧ R' = R ∧ FxG G' ∧ Gfr [122, 123, 125, 127, 129] G G' ∧ Bfr [124, 126, 128, 130, 131, 132] B B' ∧ NmOk122 G' B' ∧ G' 125 0 = .int (nI n) ∧ ∃ bb, (∀ q, q < n * n → B' (125 + 1) q = nI (bb q) ∧ bb q < n) ∧ MinS (n * n) (NmF 1 n c) 1 bb) := by
  have hn6 := hc.1
  have hn06 := hT0.1
  refine cr_nx (pc' := 1) (al' := [some (.ref 122), some (.ref a), some (.int (nI 1)), none]) (st' := [.int (nI 1)]) d_40_0 (fun _ => rfl) ?_
  refine cr_nx (pc' := 2) (al' := [some (.ref 122), some (.ref a), some (.int (nI 1)), none]) (st' := [.ref 122, .int (nI 1)]) d_40_1 (fun _ => rfl) ?_
  refine cr_gf (v := .int (nI l0)) d_40_2 cw_40 cf_6_18 (hS.i (a := 122) (by decide) (by decide)) (hS.s (a := 122) (by decide) (by decide) rfl) (by decide) hA1 ?_
  refine cn_cne (t := 37) d_40_5 (by decide) (by first | omega | assumption | exact cu_36 (by omega) (cu_lt (by omega) (by omega))) (by first | omega | assumption | exact cu_36 (by omega) (cu_lt (by omega) (by omega))) (fun c5 => ?_) (fun c5 => ?_)
  · refine cn_ic (v := 0) d_40_37 (by decide) ?_
    refine cr_nx (pc' := 39) (al' := [some (.ref 122), some (.ref a), some (.int (nI 1)), some (.int (nI 0))]) (st' := []) d_40_38 (fun _ => rfl) ?_
    refine cr_nx (pc' := 40) (al' := [some (.ref 122), some (.ref a), some (.int (nI 1)), some (.int (nI 0))]) (st' := [.int (nI 0)]) d_40_39 (fun _ => rfl) ?_
    refine cn_ine (t := 68) d_40_40 (by decide) (by first | omega | assumption | exact cu_36 (by omega) (cu_lt (by omega) (by omega))) (fun c40 => ?_) (fun c40 => ?_)
    · omega
    · refine cr_dr (al1 := [some (.ref 122), some (.ref a), some (.int (nI 1)), none]) (le_s (le_s (le_s (le_d rfl (le_n))))) ?_
      exact cr_wk (Nat.le_of_ble_eq_true rfl) (k_nameOf43_1_122 hS hF ht hn hc hl hn1 hap)
  · refine cr_nx (pc' := 9) (al' := [some (.ref 122), some (.ref a), some (.int (nI 1)), none]) (st' := [.ref a]) d_40_8 (fun _ => rfl) ?_
    refine cr_gf (v := .int (nI n)) d_40_9 cw_40 cf_6_38 ht.1 ht.2.2.1 (by decide) hn ?_
    refine cr_nx (pc' := 13) (al' := [some (.ref 122), some (.ref a), some (.int (nI 1)), none]) (st' := [.ref 122, .int (nI n)]) d_40_12 (fun _ => rfl) ?_
    refine cr_gf (v := .ref 123) d_40_13 cw_40 cf_6_12 (hS.i (a := 122) (by decide) (by decide)) (hS.s (a := 122) (by decide) (by decide) rfl) (by decide) (fx_122_0 hF) ?_
    refine cr_gf (v := .int (nI n0)) d_40_16 cw_40 cf_6_38 (hS.i (a := 123) (by decide) (by decide)) (hS.s (a := 123) (by decide) (by decide) rfl) (by decide) hA2 ?_
    refine cn_cne (t := 37) d_40_19 (by decide) (by first | omega | assumption | exact cu_36 (by omega) (cu_lt (by omega) (by omega))) (by first | omega | assumption | exact cu_36 (by omega) (cu_lt (by omega) (by omega))) (fun c19 => ?_) (fun c19 => ?_)
    · refine cn_ic (v := 0) d_40_37 (by decide) ?_
      refine cr_nx (pc' := 39) (al' := [some (.ref 122), some (.ref a), some (.int (nI 1)), some (.int (nI 0))]) (st' := []) d_40_38 (fun _ => rfl) ?_
      refine cr_nx (pc' := 40) (al' := [some (.ref 122), some (.ref a), some (.int (nI 1)), some (.int (nI 0))]) (st' := [.int (nI 0)]) d_40_39 (fun _ => rfl) ?_
      refine cn_ine (t := 68) d_40_40 (by decide) (by first | omega | assumption | exact cu_36 (by omega) (cu_lt (by omega) (by omega))) (fun c40 => ?_) (fun c40 => ?_)
      · omega
      · refine cr_dr (al1 := [some (.ref 122), some (.ref a), some (.int (nI 1)), none]) (le_s (le_s (le_s (le_d rfl (le_n))))) ?_
        exact cr_wk (Nat.le_of_ble_eq_true rfl) (k_nameOf43_1_122 hS hF ht hn hc hl hn1 hap)
    · refine cr_nx (pc' := 23) (al' := [some (.ref 122), some (.ref a), some (.int (nI 1)), none]) (st' := [.ref a]) d_40_22 (fun _ => rfl) ?_
      refine cr_nx (pc' := 24) (al' := [some (.ref 122), some (.ref a), some (.int (nI 1)), none]) (st' := [.ref 122, .ref a]) d_40_23 (fun _ => rfl) ?_
      refine cr_gf (v := .ref 123) d_40_24 cw_40 cf_6_12 (hS.i (a := 122) (by decide) (by decide)) (hS.s (a := 122) (by decide) (by decide) rfl) (by decide) (fx_122_0 hF) ?_
      obtain rfl := c19
      refine cr_pv (b := a) (as := [.ref 123]) (al0 := [some (.ref a), some (.ref 123), none, none]) (r := []) d_40_27 cw_40 cm_6_41 cz_109 rfl rfl ht.1 (by rw [cw_109]; exact ht.2.2.1) (by rw [cw_109]; decide) rfl (Nat.le_of_ble_eq_true rfl) (k_differences ht hn hc (tb_123 hS hF) hT0) ?_
      show CR _ _ 30 [some (.ref 122), some (.ref a), some (.int (nI 1)), none] [.int (nI (dfN (n * n) c c0))] S G B J R _
      have hd := dfN_le (n * n) c c0
      have hnn : n * n ≤ 36 := Nat.mul_le_mul hn6 hn6
      refine cn_ine (t := 37) d_40_30 (by decide) (by first | omega | assumption | exact cu_36 (by omega) (cu_lt (by omega) (by omega))) (fun c30 => ?_) (fun c30 => ?_)
      · refine cn_ic (v := 0) d_40_37 (by decide) ?_
        refine cr_nx (pc' := 39) (al' := [some (.ref 122), some (.ref a), some (.int (nI 1)), some (.int (nI 0))]) (st' := []) d_40_38 (fun _ => rfl) ?_
        refine cr_nx (pc' := 40) (al' := [some (.ref 122), some (.ref a), some (.int (nI 1)), some (.int (nI 0))]) (st' := [.int (nI 0)]) d_40_39 (fun _ => rfl) ?_
        refine cn_ine (t := 68) d_40_40 (by decide) (by first | omega | assumption | exact cu_36 (by omega) (cu_lt (by omega) (by omega))) (fun c40 => ?_) (fun c40 => ?_)
        · omega
        · refine cr_dr (al1 := [some (.ref 122), some (.ref a), some (.int (nI 1)), none]) (le_s (le_s (le_s (le_d rfl (le_n))))) ?_
          exact cr_wk (Nat.le_of_ble_eq_true rfl) (k_nameOf43_1_122 hS hF ht hn hc hl hn1 hap)
      · refine cn_ic (v := 1) d_40_33 (by decide) ?_
        refine cr_nx (pc' := 38) (al' := [some (.ref 122), some (.ref a), some (.int (nI 1)), none]) (st' := [.int (nI 1)]) d_40_34 (fun _ => rfl) ?_
        refine cr_nx (pc' := 39) (al' := [some (.ref 122), some (.ref a), some (.int (nI 1)), some (.int (nI 1))]) (st' := []) d_40_38 (fun _ => rfl) ?_
        refine cr_nx (pc' := 40) (al' := [some (.ref 122), some (.ref a), some (.int (nI 1)), some (.int (nI 1))]) (st' := [.int (nI 1)]) d_40_39 (fun _ => rfl) ?_
        refine cn_ine (t := 68) d_40_40 (by decide) (by first | omega | assumption | exact cu_36 (by omega) (cu_lt (by omega) (by omega))) (fun c40 => ?_) (fun c40 => ?_)
        · refine cr_nx (pc' := 69) (al' := [some (.ref 122), some (.ref a), some (.int (nI 1)), some (.int (nI 1))]) (st' := [.ref 122]) d_40_68 (fun _ => rfl) ?_
          refine cr_gf (v := .ref 125) d_40_69 cw_40 cf_6_22 (hS.i (a := 122) (by decide) (by decide)) (hS.s (a := 122) (by decide) (by decide) rfl) (by decide) (fx_122_2 hF) ?_
          exact cr_ra d_40_72 cx_40 (by first | exact Or.inl ⟨_, rfl⟩ | exact Or.inr ⟨_, rfl⟩) (by
              have he := df_0 c30
              have hl0 : 1 = l0 := c5
              subst hl0
              have hM2 := Min_iff hM (NmF_cg (c := c0) (d := c) hL0 (fun q hq => (he q hq).symm))
              exact ⟨rfl, rfl, rfl, rfl, hF, Gfr.rf, Bfr.rf, hOk, hA3, bb, hbb, hM2⟩)
        · omega
theorem k_nameOf1_122 {S : CS} {G : Nat → Nat → Value} {B : Nat → Nat → Int32} {J : Nat → Nat → Int64} {R : Nat → Nat → Option Nat} (hS : ShOk S) (hF : FxG G) {a n : Nat} {c : Nat → Nat} (ht : TabAt S G a) (hn : G a 0 = .int (nI n)) (hc : TabC B a n c) (hl : Lat n c) (hn1 : 1 ≤ n) (hap : a < 111 ∨ 133 ≤ a) (hOk : NmOk122 G B) : CR 5 40 0 [some (.ref 122), some (.ref a), some (.int (nI 1)), none] [] S G B J R (fun r_ S' G' B' J' R' => r_ = some (.ref 125) ∧ S' = S ∧ J' = J ∧ R' = R ∧ FxG G' ∧ Gfr [122, 123, 125, 127, 129] G G' ∧ Bfr [124, 126, 128, 130, 131, 132] B B' ∧ NmOk122 G' B' ∧ G' 125 0 = .int (nI n) ∧ ∃ bb, (∀ q, q < n * n → B' (125 + 1) q = nI (bb q) ∧ bb q < n) ∧ MinS (n * n) (NmF 1 n c) 1 bb) := by
  rcases hOk with h | ⟨l0, n0, c0, a1, a2, a3, a4, a5, a6, a7, bb, a8, a9⟩
  · exact k_nameOfA1_122 hS hF ht hn hc hl hn1 hap h
  · exact k_nameOfB1_122 hS hF ht hn hc hl hn1 hap (Or.inr ⟨l0, n0, c0, a1, a2, a3, a4, a5, a6, a7, bb, a8, a9⟩) a1 a2 a4 a5 a6 a7 a8 a9
theorem k_nameOf43_2_122 {S : CS} {G : Nat → Nat → Value} {B : Nat → Nat → Int32} {J : Nat → Nat → Int64} {R : Nat → Nat → Option Nat} (hS : ShOk S) (hF : FxG G) {a n : Nat} {c : Nat → Nat} (ht : TabAt S G a) (hn : G a 0 = .int (nI n)) (hc : TabC B a n c) (hl : Lat n c) (hn1 : 1 ≤ n) (hap : a < 111 ∨ 133 ≤ a) : CR 5 40 43 [some (.ref 122), some (.ref a), some (.int (nI 2)), none] [] S G B J R (fun r_ S' G' B' J' R' => r_ = some (.ref 125) ∧ S' = S ∧ J' = J ∧ R' = R ∧ FxG G' ∧ Gfr [122, 123, 125, 127, 129] G G' ∧ Bfr [124, 126, 128, 130, 131, 132] B B' ∧ NmOk122 G' B' ∧ G' 125 0 = .int (nI n) ∧ ∃ bb, (∀ q, q < n * n → B' (125 + 1) q = nI (bb q) ∧ bb q < n) ∧ MinS (n * n) (NmF 2 n c) 1 bb) := by
  have hn6 := hc.1
  refine cr_nx (pc' := 44) (al' := [some (.ref 122), some (.ref a), some (.int (nI 2)), none]) (st' := [.ref 122]) d_40_43 (fun _ => rfl) ?_
  refine cr_gf (v := .ref 123) d_40_44 cw_40 cf_6_12 (hS.i (a := 122) (by decide) (by decide)) (hS.s (a := 122) (by decide) (by decide) rfl) (by decide) (fx_122_0 hF) ?_
  refine cr_nx (pc' := 48) (al' := [some (.ref 122), some (.ref a), some (.int (nI 2)), none]) (st' := [.ref a, .ref 123]) d_40_47 (fun _ => rfl) ?_
  refine cr_pv (b := 123) (as := [.ref a]) (al0 := [some (.ref 123), some (.ref a)]) (r := []) d_40_48 cw_40 cm_6_45 cz_93 rfl rfl (hS.i (a := 123) (by decide) (by decide)) (by rw [cw_93]; exact (hS.s (a := 123) (by decide) (by decide) rfl)) (by rw [cw_93]; decide) rfl (Nat.le_of_ble_eq_true rfl) (k_become (tb_123 hS hF) ht (by omega) hn) ?_
  show CR _ _ 51 [some (.ref 122), some (.ref a), some (.int (nI 2)), none] [] S (up2 G 123 0 (.int (nI n))) (upr B (123 + 1) (va_cpy (B (a + 1)) (B (123 + 1)) 0 0 36)) J R _
  refine cr_nx (pc' := 52) (al' := [some (.ref 122), some (.ref a), some (.int (nI 2)), none]) (st' := [.ref 122]) d_40_51 (fun _ => rfl) ?_
  refine cr_nx (pc' := 53) (al' := [some (.ref 122), some (.ref a), some (.int (nI 2)), none]) (st' := [.int (nI 2), .ref 122]) d_40_52 (fun _ => rfl) ?_
  refine cp_6_1  d_40_53 cw_40 cf_6_18 (hS.i (a := 122) (by decide) (by decide)) (hS.s (a := 122) (by decide) (by decide) rfl) (by decide) ?_
  refine cr_nx (pc' := 57) (al' := [some (.ref 122), some (.ref a), some (.int (nI 2)), none]) (st' := [.ref 122]) d_40_56 (fun _ => rfl) ?_
  refine cr_gf (v := .ref 125) d_40_57 cw_40 cf_6_22 (hS.i (a := 122) (by decide) (by decide)) (hS.s (a := 122) (by decide) (by decide) rfl) (by decide) (by simp [up2]; exact (fx_122_2 hF)) ?_
  refine cn_ic (v := 0) d_40_60 (by decide) ?_
  refine cp_10_0  d_40_61 cw_40 cf_6_38 (hS.i (a := 125) (by decide) (by decide)) (hS.s (a := 125) (by decide) (by decide) rfl) (by decide) ?_
  refine cr_nx (pc' := 65) (al' := [some (.ref 122), some (.ref a), some (.int (nI 2)), none]) (st' := [.ref 122]) d_40_64 (fun _ => rfl) ?_
  have hc1 : TabC (upr B (123 + 1) (va_cpy (B (a + 1)) (B (123 + 1)) 0 0 36)) 123 n c := ⟨hn6, fun q hq => ⟨by rw [upr_s, cpy_36 (cu_36 hn6 hq)]; exact (hc.2 q hq).1, hl.1 q hq⟩⟩
  refine cr_cv (b := 122) (as := []) (al0 := [some (.ref 122), none, none]) (r := []) d_40_65 cw_40 cm_6_49 cz_41 rfl rfl (hS.i (a := 122) (by decide) (by decide)) (by rw [cw_41]; exact (hS.s (a := 122) (by decide) (by decide) rfl)) (by rw [cw_41]; decide) rfl (cr_wk (Nat.le_of_ble_eq_true rfl) (k_offerAll2_122 hS (((hF.u0 (by decide)).up (by decide +kernel)).u0 (by decide)) (by rw [up2_n (by decide), up2_n (by decide)]; exact up2_s) hc1 hl hn1 up2_s (by rw [up2_n (by decide)]; exact up2_s))) (fun v1 S1 G2 B2 J1 R1 h1 => ?_)
  obtain ⟨q0_, q1_, q2_, q3_, fx2, gf2, bf2, gb2, b2, hb2, mi2⟩ := h1
  obtain rfl := q0_
  obtain rfl := q1_.symm
  obtain rfl := q2_.symm
  obtain rfl := q3_.symm
  show CR _ _ 68 [some (.ref 122), some (.ref a), some (.int (nI 2)), none] [] S G2 B2 J R _
  refine cr_nx (pc' := 69) (al' := [some (.ref 122), some (.ref a), some (.int (nI 2)), none]) (st' := [.ref 122]) d_40_68 (fun _ => rfl) ?_
  refine cr_gf (v := .ref 125) d_40_69 cw_40 cf_6_22 (hS.i (a := 122) (by decide) (by decide)) (hS.s (a := 122) (by decide) (by decide) rfl) (by decide) (fx_122_2 fx2) ?_
  exact cr_ra d_40_72 cx_40 (by first | exact Or.inl ⟨_, rfl⟩ | exact Or.inr ⟨_, rfl⟩) ⟨rfl, rfl, rfl, rfl, fx2, (((Gfr.rf.u (by decide)).u (by decide)).u (by decide)).tr (gf2.mo (by decide)), (Bfr.rf.u (by decide)).tr (bf2.mo (by decide)), Or.inr ⟨2, n, c, by decide, hl, hn1, by rw [gf2 122 (by decide), up2_n (by decide)]; exact up2_s, by rw [gf2 123 (by decide), up2_n (by decide), up2_n (by decide)]; exact up2_s, bf2.c (by decide) hc1, gb2, b2, hb2, mi2⟩, gb2, b2, hb2, mi2⟩
theorem k_nameOfA2_122 {S : CS} {G : Nat → Nat → Value} {B : Nat → Nat → Int32} {J : Nat → Nat → Int64} {R : Nat → Nat → Option Nat} (hS : ShOk S) (hF : FxG G) {a n : Nat} {c : Nat → Nat} (ht : TabAt S G a) (hn : G a 0 = .int (nI n)) (hc : TabC B a n c) (hl : Lat n c) (hn1 : 1 ≤ n) (hap : a < 111 ∨ 133 ≤ a) (hA1 : G 122 1 = .int (-1)) : CR 5 40 0 [some (.ref 122), some (.ref a), some (.int (nI 2)), none] [] S G B J R (fun r_ S' G' B' J' R' => r_ = some (.ref 125) ∧ S' = S ∧ J' = J ∧ R' = R ∧ FxG G' ∧ Gfr [122, 123, 125, 127, 129] G G' ∧ Bfr [124, 126, 128, 130, 131, 132] B B' ∧ NmOk122 G' B' ∧ G' 125 0 = .int (nI n) ∧ ∃ bb, (∀ q, q < n * n → B' (125 + 1) q = nI (bb q) ∧ bb q < n) ∧ MinS (n * n) (NmF 2 n c) 1 bb) := by
  have hn6 := hc.1
  refine cr_nx (pc' := 1) (al' := [some (.ref 122), some (.ref a), some (.int (nI 2)), none]) (st' := [.int (nI 2)]) d_40_0 (fun _ => rfl) ?_
  refine cr_nx (pc' := 2) (al' := [some (.ref 122), some (.ref a), some (.int (nI 2)), none]) (st' := [.ref 122, .int (nI 2)]) d_40_1 (fun _ => rfl) ?_
  refine cr_gf (v := .int (-1)) d_40_2 cw_40 cf_6_18 (hS.i (a := 122) (by decide) (by decide)) (hS.s (a := 122) (by decide) (by decide) rfl) (by decide) hA1 ?_
  refine cr_cne (t := 37) d_40_5 (by decide) (fun c5 => ?_) (fun c5 => ?_)
  · refine cn_ic (v := 0) d_40_37 (by decide) ?_
    refine cr_nx (pc' := 39) (al' := [some (.ref 122), some (.ref a), some (.int (nI 2)), some (.int (nI 0))]) (st' := []) d_40_38 (fun _ => rfl) ?_
    refine cr_nx (pc' := 40) (al' := [some (.ref 122), some (.ref a), some (.int (nI 2)), some (.int (nI 0))]) (st' := [.int (nI 0)]) d_40_39 (fun _ => rfl) ?_
    refine cn_ine (t := 68) d_40_40 (by decide) (by first | omega | assumption | exact cu_36 (by omega) (cu_lt (by omega) (by omega))) (fun c40 => ?_) (fun c40 => ?_)
    · omega
    · refine cr_dr (al1 := [some (.ref 122), some (.ref a), some (.int (nI 2)), none]) (le_s (le_s (le_s (le_d rfl (le_n))))) ?_
      exact cr_wk (Nat.le_of_ble_eq_true rfl) (k_nameOf43_2_122 hS hF ht hn hc hl hn1 hap)
  · exact absurd c5 (ia_ne (by decide))
theorem k_nameOfB2_122 {S : CS} {G : Nat → Nat → Value} {B : Nat → Nat → Int32} {J : Nat → Nat → Int64} {R : Nat → Nat → Option Nat} (hS : ShOk S) (hF : FxG G) {a n : Nat} {c : Nat → Nat} (ht : TabAt S G a) (hn : G a 0 = .int (nI n)) (hc : TabC B a n c) (hl : Lat n c) (hn1 : 1 ≤ n) (hap : a < 111 ∨ 133 ≤ a) {l0 n0 : Nat} {c0 bb : Nat → Nat} (hOk : NmOk122 G B) (hl2 : l0 ≤ 2) (hL0 : Lat n0 c0) (hA1 : G 122 1 = .int (nI l0)) (hA2 : G 123 0 = .int (nI n0)) (hT0 : TabC B 123 n0 c0) (hA3 : G 125 0 = .int (nI n0)) (hbb : ∀ q, q < n0 * n0 → B (125 + 1) q = nI (bb q) ∧ bb q < n0) (hM : MinS (n0 * n0) (NmF l0 n0 c0) 1 bb) : CR 5 40 0 [some (.ref 122), some (.ref a), some (.int (nI 2)), none] [] S G B J R (fun r_ S' G' B' J' R' => r_ = some (.ref 125) ∧ S' = S ∧ J' = J ∧ R' = R ∧ FxG G' ∧ Gfr [122, 123, 125, 127, 129] G G' ∧ Bfr [124, 126, 128, 130, 131, 132] B B' ∧ NmOk122 G' B' ∧ G' 125 0 = .int (nI n) ∧ ∃ bb, (∀ q, q < n * n → B' (125 + 1) q = nI (bb q) ∧ bb q < n) ∧ MinS (n * n) (NmF 2 n c) 1 bb) := by
  have hn6 := hc.1
  have hn06 := hT0.1
  refine cr_nx (pc' := 1) (al' := [some (.ref 122), some (.ref a), some (.int (nI 2)), none]) (st' := [.int (nI 2)]) d_40_0 (fun _ => rfl) ?_
  refine cr_nx (pc' := 2) (al' := [some (.ref 122), some (.ref a), some (.int (nI 2)), none]) (st' := [.ref 122, .int (nI 2)]) d_40_1 (fun _ => rfl) ?_
  refine cr_gf (v := .int (nI l0)) d_40_2 cw_40 cf_6_18 (hS.i (a := 122) (by decide) (by decide)) (hS.s (a := 122) (by decide) (by decide) rfl) (by decide) hA1 ?_
  refine cn_cne (t := 37) d_40_5 (by decide) (by first | omega | assumption | exact cu_36 (by omega) (cu_lt (by omega) (by omega))) (by first | omega | assumption | exact cu_36 (by omega) (cu_lt (by omega) (by omega))) (fun c5 => ?_) (fun c5 => ?_)
  · refine cn_ic (v := 0) d_40_37 (by decide) ?_
    refine cr_nx (pc' := 39) (al' := [some (.ref 122), some (.ref a), some (.int (nI 2)), some (.int (nI 0))]) (st' := []) d_40_38 (fun _ => rfl) ?_
    refine cr_nx (pc' := 40) (al' := [some (.ref 122), some (.ref a), some (.int (nI 2)), some (.int (nI 0))]) (st' := [.int (nI 0)]) d_40_39 (fun _ => rfl) ?_
    refine cn_ine (t := 68) d_40_40 (by decide) (by first | omega | assumption | exact cu_36 (by omega) (cu_lt (by omega) (by omega))) (fun c40 => ?_) (fun c40 => ?_)
    · omega
    · refine cr_dr (al1 := [some (.ref 122), some (.ref a), some (.int (nI 2)), none]) (le_s (le_s (le_s (le_d rfl (le_n))))) ?_
      exact cr_wk (Nat.le_of_ble_eq_true rfl) (k_nameOf43_2_122 hS hF ht hn hc hl hn1 hap)
  · refine cr_nx (pc' := 9) (al' := [some (.ref 122), some (.ref a), some (.int (nI 2)), none]) (st' := [.ref a]) d_40_8 (fun _ => rfl) ?_
    refine cr_gf (v := .int (nI n)) d_40_9 cw_40 cf_6_38 ht.1 ht.2.2.1 (by decide) hn ?_
    refine cr_nx (pc' := 13) (al' := [some (.ref 122), some (.ref a), some (.int (nI 2)), none]) (st' := [.ref 122, .int (nI n)]) d_40_12 (fun _ => rfl) ?_
    refine cr_gf (v := .ref 123) d_40_13 cw_40 cf_6_12 (hS.i (a := 122) (by decide) (by decide)) (hS.s (a := 122) (by decide) (by decide) rfl) (by decide) (fx_122_0 hF) ?_
    refine cr_gf (v := .int (nI n0)) d_40_16 cw_40 cf_6_38 (hS.i (a := 123) (by decide) (by decide)) (hS.s (a := 123) (by decide) (by decide) rfl) (by decide) hA2 ?_
    refine cn_cne (t := 37) d_40_19 (by decide) (by first | omega | assumption | exact cu_36 (by omega) (cu_lt (by omega) (by omega))) (by first | omega | assumption | exact cu_36 (by omega) (cu_lt (by omega) (by omega))) (fun c19 => ?_) (fun c19 => ?_)
    · refine cn_ic (v := 0) d_40_37 (by decide) ?_
      refine cr_nx (pc' := 39) (al' := [some (.ref 122), some (.ref a), some (.int (nI 2)), some (.int (nI 0))]) (st' := []) d_40_38 (fun _ => rfl) ?_
      refine cr_nx (pc' := 40) (al' := [some (.ref 122), some (.ref a), some (.int (nI 2)), some (.int (nI 0))]) (st' := [.int (nI 0)]) d_40_39 (fun _ => rfl) ?_
      refine cn_ine (t := 68) d_40_40 (by decide) (by first | omega | assumption | exact cu_36 (by omega) (cu_lt (by omega) (by omega))) (fun c40 => ?_) (fun c40 => ?_)
      · omega
      · refine cr_dr (al1 := [some (.ref 122), some (.ref a), some (.int (nI 2)), none]) (le_s (le_s (le_s (le_d rfl (le_n))))) ?_
        exact cr_wk (Nat.le_of_ble_eq_true rfl) (k_nameOf43_2_122 hS hF ht hn hc hl hn1 hap)
    · refine cr_nx (pc' := 23) (al' := [some (.ref 122), some (.ref a), some (.int (nI 2)), none]) (st' := [.ref a]) d_40_22 (fun _ => rfl) ?_
      refine cr_nx (pc' := 24) (al' := [some (.ref 122), some (.ref a), some (.int (nI 2)), none]) (st' := [.ref 122, .ref a]) d_40_23 (fun _ => rfl) ?_
      refine cr_gf (v := .ref 123) d_40_24 cw_40 cf_6_12 (hS.i (a := 122) (by decide) (by decide)) (hS.s (a := 122) (by decide) (by decide) rfl) (by decide) (fx_122_0 hF) ?_
      obtain rfl := c19
      refine cr_pv (b := a) (as := [.ref 123]) (al0 := [some (.ref a), some (.ref 123), none, none]) (r := []) d_40_27 cw_40 cm_6_41 cz_109 rfl rfl ht.1 (by rw [cw_109]; exact ht.2.2.1) (by rw [cw_109]; decide) rfl (Nat.le_of_ble_eq_true rfl) (k_differences ht hn hc (tb_123 hS hF) hT0) ?_
      show CR _ _ 30 [some (.ref 122), some (.ref a), some (.int (nI 2)), none] [.int (nI (dfN (n * n) c c0))] S G B J R _
      have hd := dfN_le (n * n) c c0
      have hnn : n * n ≤ 36 := Nat.mul_le_mul hn6 hn6
      refine cn_ine (t := 37) d_40_30 (by decide) (by first | omega | assumption | exact cu_36 (by omega) (cu_lt (by omega) (by omega))) (fun c30 => ?_) (fun c30 => ?_)
      · refine cn_ic (v := 0) d_40_37 (by decide) ?_
        refine cr_nx (pc' := 39) (al' := [some (.ref 122), some (.ref a), some (.int (nI 2)), some (.int (nI 0))]) (st' := []) d_40_38 (fun _ => rfl) ?_
        refine cr_nx (pc' := 40) (al' := [some (.ref 122), some (.ref a), some (.int (nI 2)), some (.int (nI 0))]) (st' := [.int (nI 0)]) d_40_39 (fun _ => rfl) ?_
        refine cn_ine (t := 68) d_40_40 (by decide) (by first | omega | assumption | exact cu_36 (by omega) (cu_lt (by omega) (by omega))) (fun c40 => ?_) (fun c40 => ?_)
        · omega
        · refine cr_dr (al1 := [some (.ref 122), some (.ref a), some (.int (nI 2)), none]) (le_s (le_s (le_s (le_d rfl (le_n))))) ?_
          exact cr_wk (Nat.le_of_ble_eq_true rfl) (k_nameOf43_2_122 hS hF ht hn hc hl hn1 hap)
      · refine cn_ic (v := 1) d_40_33 (by decide) ?_
        refine cr_nx (pc' := 38) (al' := [some (.ref 122), some (.ref a), some (.int (nI 2)), none]) (st' := [.int (nI 1)]) d_40_34 (fun _ => rfl) ?_
        refine cr_nx (pc' := 39) (al' := [some (.ref 122), some (.ref a), some (.int (nI 2)), some (.int (nI 1))]) (st' := []) d_40_38 (fun _ => rfl) ?_
        refine cr_nx (pc' := 40) (al' := [some (.ref 122), some (.ref a), some (.int (nI 2)), some (.int (nI 1))]) (st' := [.int (nI 1)]) d_40_39 (fun _ => rfl) ?_
        refine cn_ine (t := 68) d_40_40 (by decide) (by first | omega | assumption | exact cu_36 (by omega) (cu_lt (by omega) (by omega))) (fun c40 => ?_) (fun c40 => ?_)
        · refine cr_nx (pc' := 69) (al' := [some (.ref 122), some (.ref a), some (.int (nI 2)), some (.int (nI 1))]) (st' := [.ref 122]) d_40_68 (fun _ => rfl) ?_
          refine cr_gf (v := .ref 125) d_40_69 cw_40 cf_6_22 (hS.i (a := 122) (by decide) (by decide)) (hS.s (a := 122) (by decide) (by decide) rfl) (by decide) (fx_122_2 hF) ?_
          exact cr_ra d_40_72 cx_40 (by first | exact Or.inl ⟨_, rfl⟩ | exact Or.inr ⟨_, rfl⟩) (by
              have he := df_0 c30
              have hl0 : 2 = l0 := c5
              subst hl0
              have hM2 := Min_iff hM (NmF_cg (c := c0) (d := c) hL0 (fun q hq => (he q hq).symm))
              exact ⟨rfl, rfl, rfl, rfl, hF, Gfr.rf, Bfr.rf, hOk, hA3, bb, hbb, hM2⟩)
        · omega
theorem k_nameOf2_122 {S : CS} {G : Nat → Nat → Value} {B : Nat → Nat → Int32} {J : Nat → Nat → Int64} {R : Nat → Nat → Option Nat} (hS : ShOk S) (hF : FxG G) {a n : Nat} {c : Nat → Nat} (ht : TabAt S G a) (hn : G a 0 = .int (nI n)) (hc : TabC B a n c) (hl : Lat n c) (hn1 : 1 ≤ n) (hap : a < 111 ∨ 133 ≤ a) (hOk : NmOk122 G B) : CR 5 40 0 [some (.ref 122), some (.ref a), some (.int (nI 2)), none] [] S G B J R (fun r_ S' G' B' J' R' => r_ = some (.ref 125) ∧ S' = S ∧ J' = J ∧ R' = R ∧ FxG G' ∧ Gfr [122, 123, 125, 127, 129] G G' ∧ Bfr [124, 126, 128, 130, 131, 132] B B' ∧ NmOk122 G' B' ∧ G' 125 0 = .int (nI n) ∧ ∃ bb, (∀ q, q < n * n → B' (125 + 1) q = nI (bb q) ∧ bb q < n) ∧ MinS (n * n) (NmF 2 n c) 1 bb) := by
  rcases hOk with h | ⟨l0, n0, c0, a1, a2, a3, a4, a5, a6, a7, bb, a8, a9⟩
  · exact k_nameOfA2_122 hS hF ht hn hc hl hn1 hap h
  · exact k_nameOfB2_122 hS hF ht hn hc hl hn1 hap (Or.inr ⟨l0, n0, c0, a1, a2, a3, a4, a5, a6, a7, bb, a8, a9⟩) a1 a2 a4 a5 a6 a7 a8 a9
