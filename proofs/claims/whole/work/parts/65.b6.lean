/-! How far from a group, the class; printed by wip/whole/gen_b6.py. -/
def nrC (n : Nat) (c e : Nat → Nat) (s : Nat × Nat) : Nat × Nat := match nrT n c e (FA n) with
  | (low, here) => if min low 36 < s.1 then (min low 36, here / auN n c) else if min low 36 = s.1 then (s.1, s.2 + here / auN n c) else s
theorem nrC_l {n : Nat} {c e : Nat → Nat} {a b : Nat} (h : min (nrT n c e (FA n)).1 36 < a) : (nrC n c e (a, b)).1 = min (nrT n c e (FA n)).1 36 ∧ (nrC n c e (a, b)).2 = (nrT n c e (FA n)).2 / auN n c := by
  have : nrC n c e (a, b) = (min (nrT n c e (FA n)).1 36, (nrT n c e (FA n)).2 / auN n c) := if_pos h
  rw [this]
  exact ⟨rfl, rfl⟩
theorem nrC_e {n : Nat} {c e : Nat → Nat} {a b : Nat} (h : min (nrT n c e (FA n)).1 36 = a) : (nrC n c e (a, b)).1 = a ∧ (nrC n c e (a, b)).2 = b + (nrT n c e (FA n)).2 / auN n c := by
  have h1 : nrC n c e (a, b) = if min (nrT n c e (FA n)).1 36 = a then (a, b + (nrT n c e (FA n)).2 / auN n c) else (a, b) := if_neg (show ¬ min (nrT n c e (FA n)).1 36 < a by omega)
  rw [h1, if_pos h]
  exact ⟨rfl, rfl⟩
theorem nrC_s {n : Nat} {c e : Nat → Nat} {a b : Nat} (h : a < min (nrT n c e (FA n)).1 36) : (nrC n c e (a, b)).1 = a ∧ (nrC n c e (a, b)).2 = b := by
  have h1 : nrC n c e (a, b) = if min (nrT n c e (FA n)).1 36 = a then (a, b + (nrT n c e (FA n)).2 / auN n c) else (a, b) := if_neg (show ¬ min (nrT n c e (FA n)).1 36 < a by omega)
  rw [h1, if_neg (by omega)]
  exact ⟨rfl, rfl⟩
theorem pr_eq {s t : Nat × Nat} (h1 : s.1 = t.1) (h2 : s.2 = t.2) : s = t := Prod.ext h1 h2
theorem nr_low {n : Nat} {c e : Nat → Nat} (hn : n ≤ 6) : (nrT n c e (FA n)).1 ≤ 36 := by
  have := nrT_b (c := c) (e := e) hn (FA n)
  have := FA_pos n
  omega
theorem nr_0 {n : Nat} {c e : Nat → Nat} (hn : n ≤ 6) : nrC n c e (36, 0) = nrG n c e (37, 0) := by
  have h := nr_low (c := c) (e := e) hn
  have g := nrG_l (n := n) (c := c) (e := e) (a := 37) (b := 0) (by omega)
  rcases Nat.lt_or_ge (nrT n c e (FA n)).1 36 with h1 | h1
  · have q := nrC_l (n := n) (c := c) (e := e) (a := 36) (b := 0) (by omega)
    exact pr_eq (by rw [q.1, ← g.1]; omega) (by rw [q.2, ← g.2]; rfl)
  · have q := nrC_e (n := n) (c := c) (e := e) (a := 36) (b := 0) (by omega)
    exact pr_eq (by rw [q.1, ← g.1]; omega) (by rw [q.2, ← g.2, Nat.zero_add]; rfl)
theorem nr_1 {n : Nat} {c e : Nat → Nat} (hn : n ≤ 6) {a b : Nat} (ha : a ≤ 36) : nrC n c e (a, b) = nrG n c e (a, b) := by
  have h := nr_low (c := c) (e := e) hn
  rcases Nat.lt_trichotomy (nrT n c e (FA n)).1 a with h1 | h1 | h1
  · have g := nrG_l (n := n) (c := c) (e := e) (a := a) (b := b) h1
    have q := nrC_l (n := n) (c := c) (e := e) (a := a) (b := b) (by omega)
    exact pr_eq (by rw [q.1, ← g.1]; omega) (by rw [q.2, ← g.2]; rfl)
  · have g := nrG_e (n := n) (c := c) (e := e) (a := a) (b := b) h1
    have q := nrC_e (n := n) (c := c) (e := e) (a := a) (b := b) (by omega)
    exact pr_eq (by rw [q.1, ← g.1]; omega) (by rw [q.2, ← g.2]; rfl)
  · have g := nrG_s (n := n) (c := c) (e := e) (a := a) (b := b) h1
    have q := nrC_s (n := n) (c := c) (e := e) (a := a) (b := b) (by omega)
    exact pr_eq (by rw [q.1, ← g.1]) (by rw [q.2, ← g.2])
theorem k_seekGroup {S : CS} {G : Nat → Nat → Value} {B : Nat → Nat → Int32} {J : Nat → Nat → Int64} {R : Nat → Nat → Option Nat} (hS : ShOk S) (hF : FxG G) {a n N0 M0 : Nat} {c e : Nat → Nat} (ht : TabAt S G a) (hn : G a 0 = .int (nI n)) (he : TabC B a n e) (hg : TabAt S G 134) (hgn : G 134 0 = .int (nI n)) (hc : TabC B 134 n c) (hn1 : 1 ≤ n) (hap : a + 1 ≠ 136) (hN0 : G 133 0 = .int (nI N0)) (hM0 : G 133 1 = .int (nI M0)) (hN : N0 ≤ 36) (hM : M0 ≤ 2000) : CR 3 79 0 [some (.ref 133), some (.ref a), none, none, none, none, none] [] S G B J R (fun r_ S' G' B' J' R' => r_ = none ∧ S' = S ∧ J' = J ∧ R' = R ∧ FxG G' ∧ Gfr [133] G G' ∧ Bfr [136] B B' ∧ G' 133 0 = .int (nI (nrC n c e (N0, M0)).1) ∧ G' 133 1 = .int (nI (nrC n c e (N0, M0)).2)) := by
  have hn6 := hc.1
  have hrr := FA_720 hn6
  have hw1 : 1 ≤ auN n c := wy_pos hn6 (fun q hq => (hc.2 q hq).2)
  have hw2 := auN_le (n := n) (c := c)
  refine cr_nx (pc' := 1) (al' := [some (.ref 133), some (.ref a), none, none, none, none, none]) (st' := [.ref 133]) d_79_0 (fun _ => rfl) ?_
  refine cr_nx (pc' := 2) (al' := [some (.ref 133), some (.ref a), none, none, none, none, none]) (st' := [.ref 133, .ref 133]) d_79_1 (fun _ => rfl) ?_
  refine cr_gf (v := .ref 134) d_79_2 cw_79 cf_8_12 (hS.i (a := 133) (by decide) (by decide)) (hS.s (a := 133) (by decide) (by decide) rfl) (by decide) (fx_133_2 hF) ?_
  refine cr_cv (b := 133) (as := [.ref 134]) (al0 := [some (.ref 133), some (.ref 134), none, none]) (r := []) d_79_5 cw_79 cm_8_89 cz_74 rfl rfl (hS.i (a := 133) (by decide) (by decide)) (by rw [cw_74]; exact (hS.s (a := 133) (by decide) (by decide) rfl)) (by rw [cw_74]; decide) rfl (cr_wk (Nat.le_of_ble_eq_true rfl) (k_automorphisms hS hF hg hgn (by first | exact hc | exact TabC.u1 (by omega) hc) (by omega) (by omega))) (fun v1 S1 G1 B1 J1 R1 h1 => ?_)
  obtain ⟨q0_, q1_, q2_, q3_, q4_, w5, q9_⟩ := h1
  obtain rfl := q0_
  obtain rfl := q1_.symm
  obtain rfl := q2_.symm
  obtain rfl := q3_.symm
  obtain rfl := q4_.symm
  obtain rfl := q9_
  show CR _ _ 8 [some (.ref 133), some (.ref a), none, none, none, none, none] [.int (nI (auN n c))] S G (upr B 136 w5) J R _
  refine cn_ic (v := 1) d_79_8 (by decide) ?_
  refine cn_mx d_79_9 cw_79 cm_8_93 (by first | omega | assumption | exact cu_36 (by omega) (cu_lt (by omega) (by omega))) (by first | omega | assumption | exact cu_36 (by omega) (cu_lt (by omega) (by omega))) rfl ?_
  refine cr_tp (z := (nI (auN n c))) (congrArg nI (show max (auN n c) 1 = auN n c by omega)) ?_
  refine cr_nx (pc' := 13) (al' := [some (.ref 133), some (.ref a), some (.int (nI (auN n c))), none, none, none, none]) (st' := []) d_79_12 (fun _ => rfl) ?_
  refine cn_bp (v := 36) d_79_13 (by decide) ?_
  refine cr_nx (pc' := 16) (al' := [some (.ref 133), some (.ref a), some (.int (nI (auN n c))), some (.int (nI 36)), none, none, none]) (st' := []) d_79_15 (fun _ => rfl) ?_
  refine cn_ic (v := 0) d_79_16 (by decide) ?_
  refine cr_nx (pc' := 19) (al' := [some (.ref 133), some (.ref a), some (.int (nI (auN n c))), some (.int (nI 36)), some (.int (nI 0)), none, none]) (st' := []) d_79_17 (fun _ => rfl) ?_
  refine cr_nx (pc' := 20) (al' := [some (.ref 133), some (.ref a), some (.int (nI (auN n c))), some (.int (nI 36)), some (.int (nI 0)), none, none]) (st' := [.ref 133]) d_79_19 (fun _ => rfl) ?_
  refine cr_gf (v := .ref 136) d_79_20 cw_79 cf_8_18 (hS.i (a := 133) (by decide) (by decide)) (hS.s (a := 133) (by decide) (by decide) rfl) (by decide) (fx_133_3 hF) ?_
  refine cr_cs (as := [.ref 136]) (al0 := [some (.ref 136), none]) (r := []) d_79_23 cw_79 cm_8_50 (by decide) cz_154 rfl rfl rfl (cr_wk (Nat.le_of_ble_eq_true rfl) (k_startPermutation (hS.i (a := 136) (by decide) (by decide)) (hS.s (a := 136) (by decide) (by decide) rfl) (by decide))) (fun v1 S1 G1 B1 J1 R1 h1 => ?_)
  obtain ⟨q0_, q1_, q2_, q3_, q4_, w23, q9_, hw23⟩ := h1
  obtain rfl := q0_
  obtain rfl := q1_.symm
  obtain rfl := q2_.symm
  obtain rfl := q3_.symm
  obtain rfl := q4_.symm
  obtain rfl := q9_
  rw [upr_u]
  show CR _ _ 26 [some (.ref 133), some (.ref a), some (.int (nI (auN n c))), some (.int (nI 36)), some (.int (nI 0)), none, none] [] S G (upr B 136 w23) J R _
  refine cn_ic (v := 0) d_79_26 (by decide) ?_
  refine cr_nx (pc' := 29) (al' := [some (.ref 133), some (.ref a), some (.int (nI (auN n c))), some (.int (nI 36)), some (.int (nI 0)), some (.int (nI 0)), none]) (st' := []) d_79_27 (fun _ => rfl) ?_
  refine cr_al (congrArg (fun z__ : Nat => ([some (.ref 133), some (.ref a), some (.int (nI (auN n c))), some (.int (nI z__)), some (.int (nI 0)), some (.int (nI 0)), none] : AL)) (show 36 = min (nrT n c e 0).1 36 by rfl)) ?_
  refine cr_al (congrArg (fun z__ : Nat => ([some (.ref 133), some (.ref a), some (.int (nI (auN n c))), some (.int (nI (min (nrT n c e 0).1 36))), some (.int (nI z__)), some (.int (nI 0)), none] : AL)) (show 0 = (nrT n c e 0).2 by rfl)) ?_
  refine cr_upw (al := fun r w_ => [some (.ref 133), some (.ref a), some (.int (nI (auN n c))), some (.int (nI (min (nrT n c e r).1 36))), some (.int (nI ((nrT n c e r).2))), some (.int (nI r)), none]) (S := fun r w_ => S) (G := fun r w_ => G) (B := fun r w_ => (upr B 136 w_)) (J := fun r w_ => J) (R := fun r w_ => R) (P := fun r w_ => (r < FA n → ∀ q, q < n → w_ q = nI (pmE n r q))) (n := FA n) (fun r w_ hr pr ihr => ?_) (fun w_ pr => ?_) 0 w23 (by omega) (fun _ q hq => by rw [hw23 q (by omega), pm_id hn6 hq])
  · show CR _ _ 29 [some (.ref 133), some (.ref a), some (.int (nI (auN n c))), some (.int (nI (min (nrT n c e r).1 36))), some (.int (nI ((nrT n c e r).2))), some (.int (nI r)), none] [] S G (upr B 136 w_) J R _
    have hP := pm_per hn6 hr
    have hb := nrT_b (c := c) (e := e) hn6 r
    have ho := hoN_le (c := c) (e := e) (p := pmE n r) hn6
    refine cr_nx (pc' := 31) (al' := [some (.ref 133), some (.ref a), some (.int (nI (auN n c))), some (.int (nI (min (nrT n c e r).1 36))), some (.int (nI ((nrT n c e r).2))), some (.int (nI r)), none]) (st' := [.int (nI r)]) d_79_29 (fun _ => rfl) ?_
    refine cr_gs d_79_31 cw_79 cq_8_54 ?_
    refine cr_nx (pc' := 35) (al' := [some (.ref 133), some (.ref a), some (.int (nI (auN n c))), some (.int (nI (min (nrT n c e r).1 36))), some (.int (nI ((nrT n c e r).2))), some (.int (nI r)), none]) (st' := [.ref a, .ref 0, .int (nI r)]) d_79_34 (fun _ => rfl) ?_
    refine cr_gf (v := .int (nI n)) d_79_35 cw_79 cf_8_34 ht.1 ht.2.2.1 (by decide) hn ?_
    refine cr_fa (v := (nI (FA n))) d_79_38 (show n < 7 by first | omega | assumption | exact cu_36 (by omega) (cu_lt (by omega) (by omega))) (am_fcN (by first | omega | assumption | exact cu_36 (by omega) (cu_lt (by omega) (by omega)))) ?_
    refine cn_cge (t := 93) d_79_39 (by decide) (by first | omega | assumption | exact cu_36 (by omega) (cu_lt (by omega) (by omega))) (by first | omega | assumption | exact cu_36 (by omega) (cu_lt (by omega) (by omega))) (fun c39 => ?_) (fun c39 => ?_)
    · omega
    · refine cr_nx (pc' := 43) (al' := [some (.ref 133), some (.ref a), some (.int (nI (auN n c))), some (.int (nI (min (nrT n c e r).1 36))), some (.int (nI ((nrT n c e r).2))), some (.int (nI r)), none]) (st' := [.ref 133]) d_79_42 (fun _ => rfl) ?_
      refine cr_nx (pc' := 44) (al' := [some (.ref 133), some (.ref a), some (.int (nI (auN n c))), some (.int (nI (min (nrT n c e r).1 36))), some (.int (nI ((nrT n c e r).2))), some (.int (nI r)), none]) (st' := [.ref 133, .ref 133]) d_79_43 (fun _ => rfl) ?_
      refine cr_gf (v := .ref 134) d_79_44 cw_79 cf_8_12 (hS.i (a := 133) (by decide) (by decide)) (hS.s (a := 133) (by decide) (by decide) rfl) (by decide) (fx_133_2 hF) ?_
      refine cr_nx (pc' := 48) (al' := [some (.ref 133), some (.ref a), some (.int (nI (auN n c))), some (.int (nI (min (nrT n c e r).1 36))), some (.int (nI ((nrT n c e r).2))), some (.int (nI r)), none]) (st' := [.ref a, .ref 134, .ref 133]) d_79_47 (fun _ => rfl) ?_
      refine cr_nx (pc' := 49) (al' := [some (.ref 133), some (.ref a), some (.int (nI (auN n c))), some (.int (nI (min (nrT n c e r).1 36))), some (.int (nI ((nrT n c e r).2))), some (.int (nI r)), none]) (st' := [.int (nI (min (nrT n c e r).1 36)), .ref a, .ref 134, .ref 133]) d_79_48 (fun _ => rfl) ?_
      refine cr_pv (b := 133) (as := [.ref 134, .ref a, .int (nI (min (nrT n c e r).1 36))]) (al0 := [some (.ref 133), some (.ref 134), some (.ref a), some (.int (nI (min (nrT n c e r).1 36))), none, none, none]) (r := []) d_79_49 cw_79 cm_8_57 cz_75 rfl rfl (hS.i (a := 133) (by decide) (by decide)) (by rw [cw_75]; exact (hS.s (a := 133) (by decide) (by decide) rfl)) (by rw [cw_75]; decide) rfl (Nat.le_of_ble_eq_true rfl) (k_renamedApart hS hF hg hgn (by first | exact hc | exact TabC.u1 (by omega) hc) ht hn (by first | exact he | exact TabC.u1 (by omega) he) hP (fun q hq => by rw [upr_s]; exact pr hr q hq) (by omega)) ?_
      show CR _ _ 52 [some (.ref 133), some (.ref a), some (.int (nI (auN n c))), some (.int (nI (min (nrT n c e r).1 36))), some (.int (nI ((nrT n c e r).2))), some (.int (nI r)), none] [.int (nI (min (hoN n c e (pmE n r)) ((min (nrT n c e r).1 36) + 1)))] S G (upr B 136 w_) J R _
      refine cr_nx (pc' := 54) (al' := [some (.ref 133), some (.ref a), some (.int (nI (auN n c))), some (.int (nI (min (nrT n c e r).1 36))), some (.int (nI ((nrT n c e r).2))), some (.int (nI r)), some (.int (nI (min (hoN n c e (pmE n r)) ((min (nrT n c e r).1 36) + 1))))]) (st' := []) d_79_52 (fun _ => rfl) ?_
      refine cr_nx (pc' := 56) (al' := [some (.ref 133), some (.ref a), some (.int (nI (auN n c))), some (.int (nI (min (nrT n c e r).1 36))), some (.int (nI ((nrT n c e r).2))), some (.int (nI r)), some (.int (nI (min (hoN n c e (pmE n r)) ((min (nrT n c e r).1 36) + 1))))]) (st' := [.int (nI (min (hoN n c e (pmE n r)) ((min (nrT n c e r).1 36) + 1)))]) d_79_54 (fun _ => rfl) ?_
      refine cr_nx (pc' := 57) (al' := [some (.ref 133), some (.ref a), some (.int (nI (auN n c))), some (.int (nI (min (nrT n c e r).1 36))), some (.int (nI ((nrT n c e r).2))), some (.int (nI r)), some (.int (nI (min (hoN n c e (pmE n r)) ((min (nrT n c e r).1 36) + 1))))]) (st' := [.int (nI (min (nrT n c e r).1 36)), .int (nI (min (hoN n c e (pmE n r)) ((min (nrT n c e r).1 36) + 1)))]) d_79_56 (fun _ => rfl) ?_
      refine cn_cge (t := 66) d_79_57 (by decide) (by first | omega | assumption | exact cu_36 (by omega) (cu_lt (by omega) (by omega))) (by first | omega | assumption | exact cu_36 (by omega) (cu_lt (by omega) (by omega))) (fun c57 => ?_) (fun c57 => ?_)
      · refine cr_nx (pc' := 68) (al' := [some (.ref 133), some (.ref a), some (.int (nI (auN n c))), some (.int (nI (min (nrT n c e r).1 36))), some (.int (nI ((nrT n c e r).2))), some (.int (nI r)), some (.int (nI (min (hoN n c e (pmE n r)) ((min (nrT n c e r).1 36) + 1))))]) (st' := [.int (nI (min (hoN n c e (pmE n r)) ((min (nrT n c e r).1 36) + 1)))]) d_79_66 (fun _ => rfl) ?_
        refine cr_nx (pc' := 69) (al' := [some (.ref 133), some (.ref a), some (.int (nI (auN n c))), some (.int (nI (min (nrT n c e r).1 36))), some (.int (nI ((nrT n c e r).2))), some (.int (nI r)), some (.int (nI (min (hoN n c e (pmE n r)) ((min (nrT n c e r).1 36) + 1))))]) (st' := [.int (nI (min (nrT n c e r).1 36)), .int (nI (min (hoN n c e (pmE n r)) ((min (nrT n c e r).1 36) + 1)))]) d_79_68 (fun _ => rfl) ?_
        refine cn_cne (t := 75) d_79_69 (by decide) (by first | omega | assumption | exact cu_36 (by omega) (cu_lt (by omega) (by omega))) (by first | omega | assumption | exact cu_36 (by omega) (cu_lt (by omega) (by omega))) (fun c69 => ?_) (fun c69 => ?_)
        · refine cr_nx (pc' := 76) (al' := [some (.ref 133), some (.ref a), some (.int (nI (auN n c))), some (.int (nI (min (nrT n c e r).1 36))), some (.int (nI ((nrT n c e r).2))), some (.int (nI r)), some (.int (nI (min (hoN n c e (pmE n r)) ((min (nrT n c e r).1 36) + 1))))]) (st' := [.ref 133]) d_79_75 (fun _ => rfl) ?_
          refine cr_gf (v := .ref 136) d_79_76 cw_79 cf_8_18 (hS.i (a := 133) (by decide) (by decide)) (hS.s (a := 133) (by decide) (by decide) rfl) (by decide) (fx_133_3 hF) ?_
          refine cn_ic (v := 0) d_79_79 (by decide) ?_
          refine cr_nx (pc' := 81) (al' := [some (.ref 133), some (.ref a), some (.int (nI (auN n c))), some (.int (nI (min (nrT n c e r).1 36))), some (.int (nI ((nrT n c e r).2))), some (.int (nI r)), some (.int (nI (min (hoN n c e (pmE n r)) ((min (nrT n c e r).1 36) + 1))))]) (st' := [.ref a, .int (nI 0), .ref 136]) d_79_80 (fun _ => rfl) ?_
          refine cr_gf (v := .int (nI n)) d_79_81 cw_79 cf_8_34 ht.1 ht.2.2.1 (by decide) hn ?_
          refine cr_cs (as := [.ref 136, .int (nI 0), .int (nI n)]) (al0 := [some (.ref 136), some (.int (nI 0)), some (.int (nI n)), none, none, none]) (r := []) d_79_84 cw_79 cm_8_61 (by decide) cz_157 rfl rfl rfl (cr_wk (Nat.le_of_ble_eq_true rfl) (k_permuteOn (f := pmE n r) (hS.i (a := 136) (by decide) (by decide)) (hS.s (a := 136) (by decide) (by decide) rfl) (by decide) (by omega) (by omega) (by omega) (pm_31 hn6 hr) (fun q hq => by rw [upr_s]; exact pr hr q hq))) (fun v1 S1 G1 B1 J1 R1 h1 => ?_)
          obtain ⟨q0_, q1_, q2_, q3_, q4_, w84, q9_, hw84⟩ := h1
          obtain rfl := q0_
          obtain rfl := q1_.symm
          obtain rfl := q2_.symm
          obtain rfl := q3_.symm
          obtain rfl := q4_.symm
          obtain rfl := q9_
          rw [upr_u]
          show CR _ _ 87 [some (.ref 133), some (.ref a), some (.int (nI (auN n c))), some (.int (nI (min (nrT n c e r).1 36))), some (.int (nI ((nrT n c e r).2))), some (.int (nI r)), some (.int (nI (min (hoN n c e (pmE n r)) ((min (nrT n c e r).1 36) + 1))))] [] S G (upr B 136 w84) J R _
          refine cn_inc d_79_87 rfl rfl ?_
          show CR _ _ 90 [some (.ref 133), some (.ref a), some (.int (nI (auN n c))), some (.int (nI (min (nrT n c e r).1 36))), some (.int (nI ((nrT n c e r).2))), some (.int (nI (r + 1))), some (.int (nI (min (hoN n c e (pmE n r)) ((min (nrT n c e r).1 36) + 1))))] [] S G (upr B 136 w84) J R _
          refine cr_nx (pc' := 29) (al' := [some (.ref 133), some (.ref a), some (.int (nI (auN n c))), some (.int (nI (min (nrT n c e r).1 36))), some (.int (nI ((nrT n c e r).2))), some (.int (nI (r + 1))), some (.int (nI (min (hoN n c e (pmE n r)) ((min (nrT n c e r).1 36) + 1))))]) (st' := []) d_79_90 (fun _ => rfl) ?_
          refine cr_al (congrArg (fun z__ : Nat => ([some (.ref 133), some (.ref a), some (.int (nI (auN n c))), some (.int (nI z__)), some (.int (nI ((nrT n c e r).2))), some (.int (nI (r + 1))), some (.int (nI (min (hoN n c e (pmE n r)) ((min (nrT n c e r).1 36) + 1))))] : AL)) (show min (nrT n c e r).1 36 = min (nrT n c e (r + 1)).1 36 by (rw [nrT]; split) <;> (try dsimp only) <;> (try split) <;> omega)) ?_
          refine cr_al (congrArg (fun z__ : Nat => ([some (.ref 133), some (.ref a), some (.int (nI (auN n c))), some (.int (nI (min (nrT n c e (r + 1)).1 36))), some (.int (nI z__)), some (.int (nI (r + 1))), some (.int (nI (min (hoN n c e (pmE n r)) ((min (nrT n c e r).1 36) + 1))))] : AL)) (show (nrT n c e r).2 = (nrT n c e (r + 1)).2 by (rw [nrT]; split) <;> (try dsimp only) <;> (try split) <;> omega)) ?_
          refine cr_dr (al1 := [some (.ref 133), some (.ref a), some (.int (nI (auN n c))), some (.int (nI (min (nrT n c e (r + 1)).1 36))), some (.int (nI ((nrT n c e (r + 1)).2))), some (.int (nI (r + 1))), none]) (le_s (le_s (le_s (le_s (le_s (le_s (le_d rfl (le_n)))))))) ?_
          exact ihr w84 (nx_w hn6 hw84)
        · refine cn_inc d_79_72 rfl rfl ?_
          show CR _ _ 75 [some (.ref 133), some (.ref a), some (.int (nI (auN n c))), some (.int (nI (min (nrT n c e r).1 36))), some (.int (nI (((nrT n c e r).2) + 1))), some (.int (nI r)), some (.int (nI (min (hoN n c e (pmE n r)) ((min (nrT n c e r).1 36) + 1))))] [] S G (upr B 136 w_) J R _
          refine cr_nx (pc' := 76) (al' := [some (.ref 133), some (.ref a), some (.int (nI (auN n c))), some (.int (nI (min (nrT n c e r).1 36))), some (.int (nI (((nrT n c e r).2) + 1))), some (.int (nI r)), some (.int (nI (min (hoN n c e (pmE n r)) ((min (nrT n c e r).1 36) + 1))))]) (st' := [.ref 133]) d_79_75 (fun _ => rfl) ?_
          refine cr_gf (v := .ref 136) d_79_76 cw_79 cf_8_18 (hS.i (a := 133) (by decide) (by decide)) (hS.s (a := 133) (by decide) (by decide) rfl) (by decide) (fx_133_3 hF) ?_
          refine cn_ic (v := 0) d_79_79 (by decide) ?_
          refine cr_nx (pc' := 81) (al' := [some (.ref 133), some (.ref a), some (.int (nI (auN n c))), some (.int (nI (min (nrT n c e r).1 36))), some (.int (nI (((nrT n c e r).2) + 1))), some (.int (nI r)), some (.int (nI (min (hoN n c e (pmE n r)) ((min (nrT n c e r).1 36) + 1))))]) (st' := [.ref a, .int (nI 0), .ref 136]) d_79_80 (fun _ => rfl) ?_
          refine cr_gf (v := .int (nI n)) d_79_81 cw_79 cf_8_34 ht.1 ht.2.2.1 (by decide) hn ?_
          refine cr_cs (as := [.ref 136, .int (nI 0), .int (nI n)]) (al0 := [some (.ref 136), some (.int (nI 0)), some (.int (nI n)), none, none, none]) (r := []) d_79_84 cw_79 cm_8_61 (by decide) cz_157 rfl rfl rfl (cr_wk (Nat.le_of_ble_eq_true rfl) (k_permuteOn (f := pmE n r) (hS.i (a := 136) (by decide) (by decide)) (hS.s (a := 136) (by decide) (by decide) rfl) (by decide) (by omega) (by omega) (by omega) (pm_31 hn6 hr) (fun q hq => by rw [upr_s]; exact pr hr q hq))) (fun v1 S1 G1 B1 J1 R1 h1 => ?_)
          obtain ⟨q0_, q1_, q2_, q3_, q4_, w84, q9_, hw84⟩ := h1
          obtain rfl := q0_
          obtain rfl := q1_.symm
          obtain rfl := q2_.symm
          obtain rfl := q3_.symm
          obtain rfl := q4_.symm
          obtain rfl := q9_
          rw [upr_u]
          show CR _ _ 87 [some (.ref 133), some (.ref a), some (.int (nI (auN n c))), some (.int (nI (min (nrT n c e r).1 36))), some (.int (nI (((nrT n c e r).2) + 1))), some (.int (nI r)), some (.int (nI (min (hoN n c e (pmE n r)) ((min (nrT n c e r).1 36) + 1))))] [] S G (upr B 136 w84) J R _
          refine cn_inc d_79_87 rfl rfl ?_
          show CR _ _ 90 [some (.ref 133), some (.ref a), some (.int (nI (auN n c))), some (.int (nI (min (nrT n c e r).1 36))), some (.int (nI (((nrT n c e r).2) + 1))), some (.int (nI (r + 1))), some (.int (nI (min (hoN n c e (pmE n r)) ((min (nrT n c e r).1 36) + 1))))] [] S G (upr B 136 w84) J R _
          refine cr_nx (pc' := 29) (al' := [some (.ref 133), some (.ref a), some (.int (nI (auN n c))), some (.int (nI (min (nrT n c e r).1 36))), some (.int (nI (((nrT n c e r).2) + 1))), some (.int (nI (r + 1))), some (.int (nI (min (hoN n c e (pmE n r)) ((min (nrT n c e r).1 36) + 1))))]) (st' := []) d_79_90 (fun _ => rfl) ?_
          refine cr_al (congrArg (fun z__ : Nat => ([some (.ref 133), some (.ref a), some (.int (nI (auN n c))), some (.int (nI z__)), some (.int (nI (((nrT n c e r).2) + 1))), some (.int (nI (r + 1))), some (.int (nI (min (hoN n c e (pmE n r)) ((min (nrT n c e r).1 36) + 1))))] : AL)) (show min (nrT n c e r).1 36 = min (nrT n c e (r + 1)).1 36 by (rw [nrT]; split) <;> (try dsimp only) <;> (try split) <;> omega)) ?_
          refine cr_al (congrArg (fun z__ : Nat => ([some (.ref 133), some (.ref a), some (.int (nI (auN n c))), some (.int (nI (min (nrT n c e (r + 1)).1 36))), some (.int (nI z__)), some (.int (nI (r + 1))), some (.int (nI (min (hoN n c e (pmE n r)) ((min (nrT n c e r).1 36) + 1))))] : AL)) (show ((nrT n c e r).2) + 1 = (nrT n c e (r + 1)).2 by (rw [nrT]; split) <;> (try dsimp only) <;> (try split) <;> omega)) ?_
          refine cr_dr (al1 := [some (.ref 133), some (.ref a), some (.int (nI (auN n c))), some (.int (nI (min (nrT n c e (r + 1)).1 36))), some (.int (nI ((nrT n c e (r + 1)).2))), some (.int (nI (r + 1))), none]) (le_s (le_s (le_s (le_s (le_s (le_s (le_d rfl (le_n)))))))) ?_
          exact ihr w84 (nx_w hn6 hw84)
      · refine cr_nx (pc' := 62) (al' := [some (.ref 133), some (.ref a), some (.int (nI (auN n c))), some (.int (nI (min (nrT n c e r).1 36))), some (.int (nI ((nrT n c e r).2))), some (.int (nI r)), some (.int (nI (min (hoN n c e (pmE n r)) ((min (nrT n c e r).1 36) + 1))))]) (st' := [.int (nI (min (hoN n c e (pmE n r)) ((min (nrT n c e r).1 36) + 1)))]) d_79_60 (fun _ => rfl) ?_
        refine cr_nx (pc' := 63) (al' := [some (.ref 133), some (.ref a), some (.int (nI (auN n c))), some (.int (nI (min (hoN n c e (pmE n r)) ((min (nrT n c e r).1 36) + 1)))), some (.int (nI ((nrT n c e r).2))), some (.int (nI r)), some (.int (nI (min (hoN n c e (pmE n r)) ((min (nrT n c e r).1 36) + 1))))]) (st' := []) d_79_62 (fun _ => rfl) ?_
        refine cn_ic (v := 0) d_79_63 (by decide) ?_
        refine cr_nx (pc' := 66) (al' := [some (.ref 133), some (.ref a), some (.int (nI (auN n c))), some (.int (nI (min (hoN n c e (pmE n r)) ((min (nrT n c e r).1 36) + 1)))), some (.int (nI 0)), some (.int (nI r)), some (.int (nI (min (hoN n c e (pmE n r)) ((min (nrT n c e r).1 36) + 1))))]) (st' := []) d_79_64 (fun _ => rfl) ?_
        refine cr_nx (pc' := 68) (al' := [some (.ref 133), some (.ref a), some (.int (nI (auN n c))), some (.int (nI (min (hoN n c e (pmE n r)) ((min (nrT n c e r).1 36) + 1)))), some (.int (nI 0)), some (.int (nI r)), some (.int (nI (min (hoN n c e (pmE n r)) ((min (nrT n c e r).1 36) + 1))))]) (st' := [.int (nI (min (hoN n c e (pmE n r)) ((min (nrT n c e r).1 36) + 1)))]) d_79_66 (fun _ => rfl) ?_
        refine cr_nx (pc' := 69) (al' := [some (.ref 133), some (.ref a), some (.int (nI (auN n c))), some (.int (nI (min (hoN n c e (pmE n r)) ((min (nrT n c e r).1 36) + 1)))), some (.int (nI 0)), some (.int (nI r)), some (.int (nI (min (hoN n c e (pmE n r)) ((min (nrT n c e r).1 36) + 1))))]) (st' := [.int (nI (min (hoN n c e (pmE n r)) ((min (nrT n c e r).1 36) + 1))), .int (nI (min (hoN n c e (pmE n r)) ((min (nrT n c e r).1 36) + 1)))]) d_79_68 (fun _ => rfl) ?_
        refine cn_cne (t := 75) d_79_69 (by decide) (by first | omega | assumption | exact cu_36 (by omega) (cu_lt (by omega) (by omega))) (by first | omega | assumption | exact cu_36 (by omega) (cu_lt (by omega) (by omega))) (fun c69 => ?_) (fun c69 => ?_)
        · omega
        · refine cn_inc d_79_72 rfl rfl ?_
          show CR _ _ 75 [some (.ref 133), some (.ref a), some (.int (nI (auN n c))), some (.int (nI (min (hoN n c e (pmE n r)) ((min (nrT n c e r).1 36) + 1)))), some (.int (nI 1)), some (.int (nI r)), some (.int (nI (min (hoN n c e (pmE n r)) ((min (nrT n c e r).1 36) + 1))))] [] S G (upr B 136 w_) J R _
          refine cr_nx (pc' := 76) (al' := [some (.ref 133), some (.ref a), some (.int (nI (auN n c))), some (.int (nI (min (hoN n c e (pmE n r)) ((min (nrT n c e r).1 36) + 1)))), some (.int (nI 1)), some (.int (nI r)), some (.int (nI (min (hoN n c e (pmE n r)) ((min (nrT n c e r).1 36) + 1))))]) (st' := [.ref 133]) d_79_75 (fun _ => rfl) ?_
          refine cr_gf (v := .ref 136) d_79_76 cw_79 cf_8_18 (hS.i (a := 133) (by decide) (by decide)) (hS.s (a := 133) (by decide) (by decide) rfl) (by decide) (fx_133_3 hF) ?_
          refine cn_ic (v := 0) d_79_79 (by decide) ?_
          refine cr_nx (pc' := 81) (al' := [some (.ref 133), some (.ref a), some (.int (nI (auN n c))), some (.int (nI (min (hoN n c e (pmE n r)) ((min (nrT n c e r).1 36) + 1)))), some (.int (nI 1)), some (.int (nI r)), some (.int (nI (min (hoN n c e (pmE n r)) ((min (nrT n c e r).1 36) + 1))))]) (st' := [.ref a, .int (nI 0), .ref 136]) d_79_80 (fun _ => rfl) ?_
          refine cr_gf (v := .int (nI n)) d_79_81 cw_79 cf_8_34 ht.1 ht.2.2.1 (by decide) hn ?_
          refine cr_cs (as := [.ref 136, .int (nI 0), .int (nI n)]) (al0 := [some (.ref 136), some (.int (nI 0)), some (.int (nI n)), none, none, none]) (r := []) d_79_84 cw_79 cm_8_61 (by decide) cz_157 rfl rfl rfl (cr_wk (Nat.le_of_ble_eq_true rfl) (k_permuteOn (f := pmE n r) (hS.i (a := 136) (by decide) (by decide)) (hS.s (a := 136) (by decide) (by decide) rfl) (by decide) (by omega) (by omega) (by omega) (pm_31 hn6 hr) (fun q hq => by rw [upr_s]; exact pr hr q hq))) (fun v1 S1 G1 B1 J1 R1 h1 => ?_)
          obtain ⟨q0_, q1_, q2_, q3_, q4_, w84, q9_, hw84⟩ := h1
          obtain rfl := q0_
          obtain rfl := q1_.symm
          obtain rfl := q2_.symm
          obtain rfl := q3_.symm
          obtain rfl := q4_.symm
          obtain rfl := q9_
          rw [upr_u]
          show CR _ _ 87 [some (.ref 133), some (.ref a), some (.int (nI (auN n c))), some (.int (nI (min (hoN n c e (pmE n r)) ((min (nrT n c e r).1 36) + 1)))), some (.int (nI 1)), some (.int (nI r)), some (.int (nI (min (hoN n c e (pmE n r)) ((min (nrT n c e r).1 36) + 1))))] [] S G (upr B 136 w84) J R _
          refine cn_inc d_79_87 rfl rfl ?_
          show CR _ _ 90 [some (.ref 133), some (.ref a), some (.int (nI (auN n c))), some (.int (nI (min (hoN n c e (pmE n r)) ((min (nrT n c e r).1 36) + 1)))), some (.int (nI 1)), some (.int (nI (r + 1))), some (.int (nI (min (hoN n c e (pmE n r)) ((min (nrT n c e r).1 36) + 1))))] [] S G (upr B 136 w84) J R _
          refine cr_nx (pc' := 29) (al' := [some (.ref 133), some (.ref a), some (.int (nI (auN n c))), some (.int (nI (min (hoN n c e (pmE n r)) ((min (nrT n c e r).1 36) + 1)))), some (.int (nI 1)), some (.int (nI (r + 1))), some (.int (nI (min (hoN n c e (pmE n r)) ((min (nrT n c e r).1 36) + 1))))]) (st' := []) d_79_90 (fun _ => rfl) ?_
          refine cr_al (congrArg (fun z__ : Nat => ([some (.ref 133), some (.ref a), some (.int (nI (auN n c))), some (.int (nI z__)), some (.int (nI 1)), some (.int (nI (r + 1))), some (.int (nI (min (hoN n c e (pmE n r)) ((min (nrT n c e r).1 36) + 1))))] : AL)) (show min (hoN n c e (pmE n r)) ((min (nrT n c e r).1 36) + 1) = min (nrT n c e (r + 1)).1 36 by (rw [nrT]; split) <;> (try dsimp only) <;> (try split) <;> omega)) ?_
          refine cr_al (congrArg (fun z__ : Nat => ([some (.ref 133), some (.ref a), some (.int (nI (auN n c))), some (.int (nI (min (nrT n c e (r + 1)).1 36))), some (.int (nI z__)), some (.int (nI (r + 1))), some (.int (nI (min (hoN n c e (pmE n r)) ((min (nrT n c e r).1 36) + 1))))] : AL)) (show 1 = (nrT n c e (r + 1)).2 by (rw [nrT]; split) <;> (try dsimp only) <;> (try split) <;> omega)) ?_
          refine cr_dr (al1 := [some (.ref 133), some (.ref a), some (.int (nI (auN n c))), some (.int (nI (min (nrT n c e (r + 1)).1 36))), some (.int (nI ((nrT n c e (r + 1)).2))), some (.int (nI (r + 1))), none]) (le_s (le_s (le_s (le_s (le_s (le_s (le_d rfl (le_n)))))))) ?_
          exact ihr w84 (nx_w hn6 hw84)
  · show CR _ _ 29 [some (.ref 133), some (.ref a), some (.int (nI (auN n c))), some (.int (nI (min (nrT n c e (FA n)).1 36))), some (.int (nI ((nrT n c e (FA n)).2))), some (.int (nI (FA n))), none] [] S G (upr B 136 w_) J R _
    have hb := nrT_b (c := c) (e := e) hn6 (FA n)
    refine cr_nx (pc' := 31) (al' := [some (.ref 133), some (.ref a), some (.int (nI (auN n c))), some (.int (nI (min (nrT n c e (FA n)).1 36))), some (.int (nI ((nrT n c e (FA n)).2))), some (.int (nI (FA n))), none]) (st' := [.int (nI (FA n))]) d_79_29 (fun _ => rfl) ?_
    refine cr_gs d_79_31 cw_79 cq_8_54 ?_
    refine cr_nx (pc' := 35) (al' := [some (.ref 133), some (.ref a), some (.int (nI (auN n c))), some (.int (nI (min (nrT n c e (FA n)).1 36))), some (.int (nI ((nrT n c e (FA n)).2))), some (.int (nI (FA n))), none]) (st' := [.ref a, .ref 0, .int (nI (FA n))]) d_79_34 (fun _ => rfl) ?_
    refine cr_gf (v := .int (nI n)) d_79_35 cw_79 cf_8_34 ht.1 ht.2.2.1 (by decide) hn ?_
    refine cr_fa (v := (nI (FA n))) d_79_38 (show n < 7 by first | omega | assumption | exact cu_36 (by omega) (cu_lt (by omega) (by omega))) (am_fcN (by first | omega | assumption | exact cu_36 (by omega) (cu_lt (by omega) (by omega)))) ?_
    refine cn_cge (t := 93) d_79_39 (by decide) (by first | omega | assumption | exact cu_36 (by omega) (cu_lt (by omega) (by omega))) (by first | omega | assumption | exact cu_36 (by omega) (cu_lt (by omega) (by omega))) (fun c39 => ?_) (fun c39 => ?_)
    · refine cr_nx (pc' := 94) (al' := [some (.ref 133), some (.ref a), some (.int (nI (auN n c))), some (.int (nI (min (nrT n c e (FA n)).1 36))), some (.int (nI ((nrT n c e (FA n)).2))), some (.int (nI (FA n))), none]) (st' := [.int (nI (min (nrT n c e (FA n)).1 36))]) d_79_93 (fun _ => rfl) ?_
      refine cr_nx (pc' := 95) (al' := [some (.ref 133), some (.ref a), some (.int (nI (auN n c))), some (.int (nI (min (nrT n c e (FA n)).1 36))), some (.int (nI ((nrT n c e (FA n)).2))), some (.int (nI (FA n))), none]) (st' := [.ref 133, .int (nI (min (nrT n c e (FA n)).1 36))]) d_79_94 (fun _ => rfl) ?_
      refine cr_gf (v := .int (nI N0)) d_79_95 cw_79 cf_8_72 (hS.i (a := 133) (by decide) (by decide)) (hS.s (a := 133) (by decide) (by decide) rfl) (by decide) hN0 ?_
      refine cn_cge (t := 111) d_79_98 (by decide) (by first | omega | assumption | exact cu_36 (by omega) (cu_lt (by omega) (by omega))) (by first | omega | assumption | exact cu_36 (by omega) (cu_lt (by omega) (by omega))) (fun c98 => ?_) (fun c98 => ?_)
      · refine cr_nx (pc' := 112) (al' := [some (.ref 133), some (.ref a), some (.int (nI (auN n c))), some (.int (nI (min (nrT n c e (FA n)).1 36))), some (.int (nI ((nrT n c e (FA n)).2))), some (.int (nI (FA n))), none]) (st' := [.int (nI (min (nrT n c e (FA n)).1 36))]) d_79_111 (fun _ => rfl) ?_
        refine cr_nx (pc' := 113) (al' := [some (.ref 133), some (.ref a), some (.int (nI (auN n c))), some (.int (nI (min (nrT n c e (FA n)).1 36))), some (.int (nI ((nrT n c e (FA n)).2))), some (.int (nI (FA n))), none]) (st' := [.ref 133, .int (nI (min (nrT n c e (FA n)).1 36))]) d_79_112 (fun _ => rfl) ?_
        refine cr_gf (v := .int (nI N0)) d_79_113 cw_79 cf_8_72 (hS.i (a := 133) (by decide) (by decide)) (hS.s (a := 133) (by decide) (by decide) rfl) (by decide) hN0 ?_
        refine cn_cne (t := 132) d_79_116 (by decide) (by first | omega | assumption | exact cu_36 (by omega) (cu_lt (by omega) (by omega))) (by first | omega | assumption | exact cu_36 (by omega) (cu_lt (by omega) (by omega))) (fun c116 => ?_) (fun c116 => ?_)
        · exact cr_rv d_79_132 cx_79 ⟨rfl, rfl, rfl, rfl, hF, Gfr.rf, Bfr.rf.u (by decide), by rw [(nrC_s (n := n) (c := c) (e := e) (a := N0) (b := M0) (by omega)).1]; first | exact hN0 | exact hM0 | (simp [up2]; done) | (simp [up2]; exact hN0) | (simp [up2]; exact hM0), by rw [(nrC_s (n := n) (c := c) (e := e) (a := N0) (b := M0) (by omega)).2]; first | exact hN0 | exact hM0 | (simp [up2]; done) | (simp [up2]; exact hN0) | (simp [up2]; exact hM0)⟩
        · refine cr_nx (pc' := 120) (al' := [some (.ref 133), some (.ref a), some (.int (nI (auN n c))), some (.int (nI (min (nrT n c e (FA n)).1 36))), some (.int (nI ((nrT n c e (FA n)).2))), some (.int (nI (FA n))), none]) (st' := [.ref 133]) d_79_119 (fun _ => rfl) ?_
          refine cr_nx (pc' := 121) (al' := [some (.ref 133), some (.ref a), some (.int (nI (auN n c))), some (.int (nI (min (nrT n c e (FA n)).1 36))), some (.int (nI ((nrT n c e (FA n)).2))), some (.int (nI (FA n))), none]) (st' := [.ref 133, .ref 133]) d_79_120 (fun _ => rfl) ?_
          refine cr_gf (v := .int (nI M0)) d_79_121 cw_79 cf_8_75 (hS.i (a := 133) (by decide) (by decide)) (hS.s (a := 133) (by decide) (by decide) rfl) (by decide) hM0 ?_
          refine cr_nx (pc' := 126) (al' := [some (.ref 133), some (.ref a), some (.int (nI (auN n c))), some (.int (nI (min (nrT n c e (FA n)).1 36))), some (.int (nI ((nrT n c e (FA n)).2))), some (.int (nI (FA n))), none]) (st' := [.int (nI ((nrT n c e (FA n)).2)), .int (nI M0), .ref 133]) d_79_124 (fun _ => rfl) ?_
          refine cr_nx (pc' := 127) (al' := [some (.ref 133), some (.ref a), some (.int (nI (auN n c))), some (.int (nI (min (nrT n c e (FA n)).1 36))), some (.int (nI ((nrT n c e (FA n)).2))), some (.int (nI (FA n))), none]) (st' := [.int (nI (auN n c)), .int (nI ((nrT n c e (FA n)).2)), .int (nI M0), .ref 133]) d_79_126 (fun _ => rfl) ?_
          refine cn_div d_79_127 (by first | omega | assumption | exact cu_36 (by omega) (cu_lt (by omega) (by omega))) (by first | omega | assumption | exact cu_36 (by omega) (cu_lt (by omega) (by omega))) (by first | omega | assumption | exact cu_36 (by omega) (cu_lt (by omega) (by omega))) ?_
          refine cn_add d_79_128  ?_
          refine cp_8_1  d_79_129 cw_79 cf_8_75 (hS.i (a := 133) (by decide) (by decide)) (hS.s (a := 133) (by decide) (by decide) rfl) (by decide) ?_
          exact cr_rv d_79_132 cx_79 ⟨rfl, rfl, rfl, rfl, (hF.up (by decide +kernel)), (Gfr.rf.u (by decide)), Bfr.rf.u (by decide), by rw [(nrC_e (n := n) (c := c) (e := e) (a := N0) (b := M0) (by omega)).1]; first | exact hN0 | exact hM0 | (simp [up2]; done) | (simp [up2]; exact hN0) | (simp [up2]; exact hM0), by rw [(nrC_e (n := n) (c := c) (e := e) (a := N0) (b := M0) (by omega)).2]; first | exact hN0 | exact hM0 | (simp [up2]; done) | (simp [up2]; exact hN0) | (simp [up2]; exact hM0)⟩
      · refine cr_nx (pc' := 102) (al' := [some (.ref 133), some (.ref a), some (.int (nI (auN n c))), some (.int (nI (min (nrT n c e (FA n)).1 36))), some (.int (nI ((nrT n c e (FA n)).2))), some (.int (nI (FA n))), none]) (st' := [.ref 133]) d_79_101 (fun _ => rfl) ?_
        refine cr_nx (pc' := 103) (al' := [some (.ref 133), some (.ref a), some (.int (nI (auN n c))), some (.int (nI (min (nrT n c e (FA n)).1 36))), some (.int (nI ((nrT n c e (FA n)).2))), some (.int (nI (FA n))), none]) (st' := [.int (nI (min (nrT n c e (FA n)).1 36)), .ref 133]) d_79_102 (fun _ => rfl) ?_
        refine cp_8_0  d_79_103 cw_79 cf_8_72 (hS.i (a := 133) (by decide) (by decide)) (hS.s (a := 133) (by decide) (by decide) rfl) (by decide) ?_
        refine cr_nx (pc' := 107) (al' := [some (.ref 133), some (.ref a), some (.int (nI (auN n c))), some (.int (nI (min (nrT n c e (FA n)).1 36))), some (.int (nI ((nrT n c e (FA n)).2))), some (.int (nI (FA n))), none]) (st' := [.ref 133]) d_79_106 (fun _ => rfl) ?_
        refine cn_ic (v := 0) d_79_107 (by decide) ?_
        refine cp_8_1  d_79_108 cw_79 cf_8_75 (hS.i (a := 133) (by decide) (by decide)) (hS.s (a := 133) (by decide) (by decide) rfl) (by decide) ?_
        refine cr_nx (pc' := 112) (al' := [some (.ref 133), some (.ref a), some (.int (nI (auN n c))), some (.int (nI (min (nrT n c e (FA n)).1 36))), some (.int (nI ((nrT n c e (FA n)).2))), some (.int (nI (FA n))), none]) (st' := [.int (nI (min (nrT n c e (FA n)).1 36))]) d_79_111 (fun _ => rfl) ?_
        refine cr_nx (pc' := 113) (al' := [some (.ref 133), some (.ref a), some (.int (nI (auN n c))), some (.int (nI (min (nrT n c e (FA n)).1 36))), some (.int (nI ((nrT n c e (FA n)).2))), some (.int (nI (FA n))), none]) (st' := [.ref 133, .int (nI (min (nrT n c e (FA n)).1 36))]) d_79_112 (fun _ => rfl) ?_
        refine cr_gf (v := .int (nI (min (nrT n c e (FA n)).1 36))) d_79_113 cw_79 cf_8_72 (hS.i (a := 133) (by decide) (by decide)) (hS.s (a := 133) (by decide) (by decide) rfl) (by decide) (by simp [up2]) ?_
        refine cn_cne (t := 132) d_79_116 (by decide) (by first | omega | assumption | exact cu_36 (by omega) (cu_lt (by omega) (by omega))) (by first | omega | assumption | exact cu_36 (by omega) (cu_lt (by omega) (by omega))) (fun c116 => ?_) (fun c116 => ?_)
        · omega
        · refine cr_nx (pc' := 120) (al' := [some (.ref 133), some (.ref a), some (.int (nI (auN n c))), some (.int (nI (min (nrT n c e (FA n)).1 36))), some (.int (nI ((nrT n c e (FA n)).2))), some (.int (nI (FA n))), none]) (st' := [.ref 133]) d_79_119 (fun _ => rfl) ?_
          refine cr_nx (pc' := 121) (al' := [some (.ref 133), some (.ref a), some (.int (nI (auN n c))), some (.int (nI (min (nrT n c e (FA n)).1 36))), some (.int (nI ((nrT n c e (FA n)).2))), some (.int (nI (FA n))), none]) (st' := [.ref 133, .ref 133]) d_79_120 (fun _ => rfl) ?_
          refine cr_gf (v := .int (nI 0)) d_79_121 cw_79 cf_8_75 (hS.i (a := 133) (by decide) (by decide)) (hS.s (a := 133) (by decide) (by decide) rfl) (by decide) (by simp [up2]) ?_
          refine cr_nx (pc' := 126) (al' := [some (.ref 133), some (.ref a), some (.int (nI (auN n c))), some (.int (nI (min (nrT n c e (FA n)).1 36))), some (.int (nI ((nrT n c e (FA n)).2))), some (.int (nI (FA n))), none]) (st' := [.int (nI ((nrT n c e (FA n)).2)), .int (nI 0), .ref 133]) d_79_124 (fun _ => rfl) ?_
          refine cr_nx (pc' := 127) (al' := [some (.ref 133), some (.ref a), some (.int (nI (auN n c))), some (.int (nI (min (nrT n c e (FA n)).1 36))), some (.int (nI ((nrT n c e (FA n)).2))), some (.int (nI (FA n))), none]) (st' := [.int (nI (auN n c)), .int (nI ((nrT n c e (FA n)).2)), .int (nI 0), .ref 133]) d_79_126 (fun _ => rfl) ?_
          refine cn_div d_79_127 (by first | omega | assumption | exact cu_36 (by omega) (cu_lt (by omega) (by omega))) (by first | omega | assumption | exact cu_36 (by omega) (cu_lt (by omega) (by omega))) (by first | omega | assumption | exact cu_36 (by omega) (cu_lt (by omega) (by omega))) ?_
          refine cn_add d_79_128  ?_
          refine cp_8_1  d_79_129 cw_79 cf_8_75 (hS.i (a := 133) (by decide) (by decide)) (hS.s (a := 133) (by decide) (by decide) rfl) (by decide) ?_
          refine cr_G up2_u ?_
          exact cr_rv d_79_132 cx_79 ⟨rfl, rfl, rfl, rfl, ((hF.up (by decide +kernel)).up (by decide +kernel)), ((Gfr.rf.u (by decide)).u (by decide)), Bfr.rf.u (by decide), by rw [(nrC_l (n := n) (c := c) (e := e) (a := N0) (b := M0) (by omega)).1]; first | exact hN0 | exact hM0 | (simp [up2]; done) | (simp [up2]; exact hN0) | (simp [up2]; exact hM0), by rw [(nrC_l (n := n) (c := c) (e := e) (a := N0) (b := M0) (by omega)).2]; first | exact hN0 | exact hM0 | (simp [up2]; done) | (simp [up2]; exact hN0) | (simp [up2]; exact hM0)⟩
    · omega
theorem nrC_b {n : Nat} {c e : Nat → Nat} (hn : n ≤ 6) : (nrC n c e (36, 0)).1 ≤ 36 ∧ (nrC n c e (36, 0)).2 ≤ 720 := by
  rw [nr_0 hn]
  have h := nr_low (c := c) (e := e) hn
  have g := nrG_l (n := n) (c := c) (e := e) (a := 37) (b := 0) (by omega)
  have b := nrG_b (n := n) (c := c) (e := e) (a := 37) (b := 0) hn (by omega) (by omega)
  omega
theorem k_seekGroups4 {S : CS} {G : Nat → Nat → Value} {B : Nat → Nat → Int32} {J : Nat → Nat → Int64} {R : Nat → Nat → Option Nat} (hS : ShOk S) (hF : FxG G) {a : Nat} {e : Nat → Nat} (ht : TabAt S G a) (hn : G a 0 = .int (nI 4)) (he : TabC B a 4 e) (hg : TabAt S G 134) (hn1 : 1 ≤ 4) (hap : a < 133 ∨ 137 ≤ a)  : CR 4 78 0 [some (.ref 133), some (.ref a)] [] S G B J R (fun r_ S' G' B' J' R' => r_ = none ∧ S' = S ∧ J' = J ∧ R' = R ∧ FxG G' ∧ Gfr [133, 134] G G' ∧ Bfr [135, 136] B B' ∧ G' 133 0 = .int (nI (nrV 4 e).1) ∧ G' 133 1 = .int (nI (nrV 4 e).2)) := by
  have hn6 := he.1
  refine cr_nx (pc' := 1) (al' := [some (.ref 133), some (.ref a)]) (st' := [.ref 133]) d_78_0 (fun _ => rfl) ?_
  refine cn_bp (v := 36) d_78_1 (by decide) ?_
  refine cp_8_0  d_78_3 cw_78 cf_8_72 (hS.i (a := 133) (by decide) (by decide)) (hS.s (a := 133) (by decide) (by decide) rfl) (by decide) ?_
  refine cr_nx (pc' := 7) (al' := [some (.ref 133), some (.ref a)]) (st' := [.ref 133]) d_78_6 (fun _ => rfl) ?_
  refine cn_ic (v := 0) d_78_7 (by decide) ?_
  refine cp_8_1  d_78_8 cw_78 cf_8_75 (hS.i (a := 133) (by decide) (by decide)) (hS.s (a := 133) (by decide) (by decide) rfl) (by decide) ?_
  refine cr_nx (pc' := 12) (al' := [some (.ref 133), some (.ref a)]) (st' := [.ref 133]) d_78_11 (fun _ => rfl) ?_
  refine cr_gf (v := .ref 134) d_78_12 cw_78 cf_8_12 (hS.i (a := 133) (by decide) (by decide)) (hS.s (a := 133) (by decide) (by decide) rfl) (by decide) (by simp [up2, (show a ≠ 133 by omega), (show a ≠ 134 by omega)]; exact (fx_133_2 hF)) ?_
  refine cr_nx (pc' := 16) (al' := [some (.ref 133), some (.ref a)]) (st' := [.ref a, .ref 134]) d_78_15 (fun _ => rfl) ?_
  refine cr_gf (v := .int (nI 4)) d_78_16 cw_78 cf_8_34 ht.1 ht.2.2.1 (by decide) (by simp [up2, (show a ≠ 133 by omega), (show a ≠ 134 by omega)]; exact (by first | exact hn | (rw [gf1 a (by simp; omega)]; simp [up2, show a ≠ 133 by omega, show a ≠ 134 by omega]; exact hn))) ?_
  refine cr_cv (b := 134) (as := [.int (nI 4)]) (al0 := [some (.ref 134), some (.int (nI 4)), none, none]) (r := []) d_78_19 cw_78 cm_8_78 cz_94 rfl rfl hg.1 (by rw [cw_94]; exact hg.2.2.1) (by rw [cw_94]; decide) rfl (cr_wk (Nat.le_of_ble_eq_true rfl) (k_makeCyclic (d := 134) ((hg.s0 (by omega)).s0 (by omega)) hn6)) (fun v1 S1 G1 B1 J1 R1 h1 => ?_)
  obtain ⟨q0_, q1_, q2_, q3_, q4_, wc, q5_, hwc⟩ := h1
  obtain rfl := q0_
  obtain rfl := q1_.symm
  obtain rfl := q2_
  obtain rfl := q3_.symm
  obtain rfl := q4_.symm
  obtain rfl := q5_
  show CR _ _ 22 [some (.ref 133), some (.ref a)] [] S (up2 (up2 (up2 G 133 0 (.int (nI 36))) 133 1 (.int (nI 0))) 134 0 (.int (nI 4))) (upr B (134 + 1) wc) J R _
  refine cr_nx (pc' := 23) (al' := [some (.ref 133), some (.ref a)]) (st' := [.ref 133]) d_78_22 (fun _ => rfl) ?_
  refine cr_nx (pc' := 24) (al' := [some (.ref 133), some (.ref a)]) (st' := [.ref a, .ref 133]) d_78_23 (fun _ => rfl) ?_
  refine cr_cv (b := 133) (as := [.ref a]) (al0 := [some (.ref 133), some (.ref a), none, none, none, none, none]) (r := []) d_78_24 cw_78 cm_8_82 cz_79 rfl rfl (hS.i (a := 133) (by decide) (by decide)) (by rw [cw_79]; exact (hS.s (a := 133) (by decide) (by decide) rfl)) (by rw [cw_79]; decide) rfl (cr_wk (Nat.le_of_ble_eq_true rfl) (k_seekGroup (n := 4) (c := cyN 4) (e := e) (N0 := 36) (M0 := 0) hS (((hF.up (by decide +kernel)).up (by decide +kernel)).up (by decide +kernel)) (((ht.s0 (by omega)).s0 (by omega)).s0 (by omega)) (by rw [up2_n (by omega), up2_n (by omega), up2_n (by omega)]; exact hn) (TabC.u1 (by omega) he) (((hg.s0 (by omega)).s0 (by omega)).s0 (by omega)) up2_s ⟨hn6, fun q hq => ⟨by rw [upr_s]; exact hwc q hq, (cyN_lat (by omega)).1 q hq⟩⟩ hn1 (by omega) (by rw [up2_n (by omega), up2_n (by omega)]; exact up2_s) (by rw [up2_n (by omega)]; exact up2_s) (by omega) (by omega))) (fun v1 S1 G1 B1 J1 R1 h1 => ?_)
  obtain ⟨q0_, q1_, q2_, q3_, fx1, gf1, bf1, gn1, gm1⟩ := h1
  obtain rfl := q0_
  obtain rfl := q1_.symm
  obtain rfl := q2_.symm
  obtain rfl := q3_.symm
  show CR _ _ 27 [some (.ref 133), some (.ref a)] [] S G1 B1 J R _
  refine cr_nx (pc' := 28) (al' := [some (.ref 133), some (.ref a)]) (st' := [.ref a]) d_78_27 (fun _ => rfl) ?_
  refine cr_gf (v := .int (nI 4)) d_78_28 cw_78 cf_8_34 ht.1 ht.2.2.1 (by decide) (by first | exact hn | (rw [gf1 a (by simp; omega)]; simp [up2, show a ≠ 133 by omega, show a ≠ 134 by omega]; exact hn)) ?_
  refine cn_ic (v := 4) d_78_31 (by decide) ?_
  refine cn_ceq (t := 44) d_78_32 (by decide) (by first | omega | assumption | exact cu_36 (by omega) (cu_lt (by omega) (by omega))) (by first | omega | assumption | exact cu_36 (by omega) (cu_lt (by omega) (by omega))) (fun c32 => ?_) (fun c32 => ?_)
  · refine cr_nx (pc' := 45) (al' := [some (.ref 133), some (.ref a)]) (st' := [.ref 133]) d_78_44 (fun _ => rfl) ?_
    refine cr_gf (v := .ref 134) d_78_45 cw_78 cf_8_12 (hS.i (a := 133) (by decide) (by decide)) (hS.s (a := 133) (by decide) (by decide) rfl) (by decide) (fx_133_2 fx1) ?_
    refine cr_nx (pc' := 49) (al' := [some (.ref 133), some (.ref a)]) (st' := [.ref a, .ref 134]) d_78_48 (fun _ => rfl) ?_
    refine cr_gf (v := .int (nI 4)) d_78_49 cw_78 cf_8_34 ht.1 ht.2.2.1 (by decide) (by first | exact hn | (rw [gf1 a (by simp; omega)]; simp [up2, show a ≠ 133 by omega, show a ≠ 134 by omega]; exact hn)) ?_
    refine cr_cv (b := 134) (as := [.int (nI 4)]) (al0 := [some (.ref 134), some (.int (nI 4)), none, none, none, none, none]) (r := []) d_78_52 cw_78 cm_8_86 cz_112 rfl rfl hg.1 (by rw [cw_112]; exact hg.2.2.1) (by rw [cw_112]; decide) rfl (cr_wk (Nat.le_of_ble_eq_true rfl) (k_makeOther4 (d := 134) (gf1.t (by decide) (((hg.s0 (by omega)).s0 (by omega)).s0 (by omega))))) (fun v1 S1 G2 B2 J1 R1 h1 => ?_)
    have hc1 : (nrC 4 (cyN 4) e (36, 0)).1 ≤ 36 ∧ (nrC 4 (cyN 4) e (36, 0)).2 ≤ 720 := nrC_b (by omega)
    obtain ⟨q0_, q1_, q2_, q3_, q4_, wo, q5_, hwo⟩ := h1
    obtain rfl := q0_
    obtain rfl := q1_.symm
    obtain rfl := q2_
    obtain rfl := q3_.symm
    obtain rfl := q4_.symm
    obtain rfl := q5_
    show CR _ _ 55 [some (.ref 133), some (.ref a)] [] S (up2 G1 134 0 (.int (nI 4))) (upr B1 (134 + 1) wo) J R _
    refine cr_nx (pc' := 56) (al' := [some (.ref 133), some (.ref a)]) (st' := [.ref 133]) d_78_55 (fun _ => rfl) ?_
    refine cr_nx (pc' := 57) (al' := [some (.ref 133), some (.ref a)]) (st' := [.ref a, .ref 133]) d_78_56 (fun _ => rfl) ?_
    refine cr_cv (b := 133) (as := [.ref a]) (al0 := [some (.ref 133), some (.ref a), none, none, none, none, none]) (r := []) d_78_57 cw_78 cm_8_82 cz_79 rfl rfl (hS.i (a := 133) (by decide) (by decide)) (by rw [cw_79]; exact (hS.s (a := 133) (by decide) (by decide) rfl)) (by rw [cw_79]; decide) rfl (cr_wk (Nat.le_of_ble_eq_true rfl) (k_seekGroup (n := 4) (c := ogN 4) (e := e) (N0 := (nrC 4 (cyN 4) e (36, 0)).1) (M0 := (nrC 4 (cyN 4) e (36, 0)).2) hS (fx1.u0 (by decide)) ((gf1.t (by simp; omega) (((ht.s0 (by omega)).s0 (by omega)).s0 (by omega))).s0 (by omega)) (by rw [up2_n (by omega), gf1 a (by simp; omega), up2_n (by omega), up2_n (by omega), up2_n (by omega)]; exact hn) (TabC.u1 (by omega) (bf1.c (by simp; omega) (TabC.u1 (by omega) he))) ((gf1.t (by decide) (((hg.s0 (by omega)).s0 (by omega)).s0 (by omega))).s0 (by omega)) up2_s ⟨hn6, fun q hq => ⟨by rw [upr_s]; exact hwo q hq, og4_lat.1 q hq⟩⟩ hn1 (by omega) (by rw [up2_n (by omega)]; exact gn1) (by rw [up2_n (by omega)]; exact gm1) (by omega) (by omega))) (fun v1 S1 G2 B2 J1 R1 h1 => ?_)
    obtain ⟨q0_, q1_, q2_, q3_, fx2, gf2, bf2, gn2, gm2⟩ := h1
    obtain rfl := q0_
    obtain rfl := q1_.symm
    obtain rfl := q2_.symm
    obtain rfl := q3_.symm
    show CR _ _ 60 [some (.ref 133), some (.ref a)] [] S G2 B2 J R _
    exact cr_rv d_78_60 cx_78 ⟨rfl, rfl, rfl, rfl, fx2, ((((Gfr.rf.u (by decide)).u (by decide)).u (by decide)).tr (gf1.mo (by decide))).tr ((Gfr.rf.u (by decide)).tr (gf2.mo (by decide))), ((Bfr.rf.u (by decide)).tr (bf1.mo (by decide))).tr ((Bfr.rf.u (by decide)).tr (bf2.mo (by decide))), by rw [nrV_o (by decide), ← nr_0 hn6, ← nr_1 hn6 hc1.1]; exact gn2, by rw [nrV_o (by decide), ← nr_0 hn6, ← nr_1 hn6 hc1.1]; exact gm2⟩
  · omega
theorem k_seekGroups6 {S : CS} {G : Nat → Nat → Value} {B : Nat → Nat → Int32} {J : Nat → Nat → Int64} {R : Nat → Nat → Option Nat} (hS : ShOk S) (hF : FxG G) {a : Nat} {e : Nat → Nat} (ht : TabAt S G a) (hn : G a 0 = .int (nI 6)) (he : TabC B a 6 e) (hg : TabAt S G 134) (hn1 : 1 ≤ 6) (hap : a < 133 ∨ 137 ≤ a)  : CR 4 78 0 [some (.ref 133), some (.ref a)] [] S G B J R (fun r_ S' G' B' J' R' => r_ = none ∧ S' = S ∧ J' = J ∧ R' = R ∧ FxG G' ∧ Gfr [133, 134] G G' ∧ Bfr [135, 136] B B' ∧ G' 133 0 = .int (nI (nrV 6 e).1) ∧ G' 133 1 = .int (nI (nrV 6 e).2)) := by
  have hn6 := he.1
  refine cr_nx (pc' := 1) (al' := [some (.ref 133), some (.ref a)]) (st' := [.ref 133]) d_78_0 (fun _ => rfl) ?_
  refine cn_bp (v := 36) d_78_1 (by decide) ?_
  refine cp_8_0  d_78_3 cw_78 cf_8_72 (hS.i (a := 133) (by decide) (by decide)) (hS.s (a := 133) (by decide) (by decide) rfl) (by decide) ?_
  refine cr_nx (pc' := 7) (al' := [some (.ref 133), some (.ref a)]) (st' := [.ref 133]) d_78_6 (fun _ => rfl) ?_
  refine cn_ic (v := 0) d_78_7 (by decide) ?_
  refine cp_8_1  d_78_8 cw_78 cf_8_75 (hS.i (a := 133) (by decide) (by decide)) (hS.s (a := 133) (by decide) (by decide) rfl) (by decide) ?_
  refine cr_nx (pc' := 12) (al' := [some (.ref 133), some (.ref a)]) (st' := [.ref 133]) d_78_11 (fun _ => rfl) ?_
  refine cr_gf (v := .ref 134) d_78_12 cw_78 cf_8_12 (hS.i (a := 133) (by decide) (by decide)) (hS.s (a := 133) (by decide) (by decide) rfl) (by decide) (by simp [up2, (show a ≠ 133 by omega), (show a ≠ 134 by omega)]; exact (fx_133_2 hF)) ?_
  refine cr_nx (pc' := 16) (al' := [some (.ref 133), some (.ref a)]) (st' := [.ref a, .ref 134]) d_78_15 (fun _ => rfl) ?_
  refine cr_gf (v := .int (nI 6)) d_78_16 cw_78 cf_8_34 ht.1 ht.2.2.1 (by decide) (by simp [up2, (show a ≠ 133 by omega), (show a ≠ 134 by omega)]; exact (by first | exact hn | (rw [gf1 a (by simp; omega)]; simp [up2, show a ≠ 133 by omega, show a ≠ 134 by omega]; exact hn))) ?_
  refine cr_cv (b := 134) (as := [.int (nI 6)]) (al0 := [some (.ref 134), some (.int (nI 6)), none, none]) (r := []) d_78_19 cw_78 cm_8_78 cz_94 rfl rfl hg.1 (by rw [cw_94]; exact hg.2.2.1) (by rw [cw_94]; decide) rfl (cr_wk (Nat.le_of_ble_eq_true rfl) (k_makeCyclic (d := 134) ((hg.s0 (by omega)).s0 (by omega)) hn6)) (fun v1 S1 G1 B1 J1 R1 h1 => ?_)
  obtain ⟨q0_, q1_, q2_, q3_, q4_, wc, q5_, hwc⟩ := h1
  obtain rfl := q0_
  obtain rfl := q1_.symm
  obtain rfl := q2_
  obtain rfl := q3_.symm
  obtain rfl := q4_.symm
  obtain rfl := q5_
  show CR _ _ 22 [some (.ref 133), some (.ref a)] [] S (up2 (up2 (up2 G 133 0 (.int (nI 36))) 133 1 (.int (nI 0))) 134 0 (.int (nI 6))) (upr B (134 + 1) wc) J R _
  refine cr_nx (pc' := 23) (al' := [some (.ref 133), some (.ref a)]) (st' := [.ref 133]) d_78_22 (fun _ => rfl) ?_
  refine cr_nx (pc' := 24) (al' := [some (.ref 133), some (.ref a)]) (st' := [.ref a, .ref 133]) d_78_23 (fun _ => rfl) ?_
  refine cr_cv (b := 133) (as := [.ref a]) (al0 := [some (.ref 133), some (.ref a), none, none, none, none, none]) (r := []) d_78_24 cw_78 cm_8_82 cz_79 rfl rfl (hS.i (a := 133) (by decide) (by decide)) (by rw [cw_79]; exact (hS.s (a := 133) (by decide) (by decide) rfl)) (by rw [cw_79]; decide) rfl (cr_wk (Nat.le_of_ble_eq_true rfl) (k_seekGroup (n := 6) (c := cyN 6) (e := e) (N0 := 36) (M0 := 0) hS (((hF.up (by decide +kernel)).up (by decide +kernel)).up (by decide +kernel)) (((ht.s0 (by omega)).s0 (by omega)).s0 (by omega)) (by rw [up2_n (by omega), up2_n (by omega), up2_n (by omega)]; exact hn) (TabC.u1 (by omega) he) (((hg.s0 (by omega)).s0 (by omega)).s0 (by omega)) up2_s ⟨hn6, fun q hq => ⟨by rw [upr_s]; exact hwc q hq, (cyN_lat (by omega)).1 q hq⟩⟩ hn1 (by omega) (by rw [up2_n (by omega), up2_n (by omega)]; exact up2_s) (by rw [up2_n (by omega)]; exact up2_s) (by omega) (by omega))) (fun v1 S1 G1 B1 J1 R1 h1 => ?_)
  obtain ⟨q0_, q1_, q2_, q3_, fx1, gf1, bf1, gn1, gm1⟩ := h1
  obtain rfl := q0_
  obtain rfl := q1_.symm
  obtain rfl := q2_.symm
  obtain rfl := q3_.symm
  show CR _ _ 27 [some (.ref 133), some (.ref a)] [] S G1 B1 J R _
  refine cr_nx (pc' := 28) (al' := [some (.ref 133), some (.ref a)]) (st' := [.ref a]) d_78_27 (fun _ => rfl) ?_
  refine cr_gf (v := .int (nI 6)) d_78_28 cw_78 cf_8_34 ht.1 ht.2.2.1 (by decide) (by first | exact hn | (rw [gf1 a (by simp; omega)]; simp [up2, show a ≠ 133 by omega, show a ≠ 134 by omega]; exact hn)) ?_
  refine cn_ic (v := 4) d_78_31 (by decide) ?_
  refine cn_ceq (t := 44) d_78_32 (by decide) (by first | omega | assumption | exact cu_36 (by omega) (cu_lt (by omega) (by omega))) (by first | omega | assumption | exact cu_36 (by omega) (cu_lt (by omega) (by omega))) (fun c32 => ?_) (fun c32 => ?_)
  · omega
  · refine cr_nx (pc' := 36) (al' := [some (.ref 133), some (.ref a)]) (st' := [.ref a]) d_78_35 (fun _ => rfl) ?_
    refine cr_gf (v := .int (nI 6)) d_78_36 cw_78 cf_8_34 ht.1 ht.2.2.1 (by decide) (by first | exact hn | (rw [gf1 a (by simp; omega)]; simp [up2, show a ≠ 133 by omega, show a ≠ 134 by omega]; exact hn)) ?_
    refine cn_bp (v := 6) d_78_39 (by decide) ?_
    refine cn_cne (t := 60) d_78_41 (by decide) (by first | omega | assumption | exact cu_36 (by omega) (cu_lt (by omega) (by omega))) (by first | omega | assumption | exact cu_36 (by omega) (cu_lt (by omega) (by omega))) (fun c41 => ?_) (fun c41 => ?_)
    · omega
    · refine cr_nx (pc' := 45) (al' := [some (.ref 133), some (.ref a)]) (st' := [.ref 133]) d_78_44 (fun _ => rfl) ?_
      refine cr_gf (v := .ref 134) d_78_45 cw_78 cf_8_12 (hS.i (a := 133) (by decide) (by decide)) (hS.s (a := 133) (by decide) (by decide) rfl) (by decide) (fx_133_2 fx1) ?_
      refine cr_nx (pc' := 49) (al' := [some (.ref 133), some (.ref a)]) (st' := [.ref a, .ref 134]) d_78_48 (fun _ => rfl) ?_
      refine cr_gf (v := .int (nI 6)) d_78_49 cw_78 cf_8_34 ht.1 ht.2.2.1 (by decide) (by first | exact hn | (rw [gf1 a (by simp; omega)]; simp [up2, show a ≠ 133 by omega, show a ≠ 134 by omega]; exact hn)) ?_
      refine cr_cv (b := 134) (as := [.int (nI 6)]) (al0 := [some (.ref 134), some (.int (nI 6)), none, none, none, none, none]) (r := []) d_78_52 cw_78 cm_8_86 cz_112 rfl rfl hg.1 (by rw [cw_112]; exact hg.2.2.1) (by rw [cw_112]; decide) rfl (cr_wk (Nat.le_of_ble_eq_true rfl) (k_makeOther6 (d := 134) (gf1.t (by decide) (((hg.s0 (by omega)).s0 (by omega)).s0 (by omega))))) (fun v1 S1 G2 B2 J1 R1 h1 => ?_)
      have hc1 : (nrC 6 (cyN 6) e (36, 0)).1 ≤ 36 ∧ (nrC 6 (cyN 6) e (36, 0)).2 ≤ 720 := nrC_b (by omega)
      obtain ⟨q0_, q1_, q2_, q3_, q4_, wo, q5_, hwo⟩ := h1
      obtain rfl := q0_
      obtain rfl := q1_.symm
      obtain rfl := q2_
      obtain rfl := q3_.symm
      obtain rfl := q4_.symm
      obtain rfl := q5_
      show CR _ _ 55 [some (.ref 133), some (.ref a)] [] S (up2 G1 134 0 (.int (nI 6))) (upr B1 (134 + 1) wo) J R _
      refine cr_nx (pc' := 56) (al' := [some (.ref 133), some (.ref a)]) (st' := [.ref 133]) d_78_55 (fun _ => rfl) ?_
      refine cr_nx (pc' := 57) (al' := [some (.ref 133), some (.ref a)]) (st' := [.ref a, .ref 133]) d_78_56 (fun _ => rfl) ?_
      refine cr_cv (b := 133) (as := [.ref a]) (al0 := [some (.ref 133), some (.ref a), none, none, none, none, none]) (r := []) d_78_57 cw_78 cm_8_82 cz_79 rfl rfl (hS.i (a := 133) (by decide) (by decide)) (by rw [cw_79]; exact (hS.s (a := 133) (by decide) (by decide) rfl)) (by rw [cw_79]; decide) rfl (cr_wk (Nat.le_of_ble_eq_true rfl) (k_seekGroup (n := 6) (c := ogN 6) (e := e) (N0 := (nrC 6 (cyN 6) e (36, 0)).1) (M0 := (nrC 6 (cyN 6) e (36, 0)).2) hS (fx1.u0 (by decide)) ((gf1.t (by simp; omega) (((ht.s0 (by omega)).s0 (by omega)).s0 (by omega))).s0 (by omega)) (by rw [up2_n (by omega), gf1 a (by simp; omega), up2_n (by omega), up2_n (by omega), up2_n (by omega)]; exact hn) (TabC.u1 (by omega) (bf1.c (by simp; omega) (TabC.u1 (by omega) he))) ((gf1.t (by decide) (((hg.s0 (by omega)).s0 (by omega)).s0 (by omega))).s0 (by omega)) up2_s ⟨hn6, fun q hq => ⟨by rw [upr_s]; exact hwo q hq, og6_lat.1 q hq⟩⟩ hn1 (by omega) (by rw [up2_n (by omega)]; exact gn1) (by rw [up2_n (by omega)]; exact gm1) (by omega) (by omega))) (fun v1 S1 G2 B2 J1 R1 h1 => ?_)
      obtain ⟨q0_, q1_, q2_, q3_, fx2, gf2, bf2, gn2, gm2⟩ := h1
      obtain rfl := q0_
      obtain rfl := q1_.symm
      obtain rfl := q2_.symm
      obtain rfl := q3_.symm
      show CR _ _ 60 [some (.ref 133), some (.ref a)] [] S G2 B2 J R _
      exact cr_rv d_78_60 cx_78 ⟨rfl, rfl, rfl, rfl, fx2, ((((Gfr.rf.u (by decide)).u (by decide)).u (by decide)).tr (gf1.mo (by decide))).tr ((Gfr.rf.u (by decide)).tr (gf2.mo (by decide))), ((Bfr.rf.u (by decide)).tr (bf1.mo (by decide))).tr ((Bfr.rf.u (by decide)).tr (bf2.mo (by decide))), by rw [nrV_o (by decide), ← nr_0 hn6, ← nr_1 hn6 hc1.1]; exact gn2, by rw [nrV_o (by decide), ← nr_0 hn6, ← nr_1 hn6 hc1.1]; exact gm2⟩
theorem k_seekGroupsX {S : CS} {G : Nat → Nat → Value} {B : Nat → Nat → Int32} {J : Nat → Nat → Int64} {R : Nat → Nat → Option Nat} (hS : ShOk S) (hF : FxG G) {a n : Nat} {e : Nat → Nat} (ht : TabAt S G a) (hn : G a 0 = .int (nI n)) (he : TabC B a n e) (hg : TabAt S G 134) (hn1 : 1 ≤ n) (hap : a < 133 ∨ 137 ≤ a) (hn4 : n ≠ 4) (hn66 : n ≠ 6) : CR 4 78 0 [some (.ref 133), some (.ref a)] [] S G B J R (fun r_ S' G' B' J' R' => r_ = none ∧ S' = S ∧ J' = J ∧ R' = R ∧ FxG G' ∧ Gfr [133, 134] G G' ∧ Bfr [135, 136] B B' ∧ G' 133 0 = .int (nI (nrV n e).1) ∧ G' 133 1 = .int (nI (nrV n e).2)) := by
  have hn6 := he.1
  refine cr_nx (pc' := 1) (al' := [some (.ref 133), some (.ref a)]) (st' := [.ref 133]) d_78_0 (fun _ => rfl) ?_
  refine cn_bp (v := 36) d_78_1 (by decide) ?_
  refine cp_8_0  d_78_3 cw_78 cf_8_72 (hS.i (a := 133) (by decide) (by decide)) (hS.s (a := 133) (by decide) (by decide) rfl) (by decide) ?_
  refine cr_nx (pc' := 7) (al' := [some (.ref 133), some (.ref a)]) (st' := [.ref 133]) d_78_6 (fun _ => rfl) ?_
  refine cn_ic (v := 0) d_78_7 (by decide) ?_
  refine cp_8_1  d_78_8 cw_78 cf_8_75 (hS.i (a := 133) (by decide) (by decide)) (hS.s (a := 133) (by decide) (by decide) rfl) (by decide) ?_
  refine cr_nx (pc' := 12) (al' := [some (.ref 133), some (.ref a)]) (st' := [.ref 133]) d_78_11 (fun _ => rfl) ?_
  refine cr_gf (v := .ref 134) d_78_12 cw_78 cf_8_12 (hS.i (a := 133) (by decide) (by decide)) (hS.s (a := 133) (by decide) (by decide) rfl) (by decide) (by simp [up2, (show a ≠ 133 by omega), (show a ≠ 134 by omega)]; exact (fx_133_2 hF)) ?_
  refine cr_nx (pc' := 16) (al' := [some (.ref 133), some (.ref a)]) (st' := [.ref a, .ref 134]) d_78_15 (fun _ => rfl) ?_
  refine cr_gf (v := .int (nI n)) d_78_16 cw_78 cf_8_34 ht.1 ht.2.2.1 (by decide) (by simp [up2, (show a ≠ 133 by omega), (show a ≠ 134 by omega)]; exact (by first | exact hn | (rw [gf1 a (by simp; omega)]; simp [up2, show a ≠ 133 by omega, show a ≠ 134 by omega]; exact hn))) ?_
  refine cr_cv (b := 134) (as := [.int (nI n)]) (al0 := [some (.ref 134), some (.int (nI n)), none, none]) (r := []) d_78_19 cw_78 cm_8_78 cz_94 rfl rfl hg.1 (by rw [cw_94]; exact hg.2.2.1) (by rw [cw_94]; decide) rfl (cr_wk (Nat.le_of_ble_eq_true rfl) (k_makeCyclic (d := 134) ((hg.s0 (by omega)).s0 (by omega)) hn6)) (fun v1 S1 G1 B1 J1 R1 h1 => ?_)
  obtain ⟨q0_, q1_, q2_, q3_, q4_, wc, q5_, hwc⟩ := h1
  obtain rfl := q0_
  obtain rfl := q1_.symm
  obtain rfl := q2_
  obtain rfl := q3_.symm
  obtain rfl := q4_.symm
  obtain rfl := q5_
  show CR _ _ 22 [some (.ref 133), some (.ref a)] [] S (up2 (up2 (up2 G 133 0 (.int (nI 36))) 133 1 (.int (nI 0))) 134 0 (.int (nI n))) (upr B (134 + 1) wc) J R _
  refine cr_nx (pc' := 23) (al' := [some (.ref 133), some (.ref a)]) (st' := [.ref 133]) d_78_22 (fun _ => rfl) ?_
  refine cr_nx (pc' := 24) (al' := [some (.ref 133), some (.ref a)]) (st' := [.ref a, .ref 133]) d_78_23 (fun _ => rfl) ?_
  refine cr_cv (b := 133) (as := [.ref a]) (al0 := [some (.ref 133), some (.ref a), none, none, none, none, none]) (r := []) d_78_24 cw_78 cm_8_82 cz_79 rfl rfl (hS.i (a := 133) (by decide) (by decide)) (by rw [cw_79]; exact (hS.s (a := 133) (by decide) (by decide) rfl)) (by rw [cw_79]; decide) rfl (cr_wk (Nat.le_of_ble_eq_true rfl) (k_seekGroup (n := n) (c := cyN n) (e := e) (N0 := 36) (M0 := 0) hS (((hF.up (by decide +kernel)).up (by decide +kernel)).up (by decide +kernel)) (((ht.s0 (by omega)).s0 (by omega)).s0 (by omega)) (by rw [up2_n (by omega), up2_n (by omega), up2_n (by omega)]; exact hn) (TabC.u1 (by omega) he) (((hg.s0 (by omega)).s0 (by omega)).s0 (by omega)) up2_s ⟨hn6, fun q hq => ⟨by rw [upr_s]; exact hwc q hq, (cyN_lat (by omega)).1 q hq⟩⟩ hn1 (by omega) (by rw [up2_n (by omega), up2_n (by omega)]; exact up2_s) (by rw [up2_n (by omega)]; exact up2_s) (by omega) (by omega))) (fun v1 S1 G1 B1 J1 R1 h1 => ?_)
  obtain ⟨q0_, q1_, q2_, q3_, fx1, gf1, bf1, gn1, gm1⟩ := h1
  obtain rfl := q0_
  obtain rfl := q1_.symm
  obtain rfl := q2_.symm
  obtain rfl := q3_.symm
  show CR _ _ 27 [some (.ref 133), some (.ref a)] [] S G1 B1 J R _
  refine cr_nx (pc' := 28) (al' := [some (.ref 133), some (.ref a)]) (st' := [.ref a]) d_78_27 (fun _ => rfl) ?_
  refine cr_gf (v := .int (nI n)) d_78_28 cw_78 cf_8_34 ht.1 ht.2.2.1 (by decide) (by first | exact hn | (rw [gf1 a (by simp; omega)]; simp [up2, show a ≠ 133 by omega, show a ≠ 134 by omega]; exact hn)) ?_
  refine cn_ic (v := 4) d_78_31 (by decide) ?_
  refine cn_ceq (t := 44) d_78_32 (by decide) (by first | omega | assumption | exact cu_36 (by omega) (cu_lt (by omega) (by omega))) (by first | omega | assumption | exact cu_36 (by omega) (cu_lt (by omega) (by omega))) (fun c32 => ?_) (fun c32 => ?_)
  · omega
  · refine cr_nx (pc' := 36) (al' := [some (.ref 133), some (.ref a)]) (st' := [.ref a]) d_78_35 (fun _ => rfl) ?_
    refine cr_gf (v := .int (nI n)) d_78_36 cw_78 cf_8_34 ht.1 ht.2.2.1 (by decide) (by first | exact hn | (rw [gf1 a (by simp; omega)]; simp [up2, show a ≠ 133 by omega, show a ≠ 134 by omega]; exact hn)) ?_
    refine cn_bp (v := 6) d_78_39 (by decide) ?_
    refine cn_cne (t := 60) d_78_41 (by decide) (by first | omega | assumption | exact cu_36 (by omega) (cu_lt (by omega) (by omega))) (by first | omega | assumption | exact cu_36 (by omega) (cu_lt (by omega) (by omega))) (fun c41 => ?_) (fun c41 => ?_)
    · exact cr_rv d_78_60 cx_78 ⟨rfl, rfl, rfl, rfl, fx1, (((Gfr.rf.u (by decide)).u (by decide)).u (by decide)).tr (gf1.mo (by decide)), (Bfr.rf.u (by decide)).tr (bf1.mo (by decide)), by rw [nrV_x (by omega), ← nr_0 hn6]; exact gn1, by rw [nrV_x (by omega), ← nr_0 hn6]; exact gm1⟩
    · omega
