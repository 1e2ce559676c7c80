/-! Calls: spare; printed by wip/whole/gen_c36.py. -/
def opT (T : Nat → Option Nat) (q : Nat) : Nat → Option Nat := fun p => if p = q then none else T p
theorem nB_op {n : Nat} {T : Nat → Option Nat} {q u : Nat} (h : T q = some u) (hu : u < n) (hq : q < n * n) : nB n T ≤ nB n (opT T q) := by
  have e1 := nB_br (n := n) (T := opT T q) (q := q) (if_pos rfl) hq
  have e2 := SM_rm (f := fun v => nB n (seT (opT T q) q v)) hu
  have e3 : nB n (seT (opT T q) q u) = nB n T := nB_T (fun p hp => by
    unfold seT opT
    by_cases e : p = q
    · rw [if_pos e, e, h]
    · rw [if_neg e, if_neg e])
  rw [e1, e2, ← e3]
  exact Nat.le_add_left _ _
theorem upd_b {f : Nat → Int32} {q : Nat} {v w : Int32} (h : f q = w) : upd (upd f q v) q w = f := by
  funext p
  by_cases e : p = q
  · rw [e, pk_us, h]
  · rw [pk_un e, pk_un e]
theorem op_o {f : Nat → Int32} {T : Nat → Option Nat} {n b q : Nat} (h : ∀ i, i < n → f (b + i) = oI (T i)) : ∀ i, i < n → upd f (b + q) (-1) (b + i) = oI (opT T q i) := fun i hi => by
  unfold opT
  by_cases e : i = q
  · rw [if_pos e, e, pk_us]
    rfl
  · rw [if_neg e, pk_un (by omega)]
    exact h i hi
theorem p_spare_y {S : CS} {G : Nat → Nat → Value} {B : Nat → Nat → Int32} {J : Nat → Nat → Int64} {R : Nat → Nat → Option Nat} {n : Nat} {W : WS} (hW : WC n S G B R W) {p q : Nat} (hp : p < kS (wK W)) (hq : q < kS (wK W)) {u : Nat} (hcu : kB (wK W) (kS (wK W) * p + q) = some u) : CR 80 169 0 [some (.ref 2), some (.int (nI p)), some (.int (nI q)), none, none, none, none] [] S G B J R (fun r__ S' G' B' J' R' => r__ = some (.int (nI (if min 20000 (nB (kS (wK W)) (kB (wK W))) = min 20000 (nB (kS (wK W)) (opT (kB (wK W)) (kS (wK W) * p + q))) then 1 else 0))) ∧ WC (n + 1) S' G' B' R' W) := by
  have hS := hW.1.1
  have hF := hW.2.1
  have hO := hW.2.2.2.1
  obtain ⟨ta, ka, la, hH, hLk, hl2, hs3, hbd⟩ := hW.2.2.1
  have hS6 := hO.2.2.2.1
  have h36 := Nat.mul_le_mul hS6 hS6
  have hlt : (kS (wK W) * p + q) < kS (wK W) * kS (wK W) := cu_lt hp hq
  have hu := (hO.2.2.2.2 _ u hcu).2
  have hab := nB_op hcu hu hlt
  have hz : 0 < kS (wK W) := by omega
  have hTT : ∀ q u, q < kS (wK W) * kS (wK W) → kB (wK W) q = some u → u < kS (wK W) := fun q u _ e => (hO.2.2.2.2 q u e).2
  have hT2 : ∀ i v, i < kS (wK W) * kS (wK W) → (opT (kB (wK W)) (kS (wK W) * p + q)) i = some v → v < kS (wK W) := fun i v hi e => by
    unfold opT at e
    by_cases ei : i = (kS (wK W) * p + q)
    · rw [if_pos ei] at e; cases e
    · rw [if_neg ei] at e; exact hTT i v hi e
  have hb6 : B 6 (kS (wK W) * p + q) = nI u := (hbd _ hlt).trans (by rw [hcu]; rfl)
  refine cr_nx (pc' := 1) (al' := [some (.ref 2), some (.int (nI p)), some (.int (nI q)), none, none, none, none]) (st' := [.ref 2]) d_169_0 (fun _ => rfl) ?_
  refine cr_nx (pc' := 2) (al' := [some (.ref 2), some (.int (nI p)), some (.int (nI q)), none, none, none, none]) (st' := [.int (nI p), .ref 2]) d_169_1 (fun _ => rfl) ?_
  refine cr_nx (pc' := 3) (al' := [some (.ref 2), some (.int (nI p)), some (.int (nI q)), none, none, none, none]) (st' := [.int (nI q), .int (nI p), .ref 2]) d_169_2 (fun _ => rfl) ?_
  refine cr_pv (b := 2) (as := [.int (nI p), .int (nI q)]) (al0 := [some (.ref 2), some (.int (nI p)), some (.int (nI q))]) (r := []) d_169_3 cw_169 cm_11_354 cz_166 rfl rfl (hS.i (a := 2) (by decide) (by decide)) (by rw [cw_166]; exact (hS.s (a := 2) (by decide) (by decide) rfl)) (by rw [cw_166]; decide) rfl (Nat.le_of_ble_eq_true rfl) (k_isClueCell hS hF hs3 hO.2.2.2.1) ?_
  show CR _ _ 6 [some (.ref 2), some (.int (nI p)), some (.int (nI q)), none, none, none, none] [.int (bI (inP (nI p) (kS (wK W)) ∧ inP (nI q) (kS (wK W))))] S G B J R _
  refine cr_bne (t := 11) d_169_6 (by decide) (fun c6 => ?_) (fun c6 => ?_)
  · refine cr_nx (pc' := 12) (al' := [some (.ref 2), some (.int (nI p)), some (.int (nI q)), none, none, none, none]) (st' := [.ref 2]) d_169_11 (fun _ => rfl) ?_
    refine cr_gf (v := .ref 3) d_169_12 cw_169 cf_11_10 (hS.i (a := 2) (by decide) (by decide)) (hS.s (a := 2) (by decide) (by decide) rfl) (by decide) (fx_2_0 hF) ?_
    refine cr_gf (v := .int (nI (kS (wK W)))) d_169_15 cw_169 cf_11_342 (hS.i (a := 3) (by decide) (by decide)) (hS.s (a := 3) (by decide) (by decide) rfl) (by decide) hs3 ?_
    refine cr_nx (pc' := 19) (al' := [some (.ref 2), some (.int (nI p)), some (.int (nI q)), none, none, none, none]) (st' := [.int (nI p), .int (nI (kS (wK W)))]) d_169_18 (fun _ => rfl) ?_
    refine cn_mul d_169_19  ?_
    refine cr_nx (pc' := 21) (al' := [some (.ref 2), some (.int (nI p)), some (.int (nI q)), none, none, none, none]) (st' := [.int (nI q), .int (nI ((kS (wK W)) * p))]) d_169_20 (fun _ => rfl) ?_
    refine cn_add d_169_21  ?_
    refine cr_nx (pc' := 23) (al' := [some (.ref 2), some (.int (nI p)), some (.int (nI q)), some (.int (nI (((kS (wK W)) * p) + q))), none, none, none]) (st' := []) d_169_22 (fun _ => rfl) ?_
    refine cr_nx (pc' := 24) (al' := [some (.ref 2), some (.int (nI p)), some (.int (nI q)), some (.int (nI (((kS (wK W)) * p) + q))), none, none, none]) (st' := [.ref 2]) d_169_23 (fun _ => rfl) ?_
    refine cr_gf (v := .ref 3) d_169_24 cw_169 cf_11_10 (hS.i (a := 2) (by decide) (by decide)) (hS.s (a := 2) (by decide) (by decide) rfl) (by decide) (fx_2_0 hF) ?_
    refine cr_gf (v := .ref 6) d_169_27 cw_169 cf_11_345 (hS.i (a := 3) (by decide) (by decide)) (hS.s (a := 3) (by decide) (by decide) rfl) (by decide) (fx_3_4 hF) ?_
    refine cr_nx (pc' := 31) (al' := [some (.ref 2), some (.int (nI p)), some (.int (nI q)), some (.int (nI (((kS (wK W)) * p) + q))), none, none, none]) (st' := [.int (nI (((kS (wK W)) * p) + q)), .ref 6]) d_169_30 (fun _ => rfl) ?_
    refine cr_ia (a := 6) (v := (nI u)) d_169_31 (hS.i (a := 6) (by decide) (by decide)) (hS.s (a := 6) (by decide) (by decide) rfl) (by first | decide | omega) (show ((kS (wK W)) * p) + q < 36 by omega) hb6 ?_
    refine cr_nx (pc' := 34) (al' := [some (.ref 2), some (.int (nI p)), some (.int (nI q)), some (.int (nI (((kS (wK W)) * p) + q))), some (.int (nI u)), none, none]) (st' := []) d_169_32 (fun _ => rfl) ?_
    refine cr_nx (pc' := 36) (al' := [some (.ref 2), some (.int (nI p)), some (.int (nI q)), some (.int (nI (((kS (wK W)) * p) + q))), some (.int (nI u)), none, none]) (st' := [.int (nI u)]) d_169_34 (fun _ => rfl) ?_
    refine cr_nx (pc' := 37) (al' := [some (.ref 2), some (.int (nI p)), some (.int (nI q)), some (.int (nI (((kS (wK W)) * p) + q))), some (.int (nI u)), none, none]) (st' := [.int (-1), .int (nI u)]) d_169_36 (fun _ => rfl) ?_
    refine cr_cne (t := 42) d_169_37 (by decide) (fun c37 => ?_) (fun c37 => ?_)
    · refine cr_nx (pc' := 43) (al' := [some (.ref 2), some (.int (nI p)), some (.int (nI q)), some (.int (nI (((kS (wK W)) * p) + q))), some (.int (nI u)), none, none]) (st' := [.ref 2]) d_169_42 (fun _ => rfl) ?_
      refine cr_gf (v := .ref 107) d_169_43 cw_169 cf_11_62 (hS.i (a := 2) (by decide) (by decide)) (hS.s (a := 2) (by decide) (by decide) rfl) (by decide) (fx_2_10 hF) ?_
      refine cr_nx (pc' := 47) (al' := [some (.ref 2), some (.int (nI p)), some (.int (nI q)), some (.int (nI (((kS (wK W)) * p) + q))), some (.int (nI u)), none, none]) (st' := [.ref 2, .ref 107]) d_169_46 (fun _ => rfl) ?_
      refine cr_gf (v := .ref 3) d_169_47 cw_169 cf_11_10 (hS.i (a := 2) (by decide) (by decide)) (hS.s (a := 2) (by decide) (by decide) rfl) (by decide) (fx_2_0 hF) ?_
      refine cr_gf (v := .int (nI (kS (wK W)))) d_169_50 cw_169 cf_11_342 (hS.i (a := 3) (by decide) (by decide)) (hS.s (a := 3) (by decide) (by decide) rfl) (by decide) hs3 ?_
      refine cr_nx (pc' := 54) (al' := [some (.ref 2), some (.int (nI p)), some (.int (nI q)), some (.int (nI (((kS (wK W)) * p) + q))), some (.int (nI u)), none, none]) (st' := [.ref 2, .int (nI (kS (wK W))), .ref 107]) d_169_53 (fun _ => rfl) ?_
      refine cr_gf (v := .ref 3) d_169_54 cw_169 cf_11_10 (hS.i (a := 2) (by decide) (by decide)) (hS.s (a := 2) (by decide) (by decide) rfl) (by decide) (fx_2_0 hF) ?_
      refine cr_gf (v := .ref 6) d_169_57 cw_169 cf_11_345 (hS.i (a := 3) (by decide) (by decide)) (hS.s (a := 3) (by decide) (by decide) rfl) (by decide) (fx_3_4 hF) ?_
      refine cn_sp (v := 20000) d_169_60 (by decide) ?_
      refine cr_cv (b := 107) (as := [.int (nI (kS (wK W))), .ref 6, .int (nI 20000)]) (al0 := [some (.ref 107), some (.int (nI (kS (wK W)))), some (.ref 6), some (.int (nI 20000))]) (r := []) d_169_63 cw_169 cm_11_357 cz_17 rfl rfl (hS.i (a := 107) (by decide) (by decide)) (by rw [cw_17]; exact (hS.s (a := 107) (by decide) (by decide) rfl)) (by rw [cw_17]; decide) rfl (cr_wk (Nat.le_of_ble_eq_true rfl) (k_tally hS hF hS6 hz ⟨hS.i (a := 6) (by decide) (by decide), hS.s (a := 6) (by decide) (by decide) rfl, by decide⟩ hTT hbd (by decide) (by decide))) (fun v1 S1 G1 B1 J1 R1 h1x => ?_)
      obtain ⟨q0_, ⟨q1_, q2_, q3_⟩, hg1, hF1, hb1⟩ := h1x
      obtain rfl := q0_
      obtain rfl := q1_.symm
      obtain rfl := q2_.symm
      obtain rfl := q3_.symm
      have e33 : G1 3 3 = .int (nI (kS (wK W))) := by rw [hg1 3 (by decide)]; exact hs3
      have e6 : B1 6 = B 6 := hb1 6 (by decide)
      show CR _ _ 66 [some (.ref 2), some (.int (nI p)), some (.int (nI q)), some (.int (nI (((kS (wK W)) * p) + q))), some (.int (nI u)), none, none] [.int (nI (min 20000 (nB (kS (wK W)) (kB (wK W)))))] S G1 B1 J R _
      refine cr_nx (pc' := 68) (al' := [some (.ref 2), some (.int (nI p)), some (.int (nI q)), some (.int (nI (((kS (wK W)) * p) + q))), some (.int (nI u)), some (.int (nI (min 20000 (nB (kS (wK W)) (kB (wK W)))))), none]) (st' := []) d_169_66 (fun _ => rfl) ?_
      refine cr_nx (pc' := 70) (al' := [some (.ref 2), some (.int (nI p)), some (.int (nI q)), some (.int (nI (((kS (wK W)) * p) + q))), some (.int (nI u)), some (.int (nI (min 20000 (nB (kS (wK W)) (kB (wK W)))))), none]) (st' := [.int (nI (min 20000 (nB (kS (wK W)) (kB (wK W)))))]) d_169_68 (fun _ => rfl) ?_
      refine cn_sp (v := 20000) d_169_70 (by decide) ?_
      refine cn_clt (t := 78) d_169_73 (by decide) (by first | omega | assumption | exact cu_36 (by omega) (cu_lt (by omega) (by omega))) (by first | omega | assumption | exact cu_36 (by omega) (cu_lt (by omega) (by omega))) (fun c73 => ?_) (fun c73 => ?_)
      · refine cr_nx (pc' := 79) (al' := [some (.ref 2), some (.int (nI p)), some (.int (nI q)), some (.int (nI (((kS (wK W)) * p) + q))), some (.int (nI u)), some (.int (nI (min 20000 (nB (kS (wK W)) (kB (wK W)))))), none]) (st' := [.ref 2]) d_169_78 (fun _ => rfl) ?_
        refine cr_gf (v := .ref 3) d_169_79 cw_169 cf_11_10 (hS.i (a := 2) (by decide) (by decide)) (hS.s (a := 2) (by decide) (by decide) rfl) (by decide) (fx_2_0 hF1) ?_
        refine cr_gf (v := .ref 6) d_169_82 cw_169 cf_11_345 (hS.i (a := 3) (by decide) (by decide)) (hS.s (a := 3) (by decide) (by decide) rfl) (by decide) (fx_3_4 hF1) ?_
        refine cr_nx (pc' := 86) (al' := [some (.ref 2), some (.int (nI p)), some (.int (nI q)), some (.int (nI (((kS (wK W)) * p) + q))), some (.int (nI u)), some (.int (nI (min 20000 (nB (kS (wK W)) (kB (wK W)))))), none]) (st' := [.int (nI (((kS (wK W)) * p) + q)), .ref 6]) d_169_85 (fun _ => rfl) ?_
        refine cr_nx (pc' := 87) (al' := [some (.ref 2), some (.int (nI p)), some (.int (nI q)), some (.int (nI (((kS (wK W)) * p) + q))), some (.int (nI u)), some (.int (nI (min 20000 (nB (kS (wK W)) (kB (wK W)))))), none]) (st' := [.int (-1), .int (nI (((kS (wK W)) * p) + q)), .ref 6]) d_169_86 (fun _ => rfl) ?_
        refine cr_iS (a := 6) (B1 := (upr B1 6 (upd (B1 6) (((kS (wK W)) * p) + q) (-1)))) d_169_87 (hS.i (a := 6) (by decide) (by decide)) (hS.s (a := 6) (by decide) (by decide) rfl) (by first | decide | omega) (show ((kS (wK W)) * p) + q < 36 by omega) rfl ?_
        refine cr_nx (pc' := 89) (al' := [some (.ref 2), some (.int (nI p)), some (.int (nI q)), some (.int (nI (((kS (wK W)) * p) + q))), some (.int (nI u)), some (.int (nI (min 20000 (nB (kS (wK W)) (kB (wK W)))))), none]) (st' := [.ref 2]) d_169_88 (fun _ => rfl) ?_
        refine cr_gf (v := .ref 107) d_169_89 cw_169 cf_11_62 (hS.i (a := 2) (by decide) (by decide)) (hS.s (a := 2) (by decide) (by decide) rfl) (by decide) (fx_2_10 hF1) ?_
        refine cr_nx (pc' := 93) (al' := [some (.ref 2), some (.int (nI p)), some (.int (nI q)), some (.int (nI (((kS (wK W)) * p) + q))), some (.int (nI u)), some (.int (nI (min 20000 (nB (kS (wK W)) (kB (wK W)))))), none]) (st' := [.ref 2, .ref 107]) d_169_92 (fun _ => rfl) ?_
        refine cr_gf (v := .ref 3) d_169_93 cw_169 cf_11_10 (hS.i (a := 2) (by decide) (by decide)) (hS.s (a := 2) (by decide) (by decide) rfl) (by decide) (fx_2_0 hF1) ?_
        refine cr_gf (v := .int (nI (kS (wK W)))) d_169_96 cw_169 cf_11_342 (hS.i (a := 3) (by decide) (by decide)) (hS.s (a := 3) (by decide) (by decide) rfl) (by decide) e33 ?_
        refine cr_nx (pc' := 100) (al' := [some (.ref 2), some (.int (nI p)), some (.int (nI q)), some (.int (nI (((kS (wK W)) * p) + q))), some (.int (nI u)), some (.int (nI (min 20000 (nB (kS (wK W)) (kB (wK W)))))), none]) (st' := [.ref 2, .int (nI (kS (wK W))), .ref 107]) d_169_99 (fun _ => rfl) ?_
        refine cr_gf (v := .ref 3) d_169_100 cw_169 cf_11_10 (hS.i (a := 2) (by decide) (by decide)) (hS.s (a := 2) (by decide) (by decide) rfl) (by decide) (fx_2_0 hF1) ?_
        refine cr_gf (v := .ref 6) d_169_103 cw_169 cf_11_345 (hS.i (a := 3) (by decide) (by decide)) (hS.s (a := 3) (by decide) (by decide) rfl) (by decide) (fx_3_4 hF1) ?_
        refine cr_nx (pc' := 108) (al' := [some (.ref 2), some (.int (nI p)), some (.int (nI q)), some (.int (nI (((kS (wK W)) * p) + q))), some (.int (nI u)), some (.int (nI (min 20000 (nB (kS (wK W)) (kB (wK W)))))), none]) (st' := [.int (nI (min 20000 (nB (kS (wK W)) (kB (wK W))))), .ref 6, .int (nI (kS (wK W))), .ref 107]) d_169_106 (fun _ => rfl) ?_
        refine cn_ic (v := 1) d_169_108 (by decide) ?_
        refine cn_add d_169_109  ?_
        refine cr_cv (b := 107) (as := [.int (nI (kS (wK W))), .ref 6, .int (nI ((min 20000 (nB (kS (wK W)) (kB (wK W)))) + 1))]) (al0 := [some (.ref 107), some (.int (nI (kS (wK W)))), some (.ref 6), some (.int (nI ((min 20000 (nB (kS (wK W)) (kB (wK W)))) + 1)))]) (r := []) d_169_110 cw_169 cm_11_357 cz_17 rfl rfl (hS.i (a := 107) (by decide) (by decide)) (by rw [cw_17]; exact (hS.s (a := 107) (by decide) (by decide) rfl)) (by rw [cw_17]; decide) rfl (cr_wk (Nat.le_of_ble_eq_true rfl) (k_tally (T := (opT (kB (wK W)) (kS (wK W) * p + q))) hS hF1 hS6 hz ⟨hS.i (a := 6) (by decide) (by decide), hS.s (a := 6) (by decide) (by decide) rfl, by decide⟩ hT2 (fun i hi => by rw [upr_s, e6]; have := op_o (b := 0) (q := (kS (wK W) * p + q)) (f := B 6) (fun i hi => by rw [Nat.zero_add]; exact hbd i hi) i hi; rw [Nat.zero_add, Nat.zero_add] at this; exact this) (by omega) (by omega))) (fun v2 S2 G2 B2 J2 R2 h2x => ?_)
        obtain ⟨q0_, ⟨q1_, q2_, q3_⟩, hg2, hF2, hb2⟩ := h2x
        obtain rfl := q0_
        obtain rfl := q1_.symm
        obtain rfl := q2_.symm
        obtain rfl := q3_.symm
        have e62 : B2 6 = upd (B1 6) (kS (wK W) * p + q) (-1) := by rw [hb2 6 (by decide), upr_s]
        show CR _ _ 113 [some (.ref 2), some (.int (nI p)), some (.int (nI q)), some (.int (nI (((kS (wK W)) * p) + q))), some (.int (nI u)), some (.int (nI (min 20000 (nB (kS (wK W)) (kB (wK W)))))), none] [.int (nI (min (min 20000 (nB (kS (wK W)) (kB (wK W))) + 1) (nB (kS (wK W)) (opT (kB (wK W)) (kS (wK W) * p + q)))))] S G2 B2 J R _
        refine cr_nx (pc' := 115) (al' := [some (.ref 2), some (.int (nI p)), some (.int (nI q)), some (.int (nI (((kS (wK W)) * p) + q))), some (.int (nI u)), some (.int (nI (min 20000 (nB (kS (wK W)) (kB (wK W)))))), some (.int (nI (min (min 20000 (nB (kS (wK W)) (kB (wK W))) + 1) (nB (kS (wK W)) (opT (kB (wK W)) (kS (wK W) * p + q))))))]) (st' := []) d_169_113 (fun _ => rfl) ?_
        refine cr_nx (pc' := 116) (al' := [some (.ref 2), some (.int (nI p)), some (.int (nI q)), some (.int (nI (((kS (wK W)) * p) + q))), some (.int (nI u)), some (.int (nI (min 20000 (nB (kS (wK W)) (kB (wK W)))))), some (.int (nI (min (min 20000 (nB (kS (wK W)) (kB (wK W))) + 1) (nB (kS (wK W)) (opT (kB (wK W)) (kS (wK W) * p + q))))))]) (st' := [.ref 2]) d_169_115 (fun _ => rfl) ?_
        refine cr_gf (v := .ref 3) d_169_116 cw_169 cf_11_10 (hS.i (a := 2) (by decide) (by decide)) (hS.s (a := 2) (by decide) (by decide) rfl) (by decide) (fx_2_0 hF2) ?_
        refine cr_gf (v := .ref 6) d_169_119 cw_169 cf_11_345 (hS.i (a := 3) (by decide) (by decide)) (hS.s (a := 3) (by decide) (by decide) rfl) (by decide) (fx_3_4 hF2) ?_
        refine cr_nx (pc' := 123) (al' := [some (.ref 2), some (.int (nI p)), some (.int (nI q)), some (.int (nI (((kS (wK W)) * p) + q))), some (.int (nI u)), some (.int (nI (min 20000 (nB (kS (wK W)) (kB (wK W)))))), some (.int (nI (min (min 20000 (nB (kS (wK W)) (kB (wK W))) + 1) (nB (kS (wK W)) (opT (kB (wK W)) (kS (wK W) * p + q))))))]) (st' := [.int (nI (((kS (wK W)) * p) + q)), .ref 6]) d_169_122 (fun _ => rfl) ?_
        refine cr_nx (pc' := 125) (al' := [some (.ref 2), some (.int (nI p)), some (.int (nI q)), some (.int (nI (((kS (wK W)) * p) + q))), some (.int (nI u)), some (.int (nI (min 20000 (nB (kS (wK W)) (kB (wK W)))))), some (.int (nI (min (min 20000 (nB (kS (wK W)) (kB (wK W))) + 1) (nB (kS (wK W)) (opT (kB (wK W)) (kS (wK W) * p + q))))))]) (st' := [.int (nI u), .int (nI (((kS (wK W)) * p) + q)), .ref 6]) d_169_123 (fun _ => rfl) ?_
        refine cr_iS (a := 6) (B1 := (upr B2 6 (upd (B2 6) (((kS (wK W)) * p) + q) (nI u)))) d_169_125 (hS.i (a := 6) (by decide) (by decide)) (hS.s (a := 6) (by decide) (by decide) rfl) (by first | decide | omega) (show ((kS (wK W)) * p) + q < 36 by omega) rfl ?_
        refine cr_nx (pc' := 128) (al' := [some (.ref 2), some (.int (nI p)), some (.int (nI q)), some (.int (nI (((kS (wK W)) * p) + q))), some (.int (nI u)), some (.int (nI (min 20000 (nB (kS (wK W)) (kB (wK W)))))), some (.int (nI (min (min 20000 (nB (kS (wK W)) (kB (wK W))) + 1) (nB (kS (wK W)) (opT (kB (wK W)) (kS (wK W) * p + q))))))]) (st' := [.int (nI (min (min 20000 (nB (kS (wK W)) (kB (wK W))) + 1) (nB (kS (wK W)) (opT (kB (wK W)) (kS (wK W) * p + q)))))]) d_169_126 (fun _ => rfl) ?_
        refine cr_nx (pc' := 130) (al' := [some (.ref 2), some (.int (nI p)), some (.int (nI q)), some (.int (nI (((kS (wK W)) * p) + q))), some (.int (nI u)), some (.int (nI (min 20000 (nB (kS (wK W)) (kB (wK W)))))), some (.int (nI (min (min 20000 (nB (kS (wK W)) (kB (wK W))) + 1) (nB (kS (wK W)) (opT (kB (wK W)) (kS (wK W) * p + q))))))]) (st' := [.int (nI (min 20000 (nB (kS (wK W)) (kB (wK W))))), .int (nI (min (min 20000 (nB (kS (wK W)) (kB (wK W))) + 1) (nB (kS (wK W)) (opT (kB (wK W)) (kS (wK W) * p + q)))))]) d_169_128 (fun _ => rfl) ?_
        refine cn_cne (t := 137) d_169_130 (by decide) (by first | omega | assumption | exact cu_36 (by omega) (cu_lt (by omega) (by omega))) (by first | omega | assumption | exact cu_36 (by omega) (cu_lt (by omega) (by omega))) (fun c130 => ?_) (fun c130 => ?_)
        · refine cn_ic (v := 0) d_169_137 (by decide) ?_
          exact cr_ri d_169_138 cx_169 rfl ⟨by rw [if_neg (by omega)], (hW.q hF2 ((hg1.mo (by decide)).tr (hg2.mo (by decide))) (fun b hb => if e : b = 6 then (by rw [e, upr_s, e62, e6]; exact upd_b hb6) else (by rw [upr_n e, (hb2.mo (by decide)) b hb, upr_n e, (hb1.mo (by decide)) b hb]))).mo⟩
        · refine cn_ic (v := 1) d_169_133 (by decide) ?_
          refine cr_nx (pc' := 138) (al' := [some (.ref 2), some (.int (nI p)), some (.int (nI q)), some (.int (nI (((kS (wK W)) * p) + q))), some (.int (nI u)), some (.int (nI (min 20000 (nB (kS (wK W)) (kB (wK W)))))), some (.int (nI (min (min 20000 (nB (kS (wK W)) (kB (wK W))) + 1) (nB (kS (wK W)) (opT (kB (wK W)) (kS (wK W) * p + q))))))]) (st' := [.int (nI 1)]) d_169_134 (fun _ => rfl) ?_
          exact cr_ri d_169_138 cx_169 rfl ⟨by rw [if_pos (by omega)], (hW.q hF2 ((hg1.mo (by decide)).tr (hg2.mo (by decide))) (fun b hb => if e : b = 6 then (by rw [e, upr_s, e62, e6]; exact upd_b hb6) else (by rw [upr_n e, (hb2.mo (by decide)) b hb, upr_n e, (hb1.mo (by decide)) b hb]))).mo⟩
      · refine cn_ic (v := 1) d_169_76 (by decide) ?_
        exact cr_ri d_169_77 cx_169 rfl ⟨by rw [if_pos (by omega)], (hW.q hF1 (hg1.mo (by decide)) (hb1.mo (by decide))).mo⟩
    · exact absurd c37 (ia_ne (by omega))
  · exact absurd ⟨(in_j (by omega)).mpr hp, (in_j (by omega)).mpr hq⟩ c6
theorem p_spare_o {S : CS} {G : Nat → Nat → Value} {B : Nat → Nat → Int32} {J : Nat → Nat → Int64} {R : Nat → Nat → Option Nat} {n : Nat} {W : WS} (hW : WC n S G B R W) {p q : Nat} (hp : p < kS (wK W)) (hq : q < kS (wK W)) (hcu : kB (wK W) (kS (wK W) * p + q) = none) : CR 80 169 0 [some (.ref 2), some (.int (nI p)), some (.int (nI q)), none, none, none, none] [] S G B J R (fun r__ S' G' B' J' R' => r__ = some (.int (-1)) ∧ WC (n + 1) S' G' B' R' W) := by
  have hS := hW.1.1
  have hF := hW.2.1
  have hO := hW.2.2.2.1
  obtain ⟨ta, ka, la, hH, hLk, hl2, hs3, hbd⟩ := hW.2.2.1
  have hS6 := hO.2.2.2.1
  have h36 := Nat.mul_le_mul hS6 hS6
  have hlt : (kS (wK W) * p + q) < kS (wK W) * kS (wK W) := cu_lt hp hq
  have hb6 : B 6 (kS (wK W) * p + q) = -1 := (hbd _ hlt).trans (by rw [hcu]; rfl)
  refine cr_nx (pc' := 1) (al' := [some (.ref 2), some (.int (nI p)), some (.int (nI q)), none, none, none, none]) (st' := [.ref 2]) d_169_0 (fun _ => rfl) ?_
  refine cr_nx (pc' := 2) (al' := [some (.ref 2), some (.int (nI p)), some (.int (nI q)), none, none, none, none]) (st' := [.int (nI p), .ref 2]) d_169_1 (fun _ => rfl) ?_
  refine cr_nx (pc' := 3) (al' := [some (.ref 2), some (.int (nI p)), some (.int (nI q)), none, none, none, none]) (st' := [.int (nI q), .int (nI p), .ref 2]) d_169_2 (fun _ => rfl) ?_
  refine cr_pv (b := 2) (as := [.int (nI p), .int (nI q)]) (al0 := [some (.ref 2), some (.int (nI p)), some (.int (nI q))]) (r := []) d_169_3 cw_169 cm_11_354 cz_166 rfl rfl (hS.i (a := 2) (by decide) (by decide)) (by rw [cw_166]; exact (hS.s (a := 2) (by decide) (by decide) rfl)) (by rw [cw_166]; decide) rfl (Nat.le_of_ble_eq_true rfl) (k_isClueCell hS hF hs3 hO.2.2.2.1) ?_
  show CR _ _ 6 [some (.ref 2), some (.int (nI p)), some (.int (nI q)), none, none, none, none] [.int (bI (inP (nI p) (kS (wK W)) ∧ inP (nI q) (kS (wK W))))] S G B J R _
  refine cr_bne (t := 11) d_169_6 (by decide) (fun c6 => ?_) (fun c6 => ?_)
  · refine cr_nx (pc' := 12) (al' := [some (.ref 2), some (.int (nI p)), some (.int (nI q)), none, none, none, none]) (st' := [.ref 2]) d_169_11 (fun _ => rfl) ?_
    refine cr_gf (v := .ref 3) d_169_12 cw_169 cf_11_10 (hS.i (a := 2) (by decide) (by decide)) (hS.s (a := 2) (by decide) (by decide) rfl) (by decide) (fx_2_0 hF) ?_
    refine cr_gf (v := .int (nI (kS (wK W)))) d_169_15 cw_169 cf_11_342 (hS.i (a := 3) (by decide) (by decide)) (hS.s (a := 3) (by decide) (by decide) rfl) (by decide) hs3 ?_
    refine cr_nx (pc' := 19) (al' := [some (.ref 2), some (.int (nI p)), some (.int (nI q)), none, none, none, none]) (st' := [.int (nI p), .int (nI (kS (wK W)))]) d_169_18 (fun _ => rfl) ?_
    refine cn_mul d_169_19  ?_
    refine cr_nx (pc' := 21) (al' := [some (.ref 2), some (.int (nI p)), some (.int (nI q)), none, none, none, none]) (st' := [.int (nI q), .int (nI ((kS (wK W)) * p))]) d_169_20 (fun _ => rfl) ?_
    refine cn_add d_169_21  ?_
    refine cr_nx (pc' := 23) (al' := [some (.ref 2), some (.int (nI p)), some (.int (nI q)), some (.int (nI (((kS (wK W)) * p) + q))), none, none, none]) (st' := []) d_169_22 (fun _ => rfl) ?_
    refine cr_nx (pc' := 24) (al' := [some (.ref 2), some (.int (nI p)), some (.int (nI q)), some (.int (nI (((kS (wK W)) * p) + q))), none, none, none]) (st' := [.ref 2]) d_169_23 (fun _ => rfl) ?_
    refine cr_gf (v := .ref 3) d_169_24 cw_169 cf_11_10 (hS.i (a := 2) (by decide) (by decide)) (hS.s (a := 2) (by decide) (by decide) rfl) (by decide) (fx_2_0 hF) ?_
    refine cr_gf (v := .ref 6) d_169_27 cw_169 cf_11_345 (hS.i (a := 3) (by decide) (by decide)) (hS.s (a := 3) (by decide) (by decide) rfl) (by decide) (fx_3_4 hF) ?_
    refine cr_nx (pc' := 31) (al' := [some (.ref 2), some (.int (nI p)), some (.int (nI q)), some (.int (nI (((kS (wK W)) * p) + q))), none, none, none]) (st' := [.int (nI (((kS (wK W)) * p) + q)), .ref 6]) d_169_30 (fun _ => rfl) ?_
    refine cr_ia (a := 6) (v := (-1)) d_169_31 (hS.i (a := 6) (by decide) (by decide)) (hS.s (a := 6) (by decide) (by decide) rfl) (by first | decide | omega) (show ((kS (wK W)) * p) + q < 36 by omega) hb6 ?_
    refine cr_nx (pc' := 34) (al' := [some (.ref 2), some (.int (nI p)), some (.int (nI q)), some (.int (nI (((kS (wK W)) * p) + q))), some (.int (-1)), none, none]) (st' := []) d_169_32 (fun _ => rfl) ?_
    refine cr_nx (pc' := 36) (al' := [some (.ref 2), some (.int (nI p)), some (.int (nI q)), some (.int (nI (((kS (wK W)) * p) + q))), some (.int (-1)), none, none]) (st' := [.int (-1)]) d_169_34 (fun _ => rfl) ?_
    refine cr_nx (pc' := 37) (al' := [some (.ref 2), some (.int (nI p)), some (.int (nI q)), some (.int (nI (((kS (wK W)) * p) + q))), some (.int (-1)), none, none]) (st' := [.int (-1), .int (-1)]) d_169_36 (fun _ => rfl) ?_
    refine cr_cne (t := 42) d_169_37 (by decide) (fun c37 => ?_) (fun c37 => ?_)
    · exact absurd rfl c37
    · refine cr_nx (pc' := 41) (al' := [some (.ref 2), some (.int (nI p)), some (.int (nI q)), some (.int (nI (((kS (wK W)) * p) + q))), some (.int (-1)), none, none]) (st' := [.int (-1)]) d_169_40 (fun _ => rfl) ?_
      exact cr_ri d_169_41 cx_169 rfl ⟨rfl, hW.mo⟩
  · exact absurd ⟨(in_j (by omega)).mpr hp, (in_j (by omega)).mpr hq⟩ c6
theorem p_spare_n {S : CS} {G : Nat → Nat → Value} {B : Nat → Nat → Int32} {J : Nat → Nat → Int64} {R : Nat → Nat → Option Nat} {n : Nat} {W : WS} (hW : WC n S G B R W) {x z : Int32} (hx : ¬ (inP x (kS (wK W)) ∧ inP z (kS (wK W)))) : CR 80 169 0 [some (.ref 2), some (.int x), some (.int z), none, none, none, none] [] S G B J R (fun r__ S' G' B' J' R' => r__ = some (.int (-1)) ∧ WC (n + 1) S' G' B' R' W) := by
  have hS := hW.1.1
  have hF := hW.2.1
  have hO := hW.2.2.2.1
  obtain ⟨ta, ka, la, hH, hLk, hl2, hs3, hbd⟩ := hW.2.2.1
  refine cr_nx (pc' := 1) (al' := [some (.ref 2), some (.int x), some (.int z), none, none, none, none]) (st' := [.ref 2]) d_169_0 (fun _ => rfl) ?_
  refine cr_nx (pc' := 2) (al' := [some (.ref 2), some (.int x), some (.int z), none, none, none, none]) (st' := [.int x, .ref 2]) d_169_1 (fun _ => rfl) ?_
  refine cr_nx (pc' := 3) (al' := [some (.ref 2), some (.int x), some (.int z), none, none, none, none]) (st' := [.int z, .int x, .ref 2]) d_169_2 (fun _ => rfl) ?_
  refine cr_pv (b := 2) (as := [.int x, .int z]) (al0 := [some (.ref 2), some (.int x), some (.int z)]) (r := []) d_169_3 cw_169 cm_11_354 cz_166 rfl rfl (hS.i (a := 2) (by decide) (by decide)) (by rw [cw_166]; exact (hS.s (a := 2) (by decide) (by decide) rfl)) (by rw [cw_166]; decide) rfl (Nat.le_of_ble_eq_true rfl) (k_isClueCell hS hF hs3 hO.2.2.2.1) ?_
  show CR _ _ 6 [some (.ref 2), some (.int x), some (.int z), none, none, none, none] [.int (bI (inP x (kS (wK W)) ∧ inP z (kS (wK W))))] S G B J R _
  refine cr_bne (t := 11) d_169_6 (by decide) (fun c6 => ?_) (fun c6 => ?_)
  · exact absurd c6 hx
  · refine cr_nx (pc' := 10) (al' := [some (.ref 2), some (.int x), some (.int z), none, none, none, none]) (st' := [.int (-1)]) d_169_9 (fun _ => rfl) ?_
    exact cr_ri d_169_10 cx_169 rfl ⟨rfl, hW.mo⟩
theorem r_spare_y {g : Nat → Int32} {A : Nat → Nat → Int32} {n : Nat} {W : WS} (hW : WR n g A W) (hO : CoOk (wK W)) {p q : Nat} (hp : p < kS (wK W)) (hq : q < kS (wK W)) {u : Nat} (hcu : kB (wK W) (kS (wK W) * p + q) = some u) : RR 80 284 0 [some (.ref 146), some (.int (nI p)), some (.int (nI q)), none, none, none, none] [] g A (fun r__ g' A' => r__ = some (.int (nI (if min 20000 (nB (kS (wK W)) (kB (wK W))) = min 20000 (nB (kS (wK W)) (opT (kB (wK W)) (kS (wK W) * p + q))) then 1 else 0))) ∧ WR (n + 1) g' A' W) := by
  have hS6 := hO.2.2.2.1
  have h36 := Nat.mul_le_mul hS6 hS6
  have hlt : (kS (wK W) * p + q) < kS (wK W) * kS (wK W) := cu_lt hp hq
  have hu := (hO.2.2.2.2 _ u hcu).2
  have hab := nB_op hcu hu hlt
  have hz : 0 < kS (wK W) := by omega
  have hTT : ∀ q u, kB (wK W) q = some u → u < 6 := fun q u e => by have := (hO.2.2.2.2 q u e).2; omega
  have hT2 : ∀ i v, (opT (kB (wK W)) (kS (wK W) * p + q)) i = some v → v < 6 := fun i v e => by
    unfold opT at e
    by_cases ei : i = (kS (wK W) * p + q)
    · rw [if_pos ei] at e; cases e
    · rw [if_neg ei] at e; exact hTT i v e
  have hid : 223 + kS (wK W) * p + q = 223 + (kS (wK W) * p + q) := by omega
  have hb6 : A 1 (223 + kS (wK W) * p + q) = nI u := by rw [hid]; exact (hW.1.2.2.2.2 _ hlt).trans (by rw [hcu]; rfl)
  have h48 := hW.2.2.2.2.2.2.2.2.1
  refine rr_nx (pc' := 1) (al' := [some (.ref 146), some (.int (nI p)), some (.int (nI q)), none, none, none, none]) (st' := [.ref 146]) d_284_0 (fun _ => rfl) ?_
  refine rr_nx (pc' := 2) (al' := [some (.ref 146), some (.int (nI p)), some (.int (nI q)), none, none, none, none]) (st' := [.int (nI p), .ref 146]) d_284_1 (fun _ => rfl) ?_
  refine rr_nx (pc' := 3) (al' := [some (.ref 146), some (.int (nI p)), some (.int (nI q)), none, none, none, none]) (st' := [.int (nI q), .int (nI p), .ref 146]) d_284_2 (fun _ => rfl) ?_
  refine rr_pv (as := [.int (nI p), .int (nI q)]) (al0 := [some (.ref 146), some (.int (nI p)), some (.int (nI q))]) (r := []) d_284_3 mo_284 ml_380 mz_280 rfl rfl rfl (Nat.le_of_ble_eq_true rfl) (s_isOnBoard hW hO) ?_
  show RR _ _ 6 [some (.ref 146), some (.int (nI p)), some (.int (nI q)), none, none, none, none] [.int (bI (inP (nI p) (kS (wK W)) ∧ inP (nI q) (kS (wK W))))] g A _
  refine rr_bne (t := 11) d_284_6 (by decide) (fun c6 => ?_) (fun c6 => ?_)
  · refine rn_sp (v := 223) d_284_11 (by decide) ?_
    refine rr_nx (pc' := 15) (al' := [some (.ref 146), some (.int (nI p)), some (.int (nI q)), none, none, none, none]) (st' := [.ref 146, .int (nI 223)]) d_284_14 (fun _ => rfl) ?_
    refine rr_gf (v := .ref (147 + 1)) d_284_15 mo_284 fl_13 rfl ?_
    refine rn_sp (v := 222) d_284_18 (by decide) ?_
    refine rr_ia (j := 1) (v := (nI (kS (wK W)))) d_284_21 (by decide) rfl (by decide) (show 222 < 5720 by first | omega | assumption | exact cu_36 (by omega) (cu_lt (by omega) (by omega))) hW.1.2.2.2.1 ?_
    refine rr_nx (pc' := 23) (al' := [some (.ref 146), some (.int (nI p)), some (.int (nI q)), none, none, none, none]) (st' := [.int (nI p), .int (nI (kS (wK W))), .int (nI 223)]) d_284_22 (fun _ => rfl) ?_
    refine rn_mul d_284_23  ?_
    refine rn_add d_284_24  ?_
    refine rr_nx (pc' := 26) (al' := [some (.ref 146), some (.int (nI p)), some (.int (nI q)), none, none, none, none]) (st' := [.int (nI q), .int (nI (223 + ((kS (wK W)) * p)))]) d_284_25 (fun _ => rfl) ?_
    refine rn_add d_284_26  ?_
    refine rr_nx (pc' := 28) (al' := [some (.ref 146), some (.int (nI p)), some (.int (nI q)), some (.int (nI ((223 + ((kS (wK W)) * p)) + q))), none, none, none]) (st' := []) d_284_27 (fun _ => rfl) ?_
    refine rr_nx (pc' := 29) (al' := [some (.ref 146), some (.int (nI p)), some (.int (nI q)), some (.int (nI ((223 + ((kS (wK W)) * p)) + q))), none, none, none]) (st' := [.ref 146]) d_284_28 (fun _ => rfl) ?_
    refine rr_gf (v := .ref (147 + 1)) d_284_29 mo_284 fl_13 rfl ?_
    refine rr_nx (pc' := 33) (al' := [some (.ref 146), some (.int (nI p)), some (.int (nI q)), some (.int (nI ((223 + ((kS (wK W)) * p)) + q))), none, none, none]) (st' := [.int (nI ((223 + ((kS (wK W)) * p)) + q)), .ref (147 + 1)]) d_284_32 (fun _ => rfl) ?_
    refine rr_ia (j := 1) (v := (nI u)) d_284_33 (by decide) rfl (by decide) (show (223 + ((kS (wK W)) * p)) + q < 5720 by omega) hb6 ?_
    refine rr_nx (pc' := 36) (al' := [some (.ref 146), some (.int (nI p)), some (.int (nI q)), some (.int (nI ((223 + ((kS (wK W)) * p)) + q))), some (.int (nI u)), none, none]) (st' := []) d_284_34 (fun _ => rfl) ?_
    refine rr_nx (pc' := 38) (al' := [some (.ref 146), some (.int (nI p)), some (.int (nI q)), some (.int (nI ((223 + ((kS (wK W)) * p)) + q))), some (.int (nI u)), none, none]) (st' := [.int (nI u)]) d_284_36 (fun _ => rfl) ?_
    refine rr_nx (pc' := 39) (al' := [some (.ref 146), some (.int (nI p)), some (.int (nI q)), some (.int (nI ((223 + ((kS (wK W)) * p)) + q))), some (.int (nI u)), none, none]) (st' := [.int (-1), .int (nI u)]) d_284_38 (fun _ => rfl) ?_
    refine rr_cne (t := 44) d_284_39 (by decide) (fun c39 => ?_) (fun c39 => ?_)
    · refine rr_nx (pc' := 45) (al' := [some (.ref 146), some (.int (nI p)), some (.int (nI q)), some (.int (nI ((223 + ((kS (wK W)) * p)) + q))), some (.int (nI u)), none, none]) (st' := [.ref 146]) d_284_44 (fun _ => rfl) ?_
      refine rn_sp (v := 20000) d_284_45 (by decide) ?_
      refine rr_cv (as := [.int (nI 20000)]) (al0 := [some (.ref 146), some (.int (nI 20000)), none]) (r := []) d_284_48 mo_284 ml_383 mz_282 rfl rfl rfl (rr_wk (Nat.le_of_ble_eq_true rfl) (s_fillings (T := kB (wK W)) (s := some 20000) hS6 hz hTT ⟨hW.1.2.2.2.1, hW.1.2.2.2.2⟩ h48 ⟨by decide, by decide⟩)) (fun v1 g1 A1 h1x => ?_)
      obtain ⟨q0_, h8_, hg1, ha1, hx1⟩ := h1x
      rw [show capN (some 20000) (flA (kS (wK W)) (kB (wK W))).length = min 20000 (nB (kS (wK W)) (kB (wK W))) from congrArg (min 20000) flA_n] at q0_
      obtain rfl := q0_
      have e1 : A1 1 = A 1 := ha1 1 rfl
      have h481 : g1 48 = nI 0 := (hg1 48 rfl).trans h48
      show RR _ _ 51 [some (.ref 146), some (.int (nI p)), some (.int (nI q)), some (.int (nI ((223 + ((kS (wK W)) * p)) + q))), some (.int (nI u)), none, none] [.int (nI (min 20000 (nB (kS (wK W)) (kB (wK W)))))] g1 A1 _
      refine rr_nx (pc' := 53) (al' := [some (.ref 146), some (.int (nI p)), some (.int (nI q)), some (.int (nI ((223 + ((kS (wK W)) * p)) + q))), some (.int (nI u)), some (.int (nI (min 20000 (nB (kS (wK W)) (kB (wK W)))))), none]) (st' := []) d_284_51 (fun _ => rfl) ?_
      refine rr_nx (pc' := 54) (al' := [some (.ref 146), some (.int (nI p)), some (.int (nI q)), some (.int (nI ((223 + ((kS (wK W)) * p)) + q))), some (.int (nI u)), some (.int (nI (min 20000 (nB (kS (wK W)) (kB (wK W)))))), none]) (st' := [.ref 146]) d_284_53 (fun _ => rfl) ?_
      refine rr_gf (v := .ref (147 + 1)) d_284_54 mo_284 fl_13 rfl ?_
      refine rr_nx (pc' := 58) (al' := [some (.ref 146), some (.int (nI p)), some (.int (nI q)), some (.int (nI ((223 + ((kS (wK W)) * p)) + q))), some (.int (nI u)), some (.int (nI (min 20000 (nB (kS (wK W)) (kB (wK W)))))), none]) (st' := [.int (nI ((223 + ((kS (wK W)) * p)) + q)), .ref (147 + 1)]) d_284_57 (fun _ => rfl) ?_
      refine rr_nx (pc' := 59) (al' := [some (.ref 146), some (.int (nI p)), some (.int (nI q)), some (.int (nI ((223 + ((kS (wK W)) * p)) + q))), some (.int (nI u)), some (.int (nI (min 20000 (nB (kS (wK W)) (kB (wK W)))))), none]) (st' := [.int (-1), .int (nI ((223 + ((kS (wK W)) * p)) + q)), .ref (147 + 1)]) d_284_58 (fun _ => rfl) ?_
      refine rr_iS (j := 1) (A1 := (rf_u A1 1 (upd (A1 1) ((223 + ((kS (wK W)) * p)) + q) (-1)))) d_284_59 (by decide) rfl (by decide) (show (223 + ((kS (wK W)) * p)) + q < 5720 by omega) rfl ?_
      refine rr_nx (pc' := 61) (al' := [some (.ref 146), some (.int (nI p)), some (.int (nI q)), some (.int (nI ((223 + ((kS (wK W)) * p)) + q))), some (.int (nI u)), some (.int (nI (min 20000 (nB (kS (wK W)) (kB (wK W)))))), none]) (st' := [.ref 146]) d_284_60 (fun _ => rfl) ?_
      refine rn_sp (v := 20000) d_284_61 (by decide) ?_
      refine rr_cv (as := [.int (nI 20000)]) (al0 := [some (.ref 146), some (.int (nI 20000)), none]) (r := []) d_284_64 mo_284 ml_383 mz_282 rfl rfl rfl (rr_wk (Nat.le_of_ble_eq_true rfl) (s_fillings (T := (opT (kB (wK W)) (kS (wK W) * p + q))) (s := some 20000) hS6 hz hT2 ⟨by rw [rf_u_s, e1, pk_un (by omega)]; exact hW.1.2.2.2.1, fun i hi => by rw [rf_u_s, e1, hid]; exact op_o hW.1.2.2.2.2 i hi⟩ h481 ⟨by decide, by decide⟩)) (fun v2 g2 A2 h2x => ?_)
      obtain ⟨q0_, h82_, hg2, ha2, hx2⟩ := h2x
      rw [show capN (some 20000) (flA (kS (wK W)) ((opT (kB (wK W)) (kS (wK W) * p + q)))).length = min 20000 (nB (kS (wK W)) ((opT (kB (wK W)) (kS (wK W) * p + q)))) from congrArg (min 20000) flA_n] at q0_
      obtain rfl := q0_
      have e2 : A2 1 = upd (A1 1) (223 + kS (wK W) * p + q) (-1) := (ha2 1 rfl).trans rf_u_s
      show RR _ _ 67 [some (.ref 146), some (.int (nI p)), some (.int (nI q)), some (.int (nI ((223 + ((kS (wK W)) * p)) + q))), some (.int (nI u)), some (.int (nI (min 20000 (nB (kS (wK W)) (kB (wK W)))))), none] [.int (nI (min 20000 (nB (kS (wK W)) (opT (kB (wK W)) (kS (wK W) * p + q)))))] g2 A2 _
      refine rr_nx (pc' := 69) (al' := [some (.ref 146), some (.int (nI p)), some (.int (nI q)), some (.int (nI ((223 + ((kS (wK W)) * p)) + q))), some (.int (nI u)), some (.int (nI (min 20000 (nB (kS (wK W)) (kB (wK W)))))), some (.int (nI (min 20000 (nB (kS (wK W)) (opT (kB (wK W)) (kS (wK W) * p + q))))))]) (st' := []) d_284_67 (fun _ => rfl) ?_
      refine rr_nx (pc' := 70) (al' := [some (.ref 146), some (.int (nI p)), some (.int (nI q)), some (.int (nI ((223 + ((kS (wK W)) * p)) + q))), some (.int (nI u)), some (.int (nI (min 20000 (nB (kS (wK W)) (kB (wK W)))))), some (.int (nI (min 20000 (nB (kS (wK W)) (opT (kB (wK W)) (kS (wK W) * p + q))))))]) (st' := [.ref 146]) d_284_69 (fun _ => rfl) ?_
      refine rr_gf (v := .ref (147 + 1)) d_284_70 mo_284 fl_13 rfl ?_
      refine rr_nx (pc' := 74) (al' := [some (.ref 146), some (.int (nI p)), some (.int (nI q)), some (.int (nI ((223 + ((kS (wK W)) * p)) + q))), some (.int (nI u)), some (.int (nI (min 20000 (nB (kS (wK W)) (kB (wK W)))))), some (.int (nI (min 20000 (nB (kS (wK W)) (opT (kB (wK W)) (kS (wK W) * p + q))))))]) (st' := [.int (nI ((223 + ((kS (wK W)) * p)) + q)), .ref (147 + 1)]) d_284_73 (fun _ => rfl) ?_
      refine rr_nx (pc' := 76) (al' := [some (.ref 146), some (.int (nI p)), some (.int (nI q)), some (.int (nI ((223 + ((kS (wK W)) * p)) + q))), some (.int (nI u)), some (.int (nI (min 20000 (nB (kS (wK W)) (kB (wK W)))))), some (.int (nI (min 20000 (nB (kS (wK W)) (opT (kB (wK W)) (kS (wK W) * p + q))))))]) (st' := [.int (nI u), .int (nI ((223 + ((kS (wK W)) * p)) + q)), .ref (147 + 1)]) d_284_74 (fun _ => rfl) ?_
      refine rr_iS (j := 1) (A1 := (rf_u A2 1 (upd (A2 1) ((223 + ((kS (wK W)) * p)) + q) (nI u)))) d_284_76 (by decide) rfl (by decide) (show (223 + ((kS (wK W)) * p)) + q < 5720 by omega) rfl ?_
      refine rr_nx (pc' := 79) (al' := [some (.ref 146), some (.int (nI p)), some (.int (nI q)), some (.int (nI ((223 + ((kS (wK W)) * p)) + q))), some (.int (nI u)), some (.int (nI (min 20000 (nB (kS (wK W)) (kB (wK W)))))), some (.int (nI (min 20000 (nB (kS (wK W)) (opT (kB (wK W)) (kS (wK W) * p + q))))))]) (st' := [.int (nI (min 20000 (nB (kS (wK W)) (kB (wK W)))))]) d_284_77 (fun _ => rfl) ?_
      refine rr_nx (pc' := 81) (al' := [some (.ref 146), some (.int (nI p)), some (.int (nI q)), some (.int (nI ((223 + ((kS (wK W)) * p)) + q))), some (.int (nI u)), some (.int (nI (min 20000 (nB (kS (wK W)) (kB (wK W)))))), some (.int (nI (min 20000 (nB (kS (wK W)) (opT (kB (wK W)) (kS (wK W) * p + q))))))]) (st' := [.int (nI (min 20000 (nB (kS (wK W)) (opT (kB (wK W)) (kS (wK W) * p + q))))), .int (nI (min 20000 (nB (kS (wK W)) (kB (wK W)))))]) d_284_79 (fun _ => rfl) ?_
      refine rn_cne (t := 88) d_284_81 (by decide) (by first | omega | assumption | exact cu_36 (by omega) (cu_lt (by omega) (by omega))) (by first | omega | assumption | exact cu_36 (by omega) (cu_lt (by omega) (by omega))) (fun c81 => ?_) (fun c81 => ?_)
      · refine rn_ic (v := 0) d_284_88 (by decide) ?_
        exact rr_ri d_284_89 mr_284 rfl ⟨by rw [if_neg c81], (hW.q (hg1.tr hg2) (fun j hj => if e : j = 1 then (by rw [e, rf_u_s, e2, e1]; exact upd_b hb6) else (by rw [rf_u_n e, ha2 j hj, rf_u_n e, ha1 j hj]))).mo⟩
      · refine rn_ic (v := 1) d_284_84 (by decide) ?_
        refine rr_nx (pc' := 89) (al' := [some (.ref 146), some (.int (nI p)), some (.int (nI q)), some (.int (nI ((223 + ((kS (wK W)) * p)) + q))), some (.int (nI u)), some (.int (nI (min 20000 (nB (kS (wK W)) (kB (wK W)))))), some (.int (nI (min 20000 (nB (kS (wK W)) (opT (kB (wK W)) (kS (wK W) * p + q))))))]) (st' := [.int (nI 1)]) d_284_85 (fun _ => rfl) ?_
        exact rr_ri d_284_89 mr_284 rfl ⟨by rw [if_pos c81], (hW.q (hg1.tr hg2) (fun j hj => if e : j = 1 then (by rw [e, rf_u_s, e2, e1]; exact upd_b hb6) else (by rw [rf_u_n e, ha2 j hj, rf_u_n e, ha1 j hj]))).mo⟩
    · exact absurd c39 (ia_ne (by omega))
  · exact absurd ⟨(in_j (by omega)).mpr hp, (in_j (by omega)).mpr hq⟩ c6
theorem r_spare_o {g : Nat → Int32} {A : Nat → Nat → Int32} {n : Nat} {W : WS} (hW : WR n g A W) (hO : CoOk (wK W)) {p q : Nat} (hp : p < kS (wK W)) (hq : q < kS (wK W)) (hcu : kB (wK W) (kS (wK W) * p + q) = none) : RR 80 284 0 [some (.ref 146), some (.int (nI p)), some (.int (nI q)), none, none, none, none] [] g A (fun r__ g' A' => r__ = some (.int (-1)) ∧ WR (n + 1) g' A' W) := by
  have hS6 := hO.2.2.2.1
  have h36 := Nat.mul_le_mul hS6 hS6
  have hlt : (kS (wK W) * p + q) < kS (wK W) * kS (wK W) := cu_lt hp hq
  have hb6 : A 1 (223 + kS (wK W) * p + q) = -1 := by rw [show 223 + kS (wK W) * p + q = 223 + (kS (wK W) * p + q) by omega]; exact (hW.1.2.2.2.2 _ hlt).trans (by rw [hcu]; rfl)
  refine rr_nx (pc' := 1) (al' := [some (.ref 146), some (.int (nI p)), some (.int (nI q)), none, none, none, none]) (st' := [.ref 146]) d_284_0 (fun _ => rfl) ?_
  refine rr_nx (pc' := 2) (al' := [some (.ref 146), some (.int (nI p)), some (.int (nI q)), none, none, none, none]) (st' := [.int (nI p), .ref 146]) d_284_1 (fun _ => rfl) ?_
  refine rr_nx (pc' := 3) (al' := [some (.ref 146), some (.int (nI p)), some (.int (nI q)), none, none, none, none]) (st' := [.int (nI q), .int (nI p), .ref 146]) d_284_2 (fun _ => rfl) ?_
  refine rr_pv (as := [.int (nI p), .int (nI q)]) (al0 := [some (.ref 146), some (.int (nI p)), some (.int (nI q))]) (r := []) d_284_3 mo_284 ml_380 mz_280 rfl rfl rfl (Nat.le_of_ble_eq_true rfl) (s_isOnBoard hW hO) ?_
  show RR _ _ 6 [some (.ref 146), some (.int (nI p)), some (.int (nI q)), none, none, none, none] [.int (bI (inP (nI p) (kS (wK W)) ∧ inP (nI q) (kS (wK W))))] g A _
  refine rr_bne (t := 11) d_284_6 (by decide) (fun c6 => ?_) (fun c6 => ?_)
  · refine rn_sp (v := 223) d_284_11 (by decide) ?_
    refine rr_nx (pc' := 15) (al' := [some (.ref 146), some (.int (nI p)), some (.int (nI q)), none, none, none, none]) (st' := [.ref 146, .int (nI 223)]) d_284_14 (fun _ => rfl) ?_
    refine rr_gf (v := .ref (147 + 1)) d_284_15 mo_284 fl_13 rfl ?_
    refine rn_sp (v := 222) d_284_18 (by decide) ?_
    refine rr_ia (j := 1) (v := (nI (kS (wK W)))) d_284_21 (by decide) rfl (by decide) (show 222 < 5720 by first | omega | assumption | exact cu_36 (by omega) (cu_lt (by omega) (by omega))) hW.1.2.2.2.1 ?_
    refine rr_nx (pc' := 23) (al' := [some (.ref 146), some (.int (nI p)), some (.int (nI q)), none, none, none, none]) (st' := [.int (nI p), .int (nI (kS (wK W))), .int (nI 223)]) d_284_22 (fun _ => rfl) ?_
    refine rn_mul d_284_23  ?_
    refine rn_add d_284_24  ?_
    refine rr_nx (pc' := 26) (al' := [some (.ref 146), some (.int (nI p)), some (.int (nI q)), none, none, none, none]) (st' := [.int (nI q), .int (nI (223 + ((kS (wK W)) * p)))]) d_284_25 (fun _ => rfl) ?_
    refine rn_add d_284_26  ?_
    refine rr_nx (pc' := 28) (al' := [some (.ref 146), some (.int (nI p)), some (.int (nI q)), some (.int (nI ((223 + ((kS (wK W)) * p)) + q))), none, none, none]) (st' := []) d_284_27 (fun _ => rfl) ?_
    refine rr_nx (pc' := 29) (al' := [some (.ref 146), some (.int (nI p)), some (.int (nI q)), some (.int (nI ((223 + ((kS (wK W)) * p)) + q))), none, none, none]) (st' := [.ref 146]) d_284_28 (fun _ => rfl) ?_
    refine rr_gf (v := .ref (147 + 1)) d_284_29 mo_284 fl_13 rfl ?_
    refine rr_nx (pc' := 33) (al' := [some (.ref 146), some (.int (nI p)), some (.int (nI q)), some (.int (nI ((223 + ((kS (wK W)) * p)) + q))), none, none, none]) (st' := [.int (nI ((223 + ((kS (wK W)) * p)) + q)), .ref (147 + 1)]) d_284_32 (fun _ => rfl) ?_
    refine rr_ia (j := 1) (v := (-1)) d_284_33 (by decide) rfl (by decide) (show (223 + ((kS (wK W)) * p)) + q < 5720 by omega) hb6 ?_
    refine rr_nx (pc' := 36) (al' := [some (.ref 146), some (.int (nI p)), some (.int (nI q)), some (.int (nI ((223 + ((kS (wK W)) * p)) + q))), some (.int (-1)), none, none]) (st' := []) d_284_34 (fun _ => rfl) ?_
    refine rr_nx (pc' := 38) (al' := [some (.ref 146), some (.int (nI p)), some (.int (nI q)), some (.int (nI ((223 + ((kS (wK W)) * p)) + q))), some (.int (-1)), none, none]) (st' := [.int (-1)]) d_284_36 (fun _ => rfl) ?_
    refine rr_nx (pc' := 39) (al' := [some (.ref 146), some (.int (nI p)), some (.int (nI q)), some (.int (nI ((223 + ((kS (wK W)) * p)) + q))), some (.int (-1)), none, none]) (st' := [.int (-1), .int (-1)]) d_284_38 (fun _ => rfl) ?_
    refine rr_cne (t := 44) d_284_39 (by decide) (fun c39 => ?_) (fun c39 => ?_)
    · exact absurd rfl c39
    · refine rr_nx (pc' := 43) (al' := [some (.ref 146), some (.int (nI p)), some (.int (nI q)), some (.int (nI ((223 + ((kS (wK W)) * p)) + q))), some (.int (-1)), none, none]) (st' := [.int (-1)]) d_284_42 (fun _ => rfl) ?_
      exact rr_ri d_284_43 mr_284 rfl ⟨rfl, hW.mo⟩
  · exact absurd ⟨(in_j (by omega)).mpr hp, (in_j (by omega)).mpr hq⟩ c6
theorem r_spare_n {g : Nat → Int32} {A : Nat → Nat → Int32} {n : Nat} {W : WS} (hW : WR n g A W) (hO : CoOk (wK W)) {x z : Int32} (hx : ¬ (inP x (kS (wK W)) ∧ inP z (kS (wK W)))) : RR 80 284 0 [some (.ref 146), some (.int x), some (.int z), none, none, none, none] [] g A (fun r__ g' A' => r__ = some (.int (-1)) ∧ WR (n + 1) g' A' W) := by
  refine rr_nx (pc' := 1) (al' := [some (.ref 146), some (.int x), some (.int z), none, none, none, none]) (st' := [.ref 146]) d_284_0 (fun _ => rfl) ?_
  refine rr_nx (pc' := 2) (al' := [some (.ref 146), some (.int x), some (.int z), none, none, none, none]) (st' := [.int x, .ref 146]) d_284_1 (fun _ => rfl) ?_
  refine rr_nx (pc' := 3) (al' := [some (.ref 146), some (.int x), some (.int z), none, none, none, none]) (st' := [.int z, .int x, .ref 146]) d_284_2 (fun _ => rfl) ?_
  refine rr_pv (as := [.int x, .int z]) (al0 := [some (.ref 146), some (.int x), some (.int z)]) (r := []) d_284_3 mo_284 ml_380 mz_280 rfl rfl rfl (Nat.le_of_ble_eq_true rfl) (s_isOnBoard hW hO) ?_
  show RR _ _ 6 [some (.ref 146), some (.int x), some (.int z), none, none, none, none] [.int (bI (inP x (kS (wK W)) ∧ inP z (kS (wK W))))] g A _
  refine rr_bne (t := 11) d_284_6 (by decide) (fun c6 => ?_) (fun c6 => ?_)
  · exact absurd c6 hx
  · refine rr_nx (pc' := 10) (al' := [some (.ref 146), some (.int x), some (.int z), none, none, none, none]) (st' := [.int (-1)]) d_284_9 (fun _ => rfl) ?_
    exact rr_ri d_284_10 mr_284 rfl ⟨rfl, hW.mo⟩
theorem T_spare {S : CS} {G : Nat → Nat → Value} {B : Nat → Nat → Int32} {J : Nat → Nat → Int64} {R : Nat → Nat → Option Nat} {g : Nat → Int32} {A : Nat → Nat → Int32} {n : Nat} {W : WS} (hC : WC n S G B R W) (hR : WR n g A W) (hn : n ≤ 10000) {x : Int32} {z : Int32} : Tie n 169 284 [some (.ref 2), some (.int x), some (.int z), none, none, none, none] [some (.ref 146), some (.int x), some (.int z), none, none, none, none] S G B J R g A W := by
  have hO := hC.2.2.2.1
  by_cases hx : inP x (kS (wK W)) ∧ inP z (kS (wK W))
  · obtain ⟨p, hp, e_⟩ := in_n hx.1
    subst e_
    obtain ⟨q, hq, e_⟩ := in_n hx.2
    subst e_
    cases hcu : kB (wK W) (kS (wK W) * p + q) with
    | none => exact ⟨_, W, p_spare_o hC hp hq hcu, r_spare_o hR hO hp hq hcu⟩
    | some u => exact ⟨_, W, p_spare_y hC hp hq hcu, r_spare_y hR hO hp hq hcu⟩
  · exact ⟨_, W, p_spare_n hC hx, r_spare_n hR hO hx⟩
