/-! Units, differences, latin rows; products, extensions, groups; printed by wip/whole/gen_a5.py. -/
theorem unI_f {w n : Nat} {c : Nat → Nat} {d : Nat} (hd : d = unI w n c) : d ≤ n ∧ (∀ e, e < d → ¬ ∀ x, x < n → okU w n c e x) ∧ (d < n → ∀ x, x < n → okU w n c d x) := by
  subst hd
  exact ⟨FX_le _ n, fun e he => of_decide_eq_false (FX_no _ n e he), fun h => of_decide_eq_true (FX_yes (fun e => decide (∀ x, x < n → okU w n c e x)) n h)⟩
theorem okU_f {w n : Nat} {c : Nat → Nat} (e : Nat) : ∃ d, d ≤ n ∧ (∀ x, x < d → okU w n c e x) ∧ (d < n → ¬ okU w n c e d) := by
  refine ⟨FX (fun x => decide (¬ okU w n c e x)) n, FX_le _ n, fun x hx => ?_, fun h => ?_⟩
  · exact Decidable.not_not.mp (of_decide_eq_false (FX_no _ n x hx))
  · exact of_decide_eq_true (FX_yes (fun x => decide (¬ okU w n c e x)) n h)
theorem unV_t {w n : Nat} {c : Nat → Nat} {d : Nat} (hd : d = unI w n c) (h : d < n) : nI d = unV w n c := by subst hd; rw [unV, if_pos h]
theorem unV_f {w n : Nat} {c : Nat → Nat} {d : Nat} (hd : d = unI w n c) (h : n ≤ d) : -1 = unV w n c := by subst hd; rw [unV, if_neg (by omega)]
theorem k_unitFrom0 {S : CS} {G : Nat → Nat → Value} {B : Nat → Nat → Int32} {J : Nat → Nat → Int64} {R : Nat → Nat → Option Nat} {a n : Nat} (ht : TabAt S G a) (hn : G a 0 = .int (nI n)) {c : Nat → Nat} (hc : TabC B a n c) : CR 1 107 0 [some (.ref a), some (.int (nI 1)), some (.int (nI 1)), none, none] [] S G B J R (cP (some (.int (unV 0 n c))) S G B J R) := by
  have hn6 := hc.1
  obtain ⟨d, hd⟩ : ∃ d, d = unI 0 n c := ⟨_, rfl⟩
  obtain ⟨hdn, hu, hy⟩ := unI_f hd
  refine cn_ic (v := 0) d_107_0 (by decide) ?_
  refine cr_nx (pc' := 2) (al' := [some (.ref a), some (.int (nI 1)), some (.int (nI 1)), some (.int (nI 0)), none]) (st' := []) d_107_1 (fun _ => rfl) ?_
  refine cr_up (al := fun e => [some (.ref a), some (.int (nI 1)), some (.int (nI 1)), some (.int (nI e)), none]) (S := fun e => S) (G := fun e => G) (B := fun e => B) (J := fun e => J) (R := fun e => R) (P := fun e => True) (n := d) (fun e he pe ihe => ?_) (fun pe => ?_) 0  (by omega) (trivial)
  · show CR _ _ 2 [some (.ref a), some (.int (nI 1)), some (.int (nI 1)), some (.int (nI e)), none] [] S G B J R _
    obtain ⟨dx, hx1, hx2, hx3⟩ := okU_f (w := 0) (n := n) (c := c) e
    refine cr_nx (pc' := 3) (al' := [some (.ref a), some (.int (nI 1)), some (.int (nI 1)), some (.int (nI e)), none]) (st' := [.int (nI e)]) d_107_2 (fun _ => rfl) ?_
    refine cr_nx (pc' := 4) (al' := [some (.ref a), some (.int (nI 1)), some (.int (nI 1)), some (.int (nI e)), none]) (st' := [.ref a, .int (nI e)]) d_107_3 (fun _ => rfl) ?_
    refine cr_gf (v := .int (nI n)) d_107_4 cw_107 cf_10_15 ht.1 ht.2.2.1 (by decide) hn ?_
    refine cn_cge (t := 77) d_107_7 (by decide) (by first | omega | assumption | exact cu_36 (by omega) (cu_lt (by omega) (by omega))) (by first | omega | assumption | exact cu_36 (by omega) (cu_lt (by omega) (by omega))) (fun c7 => ?_) (fun c7 => ?_)
    · omega
    · refine cn_ic (v := 0) d_107_10 (by decide) ?_
      refine cr_nx (pc' := 13) (al' := [some (.ref a), some (.int (nI 1)), some (.int (nI 1)), some (.int (nI e)), some (.int (nI 0))]) (st' := []) d_107_11 (fun _ => rfl) ?_
      refine cr_up (al := fun x => [some (.ref a), some (.int (nI 1)), some (.int (nI 1)), some (.int (nI e)), some (.int (nI x))]) (S := fun x => S) (G := fun x => G) (B := fun x => B) (J := fun x => J) (R := fun x => R) (P := fun x => True) (n := dx) (fun x hx px ihx => ?_) (fun px => ?_) 0  (by omega) (trivial)
      · show CR _ _ 13 [some (.ref a), some (.int (nI 1)), some (.int (nI 1)), some (.int (nI e)), some (.int (nI x))] [] S G B J R _
        refine cr_nx (pc' := 15) (al' := [some (.ref a), some (.int (nI 1)), some (.int (nI 1)), some (.int (nI e)), some (.int (nI x))]) (st' := [.int (nI x)]) d_107_13 (fun _ => rfl) ?_
        refine cr_nx (pc' := 16) (al' := [some (.ref a), some (.int (nI 1)), some (.int (nI 1)), some (.int (nI e)), some (.int (nI x))]) (st' := [.ref a, .int (nI x)]) d_107_15 (fun _ => rfl) ?_
        refine cr_gf (v := .int (nI n)) d_107_16 cw_107 cf_10_15 ht.1 ht.2.2.1 (by decide) hn ?_
        refine cn_cge (t := 60) d_107_19 (by decide) (by first | omega | assumption | exact cu_36 (by omega) (cu_lt (by omega) (by omega))) (by first | omega | assumption | exact cu_36 (by omega) (cu_lt (by omega) (by omega))) (fun c19 => ?_) (fun c19 => ?_)
        · omega
        · refine cr_nx (pc' := 23) (al' := [some (.ref a), some (.int (nI 1)), some (.int (nI 1)), some (.int (nI e)), some (.int (nI x))]) (st' := [.int (nI 1)]) d_107_22 (fun _ => rfl) ?_
          refine cn_ieq (t := 38) d_107_23 (by decide) (by first | omega | assumption | exact cu_36 (by omega) (cu_lt (by omega) (by omega))) (fun c23 => ?_) (fun c23 => ?_)
          · omega
          · refine cr_nx (pc' := 27) (al' := [some (.ref a), some (.int (nI 1)), some (.int (nI 1)), some (.int (nI e)), some (.int (nI x))]) (st' := [.ref a]) d_107_26 (fun _ => rfl) ?_
            refine cr_nx (pc' := 28) (al' := [some (.ref a), some (.int (nI 1)), some (.int (nI 1)), some (.int (nI e)), some (.int (nI x))]) (st' := [.int (nI e), .ref a]) d_107_27 (fun _ => rfl) ?_
            refine cr_nx (pc' := 30) (al' := [some (.ref a), some (.int (nI 1)), some (.int (nI 1)), some (.int (nI e)), some (.int (nI x))]) (st' := [.int (nI x), .int (nI e), .ref a]) d_107_28 (fun _ => rfl) ?_
            refine cr_pv (b := a) (as := [.int (nI e), .int (nI x)]) (al0 := [some (.ref a), some (.int (nI e)), some (.int (nI x))]) (r := []) d_107_30 cw_107 cm_10_23 cz_91 rfl rfl ht.1 (by rw [cw_91]; exact ht.2.2.1) (by rw [cw_91]; decide) rfl (Nat.le_of_ble_eq_true rfl) (k_times ht hn hc (by omega) (by omega)) ?_
            show CR _ _ 33 [some (.ref a), some (.int (nI 1)), some (.int (nI 1)), some (.int (nI e)), some (.int (nI x))] [.int (nI (c (n * e + x)))] S G B J R _
            have b30 : c (n * e + x) < n := (hc.2 _ (cu_lt (by omega) (by omega))).2
            refine cr_nx (pc' := 35) (al' := [some (.ref a), some (.int (nI 1)), some (.int (nI 1)), some (.int (nI e)), some (.int (nI x))]) (st' := [.int (nI x), .int (nI (c (n * e + x)))]) d_107_33 (fun _ => rfl) ?_
            refine cn_cne (t := 60) d_107_35 (by decide) (by first | omega | assumption | exact cu_36 (by omega) (cu_lt (by omega) (by omega))) (by first | omega | assumption | exact cu_36 (by omega) (cu_lt (by omega) (by omega))) (fun c35 => ?_) (fun c35 => ?_)
            · exact absurd ((hx2 x hx).1.resolve_left (by decide)) c35
            · refine cr_nx (pc' := 39) (al' := [some (.ref a), some (.int (nI 1)), some (.int (nI 1)), some (.int (nI e)), some (.int (nI x))]) (st' := [.int (nI 1)]) d_107_38 (fun _ => rfl) ?_
              refine cn_ieq (t := 54) d_107_39 (by decide) (by first | omega | assumption | exact cu_36 (by omega) (cu_lt (by omega) (by omega))) (fun c39 => ?_) (fun c39 => ?_)
              · omega
              · refine cr_nx (pc' := 43) (al' := [some (.ref a), some (.int (nI 1)), some (.int (nI 1)), some (.int (nI e)), some (.int (nI x))]) (st' := [.ref a]) d_107_42 (fun _ => rfl) ?_
                refine cr_nx (pc' := 45) (al' := [some (.ref a), some (.int (nI 1)), some (.int (nI 1)), some (.int (nI e)), some (.int (nI x))]) (st' := [.int (nI x), .ref a]) d_107_43 (fun _ => rfl) ?_
                refine cr_nx (pc' := 46) (al' := [some (.ref a), some (.int (nI 1)), some (.int (nI 1)), some (.int (nI e)), some (.int (nI x))]) (st' := [.int (nI e), .int (nI x), .ref a]) d_107_45 (fun _ => rfl) ?_
                refine cr_pv (b := a) (as := [.int (nI x), .int (nI e)]) (al0 := [some (.ref a), some (.int (nI x)), some (.int (nI e))]) (r := []) d_107_46 cw_107 cm_10_23 cz_91 rfl rfl ht.1 (by rw [cw_91]; exact ht.2.2.1) (by rw [cw_91]; decide) rfl (Nat.le_of_ble_eq_true rfl) (k_times ht hn hc (by omega) (by omega)) ?_
                show CR _ _ 49 [some (.ref a), some (.int (nI 1)), some (.int (nI 1)), some (.int (nI e)), some (.int (nI x))] [.int (nI (c (n * x + e)))] S G B J R _
                have b46 : c (n * x + e) < n := (hc.2 _ (cu_lt (by omega) (by omega))).2
                refine cr_nx (pc' := 51) (al' := [some (.ref a), some (.int (nI 1)), some (.int (nI 1)), some (.int (nI e)), some (.int (nI x))]) (st' := [.int (nI x), .int (nI (c (n * x + e)))]) d_107_49 (fun _ => rfl) ?_
                refine cn_cne (t := 60) d_107_51 (by decide) (by first | omega | assumption | exact cu_36 (by omega) (cu_lt (by omega) (by omega))) (by first | omega | assumption | exact cu_36 (by omega) (cu_lt (by omega) (by omega))) (fun c51 => ?_) (fun c51 => ?_)
                · exact absurd ((hx2 x hx).2.resolve_left (by decide)) c51
                · refine cn_inc d_107_54 rfl rfl ?_
                  show CR _ _ 57 [some (.ref a), some (.int (nI 1)), some (.int (nI 1)), some (.int (nI e)), some (.int (nI (x + 1)))] [] S G B J R _
                  refine cr_nx (pc' := 13) (al' := [some (.ref a), some (.int (nI 1)), some (.int (nI 1)), some (.int (nI e)), some (.int (nI (x + 1)))]) (st' := []) d_107_57 (fun _ => rfl) ?_
                  exact ihx  (trivial)
      · show CR _ _ 13 [some (.ref a), some (.int (nI 1)), some (.int (nI 1)), some (.int (nI e)), some (.int (nI dx))] [] S G B J R _
        refine cr_nx (pc' := 15) (al' := [some (.ref a), some (.int (nI 1)), some (.int (nI 1)), some (.int (nI e)), some (.int (nI dx))]) (st' := [.int (nI dx)]) d_107_13 (fun _ => rfl) ?_
        refine cr_nx (pc' := 16) (al' := [some (.ref a), some (.int (nI 1)), some (.int (nI 1)), some (.int (nI e)), some (.int (nI dx))]) (st' := [.ref a, .int (nI dx)]) d_107_15 (fun _ => rfl) ?_
        refine cr_gf (v := .int (nI n)) d_107_16 cw_107 cf_10_15 ht.1 ht.2.2.1 (by decide) hn ?_
        refine cn_cge (t := 60) d_107_19 (by decide) (by first | omega | assumption | exact cu_36 (by omega) (cu_lt (by omega) (by omega))) (by first | omega | assumption | exact cu_36 (by omega) (cu_lt (by omega) (by omega))) (fun c19 => ?_) (fun c19 => ?_)
        · refine cr_nx (pc' := 62) (al' := [some (.ref a), some (.int (nI 1)), some (.int (nI 1)), some (.int (nI e)), some (.int (nI dx))]) (st' := [.int (nI dx)]) d_107_60 (fun _ => rfl) ?_
          refine cr_nx (pc' := 63) (al' := [some (.ref a), some (.int (nI 1)), some (.int (nI 1)), some (.int (nI e)), some (.int (nI dx))]) (st' := [.ref a, .int (nI dx)]) d_107_62 (fun _ => rfl) ?_
          refine cr_gf (v := .int (nI n)) d_107_63 cw_107 cf_10_15 ht.1 ht.2.2.1 (by decide) hn ?_
          refine cn_cne (t := 71) d_107_66 (by decide) (by first | omega | assumption | exact cu_36 (by omega) (cu_lt (by omega) (by omega))) (by first | omega | assumption | exact cu_36 (by omega) (cu_lt (by omega) (by omega))) (fun c66 => ?_) (fun c66 => ?_)
          · refine cn_inc d_107_71 rfl rfl ?_
            show CR _ _ 74 [some (.ref a), some (.int (nI 1)), some (.int (nI 1)), some (.int (nI (e + 1))), some (.int (nI dx))] [] S G B J R _
            refine cr_nx (pc' := 2) (al' := [some (.ref a), some (.int (nI 1)), some (.int (nI 1)), some (.int (nI (e + 1))), some (.int (nI dx))]) (st' := []) d_107_74 (fun _ => rfl) ?_
            refine cr_dr (al1 := [some (.ref a), some (.int (nI 1)), some (.int (nI 1)), some (.int (nI (e + 1))), none]) (le_s (le_s (le_s (le_s (le_d rfl (le_n)))))) ?_
            exact ihe  (trivial)
          · exact absurd (fun x hx => hx2 x (by omega)) (hu e he)
        · refine cr_nx (pc' := 23) (al' := [some (.ref a), some (.int (nI 1)), some (.int (nI 1)), some (.int (nI e)), some (.int (nI dx))]) (st' := [.int (nI 1)]) d_107_22 (fun _ => rfl) ?_
          refine cn_ieq (t := 38) d_107_23 (by decide) (by first | omega | assumption | exact cu_36 (by omega) (cu_lt (by omega) (by omega))) (fun c23 => ?_) (fun c23 => ?_)
          · omega
          · refine cr_nx (pc' := 27) (al' := [some (.ref a), some (.int (nI 1)), some (.int (nI 1)), some (.int (nI e)), some (.int (nI dx))]) (st' := [.ref a]) d_107_26 (fun _ => rfl) ?_
            refine cr_nx (pc' := 28) (al' := [some (.ref a), some (.int (nI 1)), some (.int (nI 1)), some (.int (nI e)), some (.int (nI dx))]) (st' := [.int (nI e), .ref a]) d_107_27 (fun _ => rfl) ?_
            refine cr_nx (pc' := 30) (al' := [some (.ref a), some (.int (nI 1)), some (.int (nI 1)), some (.int (nI e)), some (.int (nI dx))]) (st' := [.int (nI dx), .int (nI e), .ref a]) d_107_28 (fun _ => rfl) ?_
            refine cr_pv (b := a) (as := [.int (nI e), .int (nI dx)]) (al0 := [some (.ref a), some (.int (nI e)), some (.int (nI dx))]) (r := []) d_107_30 cw_107 cm_10_23 cz_91 rfl rfl ht.1 (by rw [cw_91]; exact ht.2.2.1) (by rw [cw_91]; decide) rfl (Nat.le_of_ble_eq_true rfl) (k_times ht hn hc (by omega) (by omega)) ?_
            show CR _ _ 33 [some (.ref a), some (.int (nI 1)), some (.int (nI 1)), some (.int (nI e)), some (.int (nI dx))] [.int (nI (c (n * e + dx)))] S G B J R _
            have b30 : c (n * e + dx) < n := (hc.2 _ (cu_lt (by omega) (by omega))).2
            refine cr_nx (pc' := 35) (al' := [some (.ref a), some (.int (nI 1)), some (.int (nI 1)), some (.int (nI e)), some (.int (nI dx))]) (st' := [.int (nI dx), .int (nI (c (n * e + dx)))]) d_107_33 (fun _ => rfl) ?_
            refine cn_cne (t := 60) d_107_35 (by decide) (by first | omega | assumption | exact cu_36 (by omega) (cu_lt (by omega) (by omega))) (by first | omega | assumption | exact cu_36 (by omega) (cu_lt (by omega) (by omega))) (fun c35 => ?_) (fun c35 => ?_)
            · refine cr_nx (pc' := 62) (al' := [some (.ref a), some (.int (nI 1)), some (.int (nI 1)), some (.int (nI e)), some (.int (nI dx))]) (st' := [.int (nI dx)]) d_107_60 (fun _ => rfl) ?_
              refine cr_nx (pc' := 63) (al' := [some (.ref a), some (.int (nI 1)), some (.int (nI 1)), some (.int (nI e)), some (.int (nI dx))]) (st' := [.ref a, .int (nI dx)]) d_107_62 (fun _ => rfl) ?_
              refine cr_gf (v := .int (nI n)) d_107_63 cw_107 cf_10_15 ht.1 ht.2.2.1 (by decide) hn ?_
              refine cn_cne (t := 71) d_107_66 (by decide) (by first | omega | assumption | exact cu_36 (by omega) (cu_lt (by omega) (by omega))) (by first | omega | assumption | exact cu_36 (by omega) (cu_lt (by omega) (by omega))) (fun c66 => ?_) (fun c66 => ?_)
              · refine cn_inc d_107_71 rfl rfl ?_
                show CR _ _ 74 [some (.ref a), some (.int (nI 1)), some (.int (nI 1)), some (.int (nI (e + 1))), some (.int (nI dx))] [] S G B J R _
                refine cr_nx (pc' := 2) (al' := [some (.ref a), some (.int (nI 1)), some (.int (nI 1)), some (.int (nI (e + 1))), some (.int (nI dx))]) (st' := []) d_107_74 (fun _ => rfl) ?_
                refine cr_dr (al1 := [some (.ref a), some (.int (nI 1)), some (.int (nI 1)), some (.int (nI (e + 1))), none]) (le_s (le_s (le_s (le_s (le_d rfl (le_n)))))) ?_
                exact ihe  (trivial)
              · exact absurd (fun x hx => hx2 x (by omega)) (hu e he)
            · refine cr_nx (pc' := 39) (al' := [some (.ref a), some (.int (nI 1)), some (.int (nI 1)), some (.int (nI e)), some (.int (nI dx))]) (st' := [.int (nI 1)]) d_107_38 (fun _ => rfl) ?_
              refine cn_ieq (t := 54) d_107_39 (by decide) (by first | omega | assumption | exact cu_36 (by omega) (cu_lt (by omega) (by omega))) (fun c39 => ?_) (fun c39 => ?_)
              · omega
              · refine cr_nx (pc' := 43) (al' := [some (.ref a), some (.int (nI 1)), some (.int (nI 1)), some (.int (nI e)), some (.int (nI dx))]) (st' := [.ref a]) d_107_42 (fun _ => rfl) ?_
                refine cr_nx (pc' := 45) (al' := [some (.ref a), some (.int (nI 1)), some (.int (nI 1)), some (.int (nI e)), some (.int (nI dx))]) (st' := [.int (nI dx), .ref a]) d_107_43 (fun _ => rfl) ?_
                refine cr_nx (pc' := 46) (al' := [some (.ref a), some (.int (nI 1)), some (.int (nI 1)), some (.int (nI e)), some (.int (nI dx))]) (st' := [.int (nI e), .int (nI dx), .ref a]) d_107_45 (fun _ => rfl) ?_
                refine cr_pv (b := a) (as := [.int (nI dx), .int (nI e)]) (al0 := [some (.ref a), some (.int (nI dx)), some (.int (nI e))]) (r := []) d_107_46 cw_107 cm_10_23 cz_91 rfl rfl ht.1 (by rw [cw_91]; exact ht.2.2.1) (by rw [cw_91]; decide) rfl (Nat.le_of_ble_eq_true rfl) (k_times ht hn hc (by omega) (by omega)) ?_
                show CR _ _ 49 [some (.ref a), some (.int (nI 1)), some (.int (nI 1)), some (.int (nI e)), some (.int (nI dx))] [.int (nI (c (n * dx + e)))] S G B J R _
                have b46 : c (n * dx + e) < n := (hc.2 _ (cu_lt (by omega) (by omega))).2
                refine cr_nx (pc' := 51) (al' := [some (.ref a), some (.int (nI 1)), some (.int (nI 1)), some (.int (nI e)), some (.int (nI dx))]) (st' := [.int (nI dx), .int (nI (c (n * dx + e)))]) d_107_49 (fun _ => rfl) ?_
                refine cn_cne (t := 60) d_107_51 (by decide) (by first | omega | assumption | exact cu_36 (by omega) (cu_lt (by omega) (by omega))) (by first | omega | assumption | exact cu_36 (by omega) (cu_lt (by omega) (by omega))) (fun c51 => ?_) (fun c51 => ?_)
                · refine cr_nx (pc' := 62) (al' := [some (.ref a), some (.int (nI 1)), some (.int (nI 1)), some (.int (nI e)), some (.int (nI dx))]) (st' := [.int (nI dx)]) d_107_60 (fun _ => rfl) ?_
                  refine cr_nx (pc' := 63) (al' := [some (.ref a), some (.int (nI 1)), some (.int (nI 1)), some (.int (nI e)), some (.int (nI dx))]) (st' := [.ref a, .int (nI dx)]) d_107_62 (fun _ => rfl) ?_
                  refine cr_gf (v := .int (nI n)) d_107_63 cw_107 cf_10_15 ht.1 ht.2.2.1 (by decide) hn ?_
                  refine cn_cne (t := 71) d_107_66 (by decide) (by first | omega | assumption | exact cu_36 (by omega) (cu_lt (by omega) (by omega))) (by first | omega | assumption | exact cu_36 (by omega) (cu_lt (by omega) (by omega))) (fun c66 => ?_) (fun c66 => ?_)
                  · refine cn_inc d_107_71 rfl rfl ?_
                    show CR _ _ 74 [some (.ref a), some (.int (nI 1)), some (.int (nI 1)), some (.int (nI (e + 1))), some (.int (nI dx))] [] S G B J R _
                    refine cr_nx (pc' := 2) (al' := [some (.ref a), some (.int (nI 1)), some (.int (nI 1)), some (.int (nI (e + 1))), some (.int (nI dx))]) (st' := []) d_107_74 (fun _ => rfl) ?_
                    refine cr_dr (al1 := [some (.ref a), some (.int (nI 1)), some (.int (nI 1)), some (.int (nI (e + 1))), none]) (le_s (le_s (le_s (le_s (le_d rfl (le_n)))))) ?_
                    exact ihe  (trivial)
                  · exact absurd (fun x hx => hx2 x (by omega)) (hu e he)
                · exact absurd ⟨by first | exact Or.inl rfl | exact Or.inr c35, by first | exact Or.inl rfl | exact Or.inr c51⟩ (hx3 (by omega))
  · show CR _ _ 2 [some (.ref a), some (.int (nI 1)), some (.int (nI 1)), some (.int (nI d)), none] [] S G B J R _
    obtain ⟨dx, hx1, hx2, hx3⟩ := okU_f (w := 0) (n := n) (c := c) d
    refine cr_nx (pc' := 3) (al' := [some (.ref a), some (.int (nI 1)), some (.int (nI 1)), some (.int (nI d)), none]) (st' := [.int (nI d)]) d_107_2 (fun _ => rfl) ?_
    refine cr_nx (pc' := 4) (al' := [some (.ref a), some (.int (nI 1)), some (.int (nI 1)), some (.int (nI d)), none]) (st' := [.ref a, .int (nI d)]) d_107_3 (fun _ => rfl) ?_
    refine cr_gf (v := .int (nI n)) d_107_4 cw_107 cf_10_15 ht.1 ht.2.2.1 (by decide) hn ?_
    refine cn_cge (t := 77) d_107_7 (by decide) (by first | omega | assumption | exact cu_36 (by omega) (cu_lt (by omega) (by omega))) (by first | omega | assumption | exact cu_36 (by omega) (cu_lt (by omega) (by omega))) (fun c7 => ?_) (fun c7 => ?_)
    · refine cr_nx (pc' := 78) (al' := [some (.ref a), some (.int (nI 1)), some (.int (nI 1)), some (.int (nI d)), none]) (st' := [.int (-1)]) d_107_77 (fun _ => rfl) ?_
      exact cr_ri d_107_78 cx_107 rfl ⟨by rw [unV_f hd c7], rfl, rfl, rfl, rfl, rfl⟩
    · refine cn_ic (v := 0) d_107_10 (by decide) ?_
      refine cr_nx (pc' := 13) (al' := [some (.ref a), some (.int (nI 1)), some (.int (nI 1)), some (.int (nI d)), some (.int (nI 0))]) (st' := []) d_107_11 (fun _ => rfl) ?_
      refine cr_up (al := fun x => [some (.ref a), some (.int (nI 1)), some (.int (nI 1)), some (.int (nI d)), some (.int (nI x))]) (S := fun x => S) (G := fun x => G) (B := fun x => B) (J := fun x => J) (R := fun x => R) (P := fun x => True) (n := dx) (fun x hx px ihx => ?_) (fun px => ?_) 0  (by omega) (trivial)
      · show CR _ _ 13 [some (.ref a), some (.int (nI 1)), some (.int (nI 1)), some (.int (nI d)), some (.int (nI x))] [] S G B J R _
        refine cr_nx (pc' := 15) (al' := [some (.ref a), some (.int (nI 1)), some (.int (nI 1)), some (.int (nI d)), some (.int (nI x))]) (st' := [.int (nI x)]) d_107_13 (fun _ => rfl) ?_
        refine cr_nx (pc' := 16) (al' := [some (.ref a), some (.int (nI 1)), some (.int (nI 1)), some (.int (nI d)), some (.int (nI x))]) (st' := [.ref a, .int (nI x)]) d_107_15 (fun _ => rfl) ?_
        refine cr_gf (v := .int (nI n)) d_107_16 cw_107 cf_10_15 ht.1 ht.2.2.1 (by decide) hn ?_
        refine cn_cge (t := 60) d_107_19 (by decide) (by first | omega | assumption | exact cu_36 (by omega) (cu_lt (by omega) (by omega))) (by first | omega | assumption | exact cu_36 (by omega) (cu_lt (by omega) (by omega))) (fun c19 => ?_) (fun c19 => ?_)
        · omega
        · refine cr_nx (pc' := 23) (al' := [some (.ref a), some (.int (nI 1)), some (.int (nI 1)), some (.int (nI d)), some (.int (nI x))]) (st' := [.int (nI 1)]) d_107_22 (fun _ => rfl) ?_
          refine cn_ieq (t := 38) d_107_23 (by decide) (by first | omega | assumption | exact cu_36 (by omega) (cu_lt (by omega) (by omega))) (fun c23 => ?_) (fun c23 => ?_)
          · omega
          · refine cr_nx (pc' := 27) (al' := [some (.ref a), some (.int (nI 1)), some (.int (nI 1)), some (.int (nI d)), some (.int (nI x))]) (st' := [.ref a]) d_107_26 (fun _ => rfl) ?_
            refine cr_nx (pc' := 28) (al' := [some (.ref a), some (.int (nI 1)), some (.int (nI 1)), some (.int (nI d)), some (.int (nI x))]) (st' := [.int (nI d), .ref a]) d_107_27 (fun _ => rfl) ?_
            refine cr_nx (pc' := 30) (al' := [some (.ref a), some (.int (nI 1)), some (.int (nI 1)), some (.int (nI d)), some (.int (nI x))]) (st' := [.int (nI x), .int (nI d), .ref a]) d_107_28 (fun _ => rfl) ?_
            refine cr_pv (b := a) (as := [.int (nI d), .int (nI x)]) (al0 := [some (.ref a), some (.int (nI d)), some (.int (nI x))]) (r := []) d_107_30 cw_107 cm_10_23 cz_91 rfl rfl ht.1 (by rw [cw_91]; exact ht.2.2.1) (by rw [cw_91]; decide) rfl (Nat.le_of_ble_eq_true rfl) (k_times ht hn hc (by omega) (by omega)) ?_
            show CR _ _ 33 [some (.ref a), some (.int (nI 1)), some (.int (nI 1)), some (.int (nI d)), some (.int (nI x))] [.int (nI (c (n * d + x)))] S G B J R _
            have b30 : c (n * d + x) < n := (hc.2 _ (cu_lt (by omega) (by omega))).2
            refine cr_nx (pc' := 35) (al' := [some (.ref a), some (.int (nI 1)), some (.int (nI 1)), some (.int (nI d)), some (.int (nI x))]) (st' := [.int (nI x), .int (nI (c (n * d + x)))]) d_107_33 (fun _ => rfl) ?_
            refine cn_cne (t := 60) d_107_35 (by decide) (by first | omega | assumption | exact cu_36 (by omega) (cu_lt (by omega) (by omega))) (by first | omega | assumption | exact cu_36 (by omega) (cu_lt (by omega) (by omega))) (fun c35 => ?_) (fun c35 => ?_)
            · exact absurd ((hx2 x hx).1.resolve_left (by decide)) c35
            · refine cr_nx (pc' := 39) (al' := [some (.ref a), some (.int (nI 1)), some (.int (nI 1)), some (.int (nI d)), some (.int (nI x))]) (st' := [.int (nI 1)]) d_107_38 (fun _ => rfl) ?_
              refine cn_ieq (t := 54) d_107_39 (by decide) (by first | omega | assumption | exact cu_36 (by omega) (cu_lt (by omega) (by omega))) (fun c39 => ?_) (fun c39 => ?_)
              · omega
              · refine cr_nx (pc' := 43) (al' := [some (.ref a), some (.int (nI 1)), some (.int (nI 1)), some (.int (nI d)), some (.int (nI x))]) (st' := [.ref a]) d_107_42 (fun _ => rfl) ?_
                refine cr_nx (pc' := 45) (al' := [some (.ref a), some (.int (nI 1)), some (.int (nI 1)), some (.int (nI d)), some (.int (nI x))]) (st' := [.int (nI x), .ref a]) d_107_43 (fun _ => rfl) ?_
                refine cr_nx (pc' := 46) (al' := [some (.ref a), some (.int (nI 1)), some (.int (nI 1)), some (.int (nI d)), some (.int (nI x))]) (st' := [.int (nI d), .int (nI x), .ref a]) d_107_45 (fun _ => rfl) ?_
                refine cr_pv (b := a) (as := [.int (nI x), .int (nI d)]) (al0 := [some (.ref a), some (.int (nI x)), some (.int (nI d))]) (r := []) d_107_46 cw_107 cm_10_23 cz_91 rfl rfl ht.1 (by rw [cw_91]; exact ht.2.2.1) (by rw [cw_91]; decide) rfl (Nat.le_of_ble_eq_true rfl) (k_times ht hn hc (by omega) (by omega)) ?_
                show CR _ _ 49 [some (.ref a), some (.int (nI 1)), some (.int (nI 1)), some (.int (nI d)), some (.int (nI x))] [.int (nI (c (n * x + d)))] S G B J R _
                have b46 : c (n * x + d) < n := (hc.2 _ (cu_lt (by omega) (by omega))).2
                refine cr_nx (pc' := 51) (al' := [some (.ref a), some (.int (nI 1)), some (.int (nI 1)), some (.int (nI d)), some (.int (nI x))]) (st' := [.int (nI x), .int (nI (c (n * x + d)))]) d_107_49 (fun _ => rfl) ?_
                refine cn_cne (t := 60) d_107_51 (by decide) (by first | omega | assumption | exact cu_36 (by omega) (cu_lt (by omega) (by omega))) (by first | omega | assumption | exact cu_36 (by omega) (cu_lt (by omega) (by omega))) (fun c51 => ?_) (fun c51 => ?_)
                · exact absurd ((hx2 x hx).2.resolve_left (by decide)) c51
                · refine cn_inc d_107_54 rfl rfl ?_
                  show CR _ _ 57 [some (.ref a), some (.int (nI 1)), some (.int (nI 1)), some (.int (nI d)), some (.int (nI (x + 1)))] [] S G B J R _
                  refine cr_nx (pc' := 13) (al' := [some (.ref a), some (.int (nI 1)), some (.int (nI 1)), some (.int (nI d)), some (.int (nI (x + 1)))]) (st' := []) d_107_57 (fun _ => rfl) ?_
                  exact ihx  (trivial)
      · show CR _ _ 13 [some (.ref a), some (.int (nI 1)), some (.int (nI 1)), some (.int (nI d)), some (.int (nI dx))] [] S G B J R _
        refine cr_nx (pc' := 15) (al' := [some (.ref a), some (.int (nI 1)), some (.int (nI 1)), some (.int (nI d)), some (.int (nI dx))]) (st' := [.int (nI dx)]) d_107_13 (fun _ => rfl) ?_
        refine cr_nx (pc' := 16) (al' := [some (.ref a), some (.int (nI 1)), some (.int (nI 1)), some (.int (nI d)), some (.int (nI dx))]) (st' := [.ref a, .int (nI dx)]) d_107_15 (fun _ => rfl) ?_
        refine cr_gf (v := .int (nI n)) d_107_16 cw_107 cf_10_15 ht.1 ht.2.2.1 (by decide) hn ?_
        refine cn_cge (t := 60) d_107_19 (by decide) (by first | omega | assumption | exact cu_36 (by omega) (cu_lt (by omega) (by omega))) (by first | omega | assumption | exact cu_36 (by omega) (cu_lt (by omega) (by omega))) (fun c19 => ?_) (fun c19 => ?_)
        · refine cr_nx (pc' := 62) (al' := [some (.ref a), some (.int (nI 1)), some (.int (nI 1)), some (.int (nI d)), some (.int (nI dx))]) (st' := [.int (nI dx)]) d_107_60 (fun _ => rfl) ?_
          refine cr_nx (pc' := 63) (al' := [some (.ref a), some (.int (nI 1)), some (.int (nI 1)), some (.int (nI d)), some (.int (nI dx))]) (st' := [.ref a, .int (nI dx)]) d_107_62 (fun _ => rfl) ?_
          refine cr_gf (v := .int (nI n)) d_107_63 cw_107 cf_10_15 ht.1 ht.2.2.1 (by decide) hn ?_
          refine cn_cne (t := 71) d_107_66 (by decide) (by first | omega | assumption | exact cu_36 (by omega) (cu_lt (by omega) (by omega))) (by first | omega | assumption | exact cu_36 (by omega) (cu_lt (by omega) (by omega))) (fun c66 => ?_) (fun c66 => ?_)
          · exact (hx3 (by omega) (hy c7 dx (by omega))).elim
          · refine cr_nx (pc' := 70) (al' := [some (.ref a), some (.int (nI 1)), some (.int (nI 1)), some (.int (nI d)), some (.int (nI dx))]) (st' := [.int (nI d)]) d_107_69 (fun _ => rfl) ?_
            exact cr_ri d_107_70 cx_107 rfl ⟨by rw [unV_t hd (by omega)], rfl, rfl, rfl, rfl, rfl⟩
        · refine cr_nx (pc' := 23) (al' := [some (.ref a), some (.int (nI 1)), some (.int (nI 1)), some (.int (nI d)), some (.int (nI dx))]) (st' := [.int (nI 1)]) d_107_22 (fun _ => rfl) ?_
          refine cn_ieq (t := 38) d_107_23 (by decide) (by first | omega | assumption | exact cu_36 (by omega) (cu_lt (by omega) (by omega))) (fun c23 => ?_) (fun c23 => ?_)
          · omega
          · refine cr_nx (pc' := 27) (al' := [some (.ref a), some (.int (nI 1)), some (.int (nI 1)), some (.int (nI d)), some (.int (nI dx))]) (st' := [.ref a]) d_107_26 (fun _ => rfl) ?_
            refine cr_nx (pc' := 28) (al' := [some (.ref a), some (.int (nI 1)), some (.int (nI 1)), some (.int (nI d)), some (.int (nI dx))]) (st' := [.int (nI d), .ref a]) d_107_27 (fun _ => rfl) ?_
            refine cr_nx (pc' := 30) (al' := [some (.ref a), some (.int (nI 1)), some (.int (nI 1)), some (.int (nI d)), some (.int (nI dx))]) (st' := [.int (nI dx), .int (nI d), .ref a]) d_107_28 (fun _ => rfl) ?_
            refine cr_pv (b := a) (as := [.int (nI d), .int (nI dx)]) (al0 := [some (.ref a), some (.int (nI d)), some (.int (nI dx))]) (r := []) d_107_30 cw_107 cm_10_23 cz_91 rfl rfl ht.1 (by rw [cw_91]; exact ht.2.2.1) (by rw [cw_91]; decide) rfl (Nat.le_of_ble_eq_true rfl) (k_times ht hn hc (by omega) (by omega)) ?_
            show CR _ _ 33 [some (.ref a), some (.int (nI 1)), some (.int (nI 1)), some (.int (nI d)), some (.int (nI dx))] [.int (nI (c (n * d + dx)))] S G B J R _
            have b30 : c (n * d + dx) < n := (hc.2 _ (cu_lt (by omega) (by omega))).2
            refine cr_nx (pc' := 35) (al' := [some (.ref a), some (.int (nI 1)), some (.int (nI 1)), some (.int (nI d)), some (.int (nI dx))]) (st' := [.int (nI dx), .int (nI (c (n * d + dx)))]) d_107_33 (fun _ => rfl) ?_
            refine cn_cne (t := 60) d_107_35 (by decide) (by first | omega | assumption | exact cu_36 (by omega) (cu_lt (by omega) (by omega))) (by first | omega | assumption | exact cu_36 (by omega) (cu_lt (by omega) (by omega))) (fun c35 => ?_) (fun c35 => ?_)
            · refine cr_nx (pc' := 62) (al' := [some (.ref a), some (.int (nI 1)), some (.int (nI 1)), some (.int (nI d)), some (.int (nI dx))]) (st' := [.int (nI dx)]) d_107_60 (fun _ => rfl) ?_
              refine cr_nx (pc' := 63) (al' := [some (.ref a), some (.int (nI 1)), some (.int (nI 1)), some (.int (nI d)), some (.int (nI dx))]) (st' := [.ref a, .int (nI dx)]) d_107_62 (fun _ => rfl) ?_
              refine cr_gf (v := .int (nI n)) d_107_63 cw_107 cf_10_15 ht.1 ht.2.2.1 (by decide) hn ?_
              refine cn_cne (t := 71) d_107_66 (by decide) (by first | omega | assumption | exact cu_36 (by omega) (cu_lt (by omega) (by omega))) (by first | omega | assumption | exact cu_36 (by omega) (cu_lt (by omega) (by omega))) (fun c66 => ?_) (fun c66 => ?_)
              · exact (hx3 (by omega) (hy c7 dx (by omega))).elim
              · refine cr_nx (pc' := 70) (al' := [some (.ref a), some (.int (nI 1)), some (.int (nI 1)), some (.int (nI d)), some (.int (nI dx))]) (st' := [.int (nI d)]) d_107_69 (fun _ => rfl) ?_
                exact cr_ri d_107_70 cx_107 rfl ⟨by rw [unV_t hd (by omega)], rfl, rfl, rfl, rfl, rfl⟩
            · refine cr_nx (pc' := 39) (al' := [some (.ref a), some (.int (nI 1)), some (.int (nI 1)), some (.int (nI d)), some (.int (nI dx))]) (st' := [.int (nI 1)]) d_107_38 (fun _ => rfl) ?_
              refine cn_ieq (t := 54) d_107_39 (by decide) (by first | omega | assumption | exact cu_36 (by omega) (cu_lt (by omega) (by omega))) (fun c39 => ?_) (fun c39 => ?_)
              · omega
              · refine cr_nx (pc' := 43) (al' := [some (.ref a), some (.int (nI 1)), some (.int (nI 1)), some (.int (nI d)), some (.int (nI dx))]) (st' := [.ref a]) d_107_42 (fun _ => rfl) ?_
                refine cr_nx (pc' := 45) (al' := [some (.ref a), some (.int (nI 1)), some (.int (nI 1)), some (.int (nI d)), some (.int (nI dx))]) (st' := [.int (nI dx), .ref a]) d_107_43 (fun _ => rfl) ?_
                refine cr_nx (pc' := 46) (al' := [some (.ref a), some (.int (nI 1)), some (.int (nI 1)), some (.int (nI d)), some (.int (nI dx))]) (st' := [.int (nI d), .int (nI dx), .ref a]) d_107_45 (fun _ => rfl) ?_
                refine cr_pv (b := a) (as := [.int (nI dx), .int (nI d)]) (al0 := [some (.ref a), some (.int (nI dx)), some (.int (nI d))]) (r := []) d_107_46 cw_107 cm_10_23 cz_91 rfl rfl ht.1 (by rw [cw_91]; exact ht.2.2.1) (by rw [cw_91]; decide) rfl (Nat.le_of_ble_eq_true rfl) (k_times ht hn hc (by omega) (by omega)) ?_
                show CR _ _ 49 [some (.ref a), some (.int (nI 1)), some (.int (nI 1)), some (.int (nI d)), some (.int (nI dx))] [.int (nI (c (n * dx + d)))] S G B J R _
                have b46 : c (n * dx + d) < n := (hc.2 _ (cu_lt (by omega) (by omega))).2
                refine cr_nx (pc' := 51) (al' := [some (.ref a), some (.int (nI 1)), some (.int (nI 1)), some (.int (nI d)), some (.int (nI dx))]) (st' := [.int (nI dx), .int (nI (c (n * dx + d)))]) d_107_49 (fun _ => rfl) ?_
                refine cn_cne (t := 60) d_107_51 (by decide) (by first | omega | assumption | exact cu_36 (by omega) (cu_lt (by omega) (by omega))) (by first | omega | assumption | exact cu_36 (by omega) (cu_lt (by omega) (by omega))) (fun c51 => ?_) (fun c51 => ?_)
                · refine cr_nx (pc' := 62) (al' := [some (.ref a), some (.int (nI 1)), some (.int (nI 1)), some (.int (nI d)), some (.int (nI dx))]) (st' := [.int (nI dx)]) d_107_60 (fun _ => rfl) ?_
                  refine cr_nx (pc' := 63) (al' := [some (.ref a), some (.int (nI 1)), some (.int (nI 1)), some (.int (nI d)), some (.int (nI dx))]) (st' := [.ref a, .int (nI dx)]) d_107_62 (fun _ => rfl) ?_
                  refine cr_gf (v := .int (nI n)) d_107_63 cw_107 cf_10_15 ht.1 ht.2.2.1 (by decide) hn ?_
                  refine cn_cne (t := 71) d_107_66 (by decide) (by first | omega | assumption | exact cu_36 (by omega) (cu_lt (by omega) (by omega))) (by first | omega | assumption | exact cu_36 (by omega) (cu_lt (by omega) (by omega))) (fun c66 => ?_) (fun c66 => ?_)
                  · exact (hx3 (by omega) (hy c7 dx (by omega))).elim
                  · refine cr_nx (pc' := 70) (al' := [some (.ref a), some (.int (nI 1)), some (.int (nI 1)), some (.int (nI d)), some (.int (nI dx))]) (st' := [.int (nI d)]) d_107_69 (fun _ => rfl) ?_
                    exact cr_ri d_107_70 cx_107 rfl ⟨by rw [unV_t hd (by omega)], rfl, rfl, rfl, rfl, rfl⟩
                · exact absurd ⟨by first | exact Or.inl rfl | exact Or.inr c35, by first | exact Or.inl rfl | exact Or.inr c51⟩ (hx3 (by omega))
theorem k_unitFrom1 {S : CS} {G : Nat → Nat → Value} {B : Nat → Nat → Int32} {J : Nat → Nat → Int64} {R : Nat → Nat → Option Nat} {a n : Nat} (ht : TabAt S G a) (hn : G a 0 = .int (nI n)) {c : Nat → Nat} (hc : TabC B a n c) : CR 1 107 0 [some (.ref a), some (.int (nI 1)), some (.int (nI 0)), none, none] [] S G B J R (cP (some (.int (unV 1 n c))) S G B J R) := by
  have hn6 := hc.1
  obtain ⟨d, hd⟩ : ∃ d, d = unI 1 n c := ⟨_, rfl⟩
  obtain ⟨hdn, hu, hy⟩ := unI_f hd
  refine cn_ic (v := 0) d_107_0 (by decide) ?_
  refine cr_nx (pc' := 2) (al' := [some (.ref a), some (.int (nI 1)), some (.int (nI 0)), some (.int (nI 0)), none]) (st' := []) d_107_1 (fun _ => rfl) ?_
  refine cr_up (al := fun e => [some (.ref a), some (.int (nI 1)), some (.int (nI 0)), some (.int (nI e)), none]) (S := fun e => S) (G := fun e => G) (B := fun e => B) (J := fun e => J) (R := fun e => R) (P := fun e => True) (n := d) (fun e he pe ihe => ?_) (fun pe => ?_) 0  (by omega) (trivial)
  · show CR _ _ 2 [some (.ref a), some (.int (nI 1)), some (.int (nI 0)), some (.int (nI e)), none] [] S G B J R _
    obtain ⟨dx, hx1, hx2, hx3⟩ := okU_f (w := 1) (n := n) (c := c) e
    refine cr_nx (pc' := 3) (al' := [some (.ref a), some (.int (nI 1)), some (.int (nI 0)), some (.int (nI e)), none]) (st' := [.int (nI e)]) d_107_2 (fun _ => rfl) ?_
    refine cr_nx (pc' := 4) (al' := [some (.ref a), some (.int (nI 1)), some (.int (nI 0)), some (.int (nI e)), none]) (st' := [.ref a, .int (nI e)]) d_107_3 (fun _ => rfl) ?_
    refine cr_gf (v := .int (nI n)) d_107_4 cw_107 cf_10_15 ht.1 ht.2.2.1 (by decide) hn ?_
    refine cn_cge (t := 77) d_107_7 (by decide) (by first | omega | assumption | exact cu_36 (by omega) (cu_lt (by omega) (by omega))) (by first | omega | assumption | exact cu_36 (by omega) (cu_lt (by omega) (by omega))) (fun c7 => ?_) (fun c7 => ?_)
    · omega
    · refine cn_ic (v := 0) d_107_10 (by decide) ?_
      refine cr_nx (pc' := 13) (al' := [some (.ref a), some (.int (nI 1)), some (.int (nI 0)), some (.int (nI e)), some (.int (nI 0))]) (st' := []) d_107_11 (fun _ => rfl) ?_
      refine cr_up (al := fun x => [some (.ref a), some (.int (nI 1)), some (.int (nI 0)), some (.int (nI e)), some (.int (nI x))]) (S := fun x => S) (G := fun x => G) (B := fun x => B) (J := fun x => J) (R := fun x => R) (P := fun x => True) (n := dx) (fun x hx px ihx => ?_) (fun px => ?_) 0  (by omega) (trivial)
      · show CR _ _ 13 [some (.ref a), some (.int (nI 1)), some (.int (nI 0)), some (.int (nI e)), some (.int (nI x))] [] S G B J R _
        refine cr_nx (pc' := 15) (al' := [some (.ref a), some (.int (nI 1)), some (.int (nI 0)), some (.int (nI e)), some (.int (nI x))]) (st' := [.int (nI x)]) d_107_13 (fun _ => rfl) ?_
        refine cr_nx (pc' := 16) (al' := [some (.ref a), some (.int (nI 1)), some (.int (nI 0)), some (.int (nI e)), some (.int (nI x))]) (st' := [.ref a, .int (nI x)]) d_107_15 (fun _ => rfl) ?_
        refine cr_gf (v := .int (nI n)) d_107_16 cw_107 cf_10_15 ht.1 ht.2.2.1 (by decide) hn ?_
        refine cn_cge (t := 60) d_107_19 (by decide) (by first | omega | assumption | exact cu_36 (by omega) (cu_lt (by omega) (by omega))) (by first | omega | assumption | exact cu_36 (by omega) (cu_lt (by omega) (by omega))) (fun c19 => ?_) (fun c19 => ?_)
        · omega
        · refine cr_nx (pc' := 23) (al' := [some (.ref a), some (.int (nI 1)), some (.int (nI 0)), some (.int (nI e)), some (.int (nI x))]) (st' := [.int (nI 1)]) d_107_22 (fun _ => rfl) ?_
          refine cn_ieq (t := 38) d_107_23 (by decide) (by first | omega | assumption | exact cu_36 (by omega) (cu_lt (by omega) (by omega))) (fun c23 => ?_) (fun c23 => ?_)
          · omega
          · refine cr_nx (pc' := 27) (al' := [some (.ref a), some (.int (nI 1)), some (.int (nI 0)), some (.int (nI e)), some (.int (nI x))]) (st' := [.ref a]) d_107_26 (fun _ => rfl) ?_
            refine cr_nx (pc' := 28) (al' := [some (.ref a), some (.int (nI 1)), some (.int (nI 0)), some (.int (nI e)), some (.int (nI x))]) (st' := [.int (nI e), .ref a]) d_107_27 (fun _ => rfl) ?_
            refine cr_nx (pc' := 30) (al' := [some (.ref a), some (.int (nI 1)), some (.int (nI 0)), some (.int (nI e)), some (.int (nI x))]) (st' := [.int (nI x), .int (nI e), .ref a]) d_107_28 (fun _ => rfl) ?_
            refine cr_pv (b := a) (as := [.int (nI e), .int (nI x)]) (al0 := [some (.ref a), some (.int (nI e)), some (.int (nI x))]) (r := []) d_107_30 cw_107 cm_10_23 cz_91 rfl rfl ht.1 (by rw [cw_91]; exact ht.2.2.1) (by rw [cw_91]; decide) rfl (Nat.le_of_ble_eq_true rfl) (k_times ht hn hc (by omega) (by omega)) ?_
            show CR _ _ 33 [some (.ref a), some (.int (nI 1)), some (.int (nI 0)), some (.int (nI e)), some (.int (nI x))] [.int (nI (c (n * e + x)))] S G B J R _
            have b30 : c (n * e + x) < n := (hc.2 _ (cu_lt (by omega) (by omega))).2
            refine cr_nx (pc' := 35) (al' := [some (.ref a), some (.int (nI 1)), some (.int (nI 0)), some (.int (nI e)), some (.int (nI x))]) (st' := [.int (nI x), .int (nI (c (n * e + x)))]) d_107_33 (fun _ => rfl) ?_
            refine cn_cne (t := 60) d_107_35 (by decide) (by first | omega | assumption | exact cu_36 (by omega) (cu_lt (by omega) (by omega))) (by first | omega | assumption | exact cu_36 (by omega) (cu_lt (by omega) (by omega))) (fun c35 => ?_) (fun c35 => ?_)
            · exact absurd ((hx2 x hx).1.resolve_left (by decide)) c35
            · refine cr_nx (pc' := 39) (al' := [some (.ref a), some (.int (nI 1)), some (.int (nI 0)), some (.int (nI e)), some (.int (nI x))]) (st' := [.int (nI 0)]) d_107_38 (fun _ => rfl) ?_
              refine cn_ieq (t := 54) d_107_39 (by decide) (by first | omega | assumption | exact cu_36 (by omega) (cu_lt (by omega) (by omega))) (fun c39 => ?_) (fun c39 => ?_)
              · refine cn_inc d_107_54 rfl rfl ?_
                show CR _ _ 57 [some (.ref a), some (.int (nI 1)), some (.int (nI 0)), some (.int (nI e)), some (.int (nI (x + 1)))] [] S G B J R _
                refine cr_nx (pc' := 13) (al' := [some (.ref a), some (.int (nI 1)), some (.int (nI 0)), some (.int (nI e)), some (.int (nI (x + 1)))]) (st' := []) d_107_57 (fun _ => rfl) ?_
                exact ihx  (trivial)
              · omega
      · show CR _ _ 13 [some (.ref a), some (.int (nI 1)), some (.int (nI 0)), some (.int (nI e)), some (.int (nI dx))] [] S G B J R _
        refine cr_nx (pc' := 15) (al' := [some (.ref a), some (.int (nI 1)), some (.int (nI 0)), some (.int (nI e)), some (.int (nI dx))]) (st' := [.int (nI dx)]) d_107_13 (fun _ => rfl) ?_
        refine cr_nx (pc' := 16) (al' := [some (.ref a), some (.int (nI 1)), some (.int (nI 0)), some (.int (nI e)), some (.int (nI dx))]) (st' := [.ref a, .int (nI dx)]) d_107_15 (fun _ => rfl) ?_
        refine cr_gf (v := .int (nI n)) d_107_16 cw_107 cf_10_15 ht.1 ht.2.2.1 (by decide) hn ?_
        refine cn_cge (t := 60) d_107_19 (by decide) (by first | omega | assumption | exact cu_36 (by omega) (cu_lt (by omega) (by omega))) (by first | omega | assumption | exact cu_36 (by omega) (cu_lt (by omega) (by omega))) (fun c19 => ?_) (fun c19 => ?_)
        · refine cr_nx (pc' := 62) (al' := [some (.ref a), some (.int (nI 1)), some (.int (nI 0)), some (.int (nI e)), some (.int (nI dx))]) (st' := [.int (nI dx)]) d_107_60 (fun _ => rfl) ?_
          refine cr_nx (pc' := 63) (al' := [some (.ref a), some (.int (nI 1)), some (.int (nI 0)), some (.int (nI e)), some (.int (nI dx))]) (st' := [.ref a, .int (nI dx)]) d_107_62 (fun _ => rfl) ?_
          refine cr_gf (v := .int (nI n)) d_107_63 cw_107 cf_10_15 ht.1 ht.2.2.1 (by decide) hn ?_
          refine cn_cne (t := 71) d_107_66 (by decide) (by first | omega | assumption | exact cu_36 (by omega) (cu_lt (by omega) (by omega))) (by first | omega | assumption | exact cu_36 (by omega) (cu_lt (by omega) (by omega))) (fun c66 => ?_) (fun c66 => ?_)
          · refine cn_inc d_107_71 rfl rfl ?_
            show CR _ _ 74 [some (.ref a), some (.int (nI 1)), some (.int (nI 0)), some (.int (nI (e + 1))), some (.int (nI dx))] [] S G B J R _
            refine cr_nx (pc' := 2) (al' := [some (.ref a), some (.int (nI 1)), some (.int (nI 0)), some (.int (nI (e + 1))), some (.int (nI dx))]) (st' := []) d_107_74 (fun _ => rfl) ?_
            refine cr_dr (al1 := [some (.ref a), some (.int (nI 1)), some (.int (nI 0)), some (.int (nI (e + 1))), none]) (le_s (le_s (le_s (le_s (le_d rfl (le_n)))))) ?_
            exact ihe  (trivial)
          · exact absurd (fun x hx => hx2 x (by omega)) (hu e he)
        · refine cr_nx (pc' := 23) (al' := [some (.ref a), some (.int (nI 1)), some (.int (nI 0)), some (.int (nI e)), some (.int (nI dx))]) (st' := [.int (nI 1)]) d_107_22 (fun _ => rfl) ?_
          refine cn_ieq (t := 38) d_107_23 (by decide) (by first | omega | assumption | exact cu_36 (by omega) (cu_lt (by omega) (by omega))) (fun c23 => ?_) (fun c23 => ?_)
          · omega
          · refine cr_nx (pc' := 27) (al' := [some (.ref a), some (.int (nI 1)), some (.int (nI 0)), some (.int (nI e)), some (.int (nI dx))]) (st' := [.ref a]) d_107_26 (fun _ => rfl) ?_
            refine cr_nx (pc' := 28) (al' := [some (.ref a), some (.int (nI 1)), some (.int (nI 0)), some (.int (nI e)), some (.int (nI dx))]) (st' := [.int (nI e), .ref a]) d_107_27 (fun _ => rfl) ?_
            refine cr_nx (pc' := 30) (al' := [some (.ref a), some (.int (nI 1)), some (.int (nI 0)), some (.int (nI e)), some (.int (nI dx))]) (st' := [.int (nI dx), .int (nI e), .ref a]) d_107_28 (fun _ => rfl) ?_
            refine cr_pv (b := a) (as := [.int (nI e), .int (nI dx)]) (al0 := [some (.ref a), some (.int (nI e)), some (.int (nI dx))]) (r := []) d_107_30 cw_107 cm_10_23 cz_91 rfl rfl ht.1 (by rw [cw_91]; exact ht.2.2.1) (by rw [cw_91]; decide) rfl (Nat.le_of_ble_eq_true rfl) (k_times ht hn hc (by omega) (by omega)) ?_
            show CR _ _ 33 [some (.ref a), some (.int (nI 1)), some (.int (nI 0)), some (.int (nI e)), some (.int (nI dx))] [.int (nI (c (n * e + dx)))] S G B J R _
            have b30 : c (n * e + dx) < n := (hc.2 _ (cu_lt (by omega) (by omega))).2
            refine cr_nx (pc' := 35) (al' := [some (.ref a), some (.int (nI 1)), some (.int (nI 0)), some (.int (nI e)), some (.int (nI dx))]) (st' := [.int (nI dx), .int (nI (c (n * e + dx)))]) d_107_33 (fun _ => rfl) ?_
            refine cn_cne (t := 60) d_107_35 (by decide) (by first | omega | assumption | exact cu_36 (by omega) (cu_lt (by omega) (by omega))) (by first | omega | assumption | exact cu_36 (by omega) (cu_lt (by omega) (by omega))) (fun c35 => ?_) (fun c35 => ?_)
            · refine cr_nx (pc' := 62) (al' := [some (.ref a), some (.int (nI 1)), some (.int (nI 0)), some (.int (nI e)), some (.int (nI dx))]) (st' := [.int (nI dx)]) d_107_60 (fun _ => rfl) ?_
              refine cr_nx (pc' := 63) (al' := [some (.ref a), some (.int (nI 1)), some (.int (nI 0)), some (.int (nI e)), some (.int (nI dx))]) (st' := [.ref a, .int (nI dx)]) d_107_62 (fun _ => rfl) ?_
              refine cr_gf (v := .int (nI n)) d_107_63 cw_107 cf_10_15 ht.1 ht.2.2.1 (by decide) hn ?_
              refine cn_cne (t := 71) d_107_66 (by decide) (by first | omega | assumption | exact cu_36 (by omega) (cu_lt (by omega) (by omega))) (by first | omega | assumption | exact cu_36 (by omega) (cu_lt (by omega) (by omega))) (fun c66 => ?_) (fun c66 => ?_)
              · refine cn_inc d_107_71 rfl rfl ?_
                show CR _ _ 74 [some (.ref a), some (.int (nI 1)), some (.int (nI 0)), some (.int (nI (e + 1))), some (.int (nI dx))] [] S G B J R _
                refine cr_nx (pc' := 2) (al' := [some (.ref a), some (.int (nI 1)), some (.int (nI 0)), some (.int (nI (e + 1))), some (.int (nI dx))]) (st' := []) d_107_74 (fun _ => rfl) ?_
                refine cr_dr (al1 := [some (.ref a), some (.int (nI 1)), some (.int (nI 0)), some (.int (nI (e + 1))), none]) (le_s (le_s (le_s (le_s (le_d rfl (le_n)))))) ?_
                exact ihe  (trivial)
              · exact absurd (fun x hx => hx2 x (by omega)) (hu e he)
            · refine cr_nx (pc' := 39) (al' := [some (.ref a), some (.int (nI 1)), some (.int (nI 0)), some (.int (nI e)), some (.int (nI dx))]) (st' := [.int (nI 0)]) d_107_38 (fun _ => rfl) ?_
              refine cn_ieq (t := 54) d_107_39 (by decide) (by first | omega | assumption | exact cu_36 (by omega) (cu_lt (by omega) (by omega))) (fun c39 => ?_) (fun c39 => ?_)
              · exact absurd ⟨by first | exact Or.inl rfl | exact Or.inr c35, by first | exact Or.inl rfl | exact Or.inr c51⟩ (hx3 (by omega))
              · omega
  · show CR _ _ 2 [some (.ref a), some (.int (nI 1)), some (.int (nI 0)), some (.int (nI d)), none] [] S G B J R _
    obtain ⟨dx, hx1, hx2, hx3⟩ := okU_f (w := 1) (n := n) (c := c) d
    refine cr_nx (pc' := 3) (al' := [some (.ref a), some (.int (nI 1)), some (.int (nI 0)), some (.int (nI d)), none]) (st' := [.int (nI d)]) d_107_2 (fun _ => rfl) ?_
    refine cr_nx (pc' := 4) (al' := [some (.ref a), some (.int (nI 1)), some (.int (nI 0)), some (.int (nI d)), none]) (st' := [.ref a, .int (nI d)]) d_107_3 (fun _ => rfl) ?_
    refine cr_gf (v := .int (nI n)) d_107_4 cw_107 cf_10_15 ht.1 ht.2.2.1 (by decide) hn ?_
    refine cn_cge (t := 77) d_107_7 (by decide) (by first | omega | assumption | exact cu_36 (by omega) (cu_lt (by omega) (by omega))) (by first | omega | assumption | exact cu_36 (by omega) (cu_lt (by omega) (by omega))) (fun c7 => ?_) (fun c7 => ?_)
    · refine cr_nx (pc' := 78) (al' := [some (.ref a), some (.int (nI 1)), some (.int (nI 0)), some (.int (nI d)), none]) (st' := [.int (-1)]) d_107_77 (fun _ => rfl) ?_
      exact cr_ri d_107_78 cx_107 rfl ⟨by rw [unV_f hd c7], rfl, rfl, rfl, rfl, rfl⟩
    · refine cn_ic (v := 0) d_107_10 (by decide) ?_
      refine cr_nx (pc' := 13) (al' := [some (.ref a), some (.int (nI 1)), some (.int (nI 0)), some (.int (nI d)), some (.int (nI 0))]) (st' := []) d_107_11 (fun _ => rfl) ?_
      refine cr_up (al := fun x => [some (.ref a), some (.int (nI 1)), some (.int (nI 0)), some (.int (nI d)), some (.int (nI x))]) (S := fun x => S) (G := fun x => G) (B := fun x => B) (J := fun x => J) (R := fun x => R) (P := fun x => True) (n := dx) (fun x hx px ihx => ?_) (fun px => ?_) 0  (by omega) (trivial)
      · show CR _ _ 13 [some (.ref a), some (.int (nI 1)), some (.int (nI 0)), some (.int (nI d)), some (.int (nI x))] [] S G B J R _
        refine cr_nx (pc' := 15) (al' := [some (.ref a), some (.int (nI 1)), some (.int (nI 0)), some (.int (nI d)), some (.int (nI x))]) (st' := [.int (nI x)]) d_107_13 (fun _ => rfl) ?_
        refine cr_nx (pc' := 16) (al' := [some (.ref a), some (.int (nI 1)), some (.int (nI 0)), some (.int (nI d)), some (.int (nI x))]) (st' := [.ref a, .int (nI x)]) d_107_15 (fun _ => rfl) ?_
        refine cr_gf (v := .int (nI n)) d_107_16 cw_107 cf_10_15 ht.1 ht.2.2.1 (by decide) hn ?_
        refine cn_cge (t := 60) d_107_19 (by decide) (by first | omega | assumption | exact cu_36 (by omega) (cu_lt (by omega) (by omega))) (by first | omega | assumption | exact cu_36 (by omega) (cu_lt (by omega) (by omega))) (fun c19 => ?_) (fun c19 => ?_)
        · omega
        · refine cr_nx (pc' := 23) (al' := [some (.ref a), some (.int (nI 1)), some (.int (nI 0)), some (.int (nI d)), some (.int (nI x))]) (st' := [.int (nI 1)]) d_107_22 (fun _ => rfl) ?_
          refine cn_ieq (t := 38) d_107_23 (by decide) (by first | omega | assumption | exact cu_36 (by omega) (cu_lt (by omega) (by omega))) (fun c23 => ?_) (fun c23 => ?_)
          · omega
          · refine cr_nx (pc' := 27) (al' := [some (.ref a), some (.int (nI 1)), some (.int (nI 0)), some (.int (nI d)), some (.int (nI x))]) (st' := [.ref a]) d_107_26 (fun _ => rfl) ?_
            refine cr_nx (pc' := 28) (al' := [some (.ref a), some (.int (nI 1)), some (.int (nI 0)), some (.int (nI d)), some (.int (nI x))]) (st' := [.int (nI d), .ref a]) d_107_27 (fun _ => rfl) ?_
            refine cr_nx (pc' := 30) (al' := [some (.ref a), some (.int (nI 1)), some (.int (nI 0)), some (.int (nI d)), some (.int (nI x))]) (st' := [.int (nI x), .int (nI d), .ref a]) d_107_28 (fun _ => rfl) ?_
            refine cr_pv (b := a) (as := [.int (nI d), .int (nI x)]) (al0 := [some (.ref a), some (.int (nI d)), some (.int (nI x))]) (r := []) d_107_30 cw_107 cm_10_23 cz_91 rfl rfl ht.1 (by rw [cw_91]; exact ht.2.2.1) (by rw [cw_91]; decide) rfl (Nat.le_of_ble_eq_true rfl) (k_times ht hn hc (by omega) (by omega)) ?_
            show CR _ _ 33 [some (.ref a), some (.int (nI 1)), some (.int (nI 0)), some (.int (nI d)), some (.int (nI x))] [.int (nI (c (n * d + x)))] S G B J R _
            have b30 : c (n * d + x) < n := (hc.2 _ (cu_lt (by omega) (by omega))).2
            refine cr_nx (pc' := 35) (al' := [some (.ref a), some (.int (nI 1)), some (.int (nI 0)), some (.int (nI d)), some (.int (nI x))]) (st' := [.int (nI x), .int (nI (c (n * d + x)))]) d_107_33 (fun _ => rfl) ?_
            refine cn_cne (t := 60) d_107_35 (by decide) (by first | omega | assumption | exact cu_36 (by omega) (cu_lt (by omega) (by omega))) (by first | omega | assumption | exact cu_36 (by omega) (cu_lt (by omega) (by omega))) (fun c35 => ?_) (fun c35 => ?_)
            · exact absurd ((hx2 x hx).1.resolve_left (by decide)) c35
            · refine cr_nx (pc' := 39) (al' := [some (.ref a), some (.int (nI 1)), some (.int (nI 0)), some (.int (nI d)), some (.int (nI x))]) (st' := [.int (nI 0)]) d_107_38 (fun _ => rfl) ?_
              refine cn_ieq (t := 54) d_107_39 (by decide) (by first | omega | assumption | exact cu_36 (by omega) (cu_lt (by omega) (by omega))) (fun c39 => ?_) (fun c39 => ?_)
              · refine cn_inc d_107_54 rfl rfl ?_
                show CR _ _ 57 [some (.ref a), some (.int (nI 1)), some (.int (nI 0)), some (.int (nI d)), some (.int (nI (x + 1)))] [] S G B J R _
                refine cr_nx (pc' := 13) (al' := [some (.ref a), some (.int (nI 1)), some (.int (nI 0)), some (.int (nI d)), some (.int (nI (x + 1)))]) (st' := []) d_107_57 (fun _ => rfl) ?_
                exact ihx  (trivial)
              · omega
      · show CR _ _ 13 [some (.ref a), some (.int (nI 1)), some (.int (nI 0)), some (.int (nI d)), some (.int (nI dx))] [] S G B J R _
        refine cr_nx (pc' := 15) (al' := [some (.ref a), some (.int (nI 1)), some (.int (nI 0)), some (.int (nI d)), some (.int (nI dx))]) (st' := [.int (nI dx)]) d_107_13 (fun _ => rfl) ?_
        refine cr_nx (pc' := 16) (al' := [some (.ref a), some (.int (nI 1)), some (.int (nI 0)), some (.int (nI d)), some (.int (nI dx))]) (st' := [.ref a, .int (nI dx)]) d_107_15 (fun _ => rfl) ?_
        refine cr_gf (v := .int (nI n)) d_107_16 cw_107 cf_10_15 ht.1 ht.2.2.1 (by decide) hn ?_
        refine cn_cge (t := 60) d_107_19 (by decide) (by first | omega | assumption | exact cu_36 (by omega) (cu_lt (by omega) (by omega))) (by first | omega | assumption | exact cu_36 (by omega) (cu_lt (by omega) (by omega))) (fun c19 => ?_) (fun c19 => ?_)
        · refine cr_nx (pc' := 62) (al' := [some (.ref a), some (.int (nI 1)), some (.int (nI 0)), some (.int (nI d)), some (.int (nI dx))]) (st' := [.int (nI dx)]) d_107_60 (fun _ => rfl) ?_
          refine cr_nx (pc' := 63) (al' := [some (.ref a), some (.int (nI 1)), some (.int (nI 0)), some (.int (nI d)), some (.int (nI dx))]) (st' := [.ref a, .int (nI dx)]) d_107_62 (fun _ => rfl) ?_
          refine cr_gf (v := .int (nI n)) d_107_63 cw_107 cf_10_15 ht.1 ht.2.2.1 (by decide) hn ?_
          refine cn_cne (t := 71) d_107_66 (by decide) (by first | omega | assumption | exact cu_36 (by omega) (cu_lt (by omega) (by omega))) (by first | omega | assumption | exact cu_36 (by omega) (cu_lt (by omega) (by omega))) (fun c66 => ?_) (fun c66 => ?_)
          · exact (hx3 (by omega) (hy c7 dx (by omega))).elim
          · refine cr_nx (pc' := 70) (al' := [some (.ref a), some (.int (nI 1)), some (.int (nI 0)), some (.int (nI d)), some (.int (nI dx))]) (st' := [.int (nI d)]) d_107_69 (fun _ => rfl) ?_
            exact cr_ri d_107_70 cx_107 rfl ⟨by rw [unV_t hd (by omega)], rfl, rfl, rfl, rfl, rfl⟩
        · refine cr_nx (pc' := 23) (al' := [some (.ref a), some (.int (nI 1)), some (.int (nI 0)), some (.int (nI d)), some (.int (nI dx))]) (st' := [.int (nI 1)]) d_107_22 (fun _ => rfl) ?_
          refine cn_ieq (t := 38) d_107_23 (by decide) (by first | omega | assumption | exact cu_36 (by omega) (cu_lt (by omega) (by omega))) (fun c23 => ?_) (fun c23 => ?_)
          · omega
          · refine cr_nx (pc' := 27) (al' := [some (.ref a), some (.int (nI 1)), some (.int (nI 0)), some (.int (nI d)), some (.int (nI dx))]) (st' := [.ref a]) d_107_26 (fun _ => rfl) ?_
            refine cr_nx (pc' := 28) (al' := [some (.ref a), some (.int (nI 1)), some (.int (nI 0)), some (.int (nI d)), some (.int (nI dx))]) (st' := [.int (nI d), .ref a]) d_107_27 (fun _ => rfl) ?_
            refine cr_nx (pc' := 30) (al' := [some (.ref a), some (.int (nI 1)), some (.int (nI 0)), some (.int (nI d)), some (.int (nI dx))]) (st' := [.int (nI dx), .int (nI d), .ref a]) d_107_28 (fun _ => rfl) ?_
            refine cr_pv (b := a) (as := [.int (nI d), .int (nI dx)]) (al0 := [some (.ref a), some (.int (nI d)), some (.int (nI dx))]) (r := []) d_107_30 cw_107 cm_10_23 cz_91 rfl rfl ht.1 (by rw [cw_91]; exact ht.2.2.1) (by rw [cw_91]; decide) rfl (Nat.le_of_ble_eq_true rfl) (k_times ht hn hc (by omega) (by omega)) ?_
            show CR _ _ 33 [some (.ref a), some (.int (nI 1)), some (.int (nI 0)), some (.int (nI d)), some (.int (nI dx))] [.int (nI (c (n * d + dx)))] S G B J R _
            have b30 : c (n * d + dx) < n := (hc.2 _ (cu_lt (by omega) (by omega))).2
            refine cr_nx (pc' := 35) (al' := [some (.ref a), some (.int (nI 1)), some (.int (nI 0)), some (.int (nI d)), some (.int (nI dx))]) (st' := [.int (nI dx), .int (nI (c (n * d + dx)))]) d_107_33 (fun _ => rfl) ?_
            refine cn_cne (t := 60) d_107_35 (by decide) (by first | omega | assumption | exact cu_36 (by omega) (cu_lt (by omega) (by omega))) (by first | omega | assumption | exact cu_36 (by omega) (cu_lt (by omega) (by omega))) (fun c35 => ?_) (fun c35 => ?_)
            · refine cr_nx (pc' := 62) (al' := [some (.ref a), some (.int (nI 1)), some (.int (nI 0)), some (.int (nI d)), some (.int (nI dx))]) (st' := [.int (nI dx)]) d_107_60 (fun _ => rfl) ?_
              refine cr_nx (pc' := 63) (al' := [some (.ref a), some (.int (nI 1)), some (.int (nI 0)), some (.int (nI d)), some (.int (nI dx))]) (st' := [.ref a, .int (nI dx)]) d_107_62 (fun _ => rfl) ?_
              refine cr_gf (v := .int (nI n)) d_107_63 cw_107 cf_10_15 ht.1 ht.2.2.1 (by decide) hn ?_
              refine cn_cne (t := 71) d_107_66 (by decide) (by first | omega | assumption | exact cu_36 (by omega) (cu_lt (by omega) (by omega))) (by first | omega | assumption | exact cu_36 (by omega) (cu_lt (by omega) (by omega))) (fun c66 => ?_) (fun c66 => ?_)
              · exact (hx3 (by omega) (hy c7 dx (by omega))).elim
              · refine cr_nx (pc' := 70) (al' := [some (.ref a), some (.int (nI 1)), some (.int (nI 0)), some (.int (nI d)), some (.int (nI dx))]) (st' := [.int (nI d)]) d_107_69 (fun _ => rfl) ?_
                exact cr_ri d_107_70 cx_107 rfl ⟨by rw [unV_t hd (by omega)], rfl, rfl, rfl, rfl, rfl⟩
            · refine cr_nx (pc' := 39) (al' := [some (.ref a), some (.int (nI 1)), some (.int (nI 0)), some (.int (nI d)), some (.int (nI dx))]) (st' := [.int (nI 0)]) d_107_38 (fun _ => rfl) ?_
              refine cn_ieq (t := 54) d_107_39 (by decide) (by first | omega | assumption | exact cu_36 (by omega) (cu_lt (by omega) (by omega))) (fun c39 => ?_) (fun c39 => ?_)
              · exact absurd ⟨by first | exact Or.inl rfl | exact Or.inr c35, by first | exact Or.inl rfl | exact Or.inr c51⟩ (hx3 (by omega))
              · omega
theorem k_unitFrom2 {S : CS} {G : Nat → Nat → Value} {B : Nat → Nat → Int32} {J : Nat → Nat → Int64} {R : Nat → Nat → Option Nat} {a n : Nat} (ht : TabAt S G a) (hn : G a 0 = .int (nI n)) {c : Nat → Nat} (hc : TabC B a n c) : CR 1 107 0 [some (.ref a), some (.int (nI 0)), some (.int (nI 1)), none, none] [] S G B J R (cP (some (.int (unV 2 n c))) S G B J R) := by
  have hn6 := hc.1
  obtain ⟨d, hd⟩ : ∃ d, d = unI 2 n c := ⟨_, rfl⟩
  obtain ⟨hdn, hu, hy⟩ := unI_f hd
  refine cn_ic (v := 0) d_107_0 (by decide) ?_
  refine cr_nx (pc' := 2) (al' := [some (.ref a), some (.int (nI 0)), some (.int (nI 1)), some (.int (nI 0)), none]) (st' := []) d_107_1 (fun _ => rfl) ?_
  refine cr_up (al := fun e => [some (.ref a), some (.int (nI 0)), some (.int (nI 1)), some (.int (nI e)), none]) (S := fun e => S) (G := fun e => G) (B := fun e => B) (J := fun e => J) (R := fun e => R) (P := fun e => True) (n := d) (fun e he pe ihe => ?_) (fun pe => ?_) 0  (by omega) (trivial)
  · show CR _ _ 2 [some (.ref a), some (.int (nI 0)), some (.int (nI 1)), some (.int (nI e)), none] [] S G B J R _
    obtain ⟨dx, hx1, hx2, hx3⟩ := okU_f (w := 2) (n := n) (c := c) e
    refine cr_nx (pc' := 3) (al' := [some (.ref a), some (.int (nI 0)), some (.int (nI 1)), some (.int (nI e)), none]) (st' := [.int (nI e)]) d_107_2 (fun _ => rfl) ?_
    refine cr_nx (pc' := 4) (al' := [some (.ref a), some (.int (nI 0)), some (.int (nI 1)), some (.int (nI e)), none]) (st' := [.ref a, .int (nI e)]) d_107_3 (fun _ => rfl) ?_
    refine cr_gf (v := .int (nI n)) d_107_4 cw_107 cf_10_15 ht.1 ht.2.2.1 (by decide) hn ?_
    refine cn_cge (t := 77) d_107_7 (by decide) (by first | omega | assumption | exact cu_36 (by omega) (cu_lt (by omega) (by omega))) (by first | omega | assumption | exact cu_36 (by omega) (cu_lt (by omega) (by omega))) (fun c7 => ?_) (fun c7 => ?_)
    · omega
    · refine cn_ic (v := 0) d_107_10 (by decide) ?_
      refine cr_nx (pc' := 13) (al' := [some (.ref a), some (.int (nI 0)), some (.int (nI 1)), some (.int (nI e)), some (.int (nI 0))]) (st' := []) d_107_11 (fun _ => rfl) ?_
      refine cr_up (al := fun x => [some (.ref a), some (.int (nI 0)), some (.int (nI 1)), some (.int (nI e)), some (.int (nI x))]) (S := fun x => S) (G := fun x => G) (B := fun x => B) (J := fun x => J) (R := fun x => R) (P := fun x => True) (n := dx) (fun x hx px ihx => ?_) (fun px => ?_) 0  (by omega) (trivial)
      · show CR _ _ 13 [some (.ref a), some (.int (nI 0)), some (.int (nI 1)), some (.int (nI e)), some (.int (nI x))] [] S G B J R _
        refine cr_nx (pc' := 15) (al' := [some (.ref a), some (.int (nI 0)), some (.int (nI 1)), some (.int (nI e)), some (.int (nI x))]) (st' := [.int (nI x)]) d_107_13 (fun _ => rfl) ?_
        refine cr_nx (pc' := 16) (al' := [some (.ref a), some (.int (nI 0)), some (.int (nI 1)), some (.int (nI e)), some (.int (nI x))]) (st' := [.ref a, .int (nI x)]) d_107_15 (fun _ => rfl) ?_
        refine cr_gf (v := .int (nI n)) d_107_16 cw_107 cf_10_15 ht.1 ht.2.2.1 (by decide) hn ?_
        refine cn_cge (t := 60) d_107_19 (by decide) (by first | omega | assumption | exact cu_36 (by omega) (cu_lt (by omega) (by omega))) (by first | omega | assumption | exact cu_36 (by omega) (cu_lt (by omega) (by omega))) (fun c19 => ?_) (fun c19 => ?_)
        · omega
        · refine cr_nx (pc' := 23) (al' := [some (.ref a), some (.int (nI 0)), some (.int (nI 1)), some (.int (nI e)), some (.int (nI x))]) (st' := [.int (nI 0)]) d_107_22 (fun _ => rfl) ?_
          refine cn_ieq (t := 38) d_107_23 (by decide) (by first | omega | assumption | exact cu_36 (by omega) (cu_lt (by omega) (by omega))) (fun c23 => ?_) (fun c23 => ?_)
          · refine cr_nx (pc' := 39) (al' := [some (.ref a), some (.int (nI 0)), some (.int (nI 1)), some (.int (nI e)), some (.int (nI x))]) (st' := [.int (nI 1)]) d_107_38 (fun _ => rfl) ?_
            refine cn_ieq (t := 54) d_107_39 (by decide) (by first | omega | assumption | exact cu_36 (by omega) (cu_lt (by omega) (by omega))) (fun c39 => ?_) (fun c39 => ?_)
            · omega
            · refine cr_nx (pc' := 43) (al' := [some (.ref a), some (.int (nI 0)), some (.int (nI 1)), some (.int (nI e)), some (.int (nI x))]) (st' := [.ref a]) d_107_42 (fun _ => rfl) ?_
              refine cr_nx (pc' := 45) (al' := [some (.ref a), some (.int (nI 0)), some (.int (nI 1)), some (.int (nI e)), some (.int (nI x))]) (st' := [.int (nI x), .ref a]) d_107_43 (fun _ => rfl) ?_
              refine cr_nx (pc' := 46) (al' := [some (.ref a), some (.int (nI 0)), some (.int (nI 1)), some (.int (nI e)), some (.int (nI x))]) (st' := [.int (nI e), .int (nI x), .ref a]) d_107_45 (fun _ => rfl) ?_
              refine cr_pv (b := a) (as := [.int (nI x), .int (nI e)]) (al0 := [some (.ref a), some (.int (nI x)), some (.int (nI e))]) (r := []) d_107_46 cw_107 cm_10_23 cz_91 rfl rfl ht.1 (by rw [cw_91]; exact ht.2.2.1) (by rw [cw_91]; decide) rfl (Nat.le_of_ble_eq_true rfl) (k_times ht hn hc (by omega) (by omega)) ?_
              show CR _ _ 49 [some (.ref a), some (.int (nI 0)), some (.int (nI 1)), some (.int (nI e)), some (.int (nI x))] [.int (nI (c (n * x + e)))] S G B J R _
              have b46 : c (n * x + e) < n := (hc.2 _ (cu_lt (by omega) (by omega))).2
              refine cr_nx (pc' := 51) (al' := [some (.ref a), some (.int (nI 0)), some (.int (nI 1)), some (.int (nI e)), some (.int (nI x))]) (st' := [.int (nI x), .int (nI (c (n * x + e)))]) d_107_49 (fun _ => rfl) ?_
              refine cn_cne (t := 60) d_107_51 (by decide) (by first | omega | assumption | exact cu_36 (by omega) (cu_lt (by omega) (by omega))) (by first | omega | assumption | exact cu_36 (by omega) (cu_lt (by omega) (by omega))) (fun c51 => ?_) (fun c51 => ?_)
              · exact absurd ((hx2 x hx).2.resolve_left (by decide)) c51
              · refine cn_inc d_107_54 rfl rfl ?_
                show CR _ _ 57 [some (.ref a), some (.int (nI 0)), some (.int (nI 1)), some (.int (nI e)), some (.int (nI (x + 1)))] [] S G B J R _
                refine cr_nx (pc' := 13) (al' := [some (.ref a), some (.int (nI 0)), some (.int (nI 1)), some (.int (nI e)), some (.int (nI (x + 1)))]) (st' := []) d_107_57 (fun _ => rfl) ?_
                exact ihx  (trivial)
          · omega
      · show CR _ _ 13 [some (.ref a), some (.int (nI 0)), some (.int (nI 1)), some (.int (nI e)), some (.int (nI dx))] [] S G B J R _
        refine cr_nx (pc' := 15) (al' := [some (.ref a), some (.int (nI 0)), some (.int (nI 1)), some (.int (nI e)), some (.int (nI dx))]) (st' := [.int (nI dx)]) d_107_13 (fun _ => rfl) ?_
        refine cr_nx (pc' := 16) (al' := [some (.ref a), some (.int (nI 0)), some (.int (nI 1)), some (.int (nI e)), some (.int (nI dx))]) (st' := [.ref a, .int (nI dx)]) d_107_15 (fun _ => rfl) ?_
        refine cr_gf (v := .int (nI n)) d_107_16 cw_107 cf_10_15 ht.1 ht.2.2.1 (by decide) hn ?_
        refine cn_cge (t := 60) d_107_19 (by decide) (by first | omega | assumption | exact cu_36 (by omega) (cu_lt (by omega) (by omega))) (by first | omega | assumption | exact cu_36 (by omega) (cu_lt (by omega) (by omega))) (fun c19 => ?_) (fun c19 => ?_)
        · refine cr_nx (pc' := 62) (al' := [some (.ref a), some (.int (nI 0)), some (.int (nI 1)), some (.int (nI e)), some (.int (nI dx))]) (st' := [.int (nI dx)]) d_107_60 (fun _ => rfl) ?_
          refine cr_nx (pc' := 63) (al' := [some (.ref a), some (.int (nI 0)), some (.int (nI 1)), some (.int (nI e)), some (.int (nI dx))]) (st' := [.ref a, .int (nI dx)]) d_107_62 (fun _ => rfl) ?_
          refine cr_gf (v := .int (nI n)) d_107_63 cw_107 cf_10_15 ht.1 ht.2.2.1 (by decide) hn ?_
          refine cn_cne (t := 71) d_107_66 (by decide) (by first | omega | assumption | exact cu_36 (by omega) (cu_lt (by omega) (by omega))) (by first | omega | assumption | exact cu_36 (by omega) (cu_lt (by omega) (by omega))) (fun c66 => ?_) (fun c66 => ?_)
          · refine cn_inc d_107_71 rfl rfl ?_
            show CR _ _ 74 [some (.ref a), some (.int (nI 0)), some (.int (nI 1)), some (.int (nI (e + 1))), some (.int (nI dx))] [] S G B J R _
            refine cr_nx (pc' := 2) (al' := [some (.ref a), some (.int (nI 0)), some (.int (nI 1)), some (.int (nI (e + 1))), some (.int (nI dx))]) (st' := []) d_107_74 (fun _ => rfl) ?_
            refine cr_dr (al1 := [some (.ref a), some (.int (nI 0)), some (.int (nI 1)), some (.int (nI (e + 1))), none]) (le_s (le_s (le_s (le_s (le_d rfl (le_n)))))) ?_
            exact ihe  (trivial)
          · exact absurd (fun x hx => hx2 x (by omega)) (hu e he)
        · refine cr_nx (pc' := 23) (al' := [some (.ref a), some (.int (nI 0)), some (.int (nI 1)), some (.int (nI e)), some (.int (nI dx))]) (st' := [.int (nI 0)]) d_107_22 (fun _ => rfl) ?_
          refine cn_ieq (t := 38) d_107_23 (by decide) (by first | omega | assumption | exact cu_36 (by omega) (cu_lt (by omega) (by omega))) (fun c23 => ?_) (fun c23 => ?_)
          · refine cr_nx (pc' := 39) (al' := [some (.ref a), some (.int (nI 0)), some (.int (nI 1)), some (.int (nI e)), some (.int (nI dx))]) (st' := [.int (nI 1)]) d_107_38 (fun _ => rfl) ?_
            refine cn_ieq (t := 54) d_107_39 (by decide) (by first | omega | assumption | exact cu_36 (by omega) (cu_lt (by omega) (by omega))) (fun c39 => ?_) (fun c39 => ?_)
            · omega
            · refine cr_nx (pc' := 43) (al' := [some (.ref a), some (.int (nI 0)), some (.int (nI 1)), some (.int (nI e)), some (.int (nI dx))]) (st' := [.ref a]) d_107_42 (fun _ => rfl) ?_
              refine cr_nx (pc' := 45) (al' := [some (.ref a), some (.int (nI 0)), some (.int (nI 1)), some (.int (nI e)), some (.int (nI dx))]) (st' := [.int (nI dx), .ref a]) d_107_43 (fun _ => rfl) ?_
              refine cr_nx (pc' := 46) (al' := [some (.ref a), some (.int (nI 0)), some (.int (nI 1)), some (.int (nI e)), some (.int (nI dx))]) (st' := [.int (nI e), .int (nI dx), .ref a]) d_107_45 (fun _ => rfl) ?_
              refine cr_pv (b := a) (as := [.int (nI dx), .int (nI e)]) (al0 := [some (.ref a), some (.int (nI dx)), some (.int (nI e))]) (r := []) d_107_46 cw_107 cm_10_23 cz_91 rfl rfl ht.1 (by rw [cw_91]; exact ht.2.2.1) (by rw [cw_91]; decide) rfl (Nat.le_of_ble_eq_true rfl) (k_times ht hn hc (by omega) (by omega)) ?_
              show CR _ _ 49 [some (.ref a), some (.int (nI 0)), some (.int (nI 1)), some (.int (nI e)), some (.int (nI dx))] [.int (nI (c (n * dx + e)))] S G B J R _
              have b46 : c (n * dx + e) < n := (hc.2 _ (cu_lt (by omega) (by omega))).2
              refine cr_nx (pc' := 51) (al' := [some (.ref a), some (.int (nI 0)), some (.int (nI 1)), some (.int (nI e)), some (.int (nI dx))]) (st' := [.int (nI dx), .int (nI (c (n * dx + e)))]) d_107_49 (fun _ => rfl) ?_
              refine cn_cne (t := 60) d_107_51 (by decide) (by first | omega | assumption | exact cu_36 (by omega) (cu_lt (by omega) (by omega))) (by first | omega | assumption | exact cu_36 (by omega) (cu_lt (by omega) (by omega))) (fun c51 => ?_) (fun c51 => ?_)
              · refine cr_nx (pc' := 62) (al' := [some (.ref a), some (.int (nI 0)), some (.int (nI 1)), some (.int (nI e)), some (.int (nI dx))]) (st' := [.int (nI dx)]) d_107_60 (fun _ => rfl) ?_
                refine cr_nx (pc' := 63) (al' := [some (.ref a), some (.int (nI 0)), some (.int (nI 1)), some (.int (nI e)), some (.int (nI dx))]) (st' := [.ref a, .int (nI dx)]) d_107_62 (fun _ => rfl) ?_
                refine cr_gf (v := .int (nI n)) d_107_63 cw_107 cf_10_15 ht.1 ht.2.2.1 (by decide) hn ?_
                refine cn_cne (t := 71) d_107_66 (by decide) (by first | omega | assumption | exact cu_36 (by omega) (cu_lt (by omega) (by omega))) (by first | omega | assumption | exact cu_36 (by omega) (cu_lt (by omega) (by omega))) (fun c66 => ?_) (fun c66 => ?_)
                · refine cn_inc d_107_71 rfl rfl ?_
                  show CR _ _ 74 [some (.ref a), some (.int (nI 0)), some (.int (nI 1)), some (.int (nI (e + 1))), some (.int (nI dx))] [] S G B J R _
                  refine cr_nx (pc' := 2) (al' := [some (.ref a), some (.int (nI 0)), some (.int (nI 1)), some (.int (nI (e + 1))), some (.int (nI dx))]) (st' := []) d_107_74 (fun _ => rfl) ?_
                  refine cr_dr (al1 := [some (.ref a), some (.int (nI 0)), some (.int (nI 1)), some (.int (nI (e + 1))), none]) (le_s (le_s (le_s (le_s (le_d rfl (le_n)))))) ?_
                  exact ihe  (trivial)
                · exact absurd (fun x hx => hx2 x (by omega)) (hu e he)
              · exact absurd ⟨by first | exact Or.inl rfl | exact Or.inr c35, by first | exact Or.inl rfl | exact Or.inr c51⟩ (hx3 (by omega))
          · omega
  · show CR _ _ 2 [some (.ref a), some (.int (nI 0)), some (.int (nI 1)), some (.int (nI d)), none] [] S G B J R _
    obtain ⟨dx, hx1, hx2, hx3⟩ := okU_f (w := 2) (n := n) (c := c) d
    refine cr_nx (pc' := 3) (al' := [some (.ref a), some (.int (nI 0)), some (.int (nI 1)), some (.int (nI d)), none]) (st' := [.int (nI d)]) d_107_2 (fun _ => rfl) ?_
    refine cr_nx (pc' := 4) (al' := [some (.ref a), some (.int (nI 0)), some (.int (nI 1)), some (.int (nI d)), none]) (st' := [.ref a, .int (nI d)]) d_107_3 (fun _ => rfl) ?_
    refine cr_gf (v := .int (nI n)) d_107_4 cw_107 cf_10_15 ht.1 ht.2.2.1 (by decide) hn ?_
    refine cn_cge (t := 77) d_107_7 (by decide) (by first | omega | assumption | exact cu_36 (by omega) (cu_lt (by omega) (by omega))) (by first | omega | assumption | exact cu_36 (by omega) (cu_lt (by omega) (by omega))) (fun c7 => ?_) (fun c7 => ?_)
    · refine cr_nx (pc' := 78) (al' := [some (.ref a), some (.int (nI 0)), some (.int (nI 1)), some (.int (nI d)), none]) (st' := [.int (-1)]) d_107_77 (fun _ => rfl) ?_
      exact cr_ri d_107_78 cx_107 rfl ⟨by rw [unV_f hd c7], rfl, rfl, rfl, rfl, rfl⟩
    · refine cn_ic (v := 0) d_107_10 (by decide) ?_
      refine cr_nx (pc' := 13) (al' := [some (.ref a), some (.int (nI 0)), some (.int (nI 1)), some (.int (nI d)), some (.int (nI 0))]) (st' := []) d_107_11 (fun _ => rfl) ?_
      refine cr_up (al := fun x => [some (.ref a), some (.int (nI 0)), some (.int (nI 1)), some (.int (nI d)), some (.int (nI x))]) (S := fun x => S) (G := fun x => G) (B := fun x => B) (J := fun x => J) (R := fun x => R) (P := fun x => True) (n := dx) (fun x hx px ihx => ?_) (fun px => ?_) 0  (by omega) (trivial)
      · show CR _ _ 13 [some (.ref a), some (.int (nI 0)), some (.int (nI 1)), some (.int (nI d)), some (.int (nI x))] [] S G B J R _
        refine cr_nx (pc' := 15) (al' := [some (.ref a), some (.int (nI 0)), some (.int (nI 1)), some (.int (nI d)), some (.int (nI x))]) (st' := [.int (nI x)]) d_107_13 (fun _ => rfl) ?_
        refine cr_nx (pc' := 16) (al' := [some (.ref a), some (.int (nI 0)), some (.int (nI 1)), some (.int (nI d)), some (.int (nI x))]) (st' := [.ref a, .int (nI x)]) d_107_15 (fun _ => rfl) ?_
        refine cr_gf (v := .int (nI n)) d_107_16 cw_107 cf_10_15 ht.1 ht.2.2.1 (by decide) hn ?_
        refine cn_cge (t := 60) d_107_19 (by decide) (by first | omega | assumption | exact cu_36 (by omega) (cu_lt (by omega) (by omega))) (by first | omega | assumption | exact cu_36 (by omega) (cu_lt (by omega) (by omega))) (fun c19 => ?_) (fun c19 => ?_)
        · omega
        · refine cr_nx (pc' := 23) (al' := [some (.ref a), some (.int (nI 0)), some (.int (nI 1)), some (.int (nI d)), some (.int (nI x))]) (st' := [.int (nI 0)]) d_107_22 (fun _ => rfl) ?_
          refine cn_ieq (t := 38) d_107_23 (by decide) (by first | omega | assumption | exact cu_36 (by omega) (cu_lt (by omega) (by omega))) (fun c23 => ?_) (fun c23 => ?_)
          · refine cr_nx (pc' := 39) (al' := [some (.ref a), some (.int (nI 0)), some (.int (nI 1)), some (.int (nI d)), some (.int (nI x))]) (st' := [.int (nI 1)]) d_107_38 (fun _ => rfl) ?_
            refine cn_ieq (t := 54) d_107_39 (by decide) (by first | omega | assumption | exact cu_36 (by omega) (cu_lt (by omega) (by omega))) (fun c39 => ?_) (fun c39 => ?_)
            · omega
            · refine cr_nx (pc' := 43) (al' := [some (.ref a), some (.int (nI 0)), some (.int (nI 1)), some (.int (nI d)), some (.int (nI x))]) (st' := [.ref a]) d_107_42 (fun _ => rfl) ?_
              refine cr_nx (pc' := 45) (al' := [some (.ref a), some (.int (nI 0)), some (.int (nI 1)), some (.int (nI d)), some (.int (nI x))]) (st' := [.int (nI x), .ref a]) d_107_43 (fun _ => rfl) ?_
              refine cr_nx (pc' := 46) (al' := [some (.ref a), some (.int (nI 0)), some (.int (nI 1)), some (.int (nI d)), some (.int (nI x))]) (st' := [.int (nI d), .int (nI x), .ref a]) d_107_45 (fun _ => rfl) ?_
              refine cr_pv (b := a) (as := [.int (nI x), .int (nI d)]) (al0 := [some (.ref a), some (.int (nI x)), some (.int (nI d))]) (r := []) d_107_46 cw_107 cm_10_23 cz_91 rfl rfl ht.1 (by rw [cw_91]; exact ht.2.2.1) (by rw [cw_91]; decide) rfl (Nat.le_of_ble_eq_true rfl) (k_times ht hn hc (by omega) (by omega)) ?_
              show CR _ _ 49 [some (.ref a), some (.int (nI 0)), some (.int (nI 1)), some (.int (nI d)), some (.int (nI x))] [.int (nI (c (n * x + d)))] S G B J R _
              have b46 : c (n * x + d) < n := (hc.2 _ (cu_lt (by omega) (by omega))).2
              refine cr_nx (pc' := 51) (al' := [some (.ref a), some (.int (nI 0)), some (.int (nI 1)), some (.int (nI d)), some (.int (nI x))]) (st' := [.int (nI x), .int (nI (c (n * x + d)))]) d_107_49 (fun _ => rfl) ?_
              refine cn_cne (t := 60) d_107_51 (by decide) (by first | omega | assumption | exact cu_36 (by omega) (cu_lt (by omega) (by omega))) (by first | omega | assumption | exact cu_36 (by omega) (cu_lt (by omega) (by omega))) (fun c51 => ?_) (fun c51 => ?_)
              · exact absurd ((hx2 x hx).2.resolve_left (by decide)) c51
              · refine cn_inc d_107_54 rfl rfl ?_
                show CR _ _ 57 [some (.ref a), some (.int (nI 0)), some (.int (nI 1)), some (.int (nI d)), some (.int (nI (x + 1)))] [] S G B J R _
                refine cr_nx (pc' := 13) (al' := [some (.ref a), some (.int (nI 0)), some (.int (nI 1)), some (.int (nI d)), some (.int (nI (x + 1)))]) (st' := []) d_107_57 (fun _ => rfl) ?_
                exact ihx  (trivial)
          · omega
      · show CR _ _ 13 [some (.ref a), some (.int (nI 0)), some (.int (nI 1)), some (.int (nI d)), some (.int (nI dx))] [] S G B J R _
        refine cr_nx (pc' := 15) (al' := [some (.ref a), some (.int (nI 0)), some (.int (nI 1)), some (.int (nI d)), some (.int (nI dx))]) (st' := [.int (nI dx)]) d_107_13 (fun _ => rfl) ?_
        refine cr_nx (pc' := 16) (al' := [some (.ref a), some (.int (nI 0)), some (.int (nI 1)), some (.int (nI d)), some (.int (nI dx))]) (st' := [.ref a, .int (nI dx)]) d_107_15 (fun _ => rfl) ?_
        refine cr_gf (v := .int (nI n)) d_107_16 cw_107 cf_10_15 ht.1 ht.2.2.1 (by decide) hn ?_
        refine cn_cge (t := 60) d_107_19 (by decide) (by first | omega | assumption | exact cu_36 (by omega) (cu_lt (by omega) (by omega))) (by first | omega | assumption | exact cu_36 (by omega) (cu_lt (by omega) (by omega))) (fun c19 => ?_) (fun c19 => ?_)
        · refine cr_nx (pc' := 62) (al' := [some (.ref a), some (.int (nI 0)), some (.int (nI 1)), some (.int (nI d)), some (.int (nI dx))]) (st' := [.int (nI dx)]) d_107_60 (fun _ => rfl) ?_
          refine cr_nx (pc' := 63) (al' := [some (.ref a), some (.int (nI 0)), some (.int (nI 1)), some (.int (nI d)), some (.int (nI dx))]) (st' := [.ref a, .int (nI dx)]) d_107_62 (fun _ => rfl) ?_
          refine cr_gf (v := .int (nI n)) d_107_63 cw_107 cf_10_15 ht.1 ht.2.2.1 (by decide) hn ?_
          refine cn_cne (t := 71) d_107_66 (by decide) (by first | omega | assumption | exact cu_36 (by omega) (cu_lt (by omega) (by omega))) (by first | omega | assumption | exact cu_36 (by omega) (cu_lt (by omega) (by omega))) (fun c66 => ?_) (fun c66 => ?_)
          · exact (hx3 (by omega) (hy c7 dx (by omega))).elim
          · refine cr_nx (pc' := 70) (al' := [some (.ref a), some (.int (nI 0)), some (.int (nI 1)), some (.int (nI d)), some (.int (nI dx))]) (st' := [.int (nI d)]) d_107_69 (fun _ => rfl) ?_
            exact cr_ri d_107_70 cx_107 rfl ⟨by rw [unV_t hd (by omega)], rfl, rfl, rfl, rfl, rfl⟩
        · refine cr_nx (pc' := 23) (al' := [some (.ref a), some (.int (nI 0)), some (.int (nI 1)), some (.int (nI d)), some (.int (nI dx))]) (st' := [.int (nI 0)]) d_107_22 (fun _ => rfl) ?_
          refine cn_ieq (t := 38) d_107_23 (by decide) (by first | omega | assumption | exact cu_36 (by omega) (cu_lt (by omega) (by omega))) (fun c23 => ?_) (fun c23 => ?_)
          · refine cr_nx (pc' := 39) (al' := [some (.ref a), some (.int (nI 0)), some (.int (nI 1)), some (.int (nI d)), some (.int (nI dx))]) (st' := [.int (nI 1)]) d_107_38 (fun _ => rfl) ?_
            refine cn_ieq (t := 54) d_107_39 (by decide) (by first | omega | assumption | exact cu_36 (by omega) (cu_lt (by omega) (by omega))) (fun c39 => ?_) (fun c39 => ?_)
            · omega
            · refine cr_nx (pc' := 43) (al' := [some (.ref a), some (.int (nI 0)), some (.int (nI 1)), some (.int (nI d)), some (.int (nI dx))]) (st' := [.ref a]) d_107_42 (fun _ => rfl) ?_
              refine cr_nx (pc' := 45) (al' := [some (.ref a), some (.int (nI 0)), some (.int (nI 1)), some (.int (nI d)), some (.int (nI dx))]) (st' := [.int (nI dx), .ref a]) d_107_43 (fun _ => rfl) ?_
              refine cr_nx (pc' := 46) (al' := [some (.ref a), some (.int (nI 0)), some (.int (nI 1)), some (.int (nI d)), some (.int (nI dx))]) (st' := [.int (nI d), .int (nI dx), .ref a]) d_107_45 (fun _ => rfl) ?_
              refine cr_pv (b := a) (as := [.int (nI dx), .int (nI d)]) (al0 := [some (.ref a), some (.int (nI dx)), some (.int (nI d))]) (r := []) d_107_46 cw_107 cm_10_23 cz_91 rfl rfl ht.1 (by rw [cw_91]; exact ht.2.2.1) (by rw [cw_91]; decide) rfl (Nat.le_of_ble_eq_true rfl) (k_times ht hn hc (by omega) (by omega)) ?_
              show CR _ _ 49 [some (.ref a), some (.int (nI 0)), some (.int (nI 1)), some (.int (nI d)), some (.int (nI dx))] [.int (nI (c (n * dx + d)))] S G B J R _
              have b46 : c (n * dx + d) < n := (hc.2 _ (cu_lt (by omega) (by omega))).2
              refine cr_nx (pc' := 51) (al' := [some (.ref a), some (.int (nI 0)), some (.int (nI 1)), some (.int (nI d)), some (.int (nI dx))]) (st' := [.int (nI dx), .int (nI (c (n * dx + d)))]) d_107_49 (fun _ => rfl) ?_
              refine cn_cne (t := 60) d_107_51 (by decide) (by first | omega | assumption | exact cu_36 (by omega) (cu_lt (by omega) (by omega))) (by first | omega | assumption | exact cu_36 (by omega) (cu_lt (by omega) (by omega))) (fun c51 => ?_) (fun c51 => ?_)
              · refine cr_nx (pc' := 62) (al' := [some (.ref a), some (.int (nI 0)), some (.int (nI 1)), some (.int (nI d)), some (.int (nI dx))]) (st' := [.int (nI dx)]) d_107_60 (fun _ => rfl) ?_
                refine cr_nx (pc' := 63) (al' := [some (.ref a), some (.int (nI 0)), some (.int (nI 1)), some (.int (nI d)), some (.int (nI dx))]) (st' := [.ref a, .int (nI dx)]) d_107_62 (fun _ => rfl) ?_
                refine cr_gf (v := .int (nI n)) d_107_63 cw_107 cf_10_15 ht.1 ht.2.2.1 (by decide) hn ?_
                refine cn_cne (t := 71) d_107_66 (by decide) (by first | omega | assumption | exact cu_36 (by omega) (cu_lt (by omega) (by omega))) (by first | omega | assumption | exact cu_36 (by omega) (cu_lt (by omega) (by omega))) (fun c66 => ?_) (fun c66 => ?_)
                · exact (hx3 (by omega) (hy c7 dx (by omega))).elim
                · refine cr_nx (pc' := 70) (al' := [some (.ref a), some (.int (nI 0)), some (.int (nI 1)), some (.int (nI d)), some (.int (nI dx))]) (st' := [.int (nI d)]) d_107_69 (fun _ => rfl) ?_
                  exact cr_ri d_107_70 cx_107 rfl ⟨by rw [unV_t hd (by omega)], rfl, rfl, rfl, rfl, rfl⟩
              · exact absurd ⟨by first | exact Or.inl rfl | exact Or.inr c35, by first | exact Or.inl rfl | exact Or.inr c51⟩ (hx3 (by omega))
          · omega
theorem k_unitElement {S : CS} {G : Nat → Nat → Value} {B : Nat → Nat → Int32} {J : Nat → Nat → Int64} {R : Nat → Nat → Option Nat} {a n : Nat} (ht : TabAt S G a) (hn : G a 0 = .int (nI n)) {c : Nat → Nat} (hc : TabC B a n c) : CR 2 106 0 [some (.ref a)] [] S G B J R (cP (some (.int (unV 0 n c))) S G B J R) := by
  refine cr_nx (pc' := 1) (al' := [some (.ref a)]) (st' := [.ref a]) d_106_0 (fun _ => rfl) ?_
  refine cn_ic (v := 1) d_106_1 (by decide) ?_
  refine cn_ic (v := 1) d_106_2 (by decide) ?_
  refine cr_pv (b := a) (as := [.int (nI 1), .int (nI 1)]) (al0 := [some (.ref a), some (.int (nI 1)), some (.int (nI 1)), none, none]) (r := []) d_106_3 cw_106 cm_10_49 cz_107 rfl rfl ht.1 (by rw [cw_107]; exact ht.2.2.1) (by rw [cw_107]; decide) rfl (Nat.le_of_ble_eq_true rfl) (k_unitFrom0 ht hn hc) ?_
  show CR _ _ 6 [some (.ref a)] [.int (unV 0 n c)] S G B J R _
  exact cr_ri d_106_6 cx_106 rfl ⟨rfl, rfl, rfl, rfl, rfl, rfl⟩
def dfF (c d : Nat → Nat) (q : Nat) : Nat := if c q = d q then 0 else 1
def dfN (m : Nat) (c d : Nat → Nat) : Nat := SM (dfF c d) m
theorem dfN_le (m : Nat) (c d : Nat → Nat) : dfN m c d ≤ m := SM_1 (fun i => by unfold dfF; split <;> omega)
theorem k_differences {S : CS} {G : Nat → Nat → Value} {B : Nat → Nat → Int32} {J : Nat → Nat → Int64} {R : Nat → Nat → Option Nat} {a n : Nat} (ht : TabAt S G a) (hn : G a 0 = .int (nI n)) {c : Nat → Nat} (hc : TabC B a n c) {b : Nat} {e : Nat → Nat} (hu : TabAt S G b) (he : TabC B b n e) : CR 0 109 0 [some (.ref a), some (.ref b), none, none] [] S G B J R (cP (some (.int (nI (dfN (n * n) c e)))) S G B J R) := by
  have hn6 := hc.1
  have hnn : n * n ≤ 36 := Nat.mul_le_mul hn6 hn6
  refine cn_ic (v := 0) d_109_0 (by decide) ?_
  refine cr_nx (pc' := 2) (al' := [some (.ref a), some (.ref b), some (.int (nI 0)), none]) (st' := []) d_109_1 (fun _ => rfl) ?_
  refine cn_ic (v := 0) d_109_2 (by decide) ?_
  refine cr_nx (pc' := 4) (al' := [some (.ref a), some (.ref b), some (.int (nI 0)), some (.int (nI 0))]) (st' := []) d_109_3 (fun _ => rfl) ?_
  refine cr_al (congrArg (fun z__ : Nat => ([some (.ref a), some (.ref b), some (.int (nI z__)), some (.int (nI 0))] : AL)) (show 0 = SM (dfF c e) 0 by first | rfl | omega | (simp only [SM_s]; omega) | (simp [SM_s, *]; done) | (simp [SM_s, *]; omega))) ?_
  refine cr_up (al := fun q => [some (.ref a), some (.ref b), some (.int (nI (SM (dfF c e) q))), some (.int (nI q))]) (S := fun q => S) (G := fun q => G) (B := fun q => B) (J := fun q => J) (R := fun q => R) (P := fun q => True) (n := n * n) (fun q hq pq ihq => ?_) (fun pq => ?_) 0  (by omega) (trivial)
  · show CR _ _ 4 [some (.ref a), some (.ref b), some (.int (nI (SM (dfF c e) q))), some (.int (nI q))] [] S G B J R _
    have b1 := (hc.2 q hq).2
    have b2 := (he.2 q hq).2
    refine cr_nx (pc' := 5) (al' := [some (.ref a), some (.ref b), some (.int (nI (SM (dfF c e) q))), some (.int (nI q))]) (st' := [.int (nI q)]) d_109_4 (fun _ => rfl) ?_
    refine cr_nx (pc' := 6) (al' := [some (.ref a), some (.ref b), some (.int (nI (SM (dfF c e) q))), some (.int (nI q))]) (st' := [.ref a, .int (nI q)]) d_109_5 (fun _ => rfl) ?_
    refine cr_gf (v := .int (nI n)) d_109_6 cw_109 cf_10_15 ht.1 ht.2.2.1 (by decide) hn ?_
    refine cr_nx (pc' := 10) (al' := [some (.ref a), some (.ref b), some (.int (nI (SM (dfF c e) q))), some (.int (nI q))]) (st' := [.ref a, .int (nI n), .int (nI q)]) d_109_9 (fun _ => rfl) ?_
    refine cr_gf (v := .int (nI n)) d_109_10 cw_109 cf_10_15 ht.1 ht.2.2.1 (by decide) hn ?_
    refine cn_mul d_109_13  ?_
    refine cn_cge (t := 41) d_109_14 (by decide) (by first | omega | assumption | exact cu_36 (by omega) (cu_lt (by omega) (by omega))) (by first | omega | assumption | exact cu_36 (by omega) (cu_lt (by omega) (by omega))) (fun c14 => ?_) (fun c14 => ?_)
    · omega
    · refine cr_nx (pc' := 18) (al' := [some (.ref a), some (.ref b), some (.int (nI (SM (dfF c e) q))), some (.int (nI q))]) (st' := [.ref a]) d_109_17 (fun _ => rfl) ?_
      refine cr_gf (v := .ref (a + 1)) d_109_18 cw_109 cf_10_9 ht.1 ht.2.2.1 (by decide) ht.2.2.2.2 ?_
      refine cr_nx (pc' := 22) (al' := [some (.ref a), some (.ref b), some (.int (nI (SM (dfF c e) q))), some (.int (nI q))]) (st' := [.int (nI q), .ref (a + 1)]) d_109_21 (fun _ => rfl) ?_
      refine cr_ia (a := (a + 1)) (v := (nI (c q))) d_109_22 ht.2.1 ht.2.2.2.1 (by decide) (show q < 36 by first | omega | assumption | exact cu_36 (by omega) (cu_lt (by omega) (by omega))) (hc.2 q hq).1 ?_
      refine cr_nx (pc' := 24) (al' := [some (.ref a), some (.ref b), some (.int (nI (SM (dfF c e) q))), some (.int (nI q))]) (st' := [.ref b, .int (nI (c q))]) d_109_23 (fun _ => rfl) ?_
      refine cr_gf (v := .ref (b + 1)) d_109_24 cw_109 cf_10_9 hu.1 hu.2.2.1 (by decide) hu.2.2.2.2 ?_
      refine cr_nx (pc' := 28) (al' := [some (.ref a), some (.ref b), some (.int (nI (SM (dfF c e) q))), some (.int (nI q))]) (st' := [.int (nI q), .ref (b + 1), .int (nI (c q))]) d_109_27 (fun _ => rfl) ?_
      refine cr_ia (a := (b + 1)) (v := (nI (e q))) d_109_28 hu.2.1 hu.2.2.2.1 (by decide) (show q < 36 by first | omega | assumption | exact cu_36 (by omega) (cu_lt (by omega) (by omega))) (he.2 q hq).1 ?_
      refine cn_ceq (t := 35) d_109_29 (by decide) (by first | omega | assumption | exact cu_36 (by omega) (cu_lt (by omega) (by omega))) (by first | omega | assumption | exact cu_36 (by omega) (cu_lt (by omega) (by omega))) (fun c29 => ?_) (fun c29 => ?_)
      · refine cn_inc d_109_35 rfl rfl ?_
        show CR _ _ 38 [some (.ref a), some (.ref b), some (.int (nI (SM (dfF c e) q))), some (.int (nI (q + 1)))] [] S G B J R _
        refine cr_nx (pc' := 4) (al' := [some (.ref a), some (.ref b), some (.int (nI (SM (dfF c e) q))), some (.int (nI (q + 1)))]) (st' := []) d_109_38 (fun _ => rfl) ?_
        refine cr_al (congrArg (fun z__ : Nat => ([some (.ref a), some (.ref b), some (.int (nI z__)), some (.int (nI (q + 1)))] : AL)) (show SM (dfF c e) q = SM (dfF c e) (q + 1) by first | (rw [SM_s, dfF, if_pos c29]; rfl) | (rw [SM_s, dfF, if_neg c29]))) ?_
        exact ihq  (trivial)
      · refine cn_inc d_109_32 rfl rfl ?_
        show CR _ _ 35 [some (.ref a), some (.ref b), some (.int (nI ((SM (dfF c e) q) + 1))), some (.int (nI q))] [] S G B J R _
        refine cn_inc d_109_35 rfl rfl ?_
        show CR _ _ 38 [some (.ref a), some (.ref b), some (.int (nI ((SM (dfF c e) q) + 1))), some (.int (nI (q + 1)))] [] S G B J R _
        refine cr_nx (pc' := 4) (al' := [some (.ref a), some (.ref b), some (.int (nI ((SM (dfF c e) q) + 1))), some (.int (nI (q + 1)))]) (st' := []) d_109_38 (fun _ => rfl) ?_
        refine cr_al (congrArg (fun z__ : Nat => ([some (.ref a), some (.ref b), some (.int (nI z__)), some (.int (nI (q + 1)))] : AL)) (show (SM (dfF c e) q) + 1 = SM (dfF c e) (q + 1) by first | (rw [SM_s, dfF, if_pos c29]; rfl) | (rw [SM_s, dfF, if_neg c29]))) ?_
        exact ihq  (trivial)
  · show CR _ _ 4 [some (.ref a), some (.ref b), some (.int (nI (SM (dfF c e) (n * n)))), some (.int (nI (n * n)))] [] S G B J R _
    refine cr_nx (pc' := 5) (al' := [some (.ref a), some (.ref b), some (.int (nI (SM (dfF c e) (n * n)))), some (.int (nI (n * n)))]) (st' := [.int (nI (n * n))]) d_109_4 (fun _ => rfl) ?_
    refine cr_nx (pc' := 6) (al' := [some (.ref a), some (.ref b), some (.int (nI (SM (dfF c e) (n * n)))), some (.int (nI (n * n)))]) (st' := [.ref a, .int (nI (n * n))]) d_109_5 (fun _ => rfl) ?_
    refine cr_gf (v := .int (nI n)) d_109_6 cw_109 cf_10_15 ht.1 ht.2.2.1 (by decide) hn ?_
    refine cr_nx (pc' := 10) (al' := [some (.ref a), some (.ref b), some (.int (nI (SM (dfF c e) (n * n)))), some (.int (nI (n * n)))]) (st' := [.ref a, .int (nI n), .int (nI (n * n))]) d_109_9 (fun _ => rfl) ?_
    refine cr_gf (v := .int (nI n)) d_109_10 cw_109 cf_10_15 ht.1 ht.2.2.1 (by decide) hn ?_
    refine cn_mul d_109_13  ?_
    refine cn_cge (t := 41) d_109_14 (by decide) (by first | omega | assumption | exact cu_36 (by omega) (cu_lt (by omega) (by omega))) (by first | omega | assumption | exact cu_36 (by omega) (cu_lt (by omega) (by omega))) (fun c14 => ?_) (fun c14 => ?_)
    · refine cr_nx (pc' := 42) (al' := [some (.ref a), some (.ref b), some (.int (nI (SM (dfF c e) (n * n)))), some (.int (nI (n * n)))]) (st' := [.int (nI (SM (dfF c e) (n * n)))]) d_109_41 (fun _ => rfl) ?_
      exact cr_ri d_109_42 cx_109 rfl ⟨rfl, rfl, rfl, rfl, rfl, rfl⟩
    · omega
theorem k_hasTwoRows {S : CS} {G : Nat → Nat → Value} {B : Nat → Nat → Int32} {J : Nat → Nat → Int64} {R : Nat → Nat → Option Nat} {a n : Nat} (ht : TabAt S G a) (hn : G a 0 = .int (nI n)) (u v : Int32) : CR 1 100 0 [some (.ref a), some (.int u), some (.int v)] [] S G B J R (cP (some (.int (bI (¬ u = v ∧ (0 ≤ u ∧ u < nI n) ∧ (0 ≤ v ∧ v < nI n))))) S G B J R) := by
  refine cr_nx (pc' := 1) (al' := [some (.ref a), some (.int u), some (.int v)]) (st' := [.int u]) d_100_0 (fun _ => rfl) ?_
  refine cr_nx (pc' := 2) (al' := [some (.ref a), some (.int u), some (.int v)]) (st' := [.int v, .int u]) d_100_1 (fun _ => rfl) ?_
  refine cr_ceq (t := 25) d_100_2 (by decide) (fun c2 => ?_) (fun c2 => ?_)
  · refine cn_ic (v := 0) d_100_25 (by decide) ?_
    exact cr_ri d_100_26 cx_100 (by decide) (bJ_f (fun e => by first | exact absurd c2 e.1 | exact c10 e.2.1 | exact c18 e.2.2))
  · refine cr_nx (pc' := 6) (al' := [some (.ref a), some (.int u), some (.int v)]) (st' := [.ref a]) d_100_5 (fun _ => rfl) ?_
    refine cr_nx (pc' := 7) (al' := [some (.ref a), some (.int u), some (.int v)]) (st' := [.int u, .ref a]) d_100_6 (fun _ => rfl) ?_
    refine cr_pv (b := a) (as := [.int u]) (al0 := [some (.ref a), some (.int u)]) (r := []) d_100_7 cw_100 cm_10_19 cz_92 rfl rfl ht.1 (by rw [cw_92]; exact ht.2.2.1) (by rw [cw_92]; decide) rfl (Nat.le_of_ble_eq_true rfl) (k_hasElement ht hn u) ?_
    show CR _ _ 10 [some (.ref a), some (.int u), some (.int v)] [.int (bI (0 ≤ u ∧ u < nI n))] S G B J R _
    refine cr_beq (t := 25) d_100_10 (by decide) (fun c10 => ?_) (fun c10 => ?_)
    · refine cn_ic (v := 0) d_100_25 (by decide) ?_
      exact cr_ri d_100_26 cx_100 (by decide) (bJ_f (fun e => by first | exact absurd c2 e.1 | exact c10 e.2.1 | exact c18 e.2.2))
    · refine cr_nx (pc' := 14) (al' := [some (.ref a), some (.int u), some (.int v)]) (st' := [.ref a]) d_100_13 (fun _ => rfl) ?_
      refine cr_nx (pc' := 15) (al' := [some (.ref a), some (.int u), some (.int v)]) (st' := [.int v, .ref a]) d_100_14 (fun _ => rfl) ?_
      refine cr_pv (b := a) (as := [.int v]) (al0 := [some (.ref a), some (.int v)]) (r := []) d_100_15 cw_100 cm_10_19 cz_92 rfl rfl ht.1 (by rw [cw_92]; exact ht.2.2.1) (by rw [cw_92]; decide) rfl (Nat.le_of_ble_eq_true rfl) (k_hasElement ht hn v) ?_
      show CR _ _ 18 [some (.ref a), some (.int u), some (.int v)] [.int (bI (0 ≤ v ∧ v < nI n))] S G B J R _
      refine cr_beq (t := 25) d_100_18 (by decide) (fun c18 => ?_) (fun c18 => ?_)
      · refine cn_ic (v := 0) d_100_25 (by decide) ?_
        exact cr_ri d_100_26 cx_100 (by decide) (bJ_f (fun e => by first | exact absurd c2 e.1 | exact c10 e.2.1 | exact c18 e.2.2))
      · refine cn_ic (v := 1) d_100_21 (by decide) ?_
        refine cr_nx (pc' := 26) (al' := [some (.ref a), some (.int u), some (.int v)]) (st' := [.int (nI 1)]) d_100_22 (fun _ => rfl) ?_
        exact cr_ri d_100_26 cx_100 (by decide) (bJ_t ⟨c2, c10, c18⟩)
/-- a row of numbers that is a latin table of order m -/
def inR (m : Nat) (f : Nat → Int32) (q : Nat) : Prop := nI 0 ≤ f q ∧ f q ≤ nI (m - 1)
def laR (m : Nat) (f : Nat → Int32) (x y : Nat) : Nat := 1 * 2 ^ (f (m * x + y)).toNatClampNeg
def laC (m : Nat) (f : Nat → Int32) (x y : Nat) : Nat := 1 * 2 ^ (f (m * y + x)).toNatClampNeg
def LatR (m : Nat) (f : Nat → Int32) : Prop := (∀ x y, x < m → y < m → inR m f (m * x + y)) ∧ ∀ x, x < m → ORs (laR m f x) m = 1 * 2 ^ m - 1 ∧ ORs (laC m f x) m = 1 * 2 ^ m - 1
theorem inR_n {m : Nat} {f : Nat → Int32} {q : Nat} (hm : m ≤ 6) (h : inR m f q) (h1 : 1 ≤ m) : ∃ j, f q = nI j ∧ j < m ∧ (f q).toNatClampNeg = j := by
  obtain ⟨j, hj, e⟩ := ia_nat (by omega) h
  exact ⟨j, e, by omega, by rw [e, nI_clamp (by omega)]⟩
theorem or_on {m : Nat} {h : Nat → Nat} (hf : ORs (fun y => 1 * 2 ^ h y) m = 1 * 2 ^ m - 1) {v : Nat} (hv : v < m) : ∃ y, y < m ∧ h y = v := by
  have : (ORs (fun y => 1 * 2 ^ h y) m).testBit v = true := by
    rw [hf, Nat.one_mul, Nat.testBit_two_pow_sub_one]
    exact decide_eq_true hv
  obtain ⟨y, hy, e⟩ := (ORs_bit _ _ _).mp this
  rw [Nat.one_mul, Nat.testBit_two_pow] at e
  exact ⟨y, hy, of_decide_eq_true e⟩
theorem LatR.lat {m : Nat} {f : Nat → Int32} (hm : m ≤ 6) (h : LatR m f) : Lat m (fun q => (f q).toNatClampNeg) ∧ ∀ q, q < m * m → f q = nI (f q).toNatClampNeg := by
  have hq : ∀ q, q < m * m → inR m f q := fun q hq => by
    have := h.1 (q / m) (q % m) (dm_dl hq) (dm_ml hq)
    rw [dm_q] at this
    exact this
  have h1 : ∀ q, q < m * m → 1 ≤ m := fun q hq => by
    rcases Nat.eq_zero_or_pos m with h0 | h0
    · subst h0
      omega
    · exact h0
  refine ⟨Lat.mk' (fun q hq' => ?_) (fun x v hx hv => ?_) (fun y v hy hv => ?_), fun q hq' => ?_⟩
  · obtain ⟨j, e1, e2, e3⟩ := inR_n hm (hq q hq') (h1 q hq')
    show (f q).toNatClampNeg < m
    omega
  · exact or_on (h := fun y => (f (m * x + y)).toNatClampNeg) (h.2 x hx).1 hv
  · exact or_on (h := fun x => (f (m * x + y)).toNatClampNeg) (h.2 y hy).2 hv
  · obtain ⟨j, e1, e2, e3⟩ := inR_n hm (hq q hq') (h1 q hq')
    rw [e3]
    exact e1
/-- columns as the reference gathers them -/
def laK (m : Nat) (f : Nat → Int32) (x y : Nat) : Nat := if nI 0 ≤ f (m * y + x) ∧ f (m * y + x) ≤ nI (m - 1) then laC m f x y else 0
theorem laK_c {m : Nat} {f : Nat → Int32} (h : LatR m f) {x : Nat} (hx : x < m) : ORs (laK m f x) m = ORs (laC m f x) m := ORs_c fun y hy => by
  exact if_pos (h.1 y x hy hx)
theorem laR_lt {m : Nat} {f : Nat → Int32} (hm : m ≤ 6) {x k : Nat} (h : ∀ y, y < k → inR m f (m * x + y)) (h1 : 1 ≤ m) : ORs (laR m f x) k < 64 := ORs_lt (m := 6) fun y hy => by
  obtain ⟨j, e1, e2, e3⟩ := inR_n hm (h y hy) h1
  show 1 * 2 ^ (f (m * x + y)).toNatClampNeg < 2 ^ 6
  rw [e3]
  exact tw_64 (by omega)
theorem laK_lt {m : Nat} {f : Nat → Int32} (hm : m ≤ 6) {x k : Nat} (h1 : 1 ≤ m) : ORs (laK m f x) k < 64 := ORs_lt (m := 6) fun y _ => by
  unfold laK
  split
  next h =>
    obtain ⟨j, e1, e2, e3⟩ := inR_n (f := f) (q := m * y + x) hm h h1
    show 1 * 2 ^ (f (m * y + x)).toNatClampNeg < 2 ^ 6
    rw [e3]
    exact tw_64 (by omega)
  · decide
theorem two_p {m : Nat} (hm : m ≤ 6) : 1 * 2 ^ m ≤ 64 ∧ 1 ≤ 1 * 2 ^ m := by
  have := m_lt hm
  omega
theorem s_isMade {g : Nat → Int32} {A : Nat → Nat → Int32} {m : Nat} (hm : g 8 = nI m) (hm6 : m ≤ 6) (h1 : 1 ≤ m) [Decidable (LatR m (A 5))] : RR 1 223 0 [some (.ref 146), none, none, none, none] [] g A (rP (some (.int (bI (LatR m (A 5))))) g A) := by
  have hmm := two_p hm6
  refine rn_ic (v := 0) d_223_0 (by decide) ?_
  refine rr_nx (pc' := 2) (al' := [some (.ref 146), some (.int (nI 0)), none, none, none]) (st' := []) d_223_1 (fun _ => rfl) ?_
  refine rr_up (al := fun x => [some (.ref 146), some (.int (nI x)), none, none, none]) (G := fun x => g) (B := fun x => A) (P := fun x => (∀ u, u < x → ∀ v, v < m → inR m (A 5) (m * u + v)) ∧ ∀ u, u < x → ORs (laR m (A 5) u) m = 1 * 2 ^ m - 1 ∧ ORs (laK m (A 5) u) m = 1 * 2 ^ m - 1) (n := m) (fun x hx px ihx => ?_) (fun px => ?_) 0  (by omega) (⟨all_0, all_0⟩)
  · show RR _ _ 2 [some (.ref 146), some (.int (nI x)), none, none, none] [] g A _
    refine rr_nx (pc' := 3) (al' := [some (.ref 146), some (.int (nI x)), none, none, none]) (st' := [.int (nI x)]) d_223_2 (fun _ => rfl) ?_
    refine rr_nx (pc' := 4) (al' := [some (.ref 146), some (.int (nI x)), none, none, none]) (st' := [.ref 146, .int (nI x)]) d_223_3 (fun _ => rfl) ?_
    refine rr_gn d_223_4 mo_223 fl_134 rfl hm ?_
    refine rn_cge (t := 155) d_223_7 (by decide) (by first | omega | assumption | exact cu_36 (by omega) (cu_lt (by omega) (by omega))) (by first | omega | assumption | exact cu_36 (by omega) (cu_lt (by omega) (by omega))) (fun c7 => ?_) (fun c7 => ?_)
    · omega
    · refine rn_ic (v := 0) d_223_10 (by decide) ?_
      refine rr_nx (pc' := 12) (al' := [some (.ref 146), some (.int (nI x)), some (.int (nI 0)), none, none]) (st' := []) d_223_11 (fun _ => rfl) ?_
      refine rn_ic (v := 0) d_223_12 (by decide) ?_
      refine rr_nx (pc' := 14) (al' := [some (.ref 146), some (.int (nI x)), some (.int (nI 0)), some (.int (nI 0)), none]) (st' := []) d_223_13 (fun _ => rfl) ?_
      refine rn_ic (v := 0) d_223_14 (by decide) ?_
      refine rr_nx (pc' := 17) (al' := [some (.ref 146), some (.int (nI x)), some (.int (nI 0)), some (.int (nI 0)), some (.int (nI 0))]) (st' := []) d_223_15 (fun _ => rfl) ?_
      refine rr_al (congrArg (fun z__ : Nat => ([some (.ref 146), some (.int (nI x)), some (.int (nI z__)), some (.int (nI 0)), some (.int (nI 0))] : AL)) (show 0 = ORs (laR m (A 5) x) 0 by first | rfl | omega | (simp only [SM_s]; omega) | (simp [SM_s, *]; done) | (simp [SM_s, *]; omega))) ?_
      refine rr_al (congrArg (fun z__ : Nat => ([some (.ref 146), some (.int (nI x)), some (.int (nI (ORs (laR m (A 5) x) 0))), some (.int (nI z__)), some (.int (nI 0))] : AL)) (show 0 = ORs (laK m (A 5) x) 0 by first | rfl | omega | (simp only [SM_s]; omega) | (simp [SM_s, *]; done) | (simp [SM_s, *]; omega))) ?_
      refine rr_up (al := fun y => [some (.ref 146), some (.int (nI x)), some (.int (nI (ORs (laR m (A 5) x) y))), some (.int (nI (ORs (laK m (A 5) x) y))), some (.int (nI y))]) (G := fun y => g) (B := fun y => A) (P := fun y => ∀ v, v < y → inR m (A 5) (m * x + v)) (n := m) (fun y hy py ihy => ?_) (fun py => ?_) 0  (by omega) (all_0)
      · show RR _ _ 17 [some (.ref 146), some (.int (nI x)), some (.int (nI (ORs (laR m (A 5) x) y))), some (.int (nI (ORs (laK m (A 5) x) y))), some (.int (nI y))] [] g A _
        have o1 := laR_lt hm6 py h1
        have o2 := laK_lt (f := A 5) (x := x) (k := y) hm6 h1
        refine rr_nx (pc' := 19) (al' := [some (.ref 146), some (.int (nI x)), some (.int (nI (ORs (laR m (A 5) x) y))), some (.int (nI (ORs (laK m (A 5) x) y))), some (.int (nI y))]) (st' := [.int (nI y)]) d_223_17 (fun _ => rfl) ?_
        refine rr_nx (pc' := 20) (al' := [some (.ref 146), some (.int (nI x)), some (.int (nI (ORs (laR m (A 5) x) y))), some (.int (nI (ORs (laK m (A 5) x) y))), some (.int (nI y))]) (st' := [.ref 146, .int (nI y)]) d_223_19 (fun _ => rfl) ?_
        refine rr_gn d_223_20 mo_223 fl_134 rfl hm ?_
        refine rn_cge (t := 130) d_223_23 (by decide) (by first | omega | assumption | exact cu_36 (by omega) (cu_lt (by omega) (by omega))) (by first | omega | assumption | exact cu_36 (by omega) (cu_lt (by omega) (by omega))) (fun c23 => ?_) (fun c23 => ?_)
        · omega
        · refine rr_nx (pc' := 27) (al' := [some (.ref 146), some (.int (nI x)), some (.int (nI (ORs (laR m (A 5) x) y))), some (.int (nI (ORs (laK m (A 5) x) y))), some (.int (nI y))]) (st' := [.ref 146]) d_223_26 (fun _ => rfl) ?_
          refine rr_gf (v := .ref (147 + 5)) d_223_27 mo_223 fl_26 rfl ?_
          refine rr_nx (pc' := 31) (al' := [some (.ref 146), some (.int (nI x)), some (.int (nI (ORs (laR m (A 5) x) y))), some (.int (nI (ORs (laK m (A 5) x) y))), some (.int (nI y))]) (st' := [.ref 146, .ref (147 + 5)]) d_223_30 (fun _ => rfl) ?_
          refine rr_gn d_223_31 mo_223 fl_134 rfl hm ?_
          refine rr_nx (pc' := 35) (al' := [some (.ref 146), some (.int (nI x)), some (.int (nI (ORs (laR m (A 5) x) y))), some (.int (nI (ORs (laK m (A 5) x) y))), some (.int (nI y))]) (st' := [.int (nI x), .int (nI m), .ref (147 + 5)]) d_223_34 (fun _ => rfl) ?_
          refine rn_mul d_223_35  ?_
          refine rr_nx (pc' := 38) (al' := [some (.ref 146), some (.int (nI x)), some (.int (nI (ORs (laR m (A 5) x) y))), some (.int (nI (ORs (laK m (A 5) x) y))), some (.int (nI y))]) (st' := [.int (nI y), .int (nI (m * x)), .ref (147 + 5)]) d_223_36 (fun _ => rfl) ?_
          refine rn_add d_223_38  ?_
          refine rr_ia (j := 5) (v := (A 5 ((m * x) + y))) d_223_39 (by decide) rfl (by decide) (show (m * x) + y < 36 by first | omega | assumption | exact cu_36 (by omega) (cu_lt (by omega) (by omega))) rfl ?_
          refine rn_ic (v := 0) d_223_40 (by decide) ?_
          refine rr_nx (pc' := 42) (al' := [some (.ref 146), some (.int (nI x)), some (.int (nI (ORs (laR m (A 5) x) y))), some (.int (nI (ORs (laK m (A 5) x) y))), some (.int (nI y))]) (st' := [.ref 146, .int (nI 0), .int (A 5 ((m * x) + y))]) d_223_41 (fun _ => rfl) ?_
          refine rr_gn d_223_42 mo_223 fl_134 rfl hm ?_
          refine rn_ic (v := 1) d_223_45 (by decide) ?_
          refine rn_sub d_223_46 (by first | omega | assumption | exact cu_36 (by omega) (cu_lt (by omega) (by omega))) ?_
          refine rr_ps (as := [.int (A 5 ((m * x) + y)), .int (nI 0), .int (nI (m - 1))]) (al0 := [some (.int (A 5 ((m * x) + y))), some (.int (nI 0)), some (.int (nI (m - 1)))]) (r := []) d_223_47 mo_223 ml_106 mz_179 rfl rfl rfl (Nat.le_of_ble_eq_true rfl) (s_lies (A 5 ((m * x) + y)) (nI 0) (nI (m - 1))) ?_
          show RR _ _ 50 [some (.ref 146), some (.int (nI x)), some (.int (nI (ORs (laR m (A 5) x) y))), some (.int (nI (ORs (laK m (A 5) x) y))), some (.int (nI y))] [.int (bI ((nI 0) ≤ (A 5 ((m * x) + y)) ∧ (A 5 ((m * x) + y)) ≤ (nI (m - 1))))] g A _
          refine rr_bne (t := 55) d_223_50 (by decide) (fun c50 => ?_) (fun c50 => ?_)
          · obtain ⟨jc50, ejc50, ljc50, kjc50⟩ := inR_n hm6 (show inR m (A 5) (m * x + y) from c50) h1
            refine rr_nx (pc' := 56) (al' := [some (.ref 146), some (.int (nI x)), some (.int (nI (ORs (laR m (A 5) x) y))), some (.int (nI (ORs (laK m (A 5) x) y))), some (.int (nI y))]) (st' := [.int (nI (ORs (laR m (A 5) x) y))]) d_223_55 (fun _ => rfl) ?_
            refine rn_ic (v := 1) d_223_56 (by decide) ?_
            refine rr_nx (pc' := 58) (al' := [some (.ref 146), some (.int (nI x)), some (.int (nI (ORs (laR m (A 5) x) y))), some (.int (nI (ORs (laK m (A 5) x) y))), some (.int (nI y))]) (st' := [.ref 146, .int (nI 1), .int (nI (ORs (laR m (A 5) x) y))]) d_223_57 (fun _ => rfl) ?_
            refine rr_gf (v := .ref (147 + 5)) d_223_58 mo_223 fl_26 rfl ?_
            refine rr_nx (pc' := 62) (al' := [some (.ref 146), some (.int (nI x)), some (.int (nI (ORs (laR m (A 5) x) y))), some (.int (nI (ORs (laK m (A 5) x) y))), some (.int (nI y))]) (st' := [.ref 146, .ref (147 + 5), .int (nI 1), .int (nI (ORs (laR m (A 5) x) y))]) d_223_61 (fun _ => rfl) ?_
            refine rr_gn d_223_62 mo_223 fl_134 rfl hm ?_
            refine rr_nx (pc' := 66) (al' := [some (.ref 146), some (.int (nI x)), some (.int (nI (ORs (laR m (A 5) x) y))), some (.int (nI (ORs (laK m (A 5) x) y))), some (.int (nI y))]) (st' := [.int (nI x), .int (nI m), .ref (147 + 5), .int (nI 1), .int (nI (ORs (laR m (A 5) x) y))]) d_223_65 (fun _ => rfl) ?_
            refine rn_mul d_223_66  ?_
            refine rr_nx (pc' := 69) (al' := [some (.ref 146), some (.int (nI x)), some (.int (nI (ORs (laR m (A 5) x) y))), some (.int (nI (ORs (laK m (A 5) x) y))), some (.int (nI y))]) (st' := [.int (nI y), .int (nI (m * x)), .ref (147 + 5), .int (nI 1), .int (nI (ORs (laR m (A 5) x) y))]) d_223_67 (fun _ => rfl) ?_
            refine rn_add d_223_69  ?_
            refine rr_ia (j := 5) (v := (nI jc50)) d_223_70 (by decide) rfl (by decide) (show (m * x) + y < 36 by first | omega | assumption | exact cu_36 (by omega) (cu_lt (by omega) (by omega))) ejc50 ?_
            refine rn_shl d_223_71 (by first | omega | assumption | exact cu_36 (by omega) (cu_lt (by omega) (by omega))) ?_
            refine rn_or d_223_72 ?_
            refine rr_nx (pc' := 74) (al' := [some (.ref 146), some (.int (nI x)), some (.int (nI ((ORs (laR m (A 5) x) y) ||| (1 * 2 ^ jc50)))), some (.int (nI (ORs (laK m (A 5) x) y))), some (.int (nI y))]) (st' := []) d_223_73 (fun _ => rfl) ?_
            refine rr_nx (pc' := 75) (al' := [some (.ref 146), some (.int (nI x)), some (.int (nI ((ORs (laR m (A 5) x) y) ||| (1 * 2 ^ jc50)))), some (.int (nI (ORs (laK m (A 5) x) y))), some (.int (nI y))]) (st' := [.int (nI (ORs (laK m (A 5) x) y))]) d_223_74 (fun _ => rfl) ?_
            refine rr_nx (pc' := 76) (al' := [some (.ref 146), some (.int (nI x)), some (.int (nI ((ORs (laR m (A 5) x) y) ||| (1 * 2 ^ jc50)))), some (.int (nI (ORs (laK m (A 5) x) y))), some (.int (nI y))]) (st' := [.ref 146, .int (nI (ORs (laK m (A 5) x) y))]) d_223_75 (fun _ => rfl) ?_
            refine rr_gf (v := .ref (147 + 5)) d_223_76 mo_223 fl_26 rfl ?_
            refine rr_nx (pc' := 80) (al' := [some (.ref 146), some (.int (nI x)), some (.int (nI ((ORs (laR m (A 5) x) y) ||| (1 * 2 ^ jc50)))), some (.int (nI (ORs (laK m (A 5) x) y))), some (.int (nI y))]) (st' := [.ref 146, .ref (147 + 5), .int (nI (ORs (laK m (A 5) x) y))]) d_223_79 (fun _ => rfl) ?_
            refine rr_gn d_223_80 mo_223 fl_134 rfl hm ?_
            refine rr_nx (pc' := 85) (al' := [some (.ref 146), some (.int (nI x)), some (.int (nI ((ORs (laR m (A 5) x) y) ||| (1 * 2 ^ jc50)))), some (.int (nI (ORs (laK m (A 5) x) y))), some (.int (nI y))]) (st' := [.int (nI y), .int (nI m), .ref (147 + 5), .int (nI (ORs (laK m (A 5) x) y))]) d_223_83 (fun _ => rfl) ?_
            refine rn_mul d_223_85  ?_
            refine rr_nx (pc' := 87) (al' := [some (.ref 146), some (.int (nI x)), some (.int (nI ((ORs (laR m (A 5) x) y) ||| (1 * 2 ^ jc50)))), some (.int (nI (ORs (laK m (A 5) x) y))), some (.int (nI y))]) (st' := [.int (nI x), .int (nI (m * y)), .ref (147 + 5), .int (nI (ORs (laK m (A 5) x) y))]) d_223_86 (fun _ => rfl) ?_
            refine rn_add d_223_87  ?_
            refine rr_ia (j := 5) (v := (A 5 ((m * y) + x))) d_223_88 (by decide) rfl (by decide) (show (m * y) + x < 36 by first | omega | assumption | exact cu_36 (by omega) (cu_lt (by omega) (by omega))) rfl ?_
            refine rn_ic (v := 0) d_223_89 (by decide) ?_
            refine rr_nx (pc' := 91) (al' := [some (.ref 146), some (.int (nI x)), some (.int (nI ((ORs (laR m (A 5) x) y) ||| (1 * 2 ^ jc50)))), some (.int (nI (ORs (laK m (A 5) x) y))), some (.int (nI y))]) (st' := [.ref 146, .int (nI 0), .int (A 5 ((m * y) + x)), .int (nI (ORs (laK m (A 5) x) y))]) d_223_90 (fun _ => rfl) ?_
            refine rr_gn d_223_91 mo_223 fl_134 rfl hm ?_
            refine rn_ic (v := 1) d_223_94 (by decide) ?_
            refine rn_sub d_223_95 (by first | omega | assumption | exact cu_36 (by omega) (cu_lt (by omega) (by omega))) ?_
            refine rr_ps (as := [.int (A 5 ((m * y) + x)), .int (nI 0), .int (nI (m - 1))]) (al0 := [some (.int (A 5 ((m * y) + x))), some (.int (nI 0)), some (.int (nI (m - 1)))]) (r := [.int (nI (ORs (laK m (A 5) x) y))]) d_223_96 mo_223 ml_106 mz_179 rfl rfl rfl (Nat.le_of_ble_eq_true rfl) (s_lies (A 5 ((m * y) + x)) (nI 0) (nI (m - 1))) ?_
            show RR _ _ 99 [some (.ref 146), some (.int (nI x)), some (.int (nI ((ORs (laR m (A 5) x) y) ||| (1 * 2 ^ jc50)))), some (.int (nI (ORs (laK m (A 5) x) y))), some (.int (nI y))] [.int (bI ((nI 0) ≤ (A 5 ((m * y) + x)) ∧ (A 5 ((m * y) + x)) ≤ (nI (m - 1)))), .int (nI (ORs (laK m (A 5) x) y))] g A _
            refine rr_beq (t := 121) d_223_99 (by decide) (fun c99 => ?_) (fun c99 => ?_)
            · refine rn_ic (v := 0) d_223_121 (by decide) ?_
              refine rn_or d_223_122 ?_
              refine rr_nx (pc' := 124) (al' := [some (.ref 146), some (.int (nI x)), some (.int (nI ((ORs (laR m (A 5) x) y) ||| (1 * 2 ^ jc50)))), some (.int (nI ((ORs (laK m (A 5) x) y) ||| 0))), some (.int (nI y))]) (st' := []) d_223_123 (fun _ => rfl) ?_
              refine rn_inc d_223_124 rfl rfl ?_
              show RR _ _ 127 [some (.ref 146), some (.int (nI x)), some (.int (nI ((ORs (laR m (A 5) x) y) ||| (1 * 2 ^ jc50)))), some (.int (nI ((ORs (laK m (A 5) x) y) ||| 0))), some (.int (nI (y + 1)))] [] g A _
              refine rr_nx (pc' := 17) (al' := [some (.ref 146), some (.int (nI x)), some (.int (nI ((ORs (laR m (A 5) x) y) ||| (1 * 2 ^ jc50)))), some (.int (nI ((ORs (laK m (A 5) x) y) ||| 0))), some (.int (nI (y + 1)))]) (st' := []) d_223_127 (fun _ => rfl) ?_
              refine rr_al (congrArg (fun z__ : Nat => ([some (.ref 146), some (.int (nI x)), some (.int (nI z__)), some (.int (nI ((ORs (laK m (A 5) x) y) ||| 0))), some (.int (nI (y + 1)))] : AL)) (show (ORs (laR m (A 5) x) y) ||| (1 * 2 ^ jc50) = ORs (laR m (A 5) x) (y + 1) by rw [ORs_s, laR, kjc50])) ?_
              refine rr_al (congrArg (fun z__ : Nat => ([some (.ref 146), some (.int (nI x)), some (.int (nI (ORs (laR m (A 5) x) (y + 1)))), some (.int (nI z__)), some (.int (nI (y + 1)))] : AL)) (show (ORs (laK m (A 5) x) y) ||| 0 = ORs (laK m (A 5) x) (y + 1) by first | (rw [ORs_s, laK, if_pos c99, laC, kjc99]) | (rw [ORs_s, laK, if_neg c99]))) ?_
              exact ihy  (all_s (p := fun v => inR m (A 5) (m * x + v)) py c50)
            · obtain ⟨jc99, ejc99, ljc99, kjc99⟩ := inR_n hm6 (show inR m (A 5) (m * y + x) from c99) h1
              refine rn_ic (v := 1) d_223_102 (by decide) ?_
              refine rr_nx (pc' := 104) (al' := [some (.ref 146), some (.int (nI x)), some (.int (nI ((ORs (laR m (A 5) x) y) ||| (1 * 2 ^ jc50)))), some (.int (nI (ORs (laK m (A 5) x) y))), some (.int (nI y))]) (st' := [.ref 146, .int (nI 1), .int (nI (ORs (laK m (A 5) x) y))]) d_223_103 (fun _ => rfl) ?_
              refine rr_gf (v := .ref (147 + 5)) d_223_104 mo_223 fl_26 rfl ?_
              refine rr_nx (pc' := 108) (al' := [some (.ref 146), some (.int (nI x)), some (.int (nI ((ORs (laR m (A 5) x) y) ||| (1 * 2 ^ jc50)))), some (.int (nI (ORs (laK m (A 5) x) y))), some (.int (nI y))]) (st' := [.ref 146, .ref (147 + 5), .int (nI 1), .int (nI (ORs (laK m (A 5) x) y))]) d_223_107 (fun _ => rfl) ?_
              refine rr_gn d_223_108 mo_223 fl_134 rfl hm ?_
              refine rr_nx (pc' := 113) (al' := [some (.ref 146), some (.int (nI x)), some (.int (nI ((ORs (laR m (A 5) x) y) ||| (1 * 2 ^ jc50)))), some (.int (nI (ORs (laK m (A 5) x) y))), some (.int (nI y))]) (st' := [.int (nI y), .int (nI m), .ref (147 + 5), .int (nI 1), .int (nI (ORs (laK m (A 5) x) y))]) d_223_111 (fun _ => rfl) ?_
              refine rn_mul d_223_113  ?_
              refine rr_nx (pc' := 115) (al' := [some (.ref 146), some (.int (nI x)), some (.int (nI ((ORs (laR m (A 5) x) y) ||| (1 * 2 ^ jc50)))), some (.int (nI (ORs (laK m (A 5) x) y))), some (.int (nI y))]) (st' := [.int (nI x), .int (nI (m * y)), .ref (147 + 5), .int (nI 1), .int (nI (ORs (laK m (A 5) x) y))]) d_223_114 (fun _ => rfl) ?_
              refine rn_add d_223_115  ?_
              refine rr_ia (j := 5) (v := (nI jc99)) d_223_116 (by decide) rfl (by decide) (show (m * y) + x < 36 by first | omega | assumption | exact cu_36 (by omega) (cu_lt (by omega) (by omega))) ejc99 ?_
              refine rn_shl d_223_117 (by first | omega | assumption | exact cu_36 (by omega) (cu_lt (by omega) (by omega))) ?_
              refine rr_nx (pc' := 122) (al' := [some (.ref 146), some (.int (nI x)), some (.int (nI ((ORs (laR m (A 5) x) y) ||| (1 * 2 ^ jc50)))), some (.int (nI (ORs (laK m (A 5) x) y))), some (.int (nI y))]) (st' := [.int (nI (1 * 2 ^ jc99)), .int (nI (ORs (laK m (A 5) x) y))]) d_223_118 (fun _ => rfl) ?_
              refine rn_or d_223_122 ?_
              refine rr_nx (pc' := 124) (al' := [some (.ref 146), some (.int (nI x)), some (.int (nI ((ORs (laR m (A 5) x) y) ||| (1 * 2 ^ jc50)))), some (.int (nI ((ORs (laK m (A 5) x) y) ||| (1 * 2 ^ jc99)))), some (.int (nI y))]) (st' := []) d_223_123 (fun _ => rfl) ?_
              refine rn_inc d_223_124 rfl rfl ?_
              show RR _ _ 127 [some (.ref 146), some (.int (nI x)), some (.int (nI ((ORs (laR m (A 5) x) y) ||| (1 * 2 ^ jc50)))), some (.int (nI ((ORs (laK m (A 5) x) y) ||| (1 * 2 ^ jc99)))), some (.int (nI (y + 1)))] [] g A _
              refine rr_nx (pc' := 17) (al' := [some (.ref 146), some (.int (nI x)), some (.int (nI ((ORs (laR m (A 5) x) y) ||| (1 * 2 ^ jc50)))), some (.int (nI ((ORs (laK m (A 5) x) y) ||| (1 * 2 ^ jc99)))), some (.int (nI (y + 1)))]) (st' := []) d_223_127 (fun _ => rfl) ?_
              refine rr_al (congrArg (fun z__ : Nat => ([some (.ref 146), some (.int (nI x)), some (.int (nI z__)), some (.int (nI ((ORs (laK m (A 5) x) y) ||| (1 * 2 ^ jc99)))), some (.int (nI (y + 1)))] : AL)) (show (ORs (laR m (A 5) x) y) ||| (1 * 2 ^ jc50) = ORs (laR m (A 5) x) (y + 1) by rw [ORs_s, laR, kjc50])) ?_
              refine rr_al (congrArg (fun z__ : Nat => ([some (.ref 146), some (.int (nI x)), some (.int (nI (ORs (laR m (A 5) x) (y + 1)))), some (.int (nI z__)), some (.int (nI (y + 1)))] : AL)) (show (ORs (laK m (A 5) x) y) ||| (1 * 2 ^ jc99) = ORs (laK m (A 5) x) (y + 1) by first | (rw [ORs_s, laK, if_pos c99, laC, kjc99]) | (rw [ORs_s, laK, if_neg c99]))) ?_
              exact ihy  (all_s (p := fun v => inR m (A 5) (m * x + v)) py c50)
          · refine rn_ic (v := 0) d_223_53 (by decide) ?_
            exact rr_ri d_223_54 mr_223 (by decide) (rq_f (fun e => c50 (e.1 x y hx hy)))
      · show RR _ _ 17 [some (.ref 146), some (.int (nI x)), some (.int (nI (ORs (laR m (A 5) x) m))), some (.int (nI (ORs (laK m (A 5) x) m))), some (.int (nI m))] [] g A _
        have o1 := laR_lt hm6 py h1
        have o2 := laK_lt (f := A 5) (x := x) (k := m) hm6 h1
        refine rr_nx (pc' := 19) (al' := [some (.ref 146), some (.int (nI x)), some (.int (nI (ORs (laR m (A 5) x) m))), some (.int (nI (ORs (laK m (A 5) x) m))), some (.int (nI m))]) (st' := [.int (nI m)]) d_223_17 (fun _ => rfl) ?_
        refine rr_nx (pc' := 20) (al' := [some (.ref 146), some (.int (nI x)), some (.int (nI (ORs (laR m (A 5) x) m))), some (.int (nI (ORs (laK m (A 5) x) m))), some (.int (nI m))]) (st' := [.ref 146, .int (nI m)]) d_223_19 (fun _ => rfl) ?_
        refine rr_gn d_223_20 mo_223 fl_134 rfl hm ?_
        refine rn_cge (t := 130) d_223_23 (by decide) (by first | omega | assumption | exact cu_36 (by omega) (cu_lt (by omega) (by omega))) (by first | omega | assumption | exact cu_36 (by omega) (cu_lt (by omega) (by omega))) (fun c23 => ?_) (fun c23 => ?_)
        · refine rr_nx (pc' := 131) (al' := [some (.ref 146), some (.int (nI x)), some (.int (nI (ORs (laR m (A 5) x) m))), some (.int (nI (ORs (laK m (A 5) x) m))), some (.int (nI m))]) (st' := [.int (nI (ORs (laR m (A 5) x) m))]) d_223_130 (fun _ => rfl) ?_
          refine rn_ic (v := 1) d_223_131 (by decide) ?_
          refine rr_nx (pc' := 133) (al' := [some (.ref 146), some (.int (nI x)), some (.int (nI (ORs (laR m (A 5) x) m))), some (.int (nI (ORs (laK m (A 5) x) m))), some (.int (nI m))]) (st' := [.ref 146, .int (nI 1), .int (nI (ORs (laR m (A 5) x) m))]) d_223_132 (fun _ => rfl) ?_
          refine rr_gn d_223_133 mo_223 fl_134 rfl hm ?_
          refine rn_shl d_223_136 (by first | omega | assumption | exact cu_36 (by omega) (cu_lt (by omega) (by omega))) ?_
          refine rn_ic (v := 1) d_223_137 (by decide) ?_
          refine rn_sub d_223_138 (by first | omega | assumption | exact cu_36 (by omega) (cu_lt (by omega) (by omega))) ?_
          refine rn_cne (t := 147) d_223_139 (by decide) (by first | omega | assumption | exact cu_36 (by omega) (cu_lt (by omega) (by omega))) (by first | omega | assumption | exact cu_36 (by omega) (cu_lt (by omega) (by omega))) (fun c139 => ?_) (fun c139 => ?_)
          · refine rn_ic (v := 0) d_223_147 (by decide) ?_
            exact rr_ri d_223_148 mr_223 (by decide) (rq_f (fun e => by have e1 := (e.2 x hx).1; have e2 := laK_c e hx; have e3 := (e.2 x hx).2; first | exact absurd e1 c139 | omega))
          · refine rr_nx (pc' := 143) (al' := [some (.ref 146), some (.int (nI x)), some (.int (nI (ORs (laR m (A 5) x) m))), some (.int (nI (ORs (laK m (A 5) x) m))), some (.int (nI m))]) (st' := [.int (nI (ORs (laK m (A 5) x) m))]) d_223_142 (fun _ => rfl) ?_
            refine rr_nx (pc' := 144) (al' := [some (.ref 146), some (.int (nI x)), some (.int (nI (ORs (laR m (A 5) x) m))), some (.int (nI (ORs (laK m (A 5) x) m))), some (.int (nI m))]) (st' := [.int (nI (ORs (laR m (A 5) x) m)), .int (nI (ORs (laK m (A 5) x) m))]) d_223_143 (fun _ => rfl) ?_
            refine rn_ceq (t := 149) d_223_144 (by decide) (by first | omega | assumption | exact cu_36 (by omega) (cu_lt (by omega) (by omega))) (by first | omega | assumption | exact cu_36 (by omega) (cu_lt (by omega) (by omega))) (fun c144 => ?_) (fun c144 => ?_)
            · refine rn_inc d_223_149 rfl rfl ?_
              show RR _ _ 152 [some (.ref 146), some (.int (nI (x + 1))), some (.int (nI (ORs (laR m (A 5) x) m))), some (.int (nI (ORs (laK m (A 5) x) m))), some (.int (nI m))] [] g A _
              refine rr_nx (pc' := 2) (al' := [some (.ref 146), some (.int (nI (x + 1))), some (.int (nI (ORs (laR m (A 5) x) m))), some (.int (nI (ORs (laK m (A 5) x) m))), some (.int (nI m))]) (st' := []) d_223_152 (fun _ => rfl) ?_
              refine rr_dr (al1 := [some (.ref 146), some (.int (nI (x + 1))), none, none, none]) (le_s (le_s (le_d rfl (le_d rfl (le_d rfl (le_n)))))) ?_
              exact ihx  (⟨all_s px.1 py, all_s px.2 ⟨c139, by omega⟩⟩)
            · refine rn_ic (v := 0) d_223_147 (by decide) ?_
              exact rr_ri d_223_148 mr_223 (by decide) (rq_f (fun e => by have e1 := (e.2 x hx).1; have e2 := laK_c e hx; have e3 := (e.2 x hx).2; first | exact absurd e1 c139 | omega))
        · omega
  · show RR _ _ 2 [some (.ref 146), some (.int (nI m)), none, none, none] [] g A _
    refine rr_nx (pc' := 3) (al' := [some (.ref 146), some (.int (nI m)), none, none, none]) (st' := [.int (nI m)]) d_223_2 (fun _ => rfl) ?_
    refine rr_nx (pc' := 4) (al' := [some (.ref 146), some (.int (nI m)), none, none, none]) (st' := [.ref 146, .int (nI m)]) d_223_3 (fun _ => rfl) ?_
    refine rr_gn d_223_4 mo_223 fl_134 rfl hm ?_
    refine rn_cge (t := 155) d_223_7 (by decide) (by first | omega | assumption | exact cu_36 (by omega) (cu_lt (by omega) (by omega))) (by first | omega | assumption | exact cu_36 (by omega) (cu_lt (by omega) (by omega))) (fun c7 => ?_) (fun c7 => ?_)
    · refine rn_ic (v := 1) d_223_155 (by decide) ?_
      exact rr_ri d_223_156 mr_223 (by decide) (rq_t (by have hh : ∀ u v, u < m → v < m → inR m (A 5) (m * u + v) := fun u v hu hv => px.1 u hu v hv; exact ⟨hh, fun u hu => ⟨(px.2 u hu).1, by have := (px.2 u hu).2; rw [show ORs (laK m (A 5) u) m = ORs (laC m (A 5) u) m from ORs_c fun y hy => if_pos (hh y u hy hu)] at this; exact this⟩⟩))
    · omega
theorem k_timesR {S : CS} {G : Nat → Nat → Value} {B : Nat → Nat → Int32} {J : Nat → Nat → Int64} {R : Nat → Nat → Option Nat} {a n : Nat} (ht : TabAt S G a) (hn : G a 0 = .int (nI n)) {x z : Nat} (hx : n * x + z < 36) : CR 0 91 0 [some (.ref a), some (.int (nI x)), some (.int (nI z))] [] S G B J R (cP (some (.int (B (a + 1) (n * x + z)))) S G B J R) := by
  refine cr_nx (pc' := 1) (al' := [some (.ref a), some (.int (nI x)), some (.int (nI z))]) (st' := [.ref a]) d_91_0 (fun _ => rfl) ?_
  refine cr_gf (v := .ref (a + 1)) d_91_1 cw_91 cf_10_9 ht.1 ht.2.2.1 (by decide) ht.2.2.2.2 ?_
  refine cr_nx (pc' := 5) (al' := [some (.ref a), some (.int (nI x)), some (.int (nI z))]) (st' := [.ref a, .ref (a + 1)]) d_91_4 (fun _ => rfl) ?_
  refine cr_gf (v := .int (nI n)) d_91_5 cw_91 cf_10_15 ht.1 ht.2.2.1 (by decide) hn ?_
  refine cr_nx (pc' := 9) (al' := [some (.ref a), some (.int (nI x)), some (.int (nI z))]) (st' := [.int (nI x), .int (nI n), .ref (a + 1)]) d_91_8 (fun _ => rfl) ?_
  refine cn_mul d_91_9  ?_
  refine cr_nx (pc' := 11) (al' := [some (.ref a), some (.int (nI x)), some (.int (nI z))]) (st' := [.int (nI z), .int (nI (n * x)), .ref (a + 1)]) d_91_10 (fun _ => rfl) ?_
  refine cn_add d_91_11  ?_
  refine cr_ia (a := (a + 1)) (v := (B (a + 1) ((n * x) + z))) d_91_12 ht.2.1 ht.2.2.2.1 (by decide) (show (n * x) + z < 36 by exact hx) rfl ?_
  exact cr_ri d_91_13 cx_91 rfl ⟨rfl, rfl, rfl, rfl, rfl, rfl⟩
theorem hB_in {n : Nat} {f : Nat → Int32} {q : Nat} (hn : n ≤ 6) (h1 : 1 ≤ n) : (0 ≤ f q ∧ f q < nI n) ↔ inR n f q := by
  unfold inR
  rw [← nI_0, Int32.lt_iff_toInt_lt, Int32.le_iff_toInt_le, Int32.le_iff_toInt_le, nI_toInt (n := 0) (by decide), nI_toInt (n := n) (by omega), nI_toInt (n := n - 1) (by omega)]
  constructor <;> intro h <;> omega
theorem laC_lt {m : Nat} {f : Nat → Int32} (hm : m ≤ 6) {x k : Nat} (h : ∀ y, y < k → inR m f (m * y + x)) (h1 : 1 ≤ m) : ORs (laC m f x) k < 64 := ORs_lt (m := 6) fun y hy => by
  obtain ⟨j, e1, e2, e3⟩ := inR_n hm (h y hy) h1
  show 1 * 2 ^ (f (m * y + x)).toNatClampNeg < 2 ^ 6
  rw [e3]
  exact tw_64 (by omega)
theorem k_isLatin {S : CS} {G : Nat → Nat → Value} {B : Nat → Nat → Int32} {J : Nat → Nat → Int64} {R : Nat → Nat → Option Nat} {a n : Nat} (ht : TabAt S G a) (hn : G a 0 = .int (nI n)) (hn6 : n ≤ 6) (h1 : 1 ≤ n) [Decidable (LatR n (B (a + 1)))] : CR 1 90 0 [some (.ref a), none, none, none, none, none] [] S G B J R (cP (some (.int (bI (LatR n (B (a + 1)))))) S G B J R) := by
  have hmm := two_p hn6
  refine cn_ic (v := 1) d_90_0 (by decide) ?_
  refine cr_nx (pc' := 2) (al' := [some (.ref a), none, none, none, none, none]) (st' := [.ref a, .int (nI 1)]) d_90_1 (fun _ => rfl) ?_
  refine cr_gf (v := .int (nI n)) d_90_2 cw_90 cf_10_15 ht.1 ht.2.2.1 (by decide) hn ?_
  refine cn_shl d_90_5 (by first | omega | assumption | exact cu_36 (by omega) (cu_lt (by omega) (by omega))) ?_
  refine cn_ic (v := 1) d_90_6 (by decide) ?_
  refine cn_sub d_90_7 (by first | omega | assumption | exact cu_36 (by omega) (cu_lt (by omega) (by omega))) ?_
  refine cr_nx (pc' := 9) (al' := [some (.ref a), some (.int (nI ((1 * 2 ^ n) - 1))), none, none, none, none]) (st' := []) d_90_8 (fun _ => rfl) ?_
  refine cn_ic (v := 0) d_90_9 (by decide) ?_
  refine cr_nx (pc' := 11) (al' := [some (.ref a), some (.int (nI ((1 * 2 ^ n) - 1))), some (.int (nI 0)), none, none, none]) (st' := []) d_90_10 (fun _ => rfl) ?_
  refine cr_up (al := fun x => [some (.ref a), some (.int (nI ((1 * 2 ^ n) - 1))), some (.int (nI x)), none, none, none]) (S := fun x => S) (G := fun x => G) (B := fun x => B) (J := fun x => J) (R := fun x => R) (P := fun x => (∀ u, u < x → ∀ v, v < n → inR n (B (a + 1)) (n * u + v)) ∧ ∀ u, u < x → ORs (laR n (B (a + 1)) u) n = 1 * 2 ^ n - 1 ∧ ORs (laC n (B (a + 1)) u) n = 1 * 2 ^ n - 1) (n := n) (fun x hx px ihx => ?_) (fun px => ?_) 0  (by omega) (⟨all_0, all_0⟩)
  · show CR _ _ 11 [some (.ref a), some (.int (nI ((1 * 2 ^ n) - 1))), some (.int (nI x)), none, none, none] [] S G B J R _
    refine cr_nx (pc' := 12) (al' := [some (.ref a), some (.int (nI ((1 * 2 ^ n) - 1))), some (.int (nI x)), none, none, none]) (st' := [.int (nI x)]) d_90_11 (fun _ => rfl) ?_
    refine cr_nx (pc' := 13) (al' := [some (.ref a), some (.int (nI ((1 * 2 ^ n) - 1))), some (.int (nI x)), none, none, none]) (st' := [.ref a, .int (nI x)]) d_90_12 (fun _ => rfl) ?_
    refine cr_gf (v := .int (nI n)) d_90_13 cw_90 cf_10_15 ht.1 ht.2.2.1 (by decide) hn ?_
    refine cn_cge (t := 117) d_90_16 (by decide) (by first | omega | assumption | exact cu_36 (by omega) (cu_lt (by omega) (by omega))) (by first | omega | assumption | exact cu_36 (by omega) (cu_lt (by omega) (by omega))) (fun c16 => ?_) (fun c16 => ?_)
    · omega
    · refine cn_ic (v := 0) d_90_19 (by decide) ?_
      refine cr_nx (pc' := 21) (al' := [some (.ref a), some (.int (nI ((1 * 2 ^ n) - 1))), some (.int (nI x)), some (.int (nI 0)), none, none]) (st' := []) d_90_20 (fun _ => rfl) ?_
      refine cn_ic (v := 0) d_90_21 (by decide) ?_
      refine cr_nx (pc' := 24) (al' := [some (.ref a), some (.int (nI ((1 * 2 ^ n) - 1))), some (.int (nI x)), some (.int (nI 0)), some (.int (nI 0)), none]) (st' := []) d_90_22 (fun _ => rfl) ?_
      refine cn_ic (v := 0) d_90_24 (by decide) ?_
      refine cr_nx (pc' := 27) (al' := [some (.ref a), some (.int (nI ((1 * 2 ^ n) - 1))), some (.int (nI x)), some (.int (nI 0)), some (.int (nI 0)), some (.int (nI 0))]) (st' := []) d_90_25 (fun _ => rfl) ?_
      refine cr_al (congrArg (fun z__ : Nat => ([some (.ref a), some (.int (nI ((1 * 2 ^ n) - 1))), some (.int (nI x)), some (.int (nI z__)), some (.int (nI 0)), some (.int (nI 0))] : AL)) (show 0 = ORs (laR n (B (a + 1)) x) 0 by first | rfl | omega | (simp only [SM_s]; omega) | (simp [SM_s, *]; done) | (simp [SM_s, *]; omega))) ?_
      refine cr_al (congrArg (fun z__ : Nat => ([some (.ref a), some (.int (nI ((1 * 2 ^ n) - 1))), some (.int (nI x)), some (.int (nI (ORs (laR n (B (a + 1)) x) 0))), some (.int (nI z__)), some (.int (nI 0))] : AL)) (show 0 = ORs (laC n (B (a + 1)) x) 0 by first | rfl | omega | (simp only [SM_s]; omega) | (simp [SM_s, *]; done) | (simp [SM_s, *]; omega))) ?_
      refine cr_up (al := fun y => [some (.ref a), some (.int (nI ((1 * 2 ^ n) - 1))), some (.int (nI x)), some (.int (nI (ORs (laR n (B (a + 1)) x) y))), some (.int (nI (ORs (laC n (B (a + 1)) x) y))), some (.int (nI y))]) (S := fun y => S) (G := fun y => G) (B := fun y => B) (J := fun y => J) (R := fun y => R) (P := fun y => (∀ v, v < y → inR n (B (a + 1)) (n * x + v)) ∧ ∀ v, v < y → inR n (B (a + 1)) (n * v + x)) (n := n) (fun y hy py ihy => ?_) (fun py => ?_) 0  (by omega) (⟨all_0, all_0⟩)
      · show CR _ _ 27 [some (.ref a), some (.int (nI ((1 * 2 ^ n) - 1))), some (.int (nI x)), some (.int (nI (ORs (laR n (B (a + 1)) x) y))), some (.int (nI (ORs (laC n (B (a + 1)) x) y))), some (.int (nI y))] [] S G B J R _
        have o1 := laR_lt hn6 py.1 h1
        have o2 := laC_lt hn6 py.2 h1
        refine cr_nx (pc' := 29) (al' := [some (.ref a), some (.int (nI ((1 * 2 ^ n) - 1))), some (.int (nI x)), some (.int (nI (ORs (laR n (B (a + 1)) x) y))), some (.int (nI (ORs (laC n (B (a + 1)) x) y))), some (.int (nI y))]) (st' := [.int (nI y)]) d_90_27 (fun _ => rfl) ?_
        refine cr_nx (pc' := 30) (al' := [some (.ref a), some (.int (nI ((1 * 2 ^ n) - 1))), some (.int (nI x)), some (.int (nI (ORs (laR n (B (a + 1)) x) y))), some (.int (nI (ORs (laC n (B (a + 1)) x) y))), some (.int (nI y))]) (st' := [.ref a, .int (nI y)]) d_90_29 (fun _ => rfl) ?_
        refine cr_gf (v := .int (nI n)) d_90_30 cw_90 cf_10_15 ht.1 ht.2.2.1 (by decide) hn ?_
        refine cn_cge (t := 98) d_90_33 (by decide) (by first | omega | assumption | exact cu_36 (by omega) (cu_lt (by omega) (by omega))) (by first | omega | assumption | exact cu_36 (by omega) (cu_lt (by omega) (by omega))) (fun c33 => ?_) (fun c33 => ?_)
        · omega
        · refine cr_nx (pc' := 37) (al' := [some (.ref a), some (.int (nI ((1 * 2 ^ n) - 1))), some (.int (nI x)), some (.int (nI (ORs (laR n (B (a + 1)) x) y))), some (.int (nI (ORs (laC n (B (a + 1)) x) y))), some (.int (nI y))]) (st' := [.ref a]) d_90_36 (fun _ => rfl) ?_
          refine cr_nx (pc' := 38) (al' := [some (.ref a), some (.int (nI ((1 * 2 ^ n) - 1))), some (.int (nI x)), some (.int (nI (ORs (laR n (B (a + 1)) x) y))), some (.int (nI (ORs (laC n (B (a + 1)) x) y))), some (.int (nI y))]) (st' := [.ref a, .ref a]) d_90_37 (fun _ => rfl) ?_
          refine cr_nx (pc' := 39) (al' := [some (.ref a), some (.int (nI ((1 * 2 ^ n) - 1))), some (.int (nI x)), some (.int (nI (ORs (laR n (B (a + 1)) x) y))), some (.int (nI (ORs (laC n (B (a + 1)) x) y))), some (.int (nI y))]) (st' := [.int (nI x), .ref a, .ref a]) d_90_38 (fun _ => rfl) ?_
          refine cr_nx (pc' := 41) (al' := [some (.ref a), some (.int (nI ((1 * 2 ^ n) - 1))), some (.int (nI x)), some (.int (nI (ORs (laR n (B (a + 1)) x) y))), some (.int (nI (ORs (laC n (B (a + 1)) x) y))), some (.int (nI y))]) (st' := [.int (nI y), .int (nI x), .ref a, .ref a]) d_90_39 (fun _ => rfl) ?_
          refine cr_pv (b := a) (as := [.int (nI x), .int (nI y)]) (al0 := [some (.ref a), some (.int (nI x)), some (.int (nI y))]) (r := [.ref a]) d_90_41 cw_90 cm_10_23 cz_91 rfl rfl ht.1 (by rw [cw_91]; exact ht.2.2.1) (by rw [cw_91]; decide) rfl (Nat.le_of_ble_eq_true rfl) (k_timesR ht hn (cu_36 (by omega) (cu_lt (by omega) (by omega)))) ?_
          show CR _ _ 44 [some (.ref a), some (.int (nI ((1 * 2 ^ n) - 1))), some (.int (nI x)), some (.int (nI (ORs (laR n (B (a + 1)) x) y))), some (.int (nI (ORs (laC n (B (a + 1)) x) y))), some (.int (nI y))] [.int (B (a + 1) (n * x + y)), .ref a] S G B J R _
          refine cr_pv (b := a) (as := [.int (B (a + 1) (n * x + y))]) (al0 := [some (.ref a), some (.int (B (a + 1) (n * x + y)))]) (r := []) d_90_44 cw_90 cm_10_19 cz_92 rfl rfl ht.1 (by rw [cw_92]; exact ht.2.2.1) (by rw [cw_92]; decide) rfl (Nat.le_of_ble_eq_true rfl) (k_hasElement ht hn (B (a + 1) (n * x + y))) ?_
          show CR _ _ 47 [some (.ref a), some (.int (nI ((1 * 2 ^ n) - 1))), some (.int (nI x)), some (.int (nI (ORs (laR n (B (a + 1)) x) y))), some (.int (nI (ORs (laC n (B (a + 1)) x) y))), some (.int (nI y))] [.int (bI (0 ≤ (B (a + 1) (n * x + y)) ∧ (B (a + 1) (n * x + y)) < nI n))] S G B J R _
          refine cr_beq (t := 64) d_90_47 (by decide) (fun c47 => ?_) (fun c47 => ?_)
          · refine cn_ic (v := 0) d_90_64 (by decide) ?_
            exact cr_ri d_90_65 cx_90 (by decide) (bJ_f (fun e => by first | exact c47 ((hB_in hn6 h1).mpr (e.1 x y hx hy)) | exact c61 ((hB_in hn6 h1).mpr (e.1 y x hy hx))))
          · refine cr_nx (pc' := 51) (al' := [some (.ref a), some (.int (nI ((1 * 2 ^ n) - 1))), some (.int (nI x)), some (.int (nI (ORs (laR n (B (a + 1)) x) y))), some (.int (nI (ORs (laC n (B (a + 1)) x) y))), some (.int (nI y))]) (st' := [.ref a]) d_90_50 (fun _ => rfl) ?_
            refine cr_nx (pc' := 52) (al' := [some (.ref a), some (.int (nI ((1 * 2 ^ n) - 1))), some (.int (nI x)), some (.int (nI (ORs (laR n (B (a + 1)) x) y))), some (.int (nI (ORs (laC n (B (a + 1)) x) y))), some (.int (nI y))]) (st' := [.ref a, .ref a]) d_90_51 (fun _ => rfl) ?_
            refine cr_nx (pc' := 54) (al' := [some (.ref a), some (.int (nI ((1 * 2 ^ n) - 1))), some (.int (nI x)), some (.int (nI (ORs (laR n (B (a + 1)) x) y))), some (.int (nI (ORs (laC n (B (a + 1)) x) y))), some (.int (nI y))]) (st' := [.int (nI y), .ref a, .ref a]) d_90_52 (fun _ => rfl) ?_
            refine cr_nx (pc' := 55) (al' := [some (.ref a), some (.int (nI ((1 * 2 ^ n) - 1))), some (.int (nI x)), some (.int (nI (ORs (laR n (B (a + 1)) x) y))), some (.int (nI (ORs (laC n (B (a + 1)) x) y))), some (.int (nI y))]) (st' := [.int (nI x), .int (nI y), .ref a, .ref a]) d_90_54 (fun _ => rfl) ?_
            refine cr_pv (b := a) (as := [.int (nI y), .int (nI x)]) (al0 := [some (.ref a), some (.int (nI y)), some (.int (nI x))]) (r := [.ref a]) d_90_55 cw_90 cm_10_23 cz_91 rfl rfl ht.1 (by rw [cw_91]; exact ht.2.2.1) (by rw [cw_91]; decide) rfl (Nat.le_of_ble_eq_true rfl) (k_timesR ht hn (cu_36 (by omega) (cu_lt (by omega) (by omega)))) ?_
            show CR _ _ 58 [some (.ref a), some (.int (nI ((1 * 2 ^ n) - 1))), some (.int (nI x)), some (.int (nI (ORs (laR n (B (a + 1)) x) y))), some (.int (nI (ORs (laC n (B (a + 1)) x) y))), some (.int (nI y))] [.int (B (a + 1) (n * y + x)), .ref a] S G B J R _
            refine cr_pv (b := a) (as := [.int (B (a + 1) (n * y + x))]) (al0 := [some (.ref a), some (.int (B (a + 1) (n * y + x)))]) (r := []) d_90_58 cw_90 cm_10_19 cz_92 rfl rfl ht.1 (by rw [cw_92]; exact ht.2.2.1) (by rw [cw_92]; decide) rfl (Nat.le_of_ble_eq_true rfl) (k_hasElement ht hn (B (a + 1) (n * y + x))) ?_
            show CR _ _ 61 [some (.ref a), some (.int (nI ((1 * 2 ^ n) - 1))), some (.int (nI x)), some (.int (nI (ORs (laR n (B (a + 1)) x) y))), some (.int (nI (ORs (laC n (B (a + 1)) x) y))), some (.int (nI y))] [.int (bI (0 ≤ (B (a + 1) (n * y + x)) ∧ (B (a + 1) (n * y + x)) < nI n))] S G B J R _
            refine cr_bne (t := 66) d_90_61 (by decide) (fun c61 => ?_) (fun c61 => ?_)
            · obtain ⟨jc47, ejc47, ljc47, kjc47⟩ := inR_n hn6 ((hB_in (f := B (a + 1)) (q := n * x + y) hn6 h1).mp c47) h1
              obtain ⟨jc61, ejc61, ljc61, kjc61⟩ := inR_n hn6 ((hB_in (f := B (a + 1)) (q := n * y + x) hn6 h1).mp c61) h1
              refine cr_nx (pc' := 67) (al' := [some (.ref a), some (.int (nI ((1 * 2 ^ n) - 1))), some (.int (nI x)), some (.int (nI (ORs (laR n (B (a + 1)) x) y))), some (.int (nI (ORs (laC n (B (a + 1)) x) y))), some (.int (nI y))]) (st' := [.int (nI (ORs (laR n (B (a + 1)) x) y))]) d_90_66 (fun _ => rfl) ?_
              refine cn_ic (v := 1) d_90_67 (by decide) ?_
              refine cr_nx (pc' := 69) (al' := [some (.ref a), some (.int (nI ((1 * 2 ^ n) - 1))), some (.int (nI x)), some (.int (nI (ORs (laR n (B (a + 1)) x) y))), some (.int (nI (ORs (laC n (B (a + 1)) x) y))), some (.int (nI y))]) (st' := [.ref a, .int (nI 1), .int (nI (ORs (laR n (B (a + 1)) x) y))]) d_90_68 (fun _ => rfl) ?_
              refine cr_nx (pc' := 70) (al' := [some (.ref a), some (.int (nI ((1 * 2 ^ n) - 1))), some (.int (nI x)), some (.int (nI (ORs (laR n (B (a + 1)) x) y))), some (.int (nI (ORs (laC n (B (a + 1)) x) y))), some (.int (nI y))]) (st' := [.int (nI x), .ref a, .int (nI 1), .int (nI (ORs (laR n (B (a + 1)) x) y))]) d_90_69 (fun _ => rfl) ?_
              refine cr_nx (pc' := 72) (al' := [some (.ref a), some (.int (nI ((1 * 2 ^ n) - 1))), some (.int (nI x)), some (.int (nI (ORs (laR n (B (a + 1)) x) y))), some (.int (nI (ORs (laC n (B (a + 1)) x) y))), some (.int (nI y))]) (st' := [.int (nI y), .int (nI x), .ref a, .int (nI 1), .int (nI (ORs (laR n (B (a + 1)) x) y))]) d_90_70 (fun _ => rfl) ?_
              refine cr_pv (b := a) (as := [.int (nI x), .int (nI y)]) (al0 := [some (.ref a), some (.int (nI x)), some (.int (nI y))]) (r := [.int (nI 1), .int (nI (ORs (laR n (B (a + 1)) x) y))]) d_90_72 cw_90 cm_10_23 cz_91 rfl rfl ht.1 (by rw [cw_91]; exact ht.2.2.1) (by rw [cw_91]; decide) rfl (Nat.le_of_ble_eq_true rfl) (k_timesR ht hn (cu_36 (by omega) (cu_lt (by omega) (by omega)))) ?_
              rw [ejc47]
              show CR _ _ 75 [some (.ref a), some (.int (nI ((1 * 2 ^ n) - 1))), some (.int (nI x)), some (.int (nI (ORs (laR n (B (a + 1)) x) y))), some (.int (nI (ORs (laC n (B (a + 1)) x) y))), some (.int (nI y))] [.int (nI jc47), .int (nI 1), .int (nI (ORs (laR n (B (a + 1)) x) y))] S G B J R _
              refine cn_shl d_90_75 (by first | omega | assumption | exact cu_36 (by omega) (cu_lt (by omega) (by omega))) ?_
              refine cn_or d_90_76 ?_
              refine cr_nx (pc' := 78) (al' := [some (.ref a), some (.int (nI ((1 * 2 ^ n) - 1))), some (.int (nI x)), some (.int (nI ((ORs (laR n (B (a + 1)) x) y) ||| (1 * 2 ^ jc47)))), some (.int (nI (ORs (laC n (B (a + 1)) x) y))), some (.int (nI y))]) (st' := []) d_90_77 (fun _ => rfl) ?_
              refine cr_nx (pc' := 80) (al' := [some (.ref a), some (.int (nI ((1 * 2 ^ n) - 1))), some (.int (nI x)), some (.int (nI ((ORs (laR n (B (a + 1)) x) y) ||| (1 * 2 ^ jc47)))), some (.int (nI (ORs (laC n (B (a + 1)) x) y))), some (.int (nI y))]) (st' := [.int (nI (ORs (laC n (B (a + 1)) x) y))]) d_90_78 (fun _ => rfl) ?_
              refine cn_ic (v := 1) d_90_80 (by decide) ?_
              refine cr_nx (pc' := 82) (al' := [some (.ref a), some (.int (nI ((1 * 2 ^ n) - 1))), some (.int (nI x)), some (.int (nI ((ORs (laR n (B (a + 1)) x) y) ||| (1 * 2 ^ jc47)))), some (.int (nI (ORs (laC n (B (a + 1)) x) y))), some (.int (nI y))]) (st' := [.ref a, .int (nI 1), .int (nI (ORs (laC n (B (a + 1)) x) y))]) d_90_81 (fun _ => rfl) ?_
              refine cr_nx (pc' := 84) (al' := [some (.ref a), some (.int (nI ((1 * 2 ^ n) - 1))), some (.int (nI x)), some (.int (nI ((ORs (laR n (B (a + 1)) x) y) ||| (1 * 2 ^ jc47)))), some (.int (nI (ORs (laC n (B (a + 1)) x) y))), some (.int (nI y))]) (st' := [.int (nI y), .ref a, .int (nI 1), .int (nI (ORs (laC n (B (a + 1)) x) y))]) d_90_82 (fun _ => rfl) ?_
              refine cr_nx (pc' := 85) (al' := [some (.ref a), some (.int (nI ((1 * 2 ^ n) - 1))), some (.int (nI x)), some (.int (nI ((ORs (laR n (B (a + 1)) x) y) ||| (1 * 2 ^ jc47)))), some (.int (nI (ORs (laC n (B (a + 1)) x) y))), some (.int (nI y))]) (st' := [.int (nI x), .int (nI y), .ref a, .int (nI 1), .int (nI (ORs (laC n (B (a + 1)) x) y))]) d_90_84 (fun _ => rfl) ?_
              refine cr_pv (b := a) (as := [.int (nI y), .int (nI x)]) (al0 := [some (.ref a), some (.int (nI y)), some (.int (nI x))]) (r := [.int (nI 1), .int (nI (ORs (laC n (B (a + 1)) x) y))]) d_90_85 cw_90 cm_10_23 cz_91 rfl rfl ht.1 (by rw [cw_91]; exact ht.2.2.1) (by rw [cw_91]; decide) rfl (Nat.le_of_ble_eq_true rfl) (k_timesR ht hn (cu_36 (by omega) (cu_lt (by omega) (by omega)))) ?_
              rw [ejc61]
              show CR _ _ 88 [some (.ref a), some (.int (nI ((1 * 2 ^ n) - 1))), some (.int (nI x)), some (.int (nI ((ORs (laR n (B (a + 1)) x) y) ||| (1 * 2 ^ jc47)))), some (.int (nI (ORs (laC n (B (a + 1)) x) y))), some (.int (nI y))] [.int (nI jc61), .int (nI 1), .int (nI (ORs (laC n (B (a + 1)) x) y))] S G B J R _
              refine cn_shl d_90_88 (by first | omega | assumption | exact cu_36 (by omega) (cu_lt (by omega) (by omega))) ?_
              refine cn_or d_90_89 ?_
              refine cr_nx (pc' := 92) (al' := [some (.ref a), some (.int (nI ((1 * 2 ^ n) - 1))), some (.int (nI x)), some (.int (nI ((ORs (laR n (B (a + 1)) x) y) ||| (1 * 2 ^ jc47)))), some (.int (nI ((ORs (laC n (B (a + 1)) x) y) ||| (1 * 2 ^ jc61)))), some (.int (nI y))]) (st' := []) d_90_90 (fun _ => rfl) ?_
              refine cn_inc d_90_92 rfl rfl ?_
              show CR _ _ 95 [some (.ref a), some (.int (nI ((1 * 2 ^ n) - 1))), some (.int (nI x)), some (.int (nI ((ORs (laR n (B (a + 1)) x) y) ||| (1 * 2 ^ jc47)))), some (.int (nI ((ORs (laC n (B (a + 1)) x) y) ||| (1 * 2 ^ jc61)))), some (.int (nI (y + 1)))] [] S G B J R _
              refine cr_nx (pc' := 27) (al' := [some (.ref a), some (.int (nI ((1 * 2 ^ n) - 1))), some (.int (nI x)), some (.int (nI ((ORs (laR n (B (a + 1)) x) y) ||| (1 * 2 ^ jc47)))), some (.int (nI ((ORs (laC n (B (a + 1)) x) y) ||| (1 * 2 ^ jc61)))), some (.int (nI (y + 1)))]) (st' := []) d_90_95 (fun _ => rfl) ?_
              refine cr_al (congrArg (fun z__ : Nat => ([some (.ref a), some (.int (nI ((1 * 2 ^ n) - 1))), some (.int (nI x)), some (.int (nI z__)), some (.int (nI ((ORs (laC n (B (a + 1)) x) y) ||| (1 * 2 ^ jc61)))), some (.int (nI (y + 1)))] : AL)) (show (ORs (laR n (B (a + 1)) x) y) ||| (1 * 2 ^ jc47) = ORs (laR n (B (a + 1)) x) (y + 1) by rw [ORs_s, laR, kjc47])) ?_
              refine cr_al (congrArg (fun z__ : Nat => ([some (.ref a), some (.int (nI ((1 * 2 ^ n) - 1))), some (.int (nI x)), some (.int (nI (ORs (laR n (B (a + 1)) x) (y + 1)))), some (.int (nI z__)), some (.int (nI (y + 1)))] : AL)) (show (ORs (laC n (B (a + 1)) x) y) ||| (1 * 2 ^ jc61) = ORs (laC n (B (a + 1)) x) (y + 1) by rw [ORs_s, laC, kjc61])) ?_
              exact ihy  (⟨all_s (p := fun v => inR n (B (a + 1)) (n * x + v)) py.1 ((hB_in hn6 h1).mp c47), all_s (p := fun v => inR n (B (a + 1)) (n * v + x)) py.2 ((hB_in hn6 h1).mp c61)⟩)
            · refine cn_ic (v := 0) d_90_64 (by decide) ?_
              exact cr_ri d_90_65 cx_90 (by decide) (bJ_f (fun e => by first | exact c47 ((hB_in hn6 h1).mpr (e.1 x y hx hy)) | exact c61 ((hB_in hn6 h1).mpr (e.1 y x hy hx))))
      · show CR _ _ 27 [some (.ref a), some (.int (nI ((1 * 2 ^ n) - 1))), some (.int (nI x)), some (.int (nI (ORs (laR n (B (a + 1)) x) n))), some (.int (nI (ORs (laC n (B (a + 1)) x) n))), some (.int (nI n))] [] S G B J R _
        have o1 := laR_lt hn6 py.1 h1
        have o2 := laC_lt hn6 py.2 h1
        refine cr_nx (pc' := 29) (al' := [some (.ref a), some (.int (nI ((1 * 2 ^ n) - 1))), some (.int (nI x)), some (.int (nI (ORs (laR n (B (a + 1)) x) n))), some (.int (nI (ORs (laC n (B (a + 1)) x) n))), some (.int (nI n))]) (st' := [.int (nI n)]) d_90_27 (fun _ => rfl) ?_
        refine cr_nx (pc' := 30) (al' := [some (.ref a), some (.int (nI ((1 * 2 ^ n) - 1))), some (.int (nI x)), some (.int (nI (ORs (laR n (B (a + 1)) x) n))), some (.int (nI (ORs (laC n (B (a + 1)) x) n))), some (.int (nI n))]) (st' := [.ref a, .int (nI n)]) d_90_29 (fun _ => rfl) ?_
        refine cr_gf (v := .int (nI n)) d_90_30 cw_90 cf_10_15 ht.1 ht.2.2.1 (by decide) hn ?_
        refine cn_cge (t := 98) d_90_33 (by decide) (by first | omega | assumption | exact cu_36 (by omega) (cu_lt (by omega) (by omega))) (by first | omega | assumption | exact cu_36 (by omega) (cu_lt (by omega) (by omega))) (fun c33 => ?_) (fun c33 => ?_)
        · refine cr_nx (pc' := 99) (al' := [some (.ref a), some (.int (nI ((1 * 2 ^ n) - 1))), some (.int (nI x)), some (.int (nI (ORs (laR n (B (a + 1)) x) n))), some (.int (nI (ORs (laC n (B (a + 1)) x) n))), some (.int (nI n))]) (st' := [.int (nI (ORs (laR n (B (a + 1)) x) n))]) d_90_98 (fun _ => rfl) ?_
          refine cr_nx (pc' := 100) (al' := [some (.ref a), some (.int (nI ((1 * 2 ^ n) - 1))), some (.int (nI x)), some (.int (nI (ORs (laR n (B (a + 1)) x) n))), some (.int (nI (ORs (laC n (B (a + 1)) x) n))), some (.int (nI n))]) (st' := [.int (nI ((1 * 2 ^ n) - 1)), .int (nI (ORs (laR n (B (a + 1)) x) n))]) d_90_99 (fun _ => rfl) ?_
          refine cn_cne (t := 109) d_90_100 (by decide) (by first | omega | assumption | exact cu_36 (by omega) (cu_lt (by omega) (by omega))) (by first | omega | assumption | exact cu_36 (by omega) (cu_lt (by omega) (by omega))) (fun c100 => ?_) (fun c100 => ?_)
          · refine cn_ic (v := 0) d_90_109 (by decide) ?_
            exact cr_ri d_90_110 cx_90 (by decide) (bJ_f (fun e => by first | exact c100 (e.2 x hx).1 | exact c106 (e.2 x hx).2))
          · refine cr_nx (pc' := 105) (al' := [some (.ref a), some (.int (nI ((1 * 2 ^ n) - 1))), some (.int (nI x)), some (.int (nI (ORs (laR n (B (a + 1)) x) n))), some (.int (nI (ORs (laC n (B (a + 1)) x) n))), some (.int (nI n))]) (st' := [.int (nI (ORs (laC n (B (a + 1)) x) n))]) d_90_103 (fun _ => rfl) ?_
            refine cr_nx (pc' := 106) (al' := [some (.ref a), some (.int (nI ((1 * 2 ^ n) - 1))), some (.int (nI x)), some (.int (nI (ORs (laR n (B (a + 1)) x) n))), some (.int (nI (ORs (laC n (B (a + 1)) x) n))), some (.int (nI n))]) (st' := [.int (nI ((1 * 2 ^ n) - 1)), .int (nI (ORs (laC n (B (a + 1)) x) n))]) d_90_105 (fun _ => rfl) ?_
            refine cn_ceq (t := 111) d_90_106 (by decide) (by first | omega | assumption | exact cu_36 (by omega) (cu_lt (by omega) (by omega))) (by first | omega | assumption | exact cu_36 (by omega) (cu_lt (by omega) (by omega))) (fun c106 => ?_) (fun c106 => ?_)
            · refine cn_inc d_90_111 rfl rfl ?_
              show CR _ _ 114 [some (.ref a), some (.int (nI ((1 * 2 ^ n) - 1))), some (.int (nI (x + 1))), some (.int (nI (ORs (laR n (B (a + 1)) x) n))), some (.int (nI (ORs (laC n (B (a + 1)) x) n))), some (.int (nI n))] [] S G B J R _
              refine cr_nx (pc' := 11) (al' := [some (.ref a), some (.int (nI ((1 * 2 ^ n) - 1))), some (.int (nI (x + 1))), some (.int (nI (ORs (laR n (B (a + 1)) x) n))), some (.int (nI (ORs (laC n (B (a + 1)) x) n))), some (.int (nI n))]) (st' := []) d_90_114 (fun _ => rfl) ?_
              refine cr_dr (al1 := [some (.ref a), some (.int (nI ((1 * 2 ^ n) - 1))), some (.int (nI (x + 1))), none, none, none]) (le_s (le_s (le_s (le_d rfl (le_d rfl (le_d rfl (le_n))))))) ?_
              exact ihx  (⟨all_s px.1 py.1, all_s px.2 ⟨c100, c106⟩⟩)
            · refine cn_ic (v := 0) d_90_109 (by decide) ?_
              exact cr_ri d_90_110 cx_90 (by decide) (bJ_f (fun e => by first | exact c100 (e.2 x hx).1 | exact c106 (e.2 x hx).2))
        · omega
  · show CR _ _ 11 [some (.ref a), some (.int (nI ((1 * 2 ^ n) - 1))), some (.int (nI n)), none, none, none] [] S G B J R _
    refine cr_nx (pc' := 12) (al' := [some (.ref a), some (.int (nI ((1 * 2 ^ n) - 1))), some (.int (nI n)), none, none, none]) (st' := [.int (nI n)]) d_90_11 (fun _ => rfl) ?_
    refine cr_nx (pc' := 13) (al' := [some (.ref a), some (.int (nI ((1 * 2 ^ n) - 1))), some (.int (nI n)), none, none, none]) (st' := [.ref a, .int (nI n)]) d_90_12 (fun _ => rfl) ?_
    refine cr_gf (v := .int (nI n)) d_90_13 cw_90 cf_10_15 ht.1 ht.2.2.1 (by decide) hn ?_
    refine cn_cge (t := 117) d_90_16 (by decide) (by first | omega | assumption | exact cu_36 (by omega) (cu_lt (by omega) (by omega))) (by first | omega | assumption | exact cu_36 (by omega) (cu_lt (by omega) (by omega))) (fun c16 => ?_) (fun c16 => ?_)
    · refine cn_ic (v := 1) d_90_117 (by decide) ?_
      exact cr_ri d_90_118 cx_90 (by decide) (bJ_t ⟨fun u v hu hv => px.1 u hu v hv, px.2⟩)
    · omega
