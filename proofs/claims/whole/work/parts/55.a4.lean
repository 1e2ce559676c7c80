/-! Tables made of tables: both; printed by wip/whole/gen_a4.py. -/
theorem Cur.up {g : Nat → Int32} {A : Nat → Nat → Int32} {n : Nat} {c : Nat → Nat} (h : Cur g A n c) {w : Nat → Int32} {j : Nat} (hj : 4 ≠ j) : Cur g (rf_u A j w) n c := ⟨h.1, h.2.1, fun q hq => by rw [rf_u_n hj]; exact h.2.2 q hq⟩
theorem Cur.ug {g : Nat → Int32} {A : Nat → Nat → Int32} {n : Nat} {c : Nat → Nat} (h : Cur g A n c) {v : Int32} {j : Nat} (hj : 6 ≠ j) : Cur (upd g j v) A n c := ⟨by rw [pk_un hj]; exact h.1, h.2⟩
theorem s_isotopes {g : Nat → Int32} {A : Nat → Nat → Int32} {n : Nat} {c : Nat → Nat} (hc : Cur g A n c) (hl : Lat n c) {a b : Nat} (ha : a < n) (hb : b < n) : RR 2 229 0 [some (.ref 146), some (.int (nI a)), some (.int (nI b)), none, none] [] g A (mkR g A n (isN n c a b)) := by
  have hn6 := hc.2.1
  refine rr_nx (pc' := 1) (al' := [some (.ref 146), some (.int (nI a)), some (.int (nI b)), none, none]) (st' := [.ref 146]) d_229_0 (fun _ => rfl) ?_
  refine rr_nx (pc' := 2) (al' := [some (.ref 146), some (.int (nI a)), some (.int (nI b)), none, none]) (st' := [.ref 146, .ref 146]) d_229_1 (fun _ => rfl) ?_
  refine rr_gn d_229_2 mo_229 fl_127 rfl hc.1 ?_
  refine rp_8 d_229_5 mo_229 fl_134  ?_
  refine rn_ic (v := 0) d_229_8 (by decide) ?_
  refine rr_nx (pc' := 10) (al' := [some (.ref 146), some (.int (nI a)), some (.int (nI b)), some (.int (nI 0)), none]) (st' := []) d_229_9 (fun _ => rfl) ?_
  refine rr_A (show A = (rf_u A 5 (A 5)) by rw [rf_u_id]) ?_
  refine rr_upw (al := fun x w_ => [some (.ref 146), some (.int (nI a)), some (.int (nI b)), some (.int (nI x)), none]) (G := fun x w_ => (upd g 8 (nI n))) (B := fun x w_ => (rf_u A 5 w_)) (P := fun x w_ => ScP (fun q => nI (isN n c a b q)) (fun x y => n * x + y) n x 0 w_) (n := n) (fun x w_ hx px ihx => ?_) (fun w_ px => ?_) 0 (A 5) (by omega) (sc_0)
  · show RR _ _ 10 [some (.ref 146), some (.int (nI a)), some (.int (nI b)), some (.int (nI x)), none] [] (upd g 8 (nI n)) (rf_u A 5 w_) _
    refine rr_nx (pc' := 11) (al' := [some (.ref 146), some (.int (nI a)), some (.int (nI b)), some (.int (nI x)), none]) (st' := [.int (nI x)]) d_229_10 (fun _ => rfl) ?_
    refine rr_nx (pc' := 12) (al' := [some (.ref 146), some (.int (nI a)), some (.int (nI b)), some (.int (nI x)), none]) (st' := [.ref 146, .int (nI x)]) d_229_11 (fun _ => rfl) ?_
    refine rr_gf (v := .int (g 6)) d_229_12 mo_229 fl_127 rfl ?_
    refine rr_tp (z := nI n) hc.1 ?_
    refine rn_cge (t := 73) d_229_15 (by decide) (by first | omega | assumption | exact cu_36 (by omega) (cu_lt (by omega) (by omega))) (by first | omega | assumption | exact cu_36 (by omega) (cu_lt (by omega) (by omega))) (fun c15 => ?_) (fun c15 => ?_)
    · omega
    · refine rn_ic (v := 0) d_229_18 (by decide) ?_
      refine rr_nx (pc' := 21) (al' := [some (.ref 146), some (.int (nI a)), some (.int (nI b)), some (.int (nI x)), some (.int (nI 0))]) (st' := []) d_229_19 (fun _ => rfl) ?_
      refine rr_upw (al := fun y w_ => [some (.ref 146), some (.int (nI a)), some (.int (nI b)), some (.int (nI x)), some (.int (nI y))]) (G := fun y w_ => (upd g 8 (nI n))) (B := fun y w_ => (rf_u A 5 w_)) (P := fun y w_ => ScP (fun q => nI (isN n c a b q)) (fun x y => n * x + y) n x y w_) (n := n) (fun y w_ hy py ihy => ?_) (fun w_ py => ?_) 0 w_ (by omega) (px)
      · show RR _ _ 21 [some (.ref 146), some (.int (nI a)), some (.int (nI b)), some (.int (nI x)), some (.int (nI y))] [] (upd g 8 (nI n)) (rf_u A 5 w_) _
        refine rr_nx (pc' := 23) (al' := [some (.ref 146), some (.int (nI a)), some (.int (nI b)), some (.int (nI x)), some (.int (nI y))]) (st' := [.int (nI y)]) d_229_21 (fun _ => rfl) ?_
        refine rr_nx (pc' := 24) (al' := [some (.ref 146), some (.int (nI a)), some (.int (nI b)), some (.int (nI x)), some (.int (nI y))]) (st' := [.ref 146, .int (nI y)]) d_229_23 (fun _ => rfl) ?_
        refine rr_gf (v := .int (g 6)) d_229_24 mo_229 fl_127 rfl ?_
        refine rr_tp (z := nI n) hc.1 ?_
        refine rn_cge (t := 67) d_229_27 (by decide) (by first | omega | assumption | exact cu_36 (by omega) (cu_lt (by omega) (by omega))) (by first | omega | assumption | exact cu_36 (by omega) (cu_lt (by omega) (by omega))) (fun c27 => ?_) (fun c27 => ?_)
        · omega
        · refine rr_nx (pc' := 31) (al' := [some (.ref 146), some (.int (nI a)), some (.int (nI b)), some (.int (nI x)), some (.int (nI y))]) (st' := [.ref 146]) d_229_30 (fun _ => rfl) ?_
          refine rr_gf (v := .ref (147 + 5)) d_229_31 mo_229 fl_26 rfl ?_
          refine rr_nx (pc' := 35) (al' := [some (.ref 146), some (.int (nI a)), some (.int (nI b)), some (.int (nI x)), some (.int (nI y))]) (st' := [.ref 146, .ref (147 + 5)]) d_229_34 (fun _ => rfl) ?_
          refine rr_gf (v := .int (g 6)) d_229_35 mo_229 fl_127 rfl ?_
          refine rr_tp (z := nI n) hc.1 ?_
          refine rr_nx (pc' := 39) (al' := [some (.ref 146), some (.int (nI a)), some (.int (nI b)), some (.int (nI x)), some (.int (nI y))]) (st' := [.int (nI x), .int (nI n), .ref (147 + 5)]) d_229_38 (fun _ => rfl) ?_
          refine rn_mul d_229_39  ?_
          refine rr_nx (pc' := 42) (al' := [some (.ref 146), some (.int (nI a)), some (.int (nI b)), some (.int (nI x)), some (.int (nI y))]) (st' := [.int (nI y), .int (nI (n * x)), .ref (147 + 5)]) d_229_40 (fun _ => rfl) ?_
          refine rn_add d_229_42  ?_
          refine rr_nx (pc' := 44) (al' := [some (.ref 146), some (.int (nI a)), some (.int (nI b)), some (.int (nI x)), some (.int (nI y))]) (st' := [.ref 146, .int (nI ((n * x) + y)), .ref (147 + 5)]) d_229_43 (fun _ => rfl) ?_
          refine rr_nx (pc' := 45) (al' := [some (.ref 146), some (.int (nI a)), some (.int (nI b)), some (.int (nI x)), some (.int (nI y))]) (st' := [.ref 146, .ref 146, .int (nI ((n * x) + y)), .ref (147 + 5)]) d_229_44 (fun _ => rfl) ?_
          refine rr_nx (pc' := 46) (al' := [some (.ref 146), some (.int (nI a)), some (.int (nI b)), some (.int (nI x)), some (.int (nI y))]) (st' := [.int (nI x), .ref 146, .ref 146, .int (nI ((n * x) + y)), .ref (147 + 5)]) d_229_45 (fun _ => rfl) ?_
          refine rr_nx (pc' := 47) (al' := [some (.ref 146), some (.int (nI a)), some (.int (nI b)), some (.int (nI x)), some (.int (nI y))]) (st' := [.int (nI b), .int (nI x), .ref 146, .ref 146, .int (nI ((n * x) + y)), .ref (147 + 5)]) d_229_46 (fun _ => rfl) ?_
          refine rr_pv (as := [.int (nI x), .int (nI b)]) (al0 := [some (.ref 146), some (.int (nI x)), some (.int (nI b)), none]) (r := [.ref 146, .int (nI ((n * x) + y)), .ref (147 + 5)]) d_229_47 mo_229 ml_208 mz_219 rfl rfl rfl (Nat.le_of_ble_eq_true rfl) (s_ahead ((hc.ug (by decide)).up (by decide)) (by omega) (by omega) (hl.o (by omega) (by omega)).1 (hl.o (by omega) (by omega)).2 (Lat.on _ _)) ?_
          show RR _ _ 50 [some (.ref 146), some (.int (nI a)), some (.int (nI b)), some (.int (nI x)), some (.int (nI y))] [.int (nI (ovrI n c x b)), .ref 146, .int (nI ((n * x) + y)), .ref (147 + 5)] (upd g 8 (nI n)) (rf_u A 5 w_) _
          have b47 : ovrI n c x b < n := (hl.o (by omega) (by omega)).1
          refine rr_nx (pc' := 51) (al' := [some (.ref 146), some (.int (nI a)), some (.int (nI b)), some (.int (nI x)), some (.int (nI y))]) (st' := [.ref 146, .int (nI (ovrI n c x b)), .ref 146, .int (nI ((n * x) + y)), .ref (147 + 5)]) d_229_50 (fun _ => rfl) ?_
          refine rr_nx (pc' := 52) (al' := [some (.ref 146), some (.int (nI a)), some (.int (nI b)), some (.int (nI x)), some (.int (nI y))]) (st' := [.int (nI a), .ref 146, .int (nI (ovrI n c x b)), .ref 146, .int (nI ((n * x) + y)), .ref (147 + 5)]) d_229_51 (fun _ => rfl) ?_
          refine rr_nx (pc' := 54) (al' := [some (.ref 146), some (.int (nI a)), some (.int (nI b)), some (.int (nI x)), some (.int (nI y))]) (st' := [.int (nI y), .int (nI a), .ref 146, .int (nI (ovrI n c x b)), .ref 146, .int (nI ((n * x) + y)), .ref (147 + 5)]) d_229_52 (fun _ => rfl) ?_
          refine rr_pv (as := [.int (nI a), .int (nI y)]) (al0 := [some (.ref 146), some (.int (nI a)), some (.int (nI y)), none]) (r := [.int (nI (ovrI n c x b)), .ref 146, .int (nI ((n * x) + y)), .ref (147 + 5)]) d_229_54 mo_229 ml_211 mz_220 rfl rfl rfl (Nat.le_of_ble_eq_true rfl) (s_behind ((hc.ug (by decide)).up (by decide)) (by omega) (by omega) (hl.u (by omega) (by omega)).1 (hl.u (by omega) (by omega)).2 (Lat.un _ _)) ?_
          show RR _ _ 57 [some (.ref 146), some (.int (nI a)), some (.int (nI b)), some (.int (nI x)), some (.int (nI y))] [.int (nI (undI n c a y)), .int (nI (ovrI n c x b)), .ref 146, .int (nI ((n * x) + y)), .ref (147 + 5)] (upd g 8 (nI n)) (rf_u A 5 w_) _
          have b54 : undI n c a y < n := (hl.u (by omega) (by omega)).1
          refine rr_pv (as := [.int (nI (ovrI n c x b)), .int (nI (undI n c a y))]) (al0 := [some (.ref 146), some (.int (nI (ovrI n c x b))), some (.int (nI (undI n c a y)))]) (r := [.int (nI ((n * x) + y)), .ref (147 + 5)]) d_229_57 mo_229 ml_130 mz_213 rfl rfl rfl (Nat.le_of_ble_eq_true rfl) (s_times ((hc.ug (by decide)).up (by decide)) (by omega) (by omega)) ?_
          show RR _ _ 60 [some (.ref 146), some (.int (nI a)), some (.int (nI b)), some (.int (nI x)), some (.int (nI y))] [.int (nI (c (n * (ovrI n c x b) + (undI n c a y)))), .int (nI ((n * x) + y)), .ref (147 + 5)] (upd g 8 (nI n)) (rf_u A 5 w_) _
          have b57 : c (n * (ovrI n c x b) + (undI n c a y)) < n := (hc.2.2 _ (cu_lt (by omega) (by omega))).2
          refine rr_iS (j := 5) (A1 := (rf_u A 5 (upd w_ ((n * x) + y) (nI (c (n * (ovrI n c x b) + (undI n c a y))))))) d_229_60 (by decide) rfl (by decide) (show (n * x) + y < 36 by first | omega | assumption | exact cu_36 (by omega) (cu_lt (by omega) (by omega))) rf_uw ?_
          refine rn_inc d_229_61 rfl rfl ?_
          show RR _ _ 64 [some (.ref 146), some (.int (nI a)), some (.int (nI b)), some (.int (nI x)), some (.int (nI (y + 1)))] [] (upd g 8 (nI n)) (rf_u A 5 (upd w_ ((n * x) + y) (nI (c (n * (ovrI n c x b) + (undI n c a y)))))) _
          refine rr_nx (pc' := 21) (al' := [some (.ref 146), some (.int (nI a)), some (.int (nI b)), some (.int (nI x)), some (.int (nI (y + 1)))]) (st' := []) d_229_64 (fun _ => rfl) ?_
          exact ihy (upd w_ ((n * x) + y) (nI (c (n * (ovrI n c x b) + (undI n c a y))))) (sc_in py rfl (by rw [isN_at (by assumption)]))
      · show RR _ _ 21 [some (.ref 146), some (.int (nI a)), some (.int (nI b)), some (.int (nI x)), some (.int (nI n))] [] (upd g 8 (nI n)) (rf_u A 5 w_) _
        refine rr_nx (pc' := 23) (al' := [some (.ref 146), some (.int (nI a)), some (.int (nI b)), some (.int (nI x)), some (.int (nI n))]) (st' := [.int (nI n)]) d_229_21 (fun _ => rfl) ?_
        refine rr_nx (pc' := 24) (al' := [some (.ref 146), some (.int (nI a)), some (.int (nI b)), some (.int (nI x)), some (.int (nI n))]) (st' := [.ref 146, .int (nI n)]) d_229_23 (fun _ => rfl) ?_
        refine rr_gf (v := .int (g 6)) d_229_24 mo_229 fl_127 rfl ?_
        refine rr_tp (z := nI n) hc.1 ?_
        refine rn_cge (t := 67) d_229_27 (by decide) (by first | omega | assumption | exact cu_36 (by omega) (cu_lt (by omega) (by omega))) (by first | omega | assumption | exact cu_36 (by omega) (cu_lt (by omega) (by omega))) (fun c27 => ?_) (fun c27 => ?_)
        · refine rn_inc d_229_67 rfl rfl ?_
          show RR _ _ 70 [some (.ref 146), some (.int (nI a)), some (.int (nI b)), some (.int (nI (x + 1))), some (.int (nI n))] [] (upd g 8 (nI n)) (rf_u A 5 w_) _
          refine rr_nx (pc' := 10) (al' := [some (.ref 146), some (.int (nI a)), some (.int (nI b)), some (.int (nI (x + 1))), some (.int (nI n))]) (st' := []) d_229_70 (fun _ => rfl) ?_
          refine rr_dr (al1 := [some (.ref 146), some (.int (nI a)), some (.int (nI b)), some (.int (nI (x + 1))), none]) (le_s (le_s (le_s (le_s (le_d rfl (le_n)))))) ?_
          exact ihx w_ (sc_out py)
        · omega
  · show RR _ _ 10 [some (.ref 146), some (.int (nI a)), some (.int (nI b)), some (.int (nI n)), none] [] (upd g 8 (nI n)) (rf_u A 5 w_) _
    refine rr_nx (pc' := 11) (al' := [some (.ref 146), some (.int (nI a)), some (.int (nI b)), some (.int (nI n)), none]) (st' := [.int (nI n)]) d_229_10 (fun _ => rfl) ?_
    refine rr_nx (pc' := 12) (al' := [some (.ref 146), some (.int (nI a)), some (.int (nI b)), some (.int (nI n)), none]) (st' := [.ref 146, .int (nI n)]) d_229_11 (fun _ => rfl) ?_
    refine rr_gf (v := .int (g 6)) d_229_12 mo_229 fl_127 rfl ?_
    refine rr_tp (z := nI n) hc.1 ?_
    refine rn_cge (t := 73) d_229_15 (by decide) (by first | omega | assumption | exact cu_36 (by omega) (cu_lt (by omega) (by omega))) (by first | omega | assumption | exact cu_36 (by omega) (cu_lt (by omega) (by omega))) (fun c15 => ?_) (fun c15 => ?_)
    · exact rr_rv d_229_73 mr_229 ⟨rfl, rfl, w_, rfl, sc_all px (sc_rm)⟩
    · omega
theorem s_conjugates0 {g : Nat → Int32} {A : Nat → Nat → Int32} {n : Nat} {c : Nat → Nat} (hc : Cur g A n c) (hl : Lat n c) : RR 1 231 0 [some (.ref 146), some (.int (nI 0)), none, none, none] [] g A (mkR g A n (cjN 0 n c)) := by
  have hn6 := hc.2.1
  refine rr_nx (pc' := 1) (al' := [some (.ref 146), some (.int (nI 0)), none, none, none]) (st' := [.ref 146]) d_231_0 (fun _ => rfl) ?_
  refine rr_nx (pc' := 2) (al' := [some (.ref 146), some (.int (nI 0)), none, none, none]) (st' := [.ref 146, .ref 146]) d_231_1 (fun _ => rfl) ?_
  refine rr_gn d_231_2 mo_231 fl_127 rfl hc.1 ?_
  refine rp_8 d_231_5 mo_231 fl_134  ?_
  refine rn_ic (v := 0) d_231_8 (by decide) ?_
  refine rr_nx (pc' := 10) (al' := [some (.ref 146), some (.int (nI 0)), some (.int (nI 0)), none, none]) (st' := []) d_231_9 (fun _ => rfl) ?_
  refine rr_A (show A = (rf_u A 5 (A 5)) by rw [rf_u_id]) ?_
  refine rr_upw (al := fun x w_ => [some (.ref 146), some (.int (nI 0)), some (.int (nI x)), none, none]) (G := fun x w_ => (upd g 8 (nI n))) (B := fun x w_ => (rf_u A 5 w_)) (P := fun x w_ => ScP (fun q => nI (cjN 0 n c q)) (fun x y => cjI 0 n x y (c (n * x + y))) n x 0 w_) (n := n) (fun x w_ hx px ihx => ?_) (fun w_ px => ?_) 0 (A 5) (by omega) (sc_0)
  · show RR _ _ 10 [some (.ref 146), some (.int (nI 0)), some (.int (nI x)), none, none] [] (upd g 8 (nI n)) (rf_u A 5 w_) _
    refine rr_nx (pc' := 11) (al' := [some (.ref 146), some (.int (nI 0)), some (.int (nI x)), none, none]) (st' := [.int (nI x)]) d_231_10 (fun _ => rfl) ?_
    refine rr_nx (pc' := 12) (al' := [some (.ref 146), some (.int (nI 0)), some (.int (nI x)), none, none]) (st' := [.ref 146, .int (nI x)]) d_231_11 (fun _ => rfl) ?_
    refine rr_gf (v := .int (g 6)) d_231_12 mo_231 fl_127 rfl ?_
    refine rr_tp (z := nI n) hc.1 ?_
    refine rn_cge (t := 189) d_231_15 (by decide) (by first | omega | assumption | exact cu_36 (by omega) (cu_lt (by omega) (by omega))) (by first | omega | assumption | exact cu_36 (by omega) (cu_lt (by omega) (by omega))) (fun c15 => ?_) (fun c15 => ?_)
    · omega
    · refine rn_ic (v := 0) d_231_18 (by decide) ?_
      refine rr_nx (pc' := 20) (al' := [some (.ref 146), some (.int (nI 0)), some (.int (nI x)), some (.int (nI 0)), none]) (st' := []) d_231_19 (fun _ => rfl) ?_
      refine rr_upw (al := fun y w_ => [some (.ref 146), some (.int (nI 0)), some (.int (nI x)), some (.int (nI y)), none]) (G := fun y w_ => (upd g 8 (nI n))) (B := fun y w_ => (rf_u A 5 w_)) (P := fun y w_ => ScP (fun q => nI (cjN 0 n c q)) (fun x y => cjI 0 n x y (c (n * x + y))) n x y w_) (n := n) (fun y w_ hy py ihy => ?_) (fun w_ py => ?_) 0 w_ (by omega) (px)
      · show RR _ _ 20 [some (.ref 146), some (.int (nI 0)), some (.int (nI x)), some (.int (nI y)), none] [] (upd g 8 (nI n)) (rf_u A 5 w_) _
        refine rr_nx (pc' := 21) (al' := [some (.ref 146), some (.int (nI 0)), some (.int (nI x)), some (.int (nI y)), none]) (st' := [.int (nI y)]) d_231_20 (fun _ => rfl) ?_
        refine rr_nx (pc' := 22) (al' := [some (.ref 146), some (.int (nI 0)), some (.int (nI x)), some (.int (nI y)), none]) (st' := [.ref 146, .int (nI y)]) d_231_21 (fun _ => rfl) ?_
        refine rr_gf (v := .int (g 6)) d_231_22 mo_231 fl_127 rfl ?_
        refine rr_tp (z := nI n) hc.1 ?_
        refine rn_cge (t := 183) d_231_25 (by decide) (by first | omega | assumption | exact cu_36 (by omega) (cu_lt (by omega) (by omega))) (by first | omega | assumption | exact cu_36 (by omega) (cu_lt (by omega) (by omega))) (fun c25 => ?_) (fun c25 => ?_)
        · omega
        · refine rr_nx (pc' := 29) (al' := [some (.ref 146), some (.int (nI 0)), some (.int (nI x)), some (.int (nI y)), none]) (st' := [.ref 146]) d_231_28 (fun _ => rfl) ?_
          refine rr_nx (pc' := 30) (al' := [some (.ref 146), some (.int (nI 0)), some (.int (nI x)), some (.int (nI y)), none]) (st' := [.int (nI x), .ref 146]) d_231_29 (fun _ => rfl) ?_
          refine rr_nx (pc' := 31) (al' := [some (.ref 146), some (.int (nI 0)), some (.int (nI x)), some (.int (nI y)), none]) (st' := [.int (nI y), .int (nI x), .ref 146]) d_231_30 (fun _ => rfl) ?_
          refine rr_pv (as := [.int (nI x), .int (nI y)]) (al0 := [some (.ref 146), some (.int (nI x)), some (.int (nI y))]) (r := []) d_231_31 mo_231 ml_130 mz_213 rfl rfl rfl (Nat.le_of_ble_eq_true rfl) (s_times ((hc.ug (by decide)).up (by decide)) (by omega) (by omega)) ?_
          show RR _ _ 34 [some (.ref 146), some (.int (nI 0)), some (.int (nI x)), some (.int (nI y)), none] [.int (nI (c (n * x + y)))] (upd g 8 (nI n)) (rf_u A 5 w_) _
          have b31 : c (n * x + y) < n := (hc.2.2 _ (cu_lt (by omega) (by omega))).2
          refine rr_nx (pc' := 36) (al' := [some (.ref 146), some (.int (nI 0)), some (.int (nI x)), some (.int (nI y)), some (.int (nI (c (n * x + y))))]) (st' := []) d_231_34 (fun _ => rfl) ?_
          refine rr_nx (pc' := 37) (al' := [some (.ref 146), some (.int (nI 0)), some (.int (nI x)), some (.int (nI y)), some (.int (nI (c (n * x + y))))]) (st' := [.int (nI 0)]) d_231_36 (fun _ => rfl) ?_
          refine rr_ts (off := 35) (t := 72) d_231_37 (by decide) (by decide) rfl (by decide) ?_
          refine rr_nx (pc' := 73) (al' := [some (.ref 146), some (.int (nI 0)), some (.int (nI x)), some (.int (nI y)), some (.int (nI (c (n * x + y))))]) (st' := [.ref 146]) d_231_72 (fun _ => rfl) ?_
          refine rr_gf (v := .ref (147 + 5)) d_231_73 mo_231 fl_26 rfl ?_
          refine rr_nx (pc' := 77) (al' := [some (.ref 146), some (.int (nI 0)), some (.int (nI x)), some (.int (nI y)), some (.int (nI (c (n * x + y))))]) (st' := [.ref 146, .ref (147 + 5)]) d_231_76 (fun _ => rfl) ?_
          refine rr_gf (v := .int (g 6)) d_231_77 mo_231 fl_127 rfl ?_
          refine rr_tp (z := nI n) hc.1 ?_
          refine rr_nx (pc' := 81) (al' := [some (.ref 146), some (.int (nI 0)), some (.int (nI x)), some (.int (nI y)), some (.int (nI (c (n * x + y))))]) (st' := [.int (nI x), .int (nI n), .ref (147 + 5)]) d_231_80 (fun _ => rfl) ?_
          refine rn_mul d_231_81  ?_
          refine rr_nx (pc' := 83) (al' := [some (.ref 146), some (.int (nI 0)), some (.int (nI x)), some (.int (nI y)), some (.int (nI (c (n * x + y))))]) (st' := [.int (nI y), .int (nI (n * x)), .ref (147 + 5)]) d_231_82 (fun _ => rfl) ?_
          refine rn_add d_231_83  ?_
          refine rr_nx (pc' := 86) (al' := [some (.ref 146), some (.int (nI 0)), some (.int (nI x)), some (.int (nI y)), some (.int (nI (c (n * x + y))))]) (st' := [.int (nI (c (n * x + y))), .int (nI ((n * x) + y)), .ref (147 + 5)]) d_231_84 (fun _ => rfl) ?_
          refine rr_iS (j := 5) (A1 := (rf_u A 5 (upd w_ ((n * x) + y) (nI (c (n * x + y)))))) d_231_86 (by decide) rfl (by decide) (show (n * x) + y < 36 by first | omega | assumption | exact cu_36 (by omega) (cu_lt (by omega) (by omega))) rf_uw ?_
          refine rr_nx (pc' := 177) (al' := [some (.ref 146), some (.int (nI 0)), some (.int (nI x)), some (.int (nI y)), some (.int (nI (c (n * x + y))))]) (st' := []) d_231_87 (fun _ => rfl) ?_
          refine rn_inc d_231_177 rfl rfl ?_
          show RR _ _ 180 [some (.ref 146), some (.int (nI 0)), some (.int (nI x)), some (.int (nI (y + 1))), some (.int (nI (c (n * x + y))))] [] (upd g 8 (nI n)) (rf_u A 5 (upd w_ ((n * x) + y) (nI (c (n * x + y))))) _
          refine rr_nx (pc' := 20) (al' := [some (.ref 146), some (.int (nI 0)), some (.int (nI x)), some (.int (nI (y + 1))), some (.int (nI (c (n * x + y))))]) (st' := []) d_231_180 (fun _ => rfl) ?_
          refine rr_dr (al1 := [some (.ref 146), some (.int (nI 0)), some (.int (nI x)), some (.int (nI (y + 1))), none]) (le_s (le_s (le_s (le_s (le_d rfl (le_n)))))) ?_
          exact ihy (upd w_ ((n * x) + y) (nI (c (n * x + y)))) (sc_in py rfl (congrArg nI (cj_at (w := 0) hl hx hy).symm))
      · show RR _ _ 20 [some (.ref 146), some (.int (nI 0)), some (.int (nI x)), some (.int (nI n)), none] [] (upd g 8 (nI n)) (rf_u A 5 w_) _
        refine rr_nx (pc' := 21) (al' := [some (.ref 146), some (.int (nI 0)), some (.int (nI x)), some (.int (nI n)), none]) (st' := [.int (nI n)]) d_231_20 (fun _ => rfl) ?_
        refine rr_nx (pc' := 22) (al' := [some (.ref 146), some (.int (nI 0)), some (.int (nI x)), some (.int (nI n)), none]) (st' := [.ref 146, .int (nI n)]) d_231_21 (fun _ => rfl) ?_
        refine rr_gf (v := .int (g 6)) d_231_22 mo_231 fl_127 rfl ?_
        refine rr_tp (z := nI n) hc.1 ?_
        refine rn_cge (t := 183) d_231_25 (by decide) (by first | omega | assumption | exact cu_36 (by omega) (cu_lt (by omega) (by omega))) (by first | omega | assumption | exact cu_36 (by omega) (cu_lt (by omega) (by omega))) (fun c25 => ?_) (fun c25 => ?_)
        · refine rn_inc d_231_183 rfl rfl ?_
          show RR _ _ 186 [some (.ref 146), some (.int (nI 0)), some (.int (nI (x + 1))), some (.int (nI n)), none] [] (upd g 8 (nI n)) (rf_u A 5 w_) _
          refine rr_nx (pc' := 10) (al' := [some (.ref 146), some (.int (nI 0)), some (.int (nI (x + 1))), some (.int (nI n)), none]) (st' := []) d_231_186 (fun _ => rfl) ?_
          refine rr_dr (al1 := [some (.ref 146), some (.int (nI 0)), some (.int (nI (x + 1))), none, none]) (le_s (le_s (le_s (le_d rfl (le_s (le_n)))))) ?_
          exact ihx w_ (sc_out py)
        · omega
  · show RR _ _ 10 [some (.ref 146), some (.int (nI 0)), some (.int (nI n)), none, none] [] (upd g 8 (nI n)) (rf_u A 5 w_) _
    refine rr_nx (pc' := 11) (al' := [some (.ref 146), some (.int (nI 0)), some (.int (nI n)), none, none]) (st' := [.int (nI n)]) d_231_10 (fun _ => rfl) ?_
    refine rr_nx (pc' := 12) (al' := [some (.ref 146), some (.int (nI 0)), some (.int (nI n)), none, none]) (st' := [.ref 146, .int (nI n)]) d_231_11 (fun _ => rfl) ?_
    refine rr_gf (v := .int (g 6)) d_231_12 mo_231 fl_127 rfl ?_
    refine rr_tp (z := nI n) hc.1 ?_
    refine rn_cge (t := 189) d_231_15 (by decide) (by first | omega | assumption | exact cu_36 (by omega) (cu_lt (by omega) (by omega))) (by first | omega | assumption | exact cu_36 (by omega) (cu_lt (by omega) (by omega))) (fun c15 => ?_) (fun c15 => ?_)
    · exact rr_rv d_231_189 mr_231 ⟨rfl, rfl, w_, rfl, sc_all px (fun q hq => cj_on hl hq)⟩
    · omega
theorem s_conjugates1 {g : Nat → Int32} {A : Nat → Nat → Int32} {n : Nat} {c : Nat → Nat} (hc : Cur g A n c) (hl : Lat n c) : RR 1 231 0 [some (.ref 146), some (.int (nI 1)), none, none, none] [] g A (mkR g A n (cjN 1 n c)) := by
  have hn6 := hc.2.1
  refine rr_nx (pc' := 1) (al' := [some (.ref 146), some (.int (nI 1)), none, none, none]) (st' := [.ref 146]) d_231_0 (fun _ => rfl) ?_
  refine rr_nx (pc' := 2) (al' := [some (.ref 146), some (.int (nI 1)), none, none, none]) (st' := [.ref 146, .ref 146]) d_231_1 (fun _ => rfl) ?_
  refine rr_gn d_231_2 mo_231 fl_127 rfl hc.1 ?_
  refine rp_8 d_231_5 mo_231 fl_134  ?_
  refine rn_ic (v := 0) d_231_8 (by decide) ?_
  refine rr_nx (pc' := 10) (al' := [some (.ref 146), some (.int (nI 1)), some (.int (nI 0)), none, none]) (st' := []) d_231_9 (fun _ => rfl) ?_
  refine rr_A (show A = (rf_u A 5 (A 5)) by rw [rf_u_id]) ?_
  refine rr_upw (al := fun x w_ => [some (.ref 146), some (.int (nI 1)), some (.int (nI x)), none, none]) (G := fun x w_ => (upd g 8 (nI n))) (B := fun x w_ => (rf_u A 5 w_)) (P := fun x w_ => ScP (fun q => nI (cjN 1 n c q)) (fun x y => cjI 1 n x y (c (n * x + y))) n x 0 w_) (n := n) (fun x w_ hx px ihx => ?_) (fun w_ px => ?_) 0 (A 5) (by omega) (sc_0)
  · show RR _ _ 10 [some (.ref 146), some (.int (nI 1)), some (.int (nI x)), none, none] [] (upd g 8 (nI n)) (rf_u A 5 w_) _
    refine rr_nx (pc' := 11) (al' := [some (.ref 146), some (.int (nI 1)), some (.int (nI x)), none, none]) (st' := [.int (nI x)]) d_231_10 (fun _ => rfl) ?_
    refine rr_nx (pc' := 12) (al' := [some (.ref 146), some (.int (nI 1)), some (.int (nI x)), none, none]) (st' := [.ref 146, .int (nI x)]) d_231_11 (fun _ => rfl) ?_
    refine rr_gf (v := .int (g 6)) d_231_12 mo_231 fl_127 rfl ?_
    refine rr_tp (z := nI n) hc.1 ?_
    refine rn_cge (t := 189) d_231_15 (by decide) (by first | omega | assumption | exact cu_36 (by omega) (cu_lt (by omega) (by omega))) (by first | omega | assumption | exact cu_36 (by omega) (cu_lt (by omega) (by omega))) (fun c15 => ?_) (fun c15 => ?_)
    · omega
    · refine rn_ic (v := 0) d_231_18 (by decide) ?_
      refine rr_nx (pc' := 20) (al' := [some (.ref 146), some (.int (nI 1)), some (.int (nI x)), some (.int (nI 0)), none]) (st' := []) d_231_19 (fun _ => rfl) ?_
      refine rr_upw (al := fun y w_ => [some (.ref 146), some (.int (nI 1)), some (.int (nI x)), some (.int (nI y)), none]) (G := fun y w_ => (upd g 8 (nI n))) (B := fun y w_ => (rf_u A 5 w_)) (P := fun y w_ => ScP (fun q => nI (cjN 1 n c q)) (fun x y => cjI 1 n x y (c (n * x + y))) n x y w_) (n := n) (fun y w_ hy py ihy => ?_) (fun w_ py => ?_) 0 w_ (by omega) (px)
      · show RR _ _ 20 [some (.ref 146), some (.int (nI 1)), some (.int (nI x)), some (.int (nI y)), none] [] (upd g 8 (nI n)) (rf_u A 5 w_) _
        refine rr_nx (pc' := 21) (al' := [some (.ref 146), some (.int (nI 1)), some (.int (nI x)), some (.int (nI y)), none]) (st' := [.int (nI y)]) d_231_20 (fun _ => rfl) ?_
        refine rr_nx (pc' := 22) (al' := [some (.ref 146), some (.int (nI 1)), some (.int (nI x)), some (.int (nI y)), none]) (st' := [.ref 146, .int (nI y)]) d_231_21 (fun _ => rfl) ?_
        refine rr_gf (v := .int (g 6)) d_231_22 mo_231 fl_127 rfl ?_
        refine rr_tp (z := nI n) hc.1 ?_
        refine rn_cge (t := 183) d_231_25 (by decide) (by first | omega | assumption | exact cu_36 (by omega) (cu_lt (by omega) (by omega))) (by first | omega | assumption | exact cu_36 (by omega) (cu_lt (by omega) (by omega))) (fun c25 => ?_) (fun c25 => ?_)
        · omega
        · refine rr_nx (pc' := 29) (al' := [some (.ref 146), some (.int (nI 1)), some (.int (nI x)), some (.int (nI y)), none]) (st' := [.ref 146]) d_231_28 (fun _ => rfl) ?_
          refine rr_nx (pc' := 30) (al' := [some (.ref 146), some (.int (nI 1)), some (.int (nI x)), some (.int (nI y)), none]) (st' := [.int (nI x), .ref 146]) d_231_29 (fun _ => rfl) ?_
          refine rr_nx (pc' := 31) (al' := [some (.ref 146), some (.int (nI 1)), some (.int (nI x)), some (.int (nI y)), none]) (st' := [.int (nI y), .int (nI x), .ref 146]) d_231_30 (fun _ => rfl) ?_
          refine rr_pv (as := [.int (nI x), .int (nI y)]) (al0 := [some (.ref 146), some (.int (nI x)), some (.int (nI y))]) (r := []) d_231_31 mo_231 ml_130 mz_213 rfl rfl rfl (Nat.le_of_ble_eq_true rfl) (s_times ((hc.ug (by decide)).up (by decide)) (by omega) (by omega)) ?_
          show RR _ _ 34 [some (.ref 146), some (.int (nI 1)), some (.int (nI x)), some (.int (nI y)), none] [.int (nI (c (n * x + y)))] (upd g 8 (nI n)) (rf_u A 5 w_) _
          have b31 : c (n * x + y) < n := (hc.2.2 _ (cu_lt (by omega) (by omega))).2
          refine rr_nx (pc' := 36) (al' := [some (.ref 146), some (.int (nI 1)), some (.int (nI x)), some (.int (nI y)), some (.int (nI (c (n * x + y))))]) (st' := []) d_231_34 (fun _ => rfl) ?_
          refine rr_nx (pc' := 37) (al' := [some (.ref 146), some (.int (nI 1)), some (.int (nI x)), some (.int (nI y)), some (.int (nI (c (n * x + y))))]) (st' := [.int (nI 1)]) d_231_36 (fun _ => rfl) ?_
          refine rr_ts (off := 53) (t := 90) d_231_37 (by decide) (by decide) rfl (by decide) ?_
          refine rr_nx (pc' := 91) (al' := [some (.ref 146), some (.int (nI 1)), some (.int (nI x)), some (.int (nI y)), some (.int (nI (c (n * x + y))))]) (st' := [.ref 146]) d_231_90 (fun _ => rfl) ?_
          refine rr_gf (v := .ref (147 + 5)) d_231_91 mo_231 fl_26 rfl ?_
          refine rr_nx (pc' := 95) (al' := [some (.ref 146), some (.int (nI 1)), some (.int (nI x)), some (.int (nI y)), some (.int (nI (c (n * x + y))))]) (st' := [.ref 146, .ref (147 + 5)]) d_231_94 (fun _ => rfl) ?_
          refine rr_gf (v := .int (g 6)) d_231_95 mo_231 fl_127 rfl ?_
          refine rr_tp (z := nI n) hc.1 ?_
          refine rr_nx (pc' := 99) (al' := [some (.ref 146), some (.int (nI 1)), some (.int (nI x)), some (.int (nI y)), some (.int (nI (c (n * x + y))))]) (st' := [.int (nI y), .int (nI n), .ref (147 + 5)]) d_231_98 (fun _ => rfl) ?_
          refine rn_mul d_231_99  ?_
          refine rr_nx (pc' := 101) (al' := [some (.ref 146), some (.int (nI 1)), some (.int (nI x)), some (.int (nI y)), some (.int (nI (c (n * x + y))))]) (st' := [.int (nI x), .int (nI (n * y)), .ref (147 + 5)]) d_231_100 (fun _ => rfl) ?_
          refine rn_add d_231_101  ?_
          refine rr_nx (pc' := 104) (al' := [some (.ref 146), some (.int (nI 1)), some (.int (nI x)), some (.int (nI y)), some (.int (nI (c (n * x + y))))]) (st' := [.int (nI (c (n * x + y))), .int (nI ((n * y) + x)), .ref (147 + 5)]) d_231_102 (fun _ => rfl) ?_
          refine rr_iS (j := 5) (A1 := (rf_u A 5 (upd w_ ((n * y) + x) (nI (c (n * x + y)))))) d_231_104 (by decide) rfl (by decide) (show (n * y) + x < 36 by first | omega | assumption | exact cu_36 (by omega) (cu_lt (by omega) (by omega))) rf_uw ?_
          refine rr_nx (pc' := 177) (al' := [some (.ref 146), some (.int (nI 1)), some (.int (nI x)), some (.int (nI y)), some (.int (nI (c (n * x + y))))]) (st' := []) d_231_105 (fun _ => rfl) ?_
          refine rn_inc d_231_177 rfl rfl ?_
          show RR _ _ 180 [some (.ref 146), some (.int (nI 1)), some (.int (nI x)), some (.int (nI (y + 1))), some (.int (nI (c (n * x + y))))] [] (upd g 8 (nI n)) (rf_u A 5 (upd w_ ((n * y) + x) (nI (c (n * x + y))))) _
          refine rr_nx (pc' := 20) (al' := [some (.ref 146), some (.int (nI 1)), some (.int (nI x)), some (.int (nI (y + 1))), some (.int (nI (c (n * x + y))))]) (st' := []) d_231_180 (fun _ => rfl) ?_
          refine rr_dr (al1 := [some (.ref 146), some (.int (nI 1)), some (.int (nI x)), some (.int (nI (y + 1))), none]) (le_s (le_s (le_s (le_s (le_d rfl (le_n)))))) ?_
          exact ihy (upd w_ ((n * y) + x) (nI (c (n * x + y)))) (sc_in py rfl (congrArg nI (cj_at (w := 1) hl hx hy).symm))
      · show RR _ _ 20 [some (.ref 146), some (.int (nI 1)), some (.int (nI x)), some (.int (nI n)), none] [] (upd g 8 (nI n)) (rf_u A 5 w_) _
        refine rr_nx (pc' := 21) (al' := [some (.ref 146), some (.int (nI 1)), some (.int (nI x)), some (.int (nI n)), none]) (st' := [.int (nI n)]) d_231_20 (fun _ => rfl) ?_
        refine rr_nx (pc' := 22) (al' := [some (.ref 146), some (.int (nI 1)), some (.int (nI x)), some (.int (nI n)), none]) (st' := [.ref 146, .int (nI n)]) d_231_21 (fun _ => rfl) ?_
        refine rr_gf (v := .int (g 6)) d_231_22 mo_231 fl_127 rfl ?_
        refine rr_tp (z := nI n) hc.1 ?_
        refine rn_cge (t := 183) d_231_25 (by decide) (by first | omega | assumption | exact cu_36 (by omega) (cu_lt (by omega) (by omega))) (by first | omega | assumption | exact cu_36 (by omega) (cu_lt (by omega) (by omega))) (fun c25 => ?_) (fun c25 => ?_)
        · refine rn_inc d_231_183 rfl rfl ?_
          show RR _ _ 186 [some (.ref 146), some (.int (nI 1)), some (.int (nI (x + 1))), some (.int (nI n)), none] [] (upd g 8 (nI n)) (rf_u A 5 w_) _
          refine rr_nx (pc' := 10) (al' := [some (.ref 146), some (.int (nI 1)), some (.int (nI (x + 1))), some (.int (nI n)), none]) (st' := []) d_231_186 (fun _ => rfl) ?_
          refine rr_dr (al1 := [some (.ref 146), some (.int (nI 1)), some (.int (nI (x + 1))), none, none]) (le_s (le_s (le_s (le_d rfl (le_s (le_n)))))) ?_
          exact ihx w_ (sc_out py)
        · omega
  · show RR _ _ 10 [some (.ref 146), some (.int (nI 1)), some (.int (nI n)), none, none] [] (upd g 8 (nI n)) (rf_u A 5 w_) _
    refine rr_nx (pc' := 11) (al' := [some (.ref 146), some (.int (nI 1)), some (.int (nI n)), none, none]) (st' := [.int (nI n)]) d_231_10 (fun _ => rfl) ?_
    refine rr_nx (pc' := 12) (al' := [some (.ref 146), some (.int (nI 1)), some (.int (nI n)), none, none]) (st' := [.ref 146, .int (nI n)]) d_231_11 (fun _ => rfl) ?_
    refine rr_gf (v := .int (g 6)) d_231_12 mo_231 fl_127 rfl ?_
    refine rr_tp (z := nI n) hc.1 ?_
    refine rn_cge (t := 189) d_231_15 (by decide) (by first | omega | assumption | exact cu_36 (by omega) (cu_lt (by omega) (by omega))) (by first | omega | assumption | exact cu_36 (by omega) (cu_lt (by omega) (by omega))) (fun c15 => ?_) (fun c15 => ?_)
    · exact rr_rv d_231_189 mr_231 ⟨rfl, rfl, w_, rfl, sc_all px (fun q hq => cj_on hl hq)⟩
    · omega
theorem s_conjugates2 {g : Nat → Int32} {A : Nat → Nat → Int32} {n : Nat} {c : Nat → Nat} (hc : Cur g A n c) (hl : Lat n c) : RR 1 231 0 [some (.ref 146), some (.int (nI 2)), none, none, none] [] g A (mkR g A n (cjN 2 n c)) := by
  have hn6 := hc.2.1
  refine rr_nx (pc' := 1) (al' := [some (.ref 146), some (.int (nI 2)), none, none, none]) (st' := [.ref 146]) d_231_0 (fun _ => rfl) ?_
  refine rr_nx (pc' := 2) (al' := [some (.ref 146), some (.int (nI 2)), none, none, none]) (st' := [.ref 146, .ref 146]) d_231_1 (fun _ => rfl) ?_
  refine rr_gn d_231_2 mo_231 fl_127 rfl hc.1 ?_
  refine rp_8 d_231_5 mo_231 fl_134  ?_
  refine rn_ic (v := 0) d_231_8 (by decide) ?_
  refine rr_nx (pc' := 10) (al' := [some (.ref 146), some (.int (nI 2)), some (.int (nI 0)), none, none]) (st' := []) d_231_9 (fun _ => rfl) ?_
  refine rr_A (show A = (rf_u A 5 (A 5)) by rw [rf_u_id]) ?_
  refine rr_upw (al := fun x w_ => [some (.ref 146), some (.int (nI 2)), some (.int (nI x)), none, none]) (G := fun x w_ => (upd g 8 (nI n))) (B := fun x w_ => (rf_u A 5 w_)) (P := fun x w_ => ScP (fun q => nI (cjN 2 n c q)) (fun x y => cjI 2 n x y (c (n * x + y))) n x 0 w_) (n := n) (fun x w_ hx px ihx => ?_) (fun w_ px => ?_) 0 (A 5) (by omega) (sc_0)
  · show RR _ _ 10 [some (.ref 146), some (.int (nI 2)), some (.int (nI x)), none, none] [] (upd g 8 (nI n)) (rf_u A 5 w_) _
    refine rr_nx (pc' := 11) (al' := [some (.ref 146), some (.int (nI 2)), some (.int (nI x)), none, none]) (st' := [.int (nI x)]) d_231_10 (fun _ => rfl) ?_
    refine rr_nx (pc' := 12) (al' := [some (.ref 146), some (.int (nI 2)), some (.int (nI x)), none, none]) (st' := [.ref 146, .int (nI x)]) d_231_11 (fun _ => rfl) ?_
    refine rr_gf (v := .int (g 6)) d_231_12 mo_231 fl_127 rfl ?_
    refine rr_tp (z := nI n) hc.1 ?_
    refine rn_cge (t := 189) d_231_15 (by decide) (by first | omega | assumption | exact cu_36 (by omega) (cu_lt (by omega) (by omega))) (by first | omega | assumption | exact cu_36 (by omega) (cu_lt (by omega) (by omega))) (fun c15 => ?_) (fun c15 => ?_)
    · omega
    · refine rn_ic (v := 0) d_231_18 (by decide) ?_
      refine rr_nx (pc' := 20) (al' := [some (.ref 146), some (.int (nI 2)), some (.int (nI x)), some (.int (nI 0)), none]) (st' := []) d_231_19 (fun _ => rfl) ?_
      refine rr_upw (al := fun y w_ => [some (.ref 146), some (.int (nI 2)), some (.int (nI x)), some (.int (nI y)), none]) (G := fun y w_ => (upd g 8 (nI n))) (B := fun y w_ => (rf_u A 5 w_)) (P := fun y w_ => ScP (fun q => nI (cjN 2 n c q)) (fun x y => cjI 2 n x y (c (n * x + y))) n x y w_) (n := n) (fun y w_ hy py ihy => ?_) (fun w_ py => ?_) 0 w_ (by omega) (px)
      · show RR _ _ 20 [some (.ref 146), some (.int (nI 2)), some (.int (nI x)), some (.int (nI y)), none] [] (upd g 8 (nI n)) (rf_u A 5 w_) _
        refine rr_nx (pc' := 21) (al' := [some (.ref 146), some (.int (nI 2)), some (.int (nI x)), some (.int (nI y)), none]) (st' := [.int (nI y)]) d_231_20 (fun _ => rfl) ?_
        refine rr_nx (pc' := 22) (al' := [some (.ref 146), some (.int (nI 2)), some (.int (nI x)), some (.int (nI y)), none]) (st' := [.ref 146, .int (nI y)]) d_231_21 (fun _ => rfl) ?_
        refine rr_gf (v := .int (g 6)) d_231_22 mo_231 fl_127 rfl ?_
        refine rr_tp (z := nI n) hc.1 ?_
        refine rn_cge (t := 183) d_231_25 (by decide) (by first | omega | assumption | exact cu_36 (by omega) (cu_lt (by omega) (by omega))) (by first | omega | assumption | exact cu_36 (by omega) (cu_lt (by omega) (by omega))) (fun c25 => ?_) (fun c25 => ?_)
        · omega
        · refine rr_nx (pc' := 29) (al' := [some (.ref 146), some (.int (nI 2)), some (.int (nI x)), some (.int (nI y)), none]) (st' := [.ref 146]) d_231_28 (fun _ => rfl) ?_
          refine rr_nx (pc' := 30) (al' := [some (.ref 146), some (.int (nI 2)), some (.int (nI x)), some (.int (nI y)), none]) (st' := [.int (nI x), .ref 146]) d_231_29 (fun _ => rfl) ?_
          refine rr_nx (pc' := 31) (al' := [some (.ref 146), some (.int (nI 2)), some (.int (nI x)), some (.int (nI y)), none]) (st' := [.int (nI y), .int (nI x), .ref 146]) d_231_30 (fun _ => rfl) ?_
          refine rr_pv (as := [.int (nI x), .int (nI y)]) (al0 := [some (.ref 146), some (.int (nI x)), some (.int (nI y))]) (r := []) d_231_31 mo_231 ml_130 mz_213 rfl rfl rfl (Nat.le_of_ble_eq_true rfl) (s_times ((hc.ug (by decide)).up (by decide)) (by omega) (by omega)) ?_
          show RR _ _ 34 [some (.ref 146), some (.int (nI 2)), some (.int (nI x)), some (.int (nI y)), none] [.int (nI (c (n * x + y)))] (upd g 8 (nI n)) (rf_u A 5 w_) _
          have b31 : c (n * x + y) < n := (hc.2.2 _ (cu_lt (by omega) (by omega))).2
          refine rr_nx (pc' := 36) (al' := [some (.ref 146), some (.int (nI 2)), some (.int (nI x)), some (.int (nI y)), some (.int (nI (c (n * x + y))))]) (st' := []) d_231_34 (fun _ => rfl) ?_
          refine rr_nx (pc' := 37) (al' := [some (.ref 146), some (.int (nI 2)), some (.int (nI x)), some (.int (nI y)), some (.int (nI (c (n * x + y))))]) (st' := [.int (nI 2)]) d_231_36 (fun _ => rfl) ?_
          refine rr_ts (off := 71) (t := 108) d_231_37 (by decide) (by decide) rfl (by decide) ?_
          refine rr_nx (pc' := 109) (al' := [some (.ref 146), some (.int (nI 2)), some (.int (nI x)), some (.int (nI y)), some (.int (nI (c (n * x + y))))]) (st' := [.ref 146]) d_231_108 (fun _ => rfl) ?_
          refine rr_gf (v := .ref (147 + 5)) d_231_109 mo_231 fl_26 rfl ?_
          refine rr_nx (pc' := 113) (al' := [some (.ref 146), some (.int (nI 2)), some (.int (nI x)), some (.int (nI y)), some (.int (nI (c (n * x + y))))]) (st' := [.ref 146, .ref (147 + 5)]) d_231_112 (fun _ => rfl) ?_
          refine rr_gf (v := .int (g 6)) d_231_113 mo_231 fl_127 rfl ?_
          refine rr_tp (z := nI n) hc.1 ?_
          refine rr_nx (pc' := 117) (al' := [some (.ref 146), some (.int (nI 2)), some (.int (nI x)), some (.int (nI y)), some (.int (nI (c (n * x + y))))]) (st' := [.int (nI x), .int (nI n), .ref (147 + 5)]) d_231_116 (fun _ => rfl) ?_
          refine rn_mul d_231_117  ?_
          refine rr_nx (pc' := 120) (al' := [some (.ref 146), some (.int (nI 2)), some (.int (nI x)), some (.int (nI y)), some (.int (nI (c (n * x + y))))]) (st' := [.int (nI (c (n * x + y))), .int (nI (n * x)), .ref (147 + 5)]) d_231_118 (fun _ => rfl) ?_
          refine rn_add d_231_120  ?_
          refine rr_nx (pc' := 122) (al' := [some (.ref 146), some (.int (nI 2)), some (.int (nI x)), some (.int (nI y)), some (.int (nI (c (n * x + y))))]) (st' := [.int (nI y), .int (nI ((n * x) + (c (n * x + y)))), .ref (147 + 5)]) d_231_121 (fun _ => rfl) ?_
          refine rr_iS (j := 5) (A1 := (rf_u A 5 (upd w_ ((n * x) + (c (n * x + y))) (nI y)))) d_231_122 (by decide) rfl (by decide) (show (n * x) + (c (n * x + y)) < 36 by first | omega | assumption | exact cu_36 (by omega) (cu_lt (by omega) (by omega))) rf_uw ?_
          refine rr_nx (pc' := 177) (al' := [some (.ref 146), some (.int (nI 2)), some (.int (nI x)), some (.int (nI y)), some (.int (nI (c (n * x + y))))]) (st' := []) d_231_123 (fun _ => rfl) ?_
          refine rn_inc d_231_177 rfl rfl ?_
          show RR _ _ 180 [some (.ref 146), some (.int (nI 2)), some (.int (nI x)), some (.int (nI (y + 1))), some (.int (nI (c (n * x + y))))] [] (upd g 8 (nI n)) (rf_u A 5 (upd w_ ((n * x) + (c (n * x + y))) (nI y))) _
          refine rr_nx (pc' := 20) (al' := [some (.ref 146), some (.int (nI 2)), some (.int (nI x)), some (.int (nI (y + 1))), some (.int (nI (c (n * x + y))))]) (st' := []) d_231_180 (fun _ => rfl) ?_
          refine rr_dr (al1 := [some (.ref 146), some (.int (nI 2)), some (.int (nI x)), some (.int (nI (y + 1))), none]) (le_s (le_s (le_s (le_s (le_d rfl (le_n)))))) ?_
          exact ihy (upd w_ ((n * x) + (c (n * x + y))) (nI y)) (sc_in py rfl (congrArg nI (cj_at (w := 2) hl hx hy).symm))
      · show RR _ _ 20 [some (.ref 146), some (.int (nI 2)), some (.int (nI x)), some (.int (nI n)), none] [] (upd g 8 (nI n)) (rf_u A 5 w_) _
        refine rr_nx (pc' := 21) (al' := [some (.ref 146), some (.int (nI 2)), some (.int (nI x)), some (.int (nI n)), none]) (st' := [.int (nI n)]) d_231_20 (fun _ => rfl) ?_
        refine rr_nx (pc' := 22) (al' := [some (.ref 146), some (.int (nI 2)), some (.int (nI x)), some (.int (nI n)), none]) (st' := [.ref 146, .int (nI n)]) d_231_21 (fun _ => rfl) ?_
        refine rr_gf (v := .int (g 6)) d_231_22 mo_231 fl_127 rfl ?_
        refine rr_tp (z := nI n) hc.1 ?_
        refine rn_cge (t := 183) d_231_25 (by decide) (by first | omega | assumption | exact cu_36 (by omega) (cu_lt (by omega) (by omega))) (by first | omega | assumption | exact cu_36 (by omega) (cu_lt (by omega) (by omega))) (fun c25 => ?_) (fun c25 => ?_)
        · refine rn_inc d_231_183 rfl rfl ?_
          show RR _ _ 186 [some (.ref 146), some (.int (nI 2)), some (.int (nI (x + 1))), some (.int (nI n)), none] [] (upd g 8 (nI n)) (rf_u A 5 w_) _
          refine rr_nx (pc' := 10) (al' := [some (.ref 146), some (.int (nI 2)), some (.int (nI (x + 1))), some (.int (nI n)), none]) (st' := []) d_231_186 (fun _ => rfl) ?_
          refine rr_dr (al1 := [some (.ref 146), some (.int (nI 2)), some (.int (nI (x + 1))), none, none]) (le_s (le_s (le_s (le_d rfl (le_s (le_n)))))) ?_
          exact ihx w_ (sc_out py)
        · omega
  · show RR _ _ 10 [some (.ref 146), some (.int (nI 2)), some (.int (nI n)), none, none] [] (upd g 8 (nI n)) (rf_u A 5 w_) _
    refine rr_nx (pc' := 11) (al' := [some (.ref 146), some (.int (nI 2)), some (.int (nI n)), none, none]) (st' := [.int (nI n)]) d_231_10 (fun _ => rfl) ?_
    refine rr_nx (pc' := 12) (al' := [some (.ref 146), some (.int (nI 2)), some (.int (nI n)), none, none]) (st' := [.ref 146, .int (nI n)]) d_231_11 (fun _ => rfl) ?_
    refine rr_gf (v := .int (g 6)) d_231_12 mo_231 fl_127 rfl ?_
    refine rr_tp (z := nI n) hc.1 ?_
    refine rn_cge (t := 189) d_231_15 (by decide) (by first | omega | assumption | exact cu_36 (by omega) (cu_lt (by omega) (by omega))) (by first | omega | assumption | exact cu_36 (by omega) (cu_lt (by omega) (by omega))) (fun c15 => ?_) (fun c15 => ?_)
    · exact rr_rv d_231_189 mr_231 ⟨rfl, rfl, w_, rfl, sc_all px (fun q hq => cj_on hl hq)⟩
    · omega
theorem s_conjugates3 {g : Nat → Int32} {A : Nat → Nat → Int32} {n : Nat} {c : Nat → Nat} (hc : Cur g A n c) (hl : Lat n c) : RR 1 231 0 [some (.ref 146), some (.int (nI 3)), none, none, none] [] g A (mkR g A n (cjN 3 n c)) := by
  have hn6 := hc.2.1
  refine rr_nx (pc' := 1) (al' := [some (.ref 146), some (.int (nI 3)), none, none, none]) (st' := [.ref 146]) d_231_0 (fun _ => rfl) ?_
  refine rr_nx (pc' := 2) (al' := [some (.ref 146), some (.int (nI 3)), none, none, none]) (st' := [.ref 146, .ref 146]) d_231_1 (fun _ => rfl) ?_
  refine rr_gn d_231_2 mo_231 fl_127 rfl hc.1 ?_
  refine rp_8 d_231_5 mo_231 fl_134  ?_
  refine rn_ic (v := 0) d_231_8 (by decide) ?_
  refine rr_nx (pc' := 10) (al' := [some (.ref 146), some (.int (nI 3)), some (.int (nI 0)), none, none]) (st' := []) d_231_9 (fun _ => rfl) ?_
  refine rr_A (show A = (rf_u A 5 (A 5)) by rw [rf_u_id]) ?_
  refine rr_upw (al := fun x w_ => [some (.ref 146), some (.int (nI 3)), some (.int (nI x)), none, none]) (G := fun x w_ => (upd g 8 (nI n))) (B := fun x w_ => (rf_u A 5 w_)) (P := fun x w_ => ScP (fun q => nI (cjN 3 n c q)) (fun x y => cjI 3 n x y (c (n * x + y))) n x 0 w_) (n := n) (fun x w_ hx px ihx => ?_) (fun w_ px => ?_) 0 (A 5) (by omega) (sc_0)
  · show RR _ _ 10 [some (.ref 146), some (.int (nI 3)), some (.int (nI x)), none, none] [] (upd g 8 (nI n)) (rf_u A 5 w_) _
    refine rr_nx (pc' := 11) (al' := [some (.ref 146), some (.int (nI 3)), some (.int (nI x)), none, none]) (st' := [.int (nI x)]) d_231_10 (fun _ => rfl) ?_
    refine rr_nx (pc' := 12) (al' := [some (.ref 146), some (.int (nI 3)), some (.int (nI x)), none, none]) (st' := [.ref 146, .int (nI x)]) d_231_11 (fun _ => rfl) ?_
    refine rr_gf (v := .int (g 6)) d_231_12 mo_231 fl_127 rfl ?_
    refine rr_tp (z := nI n) hc.1 ?_
    refine rn_cge (t := 189) d_231_15 (by decide) (by first | omega | assumption | exact cu_36 (by omega) (cu_lt (by omega) (by omega))) (by first | omega | assumption | exact cu_36 (by omega) (cu_lt (by omega) (by omega))) (fun c15 => ?_) (fun c15 => ?_)
    · omega
    · refine rn_ic (v := 0) d_231_18 (by decide) ?_
      refine rr_nx (pc' := 20) (al' := [some (.ref 146), some (.int (nI 3)), some (.int (nI x)), some (.int (nI 0)), none]) (st' := []) d_231_19 (fun _ => rfl) ?_
      refine rr_upw (al := fun y w_ => [some (.ref 146), some (.int (nI 3)), some (.int (nI x)), some (.int (nI y)), none]) (G := fun y w_ => (upd g 8 (nI n))) (B := fun y w_ => (rf_u A 5 w_)) (P := fun y w_ => ScP (fun q => nI (cjN 3 n c q)) (fun x y => cjI 3 n x y (c (n * x + y))) n x y w_) (n := n) (fun y w_ hy py ihy => ?_) (fun w_ py => ?_) 0 w_ (by omega) (px)
      · show RR _ _ 20 [some (.ref 146), some (.int (nI 3)), some (.int (nI x)), some (.int (nI y)), none] [] (upd g 8 (nI n)) (rf_u A 5 w_) _
        refine rr_nx (pc' := 21) (al' := [some (.ref 146), some (.int (nI 3)), some (.int (nI x)), some (.int (nI y)), none]) (st' := [.int (nI y)]) d_231_20 (fun _ => rfl) ?_
        refine rr_nx (pc' := 22) (al' := [some (.ref 146), some (.int (nI 3)), some (.int (nI x)), some (.int (nI y)), none]) (st' := [.ref 146, .int (nI y)]) d_231_21 (fun _ => rfl) ?_
        refine rr_gf (v := .int (g 6)) d_231_22 mo_231 fl_127 rfl ?_
        refine rr_tp (z := nI n) hc.1 ?_
        refine rn_cge (t := 183) d_231_25 (by decide) (by first | omega | assumption | exact cu_36 (by omega) (cu_lt (by omega) (by omega))) (by first | omega | assumption | exact cu_36 (by omega) (cu_lt (by omega) (by omega))) (fun c25 => ?_) (fun c25 => ?_)
        · omega
        · refine rr_nx (pc' := 29) (al' := [some (.ref 146), some (.int (nI 3)), some (.int (nI x)), some (.int (nI y)), none]) (st' := [.ref 146]) d_231_28 (fun _ => rfl) ?_
          refine rr_nx (pc' := 30) (al' := [some (.ref 146), some (.int (nI 3)), some (.int (nI x)), some (.int (nI y)), none]) (st' := [.int (nI x), .ref 146]) d_231_29 (fun _ => rfl) ?_
          refine rr_nx (pc' := 31) (al' := [some (.ref 146), some (.int (nI 3)), some (.int (nI x)), some (.int (nI y)), none]) (st' := [.int (nI y), .int (nI x), .ref 146]) d_231_30 (fun _ => rfl) ?_
          refine rr_pv (as := [.int (nI x), .int (nI y)]) (al0 := [some (.ref 146), some (.int (nI x)), some (.int (nI y))]) (r := []) d_231_31 mo_231 ml_130 mz_213 rfl rfl rfl (Nat.le_of_ble_eq_true rfl) (s_times ((hc.ug (by decide)).up (by decide)) (by omega) (by omega)) ?_
          show RR _ _ 34 [some (.ref 146), some (.int (nI 3)), some (.int (nI x)), some (.int (nI y)), none] [.int (nI (c (n * x + y)))] (upd g 8 (nI n)) (rf_u A 5 w_) _
          have b31 : c (n * x + y) < n := (hc.2.2 _ (cu_lt (by omega) (by omega))).2
          refine rr_nx (pc' := 36) (al' := [some (.ref 146), some (.int (nI 3)), some (.int (nI x)), some (.int (nI y)), some (.int (nI (c (n * x + y))))]) (st' := []) d_231_34 (fun _ => rfl) ?_
          refine rr_nx (pc' := 37) (al' := [some (.ref 146), some (.int (nI 3)), some (.int (nI x)), some (.int (nI y)), some (.int (nI (c (n * x + y))))]) (st' := [.int (nI 3)]) d_231_36 (fun _ => rfl) ?_
          refine rr_ts (off := 89) (t := 126) d_231_37 (by decide) (by decide) rfl (by decide) ?_
          refine rr_nx (pc' := 127) (al' := [some (.ref 146), some (.int (nI 3)), some (.int (nI x)), some (.int (nI y)), some (.int (nI (c (n * x + y))))]) (st' := [.ref 146]) d_231_126 (fun _ => rfl) ?_
          refine rr_gf (v := .ref (147 + 5)) d_231_127 mo_231 fl_26 rfl ?_
          refine rr_nx (pc' := 131) (al' := [some (.ref 146), some (.int (nI 3)), some (.int (nI x)), some (.int (nI y)), some (.int (nI (c (n * x + y))))]) (st' := [.ref 146, .ref (147 + 5)]) d_231_130 (fun _ => rfl) ?_
          refine rr_gf (v := .int (g 6)) d_231_131 mo_231 fl_127 rfl ?_
          refine rr_tp (z := nI n) hc.1 ?_
          refine rr_nx (pc' := 136) (al' := [some (.ref 146), some (.int (nI 3)), some (.int (nI x)), some (.int (nI y)), some (.int (nI (c (n * x + y))))]) (st' := [.int (nI (c (n * x + y))), .int (nI n), .ref (147 + 5)]) d_231_134 (fun _ => rfl) ?_
          refine rn_mul d_231_136  ?_
          refine rr_nx (pc' := 138) (al' := [some (.ref 146), some (.int (nI 3)), some (.int (nI x)), some (.int (nI y)), some (.int (nI (c (n * x + y))))]) (st' := [.int (nI x), .int (nI (n * (c (n * x + y)))), .ref (147 + 5)]) d_231_137 (fun _ => rfl) ?_
          refine rn_add d_231_138  ?_
          refine rr_nx (pc' := 140) (al' := [some (.ref 146), some (.int (nI 3)), some (.int (nI x)), some (.int (nI y)), some (.int (nI (c (n * x + y))))]) (st' := [.int (nI y), .int (nI ((n * (c (n * x + y))) + x)), .ref (147 + 5)]) d_231_139 (fun _ => rfl) ?_
          refine rr_iS (j := 5) (A1 := (rf_u A 5 (upd w_ ((n * (c (n * x + y))) + x) (nI y)))) d_231_140 (by decide) rfl (by decide) (show (n * (c (n * x + y))) + x < 36 by first | omega | assumption | exact cu_36 (by omega) (cu_lt (by omega) (by omega))) rf_uw ?_
          refine rr_nx (pc' := 177) (al' := [some (.ref 146), some (.int (nI 3)), some (.int (nI x)), some (.int (nI y)), some (.int (nI (c (n * x + y))))]) (st' := []) d_231_141 (fun _ => rfl) ?_
          refine rn_inc d_231_177 rfl rfl ?_
          show RR _ _ 180 [some (.ref 146), some (.int (nI 3)), some (.int (nI x)), some (.int (nI (y + 1))), some (.int (nI (c (n * x + y))))] [] (upd g 8 (nI n)) (rf_u A 5 (upd w_ ((n * (c (n * x + y))) + x) (nI y))) _
          refine rr_nx (pc' := 20) (al' := [some (.ref 146), some (.int (nI 3)), some (.int (nI x)), some (.int (nI (y + 1))), some (.int (nI (c (n * x + y))))]) (st' := []) d_231_180 (fun _ => rfl) ?_
          refine rr_dr (al1 := [some (.ref 146), some (.int (nI 3)), some (.int (nI x)), some (.int (nI (y + 1))), none]) (le_s (le_s (le_s (le_s (le_d rfl (le_n)))))) ?_
          exact ihy (upd w_ ((n * (c (n * x + y))) + x) (nI y)) (sc_in py rfl (congrArg nI (cj_at (w := 3) hl hx hy).symm))
      · show RR _ _ 20 [some (.ref 146), some (.int (nI 3)), some (.int (nI x)), some (.int (nI n)), none] [] (upd g 8 (nI n)) (rf_u A 5 w_) _
        refine rr_nx (pc' := 21) (al' := [some (.ref 146), some (.int (nI 3)), some (.int (nI x)), some (.int (nI n)), none]) (st' := [.int (nI n)]) d_231_20 (fun _ => rfl) ?_
        refine rr_nx (pc' := 22) (al' := [some (.ref 146), some (.int (nI 3)), some (.int (nI x)), some (.int (nI n)), none]) (st' := [.ref 146, .int (nI n)]) d_231_21 (fun _ => rfl) ?_
        refine rr_gf (v := .int (g 6)) d_231_22 mo_231 fl_127 rfl ?_
        refine rr_tp (z := nI n) hc.1 ?_
        refine rn_cge (t := 183) d_231_25 (by decide) (by first | omega | assumption | exact cu_36 (by omega) (cu_lt (by omega) (by omega))) (by first | omega | assumption | exact cu_36 (by omega) (cu_lt (by omega) (by omega))) (fun c25 => ?_) (fun c25 => ?_)
        · refine rn_inc d_231_183 rfl rfl ?_
          show RR _ _ 186 [some (.ref 146), some (.int (nI 3)), some (.int (nI (x + 1))), some (.int (nI n)), none] [] (upd g 8 (nI n)) (rf_u A 5 w_) _
          refine rr_nx (pc' := 10) (al' := [some (.ref 146), some (.int (nI 3)), some (.int (nI (x + 1))), some (.int (nI n)), none]) (st' := []) d_231_186 (fun _ => rfl) ?_
          refine rr_dr (al1 := [some (.ref 146), some (.int (nI 3)), some (.int (nI (x + 1))), none, none]) (le_s (le_s (le_s (le_d rfl (le_s (le_n)))))) ?_
          exact ihx w_ (sc_out py)
        · omega
  · show RR _ _ 10 [some (.ref 146), some (.int (nI 3)), some (.int (nI n)), none, none] [] (upd g 8 (nI n)) (rf_u A 5 w_) _
    refine rr_nx (pc' := 11) (al' := [some (.ref 146), some (.int (nI 3)), some (.int (nI n)), none, none]) (st' := [.int (nI n)]) d_231_10 (fun _ => rfl) ?_
    refine rr_nx (pc' := 12) (al' := [some (.ref 146), some (.int (nI 3)), some (.int (nI n)), none, none]) (st' := [.ref 146, .int (nI n)]) d_231_11 (fun _ => rfl) ?_
    refine rr_gf (v := .int (g 6)) d_231_12 mo_231 fl_127 rfl ?_
    refine rr_tp (z := nI n) hc.1 ?_
    refine rn_cge (t := 189) d_231_15 (by decide) (by first | omega | assumption | exact cu_36 (by omega) (cu_lt (by omega) (by omega))) (by first | omega | assumption | exact cu_36 (by omega) (cu_lt (by omega) (by omega))) (fun c15 => ?_) (fun c15 => ?_)
    · exact rr_rv d_231_189 mr_231 ⟨rfl, rfl, w_, rfl, sc_all px (fun q hq => cj_on hl hq)⟩
    · omega
theorem s_conjugates4 {g : Nat → Int32} {A : Nat → Nat → Int32} {n : Nat} {c : Nat → Nat} (hc : Cur g A n c) (hl : Lat n c) : RR 1 231 0 [some (.ref 146), some (.int (nI 4)), none, none, none] [] g A (mkR g A n (cjN 4 n c)) := by
  have hn6 := hc.2.1
  refine rr_nx (pc' := 1) (al' := [some (.ref 146), some (.int (nI 4)), none, none, none]) (st' := [.ref 146]) d_231_0 (fun _ => rfl) ?_
  refine rr_nx (pc' := 2) (al' := [some (.ref 146), some (.int (nI 4)), none, none, none]) (st' := [.ref 146, .ref 146]) d_231_1 (fun _ => rfl) ?_
  refine rr_gn d_231_2 mo_231 fl_127 rfl hc.1 ?_
  refine rp_8 d_231_5 mo_231 fl_134  ?_
  refine rn_ic (v := 0) d_231_8 (by decide) ?_
  refine rr_nx (pc' := 10) (al' := [some (.ref 146), some (.int (nI 4)), some (.int (nI 0)), none, none]) (st' := []) d_231_9 (fun _ => rfl) ?_
  refine rr_A (show A = (rf_u A 5 (A 5)) by rw [rf_u_id]) ?_
  refine rr_upw (al := fun x w_ => [some (.ref 146), some (.int (nI 4)), some (.int (nI x)), none, none]) (G := fun x w_ => (upd g 8 (nI n))) (B := fun x w_ => (rf_u A 5 w_)) (P := fun x w_ => ScP (fun q => nI (cjN 4 n c q)) (fun x y => cjI 4 n x y (c (n * x + y))) n x 0 w_) (n := n) (fun x w_ hx px ihx => ?_) (fun w_ px => ?_) 0 (A 5) (by omega) (sc_0)
  · show RR _ _ 10 [some (.ref 146), some (.int (nI 4)), some (.int (nI x)), none, none] [] (upd g 8 (nI n)) (rf_u A 5 w_) _
    refine rr_nx (pc' := 11) (al' := [some (.ref 146), some (.int (nI 4)), some (.int (nI x)), none, none]) (st' := [.int (nI x)]) d_231_10 (fun _ => rfl) ?_
    refine rr_nx (pc' := 12) (al' := [some (.ref 146), some (.int (nI 4)), some (.int (nI x)), none, none]) (st' := [.ref 146, .int (nI x)]) d_231_11 (fun _ => rfl) ?_
    refine rr_gf (v := .int (g 6)) d_231_12 mo_231 fl_127 rfl ?_
    refine rr_tp (z := nI n) hc.1 ?_
    refine rn_cge (t := 189) d_231_15 (by decide) (by first | omega | assumption | exact cu_36 (by omega) (cu_lt (by omega) (by omega))) (by first | omega | assumption | exact cu_36 (by omega) (cu_lt (by omega) (by omega))) (fun c15 => ?_) (fun c15 => ?_)
    · omega
    · refine rn_ic (v := 0) d_231_18 (by decide) ?_
      refine rr_nx (pc' := 20) (al' := [some (.ref 146), some (.int (nI 4)), some (.int (nI x)), some (.int (nI 0)), none]) (st' := []) d_231_19 (fun _ => rfl) ?_
      refine rr_upw (al := fun y w_ => [some (.ref 146), some (.int (nI 4)), some (.int (nI x)), some (.int (nI y)), none]) (G := fun y w_ => (upd g 8 (nI n))) (B := fun y w_ => (rf_u A 5 w_)) (P := fun y w_ => ScP (fun q => nI (cjN 4 n c q)) (fun x y => cjI 4 n x y (c (n * x + y))) n x y w_) (n := n) (fun y w_ hy py ihy => ?_) (fun w_ py => ?_) 0 w_ (by omega) (px)
      · show RR _ _ 20 [some (.ref 146), some (.int (nI 4)), some (.int (nI x)), some (.int (nI y)), none] [] (upd g 8 (nI n)) (rf_u A 5 w_) _
        refine rr_nx (pc' := 21) (al' := [some (.ref 146), some (.int (nI 4)), some (.int (nI x)), some (.int (nI y)), none]) (st' := [.int (nI y)]) d_231_20 (fun _ => rfl) ?_
        refine rr_nx (pc' := 22) (al' := [some (.ref 146), some (.int (nI 4)), some (.int (nI x)), some (.int (nI y)), none]) (st' := [.ref 146, .int (nI y)]) d_231_21 (fun _ => rfl) ?_
        refine rr_gf (v := .int (g 6)) d_231_22 mo_231 fl_127 rfl ?_
        refine rr_tp (z := nI n) hc.1 ?_
        refine rn_cge (t := 183) d_231_25 (by decide) (by first | omega | assumption | exact cu_36 (by omega) (cu_lt (by omega) (by omega))) (by first | omega | assumption | exact cu_36 (by omega) (cu_lt (by omega) (by omega))) (fun c25 => ?_) (fun c25 => ?_)
        · omega
        · refine rr_nx (pc' := 29) (al' := [some (.ref 146), some (.int (nI 4)), some (.int (nI x)), some (.int (nI y)), none]) (st' := [.ref 146]) d_231_28 (fun _ => rfl) ?_
          refine rr_nx (pc' := 30) (al' := [some (.ref 146), some (.int (nI 4)), some (.int (nI x)), some (.int (nI y)), none]) (st' := [.int (nI x), .ref 146]) d_231_29 (fun _ => rfl) ?_
          refine rr_nx (pc' := 31) (al' := [some (.ref 146), some (.int (nI 4)), some (.int (nI x)), some (.int (nI y)), none]) (st' := [.int (nI y), .int (nI x), .ref 146]) d_231_30 (fun _ => rfl) ?_
          refine rr_pv (as := [.int (nI x), .int (nI y)]) (al0 := [some (.ref 146), some (.int (nI x)), some (.int (nI y))]) (r := []) d_231_31 mo_231 ml_130 mz_213 rfl rfl rfl (Nat.le_of_ble_eq_true rfl) (s_times ((hc.ug (by decide)).up (by decide)) (by omega) (by omega)) ?_
          show RR _ _ 34 [some (.ref 146), some (.int (nI 4)), some (.int (nI x)), some (.int (nI y)), none] [.int (nI (c (n * x + y)))] (upd g 8 (nI n)) (rf_u A 5 w_) _
          have b31 : c (n * x + y) < n := (hc.2.2 _ (cu_lt (by omega) (by omega))).2
          refine rr_nx (pc' := 36) (al' := [some (.ref 146), some (.int (nI 4)), some (.int (nI x)), some (.int (nI y)), some (.int (nI (c (n * x + y))))]) (st' := []) d_231_34 (fun _ => rfl) ?_
          refine rr_nx (pc' := 37) (al' := [some (.ref 146), some (.int (nI 4)), some (.int (nI x)), some (.int (nI y)), some (.int (nI (c (n * x + y))))]) (st' := [.int (nI 4)]) d_231_36 (fun _ => rfl) ?_
          refine rr_ts (off := 107) (t := 144) d_231_37 (by decide) (by decide) rfl (by decide) ?_
          refine rr_nx (pc' := 145) (al' := [some (.ref 146), some (.int (nI 4)), some (.int (nI x)), some (.int (nI y)), some (.int (nI (c (n * x + y))))]) (st' := [.ref 146]) d_231_144 (fun _ => rfl) ?_
          refine rr_gf (v := .ref (147 + 5)) d_231_145 mo_231 fl_26 rfl ?_
          refine rr_nx (pc' := 149) (al' := [some (.ref 146), some (.int (nI 4)), some (.int (nI x)), some (.int (nI y)), some (.int (nI (c (n * x + y))))]) (st' := [.ref 146, .ref (147 + 5)]) d_231_148 (fun _ => rfl) ?_
          refine rr_gf (v := .int (g 6)) d_231_149 mo_231 fl_127 rfl ?_
          refine rr_tp (z := nI n) hc.1 ?_
          refine rr_nx (pc' := 153) (al' := [some (.ref 146), some (.int (nI 4)), some (.int (nI x)), some (.int (nI y)), some (.int (nI (c (n * x + y))))]) (st' := [.int (nI y), .int (nI n), .ref (147 + 5)]) d_231_152 (fun _ => rfl) ?_
          refine rn_mul d_231_153  ?_
          refine rr_nx (pc' := 156) (al' := [some (.ref 146), some (.int (nI 4)), some (.int (nI x)), some (.int (nI y)), some (.int (nI (c (n * x + y))))]) (st' := [.int (nI (c (n * x + y))), .int (nI (n * y)), .ref (147 + 5)]) d_231_154 (fun _ => rfl) ?_
          refine rn_add d_231_156  ?_
          refine rr_nx (pc' := 158) (al' := [some (.ref 146), some (.int (nI 4)), some (.int (nI x)), some (.int (nI y)), some (.int (nI (c (n * x + y))))]) (st' := [.int (nI x), .int (nI ((n * y) + (c (n * x + y)))), .ref (147 + 5)]) d_231_157 (fun _ => rfl) ?_
          refine rr_iS (j := 5) (A1 := (rf_u A 5 (upd w_ ((n * y) + (c (n * x + y))) (nI x)))) d_231_158 (by decide) rfl (by decide) (show (n * y) + (c (n * x + y)) < 36 by first | omega | assumption | exact cu_36 (by omega) (cu_lt (by omega) (by omega))) rf_uw ?_
          refine rr_nx (pc' := 177) (al' := [some (.ref 146), some (.int (nI 4)), some (.int (nI x)), some (.int (nI y)), some (.int (nI (c (n * x + y))))]) (st' := []) d_231_159 (fun _ => rfl) ?_
          refine rn_inc d_231_177 rfl rfl ?_
          show RR _ _ 180 [some (.ref 146), some (.int (nI 4)), some (.int (nI x)), some (.int (nI (y + 1))), some (.int (nI (c (n * x + y))))] [] (upd g 8 (nI n)) (rf_u A 5 (upd w_ ((n * y) + (c (n * x + y))) (nI x))) _
          refine rr_nx (pc' := 20) (al' := [some (.ref 146), some (.int (nI 4)), some (.int (nI x)), some (.int (nI (y + 1))), some (.int (nI (c (n * x + y))))]) (st' := []) d_231_180 (fun _ => rfl) ?_
          refine rr_dr (al1 := [some (.ref 146), some (.int (nI 4)), some (.int (nI x)), some (.int (nI (y + 1))), none]) (le_s (le_s (le_s (le_s (le_d rfl (le_n)))))) ?_
          exact ihy (upd w_ ((n * y) + (c (n * x + y))) (nI x)) (sc_in py rfl (congrArg nI (cj_at (w := 4) hl hx hy).symm))
      · show RR _ _ 20 [some (.ref 146), some (.int (nI 4)), some (.int (nI x)), some (.int (nI n)), none] [] (upd g 8 (nI n)) (rf_u A 5 w_) _
        refine rr_nx (pc' := 21) (al' := [some (.ref 146), some (.int (nI 4)), some (.int (nI x)), some (.int (nI n)), none]) (st' := [.int (nI n)]) d_231_20 (fun _ => rfl) ?_
        refine rr_nx (pc' := 22) (al' := [some (.ref 146), some (.int (nI 4)), some (.int (nI x)), some (.int (nI n)), none]) (st' := [.ref 146, .int (nI n)]) d_231_21 (fun _ => rfl) ?_
        refine rr_gf (v := .int (g 6)) d_231_22 mo_231 fl_127 rfl ?_
        refine rr_tp (z := nI n) hc.1 ?_
        refine rn_cge (t := 183) d_231_25 (by decide) (by first | omega | assumption | exact cu_36 (by omega) (cu_lt (by omega) (by omega))) (by first | omega | assumption | exact cu_36 (by omega) (cu_lt (by omega) (by omega))) (fun c25 => ?_) (fun c25 => ?_)
        · refine rn_inc d_231_183 rfl rfl ?_
          show RR _ _ 186 [some (.ref 146), some (.int (nI 4)), some (.int (nI (x + 1))), some (.int (nI n)), none] [] (upd g 8 (nI n)) (rf_u A 5 w_) _
          refine rr_nx (pc' := 10) (al' := [some (.ref 146), some (.int (nI 4)), some (.int (nI (x + 1))), some (.int (nI n)), none]) (st' := []) d_231_186 (fun _ => rfl) ?_
          refine rr_dr (al1 := [some (.ref 146), some (.int (nI 4)), some (.int (nI (x + 1))), none, none]) (le_s (le_s (le_s (le_d rfl (le_s (le_n)))))) ?_
          exact ihx w_ (sc_out py)
        · omega
  · show RR _ _ 10 [some (.ref 146), some (.int (nI 4)), some (.int (nI n)), none, none] [] (upd g 8 (nI n)) (rf_u A 5 w_) _
    refine rr_nx (pc' := 11) (al' := [some (.ref 146), some (.int (nI 4)), some (.int (nI n)), none, none]) (st' := [.int (nI n)]) d_231_10 (fun _ => rfl) ?_
    refine rr_nx (pc' := 12) (al' := [some (.ref 146), some (.int (nI 4)), some (.int (nI n)), none, none]) (st' := [.ref 146, .int (nI n)]) d_231_11 (fun _ => rfl) ?_
    refine rr_gf (v := .int (g 6)) d_231_12 mo_231 fl_127 rfl ?_
    refine rr_tp (z := nI n) hc.1 ?_
    refine rn_cge (t := 189) d_231_15 (by decide) (by first | omega | assumption | exact cu_36 (by omega) (cu_lt (by omega) (by omega))) (by first | omega | assumption | exact cu_36 (by omega) (cu_lt (by omega) (by omega))) (fun c15 => ?_) (fun c15 => ?_)
    · exact rr_rv d_231_189 mr_231 ⟨rfl, rfl, w_, rfl, sc_all px (fun q hq => cj_on hl hq)⟩
    · omega
theorem s_conjugates5 {g : Nat → Int32} {A : Nat → Nat → Int32} {n : Nat} {c : Nat → Nat} (hc : Cur g A n c) (hl : Lat n c) : RR 1 231 0 [some (.ref 146), some (.int (nI 5)), none, none, none] [] g A (mkR g A n (cjN 5 n c)) := by
  have hn6 := hc.2.1
  refine rr_nx (pc' := 1) (al' := [some (.ref 146), some (.int (nI 5)), none, none, none]) (st' := [.ref 146]) d_231_0 (fun _ => rfl) ?_
  refine rr_nx (pc' := 2) (al' := [some (.ref 146), some (.int (nI 5)), none, none, none]) (st' := [.ref 146, .ref 146]) d_231_1 (fun _ => rfl) ?_
  refine rr_gn d_231_2 mo_231 fl_127 rfl hc.1 ?_
  refine rp_8 d_231_5 mo_231 fl_134  ?_
  refine rn_ic (v := 0) d_231_8 (by decide) ?_
  refine rr_nx (pc' := 10) (al' := [some (.ref 146), some (.int (nI 5)), some (.int (nI 0)), none, none]) (st' := []) d_231_9 (fun _ => rfl) ?_
  refine rr_A (show A = (rf_u A 5 (A 5)) by rw [rf_u_id]) ?_
  refine rr_upw (al := fun x w_ => [some (.ref 146), some (.int (nI 5)), some (.int (nI x)), none, none]) (G := fun x w_ => (upd g 8 (nI n))) (B := fun x w_ => (rf_u A 5 w_)) (P := fun x w_ => ScP (fun q => nI (cjN 5 n c q)) (fun x y => cjI 5 n x y (c (n * x + y))) n x 0 w_) (n := n) (fun x w_ hx px ihx => ?_) (fun w_ px => ?_) 0 (A 5) (by omega) (sc_0)
  · show RR _ _ 10 [some (.ref 146), some (.int (nI 5)), some (.int (nI x)), none, none] [] (upd g 8 (nI n)) (rf_u A 5 w_) _
    refine rr_nx (pc' := 11) (al' := [some (.ref 146), some (.int (nI 5)), some (.int (nI x)), none, none]) (st' := [.int (nI x)]) d_231_10 (fun _ => rfl) ?_
    refine rr_nx (pc' := 12) (al' := [some (.ref 146), some (.int (nI 5)), some (.int (nI x)), none, none]) (st' := [.ref 146, .int (nI x)]) d_231_11 (fun _ => rfl) ?_
    refine rr_gf (v := .int (g 6)) d_231_12 mo_231 fl_127 rfl ?_
    refine rr_tp (z := nI n) hc.1 ?_
    refine rn_cge (t := 189) d_231_15 (by decide) (by first | omega | assumption | exact cu_36 (by omega) (cu_lt (by omega) (by omega))) (by first | omega | assumption | exact cu_36 (by omega) (cu_lt (by omega) (by omega))) (fun c15 => ?_) (fun c15 => ?_)
    · omega
    · refine rn_ic (v := 0) d_231_18 (by decide) ?_
      refine rr_nx (pc' := 20) (al' := [some (.ref 146), some (.int (nI 5)), some (.int (nI x)), some (.int (nI 0)), none]) (st' := []) d_231_19 (fun _ => rfl) ?_
      refine rr_upw (al := fun y w_ => [some (.ref 146), some (.int (nI 5)), some (.int (nI x)), some (.int (nI y)), none]) (G := fun y w_ => (upd g 8 (nI n))) (B := fun y w_ => (rf_u A 5 w_)) (P := fun y w_ => ScP (fun q => nI (cjN 5 n c q)) (fun x y => cjI 5 n x y (c (n * x + y))) n x y w_) (n := n) (fun y w_ hy py ihy => ?_) (fun w_ py => ?_) 0 w_ (by omega) (px)
      · show RR _ _ 20 [some (.ref 146), some (.int (nI 5)), some (.int (nI x)), some (.int (nI y)), none] [] (upd g 8 (nI n)) (rf_u A 5 w_) _
        refine rr_nx (pc' := 21) (al' := [some (.ref 146), some (.int (nI 5)), some (.int (nI x)), some (.int (nI y)), none]) (st' := [.int (nI y)]) d_231_20 (fun _ => rfl) ?_
        refine rr_nx (pc' := 22) (al' := [some (.ref 146), some (.int (nI 5)), some (.int (nI x)), some (.int (nI y)), none]) (st' := [.ref 146, .int (nI y)]) d_231_21 (fun _ => rfl) ?_
        refine rr_gf (v := .int (g 6)) d_231_22 mo_231 fl_127 rfl ?_
        refine rr_tp (z := nI n) hc.1 ?_
        refine rn_cge (t := 183) d_231_25 (by decide) (by first | omega | assumption | exact cu_36 (by omega) (cu_lt (by omega) (by omega))) (by first | omega | assumption | exact cu_36 (by omega) (cu_lt (by omega) (by omega))) (fun c25 => ?_) (fun c25 => ?_)
        · omega
        · refine rr_nx (pc' := 29) (al' := [some (.ref 146), some (.int (nI 5)), some (.int (nI x)), some (.int (nI y)), none]) (st' := [.ref 146]) d_231_28 (fun _ => rfl) ?_
          refine rr_nx (pc' := 30) (al' := [some (.ref 146), some (.int (nI 5)), some (.int (nI x)), some (.int (nI y)), none]) (st' := [.int (nI x), .ref 146]) d_231_29 (fun _ => rfl) ?_
          refine rr_nx (pc' := 31) (al' := [some (.ref 146), some (.int (nI 5)), some (.int (nI x)), some (.int (nI y)), none]) (st' := [.int (nI y), .int (nI x), .ref 146]) d_231_30 (fun _ => rfl) ?_
          refine rr_pv (as := [.int (nI x), .int (nI y)]) (al0 := [some (.ref 146), some (.int (nI x)), some (.int (nI y))]) (r := []) d_231_31 mo_231 ml_130 mz_213 rfl rfl rfl (Nat.le_of_ble_eq_true rfl) (s_times ((hc.ug (by decide)).up (by decide)) (by omega) (by omega)) ?_
          show RR _ _ 34 [some (.ref 146), some (.int (nI 5)), some (.int (nI x)), some (.int (nI y)), none] [.int (nI (c (n * x + y)))] (upd g 8 (nI n)) (rf_u A 5 w_) _
          have b31 : c (n * x + y) < n := (hc.2.2 _ (cu_lt (by omega) (by omega))).2
          refine rr_nx (pc' := 36) (al' := [some (.ref 146), some (.int (nI 5)), some (.int (nI x)), some (.int (nI y)), some (.int (nI (c (n * x + y))))]) (st' := []) d_231_34 (fun _ => rfl) ?_
          refine rr_nx (pc' := 37) (al' := [some (.ref 146), some (.int (nI 5)), some (.int (nI x)), some (.int (nI y)), some (.int (nI (c (n * x + y))))]) (st' := [.int (nI 5)]) d_231_36 (fun _ => rfl) ?_
          refine rr_td (t := 162) d_231_37 (by decide) (by decide) ?_
          refine rr_nx (pc' := 163) (al' := [some (.ref 146), some (.int (nI 5)), some (.int (nI x)), some (.int (nI y)), some (.int (nI (c (n * x + y))))]) (st' := [.ref 146]) d_231_162 (fun _ => rfl) ?_
          refine rr_gf (v := .ref (147 + 5)) d_231_163 mo_231 fl_26 rfl ?_
          refine rr_nx (pc' := 167) (al' := [some (.ref 146), some (.int (nI 5)), some (.int (nI x)), some (.int (nI y)), some (.int (nI (c (n * x + y))))]) (st' := [.ref 146, .ref (147 + 5)]) d_231_166 (fun _ => rfl) ?_
          refine rr_gf (v := .int (g 6)) d_231_167 mo_231 fl_127 rfl ?_
          refine rr_tp (z := nI n) hc.1 ?_
          refine rr_nx (pc' := 172) (al' := [some (.ref 146), some (.int (nI 5)), some (.int (nI x)), some (.int (nI y)), some (.int (nI (c (n * x + y))))]) (st' := [.int (nI (c (n * x + y))), .int (nI n), .ref (147 + 5)]) d_231_170 (fun _ => rfl) ?_
          refine rn_mul d_231_172  ?_
          refine rr_nx (pc' := 174) (al' := [some (.ref 146), some (.int (nI 5)), some (.int (nI x)), some (.int (nI y)), some (.int (nI (c (n * x + y))))]) (st' := [.int (nI y), .int (nI (n * (c (n * x + y)))), .ref (147 + 5)]) d_231_173 (fun _ => rfl) ?_
          refine rn_add d_231_174  ?_
          refine rr_nx (pc' := 176) (al' := [some (.ref 146), some (.int (nI 5)), some (.int (nI x)), some (.int (nI y)), some (.int (nI (c (n * x + y))))]) (st' := [.int (nI x), .int (nI ((n * (c (n * x + y))) + y)), .ref (147 + 5)]) d_231_175 (fun _ => rfl) ?_
          refine rr_iS (j := 5) (A1 := (rf_u A 5 (upd w_ ((n * (c (n * x + y))) + y) (nI x)))) d_231_176 (by decide) rfl (by decide) (show (n * (c (n * x + y))) + y < 36 by first | omega | assumption | exact cu_36 (by omega) (cu_lt (by omega) (by omega))) rf_uw ?_
          refine rn_inc d_231_177 rfl rfl ?_
          show RR _ _ 180 [some (.ref 146), some (.int (nI 5)), some (.int (nI x)), some (.int (nI (y + 1))), some (.int (nI (c (n * x + y))))] [] (upd g 8 (nI n)) (rf_u A 5 (upd w_ ((n * (c (n * x + y))) + y) (nI x))) _
          refine rr_nx (pc' := 20) (al' := [some (.ref 146), some (.int (nI 5)), some (.int (nI x)), some (.int (nI (y + 1))), some (.int (nI (c (n * x + y))))]) (st' := []) d_231_180 (fun _ => rfl) ?_
          refine rr_dr (al1 := [some (.ref 146), some (.int (nI 5)), some (.int (nI x)), some (.int (nI (y + 1))), none]) (le_s (le_s (le_s (le_s (le_d rfl (le_n)))))) ?_
          exact ihy (upd w_ ((n * (c (n * x + y))) + y) (nI x)) (sc_in py rfl (congrArg nI (cj_at (w := 5) hl hx hy).symm))
      · show RR _ _ 20 [some (.ref 146), some (.int (nI 5)), some (.int (nI x)), some (.int (nI n)), none] [] (upd g 8 (nI n)) (rf_u A 5 w_) _
        refine rr_nx (pc' := 21) (al' := [some (.ref 146), some (.int (nI 5)), some (.int (nI x)), some (.int (nI n)), none]) (st' := [.int (nI n)]) d_231_20 (fun _ => rfl) ?_
        refine rr_nx (pc' := 22) (al' := [some (.ref 146), some (.int (nI 5)), some (.int (nI x)), some (.int (nI n)), none]) (st' := [.ref 146, .int (nI n)]) d_231_21 (fun _ => rfl) ?_
        refine rr_gf (v := .int (g 6)) d_231_22 mo_231 fl_127 rfl ?_
        refine rr_tp (z := nI n) hc.1 ?_
        refine rn_cge (t := 183) d_231_25 (by decide) (by first | omega | assumption | exact cu_36 (by omega) (cu_lt (by omega) (by omega))) (by first | omega | assumption | exact cu_36 (by omega) (cu_lt (by omega) (by omega))) (fun c25 => ?_) (fun c25 => ?_)
        · refine rn_inc d_231_183 rfl rfl ?_
          show RR _ _ 186 [some (.ref 146), some (.int (nI 5)), some (.int (nI (x + 1))), some (.int (nI n)), none] [] (upd g 8 (nI n)) (rf_u A 5 w_) _
          refine rr_nx (pc' := 10) (al' := [some (.ref 146), some (.int (nI 5)), some (.int (nI (x + 1))), some (.int (nI n)), none]) (st' := []) d_231_186 (fun _ => rfl) ?_
          refine rr_dr (al1 := [some (.ref 146), some (.int (nI 5)), some (.int (nI (x + 1))), none, none]) (le_s (le_s (le_s (le_d rfl (le_s (le_n)))))) ?_
          exact ihx w_ (sc_out py)
        · omega
  · show RR _ _ 10 [some (.ref 146), some (.int (nI 5)), some (.int (nI n)), none, none] [] (upd g 8 (nI n)) (rf_u A 5 w_) _
    refine rr_nx (pc' := 11) (al' := [some (.ref 146), some (.int (nI 5)), some (.int (nI n)), none, none]) (st' := [.int (nI n)]) d_231_10 (fun _ => rfl) ?_
    refine rr_nx (pc' := 12) (al' := [some (.ref 146), some (.int (nI 5)), some (.int (nI n)), none, none]) (st' := [.ref 146, .int (nI n)]) d_231_11 (fun _ => rfl) ?_
    refine rr_gf (v := .int (g 6)) d_231_12 mo_231 fl_127 rfl ?_
    refine rr_tp (z := nI n) hc.1 ?_
    refine rn_cge (t := 189) d_231_15 (by decide) (by first | omega | assumption | exact cu_36 (by omega) (cu_lt (by omega) (by omega))) (by first | omega | assumption | exact cu_36 (by omega) (cu_lt (by omega) (by omega))) (fun c15 => ?_) (fun c15 => ?_)
    · exact rr_rv d_231_189 mr_231 ⟨rfl, rfl, w_, rfl, sc_all px (fun q hq => cj_on hl hq)⟩
    · omega
def piv (n : Nat) (p : Nat → Nat) (v : Nat) : Nat := FX (fun z => decide (p z = v)) n
def Per (n : Nat) (p : Nat → Nat) : Prop := (∀ k, k < n → p k < n) ∧ ∀ i j, i < n → j < n → p i = p j → i = j
theorem Per.v {n : Nat} {p : Nat → Nat} (h : Per n p) {v : Nat} (hv : v < n) : piv n p v < n ∧ p (piv n p v) = v := by
  obtain ⟨i, hi, e⟩ := php_inj h.1 h.2 v hv
  have h3 := FX_lt (p := fun z => decide (p z = v)) hi (decide_eq_true e)
  exact ⟨h3, of_decide_eq_true (FX_yes (fun z => decide (p z = v)) n h3)⟩
theorem Per.vp {n : Nat} {p : Nat → Nat} (h : Per n p) {k : Nat} (hk : k < n) : piv n p (p k) = k := by
  have h1 := h.v (h.1 k hk)
  exact h.2 _ _ h1.1 hk h1.2
def rnN (n : Nat) (c p : Nat → Nat) (q : Nat) : Nat := p (c (n * piv n p (q / n) + piv n p (q % n)))
theorem rn_at {n : Nat} {c p : Nat → Nat} (h : Per n p) {x y : Nat} (hx : x < n) (hy : y < n) : rnN n c p (n * p x + p y) = p (c (n * x + y)) := by
  unfold rnN
  rw [dm_d (h.1 y hy), dm_m (h.1 y hy), h.vp hx, h.vp hy]
theorem rn_on {n : Nat} {p : Nat → Nat} (h : Per n p) : ∀ q, q < n * n → ∃ x y, x < n ∧ y < n ∧ n * p x + p y = q := fun q hq =>
  ⟨piv n p (q / n), piv n p (q % n), (h.v (dm_dl hq)).1, (h.v (dm_ml hq)).1, by rw [(h.v (dm_dl hq)).2, (h.v (dm_ml hq)).2]; exact dm_q⟩
theorem rn_lat {n : Nat} {c p : Nat → Nat} (hl : Lat n c) (h : Per n p) : Lat n (rnN n c p) := by
  apply Lat.mk'
  · intro q hq
    exact h.1 _ (hl.b (h.v (dm_dl hq)).1 (h.v (dm_ml hq)).1)
  · intro x v hx hv
    have h1 := h.v hx
    have h2 := h.v hv
    have h3 := hl.u h1.1 h2.1
    refine ⟨p (undI n c (piv n p x) (piv n p v)), h.1 _ h3.1, ?_⟩
    have := rn_at (c := c) h h1.1 h3.1
    rw [h1.2] at this
    rw [this, h3.2, h2.2]
  · intro y v hy hv
    have h1 := h.v hy
    have h2 := h.v hv
    have h3 := hl.o h1.1 h2.1
    refine ⟨p (ovrI n c (piv n p v) (piv n p y)), h.1 _ h3.1, ?_⟩
    have := rn_at (c := c) h h3.1 h1.1
    rw [h1.2] at this
    rw [this, h3.2, h2.2]
theorem s_renames {g : Nat → Int32} {A : Nat → Nat → Int32} {n : Nat} {c : Nat → Nat} (hc : Cur g A n c) {p : Nat → Nat} (hp : ∀ k, k < n → A 13 k = nI (p k)) (hP : Per n p) : RR 1 235 0 [some (.ref 146), none, none] [] g A (mkR g A n (rnN n c p)) := by
  have hn6 := hc.2.1
  refine rr_nx (pc' := 1) (al' := [some (.ref 146), none, none]) (st' := [.ref 146]) d_235_0 (fun _ => rfl) ?_
  refine rr_nx (pc' := 2) (al' := [some (.ref 146), none, none]) (st' := [.ref 146, .ref 146]) d_235_1 (fun _ => rfl) ?_
  refine rr_gn d_235_2 mo_235 fl_127 rfl hc.1 ?_
  refine rp_8 d_235_5 mo_235 fl_134  ?_
  refine rn_ic (v := 0) d_235_8 (by decide) ?_
  refine rr_nx (pc' := 10) (al' := [some (.ref 146), some (.int (nI 0)), none]) (st' := []) d_235_9 (fun _ => rfl) ?_
  refine rr_A (show A = (rf_u A 5 (A 5)) by rw [rf_u_id]) ?_
  refine rr_upw (al := fun x w_ => [some (.ref 146), some (.int (nI x)), none]) (G := fun x w_ => (upd g 8 (nI n))) (B := fun x w_ => (rf_u A 5 w_)) (P := fun x w_ => ScP (fun q => nI (rnN n c p q)) (fun x y => n * p x + p y) n x 0 w_) (n := n) (fun x w_ hx px ihx => ?_) (fun w_ px => ?_) 0 (A 5) (by omega) (sc_0)
  · show RR _ _ 10 [some (.ref 146), some (.int (nI x)), none] [] (upd g 8 (nI n)) (rf_u A 5 w_) _
    refine rr_nx (pc' := 11) (al' := [some (.ref 146), some (.int (nI x)), none]) (st' := [.int (nI x)]) d_235_10 (fun _ => rfl) ?_
    refine rr_nx (pc' := 12) (al' := [some (.ref 146), some (.int (nI x)), none]) (st' := [.ref 146, .int (nI x)]) d_235_11 (fun _ => rfl) ?_
    refine rr_gf (v := .int (g 6)) d_235_12 mo_235 fl_127 rfl ?_
    refine rr_tp (z := nI n) hc.1 ?_
    refine rn_cge (t := 74) d_235_15 (by decide) (by first | omega | assumption | exact cu_36 (by omega) (cu_lt (by omega) (by omega))) (by first | omega | assumption | exact cu_36 (by omega) (cu_lt (by omega) (by omega))) (fun c15 => ?_) (fun c15 => ?_)
    · omega
    · refine rn_ic (v := 0) d_235_18 (by decide) ?_
      refine rr_nx (pc' := 20) (al' := [some (.ref 146), some (.int (nI x)), some (.int (nI 0))]) (st' := []) d_235_19 (fun _ => rfl) ?_
      refine rr_upw (al := fun y w_ => [some (.ref 146), some (.int (nI x)), some (.int (nI y))]) (G := fun y w_ => (upd g 8 (nI n))) (B := fun y w_ => (rf_u A 5 w_)) (P := fun y w_ => ScP (fun q => nI (rnN n c p q)) (fun x y => n * p x + p y) n x y w_) (n := n) (fun y w_ hy py ihy => ?_) (fun w_ py => ?_) 0 w_ (by omega) (px)
      · show RR _ _ 20 [some (.ref 146), some (.int (nI x)), some (.int (nI y))] [] (upd g 8 (nI n)) (rf_u A 5 w_) _
        refine rr_nx (pc' := 21) (al' := [some (.ref 146), some (.int (nI x)), some (.int (nI y))]) (st' := [.int (nI y)]) d_235_20 (fun _ => rfl) ?_
        refine rr_nx (pc' := 22) (al' := [some (.ref 146), some (.int (nI x)), some (.int (nI y))]) (st' := [.ref 146, .int (nI y)]) d_235_21 (fun _ => rfl) ?_
        refine rr_gf (v := .int (g 6)) d_235_22 mo_235 fl_127 rfl ?_
        refine rr_tp (z := nI n) hc.1 ?_
        refine rn_cge (t := 68) d_235_25 (by decide) (by first | omega | assumption | exact cu_36 (by omega) (cu_lt (by omega) (by omega))) (by first | omega | assumption | exact cu_36 (by omega) (cu_lt (by omega) (by omega))) (fun c25 => ?_) (fun c25 => ?_)
        · omega
        · refine rr_nx (pc' := 29) (al' := [some (.ref 146), some (.int (nI x)), some (.int (nI y))]) (st' := [.ref 146]) d_235_28 (fun _ => rfl) ?_
          refine rr_gf (v := .ref (147 + 5)) d_235_29 mo_235 fl_26 rfl ?_
          refine rr_nx (pc' := 33) (al' := [some (.ref 146), some (.int (nI x)), some (.int (nI y))]) (st' := [.ref 146, .ref (147 + 5)]) d_235_32 (fun _ => rfl) ?_
          refine rr_gf (v := .int (g 6)) d_235_33 mo_235 fl_127 rfl ?_
          refine rr_tp (z := nI n) hc.1 ?_
          refine rr_nx (pc' := 37) (al' := [some (.ref 146), some (.int (nI x)), some (.int (nI y))]) (st' := [.ref 146, .int (nI n), .ref (147 + 5)]) d_235_36 (fun _ => rfl) ?_
          refine rr_gf (v := .ref (147 + 13)) d_235_37 mo_235 fl_55 rfl ?_
          refine rr_nx (pc' := 41) (al' := [some (.ref 146), some (.int (nI x)), some (.int (nI y))]) (st' := [.int (nI x), .ref (147 + 13), .int (nI n), .ref (147 + 5)]) d_235_40 (fun _ => rfl) ?_
          refine rr_ia (j := 13) (v := (nI (p x))) d_235_41 (by decide) rfl (by decide) (show x < 6 by first | omega | assumption | exact cu_36 (by omega) (cu_lt (by omega) (by omega))) (hp x hx) ?_
          refine rn_mul d_235_42  ?_
          refine rr_nx (pc' := 44) (al' := [some (.ref 146), some (.int (nI x)), some (.int (nI y))]) (st' := [.ref 146, .int (nI (n * (p x))), .ref (147 + 5)]) d_235_43 (fun _ => rfl) ?_
          refine rr_gf (v := .ref (147 + 13)) d_235_44 mo_235 fl_55 rfl ?_
          refine rr_nx (pc' := 48) (al' := [some (.ref 146), some (.int (nI x)), some (.int (nI y))]) (st' := [.int (nI y), .ref (147 + 13), .int (nI (n * (p x))), .ref (147 + 5)]) d_235_47 (fun _ => rfl) ?_
          refine rr_ia (j := 13) (v := (nI (p y))) d_235_48 (by decide) rfl (by decide) (show y < 6 by first | omega | assumption | exact cu_36 (by omega) (cu_lt (by omega) (by omega))) (hp y hy) ?_
          refine rn_add d_235_49  ?_
          refine rr_nx (pc' := 51) (al' := [some (.ref 146), some (.int (nI x)), some (.int (nI y))]) (st' := [.ref 146, .int (nI ((n * (p x)) + (p y))), .ref (147 + 5)]) d_235_50 (fun _ => rfl) ?_
          refine rr_gf (v := .ref (147 + 13)) d_235_51 mo_235 fl_55 rfl ?_
          refine rr_nx (pc' := 55) (al' := [some (.ref 146), some (.int (nI x)), some (.int (nI y))]) (st' := [.ref 146, .ref (147 + 13), .int (nI ((n * (p x)) + (p y))), .ref (147 + 5)]) d_235_54 (fun _ => rfl) ?_
          refine rr_nx (pc' := 56) (al' := [some (.ref 146), some (.int (nI x)), some (.int (nI y))]) (st' := [.int (nI x), .ref 146, .ref (147 + 13), .int (nI ((n * (p x)) + (p y))), .ref (147 + 5)]) d_235_55 (fun _ => rfl) ?_
          refine rr_nx (pc' := 57) (al' := [some (.ref 146), some (.int (nI x)), some (.int (nI y))]) (st' := [.int (nI y), .int (nI x), .ref 146, .ref (147 + 13), .int (nI ((n * (p x)) + (p y))), .ref (147 + 5)]) d_235_56 (fun _ => rfl) ?_
          refine rr_pv (as := [.int (nI x), .int (nI y)]) (al0 := [some (.ref 146), some (.int (nI x)), some (.int (nI y))]) (r := [.ref (147 + 13), .int (nI ((n * (p x)) + (p y))), .ref (147 + 5)]) d_235_57 mo_235 ml_130 mz_213 rfl rfl rfl (Nat.le_of_ble_eq_true rfl) (s_times ((hc.ug (by decide)).up (by decide)) (by omega) (by omega)) ?_
          show RR _ _ 60 [some (.ref 146), some (.int (nI x)), some (.int (nI y))] [.int (nI (c (n * x + y))), .ref (147 + 13), .int (nI ((n * (p x)) + (p y))), .ref (147 + 5)] (upd g 8 (nI n)) (rf_u A 5 w_) _
          have b57 : c (n * x + y) < n := (hc.2.2 _ (cu_lt (by omega) (by omega))).2
          refine rr_ia (j := 13) (v := (nI (p (c (n * x + y))))) d_235_60 (by decide) rfl (by decide) (show c (n * x + y) < 6 by first | omega | assumption | exact cu_36 (by omega) (cu_lt (by omega) (by omega))) (hp _ b57) ?_
          refine rr_iS (j := 5) (A1 := (rf_u A 5 (upd w_ ((n * (p x)) + (p y)) (nI (p (c (n * x + y))))))) d_235_61 (by decide) rfl (by decide) (show (n * (p x)) + (p y) < 36 by exact cu_36 hn6 (cu_lt (hP.1 x hx) (hP.1 y hy))) rf_uw ?_
          refine rn_inc d_235_62 rfl rfl ?_
          show RR _ _ 65 [some (.ref 146), some (.int (nI x)), some (.int (nI (y + 1)))] [] (upd g 8 (nI n)) (rf_u A 5 (upd w_ ((n * (p x)) + (p y)) (nI (p (c (n * x + y)))))) _
          refine rr_nx (pc' := 20) (al' := [some (.ref 146), some (.int (nI x)), some (.int (nI (y + 1)))]) (st' := []) d_235_65 (fun _ => rfl) ?_
          exact ihy (upd w_ ((n * (p x)) + (p y)) (nI (p (c (n * x + y))))) (sc_in py rfl (congrArg nI (rn_at hP hx hy).symm))
      · show RR _ _ 20 [some (.ref 146), some (.int (nI x)), some (.int (nI n))] [] (upd g 8 (nI n)) (rf_u A 5 w_) _
        refine rr_nx (pc' := 21) (al' := [some (.ref 146), some (.int (nI x)), some (.int (nI n))]) (st' := [.int (nI n)]) d_235_20 (fun _ => rfl) ?_
        refine rr_nx (pc' := 22) (al' := [some (.ref 146), some (.int (nI x)), some (.int (nI n))]) (st' := [.ref 146, .int (nI n)]) d_235_21 (fun _ => rfl) ?_
        refine rr_gf (v := .int (g 6)) d_235_22 mo_235 fl_127 rfl ?_
        refine rr_tp (z := nI n) hc.1 ?_
        refine rn_cge (t := 68) d_235_25 (by decide) (by first | omega | assumption | exact cu_36 (by omega) (cu_lt (by omega) (by omega))) (by first | omega | assumption | exact cu_36 (by omega) (cu_lt (by omega) (by omega))) (fun c25 => ?_) (fun c25 => ?_)
        · refine rn_inc d_235_68 rfl rfl ?_
          show RR _ _ 71 [some (.ref 146), some (.int (nI (x + 1))), some (.int (nI n))] [] (upd g 8 (nI n)) (rf_u A 5 w_) _
          refine rr_nx (pc' := 10) (al' := [some (.ref 146), some (.int (nI (x + 1))), some (.int (nI n))]) (st' := []) d_235_71 (fun _ => rfl) ?_
          refine rr_dr (al1 := [some (.ref 146), some (.int (nI (x + 1))), none]) (le_s (le_s (le_d rfl (le_n)))) ?_
          exact ihx w_ (sc_out py)
        · omega
  · show RR _ _ 10 [some (.ref 146), some (.int (nI n)), none] [] (upd g 8 (nI n)) (rf_u A 5 w_) _
    refine rr_nx (pc' := 11) (al' := [some (.ref 146), some (.int (nI n)), none]) (st' := [.int (nI n)]) d_235_10 (fun _ => rfl) ?_
    refine rr_nx (pc' := 12) (al' := [some (.ref 146), some (.int (nI n)), none]) (st' := [.ref 146, .int (nI n)]) d_235_11 (fun _ => rfl) ?_
    refine rr_gf (v := .int (g 6)) d_235_12 mo_235 fl_127 rfl ?_
    refine rr_tp (z := nI n) hc.1 ?_
    refine rn_cge (t := 74) d_235_15 (by decide) (by first | omega | assumption | exact cu_36 (by omega) (cu_lt (by omega) (by omega))) (by first | omega | assumption | exact cu_36 (by omega) (cu_lt (by omega) (by omega))) (fun c15 => ?_) (fun c15 => ?_)
    · exact rr_rv d_235_74 mr_235 ⟨rfl, rfl, w_, rfl, sc_all px (rn_on hP)⟩
    · omega
theorem cy_v {n x y : Nat} (hx : x < n) (hy : y < n) : cyN n (n * x + y) = if x + y < n then x + y else x + y - n := by
  unfold cyN
  rw [dm_d hy, dm_m hy]
  by_cases q : x + y < n
  · rw [if_pos q, Nat.mod_eq_of_lt q]
  · rw [if_neg q, Nat.mod_eq_sub_mod (by omega), Nat.mod_eq_of_lt (by omega)]
theorem k_makeCyclic {S : CS} {G : Nat → Nat → Value} {B : Nat → Nat → Int32} {J : Nat → Nat → Int64} {R : Nat → Nat → Option Nat} {d n : Nat} (hd : TabAt S G d) (hn6 : n ≤ 6) : CR 1 94 0 [some (.ref d), some (.int (nI n)), none, none] [] S G B J R (mkC d S G B J R n (cyN n)) := by
  have hd' : TabAt S (up2 G d 0 (.int (nI n))) d := hd.up
  have hdn' : up2 G d 0 (.int (nI n)) d 0 = .int (nI n) := up2_s
  refine cr_nx (pc' := 1) (al' := [some (.ref d), some (.int (nI n)), none, none]) (st' := [.ref d]) d_94_0 (fun _ => rfl) ?_
  refine cr_nx (pc' := 2) (al' := [some (.ref d), some (.int (nI n)), none, none]) (st' := [.int (nI n), .ref d]) d_94_1 (fun _ => rfl) ?_
  refine cp_10_0  d_94_2 cw_94 cf_10_15 hd.1 hd.2.2.1 (by decide) ?_
  refine cn_ic (v := 0) d_94_5 (by decide) ?_
  refine cr_nx (pc' := 7) (al' := [some (.ref d), some (.int (nI n)), some (.int (nI 0)), none]) (st' := []) d_94_6 (fun _ => rfl) ?_
  refine cr_B (show B = (upr B (d + 1) (B (d + 1))) by rw [upr_id]) ?_
  refine cr_upw (al := fun x w_ => [some (.ref d), some (.int (nI n)), some (.int (nI x)), none]) (S := fun x w_ => S) (G := fun x w_ => (up2 G d 0 (.int (nI n)))) (B := fun x w_ => (upr B (d + 1) w_)) (J := fun x w_ => J) (R := fun x w_ => R) (P := fun x w_ => ScP (fun q => nI (cyN n q)) (fun x y => n * x + y) n x 0 w_) (n := n) (fun x w_ hx px ihx => ?_) (fun w_ px => ?_) 0 (B (d + 1)) (by omega) (sc_0)
  · show CR _ _ 7 [some (.ref d), some (.int (nI n)), some (.int (nI x)), none] [] S (up2 G d 0 (.int (nI n))) (upr B (d + 1) w_) J R _
    refine cr_nx (pc' := 8) (al' := [some (.ref d), some (.int (nI n)), some (.int (nI x)), none]) (st' := [.int (nI x)]) d_94_7 (fun _ => rfl) ?_
    refine cr_nx (pc' := 9) (al' := [some (.ref d), some (.int (nI n)), some (.int (nI x)), none]) (st' := [.int (nI n), .int (nI x)]) d_94_8 (fun _ => rfl) ?_
    refine cn_cge (t := 55) d_94_9 (by decide) (by first | omega | assumption | exact cu_36 (by omega) (cu_lt (by omega) (by omega))) (by first | omega | assumption | exact cu_36 (by omega) (cu_lt (by omega) (by omega))) (fun c9 => ?_) (fun c9 => ?_)
    · omega
    · refine cn_ic (v := 0) d_94_12 (by decide) ?_
      refine cr_nx (pc' := 14) (al' := [some (.ref d), some (.int (nI n)), some (.int (nI x)), some (.int (nI 0))]) (st' := []) d_94_13 (fun _ => rfl) ?_
      refine cr_upw (al := fun y w_ => [some (.ref d), some (.int (nI n)), some (.int (nI x)), some (.int (nI y))]) (S := fun y w_ => S) (G := fun y w_ => (up2 G d 0 (.int (nI n)))) (B := fun y w_ => (upr B (d + 1) w_)) (J := fun y w_ => J) (R := fun y w_ => R) (P := fun y w_ => ScP (fun q => nI (cyN n q)) (fun x y => n * x + y) n x y w_) (n := n) (fun y w_ hy py ihy => ?_) (fun w_ py => ?_) 0 w_ (by omega) (px)
      · show CR _ _ 14 [some (.ref d), some (.int (nI n)), some (.int (nI x)), some (.int (nI y))] [] S (up2 G d 0 (.int (nI n))) (upr B (d + 1) w_) J R _
        refine cr_nx (pc' := 15) (al' := [some (.ref d), some (.int (nI n)), some (.int (nI x)), some (.int (nI y))]) (st' := [.int (nI y)]) d_94_14 (fun _ => rfl) ?_
        refine cr_nx (pc' := 16) (al' := [some (.ref d), some (.int (nI n)), some (.int (nI x)), some (.int (nI y))]) (st' := [.int (nI n), .int (nI y)]) d_94_15 (fun _ => rfl) ?_
        refine cn_cge (t := 49) d_94_16 (by decide) (by first | omega | assumption | exact cu_36 (by omega) (cu_lt (by omega) (by omega))) (by first | omega | assumption | exact cu_36 (by omega) (cu_lt (by omega) (by omega))) (fun c16 => ?_) (fun c16 => ?_)
        · omega
        · refine cr_nx (pc' := 20) (al' := [some (.ref d), some (.int (nI n)), some (.int (nI x)), some (.int (nI y))]) (st' := [.ref d]) d_94_19 (fun _ => rfl) ?_
          refine cr_nx (pc' := 21) (al' := [some (.ref d), some (.int (nI n)), some (.int (nI x)), some (.int (nI y))]) (st' := [.int (nI x), .ref d]) d_94_20 (fun _ => rfl) ?_
          refine cr_nx (pc' := 22) (al' := [some (.ref d), some (.int (nI n)), some (.int (nI x)), some (.int (nI y))]) (st' := [.int (nI y), .int (nI x), .ref d]) d_94_21 (fun _ => rfl) ?_
          refine cr_nx (pc' := 23) (al' := [some (.ref d), some (.int (nI n)), some (.int (nI x)), some (.int (nI y))]) (st' := [.int (nI x), .int (nI y), .int (nI x), .ref d]) d_94_22 (fun _ => rfl) ?_
          refine cr_nx (pc' := 24) (al' := [some (.ref d), some (.int (nI n)), some (.int (nI x)), some (.int (nI y))]) (st' := [.int (nI y), .int (nI x), .int (nI y), .int (nI x), .ref d]) d_94_23 (fun _ => rfl) ?_
          refine cn_add d_94_24  ?_
          refine cr_nx (pc' := 26) (al' := [some (.ref d), some (.int (nI n)), some (.int (nI x)), some (.int (nI y))]) (st' := [.int (nI n), .int (nI (x + y)), .int (nI y), .int (nI x), .ref d]) d_94_25 (fun _ => rfl) ?_
          refine cn_cge (t := 35) d_94_26 (by decide) (by first | omega | assumption | exact cu_36 (by omega) (cu_lt (by omega) (by omega))) (by first | omega | assumption | exact cu_36 (by omega) (cu_lt (by omega) (by omega))) (fun c26 => ?_) (fun c26 => ?_)
          · refine cr_nx (pc' := 36) (al' := [some (.ref d), some (.int (nI n)), some (.int (nI x)), some (.int (nI y))]) (st' := [.int (nI x), .int (nI y), .int (nI x), .ref d]) d_94_35 (fun _ => rfl) ?_
            refine cr_nx (pc' := 37) (al' := [some (.ref d), some (.int (nI n)), some (.int (nI x)), some (.int (nI y))]) (st' := [.int (nI y), .int (nI x), .int (nI y), .int (nI x), .ref d]) d_94_36 (fun _ => rfl) ?_
            refine cn_add d_94_37  ?_
            refine cr_nx (pc' := 39) (al' := [some (.ref d), some (.int (nI n)), some (.int (nI x)), some (.int (nI y))]) (st' := [.int (nI n), .int (nI (x + y)), .int (nI y), .int (nI x), .ref d]) d_94_38 (fun _ => rfl) ?_
            refine cn_sub d_94_39 (by first | omega | assumption | exact cu_36 (by omega) (cu_lt (by omega) (by omega))) ?_
            refine cr_pv (b := d) (as := [.int (nI x), .int (nI y), .int (nI ((x + y) - n))]) (al0 := [some (.ref d), some (.int (nI x)), some (.int (nI y)), some (.int (nI ((x + y) - n)))]) (r := []) d_94_40 cw_94 cm_10_33 cz_95 rfl rfl hd.1 (by rw [cw_95]; exact hd.2.2.1) (by rw [cw_95]; decide) rfl (Nat.le_of_ble_eq_true rfl) (k_put hd' hdn' (nI ((x + y) - n)) (cu_36 (by omega) (cu_lt (by omega) (by omega)))) ?_
            rw [upr_s, upr_u]
            show CR _ _ 43 [some (.ref d), some (.int (nI n)), some (.int (nI x)), some (.int (nI y))] [] S (up2 G d 0 (.int (nI n))) (upr B (d + 1) (upd w_ (n * x + y) (nI ((x + y) - n)))) J R _
            refine cn_inc d_94_43 rfl rfl ?_
            show CR _ _ 46 [some (.ref d), some (.int (nI n)), some (.int (nI x)), some (.int (nI (y + 1)))] [] S (up2 G d 0 (.int (nI n))) (upr B (d + 1) (upd w_ (n * x + y) (nI ((x + y) - n)))) J R _
            refine cr_nx (pc' := 14) (al' := [some (.ref d), some (.int (nI n)), some (.int (nI x)), some (.int (nI (y + 1)))]) (st' := []) d_94_46 (fun _ => rfl) ?_
            exact ihy (upd w_ (n * x + y) (nI ((x + y) - n))) (sc_in py rfl (by first | rw [cy_v hx hy, if_pos c26] | rw [cy_v hx hy, if_neg (by omega)]))
          · refine cr_nx (pc' := 30) (al' := [some (.ref d), some (.int (nI n)), some (.int (nI x)), some (.int (nI y))]) (st' := [.int (nI x), .int (nI y), .int (nI x), .ref d]) d_94_29 (fun _ => rfl) ?_
            refine cr_nx (pc' := 31) (al' := [some (.ref d), some (.int (nI n)), some (.int (nI x)), some (.int (nI y))]) (st' := [.int (nI y), .int (nI x), .int (nI y), .int (nI x), .ref d]) d_94_30 (fun _ => rfl) ?_
            refine cn_add d_94_31  ?_
            refine cr_nx (pc' := 40) (al' := [some (.ref d), some (.int (nI n)), some (.int (nI x)), some (.int (nI y))]) (st' := [.int (nI (x + y)), .int (nI y), .int (nI x), .ref d]) d_94_32 (fun _ => rfl) ?_
            refine cr_pv (b := d) (as := [.int (nI x), .int (nI y), .int (nI (x + y))]) (al0 := [some (.ref d), some (.int (nI x)), some (.int (nI y)), some (.int (nI (x + y)))]) (r := []) d_94_40 cw_94 cm_10_33 cz_95 rfl rfl hd.1 (by rw [cw_95]; exact hd.2.2.1) (by rw [cw_95]; decide) rfl (Nat.le_of_ble_eq_true rfl) (k_put hd' hdn' (nI (x + y)) (cu_36 (by omega) (cu_lt (by omega) (by omega)))) ?_
            rw [upr_s, upr_u]
            show CR _ _ 43 [some (.ref d), some (.int (nI n)), some (.int (nI x)), some (.int (nI y))] [] S (up2 G d 0 (.int (nI n))) (upr B (d + 1) (upd w_ (n * x + y) (nI (x + y)))) J R _
            refine cn_inc d_94_43 rfl rfl ?_
            show CR _ _ 46 [some (.ref d), some (.int (nI n)), some (.int (nI x)), some (.int (nI (y + 1)))] [] S (up2 G d 0 (.int (nI n))) (upr B (d + 1) (upd w_ (n * x + y) (nI (x + y)))) J R _
            refine cr_nx (pc' := 14) (al' := [some (.ref d), some (.int (nI n)), some (.int (nI x)), some (.int (nI (y + 1)))]) (st' := []) d_94_46 (fun _ => rfl) ?_
            exact ihy (upd w_ (n * x + y) (nI (x + y))) (sc_in py rfl (by first | rw [cy_v hx hy, if_pos c26] | rw [cy_v hx hy, if_neg (by omega)]))
      · show CR _ _ 14 [some (.ref d), some (.int (nI n)), some (.int (nI x)), some (.int (nI n))] [] S (up2 G d 0 (.int (nI n))) (upr B (d + 1) w_) J R _
        refine cr_nx (pc' := 15) (al' := [some (.ref d), some (.int (nI n)), some (.int (nI x)), some (.int (nI n))]) (st' := [.int (nI n)]) d_94_14 (fun _ => rfl) ?_
        refine cr_nx (pc' := 16) (al' := [some (.ref d), some (.int (nI n)), some (.int (nI x)), some (.int (nI n))]) (st' := [.int (nI n), .int (nI n)]) d_94_15 (fun _ => rfl) ?_
        refine cn_cge (t := 49) d_94_16 (by decide) (by first | omega | assumption | exact cu_36 (by omega) (cu_lt (by omega) (by omega))) (by first | omega | assumption | exact cu_36 (by omega) (cu_lt (by omega) (by omega))) (fun c16 => ?_) (fun c16 => ?_)
        · refine cn_inc d_94_49 rfl rfl ?_
          show CR _ _ 52 [some (.ref d), some (.int (nI n)), some (.int (nI (x + 1))), some (.int (nI n))] [] S (up2 G d 0 (.int (nI n))) (upr B (d + 1) w_) J R _
          refine cr_nx (pc' := 7) (al' := [some (.ref d), some (.int (nI n)), some (.int (nI (x + 1))), some (.int (nI n))]) (st' := []) d_94_52 (fun _ => rfl) ?_
          refine cr_dr (al1 := [some (.ref d), some (.int (nI n)), some (.int (nI (x + 1))), none]) (le_s (le_s (le_s (le_d rfl (le_n))))) ?_
          exact ihx w_ (sc_out py)
        · omega
  · show CR _ _ 7 [some (.ref d), some (.int (nI n)), some (.int (nI n)), none] [] S (up2 G d 0 (.int (nI n))) (upr B (d + 1) w_) J R _
    refine cr_nx (pc' := 8) (al' := [some (.ref d), some (.int (nI n)), some (.int (nI n)), none]) (st' := [.int (nI n)]) d_94_7 (fun _ => rfl) ?_
    refine cr_nx (pc' := 9) (al' := [some (.ref d), some (.int (nI n)), some (.int (nI n)), none]) (st' := [.int (nI n), .int (nI n)]) d_94_8 (fun _ => rfl) ?_
    refine cn_cge (t := 55) d_94_9 (by decide) (by first | omega | assumption | exact cu_36 (by omega) (cu_lt (by omega) (by omega))) (by first | omega | assumption | exact cu_36 (by omega) (cu_lt (by omega) (by omega))) (fun c9 => ?_) (fun c9 => ?_)
    · exact cr_rv d_94_55 cx_94 ⟨rfl, rfl, rfl, rfl, rfl, w_, rfl, sc_all px (sc_rm)⟩
    · omega
theorem k_makeIsotope {S : CS} {G : Nat → Nat → Value} {B : Nat → Nat → Int32} {J : Nat → Nat → Int64} {R : Nat → Nat → Option Nat} {a d n : Nat} (ht : TabAt S G a) (hn : G a 0 = .int (nI n)) {c : Nat → Nat} (hc : TabC B a n c) (hd : TabAt S G d) (hne : a ≠ d) (hl : Lat n c) {e f : Nat} (he : e < n) (hf : f < n) : CR 2 96 0 [some (.ref d), some (.ref a), some (.int (nI e)), some (.int (nI f)), none, none, none] [] S G B J R (mkC d S G B J R n (isN n c e f)) := by
  have hn6 := hc.1
  have ht' : TabAt S (up2 G d 0 (.int (nI n))) a := ht.up
  have hd' : TabAt S (up2 G d 0 (.int (nI n))) d := hd.up
  have hn' : up2 G d 0 (.int (nI n)) a 0 = .int (nI n) := up2_0 hne hn
  have hdn' : up2 G d 0 (.int (nI n)) d 0 = .int (nI n) := up2_s
  refine cr_nx (pc' := 1) (al' := [some (.ref d), some (.ref a), some (.int (nI e)), some (.int (nI f)), none, none, none]) (st' := [.ref d]) d_96_0 (fun _ => rfl) ?_
  refine cr_nx (pc' := 2) (al' := [some (.ref d), some (.ref a), some (.int (nI e)), some (.int (nI f)), none, none, none]) (st' := [.ref a, .ref d]) d_96_1 (fun _ => rfl) ?_
  refine cr_gf (v := .int (nI n)) d_96_2 cw_96 cf_10_15 ht.1 ht.2.2.1 (by decide) hn ?_
  refine cp_10_0  d_96_5 cw_96 cf_10_15 hd.1 hd.2.2.1 (by decide) ?_
  refine cn_ic (v := 0) d_96_8 (by decide) ?_
  refine cr_nx (pc' := 11) (al' := [some (.ref d), some (.ref a), some (.int (nI e)), some (.int (nI f)), some (.int (nI 0)), none, none]) (st' := []) d_96_9 (fun _ => rfl) ?_
  refine cr_B (show B = (upr B (d + 1) (B (d + 1))) by rw [upr_id]) ?_
  refine cr_upw (al := fun x w_ => [some (.ref d), some (.ref a), some (.int (nI e)), some (.int (nI f)), some (.int (nI x)), none, none]) (S := fun x w_ => S) (G := fun x w_ => (up2 G d 0 (.int (nI n)))) (B := fun x w_ => (upr B (d + 1) w_)) (J := fun x w_ => J) (R := fun x w_ => R) (P := fun x w_ => ScP (fun q => nI (isN n c e f q)) (fun x y => n * x + c (n * e + y)) n x 0 w_) (n := n) (fun x w_ hx px ihx => ?_) (fun w_ px => ?_) 0 (B (d + 1)) (by omega) (sc_0)
  · show CR _ _ 11 [some (.ref d), some (.ref a), some (.int (nI e)), some (.int (nI f)), some (.int (nI x)), none, none] [] S (up2 G d 0 (.int (nI n))) (upr B (d + 1) w_) J R _
    refine cr_nx (pc' := 13) (al' := [some (.ref d), some (.ref a), some (.int (nI e)), some (.int (nI f)), some (.int (nI x)), none, none]) (st' := [.int (nI x)]) d_96_11 (fun _ => rfl) ?_
    refine cr_nx (pc' := 14) (al' := [some (.ref d), some (.ref a), some (.int (nI e)), some (.int (nI f)), some (.int (nI x)), none, none]) (st' := [.ref d, .int (nI x)]) d_96_13 (fun _ => rfl) ?_
    refine cr_gf (v := .int (nI n)) d_96_14 cw_96 cf_10_15 hd.1 hd.2.2.1 (by decide) (by simp [up2, hne]) ?_
    refine cn_cge (t := 74) d_96_17 (by decide) (by first | omega | assumption | exact cu_36 (by omega) (cu_lt (by omega) (by omega))) (by first | omega | assumption | exact cu_36 (by omega) (cu_lt (by omega) (by omega))) (fun c17 => ?_) (fun c17 => ?_)
    · omega
    · refine cr_nx (pc' := 21) (al' := [some (.ref d), some (.ref a), some (.int (nI e)), some (.int (nI f)), some (.int (nI x)), none, none]) (st' := [.ref a]) d_96_20 (fun _ => rfl) ?_
      refine cr_nx (pc' := 23) (al' := [some (.ref d), some (.ref a), some (.int (nI e)), some (.int (nI f)), some (.int (nI x)), none, none]) (st' := [.int (nI x), .ref a]) d_96_21 (fun _ => rfl) ?_
      refine cr_nx (pc' := 24) (al' := [some (.ref d), some (.ref a), some (.int (nI e)), some (.int (nI f)), some (.int (nI x)), none, none]) (st' := [.int (nI f), .int (nI x), .ref a]) d_96_23 (fun _ => rfl) ?_
      refine cr_pv (b := a) (as := [.int (nI x), .int (nI f)]) (al0 := [some (.ref a), some (.int (nI x)), some (.int (nI f)), none]) (r := []) d_96_24 cw_96 cm_10_42 cz_97 rfl rfl ht.1 (by rw [cw_97]; exact ht.2.2.1) (by rw [cw_97]; decide) rfl (Nat.le_of_ble_eq_true rfl) ((fxV_t (hl.o (x := f) (v := x) (by omega) (by omega)).1 ▸ k_over ht' hn' (TabC.up hne hc) (x := f) (v := x) (by omega) (by omega))) ?_
      show CR _ _ 27 [some (.ref d), some (.ref a), some (.int (nI e)), some (.int (nI f)), some (.int (nI x)), none, none] [.int (nI (ovrI n c x f))] S (up2 G d 0 (.int (nI n))) (upr B (d + 1) w_) J R _
      have b24 : ovrI n c x f < n := (hl.o (by omega) (by omega)).1
      refine cr_nx (pc' := 29) (al' := [some (.ref d), some (.ref a), some (.int (nI e)), some (.int (nI f)), some (.int (nI x)), some (.int (nI (ovrI n c x f))), none]) (st' := []) d_96_27 (fun _ => rfl) ?_
      refine cn_ic (v := 0) d_96_29 (by decide) ?_
      refine cr_nx (pc' := 32) (al' := [some (.ref d), some (.ref a), some (.int (nI e)), some (.int (nI f)), some (.int (nI x)), some (.int (nI (ovrI n c x f))), some (.int (nI 0))]) (st' := []) d_96_30 (fun _ => rfl) ?_
      refine cr_upw (al := fun y w_ => [some (.ref d), some (.ref a), some (.int (nI e)), some (.int (nI f)), some (.int (nI x)), some (.int (nI (ovrI n c x f))), some (.int (nI y))]) (S := fun y w_ => S) (G := fun y w_ => (up2 G d 0 (.int (nI n)))) (B := fun y w_ => (upr B (d + 1) w_)) (J := fun y w_ => J) (R := fun y w_ => R) (P := fun y w_ => ScP (fun q => nI (isN n c e f q)) (fun x y => n * x + c (n * e + y)) n x y w_) (n := n) (fun y w_ hy py ihy => ?_) (fun w_ py => ?_) 0 w_ (by omega) (px)
      · show CR _ _ 32 [some (.ref d), some (.ref a), some (.int (nI e)), some (.int (nI f)), some (.int (nI x)), some (.int (nI (ovrI n c x f))), some (.int (nI y))] [] S (up2 G d 0 (.int (nI n))) (upr B (d + 1) w_) J R _
        refine cr_nx (pc' := 34) (al' := [some (.ref d), some (.ref a), some (.int (nI e)), some (.int (nI f)), some (.int (nI x)), some (.int (nI (ovrI n c x f))), some (.int (nI y))]) (st' := [.int (nI y)]) d_96_32 (fun _ => rfl) ?_
        refine cr_nx (pc' := 35) (al' := [some (.ref d), some (.ref a), some (.int (nI e)), some (.int (nI f)), some (.int (nI x)), some (.int (nI (ovrI n c x f))), some (.int (nI y))]) (st' := [.ref d, .int (nI y)]) d_96_34 (fun _ => rfl) ?_
        refine cr_gf (v := .int (nI n)) d_96_35 cw_96 cf_10_15 hd.1 hd.2.2.1 (by decide) (by simp [up2, hne]) ?_
        refine cn_cge (t := 68) d_96_38 (by decide) (by first | omega | assumption | exact cu_36 (by omega) (cu_lt (by omega) (by omega))) (by first | omega | assumption | exact cu_36 (by omega) (cu_lt (by omega) (by omega))) (fun c38 => ?_) (fun c38 => ?_)
        · omega
        · refine cr_nx (pc' := 42) (al' := [some (.ref d), some (.ref a), some (.int (nI e)), some (.int (nI f)), some (.int (nI x)), some (.int (nI (ovrI n c x f))), some (.int (nI y))]) (st' := [.ref d]) d_96_41 (fun _ => rfl) ?_
          refine cr_nx (pc' := 44) (al' := [some (.ref d), some (.ref a), some (.int (nI e)), some (.int (nI f)), some (.int (nI x)), some (.int (nI (ovrI n c x f))), some (.int (nI y))]) (st' := [.int (nI x), .ref d]) d_96_42 (fun _ => rfl) ?_
          refine cr_nx (pc' := 45) (al' := [some (.ref d), some (.ref a), some (.int (nI e)), some (.int (nI f)), some (.int (nI x)), some (.int (nI (ovrI n c x f))), some (.int (nI y))]) (st' := [.ref a, .int (nI x), .ref d]) d_96_44 (fun _ => rfl) ?_
          refine cr_nx (pc' := 46) (al' := [some (.ref d), some (.ref a), some (.int (nI e)), some (.int (nI f)), some (.int (nI x)), some (.int (nI (ovrI n c x f))), some (.int (nI y))]) (st' := [.int (nI e), .ref a, .int (nI x), .ref d]) d_96_45 (fun _ => rfl) ?_
          refine cr_nx (pc' := 48) (al' := [some (.ref d), some (.ref a), some (.int (nI e)), some (.int (nI f)), some (.int (nI x)), some (.int (nI (ovrI n c x f))), some (.int (nI y))]) (st' := [.int (nI y), .int (nI e), .ref a, .int (nI x), .ref d]) d_96_46 (fun _ => rfl) ?_
          refine cr_pv (b := a) (as := [.int (nI e), .int (nI y)]) (al0 := [some (.ref a), some (.int (nI e)), some (.int (nI y))]) (r := [.int (nI x), .ref d]) d_96_48 cw_96 cm_10_23 cz_91 rfl rfl ht.1 (by rw [cw_91]; exact ht.2.2.1) (by rw [cw_91]; decide) rfl (Nat.le_of_ble_eq_true rfl) (k_times ht' hn' (TabC.up hne hc) (by omega) (by omega)) ?_
          show CR _ _ 51 [some (.ref d), some (.ref a), some (.int (nI e)), some (.int (nI f)), some (.int (nI x)), some (.int (nI (ovrI n c x f))), some (.int (nI y))] [.int (nI (c (n * e + y))), .int (nI x), .ref d] S (up2 G d 0 (.int (nI n))) (upr B (d + 1) w_) J R _
          have b48 : c (n * e + y) < n := (hc.2 _ (cu_lt (by omega) (by omega))).2
          refine cr_nx (pc' := 52) (al' := [some (.ref d), some (.ref a), some (.int (nI e)), some (.int (nI f)), some (.int (nI x)), some (.int (nI (ovrI n c x f))), some (.int (nI y))]) (st' := [.ref a, .int (nI (c (n * e + y))), .int (nI x), .ref d]) d_96_51 (fun _ => rfl) ?_
          refine cr_nx (pc' := 54) (al' := [some (.ref d), some (.ref a), some (.int (nI e)), some (.int (nI f)), some (.int (nI x)), some (.int (nI (ovrI n c x f))), some (.int (nI y))]) (st' := [.int (nI (ovrI n c x f)), .ref a, .int (nI (c (n * e + y))), .int (nI x), .ref d]) d_96_52 (fun _ => rfl) ?_
          refine cr_nx (pc' := 56) (al' := [some (.ref d), some (.ref a), some (.int (nI e)), some (.int (nI f)), some (.int (nI x)), some (.int (nI (ovrI n c x f))), some (.int (nI y))]) (st' := [.int (nI y), .int (nI (ovrI n c x f)), .ref a, .int (nI (c (n * e + y))), .int (nI x), .ref d]) d_96_54 (fun _ => rfl) ?_
          refine cr_pv (b := a) (as := [.int (nI (ovrI n c x f)), .int (nI y)]) (al0 := [some (.ref a), some (.int (nI (ovrI n c x f))), some (.int (nI y))]) (r := [.int (nI (c (n * e + y))), .int (nI x), .ref d]) d_96_56 cw_96 cm_10_23 cz_91 rfl rfl ht.1 (by rw [cw_91]; exact ht.2.2.1) (by rw [cw_91]; decide) rfl (Nat.le_of_ble_eq_true rfl) (k_times ht' hn' (TabC.up hne hc) (by omega) (by omega)) ?_
          show CR _ _ 59 [some (.ref d), some (.ref a), some (.int (nI e)), some (.int (nI f)), some (.int (nI x)), some (.int (nI (ovrI n c x f))), some (.int (nI y))] [.int (nI (c (n * (ovrI n c x f) + y))), .int (nI (c (n * e + y))), .int (nI x), .ref d] S (up2 G d 0 (.int (nI n))) (upr B (d + 1) w_) J R _
          have b56 : c (n * (ovrI n c x f) + y) < n := (hc.2 _ (cu_lt (by omega) (by omega))).2
          refine cr_pv (b := d) (as := [.int (nI x), .int (nI (c (n * e + y))), .int (nI (c (n * (ovrI n c x f) + y)))]) (al0 := [some (.ref d), some (.int (nI x)), some (.int (nI (c (n * e + y)))), some (.int (nI (c (n * (ovrI n c x f) + y))))]) (r := []) d_96_59 cw_96 cm_10_33 cz_95 rfl rfl hd.1 (by rw [cw_95]; exact hd.2.2.1) (by rw [cw_95]; decide) rfl (Nat.le_of_ble_eq_true rfl) (k_put hd' hdn' (nI (c (n * (ovrI n c x f) + y))) (cu_36 (by omega) (cu_lt (by omega) (by omega)))) ?_
          rw [upr_s, upr_u]
          show CR _ _ 62 [some (.ref d), some (.ref a), some (.int (nI e)), some (.int (nI f)), some (.int (nI x)), some (.int (nI (ovrI n c x f))), some (.int (nI y))] [] S (up2 G d 0 (.int (nI n))) (upr B (d + 1) (upd w_ (n * x + (c (n * e + y))) (nI (c (n * (ovrI n c x f) + y))))) J R _
          refine cn_inc d_96_62 rfl rfl ?_
          show CR _ _ 65 [some (.ref d), some (.ref a), some (.int (nI e)), some (.int (nI f)), some (.int (nI x)), some (.int (nI (ovrI n c x f))), some (.int (nI (y + 1)))] [] S (up2 G d 0 (.int (nI n))) (upr B (d + 1) (upd w_ (n * x + (c (n * e + y))) (nI (c (n * (ovrI n c x f) + y))))) J R _
          refine cr_nx (pc' := 32) (al' := [some (.ref d), some (.ref a), some (.int (nI e)), some (.int (nI f)), some (.int (nI x)), some (.int (nI (ovrI n c x f))), some (.int (nI (y + 1)))]) (st' := []) d_96_65 (fun _ => rfl) ?_
          exact ihy (upd w_ (n * x + (c (n * e + y))) (nI (c (n * (ovrI n c x f) + y)))) (sc_in py rfl (by rw [isN_at (hl.b he hy), hl.uc he hy]))
      · show CR _ _ 32 [some (.ref d), some (.ref a), some (.int (nI e)), some (.int (nI f)), some (.int (nI x)), some (.int (nI (ovrI n c x f))), some (.int (nI n))] [] S (up2 G d 0 (.int (nI n))) (upr B (d + 1) w_) J R _
        refine cr_nx (pc' := 34) (al' := [some (.ref d), some (.ref a), some (.int (nI e)), some (.int (nI f)), some (.int (nI x)), some (.int (nI (ovrI n c x f))), some (.int (nI n))]) (st' := [.int (nI n)]) d_96_32 (fun _ => rfl) ?_
        refine cr_nx (pc' := 35) (al' := [some (.ref d), some (.ref a), some (.int (nI e)), some (.int (nI f)), some (.int (nI x)), some (.int (nI (ovrI n c x f))), some (.int (nI n))]) (st' := [.ref d, .int (nI n)]) d_96_34 (fun _ => rfl) ?_
        refine cr_gf (v := .int (nI n)) d_96_35 cw_96 cf_10_15 hd.1 hd.2.2.1 (by decide) (by simp [up2, hne]) ?_
        refine cn_cge (t := 68) d_96_38 (by decide) (by first | omega | assumption | exact cu_36 (by omega) (cu_lt (by omega) (by omega))) (by first | omega | assumption | exact cu_36 (by omega) (cu_lt (by omega) (by omega))) (fun c38 => ?_) (fun c38 => ?_)
        · refine cn_inc d_96_68 rfl rfl ?_
          show CR _ _ 71 [some (.ref d), some (.ref a), some (.int (nI e)), some (.int (nI f)), some (.int (nI (x + 1))), some (.int (nI (ovrI n c x f))), some (.int (nI n))] [] S (up2 G d 0 (.int (nI n))) (upr B (d + 1) w_) J R _
          refine cr_nx (pc' := 11) (al' := [some (.ref d), some (.ref a), some (.int (nI e)), some (.int (nI f)), some (.int (nI (x + 1))), some (.int (nI (ovrI n c x f))), some (.int (nI n))]) (st' := []) d_96_71 (fun _ => rfl) ?_
          refine cr_dr (al1 := [some (.ref d), some (.ref a), some (.int (nI e)), some (.int (nI f)), some (.int (nI (x + 1))), none, none]) (le_s (le_s (le_s (le_s (le_s (le_d rfl (le_d rfl (le_n)))))))) ?_
          exact ihx w_ (sc_out py)
        · omega
  · show CR _ _ 11 [some (.ref d), some (.ref a), some (.int (nI e)), some (.int (nI f)), some (.int (nI n)), none, none] [] S (up2 G d 0 (.int (nI n))) (upr B (d + 1) w_) J R _
    refine cr_nx (pc' := 13) (al' := [some (.ref d), some (.ref a), some (.int (nI e)), some (.int (nI f)), some (.int (nI n)), none, none]) (st' := [.int (nI n)]) d_96_11 (fun _ => rfl) ?_
    refine cr_nx (pc' := 14) (al' := [some (.ref d), some (.ref a), some (.int (nI e)), some (.int (nI f)), some (.int (nI n)), none, none]) (st' := [.ref d, .int (nI n)]) d_96_13 (fun _ => rfl) ?_
    refine cr_gf (v := .int (nI n)) d_96_14 cw_96 cf_10_15 hd.1 hd.2.2.1 (by decide) (by simp [up2, hne]) ?_
    refine cn_cge (t := 74) d_96_17 (by decide) (by first | omega | assumption | exact cu_36 (by omega) (cu_lt (by omega) (by omega))) (by first | omega | assumption | exact cu_36 (by omega) (cu_lt (by omega) (by omega))) (fun c17 => ?_) (fun c17 => ?_)
    · exact cr_rv d_96_74 cx_96 ⟨rfl, rfl, rfl, rfl, rfl, w_, rfl, sc_all px (fun q hq => ⟨q / n, undI n c e (q % n), dm_dl hq, (hl.u he (dm_ml hq)).1, by rw [(hl.u he (dm_ml hq)).2]; exact dm_q⟩)⟩
    · omega
theorem k_putConjugate0 {S : CS} {G : Nat → Nat → Value} {B : Nat → Nat → Int32} {J : Nat → Nat → Int64} {R : Nat → Nat → Option Nat} {d n x y z : Nat} {w_ : Nat → Int32} (hd : TabAt S G d) (hdn : G d 0 = .int (nI n)) (hn6 : n ≤ 6) (hx : x < n) (hy : y < n) (hz : z < n) (hB : B (d + 1) = w_) : CR 1 99 0 [some (.ref d), some (.int (nI 0)), some (.int (nI x)), some (.int (nI y)), some (.int (nI z))] [] S G B J R (cP none S G (upr B (d + 1) (upd w_ (cjI 0 n x y z) (nI (cjV 0 x y z)))) J R) := by
  refine cr_nx (pc' := 1) (al' := [some (.ref d), some (.int (nI 0)), some (.int (nI x)), some (.int (nI y)), some (.int (nI z))]) (st' := [.int (nI 0)]) d_99_0 (fun _ => rfl) ?_
  refine cr_td (t := 91) d_99_1 (by decide) (by decide) ?_
  refine cr_nx (pc' := 92) (al' := [some (.ref d), some (.int (nI 0)), some (.int (nI x)), some (.int (nI y)), some (.int (nI z))]) (st' := [.ref d]) d_99_91 (fun _ => rfl) ?_
  refine cr_nx (pc' := 93) (al' := [some (.ref d), some (.int (nI 0)), some (.int (nI x)), some (.int (nI y)), some (.int (nI z))]) (st' := [.int (nI x), .ref d]) d_99_92 (fun _ => rfl) ?_
  refine cr_nx (pc' := 94) (al' := [some (.ref d), some (.int (nI 0)), some (.int (nI x)), some (.int (nI y)), some (.int (nI z))]) (st' := [.int (nI y), .int (nI x), .ref d]) d_99_93 (fun _ => rfl) ?_
  refine cr_nx (pc' := 96) (al' := [some (.ref d), some (.int (nI 0)), some (.int (nI x)), some (.int (nI y)), some (.int (nI z))]) (st' := [.int (nI z), .int (nI y), .int (nI x), .ref d]) d_99_94 (fun _ => rfl) ?_
  refine cr_pv (b := d) (as := [.int (nI x), .int (nI y), .int (nI z)]) (al0 := [some (.ref d), some (.int (nI x)), some (.int (nI y)), some (.int (nI z))]) (r := []) d_99_96 cw_99 cm_10_33 cz_95 rfl rfl hd.1 (by rw [cw_95]; exact hd.2.2.1) (by rw [cw_95]; decide) rfl (Nat.le_of_ble_eq_true rfl) (k_put hd hdn (nI z) (cu_36 hn6 (cu_lt (by omega) (by omega)))) ?_
  rw [hB]
  show CR _ _ 99 [some (.ref d), some (.int (nI 0)), some (.int (nI x)), some (.int (nI y)), some (.int (nI z))] [] S G (upr B (d + 1) (upd w_ (n * x + y) (nI z))) J R _
  exact cr_rv d_99_99 cx_99 ⟨rfl, rfl, rfl, rfl, rfl, rfl⟩
theorem k_putConjugate1 {S : CS} {G : Nat → Nat → Value} {B : Nat → Nat → Int32} {J : Nat → Nat → Int64} {R : Nat → Nat → Option Nat} {d n x y z : Nat} {w_ : Nat → Int32} (hd : TabAt S G d) (hdn : G d 0 = .int (nI n)) (hn6 : n ≤ 6) (hx : x < n) (hy : y < n) (hz : z < n) (hB : B (d + 1) = w_) : CR 1 99 0 [some (.ref d), some (.int (nI 1)), some (.int (nI x)), some (.int (nI y)), some (.int (nI z))] [] S G B J R (cP none S G (upr B (d + 1) (upd w_ (cjI 1 n x y z) (nI (cjV 1 x y z)))) J R) := by
  refine cr_nx (pc' := 1) (al' := [some (.ref d), some (.int (nI 1)), some (.int (nI x)), some (.int (nI y)), some (.int (nI z))]) (st' := [.int (nI 1)]) d_99_0 (fun _ => rfl) ?_
  refine cr_ts (off := 35) (t := 36) d_99_1 (by decide) (by decide) rfl (by decide) ?_
  refine cr_nx (pc' := 37) (al' := [some (.ref d), some (.int (nI 1)), some (.int (nI x)), some (.int (nI y)), some (.int (nI z))]) (st' := [.ref d]) d_99_36 (fun _ => rfl) ?_
  refine cr_nx (pc' := 38) (al' := [some (.ref d), some (.int (nI 1)), some (.int (nI x)), some (.int (nI y)), some (.int (nI z))]) (st' := [.int (nI y), .ref d]) d_99_37 (fun _ => rfl) ?_
  refine cr_nx (pc' := 39) (al' := [some (.ref d), some (.int (nI 1)), some (.int (nI x)), some (.int (nI y)), some (.int (nI z))]) (st' := [.int (nI x), .int (nI y), .ref d]) d_99_38 (fun _ => rfl) ?_
  refine cr_nx (pc' := 41) (al' := [some (.ref d), some (.int (nI 1)), some (.int (nI x)), some (.int (nI y)), some (.int (nI z))]) (st' := [.int (nI z), .int (nI x), .int (nI y), .ref d]) d_99_39 (fun _ => rfl) ?_
  refine cr_pv (b := d) (as := [.int (nI y), .int (nI x), .int (nI z)]) (al0 := [some (.ref d), some (.int (nI y)), some (.int (nI x)), some (.int (nI z))]) (r := []) d_99_41 cw_99 cm_10_33 cz_95 rfl rfl hd.1 (by rw [cw_95]; exact hd.2.2.1) (by rw [cw_95]; decide) rfl (Nat.le_of_ble_eq_true rfl) (k_put hd hdn (nI z) (cu_36 hn6 (cu_lt (by omega) (by omega)))) ?_
  rw [hB]
  show CR _ _ 44 [some (.ref d), some (.int (nI 1)), some (.int (nI x)), some (.int (nI y)), some (.int (nI z))] [] S G (upr B (d + 1) (upd w_ (n * y + x) (nI z))) J R _
  refine cr_nx (pc' := 99) (al' := [some (.ref d), some (.int (nI 1)), some (.int (nI x)), some (.int (nI y)), some (.int (nI z))]) (st' := []) d_99_44 (fun _ => rfl) ?_
  exact cr_rv d_99_99 cx_99 ⟨rfl, rfl, rfl, rfl, rfl, rfl⟩
theorem k_putConjugate2 {S : CS} {G : Nat → Nat → Value} {B : Nat → Nat → Int32} {J : Nat → Nat → Int64} {R : Nat → Nat → Option Nat} {d n x y z : Nat} {w_ : Nat → Int32} (hd : TabAt S G d) (hdn : G d 0 = .int (nI n)) (hn6 : n ≤ 6) (hx : x < n) (hy : y < n) (hz : z < n) (hB : B (d + 1) = w_) : CR 1 99 0 [some (.ref d), some (.int (nI 2)), some (.int (nI x)), some (.int (nI y)), some (.int (nI z))] [] S G B J R (cP none S G (upr B (d + 1) (upd w_ (cjI 2 n x y z) (nI (cjV 2 x y z)))) J R) := by
  refine cr_nx (pc' := 1) (al' := [some (.ref d), some (.int (nI 2)), some (.int (nI x)), some (.int (nI y)), some (.int (nI z))]) (st' := [.int (nI 2)]) d_99_0 (fun _ => rfl) ?_
  refine cr_ts (off := 46) (t := 47) d_99_1 (by decide) (by decide) rfl (by decide) ?_
  refine cr_nx (pc' := 48) (al' := [some (.ref d), some (.int (nI 2)), some (.int (nI x)), some (.int (nI y)), some (.int (nI z))]) (st' := [.ref d]) d_99_47 (fun _ => rfl) ?_
  refine cr_nx (pc' := 49) (al' := [some (.ref d), some (.int (nI 2)), some (.int (nI x)), some (.int (nI y)), some (.int (nI z))]) (st' := [.int (nI x), .ref d]) d_99_48 (fun _ => rfl) ?_
  refine cr_nx (pc' := 51) (al' := [some (.ref d), some (.int (nI 2)), some (.int (nI x)), some (.int (nI y)), some (.int (nI z))]) (st' := [.int (nI z), .int (nI x), .ref d]) d_99_49 (fun _ => rfl) ?_
  refine cr_nx (pc' := 52) (al' := [some (.ref d), some (.int (nI 2)), some (.int (nI x)), some (.int (nI y)), some (.int (nI z))]) (st' := [.int (nI y), .int (nI z), .int (nI x), .ref d]) d_99_51 (fun _ => rfl) ?_
  refine cr_pv (b := d) (as := [.int (nI x), .int (nI z), .int (nI y)]) (al0 := [some (.ref d), some (.int (nI x)), some (.int (nI z)), some (.int (nI y))]) (r := []) d_99_52 cw_99 cm_10_33 cz_95 rfl rfl hd.1 (by rw [cw_95]; exact hd.2.2.1) (by rw [cw_95]; decide) rfl (Nat.le_of_ble_eq_true rfl) (k_put hd hdn (nI y) (cu_36 hn6 (cu_lt (by omega) (by omega)))) ?_
  rw [hB]
  show CR _ _ 55 [some (.ref d), some (.int (nI 2)), some (.int (nI x)), some (.int (nI y)), some (.int (nI z))] [] S G (upr B (d + 1) (upd w_ (n * x + z) (nI y))) J R _
  refine cr_nx (pc' := 99) (al' := [some (.ref d), some (.int (nI 2)), some (.int (nI x)), some (.int (nI y)), some (.int (nI z))]) (st' := []) d_99_55 (fun _ => rfl) ?_
  exact cr_rv d_99_99 cx_99 ⟨rfl, rfl, rfl, rfl, rfl, rfl⟩
theorem k_putConjugate3 {S : CS} {G : Nat → Nat → Value} {B : Nat → Nat → Int32} {J : Nat → Nat → Int64} {R : Nat → Nat → Option Nat} {d n x y z : Nat} {w_ : Nat → Int32} (hd : TabAt S G d) (hdn : G d 0 = .int (nI n)) (hn6 : n ≤ 6) (hx : x < n) (hy : y < n) (hz : z < n) (hB : B (d + 1) = w_) : CR 1 99 0 [some (.ref d), some (.int (nI 3)), some (.int (nI x)), some (.int (nI y)), some (.int (nI z))] [] S G B J R (cP none S G (upr B (d + 1) (upd w_ (cjI 3 n x y z) (nI (cjV 3 x y z)))) J R) := by
  refine cr_nx (pc' := 1) (al' := [some (.ref d), some (.int (nI 3)), some (.int (nI x)), some (.int (nI y)), some (.int (nI z))]) (st' := [.int (nI 3)]) d_99_0 (fun _ => rfl) ?_
  refine cr_ts (off := 57) (t := 58) d_99_1 (by decide) (by decide) rfl (by decide) ?_
  refine cr_nx (pc' := 59) (al' := [some (.ref d), some (.int (nI 3)), some (.int (nI x)), some (.int (nI y)), some (.int (nI z))]) (st' := [.ref d]) d_99_58 (fun _ => rfl) ?_
  refine cr_nx (pc' := 61) (al' := [some (.ref d), some (.int (nI 3)), some (.int (nI x)), some (.int (nI y)), some (.int (nI z))]) (st' := [.int (nI z), .ref d]) d_99_59 (fun _ => rfl) ?_
  refine cr_nx (pc' := 62) (al' := [some (.ref d), some (.int (nI 3)), some (.int (nI x)), some (.int (nI y)), some (.int (nI z))]) (st' := [.int (nI x), .int (nI z), .ref d]) d_99_61 (fun _ => rfl) ?_
  refine cr_nx (pc' := 63) (al' := [some (.ref d), some (.int (nI 3)), some (.int (nI x)), some (.int (nI y)), some (.int (nI z))]) (st' := [.int (nI y), .int (nI x), .int (nI z), .ref d]) d_99_62 (fun _ => rfl) ?_
  refine cr_pv (b := d) (as := [.int (nI z), .int (nI x), .int (nI y)]) (al0 := [some (.ref d), some (.int (nI z)), some (.int (nI x)), some (.int (nI y))]) (r := []) d_99_63 cw_99 cm_10_33 cz_95 rfl rfl hd.1 (by rw [cw_95]; exact hd.2.2.1) (by rw [cw_95]; decide) rfl (Nat.le_of_ble_eq_true rfl) (k_put hd hdn (nI y) (cu_36 hn6 (cu_lt (by omega) (by omega)))) ?_
  rw [hB]
  show CR _ _ 66 [some (.ref d), some (.int (nI 3)), some (.int (nI x)), some (.int (nI y)), some (.int (nI z))] [] S G (upr B (d + 1) (upd w_ (n * z + x) (nI y))) J R _
  refine cr_nx (pc' := 99) (al' := [some (.ref d), some (.int (nI 3)), some (.int (nI x)), some (.int (nI y)), some (.int (nI z))]) (st' := []) d_99_66 (fun _ => rfl) ?_
  exact cr_rv d_99_99 cx_99 ⟨rfl, rfl, rfl, rfl, rfl, rfl⟩
theorem k_putConjugate4 {S : CS} {G : Nat → Nat → Value} {B : Nat → Nat → Int32} {J : Nat → Nat → Int64} {R : Nat → Nat → Option Nat} {d n x y z : Nat} {w_ : Nat → Int32} (hd : TabAt S G d) (hdn : G d 0 = .int (nI n)) (hn6 : n ≤ 6) (hx : x < n) (hy : y < n) (hz : z < n) (hB : B (d + 1) = w_) : CR 1 99 0 [some (.ref d), some (.int (nI 4)), some (.int (nI x)), some (.int (nI y)), some (.int (nI z))] [] S G B J R (cP none S G (upr B (d + 1) (upd w_ (cjI 4 n x y z) (nI (cjV 4 x y z)))) J R) := by
  refine cr_nx (pc' := 1) (al' := [some (.ref d), some (.int (nI 4)), some (.int (nI x)), some (.int (nI y)), some (.int (nI z))]) (st' := [.int (nI 4)]) d_99_0 (fun _ => rfl) ?_
  refine cr_ts (off := 68) (t := 69) d_99_1 (by decide) (by decide) rfl (by decide) ?_
  refine cr_nx (pc' := 70) (al' := [some (.ref d), some (.int (nI 4)), some (.int (nI x)), some (.int (nI y)), some (.int (nI z))]) (st' := [.ref d]) d_99_69 (fun _ => rfl) ?_
  refine cr_nx (pc' := 71) (al' := [some (.ref d), some (.int (nI 4)), some (.int (nI x)), some (.int (nI y)), some (.int (nI z))]) (st' := [.int (nI y), .ref d]) d_99_70 (fun _ => rfl) ?_
  refine cr_nx (pc' := 73) (al' := [some (.ref d), some (.int (nI 4)), some (.int (nI x)), some (.int (nI y)), some (.int (nI z))]) (st' := [.int (nI z), .int (nI y), .ref d]) d_99_71 (fun _ => rfl) ?_
  refine cr_nx (pc' := 74) (al' := [some (.ref d), some (.int (nI 4)), some (.int (nI x)), some (.int (nI y)), some (.int (nI z))]) (st' := [.int (nI x), .int (nI z), .int (nI y), .ref d]) d_99_73 (fun _ => rfl) ?_
  refine cr_pv (b := d) (as := [.int (nI y), .int (nI z), .int (nI x)]) (al0 := [some (.ref d), some (.int (nI y)), some (.int (nI z)), some (.int (nI x))]) (r := []) d_99_74 cw_99 cm_10_33 cz_95 rfl rfl hd.1 (by rw [cw_95]; exact hd.2.2.1) (by rw [cw_95]; decide) rfl (Nat.le_of_ble_eq_true rfl) (k_put hd hdn (nI x) (cu_36 hn6 (cu_lt (by omega) (by omega)))) ?_
  rw [hB]
  show CR _ _ 77 [some (.ref d), some (.int (nI 4)), some (.int (nI x)), some (.int (nI y)), some (.int (nI z))] [] S G (upr B (d + 1) (upd w_ (n * y + z) (nI x))) J R _
  refine cr_nx (pc' := 99) (al' := [some (.ref d), some (.int (nI 4)), some (.int (nI x)), some (.int (nI y)), some (.int (nI z))]) (st' := []) d_99_77 (fun _ => rfl) ?_
  exact cr_rv d_99_99 cx_99 ⟨rfl, rfl, rfl, rfl, rfl, rfl⟩
theorem k_putConjugate5 {S : CS} {G : Nat → Nat → Value} {B : Nat → Nat → Int32} {J : Nat → Nat → Int64} {R : Nat → Nat → Option Nat} {d n x y z : Nat} {w_ : Nat → Int32} (hd : TabAt S G d) (hdn : G d 0 = .int (nI n)) (hn6 : n ≤ 6) (hx : x < n) (hy : y < n) (hz : z < n) (hB : B (d + 1) = w_) : CR 1 99 0 [some (.ref d), some (.int (nI 5)), some (.int (nI x)), some (.int (nI y)), some (.int (nI z))] [] S G B J R (cP none S G (upr B (d + 1) (upd w_ (cjI 5 n x y z) (nI (cjV 5 x y z)))) J R) := by
  refine cr_nx (pc' := 1) (al' := [some (.ref d), some (.int (nI 5)), some (.int (nI x)), some (.int (nI y)), some (.int (nI z))]) (st' := [.int (nI 5)]) d_99_0 (fun _ => rfl) ?_
  refine cr_ts (off := 79) (t := 80) d_99_1 (by decide) (by decide) rfl (by decide) ?_
  refine cr_nx (pc' := 81) (al' := [some (.ref d), some (.int (nI 5)), some (.int (nI x)), some (.int (nI y)), some (.int (nI z))]) (st' := [.ref d]) d_99_80 (fun _ => rfl) ?_
  refine cr_nx (pc' := 83) (al' := [some (.ref d), some (.int (nI 5)), some (.int (nI x)), some (.int (nI y)), some (.int (nI z))]) (st' := [.int (nI z), .ref d]) d_99_81 (fun _ => rfl) ?_
  refine cr_nx (pc' := 84) (al' := [some (.ref d), some (.int (nI 5)), some (.int (nI x)), some (.int (nI y)), some (.int (nI z))]) (st' := [.int (nI y), .int (nI z), .ref d]) d_99_83 (fun _ => rfl) ?_
  refine cr_nx (pc' := 85) (al' := [some (.ref d), some (.int (nI 5)), some (.int (nI x)), some (.int (nI y)), some (.int (nI z))]) (st' := [.int (nI x), .int (nI y), .int (nI z), .ref d]) d_99_84 (fun _ => rfl) ?_
  refine cr_pv (b := d) (as := [.int (nI z), .int (nI y), .int (nI x)]) (al0 := [some (.ref d), some (.int (nI z)), some (.int (nI y)), some (.int (nI x))]) (r := []) d_99_85 cw_99 cm_10_33 cz_95 rfl rfl hd.1 (by rw [cw_95]; exact hd.2.2.1) (by rw [cw_95]; decide) rfl (Nat.le_of_ble_eq_true rfl) (k_put hd hdn (nI x) (cu_36 hn6 (cu_lt (by omega) (by omega)))) ?_
  rw [hB]
  show CR _ _ 88 [some (.ref d), some (.int (nI 5)), some (.int (nI x)), some (.int (nI y)), some (.int (nI z))] [] S G (upr B (d + 1) (upd w_ (n * z + y) (nI x))) J R _
  refine cr_nx (pc' := 99) (al' := [some (.ref d), some (.int (nI 5)), some (.int (nI x)), some (.int (nI y)), some (.int (nI z))]) (st' := []) d_99_88 (fun _ => rfl) ?_
  exact cr_rv d_99_99 cx_99 ⟨rfl, rfl, rfl, rfl, rfl, rfl⟩
theorem k_makeConjugate0 {S : CS} {G : Nat → Nat → Value} {B : Nat → Nat → Int32} {J : Nat → Nat → Int64} {R : Nat → Nat → Option Nat} {a d n : Nat} (ht : TabAt S G a) (hn : G a 0 = .int (nI n)) {c : Nat → Nat} (hc : TabC B a n c) (hd : TabAt S G d) (hne : a ≠ d) (hl : Lat n c) : CR 2 98 0 [some (.ref d), some (.ref a), some (.int (nI 0)), none, none] [] S G B J R (mkC d S G B J R n (cjN 0 n c)) := by
  have hn6 := hc.1
  have ht' : TabAt S (up2 G d 0 (.int (nI n))) a := ht.up
  have hd' : TabAt S (up2 G d 0 (.int (nI n))) d := hd.up
  have hn' : up2 G d 0 (.int (nI n)) a 0 = .int (nI n) := up2_0 hne hn
  have hdn' : up2 G d 0 (.int (nI n)) d 0 = .int (nI n) := up2_s
  refine cr_nx (pc' := 1) (al' := [some (.ref d), some (.ref a), some (.int (nI 0)), none, none]) (st' := [.ref d]) d_98_0 (fun _ => rfl) ?_
  refine cr_nx (pc' := 2) (al' := [some (.ref d), some (.ref a), some (.int (nI 0)), none, none]) (st' := [.ref a, .ref d]) d_98_1 (fun _ => rfl) ?_
  refine cr_gf (v := .int (nI n)) d_98_2 cw_98 cf_10_15 ht.1 ht.2.2.1 (by decide) hn ?_
  refine cp_10_0  d_98_5 cw_98 cf_10_15 hd.1 hd.2.2.1 (by decide) ?_
  refine cn_ic (v := 0) d_98_8 (by decide) ?_
  refine cr_nx (pc' := 10) (al' := [some (.ref d), some (.ref a), some (.int (nI 0)), some (.int (nI 0)), none]) (st' := []) d_98_9 (fun _ => rfl) ?_
  refine cr_B (show B = (upr B (d + 1) (B (d + 1))) by rw [upr_id]) ?_
  refine cr_upw (al := fun x w_ => [some (.ref d), some (.ref a), some (.int (nI 0)), some (.int (nI x)), none]) (S := fun x w_ => S) (G := fun x w_ => (up2 G d 0 (.int (nI n)))) (B := fun x w_ => (upr B (d + 1) w_)) (J := fun x w_ => J) (R := fun x w_ => R) (P := fun x w_ => ScP (fun q => nI (cjN 0 n c q)) (fun x y => cjI 0 n x y (c (n * x + y))) n x 0 w_) (n := n) (fun x w_ hx px ihx => ?_) (fun w_ px => ?_) 0 (B (d + 1)) (by omega) (sc_0)
  · show CR _ _ 10 [some (.ref d), some (.ref a), some (.int (nI 0)), some (.int (nI x)), none] [] S (up2 G d 0 (.int (nI n))) (upr B (d + 1) w_) J R _
    refine cr_nx (pc' := 11) (al' := [some (.ref d), some (.ref a), some (.int (nI 0)), some (.int (nI x)), none]) (st' := [.int (nI x)]) d_98_10 (fun _ => rfl) ?_
    refine cr_nx (pc' := 12) (al' := [some (.ref d), some (.ref a), some (.int (nI 0)), some (.int (nI x)), none]) (st' := [.ref d, .int (nI x)]) d_98_11 (fun _ => rfl) ?_
    refine cr_gf (v := .int (nI n)) d_98_12 cw_98 cf_10_15 hd.1 hd.2.2.1 (by decide) (by simp [up2, hne]) ?_
    refine cn_cge (t := 57) d_98_15 (by decide) (by first | omega | assumption | exact cu_36 (by omega) (cu_lt (by omega) (by omega))) (by first | omega | assumption | exact cu_36 (by omega) (cu_lt (by omega) (by omega))) (fun c15 => ?_) (fun c15 => ?_)
    · omega
    · refine cn_ic (v := 0) d_98_18 (by decide) ?_
      refine cr_nx (pc' := 21) (al' := [some (.ref d), some (.ref a), some (.int (nI 0)), some (.int (nI x)), some (.int (nI 0))]) (st' := []) d_98_19 (fun _ => rfl) ?_
      refine cr_upw (al := fun y w_ => [some (.ref d), some (.ref a), some (.int (nI 0)), some (.int (nI x)), some (.int (nI y))]) (S := fun y w_ => S) (G := fun y w_ => (up2 G d 0 (.int (nI n)))) (B := fun y w_ => (upr B (d + 1) w_)) (J := fun y w_ => J) (R := fun y w_ => R) (P := fun y w_ => ScP (fun q => nI (cjN 0 n c q)) (fun x y => cjI 0 n x y (c (n * x + y))) n x y w_) (n := n) (fun y w_ hy py ihy => ?_) (fun w_ py => ?_) 0 w_ (by omega) (px)
      · show CR _ _ 21 [some (.ref d), some (.ref a), some (.int (nI 0)), some (.int (nI x)), some (.int (nI y))] [] S (up2 G d 0 (.int (nI n))) (upr B (d + 1) w_) J R _
        refine cr_nx (pc' := 23) (al' := [some (.ref d), some (.ref a), some (.int (nI 0)), some (.int (nI x)), some (.int (nI y))]) (st' := [.int (nI y)]) d_98_21 (fun _ => rfl) ?_
        refine cr_nx (pc' := 24) (al' := [some (.ref d), some (.ref a), some (.int (nI 0)), some (.int (nI x)), some (.int (nI y))]) (st' := [.ref d, .int (nI y)]) d_98_23 (fun _ => rfl) ?_
        refine cr_gf (v := .int (nI n)) d_98_24 cw_98 cf_10_15 hd.1 hd.2.2.1 (by decide) (by simp [up2, hne]) ?_
        refine cn_cge (t := 51) d_98_27 (by decide) (by first | omega | assumption | exact cu_36 (by omega) (cu_lt (by omega) (by omega))) (by first | omega | assumption | exact cu_36 (by omega) (cu_lt (by omega) (by omega))) (fun c27 => ?_) (fun c27 => ?_)
        · omega
        · refine cr_nx (pc' := 31) (al' := [some (.ref d), some (.ref a), some (.int (nI 0)), some (.int (nI x)), some (.int (nI y))]) (st' := [.ref d]) d_98_30 (fun _ => rfl) ?_
          refine cr_nx (pc' := 32) (al' := [some (.ref d), some (.ref a), some (.int (nI 0)), some (.int (nI x)), some (.int (nI y))]) (st' := [.int (nI 0), .ref d]) d_98_31 (fun _ => rfl) ?_
          refine cr_nx (pc' := 33) (al' := [some (.ref d), some (.ref a), some (.int (nI 0)), some (.int (nI x)), some (.int (nI y))]) (st' := [.int (nI x), .int (nI 0), .ref d]) d_98_32 (fun _ => rfl) ?_
          refine cr_nx (pc' := 35) (al' := [some (.ref d), some (.ref a), some (.int (nI 0)), some (.int (nI x)), some (.int (nI y))]) (st' := [.int (nI y), .int (nI x), .int (nI 0), .ref d]) d_98_33 (fun _ => rfl) ?_
          refine cr_nx (pc' := 36) (al' := [some (.ref d), some (.ref a), some (.int (nI 0)), some (.int (nI x)), some (.int (nI y))]) (st' := [.ref a, .int (nI y), .int (nI x), .int (nI 0), .ref d]) d_98_35 (fun _ => rfl) ?_
          refine cr_nx (pc' := 37) (al' := [some (.ref d), some (.ref a), some (.int (nI 0)), some (.int (nI x)), some (.int (nI y))]) (st' := [.int (nI x), .ref a, .int (nI y), .int (nI x), .int (nI 0), .ref d]) d_98_36 (fun _ => rfl) ?_
          refine cr_nx (pc' := 39) (al' := [some (.ref d), some (.ref a), some (.int (nI 0)), some (.int (nI x)), some (.int (nI y))]) (st' := [.int (nI y), .int (nI x), .ref a, .int (nI y), .int (nI x), .int (nI 0), .ref d]) d_98_37 (fun _ => rfl) ?_
          refine cr_pv (b := a) (as := [.int (nI x), .int (nI y)]) (al0 := [some (.ref a), some (.int (nI x)), some (.int (nI y))]) (r := [.int (nI y), .int (nI x), .int (nI 0), .ref d]) d_98_39 cw_98 cm_10_23 cz_91 rfl rfl ht.1 (by rw [cw_91]; exact ht.2.2.1) (by rw [cw_91]; decide) rfl (Nat.le_of_ble_eq_true rfl) (k_times ht' hn' (TabC.up hne hc) (by omega) (by omega)) ?_
          show CR _ _ 42 [some (.ref d), some (.ref a), some (.int (nI 0)), some (.int (nI x)), some (.int (nI y))] [.int (nI (c (n * x + y))), .int (nI y), .int (nI x), .int (nI 0), .ref d] S (up2 G d 0 (.int (nI n))) (upr B (d + 1) w_) J R _
          have b39 : c (n * x + y) < n := (hc.2 _ (cu_lt (by omega) (by omega))).2
          refine cr_pv (b := d) (as := [.int (nI 0), .int (nI x), .int (nI y), .int (nI (c (n * x + y)))]) (al0 := [some (.ref d), some (.int (nI 0)), some (.int (nI x)), some (.int (nI y)), some (.int (nI (c (n * x + y))))]) (r := []) d_98_42 cw_98 cm_10_45 cz_99 rfl rfl hd.1 (by rw [cw_99]; exact hd.2.2.1) (by rw [cw_99]; decide) rfl (Nat.le_of_ble_eq_true rfl) (k_putConjugate0 (w_ := w_) hd' hdn' hn6 (by omega) (by omega) (by omega) upr_s) ?_
          rw [upr_u]
          show CR _ _ 45 [some (.ref d), some (.ref a), some (.int (nI 0)), some (.int (nI x)), some (.int (nI y))] [] S (up2 G d 0 (.int (nI n))) (upr B (d + 1) (upd w_ (cjI 0 n x y (c (n * x + y))) (nI (cjV 0 x y (c (n * x + y)))))) J R _
          refine cn_inc d_98_45 rfl rfl ?_
          show CR _ _ 48 [some (.ref d), some (.ref a), some (.int (nI 0)), some (.int (nI x)), some (.int (nI (y + 1)))] [] S (up2 G d 0 (.int (nI n))) (upr B (d + 1) (upd w_ (cjI 0 n x y (c (n * x + y))) (nI (cjV 0 x y (c (n * x + y)))))) J R _
          refine cr_nx (pc' := 21) (al' := [some (.ref d), some (.ref a), some (.int (nI 0)), some (.int (nI x)), some (.int (nI (y + 1)))]) (st' := []) d_98_48 (fun _ => rfl) ?_
          exact ihy (upd w_ (cjI 0 n x y (c (n * x + y))) (nI (cjV 0 x y (c (n * x + y))))) (sc_in py rfl (congrArg nI (cj_at (w := 0) hl hx hy).symm))
      · show CR _ _ 21 [some (.ref d), some (.ref a), some (.int (nI 0)), some (.int (nI x)), some (.int (nI n))] [] S (up2 G d 0 (.int (nI n))) (upr B (d + 1) w_) J R _
        refine cr_nx (pc' := 23) (al' := [some (.ref d), some (.ref a), some (.int (nI 0)), some (.int (nI x)), some (.int (nI n))]) (st' := [.int (nI n)]) d_98_21 (fun _ => rfl) ?_
        refine cr_nx (pc' := 24) (al' := [some (.ref d), some (.ref a), some (.int (nI 0)), some (.int (nI x)), some (.int (nI n))]) (st' := [.ref d, .int (nI n)]) d_98_23 (fun _ => rfl) ?_
        refine cr_gf (v := .int (nI n)) d_98_24 cw_98 cf_10_15 hd.1 hd.2.2.1 (by decide) (by simp [up2, hne]) ?_
        refine cn_cge (t := 51) d_98_27 (by decide) (by first | omega | assumption | exact cu_36 (by omega) (cu_lt (by omega) (by omega))) (by first | omega | assumption | exact cu_36 (by omega) (cu_lt (by omega) (by omega))) (fun c27 => ?_) (fun c27 => ?_)
        · refine cn_inc d_98_51 rfl rfl ?_
          show CR _ _ 54 [some (.ref d), some (.ref a), some (.int (nI 0)), some (.int (nI (x + 1))), some (.int (nI n))] [] S (up2 G d 0 (.int (nI n))) (upr B (d + 1) w_) J R _
          refine cr_nx (pc' := 10) (al' := [some (.ref d), some (.ref a), some (.int (nI 0)), some (.int (nI (x + 1))), some (.int (nI n))]) (st' := []) d_98_54 (fun _ => rfl) ?_
          refine cr_dr (al1 := [some (.ref d), some (.ref a), some (.int (nI 0)), some (.int (nI (x + 1))), none]) (le_s (le_s (le_s (le_s (le_d rfl (le_n)))))) ?_
          exact ihx w_ (sc_out py)
        · omega
  · show CR _ _ 10 [some (.ref d), some (.ref a), some (.int (nI 0)), some (.int (nI n)), none] [] S (up2 G d 0 (.int (nI n))) (upr B (d + 1) w_) J R _
    refine cr_nx (pc' := 11) (al' := [some (.ref d), some (.ref a), some (.int (nI 0)), some (.int (nI n)), none]) (st' := [.int (nI n)]) d_98_10 (fun _ => rfl) ?_
    refine cr_nx (pc' := 12) (al' := [some (.ref d), some (.ref a), some (.int (nI 0)), some (.int (nI n)), none]) (st' := [.ref d, .int (nI n)]) d_98_11 (fun _ => rfl) ?_
    refine cr_gf (v := .int (nI n)) d_98_12 cw_98 cf_10_15 hd.1 hd.2.2.1 (by decide) (by simp [up2, hne]) ?_
    refine cn_cge (t := 57) d_98_15 (by decide) (by first | omega | assumption | exact cu_36 (by omega) (cu_lt (by omega) (by omega))) (by first | omega | assumption | exact cu_36 (by omega) (cu_lt (by omega) (by omega))) (fun c15 => ?_) (fun c15 => ?_)
    · exact cr_rv d_98_57 cx_98 ⟨rfl, rfl, rfl, rfl, rfl, w_, rfl, sc_all px (fun q hq => cj_on hl hq)⟩
    · omega
theorem k_makeConjugate1 {S : CS} {G : Nat → Nat → Value} {B : Nat → Nat → Int32} {J : Nat → Nat → Int64} {R : Nat → Nat → Option Nat} {a d n : Nat} (ht : TabAt S G a) (hn : G a 0 = .int (nI n)) {c : Nat → Nat} (hc : TabC B a n c) (hd : TabAt S G d) (hne : a ≠ d) (hl : Lat n c) : CR 2 98 0 [some (.ref d), some (.ref a), some (.int (nI 1)), none, none] [] S G B J R (mkC d S G B J R n (cjN 1 n c)) := by
  have hn6 := hc.1
  have ht' : TabAt S (up2 G d 0 (.int (nI n))) a := ht.up
  have hd' : TabAt S (up2 G d 0 (.int (nI n))) d := hd.up
  have hn' : up2 G d 0 (.int (nI n)) a 0 = .int (nI n) := up2_0 hne hn
  have hdn' : up2 G d 0 (.int (nI n)) d 0 = .int (nI n) := up2_s
  refine cr_nx (pc' := 1) (al' := [some (.ref d), some (.ref a), some (.int (nI 1)), none, none]) (st' := [.ref d]) d_98_0 (fun _ => rfl) ?_
  refine cr_nx (pc' := 2) (al' := [some (.ref d), some (.ref a), some (.int (nI 1)), none, none]) (st' := [.ref a, .ref d]) d_98_1 (fun _ => rfl) ?_
  refine cr_gf (v := .int (nI n)) d_98_2 cw_98 cf_10_15 ht.1 ht.2.2.1 (by decide) hn ?_
  refine cp_10_0  d_98_5 cw_98 cf_10_15 hd.1 hd.2.2.1 (by decide) ?_
  refine cn_ic (v := 0) d_98_8 (by decide) ?_
  refine cr_nx (pc' := 10) (al' := [some (.ref d), some (.ref a), some (.int (nI 1)), some (.int (nI 0)), none]) (st' := []) d_98_9 (fun _ => rfl) ?_
  refine cr_B (show B = (upr B (d + 1) (B (d + 1))) by rw [upr_id]) ?_
  refine cr_upw (al := fun x w_ => [some (.ref d), some (.ref a), some (.int (nI 1)), some (.int (nI x)), none]) (S := fun x w_ => S) (G := fun x w_ => (up2 G d 0 (.int (nI n)))) (B := fun x w_ => (upr B (d + 1) w_)) (J := fun x w_ => J) (R := fun x w_ => R) (P := fun x w_ => ScP (fun q => nI (cjN 1 n c q)) (fun x y => cjI 1 n x y (c (n * x + y))) n x 0 w_) (n := n) (fun x w_ hx px ihx => ?_) (fun w_ px => ?_) 0 (B (d + 1)) (by omega) (sc_0)
  · show CR _ _ 10 [some (.ref d), some (.ref a), some (.int (nI 1)), some (.int (nI x)), none] [] S (up2 G d 0 (.int (nI n))) (upr B (d + 1) w_) J R _
    refine cr_nx (pc' := 11) (al' := [some (.ref d), some (.ref a), some (.int (nI 1)), some (.int (nI x)), none]) (st' := [.int (nI x)]) d_98_10 (fun _ => rfl) ?_
    refine cr_nx (pc' := 12) (al' := [some (.ref d), some (.ref a), some (.int (nI 1)), some (.int (nI x)), none]) (st' := [.ref d, .int (nI x)]) d_98_11 (fun _ => rfl) ?_
    refine cr_gf (v := .int (nI n)) d_98_12 cw_98 cf_10_15 hd.1 hd.2.2.1 (by decide) (by simp [up2, hne]) ?_
    refine cn_cge (t := 57) d_98_15 (by decide) (by first | omega | assumption | exact cu_36 (by omega) (cu_lt (by omega) (by omega))) (by first | omega | assumption | exact cu_36 (by omega) (cu_lt (by omega) (by omega))) (fun c15 => ?_) (fun c15 => ?_)
    · omega
    · refine cn_ic (v := 0) d_98_18 (by decide) ?_
      refine cr_nx (pc' := 21) (al' := [some (.ref d), some (.ref a), some (.int (nI 1)), some (.int (nI x)), some (.int (nI 0))]) (st' := []) d_98_19 (fun _ => rfl) ?_
      refine cr_upw (al := fun y w_ => [some (.ref d), some (.ref a), some (.int (nI 1)), some (.int (nI x)), some (.int (nI y))]) (S := fun y w_ => S) (G := fun y w_ => (up2 G d 0 (.int (nI n)))) (B := fun y w_ => (upr B (d + 1) w_)) (J := fun y w_ => J) (R := fun y w_ => R) (P := fun y w_ => ScP (fun q => nI (cjN 1 n c q)) (fun x y => cjI 1 n x y (c (n * x + y))) n x y w_) (n := n) (fun y w_ hy py ihy => ?_) (fun w_ py => ?_) 0 w_ (by omega) (px)
      · show CR _ _ 21 [some (.ref d), some (.ref a), some (.int (nI 1)), some (.int (nI x)), some (.int (nI y))] [] S (up2 G d 0 (.int (nI n))) (upr B (d + 1) w_) J R _
        refine cr_nx (pc' := 23) (al' := [some (.ref d), some (.ref a), some (.int (nI 1)), some (.int (nI x)), some (.int (nI y))]) (st' := [.int (nI y)]) d_98_21 (fun _ => rfl) ?_
        refine cr_nx (pc' := 24) (al' := [some (.ref d), some (.ref a), some (.int (nI 1)), some (.int (nI x)), some (.int (nI y))]) (st' := [.ref d, .int (nI y)]) d_98_23 (fun _ => rfl) ?_
        refine cr_gf (v := .int (nI n)) d_98_24 cw_98 cf_10_15 hd.1 hd.2.2.1 (by decide) (by simp [up2, hne]) ?_
        refine cn_cge (t := 51) d_98_27 (by decide) (by first | omega | assumption | exact cu_36 (by omega) (cu_lt (by omega) (by omega))) (by first | omega | assumption | exact cu_36 (by omega) (cu_lt (by omega) (by omega))) (fun c27 => ?_) (fun c27 => ?_)
        · omega
        · refine cr_nx (pc' := 31) (al' := [some (.ref d), some (.ref a), some (.int (nI 1)), some (.int (nI x)), some (.int (nI y))]) (st' := [.ref d]) d_98_30 (fun _ => rfl) ?_
          refine cr_nx (pc' := 32) (al' := [some (.ref d), some (.ref a), some (.int (nI 1)), some (.int (nI x)), some (.int (nI y))]) (st' := [.int (nI 1), .ref d]) d_98_31 (fun _ => rfl) ?_
          refine cr_nx (pc' := 33) (al' := [some (.ref d), some (.ref a), some (.int (nI 1)), some (.int (nI x)), some (.int (nI y))]) (st' := [.int (nI x), .int (nI 1), .ref d]) d_98_32 (fun _ => rfl) ?_
          refine cr_nx (pc' := 35) (al' := [some (.ref d), some (.ref a), some (.int (nI 1)), some (.int (nI x)), some (.int (nI y))]) (st' := [.int (nI y), .int (nI x), .int (nI 1), .ref d]) d_98_33 (fun _ => rfl) ?_
          refine cr_nx (pc' := 36) (al' := [some (.ref d), some (.ref a), some (.int (nI 1)), some (.int (nI x)), some (.int (nI y))]) (st' := [.ref a, .int (nI y), .int (nI x), .int (nI 1), .ref d]) d_98_35 (fun _ => rfl) ?_
          refine cr_nx (pc' := 37) (al' := [some (.ref d), some (.ref a), some (.int (nI 1)), some (.int (nI x)), some (.int (nI y))]) (st' := [.int (nI x), .ref a, .int (nI y), .int (nI x), .int (nI 1), .ref d]) d_98_36 (fun _ => rfl) ?_
          refine cr_nx (pc' := 39) (al' := [some (.ref d), some (.ref a), some (.int (nI 1)), some (.int (nI x)), some (.int (nI y))]) (st' := [.int (nI y), .int (nI x), .ref a, .int (nI y), .int (nI x), .int (nI 1), .ref d]) d_98_37 (fun _ => rfl) ?_
          refine cr_pv (b := a) (as := [.int (nI x), .int (nI y)]) (al0 := [some (.ref a), some (.int (nI x)), some (.int (nI y))]) (r := [.int (nI y), .int (nI x), .int (nI 1), .ref d]) d_98_39 cw_98 cm_10_23 cz_91 rfl rfl ht.1 (by rw [cw_91]; exact ht.2.2.1) (by rw [cw_91]; decide) rfl (Nat.le_of_ble_eq_true rfl) (k_times ht' hn' (TabC.up hne hc) (by omega) (by omega)) ?_
          show CR _ _ 42 [some (.ref d), some (.ref a), some (.int (nI 1)), some (.int (nI x)), some (.int (nI y))] [.int (nI (c (n * x + y))), .int (nI y), .int (nI x), .int (nI 1), .ref d] S (up2 G d 0 (.int (nI n))) (upr B (d + 1) w_) J R _
          have b39 : c (n * x + y) < n := (hc.2 _ (cu_lt (by omega) (by omega))).2
          refine cr_pv (b := d) (as := [.int (nI 1), .int (nI x), .int (nI y), .int (nI (c (n * x + y)))]) (al0 := [some (.ref d), some (.int (nI 1)), some (.int (nI x)), some (.int (nI y)), some (.int (nI (c (n * x + y))))]) (r := []) d_98_42 cw_98 cm_10_45 cz_99 rfl rfl hd.1 (by rw [cw_99]; exact hd.2.2.1) (by rw [cw_99]; decide) rfl (Nat.le_of_ble_eq_true rfl) (k_putConjugate1 (w_ := w_) hd' hdn' hn6 (by omega) (by omega) (by omega) upr_s) ?_
          rw [upr_u]
          show CR _ _ 45 [some (.ref d), some (.ref a), some (.int (nI 1)), some (.int (nI x)), some (.int (nI y))] [] S (up2 G d 0 (.int (nI n))) (upr B (d + 1) (upd w_ (cjI 1 n x y (c (n * x + y))) (nI (cjV 1 x y (c (n * x + y)))))) J R _
          refine cn_inc d_98_45 rfl rfl ?_
          show CR _ _ 48 [some (.ref d), some (.ref a), some (.int (nI 1)), some (.int (nI x)), some (.int (nI (y + 1)))] [] S (up2 G d 0 (.int (nI n))) (upr B (d + 1) (upd w_ (cjI 1 n x y (c (n * x + y))) (nI (cjV 1 x y (c (n * x + y)))))) J R _
          refine cr_nx (pc' := 21) (al' := [some (.ref d), some (.ref a), some (.int (nI 1)), some (.int (nI x)), some (.int (nI (y + 1)))]) (st' := []) d_98_48 (fun _ => rfl) ?_
          exact ihy (upd w_ (cjI 1 n x y (c (n * x + y))) (nI (cjV 1 x y (c (n * x + y))))) (sc_in py rfl (congrArg nI (cj_at (w := 1) hl hx hy).symm))
      · show CR _ _ 21 [some (.ref d), some (.ref a), some (.int (nI 1)), some (.int (nI x)), some (.int (nI n))] [] S (up2 G d 0 (.int (nI n))) (upr B (d + 1) w_) J R _
        refine cr_nx (pc' := 23) (al' := [some (.ref d), some (.ref a), some (.int (nI 1)), some (.int (nI x)), some (.int (nI n))]) (st' := [.int (nI n)]) d_98_21 (fun _ => rfl) ?_
        refine cr_nx (pc' := 24) (al' := [some (.ref d), some (.ref a), some (.int (nI 1)), some (.int (nI x)), some (.int (nI n))]) (st' := [.ref d, .int (nI n)]) d_98_23 (fun _ => rfl) ?_
        refine cr_gf (v := .int (nI n)) d_98_24 cw_98 cf_10_15 hd.1 hd.2.2.1 (by decide) (by simp [up2, hne]) ?_
        refine cn_cge (t := 51) d_98_27 (by decide) (by first | omega | assumption | exact cu_36 (by omega) (cu_lt (by omega) (by omega))) (by first | omega | assumption | exact cu_36 (by omega) (cu_lt (by omega) (by omega))) (fun c27 => ?_) (fun c27 => ?_)
        · refine cn_inc d_98_51 rfl rfl ?_
          show CR _ _ 54 [some (.ref d), some (.ref a), some (.int (nI 1)), some (.int (nI (x + 1))), some (.int (nI n))] [] S (up2 G d 0 (.int (nI n))) (upr B (d + 1) w_) J R _
          refine cr_nx (pc' := 10) (al' := [some (.ref d), some (.ref a), some (.int (nI 1)), some (.int (nI (x + 1))), some (.int (nI n))]) (st' := []) d_98_54 (fun _ => rfl) ?_
          refine cr_dr (al1 := [some (.ref d), some (.ref a), some (.int (nI 1)), some (.int (nI (x + 1))), none]) (le_s (le_s (le_s (le_s (le_d rfl (le_n)))))) ?_
          exact ihx w_ (sc_out py)
        · omega
  · show CR _ _ 10 [some (.ref d), some (.ref a), some (.int (nI 1)), some (.int (nI n)), none] [] S (up2 G d 0 (.int (nI n))) (upr B (d + 1) w_) J R _
    refine cr_nx (pc' := 11) (al' := [some (.ref d), some (.ref a), some (.int (nI 1)), some (.int (nI n)), none]) (st' := [.int (nI n)]) d_98_10 (fun _ => rfl) ?_
    refine cr_nx (pc' := 12) (al' := [some (.ref d), some (.ref a), some (.int (nI 1)), some (.int (nI n)), none]) (st' := [.ref d, .int (nI n)]) d_98_11 (fun _ => rfl) ?_
    refine cr_gf (v := .int (nI n)) d_98_12 cw_98 cf_10_15 hd.1 hd.2.2.1 (by decide) (by simp [up2, hne]) ?_
    refine cn_cge (t := 57) d_98_15 (by decide) (by first | omega | assumption | exact cu_36 (by omega) (cu_lt (by omega) (by omega))) (by first | omega | assumption | exact cu_36 (by omega) (cu_lt (by omega) (by omega))) (fun c15 => ?_) (fun c15 => ?_)
    · exact cr_rv d_98_57 cx_98 ⟨rfl, rfl, rfl, rfl, rfl, w_, rfl, sc_all px (fun q hq => cj_on hl hq)⟩
    · omega
theorem k_makeConjugate2 {S : CS} {G : Nat → Nat → Value} {B : Nat → Nat → Int32} {J : Nat → Nat → Int64} {R : Nat → Nat → Option Nat} {a d n : Nat} (ht : TabAt S G a) (hn : G a 0 = .int (nI n)) {c : Nat → Nat} (hc : TabC B a n c) (hd : TabAt S G d) (hne : a ≠ d) (hl : Lat n c) : CR 2 98 0 [some (.ref d), some (.ref a), some (.int (nI 2)), none, none] [] S G B J R (mkC d S G B J R n (cjN 2 n c)) := by
  have hn6 := hc.1
  have ht' : TabAt S (up2 G d 0 (.int (nI n))) a := ht.up
  have hd' : TabAt S (up2 G d 0 (.int (nI n))) d := hd.up
  have hn' : up2 G d 0 (.int (nI n)) a 0 = .int (nI n) := up2_0 hne hn
  have hdn' : up2 G d 0 (.int (nI n)) d 0 = .int (nI n) := up2_s
  refine cr_nx (pc' := 1) (al' := [some (.ref d), some (.ref a), some (.int (nI 2)), none, none]) (st' := [.ref d]) d_98_0 (fun _ => rfl) ?_
  refine cr_nx (pc' := 2) (al' := [some (.ref d), some (.ref a), some (.int (nI 2)), none, none]) (st' := [.ref a, .ref d]) d_98_1 (fun _ => rfl) ?_
  refine cr_gf (v := .int (nI n)) d_98_2 cw_98 cf_10_15 ht.1 ht.2.2.1 (by decide) hn ?_
  refine cp_10_0  d_98_5 cw_98 cf_10_15 hd.1 hd.2.2.1 (by decide) ?_
  refine cn_ic (v := 0) d_98_8 (by decide) ?_
  refine cr_nx (pc' := 10) (al' := [some (.ref d), some (.ref a), some (.int (nI 2)), some (.int (nI 0)), none]) (st' := []) d_98_9 (fun _ => rfl) ?_
  refine cr_B (show B = (upr B (d + 1) (B (d + 1))) by rw [upr_id]) ?_
  refine cr_upw (al := fun x w_ => [some (.ref d), some (.ref a), some (.int (nI 2)), some (.int (nI x)), none]) (S := fun x w_ => S) (G := fun x w_ => (up2 G d 0 (.int (nI n)))) (B := fun x w_ => (upr B (d + 1) w_)) (J := fun x w_ => J) (R := fun x w_ => R) (P := fun x w_ => ScP (fun q => nI (cjN 2 n c q)) (fun x y => cjI 2 n x y (c (n * x + y))) n x 0 w_) (n := n) (fun x w_ hx px ihx => ?_) (fun w_ px => ?_) 0 (B (d + 1)) (by omega) (sc_0)
  · show CR _ _ 10 [some (.ref d), some (.ref a), some (.int (nI 2)), some (.int (nI x)), none] [] S (up2 G d 0 (.int (nI n))) (upr B (d + 1) w_) J R _
    refine cr_nx (pc' := 11) (al' := [some (.ref d), some (.ref a), some (.int (nI 2)), some (.int (nI x)), none]) (st' := [.int (nI x)]) d_98_10 (fun _ => rfl) ?_
    refine cr_nx (pc' := 12) (al' := [some (.ref d), some (.ref a), some (.int (nI 2)), some (.int (nI x)), none]) (st' := [.ref d, .int (nI x)]) d_98_11 (fun _ => rfl) ?_
    refine cr_gf (v := .int (nI n)) d_98_12 cw_98 cf_10_15 hd.1 hd.2.2.1 (by decide) (by simp [up2, hne]) ?_
    refine cn_cge (t := 57) d_98_15 (by decide) (by first | omega | assumption | exact cu_36 (by omega) (cu_lt (by omega) (by omega))) (by first | omega | assumption | exact cu_36 (by omega) (cu_lt (by omega) (by omega))) (fun c15 => ?_) (fun c15 => ?_)
    · omega
    · refine cn_ic (v := 0) d_98_18 (by decide) ?_
      refine cr_nx (pc' := 21) (al' := [some (.ref d), some (.ref a), some (.int (nI 2)), some (.int (nI x)), some (.int (nI 0))]) (st' := []) d_98_19 (fun _ => rfl) ?_
      refine cr_upw (al := fun y w_ => [some (.ref d), some (.ref a), some (.int (nI 2)), some (.int (nI x)), some (.int (nI y))]) (S := fun y w_ => S) (G := fun y w_ => (up2 G d 0 (.int (nI n)))) (B := fun y w_ => (upr B (d + 1) w_)) (J := fun y w_ => J) (R := fun y w_ => R) (P := fun y w_ => ScP (fun q => nI (cjN 2 n c q)) (fun x y => cjI 2 n x y (c (n * x + y))) n x y w_) (n := n) (fun y w_ hy py ihy => ?_) (fun w_ py => ?_) 0 w_ (by omega) (px)
      · show CR _ _ 21 [some (.ref d), some (.ref a), some (.int (nI 2)), some (.int (nI x)), some (.int (nI y))] [] S (up2 G d 0 (.int (nI n))) (upr B (d + 1) w_) J R _
        refine cr_nx (pc' := 23) (al' := [some (.ref d), some (.ref a), some (.int (nI 2)), some (.int (nI x)), some (.int (nI y))]) (st' := [.int (nI y)]) d_98_21 (fun _ => rfl) ?_
        refine cr_nx (pc' := 24) (al' := [some (.ref d), some (.ref a), some (.int (nI 2)), some (.int (nI x)), some (.int (nI y))]) (st' := [.ref d, .int (nI y)]) d_98_23 (fun _ => rfl) ?_
        refine cr_gf (v := .int (nI n)) d_98_24 cw_98 cf_10_15 hd.1 hd.2.2.1 (by decide) (by simp [up2, hne]) ?_
        refine cn_cge (t := 51) d_98_27 (by decide) (by first | omega | assumption | exact cu_36 (by omega) (cu_lt (by omega) (by omega))) (by first | omega | assumption | exact cu_36 (by omega) (cu_lt (by omega) (by omega))) (fun c27 => ?_) (fun c27 => ?_)
        · omega
        · refine cr_nx (pc' := 31) (al' := [some (.ref d), some (.ref a), some (.int (nI 2)), some (.int (nI x)), some (.int (nI y))]) (st' := [.ref d]) d_98_30 (fun _ => rfl) ?_
          refine cr_nx (pc' := 32) (al' := [some (.ref d), some (.ref a), some (.int (nI 2)), some (.int (nI x)), some (.int (nI y))]) (st' := [.int (nI 2), .ref d]) d_98_31 (fun _ => rfl) ?_
          refine cr_nx (pc' := 33) (al' := [some (.ref d), some (.ref a), some (.int (nI 2)), some (.int (nI x)), some (.int (nI y))]) (st' := [.int (nI x), .int (nI 2), .ref d]) d_98_32 (fun _ => rfl) ?_
          refine cr_nx (pc' := 35) (al' := [some (.ref d), some (.ref a), some (.int (nI 2)), some (.int (nI x)), some (.int (nI y))]) (st' := [.int (nI y), .int (nI x), .int (nI 2), .ref d]) d_98_33 (fun _ => rfl) ?_
          refine cr_nx (pc' := 36) (al' := [some (.ref d), some (.ref a), some (.int (nI 2)), some (.int (nI x)), some (.int (nI y))]) (st' := [.ref a, .int (nI y), .int (nI x), .int (nI 2), .ref d]) d_98_35 (fun _ => rfl) ?_
          refine cr_nx (pc' := 37) (al' := [some (.ref d), some (.ref a), some (.int (nI 2)), some (.int (nI x)), some (.int (nI y))]) (st' := [.int (nI x), .ref a, .int (nI y), .int (nI x), .int (nI 2), .ref d]) d_98_36 (fun _ => rfl) ?_
          refine cr_nx (pc' := 39) (al' := [some (.ref d), some (.ref a), some (.int (nI 2)), some (.int (nI x)), some (.int (nI y))]) (st' := [.int (nI y), .int (nI x), .ref a, .int (nI y), .int (nI x), .int (nI 2), .ref d]) d_98_37 (fun _ => rfl) ?_
          refine cr_pv (b := a) (as := [.int (nI x), .int (nI y)]) (al0 := [some (.ref a), some (.int (nI x)), some (.int (nI y))]) (r := [.int (nI y), .int (nI x), .int (nI 2), .ref d]) d_98_39 cw_98 cm_10_23 cz_91 rfl rfl ht.1 (by rw [cw_91]; exact ht.2.2.1) (by rw [cw_91]; decide) rfl (Nat.le_of_ble_eq_true rfl) (k_times ht' hn' (TabC.up hne hc) (by omega) (by omega)) ?_
          show CR _ _ 42 [some (.ref d), some (.ref a), some (.int (nI 2)), some (.int (nI x)), some (.int (nI y))] [.int (nI (c (n * x + y))), .int (nI y), .int (nI x), .int (nI 2), .ref d] S (up2 G d 0 (.int (nI n))) (upr B (d + 1) w_) J R _
          have b39 : c (n * x + y) < n := (hc.2 _ (cu_lt (by omega) (by omega))).2
          refine cr_pv (b := d) (as := [.int (nI 2), .int (nI x), .int (nI y), .int (nI (c (n * x + y)))]) (al0 := [some (.ref d), some (.int (nI 2)), some (.int (nI x)), some (.int (nI y)), some (.int (nI (c (n * x + y))))]) (r := []) d_98_42 cw_98 cm_10_45 cz_99 rfl rfl hd.1 (by rw [cw_99]; exact hd.2.2.1) (by rw [cw_99]; decide) rfl (Nat.le_of_ble_eq_true rfl) (k_putConjugate2 (w_ := w_) hd' hdn' hn6 (by omega) (by omega) (by omega) upr_s) ?_
          rw [upr_u]
          show CR _ _ 45 [some (.ref d), some (.ref a), some (.int (nI 2)), some (.int (nI x)), some (.int (nI y))] [] S (up2 G d 0 (.int (nI n))) (upr B (d + 1) (upd w_ (cjI 2 n x y (c (n * x + y))) (nI (cjV 2 x y (c (n * x + y)))))) J R _
          refine cn_inc d_98_45 rfl rfl ?_
          show CR _ _ 48 [some (.ref d), some (.ref a), some (.int (nI 2)), some (.int (nI x)), some (.int (nI (y + 1)))] [] S (up2 G d 0 (.int (nI n))) (upr B (d + 1) (upd w_ (cjI 2 n x y (c (n * x + y))) (nI (cjV 2 x y (c (n * x + y)))))) J R _
          refine cr_nx (pc' := 21) (al' := [some (.ref d), some (.ref a), some (.int (nI 2)), some (.int (nI x)), some (.int (nI (y + 1)))]) (st' := []) d_98_48 (fun _ => rfl) ?_
          exact ihy (upd w_ (cjI 2 n x y (c (n * x + y))) (nI (cjV 2 x y (c (n * x + y))))) (sc_in py rfl (congrArg nI (cj_at (w := 2) hl hx hy).symm))
      · show CR _ _ 21 [some (.ref d), some (.ref a), some (.int (nI 2)), some (.int (nI x)), some (.int (nI n))] [] S (up2 G d 0 (.int (nI n))) (upr B (d + 1) w_) J R _
        refine cr_nx (pc' := 23) (al' := [some (.ref d), some (.ref a), some (.int (nI 2)), some (.int (nI x)), some (.int (nI n))]) (st' := [.int (nI n)]) d_98_21 (fun _ => rfl) ?_
        refine cr_nx (pc' := 24) (al' := [some (.ref d), some (.ref a), some (.int (nI 2)), some (.int (nI x)), some (.int (nI n))]) (st' := [.ref d, .int (nI n)]) d_98_23 (fun _ => rfl) ?_
        refine cr_gf (v := .int (nI n)) d_98_24 cw_98 cf_10_15 hd.1 hd.2.2.1 (by decide) (by simp [up2, hne]) ?_
        refine cn_cge (t := 51) d_98_27 (by decide) (by first | omega | assumption | exact cu_36 (by omega) (cu_lt (by omega) (by omega))) (by first | omega | assumption | exact cu_36 (by omega) (cu_lt (by omega) (by omega))) (fun c27 => ?_) (fun c27 => ?_)
        · refine cn_inc d_98_51 rfl rfl ?_
          show CR _ _ 54 [some (.ref d), some (.ref a), some (.int (nI 2)), some (.int (nI (x + 1))), some (.int (nI n))] [] S (up2 G d 0 (.int (nI n))) (upr B (d + 1) w_) J R _
          refine cr_nx (pc' := 10) (al' := [some (.ref d), some (.ref a), some (.int (nI 2)), some (.int (nI (x + 1))), some (.int (nI n))]) (st' := []) d_98_54 (fun _ => rfl) ?_
          refine cr_dr (al1 := [some (.ref d), some (.ref a), some (.int (nI 2)), some (.int (nI (x + 1))), none]) (le_s (le_s (le_s (le_s (le_d rfl (le_n)))))) ?_
          exact ihx w_ (sc_out py)
        · omega
  · show CR _ _ 10 [some (.ref d), some (.ref a), some (.int (nI 2)), some (.int (nI n)), none] [] S (up2 G d 0 (.int (nI n))) (upr B (d + 1) w_) J R _
    refine cr_nx (pc' := 11) (al' := [some (.ref d), some (.ref a), some (.int (nI 2)), some (.int (nI n)), none]) (st' := [.int (nI n)]) d_98_10 (fun _ => rfl) ?_
    refine cr_nx (pc' := 12) (al' := [some (.ref d), some (.ref a), some (.int (nI 2)), some (.int (nI n)), none]) (st' := [.ref d, .int (nI n)]) d_98_11 (fun _ => rfl) ?_
    refine cr_gf (v := .int (nI n)) d_98_12 cw_98 cf_10_15 hd.1 hd.2.2.1 (by decide) (by simp [up2, hne]) ?_
    refine cn_cge (t := 57) d_98_15 (by decide) (by first | omega | assumption | exact cu_36 (by omega) (cu_lt (by omega) (by omega))) (by first | omega | assumption | exact cu_36 (by omega) (cu_lt (by omega) (by omega))) (fun c15 => ?_) (fun c15 => ?_)
    · exact cr_rv d_98_57 cx_98 ⟨rfl, rfl, rfl, rfl, rfl, w_, rfl, sc_all px (fun q hq => cj_on hl hq)⟩
    · omega
theorem k_makeConjugate3 {S : CS} {G : Nat → Nat → Value} {B : Nat → Nat → Int32} {J : Nat → Nat → Int64} {R : Nat → Nat → Option Nat} {a d n : Nat} (ht : TabAt S G a) (hn : G a 0 = .int (nI n)) {c : Nat → Nat} (hc : TabC B a n c) (hd : TabAt S G d) (hne : a ≠ d) (hl : Lat n c) : CR 2 98 0 [some (.ref d), some (.ref a), some (.int (nI 3)), none, none] [] S G B J R (mkC d S G B J R n (cjN 3 n c)) := by
  have hn6 := hc.1
  have ht' : TabAt S (up2 G d 0 (.int (nI n))) a := ht.up
  have hd' : TabAt S (up2 G d 0 (.int (nI n))) d := hd.up
  have hn' : up2 G d 0 (.int (nI n)) a 0 = .int (nI n) := up2_0 hne hn
  have hdn' : up2 G d 0 (.int (nI n)) d 0 = .int (nI n) := up2_s
  refine cr_nx (pc' := 1) (al' := [some (.ref d), some (.ref a), some (.int (nI 3)), none, none]) (st' := [.ref d]) d_98_0 (fun _ => rfl) ?_
  refine cr_nx (pc' := 2) (al' := [some (.ref d), some (.ref a), some (.int (nI 3)), none, none]) (st' := [.ref a, .ref d]) d_98_1 (fun _ => rfl) ?_
  refine cr_gf (v := .int (nI n)) d_98_2 cw_98 cf_10_15 ht.1 ht.2.2.1 (by decide) hn ?_
  refine cp_10_0  d_98_5 cw_98 cf_10_15 hd.1 hd.2.2.1 (by decide) ?_
  refine cn_ic (v := 0) d_98_8 (by decide) ?_
  refine cr_nx (pc' := 10) (al' := [some (.ref d), some (.ref a), some (.int (nI 3)), some (.int (nI 0)), none]) (st' := []) d_98_9 (fun _ => rfl) ?_
  refine cr_B (show B = (upr B (d + 1) (B (d + 1))) by rw [upr_id]) ?_
  refine cr_upw (al := fun x w_ => [some (.ref d), some (.ref a), some (.int (nI 3)), some (.int (nI x)), none]) (S := fun x w_ => S) (G := fun x w_ => (up2 G d 0 (.int (nI n)))) (B := fun x w_ => (upr B (d + 1) w_)) (J := fun x w_ => J) (R := fun x w_ => R) (P := fun x w_ => ScP (fun q => nI (cjN 3 n c q)) (fun x y => cjI 3 n x y (c (n * x + y))) n x 0 w_) (n := n) (fun x w_ hx px ihx => ?_) (fun w_ px => ?_) 0 (B (d + 1)) (by omega) (sc_0)
  · show CR _ _ 10 [some (.ref d), some (.ref a), some (.int (nI 3)), some (.int (nI x)), none] [] S (up2 G d 0 (.int (nI n))) (upr B (d + 1) w_) J R _
    refine cr_nx (pc' := 11) (al' := [some (.ref d), some (.ref a), some (.int (nI 3)), some (.int (nI x)), none]) (st' := [.int (nI x)]) d_98_10 (fun _ => rfl) ?_
    refine cr_nx (pc' := 12) (al' := [some (.ref d), some (.ref a), some (.int (nI 3)), some (.int (nI x)), none]) (st' := [.ref d, .int (nI x)]) d_98_11 (fun _ => rfl) ?_
    refine cr_gf (v := .int (nI n)) d_98_12 cw_98 cf_10_15 hd.1 hd.2.2.1 (by decide) (by simp [up2, hne]) ?_
    refine cn_cge (t := 57) d_98_15 (by decide) (by first | omega | assumption | exact cu_36 (by omega) (cu_lt (by omega) (by omega))) (by first | omega | assumption | exact cu_36 (by omega) (cu_lt (by omega) (by omega))) (fun c15 => ?_) (fun c15 => ?_)
    · omega
    · refine cn_ic (v := 0) d_98_18 (by decide) ?_
      refine cr_nx (pc' := 21) (al' := [some (.ref d), some (.ref a), some (.int (nI 3)), some (.int (nI x)), some (.int (nI 0))]) (st' := []) d_98_19 (fun _ => rfl) ?_
      refine cr_upw (al := fun y w_ => [some (.ref d), some (.ref a), some (.int (nI 3)), some (.int (nI x)), some (.int (nI y))]) (S := fun y w_ => S) (G := fun y w_ => (up2 G d 0 (.int (nI n)))) (B := fun y w_ => (upr B (d + 1) w_)) (J := fun y w_ => J) (R := fun y w_ => R) (P := fun y w_ => ScP (fun q => nI (cjN 3 n c q)) (fun x y => cjI 3 n x y (c (n * x + y))) n x y w_) (n := n) (fun y w_ hy py ihy => ?_) (fun w_ py => ?_) 0 w_ (by omega) (px)
      · show CR _ _ 21 [some (.ref d), some (.ref a), some (.int (nI 3)), some (.int (nI x)), some (.int (nI y))] [] S (up2 G d 0 (.int (nI n))) (upr B (d + 1) w_) J R _
        refine cr_nx (pc' := 23) (al' := [some (.ref d), some (.ref a), some (.int (nI 3)), some (.int (nI x)), some (.int (nI y))]) (st' := [.int (nI y)]) d_98_21 (fun _ => rfl) ?_
        refine cr_nx (pc' := 24) (al' := [some (.ref d), some (.ref a), some (.int (nI 3)), some (.int (nI x)), some (.int (nI y))]) (st' := [.ref d, .int (nI y)]) d_98_23 (fun _ => rfl) ?_
        refine cr_gf (v := .int (nI n)) d_98_24 cw_98 cf_10_15 hd.1 hd.2.2.1 (by decide) (by simp [up2, hne]) ?_
        refine cn_cge (t := 51) d_98_27 (by decide) (by first | omega | assumption | exact cu_36 (by omega) (cu_lt (by omega) (by omega))) (by first | omega | assumption | exact cu_36 (by omega) (cu_lt (by omega) (by omega))) (fun c27 => ?_) (fun c27 => ?_)
        · omega
        · refine cr_nx (pc' := 31) (al' := [some (.ref d), some (.ref a), some (.int (nI 3)), some (.int (nI x)), some (.int (nI y))]) (st' := [.ref d]) d_98_30 (fun _ => rfl) ?_
          refine cr_nx (pc' := 32) (al' := [some (.ref d), some (.ref a), some (.int (nI 3)), some (.int (nI x)), some (.int (nI y))]) (st' := [.int (nI 3), .ref d]) d_98_31 (fun _ => rfl) ?_
          refine cr_nx (pc' := 33) (al' := [some (.ref d), some (.ref a), some (.int (nI 3)), some (.int (nI x)), some (.int (nI y))]) (st' := [.int (nI x), .int (nI 3), .ref d]) d_98_32 (fun _ => rfl) ?_
          refine cr_nx (pc' := 35) (al' := [some (.ref d), some (.ref a), some (.int (nI 3)), some (.int (nI x)), some (.int (nI y))]) (st' := [.int (nI y), .int (nI x), .int (nI 3), .ref d]) d_98_33 (fun _ => rfl) ?_
          refine cr_nx (pc' := 36) (al' := [some (.ref d), some (.ref a), some (.int (nI 3)), some (.int (nI x)), some (.int (nI y))]) (st' := [.ref a, .int (nI y), .int (nI x), .int (nI 3), .ref d]) d_98_35 (fun _ => rfl) ?_
          refine cr_nx (pc' := 37) (al' := [some (.ref d), some (.ref a), some (.int (nI 3)), some (.int (nI x)), some (.int (nI y))]) (st' := [.int (nI x), .ref a, .int (nI y), .int (nI x), .int (nI 3), .ref d]) d_98_36 (fun _ => rfl) ?_
          refine cr_nx (pc' := 39) (al' := [some (.ref d), some (.ref a), some (.int (nI 3)), some (.int (nI x)), some (.int (nI y))]) (st' := [.int (nI y), .int (nI x), .ref a, .int (nI y), .int (nI x), .int (nI 3), .ref d]) d_98_37 (fun _ => rfl) ?_
          refine cr_pv (b := a) (as := [.int (nI x), .int (nI y)]) (al0 := [some (.ref a), some (.int (nI x)), some (.int (nI y))]) (r := [.int (nI y), .int (nI x), .int (nI 3), .ref d]) d_98_39 cw_98 cm_10_23 cz_91 rfl rfl ht.1 (by rw [cw_91]; exact ht.2.2.1) (by rw [cw_91]; decide) rfl (Nat.le_of_ble_eq_true rfl) (k_times ht' hn' (TabC.up hne hc) (by omega) (by omega)) ?_
          show CR _ _ 42 [some (.ref d), some (.ref a), some (.int (nI 3)), some (.int (nI x)), some (.int (nI y))] [.int (nI (c (n * x + y))), .int (nI y), .int (nI x), .int (nI 3), .ref d] S (up2 G d 0 (.int (nI n))) (upr B (d + 1) w_) J R _
          have b39 : c (n * x + y) < n := (hc.2 _ (cu_lt (by omega) (by omega))).2
          refine cr_pv (b := d) (as := [.int (nI 3), .int (nI x), .int (nI y), .int (nI (c (n * x + y)))]) (al0 := [some (.ref d), some (.int (nI 3)), some (.int (nI x)), some (.int (nI y)), some (.int (nI (c (n * x + y))))]) (r := []) d_98_42 cw_98 cm_10_45 cz_99 rfl rfl hd.1 (by rw [cw_99]; exact hd.2.2.1) (by rw [cw_99]; decide) rfl (Nat.le_of_ble_eq_true rfl) (k_putConjugate3 (w_ := w_) hd' hdn' hn6 (by omega) (by omega) (by omega) upr_s) ?_
          rw [upr_u]
          show CR _ _ 45 [some (.ref d), some (.ref a), some (.int (nI 3)), some (.int (nI x)), some (.int (nI y))] [] S (up2 G d 0 (.int (nI n))) (upr B (d + 1) (upd w_ (cjI 3 n x y (c (n * x + y))) (nI (cjV 3 x y (c (n * x + y)))))) J R _
          refine cn_inc d_98_45 rfl rfl ?_
          show CR _ _ 48 [some (.ref d), some (.ref a), some (.int (nI 3)), some (.int (nI x)), some (.int (nI (y + 1)))] [] S (up2 G d 0 (.int (nI n))) (upr B (d + 1) (upd w_ (cjI 3 n x y (c (n * x + y))) (nI (cjV 3 x y (c (n * x + y)))))) J R _
          refine cr_nx (pc' := 21) (al' := [some (.ref d), some (.ref a), some (.int (nI 3)), some (.int (nI x)), some (.int (nI (y + 1)))]) (st' := []) d_98_48 (fun _ => rfl) ?_
          exact ihy (upd w_ (cjI 3 n x y (c (n * x + y))) (nI (cjV 3 x y (c (n * x + y))))) (sc_in py rfl (congrArg nI (cj_at (w := 3) hl hx hy).symm))
      · show CR _ _ 21 [some (.ref d), some (.ref a), some (.int (nI 3)), some (.int (nI x)), some (.int (nI n))] [] S (up2 G d 0 (.int (nI n))) (upr B (d + 1) w_) J R _
        refine cr_nx (pc' := 23) (al' := [some (.ref d), some (.ref a), some (.int (nI 3)), some (.int (nI x)), some (.int (nI n))]) (st' := [.int (nI n)]) d_98_21 (fun _ => rfl) ?_
        refine cr_nx (pc' := 24) (al' := [some (.ref d), some (.ref a), some (.int (nI 3)), some (.int (nI x)), some (.int (nI n))]) (st' := [.ref d, .int (nI n)]) d_98_23 (fun _ => rfl) ?_
        refine cr_gf (v := .int (nI n)) d_98_24 cw_98 cf_10_15 hd.1 hd.2.2.1 (by decide) (by simp [up2, hne]) ?_
        refine cn_cge (t := 51) d_98_27 (by decide) (by first | omega | assumption | exact cu_36 (by omega) (cu_lt (by omega) (by omega))) (by first | omega | assumption | exact cu_36 (by omega) (cu_lt (by omega) (by omega))) (fun c27 => ?_) (fun c27 => ?_)
        · refine cn_inc d_98_51 rfl rfl ?_
          show CR _ _ 54 [some (.ref d), some (.ref a), some (.int (nI 3)), some (.int (nI (x + 1))), some (.int (nI n))] [] S (up2 G d 0 (.int (nI n))) (upr B (d + 1) w_) J R _
          refine cr_nx (pc' := 10) (al' := [some (.ref d), some (.ref a), some (.int (nI 3)), some (.int (nI (x + 1))), some (.int (nI n))]) (st' := []) d_98_54 (fun _ => rfl) ?_
          refine cr_dr (al1 := [some (.ref d), some (.ref a), some (.int (nI 3)), some (.int (nI (x + 1))), none]) (le_s (le_s (le_s (le_s (le_d rfl (le_n)))))) ?_
          exact ihx w_ (sc_out py)
        · omega
  · show CR _ _ 10 [some (.ref d), some (.ref a), some (.int (nI 3)), some (.int (nI n)), none] [] S (up2 G d 0 (.int (nI n))) (upr B (d + 1) w_) J R _
    refine cr_nx (pc' := 11) (al' := [some (.ref d), some (.ref a), some (.int (nI 3)), some (.int (nI n)), none]) (st' := [.int (nI n)]) d_98_10 (fun _ => rfl) ?_
    refine cr_nx (pc' := 12) (al' := [some (.ref d), some (.ref a), some (.int (nI 3)), some (.int (nI n)), none]) (st' := [.ref d, .int (nI n)]) d_98_11 (fun _ => rfl) ?_
    refine cr_gf (v := .int (nI n)) d_98_12 cw_98 cf_10_15 hd.1 hd.2.2.1 (by decide) (by simp [up2, hne]) ?_
    refine cn_cge (t := 57) d_98_15 (by decide) (by first | omega | assumption | exact cu_36 (by omega) (cu_lt (by omega) (by omega))) (by first | omega | assumption | exact cu_36 (by omega) (cu_lt (by omega) (by omega))) (fun c15 => ?_) (fun c15 => ?_)
    · exact cr_rv d_98_57 cx_98 ⟨rfl, rfl, rfl, rfl, rfl, w_, rfl, sc_all px (fun q hq => cj_on hl hq)⟩
    · omega
theorem k_makeConjugate4 {S : CS} {G : Nat → Nat → Value} {B : Nat → Nat → Int32} {J : Nat → Nat → Int64} {R : Nat → Nat → Option Nat} {a d n : Nat} (ht : TabAt S G a) (hn : G a 0 = .int (nI n)) {c : Nat → Nat} (hc : TabC B a n c) (hd : TabAt S G d) (hne : a ≠ d) (hl : Lat n c) : CR 2 98 0 [some (.ref d), some (.ref a), some (.int (nI 4)), none, none] [] S G B J R (mkC d S G B J R n (cjN 4 n c)) := by
  have hn6 := hc.1
  have ht' : TabAt S (up2 G d 0 (.int (nI n))) a := ht.up
  have hd' : TabAt S (up2 G d 0 (.int (nI n))) d := hd.up
  have hn' : up2 G d 0 (.int (nI n)) a 0 = .int (nI n) := up2_0 hne hn
  have hdn' : up2 G d 0 (.int (nI n)) d 0 = .int (nI n) := up2_s
  refine cr_nx (pc' := 1) (al' := [some (.ref d), some (.ref a), some (.int (nI 4)), none, none]) (st' := [.ref d]) d_98_0 (fun _ => rfl) ?_
  refine cr_nx (pc' := 2) (al' := [some (.ref d), some (.ref a), some (.int (nI 4)), none, none]) (st' := [.ref a, .ref d]) d_98_1 (fun _ => rfl) ?_
  refine cr_gf (v := .int (nI n)) d_98_2 cw_98 cf_10_15 ht.1 ht.2.2.1 (by decide) hn ?_
  refine cp_10_0  d_98_5 cw_98 cf_10_15 hd.1 hd.2.2.1 (by decide) ?_
  refine cn_ic (v := 0) d_98_8 (by decide) ?_
  refine cr_nx (pc' := 10) (al' := [some (.ref d), some (.ref a), some (.int (nI 4)), some (.int (nI 0)), none]) (st' := []) d_98_9 (fun _ => rfl) ?_
  refine cr_B (show B = (upr B (d + 1) (B (d + 1))) by rw [upr_id]) ?_
  refine cr_upw (al := fun x w_ => [some (.ref d), some (.ref a), some (.int (nI 4)), some (.int (nI x)), none]) (S := fun x w_ => S) (G := fun x w_ => (up2 G d 0 (.int (nI n)))) (B := fun x w_ => (upr B (d + 1) w_)) (J := fun x w_ => J) (R := fun x w_ => R) (P := fun x w_ => ScP (fun q => nI (cjN 4 n c q)) (fun x y => cjI 4 n x y (c (n * x + y))) n x 0 w_) (n := n) (fun x w_ hx px ihx => ?_) (fun w_ px => ?_) 0 (B (d + 1)) (by omega) (sc_0)
  · show CR _ _ 10 [some (.ref d), some (.ref a), some (.int (nI 4)), some (.int (nI x)), none] [] S (up2 G d 0 (.int (nI n))) (upr B (d + 1) w_) J R _
    refine cr_nx (pc' := 11) (al' := [some (.ref d), some (.ref a), some (.int (nI 4)), some (.int (nI x)), none]) (st' := [.int (nI x)]) d_98_10 (fun _ => rfl) ?_
    refine cr_nx (pc' := 12) (al' := [some (.ref d), some (.ref a), some (.int (nI 4)), some (.int (nI x)), none]) (st' := [.ref d, .int (nI x)]) d_98_11 (fun _ => rfl) ?_
    refine cr_gf (v := .int (nI n)) d_98_12 cw_98 cf_10_15 hd.1 hd.2.2.1 (by decide) (by simp [up2, hne]) ?_
    refine cn_cge (t := 57) d_98_15 (by decide) (by first | omega | assumption | exact cu_36 (by omega) (cu_lt (by omega) (by omega))) (by first | omega | assumption | exact cu_36 (by omega) (cu_lt (by omega) (by omega))) (fun c15 => ?_) (fun c15 => ?_)
    · omega
    · refine cn_ic (v := 0) d_98_18 (by decide) ?_
      refine cr_nx (pc' := 21) (al' := [some (.ref d), some (.ref a), some (.int (nI 4)), some (.int (nI x)), some (.int (nI 0))]) (st' := []) d_98_19 (fun _ => rfl) ?_
      refine cr_upw (al := fun y w_ => [some (.ref d), some (.ref a), some (.int (nI 4)), some (.int (nI x)), some (.int (nI y))]) (S := fun y w_ => S) (G := fun y w_ => (up2 G d 0 (.int (nI n)))) (B := fun y w_ => (upr B (d + 1) w_)) (J := fun y w_ => J) (R := fun y w_ => R) (P := fun y w_ => ScP (fun q => nI (cjN 4 n c q)) (fun x y => cjI 4 n x y (c (n * x + y))) n x y w_) (n := n) (fun y w_ hy py ihy => ?_) (fun w_ py => ?_) 0 w_ (by omega) (px)
      · show CR _ _ 21 [some (.ref d), some (.ref a), some (.int (nI 4)), some (.int (nI x)), some (.int (nI y))] [] S (up2 G d 0 (.int (nI n))) (upr B (d + 1) w_) J R _
        refine cr_nx (pc' := 23) (al' := [some (.ref d), some (.ref a), some (.int (nI 4)), some (.int (nI x)), some (.int (nI y))]) (st' := [.int (nI y)]) d_98_21 (fun _ => rfl) ?_
        refine cr_nx (pc' := 24) (al' := [some (.ref d), some (.ref a), some (.int (nI 4)), some (.int (nI x)), some (.int (nI y))]) (st' := [.ref d, .int (nI y)]) d_98_23 (fun _ => rfl) ?_
        refine cr_gf (v := .int (nI n)) d_98_24 cw_98 cf_10_15 hd.1 hd.2.2.1 (by decide) (by simp [up2, hne]) ?_
        refine cn_cge (t := 51) d_98_27 (by decide) (by first | omega | assumption | exact cu_36 (by omega) (cu_lt (by omega) (by omega))) (by first | omega | assumption | exact cu_36 (by omega) (cu_lt (by omega) (by omega))) (fun c27 => ?_) (fun c27 => ?_)
        · omega
        · refine cr_nx (pc' := 31) (al' := [some (.ref d), some (.ref a), some (.int (nI 4)), some (.int (nI x)), some (.int (nI y))]) (st' := [.ref d]) d_98_30 (fun _ => rfl) ?_
          refine cr_nx (pc' := 32) (al' := [some (.ref d), some (.ref a), some (.int (nI 4)), some (.int (nI x)), some (.int (nI y))]) (st' := [.int (nI 4), .ref d]) d_98_31 (fun _ => rfl) ?_
          refine cr_nx (pc' := 33) (al' := [some (.ref d), some (.ref a), some (.int (nI 4)), some (.int (nI x)), some (.int (nI y))]) (st' := [.int (nI x), .int (nI 4), .ref d]) d_98_32 (fun _ => rfl) ?_
          refine cr_nx (pc' := 35) (al' := [some (.ref d), some (.ref a), some (.int (nI 4)), some (.int (nI x)), some (.int (nI y))]) (st' := [.int (nI y), .int (nI x), .int (nI 4), .ref d]) d_98_33 (fun _ => rfl) ?_
          refine cr_nx (pc' := 36) (al' := [some (.ref d), some (.ref a), some (.int (nI 4)), some (.int (nI x)), some (.int (nI y))]) (st' := [.ref a, .int (nI y), .int (nI x), .int (nI 4), .ref d]) d_98_35 (fun _ => rfl) ?_
          refine cr_nx (pc' := 37) (al' := [some (.ref d), some (.ref a), some (.int (nI 4)), some (.int (nI x)), some (.int (nI y))]) (st' := [.int (nI x), .ref a, .int (nI y), .int (nI x), .int (nI 4), .ref d]) d_98_36 (fun _ => rfl) ?_
          refine cr_nx (pc' := 39) (al' := [some (.ref d), some (.ref a), some (.int (nI 4)), some (.int (nI x)), some (.int (nI y))]) (st' := [.int (nI y), .int (nI x), .ref a, .int (nI y), .int (nI x), .int (nI 4), .ref d]) d_98_37 (fun _ => rfl) ?_
          refine cr_pv (b := a) (as := [.int (nI x), .int (nI y)]) (al0 := [some (.ref a), some (.int (nI x)), some (.int (nI y))]) (r := [.int (nI y), .int (nI x), .int (nI 4), .ref d]) d_98_39 cw_98 cm_10_23 cz_91 rfl rfl ht.1 (by rw [cw_91]; exact ht.2.2.1) (by rw [cw_91]; decide) rfl (Nat.le_of_ble_eq_true rfl) (k_times ht' hn' (TabC.up hne hc) (by omega) (by omega)) ?_
          show CR _ _ 42 [some (.ref d), some (.ref a), some (.int (nI 4)), some (.int (nI x)), some (.int (nI y))] [.int (nI (c (n * x + y))), .int (nI y), .int (nI x), .int (nI 4), .ref d] S (up2 G d 0 (.int (nI n))) (upr B (d + 1) w_) J R _
          have b39 : c (n * x + y) < n := (hc.2 _ (cu_lt (by omega) (by omega))).2
          refine cr_pv (b := d) (as := [.int (nI 4), .int (nI x), .int (nI y), .int (nI (c (n * x + y)))]) (al0 := [some (.ref d), some (.int (nI 4)), some (.int (nI x)), some (.int (nI y)), some (.int (nI (c (n * x + y))))]) (r := []) d_98_42 cw_98 cm_10_45 cz_99 rfl rfl hd.1 (by rw [cw_99]; exact hd.2.2.1) (by rw [cw_99]; decide) rfl (Nat.le_of_ble_eq_true rfl) (k_putConjugate4 (w_ := w_) hd' hdn' hn6 (by omega) (by omega) (by omega) upr_s) ?_
          rw [upr_u]
          show CR _ _ 45 [some (.ref d), some (.ref a), some (.int (nI 4)), some (.int (nI x)), some (.int (nI y))] [] S (up2 G d 0 (.int (nI n))) (upr B (d + 1) (upd w_ (cjI 4 n x y (c (n * x + y))) (nI (cjV 4 x y (c (n * x + y)))))) J R _
          refine cn_inc d_98_45 rfl rfl ?_
          show CR _ _ 48 [some (.ref d), some (.ref a), some (.int (nI 4)), some (.int (nI x)), some (.int (nI (y + 1)))] [] S (up2 G d 0 (.int (nI n))) (upr B (d + 1) (upd w_ (cjI 4 n x y (c (n * x + y))) (nI (cjV 4 x y (c (n * x + y)))))) J R _
          refine cr_nx (pc' := 21) (al' := [some (.ref d), some (.ref a), some (.int (nI 4)), some (.int (nI x)), some (.int (nI (y + 1)))]) (st' := []) d_98_48 (fun _ => rfl) ?_
          exact ihy (upd w_ (cjI 4 n x y (c (n * x + y))) (nI (cjV 4 x y (c (n * x + y))))) (sc_in py rfl (congrArg nI (cj_at (w := 4) hl hx hy).symm))
      · show CR _ _ 21 [some (.ref d), some (.ref a), some (.int (nI 4)), some (.int (nI x)), some (.int (nI n))] [] S (up2 G d 0 (.int (nI n))) (upr B (d + 1) w_) J R _
        refine cr_nx (pc' := 23) (al' := [some (.ref d), some (.ref a), some (.int (nI 4)), some (.int (nI x)), some (.int (nI n))]) (st' := [.int (nI n)]) d_98_21 (fun _ => rfl) ?_
        refine cr_nx (pc' := 24) (al' := [some (.ref d), some (.ref a), some (.int (nI 4)), some (.int (nI x)), some (.int (nI n))]) (st' := [.ref d, .int (nI n)]) d_98_23 (fun _ => rfl) ?_
        refine cr_gf (v := .int (nI n)) d_98_24 cw_98 cf_10_15 hd.1 hd.2.2.1 (by decide) (by simp [up2, hne]) ?_
        refine cn_cge (t := 51) d_98_27 (by decide) (by first | omega | assumption | exact cu_36 (by omega) (cu_lt (by omega) (by omega))) (by first | omega | assumption | exact cu_36 (by omega) (cu_lt (by omega) (by omega))) (fun c27 => ?_) (fun c27 => ?_)
        · refine cn_inc d_98_51 rfl rfl ?_
          show CR _ _ 54 [some (.ref d), some (.ref a), some (.int (nI 4)), some (.int (nI (x + 1))), some (.int (nI n))] [] S (up2 G d 0 (.int (nI n))) (upr B (d + 1) w_) J R _
          refine cr_nx (pc' := 10) (al' := [some (.ref d), some (.ref a), some (.int (nI 4)), some (.int (nI (x + 1))), some (.int (nI n))]) (st' := []) d_98_54 (fun _ => rfl) ?_
          refine cr_dr (al1 := [some (.ref d), some (.ref a), some (.int (nI 4)), some (.int (nI (x + 1))), none]) (le_s (le_s (le_s (le_s (le_d rfl (le_n)))))) ?_
          exact ihx w_ (sc_out py)
        · omega
  · show CR _ _ 10 [some (.ref d), some (.ref a), some (.int (nI 4)), some (.int (nI n)), none] [] S (up2 G d 0 (.int (nI n))) (upr B (d + 1) w_) J R _
    refine cr_nx (pc' := 11) (al' := [some (.ref d), some (.ref a), some (.int (nI 4)), some (.int (nI n)), none]) (st' := [.int (nI n)]) d_98_10 (fun _ => rfl) ?_
    refine cr_nx (pc' := 12) (al' := [some (.ref d), some (.ref a), some (.int (nI 4)), some (.int (nI n)), none]) (st' := [.ref d, .int (nI n)]) d_98_11 (fun _ => rfl) ?_
    refine cr_gf (v := .int (nI n)) d_98_12 cw_98 cf_10_15 hd.1 hd.2.2.1 (by decide) (by simp [up2, hne]) ?_
    refine cn_cge (t := 57) d_98_15 (by decide) (by first | omega | assumption | exact cu_36 (by omega) (cu_lt (by omega) (by omega))) (by first | omega | assumption | exact cu_36 (by omega) (cu_lt (by omega) (by omega))) (fun c15 => ?_) (fun c15 => ?_)
    · exact cr_rv d_98_57 cx_98 ⟨rfl, rfl, rfl, rfl, rfl, w_, rfl, sc_all px (fun q hq => cj_on hl hq)⟩
    · omega
theorem k_makeConjugate5 {S : CS} {G : Nat → Nat → Value} {B : Nat → Nat → Int32} {J : Nat → Nat → Int64} {R : Nat → Nat → Option Nat} {a d n : Nat} (ht : TabAt S G a) (hn : G a 0 = .int (nI n)) {c : Nat → Nat} (hc : TabC B a n c) (hd : TabAt S G d) (hne : a ≠ d) (hl : Lat n c) : CR 2 98 0 [some (.ref d), some (.ref a), some (.int (nI 5)), none, none] [] S G B J R (mkC d S G B J R n (cjN 5 n c)) := by
  have hn6 := hc.1
  have ht' : TabAt S (up2 G d 0 (.int (nI n))) a := ht.up
  have hd' : TabAt S (up2 G d 0 (.int (nI n))) d := hd.up
  have hn' : up2 G d 0 (.int (nI n)) a 0 = .int (nI n) := up2_0 hne hn
  have hdn' : up2 G d 0 (.int (nI n)) d 0 = .int (nI n) := up2_s
  refine cr_nx (pc' := 1) (al' := [some (.ref d), some (.ref a), some (.int (nI 5)), none, none]) (st' := [.ref d]) d_98_0 (fun _ => rfl) ?_
  refine cr_nx (pc' := 2) (al' := [some (.ref d), some (.ref a), some (.int (nI 5)), none, none]) (st' := [.ref a, .ref d]) d_98_1 (fun _ => rfl) ?_
  refine cr_gf (v := .int (nI n)) d_98_2 cw_98 cf_10_15 ht.1 ht.2.2.1 (by decide) hn ?_
  refine cp_10_0  d_98_5 cw_98 cf_10_15 hd.1 hd.2.2.1 (by decide) ?_
  refine cn_ic (v := 0) d_98_8 (by decide) ?_
  refine cr_nx (pc' := 10) (al' := [some (.ref d), some (.ref a), some (.int (nI 5)), some (.int (nI 0)), none]) (st' := []) d_98_9 (fun _ => rfl) ?_
  refine cr_B (show B = (upr B (d + 1) (B (d + 1))) by rw [upr_id]) ?_
  refine cr_upw (al := fun x w_ => [some (.ref d), some (.ref a), some (.int (nI 5)), some (.int (nI x)), none]) (S := fun x w_ => S) (G := fun x w_ => (up2 G d 0 (.int (nI n)))) (B := fun x w_ => (upr B (d + 1) w_)) (J := fun x w_ => J) (R := fun x w_ => R) (P := fun x w_ => ScP (fun q => nI (cjN 5 n c q)) (fun x y => cjI 5 n x y (c (n * x + y))) n x 0 w_) (n := n) (fun x w_ hx px ihx => ?_) (fun w_ px => ?_) 0 (B (d + 1)) (by omega) (sc_0)
  · show CR _ _ 10 [some (.ref d), some (.ref a), some (.int (nI 5)), some (.int (nI x)), none] [] S (up2 G d 0 (.int (nI n))) (upr B (d + 1) w_) J R _
    refine cr_nx (pc' := 11) (al' := [some (.ref d), some (.ref a), some (.int (nI 5)), some (.int (nI x)), none]) (st' := [.int (nI x)]) d_98_10 (fun _ => rfl) ?_
    refine cr_nx (pc' := 12) (al' := [some (.ref d), some (.ref a), some (.int (nI 5)), some (.int (nI x)), none]) (st' := [.ref d, .int (nI x)]) d_98_11 (fun _ => rfl) ?_
    refine cr_gf (v := .int (nI n)) d_98_12 cw_98 cf_10_15 hd.1 hd.2.2.1 (by decide) (by simp [up2, hne]) ?_
    refine cn_cge (t := 57) d_98_15 (by decide) (by first | omega | assumption | exact cu_36 (by omega) (cu_lt (by omega) (by omega))) (by first | omega | assumption | exact cu_36 (by omega) (cu_lt (by omega) (by omega))) (fun c15 => ?_) (fun c15 => ?_)
    · omega
    · refine cn_ic (v := 0) d_98_18 (by decide) ?_
      refine cr_nx (pc' := 21) (al' := [some (.ref d), some (.ref a), some (.int (nI 5)), some (.int (nI x)), some (.int (nI 0))]) (st' := []) d_98_19 (fun _ => rfl) ?_
      refine cr_upw (al := fun y w_ => [some (.ref d), some (.ref a), some (.int (nI 5)), some (.int (nI x)), some (.int (nI y))]) (S := fun y w_ => S) (G := fun y w_ => (up2 G d 0 (.int (nI n)))) (B := fun y w_ => (upr B (d + 1) w_)) (J := fun y w_ => J) (R := fun y w_ => R) (P := fun y w_ => ScP (fun q => nI (cjN 5 n c q)) (fun x y => cjI 5 n x y (c (n * x + y))) n x y w_) (n := n) (fun y w_ hy py ihy => ?_) (fun w_ py => ?_) 0 w_ (by omega) (px)
      · show CR _ _ 21 [some (.ref d), some (.ref a), some (.int (nI 5)), some (.int (nI x)), some (.int (nI y))] [] S (up2 G d 0 (.int (nI n))) (upr B (d + 1) w_) J R _
        refine cr_nx (pc' := 23) (al' := [some (.ref d), some (.ref a), some (.int (nI 5)), some (.int (nI x)), some (.int (nI y))]) (st' := [.int (nI y)]) d_98_21 (fun _ => rfl) ?_
        refine cr_nx (pc' := 24) (al' := [some (.ref d), some (.ref a), some (.int (nI 5)), some (.int (nI x)), some (.int (nI y))]) (st' := [.ref d, .int (nI y)]) d_98_23 (fun _ => rfl) ?_
        refine cr_gf (v := .int (nI n)) d_98_24 cw_98 cf_10_15 hd.1 hd.2.2.1 (by decide) (by simp [up2, hne]) ?_
        refine cn_cge (t := 51) d_98_27 (by decide) (by first | omega | assumption | exact cu_36 (by omega) (cu_lt (by omega) (by omega))) (by first | omega | assumption | exact cu_36 (by omega) (cu_lt (by omega) (by omega))) (fun c27 => ?_) (fun c27 => ?_)
        · omega
        · refine cr_nx (pc' := 31) (al' := [some (.ref d), some (.ref a), some (.int (nI 5)), some (.int (nI x)), some (.int (nI y))]) (st' := [.ref d]) d_98_30 (fun _ => rfl) ?_
          refine cr_nx (pc' := 32) (al' := [some (.ref d), some (.ref a), some (.int (nI 5)), some (.int (nI x)), some (.int (nI y))]) (st' := [.int (nI 5), .ref d]) d_98_31 (fun _ => rfl) ?_
          refine cr_nx (pc' := 33) (al' := [some (.ref d), some (.ref a), some (.int (nI 5)), some (.int (nI x)), some (.int (nI y))]) (st' := [.int (nI x), .int (nI 5), .ref d]) d_98_32 (fun _ => rfl) ?_
          refine cr_nx (pc' := 35) (al' := [some (.ref d), some (.ref a), some (.int (nI 5)), some (.int (nI x)), some (.int (nI y))]) (st' := [.int (nI y), .int (nI x), .int (nI 5), .ref d]) d_98_33 (fun _ => rfl) ?_
          refine cr_nx (pc' := 36) (al' := [some (.ref d), some (.ref a), some (.int (nI 5)), some (.int (nI x)), some (.int (nI y))]) (st' := [.ref a, .int (nI y), .int (nI x), .int (nI 5), .ref d]) d_98_35 (fun _ => rfl) ?_
          refine cr_nx (pc' := 37) (al' := [some (.ref d), some (.ref a), some (.int (nI 5)), some (.int (nI x)), some (.int (nI y))]) (st' := [.int (nI x), .ref a, .int (nI y), .int (nI x), .int (nI 5), .ref d]) d_98_36 (fun _ => rfl) ?_
          refine cr_nx (pc' := 39) (al' := [some (.ref d), some (.ref a), some (.int (nI 5)), some (.int (nI x)), some (.int (nI y))]) (st' := [.int (nI y), .int (nI x), .ref a, .int (nI y), .int (nI x), .int (nI 5), .ref d]) d_98_37 (fun _ => rfl) ?_
          refine cr_pv (b := a) (as := [.int (nI x), .int (nI y)]) (al0 := [some (.ref a), some (.int (nI x)), some (.int (nI y))]) (r := [.int (nI y), .int (nI x), .int (nI 5), .ref d]) d_98_39 cw_98 cm_10_23 cz_91 rfl rfl ht.1 (by rw [cw_91]; exact ht.2.2.1) (by rw [cw_91]; decide) rfl (Nat.le_of_ble_eq_true rfl) (k_times ht' hn' (TabC.up hne hc) (by omega) (by omega)) ?_
          show CR _ _ 42 [some (.ref d), some (.ref a), some (.int (nI 5)), some (.int (nI x)), some (.int (nI y))] [.int (nI (c (n * x + y))), .int (nI y), .int (nI x), .int (nI 5), .ref d] S (up2 G d 0 (.int (nI n))) (upr B (d + 1) w_) J R _
          have b39 : c (n * x + y) < n := (hc.2 _ (cu_lt (by omega) (by omega))).2
          refine cr_pv (b := d) (as := [.int (nI 5), .int (nI x), .int (nI y), .int (nI (c (n * x + y)))]) (al0 := [some (.ref d), some (.int (nI 5)), some (.int (nI x)), some (.int (nI y)), some (.int (nI (c (n * x + y))))]) (r := []) d_98_42 cw_98 cm_10_45 cz_99 rfl rfl hd.1 (by rw [cw_99]; exact hd.2.2.1) (by rw [cw_99]; decide) rfl (Nat.le_of_ble_eq_true rfl) (k_putConjugate5 (w_ := w_) hd' hdn' hn6 (by omega) (by omega) (by omega) upr_s) ?_
          rw [upr_u]
          show CR _ _ 45 [some (.ref d), some (.ref a), some (.int (nI 5)), some (.int (nI x)), some (.int (nI y))] [] S (up2 G d 0 (.int (nI n))) (upr B (d + 1) (upd w_ (cjI 5 n x y (c (n * x + y))) (nI (cjV 5 x y (c (n * x + y)))))) J R _
          refine cn_inc d_98_45 rfl rfl ?_
          show CR _ _ 48 [some (.ref d), some (.ref a), some (.int (nI 5)), some (.int (nI x)), some (.int (nI (y + 1)))] [] S (up2 G d 0 (.int (nI n))) (upr B (d + 1) (upd w_ (cjI 5 n x y (c (n * x + y))) (nI (cjV 5 x y (c (n * x + y)))))) J R _
          refine cr_nx (pc' := 21) (al' := [some (.ref d), some (.ref a), some (.int (nI 5)), some (.int (nI x)), some (.int (nI (y + 1)))]) (st' := []) d_98_48 (fun _ => rfl) ?_
          exact ihy (upd w_ (cjI 5 n x y (c (n * x + y))) (nI (cjV 5 x y (c (n * x + y))))) (sc_in py rfl (congrArg nI (cj_at (w := 5) hl hx hy).symm))
      · show CR _ _ 21 [some (.ref d), some (.ref a), some (.int (nI 5)), some (.int (nI x)), some (.int (nI n))] [] S (up2 G d 0 (.int (nI n))) (upr B (d + 1) w_) J R _
        refine cr_nx (pc' := 23) (al' := [some (.ref d), some (.ref a), some (.int (nI 5)), some (.int (nI x)), some (.int (nI n))]) (st' := [.int (nI n)]) d_98_21 (fun _ => rfl) ?_
        refine cr_nx (pc' := 24) (al' := [some (.ref d), some (.ref a), some (.int (nI 5)), some (.int (nI x)), some (.int (nI n))]) (st' := [.ref d, .int (nI n)]) d_98_23 (fun _ => rfl) ?_
        refine cr_gf (v := .int (nI n)) d_98_24 cw_98 cf_10_15 hd.1 hd.2.2.1 (by decide) (by simp [up2, hne]) ?_
        refine cn_cge (t := 51) d_98_27 (by decide) (by first | omega | assumption | exact cu_36 (by omega) (cu_lt (by omega) (by omega))) (by first | omega | assumption | exact cu_36 (by omega) (cu_lt (by omega) (by omega))) (fun c27 => ?_) (fun c27 => ?_)
        · refine cn_inc d_98_51 rfl rfl ?_
          show CR _ _ 54 [some (.ref d), some (.ref a), some (.int (nI 5)), some (.int (nI (x + 1))), some (.int (nI n))] [] S (up2 G d 0 (.int (nI n))) (upr B (d + 1) w_) J R _
          refine cr_nx (pc' := 10) (al' := [some (.ref d), some (.ref a), some (.int (nI 5)), some (.int (nI (x + 1))), some (.int (nI n))]) (st' := []) d_98_54 (fun _ => rfl) ?_
          refine cr_dr (al1 := [some (.ref d), some (.ref a), some (.int (nI 5)), some (.int (nI (x + 1))), none]) (le_s (le_s (le_s (le_s (le_d rfl (le_n)))))) ?_
          exact ihx w_ (sc_out py)
        · omega
  · show CR _ _ 10 [some (.ref d), some (.ref a), some (.int (nI 5)), some (.int (nI n)), none] [] S (up2 G d 0 (.int (nI n))) (upr B (d + 1) w_) J R _
    refine cr_nx (pc' := 11) (al' := [some (.ref d), some (.ref a), some (.int (nI 5)), some (.int (nI n)), none]) (st' := [.int (nI n)]) d_98_10 (fun _ => rfl) ?_
    refine cr_nx (pc' := 12) (al' := [some (.ref d), some (.ref a), some (.int (nI 5)), some (.int (nI n)), none]) (st' := [.ref d, .int (nI n)]) d_98_11 (fun _ => rfl) ?_
    refine cr_gf (v := .int (nI n)) d_98_12 cw_98 cf_10_15 hd.1 hd.2.2.1 (by decide) (by simp [up2, hne]) ?_
    refine cn_cge (t := 57) d_98_15 (by decide) (by first | omega | assumption | exact cu_36 (by omega) (cu_lt (by omega) (by omega))) (by first | omega | assumption | exact cu_36 (by omega) (cu_lt (by omega) (by omega))) (fun c15 => ?_) (fun c15 => ?_)
    · exact cr_rv d_98_57 cx_98 ⟨rfl, rfl, rfl, rfl, rfl, w_, rfl, sc_all px (fun q hq => cj_on hl hq)⟩
    · omega
