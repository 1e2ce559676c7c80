/-! Laws: the reference reads terms, equations, sides; printed by wip/whole/gen_b23.py. -/
theorem s_rt_0 {g : Nat → Int32} {A : Nat → Nat → Int32} {Q : Option Value → (Nat → Int32) → (Nat → Nat → Int32) → Prop} {K d : Nat} {P : (Nat → Int32) → Prop} (hq : RR K 199 0 [some (.ref 146), some (.int (nI d)), none] [] g A (fun v g' A' => v = none ∧ A' = A ∧ P g')) (hk : ∀ g1, P g1 → RR (K + 1) 198 5 [some (.ref 146), some (.int (nI d))] [] g1 A Q) : RR (K + 1) 198 0 [some (.ref 146), some (.int (nI d))] [] g A Q := by
  refine rr_nx (pc' := 1) (al' := [some (.ref 146), some (.int (nI d))]) (st' := [.ref 146]) d_198_0 (fun _ => rfl) ?_
  refine rr_nx (pc' := 2) (al' := [some (.ref 146), some (.int (nI d))]) (st' := [.int (nI d), .ref 146]) d_198_1 (fun _ => rfl) ?_
  refine rr_cv (as := [.int (nI d)]) (al0 := [some (.ref 146), some (.int (nI d)), none]) (r := []) d_198_2 mo_198 ml_183 mz_199 rfl rfl rfl (rr_wk (Nat.le_refl _) (hq)) (fun v1 g1 A1 h1 => ?_)
  obtain ⟨q0_, q1_, h1⟩ := h1
  obtain rfl := q0_
  obtain rfl := q1_.symm
  show RR _ _ 5 [some (.ref 146), some (.int (nI d))] [] g1 A _
  exact hk g1 h1
theorem s_rt5_f {g : Nat → Int32} {A : Nat → Nat → Int32}  {d : Nat} (hf : ¬ g 21 = -1) : RR (2) 198 5 [some (.ref 146), some (.int (nI d))] [] g A (rP none g A) := by
  refine rr_nx (pc' := 6) (al' := [some (.ref 146), some (.int (nI d))]) (st' := [.ref 146]) d_198_5 (fun _ => rfl) ?_
  refine rn_bp (v := 42) d_198_6 (by decide) ?_
  refine rr_ps (as := [.int (nI 42)]) (al0 := [some (.int (nI 42))]) (r := [.ref 146]) d_198_8 mo_198 ml_172 mz_201 rfl rfl rfl (Nat.le_of_ble_eq_true rfl) (s_sign) ?_
  show RR _ _ 11 [some (.ref 146), some (.int (nI d))] [.int (nI 142), .ref 146] g A _
  refine rr_pv (as := [.int (nI 142)]) (al0 := [some (.ref 146), some (.int (nI 142)), none]) (r := []) d_198_11 mo_198 ml_163 mz_204 rfl rfl rfl (by omega) (s_takes0_f hf) ?_
  show RR _ _ 14 [some (.ref 146), some (.int (nI d))] [.int (nI 0)] g A _
  refine rn_ine (t := 41) d_198_14 (by decide) (by first | omega | assumption | exact cu_36 (by omega) (cu_lt (by omega) (by omega))) (fun c14 => ?_) (fun c14 => ?_)
  · omega
  · refine rr_nx (pc' := 18) (al' := [some (.ref 146), some (.int (nI d))]) (st' := [.ref 146]) d_198_17 (fun _ => rfl) ?_
    refine rn_bp (v := 47) d_198_18 (by decide) ?_
    refine rr_ps (as := [.int (nI 47)]) (al0 := [some (.int (nI 47))]) (r := [.ref 146]) d_198_20 mo_198 ml_172 mz_201 rfl rfl rfl (Nat.le_of_ble_eq_true rfl) (s_sign) ?_
    show RR _ _ 23 [some (.ref 146), some (.int (nI d))] [.int (nI 147), .ref 146] g A _
    refine rr_pv (as := [.int (nI 147)]) (al0 := [some (.ref 146), some (.int (nI 147)), none]) (r := []) d_198_23 mo_198 ml_163 mz_204 rfl rfl rfl (by omega) (s_takes0_f hf) ?_
    show RR _ _ 26 [some (.ref 146), some (.int (nI d))] [.int (nI 0)] g A _
    refine rn_ine (t := 41) d_198_26 (by decide) (by first | omega | assumption | exact cu_36 (by omega) (cu_lt (by omega) (by omega))) (fun c26 => ?_) (fun c26 => ?_)
    · omega
    · refine rr_nx (pc' := 30) (al' := [some (.ref 146), some (.int (nI d))]) (st' := [.ref 146]) d_198_29 (fun _ => rfl) ?_
      refine rn_bp (v := 92) d_198_30 (by decide) ?_
      refine rr_ps (as := [.int (nI 92)]) (al0 := [some (.int (nI 92))]) (r := [.ref 146]) d_198_32 mo_198 ml_172 mz_201 rfl rfl rfl (Nat.le_of_ble_eq_true rfl) (s_sign) ?_
      show RR _ _ 35 [some (.ref 146), some (.int (nI d))] [.int (nI 192), .ref 146] g A _
      refine rr_pv (as := [.int (nI 192)]) (al0 := [some (.ref 146), some (.int (nI 192)), none]) (r := []) d_198_35 mo_198 ml_163 mz_204 rfl rfl rfl (by omega) (s_takes0_f hf) ?_
      show RR _ _ 38 [some (.ref 146), some (.int (nI d))] [.int (nI 0)] g A _
      refine rn_ieq (t := 49) d_198_38 (by decide) (by first | omega | assumption | exact cu_36 (by omega) (cu_lt (by omega) (by omega))) (fun c38 => ?_) (fun c38 => ?_)
      · exact rr_rv d_198_49 mr_198 ⟨rfl, rfl, rfl⟩
      · omega
theorem s_rt5_n {g : Nat → Int32} {A : Nat → Nat → Int32}  {d : Nat} {j k : Nat} (h19 : g 19 = nI j) (hj : j ≤ 400) (hf : g 21 = -1) (hk9 : A 9 j = nI k) (hk3 : k < 2 ^ 31) (hop : ¬ k = 142 ∧ ¬ k = 147 ∧ ¬ k = 192) : RR (2) 198 5 [some (.ref 146), some (.int (nI d))] [] g A (rP none g A) := by
  refine rr_nx (pc' := 6) (al' := [some (.ref 146), some (.int (nI d))]) (st' := [.ref 146]) d_198_5 (fun _ => rfl) ?_
  refine rn_bp (v := 42) d_198_6 (by decide) ?_
  refine rr_ps (as := [.int (nI 42)]) (al0 := [some (.int (nI 42))]) (r := [.ref 146]) d_198_8 mo_198 ml_172 mz_201 rfl rfl rfl (Nat.le_of_ble_eq_true rfl) (s_sign) ?_
  show RR _ _ 11 [some (.ref 146), some (.int (nI d))] [.int (nI 142), .ref 146] g A _
  refine rr_pv (as := [.int (nI 142)]) (al0 := [some (.ref 146), some (.int (nI 142)), none]) (r := []) d_198_11 mo_198 ml_163 mz_204 rfl rfl rfl (by omega) (s_takes0_n h19 hj hf hk9 hk3 (by decide) (by omega)) ?_
  show RR _ _ 14 [some (.ref 146), some (.int (nI d))] [.int (nI 0)] g A _
  refine rn_ine (t := 41) d_198_14 (by decide) (by first | omega | assumption | exact cu_36 (by omega) (cu_lt (by omega) (by omega))) (fun c14 => ?_) (fun c14 => ?_)
  · omega
  · refine rr_nx (pc' := 18) (al' := [some (.ref 146), some (.int (nI d))]) (st' := [.ref 146]) d_198_17 (fun _ => rfl) ?_
    refine rn_bp (v := 47) d_198_18 (by decide) ?_
    refine rr_ps (as := [.int (nI 47)]) (al0 := [some (.int (nI 47))]) (r := [.ref 146]) d_198_20 mo_198 ml_172 mz_201 rfl rfl rfl (Nat.le_of_ble_eq_true rfl) (s_sign) ?_
    show RR _ _ 23 [some (.ref 146), some (.int (nI d))] [.int (nI 147), .ref 146] g A _
    refine rr_pv (as := [.int (nI 147)]) (al0 := [some (.ref 146), some (.int (nI 147)), none]) (r := []) d_198_23 mo_198 ml_163 mz_204 rfl rfl rfl (by omega) (s_takes0_n h19 hj hf hk9 hk3 (by decide) (by omega)) ?_
    show RR _ _ 26 [some (.ref 146), some (.int (nI d))] [.int (nI 0)] g A _
    refine rn_ine (t := 41) d_198_26 (by decide) (by first | omega | assumption | exact cu_36 (by omega) (cu_lt (by omega) (by omega))) (fun c26 => ?_) (fun c26 => ?_)
    · omega
    · refine rr_nx (pc' := 30) (al' := [some (.ref 146), some (.int (nI d))]) (st' := [.ref 146]) d_198_29 (fun _ => rfl) ?_
      refine rn_bp (v := 92) d_198_30 (by decide) ?_
      refine rr_ps (as := [.int (nI 92)]) (al0 := [some (.int (nI 92))]) (r := [.ref 146]) d_198_32 mo_198 ml_172 mz_201 rfl rfl rfl (Nat.le_of_ble_eq_true rfl) (s_sign) ?_
      show RR _ _ 35 [some (.ref 146), some (.int (nI d))] [.int (nI 192), .ref 146] g A _
      refine rr_pv (as := [.int (nI 192)]) (al0 := [some (.ref 146), some (.int (nI 192)), none]) (r := []) d_198_35 mo_198 ml_163 mz_204 rfl rfl rfl (by omega) (s_takes0_n h19 hj hf hk9 hk3 (by decide) (by omega)) ?_
      show RR _ _ 38 [some (.ref 146), some (.int (nI d))] [.int (nI 0)] g A _
      refine rn_ieq (t := 49) d_198_38 (by decide) (by first | omega | assumption | exact cu_36 (by omega) (cu_lt (by omega) (by omega))) (fun c38 => ?_) (fun c38 => ?_)
      · exact rr_rv d_198_49 mr_198 ⟨rfl, rfl, rfl⟩
      · omega
theorem s_rt5_o0 {g : Nat → Int32} {A : Nat → Nat → Int32} {Q : Option Value → (Nat → Int32) → (Nat → Nat → Int32) → Prop} {K d : Nat} {P : (Nat → Int32) → Prop} {j k : Nat} (h19 : g 19 = nI j) (hj : j ≤ 400) (hf : g 21 = -1) (hk9 : A 9 j = nI k) (hk3 : k < 2 ^ 31) (hop : k = 142) (hq : RR (K + 1) 199 0 [some (.ref 146), some (.int (nI d)), none] [] (upd g 19 (nI (j + 1))) A (fun v g' A' => v = none ∧ A' = A ∧ P g')) (hk : ∀ g1, P g1 → RR (K + 2) 198 5 [some (.ref 146), some (.int (nI d))] [] g1 A Q) : RR (K + 2) 198 5 [some (.ref 146), some (.int (nI d))] [] g A Q := by
  refine rr_nx (pc' := 6) (al' := [some (.ref 146), some (.int (nI d))]) (st' := [.ref 146]) d_198_5 (fun _ => rfl) ?_
  refine rn_bp (v := 42) d_198_6 (by decide) ?_
  refine rr_ps (as := [.int (nI 42)]) (al0 := [some (.int (nI 42))]) (r := [.ref 146]) d_198_8 mo_198 ml_172 mz_201 rfl rfl rfl (Nat.le_of_ble_eq_true rfl) (s_sign) ?_
  show RR _ _ 11 [some (.ref 146), some (.int (nI d))] [.int (nI 142), .ref 146] g A _
  refine rr_pv (as := [.int (nI 142)]) (al0 := [some (.ref 146), some (.int (nI 142)), none]) (r := []) d_198_11 mo_198 ml_163 mz_204 rfl rfl rfl (by omega) (s_takes0_t h19 hj hf hk9 hk3 (by decide) (by omega)) ?_
  show RR _ _ 14 [some (.ref 146), some (.int (nI d))] [.int (nI 1)] (upd g 19 (nI (j + 1))) A _
  refine rn_ine (t := 41) d_198_14 (by decide) (by first | omega | assumption | exact cu_36 (by omega) (cu_lt (by omega) (by omega))) (fun c14 => ?_) (fun c14 => ?_)
  · refine rr_nx (pc' := 42) (al' := [some (.ref 146), some (.int (nI d))]) (st' := [.ref 146]) d_198_41 (fun _ => rfl) ?_
    refine rr_nx (pc' := 43) (al' := [some (.ref 146), some (.int (nI d))]) (st' := [.int (nI d), .ref 146]) d_198_42 (fun _ => rfl) ?_
    refine rr_cv (as := [.int (nI d)]) (al0 := [some (.ref 146), some (.int (nI d)), none]) (r := []) d_198_43 mo_198 ml_183 mz_199 rfl rfl rfl (rr_wk (Nat.le_refl _) (hq)) (fun v1 g1 A1 h1 => ?_)
    obtain ⟨q0_, q1_, h1⟩ := h1
    obtain rfl := q0_
    obtain rfl := q1_.symm
    show RR _ _ 46 [some (.ref 146), some (.int (nI d))] [] g1 A _
    refine rr_nx (pc' := 5) (al' := [some (.ref 146), some (.int (nI d))]) (st' := []) d_198_46 (fun _ => rfl) ?_
    exact hk g1 h1
  · omega
theorem s_rt5_o1 {g : Nat → Int32} {A : Nat → Nat → Int32} {Q : Option Value → (Nat → Int32) → (Nat → Nat → Int32) → Prop} {K d : Nat} {P : (Nat → Int32) → Prop} {j k : Nat} (h19 : g 19 = nI j) (hj : j ≤ 400) (hf : g 21 = -1) (hk9 : A 9 j = nI k) (hk3 : k < 2 ^ 31) (hop : k = 147) (hq : RR (K + 1) 199 0 [some (.ref 146), some (.int (nI d)), none] [] (upd g 19 (nI (j + 1))) A (fun v g' A' => v = none ∧ A' = A ∧ P g')) (hk : ∀ g1, P g1 → RR (K + 2) 198 5 [some (.ref 146), some (.int (nI d))] [] g1 A Q) : RR (K + 2) 198 5 [some (.ref 146), some (.int (nI d))] [] g A Q := by
  refine rr_nx (pc' := 6) (al' := [some (.ref 146), some (.int (nI d))]) (st' := [.ref 146]) d_198_5 (fun _ => rfl) ?_
  refine rn_bp (v := 42) d_198_6 (by decide) ?_
  refine rr_ps (as := [.int (nI 42)]) (al0 := [some (.int (nI 42))]) (r := [.ref 146]) d_198_8 mo_198 ml_172 mz_201 rfl rfl rfl (Nat.le_of_ble_eq_true rfl) (s_sign) ?_
  show RR _ _ 11 [some (.ref 146), some (.int (nI d))] [.int (nI 142), .ref 146] g A _
  refine rr_pv (as := [.int (nI 142)]) (al0 := [some (.ref 146), some (.int (nI 142)), none]) (r := []) d_198_11 mo_198 ml_163 mz_204 rfl rfl rfl (by omega) (s_takes0_n h19 hj hf hk9 hk3 (by decide) (by omega)) ?_
  show RR _ _ 14 [some (.ref 146), some (.int (nI d))] [.int (nI 0)] g A _
  refine rn_ine (t := 41) d_198_14 (by decide) (by first | omega | assumption | exact cu_36 (by omega) (cu_lt (by omega) (by omega))) (fun c14 => ?_) (fun c14 => ?_)
  · omega
  · refine rr_nx (pc' := 18) (al' := [some (.ref 146), some (.int (nI d))]) (st' := [.ref 146]) d_198_17 (fun _ => rfl) ?_
    refine rn_bp (v := 47) d_198_18 (by decide) ?_
    refine rr_ps (as := [.int (nI 47)]) (al0 := [some (.int (nI 47))]) (r := [.ref 146]) d_198_20 mo_198 ml_172 mz_201 rfl rfl rfl (Nat.le_of_ble_eq_true rfl) (s_sign) ?_
    show RR _ _ 23 [some (.ref 146), some (.int (nI d))] [.int (nI 147), .ref 146] g A _
    refine rr_pv (as := [.int (nI 147)]) (al0 := [some (.ref 146), some (.int (nI 147)), none]) (r := []) d_198_23 mo_198 ml_163 mz_204 rfl rfl rfl (by omega) (s_takes0_t h19 hj hf hk9 hk3 (by decide) (by omega)) ?_
    show RR _ _ 26 [some (.ref 146), some (.int (nI d))] [.int (nI 1)] (upd g 19 (nI (j + 1))) A _
    refine rn_ine (t := 41) d_198_26 (by decide) (by first | omega | assumption | exact cu_36 (by omega) (cu_lt (by omega) (by omega))) (fun c26 => ?_) (fun c26 => ?_)
    · refine rr_nx (pc' := 42) (al' := [some (.ref 146), some (.int (nI d))]) (st' := [.ref 146]) d_198_41 (fun _ => rfl) ?_
      refine rr_nx (pc' := 43) (al' := [some (.ref 146), some (.int (nI d))]) (st' := [.int (nI d), .ref 146]) d_198_42 (fun _ => rfl) ?_
      refine rr_cv (as := [.int (nI d)]) (al0 := [some (.ref 146), some (.int (nI d)), none]) (r := []) d_198_43 mo_198 ml_183 mz_199 rfl rfl rfl (rr_wk (Nat.le_refl _) (hq)) (fun v1 g1 A1 h1 => ?_)
      obtain ⟨q0_, q1_, h1⟩ := h1
      obtain rfl := q0_
      obtain rfl := q1_.symm
      show RR _ _ 46 [some (.ref 146), some (.int (nI d))] [] g1 A _
      refine rr_nx (pc' := 5) (al' := [some (.ref 146), some (.int (nI d))]) (st' := []) d_198_46 (fun _ => rfl) ?_
      exact hk g1 h1
    · omega
theorem s_rt5_o2 {g : Nat → Int32} {A : Nat → Nat → Int32} {Q : Option Value → (Nat → Int32) → (Nat → Nat → Int32) → Prop} {K d : Nat} {P : (Nat → Int32) → Prop} {j k : Nat} (h19 : g 19 = nI j) (hj : j ≤ 400) (hf : g 21 = -1) (hk9 : A 9 j = nI k) (hk3 : k < 2 ^ 31) (hop : k = 192) (hq : RR (K + 1) 199 0 [some (.ref 146), some (.int (nI d)), none] [] (upd g 19 (nI (j + 1))) A (fun v g' A' => v = none ∧ A' = A ∧ P g')) (hk : ∀ g1, P g1 → RR (K + 2) 198 5 [some (.ref 146), some (.int (nI d))] [] g1 A Q) : RR (K + 2) 198 5 [some (.ref 146), some (.int (nI d))] [] g A Q := by
  refine rr_nx (pc' := 6) (al' := [some (.ref 146), some (.int (nI d))]) (st' := [.ref 146]) d_198_5 (fun _ => rfl) ?_
  refine rn_bp (v := 42) d_198_6 (by decide) ?_
  refine rr_ps (as := [.int (nI 42)]) (al0 := [some (.int (nI 42))]) (r := [.ref 146]) d_198_8 mo_198 ml_172 mz_201 rfl rfl rfl (Nat.le_of_ble_eq_true rfl) (s_sign) ?_
  show RR _ _ 11 [some (.ref 146), some (.int (nI d))] [.int (nI 142), .ref 146] g A _
  refine rr_pv (as := [.int (nI 142)]) (al0 := [some (.ref 146), some (.int (nI 142)), none]) (r := []) d_198_11 mo_198 ml_163 mz_204 rfl rfl rfl (by omega) (s_takes0_n h19 hj hf hk9 hk3 (by decide) (by omega)) ?_
  show RR _ _ 14 [some (.ref 146), some (.int (nI d))] [.int (nI 0)] g A _
  refine rn_ine (t := 41) d_198_14 (by decide) (by first | omega | assumption | exact cu_36 (by omega) (cu_lt (by omega) (by omega))) (fun c14 => ?_) (fun c14 => ?_)
  · omega
  · refine rr_nx (pc' := 18) (al' := [some (.ref 146), some (.int (nI d))]) (st' := [.ref 146]) d_198_17 (fun _ => rfl) ?_
    refine rn_bp (v := 47) d_198_18 (by decide) ?_
    refine rr_ps (as := [.int (nI 47)]) (al0 := [some (.int (nI 47))]) (r := [.ref 146]) d_198_20 mo_198 ml_172 mz_201 rfl rfl rfl (Nat.le_of_ble_eq_true rfl) (s_sign) ?_
    show RR _ _ 23 [some (.ref 146), some (.int (nI d))] [.int (nI 147), .ref 146] g A _
    refine rr_pv (as := [.int (nI 147)]) (al0 := [some (.ref 146), some (.int (nI 147)), none]) (r := []) d_198_23 mo_198 ml_163 mz_204 rfl rfl rfl (by omega) (s_takes0_n h19 hj hf hk9 hk3 (by decide) (by omega)) ?_
    show RR _ _ 26 [some (.ref 146), some (.int (nI d))] [.int (nI 0)] g A _
    refine rn_ine (t := 41) d_198_26 (by decide) (by first | omega | assumption | exact cu_36 (by omega) (cu_lt (by omega) (by omega))) (fun c26 => ?_) (fun c26 => ?_)
    · omega
    · refine rr_nx (pc' := 30) (al' := [some (.ref 146), some (.int (nI d))]) (st' := [.ref 146]) d_198_29 (fun _ => rfl) ?_
      refine rn_bp (v := 92) d_198_30 (by decide) ?_
      refine rr_ps (as := [.int (nI 92)]) (al0 := [some (.int (nI 92))]) (r := [.ref 146]) d_198_32 mo_198 ml_172 mz_201 rfl rfl rfl (Nat.le_of_ble_eq_true rfl) (s_sign) ?_
      show RR _ _ 35 [some (.ref 146), some (.int (nI d))] [.int (nI 192), .ref 146] g A _
      refine rr_pv (as := [.int (nI 192)]) (al0 := [some (.ref 146), some (.int (nI 192)), none]) (r := []) d_198_35 mo_198 ml_163 mz_204 rfl rfl rfl (by omega) (s_takes0_t h19 hj hf hk9 hk3 (by decide) (by omega)) ?_
      show RR _ _ 38 [some (.ref 146), some (.int (nI d))] [.int (nI 1)] (upd g 19 (nI (j + 1))) A _
      refine rn_ieq (t := 49) d_198_38 (by decide) (by first | omega | assumption | exact cu_36 (by omega) (cu_lt (by omega) (by omega))) (fun c38 => ?_) (fun c38 => ?_)
      · omega
      · refine rr_nx (pc' := 42) (al' := [some (.ref 146), some (.int (nI d))]) (st' := [.ref 146]) d_198_41 (fun _ => rfl) ?_
        refine rr_nx (pc' := 43) (al' := [some (.ref 146), some (.int (nI d))]) (st' := [.int (nI d), .ref 146]) d_198_42 (fun _ => rfl) ?_
        refine rr_cv (as := [.int (nI d)]) (al0 := [some (.ref 146), some (.int (nI d)), none]) (r := []) d_198_43 mo_198 ml_183 mz_199 rfl rfl rfl (rr_wk (Nat.le_refl _) (hq)) (fun v1 g1 A1 h1 => ?_)
        obtain ⟨q0_, q1_, h1⟩ := h1
        obtain rfl := q0_
        obtain rfl := q1_.symm
        show RR _ _ 46 [some (.ref 146), some (.int (nI d))] [] g1 A _
        refine rr_nx (pc' := 5) (al' := [some (.ref 146), some (.int (nI d))]) (st' := []) d_198_46 (fun _ => rfl) ?_
        exact hk g1 h1
theorem rst_s {cod : Nat → Nat} {pa : LSt → Bool × LSt} {f : Nat} {s : LSt} (h : isOp (cod s.1) = true) : rst cod pa (f + 1) s = match pa (s.1 + 1, s.2.1, s.2.2) with
    | (true, u) => rst cod pa f (u.1, u.2.1, u.2.2 ++ [opN (cod s.1)])
    | (false, u) => (false, u) := by
  conv => lhs; unfold rst
  rw [if_pos h]
  rfl
theorem rst_n {cod : Nat → Nat} {pa : LSt → Bool × LSt} {f : Nat} {s : LSt} (h : ¬ isOp (cod s.1) = true) : rst cod pa f s = (true, s) := by
  cases f with
  | zero => rfl
  | succ f => unfold rst; rw [if_neg h]
def FrG (g g' : Nat → Int32) : Prop := ∀ k, k ≠ 19 → k ≠ 21 → k ≠ 22 → g' k = g k
theorem s_rt_loop {cod plc : Nat → Nat} {N F e : Nat} (hP : PtC cod plc N F e) : ∀ (f : Nat) {g : Nat → Int32} {A : Nat → Nat → Int32} {s : LSt}, TkA cod plc N A → FnG g s → s.1 ≤ N → s.2.1 ≤ 32 → N < s.1 + f → RR (2 * e + 4) 198 5 [some (.ref 146), some (.int (nI (8 - e)))] [] g A (RdR plc g A (rst cod (prt cod F e) f s))
  | 0, g, A, s, hT, hF, h1, h2, h3 => by omega
  | f + 1, g, A, s, hT, hF, h1, h2, h3 => by
    obtain ⟨r1, r2, r3, r4⟩ := hT.2.2 s.1 h1
    have hN := hT.1
    by_cases hop : isOp (cod s.1) = true
    · have hlt := cd_in hT.2.1 h1 (by have := op_0 hop; omega)
      rw [rst_s hop]
      have hok := prt_ok (F := F) hT.2.1 e (s.1 + 1, s.2.1, s.2.2) (by show s.1 + 1 ≤ N; omega) h2
      have hrun := hP (s := (s.1 + 1, s.2.1, s.2.2)) hT (g := upd g 19 (nI (s.1 + 1))) ⟨by rw [pk_un (by decide)]; exact hF.1, pk_us, by rw [pk_un (by decide)]; exact hF.2.2⟩ (by show s.1 + 1 ≤ N; omega) h2
      rcases hr : prt cod F e (s.1 + 1, s.2.1, s.2.2) with ⟨b, u⟩
      rw [hr] at hok hrun
      obtain ⟨o1, o2, o3, o4, o5, o6⟩ := hok
      dsimp only at o1 o2 o3 o4 o5 o6
      have hpost : ∀ (b' : Bool) (R' : Bool × LSt), b' = b → R' = (match (b', u) with
          | (true, u) => rst cod (prt cod F e) f (u.1, u.2.1, u.2.2 ++ [opN (cod s.1)])
          | (false, u) => (false, u)) → ∀ g1, ((∀ k, k ≠ 19 → k ≠ 21 → k ≠ 22 → g1 k = upd g 19 (nI (s.1 + 1)) k) ∧ g1 19 = nI u.1 ∧ (b = true → g1 21 = -1 ∧ g1 22 = nI u.2.1) ∧ (b = false → g1 21 = nI (plc u.1))) → RR (2 * e + 4) 198 5 [some (.ref 146), some (.int (nI (8 - e)))] [] g1 A (RdR plc g A R') := by
        rintro b' R' rfl rfl g1 ⟨k1, k2, k3, k4⟩
        have kf : FrG g g1 := fun k a b c => by rw [k1 k a b c, pk_un a]
        cases b'
        · have hb1 : ¬ g1 21 = -1 := by rw [k4 rfl]; exact bad_ne (hT.2.2 u.1 o2).2.2.2
          refine rr_wk (by omega) (rr_cq (s_rt5_f hb1) ?_)
          rintro r g' A' ⟨rfl, rfl, rfl⟩
          exact ⟨rfl, rfl, kf, k2, fun q => absurd (show false = true from q) (by decide), fun _ => k4 rfl⟩
        · have o3 := o3 rfl
          exact rr_cq (s_rt_loop hP f (s := (u.1, u.2.1, u.2.2 ++ [opN (cod s.1)])) hT ⟨(k3 rfl).1, k2, (k3 rfl).2⟩ o2 o5 (by show N < u.1 + f; omega)) (fun r g' A' h => RdR.tr kf h)
      have hq : RR (2 * e + 3) 199 0 [some (.ref 146), some (.int (nI (8 - e))), none] [] (upd g 19 (nI (s.1 + 1))) A (fun v g' A' => v = none ∧ A' = A ∧ ((∀ k, k ≠ 19 → k ≠ 21 → k ≠ 22 → g' k = upd g 19 (nI (s.1 + 1)) k) ∧ g' 19 = nI u.1 ∧ (b = true → g' 21 = -1 ∧ g' 22 = nI u.2.1) ∧ (b = false → g' 21 = nI (plc u.1)))) := rr_cq hrun (fun r g' A' h => ⟨h.1, h.2.1, h.2.2⟩)
      have hq2 := rr_wk (show 2 * e + 3 ≤ 2 * e + 3 from Nat.le_refl _) hq
      rcases op_0 hop with hc | hc | hc
      · exact rr_wk (by omega) (s_rt5_o0 (K := 2 * e + 2) hF.2.1 (by omega) hF.1 r1 (by omega) hc hq2 (fun g1 h => hpost b _ rfl rfl g1 h))
      · exact rr_wk (by omega) (s_rt5_o1 (K := 2 * e + 2) hF.2.1 (by omega) hF.1 r1 (by omega) hc hq2 (fun g1 h => hpost b _ rfl rfl g1 h))
      · exact rr_wk (by omega) (s_rt5_o2 (K := 2 * e + 2) hF.2.1 (by omega) hF.1 r1 (by omega) hc hq2 (fun g1 h => hpost b _ rfl rfl g1 h))
    · rw [rst_n hop]
      refine rr_wk (by omega) (rr_cq (s_rt5_n hF.2.1 (by omega) hF.1 r1 (by omega) ?_) ?_)
      · unfold isOp at hop
        simp only [Bool.or_eq_true, beq_iff_eq] at hop
        omega
      · rintro r g' A' ⟨rfl, rfl, rfl⟩
        exact ⟨rfl, rfl, fun k _ _ _ => rfl, hF.2.1, fun _ => ⟨hF.1, hF.2.2⟩, fun q => absurd (show true = false from q) (by decide)⟩
theorem s_readTerm {cod plc : Nat → Nat} {N F e : Nat} (hFN : N < F) (hP : PtC cod plc N F e) : TmC cod plc N F e := by
  intro g A s hT hF h1 h2
  have hok := prt_ok (F := F) hT.2.1 e s h1 h2
  have hrun := hP hT hF h1 h2
  unfold trm
  rcases hr : prt cod F e s with ⟨b, u⟩
  rw [hr] at hok hrun
  obtain ⟨o1, o2, o3, o4, o5, o6⟩ := hok
  dsimp only at o1 o2 o3 o4 o5 o6
  refine s_rt_0 (K := 2 * e + 3) (P := fun g' => (∀ k, k ≠ 19 → k ≠ 21 → k ≠ 22 → g' k = g k) ∧ g' 19 = nI u.1 ∧ (b = true → g' 21 = -1 ∧ g' 22 = nI u.2.1) ∧ (b = false → g' 21 = nI (plc u.1))) (rr_cq hrun (fun r g' A' h => ⟨h.1, h.2.1, h.2.2⟩)) ?_
  rintro g1 ⟨k1, k2, k3, k4⟩
  cases b
  · have hb1 : ¬ g1 21 = -1 := by rw [k4 rfl]; exact bad_ne (hT.2.2 u.1 o2).2.2.2
    refine rr_wk (by omega) (rr_cq (s_rt5_f hb1) ?_)
    rintro r g' A' ⟨rfl, rfl, rfl⟩
    exact ⟨rfl, rfl, k1, k2, fun q => absurd (show false = true from q) (by decide), fun _ => k4 rfl⟩
  · exact rr_cq (s_rt_loop hP F hT ⟨(k3 rfl).1, k2, (k3 rfl).2⟩ o2 o5 (by omega)) (fun r g' A' h => RdR.tr k1 h)
theorem s_reads {cod plc : Nat → Nat} {N F : Nat} (hFN : N < F) : ∀ e, e ≤ 8 → PtC cod plc N F e ∧ TmC cod plc N F e
  | 0, _ => ⟨s_readPart_0, s_readTerm hFN s_readPart_0⟩
  | e + 1, he => by
    have h : PtC cod plc N F (e + 1) := s_readPart_s (show e < 8 by omega) (s_reads hFN e (by omega)).2
    exact ⟨h, s_readTerm hFN h⟩
theorem s_eq_0 {g : Nat → Int32} {A : Nat → Nat → Int32} {Q : Option Value → (Nat → Int32) → (Nat → Nat → Int32) → Prop} {K : Nat} {P : (Nat → Int32) → Prop} (hq : RR K 198 0 [some (.ref 146), some (.int (nI 0))] [] g A (fun v g' A' => v = none ∧ A' = A ∧ P g')) (hk : ∀ g1, P g1 → RR (K + 1) 197 5 [some (.ref 146)] [] g1 A Q) : RR (K + 1) 197 0 [some (.ref 146)] [] g A Q := by
  refine rr_nx (pc' := 1) (al' := [some (.ref 146)]) (st' := [.ref 146]) d_197_0 (fun _ => rfl) ?_
  refine rn_ic (v := 0) d_197_1 (by decide) ?_
  refine rr_cv (as := [.int (nI 0)]) (al0 := [some (.ref 146), some (.int (nI 0))]) (r := []) d_197_2 mo_197 ml_176 mz_198 rfl rfl rfl (rr_wk (Nat.le_refl _) (hq)) (fun v1 g1 A1 h1 => ?_)
  obtain ⟨q0_, q1_, h1⟩ := h1
  obtain rfl := q0_
  obtain rfl := q1_.symm
  show RR _ _ 5 [some (.ref 146)] [] g1 A _
  exact hk g1 h1
theorem s_pt_f {g : Nat → Int32} {A : Nat → Nat → Int32} {d : Nat} (hf : ¬ g 21 = -1) : RR 1 199 0 [some (.ref 146), some (.int (nI d)), none] [] g A (rP none g A) := by
  refine rr_nx (pc' := 1) (al' := [some (.ref 146), some (.int (nI d)), none]) (st' := [.ref 146]) d_199_0 (fun _ => rfl) ?_
  refine rr_pv (as := []) (al0 := [some (.ref 146)]) (r := []) d_199_1 mo_199 ml_156 mz_200 rfl rfl rfl (Nat.le_of_ble_eq_true rfl) (s_fine) ?_
  show RR _ _ 4 [some (.ref 146), some (.int (nI d)), none] [.int (bI ((g 21) = -1))] g A _
  refine rr_bne (t := 8) d_199_4 (by decide) (fun c4 => ?_) (fun c4 => ?_)
  · exact absurd c4 hf
  · exact rr_rv d_199_7 mr_199 ⟨rfl, rfl, rfl⟩
theorem s_tm_f {g : Nat → Int32} {A : Nat → Nat → Int32} {d : Nat} (hf : ¬ g 21 = -1) : RR 2 198 0 [some (.ref 146), some (.int (nI d))] [] g A (rP none g A) := by
  refine rr_nx (pc' := 1) (al' := [some (.ref 146), some (.int (nI d))]) (st' := [.ref 146]) d_198_0 (fun _ => rfl) ?_
  refine rr_nx (pc' := 2) (al' := [some (.ref 146), some (.int (nI d))]) (st' := [.int (nI d), .ref 146]) d_198_1 (fun _ => rfl) ?_
  refine rr_pv (as := [.int (nI d)]) (al0 := [some (.ref 146), some (.int (nI d)), none]) (r := []) d_198_2 mo_198 ml_183 mz_199 rfl rfl rfl (by omega) (s_pt_f hf) ?_
  show RR _ _ 5 [some (.ref 146), some (.int (nI d))] [] g A _
  refine rr_nx (pc' := 6) (al' := [some (.ref 146), some (.int (nI d))]) (st' := [.ref 146]) d_198_5 (fun _ => rfl) ?_
  refine rn_bp (v := 42) d_198_6 (by decide) ?_
  refine rr_ps (as := [.int (nI 42)]) (al0 := [some (.int (nI 42))]) (r := [.ref 146]) d_198_8 mo_198 ml_172 mz_201 rfl rfl rfl (Nat.le_of_ble_eq_true rfl) (s_sign) ?_
  show RR _ _ 11 [some (.ref 146), some (.int (nI d))] [.int (nI 142), .ref 146] g A _
  refine rr_pv (as := [.int (nI 142)]) (al0 := [some (.ref 146), some (.int (nI 142)), none]) (r := []) d_198_11 mo_198 ml_163 mz_204 rfl rfl rfl (by omega) (s_takes0_f hf) ?_
  show RR _ _ 14 [some (.ref 146), some (.int (nI d))] [.int (nI 0)] g A _
  refine rn_ine (t := 41) d_198_14 (by decide) (by first | omega | assumption | exact cu_36 (by omega) (cu_lt (by omega) (by omega))) (fun c14 => ?_) (fun c14 => ?_)
  · omega
  · refine rr_nx (pc' := 18) (al' := [some (.ref 146), some (.int (nI d))]) (st' := [.ref 146]) d_198_17 (fun _ => rfl) ?_
    refine rn_bp (v := 47) d_198_18 (by decide) ?_
    refine rr_ps (as := [.int (nI 47)]) (al0 := [some (.int (nI 47))]) (r := [.ref 146]) d_198_20 mo_198 ml_172 mz_201 rfl rfl rfl (Nat.le_of_ble_eq_true rfl) (s_sign) ?_
    show RR _ _ 23 [some (.ref 146), some (.int (nI d))] [.int (nI 147), .ref 146] g A _
    refine rr_pv (as := [.int (nI 147)]) (al0 := [some (.ref 146), some (.int (nI 147)), none]) (r := []) d_198_23 mo_198 ml_163 mz_204 rfl rfl rfl (by omega) (s_takes0_f hf) ?_
    show RR _ _ 26 [some (.ref 146), some (.int (nI d))] [.int (nI 0)] g A _
    refine rn_ine (t := 41) d_198_26 (by decide) (by first | omega | assumption | exact cu_36 (by omega) (cu_lt (by omega) (by omega))) (fun c26 => ?_) (fun c26 => ?_)
    · omega
    · refine rr_nx (pc' := 30) (al' := [some (.ref 146), some (.int (nI d))]) (st' := [.ref 146]) d_198_29 (fun _ => rfl) ?_
      refine rn_bp (v := 92) d_198_30 (by decide) ?_
      refine rr_ps (as := [.int (nI 92)]) (al0 := [some (.int (nI 92))]) (r := [.ref 146]) d_198_32 mo_198 ml_172 mz_201 rfl rfl rfl (Nat.le_of_ble_eq_true rfl) (s_sign) ?_
      show RR _ _ 35 [some (.ref 146), some (.int (nI d))] [.int (nI 192), .ref 146] g A _
      refine rr_pv (as := [.int (nI 192)]) (al0 := [some (.ref 146), some (.int (nI 192)), none]) (r := []) d_198_35 mo_198 ml_163 mz_204 rfl rfl rfl (by omega) (s_takes0_f hf) ?_
      show RR _ _ 38 [some (.ref 146), some (.int (nI d))] [.int (nI 0)] g A _
      refine rn_ieq (t := 49) d_198_38 (by decide) (by first | omega | assumption | exact cu_36 (by omega) (cu_lt (by omega) (by omega))) (fun c38 => ?_) (fun c38 => ?_)
      · exact rr_rv d_198_49 mr_198 ⟨rfl, rfl, rfl⟩
      · omega
theorem s_eq5_t {g : Nat → Int32} {A : Nat → Nat → Int32} {Q : Option Value → (Nat → Int32) → (Nat → Nat → Int32) → Prop} {K : Nat} {P : (Nat → Int32) → Prop} {j k : Nat} (h19 : g 19 = nI j) (hj : j ≤ 400) (hf : g 21 = -1) (hk9 : A 9 j = nI k) (hk3 : k < 2 ^ 31) (hop : k = 161) (hq : RR (K + 2) 198 0 [some (.ref 146), some (.int (nI 0))] [] (upd g 19 (nI (j + 1))) A (fun v g' A' => v = none ∧ A' = A ∧ P g')) (hk : ∀ g1, P g1 → Q none g1 A) : RR (K + 3) 197 5 [some (.ref 146)] [] g A Q := by
  refine rr_nx (pc' := 6) (al' := [some (.ref 146)]) (st' := [.ref 146]) d_197_5 (fun _ => rfl) ?_
  refine rn_bp (v := 61) d_197_6 (by decide) ?_
  refine rr_ps (as := [.int (nI 61)]) (al0 := [some (.int (nI 61))]) (r := [.ref 146]) d_197_8 mo_197 ml_172 mz_201 rfl rfl rfl (Nat.le_of_ble_eq_true rfl) (s_sign) ?_
  show RR _ _ 11 [some (.ref 146)] [.int (nI 161), .ref 146] g A _
  refine rr_pv (as := [.int (nI 161)]) (al0 := [some (.ref 146), some (.int (nI 161))]) (r := []) d_197_11 mo_197 ml_180 mz_203 rfl rfl rfl (by omega) (s_must_t h19 hj hf hk9 hk3 (by decide) (by omega)) ?_
  show RR _ _ 14 [some (.ref 146)] [] (upd g 19 (nI (j + 1))) A _
  refine rr_nx (pc' := 15) (al' := [some (.ref 146)]) (st' := [.ref 146]) d_197_14 (fun _ => rfl) ?_
  refine rn_ic (v := 0) d_197_15 (by decide) ?_
  refine rr_cv (as := [.int (nI 0)]) (al0 := [some (.ref 146), some (.int (nI 0))]) (r := []) d_197_16 mo_197 ml_176 mz_198 rfl rfl rfl (rr_wk (Nat.le_refl _) (hq)) (fun v1 g1 A1 h1 => ?_)
  obtain ⟨q0_, q1_, h1⟩ := h1
  obtain rfl := q0_
  obtain rfl := q1_.symm
  show RR _ _ 19 [some (.ref 146)] [] g1 A _
  exact rr_rv d_197_19 mr_197 (hk g1 h1)
theorem s_eq5_n {g : Nat → Int32} {A : Nat → Nat → Int32}  {j k : Nat} (h19 : g 19 = nI j) (hj : j ≤ 400) (hf : g 21 = -1) (hk9 : A 9 j = nI k) (hk3 : k < 2 ^ 31) {p : Nat} (hp : A 11 j = nI p) (hp4 : p ≤ 400) (hop : ¬ k = 161) : RR (3) 197 5 [some (.ref 146)] [] g A (rP none (upd g 21 (nI p)) A) := by
  refine rr_nx (pc' := 6) (al' := [some (.ref 146)]) (st' := [.ref 146]) d_197_5 (fun _ => rfl) ?_
  refine rn_bp (v := 61) d_197_6 (by decide) ?_
  refine rr_ps (as := [.int (nI 61)]) (al0 := [some (.int (nI 61))]) (r := [.ref 146]) d_197_8 mo_197 ml_172 mz_201 rfl rfl rfl (Nat.le_of_ble_eq_true rfl) (s_sign) ?_
  show RR _ _ 11 [some (.ref 146)] [.int (nI 161), .ref 146] g A _
  refine rr_pv (as := [.int (nI 161)]) (al0 := [some (.ref 146), some (.int (nI 161))]) (r := []) d_197_11 mo_197 ml_180 mz_203 rfl rfl rfl (by omega) (s_must_n h19 hj hf hk9 hk3 (by decide) hp (by omega)) ?_
  show RR _ _ 14 [some (.ref 146)] [] (upd g 21 (nI p)) A _
  refine rr_nx (pc' := 15) (al' := [some (.ref 146)]) (st' := [.ref 146]) d_197_14 (fun _ => rfl) ?_
  refine rn_ic (v := 0) d_197_15 (by decide) ?_
  refine rr_pv (as := [.int (nI 0)]) (al0 := [some (.ref 146), some (.int (nI 0))]) (r := []) d_197_16 mo_197 ml_176 mz_198 rfl rfl rfl (by omega) (s_tm_f (by rw [pk_us]; exact bad_ne hp4)) ?_
  show RR _ _ 19 [some (.ref 146)] [] (upd g 21 (nI p)) A _
  exact rr_rv d_197_19 mr_197 ⟨rfl, rfl, rfl⟩
theorem s_eq5_f {g : Nat → Int32} {A : Nat → Nat → Int32}  (hf : ¬ g 21 = -1) : RR (3) 197 5 [some (.ref 146)] [] g A (rP none g A) := by
  refine rr_nx (pc' := 6) (al' := [some (.ref 146)]) (st' := [.ref 146]) d_197_5 (fun _ => rfl) ?_
  refine rn_bp (v := 61) d_197_6 (by decide) ?_
  refine rr_ps (as := [.int (nI 61)]) (al0 := [some (.int (nI 61))]) (r := [.ref 146]) d_197_8 mo_197 ml_172 mz_201 rfl rfl rfl (Nat.le_of_ble_eq_true rfl) (s_sign) ?_
  show RR _ _ 11 [some (.ref 146)] [.int (nI 161), .ref 146] g A _
  refine rr_pv (as := [.int (nI 161)]) (al0 := [some (.ref 146), some (.int (nI 161))]) (r := []) d_197_11 mo_197 ml_180 mz_203 rfl rfl rfl (by omega) (s_must_f hf) ?_
  show RR _ _ 14 [some (.ref 146)] [] g A _
  refine rr_nx (pc' := 15) (al' := [some (.ref 146)]) (st' := [.ref 146]) d_197_14 (fun _ => rfl) ?_
  refine rn_ic (v := 0) d_197_15 (by decide) ?_
  refine rr_pv (as := [.int (nI 0)]) (al0 := [some (.ref 146), some (.int (nI 0))]) (r := []) d_197_16 mo_197 ml_176 mz_198 rfl rfl rfl (by omega) (s_tm_f hf) ?_
  show RR _ _ 19 [some (.ref 146)] [] g A _
  exact rr_rv d_197_19 mr_197 ⟨rfl, rfl, rfl⟩
def EqC (cod plc : Nat → Nat) (N F : Nat) : Prop := ∀ {g : Nat → Int32} {A : Nat → Nat → Int32} {s : LSt}, TkA cod plc N A → FnG g s → s.1 ≤ N → s.2.1 ≤ 32 → RR 21 197 0 [some (.ref 146)] [] g A (RdR plc g A (eqn cod F s))
theorem s_readEquation {cod plc : Nat → Nat} {N F : Nat} (hFN : N < F) : EqC cod plc N F := by
  intro g A s hT hF h1 h2
  have hTm : TmC cod plc N F 8 := (s_reads hFN 8 (Nat.le_refl 8)).2
  have hok := tr8_ok (F := F) (e := 8) hT.2.1 s h1 h2
  have hrun := hTm hT hF h1 h2
  unfold eqn
  rcases hr : trm cod F (prt cod F 8) s with ⟨b, u⟩
  rw [hr] at hok hrun
  obtain ⟨o1, o2, o3, o4, o5, o6⟩ := hok
  dsimp only at o1 o2 o3 o4 o5 o6
  obtain ⟨r1, r2, r3, r4⟩ := hT.2.2 u.1 o2
  have hN := hT.1
  refine s_eq_0 (K := 20) (P := fun g' => (∀ k, k ≠ 19 → k ≠ 21 → k ≠ 22 → g' k = g k) ∧ g' 19 = nI u.1 ∧ (b = true → g' 21 = -1 ∧ g' 22 = nI u.2.1) ∧ (b = false → g' 21 = nI (plc u.1))) (rr_cq hrun (fun r g' A' h => ⟨h.1, h.2.1, h.2.2⟩)) ?_
  rintro g1 ⟨k1, k2, k3, k4⟩
  cases b
  · refine rr_wk (by omega) (rr_cq (s_eq5_f (by rw [k4 rfl]; exact bad_ne r4)) ?_)
    rintro r g' A' ⟨rfl, rfl, rfl⟩
    exact ⟨rfl, rfl, k1, k2, fun q => absurd (show false = true from q) (by decide), fun _ => k4 rfl⟩
  · dsimp only
    by_cases hc : cod u.1 = 161
    · rw [if_pos hc]
      have hlt := cd_in hT.2.1 o2 (by omega)
      have hok2 := tr8_ok (F := F) (e := 8) hT.2.1 (u.1 + 1, u.2.1, u.2.2) (by show u.1 + 1 ≤ N; omega) o5
      have hrun2 := hTm (s := (u.1 + 1, u.2.1, u.2.2)) hT (g := upd g1 19 (nI (u.1 + 1))) ⟨by rw [pk_un (by decide)]; exact (k3 rfl).1, pk_us, by rw [pk_un (by decide)]; exact (k3 rfl).2⟩ (by show u.1 + 1 ≤ N; omega) o5
      rcases hr2 : trm cod F (prt cod F 8) (u.1 + 1, u.2.1, u.2.2) with ⟨b2, v⟩
      rw [hr2] at hok2 hrun2
      refine s_eq5_t (K := 18) (P := fun g' => (∀ k, k ≠ 19 → k ≠ 21 → k ≠ 22 → g' k = upd g1 19 (nI (u.1 + 1)) k) ∧ g' 19 = nI v.1 ∧ (b2 = true → g' 21 = -1 ∧ g' 22 = nI v.2.1) ∧ (b2 = false → g' 21 = nI (plc v.1))) k2 (by omega) (k3 rfl).1 r1 (by omega) hc (rr_cq hrun2 (fun r g' A' h => ⟨h.1, h.2.1, h.2.2⟩)) ?_
      rintro g2 ⟨m1, m2, m3, m4⟩
      have mf : FrG g g2 := fun k a b c => by rw [m1 k a b c, pk_un a, k1 k a b c]
      cases b2
      · exact ⟨rfl, rfl, mf, m2, fun q => absurd (show false = true from q) (by decide), fun _ => m4 rfl⟩
      · exact ⟨rfl, rfl, mf, m2, fun _ => m3 rfl, fun q => absurd (show true = false from q) (by decide)⟩
    · rw [if_neg hc]
      refine rr_wk (by omega) (rr_cq (s_eq5_n k2 (by omega) (k3 rfl).1 r1 (by omega) r2 r4 hc) ?_)
      rintro r g' A' ⟨rfl, rfl, rfl⟩
      exact ⟨rfl, rfl, fun k a b c => by rw [pk_un b, k1 k a b c], by rw [pk_un (by decide)]; exact k2, fun q => absurd (show false = true from q) (by decide), fun _ => by rw [pk_us]⟩
theorem s_sd_0 {g : Nat → Int32} {A : Nat → Nat → Int32} {Q : Option Value → (Nat → Int32) → (Nat → Nat → Int32) → Prop} {K : Nat} {P : (Nat → Int32) → Prop} (hq : RR K 197 0 [some (.ref 146)] [] g A (fun v g' A' => v = none ∧ A' = A ∧ P g')) (hk : ∀ g1, P g1 → RR (K + 1) 196 4 [some (.ref 146)] [] g1 A Q) : RR (K + 1) 196 0 [some (.ref 146)] [] g A Q := by
  refine rr_nx (pc' := 1) (al' := [some (.ref 146)]) (st' := [.ref 146]) d_196_0 (fun _ => rfl) ?_
  refine rr_cv (as := []) (al0 := [some (.ref 146)]) (r := []) d_196_1 mo_196 ml_169 mz_197 rfl rfl rfl (rr_wk (Nat.le_refl _) (hq)) (fun v1 g1 A1 h1 => ?_)
  obtain ⟨q0_, q1_, h1⟩ := h1
  obtain rfl := q0_
  obtain rfl := q1_.symm
  show RR _ _ 4 [some (.ref 146)] [] g1 A _
  exact hk g1 h1
theorem s_sd4_f {g : Nat → Int32} {A : Nat → Nat → Int32}  (hf : ¬ g 21 = -1) : RR (2) 196 4 [some (.ref 146)] [] g A (rP none g A) := by
  refine rr_nx (pc' := 5) (al' := [some (.ref 146)]) (st' := [.ref 146]) d_196_4 (fun _ => rfl) ?_
  refine rn_bp (v := 44) d_196_5 (by decide) ?_
  refine rr_ps (as := [.int (nI 44)]) (al0 := [some (.int (nI 44))]) (r := [.ref 146]) d_196_7 mo_196 ml_172 mz_201 rfl rfl rfl (Nat.le_of_ble_eq_true rfl) (s_sign) ?_
  show RR _ _ 10 [some (.ref 146)] [.int (nI 144), .ref 146] g A _
  refine rr_pv (as := [.int (nI 144)]) (al0 := [some (.ref 146), some (.int (nI 144)), none]) (r := []) d_196_10 mo_196 ml_163 mz_204 rfl rfl rfl (by omega) (s_takes0_f hf) ?_
  show RR _ _ 13 [some (.ref 146)] [.int (nI 0)] g A _
  refine rn_ieq (t := 23) d_196_13 (by decide) (by first | omega | assumption | exact cu_36 (by omega) (cu_lt (by omega) (by omega))) (fun c13 => ?_) (fun c13 => ?_)
  · exact rr_rv d_196_23 mr_196 ⟨rfl, rfl, rfl⟩
  · omega
theorem s_sd4_n {g : Nat → Int32} {A : Nat → Nat → Int32}  {j k : Nat} (h19 : g 19 = nI j) (hj : j ≤ 400) (hf : g 21 = -1) (hk9 : A 9 j = nI k) (hk3 : k < 2 ^ 31) (hop : ¬ k = 144) : RR (2) 196 4 [some (.ref 146)] [] g A (rP none g A) := by
  refine rr_nx (pc' := 5) (al' := [some (.ref 146)]) (st' := [.ref 146]) d_196_4 (fun _ => rfl) ?_
  refine rn_bp (v := 44) d_196_5 (by decide) ?_
  refine rr_ps (as := [.int (nI 44)]) (al0 := [some (.int (nI 44))]) (r := [.ref 146]) d_196_7 mo_196 ml_172 mz_201 rfl rfl rfl (Nat.le_of_ble_eq_true rfl) (s_sign) ?_
  show RR _ _ 10 [some (.ref 146)] [.int (nI 144), .ref 146] g A _
  refine rr_pv (as := [.int (nI 144)]) (al0 := [some (.ref 146), some (.int (nI 144)), none]) (r := []) d_196_10 mo_196 ml_163 mz_204 rfl rfl rfl (by omega) (s_takes0_n h19 hj hf hk9 hk3 (by decide) (by omega)) ?_
  show RR _ _ 13 [some (.ref 146)] [.int (nI 0)] g A _
  refine rn_ieq (t := 23) d_196_13 (by decide) (by first | omega | assumption | exact cu_36 (by omega) (cu_lt (by omega) (by omega))) (fun c13 => ?_) (fun c13 => ?_)
  · exact rr_rv d_196_23 mr_196 ⟨rfl, rfl, rfl⟩
  · omega
theorem s_sd4_o {g : Nat → Int32} {A : Nat → Nat → Int32} {Q : Option Value → (Nat → Int32) → (Nat → Nat → Int32) → Prop} {K : Nat} {P : (Nat → Int32) → Prop} {j k : Nat} (h19 : g 19 = nI j) (hj : j ≤ 400) (hf : g 21 = -1) (hk9 : A 9 j = nI k) (hk3 : k < 2 ^ 31) (hop : k = 144) (hq : RR (K + 1) 197 0 [some (.ref 146)] [] (upd g 19 (nI (j + 1))) A (fun v g' A' => v = none ∧ A' = A ∧ P g')) (hk : ∀ g1, P g1 → RR (K + 2) 196 4 [some (.ref 146)] [] g1 A Q) : RR (K + 2) 196 4 [some (.ref 146)] [] g A Q := by
  refine rr_nx (pc' := 5) (al' := [some (.ref 146)]) (st' := [.ref 146]) d_196_4 (fun _ => rfl) ?_
  refine rn_bp (v := 44) d_196_5 (by decide) ?_
  refine rr_ps (as := [.int (nI 44)]) (al0 := [some (.int (nI 44))]) (r := [.ref 146]) d_196_7 mo_196 ml_172 mz_201 rfl rfl rfl (Nat.le_of_ble_eq_true rfl) (s_sign) ?_
  show RR _ _ 10 [some (.ref 146)] [.int (nI 144), .ref 146] g A _
  refine rr_pv (as := [.int (nI 144)]) (al0 := [some (.ref 146), some (.int (nI 144)), none]) (r := []) d_196_10 mo_196 ml_163 mz_204 rfl rfl rfl (by omega) (s_takes0_t h19 hj hf hk9 hk3 (by decide) (by omega)) ?_
  show RR _ _ 13 [some (.ref 146)] [.int (nI 1)] (upd g 19 (nI (j + 1))) A _
  refine rn_ieq (t := 23) d_196_13 (by decide) (by first | omega | assumption | exact cu_36 (by omega) (cu_lt (by omega) (by omega))) (fun c13 => ?_) (fun c13 => ?_)
  · omega
  · refine rr_nx (pc' := 17) (al' := [some (.ref 146)]) (st' := [.ref 146]) d_196_16 (fun _ => rfl) ?_
    refine rr_cv (as := []) (al0 := [some (.ref 146)]) (r := []) d_196_17 mo_196 ml_169 mz_197 rfl rfl rfl (rr_wk (Nat.le_refl _) (hq)) (fun v1 g1 A1 h1 => ?_)
    obtain ⟨q0_, q1_, h1⟩ := h1
    obtain rfl := q0_
    obtain rfl := q1_.symm
    show RR _ _ 20 [some (.ref 146)] [] g1 A _
    refine rr_nx (pc' := 4) (al' := [some (.ref 146)]) (st' := []) d_196_20 (fun _ => rfl) ?_
    exact hk g1 h1
theorem sdR_s {cod : Nat → Nat} {F f : Nat} {s : LSt} (h : cod s.1 = 144) : sdR cod F (f + 1) s = match eqn cod F (s.1 + 1, s.2.1, s.2.2) with
    | (true, u) => sdR cod F f u
    | (false, u) => (false, u) := by
  conv => lhs; unfold sdR
  rw [if_pos h]
  rfl
theorem sdR_n {cod : Nat → Nat} {F f : Nat} {s : LSt} (h : ¬ cod s.1 = 144) : sdR cod F f s = (true, s) := by
  cases f with
  | zero => rfl
  | succ f => unfold sdR; rw [if_neg h]
theorem s_sd_loop {cod plc : Nat → Nat} {N F : Nat} (hP : EqC cod plc N F) : ∀ (f : Nat) {g : Nat → Int32} {A : Nat → Nat → Int32} {s : LSt}, TkA cod plc N A → FnG g s → s.1 ≤ N → s.2.1 ≤ 32 → N < s.1 + f → RR 22 196 4 [some (.ref 146)] [] g A (RdR plc g A (sdR cod F f s))
  | 0, g, A, s, hT, hF, h1, h2, h3 => by omega
  | f + 1, g, A, s, hT, hF, h1, h2, h3 => by
    obtain ⟨r1, r2, r3, r4⟩ := hT.2.2 s.1 h1
    have hN := hT.1
    by_cases hop : cod s.1 = 144
    · have hlt := cd_in hT.2.1 h1 (by omega)
      rw [sdR_s hop]
      have hok := eqn_ok (F := F) hT.2.1 (s.1 + 1, s.2.1, s.2.2) (by show s.1 + 1 ≤ N; omega) h2
      have hrun := hP (s := (s.1 + 1, s.2.1, s.2.2)) hT (g := upd g 19 (nI (s.1 + 1))) ⟨by rw [pk_un (by decide)]; exact hF.1, pk_us, by rw [pk_un (by decide)]; exact hF.2.2⟩ (by show s.1 + 1 ≤ N; omega) h2
      rcases hr : eqn cod F (s.1 + 1, s.2.1, s.2.2) with ⟨b, u⟩
      rw [hr] at hok hrun
      obtain ⟨o1, o2, o3, o4, o5, o6⟩ := hok
      dsimp only at o1 o2 o3 o4 o5 o6
      refine s_sd4_o (K := 20) (P := fun g' => (∀ k, k ≠ 19 → k ≠ 21 → k ≠ 22 → g' k = upd g 19 (nI (s.1 + 1)) k) ∧ g' 19 = nI u.1 ∧ (b = true → g' 21 = -1 ∧ g' 22 = nI u.2.1) ∧ (b = false → g' 21 = nI (plc u.1))) hF.2.1 (by omega) hF.1 r1 (by omega) hop (rr_cq hrun (fun r g' A' h => ⟨h.1, h.2.1, h.2.2⟩)) ?_
      rintro g1 ⟨k1, k2, k3, k4⟩
      have kf : FrG g g1 := fun k a b c => by rw [k1 k a b c, pk_un a]
      cases b
      · refine rr_wk (by omega) (rr_cq (s_sd4_f (by rw [k4 rfl]; exact bad_ne (hT.2.2 u.1 o2).2.2.2)) ?_)
        rintro r g' A' ⟨rfl, rfl, rfl⟩
        exact ⟨rfl, rfl, kf, k2, fun q => absurd (show false = true from q) (by decide), fun _ => k4 rfl⟩
      · have o3 := o3 rfl
        exact rr_cq (s_sd_loop hP f (s := u) hT ⟨(k3 rfl).1, k2, (k3 rfl).2⟩ o2 o5 (by omega)) (fun r g' A' h => RdR.tr kf h)
    · rw [sdR_n hop]
      refine rr_wk (by omega) (rr_cq (s_sd4_n hF.2.1 (by omega) hF.1 r1 (by omega) hop) ?_)
      rintro r g' A' ⟨rfl, rfl, rfl⟩
      exact ⟨rfl, rfl, fun k _ _ _ => rfl, hF.2.1, fun _ => ⟨hF.1, hF.2.2⟩, fun q => absurd (show true = false from q) (by decide)⟩
theorem sdR_ok {cod : Nat → Nat} {N F : Nat} (hE : CdE cod N) : ∀ f s, s.1 ≤ N → s.2.1 ≤ 32 → s.1 ≤ (sdR cod F f s).2.1 ∧ (sdR cod F f s).2.1 ≤ N ∧ s.2.1 ≤ (sdR cod F f s).2.2.1 ∧ (sdR cod F f s).2.2.1 ≤ 32 ∧ ((sdR cod F f s).1 = true → (sdR cod F f s).2.2.2.length + 2 * s.2.1 ≤ s.2.2.length + 2 * (sdR cod F f s).2.2.1)
  | 0, s, h1, h2 => ⟨Nat.le_refl _, h1, Nat.le_refl _, h2, fun _ => Nat.le_refl _⟩
  | f + 1, s, h1, h2 => by
    by_cases hop : cod s.1 = 144
    · have hlt := cd_in hE h1 (by omega)
      rw [sdR_s hop]
      have hok := eqn_ok (F := F) hE (s.1 + 1, s.2.1, s.2.2) (by show s.1 + 1 ≤ N; omega) h2
      rcases hr : eqn cod F (s.1 + 1, s.2.1, s.2.2) with ⟨b, u⟩
      rw [hr] at hok
      obtain ⟨o1, o2, o3, o4, o5, o6⟩ := hok
      dsimp only at o1 o2 o3 o4 o5 o6
      cases b
      · exact ⟨by dsimp only; omega, o2, o4, o5, fun e => absurd (show false = true from e) (by decide)⟩
      · obtain ⟨i1, i2, i3, i4, i5⟩ := sdR_ok hE f u o2 o5
        have o6 := o6 rfl
        exact ⟨by dsimp only; omega, i2, by dsimp only; omega, i4, fun e => by have := i5 e; dsimp only; omega⟩
    · rw [sdR_n hop]
      exact ⟨Nat.le_refl _, h1, Nat.le_refl _, h2, fun _ => Nat.le_refl _⟩
def SdC (cod plc : Nat → Nat) (N F : Nat) : Prop := ∀ {g : Nat → Int32} {A : Nat → Nat → Int32} {s : LSt}, TkA cod plc N A → FnG g s → s.1 ≤ N → s.2.1 ≤ 32 → RR 22 196 0 [some (.ref 146)] [] g A (RdR plc g A (sid cod F s))
theorem s_readSide {cod plc : Nat → Nat} {N F : Nat} (hFN : N < F) : SdC cod plc N F := by
  intro g A s hT hF h1 h2
  have hEq : EqC cod plc N F := s_readEquation hFN
  have hok := eqn_ok (F := F) hT.2.1 s h1 h2
  have hrun := hEq hT hF h1 h2
  unfold sid
  rcases hr : eqn cod F s with ⟨b, u⟩
  rw [hr] at hok hrun
  obtain ⟨o1, o2, o3, o4, o5, o6⟩ := hok
  dsimp only at o1 o2 o3 o4 o5 o6
  refine s_sd_0 (K := 21) (P := fun g' => (∀ k, k ≠ 19 → k ≠ 21 → k ≠ 22 → g' k = g k) ∧ g' 19 = nI u.1 ∧ (b = true → g' 21 = -1 ∧ g' 22 = nI u.2.1) ∧ (b = false → g' 21 = nI (plc u.1))) (rr_cq hrun (fun r g' A' h => ⟨h.1, h.2.1, h.2.2⟩)) ?_
  rintro g1 ⟨k1, k2, k3, k4⟩
  cases b
  · refine rr_wk (by omega) (rr_cq (s_sd4_f (by rw [k4 rfl]; exact bad_ne (hT.2.2 u.1 o2).2.2.2)) ?_)
    rintro r g' A' ⟨rfl, rfl, rfl⟩
    exact ⟨rfl, rfl, k1, k2, fun q => absurd (show false = true from q) (by decide), fun _ => k4 rfl⟩
  · exact rr_cq (s_sd_loop hEq F hT ⟨(k3 rfl).1, k2, (k3 rfl).2⟩ o2 o5 (by omega)) (fun r g' A' h => RdR.tr k1 h)
theorem sid_ok {cod : Nat → Nat} {N F : Nat} (hE : CdE cod N) (s : LSt) (h1 : s.1 ≤ N) (h2 : s.2.1 ≤ 32) : s.1 ≤ (sid cod F s).2.1 ∧ (sid cod F s).2.1 ≤ N ∧ s.2.1 ≤ (sid cod F s).2.2.1 ∧ (sid cod F s).2.2.1 ≤ 32 ∧ ((sid cod F s).1 = true → (sid cod F s).2.2.2.length + 2 * s.2.1 + 1 ≤ s.2.2.length + 2 * (sid cod F s).2.2.1) := by
  unfold sid
  have hok := eqn_ok (F := F) hE s h1 h2
  rcases hr : eqn cod F s with ⟨b, u⟩
  rw [hr] at hok
  obtain ⟨o1, o2, o3, o4, o5, o6⟩ := hok
  dsimp only at o1 o2 o3 o4 o5 o6
  cases b
  · exact ⟨o1, o2, o4, o5, fun e => absurd (show false = true from e) (by decide)⟩
  · obtain ⟨i1, i2, i3, i4, i5⟩ := sdR_ok (F := F) hE F u o2 o5
    have o6 := o6 rfl
    exact ⟨by dsimp only; omega, i2, by dsimp only; omega, i4, fun e => by have := i5 e; dsimp only; omega⟩
