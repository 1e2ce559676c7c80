/-! Laws: the reference reckons; printed by wip/whole/gen_c04.py. -/
/-- the law l of N tokens stands in kept, letters have values, a table is laid -/
def EvH (l N n : Nat) (cod vl c : Nat → Nat) (g : Nat → Int32) (A : Nat → Nat → Int32) : Prop := g 25 = nI (400 * l + N) ∧ Cur g A n c ∧ (l < 8 ∧ N ≤ 400 ∧ cod N = 0) ∧ (∀ j, j < N → A 1 (2520 + (400 * l + j)) = nI (cod j)) ∧ (∀ j, cod j < 400) ∧ (∀ k, k ≤ 3 → A 12 (k + 1) = nI (vl k)) ∧ ∀ k, vl k < n
theorem EvH.u {l N n : Nat} {cod vl c : Nat → Nat} {g : Nat → Int32} {A : Nat → Nat → Int32} {v : Int32} (h : EvH l N n cod vl c g A) : EvH l N n cod vl c (upd g 24 v) A := ⟨by rw [pk_un (by decide)]; exact h.1, h.2.1.ug (by decide), h.2.2⟩
theorem s_codeAt {g : Nat → Int32} {A : Nat → Nat → Int32} {l N n : Nat} {cod vl c : Nat → Nat} (hE : EvH l N n cod vl c g A) {j : Nat} (hj : j ≤ N) : RR 0 218 0 [some (.ref 146), some (.int (nI (400 * l + j)))] [] g A (rP (some (.int (nI (cod j)))) g A) := by
  have hl8 := hE.2.2.1.1
  have hN4 := hE.2.2.1.2.1
  have hn6 := hE.2.1.2.1
  refine rr_nx (pc' := 1) (al' := [some (.ref 146), some (.int (nI (400 * l + j)))]) (st' := [.int (nI (400 * l + j))]) d_218_0 (fun _ => rfl) ?_
  refine rr_nx (pc' := 2) (al' := [some (.ref 146), some (.int (nI (400 * l + j)))]) (st' := [.ref 146, .int (nI (400 * l + j))]) d_218_1 (fun _ => rfl) ?_
  refine rr_gn d_218_2 mo_218 fl_195 rfl hE.1 ?_
  refine rn_cge (t := 21) d_218_5 (by decide) (by first | omega | assumption | exact cu_36 (by omega) (cu_lt (by omega) (by omega))) (by first | omega | assumption | exact cu_36 (by omega) (cu_lt (by omega) (by omega))) (fun c5 => ?_) (fun c5 => ?_)
  · refine rn_ic (v := 0) d_218_21 (by decide) ?_
    exact rr_ri d_218_22 mr_218 rfl ⟨by rw [show cod j = 0 by rw [show j = N by omega]; exact hE.2.2.1.2.2], rfl, rfl⟩
  · refine rr_nx (pc' := 9) (al' := [some (.ref 146), some (.int (nI (400 * l + j)))]) (st' := [.ref 146]) d_218_8 (fun _ => rfl) ?_
    refine rr_gf (v := .ref (147 + 1)) d_218_9 mo_218 fl_13 rfl ?_
    refine rn_sp (v := 2520) d_218_12 (by decide) ?_
    refine rr_nx (pc' := 16) (al' := [some (.ref 146), some (.int (nI (400 * l + j)))]) (st' := [.int (nI (400 * l + j)), .int (nI 2520), .ref (147 + 1)]) d_218_15 (fun _ => rfl) ?_
    refine rn_add d_218_16  ?_
    refine rr_ia (j := 1) (v := (nI (cod j))) d_218_17 (by decide) rfl (by decide) (show 2520 + (400 * l + j) < 5720 by first | omega | assumption | exact cu_36 (by omega) (cu_lt (by omega) (by omega))) (hE.2.2.2.1 j (by omega)) ?_
    refine rr_nx (pc' := 22) (al' := [some (.ref 146), some (.int (nI (400 * l + j)))]) (st' := [.int (nI (cod j))]) d_218_18 (fun _ => rfl) ?_
    exact rr_ri d_218_22 mr_218 rfl ⟨rfl, rfl, rfl⟩
theorem s_po_l {g : Nat → Int32} {A : Nat → Nat → Int32} {l N n : Nat} {cod vl c : Nat → Nat} (hE : EvH l N n cod vl c g A) {j : Nat} (h24 : g 24 = nI (400 * l + j)) (hj : j ≤ N) (hk : 1 ≤ cod j ∧ cod j ≤ 4) : RR 1 217 0 [some (.ref 146), none, none] [] g A (rP (some (.int (nI (vl (cod j - 1))))) (upd g 24 (nI (400 * l + j + 1))) A) := by
  have hl8 := hE.2.2.1.1
  have hN4 := hE.2.2.1.2.1
  have hn6 := hE.2.1.2.1
  refine rr_nx (pc' := 1) (al' := [some (.ref 146), none, none]) (st' := [.ref 146]) d_217_0 (fun _ => rfl) ?_
  refine rr_nx (pc' := 2) (al' := [some (.ref 146), none, none]) (st' := [.ref 146, .ref 146]) d_217_1 (fun _ => rfl) ?_
  refine rr_gn d_217_2 mo_217 fl_202 rfl h24 ?_
  refine rr_pv (as := [.int (nI (400 * l + j))]) (al0 := [some (.ref 146), some (.int (nI (400 * l + j)))]) (r := []) d_217_5 mo_217 ml_205 mz_218 rfl rfl rfl (by omega) (s_codeAt (j := j) hE hj) ?_
  show RR _ _ 8 [some (.ref 146), none, none] [.int (nI (cod j))] g A _
  have hk5 := hE.2.2.2.2.1 j
  refine rr_nx (pc' := 9) (al' := [some (.ref 146), some (.int (nI (cod j))), none]) (st' := []) d_217_8 (fun _ => rfl) ?_
  refine rr_nx (pc' := 10) (al' := [some (.ref 146), some (.int (nI (cod j))), none]) (st' := [.ref 146]) d_217_9 (fun _ => rfl) ?_
  refine rr_nx (pc' := 11) (al' := [some (.ref 146), some (.int (nI (cod j))), none]) (st' := [.ref 146, .ref 146]) d_217_10 (fun _ => rfl) ?_
  refine rr_gn d_217_11 mo_217 fl_202 rfl h24 ?_
  refine rn_ic (v := 1) d_217_14 (by decide) ?_
  refine rn_add d_217_15  ?_
  refine rp_24 d_217_16 mo_217 fl_202  ?_
  refine rr_nx (pc' := 20) (al' := [some (.ref 146), some (.int (nI (cod j))), none]) (st' := [.int (nI (cod j))]) d_217_19 (fun _ => rfl) ?_
  refine rn_bp (v := 40) d_217_20 (by decide) ?_
  refine rr_ps (as := [.int (nI 40)]) (al0 := [some (.int (nI 40))]) (r := [.int (nI (cod j))]) d_217_22 mo_217 ml_172 mz_201 rfl rfl rfl (by omega) (s_sign) ?_
  show RR _ _ 25 [some (.ref 146), some (.int (nI (cod j))), none] [.int (nI 140), .int (nI (cod j))] (upd g 24 (nI ((400 * l + j) + 1))) A _
  refine rn_ceq (t := 35) d_217_25 (by decide) (by first | omega | assumption | exact cu_36 (by omega) (cu_lt (by omega) (by omega))) (by first | omega | assumption | exact cu_36 (by omega) (cu_lt (by omega) (by omega))) (fun c25 => ?_) (fun c25 => ?_)
  · omega
  · refine rr_nx (pc' := 29) (al' := [some (.ref 146), some (.int (nI (cod j))), none]) (st' := [.ref 146]) d_217_28 (fun _ => rfl) ?_
    refine rr_gf (v := .ref (147 + 12)) d_217_29 mo_217 fl_52 rfl ?_
    refine rr_nx (pc' := 33) (al' := [some (.ref 146), some (.int (nI (cod j))), none]) (st' := [.int (nI (cod j)), .ref (147 + 12)]) d_217_32 (fun _ => rfl) ?_
    refine rr_ia (j := 12) (v := (nI (vl (cod j - 1)))) d_217_33 (by decide) rfl (by decide) (show cod j < 5 by first | omega | assumption | exact cu_36 (by omega) (cu_lt (by omega) (by omega))) (by have := hE.2.2.2.2.2.1 (cod j - 1) (by omega); rw [show cod j - 1 + 1 = cod j by omega] at this; exact this) ?_
    exact rr_ri d_217_34 mr_217 rfl ⟨rfl, rfl, rfl⟩
theorem s_po_b {g : Nat → Int32} {A : Nat → Nat → Int32} {l N n : Nat} {cod vl c : Nat → Nat} (hE : EvH l N n cod vl c g A) {j : Nat} (h24 : g 24 = nI (400 * l + j)) (hj : j ≤ N) {K p t : Nat} (hk : cod j = 140) (hq : RR K 216 0 [some (.ref 146), none, none, none] [] (upd g 24 (nI (400 * l + j + 1))) A (rP (some (.int (nI p))) (upd g 24 (nI (400 * l + t))) A)) : RR (K + 1) 217 0 [some (.ref 146), none, none] [] g A (rP (some (.int (nI p))) (upd g 24 (nI (400 * l + t + 1))) A) := by
  have hl8 := hE.2.2.1.1
  have hN4 := hE.2.2.1.2.1
  have hn6 := hE.2.1.2.1
  refine rr_nx (pc' := 1) (al' := [some (.ref 146), none, none]) (st' := [.ref 146]) d_217_0 (fun _ => rfl) ?_
  refine rr_nx (pc' := 2) (al' := [some (.ref 146), none, none]) (st' := [.ref 146, .ref 146]) d_217_1 (fun _ => rfl) ?_
  refine rr_gn d_217_2 mo_217 fl_202 rfl h24 ?_
  refine rr_pv (as := [.int (nI (400 * l + j))]) (al0 := [some (.ref 146), some (.int (nI (400 * l + j)))]) (r := []) d_217_5 mo_217 ml_205 mz_218 rfl rfl rfl (by omega) (s_codeAt (j := j) hE hj) ?_
  show RR _ _ 8 [some (.ref 146), none, none] [.int (nI (cod j))] g A _
  have hk5 := hE.2.2.2.2.1 j
  refine rr_nx (pc' := 9) (al' := [some (.ref 146), some (.int (nI (cod j))), none]) (st' := []) d_217_8 (fun _ => rfl) ?_
  refine rr_nx (pc' := 10) (al' := [some (.ref 146), some (.int (nI (cod j))), none]) (st' := [.ref 146]) d_217_9 (fun _ => rfl) ?_
  refine rr_nx (pc' := 11) (al' := [some (.ref 146), some (.int (nI (cod j))), none]) (st' := [.ref 146, .ref 146]) d_217_10 (fun _ => rfl) ?_
  refine rr_gn d_217_11 mo_217 fl_202 rfl h24 ?_
  refine rn_ic (v := 1) d_217_14 (by decide) ?_
  refine rn_add d_217_15  ?_
  refine rp_24 d_217_16 mo_217 fl_202  ?_
  refine rr_nx (pc' := 20) (al' := [some (.ref 146), some (.int (nI (cod j))), none]) (st' := [.int (nI (cod j))]) d_217_19 (fun _ => rfl) ?_
  refine rn_bp (v := 40) d_217_20 (by decide) ?_
  refine rr_ps (as := [.int (nI 40)]) (al0 := [some (.int (nI 40))]) (r := [.int (nI (cod j))]) d_217_22 mo_217 ml_172 mz_201 rfl rfl rfl (by omega) (s_sign) ?_
  show RR _ _ 25 [some (.ref 146), some (.int (nI (cod j))), none] [.int (nI 140), .int (nI (cod j))] (upd g 24 (nI ((400 * l + j) + 1))) A _
  refine rn_ceq (t := 35) d_217_25 (by decide) (by first | omega | assumption | exact cu_36 (by omega) (cu_lt (by omega) (by omega))) (by first | omega | assumption | exact cu_36 (by omega) (cu_lt (by omega) (by omega))) (fun c25 => ?_) (fun c25 => ?_)
  · refine rr_nx (pc' := 36) (al' := [some (.ref 146), some (.int (nI (cod j))), none]) (st' := [.ref 146]) d_217_35 (fun _ => rfl) ?_
    refine rr_pv (as := []) (al0 := [some (.ref 146), none, none, none]) (r := []) d_217_36 mo_217 ml_214 mz_216 rfl rfl rfl (Nat.le_refl _) (hq) ?_
    show RR _ _ 39 [some (.ref 146), some (.int (nI (cod j))), none] [.int (nI p)] (upd g 24 (nI (400 * l + t))) A _
    refine rr_nx (pc' := 40) (al' := [some (.ref 146), some (.int (nI (cod j))), some (.int (nI p))]) (st' := []) d_217_39 (fun _ => rfl) ?_
    refine rr_nx (pc' := 41) (al' := [some (.ref 146), some (.int (nI (cod j))), some (.int (nI p))]) (st' := [.ref 146]) d_217_40 (fun _ => rfl) ?_
    refine rr_nx (pc' := 42) (al' := [some (.ref 146), some (.int (nI (cod j))), some (.int (nI p))]) (st' := [.ref 146, .ref 146]) d_217_41 (fun _ => rfl) ?_
    refine rr_gf (v := .int (nI (400 * l + t))) d_217_42 mo_217 fl_202 rfl ?_
    refine rn_ic (v := 1) d_217_45 (by decide) ?_
    refine rn_add d_217_46  ?_
    refine rp_24 d_217_47 mo_217 fl_202  ?_
    refine rr_G (upd_u) ?_
    refine rr_nx (pc' := 51) (al' := [some (.ref 146), some (.int (nI (cod j))), some (.int (nI p))]) (st' := [.int (nI p)]) d_217_50 (fun _ => rfl) ?_
    exact rr_ri d_217_51 mr_217 rfl ⟨rfl, rfl, rfl⟩
  · omega
theorem s_te_0 {g : Nat → Int32} {A : Nat → Nat → Int32} {Q : Option Value → (Nat → Int32) → (Nat → Nat → Int32) → Prop} {l : Nat} {K p t : Nat} (hq : RR K 217 0 [some (.ref 146), none, none] [] g A (rP (some (.int (nI p))) (upd g 24 (nI (400 * l + t))) A)) (hk : RR (K + 1) 216 5 [some (.ref 146), some (.int (nI p)), none, none] [] (upd g 24 (nI (400 * l + t))) A Q) : RR (K + 1) 216 0 [some (.ref 146), none, none, none] [] g A Q := by
  refine rr_nx (pc' := 1) (al' := [some (.ref 146), none, none, none]) (st' := [.ref 146]) d_216_0 (fun _ => rfl) ?_
  refine rr_pv (as := []) (al0 := [some (.ref 146), none, none]) (r := []) d_216_1 mo_216 ml_198 mz_217 rfl rfl rfl (Nat.le_refl _) (hq) ?_
  show RR _ _ 4 [some (.ref 146), none, none, none] [.int (nI p)] (upd g 24 (nI (400 * l + t))) A _
  refine rr_nx (pc' := 5) (al' := [some (.ref 146), some (.int (nI p)), none, none]) (st' := []) d_216_4 (fun _ => rfl) ?_
  exact hk
theorem s_te_n {g : Nat → Int32} {A : Nat → Nat → Int32} {l N n : Nat} {cod vl c : Nat → Nat} (hE : EvH l N n cod vl c g A) {j : Nat} (h24 : g 24 = nI (400 * l + j)) (hj : j ≤ N) {p : Nat} (hop : ¬ cod j = 142 ∧ ¬ cod j = 147 ∧ ¬ cod j = 192) : RR 2 216 5 [some (.ref 146), some (.int (nI p)), none, none] [] g A (rP (some (.int (nI p))) g A) := by
  have hl8 := hE.2.2.1.1
  have hN4 := hE.2.2.1.2.1
  have hn6 := hE.2.1.2.1
  refine rr_nx (pc' := 6) (al' := [some (.ref 146), some (.int (nI p)), none, none]) (st' := [.ref 146]) d_216_5 (fun _ => rfl) ?_
  refine rr_nx (pc' := 7) (al' := [some (.ref 146), some (.int (nI p)), none, none]) (st' := [.ref 146, .ref 146]) d_216_6 (fun _ => rfl) ?_
  refine rr_gn d_216_7 mo_216 fl_202 rfl h24 ?_
  refine rr_pv (as := [.int (nI (400 * l + j))]) (al0 := [some (.ref 146), some (.int (nI (400 * l + j)))]) (r := []) d_216_10 mo_216 ml_205 mz_218 rfl rfl rfl (by omega) (s_codeAt (j := j) hE hj) ?_
  show RR _ _ 13 [some (.ref 146), some (.int (nI p)), none, none] [.int (nI (cod j))] g A _
  have hk10 := hE.2.2.2.2.1 j
  refine rr_nx (pc' := 14) (al' := [some (.ref 146), some (.int (nI p)), some (.int (nI (cod j))), none]) (st' := []) d_216_13 (fun _ => rfl) ?_
  refine rr_nx (pc' := 15) (al' := [some (.ref 146), some (.int (nI p)), some (.int (nI (cod j))), none]) (st' := [.int (nI (cod j))]) d_216_14 (fun _ => rfl) ?_
  refine rn_bp (v := 42) d_216_15 (by decide) ?_
  refine rr_ps (as := [.int (nI 42)]) (al0 := [some (.int (nI 42))]) (r := [.int (nI (cod j))]) d_216_17 mo_216 ml_172 mz_201 rfl rfl rfl (by omega) (s_sign) ?_
  show RR _ _ 20 [some (.ref 146), some (.int (nI p)), some (.int (nI (cod j))), none] [.int (nI 142), .int (nI (cod j))] g A _
  refine rn_ceq (t := 43) d_216_20 (by decide) (by first | omega | assumption | exact cu_36 (by omega) (cu_lt (by omega) (by omega))) (by first | omega | assumption | exact cu_36 (by omega) (cu_lt (by omega) (by omega))) (fun c20 => ?_) (fun c20 => ?_)
  · omega
  · refine rr_nx (pc' := 24) (al' := [some (.ref 146), some (.int (nI p)), some (.int (nI (cod j))), none]) (st' := [.int (nI (cod j))]) d_216_23 (fun _ => rfl) ?_
    refine rn_bp (v := 47) d_216_24 (by decide) ?_
    refine rr_ps (as := [.int (nI 47)]) (al0 := [some (.int (nI 47))]) (r := [.int (nI (cod j))]) d_216_26 mo_216 ml_172 mz_201 rfl rfl rfl (by omega) (s_sign) ?_
    show RR _ _ 29 [some (.ref 146), some (.int (nI p)), some (.int (nI (cod j))), none] [.int (nI 147), .int (nI (cod j))] g A _
    refine rn_ceq (t := 43) d_216_29 (by decide) (by first | omega | assumption | exact cu_36 (by omega) (cu_lt (by omega) (by omega))) (by first | omega | assumption | exact cu_36 (by omega) (cu_lt (by omega) (by omega))) (fun c29 => ?_) (fun c29 => ?_)
    · omega
    · refine rr_nx (pc' := 33) (al' := [some (.ref 146), some (.int (nI p)), some (.int (nI (cod j))), none]) (st' := [.int (nI (cod j))]) d_216_32 (fun _ => rfl) ?_
      refine rn_bp (v := 92) d_216_33 (by decide) ?_
      refine rr_ps (as := [.int (nI 92)]) (al0 := [some (.int (nI 92))]) (r := [.int (nI (cod j))]) d_216_35 mo_216 ml_172 mz_201 rfl rfl rfl (by omega) (s_sign) ?_
      show RR _ _ 38 [some (.ref 146), some (.int (nI p)), some (.int (nI (cod j))), none] [.int (nI 192), .int (nI (cod j))] g A _
      refine rn_ceq (t := 43) d_216_38 (by decide) (by first | omega | assumption | exact cu_36 (by omega) (cu_lt (by omega) (by omega))) (by first | omega | assumption | exact cu_36 (by omega) (cu_lt (by omega) (by omega))) (fun c38 => ?_) (fun c38 => ?_)
      · omega
      · refine rr_nx (pc' := 42) (al' := [some (.ref 146), some (.int (nI p)), some (.int (nI (cod j))), none]) (st' := [.int (nI p)]) d_216_41 (fun _ => rfl) ?_
        exact rr_ri d_216_42 mr_216 rfl ⟨rfl, rfl, rfl⟩
theorem s_te_o0 {g : Nat → Int32} {A : Nat → Nat → Int32} {Q : Option Value → (Nat → Int32) → (Nat → Nat → Int32) → Prop} {l N n : Nat} {cod vl c : Nat → Nat} (hE : EvH l N n cod vl c g A) {j : Nat} (h24 : g 24 = nI (400 * l + j)) (hj : j ≤ N) {K p q t : Nat} (hl : Lat n c) (hop : cod j = 142) (hp : p < n) (hq6 : q < n) (hq : RR (K + 1) 217 0 [some (.ref 146), none, none] [] (upd g 24 (nI (400 * l + j + 1))) A (rP (some (.int (nI q))) (upd g 24 (nI (400 * l + t))) A)) (hk : RR (K + 2) 216 5 [some (.ref 146), some (.int (nI (c (n * p + q)))), none, none] [] (upd g 24 (nI (400 * l + t))) A Q) : RR (K + 2) 216 5 [some (.ref 146), some (.int (nI p)), none, none] [] g A Q := by
  have hl8 := hE.2.2.1.1
  have hN4 := hE.2.2.1.2.1
  have hn6 := hE.2.1.2.1
  refine rr_nx (pc' := 6) (al' := [some (.ref 146), some (.int (nI p)), none, none]) (st' := [.ref 146]) d_216_5 (fun _ => rfl) ?_
  refine rr_nx (pc' := 7) (al' := [some (.ref 146), some (.int (nI p)), none, none]) (st' := [.ref 146, .ref 146]) d_216_6 (fun _ => rfl) ?_
  refine rr_gn d_216_7 mo_216 fl_202 rfl h24 ?_
  refine rr_pv (as := [.int (nI (400 * l + j))]) (al0 := [some (.ref 146), some (.int (nI (400 * l + j)))]) (r := []) d_216_10 mo_216 ml_205 mz_218 rfl rfl rfl (by omega) (s_codeAt (j := j) hE hj) ?_
  show RR _ _ 13 [some (.ref 146), some (.int (nI p)), none, none] [.int (nI (cod j))] g A _
  have hk10 := hE.2.2.2.2.1 j
  refine rr_nx (pc' := 14) (al' := [some (.ref 146), some (.int (nI p)), some (.int (nI (cod j))), none]) (st' := []) d_216_13 (fun _ => rfl) ?_
  refine rr_nx (pc' := 15) (al' := [some (.ref 146), some (.int (nI p)), some (.int (nI (cod j))), none]) (st' := [.int (nI (cod j))]) d_216_14 (fun _ => rfl) ?_
  refine rn_bp (v := 42) d_216_15 (by decide) ?_
  refine rr_ps (as := [.int (nI 42)]) (al0 := [some (.int (nI 42))]) (r := [.int (nI (cod j))]) d_216_17 mo_216 ml_172 mz_201 rfl rfl rfl (by omega) (s_sign) ?_
  show RR _ _ 20 [some (.ref 146), some (.int (nI p)), some (.int (nI (cod j))), none] [.int (nI 142), .int (nI (cod j))] g A _
  refine rn_ceq (t := 43) d_216_20 (by decide) (by first | omega | assumption | exact cu_36 (by omega) (cu_lt (by omega) (by omega))) (by first | omega | assumption | exact cu_36 (by omega) (cu_lt (by omega) (by omega))) (fun c20 => ?_) (fun c20 => ?_)
  · refine rr_nx (pc' := 44) (al' := [some (.ref 146), some (.int (nI p)), some (.int (nI (cod j))), none]) (st' := [.ref 146]) d_216_43 (fun _ => rfl) ?_
    refine rr_nx (pc' := 45) (al' := [some (.ref 146), some (.int (nI p)), some (.int (nI (cod j))), none]) (st' := [.ref 146, .ref 146]) d_216_44 (fun _ => rfl) ?_
    refine rr_gn d_216_45 mo_216 fl_202 rfl h24 ?_
    refine rn_ic (v := 1) d_216_48 (by decide) ?_
    refine rn_add d_216_49  ?_
    refine rp_24 d_216_50 mo_216 fl_202  ?_
    refine rr_nx (pc' := 54) (al' := [some (.ref 146), some (.int (nI p)), some (.int (nI (cod j))), none]) (st' := [.ref 146]) d_216_53 (fun _ => rfl) ?_
    refine rr_pv (as := []) (al0 := [some (.ref 146), none, none]) (r := []) d_216_54 mo_216 ml_198 mz_217 rfl rfl rfl (Nat.le_refl _) (hq) ?_
    show RR _ _ 57 [some (.ref 146), some (.int (nI p)), some (.int (nI (cod j))), none] [.int (nI q)] (upd g 24 (nI (400 * l + t))) A _
    refine rr_nx (pc' := 58) (al' := [some (.ref 146), some (.int (nI p)), some (.int (nI (cod j))), some (.int (nI q))]) (st' := []) d_216_57 (fun _ => rfl) ?_
    refine rr_nx (pc' := 59) (al' := [some (.ref 146), some (.int (nI p)), some (.int (nI (cod j))), some (.int (nI q))]) (st' := [.int (nI (cod j))]) d_216_58 (fun _ => rfl) ?_
    refine rn_bp (v := 42) d_216_59 (by decide) ?_
    refine rr_ps (as := [.int (nI 42)]) (al0 := [some (.int (nI 42))]) (r := [.int (nI (cod j))]) d_216_61 mo_216 ml_172 mz_201 rfl rfl rfl (by omega) (s_sign) ?_
    show RR _ _ 64 [some (.ref 146), some (.int (nI p)), some (.int (nI (cod j))), some (.int (nI q))] [.int (nI 142), .int (nI (cod j))] (upd g 24 (nI (400 * l + t))) A _
    refine rn_cne (t := 76) d_216_64 (by decide) (by first | omega | assumption | exact cu_36 (by omega) (cu_lt (by omega) (by omega))) (by first | omega | assumption | exact cu_36 (by omega) (cu_lt (by omega) (by omega))) (fun c64 => ?_) (fun c64 => ?_)
    · omega
    · refine rr_nx (pc' := 68) (al' := [some (.ref 146), some (.int (nI p)), some (.int (nI (cod j))), some (.int (nI q))]) (st' := [.ref 146]) d_216_67 (fun _ => rfl) ?_
      refine rr_nx (pc' := 69) (al' := [some (.ref 146), some (.int (nI p)), some (.int (nI (cod j))), some (.int (nI q))]) (st' := [.int (nI p), .ref 146]) d_216_68 (fun _ => rfl) ?_
      refine rr_nx (pc' := 70) (al' := [some (.ref 146), some (.int (nI p)), some (.int (nI (cod j))), some (.int (nI q))]) (st' := [.int (nI q), .int (nI p), .ref 146]) d_216_69 (fun _ => rfl) ?_
      refine rr_pv (as := [.int (nI p), .int (nI q)]) (al0 := [some (.ref 146), some (.int (nI p)), some (.int (nI q))]) (r := []) d_216_70 mo_216 ml_130 mz_213 rfl rfl rfl (by omega) (s_times hE.u.2.1 hp hq6) ?_
      show RR _ _ 73 [some (.ref 146), some (.int (nI p)), some (.int (nI (cod j))), some (.int (nI q))] [.int (nI (c (n * p + q)))] (upd g 24 (nI (400 * l + t))) A _
      refine rr_nx (pc' := 100) (al' := [some (.ref 146), some (.int (nI p)), some (.int (nI (cod j))), some (.int (nI q))]) (st' := [.int (nI (c (n * p + q)))]) d_216_73 (fun _ => rfl) ?_
      refine rr_nx (pc' := 101) (al' := [some (.ref 146), some (.int (nI (c (n * p + q)))), some (.int (nI (cod j))), some (.int (nI q))]) (st' := []) d_216_100 (fun _ => rfl) ?_
      refine rr_nx (pc' := 5) (al' := [some (.ref 146), some (.int (nI (c (n * p + q)))), some (.int (nI (cod j))), some (.int (nI q))]) (st' := []) d_216_101 (fun _ => rfl) ?_
      refine rr_dr (al1 := [some (.ref 146), some (.int (nI (c (n * p + q)))), none, none]) (le_s (le_s (le_d rfl (le_d rfl (le_n))))) ?_
      exact hk
  · omega
theorem s_te_o1 {g : Nat → Int32} {A : Nat → Nat → Int32} {Q : Option Value → (Nat → Int32) → (Nat → Nat → Int32) → Prop} {l N n : Nat} {cod vl c : Nat → Nat} (hE : EvH l N n cod vl c g A) {j : Nat} (h24 : g 24 = nI (400 * l + j)) (hj : j ≤ N) {K p q t : Nat} (hl : Lat n c) (hop : cod j = 147) (hp : p < n) (hq6 : q < n) (hq : RR (K + 1) 217 0 [some (.ref 146), none, none] [] (upd g 24 (nI (400 * l + j + 1))) A (rP (some (.int (nI q))) (upd g 24 (nI (400 * l + t))) A)) (hk : RR (K + 2) 216 5 [some (.ref 146), some (.int (nI (ovrI n c p q))), none, none] [] (upd g 24 (nI (400 * l + t))) A Q) : RR (K + 2) 216 5 [some (.ref 146), some (.int (nI p)), none, none] [] g A Q := by
  have hl8 := hE.2.2.1.1
  have hN4 := hE.2.2.1.2.1
  have hn6 := hE.2.1.2.1
  refine rr_nx (pc' := 6) (al' := [some (.ref 146), some (.int (nI p)), none, none]) (st' := [.ref 146]) d_216_5 (fun _ => rfl) ?_
  refine rr_nx (pc' := 7) (al' := [some (.ref 146), some (.int (nI p)), none, none]) (st' := [.ref 146, .ref 146]) d_216_6 (fun _ => rfl) ?_
  refine rr_gn d_216_7 mo_216 fl_202 rfl h24 ?_
  refine rr_pv (as := [.int (nI (400 * l + j))]) (al0 := [some (.ref 146), some (.int (nI (400 * l + j)))]) (r := []) d_216_10 mo_216 ml_205 mz_218 rfl rfl rfl (by omega) (s_codeAt (j := j) hE hj) ?_
  show RR _ _ 13 [some (.ref 146), some (.int (nI p)), none, none] [.int (nI (cod j))] g A _
  have hk10 := hE.2.2.2.2.1 j
  refine rr_nx (pc' := 14) (al' := [some (.ref 146), some (.int (nI p)), some (.int (nI (cod j))), none]) (st' := []) d_216_13 (fun _ => rfl) ?_
  refine rr_nx (pc' := 15) (al' := [some (.ref 146), some (.int (nI p)), some (.int (nI (cod j))), none]) (st' := [.int (nI (cod j))]) d_216_14 (fun _ => rfl) ?_
  refine rn_bp (v := 42) d_216_15 (by decide) ?_
  refine rr_ps (as := [.int (nI 42)]) (al0 := [some (.int (nI 42))]) (r := [.int (nI (cod j))]) d_216_17 mo_216 ml_172 mz_201 rfl rfl rfl (by omega) (s_sign) ?_
  show RR _ _ 20 [some (.ref 146), some (.int (nI p)), some (.int (nI (cod j))), none] [.int (nI 142), .int (nI (cod j))] g A _
  refine rn_ceq (t := 43) d_216_20 (by decide) (by first | omega | assumption | exact cu_36 (by omega) (cu_lt (by omega) (by omega))) (by first | omega | assumption | exact cu_36 (by omega) (cu_lt (by omega) (by omega))) (fun c20 => ?_) (fun c20 => ?_)
  · omega
  · refine rr_nx (pc' := 24) (al' := [some (.ref 146), some (.int (nI p)), some (.int (nI (cod j))), none]) (st' := [.int (nI (cod j))]) d_216_23 (fun _ => rfl) ?_
    refine rn_bp (v := 47) d_216_24 (by decide) ?_
    refine rr_ps (as := [.int (nI 47)]) (al0 := [some (.int (nI 47))]) (r := [.int (nI (cod j))]) d_216_26 mo_216 ml_172 mz_201 rfl rfl rfl (by omega) (s_sign) ?_
    show RR _ _ 29 [some (.ref 146), some (.int (nI p)), some (.int (nI (cod j))), none] [.int (nI 147), .int (nI (cod j))] g A _
    refine rn_ceq (t := 43) d_216_29 (by decide) (by first | omega | assumption | exact cu_36 (by omega) (cu_lt (by omega) (by omega))) (by first | omega | assumption | exact cu_36 (by omega) (cu_lt (by omega) (by omega))) (fun c29 => ?_) (fun c29 => ?_)
    · refine rr_nx (pc' := 44) (al' := [some (.ref 146), some (.int (nI p)), some (.int (nI (cod j))), none]) (st' := [.ref 146]) d_216_43 (fun _ => rfl) ?_
      refine rr_nx (pc' := 45) (al' := [some (.ref 146), some (.int (nI p)), some (.int (nI (cod j))), none]) (st' := [.ref 146, .ref 146]) d_216_44 (fun _ => rfl) ?_
      refine rr_gn d_216_45 mo_216 fl_202 rfl h24 ?_
      refine rn_ic (v := 1) d_216_48 (by decide) ?_
      refine rn_add d_216_49  ?_
      refine rp_24 d_216_50 mo_216 fl_202  ?_
      refine rr_nx (pc' := 54) (al' := [some (.ref 146), some (.int (nI p)), some (.int (nI (cod j))), none]) (st' := [.ref 146]) d_216_53 (fun _ => rfl) ?_
      refine rr_pv (as := []) (al0 := [some (.ref 146), none, none]) (r := []) d_216_54 mo_216 ml_198 mz_217 rfl rfl rfl (Nat.le_refl _) (hq) ?_
      show RR _ _ 57 [some (.ref 146), some (.int (nI p)), some (.int (nI (cod j))), none] [.int (nI q)] (upd g 24 (nI (400 * l + t))) A _
      refine rr_nx (pc' := 58) (al' := [some (.ref 146), some (.int (nI p)), some (.int (nI (cod j))), some (.int (nI q))]) (st' := []) d_216_57 (fun _ => rfl) ?_
      refine rr_nx (pc' := 59) (al' := [some (.ref 146), some (.int (nI p)), some (.int (nI (cod j))), some (.int (nI q))]) (st' := [.int (nI (cod j))]) d_216_58 (fun _ => rfl) ?_
      refine rn_bp (v := 42) d_216_59 (by decide) ?_
      refine rr_ps (as := [.int (nI 42)]) (al0 := [some (.int (nI 42))]) (r := [.int (nI (cod j))]) d_216_61 mo_216 ml_172 mz_201 rfl rfl rfl (by omega) (s_sign) ?_
      show RR _ _ 64 [some (.ref 146), some (.int (nI p)), some (.int (nI (cod j))), some (.int (nI q))] [.int (nI 142), .int (nI (cod j))] (upd g 24 (nI (400 * l + t))) A _
      refine rn_cne (t := 76) d_216_64 (by decide) (by first | omega | assumption | exact cu_36 (by omega) (cu_lt (by omega) (by omega))) (by first | omega | assumption | exact cu_36 (by omega) (cu_lt (by omega) (by omega))) (fun c64 => ?_) (fun c64 => ?_)
      · refine rr_nx (pc' := 77) (al' := [some (.ref 146), some (.int (nI p)), some (.int (nI (cod j))), some (.int (nI q))]) (st' := [.int (nI (cod j))]) d_216_76 (fun _ => rfl) ?_
        refine rn_bp (v := 47) d_216_77 (by decide) ?_
        refine rr_ps (as := [.int (nI 47)]) (al0 := [some (.int (nI 47))]) (r := [.int (nI (cod j))]) d_216_79 mo_216 ml_172 mz_201 rfl rfl rfl (by omega) (s_sign) ?_
        show RR _ _ 82 [some (.ref 146), some (.int (nI p)), some (.int (nI (cod j))), some (.int (nI q))] [.int (nI 147), .int (nI (cod j))] (upd g 24 (nI (400 * l + t))) A _
        refine rn_cne (t := 94) d_216_82 (by decide) (by first | omega | assumption | exact cu_36 (by omega) (cu_lt (by omega) (by omega))) (by first | omega | assumption | exact cu_36 (by omega) (cu_lt (by omega) (by omega))) (fun c82 => ?_) (fun c82 => ?_)
        · omega
        · refine rr_nx (pc' := 86) (al' := [some (.ref 146), some (.int (nI p)), some (.int (nI (cod j))), some (.int (nI q))]) (st' := [.ref 146]) d_216_85 (fun _ => rfl) ?_
          refine rr_nx (pc' := 87) (al' := [some (.ref 146), some (.int (nI p)), some (.int (nI (cod j))), some (.int (nI q))]) (st' := [.int (nI p), .ref 146]) d_216_86 (fun _ => rfl) ?_
          refine rr_nx (pc' := 88) (al' := [some (.ref 146), some (.int (nI p)), some (.int (nI (cod j))), some (.int (nI q))]) (st' := [.int (nI q), .int (nI p), .ref 146]) d_216_87 (fun _ => rfl) ?_
          refine rr_pv (as := [.int (nI p), .int (nI q)]) (al0 := [some (.ref 146), some (.int (nI p)), some (.int (nI q)), none]) (r := []) d_216_88 mo_216 ml_208 mz_219 rfl rfl rfl (by omega) (s_ahead hE.u.2.1 (by omega) (by omega) (hl.o hq6 hp).1 (hl.o hq6 hp).2 (Lat.on _ _)) ?_
          show RR _ _ 91 [some (.ref 146), some (.int (nI p)), some (.int (nI (cod j))), some (.int (nI q))] [.int (nI (ovrI n c p q))] (upd g 24 (nI (400 * l + t))) A _
          refine rr_nx (pc' := 100) (al' := [some (.ref 146), some (.int (nI p)), some (.int (nI (cod j))), some (.int (nI q))]) (st' := [.int (nI (ovrI n c p q))]) d_216_91 (fun _ => rfl) ?_
          refine rr_nx (pc' := 101) (al' := [some (.ref 146), some (.int (nI (ovrI n c p q))), some (.int (nI (cod j))), some (.int (nI q))]) (st' := []) d_216_100 (fun _ => rfl) ?_
          refine rr_nx (pc' := 5) (al' := [some (.ref 146), some (.int (nI (ovrI n c p q))), some (.int (nI (cod j))), some (.int (nI q))]) (st' := []) d_216_101 (fun _ => rfl) ?_
          refine rr_dr (al1 := [some (.ref 146), some (.int (nI (ovrI n c p q))), none, none]) (le_s (le_s (le_d rfl (le_d rfl (le_n))))) ?_
          exact hk
      · omega
    · omega
theorem s_te_o2 {g : Nat → Int32} {A : Nat → Nat → Int32} {Q : Option Value → (Nat → Int32) → (Nat → Nat → Int32) → Prop} {l N n : Nat} {cod vl c : Nat → Nat} (hE : EvH l N n cod vl c g A) {j : Nat} (h24 : g 24 = nI (400 * l + j)) (hj : j ≤ N) {K p q t : Nat} (hl : Lat n c) (hop : cod j = 192) (hp : p < n) (hq6 : q < n) (hq : RR (K + 1) 217 0 [some (.ref 146), none, none] [] (upd g 24 (nI (400 * l + j + 1))) A (rP (some (.int (nI q))) (upd g 24 (nI (400 * l + t))) A)) (hk : RR (K + 2) 216 5 [some (.ref 146), some (.int (nI (undI n c p q))), none, none] [] (upd g 24 (nI (400 * l + t))) A Q) : RR (K + 2) 216 5 [some (.ref 146), some (.int (nI p)), none, none] [] g A Q := by
  have hl8 := hE.2.2.1.1
  have hN4 := hE.2.2.1.2.1
  have hn6 := hE.2.1.2.1
  refine rr_nx (pc' := 6) (al' := [some (.ref 146), some (.int (nI p)), none, none]) (st' := [.ref 146]) d_216_5 (fun _ => rfl) ?_
  refine rr_nx (pc' := 7) (al' := [some (.ref 146), some (.int (nI p)), none, none]) (st' := [.ref 146, .ref 146]) d_216_6 (fun _ => rfl) ?_
  refine rr_gn d_216_7 mo_216 fl_202 rfl h24 ?_
  refine rr_pv (as := [.int (nI (400 * l + j))]) (al0 := [some (.ref 146), some (.int (nI (400 * l + j)))]) (r := []) d_216_10 mo_216 ml_205 mz_218 rfl rfl rfl (by omega) (s_codeAt (j := j) hE hj) ?_
  show RR _ _ 13 [some (.ref 146), some (.int (nI p)), none, none] [.int (nI (cod j))] g A _
  have hk10 := hE.2.2.2.2.1 j
  refine rr_nx (pc' := 14) (al' := [some (.ref 146), some (.int (nI p)), some (.int (nI (cod j))), none]) (st' := []) d_216_13 (fun _ => rfl) ?_
  refine rr_nx (pc' := 15) (al' := [some (.ref 146), some (.int (nI p)), some (.int (nI (cod j))), none]) (st' := [.int (nI (cod j))]) d_216_14 (fun _ => rfl) ?_
  refine rn_bp (v := 42) d_216_15 (by decide) ?_
  refine rr_ps (as := [.int (nI 42)]) (al0 := [some (.int (nI 42))]) (r := [.int (nI (cod j))]) d_216_17 mo_216 ml_172 mz_201 rfl rfl rfl (by omega) (s_sign) ?_
  show RR _ _ 20 [some (.ref 146), some (.int (nI p)), some (.int (nI (cod j))), none] [.int (nI 142), .int (nI (cod j))] g A _
  refine rn_ceq (t := 43) d_216_20 (by decide) (by first | omega | assumption | exact cu_36 (by omega) (cu_lt (by omega) (by omega))) (by first | omega | assumption | exact cu_36 (by omega) (cu_lt (by omega) (by omega))) (fun c20 => ?_) (fun c20 => ?_)
  · omega
  · refine rr_nx (pc' := 24) (al' := [some (.ref 146), some (.int (nI p)), some (.int (nI (cod j))), none]) (st' := [.int (nI (cod j))]) d_216_23 (fun _ => rfl) ?_
    refine rn_bp (v := 47) d_216_24 (by decide) ?_
    refine rr_ps (as := [.int (nI 47)]) (al0 := [some (.int (nI 47))]) (r := [.int (nI (cod j))]) d_216_26 mo_216 ml_172 mz_201 rfl rfl rfl (by omega) (s_sign) ?_
    show RR _ _ 29 [some (.ref 146), some (.int (nI p)), some (.int (nI (cod j))), none] [.int (nI 147), .int (nI (cod j))] g A _
    refine rn_ceq (t := 43) d_216_29 (by decide) (by first | omega | assumption | exact cu_36 (by omega) (cu_lt (by omega) (by omega))) (by first | omega | assumption | exact cu_36 (by omega) (cu_lt (by omega) (by omega))) (fun c29 => ?_) (fun c29 => ?_)
    · omega
    · refine rr_nx (pc' := 33) (al' := [some (.ref 146), some (.int (nI p)), some (.int (nI (cod j))), none]) (st' := [.int (nI (cod j))]) d_216_32 (fun _ => rfl) ?_
      refine rn_bp (v := 92) d_216_33 (by decide) ?_
      refine rr_ps (as := [.int (nI 92)]) (al0 := [some (.int (nI 92))]) (r := [.int (nI (cod j))]) d_216_35 mo_216 ml_172 mz_201 rfl rfl rfl (by omega) (s_sign) ?_
      show RR _ _ 38 [some (.ref 146), some (.int (nI p)), some (.int (nI (cod j))), none] [.int (nI 192), .int (nI (cod j))] g A _
      refine rn_ceq (t := 43) d_216_38 (by decide) (by first | omega | assumption | exact cu_36 (by omega) (cu_lt (by omega) (by omega))) (by first | omega | assumption | exact cu_36 (by omega) (cu_lt (by omega) (by omega))) (fun c38 => ?_) (fun c38 => ?_)
      · refine rr_nx (pc' := 44) (al' := [some (.ref 146), some (.int (nI p)), some (.int (nI (cod j))), none]) (st' := [.ref 146]) d_216_43 (fun _ => rfl) ?_
        refine rr_nx (pc' := 45) (al' := [some (.ref 146), some (.int (nI p)), some (.int (nI (cod j))), none]) (st' := [.ref 146, .ref 146]) d_216_44 (fun _ => rfl) ?_
        refine rr_gn d_216_45 mo_216 fl_202 rfl h24 ?_
        refine rn_ic (v := 1) d_216_48 (by decide) ?_
        refine rn_add d_216_49  ?_
        refine rp_24 d_216_50 mo_216 fl_202  ?_
        refine rr_nx (pc' := 54) (al' := [some (.ref 146), some (.int (nI p)), some (.int (nI (cod j))), none]) (st' := [.ref 146]) d_216_53 (fun _ => rfl) ?_
        refine rr_pv (as := []) (al0 := [some (.ref 146), none, none]) (r := []) d_216_54 mo_216 ml_198 mz_217 rfl rfl rfl (Nat.le_refl _) (hq) ?_
        show RR _ _ 57 [some (.ref 146), some (.int (nI p)), some (.int (nI (cod j))), none] [.int (nI q)] (upd g 24 (nI (400 * l + t))) A _
        refine rr_nx (pc' := 58) (al' := [some (.ref 146), some (.int (nI p)), some (.int (nI (cod j))), some (.int (nI q))]) (st' := []) d_216_57 (fun _ => rfl) ?_
        refine rr_nx (pc' := 59) (al' := [some (.ref 146), some (.int (nI p)), some (.int (nI (cod j))), some (.int (nI q))]) (st' := [.int (nI (cod j))]) d_216_58 (fun _ => rfl) ?_
        refine rn_bp (v := 42) d_216_59 (by decide) ?_
        refine rr_ps (as := [.int (nI 42)]) (al0 := [some (.int (nI 42))]) (r := [.int (nI (cod j))]) d_216_61 mo_216 ml_172 mz_201 rfl rfl rfl (by omega) (s_sign) ?_
        show RR _ _ 64 [some (.ref 146), some (.int (nI p)), some (.int (nI (cod j))), some (.int (nI q))] [.int (nI 142), .int (nI (cod j))] (upd g 24 (nI (400 * l + t))) A _
        refine rn_cne (t := 76) d_216_64 (by decide) (by first | omega | assumption | exact cu_36 (by omega) (cu_lt (by omega) (by omega))) (by first | omega | assumption | exact cu_36 (by omega) (cu_lt (by omega) (by omega))) (fun c64 => ?_) (fun c64 => ?_)
        · refine rr_nx (pc' := 77) (al' := [some (.ref 146), some (.int (nI p)), some (.int (nI (cod j))), some (.int (nI q))]) (st' := [.int (nI (cod j))]) d_216_76 (fun _ => rfl) ?_
          refine rn_bp (v := 47) d_216_77 (by decide) ?_
          refine rr_ps (as := [.int (nI 47)]) (al0 := [some (.int (nI 47))]) (r := [.int (nI (cod j))]) d_216_79 mo_216 ml_172 mz_201 rfl rfl rfl (by omega) (s_sign) ?_
          show RR _ _ 82 [some (.ref 146), some (.int (nI p)), some (.int (nI (cod j))), some (.int (nI q))] [.int (nI 147), .int (nI (cod j))] (upd g 24 (nI (400 * l + t))) A _
          refine rn_cne (t := 94) d_216_82 (by decide) (by first | omega | assumption | exact cu_36 (by omega) (cu_lt (by omega) (by omega))) (by first | omega | assumption | exact cu_36 (by omega) (cu_lt (by omega) (by omega))) (fun c82 => ?_) (fun c82 => ?_)
          · refine rr_nx (pc' := 95) (al' := [some (.ref 146), some (.int (nI p)), some (.int (nI (cod j))), some (.int (nI q))]) (st' := [.ref 146]) d_216_94 (fun _ => rfl) ?_
            refine rr_nx (pc' := 96) (al' := [some (.ref 146), some (.int (nI p)), some (.int (nI (cod j))), some (.int (nI q))]) (st' := [.int (nI p), .ref 146]) d_216_95 (fun _ => rfl) ?_
            refine rr_nx (pc' := 97) (al' := [some (.ref 146), some (.int (nI p)), some (.int (nI (cod j))), some (.int (nI q))]) (st' := [.int (nI q), .int (nI p), .ref 146]) d_216_96 (fun _ => rfl) ?_
            refine rr_pv (as := [.int (nI p), .int (nI q)]) (al0 := [some (.ref 146), some (.int (nI p)), some (.int (nI q)), none]) (r := []) d_216_97 mo_216 ml_211 mz_220 rfl rfl rfl (by omega) (s_behind hE.u.2.1 (by omega) (by omega) (hl.u hp hq6).1 (hl.u hp hq6).2 (Lat.un _ _)) ?_
            show RR _ _ 100 [some (.ref 146), some (.int (nI p)), some (.int (nI (cod j))), some (.int (nI q))] [.int (nI (undI n c p q))] (upd g 24 (nI (400 * l + t))) A _
            refine rr_nx (pc' := 101) (al' := [some (.ref 146), some (.int (nI (undI n c p q))), some (.int (nI (cod j))), some (.int (nI q))]) (st' := []) d_216_100 (fun _ => rfl) ?_
            refine rr_nx (pc' := 5) (al' := [some (.ref 146), some (.int (nI (undI n c p q))), some (.int (nI (cod j))), some (.int (nI q))]) (st' := []) d_216_101 (fun _ => rfl) ?_
            refine rr_dr (al1 := [some (.ref 146), some (.int (nI (undI n c p q))), none, none]) (le_s (le_s (le_d rfl (le_d rfl (le_n))))) ?_
            exact hk
          · omega
        · omega
      · omega
theorem upd_id {f : Nat → Int32} {k : Nat} : upd f k (f k) = f := by
  funext q
  by_cases e : q = k
  · rw [e, pk_us]
  · rw [pk_un e]
def PtE (l N n F : Nat) (cod vl c : Nat → Nat) (e : Nat) : Prop := ∀ {g : Nat → Int32} {A : Nat → Nat → Int32} {s u : LSt}, EvH l N n cod vl c g A → g 24 = nI (400 * l + s.1) → s.1 ≤ N → s.2.1 ≤ 32 → prt cod F e s = (true, u) → (prE cod vl (jnW n c) F e s.1).1 < n ∧ RR (2 * e + 1) 217 0 [some (.ref 146), none, none] [] g A (rP (some (.int (nI (prE cod vl (jnW n c) F e s.1).1))) (upd g 24 (nI (400 * l + u.1))) A)
def TmE (l N n F : Nat) (cod vl c : Nat → Nat) (e : Nat) : Prop := ∀ {g : Nat → Int32} {A : Nat → Nat → Int32} {s u : LSt}, EvH l N n cod vl c g A → g 24 = nI (400 * l + s.1) → s.1 ≤ N → s.2.1 ≤ 32 → trm cod F (prt cod F e) s = (true, u) → (tmE cod (jnW n c) F (prE cod vl (jnW n c) F e) s.1).1 < n ∧ RR (2 * e + 2) 216 0 [some (.ref 146), none, none, none] [] g A (rP (some (.int (nI (tmE cod (jnW n c) F (prE cod vl (jnW n c) F e) s.1).1))) (upd g 24 (nI (400 * l + u.1))) A)
theorem jnW_4 {n : Nat} {c : Nat → Nat} {p q : Nat} : jnW n c 4 p q = c (n * p + q) := rfl
theorem jnW_5 {n : Nat} {c : Nat → Nat} {p q : Nat} : jnW n c 5 p q = ovrI n c p q := rfl
theorem jnW_6 {n : Nat} {c : Nat → Nat} {p q : Nat} : jnW n c 6 p q = undI n c p q := rfl
theorem s_te_loop {l N n F : Nat} {cod vl c : Nat → Nat} (hl : Lat n c) {e : Nat} (hP : PtE l N n F cod vl c e) : ∀ (f : Nat) {g : Nat → Int32} {A : Nat → Nat → Int32} {s u : LSt} {p : Nat}, EvH l N n cod vl c g A → g 24 = nI (400 * l + s.1) → s.1 ≤ N → s.2.1 ≤ 32 → N < s.1 + f → p < n → rst cod (prt cod F e) f s = (true, u) → (rsE cod (jnW n c) (prE cod vl (jnW n c) F e) f (p, s.1)).1 < n ∧ RR (2 * e + 2) 216 5 [some (.ref 146), some (.int (nI p)), none, none] [] g A (rP (some (.int (nI (rsE cod (jnW n c) (prE cod vl (jnW n c) F e) f (p, s.1)).1))) (upd g 24 (nI (400 * l + u.1))) A)
  | 0, g, A, s, u, p, hE, h24, h1, h2, h3, hp, he => by omega
  | f + 1, g, A, s, u, p, hE, h24, h1, h2, h3, hp, he => by
    have hCE : CdE cod N := hE.2.2.1.2.2
    by_cases hop : isOp (cod s.1) = true
    · have hlt := cd_in hCE h1 (by have := op_0 hop; omega)
      rw [rst_s hop] at he
      have hok := prt_ok (F := F) hCE e (s.1 + 1, s.2.1, s.2.2) (by show s.1 + 1 ≤ N; omega) h2
      rcases hr : prt cod F e (s.1 + 1, s.2.1, s.2.2) with ⟨b, v⟩
      rw [hr] at he hok
      cases b
      · have := congrArg Prod.fst he
        cases this
      · obtain ⟨o1, o2, o3, o4, o5, o6⟩ := hok
        dsimp only at o1 o2 o3 o4 o5 o6 he
        have o3 := o3 rfl
        have hx := (prt_v (vl := vl) (jn := jnW n c) e _ _ hr).1
        dsimp only at hx
        obtain ⟨hq6, hrun⟩ := hP (g := upd g 24 (nI (400 * l + s.1 + 1))) (s := (s.1 + 1, s.2.1, s.2.2)) hE.u (by rw [pk_us]; rfl) (by show s.1 + 1 ≤ N; omega) h2 hr
        rw [upd_u] at hrun
        dsimp only at hq6 hrun
        have hlp := fun (p' : Nat) (hp' : p' < n) => s_te_loop hl hP f (g := upd g 24 (nI (400 * l + v.1))) (s := (v.1, v.2.1, v.2.2 ++ [opN (cod s.1)])) (p := p') hE.u (by rw [pk_us]) o2 o5 (by show N < v.1 + f; omega) hp' he
        have hjn := hlp (jnW n c (opN (cod s.1)) p (prE cod vl (jnW n c) F e (s.1 + 1)).1) (jnW_lt hl hp hq6)
        unfold rsE
        rw [if_pos hop, hx]
        refine ⟨hjn.1, ?_⟩
        have hj2 := hjn.2
        rw [upd_u] at hj2
        rcases op_0 hop with hc | hc | hc
        · rw [hc] at hj2 ⊢
          exact s_te_o0 (K := 2 * e) hE h24 h1 hl hc hp hq6 hrun hj2
        · rw [hc] at hj2 ⊢
          exact s_te_o1 (K := 2 * e) hE h24 h1 hl hc hp hq6 hrun hj2
        · rw [hc] at hj2 ⊢
          exact s_te_o2 (K := 2 * e) hE h24 h1 hl hc hp hq6 hrun hj2
    · rw [rst_n hop] at he
      have hu : s = u := congrArg Prod.snd he
      subst hu
      unfold rsE
      rw [if_neg hop]
      refine ⟨hp, rr_wk (by omega) (rr_cq (s_te_n hE h24 h1 ?_) ?_)⟩
      · unfold isOp at hop
        simp only [Bool.or_eq_true, beq_iff_eq] at hop
        omega
      · rintro r g' A' ⟨rfl, rfl, rfl⟩
        exact ⟨rfl, by rw [← h24, upd_id], rfl⟩
theorem s_termOf {l N n F : Nat} {cod vl c : Nat → Nat} (hl : Lat n c) (hFN : N < F) {e : Nat} (hP : PtE l N n F cod vl c e) : TmE l N n F cod vl c e := by
  intro g A s u hE h24 h1 h2 he
  have hCE : CdE cod N := hE.2.2.1.2.2
  have hok := prt_ok (F := F) hCE e s h1 h2
  unfold trm at he
  rcases hr : prt cod F e s with ⟨b, v⟩
  rw [hr] at he hok
  cases b
  · have := congrArg Prod.fst he
    cases this
  · obtain ⟨o1, o2, o3, o4, o5, o6⟩ := hok
    dsimp only at o1 o2 o3 o4 o5 o6 he
    have hx := (prt_v (vl := vl) (jn := jnW n c) e _ _ hr).1
    obtain ⟨hq6, hrun⟩ := hP hE h24 h1 h2 hr
    obtain ⟨k1, k2⟩ := s_te_loop hl hP F (g := upd g 24 (nI (400 * l + v.1))) (p := (prE cod vl (jnW n c) F e s.1).1) hE.u (by rw [pk_us]) o2 o5 (by omega) hq6 he
    rw [upd_u] at k2
    unfold tmE
    rw [show prE cod vl (jnW n c) F e s.1 = ((prE cod vl (jnW n c) F e s.1).1, v.1) by rw [← hx]]
    exact ⟨k1, s_te_0 (K := 2 * e + 1) hrun k2⟩
theorem s_partOf_0 {l N n F : Nat} {cod vl c : Nat → Nat} : PtE l N n F cod vl c 0 := by
  intro g A s u hE h24 h1 h2 he
  by_cases ha : isLt (cod s.1) = true ∧ s.2.1 < 32
  · rw [pt_lt ha] at he
    have he : _ = u := congrArg Prod.snd he
    subst he
    unfold prE
    exact ⟨hE.2.2.2.2.2.2 _, s_po_l hE h24 h1 (of_decide_eq_true ha.1)⟩
  · unfold prt at he
    rw [if_neg ha] at he
    have := congrArg Prod.fst he
    cases this
theorem s_partOf_s {l N n F : Nat} {cod vl c : Nat → Nat} {e : Nat} (hT : TmE l N n F cod vl c e) : PtE l N n F cod vl c (e + 1) := by
  intro g A s u hE h24 h1 h2 he
  have hCE : CdE cod N := hE.2.2.1.2.2
  by_cases ha : isLt (cod s.1) = true ∧ s.2.1 < 32
  · rw [pt_lt ha] at he
    have he : _ = u := congrArg Prod.snd he
    subst he
    unfold prE
    rw [if_neg (by have := of_decide_eq_true ha.1; omega)]
    exact ⟨hE.2.2.2.2.2.2 _, rr_wk (by omega) (s_po_l hE h24 h1 (of_decide_eq_true ha.1))⟩
  · by_cases hb : cod s.1 = 140
    · obtain ⟨r, hr⟩ : ∃ r, trm cod F (prt cod F e) (s.1 + 1, s.2.1, s.2.2) = r := ⟨_, rfl⟩
      rw [pt_br ha hb hr] at he
      by_cases hc : r.1 = true ∧ cod r.2.1 = 141
      · rw [if_pos hc] at he
        have he : _ = u := congrArg Prod.snd he
        subst he
        have hr : trm cod F (prt cod F e) (s.1 + 1, s.2.1, s.2.2) = (true, r.2) := by rw [hr, ← hc.1]
        have hlt := cd_in hCE h1 (by omega)
        obtain ⟨k1, k2⟩ := hT (g := upd g 24 (nI (400 * l + s.1 + 1))) (s := (s.1 + 1, s.2.1, s.2.2)) hE.u (by rw [pk_us]; rfl) (by show s.1 + 1 ≤ N; omega) h2 hr
        rw [upd_u] at k2
        unfold prE
        rw [if_pos hb]
        exact ⟨k1, s_po_b (K := 2 * e + 2) hE h24 h1 hb k2⟩
      · rw [if_neg hc] at he
        have := congrArg Prod.fst he
        cases this
    · rw [pt_no ha hb] at he
      have := congrArg Prod.fst he
      cases this
theorem s_evals {l N n F : Nat} {cod vl c : Nat → Nat} (hl : Lat n c) (hFN : N < F) : ∀ e, PtE l N n F cod vl c e ∧ TmE l N n F cod vl c e
  | 0 => ⟨s_partOf_0, s_termOf hl hFN s_partOf_0⟩
  | e + 1 => ⟨s_partOf_s (s_evals hl hFN e).2, s_termOf hl hFN (s_partOf_s (s_evals hl hFN e).2)⟩
theorem s_sd_4 {g : Nat → Int32} {A : Nat → Nat → Int32} {Q : Option Value → (Nat → Int32) → (Nat → Nat → Int32) → Prop} {l N n : Nat} {cod vl c : Nat → Nat} (hE : EvH l N n cod vl c g A) {j : Nat} (h24 : g 24 = nI (400 * l + j)) (hj : j ≤ N) {K b p q t r : Nat} (hb : b ≤ 1) (hp : p < n) (hq6 : q < n) (hr : r ≤ N) (hq1 : RR (K + 1) 216 0 [some (.ref 146), none, none, none] [] g A (rP (some (.int (nI p))) (upd g 24 (nI (400 * l + t))) A)) (hq2 : RR (K + 1) 216 0 [some (.ref 146), none, none, none] [] (upd g 24 (nI (400 * l + t + 1))) A (rP (some (.int (nI q))) (upd g 24 (nI (400 * l + r))) A)) (hkc : cod r = 144 → RR (K + 2) 215 4 [some (.ref 146), some (.int (nI (if p = q ∧ b = 1 then 1 else 0))), some (.int (nI 1)), none] [] (upd g 24 (nI (400 * l + r + 1))) A Q) (hkn : ¬ cod r = 144 → RR (K + 2) 215 4 [some (.ref 146), some (.int (nI (if p = q ∧ b = 1 then 1 else 0))), some (.int (nI 0)), none] [] (upd g 24 (nI (400 * l + r))) A Q) : RR (K + 2) 215 4 [some (.ref 146), some (.int (nI b)), some (.int (nI 1)), none] [] g A Q := by
  have hl8 := hE.2.2.1.1
  have hN4 := hE.2.2.1.2.1
  have hn6 := hE.2.1.2.1
  refine rr_nx (pc' := 5) (al' := [some (.ref 146), some (.int (nI b)), some (.int (nI 1)), none]) (st' := [.int (nI 1)]) d_215_4 (fun _ => rfl) ?_
  refine rn_ieq (t := 84) d_215_5 (by decide) (by first | omega | assumption | exact cu_36 (by omega) (cu_lt (by omega) (by omega))) (fun c5 => ?_) (fun c5 => ?_)
  · omega
  · refine rr_nx (pc' := 9) (al' := [some (.ref 146), some (.int (nI b)), some (.int (nI 1)), none]) (st' := [.ref 146]) d_215_8 (fun _ => rfl) ?_
    refine rr_pv (as := []) (al0 := [some (.ref 146), none, none, none]) (r := []) d_215_9 mo_215 ml_214 mz_216 rfl rfl rfl (Nat.le_refl _) (hq1) ?_
    show RR _ _ 12 [some (.ref 146), some (.int (nI b)), some (.int (nI 1)), none] [.int (nI p)] (upd g 24 (nI (400 * l + t))) A _
    refine rr_nx (pc' := 13) (al' := [some (.ref 146), some (.int (nI b)), some (.int (nI 1)), some (.int (nI p))]) (st' := []) d_215_12 (fun _ => rfl) ?_
    refine rr_nx (pc' := 14) (al' := [some (.ref 146), some (.int (nI b)), some (.int (nI 1)), some (.int (nI p))]) (st' := [.ref 146]) d_215_13 (fun _ => rfl) ?_
    refine rr_nx (pc' := 15) (al' := [some (.ref 146), some (.int (nI b)), some (.int (nI 1)), some (.int (nI p))]) (st' := [.ref 146, .ref 146]) d_215_14 (fun _ => rfl) ?_
    refine rr_gf (v := .int (nI (400 * l + t))) d_215_15 mo_215 fl_202 rfl ?_
    refine rn_ic (v := 1) d_215_18 (by decide) ?_
    refine rn_add d_215_19  ?_
    refine rp_24 d_215_20 mo_215 fl_202  ?_
    refine rr_G (upd_u) ?_
    refine rr_nx (pc' := 24) (al' := [some (.ref 146), some (.int (nI b)), some (.int (nI 1)), some (.int (nI p))]) (st' := [.int (nI p)]) d_215_23 (fun _ => rfl) ?_
    refine rr_nx (pc' := 25) (al' := [some (.ref 146), some (.int (nI b)), some (.int (nI 1)), some (.int (nI p))]) (st' := [.ref 146, .int (nI p)]) d_215_24 (fun _ => rfl) ?_
    refine rr_pv (as := []) (al0 := [some (.ref 146), none, none, none]) (r := [.int (nI p)]) d_215_25 mo_215 ml_214 mz_216 rfl rfl rfl (Nat.le_refl _) (hq2) ?_
    show RR _ _ 28 [some (.ref 146), some (.int (nI b)), some (.int (nI 1)), some (.int (nI p))] [.int (nI q), .int (nI p)] (upd g 24 (nI (400 * l + r))) A _
    refine rn_cne (t := 39) d_215_28 (by decide) (by omega) (by omega) (fun c28 => ?_) (fun c28 => ?_)
    · refine rn_ic (v := 0) d_215_39 (by decide) ?_
      refine rr_nx (pc' := 41) (al' := [some (.ref 146), some (.int (nI 0)), some (.int (nI 1)), some (.int (nI p))]) (st' := []) d_215_40 (fun _ => rfl) ?_
      refine rr_nx (pc' := 42) (al' := [some (.ref 146), some (.int (nI 0)), some (.int (nI 1)), some (.int (nI p))]) (st' := [.ref 146]) d_215_41 (fun _ => rfl) ?_
      refine rr_nx (pc' := 43) (al' := [some (.ref 146), some (.int (nI 0)), some (.int (nI 1)), some (.int (nI p))]) (st' := [.ref 146, .ref 146]) d_215_42 (fun _ => rfl) ?_
      refine rr_gf (v := .int (nI (400 * l + r))) d_215_43 mo_215 fl_202 rfl ?_
      refine rr_pv (as := [.int (nI (400 * l + r))]) (al0 := [some (.ref 146), some (.int (nI (400 * l + r)))]) (r := []) d_215_46 mo_215 ml_205 mz_218 rfl rfl rfl (by omega) (s_codeAt (j := r) hE.u hr) ?_
      show RR _ _ 49 [some (.ref 146), some (.int (nI 0)), some (.int (nI 1)), some (.int (nI p))] [.int (nI (cod r))] (upd g 24 (nI (400 * l + r))) A _
      have hk46 := hE.2.2.2.2.1 r
      refine rn_bp (v := 44) d_215_49 (by decide) ?_
      refine rr_ps (as := [.int (nI 44)]) (al0 := [some (.int (nI 44))]) (r := [.int (nI (cod r))]) d_215_51 mo_215 ml_172 mz_201 rfl rfl rfl (by omega) (s_sign) ?_
      show RR _ _ 54 [some (.ref 146), some (.int (nI 0)), some (.int (nI 1)), some (.int (nI p))] [.int (nI 144), .int (nI (cod r))] (upd g 24 (nI (400 * l + r))) A _
      refine rn_cne (t := 61) d_215_54 (by decide) (by first | omega | assumption | exact cu_36 (by omega) (cu_lt (by omega) (by omega))) (by first | omega | assumption | exact cu_36 (by omega) (cu_lt (by omega) (by omega))) (fun c54 => ?_) (fun c54 => ?_)
      · refine rn_ic (v := 0) d_215_61 (by decide) ?_
        refine rr_nx (pc' := 63) (al' := [some (.ref 146), some (.int (nI 0)), some (.int (nI 0)), some (.int (nI p))]) (st' := []) d_215_62 (fun _ => rfl) ?_
        refine rr_nx (pc' := 64) (al' := [some (.ref 146), some (.int (nI 0)), some (.int (nI 0)), some (.int (nI p))]) (st' := [.ref 146]) d_215_63 (fun _ => rfl) ?_
        refine rr_nx (pc' := 65) (al' := [some (.ref 146), some (.int (nI 0)), some (.int (nI 0)), some (.int (nI p))]) (st' := [.ref 146, .ref 146]) d_215_64 (fun _ => rfl) ?_
        refine rr_gf (v := .int (nI (400 * l + r))) d_215_65 mo_215 fl_202 rfl ?_
        refine rr_nx (pc' := 69) (al' := [some (.ref 146), some (.int (nI 0)), some (.int (nI 0)), some (.int (nI p))]) (st' := [.int (nI 0), .int (nI (400 * l + r)), .ref 146]) d_215_68 (fun _ => rfl) ?_
        refine rn_ieq (t := 76) d_215_69 (by decide) (by first | omega | assumption | exact cu_36 (by omega) (cu_lt (by omega) (by omega))) (fun c69 => ?_) (fun c69 => ?_)
        · refine rn_ic (v := 0) d_215_76 (by decide) ?_
          refine rn_add d_215_77  ?_
          refine rp_24 d_215_78 mo_215 fl_202  ?_
          refine rr_G (upd_u) ?_
          refine rr_nx (pc' := 4) (al' := [some (.ref 146), some (.int (nI 0)), some (.int (nI 0)), some (.int (nI p))]) (st' := []) d_215_81 (fun _ => rfl) ?_
          refine rr_dr (al1 := [some (.ref 146), some (.int (nI 0)), some (.int (nI 0)), none]) (le_s (le_s (le_s (le_d rfl (le_n))))) ?_
          rw [if_neg (fun h_ => c28 h_.1)] at hkn
          exact hkn c54
        · omega
      · refine rn_ic (v := 1) d_215_57 (by decide) ?_
        refine rr_nx (pc' := 62) (al' := [some (.ref 146), some (.int (nI 0)), some (.int (nI 1)), some (.int (nI p))]) (st' := [.int (nI 1)]) d_215_58 (fun _ => rfl) ?_
        refine rr_nx (pc' := 63) (al' := [some (.ref 146), some (.int (nI 0)), some (.int (nI 1)), some (.int (nI p))]) (st' := []) d_215_62 (fun _ => rfl) ?_
        refine rr_nx (pc' := 64) (al' := [some (.ref 146), some (.int (nI 0)), some (.int (nI 1)), some (.int (nI p))]) (st' := [.ref 146]) d_215_63 (fun _ => rfl) ?_
        refine rr_nx (pc' := 65) (al' := [some (.ref 146), some (.int (nI 0)), some (.int (nI 1)), some (.int (nI p))]) (st' := [.ref 146, .ref 146]) d_215_64 (fun _ => rfl) ?_
        refine rr_gf (v := .int (nI (400 * l + r))) d_215_65 mo_215 fl_202 rfl ?_
        refine rr_nx (pc' := 69) (al' := [some (.ref 146), some (.int (nI 0)), some (.int (nI 1)), some (.int (nI p))]) (st' := [.int (nI 1), .int (nI (400 * l + r)), .ref 146]) d_215_68 (fun _ => rfl) ?_
        refine rn_ieq (t := 76) d_215_69 (by decide) (by first | omega | assumption | exact cu_36 (by omega) (cu_lt (by omega) (by omega))) (fun c69 => ?_) (fun c69 => ?_)
        · omega
        · refine rn_ic (v := 1) d_215_72 (by decide) ?_
          refine rr_nx (pc' := 77) (al' := [some (.ref 146), some (.int (nI 0)), some (.int (nI 1)), some (.int (nI p))]) (st' := [.int (nI 1), .int (nI (400 * l + r)), .ref 146]) d_215_73 (fun _ => rfl) ?_
          refine rn_add d_215_77  ?_
          refine rp_24 d_215_78 mo_215 fl_202  ?_
          refine rr_G (upd_u) ?_
          refine rr_nx (pc' := 4) (al' := [some (.ref 146), some (.int (nI 0)), some (.int (nI 1)), some (.int (nI p))]) (st' := []) d_215_81 (fun _ => rfl) ?_
          refine rr_dr (al1 := [some (.ref 146), some (.int (nI 0)), some (.int (nI 1)), none]) (le_s (le_s (le_s (le_d rfl (le_n))))) ?_
          rw [if_neg (fun h_ => c28 h_.1)] at hkc
          exact hkc c54
    · refine rr_nx (pc' := 32) (al' := [some (.ref 146), some (.int (nI b)), some (.int (nI 1)), some (.int (nI p))]) (st' := [.int (nI b)]) d_215_31 (fun _ => rfl) ?_
      refine rn_ieq (t := 39) d_215_32 (by decide) (by first | omega | assumption | exact cu_36 (by omega) (cu_lt (by omega) (by omega))) (fun c32 => ?_) (fun c32 => ?_)
      · refine rn_ic (v := 0) d_215_39 (by decide) ?_
        refine rr_nx (pc' := 41) (al' := [some (.ref 146), some (.int (nI 0)), some (.int (nI 1)), some (.int (nI p))]) (st' := []) d_215_40 (fun _ => rfl) ?_
        refine rr_nx (pc' := 42) (al' := [some (.ref 146), some (.int (nI 0)), some (.int (nI 1)), some (.int (nI p))]) (st' := [.ref 146]) d_215_41 (fun _ => rfl) ?_
        refine rr_nx (pc' := 43) (al' := [some (.ref 146), some (.int (nI 0)), some (.int (nI 1)), some (.int (nI p))]) (st' := [.ref 146, .ref 146]) d_215_42 (fun _ => rfl) ?_
        refine rr_gf (v := .int (nI (400 * l + r))) d_215_43 mo_215 fl_202 rfl ?_
        refine rr_pv (as := [.int (nI (400 * l + r))]) (al0 := [some (.ref 146), some (.int (nI (400 * l + r)))]) (r := []) d_215_46 mo_215 ml_205 mz_218 rfl rfl rfl (by omega) (s_codeAt (j := r) hE.u hr) ?_
        show RR _ _ 49 [some (.ref 146), some (.int (nI 0)), some (.int (nI 1)), some (.int (nI p))] [.int (nI (cod r))] (upd g 24 (nI (400 * l + r))) A _
        have hk46 := hE.2.2.2.2.1 r
        refine rn_bp (v := 44) d_215_49 (by decide) ?_
        refine rr_ps (as := [.int (nI 44)]) (al0 := [some (.int (nI 44))]) (r := [.int (nI (cod r))]) d_215_51 mo_215 ml_172 mz_201 rfl rfl rfl (by omega) (s_sign) ?_
        show RR _ _ 54 [some (.ref 146), some (.int (nI 0)), some (.int (nI 1)), some (.int (nI p))] [.int (nI 144), .int (nI (cod r))] (upd g 24 (nI (400 * l + r))) A _
        refine rn_cne (t := 61) d_215_54 (by decide) (by first | omega | assumption | exact cu_36 (by omega) (cu_lt (by omega) (by omega))) (by first | omega | assumption | exact cu_36 (by omega) (cu_lt (by omega) (by omega))) (fun c54 => ?_) (fun c54 => ?_)
        · refine rn_ic (v := 0) d_215_61 (by decide) ?_
          refine rr_nx (pc' := 63) (al' := [some (.ref 146), some (.int (nI 0)), some (.int (nI 0)), some (.int (nI p))]) (st' := []) d_215_62 (fun _ => rfl) ?_
          refine rr_nx (pc' := 64) (al' := [some (.ref 146), some (.int (nI 0)), some (.int (nI 0)), some (.int (nI p))]) (st' := [.ref 146]) d_215_63 (fun _ => rfl) ?_
          refine rr_nx (pc' := 65) (al' := [some (.ref 146), some (.int (nI 0)), some (.int (nI 0)), some (.int (nI p))]) (st' := [.ref 146, .ref 146]) d_215_64 (fun _ => rfl) ?_
          refine rr_gf (v := .int (nI (400 * l + r))) d_215_65 mo_215 fl_202 rfl ?_
          refine rr_nx (pc' := 69) (al' := [some (.ref 146), some (.int (nI 0)), some (.int (nI 0)), some (.int (nI p))]) (st' := [.int (nI 0), .int (nI (400 * l + r)), .ref 146]) d_215_68 (fun _ => rfl) ?_
          refine rn_ieq (t := 76) d_215_69 (by decide) (by first | omega | assumption | exact cu_36 (by omega) (cu_lt (by omega) (by omega))) (fun c69 => ?_) (fun c69 => ?_)
          · refine rn_ic (v := 0) d_215_76 (by decide) ?_
            refine rn_add d_215_77  ?_
            refine rp_24 d_215_78 mo_215 fl_202  ?_
            refine rr_G (upd_u) ?_
            refine rr_nx (pc' := 4) (al' := [some (.ref 146), some (.int (nI 0)), some (.int (nI 0)), some (.int (nI p))]) (st' := []) d_215_81 (fun _ => rfl) ?_
            refine rr_dr (al1 := [some (.ref 146), some (.int (nI 0)), some (.int (nI 0)), none]) (le_s (le_s (le_s (le_d rfl (le_n))))) ?_
            rw [if_neg (fun h_ => by have := h_.2; omega)] at hkn
            exact hkn c54
          · omega
        · refine rn_ic (v := 1) d_215_57 (by decide) ?_
          refine rr_nx (pc' := 62) (al' := [some (.ref 146), some (.int (nI 0)), some (.int (nI 1)), some (.int (nI p))]) (st' := [.int (nI 1)]) d_215_58 (fun _ => rfl) ?_
          refine rr_nx (pc' := 63) (al' := [some (.ref 146), some (.int (nI 0)), some (.int (nI 1)), some (.int (nI p))]) (st' := []) d_215_62 (fun _ => rfl) ?_
          refine rr_nx (pc' := 64) (al' := [some (.ref 146), some (.int (nI 0)), some (.int (nI 1)), some (.int (nI p))]) (st' := [.ref 146]) d_215_63 (fun _ => rfl) ?_
          refine rr_nx (pc' := 65) (al' := [some (.ref 146), some (.int (nI 0)), some (.int (nI 1)), some (.int (nI p))]) (st' := [.ref 146, .ref 146]) d_215_64 (fun _ => rfl) ?_
          refine rr_gf (v := .int (nI (400 * l + r))) d_215_65 mo_215 fl_202 rfl ?_
          refine rr_nx (pc' := 69) (al' := [some (.ref 146), some (.int (nI 0)), some (.int (nI 1)), some (.int (nI p))]) (st' := [.int (nI 1), .int (nI (400 * l + r)), .ref 146]) d_215_68 (fun _ => rfl) ?_
          refine rn_ieq (t := 76) d_215_69 (by decide) (by first | omega | assumption | exact cu_36 (by omega) (cu_lt (by omega) (by omega))) (fun c69 => ?_) (fun c69 => ?_)
          · omega
          · refine rn_ic (v := 1) d_215_72 (by decide) ?_
            refine rr_nx (pc' := 77) (al' := [some (.ref 146), some (.int (nI 0)), some (.int (nI 1)), some (.int (nI p))]) (st' := [.int (nI 1), .int (nI (400 * l + r)), .ref 146]) d_215_73 (fun _ => rfl) ?_
            refine rn_add d_215_77  ?_
            refine rp_24 d_215_78 mo_215 fl_202  ?_
            refine rr_G (upd_u) ?_
            refine rr_nx (pc' := 4) (al' := [some (.ref 146), some (.int (nI 0)), some (.int (nI 1)), some (.int (nI p))]) (st' := []) d_215_81 (fun _ => rfl) ?_
            refine rr_dr (al1 := [some (.ref 146), some (.int (nI 0)), some (.int (nI 1)), none]) (le_s (le_s (le_s (le_d rfl (le_n))))) ?_
            rw [if_neg (fun h_ => by have := h_.2; omega)] at hkc
            exact hkc c54
      · refine rn_ic (v := 1) d_215_35 (by decide) ?_
        refine rr_nx (pc' := 40) (al' := [some (.ref 146), some (.int (nI b)), some (.int (nI 1)), some (.int (nI p))]) (st' := [.int (nI 1)]) d_215_36 (fun _ => rfl) ?_
        refine rr_nx (pc' := 41) (al' := [some (.ref 146), some (.int (nI 1)), some (.int (nI 1)), some (.int (nI p))]) (st' := []) d_215_40 (fun _ => rfl) ?_
        refine rr_nx (pc' := 42) (al' := [some (.ref 146), some (.int (nI 1)), some (.int (nI 1)), some (.int (nI p))]) (st' := [.ref 146]) d_215_41 (fun _ => rfl) ?_
        refine rr_nx (pc' := 43) (al' := [some (.ref 146), some (.int (nI 1)), some (.int (nI 1)), some (.int (nI p))]) (st' := [.ref 146, .ref 146]) d_215_42 (fun _ => rfl) ?_
        refine rr_gf (v := .int (nI (400 * l + r))) d_215_43 mo_215 fl_202 rfl ?_
        refine rr_pv (as := [.int (nI (400 * l + r))]) (al0 := [some (.ref 146), some (.int (nI (400 * l + r)))]) (r := []) d_215_46 mo_215 ml_205 mz_218 rfl rfl rfl (by omega) (s_codeAt (j := r) hE.u hr) ?_
        show RR _ _ 49 [some (.ref 146), some (.int (nI 1)), some (.int (nI 1)), some (.int (nI p))] [.int (nI (cod r))] (upd g 24 (nI (400 * l + r))) A _
        have hk46 := hE.2.2.2.2.1 r
        refine rn_bp (v := 44) d_215_49 (by decide) ?_
        refine rr_ps (as := [.int (nI 44)]) (al0 := [some (.int (nI 44))]) (r := [.int (nI (cod r))]) d_215_51 mo_215 ml_172 mz_201 rfl rfl rfl (by omega) (s_sign) ?_
        show RR _ _ 54 [some (.ref 146), some (.int (nI 1)), some (.int (nI 1)), some (.int (nI p))] [.int (nI 144), .int (nI (cod r))] (upd g 24 (nI (400 * l + r))) A _
        refine rn_cne (t := 61) d_215_54 (by decide) (by first | omega | assumption | exact cu_36 (by omega) (cu_lt (by omega) (by omega))) (by first | omega | assumption | exact cu_36 (by omega) (cu_lt (by omega) (by omega))) (fun c54 => ?_) (fun c54 => ?_)
        · refine rn_ic (v := 0) d_215_61 (by decide) ?_
          refine rr_nx (pc' := 63) (al' := [some (.ref 146), some (.int (nI 1)), some (.int (nI 0)), some (.int (nI p))]) (st' := []) d_215_62 (fun _ => rfl) ?_
          refine rr_nx (pc' := 64) (al' := [some (.ref 146), some (.int (nI 1)), some (.int (nI 0)), some (.int (nI p))]) (st' := [.ref 146]) d_215_63 (fun _ => rfl) ?_
          refine rr_nx (pc' := 65) (al' := [some (.ref 146), some (.int (nI 1)), some (.int (nI 0)), some (.int (nI p))]) (st' := [.ref 146, .ref 146]) d_215_64 (fun _ => rfl) ?_
          refine rr_gf (v := .int (nI (400 * l + r))) d_215_65 mo_215 fl_202 rfl ?_
          refine rr_nx (pc' := 69) (al' := [some (.ref 146), some (.int (nI 1)), some (.int (nI 0)), some (.int (nI p))]) (st' := [.int (nI 0), .int (nI (400 * l + r)), .ref 146]) d_215_68 (fun _ => rfl) ?_
          refine rn_ieq (t := 76) d_215_69 (by decide) (by first | omega | assumption | exact cu_36 (by omega) (cu_lt (by omega) (by omega))) (fun c69 => ?_) (fun c69 => ?_)
          · refine rn_ic (v := 0) d_215_76 (by decide) ?_
            refine rn_add d_215_77  ?_
            refine rp_24 d_215_78 mo_215 fl_202  ?_
            refine rr_G (upd_u) ?_
            refine rr_nx (pc' := 4) (al' := [some (.ref 146), some (.int (nI 1)), some (.int (nI 0)), some (.int (nI p))]) (st' := []) d_215_81 (fun _ => rfl) ?_
            refine rr_dr (al1 := [some (.ref 146), some (.int (nI 1)), some (.int (nI 0)), none]) (le_s (le_s (le_s (le_d rfl (le_n))))) ?_
            rw [if_pos ⟨c28, by omega⟩] at hkn
            exact hkn c54
          · omega
        · refine rn_ic (v := 1) d_215_57 (by decide) ?_
          refine rr_nx (pc' := 62) (al' := [some (.ref 146), some (.int (nI 1)), some (.int (nI 1)), some (.int (nI p))]) (st' := [.int (nI 1)]) d_215_58 (fun _ => rfl) ?_
          refine rr_nx (pc' := 63) (al' := [some (.ref 146), some (.int (nI 1)), some (.int (nI 1)), some (.int (nI p))]) (st' := []) d_215_62 (fun _ => rfl) ?_
          refine rr_nx (pc' := 64) (al' := [some (.ref 146), some (.int (nI 1)), some (.int (nI 1)), some (.int (nI p))]) (st' := [.ref 146]) d_215_63 (fun _ => rfl) ?_
          refine rr_nx (pc' := 65) (al' := [some (.ref 146), some (.int (nI 1)), some (.int (nI 1)), some (.int (nI p))]) (st' := [.ref 146, .ref 146]) d_215_64 (fun _ => rfl) ?_
          refine rr_gf (v := .int (nI (400 * l + r))) d_215_65 mo_215 fl_202 rfl ?_
          refine rr_nx (pc' := 69) (al' := [some (.ref 146), some (.int (nI 1)), some (.int (nI 1)), some (.int (nI p))]) (st' := [.int (nI 1), .int (nI (400 * l + r)), .ref 146]) d_215_68 (fun _ => rfl) ?_
          refine rn_ieq (t := 76) d_215_69 (by decide) (by first | omega | assumption | exact cu_36 (by omega) (cu_lt (by omega) (by omega))) (fun c69 => ?_) (fun c69 => ?_)
          · omega
          · refine rn_ic (v := 1) d_215_72 (by decide) ?_
            refine rr_nx (pc' := 77) (al' := [some (.ref 146), some (.int (nI 1)), some (.int (nI 1)), some (.int (nI p))]) (st' := [.int (nI 1), .int (nI (400 * l + r)), .ref 146]) d_215_73 (fun _ => rfl) ?_
            refine rn_add d_215_77  ?_
            refine rp_24 d_215_78 mo_215 fl_202  ?_
            refine rr_G (upd_u) ?_
            refine rr_nx (pc' := 4) (al' := [some (.ref 146), some (.int (nI 1)), some (.int (nI 1)), some (.int (nI p))]) (st' := []) d_215_81 (fun _ => rfl) ?_
            refine rr_dr (al1 := [some (.ref 146), some (.int (nI 1)), some (.int (nI 1)), none]) (le_s (le_s (le_s (le_d rfl (le_n))))) ?_
            rw [if_pos ⟨c28, by omega⟩] at hkc
            exact hkc c54
theorem nar_bl {b : Nat} (h : b ≤ 1) : narrow .boolean (.int (nI b)) = .int (nI b) := by
  have : b = 0 ∨ b = 1 := by omega
  rcases this with rfl | rfl <;> decide
theorem s_sd_e {g : Nat → Int32} {A : Nat → Nat → Int32} {b : Nat} (hb : b ≤ 1) : RR 0 215 4 [some (.ref 146), some (.int (nI b)), some (.int (nI 0)), none] [] g A (rP (some (.int (nI b))) g A) := by
  refine rr_nx (pc' := 5) (al' := [some (.ref 146), some (.int (nI b)), some (.int (nI 0)), none]) (st' := [.int (nI 0)]) d_215_4 (fun _ => rfl) ?_
  refine rn_ieq (t := 84) d_215_5 (by decide) (by first | omega | assumption | exact cu_36 (by omega) (cu_lt (by omega) (by omega))) (fun c5 => ?_) (fun c5 => ?_)
  · refine rr_nx (pc' := 85) (al' := [some (.ref 146), some (.int (nI b)), some (.int (nI 0)), none]) (st' := [.int (nI b)]) d_215_84 (fun _ => rfl) ?_
    exact rr_ri d_215_85 mr_215 (nar_bl hb) ⟨rfl, rfl, rfl⟩
  · omega
def b1 (b : Bool) : Nat := if b = true then 1 else 0
theorem b1_le (b : Bool) : b1 b ≤ 1 := by unfold b1; split <;> omega
theorem b1_bI {b : Bool} : some (Value.int (nI (b1 b))) = some (.int (bI (b = true))) := by cases b <;> decide
theorem s_sd_loop2 {l N n F : Nat} {cod vl c : Nat → Nat} (hl : Lat n c) (hFN : N < F) : ∀ (f : Nat) {g : Nat → Int32} {A : Nat → Nat → Int32} {s u : LSt} (b : Bool), EvH l N n cod vl c g A → g 24 = nI (400 * l + s.1) → s.1 ≤ N → s.2.1 ≤ 32 → N < s.1 + f → (match eqn cod F s with
    | (true, u) => sdR cod F f u
    | (false, u) => (false, u)) = (true, u) → RR 20 215 4 [some (.ref 146), some (.int (nI (b1 b))), some (.int (nI 1)), none] [] g A (rP (some (.int (nI (b1 (b && (sdE cod vl (jnW n c) F f s.1).1))))) (upd g 24 (nI (400 * l + u.1))) A)
  | 0, g, A, s, u, b, hE, h24, h1, h2, h3, he => by omega
  | f + 1, g, A, s, u, b, hE, h24, h1, h2, h3, he => by
    have hCE : CdE cod N := hE.2.2.1.2.2
    have hok := eqn_ok (F := F) hCE s h1 h2
    rcases hr : eqn cod F s with ⟨b', v⟩
    rw [hr] at he hok
    cases b'
    · have := congrArg Prod.fst he
      cases this
    · obtain ⟨o1, o2, o3, o4, o5, o6⟩ := hok
      dsimp only at o1 o2 o3 o4 o5 o6 he
      have o3 := o3 rfl
      have hv1 := (eqn_v (vl := vl) (jn := jnW n c) s v hr).1
      -- the two terms
      obtain ⟨r, hr1⟩ : ∃ r, trm cod F (prt cod F 8) s = r := ⟨_, rfl⟩
      obtain ⟨r2, hr2⟩ : ∃ r2, trm cod F (prt cod F 8) (r.2.1 + 1, r.2.2.1, r.2.2.2) = r2 := ⟨_, rfl⟩
      rw [eqn_w hr1 hr2] at hr
      by_cases hc : r.1 = true ∧ cod r.2.1 = 161
      · rw [if_pos hc] at hr
        by_cases hc2 : r2.1 = true
        · rw [if_pos hc2] at hr
          have hr : _ = v := congrArg Prod.snd hr
          subst hr
          have hok1 := trm_ok (F := F) hCE (prt_ok (F := F) hCE 8) s h1 h2
          have hr1' : trm cod F (prt cod F 8) s = (true, r.2) := by rw [hr1, ← hc.1]
          have hr2' : trm cod F (prt cod F 8) (r.2.1 + 1, r.2.2.1, r.2.2.2) = (true, r2.2) := by rw [hr2, ← hc2]
          rw [hr1'] at hok1
          obtain ⟨t1, t2, t3, t4, t5, t6⟩ := hok1
          dsimp only at t1 t2 t3 t4 t5 t6
          have hlt := cd_in hCE t2 (by omega)
          have hx1 := (trm_v (vl := vl) (jn := jnW n c) (prt_v 8) _ _ hr1').1
          obtain ⟨p6, prun⟩ := (s_evals (vl := vl) hl hFN 8).2 hE h24 h1 h2 hr1'
          obtain ⟨q6, qrun⟩ := (s_evals (vl := vl) hl hFN 8).2 (g := upd g 24 (nI (400 * l + r.2.1 + 1))) (s := (r.2.1 + 1, r.2.2.1, r.2.2.2)) hE.u (by rw [pk_us]; rfl) (by show r.2.1 + 1 ≤ N; omega) t5 hr2'
          rw [upd_u] at qrun
          dsimp only at q6 qrun o1 o2 o3 o4 o5 he hv1
          have heq : (eqE cod vl (jnW n c) F s.1).1 = decide ((tmE cod (jnW n c) F (prE cod vl (jnW n c) F 8) s.1).1 = (tmE cod (jnW n c) F (prE cod vl (jnW n c) F 8) (r.2.1 + 1)).1) := by
            unfold eqE
            dsimp only
            rw [hx1]
          have hif : ∀ z : Bool, z = (eqE cod vl (jnW n c) F s.1).1 → (if (tmE cod (jnW n c) F (prE cod vl (jnW n c) F 8) s.1).1 = (tmE cod (jnW n c) F (prE cod vl (jnW n c) F 8) (r.2.1 + 1)).1 ∧ b1 b = 1 then 1 else 0) = b1 (b && z) := by
            rintro z rfl
            rw [heq]
            by_cases e1 : (tmE cod (jnW n c) F (prE cod vl (jnW n c) F 8) s.1).1 = (tmE cod (jnW n c) F (prE cod vl (jnW n c) F 8) (r.2.1 + 1)).1
            · rw [decide_eq_true e1]
              cases b
              · rw [if_neg (fun h => absurd h.2 (by decide))]
                rfl
              · rw [if_pos ⟨e1, rfl⟩]
                rfl
            · rw [decide_eq_false e1, if_neg (fun h => e1 h.1), Bool.and_false]
              rfl
          refine s_sd_4 (K := 18) hE h24 h1 (b1_le b) p6 q6 o2 (rr_wk (by omega) prun) (rr_wk (by omega) qrun) (fun hcm => ?_) (fun hcm => ?_)
          · rw [hif _ rfl]
            rw [sdR_s (s := (r2.2.1, r2.2.2.1, r2.2.2.2 ++ [7])) hcm] at he
            have hlt2 := cd_in hCE o2 (by omega)
            have ih := s_sd_loop2 hl hFN f (g := upd g 24 (nI (400 * l + r2.2.1 + 1))) (s := (r2.2.1 + 1, r2.2.2.1, r2.2.2.2 ++ [7])) (b && (eqE cod vl (jnW n c) F s.1).1) hE.u (by rw [pk_us]; rfl) (by show r2.2.1 + 1 ≤ N; omega) o5 (by show N < r2.2.1 + 1 + f; omega) he
            rw [upd_u] at ih
            unfold sdE
            rw [hv1, if_pos hcm, ← Bool.and_assoc]
            exact ih
          · rw [hif _ rfl]
            rw [sdR_n (s := (r2.2.1, r2.2.2.1, r2.2.2.2 ++ [7])) hcm] at he
            have he : _ = u := congrArg Prod.snd he
            subst he
            refine rr_wk (Nat.zero_le _) (rr_cq (s_sd_e (b1_le _)) ?_)
            rintro r' g' A' ⟨rfl, rfl, rfl⟩
            refine ⟨?_, rfl, rfl⟩
            unfold sdE
            rw [hv1, if_neg hcm]
        · rw [if_neg hc2] at hr
          have := congrArg Prod.fst hr
          cases this
      · rw [if_neg hc] at hr
        have := congrArg Prod.fst hr
        cases this
theorem s_sdf_0 {g : Nat → Int32} {A : Nat → Nat → Int32} {Q : Option Value → (Nat → Int32) → (Nat → Nat → Int32) → Prop} {K : Nat} (hk : RR K 215 4 [some (.ref 146), some (.int (nI 1)), some (.int (nI 1)), none] [] g A Q) : RR K 215 0 [some (.ref 146), none, none, none] [] g A Q := by
  refine rn_ic (v := 1) d_215_0 (by decide) ?_
  refine rr_nx (pc' := 2) (al' := [some (.ref 146), some (.int (nI 1)), none, none]) (st' := []) d_215_1 (fun _ => rfl) ?_
  refine rn_ic (v := 1) d_215_2 (by decide) ?_
  refine rr_nx (pc' := 4) (al' := [some (.ref 146), some (.int (nI 1)), some (.int (nI 1)), none]) (st' := []) d_215_3 (fun _ => rfl) ?_
  exact hk
theorem s_sideOf {l N n F : Nat} {cod vl c : Nat → Nat} (hl : Lat n c) (hFN : N < F) {g : Nat → Int32} {A : Nat → Nat → Int32} {s u : LSt} (hE : EvH l N n cod vl c g A) (h24 : g 24 = nI (400 * l + s.1)) (h1 : s.1 ≤ N) (h2 : s.2.1 ≤ 32) (he : sid cod F s = (true, u)) : RR 20 215 0 [some (.ref 146), none, none, none] [] g A (rP (some (.int (nI (b1 (sdE cod vl (jnW n c) F F s.1).1)))) (upd g 24 (nI (400 * l + u.1))) A) :=
  s_sdf_0 (s_sd_loop2 hl hFN F true hE h24 h1 h2 (by omega) he)
