/-! Laws: the reference reads; printed by wip/whole/gen_b22.py. -/
theorem s_fine {g : Nat → Int32} {A : Nat → Nat → Int32}  : RR 0 200 0 [some (.ref 146)] [] g A (rP (some (.int (bI (g 21 = -1)))) g A) := by
  refine rr_nx (pc' := 1) (al' := [some (.ref 146)]) (st' := [.ref 146]) d_200_0 (fun _ => rfl) ?_
  refine rr_gf (v := .int (g 21)) d_200_1 mo_200 fl_153 rfl ?_
  refine rr_nx (pc' := 5) (al' := [some (.ref 146)]) (st' := [.int (-1), .int (g 21)]) d_200_4 (fun _ => rfl) ?_
  refine rr_cne (t := 12) d_200_5 (by decide) (fun c5 => ?_) (fun c5 => ?_)
  · refine rn_ic (v := 0) d_200_12 (by decide) ?_
    exact rr_ri d_200_13 mr_200 (by decide) (rq_f c5)
  · refine rn_ic (v := 1) d_200_8 (by decide) ?_
    refine rr_nx (pc' := 13) (al' := [some (.ref 146)]) (st' := [.int (nI 1)]) d_200_9 (fun _ => rfl) ?_
    exact rr_ri d_200_13 mr_200 (by decide) (rq_t c5)
theorem s_sign {g : Nat → Int32} {A : Nat → Nat → Int32} {c : Nat} : RR 0 201 0 [some (.int (nI c))] [] g A (rP (some (.int (nI (100 + c)))) g A) := by
  refine rn_bp (v := 100) d_201_0 (by decide) ?_
  refine rr_nx (pc' := 3) (al' := [some (.int (nI c))]) (st' := [.int (nI c), .int (nI 100)]) d_201_2 (fun _ => rfl) ?_
  refine rn_add d_201_3  ?_
  exact rr_ri d_201_4 mr_201 rfl ⟨rfl, rfl, rfl⟩
theorem s_faults_t {g : Nat → Int32} {A : Nat → Nat → Int32} {j : Nat} (h19 : g 19 = nI j) (hj : j ≤ 400) {p : Nat} (hf : g 21 = -1) (hp : A 11 j = nI p) : RR 1 202 0 [some (.ref 146)] [] g A (rP none (upd g 21 (nI p)) A) := by
  refine rr_nx (pc' := 1) (al' := [some (.ref 146)]) (st' := [.ref 146]) d_202_0 (fun _ => rfl) ?_
  refine rr_pv (as := []) (al0 := [some (.ref 146)]) (r := []) d_202_1 mo_202 ml_156 mz_200 rfl rfl rfl (Nat.le_of_ble_eq_true rfl) (s_fine) ?_
  show RR _ _ 4 [some (.ref 146)] [.int (bI ((g 21) = -1))] g A _
  refine rr_beq (t := 20) d_202_4 (by decide) (fun c4 => ?_) (fun c4 => ?_)
  · exact absurd hf c4
  · refine rr_nx (pc' := 8) (al' := [some (.ref 146)]) (st' := [.ref 146]) d_202_7 (fun _ => rfl) ?_
    refine rr_nx (pc' := 9) (al' := [some (.ref 146)]) (st' := [.ref 146, .ref 146]) d_202_8 (fun _ => rfl) ?_
    refine rr_gf (v := .ref (147 + 11)) d_202_9 mo_202 fl_49 rfl ?_
    refine rr_nx (pc' := 13) (al' := [some (.ref 146)]) (st' := [.ref 146, .ref (147 + 11), .ref 146]) d_202_12 (fun _ => rfl) ?_
    refine rr_gn d_202_13 mo_202 fl_160 rfl h19 ?_
    refine rr_ia (j := 11) (v := (nI p)) d_202_16 (by decide) rfl (by decide) (show j < 401 by first | omega | assumption | exact cu_36 (by omega) (cu_lt (by omega) (by omega))) hp ?_
    refine rp_21 d_202_17 mo_202 fl_153  ?_
    exact rr_rv d_202_20 mr_202 ⟨rfl, rfl, rfl⟩
theorem s_faults_f {g : Nat → Int32} {A : Nat → Nat → Int32} (hf : ¬ g 21 = -1) : RR 1 202 0 [some (.ref 146)] [] g A (rP none g A) := by
  refine rr_nx (pc' := 1) (al' := [some (.ref 146)]) (st' := [.ref 146]) d_202_0 (fun _ => rfl) ?_
  refine rr_pv (as := []) (al0 := [some (.ref 146)]) (r := []) d_202_1 mo_202 ml_156 mz_200 rfl rfl rfl (Nat.le_of_ble_eq_true rfl) (s_fine) ?_
  show RR _ _ 4 [some (.ref 146)] [.int (bI ((g 21) = -1))] g A _
  refine rr_beq (t := 20) d_202_4 (by decide) (fun c4 => ?_) (fun c4 => ?_)
  · exact rr_rv d_202_20 mr_202 ⟨rfl, rfl, rfl⟩
  · exact absurd c4 hf
theorem s_takes0_t {g : Nat → Int32} {A : Nat → Nat → Int32} {j : Nat} (h19 : g 19 = nI j) (hj : j ≤ 400) {k c : Nat} (hf : g 21 = -1) (hk : A 9 j = nI k) (hk3 : k < 2 ^ 31) (hc3 : c < 2 ^ 31) (he : k = c) : RR 1 204 0 [some (.ref 146), some (.int (nI c)), none] [] g A (rP (some (.int (nI 1))) (upd g 19 (nI (j + 1))) A) := by
  refine rr_nx (pc' := 1) (al' := [some (.ref 146), some (.int (nI c)), none]) (st' := [.ref 146]) d_204_0 (fun _ => rfl) ?_
  refine rr_pv (as := []) (al0 := [some (.ref 146)]) (r := []) d_204_1 mo_204 ml_156 mz_200 rfl rfl rfl (Nat.le_of_ble_eq_true rfl) (s_fine) ?_
  show RR _ _ 4 [some (.ref 146), some (.int (nI c)), none] [.int (bI ((g 21) = -1))] g A _
  refine rr_beq (t := 24) d_204_4 (by decide) (fun c4 => ?_) (fun c4 => ?_)
  · exact absurd hf c4
  · refine rr_nx (pc' := 8) (al' := [some (.ref 146), some (.int (nI c)), none]) (st' := [.ref 146]) d_204_7 (fun _ => rfl) ?_
    refine rr_gf (v := .ref (147 + 9)) d_204_8 mo_204 fl_43 rfl ?_
    refine rr_nx (pc' := 12) (al' := [some (.ref 146), some (.int (nI c)), none]) (st' := [.ref 146, .ref (147 + 9)]) d_204_11 (fun _ => rfl) ?_
    refine rr_gn d_204_12 mo_204 fl_160 rfl h19 ?_
    refine rr_ia (j := 9) (v := (nI k)) d_204_15 (by decide) rfl (by decide) (show j < 401 by first | omega | assumption | exact cu_36 (by omega) (cu_lt (by omega) (by omega))) hk ?_
    refine rr_nx (pc' := 17) (al' := [some (.ref 146), some (.int (nI c)), none]) (st' := [.int (nI c), .int (nI k)]) d_204_16 (fun _ => rfl) ?_
    refine rn_cne (t := 24) d_204_17 (by decide) (by first | omega | assumption | exact cu_36 (by omega) (cu_lt (by omega) (by omega))) (by first | omega | assumption | exact cu_36 (by omega) (cu_lt (by omega) (by omega))) (fun c17 => ?_) (fun c17 => ?_)
    · exact absurd he c17
    · refine rn_ic (v := 1) d_204_20 (by decide) ?_
      refine rr_nx (pc' := 25) (al' := [some (.ref 146), some (.int (nI c)), none]) (st' := [.int (nI 1)]) d_204_21 (fun _ => rfl) ?_
      refine rr_nx (pc' := 26) (al' := [some (.ref 146), some (.int (nI c)), some (.int (nI 1))]) (st' := []) d_204_25 (fun _ => rfl) ?_
      refine rr_nx (pc' := 27) (al' := [some (.ref 146), some (.int (nI c)), some (.int (nI 1))]) (st' := [.int (nI 1)]) d_204_26 (fun _ => rfl) ?_
      refine rn_ieq (t := 40) d_204_27 (by decide) (by first | omega | assumption | exact cu_36 (by omega) (cu_lt (by omega) (by omega))) (fun c27 => ?_) (fun c27 => ?_)
      · omega
      · refine rr_nx (pc' := 31) (al' := [some (.ref 146), some (.int (nI c)), some (.int (nI 1))]) (st' := [.ref 146]) d_204_30 (fun _ => rfl) ?_
        refine rr_nx (pc' := 32) (al' := [some (.ref 146), some (.int (nI c)), some (.int (nI 1))]) (st' := [.ref 146, .ref 146]) d_204_31 (fun _ => rfl) ?_
        refine rr_gn d_204_32 mo_204 fl_160 rfl h19 ?_
        refine rn_ic (v := 1) d_204_35 (by decide) ?_
        refine rn_add d_204_36  ?_
        refine rp_19 d_204_37 mo_204 fl_160  ?_
        refine rr_nx (pc' := 41) (al' := [some (.ref 146), some (.int (nI c)), some (.int (nI 1))]) (st' := [.int (nI 1)]) d_204_40 (fun _ => rfl) ?_
        exact rr_ri d_204_41 mr_204 (by decide) ⟨rfl, rfl, rfl⟩
theorem s_takes0_n {g : Nat → Int32} {A : Nat → Nat → Int32} {j : Nat} (h19 : g 19 = nI j) (hj : j ≤ 400) {k c : Nat} (hf : g 21 = -1) (hk : A 9 j = nI k) (hk3 : k < 2 ^ 31) (hc3 : c < 2 ^ 31) (he : ¬ k = c) : RR 1 204 0 [some (.ref 146), some (.int (nI c)), none] [] g A (rP (some (.int (nI 0))) g A) := by
  refine rr_nx (pc' := 1) (al' := [some (.ref 146), some (.int (nI c)), none]) (st' := [.ref 146]) d_204_0 (fun _ => rfl) ?_
  refine rr_pv (as := []) (al0 := [some (.ref 146)]) (r := []) d_204_1 mo_204 ml_156 mz_200 rfl rfl rfl (Nat.le_of_ble_eq_true rfl) (s_fine) ?_
  show RR _ _ 4 [some (.ref 146), some (.int (nI c)), none] [.int (bI ((g 21) = -1))] g A _
  refine rr_beq (t := 24) d_204_4 (by decide) (fun c4 => ?_) (fun c4 => ?_)
  · exact absurd hf c4
  · refine rr_nx (pc' := 8) (al' := [some (.ref 146), some (.int (nI c)), none]) (st' := [.ref 146]) d_204_7 (fun _ => rfl) ?_
    refine rr_gf (v := .ref (147 + 9)) d_204_8 mo_204 fl_43 rfl ?_
    refine rr_nx (pc' := 12) (al' := [some (.ref 146), some (.int (nI c)), none]) (st' := [.ref 146, .ref (147 + 9)]) d_204_11 (fun _ => rfl) ?_
    refine rr_gn d_204_12 mo_204 fl_160 rfl h19 ?_
    refine rr_ia (j := 9) (v := (nI k)) d_204_15 (by decide) rfl (by decide) (show j < 401 by first | omega | assumption | exact cu_36 (by omega) (cu_lt (by omega) (by omega))) hk ?_
    refine rr_nx (pc' := 17) (al' := [some (.ref 146), some (.int (nI c)), none]) (st' := [.int (nI c), .int (nI k)]) d_204_16 (fun _ => rfl) ?_
    refine rn_cne (t := 24) d_204_17 (by decide) (by first | omega | assumption | exact cu_36 (by omega) (cu_lt (by omega) (by omega))) (by first | omega | assumption | exact cu_36 (by omega) (cu_lt (by omega) (by omega))) (fun c17 => ?_) (fun c17 => ?_)
    · refine rn_ic (v := 0) d_204_24 (by decide) ?_
      refine rr_nx (pc' := 26) (al' := [some (.ref 146), some (.int (nI c)), some (.int (nI 0))]) (st' := []) d_204_25 (fun _ => rfl) ?_
      refine rr_nx (pc' := 27) (al' := [some (.ref 146), some (.int (nI c)), some (.int (nI 0))]) (st' := [.int (nI 0)]) d_204_26 (fun _ => rfl) ?_
      refine rn_ieq (t := 40) d_204_27 (by decide) (by first | omega | assumption | exact cu_36 (by omega) (cu_lt (by omega) (by omega))) (fun c27 => ?_) (fun c27 => ?_)
      · refine rr_nx (pc' := 41) (al' := [some (.ref 146), some (.int (nI c)), some (.int (nI 0))]) (st' := [.int (nI 0)]) d_204_40 (fun _ => rfl) ?_
        exact rr_ri d_204_41 mr_204 (by decide) ⟨rfl, rfl, rfl⟩
      · omega
    · exact absurd c17 he
theorem s_takes0_f {g : Nat → Int32} {A : Nat → Nat → Int32} {c : Nat} (hf : ¬ g 21 = -1) : RR 1 204 0 [some (.ref 146), some (.int (nI c)), none] [] g A (rP (some (.int (nI 0))) g A) := by
  refine rr_nx (pc' := 1) (al' := [some (.ref 146), some (.int (nI c)), none]) (st' := [.ref 146]) d_204_0 (fun _ => rfl) ?_
  refine rr_pv (as := []) (al0 := [some (.ref 146)]) (r := []) d_204_1 mo_204 ml_156 mz_200 rfl rfl rfl (Nat.le_of_ble_eq_true rfl) (s_fine) ?_
  show RR _ _ 4 [some (.ref 146), some (.int (nI c)), none] [.int (bI ((g 21) = -1))] g A _
  refine rr_beq (t := 24) d_204_4 (by decide) (fun c4 => ?_) (fun c4 => ?_)
  · refine rn_ic (v := 0) d_204_24 (by decide) ?_
    refine rr_nx (pc' := 26) (al' := [some (.ref 146), some (.int (nI c)), some (.int (nI 0))]) (st' := []) d_204_25 (fun _ => rfl) ?_
    refine rr_nx (pc' := 27) (al' := [some (.ref 146), some (.int (nI c)), some (.int (nI 0))]) (st' := [.int (nI 0)]) d_204_26 (fun _ => rfl) ?_
    refine rn_ieq (t := 40) d_204_27 (by decide) (by first | omega | assumption | exact cu_36 (by omega) (cu_lt (by omega) (by omega))) (fun c27 => ?_) (fun c27 => ?_)
    · refine rr_nx (pc' := 41) (al' := [some (.ref 146), some (.int (nI c)), some (.int (nI 0))]) (st' := [.int (nI 0)]) d_204_40 (fun _ => rfl) ?_
      exact rr_ri d_204_41 mr_204 (by decide) ⟨rfl, rfl, rfl⟩
    · omega
  · exact absurd c4 hf
theorem s_must_t {g : Nat → Int32} {A : Nat → Nat → Int32} {j : Nat} (h19 : g 19 = nI j) (hj : j ≤ 400) {k c : Nat} (hf : g 21 = -1) (hk : A 9 j = nI k) (hk3 : k < 2 ^ 31) (hc3 : c < 2 ^ 31) (he : k = c) : RR 2 203 0 [some (.ref 146), some (.int (nI c))] [] g A (rP none (upd g 19 (nI (j + 1))) A) := by
  refine rr_nx (pc' := 1) (al' := [some (.ref 146), some (.int (nI c))]) (st' := [.ref 146]) d_203_0 (fun _ => rfl) ?_
  refine rr_nx (pc' := 2) (al' := [some (.ref 146), some (.int (nI c))]) (st' := [.int (nI c), .ref 146]) d_203_1 (fun _ => rfl) ?_
  refine rr_pv (as := [.int (nI c)]) (al0 := [some (.ref 146), some (.int (nI c)), none]) (r := []) d_203_2 mo_203 ml_163 mz_204 rfl rfl rfl (Nat.le_of_ble_eq_true rfl) (s_takes0_t h19 hj hf hk hk3 hc3 he) ?_
  show RR _ _ 5 [some (.ref 146), some (.int (nI c))] [.int (nI 1)] (upd g 19 (nI (j + 1))) A _
  refine rn_ine (t := 12) d_203_5 (by decide) (by first | omega | assumption | exact cu_36 (by omega) (cu_lt (by omega) (by omega))) (fun c5 => ?_) (fun c5 => ?_)
  · exact rr_rv d_203_12 mr_203 ⟨rfl, rfl, rfl⟩
  · omega
theorem s_must_n {g : Nat → Int32} {A : Nat → Nat → Int32} {j : Nat} (h19 : g 19 = nI j) (hj : j ≤ 400) {k c : Nat} (hf : g 21 = -1) (hk : A 9 j = nI k) (hk3 : k < 2 ^ 31) (hc3 : c < 2 ^ 31) {p : Nat} (hp : A 11 j = nI p) (he : ¬ k = c) : RR 2 203 0 [some (.ref 146), some (.int (nI c))] [] g A (rP none (upd g 21 (nI p)) A) := by
  refine rr_nx (pc' := 1) (al' := [some (.ref 146), some (.int (nI c))]) (st' := [.ref 146]) d_203_0 (fun _ => rfl) ?_
  refine rr_nx (pc' := 2) (al' := [some (.ref 146), some (.int (nI c))]) (st' := [.int (nI c), .ref 146]) d_203_1 (fun _ => rfl) ?_
  refine rr_pv (as := [.int (nI c)]) (al0 := [some (.ref 146), some (.int (nI c)), none]) (r := []) d_203_2 mo_203 ml_163 mz_204 rfl rfl rfl (Nat.le_of_ble_eq_true rfl) (s_takes0_n h19 hj hf hk hk3 hc3 he) ?_
  show RR _ _ 5 [some (.ref 146), some (.int (nI c))] [.int (nI 0)] g A _
  refine rn_ine (t := 12) d_203_5 (by decide) (by first | omega | assumption | exact cu_36 (by omega) (cu_lt (by omega) (by omega))) (fun c5 => ?_) (fun c5 => ?_)
  · omega
  · refine rr_nx (pc' := 9) (al' := [some (.ref 146), some (.int (nI c))]) (st' := [.ref 146]) d_203_8 (fun _ => rfl) ?_
    refine rr_pv (as := []) (al0 := [some (.ref 146)]) (r := []) d_203_9 mo_203 ml_166 mz_202 rfl rfl rfl (Nat.le_of_ble_eq_true rfl) (s_faults_t h19 hj hf hp) ?_
    show RR _ _ 12 [some (.ref 146), some (.int (nI c))] [] (upd g 21 (nI p)) A _
    exact rr_rv d_203_12 mr_203 ⟨rfl, rfl, rfl⟩
theorem s_must_f {g : Nat → Int32} {A : Nat → Nat → Int32} {c : Nat} (hf : ¬ g 21 = -1) : RR 2 203 0 [some (.ref 146), some (.int (nI c))] [] g A (rP none g A) := by
  refine rr_nx (pc' := 1) (al' := [some (.ref 146), some (.int (nI c))]) (st' := [.ref 146]) d_203_0 (fun _ => rfl) ?_
  refine rr_nx (pc' := 2) (al' := [some (.ref 146), some (.int (nI c))]) (st' := [.int (nI c), .ref 146]) d_203_1 (fun _ => rfl) ?_
  refine rr_pv (as := [.int (nI c)]) (al0 := [some (.ref 146), some (.int (nI c)), none]) (r := []) d_203_2 mo_203 ml_163 mz_204 rfl rfl rfl (Nat.le_of_ble_eq_true rfl) (s_takes0_f hf) ?_
  show RR _ _ 5 [some (.ref 146), some (.int (nI c))] [.int (nI 0)] g A _
  refine rn_ine (t := 12) d_203_5 (by decide) (by first | omega | assumption | exact cu_36 (by omega) (cu_lt (by omega) (by omega))) (fun c5 => ?_) (fun c5 => ?_)
  · omega
  · refine rr_nx (pc' := 9) (al' := [some (.ref 146), some (.int (nI c))]) (st' := [.ref 146]) d_203_8 (fun _ => rfl) ?_
    refine rr_pv (as := []) (al0 := [some (.ref 146)]) (r := []) d_203_9 mo_203 ml_166 mz_202 rfl rfl rfl (Nat.le_of_ble_eq_true rfl) (s_faults_f hf) ?_
    show RR _ _ 12 [some (.ref 146), some (.int (nI c))] [] g A _
    exact rr_rv d_203_12 mr_203 ⟨rfl, rfl, rfl⟩
/-- the reference's state behind a piece of reading -/
def RdR (plc : Nat → Nat) (g : Nat → Int32) (A : Nat → Nat → Int32) (r : Bool × LSt) : Option Value → (Nat → Int32) → (Nat → Nat → Int32) → Prop := fun v g' A' => v = none ∧ A' = A ∧ (∀ k, k ≠ 19 → k ≠ 21 → k ≠ 22 → g' k = g k) ∧ g' 19 = nI r.2.1 ∧ (r.1 = true → g' 21 = -1 ∧ g' 22 = nI r.2.2.1) ∧ (r.1 = false → g' 21 = nI (plc r.2.1))
theorem RdR.tr {plc : Nat → Nat} {g g1 g2 : Nat → Int32} {A : Nat → Nat → Int32} {r : Bool × LSt} {v : Option Value} {A' : Nat → Nat → Int32} (h1 : ∀ k, k ≠ 19 → k ≠ 21 → k ≠ 22 → g1 k = g k) (h : RdR plc g1 A r v g2 A') : RdR plc g A r v g2 A' := ⟨h.1, h.2.1, fun k a b c => (h.2.2.1 k a b c).trans (h1 k a b c), h.2.2.2⟩
/-- the tokens lie in the rows code, placed -/
def TkA (cod plc : Nat → Nat) (N : Nat) (A : Nat → Nat → Int32) : Prop := N ≤ 400 ∧ CdE cod N ∧ ∀ j, j ≤ N → A 9 j = nI (cod j) ∧ A 11 j = nI (plc j) ∧ cod j < 400 ∧ plc j ≤ 400
theorem bad_ne {p : Nat} (h : p ≤ 400) : ¬ nI p = -1 := by
  intro e
  have := congrArg Int32.toInt e
  rw [nI_toInt (by omega)] at this
  have e2 : (-1 : Int32).toInt = -1 := by decide
  rw [e2] at this
  omega
def FnG (g : Nat → Int32) (s : LSt) : Prop := g 21 = -1 ∧ g 19 = nI s.1 ∧ g 22 = nI s.2.1
def PtC (cod plc : Nat → Nat) (N F e : Nat) : Prop := ∀ {g : Nat → Int32} {A : Nat → Nat → Int32} {s : LSt}, TkA cod plc N A → FnG g s → s.1 ≤ N → s.2.1 ≤ 32 → RR (2 * e + 3) 199 0 [some (.ref 146), some (.int (nI (8 - e))), none] [] g A (RdR plc g A (prt cod F e s))
def TmC (cod plc : Nat → Nat) (N F e : Nat) : Prop := ∀ {g : Nat → Int32} {A : Nat → Nat → Int32} {s : LSt}, TkA cod plc N A → FnG g s → s.1 ≤ N → s.2.1 ≤ 32 → RR (2 * e + 4) 198 0 [some (.ref 146), some (.int (nI (8 - e)))] [] g A (RdR plc g A (trm cod F (prt cod F e) s))
theorem lt_iff {k : Nat} (h : k < 400) : (nI 1 ≤ nI k ∧ nI k ≤ nI 4) ↔ isLt k = true := by
  unfold isLt
  rw [decide_eq_true_eq, nI_leI (by decide) (by omega), nI_leI (by omega) (by decide)]
theorem pt_lt {cod : Nat → Nat} {F : Nat} {s : LSt} (h : isLt (cod s.1) = true ∧ s.2.1 < 32) : ∀ e, prt cod F e s = (true, s.1 + 1, s.2.1 + 1, s.2.2 ++ [cod s.1 - 1])
  | 0 => by unfold prt; rw [if_pos h]
  | e + 1 => by unfold prt; rw [if_pos h]
theorem pt_no {cod : Nat → Nat} {F : Nat} {s : LSt} (h : ¬ (isLt (cod s.1) = true ∧ s.2.1 < 32)) (hb : ¬ cod s.1 = 140) : ∀ e, prt cod F e s = (false, s)
  | 0 => by unfold prt; rw [if_neg h]
  | e + 1 => by unfold prt; rw [if_neg h, if_neg hb]
theorem s_rp_lt {g : Nat → Int32} {A : Nat → Nat → Int32} {cod plc : Nat → Nat} {N : Nat} {s : LSt} {d : Nat} (hT : TkA cod plc N A) (hF : FnG g s) (h1 : s.1 ≤ N) (h2 : s.2.1 ≤ 32) (hd : d ≤ 8) (ha : isLt (cod s.1) = true) (hb : s.2.1 < 32) : RR 2 199 0 [some (.ref 146), some (.int (nI d)), none] [] g A (rP none (upd (upd g 22 (nI (s.2.1 + 1))) 19 (nI (s.1 + 1))) A) := by
  obtain ⟨hN, hE, hR⟩ := hT
  obtain ⟨r1, r2, r3, r4⟩ := hR s.1 h1
  obtain ⟨f1, f2, f3⟩ := hF
  refine rr_nx (pc' := 1) (al' := [some (.ref 146), some (.int (nI d)), none]) (st' := [.ref 146]) d_199_0 (fun _ => rfl) ?_
  refine rr_pv (as := []) (al0 := [some (.ref 146)]) (r := []) d_199_1 mo_199 ml_156 mz_200 rfl rfl rfl (Nat.le_of_ble_eq_true rfl) (s_fine) ?_
  show RR _ _ 4 [some (.ref 146), some (.int (nI d)), none] [.int (bI ((g 21) = -1))] g A _
  refine rr_bne (t := 8) d_199_4 (by decide) (fun c4 => ?_) (fun c4 => ?_)
  · refine rr_nx (pc' := 9) (al' := [some (.ref 146), some (.int (nI d)), none]) (st' := [.ref 146]) d_199_8 (fun _ => rfl) ?_
    refine rr_gf (v := .ref (147 + 9)) d_199_9 mo_199 fl_43 rfl ?_
    refine rr_nx (pc' := 13) (al' := [some (.ref 146), some (.int (nI d)), none]) (st' := [.ref 146, .ref (147 + 9)]) d_199_12 (fun _ => rfl) ?_
    refine rr_gn d_199_13 mo_199 fl_160 rfl f2 ?_
    refine rr_ia (j := 9) (v := (nI (cod s.1))) d_199_16 (by decide) rfl (by decide) (show s.1 < 401 by first | omega | assumption | exact cu_36 (by omega) (cu_lt (by omega) (by omega))) r1 ?_
    refine rr_nx (pc' := 18) (al' := [some (.ref 146), some (.int (nI d)), some (.int (nI (cod s.1)))]) (st' := []) d_199_17 (fun _ => rfl) ?_
    refine rr_nx (pc' := 19) (al' := [some (.ref 146), some (.int (nI d)), some (.int (nI (cod s.1)))]) (st' := [.int (nI (cod s.1))]) d_199_18 (fun _ => rfl) ?_
    refine rn_bp (v := 40) d_199_19 (by decide) ?_
    refine rr_ps (as := [.int (nI 40)]) (al0 := [some (.int (nI 40))]) (r := [.int (nI (cod s.1))]) d_199_21 mo_199 ml_172 mz_201 rfl rfl rfl (Nat.le_of_ble_eq_true rfl) (s_sign) ?_
    show RR _ _ 24 [some (.ref 146), some (.int (nI d)), some (.int (nI (cod s.1)))] [.int (nI 140), .int (nI (cod s.1))] g A _
    refine rn_cne (t := 74) d_199_24 (by decide) (by first | omega | assumption | exact cu_36 (by omega) (cu_lt (by omega) (by omega))) (by first | omega | assumption | exact cu_36 (by omega) (cu_lt (by omega) (by omega))) (fun c24 => ?_) (fun c24 => ?_)
    · refine rr_nx (pc' := 75) (al' := [some (.ref 146), some (.int (nI d)), some (.int (nI (cod s.1)))]) (st' := [.int (nI (cod s.1))]) d_199_74 (fun _ => rfl) ?_
      refine rn_ic (v := 1) d_199_75 (by decide) ?_
      refine rn_ic (v := 4) d_199_76 (by decide) ?_
      refine rr_ps (as := [.int (nI (cod s.1)), .int (nI 1), .int (nI 4)]) (al0 := [some (.int (nI (cod s.1))), some (.int (nI 1)), some (.int (nI 4))]) (r := []) d_199_77 mo_199 ml_106 mz_179 rfl rfl rfl (Nat.le_of_ble_eq_true rfl) (s_lies (nI (cod s.1)) (nI 1) (nI 4)) ?_
      show RR _ _ 80 [some (.ref 146), some (.int (nI d)), some (.int (nI (cod s.1)))] [.int (bI ((nI 1) ≤ (nI (cod s.1)) ∧ (nI (cod s.1)) ≤ (nI 4)))] g A _
      refine rr_beq (t := 126) d_199_80 (by decide) (fun c80 => ?_) (fun c80 => ?_)
      · exact absurd ((lt_iff r3).mpr ha) c80
      · refine rr_nx (pc' := 84) (al' := [some (.ref 146), some (.int (nI d)), some (.int (nI (cod s.1)))]) (st' := [.ref 146]) d_199_83 (fun _ => rfl) ?_
        refine rr_gn d_199_84 mo_199 fl_186 rfl f3 ?_
        refine rn_bp (v := 32) d_199_87 (by decide) ?_
        refine rn_cne (t := 96) d_199_89 (by decide) (by first | omega | assumption | exact cu_36 (by omega) (cu_lt (by omega) (by omega))) (by first | omega | assumption | exact cu_36 (by omega) (cu_lt (by omega) (by omega))) (fun c89 => ?_) (fun c89 => ?_)
        · refine rr_nx (pc' := 97) (al' := [some (.ref 146), some (.int (nI d)), some (.int (nI (cod s.1)))]) (st' := [.ref 146]) d_199_96 (fun _ => rfl) ?_
          refine rr_nx (pc' := 98) (al' := [some (.ref 146), some (.int (nI d)), some (.int (nI (cod s.1)))]) (st' := [.ref 146, .ref 146]) d_199_97 (fun _ => rfl) ?_
          refine rr_gn d_199_98 mo_199 fl_186 rfl f3 ?_
          refine rn_ic (v := 1) d_199_101 (by decide) ?_
          refine rn_add d_199_102  ?_
          refine rp_22 d_199_103 mo_199 fl_186  ?_
          refine rr_nx (pc' := 107) (al' := [some (.ref 146), some (.int (nI d)), some (.int (nI (cod s.1)))]) (st' := [.ref 146]) d_199_106 (fun _ => rfl) ?_
          refine rr_pv (as := []) (al0 := [some (.ref 146)]) (r := []) d_199_107 mo_199 ml_156 mz_200 rfl rfl rfl (Nat.le_of_ble_eq_true rfl) (s_fine) ?_
          show RR _ _ 110 [some (.ref 146), some (.int (nI d)), some (.int (nI (cod s.1)))] [.int (bI ((g 21) = -1))] (upd g 22 (nI (s.2.1 + 1))) A _
          refine rr_beq (t := 130) d_199_110 (by decide) (fun c110 => ?_) (fun c110 => ?_)
          · exact absurd (show upd g 22 (nI (s.2.1 + 1)) 21 = -1 by rw [pk_un (by decide)]; exact f1) c110
          · refine rr_nx (pc' := 114) (al' := [some (.ref 146), some (.int (nI d)), some (.int (nI (cod s.1)))]) (st' := [.ref 146]) d_199_113 (fun _ => rfl) ?_
            refine rr_nx (pc' := 115) (al' := [some (.ref 146), some (.int (nI d)), some (.int (nI (cod s.1)))]) (st' := [.ref 146, .ref 146]) d_199_114 (fun _ => rfl) ?_
            refine rr_gf (v := .int (g 19)) d_199_115 mo_199 fl_160 rfl ?_
            refine rr_tp (z := nI s.1) f2 ?_
            refine rn_ic (v := 1) d_199_118 (by decide) ?_
            refine rn_add d_199_119  ?_
            refine rp_19 d_199_120 mo_199 fl_160  ?_
            refine rr_nx (pc' := 130) (al' := [some (.ref 146), some (.int (nI d)), some (.int (nI (cod s.1)))]) (st' := []) d_199_123 (fun _ => rfl) ?_
            exact rr_rv d_199_130 mr_199 ⟨rfl, rfl, rfl⟩
        · omega
    · exact absurd (of_decide_eq_true (by have q := ha; unfold isLt at q; exact q) : 1 ≤ cod s.1 ∧ cod s.1 ≤ 4) (by omega)
  · exact absurd f1 c4
theorem s_rp_l32 {g : Nat → Int32} {A : Nat → Nat → Int32} {cod plc : Nat → Nat} {N : Nat} {s : LSt} {d : Nat} (hT : TkA cod plc N A) (hF : FnG g s) (h1 : s.1 ≤ N) (h2 : s.2.1 ≤ 32) (hd : d ≤ 8) (ha : isLt (cod s.1) = true) (hb : s.2.1 = 32) : RR 2 199 0 [some (.ref 146), some (.int (nI d)), none] [] g A (rP none (upd (upd g 21 (nI (plc s.1))) 22 (nI (s.2.1 + 1))) A) := by
  obtain ⟨hN, hE, hR⟩ := hT
  obtain ⟨r1, r2, r3, r4⟩ := hR s.1 h1
  obtain ⟨f1, f2, f3⟩ := hF
  refine rr_nx (pc' := 1) (al' := [some (.ref 146), some (.int (nI d)), none]) (st' := [.ref 146]) d_199_0 (fun _ => rfl) ?_
  refine rr_pv (as := []) (al0 := [some (.ref 146)]) (r := []) d_199_1 mo_199 ml_156 mz_200 rfl rfl rfl (Nat.le_of_ble_eq_true rfl) (s_fine) ?_
  show RR _ _ 4 [some (.ref 146), some (.int (nI d)), none] [.int (bI ((g 21) = -1))] g A _
  refine rr_bne (t := 8) d_199_4 (by decide) (fun c4 => ?_) (fun c4 => ?_)
  · refine rr_nx (pc' := 9) (al' := [some (.ref 146), some (.int (nI d)), none]) (st' := [.ref 146]) d_199_8 (fun _ => rfl) ?_
    refine rr_gf (v := .ref (147 + 9)) d_199_9 mo_199 fl_43 rfl ?_
    refine rr_nx (pc' := 13) (al' := [some (.ref 146), some (.int (nI d)), none]) (st' := [.ref 146, .ref (147 + 9)]) d_199_12 (fun _ => rfl) ?_
    refine rr_gn d_199_13 mo_199 fl_160 rfl f2 ?_
    refine rr_ia (j := 9) (v := (nI (cod s.1))) d_199_16 (by decide) rfl (by decide) (show s.1 < 401 by first | omega | assumption | exact cu_36 (by omega) (cu_lt (by omega) (by omega))) r1 ?_
    refine rr_nx (pc' := 18) (al' := [some (.ref 146), some (.int (nI d)), some (.int (nI (cod s.1)))]) (st' := []) d_199_17 (fun _ => rfl) ?_
    refine rr_nx (pc' := 19) (al' := [some (.ref 146), some (.int (nI d)), some (.int (nI (cod s.1)))]) (st' := [.int (nI (cod s.1))]) d_199_18 (fun _ => rfl) ?_
    refine rn_bp (v := 40) d_199_19 (by decide) ?_
    refine rr_ps (as := [.int (nI 40)]) (al0 := [some (.int (nI 40))]) (r := [.int (nI (cod s.1))]) d_199_21 mo_199 ml_172 mz_201 rfl rfl rfl (Nat.le_of_ble_eq_true rfl) (s_sign) ?_
    show RR _ _ 24 [some (.ref 146), some (.int (nI d)), some (.int (nI (cod s.1)))] [.int (nI 140), .int (nI (cod s.1))] g A _
    refine rn_cne (t := 74) d_199_24 (by decide) (by first | omega | assumption | exact cu_36 (by omega) (cu_lt (by omega) (by omega))) (by first | omega | assumption | exact cu_36 (by omega) (cu_lt (by omega) (by omega))) (fun c24 => ?_) (fun c24 => ?_)
    · refine rr_nx (pc' := 75) (al' := [some (.ref 146), some (.int (nI d)), some (.int (nI (cod s.1)))]) (st' := [.int (nI (cod s.1))]) d_199_74 (fun _ => rfl) ?_
      refine rn_ic (v := 1) d_199_75 (by decide) ?_
      refine rn_ic (v := 4) d_199_76 (by decide) ?_
      refine rr_ps (as := [.int (nI (cod s.1)), .int (nI 1), .int (nI 4)]) (al0 := [some (.int (nI (cod s.1))), some (.int (nI 1)), some (.int (nI 4))]) (r := []) d_199_77 mo_199 ml_106 mz_179 rfl rfl rfl (Nat.le_of_ble_eq_true rfl) (s_lies (nI (cod s.1)) (nI 1) (nI 4)) ?_
      show RR _ _ 80 [some (.ref 146), some (.int (nI d)), some (.int (nI (cod s.1)))] [.int (bI ((nI 1) ≤ (nI (cod s.1)) ∧ (nI (cod s.1)) ≤ (nI 4)))] g A _
      refine rr_beq (t := 126) d_199_80 (by decide) (fun c80 => ?_) (fun c80 => ?_)
      · exact absurd ((lt_iff r3).mpr ha) c80
      · refine rr_nx (pc' := 84) (al' := [some (.ref 146), some (.int (nI d)), some (.int (nI (cod s.1)))]) (st' := [.ref 146]) d_199_83 (fun _ => rfl) ?_
        refine rr_gn d_199_84 mo_199 fl_186 rfl f3 ?_
        refine rn_bp (v := 32) d_199_87 (by decide) ?_
        refine rn_cne (t := 96) d_199_89 (by decide) (by first | omega | assumption | exact cu_36 (by omega) (cu_lt (by omega) (by omega))) (by first | omega | assumption | exact cu_36 (by omega) (cu_lt (by omega) (by omega))) (fun c89 => ?_) (fun c89 => ?_)
        · omega
        · refine rr_nx (pc' := 93) (al' := [some (.ref 146), some (.int (nI d)), some (.int (nI (cod s.1)))]) (st' := [.ref 146]) d_199_92 (fun _ => rfl) ?_
          refine rr_pv (as := []) (al0 := [some (.ref 146)]) (r := []) d_199_93 mo_199 ml_166 mz_202 rfl rfl rfl (Nat.le_of_ble_eq_true rfl) (s_faults_t (by first | exact f2 | (rw [pk_un (by decide)]; exact f2)) (by omega) (by first | exact f1 | (rw [pk_un (by decide)]; exact f1)) r2) ?_
          show RR _ _ 96 [some (.ref 146), some (.int (nI d)), some (.int (nI (cod s.1)))] [] (upd g 21 (nI (plc s.1))) A _
          refine rr_nx (pc' := 97) (al' := [some (.ref 146), some (.int (nI d)), some (.int (nI (cod s.1)))]) (st' := [.ref 146]) d_199_96 (fun _ => rfl) ?_
          refine rr_nx (pc' := 98) (al' := [some (.ref 146), some (.int (nI d)), some (.int (nI (cod s.1)))]) (st' := [.ref 146, .ref 146]) d_199_97 (fun _ => rfl) ?_
          refine rr_gf (v := .int (g 22)) d_199_98 mo_199 fl_186 rfl ?_
          refine rr_tp (z := nI s.2.1) f3 ?_
          refine rn_ic (v := 1) d_199_101 (by decide) ?_
          refine rn_add d_199_102  ?_
          refine rp_22 d_199_103 mo_199 fl_186  ?_
          refine rr_nx (pc' := 107) (al' := [some (.ref 146), some (.int (nI d)), some (.int (nI (cod s.1)))]) (st' := [.ref 146]) d_199_106 (fun _ => rfl) ?_
          refine rr_pv (as := []) (al0 := [some (.ref 146)]) (r := []) d_199_107 mo_199 ml_156 mz_200 rfl rfl rfl (Nat.le_of_ble_eq_true rfl) (s_fine) ?_
          show RR _ _ 110 [some (.ref 146), some (.int (nI d)), some (.int (nI (cod s.1)))] [.int (bI ((nI (plc s.1)) = -1))] (upd (upd g 21 (nI (plc s.1))) 22 (nI (s.2.1 + 1))) A _
          refine rr_beq (t := 130) d_199_110 (by decide) (fun c110 => ?_) (fun c110 => ?_)
          · exact rr_rv d_199_130 mr_199 ⟨rfl, rfl, rfl⟩
          · exact absurd c110 (bad_ne r4)
    · exact absurd (of_decide_eq_true (by have q := ha; unfold isLt at q; exact q) : 1 ≤ cod s.1 ∧ cod s.1 ≤ 4) (by omega)
  · exact absurd f1 c4
theorem s_rp_no {g : Nat → Int32} {A : Nat → Nat → Int32} {cod plc : Nat → Nat} {N : Nat} {s : LSt} {d : Nat} (hT : TkA cod plc N A) (hF : FnG g s) (h1 : s.1 ≤ N) (h2 : s.2.1 ≤ 32) (hd : d ≤ 8) (ha : ¬ isLt (cod s.1) = true) (hb : ¬ cod s.1 = 140) : RR 2 199 0 [some (.ref 146), some (.int (nI d)), none] [] g A (rP none (upd g 21 (nI (plc s.1))) A) := by
  obtain ⟨hN, hE, hR⟩ := hT
  obtain ⟨r1, r2, r3, r4⟩ := hR s.1 h1
  obtain ⟨f1, f2, f3⟩ := hF
  refine rr_nx (pc' := 1) (al' := [some (.ref 146), some (.int (nI d)), none]) (st' := [.ref 146]) d_199_0 (fun _ => rfl) ?_
  refine rr_pv (as := []) (al0 := [some (.ref 146)]) (r := []) d_199_1 mo_199 ml_156 mz_200 rfl rfl rfl (Nat.le_of_ble_eq_true rfl) (s_fine) ?_
  show RR _ _ 4 [some (.ref 146), some (.int (nI d)), none] [.int (bI ((g 21) = -1))] g A _
  refine rr_bne (t := 8) d_199_4 (by decide) (fun c4 => ?_) (fun c4 => ?_)
  · refine rr_nx (pc' := 9) (al' := [some (.ref 146), some (.int (nI d)), none]) (st' := [.ref 146]) d_199_8 (fun _ => rfl) ?_
    refine rr_gf (v := .ref (147 + 9)) d_199_9 mo_199 fl_43 rfl ?_
    refine rr_nx (pc' := 13) (al' := [some (.ref 146), some (.int (nI d)), none]) (st' := [.ref 146, .ref (147 + 9)]) d_199_12 (fun _ => rfl) ?_
    refine rr_gn d_199_13 mo_199 fl_160 rfl f2 ?_
    refine rr_ia (j := 9) (v := (nI (cod s.1))) d_199_16 (by decide) rfl (by decide) (show s.1 < 401 by first | omega | assumption | exact cu_36 (by omega) (cu_lt (by omega) (by omega))) r1 ?_
    refine rr_nx (pc' := 18) (al' := [some (.ref 146), some (.int (nI d)), some (.int (nI (cod s.1)))]) (st' := []) d_199_17 (fun _ => rfl) ?_
    refine rr_nx (pc' := 19) (al' := [some (.ref 146), some (.int (nI d)), some (.int (nI (cod s.1)))]) (st' := [.int (nI (cod s.1))]) d_199_18 (fun _ => rfl) ?_
    refine rn_bp (v := 40) d_199_19 (by decide) ?_
    refine rr_ps (as := [.int (nI 40)]) (al0 := [some (.int (nI 40))]) (r := [.int (nI (cod s.1))]) d_199_21 mo_199 ml_172 mz_201 rfl rfl rfl (Nat.le_of_ble_eq_true rfl) (s_sign) ?_
    show RR _ _ 24 [some (.ref 146), some (.int (nI d)), some (.int (nI (cod s.1)))] [.int (nI 140), .int (nI (cod s.1))] g A _
    refine rn_cne (t := 74) d_199_24 (by decide) (by first | omega | assumption | exact cu_36 (by omega) (cu_lt (by omega) (by omega))) (by first | omega | assumption | exact cu_36 (by omega) (cu_lt (by omega) (by omega))) (fun c24 => ?_) (fun c24 => ?_)
    · refine rr_nx (pc' := 75) (al' := [some (.ref 146), some (.int (nI d)), some (.int (nI (cod s.1)))]) (st' := [.int (nI (cod s.1))]) d_199_74 (fun _ => rfl) ?_
      refine rn_ic (v := 1) d_199_75 (by decide) ?_
      refine rn_ic (v := 4) d_199_76 (by decide) ?_
      refine rr_ps (as := [.int (nI (cod s.1)), .int (nI 1), .int (nI 4)]) (al0 := [some (.int (nI (cod s.1))), some (.int (nI 1)), some (.int (nI 4))]) (r := []) d_199_77 mo_199 ml_106 mz_179 rfl rfl rfl (Nat.le_of_ble_eq_true rfl) (s_lies (nI (cod s.1)) (nI 1) (nI 4)) ?_
      show RR _ _ 80 [some (.ref 146), some (.int (nI d)), some (.int (nI (cod s.1)))] [.int (bI ((nI 1) ≤ (nI (cod s.1)) ∧ (nI (cod s.1)) ≤ (nI 4)))] g A _
      refine rr_beq (t := 126) d_199_80 (by decide) (fun c80 => ?_) (fun c80 => ?_)
      · refine rr_nx (pc' := 127) (al' := [some (.ref 146), some (.int (nI d)), some (.int (nI (cod s.1)))]) (st' := [.ref 146]) d_199_126 (fun _ => rfl) ?_
        refine rr_pv (as := []) (al0 := [some (.ref 146)]) (r := []) d_199_127 mo_199 ml_166 mz_202 rfl rfl rfl (Nat.le_of_ble_eq_true rfl) (s_faults_t (by first | exact f2 | (rw [pk_un (by decide)]; exact f2)) (by omega) (by first | exact f1 | (rw [pk_un (by decide)]; exact f1)) r2) ?_
        show RR _ _ 130 [some (.ref 146), some (.int (nI d)), some (.int (nI (cod s.1)))] [] (upd g 21 (nI (plc s.1))) A _
        exact rr_rv d_199_130 mr_199 ⟨rfl, rfl, rfl⟩
      · exact absurd ((lt_iff r3).mp c80) ha
    · exact absurd c24 hb
  · exact absurd f1 c4
theorem s_rp_d8 {g : Nat → Int32} {A : Nat → Nat → Int32} {cod plc : Nat → Nat} {N : Nat} {s : LSt} {d : Nat} (hT : TkA cod plc N A) (hF : FnG g s) (h1 : s.1 ≤ N) (h2 : s.2.1 ≤ 32) (hd : d ≤ 8) (hb : cod s.1 = 140) (hd8 : d = 8) : RR 2 199 0 [some (.ref 146), some (.int (nI d)), none] [] g A (rP none (upd g 21 (nI (plc s.1))) A) := by
  obtain ⟨hN, hE, hR⟩ := hT
  obtain ⟨r1, r2, r3, r4⟩ := hR s.1 h1
  obtain ⟨f1, f2, f3⟩ := hF
  refine rr_nx (pc' := 1) (al' := [some (.ref 146), some (.int (nI d)), none]) (st' := [.ref 146]) d_199_0 (fun _ => rfl) ?_
  refine rr_pv (as := []) (al0 := [some (.ref 146)]) (r := []) d_199_1 mo_199 ml_156 mz_200 rfl rfl rfl (Nat.le_of_ble_eq_true rfl) (s_fine) ?_
  show RR _ _ 4 [some (.ref 146), some (.int (nI d)), none] [.int (bI ((g 21) = -1))] g A _
  refine rr_bne (t := 8) d_199_4 (by decide) (fun c4 => ?_) (fun c4 => ?_)
  · refine rr_nx (pc' := 9) (al' := [some (.ref 146), some (.int (nI d)), none]) (st' := [.ref 146]) d_199_8 (fun _ => rfl) ?_
    refine rr_gf (v := .ref (147 + 9)) d_199_9 mo_199 fl_43 rfl ?_
    refine rr_nx (pc' := 13) (al' := [some (.ref 146), some (.int (nI d)), none]) (st' := [.ref 146, .ref (147 + 9)]) d_199_12 (fun _ => rfl) ?_
    refine rr_gn d_199_13 mo_199 fl_160 rfl f2 ?_
    refine rr_ia (j := 9) (v := (nI (cod s.1))) d_199_16 (by decide) rfl (by decide) (show s.1 < 401 by first | omega | assumption | exact cu_36 (by omega) (cu_lt (by omega) (by omega))) r1 ?_
    refine rr_nx (pc' := 18) (al' := [some (.ref 146), some (.int (nI d)), some (.int (nI (cod s.1)))]) (st' := []) d_199_17 (fun _ => rfl) ?_
    refine rr_nx (pc' := 19) (al' := [some (.ref 146), some (.int (nI d)), some (.int (nI (cod s.1)))]) (st' := [.int (nI (cod s.1))]) d_199_18 (fun _ => rfl) ?_
    refine rn_bp (v := 40) d_199_19 (by decide) ?_
    refine rr_ps (as := [.int (nI 40)]) (al0 := [some (.int (nI 40))]) (r := [.int (nI (cod s.1))]) d_199_21 mo_199 ml_172 mz_201 rfl rfl rfl (Nat.le_of_ble_eq_true rfl) (s_sign) ?_
    show RR _ _ 24 [some (.ref 146), some (.int (nI d)), some (.int (nI (cod s.1)))] [.int (nI 140), .int (nI (cod s.1))] g A _
    refine rn_cne (t := 74) d_199_24 (by decide) (by first | omega | assumption | exact cu_36 (by omega) (cu_lt (by omega) (by omega))) (by first | omega | assumption | exact cu_36 (by omega) (cu_lt (by omega) (by omega))) (fun c24 => ?_) (fun c24 => ?_)
    · exact absurd hb c24
    · refine rr_nx (pc' := 28) (al' := [some (.ref 146), some (.int (nI d)), some (.int (nI (cod s.1)))]) (st' := [.int (nI d)]) d_199_27 (fun _ => rfl) ?_
      refine rn_bp (v := 8) d_199_28 (by decide) ?_
      refine rn_cne (t := 37) d_199_30 (by decide) (by first | omega | assumption | exact cu_36 (by omega) (cu_lt (by omega) (by omega))) (by first | omega | assumption | exact cu_36 (by omega) (cu_lt (by omega) (by omega))) (fun c30 => ?_) (fun c30 => ?_)
      · omega
      · refine rr_nx (pc' := 34) (al' := [some (.ref 146), some (.int (nI d)), some (.int (nI (cod s.1)))]) (st' := [.ref 146]) d_199_33 (fun _ => rfl) ?_
        refine rr_pv (as := []) (al0 := [some (.ref 146)]) (r := []) d_199_34 mo_199 ml_166 mz_202 rfl rfl rfl (Nat.le_of_ble_eq_true rfl) (s_faults_t (by first | exact f2 | (rw [pk_un (by decide)]; exact f2)) (by omega) (by first | exact f1 | (rw [pk_un (by decide)]; exact f1)) r2) ?_
        show RR _ _ 37 [some (.ref 146), some (.int (nI d)), some (.int (nI (cod s.1)))] [] (upd g 21 (nI (plc s.1))) A _
        refine rr_nx (pc' := 38) (al' := [some (.ref 146), some (.int (nI d)), some (.int (nI (cod s.1)))]) (st' := [.ref 146]) d_199_37 (fun _ => rfl) ?_
        refine rr_pv (as := []) (al0 := [some (.ref 146)]) (r := []) d_199_38 mo_199 ml_156 mz_200 rfl rfl rfl (Nat.le_of_ble_eq_true rfl) (s_fine) ?_
        show RR _ _ 41 [some (.ref 146), some (.int (nI d)), some (.int (nI (cod s.1)))] [.int (bI ((nI (plc s.1)) = -1))] (upd g 21 (nI (plc s.1))) A _
        refine rr_bne (t := 45) d_199_41 (by decide) (fun c41 => ?_) (fun c41 => ?_)
        · exact absurd c41 (bad_ne r4)
        · exact rr_rv d_199_44 mr_199 ⟨rfl, rfl, rfl⟩
  · exact absurd f1 c4
theorem s_rp_br {g : Nat → Int32} {A : Nat → Nat → Int32} {Q : Option Value → (Nat → Int32) → (Nat → Nat → Int32) → Prop} {cod plc : Nat → Nat} {N : Nat} {s : LSt} {d : Nat} (hT : TkA cod plc N A) (hF : FnG g s) (h1 : s.1 ≤ N) (h2 : s.2.1 ≤ 32) (hd : d ≤ 8) {k : Nat} {P : (Nat → Int32) → Prop} (hb : cod s.1 = 140) (hd8 : d < 8) (hq : RR (k + 3) 198 0 [some (.ref 146), some (.int (nI (d + 1)))] [] (upd g 19 (nI (s.1 + 1))) A (fun v g' A' => v = none ∧ A' = A ∧ P g')) (hk : ∀ g1, P g1 → RR (k + 4) 199 62 [some (.ref 146), some (.int (nI d)), none] [] g1 A Q) : RR (k + 4) 199 0 [some (.ref 146), some (.int (nI d)), none] [] g A Q := by
  obtain ⟨hN, hE, hR⟩ := hT
  obtain ⟨r1, r2, r3, r4⟩ := hR s.1 h1
  obtain ⟨f1, f2, f3⟩ := hF
  refine rr_nx (pc' := 1) (al' := [some (.ref 146), some (.int (nI d)), none]) (st' := [.ref 146]) d_199_0 (fun _ => rfl) ?_
  refine rr_pv (as := []) (al0 := [some (.ref 146)]) (r := []) d_199_1 mo_199 ml_156 mz_200 rfl rfl rfl (Nat.le_of_ble_eq_true rfl) (s_fine) ?_
  show RR _ _ 4 [some (.ref 146), some (.int (nI d)), none] [.int (bI ((g 21) = -1))] g A _
  refine rr_bne (t := 8) d_199_4 (by decide) (fun c4 => ?_) (fun c4 => ?_)
  · refine rr_nx (pc' := 9) (al' := [some (.ref 146), some (.int (nI d)), none]) (st' := [.ref 146]) d_199_8 (fun _ => rfl) ?_
    refine rr_gf (v := .ref (147 + 9)) d_199_9 mo_199 fl_43 rfl ?_
    refine rr_nx (pc' := 13) (al' := [some (.ref 146), some (.int (nI d)), none]) (st' := [.ref 146, .ref (147 + 9)]) d_199_12 (fun _ => rfl) ?_
    refine rr_gn d_199_13 mo_199 fl_160 rfl f2 ?_
    refine rr_ia (j := 9) (v := (nI (cod s.1))) d_199_16 (by decide) rfl (by decide) (show s.1 < 401 by first | omega | assumption | exact cu_36 (by omega) (cu_lt (by omega) (by omega))) r1 ?_
    refine rr_nx (pc' := 18) (al' := [some (.ref 146), some (.int (nI d)), some (.int (nI (cod s.1)))]) (st' := []) d_199_17 (fun _ => rfl) ?_
    refine rr_nx (pc' := 19) (al' := [some (.ref 146), some (.int (nI d)), some (.int (nI (cod s.1)))]) (st' := [.int (nI (cod s.1))]) d_199_18 (fun _ => rfl) ?_
    refine rn_bp (v := 40) d_199_19 (by decide) ?_
    refine rr_ps (as := [.int (nI 40)]) (al0 := [some (.int (nI 40))]) (r := [.int (nI (cod s.1))]) d_199_21 mo_199 ml_172 mz_201 rfl rfl rfl (Nat.le_of_ble_eq_true rfl) (s_sign) ?_
    show RR _ _ 24 [some (.ref 146), some (.int (nI d)), some (.int (nI (cod s.1)))] [.int (nI 140), .int (nI (cod s.1))] g A _
    refine rn_cne (t := 74) d_199_24 (by decide) (by first | omega | assumption | exact cu_36 (by omega) (cu_lt (by omega) (by omega))) (by first | omega | assumption | exact cu_36 (by omega) (cu_lt (by omega) (by omega))) (fun c24 => ?_) (fun c24 => ?_)
    · exact absurd hb c24
    · refine rr_nx (pc' := 28) (al' := [some (.ref 146), some (.int (nI d)), some (.int (nI (cod s.1)))]) (st' := [.int (nI d)]) d_199_27 (fun _ => rfl) ?_
      refine rn_bp (v := 8) d_199_28 (by decide) ?_
      refine rn_cne (t := 37) d_199_30 (by decide) (by first | omega | assumption | exact cu_36 (by omega) (cu_lt (by omega) (by omega))) (by first | omega | assumption | exact cu_36 (by omega) (cu_lt (by omega) (by omega))) (fun c30 => ?_) (fun c30 => ?_)
      · refine rr_nx (pc' := 38) (al' := [some (.ref 146), some (.int (nI d)), some (.int (nI (cod s.1)))]) (st' := [.ref 146]) d_199_37 (fun _ => rfl) ?_
        refine rr_pv (as := []) (al0 := [some (.ref 146)]) (r := []) d_199_38 mo_199 ml_156 mz_200 rfl rfl rfl (Nat.le_of_ble_eq_true rfl) (s_fine) ?_
        show RR _ _ 41 [some (.ref 146), some (.int (nI d)), some (.int (nI (cod s.1)))] [.int (bI ((g 21) = -1))] g A _
        refine rr_bne (t := 45) d_199_41 (by decide) (fun c41 => ?_) (fun c41 => ?_)
        · refine rr_nx (pc' := 46) (al' := [some (.ref 146), some (.int (nI d)), some (.int (nI (cod s.1)))]) (st' := [.ref 146]) d_199_45 (fun _ => rfl) ?_
          refine rr_nx (pc' := 47) (al' := [some (.ref 146), some (.int (nI d)), some (.int (nI (cod s.1)))]) (st' := [.ref 146, .ref 146]) d_199_46 (fun _ => rfl) ?_
          refine rr_gn d_199_47 mo_199 fl_160 rfl f2 ?_
          refine rn_ic (v := 1) d_199_50 (by decide) ?_
          refine rn_add d_199_51  ?_
          refine rp_19 d_199_52 mo_199 fl_160  ?_
          refine rr_nx (pc' := 56) (al' := [some (.ref 146), some (.int (nI d)), some (.int (nI (cod s.1)))]) (st' := [.ref 146]) d_199_55 (fun _ => rfl) ?_
          refine rr_nx (pc' := 57) (al' := [some (.ref 146), some (.int (nI d)), some (.int (nI (cod s.1)))]) (st' := [.int (nI d), .ref 146]) d_199_56 (fun _ => rfl) ?_
          refine rn_ic (v := 1) d_199_57 (by decide) ?_
          refine rn_add d_199_58  ?_
          refine rr_cv (as := [.int (nI (d + 1))]) (al0 := [some (.ref 146), some (.int (nI (d + 1)))]) (r := []) d_199_59 mo_199 ml_176 mz_198 rfl rfl rfl (rr_wk (Nat.le_refl _) (hq)) (fun v1 g1 A1 h1 => ?_)
          obtain ⟨q0_, q1_, h1⟩ := h1
          obtain rfl := q0_
          obtain rfl := q1_.symm
          show RR _ _ 62 [some (.ref 146), some (.int (nI d)), some (.int (nI (cod s.1)))] [] g1 A _
          refine rr_dr (al1 := [some (.ref 146), some (.int (nI d)), none]) (le_s (le_s (le_d rfl (le_n)))) ?_
          exact hk g1 h1
        · exact absurd f1 c41
      · omega
  · exact absurd f1 c4
theorem s_rp62_t {g : Nat → Int32} {A : Nat → Nat → Int32} {d : Nat} {j : Nat} (h19 : g 19 = nI j) (hj : j ≤ 400) {k : Nat} (hf : g 21 = -1) (hk : A 9 j = nI k) (hk3 : k < 2 ^ 31) (he : k = 141) : RR 3 199 62 [some (.ref 146), some (.int (nI d)), none] [] g A (rP none (upd g 19 (nI (j + 1))) A) := by
  refine rr_nx (pc' := 63) (al' := [some (.ref 146), some (.int (nI d)), none]) (st' := [.ref 146]) d_199_62 (fun _ => rfl) ?_
  refine rn_bp (v := 41) d_199_63 (by decide) ?_
  refine rr_ps (as := [.int (nI 41)]) (al0 := [some (.int (nI 41))]) (r := [.ref 146]) d_199_65 mo_199 ml_172 mz_201 rfl rfl rfl (Nat.le_of_ble_eq_true rfl) (s_sign) ?_
  show RR _ _ 68 [some (.ref 146), some (.int (nI d)), none] [.int (nI 141), .ref 146] g A _
  refine rr_pv (as := [.int (nI 141)]) (al0 := [some (.ref 146), some (.int (nI 141))]) (r := []) d_199_68 mo_199 ml_180 mz_203 rfl rfl rfl (Nat.le_of_ble_eq_true rfl) (s_must_t h19 hj hf hk hk3 (by decide) he) ?_
  show RR _ _ 71 [some (.ref 146), some (.int (nI d)), none] [] (upd g 19 (nI (j + 1))) A _
  refine rr_nx (pc' := 130) (al' := [some (.ref 146), some (.int (nI d)), none]) (st' := []) d_199_71 (fun _ => rfl) ?_
  exact rr_rv d_199_130 mr_199 ⟨rfl, rfl, rfl⟩
theorem s_rp62_n {g : Nat → Int32} {A : Nat → Nat → Int32} {d : Nat} {j : Nat} (h19 : g 19 = nI j) (hj : j ≤ 400) {k : Nat} (hf : g 21 = -1) (hk : A 9 j = nI k) (hk3 : k < 2 ^ 31) {p : Nat} (hp : A 11 j = nI p) (he : ¬ k = 141) : RR 3 199 62 [some (.ref 146), some (.int (nI d)), none] [] g A (rP none (upd g 21 (nI p)) A) := by
  refine rr_nx (pc' := 63) (al' := [some (.ref 146), some (.int (nI d)), none]) (st' := [.ref 146]) d_199_62 (fun _ => rfl) ?_
  refine rn_bp (v := 41) d_199_63 (by decide) ?_
  refine rr_ps (as := [.int (nI 41)]) (al0 := [some (.int (nI 41))]) (r := [.ref 146]) d_199_65 mo_199 ml_172 mz_201 rfl rfl rfl (Nat.le_of_ble_eq_true rfl) (s_sign) ?_
  show RR _ _ 68 [some (.ref 146), some (.int (nI d)), none] [.int (nI 141), .ref 146] g A _
  refine rr_pv (as := [.int (nI 141)]) (al0 := [some (.ref 146), some (.int (nI 141))]) (r := []) d_199_68 mo_199 ml_180 mz_203 rfl rfl rfl (Nat.le_of_ble_eq_true rfl) (s_must_n h19 hj hf hk hk3 (by decide) hp he) ?_
  show RR _ _ 71 [some (.ref 146), some (.int (nI d)), none] [] (upd g 21 (nI p)) A _
  refine rr_nx (pc' := 130) (al' := [some (.ref 146), some (.int (nI d)), none]) (st' := []) d_199_71 (fun _ => rfl) ?_
  exact rr_rv d_199_130 mr_199 ⟨rfl, rfl, rfl⟩
theorem s_rp62_f {g : Nat → Int32} {A : Nat → Nat → Int32} {d : Nat} (hf : ¬ g 21 = -1) : RR 3 199 62 [some (.ref 146), some (.int (nI d)), none] [] g A (rP none g A) := by
  refine rr_nx (pc' := 63) (al' := [some (.ref 146), some (.int (nI d)), none]) (st' := [.ref 146]) d_199_62 (fun _ => rfl) ?_
  refine rn_bp (v := 41) d_199_63 (by decide) ?_
  refine rr_ps (as := [.int (nI 41)]) (al0 := [some (.int (nI 41))]) (r := [.ref 146]) d_199_65 mo_199 ml_172 mz_201 rfl rfl rfl (Nat.le_of_ble_eq_true rfl) (s_sign) ?_
  show RR _ _ 68 [some (.ref 146), some (.int (nI d)), none] [.int (nI 141), .ref 146] g A _
  refine rr_pv (as := [.int (nI 141)]) (al0 := [some (.ref 146), some (.int (nI 141))]) (r := []) d_199_68 mo_199 ml_180 mz_203 rfl rfl rfl (Nat.le_of_ble_eq_true rfl) (s_must_f hf) ?_
  show RR _ _ 71 [some (.ref 146), some (.int (nI d)), none] [] g A _
  refine rr_nx (pc' := 130) (al' := [some (.ref 146), some (.int (nI d)), none]) (st' := []) d_199_71 (fun _ => rfl) ?_
  exact rr_rv d_199_130 mr_199 ⟨rfl, rfl, rfl⟩
theorem s_readPart_s {cod plc : Nat → Nat} {N F e : Nat} (he : e < 8) (ih : TmC cod plc N F e) : PtC cod plc N F (e + 1) := by
  intro g A s hT hF h1 h2
  have hd : 8 - (e + 1) ≤ 8 := by omega
  by_cases ha : isLt (cod s.1) = true
  · by_cases hb : s.2.1 < 32
    · rw [pt_lt ⟨ha, hb⟩]
      refine rr_wk (by omega) (rr_cq (s_rp_lt hT hF h1 h2 hd ha hb) ?_)
      rintro r g' A' ⟨rfl, rfl, rfl⟩
      exact ⟨rfl, rfl, fun k a b c => by rw [pk_un a, pk_un c], by rw [pk_us], fun _ => ⟨by rw [pk_un (by decide), pk_un (by decide)]; exact hF.1, by rw [pk_un (by decide), pk_us]⟩, fun q => absurd (show true = false from q) (by decide)⟩
    · rw [pt_no (fun q => hb q.2) (fun q => by have := of_decide_eq_true ha; omega)]
      refine rr_wk (by omega) (rr_cq (s_rp_l32 hT hF h1 h2 hd ha (by omega)) ?_)
      rintro r g' A' ⟨rfl, rfl, rfl⟩
      exact ⟨rfl, rfl, fun k a b c => by rw [pk_un c, pk_un b], by rw [pk_un (by decide), pk_un (by decide)]; exact hF.2.1, fun q => absurd (show false = true from q) (by decide), fun _ => by rw [pk_un (by decide), pk_us]⟩
  · by_cases hb : cod s.1 = 140
    · have hlt := cd_in hT.2.1 h1 (by omega)
      have hu : prt cod F (e + 1) s = match trm cod F (prt cod F e) (s.1 + 1, s.2.1, s.2.2) with
        | (true, u) => if cod u.1 = 141 then (true, u.1 + 1, u.2.1, u.2.2) else (false, u)
        | (false, u) => (false, u) := by
        conv => lhs; unfold prt
        rw [if_neg (fun q => ha q.1), if_pos hb]
        rfl
      have hok := tr8_ok (F := F) (e := e) hT.2.1 (s.1 + 1, s.2.1, s.2.2) (by show s.1 + 1 ≤ N; omega) h2
      have hrun := ih (s := (s.1 + 1, s.2.1, s.2.2)) hT (g := upd g 19 (nI (s.1 + 1))) ⟨by rw [pk_un (by decide)]; exact hF.1, pk_us, by rw [pk_un (by decide)]; exact hF.2.2⟩ (by show s.1 + 1 ≤ N; omega) h2
      rw [hu]
      rcases hr : trm cod F (prt cod F e) (s.1 + 1, s.2.1, s.2.2) with ⟨b, u⟩
      rw [hr] at hok hrun
      obtain ⟨o1, o2, o3, o4, o5, o6⟩ := hok
      dsimp only at o1 o2 o3 o4 o5 o6
      obtain ⟨r1, r2, r3, r4⟩ := hT.2.2 u.1 o2
      refine rr_wk (show 2 * e + 1 + 4 ≤ 2 * (e + 1) + 3 by omega) (s_rp_br (k := 2 * e + 1) (P := fun g' => (∀ k, k ≠ 19 → k ≠ 21 → k ≠ 22 → g' k = upd g 19 (nI (s.1 + 1)) k) ∧ g' 19 = nI u.1 ∧ (b = true → g' 21 = -1 ∧ g' 22 = nI u.2.1) ∧ (b = false → g' 21 = nI (plc u.1))) hT hF h1 h2 hd hb (by omega) ?_ ?_)
      · rw [show 8 - (e + 1) + 1 = 8 - e by omega]
        exact rr_cq hrun (fun r g' A' h => ⟨h.1, h.2.1, h.2.2⟩)
      · rintro g1 ⟨k1, k2, k3, k4⟩
        cases b
        · dsimp only
          have hb1 : ¬ g1 21 = -1 := by rw [k4 rfl]; exact bad_ne r4
          refine rr_wk (by omega) (rr_cq (s_rp62_f hb1) ?_)
          rintro r g' A' ⟨rfl, rfl, rfl⟩
          exact ⟨rfl, rfl, fun k a b c => by rw [k1 k a b c, pk_un a], k2, fun q => absurd (show false = true from q) (by decide), fun _ => k4 rfl⟩
        · dsimp only
          by_cases hc : cod u.1 = 141
          · rw [if_pos hc]
            refine rr_wk (by omega) (rr_cq (s_rp62_t k2 (by have := hT.1; omega) (k3 rfl).1 r1 (by omega) hc) ?_)
            rintro r g' A' ⟨rfl, rfl, rfl⟩
            exact ⟨rfl, rfl, fun k a b c => by rw [pk_un a, k1 k a b c, pk_un a], by rw [pk_us], fun _ => ⟨by rw [pk_un (by decide)]; exact (k3 rfl).1, by rw [pk_un (by decide)]; exact (k3 rfl).2⟩, fun q => absurd (show true = false from q) (by decide)⟩
          · rw [if_neg hc]
            refine rr_wk (by omega) (rr_cq (s_rp62_n k2 (by have := hT.1; omega) (k3 rfl).1 r1 (by omega) r2 hc) ?_)
            rintro r g' A' ⟨rfl, rfl, rfl⟩
            exact ⟨rfl, rfl, fun k a b c => by rw [pk_un b, k1 k a b c, pk_un a], by rw [pk_un (by decide)]; exact k2, fun q => absurd (show false = true from q) (by decide), fun _ => by rw [pk_us]⟩
    · rw [pt_no (fun q => ha q.1) hb]
      refine rr_wk (by omega) (rr_cq (s_rp_no hT hF h1 h2 hd ha hb) ?_)
      rintro r g' A' ⟨rfl, rfl, rfl⟩
      exact ⟨rfl, rfl, fun k a b c => by rw [pk_un b], by rw [pk_un (by decide)]; exact hF.2.1, fun q => absurd (show false = true from q) (by decide), fun _ => by rw [pk_us]⟩
theorem s_readPart_0 {cod plc : Nat → Nat} {N F : Nat} : PtC cod plc N F 0 := by
  intro g A s hT hF h1 h2
  by_cases ha : isLt (cod s.1) = true
  · by_cases hb : s.2.1 < 32
    · rw [pt_lt ⟨ha, hb⟩]
      refine rr_wk (by omega) (rr_cq (s_rp_lt (d := 8) hT hF h1 h2 (by omega) ha hb) ?_)
      rintro r g' A' ⟨rfl, rfl, rfl⟩
      exact ⟨rfl, rfl, fun k a b c => by rw [pk_un a, pk_un c], by rw [pk_us], fun _ => ⟨by rw [pk_un (by decide), pk_un (by decide)]; exact hF.1, by rw [pk_un (by decide), pk_us]⟩, fun q => absurd (show true = false from q) (by decide)⟩
    · rw [pt_no (fun q => hb q.2) (fun q => by have := of_decide_eq_true ha; omega)]
      refine rr_wk (by omega) (rr_cq (s_rp_l32 (d := 8) hT hF h1 h2 (by omega) ha (by omega)) ?_)
      rintro r g' A' ⟨rfl, rfl, rfl⟩
      exact ⟨rfl, rfl, fun k a b c => by rw [pk_un c, pk_un b], by rw [pk_un (by decide), pk_un (by decide)]; exact hF.2.1, fun q => absurd (show false = true from q) (by decide), fun _ => by rw [pk_un (by decide), pk_us]⟩
  · have hpz : prt cod F 0 s = (false, s) := by unfold prt; rw [if_neg (fun q => ha q.1)]
    rw [hpz]
    by_cases hb : cod s.1 = 140
    · refine rr_wk (by omega) (rr_cq (s_rp_d8 (d := 8) hT hF h1 h2 (by omega) hb rfl) ?_)
      rintro r g' A' ⟨rfl, rfl, rfl⟩
      exact ⟨rfl, rfl, fun k a b c => by rw [pk_un b], by rw [pk_un (by decide)]; exact hF.2.1, fun q => absurd (show false = true from q) (by decide), fun _ => by rw [pk_us]⟩
    · refine rr_wk (by omega) (rr_cq (s_rp_no (d := 8) hT hF h1 h2 (by omega) ha hb) ?_)
      rintro r g' A' ⟨rfl, rfl, rfl⟩
      exact ⟨rfl, rfl, fun k a b c => by rw [pk_un b], by rw [pk_un (by decide)]; exact hF.2.1, fun q => absurd (show false = true from q) (by decide), fun _ => by rw [pk_us]⟩
