/-! Calls: name, alike; printed by wip/whole/gen_c30.py (the reference's renamings once more, with row 20 kept). -/
def kpS (j : Nat) : Bool := kpR j || j == 20
def Ks2 (A A' : Nat → Nat → Int32) : Prop := ∀ j, kpS j = true → A' j = A j
theorem Ks2.rf {A : Nat → Nat → Int32} : Ks2 A A := fun _ _ => rfl
theorem Ks2.u {A A' : Nat → Nat → Int32} {j : Nat} {w : Nat → Int32} (h : Ks2 A A') (hj : kpS j = false) : Ks2 A (rf_u A' j w) := fun i hi => by
  rw [rf_u_n (fun e => by rw [e, hj] at hi; cases hi)]
  exact h i hi
theorem Ks2.tr {A B C : Nat → Nat → Int32} (h : Ks2 A B) (h2 : Ks2 B C) : Ks2 A C := fun j hj => (h2 j hj).trans (h j hj)
theorem Ks2.k {A A' : Nat → Nat → Int32} (h : Ks2 A A') : Ksm A A' := fun j hj => h j (by unfold kpS; rw [hj]; rfl)
theorem s_ren_100k {g : Nat → Int32} {A : Nat → Nat → Int32} {Q : Option Value → (Nat → Int32) → (Nat → Nat → Int32) → Prop} {n h r : Nat} {z v : Int32} {t b : Nat → Nat} (hn6 : n ≤ 6) (h6 : g 6 = nI n) (h38 : g 38 = nI h) (hh : h ≤ 1) (h5 : ∀ q, q < n * n → A 5 q = nI (t q) ∧ t q < n) (h19 : h = 1 → ∀ q, q < n * n → A 19 q = nI (b q) ∧ b q < n) (hv : h = 1 → (v < 0 ↔ lxL (n * n) t b)) (hk : ∀ g' A', g' 6 = nI n → g' 38 = nI 1 → Gsm g g' → Ks2 A A' → A' 4 = A 4 → ∀ b' : Nat → Nat, (∀ q, q < n * n → A' 19 q = nI (b' q) ∧ b' q < n) → StpN (n * n) h b t b' → RR 20 260 157 [some (.ref 146), some (.int z), some (.int (nI (FA n))), some (.int (nI r)), none, none] [] g' A' Q) : RR 20 260 100 [some (.ref 146), some (.int z), some (.int (nI (FA n))), some (.int (nI r)), some (.int v), none] [] g A Q := by
  have hnn : n * n ≤ 36 := Nat.mul_le_mul hn6 hn6
  refine rr_nx (pc' := 101) (al' := [some (.ref 146), some (.int z), some (.int (nI (FA n))), some (.int (nI r)), some (.int v), none]) (st' := [.ref 146]) d_260_100 (fun _ => rfl) ?_
  refine rr_gn d_260_101 mo_260 fl_312 rfl h38 ?_
  refine rn_ieq (t := 115) d_260_104 (by decide) (by first | omega | assumption | exact cu_36 (by omega) (cu_lt (by omega) (by omega))) (fun c104 => ?_) (fun c104 => ?_)
  · refine rr_nx (pc' := 116) (al' := [some (.ref 146), some (.int z), some (.int (nI (FA n))), some (.int (nI r)), some (.int v), none]) (st' := [.ref 146]) d_260_115 (fun _ => rfl) ?_
    refine rn_ic (v := 1) d_260_116 (by decide) ?_
    refine rp_38 d_260_117 mo_260 fl_312 (Or.inr rfl) ?_
    refine rn_ic (v := 0) d_260_120 (by decide) ?_
    refine rr_nx (pc' := 123) (al' := [some (.ref 146), some (.int z), some (.int (nI (FA n))), some (.int (nI r)), some (.int v), some (.int (nI 0))]) (st' := []) d_260_121 (fun _ => rfl) ?_
    refine rr_A (show A = (rf_u A 19 (A 19)) by rw [rf_u_id]) ?_
    refine rr_upw (al := fun q w_ => [some (.ref 146), some (.int z), some (.int (nI (FA n))), some (.int (nI r)), some (.int v), some (.int (nI q))]) (G := fun q w_ => (upd g 38 (nI 1))) (B := fun q w_ => (rf_u A 19 w_)) (P := fun q w_ => ∀ j, j < q → w_ j = nI (t j)) (n := n * n) (fun q w_ hq pq ihq => ?_) (fun w_ pq => ?_) 0 (A 19) (by omega) (all_0)
    · show RR _ _ 123 [some (.ref 146), some (.int z), some (.int (nI (FA n))), some (.int (nI r)), some (.int v), some (.int (nI q))] [] (upd g 38 (nI 1)) (rf_u A 19 w_) _
      refine rr_nx (pc' := 125) (al' := [some (.ref 146), some (.int z), some (.int (nI (FA n))), some (.int (nI r)), some (.int v), some (.int (nI q))]) (st' := [.int (nI q)]) d_260_123 (fun _ => rfl) ?_
      refine rr_nx (pc' := 126) (al' := [some (.ref 146), some (.int z), some (.int (nI (FA n))), some (.int (nI r)), some (.int v), some (.int (nI q))]) (st' := [.ref 146, .int (nI q)]) d_260_125 (fun _ => rfl) ?_
      refine rr_gf (v := .int (g 6)) d_260_126 mo_260 fl_127 rfl ?_
      refine rr_tp (z := nI n) h6 ?_
      refine rr_nx (pc' := 130) (al' := [some (.ref 146), some (.int z), some (.int (nI (FA n))), some (.int (nI r)), some (.int v), some (.int (nI q))]) (st' := [.ref 146, .int (nI n), .int (nI q)]) d_260_129 (fun _ => rfl) ?_
      refine rr_gf (v := .int (g 6)) d_260_130 mo_260 fl_127 rfl ?_
      refine rr_tp (z := nI n) h6 ?_
      refine rn_mul d_260_133  ?_
      refine rn_cge (t := 157) d_260_134 (by decide) (by first | omega | assumption | exact cu_36 (by omega) (cu_lt (by omega) (by omega))) (by first | omega | assumption | exact cu_36 (by omega) (cu_lt (by omega) (by omega))) (fun c134 => ?_) (fun c134 => ?_)
      · omega
      · refine rr_nx (pc' := 138) (al' := [some (.ref 146), some (.int z), some (.int (nI (FA n))), some (.int (nI r)), some (.int v), some (.int (nI q))]) (st' := [.ref 146]) d_260_137 (fun _ => rfl) ?_
        refine rr_gf (v := .ref (147 + 19)) d_260_138 mo_260 fl_73 rfl ?_
        refine rr_nx (pc' := 143) (al' := [some (.ref 146), some (.int z), some (.int (nI (FA n))), some (.int (nI r)), some (.int v), some (.int (nI q))]) (st' := [.int (nI q), .ref (147 + 19)]) d_260_141 (fun _ => rfl) ?_
        refine rr_nx (pc' := 144) (al' := [some (.ref 146), some (.int z), some (.int (nI (FA n))), some (.int (nI r)), some (.int v), some (.int (nI q))]) (st' := [.ref 146, .int (nI q), .ref (147 + 19)]) d_260_143 (fun _ => rfl) ?_
        refine rr_gf (v := .ref (147 + 5)) d_260_144 mo_260 fl_26 rfl ?_
        refine rr_nx (pc' := 149) (al' := [some (.ref 146), some (.int z), some (.int (nI (FA n))), some (.int (nI r)), some (.int v), some (.int (nI q))]) (st' := [.int (nI q), .ref (147 + 5), .int (nI q), .ref (147 + 19)]) d_260_147 (fun _ => rfl) ?_
        refine rr_ia (j := 5) (v := (nI (t q))) d_260_149 (by decide) rfl (by decide) (show q < 36 by first | omega | assumption | exact cu_36 (by omega) (cu_lt (by omega) (by omega))) (h5 q hq).1 ?_
        refine rr_iS (j := 19) (A1 := (rf_u A 19 (upd w_ q (nI (t q))))) d_260_150 (by decide) rfl (by decide) (show q < 36 by first | omega | assumption | exact cu_36 (by omega) (cu_lt (by omega) (by omega))) rf_uw ?_
        refine rn_inc d_260_151 rfl rfl ?_
        show RR _ _ 154 [some (.ref 146), some (.int z), some (.int (nI (FA n))), some (.int (nI r)), some (.int v), some (.int (nI (q + 1)))] [] (upd g 38 (nI 1)) (rf_u A 19 (upd w_ q (nI (t q)))) _
        refine rr_nx (pc' := 123) (al' := [some (.ref 146), some (.int z), some (.int (nI (FA n))), some (.int (nI r)), some (.int v), some (.int (nI (q + 1)))]) (st' := []) d_260_154 (fun _ => rfl) ?_
        exact ihq (upd w_ q (nI (t q))) (up_all (f := fun j => nI (t j)) pq rfl)
    · show RR _ _ 123 [some (.ref 146), some (.int z), some (.int (nI (FA n))), some (.int (nI r)), some (.int v), some (.int (nI (n * n)))] [] (upd g 38 (nI 1)) (rf_u A 19 w_) _
      refine rr_nx (pc' := 125) (al' := [some (.ref 146), some (.int z), some (.int (nI (FA n))), some (.int (nI r)), some (.int v), some (.int (nI (n * n)))]) (st' := [.int (nI (n * n))]) d_260_123 (fun _ => rfl) ?_
      refine rr_nx (pc' := 126) (al' := [some (.ref 146), some (.int z), some (.int (nI (FA n))), some (.int (nI r)), some (.int v), some (.int (nI (n * n)))]) (st' := [.ref 146, .int (nI (n * n))]) d_260_125 (fun _ => rfl) ?_
      refine rr_gf (v := .int (g 6)) d_260_126 mo_260 fl_127 rfl ?_
      refine rr_tp (z := nI n) h6 ?_
      refine rr_nx (pc' := 130) (al' := [some (.ref 146), some (.int z), some (.int (nI (FA n))), some (.int (nI r)), some (.int v), some (.int (nI (n * n)))]) (st' := [.ref 146, .int (nI n), .int (nI (n * n))]) d_260_129 (fun _ => rfl) ?_
      refine rr_gf (v := .int (g 6)) d_260_130 mo_260 fl_127 rfl ?_
      refine rr_tp (z := nI n) h6 ?_
      refine rn_mul d_260_133  ?_
      refine rn_cge (t := 157) d_260_134 (by decide) (by first | omega | assumption | exact cu_36 (by omega) (cu_lt (by omega) (by omega))) (by first | omega | assumption | exact cu_36 (by omega) (cu_lt (by omega) (by omega))) (fun c134 => ?_) (fun c134 => ?_)
      · refine rr_dr (al1 := [some (.ref 146), some (.int z), some (.int (nI (FA n))), some (.int (nI r)), none, none]) (le_s (le_s (le_s (le_s (le_d rfl (le_d rfl (le_n))))))) ?_
        exact hk (upd g 38 (nI 1)) (rf_u A 19 w_) (by rw [pk_un (by decide)]; exact h6) (by rw [pk_us]) (Gsm.rf.u (by decide)) (Ks2.rf.u (by decide)) (rf_u_n (by decide)) t (fun q hq => ⟨by rw [rf_u_s]; exact pq q hq, (h5 q hq).2⟩) (Or.inr ⟨by first | exact Or.inl c104 | exact Or.inr ((hv h1).mp c109), fun _ _ => rfl⟩)
      · omega
  · have h1 : h = 1 := by omega
    refine rr_nx (pc' := 109) (al' := [some (.ref 146), some (.int z), some (.int (nI (FA n))), some (.int (nI r)), some (.int v), none]) (st' := [.int v]) d_260_107 (fun _ => rfl) ?_
    refine rr_ilt (t := 115) d_260_109 (by decide) (fun c109 => ?_) (fun c109 => ?_)
    · refine rr_nx (pc' := 116) (al' := [some (.ref 146), some (.int z), some (.int (nI (FA n))), some (.int (nI r)), some (.int v), none]) (st' := [.ref 146]) d_260_115 (fun _ => rfl) ?_
      refine rn_ic (v := 1) d_260_116 (by decide) ?_
      refine rp_38 d_260_117 mo_260 fl_312 (Or.inr rfl) ?_
      refine rn_ic (v := 0) d_260_120 (by decide) ?_
      refine rr_nx (pc' := 123) (al' := [some (.ref 146), some (.int z), some (.int (nI (FA n))), some (.int (nI r)), some (.int v), some (.int (nI 0))]) (st' := []) d_260_121 (fun _ => rfl) ?_
      refine rr_A (show A = (rf_u A 19 (A 19)) by rw [rf_u_id]) ?_
      refine rr_upw (al := fun q w_ => [some (.ref 146), some (.int z), some (.int (nI (FA n))), some (.int (nI r)), some (.int v), some (.int (nI q))]) (G := fun q w_ => (upd g 38 (nI 1))) (B := fun q w_ => (rf_u A 19 w_)) (P := fun q w_ => ∀ j, j < q → w_ j = nI (t j)) (n := n * n) (fun q w_ hq pq ihq => ?_) (fun w_ pq => ?_) 0 (A 19) (by omega) (all_0)
      · show RR _ _ 123 [some (.ref 146), some (.int z), some (.int (nI (FA n))), some (.int (nI r)), some (.int v), some (.int (nI q))] [] (upd g 38 (nI 1)) (rf_u A 19 w_) _
        refine rr_nx (pc' := 125) (al' := [some (.ref 146), some (.int z), some (.int (nI (FA n))), some (.int (nI r)), some (.int v), some (.int (nI q))]) (st' := [.int (nI q)]) d_260_123 (fun _ => rfl) ?_
        refine rr_nx (pc' := 126) (al' := [some (.ref 146), some (.int z), some (.int (nI (FA n))), some (.int (nI r)), some (.int v), some (.int (nI q))]) (st' := [.ref 146, .int (nI q)]) d_260_125 (fun _ => rfl) ?_
        refine rr_gf (v := .int (g 6)) d_260_126 mo_260 fl_127 rfl ?_
        refine rr_tp (z := nI n) h6 ?_
        refine rr_nx (pc' := 130) (al' := [some (.ref 146), some (.int z), some (.int (nI (FA n))), some (.int (nI r)), some (.int v), some (.int (nI q))]) (st' := [.ref 146, .int (nI n), .int (nI q)]) d_260_129 (fun _ => rfl) ?_
        refine rr_gf (v := .int (g 6)) d_260_130 mo_260 fl_127 rfl ?_
        refine rr_tp (z := nI n) h6 ?_
        refine rn_mul d_260_133  ?_
        refine rn_cge (t := 157) d_260_134 (by decide) (by first | omega | assumption | exact cu_36 (by omega) (cu_lt (by omega) (by omega))) (by first | omega | assumption | exact cu_36 (by omega) (cu_lt (by omega) (by omega))) (fun c134 => ?_) (fun c134 => ?_)
        · omega
        · refine rr_nx (pc' := 138) (al' := [some (.ref 146), some (.int z), some (.int (nI (FA n))), some (.int (nI r)), some (.int v), some (.int (nI q))]) (st' := [.ref 146]) d_260_137 (fun _ => rfl) ?_
          refine rr_gf (v := .ref (147 + 19)) d_260_138 mo_260 fl_73 rfl ?_
          refine rr_nx (pc' := 143) (al' := [some (.ref 146), some (.int z), some (.int (nI (FA n))), some (.int (nI r)), some (.int v), some (.int (nI q))]) (st' := [.int (nI q), .ref (147 + 19)]) d_260_141 (fun _ => rfl) ?_
          refine rr_nx (pc' := 144) (al' := [some (.ref 146), some (.int z), some (.int (nI (FA n))), some (.int (nI r)), some (.int v), some (.int (nI q))]) (st' := [.ref 146, .int (nI q), .ref (147 + 19)]) d_260_143 (fun _ => rfl) ?_
          refine rr_gf (v := .ref (147 + 5)) d_260_144 mo_260 fl_26 rfl ?_
          refine rr_nx (pc' := 149) (al' := [some (.ref 146), some (.int z), some (.int (nI (FA n))), some (.int (nI r)), some (.int v), some (.int (nI q))]) (st' := [.int (nI q), .ref (147 + 5), .int (nI q), .ref (147 + 19)]) d_260_147 (fun _ => rfl) ?_
          refine rr_ia (j := 5) (v := (nI (t q))) d_260_149 (by decide) rfl (by decide) (show q < 36 by first | omega | assumption | exact cu_36 (by omega) (cu_lt (by omega) (by omega))) (h5 q hq).1 ?_
          refine rr_iS (j := 19) (A1 := (rf_u A 19 (upd w_ q (nI (t q))))) d_260_150 (by decide) rfl (by decide) (show q < 36 by first | omega | assumption | exact cu_36 (by omega) (cu_lt (by omega) (by omega))) rf_uw ?_
          refine rn_inc d_260_151 rfl rfl ?_
          show RR _ _ 154 [some (.ref 146), some (.int z), some (.int (nI (FA n))), some (.int (nI r)), some (.int v), some (.int (nI (q + 1)))] [] (upd g 38 (nI 1)) (rf_u A 19 (upd w_ q (nI (t q)))) _
          refine rr_nx (pc' := 123) (al' := [some (.ref 146), some (.int z), some (.int (nI (FA n))), some (.int (nI r)), some (.int v), some (.int (nI (q + 1)))]) (st' := []) d_260_154 (fun _ => rfl) ?_
          exact ihq (upd w_ q (nI (t q))) (up_all (f := fun j => nI (t j)) pq rfl)
      · show RR _ _ 123 [some (.ref 146), some (.int z), some (.int (nI (FA n))), some (.int (nI r)), some (.int v), some (.int (nI (n * n)))] [] (upd g 38 (nI 1)) (rf_u A 19 w_) _
        refine rr_nx (pc' := 125) (al' := [some (.ref 146), some (.int z), some (.int (nI (FA n))), some (.int (nI r)), some (.int v), some (.int (nI (n * n)))]) (st' := [.int (nI (n * n))]) d_260_123 (fun _ => rfl) ?_
        refine rr_nx (pc' := 126) (al' := [some (.ref 146), some (.int z), some (.int (nI (FA n))), some (.int (nI r)), some (.int v), some (.int (nI (n * n)))]) (st' := [.ref 146, .int (nI (n * n))]) d_260_125 (fun _ => rfl) ?_
        refine rr_gf (v := .int (g 6)) d_260_126 mo_260 fl_127 rfl ?_
        refine rr_tp (z := nI n) h6 ?_
        refine rr_nx (pc' := 130) (al' := [some (.ref 146), some (.int z), some (.int (nI (FA n))), some (.int (nI r)), some (.int v), some (.int (nI (n * n)))]) (st' := [.ref 146, .int (nI n), .int (nI (n * n))]) d_260_129 (fun _ => rfl) ?_
        refine rr_gf (v := .int (g 6)) d_260_130 mo_260 fl_127 rfl ?_
        refine rr_tp (z := nI n) h6 ?_
        refine rn_mul d_260_133  ?_
        refine rn_cge (t := 157) d_260_134 (by decide) (by first | omega | assumption | exact cu_36 (by omega) (cu_lt (by omega) (by omega))) (by first | omega | assumption | exact cu_36 (by omega) (cu_lt (by omega) (by omega))) (fun c134 => ?_) (fun c134 => ?_)
        · refine rr_dr (al1 := [some (.ref 146), some (.int z), some (.int (nI (FA n))), some (.int (nI r)), none, none]) (le_s (le_s (le_s (le_s (le_d rfl (le_d rfl (le_n))))))) ?_
          exact hk (upd g 38 (nI 1)) (rf_u A 19 w_) (by rw [pk_un (by decide)]; exact h6) (by rw [pk_us]) (Gsm.rf.u (by decide)) (Ks2.rf.u (by decide)) (rf_u_n (by decide)) t (fun q hq => ⟨by rw [rf_u_s]; exact pq q hq, (h5 q hq).2⟩) (Or.inr ⟨by first | exact Or.inl c104 | exact Or.inr ((hv h1).mp c109), fun _ _ => rfl⟩)
        · omega
    · refine rr_nx (pc' := 157) (al' := [some (.ref 146), some (.int z), some (.int (nI (FA n))), some (.int (nI r)), some (.int v), none]) (st' := []) d_260_112 (fun _ => rfl) ?_
      refine rr_dr (al1 := [some (.ref 146), some (.int z), some (.int (nI (FA n))), some (.int (nI r)), none, none]) (le_s (le_s (le_s (le_s (le_d rfl (le_s (le_n))))))) ?_
      exact hk g A h6 (by rw [h38, h1]) Gsm.rf Ks2.rf rfl b (fun q hq => h19 h1 q hq) (Or.inl ⟨h1, fun e => c109 ((hv h1).mpr e), fun _ _ => rfl⟩)
theorem s_renamingsNk {g : Nat → Int32} {A : Nat → Nat → Int32} {n : Nat} {c : Nat → Nat} (hc : Cur g A n c) {h : Nat} {b : Nat → Nat} {F : (Nat → Nat) → Prop} (hl : Lat n c) (h38 : g 38 = nI h) (hh : h ≤ 1) (h19 : h = 1 → ∀ q, q < n * n → A 19 q = nI (b q) ∧ b q < n) (hM : MinS (n * n) F h b) : RR 20 260 0 [some (.ref 146), some (.int (-1)), none, none, none, none] [] g A (fun r g' A' => r = none ∧ ∃ h' b', g' 6 = nI n ∧ g' 38 = nI h' ∧ h' ≤ 1 ∧ Gsm g g' ∧ Ks2 A A' ∧ A' 4 = A 4 ∧ (h' = 1 → ∀ q, q < n * n → A' 19 q = nI (b' q) ∧ b' q < n) ∧ MinS (n * n) (fun t => F t ∨ FR n c none t) h' b') := by
  have hn6 := hc.2.1
  have hnn : n * n ≤ 36 := Nat.mul_le_mul hn6 hn6
  have h720 := FA_720 hn6
  refine rr_nx (pc' := 1) (al' := [some (.ref 146), some (.int (-1)), none, none, none, none]) (st' := [.ref 146]) d_260_0 (fun _ => rfl) ?_
  refine rr_gn d_260_1 mo_260 fl_127 rfl (by first | exact pr.1 | exact hc.1) ?_
  refine rr_ps (as := [.int (nI n)]) (al0 := [some (.int (nI n)), none, none]) (r := []) d_260_4 mo_260 ml_270 mz_233 rfl rfl rfl (Nat.le_of_ble_eq_true rfl) (s_factorial (by omega)) ?_
  show RR _ _ 7 [some (.ref 146), some (.int (-1)), none, none, none, none] [.int (nI (FA n))] g A _
  refine rr_nx (pc' := 8) (al' := [some (.ref 146), some (.int (-1)), some (.int (nI (FA n))), none, none, none]) (st' := []) d_260_7 (fun _ => rfl) ?_
  refine rn_ic (v := 0) d_260_8 (by decide) ?_
  refine rr_nx (pc' := 10) (al' := [some (.ref 146), some (.int (-1)), some (.int (nI (FA n))), some (.int (nI 0)), none, none]) (st' := []) d_260_9 (fun _ => rfl) ?_
  refine rr_upw (al := fun r w_ => [some (.ref 146), some (.int (-1)), some (.int (nI (FA n))), some (.int (nI r)), none, none]) (G := fun r w_ => w_.2.2.1) (B := fun r w_ => w_.2.2.2) (P := fun r w_ => w_.2.2.1 6 = nI n ∧ w_.2.2.1 38 = nI w_.1 ∧ w_.1 ≤ 1 ∧ Gsm g w_.2.2.1 ∧ Ks2 A w_.2.2.2 ∧ w_.2.2.2 4 = A 4 ∧ (w_.1 = 1 → ∀ q, q < n * n → w_.2.2.2 19 q = nI (w_.2.1 q) ∧ w_.2.1 q < n) ∧ MinS (n * n) (fun t => F t ∨ FRr n c none r t) w_.1 w_.2.1) (n := FA n) (fun r w_ hr pr ihr => ?_) (fun w_ pr => ?_) 0 (h, b, g, A) (by omega) (⟨hc.1, h38, hh, Gsm.rf, Ks2.rf, rfl, h19, Min_iff hM FRr_0⟩)
  · show RR _ _ 10 [some (.ref 146), some (.int (-1)), some (.int (nI (FA n))), some (.int (nI r)), none, none] [] w_.2.2.1 w_.2.2.2 _
    have hP := pm_per hn6 hr
    have hT : ∀ q, q < n * n → (rnN n c (pmE n r)) q < n := (rn_lat hl hP).1
    refine rr_nx (pc' := 11) (al' := [some (.ref 146), some (.int (-1)), some (.int (nI (FA n))), some (.int (nI r)), none, none]) (st' := [.int (nI r)]) d_260_10 (fun _ => rfl) ?_
    refine rr_nx (pc' := 12) (al' := [some (.ref 146), some (.int (-1)), some (.int (nI (FA n))), some (.int (nI r)), none, none]) (st' := [.int (nI (FA n)), .int (nI r)]) d_260_11 (fun _ => rfl) ?_
    refine rn_cge (t := 163) d_260_12 (by decide) (by first | omega | assumption | exact cu_36 (by omega) (cu_lt (by omega) (by omega))) (by first | omega | assumption | exact cu_36 (by omega) (cu_lt (by omega) (by omega))) (fun c12 => ?_) (fun c12 => ?_)
    · omega
    · refine rr_nx (pc' := 16) (al' := [some (.ref 146), some (.int (-1)), some (.int (nI (FA n))), some (.int (nI r)), none, none]) (st' := [.ref 146]) d_260_15 (fun _ => rfl) ?_
      refine rr_nx (pc' := 17) (al' := [some (.ref 146), some (.int (-1)), some (.int (nI (FA n))), some (.int (nI r)), none, none]) (st' := [.int (nI r), .ref 146]) d_260_16 (fun _ => rfl) ?_
      refine rr_nx (pc' := 18) (al' := [some (.ref 146), some (.int (-1)), some (.int (nI (FA n))), some (.int (nI r)), none, none]) (st' := [.ref 146, .int (nI r), .ref 146]) d_260_17 (fun _ => rfl) ?_
      refine rr_gn d_260_18 mo_260 fl_127 rfl (by first | exact pr.1 | exact hc.1) ?_
      refine rr_cv (as := [.int (nI r), .int (nI n)]) (al0 := [some (.ref 146), some (.int (nI r)), some (.int (nI n)), none, none, none, none, none, none]) (r := []) d_260_21 mo_260 ml_273 mz_234 rfl rfl rfl (rr_wk (Nat.le_of_ble_eq_true rfl) (s_permutes (n := n) (r := r) (by omega) (by first | omega | assumption | exact cu_36 (by omega) (cu_lt (by omega) (by omega))))) (fun v1 g1 A1 h1 => ?_)
      obtain ⟨q0_, q1_, w21, q9_, hw21⟩ := h1
      obtain rfl := q0_
      obtain rfl := q1_.symm
      obtain rfl := q9_
      show RR _ _ 24 [some (.ref 146), some (.int (-1)), some (.int (nI (FA n))), some (.int (nI r)), none, none] [] w_.2.2.1 (rf_u w_.2.2.2 13 w21) _
      refine rr_nx (pc' := 25) (al' := [some (.ref 146), some (.int (-1)), some (.int (nI (FA n))), some (.int (nI r)), none, none]) (st' := [.int (-1)]) d_260_24 (fun _ => rfl) ?_
      refine rr_nx (pc' := 26) (al' := [some (.ref 146), some (.int (-1)), some (.int (nI (FA n))), some (.int (nI r)), none, none]) (st' := [.int (-1), .int (-1)]) d_260_25 (fun _ => rfl) ?_
      refine rr_ceq (t := 41) d_260_26 (by decide) (fun c26 => ?_) (fun c26 => ?_)
      · refine rr_nx (pc' := 42) (al' := [some (.ref 146), some (.int (-1)), some (.int (nI (FA n))), some (.int (nI r)), none, none]) (st' := [.ref 146]) d_260_41 (fun _ => rfl) ?_
        refine rr_cv (as := []) (al0 := [some (.ref 146), none, none]) (r := []) d_260_42 mo_260 ml_276 mz_235 rfl rfl rfl (rr_wk (Nat.le_of_ble_eq_true rfl) (s_renames ⟨pr.1, hn6, fun q hq => ⟨by rw [rf_u_n (by decide), pr.2.2.2.2.2.1]; exact (hc.2.2 q hq).1, (hc.2.2 q hq).2⟩⟩ (fun k hk => by rw [rf_u_s]; exact hw21 k hk) hP)) (fun v1 g1 A1 h1 => ?_)
        obtain ⟨rfl, rfl, w42, rfl, hw42⟩ := h1
        show RR _ _ 45 [some (.ref 146), some (.int (-1)), some (.int (nI (FA n))), some (.int (nI r)), none, none] [] (upd w_.2.2.1 8 (nI n)) (rf_u (rf_u w_.2.2.2 13 w21) 5 w42) _
        refine rn_ic (v := 0) d_260_45 (by decide) ?_
        refine rr_nx (pc' := 48) (al' := [some (.ref 146), some (.int (-1)), some (.int (nI (FA n))), some (.int (nI r)), some (.int (nI 0)), none]) (st' := []) d_260_46 (fun _ => rfl) ?_
        refine rn_ic (v := 0) d_260_48 (by decide) ?_
        refine rr_nx (pc' := 51) (al' := [some (.ref 146), some (.int (-1)), some (.int (nI (FA n))), some (.int (nI r)), some (.int (nI 0)), some (.int (nI 0))]) (st' := []) d_260_49 (fun _ => rfl) ?_
        refine rr_upw (al := fun q v_ => [some (.ref 146), some (.int (-1)), some (.int (nI (FA n))), some (.int (nI r)), some (.int v_), some (.int (nI q))]) (G := fun q v_ => (upd w_.2.2.1 8 (nI n))) (B := fun q v_ => (rf_u (rf_u w_.2.2.2 13 w21) 5 w42)) (P := fun q v_ => CmP (rnN n c (pmE n r)) w_.2.1 q v_) (n := n * n) (fun q v_ hq pq ihq => ?_) (fun v_ pq => ?_) 0 (nI 0) (by omega) (Or.inl ⟨rfl, all_0⟩)
        · show RR _ _ 51 [some (.ref 146), some (.int (-1)), some (.int (nI (FA n))), some (.int (nI r)), some (.int v_), some (.int (nI q))] [] (upd w_.2.2.1 8 (nI n)) (rf_u (rf_u w_.2.2.2 13 w21) 5 w42) _
          refine rr_nx (pc' := 53) (al' := [some (.ref 146), some (.int (-1)), some (.int (nI (FA n))), some (.int (nI r)), some (.int v_), some (.int (nI q))]) (st' := [.int (nI q)]) d_260_51 (fun _ => rfl) ?_
          refine rr_nx (pc' := 54) (al' := [some (.ref 146), some (.int (-1)), some (.int (nI (FA n))), some (.int (nI r)), some (.int v_), some (.int (nI q))]) (st' := [.ref 146, .int (nI q)]) d_260_53 (fun _ => rfl) ?_
          refine rr_gf (v := .int (w_.2.2.1 6)) d_260_54 mo_260 fl_127 rfl ?_
          refine rr_tp (z := nI n) (by first | exact pr.1 | exact hc.1) ?_
          refine rr_nx (pc' := 58) (al' := [some (.ref 146), some (.int (-1)), some (.int (nI (FA n))), some (.int (nI r)), some (.int v_), some (.int (nI q))]) (st' := [.ref 146, .int (nI n), .int (nI q)]) d_260_57 (fun _ => rfl) ?_
          refine rr_gf (v := .int (w_.2.2.1 6)) d_260_58 mo_260 fl_127 rfl ?_
          refine rr_tp (z := nI n) (by first | exact pr.1 | exact hc.1) ?_
          refine rn_mul d_260_61  ?_
          refine rn_cge (t := 100) d_260_62 (by decide) (by first | omega | assumption | exact cu_36 (by omega) (cu_lt (by omega) (by omega))) (by first | omega | assumption | exact cu_36 (by omega) (cu_lt (by omega) (by omega))) (fun c62 => ?_) (fun c62 => ?_)
          · omega
          · refine rr_nx (pc' := 66) (al' := [some (.ref 146), some (.int (-1)), some (.int (nI (FA n))), some (.int (nI r)), some (.int v_), some (.int (nI q))]) (st' := [.ref 146]) d_260_65 (fun _ => rfl) ?_
            refine rr_gf (v := .int (w_.2.2.1 38)) d_260_66 mo_260 fl_312 rfl ?_
            refine rr_tp (z := nI w_.1) pr.2.1 ?_
            refine rn_ieq (t := 100) d_260_69 (by decide) (by first | omega | assumption | exact cu_36 (by omega) (cu_lt (by omega) (by omega))) (fun c69 => ?_) (fun c69 => ?_)
            · refine rr_dr (al1 := [some (.ref 146), some (.int (-1)), some (.int (nI (FA n))), some (.int (nI r)), some (.int v_), none]) (le_s (le_s (le_s (le_s (le_s (le_d rfl (le_n))))))) ?_
              refine s_ren_100k (n := n) (h := w_.1) (t := (rnN n c (pmE n r))) (b := w_.2.1) hn6 (by rw [pk_un (by decide)]; exact pr.1) (by rw [pk_un (by decide)]; exact pr.2.1) pr.2.2.1 (fun q hq => ⟨by rw [rf_u_s]; exact hw42 q hq, hT q hq⟩) (fun h1 q hq => by rw [rf_u_n (by decide), rf_u_n (by decide)]; exact pr.2.2.2.2.2.2.1 h1 q hq) (fun h1 => Cm_lt (by omega) (fun j hj => by have := hT j hj; omega) (fun j hj => by have := (pr.2.2.2.2.2.2.1 h1 j hj).2; omega) pq (by first | exact Or.inr c74 | (exfalso; omega))) (fun g2 A2 k1 k2 k3 k4 k5 b2 k6 k7 => ?_)
              refine rn_inc d_260_157 rfl rfl ?_
              show RR _ _ 160 [some (.ref 146), some (.int (-1)), some (.int (nI (FA n))), some (.int (nI (r + 1))), none, none] [] g2 A2 _
              refine rr_nx (pc' := 10) (al' := [some (.ref 146), some (.int (-1)), some (.int (nI (FA n))), some (.int (nI (r + 1))), none, none]) (st' := []) d_260_160 (fun _ => rfl) ?_
              exact ihr (1, b2, g2, A2) (⟨k1, k2, Nat.le_refl 1, (pr.2.2.2.1.u (by decide)).tr k3, ((pr.2.2.2.2.1.u (by decide)).u (by decide)).tr k4, by dsimp only; rw [k5, rf_u_n (by decide), rf_u_n (by decide)]; exact pr.2.2.2.2.2.1, fun _ q hq => k6 q hq, Min_iff (Min_st pr.2.2.2.2.2.2.2 k7) (FRr_s trivial)⟩)
            · have hw1 : w_.1 = 1 := by have := pr.2.2.1; omega
              refine rr_nx (pc' := 74) (al' := [some (.ref 146), some (.int (-1)), some (.int (nI (FA n))), some (.int (nI r)), some (.int v_), some (.int (nI q))]) (st' := [.int v_]) d_260_72 (fun _ => rfl) ?_
              refine rr_ine (t := 100) d_260_74 (by decide) (fun c74 => ?_) (fun c74 => ?_)
              · refine rr_dr (al1 := [some (.ref 146), some (.int (-1)), some (.int (nI (FA n))), some (.int (nI r)), some (.int v_), none]) (le_s (le_s (le_s (le_s (le_s (le_d rfl (le_n))))))) ?_
                refine s_ren_100k (n := n) (h := w_.1) (t := (rnN n c (pmE n r))) (b := w_.2.1) hn6 (by rw [pk_un (by decide)]; exact pr.1) (by rw [pk_un (by decide)]; exact pr.2.1) pr.2.2.1 (fun q hq => ⟨by rw [rf_u_s]; exact hw42 q hq, hT q hq⟩) (fun h1 q hq => by rw [rf_u_n (by decide), rf_u_n (by decide)]; exact pr.2.2.2.2.2.2.1 h1 q hq) (fun h1 => Cm_lt (by omega) (fun j hj => by have := hT j hj; omega) (fun j hj => by have := (pr.2.2.2.2.2.2.1 h1 j hj).2; omega) pq (by first | exact Or.inr c74 | (exfalso; omega))) (fun g2 A2 k1 k2 k3 k4 k5 b2 k6 k7 => ?_)
                refine rn_inc d_260_157 rfl rfl ?_
                show RR _ _ 160 [some (.ref 146), some (.int (-1)), some (.int (nI (FA n))), some (.int (nI (r + 1))), none, none] [] g2 A2 _
                refine rr_nx (pc' := 10) (al' := [some (.ref 146), some (.int (-1)), some (.int (nI (FA n))), some (.int (nI (r + 1))), none, none]) (st' := []) d_260_160 (fun _ => rfl) ?_
                exact ihr (1, b2, g2, A2) (⟨k1, k2, Nat.le_refl 1, (pr.2.2.2.1.u (by decide)).tr k3, ((pr.2.2.2.2.1.u (by decide)).u (by decide)).tr k4, by dsimp only; rw [k5, rf_u_n (by decide), rf_u_n (by decide)]; exact pr.2.2.2.2.2.1, fun _ q hq => k6 q hq, Min_iff (Min_st pr.2.2.2.2.2.2.2 k7) (FRr_s trivial)⟩)
              · refine rr_nx (pc' := 78) (al' := [some (.ref 146), some (.int (-1)), some (.int (nI (FA n))), some (.int (nI r)), some (.int v_), some (.int (nI q))]) (st' := [.ref 146]) d_260_77 (fun _ => rfl) ?_
                refine rr_gf (v := .ref (147 + 5)) d_260_78 mo_260 fl_26 rfl ?_
                refine rr_nx (pc' := 83) (al' := [some (.ref 146), some (.int (-1)), some (.int (nI (FA n))), some (.int (nI r)), some (.int v_), some (.int (nI q))]) (st' := [.int (nI q), .ref (147 + 5)]) d_260_81 (fun _ => rfl) ?_
                refine rr_ia (j := 5) (v := (nI ((rnN n c (pmE n r)) q))) d_260_83 (by decide) rfl (by decide) (show q < 36 by first | omega | assumption | exact cu_36 (by omega) (cu_lt (by omega) (by omega))) (hw42 q hq) ?_
                refine rr_nx (pc' := 85) (al' := [some (.ref 146), some (.int (-1)), some (.int (nI (FA n))), some (.int (nI r)), some (.int v_), some (.int (nI q))]) (st' := [.ref 146, .int (nI ((rnN n c (pmE n r)) q))]) d_260_84 (fun _ => rfl) ?_
                refine rr_gf (v := .ref (147 + 19)) d_260_85 mo_260 fl_73 rfl ?_
                refine rr_nx (pc' := 90) (al' := [some (.ref 146), some (.int (-1)), some (.int (nI (FA n))), some (.int (nI r)), some (.int v_), some (.int (nI q))]) (st' := [.int (nI q), .ref (147 + 19), .int (nI ((rnN n c (pmE n r)) q))]) d_260_88 (fun _ => rfl) ?_
                refine rr_ia (j := 19) (v := (nI (w_.2.1 q))) d_260_90 (by decide) rfl (by decide) (show q < 36 by first | omega | assumption | exact cu_36 (by omega) (cu_lt (by omega) (by omega))) (show w_.2.2.2 19 q = _ from (pr.2.2.2.2.2.2.1 hw1 q hq).1) ?_
                refine rr_nx (pc' := 92) (al' := [some (.ref 146), some (.int (-1)), some (.int (nI (FA n))), some (.int (nI r)), some (.int v_), some (.int (nI q))]) (st' := [.int ((nI ((rnN n c (pmE n r)) q)) - (nI (w_.2.1 q)))]) d_260_91 (fun _ => rfl) ?_
                refine rr_nx (pc' := 94) (al' := [some (.ref 146), some (.int (-1)), some (.int (nI (FA n))), some (.int (nI r)), some (.int ((nI ((rnN n c (pmE n r)) q)) - (nI (w_.2.1 q)))), some (.int (nI q))]) (st' := []) d_260_92 (fun _ => rfl) ?_
                refine rn_inc d_260_94 rfl rfl ?_
                show RR _ _ 97 [some (.ref 146), some (.int (-1)), some (.int (nI (FA n))), some (.int (nI r)), some (.int ((nI ((rnN n c (pmE n r)) q)) - (nI (w_.2.1 q)))), some (.int (nI (q + 1)))] [] (upd w_.2.2.1 8 (nI n)) (rf_u (rf_u w_.2.2.2 13 w21) 5 w42) _
                refine rr_nx (pc' := 51) (al' := [some (.ref 146), some (.int (-1)), some (.int (nI (FA n))), some (.int (nI r)), some (.int ((nI ((rnN n c (pmE n r)) q)) - (nI (w_.2.1 q)))), some (.int (nI (q + 1)))]) (st' := []) d_260_97 (fun _ => rfl) ?_
                exact ihq ((nI ((rnN n c (pmE n r)) q)) - (nI (w_.2.1 q))) (by
                    have hb1 := (pr.2.2.2.2.2.2.1 hw1 q hq).2
                    have hd := df_s _ (show (rnN n c (pmE n r)) q < 6 by have := hT q hq; omega) _ (show w_.2.1 q < 6 by omega)
                    rcases pq with ⟨q1, q2⟩ | ⟨k, q1, q2, q3, q4⟩
                    · by_cases e : (rnN n c (pmE n r)) q = w_.2.1 q
                      · exact Or.inl ⟨hd.2.mpr e, all_s q2 e⟩
                      · exact Or.inr ⟨q, by omega, q2, e, rfl⟩
                    · exfalso
                      rw [q4] at c74
                      have hb2 := (pr.2.2.2.2.2.2.1 hw1 k (by omega)).2
                      exact q3 ((df_s _ (show (rnN n c (pmE n r)) k < 6 by have := hT k (by omega); omega) _ (show w_.2.1 k < 6 by omega)).2.mp c74))
        · show RR _ _ 51 [some (.ref 146), some (.int (-1)), some (.int (nI (FA n))), some (.int (nI r)), some (.int v_), some (.int (nI (n * n)))] [] (upd w_.2.2.1 8 (nI n)) (rf_u (rf_u w_.2.2.2 13 w21) 5 w42) _
          refine rr_nx (pc' := 53) (al' := [some (.ref 146), some (.int (-1)), some (.int (nI (FA n))), some (.int (nI r)), some (.int v_), some (.int (nI (n * n)))]) (st' := [.int (nI (n * n))]) d_260_51 (fun _ => rfl) ?_
          refine rr_nx (pc' := 54) (al' := [some (.ref 146), some (.int (-1)), some (.int (nI (FA n))), some (.int (nI r)), some (.int v_), some (.int (nI (n * n)))]) (st' := [.ref 146, .int (nI (n * n))]) d_260_53 (fun _ => rfl) ?_
          refine rr_gf (v := .int (w_.2.2.1 6)) d_260_54 mo_260 fl_127 rfl ?_
          refine rr_tp (z := nI n) (by first | exact pr.1 | exact hc.1) ?_
          refine rr_nx (pc' := 58) (al' := [some (.ref 146), some (.int (-1)), some (.int (nI (FA n))), some (.int (nI r)), some (.int v_), some (.int (nI (n * n)))]) (st' := [.ref 146, .int (nI n), .int (nI (n * n))]) d_260_57 (fun _ => rfl) ?_
          refine rr_gf (v := .int (w_.2.2.1 6)) d_260_58 mo_260 fl_127 rfl ?_
          refine rr_tp (z := nI n) (by first | exact pr.1 | exact hc.1) ?_
          refine rn_mul d_260_61  ?_
          refine rn_cge (t := 100) d_260_62 (by decide) (by first | omega | assumption | exact cu_36 (by omega) (cu_lt (by omega) (by omega))) (by first | omega | assumption | exact cu_36 (by omega) (cu_lt (by omega) (by omega))) (fun c62 => ?_) (fun c62 => ?_)
          · refine rr_dr (al1 := [some (.ref 146), some (.int (-1)), some (.int (nI (FA n))), some (.int (nI r)), some (.int v_), none]) (le_s (le_s (le_s (le_s (le_s (le_d rfl (le_n))))))) ?_
            refine s_ren_100k (n := n) (h := w_.1) (t := (rnN n c (pmE n r))) (b := w_.2.1) hn6 (by rw [pk_un (by decide)]; exact pr.1) (by rw [pk_un (by decide)]; exact pr.2.1) pr.2.2.1 (fun q hq => ⟨by rw [rf_u_s]; exact hw42 q hq, hT q hq⟩) (fun h1 q hq => by rw [rf_u_n (by decide), rf_u_n (by decide)]; exact pr.2.2.2.2.2.2.1 h1 q hq) (fun h1 => Cm_lt (Nat.le_refl _) (fun j hj => by have := hT j hj; omega) (fun j hj => by have := (pr.2.2.2.2.2.2.1 h1 j hj).2; omega) pq (Or.inl rfl)) (fun g2 A2 k1 k2 k3 k4 k5 b2 k6 k7 => ?_)
            refine rn_inc d_260_157 rfl rfl ?_
            show RR _ _ 160 [some (.ref 146), some (.int (-1)), some (.int (nI (FA n))), some (.int (nI (r + 1))), none, none] [] g2 A2 _
            refine rr_nx (pc' := 10) (al' := [some (.ref 146), some (.int (-1)), some (.int (nI (FA n))), some (.int (nI (r + 1))), none, none]) (st' := []) d_260_160 (fun _ => rfl) ?_
            exact ihr (1, b2, g2, A2) (⟨k1, k2, Nat.le_refl 1, (pr.2.2.2.1.u (by decide)).tr k3, ((pr.2.2.2.2.1.u (by decide)).u (by decide)).tr k4, by dsimp only; rw [k5, rf_u_n (by decide), rf_u_n (by decide)]; exact pr.2.2.2.2.2.1, fun _ q hq => k6 q hq, Min_iff (Min_st pr.2.2.2.2.2.2.2 k7) (FRr_s trivial)⟩)
          · omega
      · exact absurd rfl c26
  · show RR _ _ 10 [some (.ref 146), some (.int (-1)), some (.int (nI (FA n))), some (.int (nI (FA n))), none, none] [] w_.2.2.1 w_.2.2.2 _
    refine rr_nx (pc' := 11) (al' := [some (.ref 146), some (.int (-1)), some (.int (nI (FA n))), some (.int (nI (FA n))), none, none]) (st' := [.int (nI (FA n))]) d_260_10 (fun _ => rfl) ?_
    refine rr_nx (pc' := 12) (al' := [some (.ref 146), some (.int (-1)), some (.int (nI (FA n))), some (.int (nI (FA n))), none, none]) (st' := [.int (nI (FA n)), .int (nI (FA n))]) d_260_11 (fun _ => rfl) ?_
    refine rn_cge (t := 163) d_260_12 (by decide) (by first | omega | assumption | exact cu_36 (by omega) (cu_lt (by omega) (by omega))) (by first | omega | assumption | exact cu_36 (by omega) (cu_lt (by omega) (by omega))) (fun c12 => ?_) (fun c12 => ?_)
    · exact rr_rv d_260_163 mr_260 ⟨rfl, w_.1, w_.2.1, pr.1, pr.2.1, pr.2.2.1, pr.2.2.2.1, pr.2.2.2.2.1, pr.2.2.2.2.2.1, pr.2.2.2.2.2.2.1, Min_iff pr.2.2.2.2.2.2.2 (fun t => by rw [FR_all hn6 hl (fun k hk => by cases hk)])⟩
    · omega
theorem s_renamingsZk {g : Nat → Int32} {A : Nat → Nat → Int32} {n : Nat} {c : Nat → Nat} (hc : Cur g A n c) {h z : Nat} {b : Nat → Nat} {F : (Nat → Nat) → Prop} (hl : Lat n c) (hz : z < n) (h38 : g 38 = nI h) (hh : h ≤ 1) (h19 : h = 1 → ∀ q, q < n * n → A 19 q = nI (b q) ∧ b q < n) (hM : MinS (n * n) F h b) : RR 20 260 0 [some (.ref 146), some (.int (nI z)), none, none, none, none] [] g A (fun r g' A' => r = none ∧ ∃ h' b', g' 6 = nI n ∧ g' 38 = nI h' ∧ h' ≤ 1 ∧ Gsm g g' ∧ Ks2 A A' ∧ A' 4 = A 4 ∧ (h' = 1 → ∀ q, q < n * n → A' 19 q = nI (b' q) ∧ b' q < n) ∧ MinS (n * n) (fun t => F t ∨ FR n c (some z) t) h' b') := by
  have hn6 := hc.2.1
  have hnn : n * n ≤ 36 := Nat.mul_le_mul hn6 hn6
  have h720 := FA_720 hn6
  have hz6 : z < 6 := by omega
  refine rr_nx (pc' := 1) (al' := [some (.ref 146), some (.int (nI z)), none, none, none, none]) (st' := [.ref 146]) d_260_0 (fun _ => rfl) ?_
  refine rr_gn d_260_1 mo_260 fl_127 rfl (by first | exact pr.1 | exact hc.1) ?_
  refine rr_ps (as := [.int (nI n)]) (al0 := [some (.int (nI n)), none, none]) (r := []) d_260_4 mo_260 ml_270 mz_233 rfl rfl rfl (Nat.le_of_ble_eq_true rfl) (s_factorial (by omega)) ?_
  show RR _ _ 7 [some (.ref 146), some (.int (nI z)), none, none, none, none] [.int (nI (FA n))] g A _
  refine rr_nx (pc' := 8) (al' := [some (.ref 146), some (.int (nI z)), some (.int (nI (FA n))), none, none, none]) (st' := []) d_260_7 (fun _ => rfl) ?_
  refine rn_ic (v := 0) d_260_8 (by decide) ?_
  refine rr_nx (pc' := 10) (al' := [some (.ref 146), some (.int (nI z)), some (.int (nI (FA n))), some (.int (nI 0)), none, none]) (st' := []) d_260_9 (fun _ => rfl) ?_
  refine rr_upw (al := fun r w_ => [some (.ref 146), some (.int (nI z)), some (.int (nI (FA n))), some (.int (nI r)), none, none]) (G := fun r w_ => w_.2.2.1) (B := fun r w_ => w_.2.2.2) (P := fun r w_ => w_.2.2.1 6 = nI n ∧ w_.2.2.1 38 = nI w_.1 ∧ w_.1 ≤ 1 ∧ Gsm g w_.2.2.1 ∧ Ks2 A w_.2.2.2 ∧ w_.2.2.2 4 = A 4 ∧ (w_.1 = 1 → ∀ q, q < n * n → w_.2.2.2 19 q = nI (w_.2.1 q) ∧ w_.2.1 q < n) ∧ MinS (n * n) (fun t => F t ∨ FRr n c (some z) r t) w_.1 w_.2.1) (n := FA n) (fun r w_ hr pr ihr => ?_) (fun w_ pr => ?_) 0 (h, b, g, A) (by omega) (⟨hc.1, h38, hh, Gsm.rf, Ks2.rf, rfl, h19, Min_iff hM FRr_0⟩)
  · show RR _ _ 10 [some (.ref 146), some (.int (nI z)), some (.int (nI (FA n))), some (.int (nI r)), none, none] [] w_.2.2.1 w_.2.2.2 _
    have hP := pm_per hn6 hr
    have hT : ∀ q, q < n * n → (rnN n c (pmE n r)) q < n := (rn_lat hl hP).1
    refine rr_nx (pc' := 11) (al' := [some (.ref 146), some (.int (nI z)), some (.int (nI (FA n))), some (.int (nI r)), none, none]) (st' := [.int (nI r)]) d_260_10 (fun _ => rfl) ?_
    refine rr_nx (pc' := 12) (al' := [some (.ref 146), some (.int (nI z)), some (.int (nI (FA n))), some (.int (nI r)), none, none]) (st' := [.int (nI (FA n)), .int (nI r)]) d_260_11 (fun _ => rfl) ?_
    refine rn_cge (t := 163) d_260_12 (by decide) (by first | omega | assumption | exact cu_36 (by omega) (cu_lt (by omega) (by omega))) (by first | omega | assumption | exact cu_36 (by omega) (cu_lt (by omega) (by omega))) (fun c12 => ?_) (fun c12 => ?_)
    · omega
    · refine rr_nx (pc' := 16) (al' := [some (.ref 146), some (.int (nI z)), some (.int (nI (FA n))), some (.int (nI r)), none, none]) (st' := [.ref 146]) d_260_15 (fun _ => rfl) ?_
      refine rr_nx (pc' := 17) (al' := [some (.ref 146), some (.int (nI z)), some (.int (nI (FA n))), some (.int (nI r)), none, none]) (st' := [.int (nI r), .ref 146]) d_260_16 (fun _ => rfl) ?_
      refine rr_nx (pc' := 18) (al' := [some (.ref 146), some (.int (nI z)), some (.int (nI (FA n))), some (.int (nI r)), none, none]) (st' := [.ref 146, .int (nI r), .ref 146]) d_260_17 (fun _ => rfl) ?_
      refine rr_gn d_260_18 mo_260 fl_127 rfl (by first | exact pr.1 | exact hc.1) ?_
      refine rr_cv (as := [.int (nI r), .int (nI n)]) (al0 := [some (.ref 146), some (.int (nI r)), some (.int (nI n)), none, none, none, none, none, none]) (r := []) d_260_21 mo_260 ml_273 mz_234 rfl rfl rfl (rr_wk (Nat.le_of_ble_eq_true rfl) (s_permutes (n := n) (r := r) (by omega) (by first | omega | assumption | exact cu_36 (by omega) (cu_lt (by omega) (by omega))))) (fun v1 g1 A1 h1 => ?_)
      obtain ⟨q0_, q1_, w21, q9_, hw21⟩ := h1
      obtain rfl := q0_
      obtain rfl := q1_.symm
      obtain rfl := q9_
      show RR _ _ 24 [some (.ref 146), some (.int (nI z)), some (.int (nI (FA n))), some (.int (nI r)), none, none] [] w_.2.2.1 (rf_u w_.2.2.2 13 w21) _
      refine rr_nx (pc' := 25) (al' := [some (.ref 146), some (.int (nI z)), some (.int (nI (FA n))), some (.int (nI r)), none, none]) (st' := [.int (nI z)]) d_260_24 (fun _ => rfl) ?_
      refine rr_nx (pc' := 26) (al' := [some (.ref 146), some (.int (nI z)), some (.int (nI (FA n))), some (.int (nI r)), none, none]) (st' := [.int (-1), .int (nI z)]) d_260_25 (fun _ => rfl) ?_
      refine rr_ceq (t := 41) d_260_26 (by decide) (fun c26 => ?_) (fun c26 => ?_)
      · exact absurd c26 (ia_ne hz6)
      · refine rr_nx (pc' := 30) (al' := [some (.ref 146), some (.int (nI z)), some (.int (nI (FA n))), some (.int (nI r)), none, none]) (st' := [.ref 146]) d_260_29 (fun _ => rfl) ?_
        refine rr_gf (v := .ref (147 + 13)) d_260_30 mo_260 fl_55 rfl ?_
        refine rr_nx (pc' := 34) (al' := [some (.ref 146), some (.int (nI z)), some (.int (nI (FA n))), some (.int (nI r)), none, none]) (st' := [.int (nI z), .ref (147 + 13)]) d_260_33 (fun _ => rfl) ?_
        refine rr_ia (j := 13) (v := (nI (pmE n r z))) d_260_34 (by decide) rfl (by decide) (show z < 6 by first | omega | assumption | exact cu_36 (by omega) (cu_lt (by omega) (by omega))) (hw21 z hz) ?_
        refine rn_ieq (t := 41) d_260_35 (by decide) (by have := hP.1 z hz; omega) (fun c35 => ?_) (fun c35 => ?_)
        · refine rr_nx (pc' := 42) (al' := [some (.ref 146), some (.int (nI z)), some (.int (nI (FA n))), some (.int (nI r)), none, none]) (st' := [.ref 146]) d_260_41 (fun _ => rfl) ?_
          refine rr_cv (as := []) (al0 := [some (.ref 146), none, none]) (r := []) d_260_42 mo_260 ml_276 mz_235 rfl rfl rfl (rr_wk (Nat.le_of_ble_eq_true rfl) (s_renames ⟨pr.1, hn6, fun q hq => ⟨by rw [rf_u_n (by decide), pr.2.2.2.2.2.1]; exact (hc.2.2 q hq).1, (hc.2.2 q hq).2⟩⟩ (fun k hk => by rw [rf_u_s]; exact hw21 k hk) hP)) (fun v1 g1 A1 h1 => ?_)
          obtain ⟨rfl, rfl, w42, rfl, hw42⟩ := h1
          show RR _ _ 45 [some (.ref 146), some (.int (nI z)), some (.int (nI (FA n))), some (.int (nI r)), none, none] [] (upd w_.2.2.1 8 (nI n)) (rf_u (rf_u w_.2.2.2 13 w21) 5 w42) _
          refine rn_ic (v := 0) d_260_45 (by decide) ?_
          refine rr_nx (pc' := 48) (al' := [some (.ref 146), some (.int (nI z)), some (.int (nI (FA n))), some (.int (nI r)), some (.int (nI 0)), none]) (st' := []) d_260_46 (fun _ => rfl) ?_
          refine rn_ic (v := 0) d_260_48 (by decide) ?_
          refine rr_nx (pc' := 51) (al' := [some (.ref 146), some (.int (nI z)), some (.int (nI (FA n))), some (.int (nI r)), some (.int (nI 0)), some (.int (nI 0))]) (st' := []) d_260_49 (fun _ => rfl) ?_
          refine rr_upw (al := fun q v_ => [some (.ref 146), some (.int (nI z)), some (.int (nI (FA n))), some (.int (nI r)), some (.int v_), some (.int (nI q))]) (G := fun q v_ => (upd w_.2.2.1 8 (nI n))) (B := fun q v_ => (rf_u (rf_u w_.2.2.2 13 w21) 5 w42)) (P := fun q v_ => CmP (rnN n c (pmE n r)) w_.2.1 q v_) (n := n * n) (fun q v_ hq pq ihq => ?_) (fun v_ pq => ?_) 0 (nI 0) (by omega) (Or.inl ⟨rfl, all_0⟩)
          · show RR _ _ 51 [some (.ref 146), some (.int (nI z)), some (.int (nI (FA n))), some (.int (nI r)), some (.int v_), some (.int (nI q))] [] (upd w_.2.2.1 8 (nI n)) (rf_u (rf_u w_.2.2.2 13 w21) 5 w42) _
            refine rr_nx (pc' := 53) (al' := [some (.ref 146), some (.int (nI z)), some (.int (nI (FA n))), some (.int (nI r)), some (.int v_), some (.int (nI q))]) (st' := [.int (nI q)]) d_260_51 (fun _ => rfl) ?_
            refine rr_nx (pc' := 54) (al' := [some (.ref 146), some (.int (nI z)), some (.int (nI (FA n))), some (.int (nI r)), some (.int v_), some (.int (nI q))]) (st' := [.ref 146, .int (nI q)]) d_260_53 (fun _ => rfl) ?_
            refine rr_gf (v := .int (w_.2.2.1 6)) d_260_54 mo_260 fl_127 rfl ?_
            refine rr_tp (z := nI n) (by first | exact pr.1 | exact hc.1) ?_
            refine rr_nx (pc' := 58) (al' := [some (.ref 146), some (.int (nI z)), some (.int (nI (FA n))), some (.int (nI r)), some (.int v_), some (.int (nI q))]) (st' := [.ref 146, .int (nI n), .int (nI q)]) d_260_57 (fun _ => rfl) ?_
            refine rr_gf (v := .int (w_.2.2.1 6)) d_260_58 mo_260 fl_127 rfl ?_
            refine rr_tp (z := nI n) (by first | exact pr.1 | exact hc.1) ?_
            refine rn_mul d_260_61  ?_
            refine rn_cge (t := 100) d_260_62 (by decide) (by first | omega | assumption | exact cu_36 (by omega) (cu_lt (by omega) (by omega))) (by first | omega | assumption | exact cu_36 (by omega) (cu_lt (by omega) (by omega))) (fun c62 => ?_) (fun c62 => ?_)
            · omega
            · refine rr_nx (pc' := 66) (al' := [some (.ref 146), some (.int (nI z)), some (.int (nI (FA n))), some (.int (nI r)), some (.int v_), some (.int (nI q))]) (st' := [.ref 146]) d_260_65 (fun _ => rfl) ?_
              refine rr_gf (v := .int (w_.2.2.1 38)) d_260_66 mo_260 fl_312 rfl ?_
              refine rr_tp (z := nI w_.1) pr.2.1 ?_
              refine rn_ieq (t := 100) d_260_69 (by decide) (by first | omega | assumption | exact cu_36 (by omega) (cu_lt (by omega) (by omega))) (fun c69 => ?_) (fun c69 => ?_)
              · refine rr_dr (al1 := [some (.ref 146), some (.int (nI z)), some (.int (nI (FA n))), some (.int (nI r)), some (.int v_), none]) (le_s (le_s (le_s (le_s (le_s (le_d rfl (le_n))))))) ?_
                refine s_ren_100k (n := n) (h := w_.1) (t := (rnN n c (pmE n r))) (b := w_.2.1) hn6 (by rw [pk_un (by decide)]; exact pr.1) (by rw [pk_un (by decide)]; exact pr.2.1) pr.2.2.1 (fun q hq => ⟨by rw [rf_u_s]; exact hw42 q hq, hT q hq⟩) (fun h1 q hq => by rw [rf_u_n (by decide), rf_u_n (by decide)]; exact pr.2.2.2.2.2.2.1 h1 q hq) (fun h1 => Cm_lt (by omega) (fun j hj => by have := hT j hj; omega) (fun j hj => by have := (pr.2.2.2.2.2.2.1 h1 j hj).2; omega) pq (by first | exact Or.inr c74 | (exfalso; omega))) (fun g2 A2 k1 k2 k3 k4 k5 b2 k6 k7 => ?_)
                refine rn_inc d_260_157 rfl rfl ?_
                show RR _ _ 160 [some (.ref 146), some (.int (nI z)), some (.int (nI (FA n))), some (.int (nI (r + 1))), none, none] [] g2 A2 _
                refine rr_nx (pc' := 10) (al' := [some (.ref 146), some (.int (nI z)), some (.int (nI (FA n))), some (.int (nI (r + 1))), none, none]) (st' := []) d_260_160 (fun _ => rfl) ?_
                exact ihr (1, b2, g2, A2) (⟨k1, k2, Nat.le_refl 1, (pr.2.2.2.1.u (by decide)).tr k3, ((pr.2.2.2.2.1.u (by decide)).u (by decide)).tr k4, by dsimp only; rw [k5, rf_u_n (by decide), rf_u_n (by decide)]; exact pr.2.2.2.2.2.1, fun _ q hq => k6 q hq, Min_iff (Min_st pr.2.2.2.2.2.2.2 k7) (FRr_s c35)⟩)
              · have hw1 : w_.1 = 1 := by have := pr.2.2.1; omega
                refine rr_nx (pc' := 74) (al' := [some (.ref 146), some (.int (nI z)), some (.int (nI (FA n))), some (.int (nI r)), some (.int v_), some (.int (nI q))]) (st' := [.int v_]) d_260_72 (fun _ => rfl) ?_
                refine rr_ine (t := 100) d_260_74 (by decide) (fun c74 => ?_) (fun c74 => ?_)
                · refine rr_dr (al1 := [some (.ref 146), some (.int (nI z)), some (.int (nI (FA n))), some (.int (nI r)), some (.int v_), none]) (le_s (le_s (le_s (le_s (le_s (le_d rfl (le_n))))))) ?_
                  refine s_ren_100k (n := n) (h := w_.1) (t := (rnN n c (pmE n r))) (b := w_.2.1) hn6 (by rw [pk_un (by decide)]; exact pr.1) (by rw [pk_un (by decide)]; exact pr.2.1) pr.2.2.1 (fun q hq => ⟨by rw [rf_u_s]; exact hw42 q hq, hT q hq⟩) (fun h1 q hq => by rw [rf_u_n (by decide), rf_u_n (by decide)]; exact pr.2.2.2.2.2.2.1 h1 q hq) (fun h1 => Cm_lt (by omega) (fun j hj => by have := hT j hj; omega) (fun j hj => by have := (pr.2.2.2.2.2.2.1 h1 j hj).2; omega) pq (by first | exact Or.inr c74 | (exfalso; omega))) (fun g2 A2 k1 k2 k3 k4 k5 b2 k6 k7 => ?_)
                  refine rn_inc d_260_157 rfl rfl ?_
                  show RR _ _ 160 [some (.ref 146), some (.int (nI z)), some (.int (nI (FA n))), some (.int (nI (r + 1))), none, none] [] g2 A2 _
                  refine rr_nx (pc' := 10) (al' := [some (.ref 146), some (.int (nI z)), some (.int (nI (FA n))), some (.int (nI (r + 1))), none, none]) (st' := []) d_260_160 (fun _ => rfl) ?_
                  exact ihr (1, b2, g2, A2) (⟨k1, k2, Nat.le_refl 1, (pr.2.2.2.1.u (by decide)).tr k3, ((pr.2.2.2.2.1.u (by decide)).u (by decide)).tr k4, by dsimp only; rw [k5, rf_u_n (by decide), rf_u_n (by decide)]; exact pr.2.2.2.2.2.1, fun _ q hq => k6 q hq, Min_iff (Min_st pr.2.2.2.2.2.2.2 k7) (FRr_s c35)⟩)
                · refine rr_nx (pc' := 78) (al' := [some (.ref 146), some (.int (nI z)), some (.int (nI (FA n))), some (.int (nI r)), some (.int v_), some (.int (nI q))]) (st' := [.ref 146]) d_260_77 (fun _ => rfl) ?_
                  refine rr_gf (v := .ref (147 + 5)) d_260_78 mo_260 fl_26 rfl ?_
                  refine rr_nx (pc' := 83) (al' := [some (.ref 146), some (.int (nI z)), some (.int (nI (FA n))), some (.int (nI r)), some (.int v_), some (.int (nI q))]) (st' := [.int (nI q), .ref (147 + 5)]) d_260_81 (fun _ => rfl) ?_
                  refine rr_ia (j := 5) (v := (nI ((rnN n c (pmE n r)) q))) d_260_83 (by decide) rfl (by decide) (show q < 36 by first | omega | assumption | exact cu_36 (by omega) (cu_lt (by omega) (by omega))) (hw42 q hq) ?_
                  refine rr_nx (pc' := 85) (al' := [some (.ref 146), some (.int (nI z)), some (.int (nI (FA n))), some (.int (nI r)), some (.int v_), some (.int (nI q))]) (st' := [.ref 146, .int (nI ((rnN n c (pmE n r)) q))]) d_260_84 (fun _ => rfl) ?_
                  refine rr_gf (v := .ref (147 + 19)) d_260_85 mo_260 fl_73 rfl ?_
                  refine rr_nx (pc' := 90) (al' := [some (.ref 146), some (.int (nI z)), some (.int (nI (FA n))), some (.int (nI r)), some (.int v_), some (.int (nI q))]) (st' := [.int (nI q), .ref (147 + 19), .int (nI ((rnN n c (pmE n r)) q))]) d_260_88 (fun _ => rfl) ?_
                  refine rr_ia (j := 19) (v := (nI (w_.2.1 q))) d_260_90 (by decide) rfl (by decide) (show q < 36 by first | omega | assumption | exact cu_36 (by omega) (cu_lt (by omega) (by omega))) (show w_.2.2.2 19 q = _ from (pr.2.2.2.2.2.2.1 hw1 q hq).1) ?_
                  refine rr_nx (pc' := 92) (al' := [some (.ref 146), some (.int (nI z)), some (.int (nI (FA n))), some (.int (nI r)), some (.int v_), some (.int (nI q))]) (st' := [.int ((nI ((rnN n c (pmE n r)) q)) - (nI (w_.2.1 q)))]) d_260_91 (fun _ => rfl) ?_
                  refine rr_nx (pc' := 94) (al' := [some (.ref 146), some (.int (nI z)), some (.int (nI (FA n))), some (.int (nI r)), some (.int ((nI ((rnN n c (pmE n r)) q)) - (nI (w_.2.1 q)))), some (.int (nI q))]) (st' := []) d_260_92 (fun _ => rfl) ?_
                  refine rn_inc d_260_94 rfl rfl ?_
                  show RR _ _ 97 [some (.ref 146), some (.int (nI z)), some (.int (nI (FA n))), some (.int (nI r)), some (.int ((nI ((rnN n c (pmE n r)) q)) - (nI (w_.2.1 q)))), some (.int (nI (q + 1)))] [] (upd w_.2.2.1 8 (nI n)) (rf_u (rf_u w_.2.2.2 13 w21) 5 w42) _
                  refine rr_nx (pc' := 51) (al' := [some (.ref 146), some (.int (nI z)), some (.int (nI (FA n))), some (.int (nI r)), some (.int ((nI ((rnN n c (pmE n r)) q)) - (nI (w_.2.1 q)))), some (.int (nI (q + 1)))]) (st' := []) d_260_97 (fun _ => rfl) ?_
                  exact ihq ((nI ((rnN n c (pmE n r)) q)) - (nI (w_.2.1 q))) (by
                      have hb1 := (pr.2.2.2.2.2.2.1 hw1 q hq).2
                      have hd := df_s _ (show (rnN n c (pmE n r)) q < 6 by have := hT q hq; omega) _ (show w_.2.1 q < 6 by omega)
                      rcases pq with ⟨q1, q2⟩ | ⟨k, q1, q2, q3, q4⟩
                      · by_cases e : (rnN n c (pmE n r)) q = w_.2.1 q
                        · exact Or.inl ⟨hd.2.mpr e, all_s q2 e⟩
                        · exact Or.inr ⟨q, by omega, q2, e, rfl⟩
                      · exfalso
                        rw [q4] at c74
                        have hb2 := (pr.2.2.2.2.2.2.1 hw1 k (by omega)).2
                        exact q3 ((df_s _ (show (rnN n c (pmE n r)) k < 6 by have := hT k (by omega); omega) _ (show w_.2.1 k < 6 by omega)).2.mp c74))
          · show RR _ _ 51 [some (.ref 146), some (.int (nI z)), some (.int (nI (FA n))), some (.int (nI r)), some (.int v_), some (.int (nI (n * n)))] [] (upd w_.2.2.1 8 (nI n)) (rf_u (rf_u w_.2.2.2 13 w21) 5 w42) _
            refine rr_nx (pc' := 53) (al' := [some (.ref 146), some (.int (nI z)), some (.int (nI (FA n))), some (.int (nI r)), some (.int v_), some (.int (nI (n * n)))]) (st' := [.int (nI (n * n))]) d_260_51 (fun _ => rfl) ?_
            refine rr_nx (pc' := 54) (al' := [some (.ref 146), some (.int (nI z)), some (.int (nI (FA n))), some (.int (nI r)), some (.int v_), some (.int (nI (n * n)))]) (st' := [.ref 146, .int (nI (n * n))]) d_260_53 (fun _ => rfl) ?_
            refine rr_gf (v := .int (w_.2.2.1 6)) d_260_54 mo_260 fl_127 rfl ?_
            refine rr_tp (z := nI n) (by first | exact pr.1 | exact hc.1) ?_
            refine rr_nx (pc' := 58) (al' := [some (.ref 146), some (.int (nI z)), some (.int (nI (FA n))), some (.int (nI r)), some (.int v_), some (.int (nI (n * n)))]) (st' := [.ref 146, .int (nI n), .int (nI (n * n))]) d_260_57 (fun _ => rfl) ?_
            refine rr_gf (v := .int (w_.2.2.1 6)) d_260_58 mo_260 fl_127 rfl ?_
            refine rr_tp (z := nI n) (by first | exact pr.1 | exact hc.1) ?_
            refine rn_mul d_260_61  ?_
            refine rn_cge (t := 100) d_260_62 (by decide) (by first | omega | assumption | exact cu_36 (by omega) (cu_lt (by omega) (by omega))) (by first | omega | assumption | exact cu_36 (by omega) (cu_lt (by omega) (by omega))) (fun c62 => ?_) (fun c62 => ?_)
            · refine rr_dr (al1 := [some (.ref 146), some (.int (nI z)), some (.int (nI (FA n))), some (.int (nI r)), some (.int v_), none]) (le_s (le_s (le_s (le_s (le_s (le_d rfl (le_n))))))) ?_
              refine s_ren_100k (n := n) (h := w_.1) (t := (rnN n c (pmE n r))) (b := w_.2.1) hn6 (by rw [pk_un (by decide)]; exact pr.1) (by rw [pk_un (by decide)]; exact pr.2.1) pr.2.2.1 (fun q hq => ⟨by rw [rf_u_s]; exact hw42 q hq, hT q hq⟩) (fun h1 q hq => by rw [rf_u_n (by decide), rf_u_n (by decide)]; exact pr.2.2.2.2.2.2.1 h1 q hq) (fun h1 => Cm_lt (Nat.le_refl _) (fun j hj => by have := hT j hj; omega) (fun j hj => by have := (pr.2.2.2.2.2.2.1 h1 j hj).2; omega) pq (Or.inl rfl)) (fun g2 A2 k1 k2 k3 k4 k5 b2 k6 k7 => ?_)
              refine rn_inc d_260_157 rfl rfl ?_
              show RR _ _ 160 [some (.ref 146), some (.int (nI z)), some (.int (nI (FA n))), some (.int (nI (r + 1))), none, none] [] g2 A2 _
              refine rr_nx (pc' := 10) (al' := [some (.ref 146), some (.int (nI z)), some (.int (nI (FA n))), some (.int (nI (r + 1))), none, none]) (st' := []) d_260_160 (fun _ => rfl) ?_
              exact ihr (1, b2, g2, A2) (⟨k1, k2, Nat.le_refl 1, (pr.2.2.2.1.u (by decide)).tr k3, ((pr.2.2.2.2.1.u (by decide)).u (by decide)).tr k4, by dsimp only; rw [k5, rf_u_n (by decide), rf_u_n (by decide)]; exact pr.2.2.2.2.2.1, fun _ q hq => k6 q hq, Min_iff (Min_st pr.2.2.2.2.2.2.2 k7) (FRr_s c35)⟩)
            · omega
        · refine rr_nx (pc' := 157) (al' := [some (.ref 146), some (.int (nI z)), some (.int (nI (FA n))), some (.int (nI r)), none, none]) (st' := []) d_260_38 (fun _ => rfl) ?_
          refine rn_inc d_260_157 rfl rfl ?_
          show RR _ _ 160 [some (.ref 146), some (.int (nI z)), some (.int (nI (FA n))), some (.int (nI (r + 1))), none, none] [] w_.2.2.1 (rf_u w_.2.2.2 13 w21) _
          refine rr_nx (pc' := 10) (al' := [some (.ref 146), some (.int (nI z)), some (.int (nI (FA n))), some (.int (nI (r + 1))), none, none]) (st' := []) d_260_160 (fun _ => rfl) ?_
          exact ihr (w_.1, w_.2.1, w_.2.2.1, (rf_u w_.2.2.2 13 w21)) (⟨pr.1, pr.2.1, pr.2.2.1, pr.2.2.2.1, pr.2.2.2.2.1.u (by decide), pr.2.2.2.2.2.1, fun h1 q hq => pr.2.2.2.2.2.2.1 h1 q hq, Min_iff pr.2.2.2.2.2.2.2 (FRr_n (fun e => absurd (show pmE n r z = 0 from e) (by omega)))⟩)
  · show RR _ _ 10 [some (.ref 146), some (.int (nI z)), some (.int (nI (FA n))), some (.int (nI (FA n))), none, none] [] w_.2.2.1 w_.2.2.2 _
    refine rr_nx (pc' := 11) (al' := [some (.ref 146), some (.int (nI z)), some (.int (nI (FA n))), some (.int (nI (FA n))), none, none]) (st' := [.int (nI (FA n))]) d_260_10 (fun _ => rfl) ?_
    refine rr_nx (pc' := 12) (al' := [some (.ref 146), some (.int (nI z)), some (.int (nI (FA n))), some (.int (nI (FA n))), none, none]) (st' := [.int (nI (FA n)), .int (nI (FA n))]) d_260_11 (fun _ => rfl) ?_
    refine rn_cge (t := 163) d_260_12 (by decide) (by first | omega | assumption | exact cu_36 (by omega) (cu_lt (by omega) (by omega))) (by first | omega | assumption | exact cu_36 (by omega) (cu_lt (by omega) (by omega))) (fun c12 => ?_) (fun c12 => ?_)
    · exact rr_rv d_260_163 mr_260 ⟨rfl, w_.1, w_.2.1, pr.1, pr.2.1, pr.2.2.1, pr.2.2.2.1, pr.2.2.2.2.1, pr.2.2.2.2.2.1, pr.2.2.2.2.2.2.1, Min_iff pr.2.2.2.2.2.2.2 (fun t => by rw [FR_all hn6 hl (fun k hk => by cases hk; exact hz)])⟩
    · omega
theorem s_names0k {g : Nat → Int32} {A : Nat → Nat → Int32} {t n : Nat} {c : Nat → Nat} (ht6 : t < 6) (hn1 : 1 ≤ n) (hn6 : n ≤ 6) (hl : Lat n c) (hord : A 1 (37 * t) = nI n) (hcl : ∀ q, q < n * n → A 1 (37 * t + 1 + q) = nI (c q)) : RR 21 259 0 [some (.ref 146), some (.int (nI t)), some (.int (nI 0)), none, none, none, none] [] g A (fun r g' A' => r = none ∧ g' 6 = nI n ∧ Gsm g g' ∧ Ks2 A A' ∧ ∃ b, (∀ q, q < n * n → A' 19 q = nI (b q) ∧ b q < n) ∧ MinS (n * n) (NmF 0 n c) 1 b) := by
  have hnn : n * n ≤ 36 := Nat.mul_le_mul hn6 hn6
  refine rr_nx (pc' := 1) (al' := [some (.ref 146), some (.int (nI t)), some (.int (nI 0)), none, none, none, none]) (st' := [.ref 146]) d_259_0 (fun _ => rfl) ?_
  refine rn_ic (v := 0) d_259_1 (by decide) ?_
  refine rp_38 d_259_2 mo_259 fl_312 (Or.inl rfl) ?_
  refine rr_nx (pc' := 6) (al' := [some (.ref 146), some (.int (nI t)), some (.int (nI 0)), none, none, none, none]) (st' := [.ref 146]) d_259_5 (fun _ => rfl) ?_
  refine rr_nx (pc' := 7) (al' := [some (.ref 146), some (.int (nI t)), some (.int (nI 0)), none, none, none, none]) (st' := [.int (nI t), .ref 146]) d_259_6 (fun _ => rfl) ?_
  refine rr_pv (as := [.int (nI t)]) (al0 := [some (.ref 146), some (.int (nI t)), none]) (r := []) d_259_7 mo_259 ml_248 mz_208 rfl rfl rfl (Nat.le_of_ble_eq_true rfl) (s_lays (n := n) ht6 hn6 hord) ?_
  obtain ⟨wl7, hwl7⟩ : ∃ w_, w_ = rf_f (fun q => A 1 (37 * t + 1 + q)) (A 4) (n * n) := ⟨_, rfl⟩
  rw [← hwl7]
  show RR _ _ 10 [some (.ref 146), some (.int (nI t)), some (.int (nI 0)), none, none, none, none] [] (upd (upd g 38 (nI 0)) 6 (nI n)) (rf_u A 4 wl7) _
  refine rr_nx (pc' := 11) (al' := [some (.ref 146), some (.int (nI t)), some (.int (nI 0)), none, none, none, none]) (st' := [.int (nI 0)]) d_259_10 (fun _ => rfl) ?_
  refine rn_ine (t := 20) d_259_11 (by decide) (by first | omega | assumption | exact cu_36 (by omega) (cu_lt (by omega) (by omega))) (fun c11 => ?_) (fun c11 => ?_)
  · omega
  · refine rr_nx (pc' := 15) (al' := [some (.ref 146), some (.int (nI t)), some (.int (nI 0)), none, none, none, none]) (st' := [.ref 146]) d_259_14 (fun _ => rfl) ?_
    refine rr_nx (pc' := 16) (al' := [some (.ref 146), some (.int (nI t)), some (.int (nI 0)), none, none, none, none]) (st' := [.int (-1), .ref 146]) d_259_15 (fun _ => rfl) ?_
    refine rr_cv (as := [.int (-1)]) (al0 := [some (.ref 146), some (.int (-1)), none, none, none, none]) (r := []) d_259_16 mo_259 ml_316 mz_260 rfl rfl rfl (rr_wk (Nat.le_of_ble_eq_true rfl) (s_renamingsNk (h := 0) (b := fun _ => 0) (F := fun _ => False) ⟨pk_us, hn6, fun q hq => ⟨by rw [rf_u_s, hwl7, rf_f_in hq]; exact hcl q hq, hl.1 q hq⟩⟩ hl (by rw [pk_un (by decide)]; exact pk_us) (by omega) (fun e => by omega) (Or.inl ⟨rfl, fun _ e => e⟩))) (fun v1 g1 A1 h1 => ?_)
    obtain ⟨rfl, h2, b2, k1, k2, k3, k4, k5, k6, k7, k8⟩ := h1
    obtain ⟨q0, q1⟩ : h2 = 1 ∧ MinS (n * n) (NmF 0 n c) 1 b2 := Min_1 (Min_iff k8 (fun t => ⟨fun h => h.elim False.elim id, Or.inr⟩)) (Nm_ex hl hn1)
    show RR _ _ 19 [some (.ref 146), some (.int (nI t)), some (.int (nI 0)), none, none, none, none] [] g1 A1 _
    exact rr_rv d_259_19 mr_259 ⟨rfl, k1, ((Gsm.rf.u (by decide)).u (by decide)).tr k4, (Ks2.rf.u (by decide)).tr k5, b2, k7 q0, q1⟩
theorem s_names1k {g : Nat → Int32} {A : Nat → Nat → Int32} {t n : Nat} {c : Nat → Nat} (ht6 : t < 6) (hn1 : 1 ≤ n) (hn6 : n ≤ 6) (hl : Lat n c) (hord : A 1 (37 * t) = nI n) (hcl : ∀ q, q < n * n → A 1 (37 * t + 1 + q) = nI (c q)) : RR 21 259 0 [some (.ref 146), some (.int (nI t)), some (.int (nI 1)), none, none, none, none] [] g A (fun r g' A' => r = none ∧ g' 6 = nI n ∧ Gsm g g' ∧ Ks2 A A' ∧ ∃ b, (∀ q, q < n * n → A' 19 q = nI (b q) ∧ b q < n) ∧ MinS (n * n) (NmF 1 n c) 1 b) := by
  have hnn : n * n ≤ 36 := Nat.mul_le_mul hn6 hn6
  refine rr_nx (pc' := 1) (al' := [some (.ref 146), some (.int (nI t)), some (.int (nI 1)), none, none, none, none]) (st' := [.ref 146]) d_259_0 (fun _ => rfl) ?_
  refine rn_ic (v := 0) d_259_1 (by decide) ?_
  refine rp_38 d_259_2 mo_259 fl_312 (Or.inl rfl) ?_
  refine rr_nx (pc' := 6) (al' := [some (.ref 146), some (.int (nI t)), some (.int (nI 1)), none, none, none, none]) (st' := [.ref 146]) d_259_5 (fun _ => rfl) ?_
  refine rr_nx (pc' := 7) (al' := [some (.ref 146), some (.int (nI t)), some (.int (nI 1)), none, none, none, none]) (st' := [.int (nI t), .ref 146]) d_259_6 (fun _ => rfl) ?_
  refine rr_pv (as := [.int (nI t)]) (al0 := [some (.ref 146), some (.int (nI t)), none]) (r := []) d_259_7 mo_259 ml_248 mz_208 rfl rfl rfl (Nat.le_of_ble_eq_true rfl) (s_lays (n := n) ht6 hn6 (by first | exact hord | (rw [hA1]; exact hord))) ?_
  obtain ⟨wl7, hwl7⟩ : ∃ w_, w_ = rf_f (fun q => A 1 (37 * t + 1 + q)) (A 4) (n * n) := ⟨_, rfl⟩
  rw [← hwl7]
  show RR _ _ 10 [some (.ref 146), some (.int (nI t)), some (.int (nI 1)), none, none, none, none] [] (upd (upd g 38 (nI 0)) 6 (nI n)) (rf_u A 4 wl7) _
  refine rr_nx (pc' := 11) (al' := [some (.ref 146), some (.int (nI t)), some (.int (nI 1)), none, none, none, none]) (st' := [.int (nI 1)]) d_259_10 (fun _ => rfl) ?_
  refine rn_ine (t := 20) d_259_11 (by decide) (by first | omega | assumption | exact cu_36 (by omega) (cu_lt (by omega) (by omega))) (fun c11 => ?_) (fun c11 => ?_)
  · refine rn_ic (v := 0) d_259_20 (by decide) ?_
    refine rr_nx (pc' := 22) (al' := [some (.ref 146), some (.int (nI t)), some (.int (nI 1)), some (.int (nI 0)), none, none, none]) (st' := []) d_259_21 (fun _ => rfl) ?_
    refine rr_upw (al := fun w w_ => [some (.ref 146), some (.int (nI t)), some (.int (nI 1)), some (.int (nI w)), none, none, none]) (G := fun w w_ => w_.2.2.1) (B := fun w w_ => w_.2.2.2) (P := fun w w_ => w_.2.2.1 6 = nI n ∧ w_.2.2.1 38 = nI w_.1 ∧ w_.1 ≤ 1 ∧ Gsm g w_.2.2.1 ∧ Ks2 A w_.2.2.2 ∧ (w_.1 = 1 → ∀ q, q < n * n → w_.2.2.2 19 q = nI (w_.2.1 q) ∧ w_.2.1 q < n) ∧ MinS (n * n) (NmK n c w) w_.1 w_.2.1) (n := 1) (fun w w_ hw pw ihw => ?_) (fun w_ pw => ?_) 0 ((0 : Nat), (fun _ => 0 : Nat → Nat), (upd (upd g 38 (nI 0)) 6 (nI n)), (rf_u A 4 wl7)) (by omega) (⟨by dsimp only; exact pk_us, by dsimp only; rw [pk_un (by decide)]; exact pk_us, Nat.zero_le 1, (Gsm.rf.u (by decide)).u (by decide), Ks2.rf.u (by decide), fun e => absurd (show (0 : Nat) = 1 from e) (by decide), Or.inl ⟨rfl, fun t ht => ht.elim (fun w hw => absurd hw.1 (Nat.not_lt_zero w))⟩⟩)
    · show RR _ _ 22 [some (.ref 146), some (.int (nI t)), some (.int (nI 1)), some (.int (nI w)), none, none, none] [] w_.2.2.1 w_.2.2.2 _
      have hlC : Lat n (cjN w n c) := cj_lat hl
      refine rr_nx (pc' := 23) (al' := [some (.ref 146), some (.int (nI t)), some (.int (nI 1)), some (.int (nI w)), none, none, none]) (st' := [.int (nI w)]) d_259_22 (fun _ => rfl) ?_
      refine rr_nx (pc' := 24) (al' := [some (.ref 146), some (.int (nI t)), some (.int (nI 1)), some (.int (nI w)), none, none, none]) (st' := [.int (nI 1), .int (nI w)]) d_259_23 (fun _ => rfl) ?_
      refine rn_ic (v := 2) d_259_24 (by decide) ?_
      refine rn_cne (t := 33) d_259_25 (by decide) (by first | omega | assumption | exact cu_36 (by omega) (cu_lt (by omega) (by omega))) (by first | omega | assumption | exact cu_36 (by omega) (cu_lt (by omega) (by omega))) (fun c25 => ?_) (fun c25 => ?_)
      · refine rn_ic (v := 1) d_259_33 (by decide) ?_
        refine rn_cge (t := 194) d_259_34 (by decide) (by first | omega | assumption | exact cu_36 (by omega) (cu_lt (by omega) (by omega))) (by first | omega | assumption | exact cu_36 (by omega) (cu_lt (by omega) (by omega))) (fun c34 => ?_) (fun c34 => ?_)
        · omega
        · refine rn_ic (v := 0) d_259_37 (by decide) ?_
          refine rr_nx (pc' := 40) (al' := [some (.ref 146), some (.int (nI t)), some (.int (nI 1)), some (.int (nI w)), some (.int (nI 0)), none, none]) (st' := []) d_259_38 (fun _ => rfl) ?_
          refine rr_upw (al := fun k u_ => [some (.ref 146), some (.int (nI t)), some (.int (nI 1)), some (.int (nI w)), some (.int (nI k)), none, none]) (G := fun k u_ => u_.2.2.1) (B := fun k u_ => u_.2.2.2) (P := fun k u_ => u_.2.2.1 6 = nI n ∧ u_.2.2.1 38 = nI u_.1 ∧ u_.1 ≤ 1 ∧ Gsm g u_.2.2.1 ∧ Ks2 A u_.2.2.2 ∧ (u_.1 = 1 → ∀ q, q < n * n → u_.2.2.2 19 q = nI (u_.2.1 q) ∧ u_.2.1 q < n) ∧ MinS (n * n) (fun t => NmK n c w t ∨ ∃ k_, k_ < k ∧ FK n c w k_ t) u_.1 u_.2.1) (n := n * n) (fun k u_ hk pk ihk => ?_) (fun u_ pk => ?_) 0 w_ (by omega) (⟨pw.1, pw.2.1, pw.2.2.1, pw.2.2.2.1, pw.2.2.2.2.1, pw.2.2.2.2.2.1, Min_iff pw.2.2.2.2.2.2 Nm_0⟩)
          · show RR _ _ 40 [some (.ref 146), some (.int (nI t)), some (.int (nI 1)), some (.int (nI w)), some (.int (nI k)), none, none] [] u_.2.2.1 u_.2.2.2 _
            have hdk := dm_dl hk
            have hmk := dm_ml hk
            have hlI : Lat n (isN n (cjN w n c) (k / n) (k % n)) := isN_lat hlC hdk hmk
            have hg6 : upd (upd u_.2.2.1 6 (nI n)) 8 (nI n) 6 = nI n := by rw [pk_un (by decide)]; exact pk_us
            have hA1 : u_.2.2.2 1 = A 1 := pk.2.2.2.2.1 1 (by decide)
            refine rr_nx (pc' := 42) (al' := [some (.ref 146), some (.int (nI t)), some (.int (nI 1)), some (.int (nI w)), some (.int (nI k)), none, none]) (st' := [.int (nI k)]) d_259_40 (fun _ => rfl) ?_
            refine rr_nx (pc' := 43) (al' := [some (.ref 146), some (.int (nI t)), some (.int (nI 1)), some (.int (nI w)), some (.int (nI k)), none, none]) (st' := [.ref 146, .int (nI k)]) d_259_42 (fun _ => rfl) ?_
            refine rr_gn d_259_43 mo_259 fl_127 rfl (by first | exact pk.1 | exact pw.1 | exact hg6 | exact pk_us) ?_
            refine rr_nx (pc' := 47) (al' := [some (.ref 146), some (.int (nI t)), some (.int (nI 1)), some (.int (nI w)), some (.int (nI k)), none, none]) (st' := [.ref 146, .int (nI n), .int (nI k)]) d_259_46 (fun _ => rfl) ?_
            refine rr_gn d_259_47 mo_259 fl_127 rfl (by first | exact pk.1 | exact pw.1 | exact hg6 | exact pk_us) ?_
            refine rn_mul d_259_50  ?_
            refine rn_cge (t := 188) d_259_51 (by decide) (by first | omega | assumption | exact cu_36 (by omega) (cu_lt (by omega) (by omega))) (by first | omega | assumption | exact cu_36 (by omega) (cu_lt (by omega) (by omega))) (fun c51 => ?_) (fun c51 => ?_)
            · omega
            · refine rr_nx (pc' := 55) (al' := [some (.ref 146), some (.int (nI t)), some (.int (nI 1)), some (.int (nI w)), some (.int (nI k)), none, none]) (st' := [.ref 146]) d_259_54 (fun _ => rfl) ?_
              refine rr_nx (pc' := 56) (al' := [some (.ref 146), some (.int (nI t)), some (.int (nI 1)), some (.int (nI w)), some (.int (nI k)), none, none]) (st' := [.int (nI t), .ref 146]) d_259_55 (fun _ => rfl) ?_
              refine rr_pv (as := [.int (nI t)]) (al0 := [some (.ref 146), some (.int (nI t)), none]) (r := []) d_259_56 mo_259 ml_248 mz_208 rfl rfl rfl (Nat.le_of_ble_eq_true rfl) (s_lays (n := n) ht6 hn6 (by first | exact hord | (rw [hA1]; exact hord))) ?_
              obtain ⟨wl56, hwl56⟩ : ∃ w_, w_ = rf_f (fun q => u_.2.2.2 1 (37 * t + 1 + q)) (u_.2.2.2 4) (n * n) := ⟨_, rfl⟩
              rw [← hwl56]
              show RR _ _ 59 [some (.ref 146), some (.int (nI t)), some (.int (nI 1)), some (.int (nI w)), some (.int (nI k)), none, none] [] (upd u_.2.2.1 6 (nI n)) (rf_u u_.2.2.2 4 wl56) _
              refine rr_nx (pc' := 60) (al' := [some (.ref 146), some (.int (nI t)), some (.int (nI 1)), some (.int (nI w)), some (.int (nI k)), none, none]) (st' := [.ref 146]) d_259_59 (fun _ => rfl) ?_
              refine rr_nx (pc' := 61) (al' := [some (.ref 146), some (.int (nI t)), some (.int (nI 1)), some (.int (nI w)), some (.int (nI k)), none, none]) (st' := [.int (nI w), .ref 146]) d_259_60 (fun _ => rfl) ?_
              refine rr_cv (as := [.int (nI w)]) (al0 := [some (.ref 146), some (.int (nI w)), none, none, none]) (r := []) d_259_61 mo_259 ml_267 mz_231 rfl rfl rfl (rr_wk (Nat.le_of_ble_eq_true rfl) (s_conjugates ⟨pk_us, hn6, fun q hq => ⟨by rw [rf_u_s, hwl56, rf_f_in hq, hA1]; exact hcl q hq, hl.1 q hq⟩⟩ hl (by omega))) (fun v1 g1 A1 h1 => ?_)
              obtain ⟨rfl, rfl, w61, rfl, hw61⟩ := h1
              show RR _ _ 64 [some (.ref 146), some (.int (nI t)), some (.int (nI 1)), some (.int (nI w)), some (.int (nI k)), none, none] [] (upd (upd u_.2.2.1 6 (nI n)) 8 (nI n)) (rf_u (rf_u u_.2.2.2 4 wl56) 5 w61) _
              refine rn_ic (v := 0) d_259_64 (by decide) ?_
              refine rr_nx (pc' := 67) (al' := [some (.ref 146), some (.int (nI t)), some (.int (nI 1)), some (.int (nI w)), some (.int (nI k)), some (.int (nI 0)), none]) (st' := []) d_259_65 (fun _ => rfl) ?_
              refine rr_A (show (rf_u (rf_u u_.2.2.2 4 wl56) 5 w61) = (rf_u (rf_u u_.2.2.2 5 w61) 4 wl56) by exact rf_sw (by decide)) ?_
              refine rr_upw (al := fun y w4 => [some (.ref 146), some (.int (nI t)), some (.int (nI 1)), some (.int (nI w)), some (.int (nI k)), some (.int (nI y)), none]) (G := fun y w4 => (upd (upd u_.2.2.1 6 (nI n)) 8 (nI n))) (B := fun y w4 => (rf_u (rf_u u_.2.2.2 5 w61) 4 w4)) (P := fun y w4 => ∀ q, q < y → w4 q = nI ((cjN w n c) q)) (n := n * n) (fun y w4 hy py ihy => ?_) (fun w4 py => ?_) 0 wl56 (by omega) (all_0)
              · show RR _ _ 67 [some (.ref 146), some (.int (nI t)), some (.int (nI 1)), some (.int (nI w)), some (.int (nI k)), some (.int (nI y)), none] [] (upd (upd u_.2.2.1 6 (nI n)) 8 (nI n)) (rf_u (rf_u u_.2.2.2 5 w61) 4 w4) _
                refine rr_nx (pc' := 69) (al' := [some (.ref 146), some (.int (nI t)), some (.int (nI 1)), some (.int (nI w)), some (.int (nI k)), some (.int (nI y)), none]) (st' := [.int (nI y)]) d_259_67 (fun _ => rfl) ?_
                refine rr_nx (pc' := 70) (al' := [some (.ref 146), some (.int (nI t)), some (.int (nI 1)), some (.int (nI w)), some (.int (nI k)), some (.int (nI y)), none]) (st' := [.ref 146, .int (nI y)]) d_259_69 (fun _ => rfl) ?_
                refine rr_gf (v := .int (nI n)) d_259_70 mo_259 fl_127 rfl ?_
                refine rr_nx (pc' := 74) (al' := [some (.ref 146), some (.int (nI t)), some (.int (nI 1)), some (.int (nI w)), some (.int (nI k)), some (.int (nI y)), none]) (st' := [.ref 146, .int (nI n), .int (nI y)]) d_259_73 (fun _ => rfl) ?_
                refine rr_gf (v := .int (nI n)) d_259_74 mo_259 fl_127 rfl ?_
                refine rn_mul d_259_77  ?_
                refine rn_cge (t := 101) d_259_78 (by decide) (by first | omega | assumption | exact cu_36 (by omega) (cu_lt (by omega) (by omega))) (by first | omega | assumption | exact cu_36 (by omega) (cu_lt (by omega) (by omega))) (fun c78 => ?_) (fun c78 => ?_)
                · omega
                · refine rr_nx (pc' := 82) (al' := [some (.ref 146), some (.int (nI t)), some (.int (nI 1)), some (.int (nI w)), some (.int (nI k)), some (.int (nI y)), none]) (st' := [.ref 146]) d_259_81 (fun _ => rfl) ?_
                  refine rr_gf (v := .ref (147 + 4)) d_259_82 mo_259 fl_23 rfl ?_
                  refine rr_nx (pc' := 87) (al' := [some (.ref 146), some (.int (nI t)), some (.int (nI 1)), some (.int (nI w)), some (.int (nI k)), some (.int (nI y)), none]) (st' := [.int (nI y), .ref (147 + 4)]) d_259_85 (fun _ => rfl) ?_
                  refine rr_nx (pc' := 88) (al' := [some (.ref 146), some (.int (nI t)), some (.int (nI 1)), some (.int (nI w)), some (.int (nI k)), some (.int (nI y)), none]) (st' := [.ref 146, .int (nI y), .ref (147 + 4)]) d_259_87 (fun _ => rfl) ?_
                  refine rr_gf (v := .ref (147 + 5)) d_259_88 mo_259 fl_26 rfl ?_
                  refine rr_nx (pc' := 93) (al' := [some (.ref 146), some (.int (nI t)), some (.int (nI 1)), some (.int (nI w)), some (.int (nI k)), some (.int (nI y)), none]) (st' := [.int (nI y), .ref (147 + 5), .int (nI y), .ref (147 + 4)]) d_259_91 (fun _ => rfl) ?_
                  refine rr_ia (j := 5) (v := (nI (cjN w n c y))) d_259_93 (by decide) rfl (by decide) (show y < 36 by first | omega | assumption | exact cu_36 (by omega) (cu_lt (by omega) (by omega))) (hw61 y hy) ?_
                  refine rr_iS (j := 4) (A1 := (rf_u (rf_u u_.2.2.2 5 w61) 4 (upd w4 y (nI (cjN w n c y))))) d_259_94 (by decide) rfl (by decide) (show y < 36 by first | omega | assumption | exact cu_36 (by omega) (cu_lt (by omega) (by omega))) rf_uw ?_
                  refine rn_inc d_259_95 rfl rfl ?_
                  show RR _ _ 98 [some (.ref 146), some (.int (nI t)), some (.int (nI 1)), some (.int (nI w)), some (.int (nI k)), some (.int (nI (y + 1))), none] [] (upd (upd u_.2.2.1 6 (nI n)) 8 (nI n)) (rf_u (rf_u u_.2.2.2 5 w61) 4 (upd w4 y (nI (cjN w n c y)))) _
                  refine rr_nx (pc' := 67) (al' := [some (.ref 146), some (.int (nI t)), some (.int (nI 1)), some (.int (nI w)), some (.int (nI k)), some (.int (nI (y + 1))), none]) (st' := []) d_259_98 (fun _ => rfl) ?_
                  exact ihy (upd w4 y (nI (cjN w n c y))) (up_all (f := fun q => nI ((cjN w n c) q)) py rfl)
              · show RR _ _ 67 [some (.ref 146), some (.int (nI t)), some (.int (nI 1)), some (.int (nI w)), some (.int (nI k)), some (.int (nI (n * n))), none] [] (upd (upd u_.2.2.1 6 (nI n)) 8 (nI n)) (rf_u (rf_u u_.2.2.2 5 w61) 4 w4) _
                refine rr_nx (pc' := 69) (al' := [some (.ref 146), some (.int (nI t)), some (.int (nI 1)), some (.int (nI w)), some (.int (nI k)), some (.int (nI (n * n))), none]) (st' := [.int (nI (n * n))]) d_259_67 (fun _ => rfl) ?_
                refine rr_nx (pc' := 70) (al' := [some (.ref 146), some (.int (nI t)), some (.int (nI 1)), some (.int (nI w)), some (.int (nI k)), some (.int (nI (n * n))), none]) (st' := [.ref 146, .int (nI (n * n))]) d_259_69 (fun _ => rfl) ?_
                refine rr_gf (v := .int (nI n)) d_259_70 mo_259 fl_127 rfl ?_
                refine rr_nx (pc' := 74) (al' := [some (.ref 146), some (.int (nI t)), some (.int (nI 1)), some (.int (nI w)), some (.int (nI k)), some (.int (nI (n * n))), none]) (st' := [.ref 146, .int (nI n), .int (nI (n * n))]) d_259_73 (fun _ => rfl) ?_
                refine rr_gf (v := .int (nI n)) d_259_74 mo_259 fl_127 rfl ?_
                refine rn_mul d_259_77  ?_
                refine rn_cge (t := 101) d_259_78 (by decide) (by first | omega | assumption | exact cu_36 (by omega) (cu_lt (by omega) (by omega))) (by first | omega | assumption | exact cu_36 (by omega) (cu_lt (by omega) (by omega))) (fun c78 => ?_) (fun c78 => ?_)
                · refine rr_nx (pc' := 102) (al' := [some (.ref 146), some (.int (nI t)), some (.int (nI 1)), some (.int (nI w)), some (.int (nI k)), some (.int (nI (n * n))), none]) (st' := [.ref 146]) d_259_101 (fun _ => rfl) ?_
                  refine rr_nx (pc' := 104) (al' := [some (.ref 146), some (.int (nI t)), some (.int (nI 1)), some (.int (nI w)), some (.int (nI k)), some (.int (nI (n * n))), none]) (st' := [.int (nI k), .ref 146]) d_259_102 (fun _ => rfl) ?_
                  refine rr_nx (pc' := 105) (al' := [some (.ref 146), some (.int (nI t)), some (.int (nI 1)), some (.int (nI w)), some (.int (nI k)), some (.int (nI (n * n))), none]) (st' := [.ref 146, .int (nI k), .ref 146]) d_259_104 (fun _ => rfl) ?_
                  refine rr_gf (v := .int (nI n)) d_259_105 mo_259 fl_127 rfl ?_
                  refine rn_div d_259_108 (by omega) (by omega) (by omega) ?_
                  refine rr_nx (pc' := 111) (al' := [some (.ref 146), some (.int (nI t)), some (.int (nI 1)), some (.int (nI w)), some (.int (nI k)), some (.int (nI (n * n))), none]) (st' := [.int (nI k), .int (nI (k / n)), .ref 146]) d_259_109 (fun _ => rfl) ?_
                  refine rr_nx (pc' := 112) (al' := [some (.ref 146), some (.int (nI t)), some (.int (nI 1)), some (.int (nI w)), some (.int (nI k)), some (.int (nI (n * n))), none]) (st' := [.ref 146, .int (nI k), .int (nI (k / n)), .ref 146]) d_259_111 (fun _ => rfl) ?_
                  refine rr_gf (v := .int (nI n)) d_259_112 mo_259 fl_127 rfl ?_
                  refine rn_rem d_259_115 (by omega) (by omega) (by omega) ?_
                  refine rr_pv (as := [.int (nI (k / n)), .int (nI (k % n))]) (al0 := [some (.ref 146), some (.int (nI (k / n))), some (.int (nI (k % n)))]) (r := []) d_259_116 mo_259 ml_130 mz_213 rfl rfl rfl (Nat.le_of_ble_eq_true rfl) (s_times ⟨hg6, hn6, fun q hq => ⟨by rw [rf_u_s]; exact py q hq, hlC.1 q hq⟩⟩ (by omega) (by omega)) ?_
                  rw [show n * (k / n) + k % n = k from dm_q]
                  show RR _ _ 119 [some (.ref 146), some (.int (nI t)), some (.int (nI 1)), some (.int (nI w)), some (.int (nI k)), some (.int (nI (n * n))), none] [.int (nI (cjN w n c k))] (upd (upd u_.2.2.1 6 (nI n)) 8 (nI n)) (rf_u (rf_u u_.2.2.2 5 w61) 4 w4) _
                  have b116 : cjN w n c k < n := hlC.1 k hk
                  refine rr_nx (pc' := 121) (al' := [some (.ref 146), some (.int (nI t)), some (.int (nI 1)), some (.int (nI w)), some (.int (nI k)), some (.int (nI (cjN w n c k))), none]) (st' := []) d_259_119 (fun _ => rfl) ?_
                  refine rr_nx (pc' := 122) (al' := [some (.ref 146), some (.int (nI t)), some (.int (nI 1)), some (.int (nI w)), some (.int (nI k)), some (.int (nI (cjN w n c k))), none]) (st' := [.ref 146]) d_259_121 (fun _ => rfl) ?_
                  refine rr_nx (pc' := 124) (al' := [some (.ref 146), some (.int (nI t)), some (.int (nI 1)), some (.int (nI w)), some (.int (nI k)), some (.int (nI (cjN w n c k))), none]) (st' := [.int (nI k), .ref 146]) d_259_122 (fun _ => rfl) ?_
                  refine rr_nx (pc' := 125) (al' := [some (.ref 146), some (.int (nI t)), some (.int (nI 1)), some (.int (nI w)), some (.int (nI k)), some (.int (nI (cjN w n c k))), none]) (st' := [.ref 146, .int (nI k), .ref 146]) d_259_124 (fun _ => rfl) ?_
                  refine rr_gf (v := .int (nI n)) d_259_125 mo_259 fl_127 rfl ?_
                  refine rn_div d_259_128 (by omega) (by omega) (by omega) ?_
                  refine rr_nx (pc' := 131) (al' := [some (.ref 146), some (.int (nI t)), some (.int (nI 1)), some (.int (nI w)), some (.int (nI k)), some (.int (nI (cjN w n c k))), none]) (st' := [.int (nI k), .int (nI (k / n)), .ref 146]) d_259_129 (fun _ => rfl) ?_
                  refine rr_nx (pc' := 132) (al' := [some (.ref 146), some (.int (nI t)), some (.int (nI 1)), some (.int (nI w)), some (.int (nI k)), some (.int (nI (cjN w n c k))), none]) (st' := [.ref 146, .int (nI k), .int (nI (k / n)), .ref 146]) d_259_131 (fun _ => rfl) ?_
                  refine rr_gf (v := .int (nI n)) d_259_132 mo_259 fl_127 rfl ?_
                  refine rn_rem d_259_135 (by omega) (by omega) (by omega) ?_
                  refine rr_cv (as := [.int (nI (k / n)), .int (nI (k % n))]) (al0 := [some (.ref 146), some (.int (nI (k / n))), some (.int (nI (k % n))), none, none]) (r := []) d_259_136 mo_259 ml_263 mz_229 rfl rfl rfl (rr_wk (Nat.le_of_ble_eq_true rfl) (s_isotopes ⟨hg6, hn6, fun q hq => ⟨by rw [rf_u_s]; exact py q hq, hlC.1 q hq⟩⟩ hlC (by omega) (by omega))) (fun v1 g1 A1 h1 => ?_)
                  obtain ⟨rfl, rfl, w136, rfl, hw136⟩ := h1
                  rw [upd_u, rf_sw (by decide), rf_u_u]
                  show RR _ _ 139 [some (.ref 146), some (.int (nI t)), some (.int (nI 1)), some (.int (nI w)), some (.int (nI k)), some (.int (nI (cjN w n c k))), none] [] (upd (upd u_.2.2.1 6 (nI n)) 8 (nI n)) (rf_u (rf_u u_.2.2.2 5 w136) 4 w4) _
                  refine rn_ic (v := 0) d_259_139 (by decide) ?_
                  refine rr_nx (pc' := 142) (al' := [some (.ref 146), some (.int (nI t)), some (.int (nI 1)), some (.int (nI w)), some (.int (nI k)), some (.int (nI (cjN w n c k))), some (.int (nI 0))]) (st' := []) d_259_140 (fun _ => rfl) ?_
                  refine rr_upw (al := fun y2 w44 => [some (.ref 146), some (.int (nI t)), some (.int (nI 1)), some (.int (nI w)), some (.int (nI k)), some (.int (nI (cjN w n c k))), some (.int (nI y2))]) (G := fun y2 w44 => (upd (upd u_.2.2.1 6 (nI n)) 8 (nI n))) (B := fun y2 w44 => (rf_u (rf_u u_.2.2.2 5 w136) 4 w44)) (P := fun y2 w44 => ∀ q, q < y2 → w44 q = nI ((isN n (cjN w n c) (k / n) (k % n)) q)) (n := n * n) (fun y2 w44 hy2 py2 ihy2 => ?_) (fun w44 py2 => ?_) 0 w4 (by omega) (all_0)
                  · show RR _ _ 142 [some (.ref 146), some (.int (nI t)), some (.int (nI 1)), some (.int (nI w)), some (.int (nI k)), some (.int (nI (cjN w n c k))), some (.int (nI y2))] [] (upd (upd u_.2.2.1 6 (nI n)) 8 (nI n)) (rf_u (rf_u u_.2.2.2 5 w136) 4 w44) _
                    refine rr_nx (pc' := 144) (al' := [some (.ref 146), some (.int (nI t)), some (.int (nI 1)), some (.int (nI w)), some (.int (nI k)), some (.int (nI (cjN w n c k))), some (.int (nI y2))]) (st' := [.int (nI y2)]) d_259_142 (fun _ => rfl) ?_
                    refine rr_nx (pc' := 145) (al' := [some (.ref 146), some (.int (nI t)), some (.int (nI 1)), some (.int (nI w)), some (.int (nI k)), some (.int (nI (cjN w n c k))), some (.int (nI y2))]) (st' := [.ref 146, .int (nI y2)]) d_259_144 (fun _ => rfl) ?_
                    refine rr_gf (v := .int (nI n)) d_259_145 mo_259 fl_127 rfl ?_
                    refine rr_nx (pc' := 149) (al' := [some (.ref 146), some (.int (nI t)), some (.int (nI 1)), some (.int (nI w)), some (.int (nI k)), some (.int (nI (cjN w n c k))), some (.int (nI y2))]) (st' := [.ref 146, .int (nI n), .int (nI y2)]) d_259_148 (fun _ => rfl) ?_
                    refine rr_gf (v := .int (nI n)) d_259_149 mo_259 fl_127 rfl ?_
                    refine rn_mul d_259_152  ?_
                    refine rn_cge (t := 176) d_259_153 (by decide) (by first | omega | assumption | exact cu_36 (by omega) (cu_lt (by omega) (by omega))) (by first | omega | assumption | exact cu_36 (by omega) (cu_lt (by omega) (by omega))) (fun c153 => ?_) (fun c153 => ?_)
                    · omega
                    · refine rr_nx (pc' := 157) (al' := [some (.ref 146), some (.int (nI t)), some (.int (nI 1)), some (.int (nI w)), some (.int (nI k)), some (.int (nI (cjN w n c k))), some (.int (nI y2))]) (st' := [.ref 146]) d_259_156 (fun _ => rfl) ?_
                      refine rr_gf (v := .ref (147 + 4)) d_259_157 mo_259 fl_23 rfl ?_
                      refine rr_nx (pc' := 162) (al' := [some (.ref 146), some (.int (nI t)), some (.int (nI 1)), some (.int (nI w)), some (.int (nI k)), some (.int (nI (cjN w n c k))), some (.int (nI y2))]) (st' := [.int (nI y2), .ref (147 + 4)]) d_259_160 (fun _ => rfl) ?_
                      refine rr_nx (pc' := 163) (al' := [some (.ref 146), some (.int (nI t)), some (.int (nI 1)), some (.int (nI w)), some (.int (nI k)), some (.int (nI (cjN w n c k))), some (.int (nI y2))]) (st' := [.ref 146, .int (nI y2), .ref (147 + 4)]) d_259_162 (fun _ => rfl) ?_
                      refine rr_gf (v := .ref (147 + 5)) d_259_163 mo_259 fl_26 rfl ?_
                      refine rr_nx (pc' := 168) (al' := [some (.ref 146), some (.int (nI t)), some (.int (nI 1)), some (.int (nI w)), some (.int (nI k)), some (.int (nI (cjN w n c k))), some (.int (nI y2))]) (st' := [.int (nI y2), .ref (147 + 5), .int (nI y2), .ref (147 + 4)]) d_259_166 (fun _ => rfl) ?_
                      refine rr_ia (j := 5) (v := (nI ((isN n (cjN w n c) (k / n) (k % n)) y2))) d_259_168 (by decide) rfl (by decide) (show y2 < 36 by first | omega | assumption | exact cu_36 (by omega) (cu_lt (by omega) (by omega))) (hw136 y2 hy2) ?_
                      refine rr_iS (j := 4) (A1 := (rf_u (rf_u u_.2.2.2 5 w136) 4 (upd w44 y2 (nI ((isN n (cjN w n c) (k / n) (k % n)) y2))))) d_259_169 (by decide) rfl (by decide) (show y2 < 36 by first | omega | assumption | exact cu_36 (by omega) (cu_lt (by omega) (by omega))) rf_uw ?_
                      refine rn_inc d_259_170 rfl rfl ?_
                      show RR _ _ 173 [some (.ref 146), some (.int (nI t)), some (.int (nI 1)), some (.int (nI w)), some (.int (nI k)), some (.int (nI (cjN w n c k))), some (.int (nI (y2 + 1)))] [] (upd (upd u_.2.2.1 6 (nI n)) 8 (nI n)) (rf_u (rf_u u_.2.2.2 5 w136) 4 (upd w44 y2 (nI ((isN n (cjN w n c) (k / n) (k % n)) y2)))) _
                      refine rr_nx (pc' := 142) (al' := [some (.ref 146), some (.int (nI t)), some (.int (nI 1)), some (.int (nI w)), some (.int (nI k)), some (.int (nI (cjN w n c k))), some (.int (nI (y2 + 1)))]) (st' := []) d_259_173 (fun _ => rfl) ?_
                      exact ihy2 (upd w44 y2 (nI ((isN n (cjN w n c) (k / n) (k % n)) y2))) (up_all (f := fun q => nI ((isN n (cjN w n c) (k / n) (k % n)) q)) py2 rfl)
                  · show RR _ _ 142 [some (.ref 146), some (.int (nI t)), some (.int (nI 1)), some (.int (nI w)), some (.int (nI k)), some (.int (nI (cjN w n c k))), some (.int (nI (n * n)))] [] (upd (upd u_.2.2.1 6 (nI n)) 8 (nI n)) (rf_u (rf_u u_.2.2.2 5 w136) 4 w44) _
                    refine rr_nx (pc' := 144) (al' := [some (.ref 146), some (.int (nI t)), some (.int (nI 1)), some (.int (nI w)), some (.int (nI k)), some (.int (nI (cjN w n c k))), some (.int (nI (n * n)))]) (st' := [.int (nI (n * n))]) d_259_142 (fun _ => rfl) ?_
                    refine rr_nx (pc' := 145) (al' := [some (.ref 146), some (.int (nI t)), some (.int (nI 1)), some (.int (nI w)), some (.int (nI k)), some (.int (nI (cjN w n c k))), some (.int (nI (n * n)))]) (st' := [.ref 146, .int (nI (n * n))]) d_259_144 (fun _ => rfl) ?_
                    refine rr_gf (v := .int (nI n)) d_259_145 mo_259 fl_127 rfl ?_
                    refine rr_nx (pc' := 149) (al' := [some (.ref 146), some (.int (nI t)), some (.int (nI 1)), some (.int (nI w)), some (.int (nI k)), some (.int (nI (cjN w n c k))), some (.int (nI (n * n)))]) (st' := [.ref 146, .int (nI n), .int (nI (n * n))]) d_259_148 (fun _ => rfl) ?_
                    refine rr_gf (v := .int (nI n)) d_259_149 mo_259 fl_127 rfl ?_
                    refine rn_mul d_259_152  ?_
                    refine rn_cge (t := 176) d_259_153 (by decide) (by first | omega | assumption | exact cu_36 (by omega) (cu_lt (by omega) (by omega))) (by first | omega | assumption | exact cu_36 (by omega) (cu_lt (by omega) (by omega))) (fun c153 => ?_) (fun c153 => ?_)
                    · refine rr_nx (pc' := 177) (al' := [some (.ref 146), some (.int (nI t)), some (.int (nI 1)), some (.int (nI w)), some (.int (nI k)), some (.int (nI (cjN w n c k))), some (.int (nI (n * n)))]) (st' := [.ref 146]) d_259_176 (fun _ => rfl) ?_
                      refine rr_nx (pc' := 179) (al' := [some (.ref 146), some (.int (nI t)), some (.int (nI 1)), some (.int (nI w)), some (.int (nI k)), some (.int (nI (cjN w n c k))), some (.int (nI (n * n)))]) (st' := [.int (nI (cjN w n c k)), .ref 146]) d_259_177 (fun _ => rfl) ?_
                      refine rr_cv (as := [.int (nI (cjN w n c k))]) (al0 := [some (.ref 146), some (.int (nI (cjN w n c k))), none, none, none, none]) (r := []) d_259_179 mo_259 ml_316 mz_260 rfl rfl rfl (rr_wk (Nat.le_of_ble_eq_true rfl) (s_renamingsZk (h := u_.1) (b := u_.2.1) (F := fun t => NmK n c w t ∨ ∃ k_, k_ < k ∧ FK n c w k_ t) ⟨hg6, hn6, fun q hq => ⟨by rw [rf_u_s]; exact py2 q hq, hlI.1 q hq⟩⟩ hlI (by omega) (by rw [pk_un (by decide), pk_un (by decide)]; exact pk.2.1) pk.2.2.1 (fun e q hq => by rw [rf_u_n (by decide), rf_u_n (by decide)]; exact pk.2.2.2.2.2.1 e q hq) pk.2.2.2.2.2.2)) (fun v1 g2 A2 h1 => ?_)
                      obtain ⟨rfl, h2, b2, k1, k2, k3, k4, k5, k6, k7, k8⟩ := h1
                      show RR _ _ 182 [some (.ref 146), some (.int (nI t)), some (.int (nI 1)), some (.int (nI w)), some (.int (nI k)), some (.int (nI (cjN w n c k))), some (.int (nI (n * n)))] [] g2 A2 _
                      refine rn_inc d_259_182 rfl rfl ?_
                      show RR _ _ 185 [some (.ref 146), some (.int (nI t)), some (.int (nI 1)), some (.int (nI w)), some (.int (nI (k + 1))), some (.int (nI (cjN w n c k))), some (.int (nI (n * n)))] [] g2 A2 _
                      refine rr_nx (pc' := 40) (al' := [some (.ref 146), some (.int (nI t)), some (.int (nI 1)), some (.int (nI w)), some (.int (nI (k + 1))), some (.int (nI (cjN w n c k))), some (.int (nI (n * n)))]) (st' := []) d_259_185 (fun _ => rfl) ?_
                      refine rr_dr (al1 := [some (.ref 146), some (.int (nI t)), some (.int (nI 1)), some (.int (nI w)), some (.int (nI (k + 1))), none, none]) (le_s (le_s (le_s (le_s (le_s (le_d rfl (le_d rfl (le_n)))))))) ?_
                      exact ihk (h2, b2, g2, A2) (⟨k1, k2, k3, ((pk.2.2.2.1.u (by decide)).u (by decide)).tr k4, ((pk.2.2.2.2.1.u (by decide)).u (by decide)).tr k5, k7, Min_iff k8 Nm_s⟩)
                    · omega
                · omega
          · show RR _ _ 40 [some (.ref 146), some (.int (nI t)), some (.int (nI 1)), some (.int (nI w)), some (.int (nI (n * n))), none, none] [] u_.2.2.1 u_.2.2.2 _
            refine rr_nx (pc' := 42) (al' := [some (.ref 146), some (.int (nI t)), some (.int (nI 1)), some (.int (nI w)), some (.int (nI (n * n))), none, none]) (st' := [.int (nI (n * n))]) d_259_40 (fun _ => rfl) ?_
            refine rr_nx (pc' := 43) (al' := [some (.ref 146), some (.int (nI t)), some (.int (nI 1)), some (.int (nI w)), some (.int (nI (n * n))), none, none]) (st' := [.ref 146, .int (nI (n * n))]) d_259_42 (fun _ => rfl) ?_
            refine rr_gn d_259_43 mo_259 fl_127 rfl (by first | exact pk.1 | exact pw.1 | exact hg6 | exact pk_us) ?_
            refine rr_nx (pc' := 47) (al' := [some (.ref 146), some (.int (nI t)), some (.int (nI 1)), some (.int (nI w)), some (.int (nI (n * n))), none, none]) (st' := [.ref 146, .int (nI n), .int (nI (n * n))]) d_259_46 (fun _ => rfl) ?_
            refine rr_gn d_259_47 mo_259 fl_127 rfl (by first | exact pk.1 | exact pw.1 | exact hg6 | exact pk_us) ?_
            refine rn_mul d_259_50  ?_
            refine rn_cge (t := 188) d_259_51 (by decide) (by first | omega | assumption | exact cu_36 (by omega) (cu_lt (by omega) (by omega))) (by first | omega | assumption | exact cu_36 (by omega) (cu_lt (by omega) (by omega))) (fun c51 => ?_) (fun c51 => ?_)
            · refine rn_inc d_259_188 rfl rfl ?_
              show RR _ _ 191 [some (.ref 146), some (.int (nI t)), some (.int (nI 1)), some (.int (nI (w + 1))), some (.int (nI (n * n))), none, none] [] u_.2.2.1 u_.2.2.2 _
              refine rr_nx (pc' := 22) (al' := [some (.ref 146), some (.int (nI t)), some (.int (nI 1)), some (.int (nI (w + 1))), some (.int (nI (n * n))), none, none]) (st' := []) d_259_191 (fun _ => rfl) ?_
              refine rr_dr (al1 := [some (.ref 146), some (.int (nI t)), some (.int (nI 1)), some (.int (nI (w + 1))), none, none, none]) (le_s (le_s (le_s (le_s (le_d rfl (le_s (le_s (le_n)))))))) ?_
              exact ihw u_ (⟨pk.1, pk.2.1, pk.2.2.1, pk.2.2.2.1, pk.2.2.2.2.1, pk.2.2.2.2.2.1, Min_iff pk.2.2.2.2.2.2 Nm_w⟩)
            · omega
      · omega
    · show RR _ _ 22 [some (.ref 146), some (.int (nI t)), some (.int (nI 1)), some (.int (nI 1)), none, none, none] [] w_.2.2.1 w_.2.2.2 _
      refine rr_nx (pc' := 23) (al' := [some (.ref 146), some (.int (nI t)), some (.int (nI 1)), some (.int (nI 1)), none, none, none]) (st' := [.int (nI 1)]) d_259_22 (fun _ => rfl) ?_
      refine rr_nx (pc' := 24) (al' := [some (.ref 146), some (.int (nI t)), some (.int (nI 1)), some (.int (nI 1)), none, none, none]) (st' := [.int (nI 1), .int (nI 1)]) d_259_23 (fun _ => rfl) ?_
      refine rn_ic (v := 2) d_259_24 (by decide) ?_
      refine rn_cne (t := 33) d_259_25 (by decide) (by first | omega | assumption | exact cu_36 (by omega) (cu_lt (by omega) (by omega))) (by first | omega | assumption | exact cu_36 (by omega) (cu_lt (by omega) (by omega))) (fun c25 => ?_) (fun c25 => ?_)
      · refine rn_ic (v := 1) d_259_33 (by decide) ?_
        refine rn_cge (t := 194) d_259_34 (by decide) (by first | omega | assumption | exact cu_36 (by omega) (cu_lt (by omega) (by omega))) (by first | omega | assumption | exact cu_36 (by omega) (cu_lt (by omega) (by omega))) (fun c34 => ?_) (fun c34 => ?_)
        · exact rr_rv d_259_194 mr_259 (by
              obtain ⟨q0, q1⟩ : w_.1 = 1 ∧ MinS (n * n) (NmF 1 n c) 1 w_.2.1 := Min_1 pw.2.2.2.2.2.2 (Nm_ex (l := 1) hl hn1)
              exact ⟨rfl, pw.1, pw.2.2.2.1, pw.2.2.2.2.1, w_.2.1, pw.2.2.2.2.2.1 q0, q1⟩)
        · omega
      · omega
  · omega
theorem s_names2k {g : Nat → Int32} {A : Nat → Nat → Int32} {t n : Nat} {c : Nat → Nat} (ht6 : t < 6) (hn1 : 1 ≤ n) (hn6 : n ≤ 6) (hl : Lat n c) (hord : A 1 (37 * t) = nI n) (hcl : ∀ q, q < n * n → A 1 (37 * t + 1 + q) = nI (c q)) : RR 21 259 0 [some (.ref 146), some (.int (nI t)), some (.int (nI 2)), none, none, none, none] [] g A (fun r g' A' => r = none ∧ g' 6 = nI n ∧ Gsm g g' ∧ Ks2 A A' ∧ ∃ b, (∀ q, q < n * n → A' 19 q = nI (b q) ∧ b q < n) ∧ MinS (n * n) (NmF 2 n c) 1 b) := by
  have hnn : n * n ≤ 36 := Nat.mul_le_mul hn6 hn6
  refine rr_nx (pc' := 1) (al' := [some (.ref 146), some (.int (nI t)), some (.int (nI 2)), none, none, none, none]) (st' := [.ref 146]) d_259_0 (fun _ => rfl) ?_
  refine rn_ic (v := 0) d_259_1 (by decide) ?_
  refine rp_38 d_259_2 mo_259 fl_312 (Or.inl rfl) ?_
  refine rr_nx (pc' := 6) (al' := [some (.ref 146), some (.int (nI t)), some (.int (nI 2)), none, none, none, none]) (st' := [.ref 146]) d_259_5 (fun _ => rfl) ?_
  refine rr_nx (pc' := 7) (al' := [some (.ref 146), some (.int (nI t)), some (.int (nI 2)), none, none, none, none]) (st' := [.int (nI t), .ref 146]) d_259_6 (fun _ => rfl) ?_
  refine rr_pv (as := [.int (nI t)]) (al0 := [some (.ref 146), some (.int (nI t)), none]) (r := []) d_259_7 mo_259 ml_248 mz_208 rfl rfl rfl (Nat.le_of_ble_eq_true rfl) (s_lays (n := n) ht6 hn6 (by first | exact hord | (rw [hA1]; exact hord))) ?_
  obtain ⟨wl7, hwl7⟩ : ∃ w_, w_ = rf_f (fun q => A 1 (37 * t + 1 + q)) (A 4) (n * n) := ⟨_, rfl⟩
  rw [← hwl7]
  show RR _ _ 10 [some (.ref 146), some (.int (nI t)), some (.int (nI 2)), none, none, none, none] [] (upd (upd g 38 (nI 0)) 6 (nI n)) (rf_u A 4 wl7) _
  refine rr_nx (pc' := 11) (al' := [some (.ref 146), some (.int (nI t)), some (.int (nI 2)), none, none, none, none]) (st' := [.int (nI 2)]) d_259_10 (fun _ => rfl) ?_
  refine rn_ine (t := 20) d_259_11 (by decide) (by first | omega | assumption | exact cu_36 (by omega) (cu_lt (by omega) (by omega))) (fun c11 => ?_) (fun c11 => ?_)
  · refine rn_ic (v := 0) d_259_20 (by decide) ?_
    refine rr_nx (pc' := 22) (al' := [some (.ref 146), some (.int (nI t)), some (.int (nI 2)), some (.int (nI 0)), none, none, none]) (st' := []) d_259_21 (fun _ => rfl) ?_
    refine rr_upw (al := fun w w_ => [some (.ref 146), some (.int (nI t)), some (.int (nI 2)), some (.int (nI w)), none, none, none]) (G := fun w w_ => w_.2.2.1) (B := fun w w_ => w_.2.2.2) (P := fun w w_ => w_.2.2.1 6 = nI n ∧ w_.2.2.1 38 = nI w_.1 ∧ w_.1 ≤ 1 ∧ Gsm g w_.2.2.1 ∧ Ks2 A w_.2.2.2 ∧ (w_.1 = 1 → ∀ q, q < n * n → w_.2.2.2 19 q = nI (w_.2.1 q) ∧ w_.2.1 q < n) ∧ MinS (n * n) (NmK n c w) w_.1 w_.2.1) (n := 6) (fun w w_ hw pw ihw => ?_) (fun w_ pw => ?_) 0 ((0 : Nat), (fun _ => 0 : Nat → Nat), (upd (upd g 38 (nI 0)) 6 (nI n)), (rf_u A 4 wl7)) (by omega) (⟨by dsimp only; exact pk_us, by dsimp only; rw [pk_un (by decide)]; exact pk_us, Nat.zero_le 1, (Gsm.rf.u (by decide)).u (by decide), Ks2.rf.u (by decide), fun e => absurd (show (0 : Nat) = 1 from e) (by decide), Or.inl ⟨rfl, fun t ht => ht.elim (fun w hw => absurd hw.1 (Nat.not_lt_zero w))⟩⟩)
    · show RR _ _ 22 [some (.ref 146), some (.int (nI t)), some (.int (nI 2)), some (.int (nI w)), none, none, none] [] w_.2.2.1 w_.2.2.2 _
      have hlC : Lat n (cjN w n c) := cj_lat hl
      refine rr_nx (pc' := 23) (al' := [some (.ref 146), some (.int (nI t)), some (.int (nI 2)), some (.int (nI w)), none, none, none]) (st' := [.int (nI w)]) d_259_22 (fun _ => rfl) ?_
      refine rr_nx (pc' := 24) (al' := [some (.ref 146), some (.int (nI t)), some (.int (nI 2)), some (.int (nI w)), none, none, none]) (st' := [.int (nI 2), .int (nI w)]) d_259_23 (fun _ => rfl) ?_
      refine rn_ic (v := 2) d_259_24 (by decide) ?_
      refine rn_cne (t := 33) d_259_25 (by decide) (by first | omega | assumption | exact cu_36 (by omega) (cu_lt (by omega) (by omega))) (by first | omega | assumption | exact cu_36 (by omega) (cu_lt (by omega) (by omega))) (fun c25 => ?_) (fun c25 => ?_)
      · omega
      · refine rn_bp (v := 6) d_259_28 (by decide) ?_
        refine rr_nx (pc' := 34) (al' := [some (.ref 146), some (.int (nI t)), some (.int (nI 2)), some (.int (nI w)), none, none, none]) (st' := [.int (nI 6), .int (nI w)]) d_259_30 (fun _ => rfl) ?_
        refine rn_cge (t := 194) d_259_34 (by decide) (by first | omega | assumption | exact cu_36 (by omega) (cu_lt (by omega) (by omega))) (by first | omega | assumption | exact cu_36 (by omega) (cu_lt (by omega) (by omega))) (fun c34 => ?_) (fun c34 => ?_)
        · omega
        · refine rn_ic (v := 0) d_259_37 (by decide) ?_
          refine rr_nx (pc' := 40) (al' := [some (.ref 146), some (.int (nI t)), some (.int (nI 2)), some (.int (nI w)), some (.int (nI 0)), none, none]) (st' := []) d_259_38 (fun _ => rfl) ?_
          refine rr_upw (al := fun k u_ => [some (.ref 146), some (.int (nI t)), some (.int (nI 2)), some (.int (nI w)), some (.int (nI k)), none, none]) (G := fun k u_ => u_.2.2.1) (B := fun k u_ => u_.2.2.2) (P := fun k u_ => u_.2.2.1 6 = nI n ∧ u_.2.2.1 38 = nI u_.1 ∧ u_.1 ≤ 1 ∧ Gsm g u_.2.2.1 ∧ Ks2 A u_.2.2.2 ∧ (u_.1 = 1 → ∀ q, q < n * n → u_.2.2.2 19 q = nI (u_.2.1 q) ∧ u_.2.1 q < n) ∧ MinS (n * n) (fun t => NmK n c w t ∨ ∃ k_, k_ < k ∧ FK n c w k_ t) u_.1 u_.2.1) (n := n * n) (fun k u_ hk pk ihk => ?_) (fun u_ pk => ?_) 0 w_ (by omega) (⟨pw.1, pw.2.1, pw.2.2.1, pw.2.2.2.1, pw.2.2.2.2.1, pw.2.2.2.2.2.1, Min_iff pw.2.2.2.2.2.2 Nm_0⟩)
          · show RR _ _ 40 [some (.ref 146), some (.int (nI t)), some (.int (nI 2)), some (.int (nI w)), some (.int (nI k)), none, none] [] u_.2.2.1 u_.2.2.2 _
            have hdk := dm_dl hk
            have hmk := dm_ml hk
            have hlI : Lat n (isN n (cjN w n c) (k / n) (k % n)) := isN_lat hlC hdk hmk
            have hg6 : upd (upd u_.2.2.1 6 (nI n)) 8 (nI n) 6 = nI n := by rw [pk_un (by decide)]; exact pk_us
            have hA1 : u_.2.2.2 1 = A 1 := pk.2.2.2.2.1 1 (by decide)
            refine rr_nx (pc' := 42) (al' := [some (.ref 146), some (.int (nI t)), some (.int (nI 2)), some (.int (nI w)), some (.int (nI k)), none, none]) (st' := [.int (nI k)]) d_259_40 (fun _ => rfl) ?_
            refine rr_nx (pc' := 43) (al' := [some (.ref 146), some (.int (nI t)), some (.int (nI 2)), some (.int (nI w)), some (.int (nI k)), none, none]) (st' := [.ref 146, .int (nI k)]) d_259_42 (fun _ => rfl) ?_
            refine rr_gn d_259_43 mo_259 fl_127 rfl (by first | exact pk.1 | exact pw.1 | exact hg6 | exact pk_us) ?_
            refine rr_nx (pc' := 47) (al' := [some (.ref 146), some (.int (nI t)), some (.int (nI 2)), some (.int (nI w)), some (.int (nI k)), none, none]) (st' := [.ref 146, .int (nI n), .int (nI k)]) d_259_46 (fun _ => rfl) ?_
            refine rr_gn d_259_47 mo_259 fl_127 rfl (by first | exact pk.1 | exact pw.1 | exact hg6 | exact pk_us) ?_
            refine rn_mul d_259_50  ?_
            refine rn_cge (t := 188) d_259_51 (by decide) (by first | omega | assumption | exact cu_36 (by omega) (cu_lt (by omega) (by omega))) (by first | omega | assumption | exact cu_36 (by omega) (cu_lt (by omega) (by omega))) (fun c51 => ?_) (fun c51 => ?_)
            · omega
            · refine rr_nx (pc' := 55) (al' := [some (.ref 146), some (.int (nI t)), some (.int (nI 2)), some (.int (nI w)), some (.int (nI k)), none, none]) (st' := [.ref 146]) d_259_54 (fun _ => rfl) ?_
              refine rr_nx (pc' := 56) (al' := [some (.ref 146), some (.int (nI t)), some (.int (nI 2)), some (.int (nI w)), some (.int (nI k)), none, none]) (st' := [.int (nI t), .ref 146]) d_259_55 (fun _ => rfl) ?_
              refine rr_pv (as := [.int (nI t)]) (al0 := [some (.ref 146), some (.int (nI t)), none]) (r := []) d_259_56 mo_259 ml_248 mz_208 rfl rfl rfl (Nat.le_of_ble_eq_true rfl) (s_lays (n := n) ht6 hn6 (by first | exact hord | (rw [hA1]; exact hord))) ?_
              obtain ⟨wl56, hwl56⟩ : ∃ w_, w_ = rf_f (fun q => u_.2.2.2 1 (37 * t + 1 + q)) (u_.2.2.2 4) (n * n) := ⟨_, rfl⟩
              rw [← hwl56]
              show RR _ _ 59 [some (.ref 146), some (.int (nI t)), some (.int (nI 2)), some (.int (nI w)), some (.int (nI k)), none, none] [] (upd u_.2.2.1 6 (nI n)) (rf_u u_.2.2.2 4 wl56) _
              refine rr_nx (pc' := 60) (al' := [some (.ref 146), some (.int (nI t)), some (.int (nI 2)), some (.int (nI w)), some (.int (nI k)), none, none]) (st' := [.ref 146]) d_259_59 (fun _ => rfl) ?_
              refine rr_nx (pc' := 61) (al' := [some (.ref 146), some (.int (nI t)), some (.int (nI 2)), some (.int (nI w)), some (.int (nI k)), none, none]) (st' := [.int (nI w), .ref 146]) d_259_60 (fun _ => rfl) ?_
              refine rr_cv (as := [.int (nI w)]) (al0 := [some (.ref 146), some (.int (nI w)), none, none, none]) (r := []) d_259_61 mo_259 ml_267 mz_231 rfl rfl rfl (rr_wk (Nat.le_of_ble_eq_true rfl) (s_conjugates ⟨pk_us, hn6, fun q hq => ⟨by rw [rf_u_s, hwl56, rf_f_in hq, hA1]; exact hcl q hq, hl.1 q hq⟩⟩ hl (by omega))) (fun v1 g1 A1 h1 => ?_)
              obtain ⟨rfl, rfl, w61, rfl, hw61⟩ := h1
              show RR _ _ 64 [some (.ref 146), some (.int (nI t)), some (.int (nI 2)), some (.int (nI w)), some (.int (nI k)), none, none] [] (upd (upd u_.2.2.1 6 (nI n)) 8 (nI n)) (rf_u (rf_u u_.2.2.2 4 wl56) 5 w61) _
              refine rn_ic (v := 0) d_259_64 (by decide) ?_
              refine rr_nx (pc' := 67) (al' := [some (.ref 146), some (.int (nI t)), some (.int (nI 2)), some (.int (nI w)), some (.int (nI k)), some (.int (nI 0)), none]) (st' := []) d_259_65 (fun _ => rfl) ?_
              refine rr_A (show (rf_u (rf_u u_.2.2.2 4 wl56) 5 w61) = (rf_u (rf_u u_.2.2.2 5 w61) 4 wl56) by exact rf_sw (by decide)) ?_
              refine rr_upw (al := fun y w4 => [some (.ref 146), some (.int (nI t)), some (.int (nI 2)), some (.int (nI w)), some (.int (nI k)), some (.int (nI y)), none]) (G := fun y w4 => (upd (upd u_.2.2.1 6 (nI n)) 8 (nI n))) (B := fun y w4 => (rf_u (rf_u u_.2.2.2 5 w61) 4 w4)) (P := fun y w4 => ∀ q, q < y → w4 q = nI ((cjN w n c) q)) (n := n * n) (fun y w4 hy py ihy => ?_) (fun w4 py => ?_) 0 wl56 (by omega) (all_0)
              · show RR _ _ 67 [some (.ref 146), some (.int (nI t)), some (.int (nI 2)), some (.int (nI w)), some (.int (nI k)), some (.int (nI y)), none] [] (upd (upd u_.2.2.1 6 (nI n)) 8 (nI n)) (rf_u (rf_u u_.2.2.2 5 w61) 4 w4) _
                refine rr_nx (pc' := 69) (al' := [some (.ref 146), some (.int (nI t)), some (.int (nI 2)), some (.int (nI w)), some (.int (nI k)), some (.int (nI y)), none]) (st' := [.int (nI y)]) d_259_67 (fun _ => rfl) ?_
                refine rr_nx (pc' := 70) (al' := [some (.ref 146), some (.int (nI t)), some (.int (nI 2)), some (.int (nI w)), some (.int (nI k)), some (.int (nI y)), none]) (st' := [.ref 146, .int (nI y)]) d_259_69 (fun _ => rfl) ?_
                refine rr_gf (v := .int (nI n)) d_259_70 mo_259 fl_127 rfl ?_
                refine rr_nx (pc' := 74) (al' := [some (.ref 146), some (.int (nI t)), some (.int (nI 2)), some (.int (nI w)), some (.int (nI k)), some (.int (nI y)), none]) (st' := [.ref 146, .int (nI n), .int (nI y)]) d_259_73 (fun _ => rfl) ?_
                refine rr_gf (v := .int (nI n)) d_259_74 mo_259 fl_127 rfl ?_
                refine rn_mul d_259_77  ?_
                refine rn_cge (t := 101) d_259_78 (by decide) (by first | omega | assumption | exact cu_36 (by omega) (cu_lt (by omega) (by omega))) (by first | omega | assumption | exact cu_36 (by omega) (cu_lt (by omega) (by omega))) (fun c78 => ?_) (fun c78 => ?_)
                · omega
                · refine rr_nx (pc' := 82) (al' := [some (.ref 146), some (.int (nI t)), some (.int (nI 2)), some (.int (nI w)), some (.int (nI k)), some (.int (nI y)), none]) (st' := [.ref 146]) d_259_81 (fun _ => rfl) ?_
                  refine rr_gf (v := .ref (147 + 4)) d_259_82 mo_259 fl_23 rfl ?_
                  refine rr_nx (pc' := 87) (al' := [some (.ref 146), some (.int (nI t)), some (.int (nI 2)), some (.int (nI w)), some (.int (nI k)), some (.int (nI y)), none]) (st' := [.int (nI y), .ref (147 + 4)]) d_259_85 (fun _ => rfl) ?_
                  refine rr_nx (pc' := 88) (al' := [some (.ref 146), some (.int (nI t)), some (.int (nI 2)), some (.int (nI w)), some (.int (nI k)), some (.int (nI y)), none]) (st' := [.ref 146, .int (nI y), .ref (147 + 4)]) d_259_87 (fun _ => rfl) ?_
                  refine rr_gf (v := .ref (147 + 5)) d_259_88 mo_259 fl_26 rfl ?_
                  refine rr_nx (pc' := 93) (al' := [some (.ref 146), some (.int (nI t)), some (.int (nI 2)), some (.int (nI w)), some (.int (nI k)), some (.int (nI y)), none]) (st' := [.int (nI y), .ref (147 + 5), .int (nI y), .ref (147 + 4)]) d_259_91 (fun _ => rfl) ?_
                  refine rr_ia (j := 5) (v := (nI (cjN w n c y))) d_259_93 (by decide) rfl (by decide) (show y < 36 by first | omega | assumption | exact cu_36 (by omega) (cu_lt (by omega) (by omega))) (hw61 y hy) ?_
                  refine rr_iS (j := 4) (A1 := (rf_u (rf_u u_.2.2.2 5 w61) 4 (upd w4 y (nI (cjN w n c y))))) d_259_94 (by decide) rfl (by decide) (show y < 36 by first | omega | assumption | exact cu_36 (by omega) (cu_lt (by omega) (by omega))) rf_uw ?_
                  refine rn_inc d_259_95 rfl rfl ?_
                  show RR _ _ 98 [some (.ref 146), some (.int (nI t)), some (.int (nI 2)), some (.int (nI w)), some (.int (nI k)), some (.int (nI (y + 1))), none] [] (upd (upd u_.2.2.1 6 (nI n)) 8 (nI n)) (rf_u (rf_u u_.2.2.2 5 w61) 4 (upd w4 y (nI (cjN w n c y)))) _
                  refine rr_nx (pc' := 67) (al' := [some (.ref 146), some (.int (nI t)), some (.int (nI 2)), some (.int (nI w)), some (.int (nI k)), some (.int (nI (y + 1))), none]) (st' := []) d_259_98 (fun _ => rfl) ?_
                  exact ihy (upd w4 y (nI (cjN w n c y))) (up_all (f := fun q => nI ((cjN w n c) q)) py rfl)
              · show RR _ _ 67 [some (.ref 146), some (.int (nI t)), some (.int (nI 2)), some (.int (nI w)), some (.int (nI k)), some (.int (nI (n * n))), none] [] (upd (upd u_.2.2.1 6 (nI n)) 8 (nI n)) (rf_u (rf_u u_.2.2.2 5 w61) 4 w4) _
                refine rr_nx (pc' := 69) (al' := [some (.ref 146), some (.int (nI t)), some (.int (nI 2)), some (.int (nI w)), some (.int (nI k)), some (.int (nI (n * n))), none]) (st' := [.int (nI (n * n))]) d_259_67 (fun _ => rfl) ?_
                refine rr_nx (pc' := 70) (al' := [some (.ref 146), some (.int (nI t)), some (.int (nI 2)), some (.int (nI w)), some (.int (nI k)), some (.int (nI (n * n))), none]) (st' := [.ref 146, .int (nI (n * n))]) d_259_69 (fun _ => rfl) ?_
                refine rr_gf (v := .int (nI n)) d_259_70 mo_259 fl_127 rfl ?_
                refine rr_nx (pc' := 74) (al' := [some (.ref 146), some (.int (nI t)), some (.int (nI 2)), some (.int (nI w)), some (.int (nI k)), some (.int (nI (n * n))), none]) (st' := [.ref 146, .int (nI n), .int (nI (n * n))]) d_259_73 (fun _ => rfl) ?_
                refine rr_gf (v := .int (nI n)) d_259_74 mo_259 fl_127 rfl ?_
                refine rn_mul d_259_77  ?_
                refine rn_cge (t := 101) d_259_78 (by decide) (by first | omega | assumption | exact cu_36 (by omega) (cu_lt (by omega) (by omega))) (by first | omega | assumption | exact cu_36 (by omega) (cu_lt (by omega) (by omega))) (fun c78 => ?_) (fun c78 => ?_)
                · refine rr_nx (pc' := 102) (al' := [some (.ref 146), some (.int (nI t)), some (.int (nI 2)), some (.int (nI w)), some (.int (nI k)), some (.int (nI (n * n))), none]) (st' := [.ref 146]) d_259_101 (fun _ => rfl) ?_
                  refine rr_nx (pc' := 104) (al' := [some (.ref 146), some (.int (nI t)), some (.int (nI 2)), some (.int (nI w)), some (.int (nI k)), some (.int (nI (n * n))), none]) (st' := [.int (nI k), .ref 146]) d_259_102 (fun _ => rfl) ?_
                  refine rr_nx (pc' := 105) (al' := [some (.ref 146), some (.int (nI t)), some (.int (nI 2)), some (.int (nI w)), some (.int (nI k)), some (.int (nI (n * n))), none]) (st' := [.ref 146, .int (nI k), .ref 146]) d_259_104 (fun _ => rfl) ?_
                  refine rr_gf (v := .int (nI n)) d_259_105 mo_259 fl_127 rfl ?_
                  refine rn_div d_259_108 (by omega) (by omega) (by omega) ?_
                  refine rr_nx (pc' := 111) (al' := [some (.ref 146), some (.int (nI t)), some (.int (nI 2)), some (.int (nI w)), some (.int (nI k)), some (.int (nI (n * n))), none]) (st' := [.int (nI k), .int (nI (k / n)), .ref 146]) d_259_109 (fun _ => rfl) ?_
                  refine rr_nx (pc' := 112) (al' := [some (.ref 146), some (.int (nI t)), some (.int (nI 2)), some (.int (nI w)), some (.int (nI k)), some (.int (nI (n * n))), none]) (st' := [.ref 146, .int (nI k), .int (nI (k / n)), .ref 146]) d_259_111 (fun _ => rfl) ?_
                  refine rr_gf (v := .int (nI n)) d_259_112 mo_259 fl_127 rfl ?_
                  refine rn_rem d_259_115 (by omega) (by omega) (by omega) ?_
                  refine rr_pv (as := [.int (nI (k / n)), .int (nI (k % n))]) (al0 := [some (.ref 146), some (.int (nI (k / n))), some (.int (nI (k % n)))]) (r := []) d_259_116 mo_259 ml_130 mz_213 rfl rfl rfl (Nat.le_of_ble_eq_true rfl) (s_times ⟨hg6, hn6, fun q hq => ⟨by rw [rf_u_s]; exact py q hq, hlC.1 q hq⟩⟩ (by omega) (by omega)) ?_
                  rw [show n * (k / n) + k % n = k from dm_q]
                  show RR _ _ 119 [some (.ref 146), some (.int (nI t)), some (.int (nI 2)), some (.int (nI w)), some (.int (nI k)), some (.int (nI (n * n))), none] [.int (nI (cjN w n c k))] (upd (upd u_.2.2.1 6 (nI n)) 8 (nI n)) (rf_u (rf_u u_.2.2.2 5 w61) 4 w4) _
                  have b116 : cjN w n c k < n := hlC.1 k hk
                  refine rr_nx (pc' := 121) (al' := [some (.ref 146), some (.int (nI t)), some (.int (nI 2)), some (.int (nI w)), some (.int (nI k)), some (.int (nI (cjN w n c k))), none]) (st' := []) d_259_119 (fun _ => rfl) ?_
                  refine rr_nx (pc' := 122) (al' := [some (.ref 146), some (.int (nI t)), some (.int (nI 2)), some (.int (nI w)), some (.int (nI k)), some (.int (nI (cjN w n c k))), none]) (st' := [.ref 146]) d_259_121 (fun _ => rfl) ?_
                  refine rr_nx (pc' := 124) (al' := [some (.ref 146), some (.int (nI t)), some (.int (nI 2)), some (.int (nI w)), some (.int (nI k)), some (.int (nI (cjN w n c k))), none]) (st' := [.int (nI k), .ref 146]) d_259_122 (fun _ => rfl) ?_
                  refine rr_nx (pc' := 125) (al' := [some (.ref 146), some (.int (nI t)), some (.int (nI 2)), some (.int (nI w)), some (.int (nI k)), some (.int (nI (cjN w n c k))), none]) (st' := [.ref 146, .int (nI k), .ref 146]) d_259_124 (fun _ => rfl) ?_
                  refine rr_gf (v := .int (nI n)) d_259_125 mo_259 fl_127 rfl ?_
                  refine rn_div d_259_128 (by omega) (by omega) (by omega) ?_
                  refine rr_nx (pc' := 131) (al' := [some (.ref 146), some (.int (nI t)), some (.int (nI 2)), some (.int (nI w)), some (.int (nI k)), some (.int (nI (cjN w n c k))), none]) (st' := [.int (nI k), .int (nI (k / n)), .ref 146]) d_259_129 (fun _ => rfl) ?_
                  refine rr_nx (pc' := 132) (al' := [some (.ref 146), some (.int (nI t)), some (.int (nI 2)), some (.int (nI w)), some (.int (nI k)), some (.int (nI (cjN w n c k))), none]) (st' := [.ref 146, .int (nI k), .int (nI (k / n)), .ref 146]) d_259_131 (fun _ => rfl) ?_
                  refine rr_gf (v := .int (nI n)) d_259_132 mo_259 fl_127 rfl ?_
                  refine rn_rem d_259_135 (by omega) (by omega) (by omega) ?_
                  refine rr_cv (as := [.int (nI (k / n)), .int (nI (k % n))]) (al0 := [some (.ref 146), some (.int (nI (k / n))), some (.int (nI (k % n))), none, none]) (r := []) d_259_136 mo_259 ml_263 mz_229 rfl rfl rfl (rr_wk (Nat.le_of_ble_eq_true rfl) (s_isotopes ⟨hg6, hn6, fun q hq => ⟨by rw [rf_u_s]; exact py q hq, hlC.1 q hq⟩⟩ hlC (by omega) (by omega))) (fun v1 g1 A1 h1 => ?_)
                  obtain ⟨rfl, rfl, w136, rfl, hw136⟩ := h1
                  rw [upd_u, rf_sw (by decide), rf_u_u]
                  show RR _ _ 139 [some (.ref 146), some (.int (nI t)), some (.int (nI 2)), some (.int (nI w)), some (.int (nI k)), some (.int (nI (cjN w n c k))), none] [] (upd (upd u_.2.2.1 6 (nI n)) 8 (nI n)) (rf_u (rf_u u_.2.2.2 5 w136) 4 w4) _
                  refine rn_ic (v := 0) d_259_139 (by decide) ?_
                  refine rr_nx (pc' := 142) (al' := [some (.ref 146), some (.int (nI t)), some (.int (nI 2)), some (.int (nI w)), some (.int (nI k)), some (.int (nI (cjN w n c k))), some (.int (nI 0))]) (st' := []) d_259_140 (fun _ => rfl) ?_
                  refine rr_upw (al := fun y2 w44 => [some (.ref 146), some (.int (nI t)), some (.int (nI 2)), some (.int (nI w)), some (.int (nI k)), some (.int (nI (cjN w n c k))), some (.int (nI y2))]) (G := fun y2 w44 => (upd (upd u_.2.2.1 6 (nI n)) 8 (nI n))) (B := fun y2 w44 => (rf_u (rf_u u_.2.2.2 5 w136) 4 w44)) (P := fun y2 w44 => ∀ q, q < y2 → w44 q = nI ((isN n (cjN w n c) (k / n) (k % n)) q)) (n := n * n) (fun y2 w44 hy2 py2 ihy2 => ?_) (fun w44 py2 => ?_) 0 w4 (by omega) (all_0)
                  · show RR _ _ 142 [some (.ref 146), some (.int (nI t)), some (.int (nI 2)), some (.int (nI w)), some (.int (nI k)), some (.int (nI (cjN w n c k))), some (.int (nI y2))] [] (upd (upd u_.2.2.1 6 (nI n)) 8 (nI n)) (rf_u (rf_u u_.2.2.2 5 w136) 4 w44) _
                    refine rr_nx (pc' := 144) (al' := [some (.ref 146), some (.int (nI t)), some (.int (nI 2)), some (.int (nI w)), some (.int (nI k)), some (.int (nI (cjN w n c k))), some (.int (nI y2))]) (st' := [.int (nI y2)]) d_259_142 (fun _ => rfl) ?_
                    refine rr_nx (pc' := 145) (al' := [some (.ref 146), some (.int (nI t)), some (.int (nI 2)), some (.int (nI w)), some (.int (nI k)), some (.int (nI (cjN w n c k))), some (.int (nI y2))]) (st' := [.ref 146, .int (nI y2)]) d_259_144 (fun _ => rfl) ?_
                    refine rr_gf (v := .int (nI n)) d_259_145 mo_259 fl_127 rfl ?_
                    refine rr_nx (pc' := 149) (al' := [some (.ref 146), some (.int (nI t)), some (.int (nI 2)), some (.int (nI w)), some (.int (nI k)), some (.int (nI (cjN w n c k))), some (.int (nI y2))]) (st' := [.ref 146, .int (nI n), .int (nI y2)]) d_259_148 (fun _ => rfl) ?_
                    refine rr_gf (v := .int (nI n)) d_259_149 mo_259 fl_127 rfl ?_
                    refine rn_mul d_259_152  ?_
                    refine rn_cge (t := 176) d_259_153 (by decide) (by first | omega | assumption | exact cu_36 (by omega) (cu_lt (by omega) (by omega))) (by first | omega | assumption | exact cu_36 (by omega) (cu_lt (by omega) (by omega))) (fun c153 => ?_) (fun c153 => ?_)
                    · omega
                    · refine rr_nx (pc' := 157) (al' := [some (.ref 146), some (.int (nI t)), some (.int (nI 2)), some (.int (nI w)), some (.int (nI k)), some (.int (nI (cjN w n c k))), some (.int (nI y2))]) (st' := [.ref 146]) d_259_156 (fun _ => rfl) ?_
                      refine rr_gf (v := .ref (147 + 4)) d_259_157 mo_259 fl_23 rfl ?_
                      refine rr_nx (pc' := 162) (al' := [some (.ref 146), some (.int (nI t)), some (.int (nI 2)), some (.int (nI w)), some (.int (nI k)), some (.int (nI (cjN w n c k))), some (.int (nI y2))]) (st' := [.int (nI y2), .ref (147 + 4)]) d_259_160 (fun _ => rfl) ?_
                      refine rr_nx (pc' := 163) (al' := [some (.ref 146), some (.int (nI t)), some (.int (nI 2)), some (.int (nI w)), some (.int (nI k)), some (.int (nI (cjN w n c k))), some (.int (nI y2))]) (st' := [.ref 146, .int (nI y2), .ref (147 + 4)]) d_259_162 (fun _ => rfl) ?_
                      refine rr_gf (v := .ref (147 + 5)) d_259_163 mo_259 fl_26 rfl ?_
                      refine rr_nx (pc' := 168) (al' := [some (.ref 146), some (.int (nI t)), some (.int (nI 2)), some (.int (nI w)), some (.int (nI k)), some (.int (nI (cjN w n c k))), some (.int (nI y2))]) (st' := [.int (nI y2), .ref (147 + 5), .int (nI y2), .ref (147 + 4)]) d_259_166 (fun _ => rfl) ?_
                      refine rr_ia (j := 5) (v := (nI ((isN n (cjN w n c) (k / n) (k % n)) y2))) d_259_168 (by decide) rfl (by decide) (show y2 < 36 by first | omega | assumption | exact cu_36 (by omega) (cu_lt (by omega) (by omega))) (hw136 y2 hy2) ?_
                      refine rr_iS (j := 4) (A1 := (rf_u (rf_u u_.2.2.2 5 w136) 4 (upd w44 y2 (nI ((isN n (cjN w n c) (k / n) (k % n)) y2))))) d_259_169 (by decide) rfl (by decide) (show y2 < 36 by first | omega | assumption | exact cu_36 (by omega) (cu_lt (by omega) (by omega))) rf_uw ?_
                      refine rn_inc d_259_170 rfl rfl ?_
                      show RR _ _ 173 [some (.ref 146), some (.int (nI t)), some (.int (nI 2)), some (.int (nI w)), some (.int (nI k)), some (.int (nI (cjN w n c k))), some (.int (nI (y2 + 1)))] [] (upd (upd u_.2.2.1 6 (nI n)) 8 (nI n)) (rf_u (rf_u u_.2.2.2 5 w136) 4 (upd w44 y2 (nI ((isN n (cjN w n c) (k / n) (k % n)) y2)))) _
                      refine rr_nx (pc' := 142) (al' := [some (.ref 146), some (.int (nI t)), some (.int (nI 2)), some (.int (nI w)), some (.int (nI k)), some (.int (nI (cjN w n c k))), some (.int (nI (y2 + 1)))]) (st' := []) d_259_173 (fun _ => rfl) ?_
                      exact ihy2 (upd w44 y2 (nI ((isN n (cjN w n c) (k / n) (k % n)) y2))) (up_all (f := fun q => nI ((isN n (cjN w n c) (k / n) (k % n)) q)) py2 rfl)
                  · show RR _ _ 142 [some (.ref 146), some (.int (nI t)), some (.int (nI 2)), some (.int (nI w)), some (.int (nI k)), some (.int (nI (cjN w n c k))), some (.int (nI (n * n)))] [] (upd (upd u_.2.2.1 6 (nI n)) 8 (nI n)) (rf_u (rf_u u_.2.2.2 5 w136) 4 w44) _
                    refine rr_nx (pc' := 144) (al' := [some (.ref 146), some (.int (nI t)), some (.int (nI 2)), some (.int (nI w)), some (.int (nI k)), some (.int (nI (cjN w n c k))), some (.int (nI (n * n)))]) (st' := [.int (nI (n * n))]) d_259_142 (fun _ => rfl) ?_
                    refine rr_nx (pc' := 145) (al' := [some (.ref 146), some (.int (nI t)), some (.int (nI 2)), some (.int (nI w)), some (.int (nI k)), some (.int (nI (cjN w n c k))), some (.int (nI (n * n)))]) (st' := [.ref 146, .int (nI (n * n))]) d_259_144 (fun _ => rfl) ?_
                    refine rr_gf (v := .int (nI n)) d_259_145 mo_259 fl_127 rfl ?_
                    refine rr_nx (pc' := 149) (al' := [some (.ref 146), some (.int (nI t)), some (.int (nI 2)), some (.int (nI w)), some (.int (nI k)), some (.int (nI (cjN w n c k))), some (.int (nI (n * n)))]) (st' := [.ref 146, .int (nI n), .int (nI (n * n))]) d_259_148 (fun _ => rfl) ?_
                    refine rr_gf (v := .int (nI n)) d_259_149 mo_259 fl_127 rfl ?_
                    refine rn_mul d_259_152  ?_
                    refine rn_cge (t := 176) d_259_153 (by decide) (by first | omega | assumption | exact cu_36 (by omega) (cu_lt (by omega) (by omega))) (by first | omega | assumption | exact cu_36 (by omega) (cu_lt (by omega) (by omega))) (fun c153 => ?_) (fun c153 => ?_)
                    · refine rr_nx (pc' := 177) (al' := [some (.ref 146), some (.int (nI t)), some (.int (nI 2)), some (.int (nI w)), some (.int (nI k)), some (.int (nI (cjN w n c k))), some (.int (nI (n * n)))]) (st' := [.ref 146]) d_259_176 (fun _ => rfl) ?_
                      refine rr_nx (pc' := 179) (al' := [some (.ref 146), some (.int (nI t)), some (.int (nI 2)), some (.int (nI w)), some (.int (nI k)), some (.int (nI (cjN w n c k))), some (.int (nI (n * n)))]) (st' := [.int (nI (cjN w n c k)), .ref 146]) d_259_177 (fun _ => rfl) ?_
                      refine rr_cv (as := [.int (nI (cjN w n c k))]) (al0 := [some (.ref 146), some (.int (nI (cjN w n c k))), none, none, none, none]) (r := []) d_259_179 mo_259 ml_316 mz_260 rfl rfl rfl (rr_wk (Nat.le_of_ble_eq_true rfl) (s_renamingsZk (h := u_.1) (b := u_.2.1) (F := fun t => NmK n c w t ∨ ∃ k_, k_ < k ∧ FK n c w k_ t) ⟨hg6, hn6, fun q hq => ⟨by rw [rf_u_s]; exact py2 q hq, hlI.1 q hq⟩⟩ hlI (by omega) (by rw [pk_un (by decide), pk_un (by decide)]; exact pk.2.1) pk.2.2.1 (fun e q hq => by rw [rf_u_n (by decide), rf_u_n (by decide)]; exact pk.2.2.2.2.2.1 e q hq) pk.2.2.2.2.2.2)) (fun v1 g2 A2 h1 => ?_)
                      obtain ⟨rfl, h2, b2, k1, k2, k3, k4, k5, k6, k7, k8⟩ := h1
                      show RR _ _ 182 [some (.ref 146), some (.int (nI t)), some (.int (nI 2)), some (.int (nI w)), some (.int (nI k)), some (.int (nI (cjN w n c k))), some (.int (nI (n * n)))] [] g2 A2 _
                      refine rn_inc d_259_182 rfl rfl ?_
                      show RR _ _ 185 [some (.ref 146), some (.int (nI t)), some (.int (nI 2)), some (.int (nI w)), some (.int (nI (k + 1))), some (.int (nI (cjN w n c k))), some (.int (nI (n * n)))] [] g2 A2 _
                      refine rr_nx (pc' := 40) (al' := [some (.ref 146), some (.int (nI t)), some (.int (nI 2)), some (.int (nI w)), some (.int (nI (k + 1))), some (.int (nI (cjN w n c k))), some (.int (nI (n * n)))]) (st' := []) d_259_185 (fun _ => rfl) ?_
                      refine rr_dr (al1 := [some (.ref 146), some (.int (nI t)), some (.int (nI 2)), some (.int (nI w)), some (.int (nI (k + 1))), none, none]) (le_s (le_s (le_s (le_s (le_s (le_d rfl (le_d rfl (le_n)))))))) ?_
                      exact ihk (h2, b2, g2, A2) (⟨k1, k2, k3, ((pk.2.2.2.1.u (by decide)).u (by decide)).tr k4, ((pk.2.2.2.2.1.u (by decide)).u (by decide)).tr k5, k7, Min_iff k8 Nm_s⟩)
                    · omega
                · omega
          · show RR _ _ 40 [some (.ref 146), some (.int (nI t)), some (.int (nI 2)), some (.int (nI w)), some (.int (nI (n * n))), none, none] [] u_.2.2.1 u_.2.2.2 _
            refine rr_nx (pc' := 42) (al' := [some (.ref 146), some (.int (nI t)), some (.int (nI 2)), some (.int (nI w)), some (.int (nI (n * n))), none, none]) (st' := [.int (nI (n * n))]) d_259_40 (fun _ => rfl) ?_
            refine rr_nx (pc' := 43) (al' := [some (.ref 146), some (.int (nI t)), some (.int (nI 2)), some (.int (nI w)), some (.int (nI (n * n))), none, none]) (st' := [.ref 146, .int (nI (n * n))]) d_259_42 (fun _ => rfl) ?_
            refine rr_gn d_259_43 mo_259 fl_127 rfl (by first | exact pk.1 | exact pw.1 | exact hg6 | exact pk_us) ?_
            refine rr_nx (pc' := 47) (al' := [some (.ref 146), some (.int (nI t)), some (.int (nI 2)), some (.int (nI w)), some (.int (nI (n * n))), none, none]) (st' := [.ref 146, .int (nI n), .int (nI (n * n))]) d_259_46 (fun _ => rfl) ?_
            refine rr_gn d_259_47 mo_259 fl_127 rfl (by first | exact pk.1 | exact pw.1 | exact hg6 | exact pk_us) ?_
            refine rn_mul d_259_50  ?_
            refine rn_cge (t := 188) d_259_51 (by decide) (by first | omega | assumption | exact cu_36 (by omega) (cu_lt (by omega) (by omega))) (by first | omega | assumption | exact cu_36 (by omega) (cu_lt (by omega) (by omega))) (fun c51 => ?_) (fun c51 => ?_)
            · refine rn_inc d_259_188 rfl rfl ?_
              show RR _ _ 191 [some (.ref 146), some (.int (nI t)), some (.int (nI 2)), some (.int (nI (w + 1))), some (.int (nI (n * n))), none, none] [] u_.2.2.1 u_.2.2.2 _
              refine rr_nx (pc' := 22) (al' := [some (.ref 146), some (.int (nI t)), some (.int (nI 2)), some (.int (nI (w + 1))), some (.int (nI (n * n))), none, none]) (st' := []) d_259_191 (fun _ => rfl) ?_
              refine rr_dr (al1 := [some (.ref 146), some (.int (nI t)), some (.int (nI 2)), some (.int (nI (w + 1))), none, none, none]) (le_s (le_s (le_s (le_s (le_d rfl (le_s (le_s (le_n)))))))) ?_
              exact ihw u_ (⟨pk.1, pk.2.1, pk.2.2.1, pk.2.2.2.1, pk.2.2.2.2.1, pk.2.2.2.2.2.1, Min_iff pk.2.2.2.2.2.2 Nm_w⟩)
            · omega
    · show RR _ _ 22 [some (.ref 146), some (.int (nI t)), some (.int (nI 2)), some (.int (nI 6)), none, none, none] [] w_.2.2.1 w_.2.2.2 _
      refine rr_nx (pc' := 23) (al' := [some (.ref 146), some (.int (nI t)), some (.int (nI 2)), some (.int (nI 6)), none, none, none]) (st' := [.int (nI 6)]) d_259_22 (fun _ => rfl) ?_
      refine rr_nx (pc' := 24) (al' := [some (.ref 146), some (.int (nI t)), some (.int (nI 2)), some (.int (nI 6)), none, none, none]) (st' := [.int (nI 2), .int (nI 6)]) d_259_23 (fun _ => rfl) ?_
      refine rn_ic (v := 2) d_259_24 (by decide) ?_
      refine rn_cne (t := 33) d_259_25 (by decide) (by first | omega | assumption | exact cu_36 (by omega) (cu_lt (by omega) (by omega))) (by first | omega | assumption | exact cu_36 (by omega) (cu_lt (by omega) (by omega))) (fun c25 => ?_) (fun c25 => ?_)
      · omega
      · refine rn_bp (v := 6) d_259_28 (by decide) ?_
        refine rr_nx (pc' := 34) (al' := [some (.ref 146), some (.int (nI t)), some (.int (nI 2)), some (.int (nI 6)), none, none, none]) (st' := [.int (nI 6), .int (nI 6)]) d_259_30 (fun _ => rfl) ?_
        refine rn_cge (t := 194) d_259_34 (by decide) (by first | omega | assumption | exact cu_36 (by omega) (cu_lt (by omega) (by omega))) (by first | omega | assumption | exact cu_36 (by omega) (cu_lt (by omega) (by omega))) (fun c34 => ?_) (fun c34 => ?_)
        · exact rr_rv d_259_194 mr_259 (by
              obtain ⟨q0, q1⟩ : w_.1 = 1 ∧ MinS (n * n) (NmF 2 n c) 1 w_.2.1 := Min_1 pw.2.2.2.2.2.2 (Nm_ex (l := 2) hl hn1)
              exact ⟨rfl, pw.1, pw.2.2.2.1, pw.2.2.2.2.1, w_.2.1, pw.2.2.2.2.2.1 q0, q1⟩)
        · omega
  · omega
noncomputable def nmB (l n : Nat) (c : Nat → Nat) : Nat → Nat := Classical.epsilon (fun b => MinS (n * n) (NmF l n c) 1 b)
theorem nmb_e {l n : Nat} {c b : Nat → Nat} (h : MinS (n * n) (NmF l n c) 1 b) : ∀ q, q < n * n → b q = nmB l n c q := Min_eq h (Classical.epsilon_spec (p := fun b => MinS (n * n) (NmF l n c) 1 b) ⟨b, h⟩) (by
  rcases h with ⟨h0, _⟩ | ⟨_, ⟨t, ht, _⟩, _⟩
  · cases h0
  · exact ⟨t, ht⟩)
theorem df_cg {m : Nat} {c d c2 d2 : Nat → Nat} (h : ∀ q, q < m → c q = c2 q) (k : ∀ q, q < m → d q = d2 q) : dfN m c d = dfN m c2 d2 := SM_c (fun q hq => by unfold dfF; rw [h q hq, k q hq])
theorem df_00 {m : Nat} {c d : Nat → Nat} (h : ∀ q, q < m → c q = d q) : dfN m c d = 0 := SM_0s (fun q hq => if_pos (h q hq))
theorem df_p {m q : Nat} {c d : Nat → Nat} (hq : q < m) (h : ¬ c q = d q) : ¬ dfN m c d = 0 := fun e => by
  have h1 : SM (dfF c d) q + dfF c d q ≤ SM (dfF c d) m := SM_gr (f := dfF c d) (i := q + 1) hq
  have h2 : dfF c d q = 1 := if_neg h
  have e : SM (dfF c d) m = 0 := e
  omega
theorem p_name0 {S : CS} {G : Nat → Nat → Value} {B : Nat → Nat → Int32} {J : Nat → Nat → Int64} {R : Nat → Nat → Option Nat} {n : Nat} {W : WS} (hW : WC n S G B R W) {j m : Nat} {c : Nat → Nat} (hj : j < 6) (htb : tbK (wK W) j = (m, c)) (h1 : 1 ≤ m) {i : Nat} (hi : i < m * m) : CR 80 155 0 [some (.ref 2), some (.int (nI j)), some (.int (nI 0)), some (.int (nI i)), none] [] S G B J R (fun r__ S' G' B' J' R' => r__ = some (.int (nI (nmB 0 m c i))) ∧ WC (n + 1) S' G' B' R' W) := by
  have hS := hW.1.1
  have hF := hW.2.1
  have hO := hW.2.2.2.1
  obtain ⟨ta, ka, la, hH, hLk, hl2, hs3, hbd⟩ := hW.2.2.1
  obtain ⟨zt, hzt, ezt⟩ := (hH.2.1 j hj).2
  have ht := hH.ta hj
  have hsh := hH.2.2.2.2.2.2.1 j hj
  rw [show kH (wK W) (kD (wK W)) j = (m, c) from htb] at hsh
  have hok := tb_ok hO hj
  rw [htb] at hok
  have hn : G (ta j) 0 = .int (nI m) := hsh.1
  have hc : TabC B (ta j) m c := hsh.c hok
  have hl : Lat m c := hok.2
  have hm6 : m ≤ 6 := hok.1
  have hyes : hasP (wK W) (nI j) := (has_i hj).mpr (by rw [htb]; exact h1)
  have h36 := Nat.mul_le_mul hm6 hm6
  have hpos : 0 < m * m := Nat.mul_pos h1 h1
  refine cr_nx (pc' := 1) (al' := [some (.ref 2), some (.int (nI j)), some (.int (nI 0)), some (.int (nI i)), none]) (st' := [.ref 2]) d_155_0 (fun _ => rfl) ?_
  refine cr_nx (pc' := 2) (al' := [some (.ref 2), some (.int (nI j)), some (.int (nI 0)), some (.int (nI i)), none]) (st' := [.int (nI j), .ref 2]) d_155_1 (fun _ => rfl) ?_
  refine cr_pv (b := 2) (as := [.int (nI j)]) (al0 := [some (.ref 2), some (.int (nI j))]) (r := []) d_155_2 cw_155 cm_11_137 cz_126 rfl rfl (hS.i (a := 2) (by decide) (by decide)) (by rw [cw_126]; exact (hS.s (a := 2) (by decide) (by decide) rfl)) (by rw [cw_126]; decide) rfl (Nat.le_of_ble_eq_true rfl) (k_has hS hF hH hO) ?_
  show CR _ _ 5 [some (.ref 2), some (.int (nI j)), some (.int (nI 0)), some (.int (nI i)), none] [.int (bI (hasP (wK W) (nI j)))] S G B J R _
  refine cr_beq (t := 15) d_155_5 (by decide) (fun c5 => ?_) (fun c5 => ?_)
  · exact absurd hyes c5
  · refine cr_nx (pc' := 9) (al' := [some (.ref 2), some (.int (nI j)), some (.int (nI 0)), some (.int (nI i)), none]) (st' := [.int (nI 0)]) d_155_8 (fun _ => rfl) ?_
    refine cr_ps (as := [.int (nI 0)]) (al0 := [some (.int (nI 0))]) (r := []) d_155_9 cw_155 cm_11_302 (by decide) cz_156 rfl rfl rfl (Nat.le_of_ble_eq_true rfl) (k_isLikeness) ?_
    show CR _ _ 12 [some (.ref 2), some (.int (nI j)), some (.int (nI 0)), some (.int (nI i)), none] [.int (bI (inP (nI 0) 3))] S G B J R _
    refine cr_bne (t := 17) d_155_12 (by decide) (fun c12 => ?_) (fun c12 => ?_)
    · refine cr_nx (pc' := 18) (al' := [some (.ref 2), some (.int (nI j)), some (.int (nI 0)), some (.int (nI i)), none]) (st' := [.ref 2]) d_155_17 (fun _ => rfl) ?_
      refine cr_gf (v := .ref 3) d_155_18 cw_155 cf_11_10 (hS.i (a := 2) (by decide) (by decide)) (hS.s (a := 2) (by decide) (by decide) rfl) (by decide) (fx_2_0 hF) ?_
      refine cr_gf (v := .ref 4) d_155_21 cw_155 cf_11_140 (hS.i (a := 3) (by decide) (by decide)) (hS.s (a := 3) (by decide) (by decide) rfl) (by decide) (fx_3_0 hF) ?_
      refine cr_nx (pc' := 25) (al' := [some (.ref 2), some (.int (nI j)), some (.int (nI 0)), some (.int (nI i)), none]) (st' := [.int (nI j), .ref 4]) d_155_24 (fun _ => rfl) ?_
      refine cr_aa (a := 4) (v := .ref (ta j)) d_155_25 (hS.i (a := 4) (by decide) (by decide)) (by decide) (hS.s (a := 4) (by decide) (by decide) rfl) (by decide) (show j < 6 by first | omega | assumption | exact cu_36 (by omega) (cu_lt (by omega) (by omega))) (show va_rf _ = _ by rw [(hH.2.1 j hj).1]; rfl) ?_
      refine cr_nx (pc' := 28) (al' := [some (.ref 2), some (.int (nI j)), some (.int (nI 0)), some (.int (nI i)), some (.ref (ta j))]) (st' := []) d_155_26 (fun _ => rfl) ?_
      refine cr_nx (pc' := 29) (al' := [some (.ref 2), some (.int (nI j)), some (.int (nI 0)), some (.int (nI i)), some (.ref (ta j))]) (st' := [.int (nI i)]) d_155_28 (fun _ => rfl) ?_
      refine cn_zlt (t := 47) d_155_29 (by decide) (by first | omega | assumption | exact cu_36 (by omega) (cu_lt (by omega) (by omega))) (fun c29 => ?_) (fun c29 => ?_)
      · exact c29.elim
      · refine cr_nx (pc' := 33) (al' := [some (.ref 2), some (.int (nI j)), some (.int (nI 0)), some (.int (nI i)), some (.ref (ta j))]) (st' := [.int (nI i)]) d_155_32 (fun _ => rfl) ?_
        refine cr_nx (pc' := 35) (al' := [some (.ref 2), some (.int (nI j)), some (.int (nI 0)), some (.int (nI i)), some (.ref (ta j))]) (st' := [.ref (ta j), .int (nI i)]) d_155_33 (fun _ => rfl) ?_
        refine cr_gf (v := .int (nI m)) d_155_35 cw_155 cf_11_112 ht.1 ht.2.2.1 (by decide) hn ?_
        refine cr_nx (pc' := 40) (al' := [some (.ref 2), some (.int (nI j)), some (.int (nI 0)), some (.int (nI i)), some (.ref (ta j))]) (st' := [.ref (ta j), .int (nI m), .int (nI i)]) d_155_38 (fun _ => rfl) ?_
        refine cr_gf (v := .int (nI m)) d_155_40 cw_155 cf_11_112 ht.1 ht.2.2.1 (by decide) hn ?_
        refine cn_mul d_155_43  ?_
        refine cn_clt (t := 49) d_155_44 (by decide) (by omega) (by omega) (fun c44 => ?_) (fun c44 => ?_)
        · refine cr_nx (pc' := 50) (al' := [some (.ref 2), some (.int (nI j)), some (.int (nI 0)), some (.int (nI i)), some (.ref (ta j))]) (st' := [.ref 2]) d_155_49 (fun _ => rfl) ?_
          refine cr_gf (v := .ref 111) d_155_50 cw_155 cf_11_69 (hS.i (a := 2) (by decide) (by decide)) (hS.s (a := 2) (by decide) (by decide) rfl) (by decide) (fx_2_11 hF) ?_
          refine cr_nx (pc' := 55) (al' := [some (.ref 2), some (.int (nI j)), some (.int (nI 0)), some (.int (nI i)), some (.ref (ta j))]) (st' := [.ref (ta j), .ref 111]) d_155_53 (fun _ => rfl) ?_
          refine cr_nx (pc' := 56) (al' := [some (.ref 2), some (.int (nI j)), some (.int (nI 0)), some (.int (nI i)), some (.ref (ta j))]) (st' := [.int (nI 0), .ref (ta j), .ref 111]) d_155_55 (fun _ => rfl) ?_
          refine cr_cv (b := 111) (as := [.ref (ta j), .int (nI 0)]) (al0 := [some (.ref 111), some (.ref (ta j)), some (.int (nI 0)), none]) (r := []) d_155_56 cw_155 cm_11_305 cz_40 rfl rfl (hS.i (a := 111) (by decide) (by decide)) (by rw [cw_40]; exact (hS.s (a := 111) (by decide) (by decide) rfl)) (by rw [cw_40]; decide) rfl (cr_wk (Nat.le_of_ble_eq_true rfl) (k_nameOf0_111 hS hF ht hn hc hl h1 (by omega) hW.2.2.2.2.2.2.2.2.2.2.1)) (fun v1 S1 G1 B1 J1 R1 h1x => ?_)
          obtain ⟨q0_, q1_, q2_, q3_, hF1, hg1, hb1, hk1, h8_, bb, hbb, hM⟩ := h1x
          obtain rfl := q0_
          obtain rfl := q1_.symm
          obtain rfl := q2_.symm
          obtain rfl := q3_.symm
          have hW1 : WC n S G1 B1 R W := hW.qn hF1 (hg1.mo (by decide)) (hb1.mo (by decide)) hk1 (nm_2 hW.2.2.2.2.2.2.2.2.2.2.2 (hg1 _ (by decide)) (hg1 _ (by decide)) (hg1 _ (by decide)) (hb1 _ (by decide)) (hb1 _ (by decide)))
          show CR _ _ 59 [some (.ref 2), some (.int (nI j)), some (.int (nI 0)), some (.int (nI i)), some (.ref (ta j))] [.ref 114] S G1 B1 J R _
          refine cr_gf (v := .ref 115) d_155_59 cw_155 cf_11_122 (hS.i (a := 114) (by decide) (by decide)) (hS.s (a := 114) (by decide) (by decide) rfl) (by decide) (fx_114_1 hF1) ?_
          refine cr_nx (pc' := 63) (al' := [some (.ref 2), some (.int (nI j)), some (.int (nI 0)), some (.int (nI i)), some (.ref (ta j))]) (st' := [.int (nI i), .ref 115]) d_155_62 (fun _ => rfl) ?_
          refine cr_ia (a := 115) (v := (nI (nmB 0 m c i))) d_155_63 (hS.i (a := 115) (by decide) (by decide)) (hS.s (a := 115) (by decide) (by decide) rfl) (by first | decide | omega) (show i < 36 by omega) ((hbb i hi).1.trans (by rw [nmb_e hM i hi])) ?_
          exact cr_ri d_155_64 cx_155 rfl ⟨rfl, hW1.mo⟩
        · omega
    · exact absurd ((in_j (by decide)).mpr (by decide)) c12
theorem r_name0 {g : Nat → Int32} {A : Nat → Nat → Int32} {n : Nat} {W : WS} (hW : WR n g A W) (hO : CoOk (wK W)) {j m : Nat} {c : Nat → Nat} (hj : j < 6) (htb : tbK (wK W) j = (m, c)) (h1 : 1 ≤ m) {i : Nat} (hi : i < m * m) : RR 80 258 0 [some (.ref 146), some (.int (nI j)), some (.int (nI 0)), some (.int (nI i))] [] g A (fun r__ g' A' => r__ = some (.int (nI (nmB 0 m c i))) ∧ WR (n + 1) g' A' W) := by
  have hsh := hW.1.1.1 j hj
  rw [show kH (wK W) (kD (wK W)) j = (m, c) from htb] at hsh
  have hok := tb_ok hO hj
  rw [htb] at hok
  have hk : A 1 (37 * j) = nI m := hsh.1
  have hl : Lat m c := hok.2
  have hm6 : m ≤ 6 := hok.1
  have hyes : isT A (nI j) := (has_r hW hO).mpr ((has_i hj).mpr (by rw [htb]; exact h1))
  have h36 := Nat.mul_le_mul hm6 hm6
  have hpos : 0 < m * m := Nat.mul_pos h1 h1
  refine rr_nx (pc' := 1) (al' := [some (.ref 146), some (.int (nI j)), some (.int (nI 0)), some (.int (nI i))]) (st' := [.ref 146]) d_258_0 (fun _ => rfl) ?_
  refine rr_nx (pc' := 2) (al' := [some (.ref 146), some (.int (nI j)), some (.int (nI 0)), some (.int (nI i))]) (st' := [.int (nI j), .ref 146]) d_258_1 (fun _ => rfl) ?_
  refine rr_pv (as := [.int (nI j)]) (al0 := [some (.ref 146), some (.int (nI j))]) (r := []) d_258_2 mo_258 ml_124 mz_184 rfl rfl rfl (Nat.le_of_ble_eq_true rfl) (s_isTable (nI j)) ?_
  show RR _ _ 5 [some (.ref 146), some (.int (nI j)), some (.int (nI 0)), some (.int (nI i))] [.int (bI (isT A (nI j)))] g A _
  refine rr_beq (t := 38) d_258_5 (by decide) (fun c5 => ?_) (fun c5 => ?_)
  · exact absurd hyes c5
  · refine rr_nx (pc' := 9) (al' := [some (.ref 146), some (.int (nI j)), some (.int (nI 0)), some (.int (nI i))]) (st' := [.int (nI 0)]) d_258_8 (fun _ => rfl) ?_
    refine rn_ic (v := 0) d_258_9 (by decide) ?_
    refine rn_ic (v := 2) d_258_10 (by decide) ?_
    refine rr_ps (as := [.int (nI 0), .int (nI 0), .int (nI 2)]) (al0 := [some (.int (nI 0)), some (.int (nI 0)), some (.int (nI 2))]) (r := []) d_258_11 mo_258 ml_106 mz_179 rfl rfl rfl (Nat.le_of_ble_eq_true rfl) (s_lies (nI 0) (nI 0) (nI 2)) ?_
    show RR _ _ 14 [some (.ref 146), some (.int (nI j)), some (.int (nI 0)), some (.int (nI i))] [.int (bI ((nI 0) ≤ (nI 0) ∧ (nI 0) ≤ (nI 2)))] g A _
    refine rr_beq (t := 38) d_258_14 (by decide) (fun c14 => ?_) (fun c14 => ?_)
    · exact absurd (show nI 0 ≤ nI 0 ∧ nI 0 ≤ nI 2 by decide) c14
    · refine rr_nx (pc' := 18) (al' := [some (.ref 146), some (.int (nI j)), some (.int (nI 0)), some (.int (nI i))]) (st' := [.int (nI i)]) d_258_17 (fun _ => rfl) ?_
      refine rn_ic (v := 0) d_258_18 (by decide) ?_
      refine rr_nx (pc' := 20) (al' := [some (.ref 146), some (.int (nI j)), some (.int (nI 0)), some (.int (nI i))]) (st' := [.ref 146, .int (nI 0), .int (nI i)]) d_258_19 (fun _ => rfl) ?_
      refine rr_nx (pc' := 21) (al' := [some (.ref 146), some (.int (nI j)), some (.int (nI 0)), some (.int (nI i))]) (st' := [.int (nI j), .ref 146, .int (nI 0), .int (nI i)]) d_258_20 (fun _ => rfl) ?_
      refine rr_pv (as := [.int (nI j)]) (al0 := [some (.ref 146), some (.int (nI j))]) (r := [.int (nI 0), .int (nI i)]) d_258_21 mo_258 ml_121 mz_186 rfl rfl rfl (Nat.le_of_ble_eq_true rfl) (s_ordN hj hk) ?_
      show RR _ _ 24 [some (.ref 146), some (.int (nI j)), some (.int (nI 0)), some (.int (nI i))] [.int (nI m), .int (nI 0), .int (nI i)] g A _
      refine rr_nx (pc' := 25) (al' := [some (.ref 146), some (.int (nI j)), some (.int (nI 0)), some (.int (nI i))]) (st' := [.ref 146, .int (nI m), .int (nI 0), .int (nI i)]) d_258_24 (fun _ => rfl) ?_
      refine rr_nx (pc' := 26) (al' := [some (.ref 146), some (.int (nI j)), some (.int (nI 0)), some (.int (nI i))]) (st' := [.int (nI j), .ref 146, .int (nI m), .int (nI 0), .int (nI i)]) d_258_25 (fun _ => rfl) ?_
      refine rr_pv (as := [.int (nI j)]) (al0 := [some (.ref 146), some (.int (nI j))]) (r := [.int (nI m), .int (nI 0), .int (nI i)]) d_258_26 mo_258 ml_121 mz_186 rfl rfl rfl (Nat.le_of_ble_eq_true rfl) (s_ordN hj hk) ?_
      show RR _ _ 29 [some (.ref 146), some (.int (nI j)), some (.int (nI 0)), some (.int (nI i))] [.int (nI m), .int (nI m), .int (nI 0), .int (nI i)] g A _
      refine rn_mul d_258_29  ?_
      refine rn_ic (v := 1) d_258_30 (by decide) ?_
      refine rn_sub d_258_31 hpos ?_
      refine rr_ps (as := [.int (nI i), .int (nI 0), .int (nI ((m * m) - 1))]) (al0 := [some (.int (nI i)), some (.int (nI 0)), some (.int (nI ((m * m) - 1)))]) (r := []) d_258_32 mo_258 ml_106 mz_179 rfl rfl rfl (Nat.le_of_ble_eq_true rfl) (s_lies (nI i) (nI 0) (nI ((m * m) - 1))) ?_
      show RR _ _ 35 [some (.ref 146), some (.int (nI j)), some (.int (nI 0)), some (.int (nI i))] [.int (bI ((nI 0) ≤ (nI i) ∧ (nI i) ≤ (nI ((m * m) - 1))))] g A _
      refine rr_bne (t := 40) d_258_35 (by decide) (fun c35 => ?_) (fun c35 => ?_)
      · refine rr_nx (pc' := 41) (al' := [some (.ref 146), some (.int (nI j)), some (.int (nI 0)), some (.int (nI i))]) (st' := [.ref 146]) d_258_40 (fun _ => rfl) ?_
        refine rr_nx (pc' := 42) (al' := [some (.ref 146), some (.int (nI j)), some (.int (nI 0)), some (.int (nI i))]) (st' := [.int (nI j), .ref 146]) d_258_41 (fun _ => rfl) ?_
        refine rr_nx (pc' := 43) (al' := [some (.ref 146), some (.int (nI j)), some (.int (nI 0)), some (.int (nI i))]) (st' := [.int (nI 0), .int (nI j), .ref 146]) d_258_42 (fun _ => rfl) ?_
        refine rr_cv (as := [.int (nI j), .int (nI 0)]) (al0 := [some (.ref 146), some (.int (nI j)), some (.int (nI 0)), none, none, none, none]) (r := []) d_258_43 mo_258 ml_319 mz_259 rfl rfl rfl (rr_wk (Nat.le_of_ble_eq_true rfl) (s_names0k hj h1 hm6 hl hk hsh.2)) (fun v1 g1 A1 h1x => ?_)
        obtain ⟨q0_, h6_, hg1, ha1, b, hb, hM⟩ := h1x
        obtain rfl := q0_
        show RR _ _ 46 [some (.ref 146), some (.int (nI j)), some (.int (nI 0)), some (.int (nI i))] [] g1 A1 _
        refine rr_nx (pc' := 47) (al' := [some (.ref 146), some (.int (nI j)), some (.int (nI 0)), some (.int (nI i))]) (st' := [.ref 146]) d_258_46 (fun _ => rfl) ?_
        refine rr_gf (v := .ref (147 + 19)) d_258_47 mo_258 fl_73 rfl ?_
        refine rr_nx (pc' := 51) (al' := [some (.ref 146), some (.int (nI j)), some (.int (nI 0)), some (.int (nI i))]) (st' := [.int (nI i), .ref (147 + 19)]) d_258_50 (fun _ => rfl) ?_
        refine rr_ia (j := 19) (v := (nI (nmB 0 m c i))) d_258_51 (by decide) rfl (by decide) (show i < 36 by omega) ((hb i hi).1.trans (by rw [nmb_e hM i hi])) ?_
        exact rr_ri d_258_52 mr_258 rfl ⟨rfl, (hW.q hg1 ha1.k).mo⟩
      · exact absurd ((el_r (m := m * m) hpos (by omega)).mpr ((in_j (by omega)).mpr hi)) c35
theorem p_name1 {S : CS} {G : Nat → Nat → Value} {B : Nat → Nat → Int32} {J : Nat → Nat → Int64} {R : Nat → Nat → Option Nat} {n : Nat} {W : WS} (hW : WC n S G B R W) {j m : Nat} {c : Nat → Nat} (hj : j < 6) (htb : tbK (wK W) j = (m, c)) (h1 : 1 ≤ m) {i : Nat} (hi : i < m * m) : CR 80 155 0 [some (.ref 2), some (.int (nI j)), some (.int (nI 1)), some (.int (nI i)), none] [] S G B J R (fun r__ S' G' B' J' R' => r__ = some (.int (nI (nmB 1 m c i))) ∧ WC (n + 1) S' G' B' R' W) := by
  have hS := hW.1.1
  have hF := hW.2.1
  have hO := hW.2.2.2.1
  obtain ⟨ta, ka, la, hH, hLk, hl2, hs3, hbd⟩ := hW.2.2.1
  obtain ⟨zt, hzt, ezt⟩ := (hH.2.1 j hj).2
  have ht := hH.ta hj
  have hsh := hH.2.2.2.2.2.2.1 j hj
  rw [show kH (wK W) (kD (wK W)) j = (m, c) from htb] at hsh
  have hok := tb_ok hO hj
  rw [htb] at hok
  have hn : G (ta j) 0 = .int (nI m) := hsh.1
  have hc : TabC B (ta j) m c := hsh.c hok
  have hl : Lat m c := hok.2
  have hm6 : m ≤ 6 := hok.1
  have hyes : hasP (wK W) (nI j) := (has_i hj).mpr (by rw [htb]; exact h1)
  have h36 := Nat.mul_le_mul hm6 hm6
  have hpos : 0 < m * m := Nat.mul_pos h1 h1
  refine cr_nx (pc' := 1) (al' := [some (.ref 2), some (.int (nI j)), some (.int (nI 1)), some (.int (nI i)), none]) (st' := [.ref 2]) d_155_0 (fun _ => rfl) ?_
  refine cr_nx (pc' := 2) (al' := [some (.ref 2), some (.int (nI j)), some (.int (nI 1)), some (.int (nI i)), none]) (st' := [.int (nI j), .ref 2]) d_155_1 (fun _ => rfl) ?_
  refine cr_pv (b := 2) (as := [.int (nI j)]) (al0 := [some (.ref 2), some (.int (nI j))]) (r := []) d_155_2 cw_155 cm_11_137 cz_126 rfl rfl (hS.i (a := 2) (by decide) (by decide)) (by rw [cw_126]; exact (hS.s (a := 2) (by decide) (by decide) rfl)) (by rw [cw_126]; decide) rfl (Nat.le_of_ble_eq_true rfl) (k_has hS hF hH hO) ?_
  show CR _ _ 5 [some (.ref 2), some (.int (nI j)), some (.int (nI 1)), some (.int (nI i)), none] [.int (bI (hasP (wK W) (nI j)))] S G B J R _
  refine cr_beq (t := 15) d_155_5 (by decide) (fun c5 => ?_) (fun c5 => ?_)
  · exact absurd hyes c5
  · refine cr_nx (pc' := 9) (al' := [some (.ref 2), some (.int (nI j)), some (.int (nI 1)), some (.int (nI i)), none]) (st' := [.int (nI 1)]) d_155_8 (fun _ => rfl) ?_
    refine cr_ps (as := [.int (nI 1)]) (al0 := [some (.int (nI 1))]) (r := []) d_155_9 cw_155 cm_11_302 (by decide) cz_156 rfl rfl rfl (Nat.le_of_ble_eq_true rfl) (k_isLikeness) ?_
    show CR _ _ 12 [some (.ref 2), some (.int (nI j)), some (.int (nI 1)), some (.int (nI i)), none] [.int (bI (inP (nI 1) 3))] S G B J R _
    refine cr_bne (t := 17) d_155_12 (by decide) (fun c12 => ?_) (fun c12 => ?_)
    · refine cr_nx (pc' := 18) (al' := [some (.ref 2), some (.int (nI j)), some (.int (nI 1)), some (.int (nI i)), none]) (st' := [.ref 2]) d_155_17 (fun _ => rfl) ?_
      refine cr_gf (v := .ref 3) d_155_18 cw_155 cf_11_10 (hS.i (a := 2) (by decide) (by decide)) (hS.s (a := 2) (by decide) (by decide) rfl) (by decide) (fx_2_0 hF) ?_
      refine cr_gf (v := .ref 4) d_155_21 cw_155 cf_11_140 (hS.i (a := 3) (by decide) (by decide)) (hS.s (a := 3) (by decide) (by decide) rfl) (by decide) (fx_3_0 hF) ?_
      refine cr_nx (pc' := 25) (al' := [some (.ref 2), some (.int (nI j)), some (.int (nI 1)), some (.int (nI i)), none]) (st' := [.int (nI j), .ref 4]) d_155_24 (fun _ => rfl) ?_
      refine cr_aa (a := 4) (v := .ref (ta j)) d_155_25 (hS.i (a := 4) (by decide) (by decide)) (by decide) (hS.s (a := 4) (by decide) (by decide) rfl) (by decide) (show j < 6 by first | omega | assumption | exact cu_36 (by omega) (cu_lt (by omega) (by omega))) (show va_rf _ = _ by rw [(hH.2.1 j hj).1]; rfl) ?_
      refine cr_nx (pc' := 28) (al' := [some (.ref 2), some (.int (nI j)), some (.int (nI 1)), some (.int (nI i)), some (.ref (ta j))]) (st' := []) d_155_26 (fun _ => rfl) ?_
      refine cr_nx (pc' := 29) (al' := [some (.ref 2), some (.int (nI j)), some (.int (nI 1)), some (.int (nI i)), some (.ref (ta j))]) (st' := [.int (nI i)]) d_155_28 (fun _ => rfl) ?_
      refine cn_zlt (t := 47) d_155_29 (by decide) (by first | omega | assumption | exact cu_36 (by omega) (cu_lt (by omega) (by omega))) (fun c29 => ?_) (fun c29 => ?_)
      · exact c29.elim
      · refine cr_nx (pc' := 33) (al' := [some (.ref 2), some (.int (nI j)), some (.int (nI 1)), some (.int (nI i)), some (.ref (ta j))]) (st' := [.int (nI i)]) d_155_32 (fun _ => rfl) ?_
        refine cr_nx (pc' := 35) (al' := [some (.ref 2), some (.int (nI j)), some (.int (nI 1)), some (.int (nI i)), some (.ref (ta j))]) (st' := [.ref (ta j), .int (nI i)]) d_155_33 (fun _ => rfl) ?_
        refine cr_gf (v := .int (nI m)) d_155_35 cw_155 cf_11_112 ht.1 ht.2.2.1 (by decide) hn ?_
        refine cr_nx (pc' := 40) (al' := [some (.ref 2), some (.int (nI j)), some (.int (nI 1)), some (.int (nI i)), some (.ref (ta j))]) (st' := [.ref (ta j), .int (nI m), .int (nI i)]) d_155_38 (fun _ => rfl) ?_
        refine cr_gf (v := .int (nI m)) d_155_40 cw_155 cf_11_112 ht.1 ht.2.2.1 (by decide) hn ?_
        refine cn_mul d_155_43  ?_
        refine cn_clt (t := 49) d_155_44 (by decide) (by omega) (by omega) (fun c44 => ?_) (fun c44 => ?_)
        · refine cr_nx (pc' := 50) (al' := [some (.ref 2), some (.int (nI j)), some (.int (nI 1)), some (.int (nI i)), some (.ref (ta j))]) (st' := [.ref 2]) d_155_49 (fun _ => rfl) ?_
          refine cr_gf (v := .ref 111) d_155_50 cw_155 cf_11_69 (hS.i (a := 2) (by decide) (by decide)) (hS.s (a := 2) (by decide) (by decide) rfl) (by decide) (fx_2_11 hF) ?_
          refine cr_nx (pc' := 55) (al' := [some (.ref 2), some (.int (nI j)), some (.int (nI 1)), some (.int (nI i)), some (.ref (ta j))]) (st' := [.ref (ta j), .ref 111]) d_155_53 (fun _ => rfl) ?_
          refine cr_nx (pc' := 56) (al' := [some (.ref 2), some (.int (nI j)), some (.int (nI 1)), some (.int (nI i)), some (.ref (ta j))]) (st' := [.int (nI 1), .ref (ta j), .ref 111]) d_155_55 (fun _ => rfl) ?_
          refine cr_cv (b := 111) (as := [.ref (ta j), .int (nI 1)]) (al0 := [some (.ref 111), some (.ref (ta j)), some (.int (nI 1)), none]) (r := []) d_155_56 cw_155 cm_11_305 cz_40 rfl rfl (hS.i (a := 111) (by decide) (by decide)) (by rw [cw_40]; exact (hS.s (a := 111) (by decide) (by decide) rfl)) (by rw [cw_40]; decide) rfl (cr_wk (Nat.le_of_ble_eq_true rfl) (k_nameOf1_111 hS hF ht hn hc hl h1 (by omega) hW.2.2.2.2.2.2.2.2.2.2.1)) (fun v1 S1 G1 B1 J1 R1 h1x => ?_)
          obtain ⟨q0_, q1_, q2_, q3_, hF1, hg1, hb1, hk1, h8_, bb, hbb, hM⟩ := h1x
          obtain rfl := q0_
          obtain rfl := q1_.symm
          obtain rfl := q2_.symm
          obtain rfl := q3_.symm
          have hW1 : WC n S G1 B1 R W := hW.qn hF1 (hg1.mo (by decide)) (hb1.mo (by decide)) hk1 (nm_2 hW.2.2.2.2.2.2.2.2.2.2.2 (hg1 _ (by decide)) (hg1 _ (by decide)) (hg1 _ (by decide)) (hb1 _ (by decide)) (hb1 _ (by decide)))
          show CR _ _ 59 [some (.ref 2), some (.int (nI j)), some (.int (nI 1)), some (.int (nI i)), some (.ref (ta j))] [.ref 114] S G1 B1 J R _
          refine cr_gf (v := .ref 115) d_155_59 cw_155 cf_11_122 (hS.i (a := 114) (by decide) (by decide)) (hS.s (a := 114) (by decide) (by decide) rfl) (by decide) (fx_114_1 hF1) ?_
          refine cr_nx (pc' := 63) (al' := [some (.ref 2), some (.int (nI j)), some (.int (nI 1)), some (.int (nI i)), some (.ref (ta j))]) (st' := [.int (nI i), .ref 115]) d_155_62 (fun _ => rfl) ?_
          refine cr_ia (a := 115) (v := (nI (nmB 1 m c i))) d_155_63 (hS.i (a := 115) (by decide) (by decide)) (hS.s (a := 115) (by decide) (by decide) rfl) (by first | decide | omega) (show i < 36 by omega) ((hbb i hi).1.trans (by rw [nmb_e hM i hi])) ?_
          exact cr_ri d_155_64 cx_155 rfl ⟨rfl, hW1.mo⟩
        · omega
    · exact absurd ((in_j (by decide)).mpr (by decide)) c12
theorem r_name1 {g : Nat → Int32} {A : Nat → Nat → Int32} {n : Nat} {W : WS} (hW : WR n g A W) (hO : CoOk (wK W)) {j m : Nat} {c : Nat → Nat} (hj : j < 6) (htb : tbK (wK W) j = (m, c)) (h1 : 1 ≤ m) {i : Nat} (hi : i < m * m) : RR 80 258 0 [some (.ref 146), some (.int (nI j)), some (.int (nI 1)), some (.int (nI i))] [] g A (fun r__ g' A' => r__ = some (.int (nI (nmB 1 m c i))) ∧ WR (n + 1) g' A' W) := by
  have hsh := hW.1.1.1 j hj
  rw [show kH (wK W) (kD (wK W)) j = (m, c) from htb] at hsh
  have hok := tb_ok hO hj
  rw [htb] at hok
  have hk : A 1 (37 * j) = nI m := hsh.1
  have hl : Lat m c := hok.2
  have hm6 : m ≤ 6 := hok.1
  have hyes : isT A (nI j) := (has_r hW hO).mpr ((has_i hj).mpr (by rw [htb]; exact h1))
  have h36 := Nat.mul_le_mul hm6 hm6
  have hpos : 0 < m * m := Nat.mul_pos h1 h1
  refine rr_nx (pc' := 1) (al' := [some (.ref 146), some (.int (nI j)), some (.int (nI 1)), some (.int (nI i))]) (st' := [.ref 146]) d_258_0 (fun _ => rfl) ?_
  refine rr_nx (pc' := 2) (al' := [some (.ref 146), some (.int (nI j)), some (.int (nI 1)), some (.int (nI i))]) (st' := [.int (nI j), .ref 146]) d_258_1 (fun _ => rfl) ?_
  refine rr_pv (as := [.int (nI j)]) (al0 := [some (.ref 146), some (.int (nI j))]) (r := []) d_258_2 mo_258 ml_124 mz_184 rfl rfl rfl (Nat.le_of_ble_eq_true rfl) (s_isTable (nI j)) ?_
  show RR _ _ 5 [some (.ref 146), some (.int (nI j)), some (.int (nI 1)), some (.int (nI i))] [.int (bI (isT A (nI j)))] g A _
  refine rr_beq (t := 38) d_258_5 (by decide) (fun c5 => ?_) (fun c5 => ?_)
  · exact absurd hyes c5
  · refine rr_nx (pc' := 9) (al' := [some (.ref 146), some (.int (nI j)), some (.int (nI 1)), some (.int (nI i))]) (st' := [.int (nI 1)]) d_258_8 (fun _ => rfl) ?_
    refine rn_ic (v := 0) d_258_9 (by decide) ?_
    refine rn_ic (v := 2) d_258_10 (by decide) ?_
    refine rr_ps (as := [.int (nI 1), .int (nI 0), .int (nI 2)]) (al0 := [some (.int (nI 1)), some (.int (nI 0)), some (.int (nI 2))]) (r := []) d_258_11 mo_258 ml_106 mz_179 rfl rfl rfl (Nat.le_of_ble_eq_true rfl) (s_lies (nI 1) (nI 0) (nI 2)) ?_
    show RR _ _ 14 [some (.ref 146), some (.int (nI j)), some (.int (nI 1)), some (.int (nI i))] [.int (bI ((nI 0) ≤ (nI 1) ∧ (nI 1) ≤ (nI 2)))] g A _
    refine rr_beq (t := 38) d_258_14 (by decide) (fun c14 => ?_) (fun c14 => ?_)
    · exact absurd (show nI 0 ≤ nI 1 ∧ nI 1 ≤ nI 2 by decide) c14
    · refine rr_nx (pc' := 18) (al' := [some (.ref 146), some (.int (nI j)), some (.int (nI 1)), some (.int (nI i))]) (st' := [.int (nI i)]) d_258_17 (fun _ => rfl) ?_
      refine rn_ic (v := 0) d_258_18 (by decide) ?_
      refine rr_nx (pc' := 20) (al' := [some (.ref 146), some (.int (nI j)), some (.int (nI 1)), some (.int (nI i))]) (st' := [.ref 146, .int (nI 0), .int (nI i)]) d_258_19 (fun _ => rfl) ?_
      refine rr_nx (pc' := 21) (al' := [some (.ref 146), some (.int (nI j)), some (.int (nI 1)), some (.int (nI i))]) (st' := [.int (nI j), .ref 146, .int (nI 0), .int (nI i)]) d_258_20 (fun _ => rfl) ?_
      refine rr_pv (as := [.int (nI j)]) (al0 := [some (.ref 146), some (.int (nI j))]) (r := [.int (nI 0), .int (nI i)]) d_258_21 mo_258 ml_121 mz_186 rfl rfl rfl (Nat.le_of_ble_eq_true rfl) (s_ordN hj hk) ?_
      show RR _ _ 24 [some (.ref 146), some (.int (nI j)), some (.int (nI 1)), some (.int (nI i))] [.int (nI m), .int (nI 0), .int (nI i)] g A _
      refine rr_nx (pc' := 25) (al' := [some (.ref 146), some (.int (nI j)), some (.int (nI 1)), some (.int (nI i))]) (st' := [.ref 146, .int (nI m), .int (nI 0), .int (nI i)]) d_258_24 (fun _ => rfl) ?_
      refine rr_nx (pc' := 26) (al' := [some (.ref 146), some (.int (nI j)), some (.int (nI 1)), some (.int (nI i))]) (st' := [.int (nI j), .ref 146, .int (nI m), .int (nI 0), .int (nI i)]) d_258_25 (fun _ => rfl) ?_
      refine rr_pv (as := [.int (nI j)]) (al0 := [some (.ref 146), some (.int (nI j))]) (r := [.int (nI m), .int (nI 0), .int (nI i)]) d_258_26 mo_258 ml_121 mz_186 rfl rfl rfl (Nat.le_of_ble_eq_true rfl) (s_ordN hj hk) ?_
      show RR _ _ 29 [some (.ref 146), some (.int (nI j)), some (.int (nI 1)), some (.int (nI i))] [.int (nI m), .int (nI m), .int (nI 0), .int (nI i)] g A _
      refine rn_mul d_258_29  ?_
      refine rn_ic (v := 1) d_258_30 (by decide) ?_
      refine rn_sub d_258_31 hpos ?_
      refine rr_ps (as := [.int (nI i), .int (nI 0), .int (nI ((m * m) - 1))]) (al0 := [some (.int (nI i)), some (.int (nI 0)), some (.int (nI ((m * m) - 1)))]) (r := []) d_258_32 mo_258 ml_106 mz_179 rfl rfl rfl (Nat.le_of_ble_eq_true rfl) (s_lies (nI i) (nI 0) (nI ((m * m) - 1))) ?_
      show RR _ _ 35 [some (.ref 146), some (.int (nI j)), some (.int (nI 1)), some (.int (nI i))] [.int (bI ((nI 0) ≤ (nI i) ∧ (nI i) ≤ (nI ((m * m) - 1))))] g A _
      refine rr_bne (t := 40) d_258_35 (by decide) (fun c35 => ?_) (fun c35 => ?_)
      · refine rr_nx (pc' := 41) (al' := [some (.ref 146), some (.int (nI j)), some (.int (nI 1)), some (.int (nI i))]) (st' := [.ref 146]) d_258_40 (fun _ => rfl) ?_
        refine rr_nx (pc' := 42) (al' := [some (.ref 146), some (.int (nI j)), some (.int (nI 1)), some (.int (nI i))]) (st' := [.int (nI j), .ref 146]) d_258_41 (fun _ => rfl) ?_
        refine rr_nx (pc' := 43) (al' := [some (.ref 146), some (.int (nI j)), some (.int (nI 1)), some (.int (nI i))]) (st' := [.int (nI 1), .int (nI j), .ref 146]) d_258_42 (fun _ => rfl) ?_
        refine rr_cv (as := [.int (nI j), .int (nI 1)]) (al0 := [some (.ref 146), some (.int (nI j)), some (.int (nI 1)), none, none, none, none]) (r := []) d_258_43 mo_258 ml_319 mz_259 rfl rfl rfl (rr_wk (Nat.le_of_ble_eq_true rfl) (s_names1k hj h1 hm6 hl hk hsh.2)) (fun v1 g1 A1 h1x => ?_)
        obtain ⟨q0_, h6_, hg1, ha1, b, hb, hM⟩ := h1x
        obtain rfl := q0_
        show RR _ _ 46 [some (.ref 146), some (.int (nI j)), some (.int (nI 1)), some (.int (nI i))] [] g1 A1 _
        refine rr_nx (pc' := 47) (al' := [some (.ref 146), some (.int (nI j)), some (.int (nI 1)), some (.int (nI i))]) (st' := [.ref 146]) d_258_46 (fun _ => rfl) ?_
        refine rr_gf (v := .ref (147 + 19)) d_258_47 mo_258 fl_73 rfl ?_
        refine rr_nx (pc' := 51) (al' := [some (.ref 146), some (.int (nI j)), some (.int (nI 1)), some (.int (nI i))]) (st' := [.int (nI i), .ref (147 + 19)]) d_258_50 (fun _ => rfl) ?_
        refine rr_ia (j := 19) (v := (nI (nmB 1 m c i))) d_258_51 (by decide) rfl (by decide) (show i < 36 by omega) ((hb i hi).1.trans (by rw [nmb_e hM i hi])) ?_
        exact rr_ri d_258_52 mr_258 rfl ⟨rfl, (hW.q hg1 ha1.k).mo⟩
      · exact absurd ((el_r (m := m * m) hpos (by omega)).mpr ((in_j (by omega)).mpr hi)) c35
theorem p_name2 {S : CS} {G : Nat → Nat → Value} {B : Nat → Nat → Int32} {J : Nat → Nat → Int64} {R : Nat → Nat → Option Nat} {n : Nat} {W : WS} (hW : WC n S G B R W) {j m : Nat} {c : Nat → Nat} (hj : j < 6) (htb : tbK (wK W) j = (m, c)) (h1 : 1 ≤ m) {i : Nat} (hi : i < m * m) : CR 80 155 0 [some (.ref 2), some (.int (nI j)), some (.int (nI 2)), some (.int (nI i)), none] [] S G B J R (fun r__ S' G' B' J' R' => r__ = some (.int (nI (nmB 2 m c i))) ∧ WC (n + 1) S' G' B' R' W) := by
  have hS := hW.1.1
  have hF := hW.2.1
  have hO := hW.2.2.2.1
  obtain ⟨ta, ka, la, hH, hLk, hl2, hs3, hbd⟩ := hW.2.2.1
  obtain ⟨zt, hzt, ezt⟩ := (hH.2.1 j hj).2
  have ht := hH.ta hj
  have hsh := hH.2.2.2.2.2.2.1 j hj
  rw [show kH (wK W) (kD (wK W)) j = (m, c) from htb] at hsh
  have hok := tb_ok hO hj
  rw [htb] at hok
  have hn : G (ta j) 0 = .int (nI m) := hsh.1
  have hc : TabC B (ta j) m c := hsh.c hok
  have hl : Lat m c := hok.2
  have hm6 : m ≤ 6 := hok.1
  have hyes : hasP (wK W) (nI j) := (has_i hj).mpr (by rw [htb]; exact h1)
  have h36 := Nat.mul_le_mul hm6 hm6
  have hpos : 0 < m * m := Nat.mul_pos h1 h1
  refine cr_nx (pc' := 1) (al' := [some (.ref 2), some (.int (nI j)), some (.int (nI 2)), some (.int (nI i)), none]) (st' := [.ref 2]) d_155_0 (fun _ => rfl) ?_
  refine cr_nx (pc' := 2) (al' := [some (.ref 2), some (.int (nI j)), some (.int (nI 2)), some (.int (nI i)), none]) (st' := [.int (nI j), .ref 2]) d_155_1 (fun _ => rfl) ?_
  refine cr_pv (b := 2) (as := [.int (nI j)]) (al0 := [some (.ref 2), some (.int (nI j))]) (r := []) d_155_2 cw_155 cm_11_137 cz_126 rfl rfl (hS.i (a := 2) (by decide) (by decide)) (by rw [cw_126]; exact (hS.s (a := 2) (by decide) (by decide) rfl)) (by rw [cw_126]; decide) rfl (Nat.le_of_ble_eq_true rfl) (k_has hS hF hH hO) ?_
  show CR _ _ 5 [some (.ref 2), some (.int (nI j)), some (.int (nI 2)), some (.int (nI i)), none] [.int (bI (hasP (wK W) (nI j)))] S G B J R _
  refine cr_beq (t := 15) d_155_5 (by decide) (fun c5 => ?_) (fun c5 => ?_)
  · exact absurd hyes c5
  · refine cr_nx (pc' := 9) (al' := [some (.ref 2), some (.int (nI j)), some (.int (nI 2)), some (.int (nI i)), none]) (st' := [.int (nI 2)]) d_155_8 (fun _ => rfl) ?_
    refine cr_ps (as := [.int (nI 2)]) (al0 := [some (.int (nI 2))]) (r := []) d_155_9 cw_155 cm_11_302 (by decide) cz_156 rfl rfl rfl (Nat.le_of_ble_eq_true rfl) (k_isLikeness) ?_
    show CR _ _ 12 [some (.ref 2), some (.int (nI j)), some (.int (nI 2)), some (.int (nI i)), none] [.int (bI (inP (nI 2) 3))] S G B J R _
    refine cr_bne (t := 17) d_155_12 (by decide) (fun c12 => ?_) (fun c12 => ?_)
    · refine cr_nx (pc' := 18) (al' := [some (.ref 2), some (.int (nI j)), some (.int (nI 2)), some (.int (nI i)), none]) (st' := [.ref 2]) d_155_17 (fun _ => rfl) ?_
      refine cr_gf (v := .ref 3) d_155_18 cw_155 cf_11_10 (hS.i (a := 2) (by decide) (by decide)) (hS.s (a := 2) (by decide) (by decide) rfl) (by decide) (fx_2_0 hF) ?_
      refine cr_gf (v := .ref 4) d_155_21 cw_155 cf_11_140 (hS.i (a := 3) (by decide) (by decide)) (hS.s (a := 3) (by decide) (by decide) rfl) (by decide) (fx_3_0 hF) ?_
      refine cr_nx (pc' := 25) (al' := [some (.ref 2), some (.int (nI j)), some (.int (nI 2)), some (.int (nI i)), none]) (st' := [.int (nI j), .ref 4]) d_155_24 (fun _ => rfl) ?_
      refine cr_aa (a := 4) (v := .ref (ta j)) d_155_25 (hS.i (a := 4) (by decide) (by decide)) (by decide) (hS.s (a := 4) (by decide) (by decide) rfl) (by decide) (show j < 6 by first | omega | assumption | exact cu_36 (by omega) (cu_lt (by omega) (by omega))) (show va_rf _ = _ by rw [(hH.2.1 j hj).1]; rfl) ?_
      refine cr_nx (pc' := 28) (al' := [some (.ref 2), some (.int (nI j)), some (.int (nI 2)), some (.int (nI i)), some (.ref (ta j))]) (st' := []) d_155_26 (fun _ => rfl) ?_
      refine cr_nx (pc' := 29) (al' := [some (.ref 2), some (.int (nI j)), some (.int (nI 2)), some (.int (nI i)), some (.ref (ta j))]) (st' := [.int (nI i)]) d_155_28 (fun _ => rfl) ?_
      refine cn_zlt (t := 47) d_155_29 (by decide) (by first | omega | assumption | exact cu_36 (by omega) (cu_lt (by omega) (by omega))) (fun c29 => ?_) (fun c29 => ?_)
      · exact c29.elim
      · refine cr_nx (pc' := 33) (al' := [some (.ref 2), some (.int (nI j)), some (.int (nI 2)), some (.int (nI i)), some (.ref (ta j))]) (st' := [.int (nI i)]) d_155_32 (fun _ => rfl) ?_
        refine cr_nx (pc' := 35) (al' := [some (.ref 2), some (.int (nI j)), some (.int (nI 2)), some (.int (nI i)), some (.ref (ta j))]) (st' := [.ref (ta j), .int (nI i)]) d_155_33 (fun _ => rfl) ?_
        refine cr_gf (v := .int (nI m)) d_155_35 cw_155 cf_11_112 ht.1 ht.2.2.1 (by decide) hn ?_
        refine cr_nx (pc' := 40) (al' := [some (.ref 2), some (.int (nI j)), some (.int (nI 2)), some (.int (nI i)), some (.ref (ta j))]) (st' := [.ref (ta j), .int (nI m), .int (nI i)]) d_155_38 (fun _ => rfl) ?_
        refine cr_gf (v := .int (nI m)) d_155_40 cw_155 cf_11_112 ht.1 ht.2.2.1 (by decide) hn ?_
        refine cn_mul d_155_43  ?_
        refine cn_clt (t := 49) d_155_44 (by decide) (by omega) (by omega) (fun c44 => ?_) (fun c44 => ?_)
        · refine cr_nx (pc' := 50) (al' := [some (.ref 2), some (.int (nI j)), some (.int (nI 2)), some (.int (nI i)), some (.ref (ta j))]) (st' := [.ref 2]) d_155_49 (fun _ => rfl) ?_
          refine cr_gf (v := .ref 111) d_155_50 cw_155 cf_11_69 (hS.i (a := 2) (by decide) (by decide)) (hS.s (a := 2) (by decide) (by decide) rfl) (by decide) (fx_2_11 hF) ?_
          refine cr_nx (pc' := 55) (al' := [some (.ref 2), some (.int (nI j)), some (.int (nI 2)), some (.int (nI i)), some (.ref (ta j))]) (st' := [.ref (ta j), .ref 111]) d_155_53 (fun _ => rfl) ?_
          refine cr_nx (pc' := 56) (al' := [some (.ref 2), some (.int (nI j)), some (.int (nI 2)), some (.int (nI i)), some (.ref (ta j))]) (st' := [.int (nI 2), .ref (ta j), .ref 111]) d_155_55 (fun _ => rfl) ?_
          refine cr_cv (b := 111) (as := [.ref (ta j), .int (nI 2)]) (al0 := [some (.ref 111), some (.ref (ta j)), some (.int (nI 2)), none]) (r := []) d_155_56 cw_155 cm_11_305 cz_40 rfl rfl (hS.i (a := 111) (by decide) (by decide)) (by rw [cw_40]; exact (hS.s (a := 111) (by decide) (by decide) rfl)) (by rw [cw_40]; decide) rfl (cr_wk (Nat.le_of_ble_eq_true rfl) (k_nameOf2_111 hS hF ht hn hc hl h1 (by omega) hW.2.2.2.2.2.2.2.2.2.2.1)) (fun v1 S1 G1 B1 J1 R1 h1x => ?_)
          obtain ⟨q0_, q1_, q2_, q3_, hF1, hg1, hb1, hk1, h8_, bb, hbb, hM⟩ := h1x
          obtain rfl := q0_
          obtain rfl := q1_.symm
          obtain rfl := q2_.symm
          obtain rfl := q3_.symm
          have hW1 : WC n S G1 B1 R W := hW.qn hF1 (hg1.mo (by decide)) (hb1.mo (by decide)) hk1 (nm_2 hW.2.2.2.2.2.2.2.2.2.2.2 (hg1 _ (by decide)) (hg1 _ (by decide)) (hg1 _ (by decide)) (hb1 _ (by decide)) (hb1 _ (by decide)))
          show CR _ _ 59 [some (.ref 2), some (.int (nI j)), some (.int (nI 2)), some (.int (nI i)), some (.ref (ta j))] [.ref 114] S G1 B1 J R _
          refine cr_gf (v := .ref 115) d_155_59 cw_155 cf_11_122 (hS.i (a := 114) (by decide) (by decide)) (hS.s (a := 114) (by decide) (by decide) rfl) (by decide) (fx_114_1 hF1) ?_
          refine cr_nx (pc' := 63) (al' := [some (.ref 2), some (.int (nI j)), some (.int (nI 2)), some (.int (nI i)), some (.ref (ta j))]) (st' := [.int (nI i), .ref 115]) d_155_62 (fun _ => rfl) ?_
          refine cr_ia (a := 115) (v := (nI (nmB 2 m c i))) d_155_63 (hS.i (a := 115) (by decide) (by decide)) (hS.s (a := 115) (by decide) (by decide) rfl) (by first | decide | omega) (show i < 36 by omega) ((hbb i hi).1.trans (by rw [nmb_e hM i hi])) ?_
          exact cr_ri d_155_64 cx_155 rfl ⟨rfl, hW1.mo⟩
        · omega
    · exact absurd ((in_j (by decide)).mpr (by decide)) c12
theorem r_name2 {g : Nat → Int32} {A : Nat → Nat → Int32} {n : Nat} {W : WS} (hW : WR n g A W) (hO : CoOk (wK W)) {j m : Nat} {c : Nat → Nat} (hj : j < 6) (htb : tbK (wK W) j = (m, c)) (h1 : 1 ≤ m) {i : Nat} (hi : i < m * m) : RR 80 258 0 [some (.ref 146), some (.int (nI j)), some (.int (nI 2)), some (.int (nI i))] [] g A (fun r__ g' A' => r__ = some (.int (nI (nmB 2 m c i))) ∧ WR (n + 1) g' A' W) := by
  have hsh := hW.1.1.1 j hj
  rw [show kH (wK W) (kD (wK W)) j = (m, c) from htb] at hsh
  have hok := tb_ok hO hj
  rw [htb] at hok
  have hk : A 1 (37 * j) = nI m := hsh.1
  have hl : Lat m c := hok.2
  have hm6 : m ≤ 6 := hok.1
  have hyes : isT A (nI j) := (has_r hW hO).mpr ((has_i hj).mpr (by rw [htb]; exact h1))
  have h36 := Nat.mul_le_mul hm6 hm6
  have hpos : 0 < m * m := Nat.mul_pos h1 h1
  refine rr_nx (pc' := 1) (al' := [some (.ref 146), some (.int (nI j)), some (.int (nI 2)), some (.int (nI i))]) (st' := [.ref 146]) d_258_0 (fun _ => rfl) ?_
  refine rr_nx (pc' := 2) (al' := [some (.ref 146), some (.int (nI j)), some (.int (nI 2)), some (.int (nI i))]) (st' := [.int (nI j), .ref 146]) d_258_1 (fun _ => rfl) ?_
  refine rr_pv (as := [.int (nI j)]) (al0 := [some (.ref 146), some (.int (nI j))]) (r := []) d_258_2 mo_258 ml_124 mz_184 rfl rfl rfl (Nat.le_of_ble_eq_true rfl) (s_isTable (nI j)) ?_
  show RR _ _ 5 [some (.ref 146), some (.int (nI j)), some (.int (nI 2)), some (.int (nI i))] [.int (bI (isT A (nI j)))] g A _
  refine rr_beq (t := 38) d_258_5 (by decide) (fun c5 => ?_) (fun c5 => ?_)
  · exact absurd hyes c5
  · refine rr_nx (pc' := 9) (al' := [some (.ref 146), some (.int (nI j)), some (.int (nI 2)), some (.int (nI i))]) (st' := [.int (nI 2)]) d_258_8 (fun _ => rfl) ?_
    refine rn_ic (v := 0) d_258_9 (by decide) ?_
    refine rn_ic (v := 2) d_258_10 (by decide) ?_
    refine rr_ps (as := [.int (nI 2), .int (nI 0), .int (nI 2)]) (al0 := [some (.int (nI 2)), some (.int (nI 0)), some (.int (nI 2))]) (r := []) d_258_11 mo_258 ml_106 mz_179 rfl rfl rfl (Nat.le_of_ble_eq_true rfl) (s_lies (nI 2) (nI 0) (nI 2)) ?_
    show RR _ _ 14 [some (.ref 146), some (.int (nI j)), some (.int (nI 2)), some (.int (nI i))] [.int (bI ((nI 0) ≤ (nI 2) ∧ (nI 2) ≤ (nI 2)))] g A _
    refine rr_beq (t := 38) d_258_14 (by decide) (fun c14 => ?_) (fun c14 => ?_)
    · exact absurd (show nI 0 ≤ nI 2 ∧ nI 2 ≤ nI 2 by decide) c14
    · refine rr_nx (pc' := 18) (al' := [some (.ref 146), some (.int (nI j)), some (.int (nI 2)), some (.int (nI i))]) (st' := [.int (nI i)]) d_258_17 (fun _ => rfl) ?_
      refine rn_ic (v := 0) d_258_18 (by decide) ?_
      refine rr_nx (pc' := 20) (al' := [some (.ref 146), some (.int (nI j)), some (.int (nI 2)), some (.int (nI i))]) (st' := [.ref 146, .int (nI 0), .int (nI i)]) d_258_19 (fun _ => rfl) ?_
      refine rr_nx (pc' := 21) (al' := [some (.ref 146), some (.int (nI j)), some (.int (nI 2)), some (.int (nI i))]) (st' := [.int (nI j), .ref 146, .int (nI 0), .int (nI i)]) d_258_20 (fun _ => rfl) ?_
      refine rr_pv (as := [.int (nI j)]) (al0 := [some (.ref 146), some (.int (nI j))]) (r := [.int (nI 0), .int (nI i)]) d_258_21 mo_258 ml_121 mz_186 rfl rfl rfl (Nat.le_of_ble_eq_true rfl) (s_ordN hj hk) ?_
      show RR _ _ 24 [some (.ref 146), some (.int (nI j)), some (.int (nI 2)), some (.int (nI i))] [.int (nI m), .int (nI 0), .int (nI i)] g A _
      refine rr_nx (pc' := 25) (al' := [some (.ref 146), some (.int (nI j)), some (.int (nI 2)), some (.int (nI i))]) (st' := [.ref 146, .int (nI m), .int (nI 0), .int (nI i)]) d_258_24 (fun _ => rfl) ?_
      refine rr_nx (pc' := 26) (al' := [some (.ref 146), some (.int (nI j)), some (.int (nI 2)), some (.int (nI i))]) (st' := [.int (nI j), .ref 146, .int (nI m), .int (nI 0), .int (nI i)]) d_258_25 (fun _ => rfl) ?_
      refine rr_pv (as := [.int (nI j)]) (al0 := [some (.ref 146), some (.int (nI j))]) (r := [.int (nI m), .int (nI 0), .int (nI i)]) d_258_26 mo_258 ml_121 mz_186 rfl rfl rfl (Nat.le_of_ble_eq_true rfl) (s_ordN hj hk) ?_
      show RR _ _ 29 [some (.ref 146), some (.int (nI j)), some (.int (nI 2)), some (.int (nI i))] [.int (nI m), .int (nI m), .int (nI 0), .int (nI i)] g A _
      refine rn_mul d_258_29  ?_
      refine rn_ic (v := 1) d_258_30 (by decide) ?_
      refine rn_sub d_258_31 hpos ?_
      refine rr_ps (as := [.int (nI i), .int (nI 0), .int (nI ((m * m) - 1))]) (al0 := [some (.int (nI i)), some (.int (nI 0)), some (.int (nI ((m * m) - 1)))]) (r := []) d_258_32 mo_258 ml_106 mz_179 rfl rfl rfl (Nat.le_of_ble_eq_true rfl) (s_lies (nI i) (nI 0) (nI ((m * m) - 1))) ?_
      show RR _ _ 35 [some (.ref 146), some (.int (nI j)), some (.int (nI 2)), some (.int (nI i))] [.int (bI ((nI 0) ≤ (nI i) ∧ (nI i) ≤ (nI ((m * m) - 1))))] g A _
      refine rr_bne (t := 40) d_258_35 (by decide) (fun c35 => ?_) (fun c35 => ?_)
      · refine rr_nx (pc' := 41) (al' := [some (.ref 146), some (.int (nI j)), some (.int (nI 2)), some (.int (nI i))]) (st' := [.ref 146]) d_258_40 (fun _ => rfl) ?_
        refine rr_nx (pc' := 42) (al' := [some (.ref 146), some (.int (nI j)), some (.int (nI 2)), some (.int (nI i))]) (st' := [.int (nI j), .ref 146]) d_258_41 (fun _ => rfl) ?_
        refine rr_nx (pc' := 43) (al' := [some (.ref 146), some (.int (nI j)), some (.int (nI 2)), some (.int (nI i))]) (st' := [.int (nI 2), .int (nI j), .ref 146]) d_258_42 (fun _ => rfl) ?_
        refine rr_cv (as := [.int (nI j), .int (nI 2)]) (al0 := [some (.ref 146), some (.int (nI j)), some (.int (nI 2)), none, none, none, none]) (r := []) d_258_43 mo_258 ml_319 mz_259 rfl rfl rfl (rr_wk (Nat.le_of_ble_eq_true rfl) (s_names2k hj h1 hm6 hl hk hsh.2)) (fun v1 g1 A1 h1x => ?_)
        obtain ⟨q0_, h6_, hg1, ha1, b, hb, hM⟩ := h1x
        obtain rfl := q0_
        show RR _ _ 46 [some (.ref 146), some (.int (nI j)), some (.int (nI 2)), some (.int (nI i))] [] g1 A1 _
        refine rr_nx (pc' := 47) (al' := [some (.ref 146), some (.int (nI j)), some (.int (nI 2)), some (.int (nI i))]) (st' := [.ref 146]) d_258_46 (fun _ => rfl) ?_
        refine rr_gf (v := .ref (147 + 19)) d_258_47 mo_258 fl_73 rfl ?_
        refine rr_nx (pc' := 51) (al' := [some (.ref 146), some (.int (nI j)), some (.int (nI 2)), some (.int (nI i))]) (st' := [.int (nI i), .ref (147 + 19)]) d_258_50 (fun _ => rfl) ?_
        refine rr_ia (j := 19) (v := (nI (nmB 2 m c i))) d_258_51 (by decide) rfl (by decide) (show i < 36 by omega) ((hb i hi).1.trans (by rw [nmb_e hM i hi])) ?_
        exact rr_ri d_258_52 mr_258 rfl ⟨rfl, (hW.q hg1 ha1.k).mo⟩
      · exact absurd ((el_r (m := m * m) hpos (by omega)).mpr ((in_j (by omega)).mpr hi)) c35
theorem p_nameI {S : CS} {G : Nat → Nat → Value} {B : Nat → Nat → Int32} {J : Nat → Nat → Int64} {R : Nat → Nat → Option Nat} {n : Nat} {W : WS} (hW : WC n S G B R W) {j m : Nat} {c : Nat → Nat} (hj : j < 6) (htb : tbK (wK W) j = (m, c)) (h1 : 1 ≤ m) {k : Nat} (hk3 : k < 3) {u : Int32} (hu : ¬ inP u (m * m)) : CR 80 155 0 [some (.ref 2), some (.int (nI j)), some (.int (nI k)), some (.int u), none] [] S G B J R (fun r__ S' G' B' J' R' => r__ = some (.int (-1)) ∧ WC (n + 1) S' G' B' R' W) := by
  have hS := hW.1.1
  have hF := hW.2.1
  have hO := hW.2.2.2.1
  obtain ⟨ta, ka, la, hH, hLk, hl2, hs3, hbd⟩ := hW.2.2.1
  obtain ⟨zt, hzt, ezt⟩ := (hH.2.1 j hj).2
  have ht := hH.ta hj
  have hsh := hH.2.2.2.2.2.2.1 j hj
  rw [show kH (wK W) (kD (wK W)) j = (m, c) from htb] at hsh
  have hok := tb_ok hO hj
  rw [htb] at hok
  have hn : G (ta j) 0 = .int (nI m) := hsh.1
  have hc : TabC B (ta j) m c := hsh.c hok
  have hl : Lat m c := hok.2
  have hm6 : m ≤ 6 := hok.1
  have hyes : hasP (wK W) (nI j) := (has_i hj).mpr (by rw [htb]; exact h1)
  have h36 := Nat.mul_le_mul hm6 hm6
  have hpos : 0 < m * m := Nat.mul_pos h1 h1
  refine cr_nx (pc' := 1) (al' := [some (.ref 2), some (.int (nI j)), some (.int (nI k)), some (.int u), none]) (st' := [.ref 2]) d_155_0 (fun _ => rfl) ?_
  refine cr_nx (pc' := 2) (al' := [some (.ref 2), some (.int (nI j)), some (.int (nI k)), some (.int u), none]) (st' := [.int (nI j), .ref 2]) d_155_1 (fun _ => rfl) ?_
  refine cr_pv (b := 2) (as := [.int (nI j)]) (al0 := [some (.ref 2), some (.int (nI j))]) (r := []) d_155_2 cw_155 cm_11_137 cz_126 rfl rfl (hS.i (a := 2) (by decide) (by decide)) (by rw [cw_126]; exact (hS.s (a := 2) (by decide) (by decide) rfl)) (by rw [cw_126]; decide) rfl (Nat.le_of_ble_eq_true rfl) (k_has hS hF hH hO) ?_
  show CR _ _ 5 [some (.ref 2), some (.int (nI j)), some (.int (nI k)), some (.int u), none] [.int (bI (hasP (wK W) (nI j)))] S G B J R _
  refine cr_beq (t := 15) d_155_5 (by decide) (fun c5 => ?_) (fun c5 => ?_)
  · exact absurd hyes c5
  · refine cr_nx (pc' := 9) (al' := [some (.ref 2), some (.int (nI j)), some (.int (nI k)), some (.int u), none]) (st' := [.int (nI k)]) d_155_8 (fun _ => rfl) ?_
    refine cr_ps (as := [.int (nI k)]) (al0 := [some (.int (nI k))]) (r := []) d_155_9 cw_155 cm_11_302 (by decide) cz_156 rfl rfl rfl (Nat.le_of_ble_eq_true rfl) (k_isLikeness) ?_
    show CR _ _ 12 [some (.ref 2), some (.int (nI j)), some (.int (nI k)), some (.int u), none] [.int (bI (inP (nI k) 3))] S G B J R _
    refine cr_bne (t := 17) d_155_12 (by decide) (fun c12 => ?_) (fun c12 => ?_)
    · refine cr_nx (pc' := 18) (al' := [some (.ref 2), some (.int (nI j)), some (.int (nI k)), some (.int u), none]) (st' := [.ref 2]) d_155_17 (fun _ => rfl) ?_
      refine cr_gf (v := .ref 3) d_155_18 cw_155 cf_11_10 (hS.i (a := 2) (by decide) (by decide)) (hS.s (a := 2) (by decide) (by decide) rfl) (by decide) (fx_2_0 hF) ?_
      refine cr_gf (v := .ref 4) d_155_21 cw_155 cf_11_140 (hS.i (a := 3) (by decide) (by decide)) (hS.s (a := 3) (by decide) (by decide) rfl) (by decide) (fx_3_0 hF) ?_
      refine cr_nx (pc' := 25) (al' := [some (.ref 2), some (.int (nI j)), some (.int (nI k)), some (.int u), none]) (st' := [.int (nI j), .ref 4]) d_155_24 (fun _ => rfl) ?_
      refine cr_aa (a := 4) (v := .ref (ta j)) d_155_25 (hS.i (a := 4) (by decide) (by decide)) (by decide) (hS.s (a := 4) (by decide) (by decide) rfl) (by decide) (show j < 6 by first | omega | assumption | exact cu_36 (by omega) (cu_lt (by omega) (by omega))) (show va_rf _ = _ by rw [(hH.2.1 j hj).1]; rfl) ?_
      refine cr_nx (pc' := 28) (al' := [some (.ref 2), some (.int (nI j)), some (.int (nI k)), some (.int u), some (.ref (ta j))]) (st' := []) d_155_26 (fun _ => rfl) ?_
      refine cr_nx (pc' := 29) (al' := [some (.ref 2), some (.int (nI j)), some (.int (nI k)), some (.int u), some (.ref (ta j))]) (st' := [.int u]) d_155_28 (fun _ => rfl) ?_
      refine cr_ilt (t := 47) d_155_29 (by decide) (fun c29 => ?_) (fun c29 => ?_)
      · refine cr_nx (pc' := 48) (al' := [some (.ref 2), some (.int (nI j)), some (.int (nI k)), some (.int u), some (.ref (ta j))]) (st' := [.int (-1)]) d_155_47 (fun _ => rfl) ?_
        exact cr_ri d_155_48 cx_155 rfl ⟨rfl, hW.mo⟩
      · refine cr_nx (pc' := 33) (al' := [some (.ref 2), some (.int (nI j)), some (.int (nI k)), some (.int u), some (.ref (ta j))]) (st' := [.int u]) d_155_32 (fun _ => rfl) ?_
        refine cr_nx (pc' := 35) (al' := [some (.ref 2), some (.int (nI j)), some (.int (nI k)), some (.int u), some (.ref (ta j))]) (st' := [.ref (ta j), .int u]) d_155_33 (fun _ => rfl) ?_
        refine cr_gf (v := .int (nI m)) d_155_35 cw_155 cf_11_112 ht.1 ht.2.2.1 (by decide) hn ?_
        refine cr_nx (pc' := 40) (al' := [some (.ref 2), some (.int (nI j)), some (.int (nI k)), some (.int u), some (.ref (ta j))]) (st' := [.ref (ta j), .int (nI m), .int u]) d_155_38 (fun _ => rfl) ?_
        refine cr_gf (v := .int (nI m)) d_155_40 cw_155 cf_11_112 ht.1 ht.2.2.1 (by decide) hn ?_
        refine cn_mul d_155_43  ?_
        refine cr_clt (t := 49) d_155_44 (by decide) (fun c44 => ?_) (fun c44 => ?_)
        · exact absurd ⟨by rw [i_lt0] at c29; omega, (i_ltN (by omega)).mp c44⟩ hu
        · refine cr_nx (pc' := 48) (al' := [some (.ref 2), some (.int (nI j)), some (.int (nI k)), some (.int u), some (.ref (ta j))]) (st' := [.int (-1)]) d_155_47 (fun _ => rfl) ?_
          exact cr_ri d_155_48 cx_155 rfl ⟨rfl, hW.mo⟩
    · exact absurd ((in_j (by omega)).mpr hk3) c12
theorem r_nameI {g : Nat → Int32} {A : Nat → Nat → Int32} {n : Nat} {W : WS} (hW : WR n g A W) (hO : CoOk (wK W)) {j m : Nat} {c : Nat → Nat} (hj : j < 6) (htb : tbK (wK W) j = (m, c)) (h1 : 1 ≤ m) {k : Nat} (hk3 : k < 3) {u : Int32} (hu : ¬ inP u (m * m)) : RR 80 258 0 [some (.ref 146), some (.int (nI j)), some (.int (nI k)), some (.int u)] [] g A (fun r__ g' A' => r__ = some (.int (-1)) ∧ WR (n + 1) g' A' W) := by
  have hsh := hW.1.1.1 j hj
  rw [show kH (wK W) (kD (wK W)) j = (m, c) from htb] at hsh
  have hok := tb_ok hO hj
  rw [htb] at hok
  have hk : A 1 (37 * j) = nI m := hsh.1
  have hl : Lat m c := hok.2
  have hm6 : m ≤ 6 := hok.1
  have hyes : isT A (nI j) := (has_r hW hO).mpr ((has_i hj).mpr (by rw [htb]; exact h1))
  have h36 := Nat.mul_le_mul hm6 hm6
  have hpos : 0 < m * m := Nat.mul_pos h1 h1
  refine rr_nx (pc' := 1) (al' := [some (.ref 146), some (.int (nI j)), some (.int (nI k)), some (.int u)]) (st' := [.ref 146]) d_258_0 (fun _ => rfl) ?_
  refine rr_nx (pc' := 2) (al' := [some (.ref 146), some (.int (nI j)), some (.int (nI k)), some (.int u)]) (st' := [.int (nI j), .ref 146]) d_258_1 (fun _ => rfl) ?_
  refine rr_pv (as := [.int (nI j)]) (al0 := [some (.ref 146), some (.int (nI j))]) (r := []) d_258_2 mo_258 ml_124 mz_184 rfl rfl rfl (Nat.le_of_ble_eq_true rfl) (s_isTable (nI j)) ?_
  show RR _ _ 5 [some (.ref 146), some (.int (nI j)), some (.int (nI k)), some (.int u)] [.int (bI (isT A (nI j)))] g A _
  refine rr_beq (t := 38) d_258_5 (by decide) (fun c5 => ?_) (fun c5 => ?_)
  · exact absurd hyes c5
  · refine rr_nx (pc' := 9) (al' := [some (.ref 146), some (.int (nI j)), some (.int (nI k)), some (.int u)]) (st' := [.int (nI k)]) d_258_8 (fun _ => rfl) ?_
    refine rn_ic (v := 0) d_258_9 (by decide) ?_
    refine rn_ic (v := 2) d_258_10 (by decide) ?_
    refine rr_ps (as := [.int (nI k), .int (nI 0), .int (nI 2)]) (al0 := [some (.int (nI k)), some (.int (nI 0)), some (.int (nI 2))]) (r := []) d_258_11 mo_258 ml_106 mz_179 rfl rfl rfl (Nat.le_of_ble_eq_true rfl) (s_lies (nI k) (nI 0) (nI 2)) ?_
    show RR _ _ 14 [some (.ref 146), some (.int (nI j)), some (.int (nI k)), some (.int u)] [.int (bI ((nI 0) ≤ (nI k) ∧ (nI k) ≤ (nI 2)))] g A _
    refine rr_beq (t := 38) d_258_14 (by decide) (fun c14 => ?_) (fun c14 => ?_)
    · exact absurd (ia_natI (by decide) (show k ≤ 2 by omega)) c14
    · refine rr_nx (pc' := 18) (al' := [some (.ref 146), some (.int (nI j)), some (.int (nI k)), some (.int u)]) (st' := [.int u]) d_258_17 (fun _ => rfl) ?_
      refine rn_ic (v := 0) d_258_18 (by decide) ?_
      refine rr_nx (pc' := 20) (al' := [some (.ref 146), some (.int (nI j)), some (.int (nI k)), some (.int u)]) (st' := [.ref 146, .int (nI 0), .int u]) d_258_19 (fun _ => rfl) ?_
      refine rr_nx (pc' := 21) (al' := [some (.ref 146), some (.int (nI j)), some (.int (nI k)), some (.int u)]) (st' := [.int (nI j), .ref 146, .int (nI 0), .int u]) d_258_20 (fun _ => rfl) ?_
      refine rr_pv (as := [.int (nI j)]) (al0 := [some (.ref 146), some (.int (nI j))]) (r := [.int (nI 0), .int u]) d_258_21 mo_258 ml_121 mz_186 rfl rfl rfl (Nat.le_of_ble_eq_true rfl) (s_ordN hj hk) ?_
      show RR _ _ 24 [some (.ref 146), some (.int (nI j)), some (.int (nI k)), some (.int u)] [.int (nI m), .int (nI 0), .int u] g A _
      refine rr_nx (pc' := 25) (al' := [some (.ref 146), some (.int (nI j)), some (.int (nI k)), some (.int u)]) (st' := [.ref 146, .int (nI m), .int (nI 0), .int u]) d_258_24 (fun _ => rfl) ?_
      refine rr_nx (pc' := 26) (al' := [some (.ref 146), some (.int (nI j)), some (.int (nI k)), some (.int u)]) (st' := [.int (nI j), .ref 146, .int (nI m), .int (nI 0), .int u]) d_258_25 (fun _ => rfl) ?_
      refine rr_pv (as := [.int (nI j)]) (al0 := [some (.ref 146), some (.int (nI j))]) (r := [.int (nI m), .int (nI 0), .int u]) d_258_26 mo_258 ml_121 mz_186 rfl rfl rfl (Nat.le_of_ble_eq_true rfl) (s_ordN hj hk) ?_
      show RR _ _ 29 [some (.ref 146), some (.int (nI j)), some (.int (nI k)), some (.int u)] [.int (nI m), .int (nI m), .int (nI 0), .int u] g A _
      refine rn_mul d_258_29  ?_
      refine rn_ic (v := 1) d_258_30 (by decide) ?_
      refine rn_sub d_258_31 hpos ?_
      refine rr_ps (as := [.int u, .int (nI 0), .int (nI ((m * m) - 1))]) (al0 := [some (.int u), some (.int (nI 0)), some (.int (nI ((m * m) - 1)))]) (r := []) d_258_32 mo_258 ml_106 mz_179 rfl rfl rfl (Nat.le_of_ble_eq_true rfl) (s_lies u (nI 0) (nI ((m * m) - 1))) ?_
      show RR _ _ 35 [some (.ref 146), some (.int (nI j)), some (.int (nI k)), some (.int u)] [.int (bI ((nI 0) ≤ u ∧ u ≤ (nI ((m * m) - 1))))] g A _
      refine rr_bne (t := 40) d_258_35 (by decide) (fun c35 => ?_) (fun c35 => ?_)
      · exact absurd c35 (fun e_ => hu ((el_r (m := m * m) hpos (by omega)).mp e_))
      · refine rr_nx (pc' := 39) (al' := [some (.ref 146), some (.int (nI j)), some (.int (nI k)), some (.int u)]) (st' := [.int (-1)]) d_258_38 (fun _ => rfl) ?_
        exact rr_ri d_258_39 mr_258 rfl ⟨rfl, hW.mo⟩
theorem p_nameX {S : CS} {G : Nat → Nat → Value} {B : Nat → Nat → Int32} {J : Nat → Nat → Int64} {R : Nat → Nat → Option Nat} {n : Nat} {W : WS} (hW : WC n S G B R W) {j m : Nat} {c : Nat → Nat} (hj : j < 6) (htb : tbK (wK W) j = (m, c)) (h1 : 1 ≤ m) {w : Int32} (hw : ¬ inP w 3) {u : Int32} : CR 80 155 0 [some (.ref 2), some (.int (nI j)), some (.int w), some (.int u), none] [] S G B J R (fun r__ S' G' B' J' R' => r__ = some (.int (-1)) ∧ WC (n + 1) S' G' B' R' W) := by
  have hS := hW.1.1
  have hF := hW.2.1
  have hO := hW.2.2.2.1
  obtain ⟨ta, ka, la, hH, hLk, hl2, hs3, hbd⟩ := hW.2.2.1
  obtain ⟨zt, hzt, ezt⟩ := (hH.2.1 j hj).2
  have ht := hH.ta hj
  have hsh := hH.2.2.2.2.2.2.1 j hj
  rw [show kH (wK W) (kD (wK W)) j = (m, c) from htb] at hsh
  have hok := tb_ok hO hj
  rw [htb] at hok
  have hn : G (ta j) 0 = .int (nI m) := hsh.1
  have hc : TabC B (ta j) m c := hsh.c hok
  have hl : Lat m c := hok.2
  have hm6 : m ≤ 6 := hok.1
  have hyes : hasP (wK W) (nI j) := (has_i hj).mpr (by rw [htb]; exact h1)
  refine cr_nx (pc' := 1) (al' := [some (.ref 2), some (.int (nI j)), some (.int w), some (.int u), none]) (st' := [.ref 2]) d_155_0 (fun _ => rfl) ?_
  refine cr_nx (pc' := 2) (al' := [some (.ref 2), some (.int (nI j)), some (.int w), some (.int u), none]) (st' := [.int (nI j), .ref 2]) d_155_1 (fun _ => rfl) ?_
  refine cr_pv (b := 2) (as := [.int (nI j)]) (al0 := [some (.ref 2), some (.int (nI j))]) (r := []) d_155_2 cw_155 cm_11_137 cz_126 rfl rfl (hS.i (a := 2) (by decide) (by decide)) (by rw [cw_126]; exact (hS.s (a := 2) (by decide) (by decide) rfl)) (by rw [cw_126]; decide) rfl (Nat.le_of_ble_eq_true rfl) (k_has hS hF hH hO) ?_
  show CR _ _ 5 [some (.ref 2), some (.int (nI j)), some (.int w), some (.int u), none] [.int (bI (hasP (wK W) (nI j)))] S G B J R _
  refine cr_beq (t := 15) d_155_5 (by decide) (fun c5 => ?_) (fun c5 => ?_)
  · exact absurd hyes c5
  · refine cr_nx (pc' := 9) (al' := [some (.ref 2), some (.int (nI j)), some (.int w), some (.int u), none]) (st' := [.int w]) d_155_8 (fun _ => rfl) ?_
    refine cr_ps (as := [.int w]) (al0 := [some (.int w)]) (r := []) d_155_9 cw_155 cm_11_302 (by decide) cz_156 rfl rfl rfl (Nat.le_of_ble_eq_true rfl) (k_isLikeness) ?_
    show CR _ _ 12 [some (.ref 2), some (.int (nI j)), some (.int w), some (.int u), none] [.int (bI (inP w 3))] S G B J R _
    refine cr_bne (t := 17) d_155_12 (by decide) (fun c12 => ?_) (fun c12 => ?_)
    · exact absurd c12 hw
    · refine cr_nx (pc' := 16) (al' := [some (.ref 2), some (.int (nI j)), some (.int w), some (.int u), none]) (st' := [.int (-1)]) d_155_15 (fun _ => rfl) ?_
      exact cr_ri d_155_16 cx_155 rfl ⟨rfl, hW.mo⟩
theorem r_nameX {g : Nat → Int32} {A : Nat → Nat → Int32} {n : Nat} {W : WS} (hW : WR n g A W) (hO : CoOk (wK W)) {j m : Nat} {c : Nat → Nat} (hj : j < 6) (htb : tbK (wK W) j = (m, c)) (h1 : 1 ≤ m) {w : Int32} (hw : ¬ inP w 3) {u : Int32} : RR 80 258 0 [some (.ref 146), some (.int (nI j)), some (.int w), some (.int u)] [] g A (fun r__ g' A' => r__ = some (.int (-1)) ∧ WR (n + 1) g' A' W) := by
  have hsh := hW.1.1.1 j hj
  rw [show kH (wK W) (kD (wK W)) j = (m, c) from htb] at hsh
  have hok := tb_ok hO hj
  rw [htb] at hok
  have hk : A 1 (37 * j) = nI m := hsh.1
  have hl : Lat m c := hok.2
  have hm6 : m ≤ 6 := hok.1
  have hyes : isT A (nI j) := (has_r hW hO).mpr ((has_i hj).mpr (by rw [htb]; exact h1))
  refine rr_nx (pc' := 1) (al' := [some (.ref 146), some (.int (nI j)), some (.int w), some (.int u)]) (st' := [.ref 146]) d_258_0 (fun _ => rfl) ?_
  refine rr_nx (pc' := 2) (al' := [some (.ref 146), some (.int (nI j)), some (.int w), some (.int u)]) (st' := [.int (nI j), .ref 146]) d_258_1 (fun _ => rfl) ?_
  refine rr_pv (as := [.int (nI j)]) (al0 := [some (.ref 146), some (.int (nI j))]) (r := []) d_258_2 mo_258 ml_124 mz_184 rfl rfl rfl (Nat.le_of_ble_eq_true rfl) (s_isTable (nI j)) ?_
  show RR _ _ 5 [some (.ref 146), some (.int (nI j)), some (.int w), some (.int u)] [.int (bI (isT A (nI j)))] g A _
  refine rr_beq (t := 38) d_258_5 (by decide) (fun c5 => ?_) (fun c5 => ?_)
  · exact absurd hyes c5
  · refine rr_nx (pc' := 9) (al' := [some (.ref 146), some (.int (nI j)), some (.int w), some (.int u)]) (st' := [.int w]) d_258_8 (fun _ => rfl) ?_
    refine rn_ic (v := 0) d_258_9 (by decide) ?_
    refine rn_ic (v := 2) d_258_10 (by decide) ?_
    refine rr_ps (as := [.int w, .int (nI 0), .int (nI 2)]) (al0 := [some (.int w), some (.int (nI 0)), some (.int (nI 2))]) (r := []) d_258_11 mo_258 ml_106 mz_179 rfl rfl rfl (Nat.le_of_ble_eq_true rfl) (s_lies w (nI 0) (nI 2)) ?_
    show RR _ _ 14 [some (.ref 146), some (.int (nI j)), some (.int w), some (.int u)] [.int (bI ((nI 0) ≤ w ∧ w ≤ (nI 2)))] g A _
    refine rr_beq (t := 38) d_258_14 (by decide) (fun c14 => ?_) (fun c14 => ?_)
    · refine rr_nx (pc' := 39) (al' := [some (.ref 146), some (.int (nI j)), some (.int w), some (.int u)]) (st' := [.int (-1)]) d_258_38 (fun _ => rfl) ?_
      exact rr_ri d_258_39 mr_258 rfl ⟨rfl, hW.mo⟩
    · exact absurd c14 (fun e_ => hw ((in_r (m := 2) (by decide)).mp e_))
theorem p_name_n {S : CS} {G : Nat → Nat → Value} {B : Nat → Nat → Int32} {J : Nat → Nat → Int64} {R : Nat → Nat → Option Nat} {n : Nat} {W : WS} (hW : WC n S G B R W) {t : Int32} (hh : ¬ hasP (wK W) t) {w u : Int32} : CR 80 155 0 [some (.ref 2), some (.int t), some (.int w), some (.int u), none] [] S G B J R (fun r__ S' G' B' J' R' => r__ = some (.int (-1)) ∧ WC (n + 1) S' G' B' R' W) := by
  have hS := hW.1.1
  have hF := hW.2.1
  have hO := hW.2.2.2.1
  obtain ⟨ta, ka, la, hH, hLk, hl2, hs3, hbd⟩ := hW.2.2.1
  refine cr_nx (pc' := 1) (al' := [some (.ref 2), some (.int t), some (.int w), some (.int u), none]) (st' := [.ref 2]) d_155_0 (fun _ => rfl) ?_
  refine cr_nx (pc' := 2) (al' := [some (.ref 2), some (.int t), some (.int w), some (.int u), none]) (st' := [.int t, .ref 2]) d_155_1 (fun _ => rfl) ?_
  refine cr_pv (b := 2) (as := [.int t]) (al0 := [some (.ref 2), some (.int t)]) (r := []) d_155_2 cw_155 cm_11_137 cz_126 rfl rfl (hS.i (a := 2) (by decide) (by decide)) (by rw [cw_126]; exact (hS.s (a := 2) (by decide) (by decide) rfl)) (by rw [cw_126]; decide) rfl (Nat.le_of_ble_eq_true rfl) (k_has hS hF hH hO) ?_
  show CR _ _ 5 [some (.ref 2), some (.int t), some (.int w), some (.int u), none] [.int (bI (hasP (wK W) t))] S G B J R _
  refine cr_beq (t := 15) d_155_5 (by decide) (fun c5 => ?_) (fun c5 => ?_)
  · refine cr_nx (pc' := 16) (al' := [some (.ref 2), some (.int t), some (.int w), some (.int u), none]) (st' := [.int (-1)]) d_155_15 (fun _ => rfl) ?_
    exact cr_ri d_155_16 cx_155 rfl ⟨rfl, hW.mo⟩
  · exact absurd c5 hh
theorem r_name_n {g : Nat → Int32} {A : Nat → Nat → Int32} {n : Nat} {W : WS} (hW : WR n g A W) (hO : CoOk (wK W)) {t : Int32} (hh : ¬ hasP (wK W) t) {w u : Int32} : RR 80 258 0 [some (.ref 146), some (.int t), some (.int w), some (.int u)] [] g A (fun r__ g' A' => r__ = some (.int (-1)) ∧ WR (n + 1) g' A' W) := by
  refine rr_nx (pc' := 1) (al' := [some (.ref 146), some (.int t), some (.int w), some (.int u)]) (st' := [.ref 146]) d_258_0 (fun _ => rfl) ?_
  refine rr_nx (pc' := 2) (al' := [some (.ref 146), some (.int t), some (.int w), some (.int u)]) (st' := [.int t, .ref 146]) d_258_1 (fun _ => rfl) ?_
  refine rr_pv (as := [.int t]) (al0 := [some (.ref 146), some (.int t)]) (r := []) d_258_2 mo_258 ml_124 mz_184 rfl rfl rfl (Nat.le_of_ble_eq_true rfl) (s_isTable t) ?_
  show RR _ _ 5 [some (.ref 146), some (.int t), some (.int w), some (.int u)] [.int (bI (isT A t))] g A _
  refine rr_beq (t := 38) d_258_5 (by decide) (fun c5 => ?_) (fun c5 => ?_)
  · refine rr_nx (pc' := 39) (al' := [some (.ref 146), some (.int t), some (.int w), some (.int u)]) (st' := [.int (-1)]) d_258_38 (fun _ => rfl) ?_
    exact rr_ri d_258_39 mr_258 rfl ⟨rfl, hW.mo⟩
  · exact absurd c5 (fun e_ => hh ((has_r hW hO).mp e_))
theorem T_name {S : CS} {G : Nat → Nat → Value} {B : Nat → Nat → Int32} {J : Nat → Nat → Int64} {R : Nat → Nat → Option Nat} {g : Nat → Int32} {A : Nat → Nat → Int32} {n : Nat} {W : WS} (hC : WC n S G B R W) (hR : WR n g A W) (hn : n ≤ 10000) {t : Int32} {w : Int32} {u : Int32} : Tie n 155 258 [some (.ref 2), some (.int t), some (.int w), some (.int u), none] [some (.ref 146), some (.int t), some (.int w), some (.int u)] S G B J R g A W := by
  have hO := hC.2.2.2.1
  by_cases hh : hasP (wK W) t
  · obtain ⟨j, hj, e_, h1⟩ := has_n hh
    subst e_
    obtain ⟨⟨m, c⟩, htb⟩ : ∃ tb, tbK (wK W) j = tb := ⟨_, rfl⟩
    rw [htb] at h1
    by_cases hw : inP w 3
    · by_cases hu : inP u (m * m)
      · obtain ⟨i, hi, e_⟩ := in_n hu
        subst e_
        obtain ⟨k, hk, e_⟩ := in_n hw
        subst e_
        have hk2 : k = 0 ∨ k = 1 ∨ k = 2 := by omega
        rcases hk2 with rfl | rfl | rfl
        · exact ⟨_, W, p_name0 hC hj htb h1 hi, r_name0 hR hO hj htb h1 hi⟩
        · exact ⟨_, W, p_name1 hC hj htb h1 hi, r_name1 hR hO hj htb h1 hi⟩
        · exact ⟨_, W, p_name2 hC hj htb h1 hi, r_name2 hR hO hj htb h1 hi⟩
      · obtain ⟨k, hk, e_⟩ := in_n hw
        subst e_
        exact ⟨_, W, p_nameI hC hj htb h1 hk hu, r_nameI hR hO hj htb h1 hk hu⟩
    · exact ⟨_, W, p_nameX hC hj htb h1 hw, r_nameX hR hO hj htb h1 hw⟩
  · exact ⟨_, W, p_name_n hC hh, r_name_n hR hO hh⟩
theorem p_alike0 {S : CS} {G : Nat → Nat → Value} {B : Nat → Nat → Int32} {J : Nat → Nat → Int64} {R : Nat → Nat → Option Nat} {n : Nat} {W : WS} (hW : WC n S G B R W) {j m j2 m2 : Nat} {c c2 : Nat → Nat} (hj : j < 6) (htb : tbK (wK W) j = (m, c)) (h1 : 1 ≤ m) (hj2 : j2 < 6) (htb2 : tbK (wK W) j2 = (m2, c2)) (h12 : 1 ≤ m2) (hmm : m = m2) : CR 80 158 0 [some (.ref 2), some (.int (nI j)), some (.int (nI j2)), some (.int (nI 0)), none, none] [] S G B J R (fun r__ S' G' B' J' R' => r__ = some (.int (nI (if dfN (m * m) (nmB 0 m c) (nmB 0 m c2) = 0 then 1 else 0))) ∧ WC (n + 1) S' G' B' R' W) := by
  have hS := hW.1.1
  have hF := hW.2.1
  have hO := hW.2.2.2.1
  obtain ⟨ta, ka, la, hH, hLk, hl2, hs3, hbd⟩ := hW.2.2.1
  obtain ⟨zt, hzt, ezt⟩ := (hH.2.1 j hj).2
  have ht := hH.ta hj
  have hsh := hH.2.2.2.2.2.2.1 j hj
  rw [show kH (wK W) (kD (wK W)) j = (m, c) from htb] at hsh
  have hok := tb_ok hO hj
  rw [htb] at hok
  have hn : G (ta j) 0 = .int (nI m) := hsh.1
  have hc : TabC B (ta j) m c := hsh.c hok
  have hl : Lat m c := hok.2
  have hm6 : m ≤ 6 := hok.1
  have hyes : hasP (wK W) (nI j) := (has_i hj).mpr (by rw [htb]; exact h1)
  obtain ⟨zt2, hzt2, ezt2⟩ := (hH.2.1 j2 hj2).2
  have ht2 := hH.ta hj2
  have hsh2 := hH.2.2.2.2.2.2.1 j2 hj2
  rw [show kH (wK W) (kD (wK W)) j2 = (m2, c2) from htb2] at hsh2
  have hok2 := tb_ok hO hj2
  rw [htb2] at hok2
  have hn2 : G (ta j2) 0 = .int (nI m2) := hsh2.1
  have hc2 : TabC B (ta j2) m2 c2 := hsh2.c hok2
  have hl2 : Lat m2 c2 := hok2.2
  have hm62 : m2 ≤ 6 := hok2.1
  have hyes2 : hasP (wK W) (nI j2) := (has_i hj2).mpr (by rw [htb2]; exact h12)
  refine cr_nx (pc' := 1) (al' := [some (.ref 2), some (.int (nI j)), some (.int (nI j2)), some (.int (nI 0)), none, none]) (st' := [.ref 2]) d_158_0 (fun _ => rfl) ?_
  refine cr_nx (pc' := 2) (al' := [some (.ref 2), some (.int (nI j)), some (.int (nI j2)), some (.int (nI 0)), none, none]) (st' := [.int (nI j), .ref 2]) d_158_1 (fun _ => rfl) ?_
  refine cr_pv (b := 2) (as := [.int (nI j)]) (al0 := [some (.ref 2), some (.int (nI j))]) (r := []) d_158_2 cw_158 cm_11_137 cz_126 rfl rfl (hS.i (a := 2) (by decide) (by decide)) (by rw [cw_126]; exact (hS.s (a := 2) (by decide) (by decide) rfl)) (by rw [cw_126]; decide) rfl (Nat.le_of_ble_eq_true rfl) (k_has hS hF hH hO) ?_
  show CR _ _ 5 [some (.ref 2), some (.int (nI j)), some (.int (nI j2)), some (.int (nI 0)), none, none] [.int (bI (hasP (wK W) (nI j)))] S G B J R _
  refine cr_beq (t := 23) d_158_5 (by decide) (fun c5 => ?_) (fun c5 => ?_)
  · exact absurd hyes c5
  · refine cr_nx (pc' := 9) (al' := [some (.ref 2), some (.int (nI j)), some (.int (nI j2)), some (.int (nI 0)), none, none]) (st' := [.ref 2]) d_158_8 (fun _ => rfl) ?_
    refine cr_nx (pc' := 10) (al' := [some (.ref 2), some (.int (nI j)), some (.int (nI j2)), some (.int (nI 0)), none, none]) (st' := [.int (nI j2), .ref 2]) d_158_9 (fun _ => rfl) ?_
    refine cr_pv (b := 2) (as := [.int (nI j2)]) (al0 := [some (.ref 2), some (.int (nI j2))]) (r := []) d_158_10 cw_158 cm_11_137 cz_126 rfl rfl (hS.i (a := 2) (by decide) (by decide)) (by rw [cw_126]; exact (hS.s (a := 2) (by decide) (by decide) rfl)) (by rw [cw_126]; decide) rfl (Nat.le_of_ble_eq_true rfl) (k_has hS hF hH hO) ?_
    show CR _ _ 13 [some (.ref 2), some (.int (nI j)), some (.int (nI j2)), some (.int (nI 0)), none, none] [.int (bI (hasP (wK W) (nI j2)))] S G B J R _
    refine cr_beq (t := 23) d_158_13 (by decide) (fun c13 => ?_) (fun c13 => ?_)
    · exact absurd hyes2 c13
    · refine cr_nx (pc' := 17) (al' := [some (.ref 2), some (.int (nI j)), some (.int (nI j2)), some (.int (nI 0)), none, none]) (st' := [.int (nI 0)]) d_158_16 (fun _ => rfl) ?_
      refine cr_ps (as := [.int (nI 0)]) (al0 := [some (.int (nI 0))]) (r := []) d_158_17 cw_158 cm_11_302 (by decide) cz_156 rfl rfl rfl (Nat.le_of_ble_eq_true rfl) (k_isLikeness) ?_
      show CR _ _ 20 [some (.ref 2), some (.int (nI j)), some (.int (nI j2)), some (.int (nI 0)), none, none] [.int (bI (inP (nI 0) 3))] S G B J R _
      refine cr_bne (t := 25) d_158_20 (by decide) (fun c20 => ?_) (fun c20 => ?_)
      · refine cr_nx (pc' := 26) (al' := [some (.ref 2), some (.int (nI j)), some (.int (nI j2)), some (.int (nI 0)), none, none]) (st' := [.ref 2]) d_158_25 (fun _ => rfl) ?_
        refine cr_gf (v := .ref 3) d_158_26 cw_158 cf_11_10 (hS.i (a := 2) (by decide) (by decide)) (hS.s (a := 2) (by decide) (by decide) rfl) (by decide) (fx_2_0 hF) ?_
        refine cr_gf (v := .ref 4) d_158_29 cw_158 cf_11_140 (hS.i (a := 3) (by decide) (by decide)) (hS.s (a := 3) (by decide) (by decide) rfl) (by decide) (fx_3_0 hF) ?_
        refine cr_nx (pc' := 33) (al' := [some (.ref 2), some (.int (nI j)), some (.int (nI j2)), some (.int (nI 0)), none, none]) (st' := [.int (nI j), .ref 4]) d_158_32 (fun _ => rfl) ?_
        refine cr_aa (a := 4) (v := .ref (ta j)) d_158_33 (hS.i (a := 4) (by decide) (by decide)) (by decide) (hS.s (a := 4) (by decide) (by decide) rfl) (by decide) (show j < 6 by first | omega | assumption | exact cu_36 (by omega) (cu_lt (by omega) (by omega))) (show va_rf _ = _ by rw [(hH.2.1 j hj).1]; rfl) ?_
        refine cr_gf (v := .int (nI m)) d_158_34 cw_158 cf_11_112 ht.1 ht.2.2.1 (by decide) hn ?_
        refine cr_nx (pc' := 38) (al' := [some (.ref 2), some (.int (nI j)), some (.int (nI j2)), some (.int (nI 0)), none, none]) (st' := [.ref 2, .int (nI m)]) d_158_37 (fun _ => rfl) ?_
        refine cr_gf (v := .ref 3) d_158_38 cw_158 cf_11_10 (hS.i (a := 2) (by decide) (by decide)) (hS.s (a := 2) (by decide) (by decide) rfl) (by decide) (fx_2_0 hF) ?_
        refine cr_gf (v := .ref 4) d_158_41 cw_158 cf_11_140 (hS.i (a := 3) (by decide) (by decide)) (hS.s (a := 3) (by decide) (by decide) rfl) (by decide) (fx_3_0 hF) ?_
        refine cr_nx (pc' := 45) (al' := [some (.ref 2), some (.int (nI j)), some (.int (nI j2)), some (.int (nI 0)), none, none]) (st' := [.int (nI j2), .ref 4, .int (nI m)]) d_158_44 (fun _ => rfl) ?_
        refine cr_aa (a := 4) (v := .ref (ta j2)) d_158_45 (hS.i (a := 4) (by decide) (by decide)) (by decide) (hS.s (a := 4) (by decide) (by decide) rfl) (by decide) (show j2 < 6 by first | omega | assumption | exact cu_36 (by omega) (cu_lt (by omega) (by omega))) (show va_rf _ = _ by rw [(hH.2.1 j2 hj2).1]; rfl) ?_
        refine cr_gf (v := .int (nI m2)) d_158_46 cw_158 cf_11_112 ht2.1 ht2.2.2.1 (by decide) hn2 ?_
        refine cn_ceq (t := 54) d_158_49 (by decide) (by first | omega | assumption | exact cu_36 (by omega) (cu_lt (by omega) (by omega))) (by first | omega | assumption | exact cu_36 (by omega) (cu_lt (by omega) (by omega))) (fun c49 => ?_) (fun c49 => ?_)
        · refine cr_nx (pc' := 55) (al' := [some (.ref 2), some (.int (nI j)), some (.int (nI j2)), some (.int (nI 0)), none, none]) (st' := [.ref 2]) d_158_54 (fun _ => rfl) ?_
          refine cr_gf (v := .ref 111) d_158_55 cw_158 cf_11_69 (hS.i (a := 2) (by decide) (by decide)) (hS.s (a := 2) (by decide) (by decide) rfl) (by decide) (fx_2_11 hF) ?_
          refine cr_nx (pc' := 59) (al' := [some (.ref 2), some (.int (nI j)), some (.int (nI j2)), some (.int (nI 0)), none, none]) (st' := [.ref 2, .ref 111]) d_158_58 (fun _ => rfl) ?_
          refine cr_gf (v := .ref 3) d_158_59 cw_158 cf_11_10 (hS.i (a := 2) (by decide) (by decide)) (hS.s (a := 2) (by decide) (by decide) rfl) (by decide) (fx_2_0 hF) ?_
          refine cr_gf (v := .ref 4) d_158_62 cw_158 cf_11_140 (hS.i (a := 3) (by decide) (by decide)) (hS.s (a := 3) (by decide) (by decide) rfl) (by decide) (fx_3_0 hF) ?_
          refine cr_nx (pc' := 66) (al' := [some (.ref 2), some (.int (nI j)), some (.int (nI j2)), some (.int (nI 0)), none, none]) (st' := [.int (nI j), .ref 4, .ref 111]) d_158_65 (fun _ => rfl) ?_
          refine cr_aa (a := 4) (v := .ref (ta j)) d_158_66 (hS.i (a := 4) (by decide) (by decide)) (by decide) (hS.s (a := 4) (by decide) (by decide) rfl) (by decide) (show j < 6 by first | omega | assumption | exact cu_36 (by omega) (cu_lt (by omega) (by omega))) (show va_rf _ = _ by rw [(hH.2.1 j hj).1]; rfl) ?_
          refine cr_nx (pc' := 68) (al' := [some (.ref 2), some (.int (nI j)), some (.int (nI j2)), some (.int (nI 0)), none, none]) (st' := [.int (nI 0), .ref (ta j), .ref 111]) d_158_67 (fun _ => rfl) ?_
          refine cr_cv (b := 111) (as := [.ref (ta j), .int (nI 0)]) (al0 := [some (.ref 111), some (.ref (ta j)), some (.int (nI 0)), none]) (r := []) d_158_68 cw_158 cm_11_305 cz_40 rfl rfl (hS.i (a := 111) (by decide) (by decide)) (by rw [cw_40]; exact (hS.s (a := 111) (by decide) (by decide) rfl)) (by rw [cw_40]; decide) rfl (cr_wk (Nat.le_of_ble_eq_true rfl) (k_nameOf0_111 hS hF ht hn hc hl h1 (by omega) hW.2.2.2.2.2.2.2.2.2.2.1)) (fun v1 S1 G1 B1 J1 R1 h1x => ?_)
          obtain ⟨q0_, q1_, q2_, q3_, hF1, hg1, hb1, hk1, h8_, bb, hbb, hM⟩ := h1x
          obtain rfl := q0_
          obtain rfl := q1_.symm
          obtain rfl := q2_.symm
          obtain rfl := q3_.symm
          have hW1 : WC n S G1 B1 R W := hW.qn hF1 (hg1.mo (by decide)) (hb1.mo (by decide)) hk1 (nm_2 hW.2.2.2.2.2.2.2.2.2.2.2 (hg1 _ (by decide)) (hg1 _ (by decide)) (hg1 _ (by decide)) (hb1 _ (by decide)) (hb1 _ (by decide)))
          show CR _ _ 71 [some (.ref 2), some (.int (nI j)), some (.int (nI j2)), some (.int (nI 0)), none, none] [.ref 114] S G1 B1 J R _
          refine cr_nx (pc' := 73) (al' := [some (.ref 2), some (.int (nI j)), some (.int (nI j2)), some (.int (nI 0)), some (.ref 114), none]) (st' := []) d_158_71 (fun _ => rfl) ?_
          refine cr_nx (pc' := 74) (al' := [some (.ref 2), some (.int (nI j)), some (.int (nI j2)), some (.int (nI 0)), some (.ref 114), none]) (st' := [.ref 2]) d_158_73 (fun _ => rfl) ?_
          refine cr_gf (v := .ref 122) d_158_74 cw_158 cf_11_73 (hS.i (a := 2) (by decide) (by decide)) (hS.s (a := 2) (by decide) (by decide) rfl) (by decide) (fx_2_12 hF1) ?_
          refine cr_nx (pc' := 78) (al' := [some (.ref 2), some (.int (nI j)), some (.int (nI j2)), some (.int (nI 0)), some (.ref 114), none]) (st' := [.ref 2, .ref 122]) d_158_77 (fun _ => rfl) ?_
          refine cr_gf (v := .ref 3) d_158_78 cw_158 cf_11_10 (hS.i (a := 2) (by decide) (by decide)) (hS.s (a := 2) (by decide) (by decide) rfl) (by decide) (fx_2_0 hF1) ?_
          refine cr_gf (v := .ref 4) d_158_81 cw_158 cf_11_140 (hS.i (a := 3) (by decide) (by decide)) (hS.s (a := 3) (by decide) (by decide) rfl) (by decide) (fx_3_0 hF1) ?_
          refine cr_nx (pc' := 85) (al' := [some (.ref 2), some (.int (nI j)), some (.int (nI j2)), some (.int (nI 0)), some (.ref 114), none]) (st' := [.int (nI j2), .ref 4, .ref 122]) d_158_84 (fun _ => rfl) ?_
          refine cr_aa (a := 4) (v := .ref (ta j2)) d_158_85 (hS.i (a := 4) (by decide) (by decide)) (by decide) (hS.s (a := 4) (by decide) (by decide) rfl) (by decide) (show j2 < 6 by first | omega | assumption | exact cu_36 (by omega) (cu_lt (by omega) (by omega))) (show va_rf _ = _ by rw [(hH.2.1 j2 hj2).1]; rfl) ?_
          refine cr_nx (pc' := 87) (al' := [some (.ref 2), some (.int (nI j)), some (.int (nI j2)), some (.int (nI 0)), some (.ref 114), none]) (st' := [.int (nI 0), .ref (ta j2), .ref 122]) d_158_86 (fun _ => rfl) ?_
          have ht2b : TabAt S G1 (ta j2) := hg1.t (by simp; omega) ht2
          have hn2b : G1 (ta j2) 0 = .int (nI m2) := by rw [hg1 _ (by simp; omega)]; exact hn2
          have hc2b : TabC B1 (ta j2) m2 c2 := hb1.c (by simp; omega) hc2
          refine cr_cv (b := 122) (as := [.ref (ta j2), .int (nI 0)]) (al0 := [some (.ref 122), some (.ref (ta j2)), some (.int (nI 0)), none]) (r := []) d_158_87 cw_158 cm_11_305 cz_40 rfl rfl (hS.i (a := 122) (by decide) (by decide)) (by rw [cw_40]; exact (hS.s (a := 122) (by decide) (by decide) rfl)) (by rw [cw_40]; decide) rfl (cr_wk (Nat.le_of_ble_eq_true rfl) (k_nameOf0_122 hS hF1 ht2b hn2b hc2b hl2 h12 (by omega) hW1.2.2.2.2.2.2.2.2.2.2.2)) (fun v2 S2 G2 B2 J2 R2 h2x => ?_)
          obtain ⟨q0_, q1_, q2_, q3_, hF2, hg2, hb2, hk2, h9_, bb2, hbb2, hM2⟩ := h2x
          obtain rfl := q0_
          obtain rfl := q1_.symm
          obtain rfl := q2_.symm
          obtain rfl := q3_.symm
          have hW2 : WC n S G2 B2 R W := hW1.qn hF2 (hg2.mo (by decide)) (hb2.mo (by decide)) (nm_1 hk1 (hg2 _ (by decide)) (hg2 _ (by decide)) (hg2 _ (by decide)) (hb2 _ (by decide)) (hb2 _ (by decide))) hk2
          subst hmm
          show CR _ _ 90 [some (.ref 2), some (.int (nI j)), some (.int (nI j2)), some (.int (nI 0)), some (.ref 114), none] [.ref 125] S G2 B2 J R _
          refine cr_nx (pc' := 92) (al' := [some (.ref 2), some (.int (nI j)), some (.int (nI j2)), some (.int (nI 0)), some (.ref 114), some (.ref 125)]) (st' := []) d_158_90 (fun _ => rfl) ?_
          refine cr_nx (pc' := 94) (al' := [some (.ref 2), some (.int (nI j)), some (.int (nI j2)), some (.int (nI 0)), some (.ref 114), some (.ref 125)]) (st' := [.ref 114]) d_158_92 (fun _ => rfl) ?_
          refine cr_nx (pc' := 96) (al' := [some (.ref 2), some (.int (nI j)), some (.int (nI j2)), some (.int (nI 0)), some (.ref 114), some (.ref 125)]) (st' := [.ref 125, .ref 114]) d_158_94 (fun _ => rfl) ?_
          have t114 : TabC B2 114 m bb := ⟨hm6, fun q hq => ⟨by rw [hb2 _ (by decide)]; exact (hbb q hq).1, (hbb q hq).2⟩⟩
          have t125 : TabC B2 125 m bb2 := ⟨hm6, hbb2⟩
          have hdf : dfN (m * m) bb bb2 = dfN (m * m) (nmB 0 m c) (nmB 0 m c2) := df_cg (nmb_e hM) (nmb_e hM2)
          refine cr_pv (b := 114) (as := [.ref 125]) (al0 := [some (.ref 114), some (.ref 125), none, none]) (r := []) d_158_96 cw_158 cm_11_309 cz_109 rfl rfl (hS.i (a := 114) (by decide) (by decide)) (by rw [cw_109]; exact (hS.s (a := 114) (by decide) (by decide) rfl)) (by rw [cw_109]; decide) rfl (Nat.le_of_ble_eq_true rfl) (k_differences (tb_114 hS hF2) (by rw [hg2 _ (by decide)]; exact h8_) t114 (tb_125 hS hF2) t125) ?_
          show CR _ _ 99 [some (.ref 2), some (.int (nI j)), some (.int (nI j2)), some (.int (nI 0)), some (.ref 114), some (.ref 125)] [.int (nI (dfN (m * m) bb bb2))] S G2 B2 J R _
          refine cn_ine (t := 106) d_158_99 (by decide) (by have := dfN_le (m * m) bb bb2; have := Nat.mul_le_mul hm6 hm6; omega) (fun c99 => ?_) (fun c99 => ?_)
          · refine cn_ic (v := 0) d_158_106 (by decide) ?_
            exact cr_ri d_158_107 cx_158 rfl ⟨by rw [if_neg (fun e_ => by rw [← hdf] at e_; omega)], hW2.mo⟩
          · refine cn_ic (v := 1) d_158_102 (by decide) ?_
            refine cr_nx (pc' := 107) (al' := [some (.ref 2), some (.int (nI j)), some (.int (nI j2)), some (.int (nI 0)), some (.ref 114), some (.ref 125)]) (st' := [.int (nI 1)]) d_158_103 (fun _ => rfl) ?_
            exact cr_ri d_158_107 cx_158 rfl ⟨by rw [if_pos (hdf ▸ c99)], hW2.mo⟩
        · exact absurd hmm c49
      · exact absurd ((in_j (by decide)).mpr (by decide)) c20
theorem r_alike0 {g : Nat → Int32} {A : Nat → Nat → Int32} {n : Nat} {W : WS} (hW : WR n g A W) (hO : CoOk (wK W)) {j m j2 m2 : Nat} {c c2 : Nat → Nat} (hj : j < 6) (htb : tbK (wK W) j = (m, c)) (h1 : 1 ≤ m) (hj2 : j2 < 6) (htb2 : tbK (wK W) j2 = (m2, c2)) (h12 : 1 ≤ m2) (hmm : m = m2) : RR 80 261 0 [some (.ref 146), some (.int (nI j)), some (.int (nI j2)), some (.int (nI 0)), none] [] g A (fun r__ g' A' => r__ = some (.int (nI (if dfN (m * m) (nmB 0 m c) (nmB 0 m c2) = 0 then 1 else 0))) ∧ WR (n + 1) g' A' W) := by
  have hsh := hW.1.1.1 j hj
  rw [show kH (wK W) (kD (wK W)) j = (m, c) from htb] at hsh
  have hok := tb_ok hO hj
  rw [htb] at hok
  have hk : A 1 (37 * j) = nI m := hsh.1
  have hl : Lat m c := hok.2
  have hm6 : m ≤ 6 := hok.1
  have hyes : isT A (nI j) := (has_r hW hO).mpr ((has_i hj).mpr (by rw [htb]; exact h1))
  have hsh2 := hW.1.1.1 j2 hj2
  rw [show kH (wK W) (kD (wK W)) j2 = (m2, c2) from htb2] at hsh2
  have hok2 := tb_ok hO hj2
  rw [htb2] at hok2
  have hk2 : A 1 (37 * j2) = nI m2 := hsh2.1
  have hl2 : Lat m2 c2 := hok2.2
  have hm62 : m2 ≤ 6 := hok2.1
  have hyes2 : isT A (nI j2) := (has_r hW hO).mpr ((has_i hj2).mpr (by rw [htb2]; exact h12))
  have h36 := Nat.mul_le_mul hm6 hm6
  have hpos : 0 < m * m := Nat.mul_pos h1 h1
  refine rr_nx (pc' := 1) (al' := [some (.ref 146), some (.int (nI j)), some (.int (nI j2)), some (.int (nI 0)), none]) (st' := [.ref 146]) d_261_0 (fun _ => rfl) ?_
  refine rr_nx (pc' := 2) (al' := [some (.ref 146), some (.int (nI j)), some (.int (nI j2)), some (.int (nI 0)), none]) (st' := [.int (nI j), .ref 146]) d_261_1 (fun _ => rfl) ?_
  refine rr_pv (as := [.int (nI j)]) (al0 := [some (.ref 146), some (.int (nI j))]) (r := []) d_261_2 mo_261 ml_124 mz_184 rfl rfl rfl (Nat.le_of_ble_eq_true rfl) (s_isTable (nI j)) ?_
  show RR _ _ 5 [some (.ref 146), some (.int (nI j)), some (.int (nI j2)), some (.int (nI 0)), none] [.int (bI (isT A (nI j)))] g A _
  refine rr_beq (t := 25) d_261_5 (by decide) (fun c5 => ?_) (fun c5 => ?_)
  · exact absurd hyes c5
  · refine rr_nx (pc' := 9) (al' := [some (.ref 146), some (.int (nI j)), some (.int (nI j2)), some (.int (nI 0)), none]) (st' := [.ref 146]) d_261_8 (fun _ => rfl) ?_
    refine rr_nx (pc' := 10) (al' := [some (.ref 146), some (.int (nI j)), some (.int (nI j2)), some (.int (nI 0)), none]) (st' := [.int (nI j2), .ref 146]) d_261_9 (fun _ => rfl) ?_
    refine rr_pv (as := [.int (nI j2)]) (al0 := [some (.ref 146), some (.int (nI j2))]) (r := []) d_261_10 mo_261 ml_124 mz_184 rfl rfl rfl (Nat.le_of_ble_eq_true rfl) (s_isTable (nI j2)) ?_
    show RR _ _ 13 [some (.ref 146), some (.int (nI j)), some (.int (nI j2)), some (.int (nI 0)), none] [.int (bI (isT A (nI j2)))] g A _
    refine rr_beq (t := 25) d_261_13 (by decide) (fun c13 => ?_) (fun c13 => ?_)
    · exact absurd hyes2 c13
    · refine rr_nx (pc' := 17) (al' := [some (.ref 146), some (.int (nI j)), some (.int (nI j2)), some (.int (nI 0)), none]) (st' := [.int (nI 0)]) d_261_16 (fun _ => rfl) ?_
      refine rn_ic (v := 0) d_261_17 (by decide) ?_
      refine rn_ic (v := 2) d_261_18 (by decide) ?_
      refine rr_ps (as := [.int (nI 0), .int (nI 0), .int (nI 2)]) (al0 := [some (.int (nI 0)), some (.int (nI 0)), some (.int (nI 2))]) (r := []) d_261_19 mo_261 ml_106 mz_179 rfl rfl rfl (Nat.le_of_ble_eq_true rfl) (s_lies (nI 0) (nI 0) (nI 2)) ?_
      show RR _ _ 22 [some (.ref 146), some (.int (nI j)), some (.int (nI j2)), some (.int (nI 0)), none] [.int (bI ((nI 0) ≤ (nI 0) ∧ (nI 0) ≤ (nI 2)))] g A _
      refine rr_bne (t := 27) d_261_22 (by decide) (fun c22 => ?_) (fun c22 => ?_)
      · refine rr_nx (pc' := 28) (al' := [some (.ref 146), some (.int (nI j)), some (.int (nI j2)), some (.int (nI 0)), none]) (st' := [.ref 146]) d_261_27 (fun _ => rfl) ?_
        refine rr_nx (pc' := 29) (al' := [some (.ref 146), some (.int (nI j)), some (.int (nI j2)), some (.int (nI 0)), none]) (st' := [.int (nI j), .ref 146]) d_261_28 (fun _ => rfl) ?_
        refine rr_pv (as := [.int (nI j)]) (al0 := [some (.ref 146), some (.int (nI j))]) (r := []) d_261_29 mo_261 ml_121 mz_186 rfl rfl rfl (Nat.le_of_ble_eq_true rfl) (s_ordN hj hk) ?_
        show RR _ _ 32 [some (.ref 146), some (.int (nI j)), some (.int (nI j2)), some (.int (nI 0)), none] [.int (nI m)] g A _
        refine rr_nx (pc' := 33) (al' := [some (.ref 146), some (.int (nI j)), some (.int (nI j2)), some (.int (nI 0)), none]) (st' := [.ref 146, .int (nI m)]) d_261_32 (fun _ => rfl) ?_
        refine rr_nx (pc' := 34) (al' := [some (.ref 146), some (.int (nI j)), some (.int (nI j2)), some (.int (nI 0)), none]) (st' := [.int (nI j2), .ref 146, .int (nI m)]) d_261_33 (fun _ => rfl) ?_
        refine rr_pv (as := [.int (nI j2)]) (al0 := [some (.ref 146), some (.int (nI j2))]) (r := [.int (nI m)]) d_261_34 mo_261 ml_121 mz_186 rfl rfl rfl (Nat.le_of_ble_eq_true rfl) (s_ordN hj2 hk2) ?_
        show RR _ _ 37 [some (.ref 146), some (.int (nI j)), some (.int (nI j2)), some (.int (nI 0)), none] [.int (nI m2), .int (nI m)] g A _
        refine rn_ceq (t := 42) d_261_37 (by decide) (by first | omega | assumption | exact cu_36 (by omega) (cu_lt (by omega) (by omega))) (by first | omega | assumption | exact cu_36 (by omega) (cu_lt (by omega) (by omega))) (fun c37 => ?_) (fun c37 => ?_)
        · refine rr_nx (pc' := 43) (al' := [some (.ref 146), some (.int (nI j)), some (.int (nI j2)), some (.int (nI 0)), none]) (st' := [.ref 146]) d_261_42 (fun _ => rfl) ?_
          refine rr_nx (pc' := 44) (al' := [some (.ref 146), some (.int (nI j)), some (.int (nI j2)), some (.int (nI 0)), none]) (st' := [.int (nI j), .ref 146]) d_261_43 (fun _ => rfl) ?_
          refine rr_nx (pc' := 45) (al' := [some (.ref 146), some (.int (nI j)), some (.int (nI j2)), some (.int (nI 0)), none]) (st' := [.int (nI 0), .int (nI j), .ref 146]) d_261_44 (fun _ => rfl) ?_
          refine rr_cv (as := [.int (nI j), .int (nI 0)]) (al0 := [some (.ref 146), some (.int (nI j)), some (.int (nI 0)), none, none, none, none]) (r := []) d_261_45 mo_261 ml_319 mz_259 rfl rfl rfl (rr_wk (Nat.le_of_ble_eq_true rfl) (s_names0k hj h1 hm6 hl hk hsh.2)) (fun v1 g1 A1 h1x => ?_)
          obtain ⟨q0_, h6_, hg1, ha1, b, hb, hM⟩ := h1x
          obtain rfl := q0_
          show RR _ _ 48 [some (.ref 146), some (.int (nI j)), some (.int (nI j2)), some (.int (nI 0)), none] [] g1 A1 _
          refine rn_ic (v := 0) d_261_48 (by decide) ?_
          refine rr_nx (pc' := 51) (al' := [some (.ref 146), some (.int (nI j)), some (.int (nI j2)), some (.int (nI 0)), some (.int (nI 0))]) (st' := []) d_261_49 (fun _ => rfl) ?_
          refine rr_A (show A1 = (rf_u A1 20 (A1 20)) by rw [rf_u_id]) ?_
          refine rr_upw (al := fun i w_ => [some (.ref 146), some (.int (nI j)), some (.int (nI j2)), some (.int (nI 0)), some (.int (nI i))]) (G := fun i w_ => g1) (B := fun i w_ => (rf_u A1 20 w_)) (P := fun i w_ => ∀ q, q < i → w_ q = A1 19 q) (n := 36) (fun i w_ hi pi ihi => ?_) (fun w_ pi => ?_) 0 (A1 20) (by omega) (all_0)
          · show RR _ _ 51 [some (.ref 146), some (.int (nI j)), some (.int (nI j2)), some (.int (nI 0)), some (.int (nI i))] [] g1 (rf_u A1 20 w_) _
            refine rr_nx (pc' := 53) (al' := [some (.ref 146), some (.int (nI j)), some (.int (nI j2)), some (.int (nI 0)), some (.int (nI i))]) (st' := [.int (nI i)]) d_261_51 (fun _ => rfl) ?_
            refine rn_bp (v := 36) d_261_53 (by decide) ?_
            refine rn_cge (t := 78) d_261_55 (by decide) (by omega) (by decide) (fun c55 => ?_) (fun c55 => ?_)
            · omega
            · refine rr_nx (pc' := 59) (al' := [some (.ref 146), some (.int (nI j)), some (.int (nI j2)), some (.int (nI 0)), some (.int (nI i))]) (st' := [.ref 146]) d_261_58 (fun _ => rfl) ?_
              refine rr_gf (v := .ref (147 + 20)) d_261_59 mo_261 fl_76 rfl ?_
              refine rr_nx (pc' := 64) (al' := [some (.ref 146), some (.int (nI j)), some (.int (nI j2)), some (.int (nI 0)), some (.int (nI i))]) (st' := [.int (nI i), .ref (147 + 20)]) d_261_62 (fun _ => rfl) ?_
              refine rr_nx (pc' := 65) (al' := [some (.ref 146), some (.int (nI j)), some (.int (nI j2)), some (.int (nI 0)), some (.int (nI i))]) (st' := [.ref 146, .int (nI i), .ref (147 + 20)]) d_261_64 (fun _ => rfl) ?_
              refine rr_gf (v := .ref (147 + 19)) d_261_65 mo_261 fl_73 rfl ?_
              refine rr_nx (pc' := 70) (al' := [some (.ref 146), some (.int (nI j)), some (.int (nI j2)), some (.int (nI 0)), some (.int (nI i))]) (st' := [.int (nI i), .ref (147 + 19), .int (nI i), .ref (147 + 20)]) d_261_68 (fun _ => rfl) ?_
              refine rr_ia (j := 19) (v := (A1 19 i)) d_261_70 (by decide) rfl (by decide) (show i < 36 by first | omega | assumption | exact cu_36 (by omega) (cu_lt (by omega) (by omega))) (by rw [rf_u_n (by decide)]) ?_
              refine rr_iS (j := 20) (A1 := (rf_u A1 20 (upd w_ i (A1 19 i)))) d_261_71 (by decide) rfl (by decide) (show i < 36 by first | omega | assumption | exact cu_36 (by omega) (cu_lt (by omega) (by omega))) rf_uw ?_
              refine rn_inc d_261_72 rfl rfl ?_
              show RR _ _ 75 [some (.ref 146), some (.int (nI j)), some (.int (nI j2)), some (.int (nI 0)), some (.int (nI (i + 1)))] [] g1 (rf_u A1 20 (upd w_ i (A1 19 i))) _
              refine rr_nx (pc' := 51) (al' := [some (.ref 146), some (.int (nI j)), some (.int (nI j2)), some (.int (nI 0)), some (.int (nI (i + 1)))]) (st' := []) d_261_75 (fun _ => rfl) ?_
              exact ihi (upd w_ i (A1 19 i)) (up_all (f := fun q => A1 19 q) pi rfl)
          · show RR _ _ 51 [some (.ref 146), some (.int (nI j)), some (.int (nI j2)), some (.int (nI 0)), some (.int (nI 36))] [] g1 (rf_u A1 20 w_) _
            refine rr_nx (pc' := 53) (al' := [some (.ref 146), some (.int (nI j)), some (.int (nI j2)), some (.int (nI 0)), some (.int (nI 36))]) (st' := [.int (nI 36)]) d_261_51 (fun _ => rfl) ?_
            refine rn_bp (v := 36) d_261_53 (by decide) ?_
            refine rn_cge (t := 78) d_261_55 (by decide) (by omega) (by decide) (fun c55 => ?_) (fun c55 => ?_)
            · refine rr_nx (pc' := 79) (al' := [some (.ref 146), some (.int (nI j)), some (.int (nI j2)), some (.int (nI 0)), some (.int (nI 36))]) (st' := [.ref 146]) d_261_78 (fun _ => rfl) ?_
              refine rr_nx (pc' := 80) (al' := [some (.ref 146), some (.int (nI j)), some (.int (nI j2)), some (.int (nI 0)), some (.int (nI 36))]) (st' := [.int (nI j2), .ref 146]) d_261_79 (fun _ => rfl) ?_
              refine rr_nx (pc' := 81) (al' := [some (.ref 146), some (.int (nI j)), some (.int (nI j2)), some (.int (nI 0)), some (.int (nI 36))]) (st' := [.int (nI 0), .int (nI j2), .ref 146]) d_261_80 (fun _ => rfl) ?_
              have hA1 : (rf_u A1 20 w_) 1 = A 1 := (rf_u_n (by decide)).trans (ha1 1 rfl)
              have hk2b : (rf_u A1 20 w_) 1 (37 * j2) = nI m2 := by rw [hA1]; exact hk2
              have hs2b : ∀ q, q < m2 * m2 → (rf_u A1 20 w_) 1 (37 * j2 + 1 + q) = nI (c2 q) := by rw [hA1]; exact hsh2.2
              refine rr_cv (as := [.int (nI j2), .int (nI 0)]) (al0 := [some (.ref 146), some (.int (nI j2)), some (.int (nI 0)), none, none, none, none]) (r := []) d_261_81 mo_261 ml_319 mz_259 rfl rfl rfl (rr_wk (Nat.le_of_ble_eq_true rfl) (s_names0k hj2 h12 hm62 hl2 hk2b hs2b)) (fun v2 g2 A2 h2x => ?_)
              obtain ⟨q0_, h6b_, hg2, ha2, b2, hb2, hM2⟩ := h2x
              obtain rfl := q0_
              have h20 : ∀ q, q < 36 → A2 20 q = A1 19 q := fun q hq => by rw [ha2 20 rfl, rf_u_s]; exact pi q hq
              subst hmm
              show RR _ _ 84 [some (.ref 146), some (.int (nI j)), some (.int (nI j2)), some (.int (nI 0)), some (.int (nI 36))] [] g2 A2 _
              refine rn_ic (v := 0) d_261_84 (by decide) ?_
              refine rr_nx (pc' := 87) (al' := [some (.ref 146), some (.int (nI j)), some (.int (nI j2)), some (.int (nI 0)), some (.int (nI 0))]) (st' := []) d_261_85 (fun _ => rfl) ?_
              refine rr_up (al := fun i => [some (.ref 146), some (.int (nI j)), some (.int (nI j2)), some (.int (nI 0)), some (.int (nI i))]) (G := fun i => g2) (B := fun i => A2) (P := fun i => ∀ q, q < i → b2 q = b q) (n := m * m) (fun i hi pi ihi => ?_) (fun pi => ?_) 0  (by omega) (all_0)
              · show RR _ _ 87 [some (.ref 146), some (.int (nI j)), some (.int (nI j2)), some (.int (nI 0)), some (.int (nI i))] [] g2 A2 _
                refine rr_nx (pc' := 89) (al' := [some (.ref 146), some (.int (nI j)), some (.int (nI j2)), some (.int (nI 0)), some (.int (nI i))]) (st' := [.int (nI i)]) d_261_87 (fun _ => rfl) ?_
                refine rr_nx (pc' := 90) (al' := [some (.ref 146), some (.int (nI j)), some (.int (nI j2)), some (.int (nI 0)), some (.int (nI i))]) (st' := [.ref 146, .int (nI i)]) d_261_89 (fun _ => rfl) ?_
                refine rr_gn d_261_90 mo_261 fl_127 rfl h6b_ ?_
                refine rr_nx (pc' := 94) (al' := [some (.ref 146), some (.int (nI j)), some (.int (nI j2)), some (.int (nI 0)), some (.int (nI i))]) (st' := [.ref 146, .int (nI m), .int (nI i)]) d_261_93 (fun _ => rfl) ?_
                refine rr_gn d_261_94 mo_261 fl_127 rfl h6b_ ?_
                refine rn_mul d_261_97  ?_
                refine rn_cge (t := 126) d_261_98 (by decide) (by omega) (by omega) (fun c98 => ?_) (fun c98 => ?_)
                · omega
                · refine rr_nx (pc' := 102) (al' := [some (.ref 146), some (.int (nI j)), some (.int (nI j2)), some (.int (nI 0)), some (.int (nI i))]) (st' := [.ref 146]) d_261_101 (fun _ => rfl) ?_
                  refine rr_gf (v := .ref (147 + 19)) d_261_102 mo_261 fl_73 rfl ?_
                  refine rr_nx (pc' := 107) (al' := [some (.ref 146), some (.int (nI j)), some (.int (nI j2)), some (.int (nI 0)), some (.int (nI i))]) (st' := [.int (nI i), .ref (147 + 19)]) d_261_105 (fun _ => rfl) ?_
                  refine rr_ia (j := 19) (v := (nI (b2 i))) d_261_107 (by decide) rfl (by decide) (show i < 36 by omega) (hb2 i hi).1 ?_
                  refine rr_nx (pc' := 109) (al' := [some (.ref 146), some (.int (nI j)), some (.int (nI j2)), some (.int (nI 0)), some (.int (nI i))]) (st' := [.ref 146, .int (nI (b2 i))]) d_261_108 (fun _ => rfl) ?_
                  refine rr_gf (v := .ref (147 + 20)) d_261_109 mo_261 fl_76 rfl ?_
                  refine rr_nx (pc' := 114) (al' := [some (.ref 146), some (.int (nI j)), some (.int (nI j2)), some (.int (nI 0)), some (.int (nI i))]) (st' := [.int (nI i), .ref (147 + 20), .int (nI (b2 i))]) d_261_112 (fun _ => rfl) ?_
                  refine rr_ia (j := 20) (v := (nI (b i))) d_261_114 (by decide) rfl (by decide) (show i < 36 by omega) ((h20 i (by omega)).trans (hb i hi).1) ?_
                  refine rn_ceq (t := 120) d_261_115 (by decide) (by have := (hb2 i hi).2; omega) (by have := (hb i hi).2; omega) (fun c115 => ?_) (fun c115 => ?_)
                  · refine rn_inc d_261_120 rfl rfl ?_
                    show RR _ _ 123 [some (.ref 146), some (.int (nI j)), some (.int (nI j2)), some (.int (nI 0)), some (.int (nI (i + 1)))] [] g2 A2 _
                    refine rr_nx (pc' := 87) (al' := [some (.ref 146), some (.int (nI j)), some (.int (nI j2)), some (.int (nI 0)), some (.int (nI (i + 1)))]) (st' := []) d_261_123 (fun _ => rfl) ?_
                    exact ihi  (all_s pi c115)
                  · refine rn_ic (v := 0) d_261_118 (by decide) ?_
                    exact rr_ri d_261_119 mr_261 rfl ⟨by rw [if_neg (fun e_ => df_p (q := i) hi (fun e2_ => c115 (by rw [nmb_e hM i hi, nmb_e hM2 i hi, e2_])) e_)], (hW.q (hg1.tr hg2) (((ha1.k).tr (Ksm.rf.u rfl)).tr ha2.k)).mo⟩
              · show RR _ _ 87 [some (.ref 146), some (.int (nI j)), some (.int (nI j2)), some (.int (nI 0)), some (.int (nI (m * m)))] [] g2 A2 _
                refine rr_nx (pc' := 89) (al' := [some (.ref 146), some (.int (nI j)), some (.int (nI j2)), some (.int (nI 0)), some (.int (nI (m * m)))]) (st' := [.int (nI (m * m))]) d_261_87 (fun _ => rfl) ?_
                refine rr_nx (pc' := 90) (al' := [some (.ref 146), some (.int (nI j)), some (.int (nI j2)), some (.int (nI 0)), some (.int (nI (m * m)))]) (st' := [.ref 146, .int (nI (m * m))]) d_261_89 (fun _ => rfl) ?_
                refine rr_gn d_261_90 mo_261 fl_127 rfl h6b_ ?_
                refine rr_nx (pc' := 94) (al' := [some (.ref 146), some (.int (nI j)), some (.int (nI j2)), some (.int (nI 0)), some (.int (nI (m * m)))]) (st' := [.ref 146, .int (nI m), .int (nI (m * m))]) d_261_93 (fun _ => rfl) ?_
                refine rr_gn d_261_94 mo_261 fl_127 rfl h6b_ ?_
                refine rn_mul d_261_97  ?_
                refine rn_cge (t := 126) d_261_98 (by decide) (by omega) (by omega) (fun c98 => ?_) (fun c98 => ?_)
                · refine rn_ic (v := 1) d_261_126 (by decide) ?_
                  exact rr_ri d_261_127 mr_261 rfl ⟨by rw [if_pos (df_00 (fun q hq => by rw [← nmb_e hM q hq, ← nmb_e hM2 q hq]; exact (pi q hq).symm))], (hW.q (hg1.tr hg2) (((ha1.k).tr (Ksm.rf.u rfl)).tr ha2.k)).mo⟩
                · omega
            · omega
        · exact absurd hmm c37
      · exact absurd (show nI 0 ≤ nI 0 ∧ nI 0 ≤ nI 2 by decide) c22
theorem p_alike1 {S : CS} {G : Nat → Nat → Value} {B : Nat → Nat → Int32} {J : Nat → Nat → Int64} {R : Nat → Nat → Option Nat} {n : Nat} {W : WS} (hW : WC n S G B R W) {j m j2 m2 : Nat} {c c2 : Nat → Nat} (hj : j < 6) (htb : tbK (wK W) j = (m, c)) (h1 : 1 ≤ m) (hj2 : j2 < 6) (htb2 : tbK (wK W) j2 = (m2, c2)) (h12 : 1 ≤ m2) (hmm : m = m2) : CR 80 158 0 [some (.ref 2), some (.int (nI j)), some (.int (nI j2)), some (.int (nI 1)), none, none] [] S G B J R (fun r__ S' G' B' J' R' => r__ = some (.int (nI (if dfN (m * m) (nmB 1 m c) (nmB 1 m c2) = 0 then 1 else 0))) ∧ WC (n + 1) S' G' B' R' W) := by
  have hS := hW.1.1
  have hF := hW.2.1
  have hO := hW.2.2.2.1
  obtain ⟨ta, ka, la, hH, hLk, hl2, hs3, hbd⟩ := hW.2.2.1
  obtain ⟨zt, hzt, ezt⟩ := (hH.2.1 j hj).2
  have ht := hH.ta hj
  have hsh := hH.2.2.2.2.2.2.1 j hj
  rw [show kH (wK W) (kD (wK W)) j = (m, c) from htb] at hsh
  have hok := tb_ok hO hj
  rw [htb] at hok
  have hn : G (ta j) 0 = .int (nI m) := hsh.1
  have hc : TabC B (ta j) m c := hsh.c hok
  have hl : Lat m c := hok.2
  have hm6 : m ≤ 6 := hok.1
  have hyes : hasP (wK W) (nI j) := (has_i hj).mpr (by rw [htb]; exact h1)
  obtain ⟨zt2, hzt2, ezt2⟩ := (hH.2.1 j2 hj2).2
  have ht2 := hH.ta hj2
  have hsh2 := hH.2.2.2.2.2.2.1 j2 hj2
  rw [show kH (wK W) (kD (wK W)) j2 = (m2, c2) from htb2] at hsh2
  have hok2 := tb_ok hO hj2
  rw [htb2] at hok2
  have hn2 : G (ta j2) 0 = .int (nI m2) := hsh2.1
  have hc2 : TabC B (ta j2) m2 c2 := hsh2.c hok2
  have hl2 : Lat m2 c2 := hok2.2
  have hm62 : m2 ≤ 6 := hok2.1
  have hyes2 : hasP (wK W) (nI j2) := (has_i hj2).mpr (by rw [htb2]; exact h12)
  refine cr_nx (pc' := 1) (al' := [some (.ref 2), some (.int (nI j)), some (.int (nI j2)), some (.int (nI 1)), none, none]) (st' := [.ref 2]) d_158_0 (fun _ => rfl) ?_
  refine cr_nx (pc' := 2) (al' := [some (.ref 2), some (.int (nI j)), some (.int (nI j2)), some (.int (nI 1)), none, none]) (st' := [.int (nI j), .ref 2]) d_158_1 (fun _ => rfl) ?_
  refine cr_pv (b := 2) (as := [.int (nI j)]) (al0 := [some (.ref 2), some (.int (nI j))]) (r := []) d_158_2 cw_158 cm_11_137 cz_126 rfl rfl (hS.i (a := 2) (by decide) (by decide)) (by rw [cw_126]; exact (hS.s (a := 2) (by decide) (by decide) rfl)) (by rw [cw_126]; decide) rfl (Nat.le_of_ble_eq_true rfl) (k_has hS hF hH hO) ?_
  show CR _ _ 5 [some (.ref 2), some (.int (nI j)), some (.int (nI j2)), some (.int (nI 1)), none, none] [.int (bI (hasP (wK W) (nI j)))] S G B J R _
  refine cr_beq (t := 23) d_158_5 (by decide) (fun c5 => ?_) (fun c5 => ?_)
  · exact absurd hyes c5
  · refine cr_nx (pc' := 9) (al' := [some (.ref 2), some (.int (nI j)), some (.int (nI j2)), some (.int (nI 1)), none, none]) (st' := [.ref 2]) d_158_8 (fun _ => rfl) ?_
    refine cr_nx (pc' := 10) (al' := [some (.ref 2), some (.int (nI j)), some (.int (nI j2)), some (.int (nI 1)), none, none]) (st' := [.int (nI j2), .ref 2]) d_158_9 (fun _ => rfl) ?_
    refine cr_pv (b := 2) (as := [.int (nI j2)]) (al0 := [some (.ref 2), some (.int (nI j2))]) (r := []) d_158_10 cw_158 cm_11_137 cz_126 rfl rfl (hS.i (a := 2) (by decide) (by decide)) (by rw [cw_126]; exact (hS.s (a := 2) (by decide) (by decide) rfl)) (by rw [cw_126]; decide) rfl (Nat.le_of_ble_eq_true rfl) (k_has hS hF hH hO) ?_
    show CR _ _ 13 [some (.ref 2), some (.int (nI j)), some (.int (nI j2)), some (.int (nI 1)), none, none] [.int (bI (hasP (wK W) (nI j2)))] S G B J R _
    refine cr_beq (t := 23) d_158_13 (by decide) (fun c13 => ?_) (fun c13 => ?_)
    · exact absurd hyes2 c13
    · refine cr_nx (pc' := 17) (al' := [some (.ref 2), some (.int (nI j)), some (.int (nI j2)), some (.int (nI 1)), none, none]) (st' := [.int (nI 1)]) d_158_16 (fun _ => rfl) ?_
      refine cr_ps (as := [.int (nI 1)]) (al0 := [some (.int (nI 1))]) (r := []) d_158_17 cw_158 cm_11_302 (by decide) cz_156 rfl rfl rfl (Nat.le_of_ble_eq_true rfl) (k_isLikeness) ?_
      show CR _ _ 20 [some (.ref 2), some (.int (nI j)), some (.int (nI j2)), some (.int (nI 1)), none, none] [.int (bI (inP (nI 1) 3))] S G B J R _
      refine cr_bne (t := 25) d_158_20 (by decide) (fun c20 => ?_) (fun c20 => ?_)
      · refine cr_nx (pc' := 26) (al' := [some (.ref 2), some (.int (nI j)), some (.int (nI j2)), some (.int (nI 1)), none, none]) (st' := [.ref 2]) d_158_25 (fun _ => rfl) ?_
        refine cr_gf (v := .ref 3) d_158_26 cw_158 cf_11_10 (hS.i (a := 2) (by decide) (by decide)) (hS.s (a := 2) (by decide) (by decide) rfl) (by decide) (fx_2_0 hF) ?_
        refine cr_gf (v := .ref 4) d_158_29 cw_158 cf_11_140 (hS.i (a := 3) (by decide) (by decide)) (hS.s (a := 3) (by decide) (by decide) rfl) (by decide) (fx_3_0 hF) ?_
        refine cr_nx (pc' := 33) (al' := [some (.ref 2), some (.int (nI j)), some (.int (nI j2)), some (.int (nI 1)), none, none]) (st' := [.int (nI j), .ref 4]) d_158_32 (fun _ => rfl) ?_
        refine cr_aa (a := 4) (v := .ref (ta j)) d_158_33 (hS.i (a := 4) (by decide) (by decide)) (by decide) (hS.s (a := 4) (by decide) (by decide) rfl) (by decide) (show j < 6 by first | omega | assumption | exact cu_36 (by omega) (cu_lt (by omega) (by omega))) (show va_rf _ = _ by rw [(hH.2.1 j hj).1]; rfl) ?_
        refine cr_gf (v := .int (nI m)) d_158_34 cw_158 cf_11_112 ht.1 ht.2.2.1 (by decide) hn ?_
        refine cr_nx (pc' := 38) (al' := [some (.ref 2), some (.int (nI j)), some (.int (nI j2)), some (.int (nI 1)), none, none]) (st' := [.ref 2, .int (nI m)]) d_158_37 (fun _ => rfl) ?_
        refine cr_gf (v := .ref 3) d_158_38 cw_158 cf_11_10 (hS.i (a := 2) (by decide) (by decide)) (hS.s (a := 2) (by decide) (by decide) rfl) (by decide) (fx_2_0 hF) ?_
        refine cr_gf (v := .ref 4) d_158_41 cw_158 cf_11_140 (hS.i (a := 3) (by decide) (by decide)) (hS.s (a := 3) (by decide) (by decide) rfl) (by decide) (fx_3_0 hF) ?_
        refine cr_nx (pc' := 45) (al' := [some (.ref 2), some (.int (nI j)), some (.int (nI j2)), some (.int (nI 1)), none, none]) (st' := [.int (nI j2), .ref 4, .int (nI m)]) d_158_44 (fun _ => rfl) ?_
        refine cr_aa (a := 4) (v := .ref (ta j2)) d_158_45 (hS.i (a := 4) (by decide) (by decide)) (by decide) (hS.s (a := 4) (by decide) (by decide) rfl) (by decide) (show j2 < 6 by first | omega | assumption | exact cu_36 (by omega) (cu_lt (by omega) (by omega))) (show va_rf _ = _ by rw [(hH.2.1 j2 hj2).1]; rfl) ?_
        refine cr_gf (v := .int (nI m2)) d_158_46 cw_158 cf_11_112 ht2.1 ht2.2.2.1 (by decide) hn2 ?_
        refine cn_ceq (t := 54) d_158_49 (by decide) (by first | omega | assumption | exact cu_36 (by omega) (cu_lt (by omega) (by omega))) (by first | omega | assumption | exact cu_36 (by omega) (cu_lt (by omega) (by omega))) (fun c49 => ?_) (fun c49 => ?_)
        · refine cr_nx (pc' := 55) (al' := [some (.ref 2), some (.int (nI j)), some (.int (nI j2)), some (.int (nI 1)), none, none]) (st' := [.ref 2]) d_158_54 (fun _ => rfl) ?_
          refine cr_gf (v := .ref 111) d_158_55 cw_158 cf_11_69 (hS.i (a := 2) (by decide) (by decide)) (hS.s (a := 2) (by decide) (by decide) rfl) (by decide) (fx_2_11 hF) ?_
          refine cr_nx (pc' := 59) (al' := [some (.ref 2), some (.int (nI j)), some (.int (nI j2)), some (.int (nI 1)), none, none]) (st' := [.ref 2, .ref 111]) d_158_58 (fun _ => rfl) ?_
          refine cr_gf (v := .ref 3) d_158_59 cw_158 cf_11_10 (hS.i (a := 2) (by decide) (by decide)) (hS.s (a := 2) (by decide) (by decide) rfl) (by decide) (fx_2_0 hF) ?_
          refine cr_gf (v := .ref 4) d_158_62 cw_158 cf_11_140 (hS.i (a := 3) (by decide) (by decide)) (hS.s (a := 3) (by decide) (by decide) rfl) (by decide) (fx_3_0 hF) ?_
          refine cr_nx (pc' := 66) (al' := [some (.ref 2), some (.int (nI j)), some (.int (nI j2)), some (.int (nI 1)), none, none]) (st' := [.int (nI j), .ref 4, .ref 111]) d_158_65 (fun _ => rfl) ?_
          refine cr_aa (a := 4) (v := .ref (ta j)) d_158_66 (hS.i (a := 4) (by decide) (by decide)) (by decide) (hS.s (a := 4) (by decide) (by decide) rfl) (by decide) (show j < 6 by first | omega | assumption | exact cu_36 (by omega) (cu_lt (by omega) (by omega))) (show va_rf _ = _ by rw [(hH.2.1 j hj).1]; rfl) ?_
          refine cr_nx (pc' := 68) (al' := [some (.ref 2), some (.int (nI j)), some (.int (nI j2)), some (.int (nI 1)), none, none]) (st' := [.int (nI 1), .ref (ta j), .ref 111]) d_158_67 (fun _ => rfl) ?_
          refine cr_cv (b := 111) (as := [.ref (ta j), .int (nI 1)]) (al0 := [some (.ref 111), some (.ref (ta j)), some (.int (nI 1)), none]) (r := []) d_158_68 cw_158 cm_11_305 cz_40 rfl rfl (hS.i (a := 111) (by decide) (by decide)) (by rw [cw_40]; exact (hS.s (a := 111) (by decide) (by decide) rfl)) (by rw [cw_40]; decide) rfl (cr_wk (Nat.le_of_ble_eq_true rfl) (k_nameOf1_111 hS hF ht hn hc hl h1 (by omega) hW.2.2.2.2.2.2.2.2.2.2.1)) (fun v1 S1 G1 B1 J1 R1 h1x => ?_)
          obtain ⟨q0_, q1_, q2_, q3_, hF1, hg1, hb1, hk1, h8_, bb, hbb, hM⟩ := h1x
          obtain rfl := q0_
          obtain rfl := q1_.symm
          obtain rfl := q2_.symm
          obtain rfl := q3_.symm
          have hW1 : WC n S G1 B1 R W := hW.qn hF1 (hg1.mo (by decide)) (hb1.mo (by decide)) hk1 (nm_2 hW.2.2.2.2.2.2.2.2.2.2.2 (hg1 _ (by decide)) (hg1 _ (by decide)) (hg1 _ (by decide)) (hb1 _ (by decide)) (hb1 _ (by decide)))
          show CR _ _ 71 [some (.ref 2), some (.int (nI j)), some (.int (nI j2)), some (.int (nI 1)), none, none] [.ref 114] S G1 B1 J R _
          refine cr_nx (pc' := 73) (al' := [some (.ref 2), some (.int (nI j)), some (.int (nI j2)), some (.int (nI 1)), some (.ref 114), none]) (st' := []) d_158_71 (fun _ => rfl) ?_
          refine cr_nx (pc' := 74) (al' := [some (.ref 2), some (.int (nI j)), some (.int (nI j2)), some (.int (nI 1)), some (.ref 114), none]) (st' := [.ref 2]) d_158_73 (fun _ => rfl) ?_
          refine cr_gf (v := .ref 122) d_158_74 cw_158 cf_11_73 (hS.i (a := 2) (by decide) (by decide)) (hS.s (a := 2) (by decide) (by decide) rfl) (by decide) (fx_2_12 hF1) ?_
          refine cr_nx (pc' := 78) (al' := [some (.ref 2), some (.int (nI j)), some (.int (nI j2)), some (.int (nI 1)), some (.ref 114), none]) (st' := [.ref 2, .ref 122]) d_158_77 (fun _ => rfl) ?_
          refine cr_gf (v := .ref 3) d_158_78 cw_158 cf_11_10 (hS.i (a := 2) (by decide) (by decide)) (hS.s (a := 2) (by decide) (by decide) rfl) (by decide) (fx_2_0 hF1) ?_
          refine cr_gf (v := .ref 4) d_158_81 cw_158 cf_11_140 (hS.i (a := 3) (by decide) (by decide)) (hS.s (a := 3) (by decide) (by decide) rfl) (by decide) (fx_3_0 hF1) ?_
          refine cr_nx (pc' := 85) (al' := [some (.ref 2), some (.int (nI j)), some (.int (nI j2)), some (.int (nI 1)), some (.ref 114), none]) (st' := [.int (nI j2), .ref 4, .ref 122]) d_158_84 (fun _ => rfl) ?_
          refine cr_aa (a := 4) (v := .ref (ta j2)) d_158_85 (hS.i (a := 4) (by decide) (by decide)) (by decide) (hS.s (a := 4) (by decide) (by decide) rfl) (by decide) (show j2 < 6 by first | omega | assumption | exact cu_36 (by omega) (cu_lt (by omega) (by omega))) (show va_rf _ = _ by rw [(hH.2.1 j2 hj2).1]; rfl) ?_
          refine cr_nx (pc' := 87) (al' := [some (.ref 2), some (.int (nI j)), some (.int (nI j2)), some (.int (nI 1)), some (.ref 114), none]) (st' := [.int (nI 1), .ref (ta j2), .ref 122]) d_158_86 (fun _ => rfl) ?_
          have ht2b : TabAt S G1 (ta j2) := hg1.t (by simp; omega) ht2
          have hn2b : G1 (ta j2) 0 = .int (nI m2) := by rw [hg1 _ (by simp; omega)]; exact hn2
          have hc2b : TabC B1 (ta j2) m2 c2 := hb1.c (by simp; omega) hc2
          refine cr_cv (b := 122) (as := [.ref (ta j2), .int (nI 1)]) (al0 := [some (.ref 122), some (.ref (ta j2)), some (.int (nI 1)), none]) (r := []) d_158_87 cw_158 cm_11_305 cz_40 rfl rfl (hS.i (a := 122) (by decide) (by decide)) (by rw [cw_40]; exact (hS.s (a := 122) (by decide) (by decide) rfl)) (by rw [cw_40]; decide) rfl (cr_wk (Nat.le_of_ble_eq_true rfl) (k_nameOf1_122 hS hF1 ht2b hn2b hc2b hl2 h12 (by omega) hW1.2.2.2.2.2.2.2.2.2.2.2)) (fun v2 S2 G2 B2 J2 R2 h2x => ?_)
          obtain ⟨q0_, q1_, q2_, q3_, hF2, hg2, hb2, hk2, h9_, bb2, hbb2, hM2⟩ := h2x
          obtain rfl := q0_
          obtain rfl := q1_.symm
          obtain rfl := q2_.symm
          obtain rfl := q3_.symm
          have hW2 : WC n S G2 B2 R W := hW1.qn hF2 (hg2.mo (by decide)) (hb2.mo (by decide)) (nm_1 hk1 (hg2 _ (by decide)) (hg2 _ (by decide)) (hg2 _ (by decide)) (hb2 _ (by decide)) (hb2 _ (by decide))) hk2
          subst hmm
          show CR _ _ 90 [some (.ref 2), some (.int (nI j)), some (.int (nI j2)), some (.int (nI 1)), some (.ref 114), none] [.ref 125] S G2 B2 J R _
          refine cr_nx (pc' := 92) (al' := [some (.ref 2), some (.int (nI j)), some (.int (nI j2)), some (.int (nI 1)), some (.ref 114), some (.ref 125)]) (st' := []) d_158_90 (fun _ => rfl) ?_
          refine cr_nx (pc' := 94) (al' := [some (.ref 2), some (.int (nI j)), some (.int (nI j2)), some (.int (nI 1)), some (.ref 114), some (.ref 125)]) (st' := [.ref 114]) d_158_92 (fun _ => rfl) ?_
          refine cr_nx (pc' := 96) (al' := [some (.ref 2), some (.int (nI j)), some (.int (nI j2)), some (.int (nI 1)), some (.ref 114), some (.ref 125)]) (st' := [.ref 125, .ref 114]) d_158_94 (fun _ => rfl) ?_
          have t114 : TabC B2 114 m bb := ⟨hm6, fun q hq => ⟨by rw [hb2 _ (by decide)]; exact (hbb q hq).1, (hbb q hq).2⟩⟩
          have t125 : TabC B2 125 m bb2 := ⟨hm6, hbb2⟩
          have hdf : dfN (m * m) bb bb2 = dfN (m * m) (nmB 1 m c) (nmB 1 m c2) := df_cg (nmb_e hM) (nmb_e hM2)
          refine cr_pv (b := 114) (as := [.ref 125]) (al0 := [some (.ref 114), some (.ref 125), none, none]) (r := []) d_158_96 cw_158 cm_11_309 cz_109 rfl rfl (hS.i (a := 114) (by decide) (by decide)) (by rw [cw_109]; exact (hS.s (a := 114) (by decide) (by decide) rfl)) (by rw [cw_109]; decide) rfl (Nat.le_of_ble_eq_true rfl) (k_differences (tb_114 hS hF2) (by rw [hg2 _ (by decide)]; exact h8_) t114 (tb_125 hS hF2) t125) ?_
          show CR _ _ 99 [some (.ref 2), some (.int (nI j)), some (.int (nI j2)), some (.int (nI 1)), some (.ref 114), some (.ref 125)] [.int (nI (dfN (m * m) bb bb2))] S G2 B2 J R _
          refine cn_ine (t := 106) d_158_99 (by decide) (by have := dfN_le (m * m) bb bb2; have := Nat.mul_le_mul hm6 hm6; omega) (fun c99 => ?_) (fun c99 => ?_)
          · refine cn_ic (v := 0) d_158_106 (by decide) ?_
            exact cr_ri d_158_107 cx_158 rfl ⟨by rw [if_neg (fun e_ => by rw [← hdf] at e_; omega)], hW2.mo⟩
          · refine cn_ic (v := 1) d_158_102 (by decide) ?_
            refine cr_nx (pc' := 107) (al' := [some (.ref 2), some (.int (nI j)), some (.int (nI j2)), some (.int (nI 1)), some (.ref 114), some (.ref 125)]) (st' := [.int (nI 1)]) d_158_103 (fun _ => rfl) ?_
            exact cr_ri d_158_107 cx_158 rfl ⟨by rw [if_pos (hdf ▸ c99)], hW2.mo⟩
        · exact absurd hmm c49
      · exact absurd ((in_j (by decide)).mpr (by decide)) c20
theorem r_alike1 {g : Nat → Int32} {A : Nat → Nat → Int32} {n : Nat} {W : WS} (hW : WR n g A W) (hO : CoOk (wK W)) {j m j2 m2 : Nat} {c c2 : Nat → Nat} (hj : j < 6) (htb : tbK (wK W) j = (m, c)) (h1 : 1 ≤ m) (hj2 : j2 < 6) (htb2 : tbK (wK W) j2 = (m2, c2)) (h12 : 1 ≤ m2) (hmm : m = m2) : RR 80 261 0 [some (.ref 146), some (.int (nI j)), some (.int (nI j2)), some (.int (nI 1)), none] [] g A (fun r__ g' A' => r__ = some (.int (nI (if dfN (m * m) (nmB 1 m c) (nmB 1 m c2) = 0 then 1 else 0))) ∧ WR (n + 1) g' A' W) := by
  have hsh := hW.1.1.1 j hj
  rw [show kH (wK W) (kD (wK W)) j = (m, c) from htb] at hsh
  have hok := tb_ok hO hj
  rw [htb] at hok
  have hk : A 1 (37 * j) = nI m := hsh.1
  have hl : Lat m c := hok.2
  have hm6 : m ≤ 6 := hok.1
  have hyes : isT A (nI j) := (has_r hW hO).mpr ((has_i hj).mpr (by rw [htb]; exact h1))
  have hsh2 := hW.1.1.1 j2 hj2
  rw [show kH (wK W) (kD (wK W)) j2 = (m2, c2) from htb2] at hsh2
  have hok2 := tb_ok hO hj2
  rw [htb2] at hok2
  have hk2 : A 1 (37 * j2) = nI m2 := hsh2.1
  have hl2 : Lat m2 c2 := hok2.2
  have hm62 : m2 ≤ 6 := hok2.1
  have hyes2 : isT A (nI j2) := (has_r hW hO).mpr ((has_i hj2).mpr (by rw [htb2]; exact h12))
  have h36 := Nat.mul_le_mul hm6 hm6
  have hpos : 0 < m * m := Nat.mul_pos h1 h1
  refine rr_nx (pc' := 1) (al' := [some (.ref 146), some (.int (nI j)), some (.int (nI j2)), some (.int (nI 1)), none]) (st' := [.ref 146]) d_261_0 (fun _ => rfl) ?_
  refine rr_nx (pc' := 2) (al' := [some (.ref 146), some (.int (nI j)), some (.int (nI j2)), some (.int (nI 1)), none]) (st' := [.int (nI j), .ref 146]) d_261_1 (fun _ => rfl) ?_
  refine rr_pv (as := [.int (nI j)]) (al0 := [some (.ref 146), some (.int (nI j))]) (r := []) d_261_2 mo_261 ml_124 mz_184 rfl rfl rfl (Nat.le_of_ble_eq_true rfl) (s_isTable (nI j)) ?_
  show RR _ _ 5 [some (.ref 146), some (.int (nI j)), some (.int (nI j2)), some (.int (nI 1)), none] [.int (bI (isT A (nI j)))] g A _
  refine rr_beq (t := 25) d_261_5 (by decide) (fun c5 => ?_) (fun c5 => ?_)
  · exact absurd hyes c5
  · refine rr_nx (pc' := 9) (al' := [some (.ref 146), some (.int (nI j)), some (.int (nI j2)), some (.int (nI 1)), none]) (st' := [.ref 146]) d_261_8 (fun _ => rfl) ?_
    refine rr_nx (pc' := 10) (al' := [some (.ref 146), some (.int (nI j)), some (.int (nI j2)), some (.int (nI 1)), none]) (st' := [.int (nI j2), .ref 146]) d_261_9 (fun _ => rfl) ?_
    refine rr_pv (as := [.int (nI j2)]) (al0 := [some (.ref 146), some (.int (nI j2))]) (r := []) d_261_10 mo_261 ml_124 mz_184 rfl rfl rfl (Nat.le_of_ble_eq_true rfl) (s_isTable (nI j2)) ?_
    show RR _ _ 13 [some (.ref 146), some (.int (nI j)), some (.int (nI j2)), some (.int (nI 1)), none] [.int (bI (isT A (nI j2)))] g A _
    refine rr_beq (t := 25) d_261_13 (by decide) (fun c13 => ?_) (fun c13 => ?_)
    · exact absurd hyes2 c13
    · refine rr_nx (pc' := 17) (al' := [some (.ref 146), some (.int (nI j)), some (.int (nI j2)), some (.int (nI 1)), none]) (st' := [.int (nI 1)]) d_261_16 (fun _ => rfl) ?_
      refine rn_ic (v := 0) d_261_17 (by decide) ?_
      refine rn_ic (v := 2) d_261_18 (by decide) ?_
      refine rr_ps (as := [.int (nI 1), .int (nI 0), .int (nI 2)]) (al0 := [some (.int (nI 1)), some (.int (nI 0)), some (.int (nI 2))]) (r := []) d_261_19 mo_261 ml_106 mz_179 rfl rfl rfl (Nat.le_of_ble_eq_true rfl) (s_lies (nI 1) (nI 0) (nI 2)) ?_
      show RR _ _ 22 [some (.ref 146), some (.int (nI j)), some (.int (nI j2)), some (.int (nI 1)), none] [.int (bI ((nI 0) ≤ (nI 1) ∧ (nI 1) ≤ (nI 2)))] g A _
      refine rr_bne (t := 27) d_261_22 (by decide) (fun c22 => ?_) (fun c22 => ?_)
      · refine rr_nx (pc' := 28) (al' := [some (.ref 146), some (.int (nI j)), some (.int (nI j2)), some (.int (nI 1)), none]) (st' := [.ref 146]) d_261_27 (fun _ => rfl) ?_
        refine rr_nx (pc' := 29) (al' := [some (.ref 146), some (.int (nI j)), some (.int (nI j2)), some (.int (nI 1)), none]) (st' := [.int (nI j), .ref 146]) d_261_28 (fun _ => rfl) ?_
        refine rr_pv (as := [.int (nI j)]) (al0 := [some (.ref 146), some (.int (nI j))]) (r := []) d_261_29 mo_261 ml_121 mz_186 rfl rfl rfl (Nat.le_of_ble_eq_true rfl) (s_ordN hj hk) ?_
        show RR _ _ 32 [some (.ref 146), some (.int (nI j)), some (.int (nI j2)), some (.int (nI 1)), none] [.int (nI m)] g A _
        refine rr_nx (pc' := 33) (al' := [some (.ref 146), some (.int (nI j)), some (.int (nI j2)), some (.int (nI 1)), none]) (st' := [.ref 146, .int (nI m)]) d_261_32 (fun _ => rfl) ?_
        refine rr_nx (pc' := 34) (al' := [some (.ref 146), some (.int (nI j)), some (.int (nI j2)), some (.int (nI 1)), none]) (st' := [.int (nI j2), .ref 146, .int (nI m)]) d_261_33 (fun _ => rfl) ?_
        refine rr_pv (as := [.int (nI j2)]) (al0 := [some (.ref 146), some (.int (nI j2))]) (r := [.int (nI m)]) d_261_34 mo_261 ml_121 mz_186 rfl rfl rfl (Nat.le_of_ble_eq_true rfl) (s_ordN hj2 hk2) ?_
        show RR _ _ 37 [some (.ref 146), some (.int (nI j)), some (.int (nI j2)), some (.int (nI 1)), none] [.int (nI m2), .int (nI m)] g A _
        refine rn_ceq (t := 42) d_261_37 (by decide) (by first | omega | assumption | exact cu_36 (by omega) (cu_lt (by omega) (by omega))) (by first | omega | assumption | exact cu_36 (by omega) (cu_lt (by omega) (by omega))) (fun c37 => ?_) (fun c37 => ?_)
        · refine rr_nx (pc' := 43) (al' := [some (.ref 146), some (.int (nI j)), some (.int (nI j2)), some (.int (nI 1)), none]) (st' := [.ref 146]) d_261_42 (fun _ => rfl) ?_
          refine rr_nx (pc' := 44) (al' := [some (.ref 146), some (.int (nI j)), some (.int (nI j2)), some (.int (nI 1)), none]) (st' := [.int (nI j), .ref 146]) d_261_43 (fun _ => rfl) ?_
          refine rr_nx (pc' := 45) (al' := [some (.ref 146), some (.int (nI j)), some (.int (nI j2)), some (.int (nI 1)), none]) (st' := [.int (nI 1), .int (nI j), .ref 146]) d_261_44 (fun _ => rfl) ?_
          refine rr_cv (as := [.int (nI j), .int (nI 1)]) (al0 := [some (.ref 146), some (.int (nI j)), some (.int (nI 1)), none, none, none, none]) (r := []) d_261_45 mo_261 ml_319 mz_259 rfl rfl rfl (rr_wk (Nat.le_of_ble_eq_true rfl) (s_names1k hj h1 hm6 hl hk hsh.2)) (fun v1 g1 A1 h1x => ?_)
          obtain ⟨q0_, h6_, hg1, ha1, b, hb, hM⟩ := h1x
          obtain rfl := q0_
          show RR _ _ 48 [some (.ref 146), some (.int (nI j)), some (.int (nI j2)), some (.int (nI 1)), none] [] g1 A1 _
          refine rn_ic (v := 0) d_261_48 (by decide) ?_
          refine rr_nx (pc' := 51) (al' := [some (.ref 146), some (.int (nI j)), some (.int (nI j2)), some (.int (nI 1)), some (.int (nI 0))]) (st' := []) d_261_49 (fun _ => rfl) ?_
          refine rr_A (show A1 = (rf_u A1 20 (A1 20)) by rw [rf_u_id]) ?_
          refine rr_upw (al := fun i w_ => [some (.ref 146), some (.int (nI j)), some (.int (nI j2)), some (.int (nI 1)), some (.int (nI i))]) (G := fun i w_ => g1) (B := fun i w_ => (rf_u A1 20 w_)) (P := fun i w_ => ∀ q, q < i → w_ q = A1 19 q) (n := 36) (fun i w_ hi pi ihi => ?_) (fun w_ pi => ?_) 0 (A1 20) (by omega) (all_0)
          · show RR _ _ 51 [some (.ref 146), some (.int (nI j)), some (.int (nI j2)), some (.int (nI 1)), some (.int (nI i))] [] g1 (rf_u A1 20 w_) _
            refine rr_nx (pc' := 53) (al' := [some (.ref 146), some (.int (nI j)), some (.int (nI j2)), some (.int (nI 1)), some (.int (nI i))]) (st' := [.int (nI i)]) d_261_51 (fun _ => rfl) ?_
            refine rn_bp (v := 36) d_261_53 (by decide) ?_
            refine rn_cge (t := 78) d_261_55 (by decide) (by omega) (by decide) (fun c55 => ?_) (fun c55 => ?_)
            · omega
            · refine rr_nx (pc' := 59) (al' := [some (.ref 146), some (.int (nI j)), some (.int (nI j2)), some (.int (nI 1)), some (.int (nI i))]) (st' := [.ref 146]) d_261_58 (fun _ => rfl) ?_
              refine rr_gf (v := .ref (147 + 20)) d_261_59 mo_261 fl_76 rfl ?_
              refine rr_nx (pc' := 64) (al' := [some (.ref 146), some (.int (nI j)), some (.int (nI j2)), some (.int (nI 1)), some (.int (nI i))]) (st' := [.int (nI i), .ref (147 + 20)]) d_261_62 (fun _ => rfl) ?_
              refine rr_nx (pc' := 65) (al' := [some (.ref 146), some (.int (nI j)), some (.int (nI j2)), some (.int (nI 1)), some (.int (nI i))]) (st' := [.ref 146, .int (nI i), .ref (147 + 20)]) d_261_64 (fun _ => rfl) ?_
              refine rr_gf (v := .ref (147 + 19)) d_261_65 mo_261 fl_73 rfl ?_
              refine rr_nx (pc' := 70) (al' := [some (.ref 146), some (.int (nI j)), some (.int (nI j2)), some (.int (nI 1)), some (.int (nI i))]) (st' := [.int (nI i), .ref (147 + 19), .int (nI i), .ref (147 + 20)]) d_261_68 (fun _ => rfl) ?_
              refine rr_ia (j := 19) (v := (A1 19 i)) d_261_70 (by decide) rfl (by decide) (show i < 36 by first | omega | assumption | exact cu_36 (by omega) (cu_lt (by omega) (by omega))) (by rw [rf_u_n (by decide)]) ?_
              refine rr_iS (j := 20) (A1 := (rf_u A1 20 (upd w_ i (A1 19 i)))) d_261_71 (by decide) rfl (by decide) (show i < 36 by first | omega | assumption | exact cu_36 (by omega) (cu_lt (by omega) (by omega))) rf_uw ?_
              refine rn_inc d_261_72 rfl rfl ?_
              show RR _ _ 75 [some (.ref 146), some (.int (nI j)), some (.int (nI j2)), some (.int (nI 1)), some (.int (nI (i + 1)))] [] g1 (rf_u A1 20 (upd w_ i (A1 19 i))) _
              refine rr_nx (pc' := 51) (al' := [some (.ref 146), some (.int (nI j)), some (.int (nI j2)), some (.int (nI 1)), some (.int (nI (i + 1)))]) (st' := []) d_261_75 (fun _ => rfl) ?_
              exact ihi (upd w_ i (A1 19 i)) (up_all (f := fun q => A1 19 q) pi rfl)
          · show RR _ _ 51 [some (.ref 146), some (.int (nI j)), some (.int (nI j2)), some (.int (nI 1)), some (.int (nI 36))] [] g1 (rf_u A1 20 w_) _
            refine rr_nx (pc' := 53) (al' := [some (.ref 146), some (.int (nI j)), some (.int (nI j2)), some (.int (nI 1)), some (.int (nI 36))]) (st' := [.int (nI 36)]) d_261_51 (fun _ => rfl) ?_
            refine rn_bp (v := 36) d_261_53 (by decide) ?_
            refine rn_cge (t := 78) d_261_55 (by decide) (by omega) (by decide) (fun c55 => ?_) (fun c55 => ?_)
            · refine rr_nx (pc' := 79) (al' := [some (.ref 146), some (.int (nI j)), some (.int (nI j2)), some (.int (nI 1)), some (.int (nI 36))]) (st' := [.ref 146]) d_261_78 (fun _ => rfl) ?_
              refine rr_nx (pc' := 80) (al' := [some (.ref 146), some (.int (nI j)), some (.int (nI j2)), some (.int (nI 1)), some (.int (nI 36))]) (st' := [.int (nI j2), .ref 146]) d_261_79 (fun _ => rfl) ?_
              refine rr_nx (pc' := 81) (al' := [some (.ref 146), some (.int (nI j)), some (.int (nI j2)), some (.int (nI 1)), some (.int (nI 36))]) (st' := [.int (nI 1), .int (nI j2), .ref 146]) d_261_80 (fun _ => rfl) ?_
              have hA1 : (rf_u A1 20 w_) 1 = A 1 := (rf_u_n (by decide)).trans (ha1 1 rfl)
              have hk2b : (rf_u A1 20 w_) 1 (37 * j2) = nI m2 := by rw [hA1]; exact hk2
              have hs2b : ∀ q, q < m2 * m2 → (rf_u A1 20 w_) 1 (37 * j2 + 1 + q) = nI (c2 q) := by rw [hA1]; exact hsh2.2
              refine rr_cv (as := [.int (nI j2), .int (nI 1)]) (al0 := [some (.ref 146), some (.int (nI j2)), some (.int (nI 1)), none, none, none, none]) (r := []) d_261_81 mo_261 ml_319 mz_259 rfl rfl rfl (rr_wk (Nat.le_of_ble_eq_true rfl) (s_names1k hj2 h12 hm62 hl2 hk2b hs2b)) (fun v2 g2 A2 h2x => ?_)
              obtain ⟨q0_, h6b_, hg2, ha2, b2, hb2, hM2⟩ := h2x
              obtain rfl := q0_
              have h20 : ∀ q, q < 36 → A2 20 q = A1 19 q := fun q hq => by rw [ha2 20 rfl, rf_u_s]; exact pi q hq
              subst hmm
              show RR _ _ 84 [some (.ref 146), some (.int (nI j)), some (.int (nI j2)), some (.int (nI 1)), some (.int (nI 36))] [] g2 A2 _
              refine rn_ic (v := 0) d_261_84 (by decide) ?_
              refine rr_nx (pc' := 87) (al' := [some (.ref 146), some (.int (nI j)), some (.int (nI j2)), some (.int (nI 1)), some (.int (nI 0))]) (st' := []) d_261_85 (fun _ => rfl) ?_
              refine rr_up (al := fun i => [some (.ref 146), some (.int (nI j)), some (.int (nI j2)), some (.int (nI 1)), some (.int (nI i))]) (G := fun i => g2) (B := fun i => A2) (P := fun i => ∀ q, q < i → b2 q = b q) (n := m * m) (fun i hi pi ihi => ?_) (fun pi => ?_) 0  (by omega) (all_0)
              · show RR _ _ 87 [some (.ref 146), some (.int (nI j)), some (.int (nI j2)), some (.int (nI 1)), some (.int (nI i))] [] g2 A2 _
                refine rr_nx (pc' := 89) (al' := [some (.ref 146), some (.int (nI j)), some (.int (nI j2)), some (.int (nI 1)), some (.int (nI i))]) (st' := [.int (nI i)]) d_261_87 (fun _ => rfl) ?_
                refine rr_nx (pc' := 90) (al' := [some (.ref 146), some (.int (nI j)), some (.int (nI j2)), some (.int (nI 1)), some (.int (nI i))]) (st' := [.ref 146, .int (nI i)]) d_261_89 (fun _ => rfl) ?_
                refine rr_gn d_261_90 mo_261 fl_127 rfl h6b_ ?_
                refine rr_nx (pc' := 94) (al' := [some (.ref 146), some (.int (nI j)), some (.int (nI j2)), some (.int (nI 1)), some (.int (nI i))]) (st' := [.ref 146, .int (nI m), .int (nI i)]) d_261_93 (fun _ => rfl) ?_
                refine rr_gn d_261_94 mo_261 fl_127 rfl h6b_ ?_
                refine rn_mul d_261_97  ?_
                refine rn_cge (t := 126) d_261_98 (by decide) (by omega) (by omega) (fun c98 => ?_) (fun c98 => ?_)
                · omega
                · refine rr_nx (pc' := 102) (al' := [some (.ref 146), some (.int (nI j)), some (.int (nI j2)), some (.int (nI 1)), some (.int (nI i))]) (st' := [.ref 146]) d_261_101 (fun _ => rfl) ?_
                  refine rr_gf (v := .ref (147 + 19)) d_261_102 mo_261 fl_73 rfl ?_
                  refine rr_nx (pc' := 107) (al' := [some (.ref 146), some (.int (nI j)), some (.int (nI j2)), some (.int (nI 1)), some (.int (nI i))]) (st' := [.int (nI i), .ref (147 + 19)]) d_261_105 (fun _ => rfl) ?_
                  refine rr_ia (j := 19) (v := (nI (b2 i))) d_261_107 (by decide) rfl (by decide) (show i < 36 by omega) (hb2 i hi).1 ?_
                  refine rr_nx (pc' := 109) (al' := [some (.ref 146), some (.int (nI j)), some (.int (nI j2)), some (.int (nI 1)), some (.int (nI i))]) (st' := [.ref 146, .int (nI (b2 i))]) d_261_108 (fun _ => rfl) ?_
                  refine rr_gf (v := .ref (147 + 20)) d_261_109 mo_261 fl_76 rfl ?_
                  refine rr_nx (pc' := 114) (al' := [some (.ref 146), some (.int (nI j)), some (.int (nI j2)), some (.int (nI 1)), some (.int (nI i))]) (st' := [.int (nI i), .ref (147 + 20), .int (nI (b2 i))]) d_261_112 (fun _ => rfl) ?_
                  refine rr_ia (j := 20) (v := (nI (b i))) d_261_114 (by decide) rfl (by decide) (show i < 36 by omega) ((h20 i (by omega)).trans (hb i hi).1) ?_
                  refine rn_ceq (t := 120) d_261_115 (by decide) (by have := (hb2 i hi).2; omega) (by have := (hb i hi).2; omega) (fun c115 => ?_) (fun c115 => ?_)
                  · refine rn_inc d_261_120 rfl rfl ?_
                    show RR _ _ 123 [some (.ref 146), some (.int (nI j)), some (.int (nI j2)), some (.int (nI 1)), some (.int (nI (i + 1)))] [] g2 A2 _
                    refine rr_nx (pc' := 87) (al' := [some (.ref 146), some (.int (nI j)), some (.int (nI j2)), some (.int (nI 1)), some (.int (nI (i + 1)))]) (st' := []) d_261_123 (fun _ => rfl) ?_
                    exact ihi  (all_s pi c115)
                  · refine rn_ic (v := 0) d_261_118 (by decide) ?_
                    exact rr_ri d_261_119 mr_261 rfl ⟨by rw [if_neg (fun e_ => df_p (q := i) hi (fun e2_ => c115 (by rw [nmb_e hM i hi, nmb_e hM2 i hi, e2_])) e_)], (hW.q (hg1.tr hg2) (((ha1.k).tr (Ksm.rf.u rfl)).tr ha2.k)).mo⟩
              · show RR _ _ 87 [some (.ref 146), some (.int (nI j)), some (.int (nI j2)), some (.int (nI 1)), some (.int (nI (m * m)))] [] g2 A2 _
                refine rr_nx (pc' := 89) (al' := [some (.ref 146), some (.int (nI j)), some (.int (nI j2)), some (.int (nI 1)), some (.int (nI (m * m)))]) (st' := [.int (nI (m * m))]) d_261_87 (fun _ => rfl) ?_
                refine rr_nx (pc' := 90) (al' := [some (.ref 146), some (.int (nI j)), some (.int (nI j2)), some (.int (nI 1)), some (.int (nI (m * m)))]) (st' := [.ref 146, .int (nI (m * m))]) d_261_89 (fun _ => rfl) ?_
                refine rr_gn d_261_90 mo_261 fl_127 rfl h6b_ ?_
                refine rr_nx (pc' := 94) (al' := [some (.ref 146), some (.int (nI j)), some (.int (nI j2)), some (.int (nI 1)), some (.int (nI (m * m)))]) (st' := [.ref 146, .int (nI m), .int (nI (m * m))]) d_261_93 (fun _ => rfl) ?_
                refine rr_gn d_261_94 mo_261 fl_127 rfl h6b_ ?_
                refine rn_mul d_261_97  ?_
                refine rn_cge (t := 126) d_261_98 (by decide) (by omega) (by omega) (fun c98 => ?_) (fun c98 => ?_)
                · refine rn_ic (v := 1) d_261_126 (by decide) ?_
                  exact rr_ri d_261_127 mr_261 rfl ⟨by rw [if_pos (df_00 (fun q hq => by rw [← nmb_e hM q hq, ← nmb_e hM2 q hq]; exact (pi q hq).symm))], (hW.q (hg1.tr hg2) (((ha1.k).tr (Ksm.rf.u rfl)).tr ha2.k)).mo⟩
                · omega
            · omega
        · exact absurd hmm c37
      · exact absurd (show nI 0 ≤ nI 1 ∧ nI 1 ≤ nI 2 by decide) c22
theorem p_alike2 {S : CS} {G : Nat → Nat → Value} {B : Nat → Nat → Int32} {J : Nat → Nat → Int64} {R : Nat → Nat → Option Nat} {n : Nat} {W : WS} (hW : WC n S G B R W) {j m j2 m2 : Nat} {c c2 : Nat → Nat} (hj : j < 6) (htb : tbK (wK W) j = (m, c)) (h1 : 1 ≤ m) (hj2 : j2 < 6) (htb2 : tbK (wK W) j2 = (m2, c2)) (h12 : 1 ≤ m2) (hmm : m = m2) : CR 80 158 0 [some (.ref 2), some (.int (nI j)), some (.int (nI j2)), some (.int (nI 2)), none, none] [] S G B J R (fun r__ S' G' B' J' R' => r__ = some (.int (nI (if dfN (m * m) (nmB 2 m c) (nmB 2 m c2) = 0 then 1 else 0))) ∧ WC (n + 1) S' G' B' R' W) := by
  have hS := hW.1.1
  have hF := hW.2.1
  have hO := hW.2.2.2.1
  obtain ⟨ta, ka, la, hH, hLk, hl2, hs3, hbd⟩ := hW.2.2.1
  obtain ⟨zt, hzt, ezt⟩ := (hH.2.1 j hj).2
  have ht := hH.ta hj
  have hsh := hH.2.2.2.2.2.2.1 j hj
  rw [show kH (wK W) (kD (wK W)) j = (m, c) from htb] at hsh
  have hok := tb_ok hO hj
  rw [htb] at hok
  have hn : G (ta j) 0 = .int (nI m) := hsh.1
  have hc : TabC B (ta j) m c := hsh.c hok
  have hl : Lat m c := hok.2
  have hm6 : m ≤ 6 := hok.1
  have hyes : hasP (wK W) (nI j) := (has_i hj).mpr (by rw [htb]; exact h1)
  obtain ⟨zt2, hzt2, ezt2⟩ := (hH.2.1 j2 hj2).2
  have ht2 := hH.ta hj2
  have hsh2 := hH.2.2.2.2.2.2.1 j2 hj2
  rw [show kH (wK W) (kD (wK W)) j2 = (m2, c2) from htb2] at hsh2
  have hok2 := tb_ok hO hj2
  rw [htb2] at hok2
  have hn2 : G (ta j2) 0 = .int (nI m2) := hsh2.1
  have hc2 : TabC B (ta j2) m2 c2 := hsh2.c hok2
  have hl2 : Lat m2 c2 := hok2.2
  have hm62 : m2 ≤ 6 := hok2.1
  have hyes2 : hasP (wK W) (nI j2) := (has_i hj2).mpr (by rw [htb2]; exact h12)
  refine cr_nx (pc' := 1) (al' := [some (.ref 2), some (.int (nI j)), some (.int (nI j2)), some (.int (nI 2)), none, none]) (st' := [.ref 2]) d_158_0 (fun _ => rfl) ?_
  refine cr_nx (pc' := 2) (al' := [some (.ref 2), some (.int (nI j)), some (.int (nI j2)), some (.int (nI 2)), none, none]) (st' := [.int (nI j), .ref 2]) d_158_1 (fun _ => rfl) ?_
  refine cr_pv (b := 2) (as := [.int (nI j)]) (al0 := [some (.ref 2), some (.int (nI j))]) (r := []) d_158_2 cw_158 cm_11_137 cz_126 rfl rfl (hS.i (a := 2) (by decide) (by decide)) (by rw [cw_126]; exact (hS.s (a := 2) (by decide) (by decide) rfl)) (by rw [cw_126]; decide) rfl (Nat.le_of_ble_eq_true rfl) (k_has hS hF hH hO) ?_
  show CR _ _ 5 [some (.ref 2), some (.int (nI j)), some (.int (nI j2)), some (.int (nI 2)), none, none] [.int (bI (hasP (wK W) (nI j)))] S G B J R _
  refine cr_beq (t := 23) d_158_5 (by decide) (fun c5 => ?_) (fun c5 => ?_)
  · exact absurd hyes c5
  · refine cr_nx (pc' := 9) (al' := [some (.ref 2), some (.int (nI j)), some (.int (nI j2)), some (.int (nI 2)), none, none]) (st' := [.ref 2]) d_158_8 (fun _ => rfl) ?_
    refine cr_nx (pc' := 10) (al' := [some (.ref 2), some (.int (nI j)), some (.int (nI j2)), some (.int (nI 2)), none, none]) (st' := [.int (nI j2), .ref 2]) d_158_9 (fun _ => rfl) ?_
    refine cr_pv (b := 2) (as := [.int (nI j2)]) (al0 := [some (.ref 2), some (.int (nI j2))]) (r := []) d_158_10 cw_158 cm_11_137 cz_126 rfl rfl (hS.i (a := 2) (by decide) (by decide)) (by rw [cw_126]; exact (hS.s (a := 2) (by decide) (by decide) rfl)) (by rw [cw_126]; decide) rfl (Nat.le_of_ble_eq_true rfl) (k_has hS hF hH hO) ?_
    show CR _ _ 13 [some (.ref 2), some (.int (nI j)), some (.int (nI j2)), some (.int (nI 2)), none, none] [.int (bI (hasP (wK W) (nI j2)))] S G B J R _
    refine cr_beq (t := 23) d_158_13 (by decide) (fun c13 => ?_) (fun c13 => ?_)
    · exact absurd hyes2 c13
    · refine cr_nx (pc' := 17) (al' := [some (.ref 2), some (.int (nI j)), some (.int (nI j2)), some (.int (nI 2)), none, none]) (st' := [.int (nI 2)]) d_158_16 (fun _ => rfl) ?_
      refine cr_ps (as := [.int (nI 2)]) (al0 := [some (.int (nI 2))]) (r := []) d_158_17 cw_158 cm_11_302 (by decide) cz_156 rfl rfl rfl (Nat.le_of_ble_eq_true rfl) (k_isLikeness) ?_
      show CR _ _ 20 [some (.ref 2), some (.int (nI j)), some (.int (nI j2)), some (.int (nI 2)), none, none] [.int (bI (inP (nI 2) 3))] S G B J R _
      refine cr_bne (t := 25) d_158_20 (by decide) (fun c20 => ?_) (fun c20 => ?_)
      · refine cr_nx (pc' := 26) (al' := [some (.ref 2), some (.int (nI j)), some (.int (nI j2)), some (.int (nI 2)), none, none]) (st' := [.ref 2]) d_158_25 (fun _ => rfl) ?_
        refine cr_gf (v := .ref 3) d_158_26 cw_158 cf_11_10 (hS.i (a := 2) (by decide) (by decide)) (hS.s (a := 2) (by decide) (by decide) rfl) (by decide) (fx_2_0 hF) ?_
        refine cr_gf (v := .ref 4) d_158_29 cw_158 cf_11_140 (hS.i (a := 3) (by decide) (by decide)) (hS.s (a := 3) (by decide) (by decide) rfl) (by decide) (fx_3_0 hF) ?_
        refine cr_nx (pc' := 33) (al' := [some (.ref 2), some (.int (nI j)), some (.int (nI j2)), some (.int (nI 2)), none, none]) (st' := [.int (nI j), .ref 4]) d_158_32 (fun _ => rfl) ?_
        refine cr_aa (a := 4) (v := .ref (ta j)) d_158_33 (hS.i (a := 4) (by decide) (by decide)) (by decide) (hS.s (a := 4) (by decide) (by decide) rfl) (by decide) (show j < 6 by first | omega | assumption | exact cu_36 (by omega) (cu_lt (by omega) (by omega))) (show va_rf _ = _ by rw [(hH.2.1 j hj).1]; rfl) ?_
        refine cr_gf (v := .int (nI m)) d_158_34 cw_158 cf_11_112 ht.1 ht.2.2.1 (by decide) hn ?_
        refine cr_nx (pc' := 38) (al' := [some (.ref 2), some (.int (nI j)), some (.int (nI j2)), some (.int (nI 2)), none, none]) (st' := [.ref 2, .int (nI m)]) d_158_37 (fun _ => rfl) ?_
        refine cr_gf (v := .ref 3) d_158_38 cw_158 cf_11_10 (hS.i (a := 2) (by decide) (by decide)) (hS.s (a := 2) (by decide) (by decide) rfl) (by decide) (fx_2_0 hF) ?_
        refine cr_gf (v := .ref 4) d_158_41 cw_158 cf_11_140 (hS.i (a := 3) (by decide) (by decide)) (hS.s (a := 3) (by decide) (by decide) rfl) (by decide) (fx_3_0 hF) ?_
        refine cr_nx (pc' := 45) (al' := [some (.ref 2), some (.int (nI j)), some (.int (nI j2)), some (.int (nI 2)), none, none]) (st' := [.int (nI j2), .ref 4, .int (nI m)]) d_158_44 (fun _ => rfl) ?_
        refine cr_aa (a := 4) (v := .ref (ta j2)) d_158_45 (hS.i (a := 4) (by decide) (by decide)) (by decide) (hS.s (a := 4) (by decide) (by decide) rfl) (by decide) (show j2 < 6 by first | omega | assumption | exact cu_36 (by omega) (cu_lt (by omega) (by omega))) (show va_rf _ = _ by rw [(hH.2.1 j2 hj2).1]; rfl) ?_
        refine cr_gf (v := .int (nI m2)) d_158_46 cw_158 cf_11_112 ht2.1 ht2.2.2.1 (by decide) hn2 ?_
        refine cn_ceq (t := 54) d_158_49 (by decide) (by first | omega | assumption | exact cu_36 (by omega) (cu_lt (by omega) (by omega))) (by first | omega | assumption | exact cu_36 (by omega) (cu_lt (by omega) (by omega))) (fun c49 => ?_) (fun c49 => ?_)
        · refine cr_nx (pc' := 55) (al' := [some (.ref 2), some (.int (nI j)), some (.int (nI j2)), some (.int (nI 2)), none, none]) (st' := [.ref 2]) d_158_54 (fun _ => rfl) ?_
          refine cr_gf (v := .ref 111) d_158_55 cw_158 cf_11_69 (hS.i (a := 2) (by decide) (by decide)) (hS.s (a := 2) (by decide) (by decide) rfl) (by decide) (fx_2_11 hF) ?_
          refine cr_nx (pc' := 59) (al' := [some (.ref 2), some (.int (nI j)), some (.int (nI j2)), some (.int (nI 2)), none, none]) (st' := [.ref 2, .ref 111]) d_158_58 (fun _ => rfl) ?_
          refine cr_gf (v := .ref 3) d_158_59 cw_158 cf_11_10 (hS.i (a := 2) (by decide) (by decide)) (hS.s (a := 2) (by decide) (by decide) rfl) (by decide) (fx_2_0 hF) ?_
          refine cr_gf (v := .ref 4) d_158_62 cw_158 cf_11_140 (hS.i (a := 3) (by decide) (by decide)) (hS.s (a := 3) (by decide) (by decide) rfl) (by decide) (fx_3_0 hF) ?_
          refine cr_nx (pc' := 66) (al' := [some (.ref 2), some (.int (nI j)), some (.int (nI j2)), some (.int (nI 2)), none, none]) (st' := [.int (nI j), .ref 4, .ref 111]) d_158_65 (fun _ => rfl) ?_
          refine cr_aa (a := 4) (v := .ref (ta j)) d_158_66 (hS.i (a := 4) (by decide) (by decide)) (by decide) (hS.s (a := 4) (by decide) (by decide) rfl) (by decide) (show j < 6 by first | omega | assumption | exact cu_36 (by omega) (cu_lt (by omega) (by omega))) (show va_rf _ = _ by rw [(hH.2.1 j hj).1]; rfl) ?_
          refine cr_nx (pc' := 68) (al' := [some (.ref 2), some (.int (nI j)), some (.int (nI j2)), some (.int (nI 2)), none, none]) (st' := [.int (nI 2), .ref (ta j), .ref 111]) d_158_67 (fun _ => rfl) ?_
          refine cr_cv (b := 111) (as := [.ref (ta j), .int (nI 2)]) (al0 := [some (.ref 111), some (.ref (ta j)), some (.int (nI 2)), none]) (r := []) d_158_68 cw_158 cm_11_305 cz_40 rfl rfl (hS.i (a := 111) (by decide) (by decide)) (by rw [cw_40]; exact (hS.s (a := 111) (by decide) (by decide) rfl)) (by rw [cw_40]; decide) rfl (cr_wk (Nat.le_of_ble_eq_true rfl) (k_nameOf2_111 hS hF ht hn hc hl h1 (by omega) hW.2.2.2.2.2.2.2.2.2.2.1)) (fun v1 S1 G1 B1 J1 R1 h1x => ?_)
          obtain ⟨q0_, q1_, q2_, q3_, hF1, hg1, hb1, hk1, h8_, bb, hbb, hM⟩ := h1x
          obtain rfl := q0_
          obtain rfl := q1_.symm
          obtain rfl := q2_.symm
          obtain rfl := q3_.symm
          have hW1 : WC n S G1 B1 R W := hW.qn hF1 (hg1.mo (by decide)) (hb1.mo (by decide)) hk1 (nm_2 hW.2.2.2.2.2.2.2.2.2.2.2 (hg1 _ (by decide)) (hg1 _ (by decide)) (hg1 _ (by decide)) (hb1 _ (by decide)) (hb1 _ (by decide)))
          show CR _ _ 71 [some (.ref 2), some (.int (nI j)), some (.int (nI j2)), some (.int (nI 2)), none, none] [.ref 114] S G1 B1 J R _
          refine cr_nx (pc' := 73) (al' := [some (.ref 2), some (.int (nI j)), some (.int (nI j2)), some (.int (nI 2)), some (.ref 114), none]) (st' := []) d_158_71 (fun _ => rfl) ?_
          refine cr_nx (pc' := 74) (al' := [some (.ref 2), some (.int (nI j)), some (.int (nI j2)), some (.int (nI 2)), some (.ref 114), none]) (st' := [.ref 2]) d_158_73 (fun _ => rfl) ?_
          refine cr_gf (v := .ref 122) d_158_74 cw_158 cf_11_73 (hS.i (a := 2) (by decide) (by decide)) (hS.s (a := 2) (by decide) (by decide) rfl) (by decide) (fx_2_12 hF1) ?_
          refine cr_nx (pc' := 78) (al' := [some (.ref 2), some (.int (nI j)), some (.int (nI j2)), some (.int (nI 2)), some (.ref 114), none]) (st' := [.ref 2, .ref 122]) d_158_77 (fun _ => rfl) ?_
          refine cr_gf (v := .ref 3) d_158_78 cw_158 cf_11_10 (hS.i (a := 2) (by decide) (by decide)) (hS.s (a := 2) (by decide) (by decide) rfl) (by decide) (fx_2_0 hF1) ?_
          refine cr_gf (v := .ref 4) d_158_81 cw_158 cf_11_140 (hS.i (a := 3) (by decide) (by decide)) (hS.s (a := 3) (by decide) (by decide) rfl) (by decide) (fx_3_0 hF1) ?_
          refine cr_nx (pc' := 85) (al' := [some (.ref 2), some (.int (nI j)), some (.int (nI j2)), some (.int (nI 2)), some (.ref 114), none]) (st' := [.int (nI j2), .ref 4, .ref 122]) d_158_84 (fun _ => rfl) ?_
          refine cr_aa (a := 4) (v := .ref (ta j2)) d_158_85 (hS.i (a := 4) (by decide) (by decide)) (by decide) (hS.s (a := 4) (by decide) (by decide) rfl) (by decide) (show j2 < 6 by first | omega | assumption | exact cu_36 (by omega) (cu_lt (by omega) (by omega))) (show va_rf _ = _ by rw [(hH.2.1 j2 hj2).1]; rfl) ?_
          refine cr_nx (pc' := 87) (al' := [some (.ref 2), some (.int (nI j)), some (.int (nI j2)), some (.int (nI 2)), some (.ref 114), none]) (st' := [.int (nI 2), .ref (ta j2), .ref 122]) d_158_86 (fun _ => rfl) ?_
          have ht2b : TabAt S G1 (ta j2) := hg1.t (by simp; omega) ht2
          have hn2b : G1 (ta j2) 0 = .int (nI m2) := by rw [hg1 _ (by simp; omega)]; exact hn2
          have hc2b : TabC B1 (ta j2) m2 c2 := hb1.c (by simp; omega) hc2
          refine cr_cv (b := 122) (as := [.ref (ta j2), .int (nI 2)]) (al0 := [some (.ref 122), some (.ref (ta j2)), some (.int (nI 2)), none]) (r := []) d_158_87 cw_158 cm_11_305 cz_40 rfl rfl (hS.i (a := 122) (by decide) (by decide)) (by rw [cw_40]; exact (hS.s (a := 122) (by decide) (by decide) rfl)) (by rw [cw_40]; decide) rfl (cr_wk (Nat.le_of_ble_eq_true rfl) (k_nameOf2_122 hS hF1 ht2b hn2b hc2b hl2 h12 (by omega) hW1.2.2.2.2.2.2.2.2.2.2.2)) (fun v2 S2 G2 B2 J2 R2 h2x => ?_)
          obtain ⟨q0_, q1_, q2_, q3_, hF2, hg2, hb2, hk2, h9_, bb2, hbb2, hM2⟩ := h2x
          obtain rfl := q0_
          obtain rfl := q1_.symm
          obtain rfl := q2_.symm
          obtain rfl := q3_.symm
          have hW2 : WC n S G2 B2 R W := hW1.qn hF2 (hg2.mo (by decide)) (hb2.mo (by decide)) (nm_1 hk1 (hg2 _ (by decide)) (hg2 _ (by decide)) (hg2 _ (by decide)) (hb2 _ (by decide)) (hb2 _ (by decide))) hk2
          subst hmm
          show CR _ _ 90 [some (.ref 2), some (.int (nI j)), some (.int (nI j2)), some (.int (nI 2)), some (.ref 114), none] [.ref 125] S G2 B2 J R _
          refine cr_nx (pc' := 92) (al' := [some (.ref 2), some (.int (nI j)), some (.int (nI j2)), some (.int (nI 2)), some (.ref 114), some (.ref 125)]) (st' := []) d_158_90 (fun _ => rfl) ?_
          refine cr_nx (pc' := 94) (al' := [some (.ref 2), some (.int (nI j)), some (.int (nI j2)), some (.int (nI 2)), some (.ref 114), some (.ref 125)]) (st' := [.ref 114]) d_158_92 (fun _ => rfl) ?_
          refine cr_nx (pc' := 96) (al' := [some (.ref 2), some (.int (nI j)), some (.int (nI j2)), some (.int (nI 2)), some (.ref 114), some (.ref 125)]) (st' := [.ref 125, .ref 114]) d_158_94 (fun _ => rfl) ?_
          have t114 : TabC B2 114 m bb := ⟨hm6, fun q hq => ⟨by rw [hb2 _ (by decide)]; exact (hbb q hq).1, (hbb q hq).2⟩⟩
          have t125 : TabC B2 125 m bb2 := ⟨hm6, hbb2⟩
          have hdf : dfN (m * m) bb bb2 = dfN (m * m) (nmB 2 m c) (nmB 2 m c2) := df_cg (nmb_e hM) (nmb_e hM2)
          refine cr_pv (b := 114) (as := [.ref 125]) (al0 := [some (.ref 114), some (.ref 125), none, none]) (r := []) d_158_96 cw_158 cm_11_309 cz_109 rfl rfl (hS.i (a := 114) (by decide) (by decide)) (by rw [cw_109]; exact (hS.s (a := 114) (by decide) (by decide) rfl)) (by rw [cw_109]; decide) rfl (Nat.le_of_ble_eq_true rfl) (k_differences (tb_114 hS hF2) (by rw [hg2 _ (by decide)]; exact h8_) t114 (tb_125 hS hF2) t125) ?_
          show CR _ _ 99 [some (.ref 2), some (.int (nI j)), some (.int (nI j2)), some (.int (nI 2)), some (.ref 114), some (.ref 125)] [.int (nI (dfN (m * m) bb bb2))] S G2 B2 J R _
          refine cn_ine (t := 106) d_158_99 (by decide) (by have := dfN_le (m * m) bb bb2; have := Nat.mul_le_mul hm6 hm6; omega) (fun c99 => ?_) (fun c99 => ?_)
          · refine cn_ic (v := 0) d_158_106 (by decide) ?_
            exact cr_ri d_158_107 cx_158 rfl ⟨by rw [if_neg (fun e_ => by rw [← hdf] at e_; omega)], hW2.mo⟩
          · refine cn_ic (v := 1) d_158_102 (by decide) ?_
            refine cr_nx (pc' := 107) (al' := [some (.ref 2), some (.int (nI j)), some (.int (nI j2)), some (.int (nI 2)), some (.ref 114), some (.ref 125)]) (st' := [.int (nI 1)]) d_158_103 (fun _ => rfl) ?_
            exact cr_ri d_158_107 cx_158 rfl ⟨by rw [if_pos (hdf ▸ c99)], hW2.mo⟩
        · exact absurd hmm c49
      · exact absurd ((in_j (by decide)).mpr (by decide)) c20
theorem r_alike2 {g : Nat → Int32} {A : Nat → Nat → Int32} {n : Nat} {W : WS} (hW : WR n g A W) (hO : CoOk (wK W)) {j m j2 m2 : Nat} {c c2 : Nat → Nat} (hj : j < 6) (htb : tbK (wK W) j = (m, c)) (h1 : 1 ≤ m) (hj2 : j2 < 6) (htb2 : tbK (wK W) j2 = (m2, c2)) (h12 : 1 ≤ m2) (hmm : m = m2) : RR 80 261 0 [some (.ref 146), some (.int (nI j)), some (.int (nI j2)), some (.int (nI 2)), none] [] g A (fun r__ g' A' => r__ = some (.int (nI (if dfN (m * m) (nmB 2 m c) (nmB 2 m c2) = 0 then 1 else 0))) ∧ WR (n + 1) g' A' W) := by
  have hsh := hW.1.1.1 j hj
  rw [show kH (wK W) (kD (wK W)) j = (m, c) from htb] at hsh
  have hok := tb_ok hO hj
  rw [htb] at hok
  have hk : A 1 (37 * j) = nI m := hsh.1
  have hl : Lat m c := hok.2
  have hm6 : m ≤ 6 := hok.1
  have hyes : isT A (nI j) := (has_r hW hO).mpr ((has_i hj).mpr (by rw [htb]; exact h1))
  have hsh2 := hW.1.1.1 j2 hj2
  rw [show kH (wK W) (kD (wK W)) j2 = (m2, c2) from htb2] at hsh2
  have hok2 := tb_ok hO hj2
  rw [htb2] at hok2
  have hk2 : A 1 (37 * j2) = nI m2 := hsh2.1
  have hl2 : Lat m2 c2 := hok2.2
  have hm62 : m2 ≤ 6 := hok2.1
  have hyes2 : isT A (nI j2) := (has_r hW hO).mpr ((has_i hj2).mpr (by rw [htb2]; exact h12))
  have h36 := Nat.mul_le_mul hm6 hm6
  have hpos : 0 < m * m := Nat.mul_pos h1 h1
  refine rr_nx (pc' := 1) (al' := [some (.ref 146), some (.int (nI j)), some (.int (nI j2)), some (.int (nI 2)), none]) (st' := [.ref 146]) d_261_0 (fun _ => rfl) ?_
  refine rr_nx (pc' := 2) (al' := [some (.ref 146), some (.int (nI j)), some (.int (nI j2)), some (.int (nI 2)), none]) (st' := [.int (nI j), .ref 146]) d_261_1 (fun _ => rfl) ?_
  refine rr_pv (as := [.int (nI j)]) (al0 := [some (.ref 146), some (.int (nI j))]) (r := []) d_261_2 mo_261 ml_124 mz_184 rfl rfl rfl (Nat.le_of_ble_eq_true rfl) (s_isTable (nI j)) ?_
  show RR _ _ 5 [some (.ref 146), some (.int (nI j)), some (.int (nI j2)), some (.int (nI 2)), none] [.int (bI (isT A (nI j)))] g A _
  refine rr_beq (t := 25) d_261_5 (by decide) (fun c5 => ?_) (fun c5 => ?_)
  · exact absurd hyes c5
  · refine rr_nx (pc' := 9) (al' := [some (.ref 146), some (.int (nI j)), some (.int (nI j2)), some (.int (nI 2)), none]) (st' := [.ref 146]) d_261_8 (fun _ => rfl) ?_
    refine rr_nx (pc' := 10) (al' := [some (.ref 146), some (.int (nI j)), some (.int (nI j2)), some (.int (nI 2)), none]) (st' := [.int (nI j2), .ref 146]) d_261_9 (fun _ => rfl) ?_
    refine rr_pv (as := [.int (nI j2)]) (al0 := [some (.ref 146), some (.int (nI j2))]) (r := []) d_261_10 mo_261 ml_124 mz_184 rfl rfl rfl (Nat.le_of_ble_eq_true rfl) (s_isTable (nI j2)) ?_
    show RR _ _ 13 [some (.ref 146), some (.int (nI j)), some (.int (nI j2)), some (.int (nI 2)), none] [.int (bI (isT A (nI j2)))] g A _
    refine rr_beq (t := 25) d_261_13 (by decide) (fun c13 => ?_) (fun c13 => ?_)
    · exact absurd hyes2 c13
    · refine rr_nx (pc' := 17) (al' := [some (.ref 146), some (.int (nI j)), some (.int (nI j2)), some (.int (nI 2)), none]) (st' := [.int (nI 2)]) d_261_16 (fun _ => rfl) ?_
      refine rn_ic (v := 0) d_261_17 (by decide) ?_
      refine rn_ic (v := 2) d_261_18 (by decide) ?_
      refine rr_ps (as := [.int (nI 2), .int (nI 0), .int (nI 2)]) (al0 := [some (.int (nI 2)), some (.int (nI 0)), some (.int (nI 2))]) (r := []) d_261_19 mo_261 ml_106 mz_179 rfl rfl rfl (Nat.le_of_ble_eq_true rfl) (s_lies (nI 2) (nI 0) (nI 2)) ?_
      show RR _ _ 22 [some (.ref 146), some (.int (nI j)), some (.int (nI j2)), some (.int (nI 2)), none] [.int (bI ((nI 0) ≤ (nI 2) ∧ (nI 2) ≤ (nI 2)))] g A _
      refine rr_bne (t := 27) d_261_22 (by decide) (fun c22 => ?_) (fun c22 => ?_)
      · refine rr_nx (pc' := 28) (al' := [some (.ref 146), some (.int (nI j)), some (.int (nI j2)), some (.int (nI 2)), none]) (st' := [.ref 146]) d_261_27 (fun _ => rfl) ?_
        refine rr_nx (pc' := 29) (al' := [some (.ref 146), some (.int (nI j)), some (.int (nI j2)), some (.int (nI 2)), none]) (st' := [.int (nI j), .ref 146]) d_261_28 (fun _ => rfl) ?_
        refine rr_pv (as := [.int (nI j)]) (al0 := [some (.ref 146), some (.int (nI j))]) (r := []) d_261_29 mo_261 ml_121 mz_186 rfl rfl rfl (Nat.le_of_ble_eq_true rfl) (s_ordN hj hk) ?_
        show RR _ _ 32 [some (.ref 146), some (.int (nI j)), some (.int (nI j2)), some (.int (nI 2)), none] [.int (nI m)] g A _
        refine rr_nx (pc' := 33) (al' := [some (.ref 146), some (.int (nI j)), some (.int (nI j2)), some (.int (nI 2)), none]) (st' := [.ref 146, .int (nI m)]) d_261_32 (fun _ => rfl) ?_
        refine rr_nx (pc' := 34) (al' := [some (.ref 146), some (.int (nI j)), some (.int (nI j2)), some (.int (nI 2)), none]) (st' := [.int (nI j2), .ref 146, .int (nI m)]) d_261_33 (fun _ => rfl) ?_
        refine rr_pv (as := [.int (nI j2)]) (al0 := [some (.ref 146), some (.int (nI j2))]) (r := [.int (nI m)]) d_261_34 mo_261 ml_121 mz_186 rfl rfl rfl (Nat.le_of_ble_eq_true rfl) (s_ordN hj2 hk2) ?_
        show RR _ _ 37 [some (.ref 146), some (.int (nI j)), some (.int (nI j2)), some (.int (nI 2)), none] [.int (nI m2), .int (nI m)] g A _
        refine rn_ceq (t := 42) d_261_37 (by decide) (by first | omega | assumption | exact cu_36 (by omega) (cu_lt (by omega) (by omega))) (by first | omega | assumption | exact cu_36 (by omega) (cu_lt (by omega) (by omega))) (fun c37 => ?_) (fun c37 => ?_)
        · refine rr_nx (pc' := 43) (al' := [some (.ref 146), some (.int (nI j)), some (.int (nI j2)), some (.int (nI 2)), none]) (st' := [.ref 146]) d_261_42 (fun _ => rfl) ?_
          refine rr_nx (pc' := 44) (al' := [some (.ref 146), some (.int (nI j)), some (.int (nI j2)), some (.int (nI 2)), none]) (st' := [.int (nI j), .ref 146]) d_261_43 (fun _ => rfl) ?_
          refine rr_nx (pc' := 45) (al' := [some (.ref 146), some (.int (nI j)), some (.int (nI j2)), some (.int (nI 2)), none]) (st' := [.int (nI 2), .int (nI j), .ref 146]) d_261_44 (fun _ => rfl) ?_
          refine rr_cv (as := [.int (nI j), .int (nI 2)]) (al0 := [some (.ref 146), some (.int (nI j)), some (.int (nI 2)), none, none, none, none]) (r := []) d_261_45 mo_261 ml_319 mz_259 rfl rfl rfl (rr_wk (Nat.le_of_ble_eq_true rfl) (s_names2k hj h1 hm6 hl hk hsh.2)) (fun v1 g1 A1 h1x => ?_)
          obtain ⟨q0_, h6_, hg1, ha1, b, hb, hM⟩ := h1x
          obtain rfl := q0_
          show RR _ _ 48 [some (.ref 146), some (.int (nI j)), some (.int (nI j2)), some (.int (nI 2)), none] [] g1 A1 _
          refine rn_ic (v := 0) d_261_48 (by decide) ?_
          refine rr_nx (pc' := 51) (al' := [some (.ref 146), some (.int (nI j)), some (.int (nI j2)), some (.int (nI 2)), some (.int (nI 0))]) (st' := []) d_261_49 (fun _ => rfl) ?_
          refine rr_A (show A1 = (rf_u A1 20 (A1 20)) by rw [rf_u_id]) ?_
          refine rr_upw (al := fun i w_ => [some (.ref 146), some (.int (nI j)), some (.int (nI j2)), some (.int (nI 2)), some (.int (nI i))]) (G := fun i w_ => g1) (B := fun i w_ => (rf_u A1 20 w_)) (P := fun i w_ => ∀ q, q < i → w_ q = A1 19 q) (n := 36) (fun i w_ hi pi ihi => ?_) (fun w_ pi => ?_) 0 (A1 20) (by omega) (all_0)
          · show RR _ _ 51 [some (.ref 146), some (.int (nI j)), some (.int (nI j2)), some (.int (nI 2)), some (.int (nI i))] [] g1 (rf_u A1 20 w_) _
            refine rr_nx (pc' := 53) (al' := [some (.ref 146), some (.int (nI j)), some (.int (nI j2)), some (.int (nI 2)), some (.int (nI i))]) (st' := [.int (nI i)]) d_261_51 (fun _ => rfl) ?_
            refine rn_bp (v := 36) d_261_53 (by decide) ?_
            refine rn_cge (t := 78) d_261_55 (by decide) (by omega) (by decide) (fun c55 => ?_) (fun c55 => ?_)
            · omega
            · refine rr_nx (pc' := 59) (al' := [some (.ref 146), some (.int (nI j)), some (.int (nI j2)), some (.int (nI 2)), some (.int (nI i))]) (st' := [.ref 146]) d_261_58 (fun _ => rfl) ?_
              refine rr_gf (v := .ref (147 + 20)) d_261_59 mo_261 fl_76 rfl ?_
              refine rr_nx (pc' := 64) (al' := [some (.ref 146), some (.int (nI j)), some (.int (nI j2)), some (.int (nI 2)), some (.int (nI i))]) (st' := [.int (nI i), .ref (147 + 20)]) d_261_62 (fun _ => rfl) ?_
              refine rr_nx (pc' := 65) (al' := [some (.ref 146), some (.int (nI j)), some (.int (nI j2)), some (.int (nI 2)), some (.int (nI i))]) (st' := [.ref 146, .int (nI i), .ref (147 + 20)]) d_261_64 (fun _ => rfl) ?_
              refine rr_gf (v := .ref (147 + 19)) d_261_65 mo_261 fl_73 rfl ?_
              refine rr_nx (pc' := 70) (al' := [some (.ref 146), some (.int (nI j)), some (.int (nI j2)), some (.int (nI 2)), some (.int (nI i))]) (st' := [.int (nI i), .ref (147 + 19), .int (nI i), .ref (147 + 20)]) d_261_68 (fun _ => rfl) ?_
              refine rr_ia (j := 19) (v := (A1 19 i)) d_261_70 (by decide) rfl (by decide) (show i < 36 by first | omega | assumption | exact cu_36 (by omega) (cu_lt (by omega) (by omega))) (by rw [rf_u_n (by decide)]) ?_
              refine rr_iS (j := 20) (A1 := (rf_u A1 20 (upd w_ i (A1 19 i)))) d_261_71 (by decide) rfl (by decide) (show i < 36 by first | omega | assumption | exact cu_36 (by omega) (cu_lt (by omega) (by omega))) rf_uw ?_
              refine rn_inc d_261_72 rfl rfl ?_
              show RR _ _ 75 [some (.ref 146), some (.int (nI j)), some (.int (nI j2)), some (.int (nI 2)), some (.int (nI (i + 1)))] [] g1 (rf_u A1 20 (upd w_ i (A1 19 i))) _
              refine rr_nx (pc' := 51) (al' := [some (.ref 146), some (.int (nI j)), some (.int (nI j2)), some (.int (nI 2)), some (.int (nI (i + 1)))]) (st' := []) d_261_75 (fun _ => rfl) ?_
              exact ihi (upd w_ i (A1 19 i)) (up_all (f := fun q => A1 19 q) pi rfl)
          · show RR _ _ 51 [some (.ref 146), some (.int (nI j)), some (.int (nI j2)), some (.int (nI 2)), some (.int (nI 36))] [] g1 (rf_u A1 20 w_) _
            refine rr_nx (pc' := 53) (al' := [some (.ref 146), some (.int (nI j)), some (.int (nI j2)), some (.int (nI 2)), some (.int (nI 36))]) (st' := [.int (nI 36)]) d_261_51 (fun _ => rfl) ?_
            refine rn_bp (v := 36) d_261_53 (by decide) ?_
            refine rn_cge (t := 78) d_261_55 (by decide) (by omega) (by decide) (fun c55 => ?_) (fun c55 => ?_)
            · refine rr_nx (pc' := 79) (al' := [some (.ref 146), some (.int (nI j)), some (.int (nI j2)), some (.int (nI 2)), some (.int (nI 36))]) (st' := [.ref 146]) d_261_78 (fun _ => rfl) ?_
              refine rr_nx (pc' := 80) (al' := [some (.ref 146), some (.int (nI j)), some (.int (nI j2)), some (.int (nI 2)), some (.int (nI 36))]) (st' := [.int (nI j2), .ref 146]) d_261_79 (fun _ => rfl) ?_
              refine rr_nx (pc' := 81) (al' := [some (.ref 146), some (.int (nI j)), some (.int (nI j2)), some (.int (nI 2)), some (.int (nI 36))]) (st' := [.int (nI 2), .int (nI j2), .ref 146]) d_261_80 (fun _ => rfl) ?_
              have hA1 : (rf_u A1 20 w_) 1 = A 1 := (rf_u_n (by decide)).trans (ha1 1 rfl)
              have hk2b : (rf_u A1 20 w_) 1 (37 * j2) = nI m2 := by rw [hA1]; exact hk2
              have hs2b : ∀ q, q < m2 * m2 → (rf_u A1 20 w_) 1 (37 * j2 + 1 + q) = nI (c2 q) := by rw [hA1]; exact hsh2.2
              refine rr_cv (as := [.int (nI j2), .int (nI 2)]) (al0 := [some (.ref 146), some (.int (nI j2)), some (.int (nI 2)), none, none, none, none]) (r := []) d_261_81 mo_261 ml_319 mz_259 rfl rfl rfl (rr_wk (Nat.le_of_ble_eq_true rfl) (s_names2k hj2 h12 hm62 hl2 hk2b hs2b)) (fun v2 g2 A2 h2x => ?_)
              obtain ⟨q0_, h6b_, hg2, ha2, b2, hb2, hM2⟩ := h2x
              obtain rfl := q0_
              have h20 : ∀ q, q < 36 → A2 20 q = A1 19 q := fun q hq => by rw [ha2 20 rfl, rf_u_s]; exact pi q hq
              subst hmm
              show RR _ _ 84 [some (.ref 146), some (.int (nI j)), some (.int (nI j2)), some (.int (nI 2)), some (.int (nI 36))] [] g2 A2 _
              refine rn_ic (v := 0) d_261_84 (by decide) ?_
              refine rr_nx (pc' := 87) (al' := [some (.ref 146), some (.int (nI j)), some (.int (nI j2)), some (.int (nI 2)), some (.int (nI 0))]) (st' := []) d_261_85 (fun _ => rfl) ?_
              refine rr_up (al := fun i => [some (.ref 146), some (.int (nI j)), some (.int (nI j2)), some (.int (nI 2)), some (.int (nI i))]) (G := fun i => g2) (B := fun i => A2) (P := fun i => ∀ q, q < i → b2 q = b q) (n := m * m) (fun i hi pi ihi => ?_) (fun pi => ?_) 0  (by omega) (all_0)
              · show RR _ _ 87 [some (.ref 146), some (.int (nI j)), some (.int (nI j2)), some (.int (nI 2)), some (.int (nI i))] [] g2 A2 _
                refine rr_nx (pc' := 89) (al' := [some (.ref 146), some (.int (nI j)), some (.int (nI j2)), some (.int (nI 2)), some (.int (nI i))]) (st' := [.int (nI i)]) d_261_87 (fun _ => rfl) ?_
                refine rr_nx (pc' := 90) (al' := [some (.ref 146), some (.int (nI j)), some (.int (nI j2)), some (.int (nI 2)), some (.int (nI i))]) (st' := [.ref 146, .int (nI i)]) d_261_89 (fun _ => rfl) ?_
                refine rr_gn d_261_90 mo_261 fl_127 rfl h6b_ ?_
                refine rr_nx (pc' := 94) (al' := [some (.ref 146), some (.int (nI j)), some (.int (nI j2)), some (.int (nI 2)), some (.int (nI i))]) (st' := [.ref 146, .int (nI m), .int (nI i)]) d_261_93 (fun _ => rfl) ?_
                refine rr_gn d_261_94 mo_261 fl_127 rfl h6b_ ?_
                refine rn_mul d_261_97  ?_
                refine rn_cge (t := 126) d_261_98 (by decide) (by omega) (by omega) (fun c98 => ?_) (fun c98 => ?_)
                · omega
                · refine rr_nx (pc' := 102) (al' := [some (.ref 146), some (.int (nI j)), some (.int (nI j2)), some (.int (nI 2)), some (.int (nI i))]) (st' := [.ref 146]) d_261_101 (fun _ => rfl) ?_
                  refine rr_gf (v := .ref (147 + 19)) d_261_102 mo_261 fl_73 rfl ?_
                  refine rr_nx (pc' := 107) (al' := [some (.ref 146), some (.int (nI j)), some (.int (nI j2)), some (.int (nI 2)), some (.int (nI i))]) (st' := [.int (nI i), .ref (147 + 19)]) d_261_105 (fun _ => rfl) ?_
                  refine rr_ia (j := 19) (v := (nI (b2 i))) d_261_107 (by decide) rfl (by decide) (show i < 36 by omega) (hb2 i hi).1 ?_
                  refine rr_nx (pc' := 109) (al' := [some (.ref 146), some (.int (nI j)), some (.int (nI j2)), some (.int (nI 2)), some (.int (nI i))]) (st' := [.ref 146, .int (nI (b2 i))]) d_261_108 (fun _ => rfl) ?_
                  refine rr_gf (v := .ref (147 + 20)) d_261_109 mo_261 fl_76 rfl ?_
                  refine rr_nx (pc' := 114) (al' := [some (.ref 146), some (.int (nI j)), some (.int (nI j2)), some (.int (nI 2)), some (.int (nI i))]) (st' := [.int (nI i), .ref (147 + 20), .int (nI (b2 i))]) d_261_112 (fun _ => rfl) ?_
                  refine rr_ia (j := 20) (v := (nI (b i))) d_261_114 (by decide) rfl (by decide) (show i < 36 by omega) ((h20 i (by omega)).trans (hb i hi).1) ?_
                  refine rn_ceq (t := 120) d_261_115 (by decide) (by have := (hb2 i hi).2; omega) (by have := (hb i hi).2; omega) (fun c115 => ?_) (fun c115 => ?_)
                  · refine rn_inc d_261_120 rfl rfl ?_
                    show RR _ _ 123 [some (.ref 146), some (.int (nI j)), some (.int (nI j2)), some (.int (nI 2)), some (.int (nI (i + 1)))] [] g2 A2 _
                    refine rr_nx (pc' := 87) (al' := [some (.ref 146), some (.int (nI j)), some (.int (nI j2)), some (.int (nI 2)), some (.int (nI (i + 1)))]) (st' := []) d_261_123 (fun _ => rfl) ?_
                    exact ihi  (all_s pi c115)
                  · refine rn_ic (v := 0) d_261_118 (by decide) ?_
                    exact rr_ri d_261_119 mr_261 rfl ⟨by rw [if_neg (fun e_ => df_p (q := i) hi (fun e2_ => c115 (by rw [nmb_e hM i hi, nmb_e hM2 i hi, e2_])) e_)], (hW.q (hg1.tr hg2) (((ha1.k).tr (Ksm.rf.u rfl)).tr ha2.k)).mo⟩
              · show RR _ _ 87 [some (.ref 146), some (.int (nI j)), some (.int (nI j2)), some (.int (nI 2)), some (.int (nI (m * m)))] [] g2 A2 _
                refine rr_nx (pc' := 89) (al' := [some (.ref 146), some (.int (nI j)), some (.int (nI j2)), some (.int (nI 2)), some (.int (nI (m * m)))]) (st' := [.int (nI (m * m))]) d_261_87 (fun _ => rfl) ?_
                refine rr_nx (pc' := 90) (al' := [some (.ref 146), some (.int (nI j)), some (.int (nI j2)), some (.int (nI 2)), some (.int (nI (m * m)))]) (st' := [.ref 146, .int (nI (m * m))]) d_261_89 (fun _ => rfl) ?_
                refine rr_gn d_261_90 mo_261 fl_127 rfl h6b_ ?_
                refine rr_nx (pc' := 94) (al' := [some (.ref 146), some (.int (nI j)), some (.int (nI j2)), some (.int (nI 2)), some (.int (nI (m * m)))]) (st' := [.ref 146, .int (nI m), .int (nI (m * m))]) d_261_93 (fun _ => rfl) ?_
                refine rr_gn d_261_94 mo_261 fl_127 rfl h6b_ ?_
                refine rn_mul d_261_97  ?_
                refine rn_cge (t := 126) d_261_98 (by decide) (by omega) (by omega) (fun c98 => ?_) (fun c98 => ?_)
                · refine rn_ic (v := 1) d_261_126 (by decide) ?_
                  exact rr_ri d_261_127 mr_261 rfl ⟨by rw [if_pos (df_00 (fun q hq => by rw [← nmb_e hM q hq, ← nmb_e hM2 q hq]; exact (pi q hq).symm))], (hW.q (hg1.tr hg2) (((ha1.k).tr (Ksm.rf.u rfl)).tr ha2.k)).mo⟩
                · omega
            · omega
        · exact absurd hmm c37
      · exact absurd (show nI 0 ≤ nI 2 ∧ nI 2 ≤ nI 2 by decide) c22
theorem p_alike_d {S : CS} {G : Nat → Nat → Value} {B : Nat → Nat → Int32} {J : Nat → Nat → Int64} {R : Nat → Nat → Option Nat} {n : Nat} {W : WS} (hW : WC n S G B R W) {j m j2 m2 : Nat} {c c2 : Nat → Nat} (hj : j < 6) (htb : tbK (wK W) j = (m, c)) (h1 : 1 ≤ m) (hj2 : j2 < 6) (htb2 : tbK (wK W) j2 = (m2, c2)) (h12 : 1 ≤ m2) {k : Nat} (hk3 : k < 3) (hmm : ¬ m = m2) : CR 80 158 0 [some (.ref 2), some (.int (nI j)), some (.int (nI j2)), some (.int (nI k)), none, none] [] S G B J R (fun r__ S' G' B' J' R' => r__ = some (.int (nI 0)) ∧ WC (n + 1) S' G' B' R' W) := by
  have hS := hW.1.1
  have hF := hW.2.1
  have hO := hW.2.2.2.1
  obtain ⟨ta, ka, la, hH, hLk, hl2, hs3, hbd⟩ := hW.2.2.1
  obtain ⟨zt, hzt, ezt⟩ := (hH.2.1 j hj).2
  have ht := hH.ta hj
  have hsh := hH.2.2.2.2.2.2.1 j hj
  rw [show kH (wK W) (kD (wK W)) j = (m, c) from htb] at hsh
  have hok := tb_ok hO hj
  rw [htb] at hok
  have hn : G (ta j) 0 = .int (nI m) := hsh.1
  have hc : TabC B (ta j) m c := hsh.c hok
  have hl : Lat m c := hok.2
  have hm6 : m ≤ 6 := hok.1
  have hyes : hasP (wK W) (nI j) := (has_i hj).mpr (by rw [htb]; exact h1)
  obtain ⟨zt2, hzt2, ezt2⟩ := (hH.2.1 j2 hj2).2
  have ht2 := hH.ta hj2
  have hsh2 := hH.2.2.2.2.2.2.1 j2 hj2
  rw [show kH (wK W) (kD (wK W)) j2 = (m2, c2) from htb2] at hsh2
  have hok2 := tb_ok hO hj2
  rw [htb2] at hok2
  have hn2 : G (ta j2) 0 = .int (nI m2) := hsh2.1
  have hc2 : TabC B (ta j2) m2 c2 := hsh2.c hok2
  have hl2 : Lat m2 c2 := hok2.2
  have hm62 : m2 ≤ 6 := hok2.1
  have hyes2 : hasP (wK W) (nI j2) := (has_i hj2).mpr (by rw [htb2]; exact h12)
  refine cr_nx (pc' := 1) (al' := [some (.ref 2), some (.int (nI j)), some (.int (nI j2)), some (.int (nI k)), none, none]) (st' := [.ref 2]) d_158_0 (fun _ => rfl) ?_
  refine cr_nx (pc' := 2) (al' := [some (.ref 2), some (.int (nI j)), some (.int (nI j2)), some (.int (nI k)), none, none]) (st' := [.int (nI j), .ref 2]) d_158_1 (fun _ => rfl) ?_
  refine cr_pv (b := 2) (as := [.int (nI j)]) (al0 := [some (.ref 2), some (.int (nI j))]) (r := []) d_158_2 cw_158 cm_11_137 cz_126 rfl rfl (hS.i (a := 2) (by decide) (by decide)) (by rw [cw_126]; exact (hS.s (a := 2) (by decide) (by decide) rfl)) (by rw [cw_126]; decide) rfl (Nat.le_of_ble_eq_true rfl) (k_has hS hF hH hO) ?_
  show CR _ _ 5 [some (.ref 2), some (.int (nI j)), some (.int (nI j2)), some (.int (nI k)), none, none] [.int (bI (hasP (wK W) (nI j)))] S G B J R _
  refine cr_beq (t := 23) d_158_5 (by decide) (fun c5 => ?_) (fun c5 => ?_)
  · exact absurd hyes c5
  · refine cr_nx (pc' := 9) (al' := [some (.ref 2), some (.int (nI j)), some (.int (nI j2)), some (.int (nI k)), none, none]) (st' := [.ref 2]) d_158_8 (fun _ => rfl) ?_
    refine cr_nx (pc' := 10) (al' := [some (.ref 2), some (.int (nI j)), some (.int (nI j2)), some (.int (nI k)), none, none]) (st' := [.int (nI j2), .ref 2]) d_158_9 (fun _ => rfl) ?_
    refine cr_pv (b := 2) (as := [.int (nI j2)]) (al0 := [some (.ref 2), some (.int (nI j2))]) (r := []) d_158_10 cw_158 cm_11_137 cz_126 rfl rfl (hS.i (a := 2) (by decide) (by decide)) (by rw [cw_126]; exact (hS.s (a := 2) (by decide) (by decide) rfl)) (by rw [cw_126]; decide) rfl (Nat.le_of_ble_eq_true rfl) (k_has hS hF hH hO) ?_
    show CR _ _ 13 [some (.ref 2), some (.int (nI j)), some (.int (nI j2)), some (.int (nI k)), none, none] [.int (bI (hasP (wK W) (nI j2)))] S G B J R _
    refine cr_beq (t := 23) d_158_13 (by decide) (fun c13 => ?_) (fun c13 => ?_)
    · exact absurd hyes2 c13
    · refine cr_nx (pc' := 17) (al' := [some (.ref 2), some (.int (nI j)), some (.int (nI j2)), some (.int (nI k)), none, none]) (st' := [.int (nI k)]) d_158_16 (fun _ => rfl) ?_
      refine cr_ps (as := [.int (nI k)]) (al0 := [some (.int (nI k))]) (r := []) d_158_17 cw_158 cm_11_302 (by decide) cz_156 rfl rfl rfl (Nat.le_of_ble_eq_true rfl) (k_isLikeness) ?_
      show CR _ _ 20 [some (.ref 2), some (.int (nI j)), some (.int (nI j2)), some (.int (nI k)), none, none] [.int (bI (inP (nI k) 3))] S G B J R _
      refine cr_bne (t := 25) d_158_20 (by decide) (fun c20 => ?_) (fun c20 => ?_)
      · refine cr_nx (pc' := 26) (al' := [some (.ref 2), some (.int (nI j)), some (.int (nI j2)), some (.int (nI k)), none, none]) (st' := [.ref 2]) d_158_25 (fun _ => rfl) ?_
        refine cr_gf (v := .ref 3) d_158_26 cw_158 cf_11_10 (hS.i (a := 2) (by decide) (by decide)) (hS.s (a := 2) (by decide) (by decide) rfl) (by decide) (fx_2_0 hF) ?_
        refine cr_gf (v := .ref 4) d_158_29 cw_158 cf_11_140 (hS.i (a := 3) (by decide) (by decide)) (hS.s (a := 3) (by decide) (by decide) rfl) (by decide) (fx_3_0 hF) ?_
        refine cr_nx (pc' := 33) (al' := [some (.ref 2), some (.int (nI j)), some (.int (nI j2)), some (.int (nI k)), none, none]) (st' := [.int (nI j), .ref 4]) d_158_32 (fun _ => rfl) ?_
        refine cr_aa (a := 4) (v := .ref (ta j)) d_158_33 (hS.i (a := 4) (by decide) (by decide)) (by decide) (hS.s (a := 4) (by decide) (by decide) rfl) (by decide) (show j < 6 by first | omega | assumption | exact cu_36 (by omega) (cu_lt (by omega) (by omega))) (show va_rf _ = _ by rw [(hH.2.1 j hj).1]; rfl) ?_
        refine cr_gf (v := .int (nI m)) d_158_34 cw_158 cf_11_112 ht.1 ht.2.2.1 (by decide) hn ?_
        refine cr_nx (pc' := 38) (al' := [some (.ref 2), some (.int (nI j)), some (.int (nI j2)), some (.int (nI k)), none, none]) (st' := [.ref 2, .int (nI m)]) d_158_37 (fun _ => rfl) ?_
        refine cr_gf (v := .ref 3) d_158_38 cw_158 cf_11_10 (hS.i (a := 2) (by decide) (by decide)) (hS.s (a := 2) (by decide) (by decide) rfl) (by decide) (fx_2_0 hF) ?_
        refine cr_gf (v := .ref 4) d_158_41 cw_158 cf_11_140 (hS.i (a := 3) (by decide) (by decide)) (hS.s (a := 3) (by decide) (by decide) rfl) (by decide) (fx_3_0 hF) ?_
        refine cr_nx (pc' := 45) (al' := [some (.ref 2), some (.int (nI j)), some (.int (nI j2)), some (.int (nI k)), none, none]) (st' := [.int (nI j2), .ref 4, .int (nI m)]) d_158_44 (fun _ => rfl) ?_
        refine cr_aa (a := 4) (v := .ref (ta j2)) d_158_45 (hS.i (a := 4) (by decide) (by decide)) (by decide) (hS.s (a := 4) (by decide) (by decide) rfl) (by decide) (show j2 < 6 by first | omega | assumption | exact cu_36 (by omega) (cu_lt (by omega) (by omega))) (show va_rf _ = _ by rw [(hH.2.1 j2 hj2).1]; rfl) ?_
        refine cr_gf (v := .int (nI m2)) d_158_46 cw_158 cf_11_112 ht2.1 ht2.2.2.1 (by decide) hn2 ?_
        refine cn_ceq (t := 54) d_158_49 (by decide) (by first | omega | assumption | exact cu_36 (by omega) (cu_lt (by omega) (by omega))) (by first | omega | assumption | exact cu_36 (by omega) (cu_lt (by omega) (by omega))) (fun c49 => ?_) (fun c49 => ?_)
        · exact absurd c49 hmm
        · refine cn_ic (v := 0) d_158_52 (by decide) ?_
          exact cr_ri d_158_53 cx_158 rfl ⟨rfl, hW.mo⟩
      · exact absurd ((in_j (by omega)).mpr hk3) c20
theorem r_alike_d {g : Nat → Int32} {A : Nat → Nat → Int32} {n : Nat} {W : WS} (hW : WR n g A W) (hO : CoOk (wK W)) {j m j2 m2 : Nat} {c c2 : Nat → Nat} (hj : j < 6) (htb : tbK (wK W) j = (m, c)) (h1 : 1 ≤ m) (hj2 : j2 < 6) (htb2 : tbK (wK W) j2 = (m2, c2)) (h12 : 1 ≤ m2) {k : Nat} (hk3 : k < 3) (hmm : ¬ m = m2) : RR 80 261 0 [some (.ref 146), some (.int (nI j)), some (.int (nI j2)), some (.int (nI k)), none] [] g A (fun r__ g' A' => r__ = some (.int (nI 0)) ∧ WR (n + 1) g' A' W) := by
  have hsh := hW.1.1.1 j hj
  rw [show kH (wK W) (kD (wK W)) j = (m, c) from htb] at hsh
  have hok := tb_ok hO hj
  rw [htb] at hok
  have hk : A 1 (37 * j) = nI m := hsh.1
  have hl : Lat m c := hok.2
  have hm6 : m ≤ 6 := hok.1
  have hyes : isT A (nI j) := (has_r hW hO).mpr ((has_i hj).mpr (by rw [htb]; exact h1))
  have hsh2 := hW.1.1.1 j2 hj2
  rw [show kH (wK W) (kD (wK W)) j2 = (m2, c2) from htb2] at hsh2
  have hok2 := tb_ok hO hj2
  rw [htb2] at hok2
  have hk2 : A 1 (37 * j2) = nI m2 := hsh2.1
  have hl2 : Lat m2 c2 := hok2.2
  have hm62 : m2 ≤ 6 := hok2.1
  have hyes2 : isT A (nI j2) := (has_r hW hO).mpr ((has_i hj2).mpr (by rw [htb2]; exact h12))
  refine rr_nx (pc' := 1) (al' := [some (.ref 146), some (.int (nI j)), some (.int (nI j2)), some (.int (nI k)), none]) (st' := [.ref 146]) d_261_0 (fun _ => rfl) ?_
  refine rr_nx (pc' := 2) (al' := [some (.ref 146), some (.int (nI j)), some (.int (nI j2)), some (.int (nI k)), none]) (st' := [.int (nI j), .ref 146]) d_261_1 (fun _ => rfl) ?_
  refine rr_pv (as := [.int (nI j)]) (al0 := [some (.ref 146), some (.int (nI j))]) (r := []) d_261_2 mo_261 ml_124 mz_184 rfl rfl rfl (Nat.le_of_ble_eq_true rfl) (s_isTable (nI j)) ?_
  show RR _ _ 5 [some (.ref 146), some (.int (nI j)), some (.int (nI j2)), some (.int (nI k)), none] [.int (bI (isT A (nI j)))] g A _
  refine rr_beq (t := 25) d_261_5 (by decide) (fun c5 => ?_) (fun c5 => ?_)
  · exact absurd hyes c5
  · refine rr_nx (pc' := 9) (al' := [some (.ref 146), some (.int (nI j)), some (.int (nI j2)), some (.int (nI k)), none]) (st' := [.ref 146]) d_261_8 (fun _ => rfl) ?_
    refine rr_nx (pc' := 10) (al' := [some (.ref 146), some (.int (nI j)), some (.int (nI j2)), some (.int (nI k)), none]) (st' := [.int (nI j2), .ref 146]) d_261_9 (fun _ => rfl) ?_
    refine rr_pv (as := [.int (nI j2)]) (al0 := [some (.ref 146), some (.int (nI j2))]) (r := []) d_261_10 mo_261 ml_124 mz_184 rfl rfl rfl (Nat.le_of_ble_eq_true rfl) (s_isTable (nI j2)) ?_
    show RR _ _ 13 [some (.ref 146), some (.int (nI j)), some (.int (nI j2)), some (.int (nI k)), none] [.int (bI (isT A (nI j2)))] g A _
    refine rr_beq (t := 25) d_261_13 (by decide) (fun c13 => ?_) (fun c13 => ?_)
    · exact absurd hyes2 c13
    · refine rr_nx (pc' := 17) (al' := [some (.ref 146), some (.int (nI j)), some (.int (nI j2)), some (.int (nI k)), none]) (st' := [.int (nI k)]) d_261_16 (fun _ => rfl) ?_
      refine rn_ic (v := 0) d_261_17 (by decide) ?_
      refine rn_ic (v := 2) d_261_18 (by decide) ?_
      refine rr_ps (as := [.int (nI k), .int (nI 0), .int (nI 2)]) (al0 := [some (.int (nI k)), some (.int (nI 0)), some (.int (nI 2))]) (r := []) d_261_19 mo_261 ml_106 mz_179 rfl rfl rfl (Nat.le_of_ble_eq_true rfl) (s_lies (nI k) (nI 0) (nI 2)) ?_
      show RR _ _ 22 [some (.ref 146), some (.int (nI j)), some (.int (nI j2)), some (.int (nI k)), none] [.int (bI ((nI 0) ≤ (nI k) ∧ (nI k) ≤ (nI 2)))] g A _
      refine rr_bne (t := 27) d_261_22 (by decide) (fun c22 => ?_) (fun c22 => ?_)
      · refine rr_nx (pc' := 28) (al' := [some (.ref 146), some (.int (nI j)), some (.int (nI j2)), some (.int (nI k)), none]) (st' := [.ref 146]) d_261_27 (fun _ => rfl) ?_
        refine rr_nx (pc' := 29) (al' := [some (.ref 146), some (.int (nI j)), some (.int (nI j2)), some (.int (nI k)), none]) (st' := [.int (nI j), .ref 146]) d_261_28 (fun _ => rfl) ?_
        refine rr_pv (as := [.int (nI j)]) (al0 := [some (.ref 146), some (.int (nI j))]) (r := []) d_261_29 mo_261 ml_121 mz_186 rfl rfl rfl (Nat.le_of_ble_eq_true rfl) (s_ordN hj hk) ?_
        show RR _ _ 32 [some (.ref 146), some (.int (nI j)), some (.int (nI j2)), some (.int (nI k)), none] [.int (nI m)] g A _
        refine rr_nx (pc' := 33) (al' := [some (.ref 146), some (.int (nI j)), some (.int (nI j2)), some (.int (nI k)), none]) (st' := [.ref 146, .int (nI m)]) d_261_32 (fun _ => rfl) ?_
        refine rr_nx (pc' := 34) (al' := [some (.ref 146), some (.int (nI j)), some (.int (nI j2)), some (.int (nI k)), none]) (st' := [.int (nI j2), .ref 146, .int (nI m)]) d_261_33 (fun _ => rfl) ?_
        refine rr_pv (as := [.int (nI j2)]) (al0 := [some (.ref 146), some (.int (nI j2))]) (r := [.int (nI m)]) d_261_34 mo_261 ml_121 mz_186 rfl rfl rfl (Nat.le_of_ble_eq_true rfl) (s_ordN hj2 hk2) ?_
        show RR _ _ 37 [some (.ref 146), some (.int (nI j)), some (.int (nI j2)), some (.int (nI k)), none] [.int (nI m2), .int (nI m)] g A _
        refine rn_ceq (t := 42) d_261_37 (by decide) (by first | omega | assumption | exact cu_36 (by omega) (cu_lt (by omega) (by omega))) (by first | omega | assumption | exact cu_36 (by omega) (cu_lt (by omega) (by omega))) (fun c37 => ?_) (fun c37 => ?_)
        · exact absurd c37 hmm
        · refine rn_ic (v := 0) d_261_40 (by decide) ?_
          exact rr_ri d_261_41 mr_261 rfl ⟨rfl, hW.mo⟩
      · exact absurd (ia_natI (by decide) (show k ≤ 2 by omega)) c22
theorem p_alike_x {S : CS} {G : Nat → Nat → Value} {B : Nat → Nat → Int32} {J : Nat → Nat → Int64} {R : Nat → Nat → Option Nat} {n : Nat} {W : WS} (hW : WC n S G B R W) {j m j2 m2 : Nat} {c c2 : Nat → Nat} (hj : j < 6) (htb : tbK (wK W) j = (m, c)) (h1 : 1 ≤ m) (hj2 : j2 < 6) (htb2 : tbK (wK W) j2 = (m2, c2)) (h12 : 1 ≤ m2) {w : Int32} (hw : ¬ inP w 3) : CR 80 158 0 [some (.ref 2), some (.int (nI j)), some (.int (nI j2)), some (.int w), none, none] [] S G B J R (fun r__ S' G' B' J' R' => r__ = some (.int (-1)) ∧ WC (n + 1) S' G' B' R' W) := by
  have hS := hW.1.1
  have hF := hW.2.1
  have hO := hW.2.2.2.1
  obtain ⟨ta, ka, la, hH, hLk, hl2, hs3, hbd⟩ := hW.2.2.1
  obtain ⟨zt, hzt, ezt⟩ := (hH.2.1 j hj).2
  have ht := hH.ta hj
  have hsh := hH.2.2.2.2.2.2.1 j hj
  rw [show kH (wK W) (kD (wK W)) j = (m, c) from htb] at hsh
  have hok := tb_ok hO hj
  rw [htb] at hok
  have hn : G (ta j) 0 = .int (nI m) := hsh.1
  have hc : TabC B (ta j) m c := hsh.c hok
  have hl : Lat m c := hok.2
  have hm6 : m ≤ 6 := hok.1
  have hyes : hasP (wK W) (nI j) := (has_i hj).mpr (by rw [htb]; exact h1)
  obtain ⟨zt2, hzt2, ezt2⟩ := (hH.2.1 j2 hj2).2
  have ht2 := hH.ta hj2
  have hsh2 := hH.2.2.2.2.2.2.1 j2 hj2
  rw [show kH (wK W) (kD (wK W)) j2 = (m2, c2) from htb2] at hsh2
  have hok2 := tb_ok hO hj2
  rw [htb2] at hok2
  have hn2 : G (ta j2) 0 = .int (nI m2) := hsh2.1
  have hc2 : TabC B (ta j2) m2 c2 := hsh2.c hok2
  have hl2 : Lat m2 c2 := hok2.2
  have hm62 : m2 ≤ 6 := hok2.1
  have hyes2 : hasP (wK W) (nI j2) := (has_i hj2).mpr (by rw [htb2]; exact h12)
  refine cr_nx (pc' := 1) (al' := [some (.ref 2), some (.int (nI j)), some (.int (nI j2)), some (.int w), none, none]) (st' := [.ref 2]) d_158_0 (fun _ => rfl) ?_
  refine cr_nx (pc' := 2) (al' := [some (.ref 2), some (.int (nI j)), some (.int (nI j2)), some (.int w), none, none]) (st' := [.int (nI j), .ref 2]) d_158_1 (fun _ => rfl) ?_
  refine cr_pv (b := 2) (as := [.int (nI j)]) (al0 := [some (.ref 2), some (.int (nI j))]) (r := []) d_158_2 cw_158 cm_11_137 cz_126 rfl rfl (hS.i (a := 2) (by decide) (by decide)) (by rw [cw_126]; exact (hS.s (a := 2) (by decide) (by decide) rfl)) (by rw [cw_126]; decide) rfl (Nat.le_of_ble_eq_true rfl) (k_has hS hF hH hO) ?_
  show CR _ _ 5 [some (.ref 2), some (.int (nI j)), some (.int (nI j2)), some (.int w), none, none] [.int (bI (hasP (wK W) (nI j)))] S G B J R _
  refine cr_beq (t := 23) d_158_5 (by decide) (fun c5 => ?_) (fun c5 => ?_)
  · exact absurd hyes c5
  · refine cr_nx (pc' := 9) (al' := [some (.ref 2), some (.int (nI j)), some (.int (nI j2)), some (.int w), none, none]) (st' := [.ref 2]) d_158_8 (fun _ => rfl) ?_
    refine cr_nx (pc' := 10) (al' := [some (.ref 2), some (.int (nI j)), some (.int (nI j2)), some (.int w), none, none]) (st' := [.int (nI j2), .ref 2]) d_158_9 (fun _ => rfl) ?_
    refine cr_pv (b := 2) (as := [.int (nI j2)]) (al0 := [some (.ref 2), some (.int (nI j2))]) (r := []) d_158_10 cw_158 cm_11_137 cz_126 rfl rfl (hS.i (a := 2) (by decide) (by decide)) (by rw [cw_126]; exact (hS.s (a := 2) (by decide) (by decide) rfl)) (by rw [cw_126]; decide) rfl (Nat.le_of_ble_eq_true rfl) (k_has hS hF hH hO) ?_
    show CR _ _ 13 [some (.ref 2), some (.int (nI j)), some (.int (nI j2)), some (.int w), none, none] [.int (bI (hasP (wK W) (nI j2)))] S G B J R _
    refine cr_beq (t := 23) d_158_13 (by decide) (fun c13 => ?_) (fun c13 => ?_)
    · exact absurd hyes2 c13
    · refine cr_nx (pc' := 17) (al' := [some (.ref 2), some (.int (nI j)), some (.int (nI j2)), some (.int w), none, none]) (st' := [.int w]) d_158_16 (fun _ => rfl) ?_
      refine cr_ps (as := [.int w]) (al0 := [some (.int w)]) (r := []) d_158_17 cw_158 cm_11_302 (by decide) cz_156 rfl rfl rfl (Nat.le_of_ble_eq_true rfl) (k_isLikeness) ?_
      show CR _ _ 20 [some (.ref 2), some (.int (nI j)), some (.int (nI j2)), some (.int w), none, none] [.int (bI (inP w 3))] S G B J R _
      refine cr_bne (t := 25) d_158_20 (by decide) (fun c20 => ?_) (fun c20 => ?_)
      · exact absurd c20 hw
      · refine cr_nx (pc' := 24) (al' := [some (.ref 2), some (.int (nI j)), some (.int (nI j2)), some (.int w), none, none]) (st' := [.int (-1)]) d_158_23 (fun _ => rfl) ?_
        exact cr_ri d_158_24 cx_158 rfl ⟨rfl, hW.mo⟩
theorem r_alike_x {g : Nat → Int32} {A : Nat → Nat → Int32} {n : Nat} {W : WS} (hW : WR n g A W) (hO : CoOk (wK W)) {j m j2 m2 : Nat} {c c2 : Nat → Nat} (hj : j < 6) (htb : tbK (wK W) j = (m, c)) (h1 : 1 ≤ m) (hj2 : j2 < 6) (htb2 : tbK (wK W) j2 = (m2, c2)) (h12 : 1 ≤ m2) {w : Int32} (hw : ¬ inP w 3) : RR 80 261 0 [some (.ref 146), some (.int (nI j)), some (.int (nI j2)), some (.int w), none] [] g A (fun r__ g' A' => r__ = some (.int (-1)) ∧ WR (n + 1) g' A' W) := by
  have hsh := hW.1.1.1 j hj
  rw [show kH (wK W) (kD (wK W)) j = (m, c) from htb] at hsh
  have hok := tb_ok hO hj
  rw [htb] at hok
  have hk : A 1 (37 * j) = nI m := hsh.1
  have hl : Lat m c := hok.2
  have hm6 : m ≤ 6 := hok.1
  have hyes : isT A (nI j) := (has_r hW hO).mpr ((has_i hj).mpr (by rw [htb]; exact h1))
  have hsh2 := hW.1.1.1 j2 hj2
  rw [show kH (wK W) (kD (wK W)) j2 = (m2, c2) from htb2] at hsh2
  have hok2 := tb_ok hO hj2
  rw [htb2] at hok2
  have hk2 : A 1 (37 * j2) = nI m2 := hsh2.1
  have hl2 : Lat m2 c2 := hok2.2
  have hm62 : m2 ≤ 6 := hok2.1
  have hyes2 : isT A (nI j2) := (has_r hW hO).mpr ((has_i hj2).mpr (by rw [htb2]; exact h12))
  refine rr_nx (pc' := 1) (al' := [some (.ref 146), some (.int (nI j)), some (.int (nI j2)), some (.int w), none]) (st' := [.ref 146]) d_261_0 (fun _ => rfl) ?_
  refine rr_nx (pc' := 2) (al' := [some (.ref 146), some (.int (nI j)), some (.int (nI j2)), some (.int w), none]) (st' := [.int (nI j), .ref 146]) d_261_1 (fun _ => rfl) ?_
  refine rr_pv (as := [.int (nI j)]) (al0 := [some (.ref 146), some (.int (nI j))]) (r := []) d_261_2 mo_261 ml_124 mz_184 rfl rfl rfl (Nat.le_of_ble_eq_true rfl) (s_isTable (nI j)) ?_
  show RR _ _ 5 [some (.ref 146), some (.int (nI j)), some (.int (nI j2)), some (.int w), none] [.int (bI (isT A (nI j)))] g A _
  refine rr_beq (t := 25) d_261_5 (by decide) (fun c5 => ?_) (fun c5 => ?_)
  · exact absurd hyes c5
  · refine rr_nx (pc' := 9) (al' := [some (.ref 146), some (.int (nI j)), some (.int (nI j2)), some (.int w), none]) (st' := [.ref 146]) d_261_8 (fun _ => rfl) ?_
    refine rr_nx (pc' := 10) (al' := [some (.ref 146), some (.int (nI j)), some (.int (nI j2)), some (.int w), none]) (st' := [.int (nI j2), .ref 146]) d_261_9 (fun _ => rfl) ?_
    refine rr_pv (as := [.int (nI j2)]) (al0 := [some (.ref 146), some (.int (nI j2))]) (r := []) d_261_10 mo_261 ml_124 mz_184 rfl rfl rfl (Nat.le_of_ble_eq_true rfl) (s_isTable (nI j2)) ?_
    show RR _ _ 13 [some (.ref 146), some (.int (nI j)), some (.int (nI j2)), some (.int w), none] [.int (bI (isT A (nI j2)))] g A _
    refine rr_beq (t := 25) d_261_13 (by decide) (fun c13 => ?_) (fun c13 => ?_)
    · exact absurd hyes2 c13
    · refine rr_nx (pc' := 17) (al' := [some (.ref 146), some (.int (nI j)), some (.int (nI j2)), some (.int w), none]) (st' := [.int w]) d_261_16 (fun _ => rfl) ?_
      refine rn_ic (v := 0) d_261_17 (by decide) ?_
      refine rn_ic (v := 2) d_261_18 (by decide) ?_
      refine rr_ps (as := [.int w, .int (nI 0), .int (nI 2)]) (al0 := [some (.int w), some (.int (nI 0)), some (.int (nI 2))]) (r := []) d_261_19 mo_261 ml_106 mz_179 rfl rfl rfl (Nat.le_of_ble_eq_true rfl) (s_lies w (nI 0) (nI 2)) ?_
      show RR _ _ 22 [some (.ref 146), some (.int (nI j)), some (.int (nI j2)), some (.int w), none] [.int (bI ((nI 0) ≤ w ∧ w ≤ (nI 2)))] g A _
      refine rr_bne (t := 27) d_261_22 (by decide) (fun c22 => ?_) (fun c22 => ?_)
      · exact absurd c22 (fun e_ => hw ((in_r (m := 2) (by decide)).mp e_))
      · refine rr_nx (pc' := 26) (al' := [some (.ref 146), some (.int (nI j)), some (.int (nI j2)), some (.int w), none]) (st' := [.int (-1)]) d_261_25 (fun _ => rfl) ?_
        exact rr_ri d_261_26 mr_261 rfl ⟨rfl, hW.mo⟩
theorem p_alike_a {S : CS} {G : Nat → Nat → Value} {B : Nat → Nat → Int32} {J : Nat → Nat → Int64} {R : Nat → Nat → Option Nat} {n : Nat} {W : WS} (hW : WC n S G B R W) {t : Int32} (hh : ¬ hasP (wK W) t) {u w : Int32} : CR 80 158 0 [some (.ref 2), some (.int t), some (.int u), some (.int w), none, none] [] S G B J R (fun r__ S' G' B' J' R' => r__ = some (.int (-1)) ∧ WC (n + 1) S' G' B' R' W) := by
  have hS := hW.1.1
  have hF := hW.2.1
  have hO := hW.2.2.2.1
  obtain ⟨ta, ka, la, hH, hLk, hl2, hs3, hbd⟩ := hW.2.2.1
  refine cr_nx (pc' := 1) (al' := [some (.ref 2), some (.int t), some (.int u), some (.int w), none, none]) (st' := [.ref 2]) d_158_0 (fun _ => rfl) ?_
  refine cr_nx (pc' := 2) (al' := [some (.ref 2), some (.int t), some (.int u), some (.int w), none, none]) (st' := [.int t, .ref 2]) d_158_1 (fun _ => rfl) ?_
  refine cr_pv (b := 2) (as := [.int t]) (al0 := [some (.ref 2), some (.int t)]) (r := []) d_158_2 cw_158 cm_11_137 cz_126 rfl rfl (hS.i (a := 2) (by decide) (by decide)) (by rw [cw_126]; exact (hS.s (a := 2) (by decide) (by decide) rfl)) (by rw [cw_126]; decide) rfl (Nat.le_of_ble_eq_true rfl) (k_has hS hF hH hO) ?_
  show CR _ _ 5 [some (.ref 2), some (.int t), some (.int u), some (.int w), none, none] [.int (bI (hasP (wK W) t))] S G B J R _
  refine cr_beq (t := 23) d_158_5 (by decide) (fun c5 => ?_) (fun c5 => ?_)
  · refine cr_nx (pc' := 24) (al' := [some (.ref 2), some (.int t), some (.int u), some (.int w), none, none]) (st' := [.int (-1)]) d_158_23 (fun _ => rfl) ?_
    exact cr_ri d_158_24 cx_158 rfl ⟨rfl, hW.mo⟩
  · exact absurd c5 hh
theorem p_alike_b {S : CS} {G : Nat → Nat → Value} {B : Nat → Nat → Int32} {J : Nat → Nat → Int64} {R : Nat → Nat → Option Nat} {n : Nat} {W : WS} (hW : WC n S G B R W) {j m : Nat} {c : Nat → Nat} (hj : j < 6) (htb : tbK (wK W) j = (m, c)) (h1 : 1 ≤ m) {t : Int32} (hh : ¬ hasP (wK W) t) {w : Int32} : CR 80 158 0 [some (.ref 2), some (.int (nI j)), some (.int t), some (.int w), none, none] [] S G B J R (fun r__ S' G' B' J' R' => r__ = some (.int (-1)) ∧ WC (n + 1) S' G' B' R' W) := by
  have hS := hW.1.1
  have hF := hW.2.1
  have hO := hW.2.2.2.1
  obtain ⟨ta, ka, la, hH, hLk, hl2, hs3, hbd⟩ := hW.2.2.1
  obtain ⟨zt, hzt, ezt⟩ := (hH.2.1 j hj).2
  have ht := hH.ta hj
  have hsh := hH.2.2.2.2.2.2.1 j hj
  rw [show kH (wK W) (kD (wK W)) j = (m, c) from htb] at hsh
  have hok := tb_ok hO hj
  rw [htb] at hok
  have hn : G (ta j) 0 = .int (nI m) := hsh.1
  have hc : TabC B (ta j) m c := hsh.c hok
  have hl : Lat m c := hok.2
  have hm6 : m ≤ 6 := hok.1
  have hyes : hasP (wK W) (nI j) := (has_i hj).mpr (by rw [htb]; exact h1)
  refine cr_nx (pc' := 1) (al' := [some (.ref 2), some (.int (nI j)), some (.int t), some (.int w), none, none]) (st' := [.ref 2]) d_158_0 (fun _ => rfl) ?_
  refine cr_nx (pc' := 2) (al' := [some (.ref 2), some (.int (nI j)), some (.int t), some (.int w), none, none]) (st' := [.int (nI j), .ref 2]) d_158_1 (fun _ => rfl) ?_
  refine cr_pv (b := 2) (as := [.int (nI j)]) (al0 := [some (.ref 2), some (.int (nI j))]) (r := []) d_158_2 cw_158 cm_11_137 cz_126 rfl rfl (hS.i (a := 2) (by decide) (by decide)) (by rw [cw_126]; exact (hS.s (a := 2) (by decide) (by decide) rfl)) (by rw [cw_126]; decide) rfl (Nat.le_of_ble_eq_true rfl) (k_has hS hF hH hO) ?_
  show CR _ _ 5 [some (.ref 2), some (.int (nI j)), some (.int t), some (.int w), none, none] [.int (bI (hasP (wK W) (nI j)))] S G B J R _
  refine cr_beq (t := 23) d_158_5 (by decide) (fun c5 => ?_) (fun c5 => ?_)
  · exact absurd hyes c5
  · refine cr_nx (pc' := 9) (al' := [some (.ref 2), some (.int (nI j)), some (.int t), some (.int w), none, none]) (st' := [.ref 2]) d_158_8 (fun _ => rfl) ?_
    refine cr_nx (pc' := 10) (al' := [some (.ref 2), some (.int (nI j)), some (.int t), some (.int w), none, none]) (st' := [.int t, .ref 2]) d_158_9 (fun _ => rfl) ?_
    refine cr_pv (b := 2) (as := [.int t]) (al0 := [some (.ref 2), some (.int t)]) (r := []) d_158_10 cw_158 cm_11_137 cz_126 rfl rfl (hS.i (a := 2) (by decide) (by decide)) (by rw [cw_126]; exact (hS.s (a := 2) (by decide) (by decide) rfl)) (by rw [cw_126]; decide) rfl (Nat.le_of_ble_eq_true rfl) (k_has hS hF hH hO) ?_
    show CR _ _ 13 [some (.ref 2), some (.int (nI j)), some (.int t), some (.int w), none, none] [.int (bI (hasP (wK W) t))] S G B J R _
    refine cr_beq (t := 23) d_158_13 (by decide) (fun c13 => ?_) (fun c13 => ?_)
    · refine cr_nx (pc' := 24) (al' := [some (.ref 2), some (.int (nI j)), some (.int t), some (.int w), none, none]) (st' := [.int (-1)]) d_158_23 (fun _ => rfl) ?_
      exact cr_ri d_158_24 cx_158 rfl ⟨rfl, hW.mo⟩
    · exact absurd c13 hh
theorem r_alike_a {g : Nat → Int32} {A : Nat → Nat → Int32} {n : Nat} {W : WS} (hW : WR n g A W) (hO : CoOk (wK W)) {t : Int32} (hh : ¬ hasP (wK W) t) {u w : Int32} : RR 80 261 0 [some (.ref 146), some (.int t), some (.int u), some (.int w), none] [] g A (fun r__ g' A' => r__ = some (.int (-1)) ∧ WR (n + 1) g' A' W) := by
  refine rr_nx (pc' := 1) (al' := [some (.ref 146), some (.int t), some (.int u), some (.int w), none]) (st' := [.ref 146]) d_261_0 (fun _ => rfl) ?_
  refine rr_nx (pc' := 2) (al' := [some (.ref 146), some (.int t), some (.int u), some (.int w), none]) (st' := [.int t, .ref 146]) d_261_1 (fun _ => rfl) ?_
  refine rr_pv (as := [.int t]) (al0 := [some (.ref 146), some (.int t)]) (r := []) d_261_2 mo_261 ml_124 mz_184 rfl rfl rfl (Nat.le_of_ble_eq_true rfl) (s_isTable t) ?_
  show RR _ _ 5 [some (.ref 146), some (.int t), some (.int u), some (.int w), none] [.int (bI (isT A t))] g A _
  refine rr_beq (t := 25) d_261_5 (by decide) (fun c5 => ?_) (fun c5 => ?_)
  · refine rr_nx (pc' := 26) (al' := [some (.ref 146), some (.int t), some (.int u), some (.int w), none]) (st' := [.int (-1)]) d_261_25 (fun _ => rfl) ?_
    exact rr_ri d_261_26 mr_261 rfl ⟨rfl, hW.mo⟩
  · exact absurd c5 (fun e_ => hh ((has_r hW hO).mp e_))
theorem r_alike_b {g : Nat → Int32} {A : Nat → Nat → Int32} {n : Nat} {W : WS} (hW : WR n g A W) (hO : CoOk (wK W)) {j m : Nat} {c : Nat → Nat} (hj : j < 6) (htb : tbK (wK W) j = (m, c)) (h1 : 1 ≤ m) {t : Int32} (hh : ¬ hasP (wK W) t) {w : Int32} : RR 80 261 0 [some (.ref 146), some (.int (nI j)), some (.int t), some (.int w), none] [] g A (fun r__ g' A' => r__ = some (.int (-1)) ∧ WR (n + 1) g' A' W) := by
  have hsh := hW.1.1.1 j hj
  rw [show kH (wK W) (kD (wK W)) j = (m, c) from htb] at hsh
  have hok := tb_ok hO hj
  rw [htb] at hok
  have hk : A 1 (37 * j) = nI m := hsh.1
  have hl : Lat m c := hok.2
  have hm6 : m ≤ 6 := hok.1
  have hyes : isT A (nI j) := (has_r hW hO).mpr ((has_i hj).mpr (by rw [htb]; exact h1))
  refine rr_nx (pc' := 1) (al' := [some (.ref 146), some (.int (nI j)), some (.int t), some (.int w), none]) (st' := [.ref 146]) d_261_0 (fun _ => rfl) ?_
  refine rr_nx (pc' := 2) (al' := [some (.ref 146), some (.int (nI j)), some (.int t), some (.int w), none]) (st' := [.int (nI j), .ref 146]) d_261_1 (fun _ => rfl) ?_
  refine rr_pv (as := [.int (nI j)]) (al0 := [some (.ref 146), some (.int (nI j))]) (r := []) d_261_2 mo_261 ml_124 mz_184 rfl rfl rfl (Nat.le_of_ble_eq_true rfl) (s_isTable (nI j)) ?_
  show RR _ _ 5 [some (.ref 146), some (.int (nI j)), some (.int t), some (.int w), none] [.int (bI (isT A (nI j)))] g A _
  refine rr_beq (t := 25) d_261_5 (by decide) (fun c5 => ?_) (fun c5 => ?_)
  · exact absurd hyes c5
  · refine rr_nx (pc' := 9) (al' := [some (.ref 146), some (.int (nI j)), some (.int t), some (.int w), none]) (st' := [.ref 146]) d_261_8 (fun _ => rfl) ?_
    refine rr_nx (pc' := 10) (al' := [some (.ref 146), some (.int (nI j)), some (.int t), some (.int w), none]) (st' := [.int t, .ref 146]) d_261_9 (fun _ => rfl) ?_
    refine rr_pv (as := [.int t]) (al0 := [some (.ref 146), some (.int t)]) (r := []) d_261_10 mo_261 ml_124 mz_184 rfl rfl rfl (Nat.le_of_ble_eq_true rfl) (s_isTable t) ?_
    show RR _ _ 13 [some (.ref 146), some (.int (nI j)), some (.int t), some (.int w), none] [.int (bI (isT A t))] g A _
    refine rr_beq (t := 25) d_261_13 (by decide) (fun c13 => ?_) (fun c13 => ?_)
    · refine rr_nx (pc' := 26) (al' := [some (.ref 146), some (.int (nI j)), some (.int t), some (.int w), none]) (st' := [.int (-1)]) d_261_25 (fun _ => rfl) ?_
      exact rr_ri d_261_26 mr_261 rfl ⟨rfl, hW.mo⟩
    · exact absurd c13 (fun e_ => hh ((has_r hW hO).mp e_))
theorem T_alike {S : CS} {G : Nat → Nat → Value} {B : Nat → Nat → Int32} {J : Nat → Nat → Int64} {R : Nat → Nat → Option Nat} {g : Nat → Int32} {A : Nat → Nat → Int32} {n : Nat} {W : WS} (hC : WC n S G B R W) (hR : WR n g A W) (hn : n ≤ 10000) {t : Int32} {u : Int32} {w : Int32} : Tie n 158 261 [some (.ref 2), some (.int t), some (.int u), some (.int w), none, none] [some (.ref 146), some (.int t), some (.int u), some (.int w), none] S G B J R g A W := by
  have hO := hC.2.2.2.1
  by_cases hh : hasP (wK W) t
  · obtain ⟨j, hj, e_, h1⟩ := has_n hh
    subst e_
    obtain ⟨⟨m, c⟩, htb⟩ : ∃ tb, tbK (wK W) j = tb := ⟨_, rfl⟩
    rw [htb] at h1
    by_cases hh2 : hasP (wK W) u
    · obtain ⟨j2, hj2, e_, h12⟩ := has_n hh2
      subst e_
      obtain ⟨⟨m2, c2⟩, htb2⟩ : ∃ tb, tbK (wK W) j2 = tb := ⟨_, rfl⟩
      rw [htb2] at h12
      by_cases hw : inP w 3
      · obtain ⟨k, hk, e_⟩ := in_n hw
        subst e_
        by_cases hmm : m = m2
        · have hk2 : k = 0 ∨ k = 1 ∨ k = 2 := by omega
          rcases hk2 with rfl | rfl | rfl
          · exact ⟨_, W, p_alike0 hC hj htb h1 hj2 htb2 h12 hmm, r_alike0 hR hO hj htb h1 hj2 htb2 h12 hmm⟩
          · exact ⟨_, W, p_alike1 hC hj htb h1 hj2 htb2 h12 hmm, r_alike1 hR hO hj htb h1 hj2 htb2 h12 hmm⟩
          · exact ⟨_, W, p_alike2 hC hj htb h1 hj2 htb2 h12 hmm, r_alike2 hR hO hj htb h1 hj2 htb2 h12 hmm⟩
        · exact ⟨_, W, p_alike_d hC hj htb h1 hj2 htb2 h12 hk hmm, r_alike_d hR hO hj htb h1 hj2 htb2 h12 hk hmm⟩
      · exact ⟨_, W, p_alike_x hC hj htb h1 hj2 htb2 h12 hw, r_alike_x hR hO hj htb h1 hj2 htb2 h12 hw⟩
    · exact ⟨_, W, p_alike_b hC hj htb h1 hh2, r_alike_b hR hO hj htb h1 hh2⟩
  · exact ⟨_, W, p_alike_a hC hh, r_alike_a hR hO hh⟩
