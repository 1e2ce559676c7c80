/-! Tables filled in all ways: runs of the reference; printed by wip/whole/gen_c08.py. -/
theorem lf_n {s : Option Nat} {m L : Nat} (hC : capO s m L) (h : nI (m + 1) = stI s) : nI (m + 1) = nI (capN s (m + [0].length)) := by
  have hm := hC.m
  cases s with
  | none => rfl
  | some t =>
    have h1 := hC.1
    show nI (m + 1) = nI (min t (m + 1))
    rw [show min t (m + 1) = m + 1 by omega]
theorem lf_n2 {s : Option Nat} {m L : Nat} (hC : capO s m L) (h : ¬ nI (m + 1) = stI s) : nI (m + 1) = nI (capN s (m + [0].length)) := by
  cases s with
  | none => rfl
  | some t =>
    have h1 := hC.1
    show nI (m + 1) = nI (min t (m + 1))
    rw [show min t (m + 1) = m + 1 by omega]
theorem lf_t {s : Option Nat} {m L t : Nat} (hC : capO s m L) (h : nI (m + 1) = stI s) (ht : s = some t) : t - m - 1 = 0 := by
  subst ht
  have h1 := hC.1
  have h2 := hC.2
  have : m + 1 = t := (nI_eq (by omega) (by omega)).mp h
  omega
theorem lf_t2 {s : Option Nat} {m L t : Nat} (hC : capO s m L) (h : ¬ nI (m + 1) = stI s) (hle : t ≤ m + [0].length) : ¬ s = some t := by
  rintro rfl
  have h1 := hC.1
  have hle : t ≤ m + 1 := hle
  exact h (by rw [show t = m + 1 by omega]; rfl)
theorem s_leaf0 {g : Nat → Int32} {A : Nat → Nat → Int32} {n m : Nat} {T : Nat → Option Nat} {s : Option Nat} {L : Nat} (hn6 : n ≤ 6) (hn : 0 < n) {c : Nat → Nat} (hS : FiS n T (n * n) c g A) (hC : capO s m L) (h44 : g 44 = nI m) (h45 : g 45 = stI s) (h48 : g 48 = nI 0) : RR 25 275 0 [some (.ref 146), some (.int (nI (n * n))), none, none, none, none] [] g A (FiQ s m ([c]) n T (n * n) c g A) := by
  have hnn : n * n ≤ 36 := Nat.mul_le_mul hn6 hn6
  have hm5 := hC.m
  refine rr_nx (pc' := 1) (al' := [some (.ref 146), some (.int (nI (n * n))), none, none, none, none]) (st' := [.ref 146]) d_275_0 (fun _ => rfl) ?_
  refine rr_gn d_275_1 mo_275 fl_337 rfl h44 ?_
  refine rr_nx (pc' := 5) (al' := [some (.ref 146), some (.int (nI (n * n))), none, none, none, none]) (st' := [.ref 146, .int (nI m)]) d_275_4 (fun _ => rfl) ?_
  refine rr_gf (v := .int (g 45)) d_275_5 mo_275 fl_340 rfl ?_
  refine rr_cne (t := 12) d_275_8 (by decide) (fun c8 => ?_) (fun c8 => ?_)
  · refine rr_nx (pc' := 13) (al' := [some (.ref 146), some (.int (nI (n * n))), none, none, none, none]) (st' := [.int (nI (n * n))]) d_275_12 (fun _ => rfl) ?_
    refine rr_nx (pc' := 14) (al' := [some (.ref 146), some (.int (nI (n * n))), none, none, none, none]) (st' := [.ref 146, .int (nI (n * n))]) d_275_13 (fun _ => rfl) ?_
    refine rr_gn d_275_14 mo_275 fl_127 rfl hS.1 ?_
    refine rr_nx (pc' := 18) (al' := [some (.ref 146), some (.int (nI (n * n))), none, none, none, none]) (st' := [.ref 146, .int (nI n), .int (nI (n * n))]) d_275_17 (fun _ => rfl) ?_
    refine rr_gn d_275_18 mo_275 fl_127 rfl hS.1 ?_
    refine rn_mul d_275_21  ?_
    refine rn_cne (t := 95) d_275_22 (by decide) (by omega) (by omega) (fun c22 => ?_) (fun c22 => ?_)
    · omega
    · refine rr_nx (pc' := 26) (al' := [some (.ref 146), some (.int (nI (n * n))), none, none, none, none]) (st' := [.ref 146]) d_275_25 (fun _ => rfl) ?_
      refine rr_gn d_275_26 mo_275 fl_343 rfl h48 ?_
      refine rn_ieq (t := 40) d_275_29 (by decide) (by first | omega | assumption | exact cu_36 (by omega) (cu_lt (by omega) (by omega))) (fun c29 => ?_) (fun c29 => ?_)
      · refine rr_nx (pc' := 41) (al' := [some (.ref 146), some (.int (nI (n * n))), none, none, none, none]) (st' := [.ref 146]) d_275_40 (fun _ => rfl) ?_
        refine rr_nx (pc' := 42) (al' := [some (.ref 146), some (.int (nI (n * n))), none, none, none, none]) (st' := [.ref 146, .ref 146]) d_275_41 (fun _ => rfl) ?_
        refine rr_gn d_275_42 mo_275 fl_337 rfl h44 ?_
        refine rn_ic (v := 1) d_275_45 (by decide) ?_
        refine rn_add d_275_46  ?_
        refine rp_44 d_275_47 mo_275 fl_337  ?_
        refine rr_nx (pc' := 51) (al' := [some (.ref 146), some (.int (nI (n * n))), none, none, none, none]) (st' := [.ref 146]) d_275_50 (fun _ => rfl) ?_
        refine rr_gf (v := .int (nI (m + 1))) d_275_51 mo_275 fl_337 rfl ?_
        refine rr_nx (pc' := 55) (al' := [some (.ref 146), some (.int (nI (n * n))), none, none, none, none]) (st' := [.ref 146, .int (nI (m + 1))]) d_275_54 (fun _ => rfl) ?_
        refine rr_gf (v := .int (g 45)) d_275_55 mo_275 fl_340 rfl ?_
        refine rr_cne (t := 94) d_275_58 (by decide) (fun c58 => ?_) (fun c58 => ?_)
        · rw [h45] at c58
          exact rr_rv d_275_94 mr_275 ⟨rfl, (hS).fr (pk_un (by decide)) rfl rfl rfl rfl, (FiF.rf).g, by exact ⟨by rw [pk_us, lf_n2 hC c58]; rfl, fun t ht hle => absurd ht (lf_t2 hC c58 hle)⟩⟩
        · rw [h45] at c58
          refine rn_ic (v := 0) d_275_61 (by decide) ?_
          refine rr_nx (pc' := 63) (al' := [some (.ref 146), some (.int (nI (n * n))), some (.int (nI 0)), none, none, none]) (st' := []) d_275_62 (fun _ => rfl) ?_
          refine rr_A (show A = (rf_u A 5 (A 5)) by rw [rf_u_id]) ?_
          refine rr_upw (al := fun i w_ => [some (.ref 146), some (.int (nI (n * n))), some (.int (nI i)), none, none, none]) (G := fun i w_ => (upd g 44 (nI (m + 1)))) (B := fun i w_ => (rf_u A 5 w_)) (P := fun i w_ => ∀ q, q < i → w_ q = nI (c q)) (n := n * n) (fun i w_ hi pi ihi => ?_) (fun w_ pi => ?_) 0 (A 5) (by omega) (all_0)
          · show RR _ _ 63 [some (.ref 146), some (.int (nI (n * n))), some (.int (nI i)), none, none, none] [] (upd g 44 (nI (m + 1))) (rf_u A 5 w_) _
            refine rr_nx (pc' := 64) (al' := [some (.ref 146), some (.int (nI (n * n))), some (.int (nI i)), none, none, none]) (st' := [.int (nI i)]) d_275_63 (fun _ => rfl) ?_
            refine rr_nx (pc' := 65) (al' := [some (.ref 146), some (.int (nI (n * n))), some (.int (nI i)), none, none, none]) (st' := [.ref 146, .int (nI i)]) d_275_64 (fun _ => rfl) ?_
            refine rr_gf (v := .int (g 6)) d_275_65 mo_275 fl_127 rfl ?_
            refine rr_tp (z := nI n) hS.1 ?_
            refine rr_nx (pc' := 69) (al' := [some (.ref 146), some (.int (nI (n * n))), some (.int (nI i)), none, none, none]) (st' := [.ref 146, .int (nI n), .int (nI i)]) d_275_68 (fun _ => rfl) ?_
            refine rr_gf (v := .int (g 6)) d_275_69 mo_275 fl_127 rfl ?_
            refine rr_tp (z := nI n) hS.1 ?_
            refine rn_mul d_275_72  ?_
            refine rn_cge (t := 94) d_275_73 (by decide) (by omega) (by omega) (fun c73 => ?_) (fun c73 => ?_)
            · omega
            · refine rr_nx (pc' := 77) (al' := [some (.ref 146), some (.int (nI (n * n))), some (.int (nI i)), none, none, none]) (st' := [.ref 146]) d_275_76 (fun _ => rfl) ?_
              refine rr_gf (v := .ref (147 + 5)) d_275_77 mo_275 fl_26 rfl ?_
              refine rr_nx (pc' := 81) (al' := [some (.ref 146), some (.int (nI (n * n))), some (.int (nI i)), none, none, none]) (st' := [.int (nI i), .ref (147 + 5)]) d_275_80 (fun _ => rfl) ?_
              refine rr_nx (pc' := 82) (al' := [some (.ref 146), some (.int (nI (n * n))), some (.int (nI i)), none, none, none]) (st' := [.ref 146, .int (nI i), .ref (147 + 5)]) d_275_81 (fun _ => rfl) ?_
              refine rr_gf (v := .ref (147 + 4)) d_275_82 mo_275 fl_23 rfl ?_
              refine rr_nx (pc' := 86) (al' := [some (.ref 146), some (.int (nI (n * n))), some (.int (nI i)), none, none, none]) (st' := [.int (nI i), .ref (147 + 4), .int (nI i), .ref (147 + 5)]) d_275_85 (fun _ => rfl) ?_
              refine rr_ia (j := 4) (v := (nI (c i))) d_275_86 (by decide) rfl (by decide) (show i < 36 by first | omega | assumption | exact cu_36 (by omega) (cu_lt (by omega) (by omega))) (hS.2.1 i hi) ?_
              refine rr_iS (j := 5) (A1 := (rf_u A 5 (upd w_ i (nI (c i))))) d_275_87 (by decide) rfl (by decide) (show i < 36 by first | omega | assumption | exact cu_36 (by omega) (cu_lt (by omega) (by omega))) rf_uw ?_
              refine rn_inc d_275_88 rfl rfl ?_
              show RR _ _ 91 [some (.ref 146), some (.int (nI (n * n))), some (.int (nI (i + 1))), none, none, none] [] (upd g 44 (nI (m + 1))) (rf_u A 5 (upd w_ i (nI (c i)))) _
              refine rr_nx (pc' := 63) (al' := [some (.ref 146), some (.int (nI (n * n))), some (.int (nI (i + 1))), none, none, none]) (st' := []) d_275_91 (fun _ => rfl) ?_
              exact ihi (upd w_ i (nI (c i))) (up_all (f := fun q => nI (c q)) pi rfl)
          · show RR _ _ 63 [some (.ref 146), some (.int (nI (n * n))), some (.int (nI (n * n))), none, none, none] [] (upd g 44 (nI (m + 1))) (rf_u A 5 w_) _
            refine rr_nx (pc' := 64) (al' := [some (.ref 146), some (.int (nI (n * n))), some (.int (nI (n * n))), none, none, none]) (st' := [.int (nI (n * n))]) d_275_63 (fun _ => rfl) ?_
            refine rr_nx (pc' := 65) (al' := [some (.ref 146), some (.int (nI (n * n))), some (.int (nI (n * n))), none, none, none]) (st' := [.ref 146, .int (nI (n * n))]) d_275_64 (fun _ => rfl) ?_
            refine rr_gf (v := .int (g 6)) d_275_65 mo_275 fl_127 rfl ?_
            refine rr_tp (z := nI n) hS.1 ?_
            refine rr_nx (pc' := 69) (al' := [some (.ref 146), some (.int (nI (n * n))), some (.int (nI (n * n))), none, none, none]) (st' := [.ref 146, .int (nI n), .int (nI (n * n))]) d_275_68 (fun _ => rfl) ?_
            refine rr_gf (v := .int (g 6)) d_275_69 mo_275 fl_127 rfl ?_
            refine rr_tp (z := nI n) hS.1 ?_
            refine rn_mul d_275_72  ?_
            refine rn_cge (t := 94) d_275_73 (by decide) (by omega) (by omega) (fun c73 => ?_) (fun c73 => ?_)
            · exact rr_rv d_275_94 mr_275 ⟨rfl, (hS).fr (pk_un (by decide)) (rf_u_n (by decide)) (rf_u_n (by decide)) (rf_u_n (by decide)) (rf_u_n (by decide)), ((FiF.rf).g).u (by decide), by exact ⟨by rw [pk_us, lf_n hC c58]; rfl, fun t ht hle q hq => by rw [rf_u_s, pi q hq, lf_t hC c58 ht]; rfl⟩⟩
            · omega
      · omega
  · exact absurd ((stI_e hC.le hm5).mp (c8.trans h45)) hC.ne
theorem s_leaf1 {g : Nat → Int32} {A : Nat → Nat → Int32} {n m : Nat} {T : Nat → Option Nat} {s : Option Nat} {L : Nat} (hn6 : n ≤ 6) (hn : 0 < n) {c : Nat → Nat} (hS : FiS n T (n * n) c g A) (hC : capO s m L) (h44 : g 44 = nI m) (h45 : g 45 = stI s) (h48 : g 48 = nI 1) {P : Bool} (hP : RR 24 276 0 [some (.ref 146), none, none, none, none] [] g A (fun v g' A' => v = some (.int (bI (P = true))) ∧ (∀ k, k < 24 ∨ 30 ≤ k → g' k = g k) ∧ ∀ j, j ≠ 12 → A' j = A j)) : RR 25 275 0 [some (.ref 146), some (.int (nI (n * n))), none, none, none, none] [] g A (FiQ s m ([c].filter (fun _ => P)) n T (n * n) c g A) := by
  have hnn : n * n ≤ 36 := Nat.mul_le_mul hn6 hn6
  have hm5 := hC.m
  refine rr_nx (pc' := 1) (al' := [some (.ref 146), some (.int (nI (n * n))), none, none, none, none]) (st' := [.ref 146]) d_275_0 (fun _ => rfl) ?_
  refine rr_gn d_275_1 mo_275 fl_337 rfl h44 ?_
  refine rr_nx (pc' := 5) (al' := [some (.ref 146), some (.int (nI (n * n))), none, none, none, none]) (st' := [.ref 146, .int (nI m)]) d_275_4 (fun _ => rfl) ?_
  refine rr_gf (v := .int (g 45)) d_275_5 mo_275 fl_340 rfl ?_
  refine rr_cne (t := 12) d_275_8 (by decide) (fun c8 => ?_) (fun c8 => ?_)
  · refine rr_nx (pc' := 13) (al' := [some (.ref 146), some (.int (nI (n * n))), none, none, none, none]) (st' := [.int (nI (n * n))]) d_275_12 (fun _ => rfl) ?_
    refine rr_nx (pc' := 14) (al' := [some (.ref 146), some (.int (nI (n * n))), none, none, none, none]) (st' := [.ref 146, .int (nI (n * n))]) d_275_13 (fun _ => rfl) ?_
    refine rr_gn d_275_14 mo_275 fl_127 rfl hS.1 ?_
    refine rr_nx (pc' := 18) (al' := [some (.ref 146), some (.int (nI (n * n))), none, none, none, none]) (st' := [.ref 146, .int (nI n), .int (nI (n * n))]) d_275_17 (fun _ => rfl) ?_
    refine rr_gn d_275_18 mo_275 fl_127 rfl hS.1 ?_
    refine rn_mul d_275_21  ?_
    refine rn_cne (t := 95) d_275_22 (by decide) (by omega) (by omega) (fun c22 => ?_) (fun c22 => ?_)
    · omega
    · refine rr_nx (pc' := 26) (al' := [some (.ref 146), some (.int (nI (n * n))), none, none, none, none]) (st' := [.ref 146]) d_275_25 (fun _ => rfl) ?_
      refine rr_gn d_275_26 mo_275 fl_343 rfl h48 ?_
      refine rn_ieq (t := 40) d_275_29 (by decide) (by first | omega | assumption | exact cu_36 (by omega) (cu_lt (by omega) (by omega))) (fun c29 => ?_) (fun c29 => ?_)
      · omega
      · refine rr_nx (pc' := 33) (al' := [some (.ref 146), some (.int (nI (n * n))), none, none, none, none]) (st' := [.ref 146]) d_275_32 (fun _ => rfl) ?_
        refine rr_cv (as := []) (al0 := [some (.ref 146), none, none, none, none]) (r := []) d_275_33 mo_275 ml_346 mz_276 rfl rfl rfl (rr_wk (Nat.le_of_ble_eq_true rfl) (hP)) (fun v1 g1 A1 h1 => ?_)
        obtain ⟨q0_, hg1, hA1⟩ := h1
        obtain rfl := q0_
        have hS1 : FiS n T (n * n) c g1 A1 := hS.fr (hg1 6 (by omega)) (hA1 4 (by decide)) (hA1 23 (by decide)) (hA1 24 (by decide)) (hA1 25 (by decide))
        have hF1 : FiF g A g1 A1 := ⟨fun k a _ => hg1 k a, fun j _ _ a _ _ => hA1 j a⟩
        have h44 := (hg1 44 (by omega)).trans h44
        have h45 := (hg1 45 (by omega)).trans h45
        show RR _ _ 36 [some (.ref 146), some (.int (nI (n * n))), none, none, none, none] [.int (bI (P = true))] g1 A1 _
        refine rr_bne (t := 40) d_275_36 (by decide) (fun c36 => ?_) (fun c36 => ?_)
        · refine rr_nx (pc' := 41) (al' := [some (.ref 146), some (.int (nI (n * n))), none, none, none, none]) (st' := [.ref 146]) d_275_40 (fun _ => rfl) ?_
          refine rr_nx (pc' := 42) (al' := [some (.ref 146), some (.int (nI (n * n))), none, none, none, none]) (st' := [.ref 146, .ref 146]) d_275_41 (fun _ => rfl) ?_
          refine rr_gn d_275_42 mo_275 fl_337 rfl h44 ?_
          refine rn_ic (v := 1) d_275_45 (by decide) ?_
          refine rn_add d_275_46  ?_
          refine rp_44 d_275_47 mo_275 fl_337  ?_
          refine rr_nx (pc' := 51) (al' := [some (.ref 146), some (.int (nI (n * n))), none, none, none, none]) (st' := [.ref 146]) d_275_50 (fun _ => rfl) ?_
          refine rr_gf (v := .int (nI (m + 1))) d_275_51 mo_275 fl_337 rfl ?_
          refine rr_nx (pc' := 55) (al' := [some (.ref 146), some (.int (nI (n * n))), none, none, none, none]) (st' := [.ref 146, .int (nI (m + 1))]) d_275_54 (fun _ => rfl) ?_
          refine rr_gf (v := .int (g1 45)) d_275_55 mo_275 fl_340 rfl ?_
          refine rr_cne (t := 94) d_275_58 (by decide) (fun c58 => ?_) (fun c58 => ?_)
          · rw [h45] at c58
            exact rr_rv d_275_94 mr_275 ⟨rfl, (hS1).fr (pk_un (by decide)) rfl rfl rfl rfl, (hF1).g, by rw [show [c].filter (fun _ => P) = [c] by rw [c36]; rfl]; exact ⟨by rw [pk_us, lf_n2 hC c58]; rfl, fun t ht hle => absurd ht (lf_t2 hC c58 hle)⟩⟩
          · rw [h45] at c58
            refine rn_ic (v := 0) d_275_61 (by decide) ?_
            refine rr_nx (pc' := 63) (al' := [some (.ref 146), some (.int (nI (n * n))), some (.int (nI 0)), none, none, none]) (st' := []) d_275_62 (fun _ => rfl) ?_
            refine rr_A (show A1 = (rf_u A1 5 (A1 5)) by rw [rf_u_id]) ?_
            refine rr_upw (al := fun i w_ => [some (.ref 146), some (.int (nI (n * n))), some (.int (nI i)), none, none, none]) (G := fun i w_ => (upd g1 44 (nI (m + 1)))) (B := fun i w_ => (rf_u A1 5 w_)) (P := fun i w_ => ∀ q, q < i → w_ q = nI (c q)) (n := n * n) (fun i w_ hi pi ihi => ?_) (fun w_ pi => ?_) 0 (A1 5) (by omega) (all_0)
            · show RR _ _ 63 [some (.ref 146), some (.int (nI (n * n))), some (.int (nI i)), none, none, none] [] (upd g1 44 (nI (m + 1))) (rf_u A1 5 w_) _
              refine rr_nx (pc' := 64) (al' := [some (.ref 146), some (.int (nI (n * n))), some (.int (nI i)), none, none, none]) (st' := [.int (nI i)]) d_275_63 (fun _ => rfl) ?_
              refine rr_nx (pc' := 65) (al' := [some (.ref 146), some (.int (nI (n * n))), some (.int (nI i)), none, none, none]) (st' := [.ref 146, .int (nI i)]) d_275_64 (fun _ => rfl) ?_
              refine rr_gf (v := .int (g1 6)) d_275_65 mo_275 fl_127 rfl ?_
              refine rr_tp (z := nI n) hS1.1 ?_
              refine rr_nx (pc' := 69) (al' := [some (.ref 146), some (.int (nI (n * n))), some (.int (nI i)), none, none, none]) (st' := [.ref 146, .int (nI n), .int (nI i)]) d_275_68 (fun _ => rfl) ?_
              refine rr_gf (v := .int (g1 6)) d_275_69 mo_275 fl_127 rfl ?_
              refine rr_tp (z := nI n) hS1.1 ?_
              refine rn_mul d_275_72  ?_
              refine rn_cge (t := 94) d_275_73 (by decide) (by omega) (by omega) (fun c73 => ?_) (fun c73 => ?_)
              · omega
              · refine rr_nx (pc' := 77) (al' := [some (.ref 146), some (.int (nI (n * n))), some (.int (nI i)), none, none, none]) (st' := [.ref 146]) d_275_76 (fun _ => rfl) ?_
                refine rr_gf (v := .ref (147 + 5)) d_275_77 mo_275 fl_26 rfl ?_
                refine rr_nx (pc' := 81) (al' := [some (.ref 146), some (.int (nI (n * n))), some (.int (nI i)), none, none, none]) (st' := [.int (nI i), .ref (147 + 5)]) d_275_80 (fun _ => rfl) ?_
                refine rr_nx (pc' := 82) (al' := [some (.ref 146), some (.int (nI (n * n))), some (.int (nI i)), none, none, none]) (st' := [.ref 146, .int (nI i), .ref (147 + 5)]) d_275_81 (fun _ => rfl) ?_
                refine rr_gf (v := .ref (147 + 4)) d_275_82 mo_275 fl_23 rfl ?_
                refine rr_nx (pc' := 86) (al' := [some (.ref 146), some (.int (nI (n * n))), some (.int (nI i)), none, none, none]) (st' := [.int (nI i), .ref (147 + 4), .int (nI i), .ref (147 + 5)]) d_275_85 (fun _ => rfl) ?_
                refine rr_ia (j := 4) (v := (nI (c i))) d_275_86 (by decide) rfl (by decide) (show i < 36 by first | omega | assumption | exact cu_36 (by omega) (cu_lt (by omega) (by omega))) (hS1.2.1 i hi) ?_
                refine rr_iS (j := 5) (A1 := (rf_u A1 5 (upd w_ i (nI (c i))))) d_275_87 (by decide) rfl (by decide) (show i < 36 by first | omega | assumption | exact cu_36 (by omega) (cu_lt (by omega) (by omega))) rf_uw ?_
                refine rn_inc d_275_88 rfl rfl ?_
                show RR _ _ 91 [some (.ref 146), some (.int (nI (n * n))), some (.int (nI (i + 1))), none, none, none] [] (upd g1 44 (nI (m + 1))) (rf_u A1 5 (upd w_ i (nI (c i)))) _
                refine rr_nx (pc' := 63) (al' := [some (.ref 146), some (.int (nI (n * n))), some (.int (nI (i + 1))), none, none, none]) (st' := []) d_275_91 (fun _ => rfl) ?_
                exact ihi (upd w_ i (nI (c i))) (up_all (f := fun q => nI (c q)) pi rfl)
            · show RR _ _ 63 [some (.ref 146), some (.int (nI (n * n))), some (.int (nI (n * n))), none, none, none] [] (upd g1 44 (nI (m + 1))) (rf_u A1 5 w_) _
              refine rr_nx (pc' := 64) (al' := [some (.ref 146), some (.int (nI (n * n))), some (.int (nI (n * n))), none, none, none]) (st' := [.int (nI (n * n))]) d_275_63 (fun _ => rfl) ?_
              refine rr_nx (pc' := 65) (al' := [some (.ref 146), some (.int (nI (n * n))), some (.int (nI (n * n))), none, none, none]) (st' := [.ref 146, .int (nI (n * n))]) d_275_64 (fun _ => rfl) ?_
              refine rr_gf (v := .int (g1 6)) d_275_65 mo_275 fl_127 rfl ?_
              refine rr_tp (z := nI n) hS1.1 ?_
              refine rr_nx (pc' := 69) (al' := [some (.ref 146), some (.int (nI (n * n))), some (.int (nI (n * n))), none, none, none]) (st' := [.ref 146, .int (nI n), .int (nI (n * n))]) d_275_68 (fun _ => rfl) ?_
              refine rr_gf (v := .int (g1 6)) d_275_69 mo_275 fl_127 rfl ?_
              refine rr_tp (z := nI n) hS1.1 ?_
              refine rn_mul d_275_72  ?_
              refine rn_cge (t := 94) d_275_73 (by decide) (by omega) (by omega) (fun c73 => ?_) (fun c73 => ?_)
              · exact rr_rv d_275_94 mr_275 ⟨rfl, (hS1).fr (pk_un (by decide)) (rf_u_n (by decide)) (rf_u_n (by decide)) (rf_u_n (by decide)) (rf_u_n (by decide)), ((hF1).g).u (by decide), by rw [show [c].filter (fun _ => P) = [c] by rw [c36]; rfl]; exact ⟨by rw [pk_us, lf_n hC c58]; rfl, fun t ht hle q hq => by rw [rf_u_s, pi q hq, lf_t hC c58 ht]; rfl⟩⟩
              · omega
        · exact rr_rv d_275_39 mr_275 ⟨rfl, hS1, hF1, by rw [show [c].filter (fun _ => P) = [] by rw [Bool.eq_false_iff.mpr c36]; rfl]; exact FiO.nil hC h44⟩
  · exact absurd ((stI_e hC.le hm5).mp (c8.trans h45)) hC.ne
theorem fl_fi {n : Nat} {T : Nat → Option Nat} {f k : Nat} {c : Nat → Nat} {P : (Nat → Nat) → Bool} {v m : Nat} : m + ((flV n T f k c v).filter P).length ≤ m + (flV n T f k c v).length := Nat.add_le_add_left (List.length_filter_le _ _) m
theorem flv_le {n : Nat} {T : Nat → Option Nat} {f k : Nat} {c : Nat → Nat} {v u : Nat} (h : v ≤ u) : (flV n T f k c v).length ≤ (flV n T f k c u).length := by
  obtain ⟨r, e⟩ := flV_pre (n := n) (T := T) (f := f) (k := k) (c := c) h
  rw [e, List.length_append]
  omega
theorem capO.st {n : Nat} {T : Nat → Option Nat} {f k : Nat} {c : Nat → Nat} {P : (Nat → Nat) → Bool} {v m : Nat} {s : Option Nat} (h : capO s m (flL n T (f + 1) k c).length) (hv : v < n) (ht : ∀ t, s = some t → m + ((flV n T f k c v).filter P).length < t) : capO s (m + ((flV n T f k c v).filter P).length) (flX n T f k c v).length := by
  cases s with
  | none =>
    have h : m + (flV n T f k c n).length ≤ 100000 := h
    have h1 := flv_le (n := n) (T := T) (f := f) (k := k) (c := c) (show v + 1 ≤ n from hv)
    rw [flV_s, List.length_append] at h1
    have h2 := fl_fi (n := n) (T := T) (f := f) (k := k) (c := c) (P := P) (v := v) (m := m)
    show m + ((flV n T f k c v).filter P).length + (flX n T f k c v).length ≤ 100000
    omega
  | some t => exact ⟨ht t rfl, h.2⟩
theorem flX_t {n : Nat} {T : Nat → Option Nat} {f k : Nat} {c : Nat → Nat} {v : Nat} (h1 : tdB T k v = true) (h2 : frB n c k v = true) : flX n T f k c v = flL n T f (k + 1) (upN c k v) := by
  unfold flX
  rw [h1, h2]
  rfl
theorem flX_f {n : Nat} {T : Nat → Option Nat} {f k : Nat} {c : Nat → Nat} {v : Nat} (h : ¬ (tdB T k v = true ∧ frB n c k v = true)) : flX n T f k c v = [] := by
  unfold flX
  rw [if_neg (fun e => h (by rw [Bool.and_eq_true] at e; exact e))]
theorem FiO.no {n : Nat} {T : Nat → Option Nat} {f k : Nat} {c : Nat → Nat} {P : (Nat → Nat) → Bool} {v m : Nat} {s : Option Nat} {g : Nat → Int32} {A : Nat → Nat → Int32} (h : FiO s m ((flV n T f k c v).filter P) n g A) (hx : ¬ (tdB T k v = true ∧ frB n c k v = true)) : FiO s m ((flV n T f k c (v + 1)).filter P) n g A := by
  rw [flV_s, flX_f hx, List.append_nil]
  exact h
theorem FiO.en {n : Nat} {T : Nat → Option Nat} {f k : Nat} {c : Nat → Nat} {P : (Nat → Nat) → Bool} {v m : Nat} {s : Option Nat} {g : Nat → Int32} {A : Nat → Nat → Int32} (h : FiO s m ((flV n T f k c v).filter P) n g A) (hv : v < n) {L : Nat} (hc : capO s m L) (hs : s = some (capN s (m + ((flV n T f k c v).filter P).length))) : FiO s m ((flL n T (f + 1) k c).filter P) n g A := by
  obtain ⟨r, e⟩ := flV_pre (n := n) (T := T) (f := f) (k := k) (c := c) (Nat.le_of_lt hv)
  rw [flL_s, e, List.filter_append]
  exact h.full _ hc hs
theorem s_fi_s {g : Nat → Int32} {A : Nat → Nat → Int32} {n m : Nat} {T : Nat → Option Nat} {s : Option Nat} (hn6 : n ≤ 6) (hn : 0 < n) {f k K : Nat} {c : Nat → Nat} {P : (Nat → Nat) → Bool} (hk : k < n * n) (hl : PLat n c k) (hT : ∀ q u, T q = some u → u < 6) (hS : FiS n T k c g A) (hC : capO s m (flL n T (f + 1) k c).length) (h44 : g 44 = nI m) (h45 : g 45 = stI s) (hI : ∀ v, v < n → v < 6 → tdB T k v = true → frB n c k v = true → ∀ g1 A1, FiS n T (k + 1) (upN c k v) g1 A1 → capO s (m + ((flV n T f k c v).filter P).length) (flX n T f k c v).length → g1 44 = nI (m + ((flV n T f k c v).filter P).length) → g1 45 = stI s → FiF g A g1 A1 → RR K 275 0 [some (.ref 146), some (.int (nI (k + 1))), none, none, none, none] [] g1 A1 (FiQ s (m + ((flV n T f k c v).filter P).length) ((flX n T f k c v).filter P) n T (k + 1) (upN c k v) g1 A1)) : RR (K + 1) 275 0 [some (.ref 146), some (.int (nI k)), none, none, none, none] [] g A (FiQ s m ((flL n T (f + 1) k c).filter P) n T k c g A) := by
  have hnn : n * n ≤ 36 := Nat.mul_le_mul hn6 hn6
  have hm5 := hC.m
  refine rr_nx (pc' := 1) (al' := [some (.ref 146), some (.int (nI k)), none, none, none, none]) (st' := [.ref 146]) d_275_0 (fun _ => rfl) ?_
  refine rr_gn d_275_1 mo_275 fl_337 rfl h44 ?_
  refine rr_nx (pc' := 5) (al' := [some (.ref 146), some (.int (nI k)), none, none, none, none]) (st' := [.ref 146, .int (nI m)]) d_275_4 (fun _ => rfl) ?_
  refine rr_gf (v := .int (g 45)) d_275_5 mo_275 fl_340 rfl ?_
  refine rr_cne (t := 12) d_275_8 (by decide) (fun c8 => ?_) (fun c8 => ?_)
  · refine rr_nx (pc' := 13) (al' := [some (.ref 146), some (.int (nI k)), none, none, none, none]) (st' := [.int (nI k)]) d_275_12 (fun _ => rfl) ?_
    refine rr_nx (pc' := 14) (al' := [some (.ref 146), some (.int (nI k)), none, none, none, none]) (st' := [.ref 146, .int (nI k)]) d_275_13 (fun _ => rfl) ?_
    refine rr_gn d_275_14 mo_275 fl_127 rfl hS.1 ?_
    refine rr_nx (pc' := 18) (al' := [some (.ref 146), some (.int (nI k)), none, none, none, none]) (st' := [.ref 146, .int (nI n), .int (nI k)]) d_275_17 (fun _ => rfl) ?_
    refine rr_gn d_275_18 mo_275 fl_127 rfl hS.1 ?_
    refine rn_mul d_275_21  ?_
    refine rn_cne (t := 95) d_275_22 (by decide) (by omega) (by omega) (fun c22 => ?_) (fun c22 => ?_)
    · refine rr_nx (pc' := 96) (al' := [some (.ref 146), some (.int (nI k)), none, none, none, none]) (st' := [.int (nI k)]) d_275_95 (fun _ => rfl) ?_
      refine rr_nx (pc' := 97) (al' := [some (.ref 146), some (.int (nI k)), none, none, none, none]) (st' := [.ref 146, .int (nI k)]) d_275_96 (fun _ => rfl) ?_
      refine rr_gn d_275_97 mo_275 fl_127 rfl hS.1 ?_
      refine rn_div d_275_100 (by omega) (by omega) (by omega) ?_
      refine rr_nx (pc' := 102) (al' := [some (.ref 146), some (.int (nI k)), some (.int (nI (k / n))), none, none, none]) (st' := []) d_275_101 (fun _ => rfl) ?_
      refine rr_nx (pc' := 103) (al' := [some (.ref 146), some (.int (nI k)), some (.int (nI (k / n))), none, none, none]) (st' := [.int (nI k)]) d_275_102 (fun _ => rfl) ?_
      refine rr_nx (pc' := 104) (al' := [some (.ref 146), some (.int (nI k)), some (.int (nI (k / n))), none, none, none]) (st' := [.ref 146, .int (nI k)]) d_275_103 (fun _ => rfl) ?_
      refine rr_gn d_275_104 mo_275 fl_127 rfl hS.1 ?_
      refine rn_rem d_275_107 (by omega) (by omega) (by omega) ?_
      refine rr_nx (pc' := 109) (al' := [some (.ref 146), some (.int (nI k)), some (.int (nI (k / n))), some (.int (nI (k % n))), none, none]) (st' := []) d_275_108 (fun _ => rfl) ?_
      refine rn_ic (v := 0) d_275_109 (by decide) ?_
      refine rr_nx (pc' := 112) (al' := [some (.ref 146), some (.int (nI k)), some (.int (nI (k / n))), some (.int (nI (k % n))), some (.int (nI 0)), none]) (st' := []) d_275_110 (fun _ => rfl) ?_
      refine rr_upw (al := fun v w_ => [some (.ref 146), some (.int (nI k)), some (.int (nI (k / n))), some (.int (nI (k % n))), some (.int (nI v)), none]) (G := fun v w_ => w_.1) (B := fun v w_ => w_.2) (P := fun v w_ => FiS n T k c w_.1 w_.2 ∧ FiF g A w_.1 w_.2 ∧ FiO s m ((flV n T f k c v).filter P) n w_.1 w_.2) (n := n) (fun v w_ hv pv ihv => ?_) (fun w_ pv => ?_) 0 (g, A) (by omega) (⟨hS, FiF.rf, FiO.nil hC h44⟩)
      · show RR _ _ 112 [some (.ref 146), some (.int (nI k)), some (.int (nI (k / n))), some (.int (nI (k % n))), some (.int (nI v)), none] [] w_.1 w_.2 _
        have h45 : w_.1 45 = stI s := (pv.2.1.1 45 (by omega) (by decide)).trans h45
        have hx := dm_dl hk
        have hy := dm_ml hk
        have hr64 : rwM n c k (k / n) < 64 := rw_64 hn6 hl.1
        have hc64 : clM n c k (k % n) < 64 := cl_64 hn6 hl.1
        refine rr_nx (pc' := 114) (al' := [some (.ref 146), some (.int (nI k)), some (.int (nI (k / n))), some (.int (nI (k % n))), some (.int (nI v)), none]) (st' := [.int (nI v)]) d_275_112 (fun _ => rfl) ?_
        refine rr_nx (pc' := 115) (al' := [some (.ref 146), some (.int (nI k)), some (.int (nI (k / n))), some (.int (nI (k % n))), some (.int (nI v)), none]) (st' := [.ref 146, .int (nI v)]) d_275_114 (fun _ => rfl) ?_
        refine rr_gn d_275_115 mo_275 fl_127 rfl pv.1.1 ?_
        refine rn_cge (t := 250) d_275_118 (by decide) (by first | omega | assumption | exact cu_36 (by omega) (cu_lt (by omega) (by omega))) (by first | omega | assumption | exact cu_36 (by omega) (cu_lt (by omega) (by omega))) (fun c118 => ?_) (fun c118 => ?_)
        · omega
        · refine rr_nx (pc' := 122) (al' := [some (.ref 146), some (.int (nI k)), some (.int (nI (k / n))), some (.int (nI (k % n))), some (.int (nI v)), none]) (st' := [.ref 146]) d_275_121 (fun _ => rfl) ?_
          refine rr_gn d_275_122 mo_275 fl_337 rfl pv.2.2.1 ?_
          refine rr_nx (pc' := 126) (al' := [some (.ref 146), some (.int (nI k)), some (.int (nI (k / n))), some (.int (nI (k % n))), some (.int (nI v)), none]) (st' := [.ref 146, .int (nI (capN s (m + ((flV n T f k c v).filter P).length)))]) d_275_125 (fun _ => rfl) ?_
          refine rr_gf (v := .int (w_.1 45)) d_275_126 mo_275 fl_340 rfl ?_
          refine rr_ceq (t := 250) d_275_129 (by decide) (fun c129 => ?_) (fun c129 => ?_)
          · rw [h45] at c129
            have hs := (stI_e hC.le (cap_le hC (Nat.le_trans fl_fi (Nat.add_le_add_left (flv_le (Nat.le_of_lt hv)) m)))).mp c129
            exact rr_rv d_275_250 mr_275 ⟨rfl, pv.1, pv.2.1, pv.2.2.en hv hC hs⟩
          · rw [h45] at c129
            have hs : ¬ s = some (capN s (m + ((flV n T f k c v).filter P).length)) := fun e_ => c129 ((stI_e hC.le (cap_le hC (Nat.le_trans fl_fi (Nat.add_le_add_left (flv_le (Nat.le_of_lt hv)) m)))).mpr e_)
            have hg2 := cap_lt hC hs
            refine rn_ic (v := 1) d_275_132 (by decide) ?_
            refine rr_nx (pc' := 135) (al' := [some (.ref 146), some (.int (nI k)), some (.int (nI (k / n))), some (.int (nI (k % n))), some (.int (nI v)), none]) (st' := [.int (nI v), .int (nI 1)]) d_275_133 (fun _ => rfl) ?_
            refine rn_shl d_275_135 (by omega) ?_
            refine rr_nx (pc' := 138) (al' := [some (.ref 146), some (.int (nI k)), some (.int (nI (k / n))), some (.int (nI (k % n))), some (.int (nI v)), some (.int (nI (1 * 2 ^ v)))]) (st' := []) d_275_136 (fun _ => rfl) ?_
            refine rr_nx (pc' := 139) (al' := [some (.ref 146), some (.int (nI k)), some (.int (nI (k / n))), some (.int (nI (k % n))), some (.int (nI v)), some (.int (nI (1 * 2 ^ v)))]) (st' := [.ref 146]) d_275_138 (fun _ => rfl) ?_
            refine rr_gf (v := .ref (147 + 25)) d_275_139 mo_275 fl_91 rfl ?_
            refine rr_nx (pc' := 143) (al' := [some (.ref 146), some (.int (nI k)), some (.int (nI (k / n))), some (.int (nI (k % n))), some (.int (nI v)), some (.int (nI (1 * 2 ^ v)))]) (st' := [.int (nI k), .ref (147 + 25)]) d_275_142 (fun _ => rfl) ?_
            refine rr_ia (j := 25) (v := (oI (T k))) d_275_143 (by decide) rfl (by decide) (show k < 36 by omega) (pv.1.2.2.2.2 k hk) ?_
            refine rr_nx (pc' := 145) (al' := [some (.ref 146), some (.int (nI k)), some (.int (nI (k / n))), some (.int (nI (k % n))), some (.int (nI v)), some (.int (nI (1 * 2 ^ v)))]) (st' := [.int (-1), .int (oI (T k))]) d_275_144 (fun _ => rfl) ?_
            refine rr_ceq (t := 159) d_275_145 (by decide) (fun c145 => ?_) (fun c145 => ?_)
            · have htd : tdB T k v = true := td_n ((oI_n (hT k)).mp c145)
              refine rr_nx (pc' := 160) (al' := [some (.ref 146), some (.int (nI k)), some (.int (nI (k / n))), some (.int (nI (k % n))), some (.int (nI v)), some (.int (nI (1 * 2 ^ v)))]) (st' := [.ref 146]) d_275_159 (fun _ => rfl) ?_
              refine rr_gf (v := .ref (147 + 23)) d_275_160 mo_275 fl_85 rfl ?_
              refine rr_nx (pc' := 164) (al' := [some (.ref 146), some (.int (nI k)), some (.int (nI (k / n))), some (.int (nI (k % n))), some (.int (nI v)), some (.int (nI (1 * 2 ^ v)))]) (st' := [.int (nI (k / n)), .ref (147 + 23)]) d_275_163 (fun _ => rfl) ?_
              refine rr_ia (j := 23) (v := (nI (rwM n c k (k / n)))) d_275_164 (by decide) rfl (by decide) (show k / n < 6 by omega) (pv.1.2.2.1 _ hx) ?_
              refine rr_nx (pc' := 166) (al' := [some (.ref 146), some (.int (nI k)), some (.int (nI (k / n))), some (.int (nI (k % n))), some (.int (nI v)), some (.int (nI (1 * 2 ^ v)))]) (st' := [.ref 146, .int (nI (rwM n c k (k / n)))]) d_275_165 (fun _ => rfl) ?_
              refine rr_gf (v := .ref (147 + 24)) d_275_166 mo_275 fl_88 rfl ?_
              refine rr_nx (pc' := 170) (al' := [some (.ref 146), some (.int (nI k)), some (.int (nI (k / n))), some (.int (nI (k % n))), some (.int (nI v)), some (.int (nI (1 * 2 ^ v)))]) (st' := [.int (nI (k % n)), .ref (147 + 24), .int (nI (rwM n c k (k / n)))]) d_275_169 (fun _ => rfl) ?_
              refine rr_ia (j := 24) (v := (nI (clM n c k (k % n)))) d_275_170 (by decide) rfl (by decide) (show k % n < 6 by omega) (pv.1.2.2.2.1 _ hy) ?_
              refine rn_or d_275_171 ?_
              refine rr_nx (pc' := 174) (al' := [some (.ref 146), some (.int (nI k)), some (.int (nI (k / n))), some (.int (nI (k % n))), some (.int (nI v)), some (.int (nI (1 * 2 ^ v)))]) (st' := [.int (nI (1 * 2 ^ v)), .int (nI ((rwM n c k (k / n)) ||| (clM n c k (k % n))))]) d_275_172 (fun _ => rfl) ?_
              refine rn_and d_275_174 ?_
              refine rn_ieq (t := 181) d_275_175 (by decide) (Nat.lt_of_le_of_lt Nat.and_le_left (Nat.lt_of_lt_of_le (Nat.or_lt_two_pow (n := 6) hr64 hc64) (by decide))) (fun c175 => ?_) (fun c175 => ?_)
              · have hfr := fr_e.mp c175
                have pv2 := ((pv.2.1.u (j := 23) (w := upd (w_.2 23) (k / n) (nI (rwM n c k (k / n) ||| 1 * 2 ^ v))) (by decide)).u (j := 24) (w := upd (w_.2 24) (k % n) (nI (clM n c k (k % n) ||| 1 * 2 ^ v))) (by decide)).u (j := 4) (w := upd (w_.2 4) k (nI v)) (by decide)
                refine rr_nx (pc' := 182) (al' := [some (.ref 146), some (.int (nI k)), some (.int (nI (k / n))), some (.int (nI (k % n))), some (.int (nI v)), some (.int (nI (1 * 2 ^ v)))]) (st' := [.ref 146]) d_275_181 (fun _ => rfl) ?_
                refine rr_gf (v := .ref (147 + 23)) d_275_182 mo_275 fl_85 rfl ?_
                refine rr_nx (pc' := 186) (al' := [some (.ref 146), some (.int (nI k)), some (.int (nI (k / n))), some (.int (nI (k % n))), some (.int (nI v)), some (.int (nI (1 * 2 ^ v)))]) (st' := [.int (nI (k / n)), .ref (147 + 23)]) d_275_185 (fun _ => rfl) ?_
                refine rr_nx (pc' := 187) (al' := [some (.ref 146), some (.int (nI k)), some (.int (nI (k / n))), some (.int (nI (k % n))), some (.int (nI v)), some (.int (nI (1 * 2 ^ v)))]) (st' := [.int (nI (k / n)), .ref (147 + 23), .int (nI (k / n)), .ref (147 + 23)]) d_275_186 (fun _ => rfl) ?_
                refine rr_ia (j := 23) (v := (nI (rwM n c k (k / n)))) d_275_187 (by decide) rfl (by decide) (show k / n < 6 by omega) (pv.1.2.2.1 _ hx) ?_
                refine rr_nx (pc' := 190) (al' := [some (.ref 146), some (.int (nI k)), some (.int (nI (k / n))), some (.int (nI (k % n))), some (.int (nI v)), some (.int (nI (1 * 2 ^ v)))]) (st' := [.int (nI (1 * 2 ^ v)), .int (nI (rwM n c k (k / n))), .int (nI (k / n)), .ref (147 + 23)]) d_275_188 (fun _ => rfl) ?_
                refine rn_or d_275_190 ?_
                refine rr_iS (j := 23) (A1 := (rf_u w_.2 23 (upd (w_.2 23) (k / n) (nI ((rwM n c k (k / n)) ||| (1 * 2 ^ v)))))) d_275_191 (by decide) rfl (by decide) (show k / n < 6 by omega) rfl ?_
                refine rr_nx (pc' := 193) (al' := [some (.ref 146), some (.int (nI k)), some (.int (nI (k / n))), some (.int (nI (k % n))), some (.int (nI v)), some (.int (nI (1 * 2 ^ v)))]) (st' := [.ref 146]) d_275_192 (fun _ => rfl) ?_
                refine rr_gf (v := .ref (147 + 24)) d_275_193 mo_275 fl_88 rfl ?_
                refine rr_nx (pc' := 197) (al' := [some (.ref 146), some (.int (nI k)), some (.int (nI (k / n))), some (.int (nI (k % n))), some (.int (nI v)), some (.int (nI (1 * 2 ^ v)))]) (st' := [.int (nI (k % n)), .ref (147 + 24)]) d_275_196 (fun _ => rfl) ?_
                refine rr_nx (pc' := 198) (al' := [some (.ref 146), some (.int (nI k)), some (.int (nI (k / n))), some (.int (nI (k % n))), some (.int (nI v)), some (.int (nI (1 * 2 ^ v)))]) (st' := [.int (nI (k % n)), .ref (147 + 24), .int (nI (k % n)), .ref (147 + 24)]) d_275_197 (fun _ => rfl) ?_
                refine rr_ia (j := 24) (v := (nI (clM n c k (k % n)))) d_275_198 (by decide) rfl (by decide) (show k % n < 6 by omega) (pv.1.2.2.2.1 _ hy) ?_
                refine rr_nx (pc' := 201) (al' := [some (.ref 146), some (.int (nI k)), some (.int (nI (k / n))), some (.int (nI (k % n))), some (.int (nI v)), some (.int (nI (1 * 2 ^ v)))]) (st' := [.int (nI (1 * 2 ^ v)), .int (nI (clM n c k (k % n))), .int (nI (k % n)), .ref (147 + 24)]) d_275_199 (fun _ => rfl) ?_
                refine rn_or d_275_201 ?_
                refine rr_iS (j := 24) (A1 := (rf_u (rf_u w_.2 23 (upd (w_.2 23) (k / n) (nI ((rwM n c k (k / n)) ||| (1 * 2 ^ v))))) 24 (upd (w_.2 24) (k % n) (nI ((clM n c k (k % n)) ||| (1 * 2 ^ v)))))) d_275_202 (by decide) rfl (by decide) (show k % n < 6 by omega) rfl ?_
                refine rr_nx (pc' := 204) (al' := [some (.ref 146), some (.int (nI k)), some (.int (nI (k / n))), some (.int (nI (k % n))), some (.int (nI v)), some (.int (nI (1 * 2 ^ v)))]) (st' := [.ref 146]) d_275_203 (fun _ => rfl) ?_
                refine rr_gf (v := .ref (147 + 4)) d_275_204 mo_275 fl_23 rfl ?_
                refine rr_nx (pc' := 208) (al' := [some (.ref 146), some (.int (nI k)), some (.int (nI (k / n))), some (.int (nI (k % n))), some (.int (nI v)), some (.int (nI (1 * 2 ^ v)))]) (st' := [.int (nI k), .ref (147 + 4)]) d_275_207 (fun _ => rfl) ?_
                refine rr_nx (pc' := 210) (al' := [some (.ref 146), some (.int (nI k)), some (.int (nI (k / n))), some (.int (nI (k % n))), some (.int (nI v)), some (.int (nI (1 * 2 ^ v)))]) (st' := [.int (nI v), .int (nI k), .ref (147 + 4)]) d_275_208 (fun _ => rfl) ?_
                refine rr_iS (j := 4) (A1 := (rf_u (rf_u (rf_u w_.2 23 (upd (w_.2 23) (k / n) (nI ((rwM n c k (k / n)) ||| (1 * 2 ^ v))))) 24 (upd (w_.2 24) (k % n) (nI ((clM n c k (k % n)) ||| (1 * 2 ^ v))))) 4 (upd (w_.2 4) k (nI v)))) d_275_210 (by decide) rfl (by decide) (show k < 36 by omega) rfl ?_
                refine rr_nx (pc' := 212) (al' := [some (.ref 146), some (.int (nI k)), some (.int (nI (k / n))), some (.int (nI (k % n))), some (.int (nI v)), some (.int (nI (1 * 2 ^ v)))]) (st' := [.ref 146]) d_275_211 (fun _ => rfl) ?_
                refine rr_nx (pc' := 213) (al' := [some (.ref 146), some (.int (nI k)), some (.int (nI (k / n))), some (.int (nI (k % n))), some (.int (nI v)), some (.int (nI (1 * 2 ^ v)))]) (st' := [.int (nI k), .ref 146]) d_275_212 (fun _ => rfl) ?_
                refine rn_ic (v := 1) d_275_213 (by decide) ?_
                refine rn_add d_275_214  ?_
                refine rr_cv (as := [.int (nI (k + 1))]) (al0 := [some (.ref 146), some (.int (nI (k + 1))), none, none, none, none]) (r := []) d_275_215 mo_275 ml_349 mz_275 rfl rfl rfl (rr_wk (Nat.le_refl _) (hI v hv (by omega) htd hfr w_.1 _ (pv.1.put hk hn) (hC.st hv hg2.2) (by rw [pv.2.2.1, hg2.1]) h45 (((pv.2.1.u (by decide)).u (by decide)).u (by decide)))) (fun v1 g1 A1 h1 => ?_)
                obtain ⟨q0_, hS1, hF1, hO1⟩ := h1
                obtain rfl := q0_
                show RR _ _ 218 [some (.ref 146), some (.int (nI k)), some (.int (nI (k / n))), some (.int (nI (k % n))), some (.int (nI v)), some (.int (nI (1 * 2 ^ v)))] [] g1 A1 _
                refine rr_nx (pc' := 219) (al' := [some (.ref 146), some (.int (nI k)), some (.int (nI (k / n))), some (.int (nI (k % n))), some (.int (nI v)), some (.int (nI (1 * 2 ^ v)))]) (st' := [.ref 146]) d_275_218 (fun _ => rfl) ?_
                refine rr_gf (v := .ref (147 + 23)) d_275_219 mo_275 fl_85 rfl ?_
                refine rr_nx (pc' := 223) (al' := [some (.ref 146), some (.int (nI k)), some (.int (nI (k / n))), some (.int (nI (k % n))), some (.int (nI v)), some (.int (nI (1 * 2 ^ v)))]) (st' := [.int (nI (k / n)), .ref (147 + 23)]) d_275_222 (fun _ => rfl) ?_
                refine rr_nx (pc' := 224) (al' := [some (.ref 146), some (.int (nI k)), some (.int (nI (k / n))), some (.int (nI (k % n))), some (.int (nI v)), some (.int (nI (1 * 2 ^ v)))]) (st' := [.int (nI (k / n)), .ref (147 + 23), .int (nI (k / n)), .ref (147 + 23)]) d_275_223 (fun _ => rfl) ?_
                refine rr_ia (j := 23) (v := (nI (rwM n (upN c k v) (k + 1) (k / n)))) d_275_224 (by decide) rfl (by decide) (show k / n < 6 by omega) (hS1.2.2.1 _ hx) ?_
                refine rr_nx (pc' := 227) (al' := [some (.ref 146), some (.int (nI k)), some (.int (nI (k / n))), some (.int (nI (k % n))), some (.int (nI v)), some (.int (nI (1 * 2 ^ v)))]) (st' := [.int (nI (1 * 2 ^ v)), .int (nI (rwM n (upN c k v) (k + 1) (k / n))), .int (nI (k / n)), .ref (147 + 23)]) d_275_225 (fun _ => rfl) ?_
                refine rr_nx (pc' := 228) (al' := [some (.ref 146), some (.int (nI k)), some (.int (nI (k / n))), some (.int (nI (k % n))), some (.int (nI v)), some (.int (nI (1 * 2 ^ v)))]) (st' := [.int (-1), .int (nI (1 * 2 ^ v)), .int (nI (rwM n (upN c k v) (k + 1) (k / n))), .int (nI (k / n)), .ref (147 + 23)]) d_275_227 (fun _ => rfl) ?_
                refine rn_not d_275_228 ?_
                refine rn_and d_275_229 ?_
                refine rr_iS (j := 23) (A1 := (rf_u A1 23 (upd (A1 23) (k / n) (nI ((rwM n (upN c k v) (k + 1) (k / n)) &&& ((1 * 2 ^ v) ^^^ 4294967295)))))) d_275_230 (by decide) rfl (by decide) (show k / n < 6 by omega) rfl ?_
                refine rr_nx (pc' := 232) (al' := [some (.ref 146), some (.int (nI k)), some (.int (nI (k / n))), some (.int (nI (k % n))), some (.int (nI v)), some (.int (nI (1 * 2 ^ v)))]) (st' := [.ref 146]) d_275_231 (fun _ => rfl) ?_
                refine rr_gf (v := .ref (147 + 24)) d_275_232 mo_275 fl_88 rfl ?_
                refine rr_nx (pc' := 236) (al' := [some (.ref 146), some (.int (nI k)), some (.int (nI (k / n))), some (.int (nI (k % n))), some (.int (nI v)), some (.int (nI (1 * 2 ^ v)))]) (st' := [.int (nI (k % n)), .ref (147 + 24)]) d_275_235 (fun _ => rfl) ?_
                refine rr_nx (pc' := 237) (al' := [some (.ref 146), some (.int (nI k)), some (.int (nI (k / n))), some (.int (nI (k % n))), some (.int (nI v)), some (.int (nI (1 * 2 ^ v)))]) (st' := [.int (nI (k % n)), .ref (147 + 24), .int (nI (k % n)), .ref (147 + 24)]) d_275_236 (fun _ => rfl) ?_
                refine rr_ia (j := 24) (v := (nI (clM n (upN c k v) (k + 1) (k % n)))) d_275_237 (by decide) rfl (by decide) (show k % n < 6 by omega) (hS1.2.2.2.1 _ hy) ?_
                refine rr_nx (pc' := 240) (al' := [some (.ref 146), some (.int (nI k)), some (.int (nI (k / n))), some (.int (nI (k % n))), some (.int (nI v)), some (.int (nI (1 * 2 ^ v)))]) (st' := [.int (nI (1 * 2 ^ v)), .int (nI (clM n (upN c k v) (k + 1) (k % n))), .int (nI (k % n)), .ref (147 + 24)]) d_275_238 (fun _ => rfl) ?_
                refine rr_nx (pc' := 241) (al' := [some (.ref 146), some (.int (nI k)), some (.int (nI (k / n))), some (.int (nI (k % n))), some (.int (nI v)), some (.int (nI (1 * 2 ^ v)))]) (st' := [.int (-1), .int (nI (1 * 2 ^ v)), .int (nI (clM n (upN c k v) (k + 1) (k % n))), .int (nI (k % n)), .ref (147 + 24)]) d_275_240 (fun _ => rfl) ?_
                refine rn_not d_275_241 ?_
                refine rn_and d_275_242 ?_
                refine rr_iS (j := 24) (A1 := (rf_u (rf_u A1 23 (upd (A1 23) (k / n) (nI ((rwM n (upN c k v) (k + 1) (k / n)) &&& ((1 * 2 ^ v) ^^^ 4294967295))))) 24 (upd (A1 24) (k % n) (nI ((clM n (upN c k v) (k + 1) (k % n)) &&& ((1 * 2 ^ v) ^^^ 4294967295)))))) d_275_243 (by decide) rfl (by decide) (show k % n < 6 by omega) rfl ?_
                refine rn_inc d_275_244 rfl rfl ?_
                show RR _ _ 247 [some (.ref 146), some (.int (nI k)), some (.int (nI (k / n))), some (.int (nI (k % n))), some (.int (nI (v + 1))), some (.int (nI (1 * 2 ^ v)))] [] g1 (rf_u (rf_u A1 23 (upd (A1 23) (k / n) (nI ((rwM n (upN c k v) (k + 1) (k / n)) &&& ((1 * 2 ^ v) ^^^ 4294967295))))) 24 (upd (A1 24) (k % n) (nI ((clM n (upN c k v) (k + 1) (k % n)) &&& ((1 * 2 ^ v) ^^^ 4294967295))))) _
                refine rr_nx (pc' := 112) (al' := [some (.ref 146), some (.int (nI k)), some (.int (nI (k / n))), some (.int (nI (k % n))), some (.int (nI (v + 1))), some (.int (nI (1 * 2 ^ v)))]) (st' := []) d_275_247 (fun _ => rfl) ?_
                refine rr_dr (al1 := [some (.ref 146), some (.int (nI k)), some (.int (nI (k / n))), some (.int (nI (k % n))), some (.int (nI (v + 1))), none]) (le_s (le_s (le_s (le_s (le_s (le_d rfl (le_n))))))) ?_
                exact ihv (g1, (rf_u (rf_u A1 23 (upd (A1 23) (k / n) (nI ((rwM n (upN c k v) (k + 1) (k / n)) &&& ((1 * 2 ^ v) ^^^ 4294967295))))) 24 (upd (A1 24) (k % n) (nI ((clM n (upN c k v) (k + 1) (k % n)) &&& ((1 * 2 ^ v) ^^^ 4294967295)))))) (⟨hS1.bk hk hn hn6 hv hl hfr, (pv2.tr hF1 |>.u (by decide)).u (by decide), by rw [flV_s, List.filter_append]; exact FiO.ap hg2.2 hO1⟩)
              · refine rr_nx (pc' := 244) (al' := [some (.ref 146), some (.int (nI k)), some (.int (nI (k / n))), some (.int (nI (k % n))), some (.int (nI v)), some (.int (nI (1 * 2 ^ v)))]) (st' := []) d_275_178 (fun _ => rfl) ?_
                refine rn_inc d_275_244 rfl rfl ?_
                show RR _ _ 247 [some (.ref 146), some (.int (nI k)), some (.int (nI (k / n))), some (.int (nI (k % n))), some (.int (nI (v + 1))), some (.int (nI (1 * 2 ^ v)))] [] w_.1 w_.2 _
                refine rr_nx (pc' := 112) (al' := [some (.ref 146), some (.int (nI k)), some (.int (nI (k / n))), some (.int (nI (k % n))), some (.int (nI (v + 1))), some (.int (nI (1 * 2 ^ v)))]) (st' := []) d_275_247 (fun _ => rfl) ?_
                refine rr_dr (al1 := [some (.ref 146), some (.int (nI k)), some (.int (nI (k / n))), some (.int (nI (k % n))), some (.int (nI (v + 1))), none]) (le_s (le_s (le_s (le_s (le_s (le_d rfl (le_n))))))) ?_
                exact ihv w_ (⟨pv.1, pv.2.1, pv.2.2.no (fun h_ => absurd (fr_e.mpr h_.2) (by omega))⟩)
            · refine rr_nx (pc' := 149) (al' := [some (.ref 146), some (.int (nI k)), some (.int (nI (k / n))), some (.int (nI (k % n))), some (.int (nI v)), some (.int (nI (1 * 2 ^ v)))]) (st' := [.ref 146]) d_275_148 (fun _ => rfl) ?_
              refine rr_gf (v := .ref (147 + 25)) d_275_149 mo_275 fl_91 rfl ?_
              refine rr_nx (pc' := 153) (al' := [some (.ref 146), some (.int (nI k)), some (.int (nI (k / n))), some (.int (nI (k % n))), some (.int (nI v)), some (.int (nI (1 * 2 ^ v)))]) (st' := [.int (nI k), .ref (147 + 25)]) d_275_152 (fun _ => rfl) ?_
              refine rr_ia (j := 25) (v := (oI (T k))) d_275_153 (by decide) rfl (by decide) (show k < 36 by omega) (pv.1.2.2.2.2 k hk) ?_
              refine rr_nx (pc' := 156) (al' := [some (.ref 146), some (.int (nI k)), some (.int (nI (k / n))), some (.int (nI (k % n))), some (.int (nI v)), some (.int (nI (1 * 2 ^ v)))]) (st' := [.int (nI v), .int (oI (T k))]) d_275_154 (fun _ => rfl) ?_
              refine rr_cne (t := 244) d_275_156 (by decide) (fun c156 => ?_) (fun c156 => ?_)
              · have htd : ¬ tdB T k v = true := fun h_ => by
                  cases e_ : T k with
                  | none => exact c145 (by rw [e_]; rfl)
                  | some u => exact c156 (by rw [e_, (td_s e_).mp h_]; rfl)
                refine rn_inc d_275_244 rfl rfl ?_
                show RR _ _ 247 [some (.ref 146), some (.int (nI k)), some (.int (nI (k / n))), some (.int (nI (k % n))), some (.int (nI (v + 1))), some (.int (nI (1 * 2 ^ v)))] [] w_.1 w_.2 _
                refine rr_nx (pc' := 112) (al' := [some (.ref 146), some (.int (nI k)), some (.int (nI (k / n))), some (.int (nI (k % n))), some (.int (nI (v + 1))), some (.int (nI (1 * 2 ^ v)))]) (st' := []) d_275_247 (fun _ => rfl) ?_
                refine rr_dr (al1 := [some (.ref 146), some (.int (nI k)), some (.int (nI (k / n))), some (.int (nI (k % n))), some (.int (nI (v + 1))), none]) (le_s (le_s (le_s (le_s (le_s (le_d rfl (le_n))))))) ?_
                exact ihv w_ (⟨pv.1, pv.2.1, pv.2.2.no (fun h_ => htd h_.1)⟩)
              · have htd : tdB T k v = true := (td_s ((oI_s (hT k) (by omega)).mp c156)).mpr rfl
                refine rr_nx (pc' := 160) (al' := [some (.ref 146), some (.int (nI k)), some (.int (nI (k / n))), some (.int (nI (k % n))), some (.int (nI v)), some (.int (nI (1 * 2 ^ v)))]) (st' := [.ref 146]) d_275_159 (fun _ => rfl) ?_
                refine rr_gf (v := .ref (147 + 23)) d_275_160 mo_275 fl_85 rfl ?_
                refine rr_nx (pc' := 164) (al' := [some (.ref 146), some (.int (nI k)), some (.int (nI (k / n))), some (.int (nI (k % n))), some (.int (nI v)), some (.int (nI (1 * 2 ^ v)))]) (st' := [.int (nI (k / n)), .ref (147 + 23)]) d_275_163 (fun _ => rfl) ?_
                refine rr_ia (j := 23) (v := (nI (rwM n c k (k / n)))) d_275_164 (by decide) rfl (by decide) (show k / n < 6 by omega) (pv.1.2.2.1 _ hx) ?_
                refine rr_nx (pc' := 166) (al' := [some (.ref 146), some (.int (nI k)), some (.int (nI (k / n))), some (.int (nI (k % n))), some (.int (nI v)), some (.int (nI (1 * 2 ^ v)))]) (st' := [.ref 146, .int (nI (rwM n c k (k / n)))]) d_275_165 (fun _ => rfl) ?_
                refine rr_gf (v := .ref (147 + 24)) d_275_166 mo_275 fl_88 rfl ?_
                refine rr_nx (pc' := 170) (al' := [some (.ref 146), some (.int (nI k)), some (.int (nI (k / n))), some (.int (nI (k % n))), some (.int (nI v)), some (.int (nI (1 * 2 ^ v)))]) (st' := [.int (nI (k % n)), .ref (147 + 24), .int (nI (rwM n c k (k / n)))]) d_275_169 (fun _ => rfl) ?_
                refine rr_ia (j := 24) (v := (nI (clM n c k (k % n)))) d_275_170 (by decide) rfl (by decide) (show k % n < 6 by omega) (pv.1.2.2.2.1 _ hy) ?_
                refine rn_or d_275_171 ?_
                refine rr_nx (pc' := 174) (al' := [some (.ref 146), some (.int (nI k)), some (.int (nI (k / n))), some (.int (nI (k % n))), some (.int (nI v)), some (.int (nI (1 * 2 ^ v)))]) (st' := [.int (nI (1 * 2 ^ v)), .int (nI ((rwM n c k (k / n)) ||| (clM n c k (k % n))))]) d_275_172 (fun _ => rfl) ?_
                refine rn_and d_275_174 ?_
                refine rn_ieq (t := 181) d_275_175 (by decide) (Nat.lt_of_le_of_lt Nat.and_le_left (Nat.lt_of_lt_of_le (Nat.or_lt_two_pow (n := 6) hr64 hc64) (by decide))) (fun c175 => ?_) (fun c175 => ?_)
                · have hfr := fr_e.mp c175
                  have pv2 := ((pv.2.1.u (j := 23) (w := upd (w_.2 23) (k / n) (nI (rwM n c k (k / n) ||| 1 * 2 ^ v))) (by decide)).u (j := 24) (w := upd (w_.2 24) (k % n) (nI (clM n c k (k % n) ||| 1 * 2 ^ v))) (by decide)).u (j := 4) (w := upd (w_.2 4) k (nI v)) (by decide)
                  refine rr_nx (pc' := 182) (al' := [some (.ref 146), some (.int (nI k)), some (.int (nI (k / n))), some (.int (nI (k % n))), some (.int (nI v)), some (.int (nI (1 * 2 ^ v)))]) (st' := [.ref 146]) d_275_181 (fun _ => rfl) ?_
                  refine rr_gf (v := .ref (147 + 23)) d_275_182 mo_275 fl_85 rfl ?_
                  refine rr_nx (pc' := 186) (al' := [some (.ref 146), some (.int (nI k)), some (.int (nI (k / n))), some (.int (nI (k % n))), some (.int (nI v)), some (.int (nI (1 * 2 ^ v)))]) (st' := [.int (nI (k / n)), .ref (147 + 23)]) d_275_185 (fun _ => rfl) ?_
                  refine rr_nx (pc' := 187) (al' := [some (.ref 146), some (.int (nI k)), some (.int (nI (k / n))), some (.int (nI (k % n))), some (.int (nI v)), some (.int (nI (1 * 2 ^ v)))]) (st' := [.int (nI (k / n)), .ref (147 + 23), .int (nI (k / n)), .ref (147 + 23)]) d_275_186 (fun _ => rfl) ?_
                  refine rr_ia (j := 23) (v := (nI (rwM n c k (k / n)))) d_275_187 (by decide) rfl (by decide) (show k / n < 6 by omega) (pv.1.2.2.1 _ hx) ?_
                  refine rr_nx (pc' := 190) (al' := [some (.ref 146), some (.int (nI k)), some (.int (nI (k / n))), some (.int (nI (k % n))), some (.int (nI v)), some (.int (nI (1 * 2 ^ v)))]) (st' := [.int (nI (1 * 2 ^ v)), .int (nI (rwM n c k (k / n))), .int (nI (k / n)), .ref (147 + 23)]) d_275_188 (fun _ => rfl) ?_
                  refine rn_or d_275_190 ?_
                  refine rr_iS (j := 23) (A1 := (rf_u w_.2 23 (upd (w_.2 23) (k / n) (nI ((rwM n c k (k / n)) ||| (1 * 2 ^ v)))))) d_275_191 (by decide) rfl (by decide) (show k / n < 6 by omega) rfl ?_
                  refine rr_nx (pc' := 193) (al' := [some (.ref 146), some (.int (nI k)), some (.int (nI (k / n))), some (.int (nI (k % n))), some (.int (nI v)), some (.int (nI (1 * 2 ^ v)))]) (st' := [.ref 146]) d_275_192 (fun _ => rfl) ?_
                  refine rr_gf (v := .ref (147 + 24)) d_275_193 mo_275 fl_88 rfl ?_
                  refine rr_nx (pc' := 197) (al' := [some (.ref 146), some (.int (nI k)), some (.int (nI (k / n))), some (.int (nI (k % n))), some (.int (nI v)), some (.int (nI (1 * 2 ^ v)))]) (st' := [.int (nI (k % n)), .ref (147 + 24)]) d_275_196 (fun _ => rfl) ?_
                  refine rr_nx (pc' := 198) (al' := [some (.ref 146), some (.int (nI k)), some (.int (nI (k / n))), some (.int (nI (k % n))), some (.int (nI v)), some (.int (nI (1 * 2 ^ v)))]) (st' := [.int (nI (k % n)), .ref (147 + 24), .int (nI (k % n)), .ref (147 + 24)]) d_275_197 (fun _ => rfl) ?_
                  refine rr_ia (j := 24) (v := (nI (clM n c k (k % n)))) d_275_198 (by decide) rfl (by decide) (show k % n < 6 by omega) (pv.1.2.2.2.1 _ hy) ?_
                  refine rr_nx (pc' := 201) (al' := [some (.ref 146), some (.int (nI k)), some (.int (nI (k / n))), some (.int (nI (k % n))), some (.int (nI v)), some (.int (nI (1 * 2 ^ v)))]) (st' := [.int (nI (1 * 2 ^ v)), .int (nI (clM n c k (k % n))), .int (nI (k % n)), .ref (147 + 24)]) d_275_199 (fun _ => rfl) ?_
                  refine rn_or d_275_201 ?_
                  refine rr_iS (j := 24) (A1 := (rf_u (rf_u w_.2 23 (upd (w_.2 23) (k / n) (nI ((rwM n c k (k / n)) ||| (1 * 2 ^ v))))) 24 (upd (w_.2 24) (k % n) (nI ((clM n c k (k % n)) ||| (1 * 2 ^ v)))))) d_275_202 (by decide) rfl (by decide) (show k % n < 6 by omega) rfl ?_
                  refine rr_nx (pc' := 204) (al' := [some (.ref 146), some (.int (nI k)), some (.int (nI (k / n))), some (.int (nI (k % n))), some (.int (nI v)), some (.int (nI (1 * 2 ^ v)))]) (st' := [.ref 146]) d_275_203 (fun _ => rfl) ?_
                  refine rr_gf (v := .ref (147 + 4)) d_275_204 mo_275 fl_23 rfl ?_
                  refine rr_nx (pc' := 208) (al' := [some (.ref 146), some (.int (nI k)), some (.int (nI (k / n))), some (.int (nI (k % n))), some (.int (nI v)), some (.int (nI (1 * 2 ^ v)))]) (st' := [.int (nI k), .ref (147 + 4)]) d_275_207 (fun _ => rfl) ?_
                  refine rr_nx (pc' := 210) (al' := [some (.ref 146), some (.int (nI k)), some (.int (nI (k / n))), some (.int (nI (k % n))), some (.int (nI v)), some (.int (nI (1 * 2 ^ v)))]) (st' := [.int (nI v), .int (nI k), .ref (147 + 4)]) d_275_208 (fun _ => rfl) ?_
                  refine rr_iS (j := 4) (A1 := (rf_u (rf_u (rf_u w_.2 23 (upd (w_.2 23) (k / n) (nI ((rwM n c k (k / n)) ||| (1 * 2 ^ v))))) 24 (upd (w_.2 24) (k % n) (nI ((clM n c k (k % n)) ||| (1 * 2 ^ v))))) 4 (upd (w_.2 4) k (nI v)))) d_275_210 (by decide) rfl (by decide) (show k < 36 by omega) rfl ?_
                  refine rr_nx (pc' := 212) (al' := [some (.ref 146), some (.int (nI k)), some (.int (nI (k / n))), some (.int (nI (k % n))), some (.int (nI v)), some (.int (nI (1 * 2 ^ v)))]) (st' := [.ref 146]) d_275_211 (fun _ => rfl) ?_
                  refine rr_nx (pc' := 213) (al' := [some (.ref 146), some (.int (nI k)), some (.int (nI (k / n))), some (.int (nI (k % n))), some (.int (nI v)), some (.int (nI (1 * 2 ^ v)))]) (st' := [.int (nI k), .ref 146]) d_275_212 (fun _ => rfl) ?_
                  refine rn_ic (v := 1) d_275_213 (by decide) ?_
                  refine rn_add d_275_214  ?_
                  refine rr_cv (as := [.int (nI (k + 1))]) (al0 := [some (.ref 146), some (.int (nI (k + 1))), none, none, none, none]) (r := []) d_275_215 mo_275 ml_349 mz_275 rfl rfl rfl (rr_wk (Nat.le_refl _) (hI v hv (by omega) htd hfr w_.1 _ (pv.1.put hk hn) (hC.st hv hg2.2) (by rw [pv.2.2.1, hg2.1]) h45 (((pv.2.1.u (by decide)).u (by decide)).u (by decide)))) (fun v1 g1 A1 h1 => ?_)
                  obtain ⟨q0_, hS1, hF1, hO1⟩ := h1
                  obtain rfl := q0_
                  show RR _ _ 218 [some (.ref 146), some (.int (nI k)), some (.int (nI (k / n))), some (.int (nI (k % n))), some (.int (nI v)), some (.int (nI (1 * 2 ^ v)))] [] g1 A1 _
                  refine rr_nx (pc' := 219) (al' := [some (.ref 146), some (.int (nI k)), some (.int (nI (k / n))), some (.int (nI (k % n))), some (.int (nI v)), some (.int (nI (1 * 2 ^ v)))]) (st' := [.ref 146]) d_275_218 (fun _ => rfl) ?_
                  refine rr_gf (v := .ref (147 + 23)) d_275_219 mo_275 fl_85 rfl ?_
                  refine rr_nx (pc' := 223) (al' := [some (.ref 146), some (.int (nI k)), some (.int (nI (k / n))), some (.int (nI (k % n))), some (.int (nI v)), some (.int (nI (1 * 2 ^ v)))]) (st' := [.int (nI (k / n)), .ref (147 + 23)]) d_275_222 (fun _ => rfl) ?_
                  refine rr_nx (pc' := 224) (al' := [some (.ref 146), some (.int (nI k)), some (.int (nI (k / n))), some (.int (nI (k % n))), some (.int (nI v)), some (.int (nI (1 * 2 ^ v)))]) (st' := [.int (nI (k / n)), .ref (147 + 23), .int (nI (k / n)), .ref (147 + 23)]) d_275_223 (fun _ => rfl) ?_
                  refine rr_ia (j := 23) (v := (nI (rwM n (upN c k v) (k + 1) (k / n)))) d_275_224 (by decide) rfl (by decide) (show k / n < 6 by omega) (hS1.2.2.1 _ hx) ?_
                  refine rr_nx (pc' := 227) (al' := [some (.ref 146), some (.int (nI k)), some (.int (nI (k / n))), some (.int (nI (k % n))), some (.int (nI v)), some (.int (nI (1 * 2 ^ v)))]) (st' := [.int (nI (1 * 2 ^ v)), .int (nI (rwM n (upN c k v) (k + 1) (k / n))), .int (nI (k / n)), .ref (147 + 23)]) d_275_225 (fun _ => rfl) ?_
                  refine rr_nx (pc' := 228) (al' := [some (.ref 146), some (.int (nI k)), some (.int (nI (k / n))), some (.int (nI (k % n))), some (.int (nI v)), some (.int (nI (1 * 2 ^ v)))]) (st' := [.int (-1), .int (nI (1 * 2 ^ v)), .int (nI (rwM n (upN c k v) (k + 1) (k / n))), .int (nI (k / n)), .ref (147 + 23)]) d_275_227 (fun _ => rfl) ?_
                  refine rn_not d_275_228 ?_
                  refine rn_and d_275_229 ?_
                  refine rr_iS (j := 23) (A1 := (rf_u A1 23 (upd (A1 23) (k / n) (nI ((rwM n (upN c k v) (k + 1) (k / n)) &&& ((1 * 2 ^ v) ^^^ 4294967295)))))) d_275_230 (by decide) rfl (by decide) (show k / n < 6 by omega) rfl ?_
                  refine rr_nx (pc' := 232) (al' := [some (.ref 146), some (.int (nI k)), some (.int (nI (k / n))), some (.int (nI (k % n))), some (.int (nI v)), some (.int (nI (1 * 2 ^ v)))]) (st' := [.ref 146]) d_275_231 (fun _ => rfl) ?_
                  refine rr_gf (v := .ref (147 + 24)) d_275_232 mo_275 fl_88 rfl ?_
                  refine rr_nx (pc' := 236) (al' := [some (.ref 146), some (.int (nI k)), some (.int (nI (k / n))), some (.int (nI (k % n))), some (.int (nI v)), some (.int (nI (1 * 2 ^ v)))]) (st' := [.int (nI (k % n)), .ref (147 + 24)]) d_275_235 (fun _ => rfl) ?_
                  refine rr_nx (pc' := 237) (al' := [some (.ref 146), some (.int (nI k)), some (.int (nI (k / n))), some (.int (nI (k % n))), some (.int (nI v)), some (.int (nI (1 * 2 ^ v)))]) (st' := [.int (nI (k % n)), .ref (147 + 24), .int (nI (k % n)), .ref (147 + 24)]) d_275_236 (fun _ => rfl) ?_
                  refine rr_ia (j := 24) (v := (nI (clM n (upN c k v) (k + 1) (k % n)))) d_275_237 (by decide) rfl (by decide) (show k % n < 6 by omega) (hS1.2.2.2.1 _ hy) ?_
                  refine rr_nx (pc' := 240) (al' := [some (.ref 146), some (.int (nI k)), some (.int (nI (k / n))), some (.int (nI (k % n))), some (.int (nI v)), some (.int (nI (1 * 2 ^ v)))]) (st' := [.int (nI (1 * 2 ^ v)), .int (nI (clM n (upN c k v) (k + 1) (k % n))), .int (nI (k % n)), .ref (147 + 24)]) d_275_238 (fun _ => rfl) ?_
                  refine rr_nx (pc' := 241) (al' := [some (.ref 146), some (.int (nI k)), some (.int (nI (k / n))), some (.int (nI (k % n))), some (.int (nI v)), some (.int (nI (1 * 2 ^ v)))]) (st' := [.int (-1), .int (nI (1 * 2 ^ v)), .int (nI (clM n (upN c k v) (k + 1) (k % n))), .int (nI (k % n)), .ref (147 + 24)]) d_275_240 (fun _ => rfl) ?_
                  refine rn_not d_275_241 ?_
                  refine rn_and d_275_242 ?_
                  refine rr_iS (j := 24) (A1 := (rf_u (rf_u A1 23 (upd (A1 23) (k / n) (nI ((rwM n (upN c k v) (k + 1) (k / n)) &&& ((1 * 2 ^ v) ^^^ 4294967295))))) 24 (upd (A1 24) (k % n) (nI ((clM n (upN c k v) (k + 1) (k % n)) &&& ((1 * 2 ^ v) ^^^ 4294967295)))))) d_275_243 (by decide) rfl (by decide) (show k % n < 6 by omega) rfl ?_
                  refine rn_inc d_275_244 rfl rfl ?_
                  show RR _ _ 247 [some (.ref 146), some (.int (nI k)), some (.int (nI (k / n))), some (.int (nI (k % n))), some (.int (nI (v + 1))), some (.int (nI (1 * 2 ^ v)))] [] g1 (rf_u (rf_u A1 23 (upd (A1 23) (k / n) (nI ((rwM n (upN c k v) (k + 1) (k / n)) &&& ((1 * 2 ^ v) ^^^ 4294967295))))) 24 (upd (A1 24) (k % n) (nI ((clM n (upN c k v) (k + 1) (k % n)) &&& ((1 * 2 ^ v) ^^^ 4294967295))))) _
                  refine rr_nx (pc' := 112) (al' := [some (.ref 146), some (.int (nI k)), some (.int (nI (k / n))), some (.int (nI (k % n))), some (.int (nI (v + 1))), some (.int (nI (1 * 2 ^ v)))]) (st' := []) d_275_247 (fun _ => rfl) ?_
                  refine rr_dr (al1 := [some (.ref 146), some (.int (nI k)), some (.int (nI (k / n))), some (.int (nI (k % n))), some (.int (nI (v + 1))), none]) (le_s (le_s (le_s (le_s (le_s (le_d rfl (le_n))))))) ?_
                  exact ihv (g1, (rf_u (rf_u A1 23 (upd (A1 23) (k / n) (nI ((rwM n (upN c k v) (k + 1) (k / n)) &&& ((1 * 2 ^ v) ^^^ 4294967295))))) 24 (upd (A1 24) (k % n) (nI ((clM n (upN c k v) (k + 1) (k % n)) &&& ((1 * 2 ^ v) ^^^ 4294967295)))))) (⟨hS1.bk hk hn hn6 hv hl hfr, (pv2.tr hF1 |>.u (by decide)).u (by decide), by rw [flV_s, List.filter_append]; exact FiO.ap hg2.2 hO1⟩)
                · refine rr_nx (pc' := 244) (al' := [some (.ref 146), some (.int (nI k)), some (.int (nI (k / n))), some (.int (nI (k % n))), some (.int (nI v)), some (.int (nI (1 * 2 ^ v)))]) (st' := []) d_275_178 (fun _ => rfl) ?_
                  refine rn_inc d_275_244 rfl rfl ?_
                  show RR _ _ 247 [some (.ref 146), some (.int (nI k)), some (.int (nI (k / n))), some (.int (nI (k % n))), some (.int (nI (v + 1))), some (.int (nI (1 * 2 ^ v)))] [] w_.1 w_.2 _
                  refine rr_nx (pc' := 112) (al' := [some (.ref 146), some (.int (nI k)), some (.int (nI (k / n))), some (.int (nI (k % n))), some (.int (nI (v + 1))), some (.int (nI (1 * 2 ^ v)))]) (st' := []) d_275_247 (fun _ => rfl) ?_
                  refine rr_dr (al1 := [some (.ref 146), some (.int (nI k)), some (.int (nI (k / n))), some (.int (nI (k % n))), some (.int (nI (v + 1))), none]) (le_s (le_s (le_s (le_s (le_s (le_d rfl (le_n))))))) ?_
                  exact ihv w_ (⟨pv.1, pv.2.1, pv.2.2.no (fun h_ => absurd (fr_e.mpr h_.2) (by omega))⟩)
      · show RR _ _ 112 [some (.ref 146), some (.int (nI k)), some (.int (nI (k / n))), some (.int (nI (k % n))), some (.int (nI n)), none] [] w_.1 w_.2 _
        have h45 : w_.1 45 = stI s := (pv.2.1.1 45 (by omega) (by decide)).trans h45
        have hx := dm_dl hk
        have hy := dm_ml hk
        have hr64 : rwM n c k (k / n) < 64 := rw_64 hn6 hl.1
        have hc64 : clM n c k (k % n) < 64 := cl_64 hn6 hl.1
        refine rr_nx (pc' := 114) (al' := [some (.ref 146), some (.int (nI k)), some (.int (nI (k / n))), some (.int (nI (k % n))), some (.int (nI n)), none]) (st' := [.int (nI n)]) d_275_112 (fun _ => rfl) ?_
        refine rr_nx (pc' := 115) (al' := [some (.ref 146), some (.int (nI k)), some (.int (nI (k / n))), some (.int (nI (k % n))), some (.int (nI n)), none]) (st' := [.ref 146, .int (nI n)]) d_275_114 (fun _ => rfl) ?_
        refine rr_gn d_275_115 mo_275 fl_127 rfl pv.1.1 ?_
        refine rn_cge (t := 250) d_275_118 (by decide) (by first | omega | assumption | exact cu_36 (by omega) (cu_lt (by omega) (by omega))) (by first | omega | assumption | exact cu_36 (by omega) (cu_lt (by omega) (by omega))) (fun c118 => ?_) (fun c118 => ?_)
        · exact rr_rv d_275_250 mr_275 ⟨rfl, pv.1, pv.2.1, pv.2.2⟩
        · omega
    · omega
  · exact absurd ((stI_e hC.le hC.m).mp (c8.trans h45)) hC.ne
