/-! The reference, units, nuclei, counts; printed by wip/whole/gen_ref3.py. -/
/-- the first place below n where p holds, or n -/
def FX (p : Nat → Bool) : Nat → Nat
  | 0 => 0
  | n + 1 => if FX p n < n then FX p n else if p n then n else n + 1
theorem FX_le (p : Nat → Bool) : ∀ n, FX p n ≤ n
  | 0 => Nat.le_refl 0
  | n + 1 => by
    have ih := FX_le p n
    unfold FX
    by_cases h : FX p n < n
    · rw [if_pos h]; omega
    · rw [if_neg h]
      by_cases h2 : p n = true
      · rw [if_pos h2]; omega
      · rw [if_neg h2]; exact Nat.le_refl _
theorem FX_no (p : Nat → Bool) : ∀ n k, k < FX p n → p k = false
  | 0, k, h => absurd h (Nat.not_lt_zero k)
  | n + 1, k, h => by
    have ih := FX_no p n
    have hl := FX_le p n
    unfold FX at h
    by_cases h1 : FX p n < n
    · rw [if_pos h1] at h
      exact ih k h
    · rw [if_neg h1] at h
      by_cases h2 : p n = true
      · rw [if_pos h2] at h
        exact ih k (by omega)
      · rw [if_neg h2] at h
        by_cases h3 : k = n
        · subst h3
          simpa using h2
        · exact ih k (by omega)
theorem FX_yes (p : Nat → Bool) : ∀ n, FX p n < n → p (FX p n) = true
  | 0, h => absurd h (Nat.not_lt_zero _)
  | n + 1, h => by
    have ih := FX_yes p n
    have hl := FX_le p n
    unfold FX at h ⊢
    by_cases h1 : FX p n < n
    · rw [if_pos h1]
      exact ih h1
    · rw [if_neg h1] at h ⊢
      by_cases h2 : p n = true
      · rw [if_pos h2]
        exact h2
      · rw [if_neg h2] at h
        omega
theorem FX_lt {p : Nat → Bool} {n k : Nat} (hk : k < n) (hp : p k = true) : FX p n < n := by
  rcases Nat.lt_or_ge (FX p n) n with h | h
  · exact h
  · have := FX_no p n k (by omega)
    rw [hp] at this
    cases this
/-- the unit: from the left (w = 1), from the right (w = 2), both (w = 0) -/
abbrev okU (w n : Nat) (c : Nat → Nat) (e x : Nat) : Prop := (w = 2 ∨ c (n * e + x) = x) ∧ (w = 1 ∨ c (n * x + e) = x)
def unI (w n : Nat) (c : Nat → Nat) : Nat := FX (fun e => decide (∀ x, x < n → okU w n c e x)) n
def unV (w n : Nat) (c : Nat → Nat) : Int32 := if unI w n c < n then nI (unI w n c) else -1
theorem s_unitOf {g : Nat → Int32} {A : Nat → Nat → Int32} {n : Nat} {c : Nat → Nat} (hc : Cur g A n c) {w : Nat} (hw : w ≤ 2) : RR 1 212 0 [some (.ref 146), some (.int (nI w)), none, none, none] [] g A (rP (some (.int (unV w n c))) g A) := by
  have hn6 := hc.2.1
  obtain ⟨d, hd⟩ : ∃ d, d = unI w n c := ⟨_, rfl⟩
  have hdn : d ≤ n := by rw [hd]; exact FX_le _ n
  have hu : ∀ e, e < d → ¬ ∀ x, x < n → okU w n c e x := fun e he => of_decide_eq_false (FX_no _ n e (by rw [hd] at he; exact he))
  have hy : d < n → ∀ x, x < n → okU w n c d x := fun h => by rw [hd] at h ⊢; exact of_decide_eq_true (FX_yes _ n h)
  refine rn_ic (v := 0) d_212_0 (by decide) ?_
  refine rr_nx (pc' := 2) (al' := [some (.ref 146), some (.int (nI w)), some (.int (nI 0)), none, none]) (st' := []) d_212_1 (fun _ => rfl) ?_
  refine rr_up (al := fun e => [some (.ref 146), some (.int (nI w)), some (.int (nI e)), none, none]) (G := fun e => g) (B := fun e => A) (P := fun e => True) (n := d) (fun e he pe ihe => ?_) (fun pe => ?_) 0 (by omega) (trivial)
  · show RR _ _ 2 [some (.ref 146), some (.int (nI w)), some (.int (nI e)), none, none] [] g A _
    refine rr_nx (pc' := 3) (al' := [some (.ref 146), some (.int (nI w)), some (.int (nI e)), none, none]) (st' := [.int (nI e)]) d_212_2 (fun _ => rfl) ?_
    refine rr_nx (pc' := 4) (al' := [some (.ref 146), some (.int (nI w)), some (.int (nI e)), none, none]) (st' := [.ref 146, .int (nI e)]) d_212_3 (fun _ => rfl) ?_
    refine rr_gn d_212_4 mo_212 fl_127 rfl hc.1 ?_
    refine rn_cge (t := 86) d_212_7 (by decide) (by omega) (by omega) (fun c7 => ?_) (fun c7 => ?_)
    · omega
    · refine rn_ic (v := 1) d_212_10 (by decide) ?_
      refine rr_nx (pc' := 12) (al' := [some (.ref 146), some (.int (nI w)), some (.int (nI e)), some (.int (nI 1)), none]) (st' := []) d_212_11 (fun _ => rfl) ?_
      refine rn_ic (v := 0) d_212_12 (by decide) ?_
      refine rr_nx (pc' := 15) (al' := [some (.ref 146), some (.int (nI w)), some (.int (nI e)), some (.int (nI 1)), some (.int (nI 0))]) (st' := []) d_212_13 (fun _ => rfl) ?_
      refine rr_up (al := fun z => [some (.ref 146), some (.int (nI w)), some (.int (nI e)), some (.int (bI (∀ q, q < z → okU w n c e q))), some (.int (nI z))]) (G := fun z => g) (B := fun z => A) (P := fun z => True) (n := n) (fun z hz pz ihz => ?_) (fun pz => ?_) 0 (by omega) (trivial)
      · show RR _ _ 15 [some (.ref 146), some (.int (nI w)), some (.int (nI e)), some (.int (bI (∀ q, q < z → okU w n c e q))), some (.int (nI z))] [] g A _
        refine rr_nx (pc' := 17) (al' := [some (.ref 146), some (.int (nI w)), some (.int (nI e)), some (.int (bI (∀ q, q < z → okU w n c e q))), some (.int (nI z))]) (st' := [.int (nI z)]) d_212_15 (fun _ => rfl) ?_
        refine rr_nx (pc' := 18) (al' := [some (.ref 146), some (.int (nI w)), some (.int (nI e)), some (.int (bI (∀ q, q < z → okU w n c e q))), some (.int (nI z))]) (st' := [.ref 146, .int (nI z)]) d_212_17 (fun _ => rfl) ?_
        refine rr_gn d_212_18 mo_212 fl_127 rfl hc.1 ?_
        refine rn_cge (t := 74) d_212_21 (by decide) (by omega) (by omega) (fun c21 => ?_) (fun c21 => ?_)
        · omega
        · refine rr_nx (pc' := 25) (al' := [some (.ref 146), some (.int (nI w)), some (.int (nI e)), some (.int (bI (∀ q, q < z → okU w n c e q))), some (.int (nI z))]) (st' := [.int (bI (∀ q, q < z → okU w n c e q))]) d_212_24 (fun _ => rfl) ?_
          refine rr_beq (t := 66) d_212_25 (by decide) (fun c25 => ?_) (fun c25 => ?_)
          · refine rn_ic (v := 0) d_212_66 (by decide) ?_
            refine rr_nx (pc' := 68) (al' := [some (.ref 146), some (.int (nI w)), some (.int (nI e)), some (.int (nI 0)), some (.int (nI z))]) (st' := []) d_212_67 (fun _ => rfl) ?_
            refine rn_inc d_212_68 rfl rfl ?_
            show RR _ _ _ [some (.ref 146), some (.int (nI w)), some (.int (nI e)), some (.int (nI 0)), some (.int (nI (z + 1)))] _ _ _ _
            refine rr_nx (pc' := 15) (al' := [some (.ref 146), some (.int (nI w)), some (.int (nI e)), some (.int (nI 0)), some (.int (nI (z + 1)))]) (st' := []) d_212_71 (fun _ => rfl) ?_
            refine rr_al (al1 := [some (.ref 146), some (.int (nI w)), some (.int (nI e)), some (.int (bI (∀ q, q < z + 1 → okU w n c e q))), some (.int (nI (z + 1)))]) (by rw [show (nI 0) = bI (∀ q, q < z + 1 → okU w n c e q) from bI_f (by intro h; have h1 := h z (by omega); first | exact c25 (fun q hq => h q (by omega)) | exact c42 (h1.1.resolve_left c30) | exact c59 (h1.2.resolve_left c47))]) ?_
            exact ihz (trivial)
          · refine rr_nx (pc' := 29) (al' := [some (.ref 146), some (.int (nI w)), some (.int (nI e)), some (.int (bI (∀ q, q < z → okU w n c e q))), some (.int (nI z))]) (st' := [.int (nI w)]) d_212_28 (fun _ => rfl) ?_
            refine rn_ic (v := 2) d_212_29 (by decide) ?_
            refine rn_ceq (t := 45) d_212_30 (by decide) (by omega) (by omega) (fun c30 => ?_) (fun c30 => ?_)
            · refine rr_nx (pc' := 46) (al' := [some (.ref 146), some (.int (nI w)), some (.int (nI e)), some (.int (bI (∀ q, q < z → okU w n c e q))), some (.int (nI z))]) (st' := [.int (nI w)]) d_212_45 (fun _ => rfl) ?_
              refine rn_ic (v := 1) d_212_46 (by decide) ?_
              refine rn_ceq (t := 62) d_212_47 (by decide) (by omega) (by omega) (fun c47 => ?_) (fun c47 => ?_)
              · refine rn_ic (v := 1) d_212_62 (by decide) ?_
                refine rr_nx (pc' := 67) (al' := [some (.ref 146), some (.int (nI w)), some (.int (nI e)), some (.int (bI (∀ q, q < z → okU w n c e q))), some (.int (nI z))]) (st' := [.int (nI 1)]) d_212_63 (fun _ => rfl) ?_
                refine rr_nx (pc' := 68) (al' := [some (.ref 146), some (.int (nI w)), some (.int (nI e)), some (.int (nI 1)), some (.int (nI z))]) (st' := []) d_212_67 (fun _ => rfl) ?_
                refine rn_inc d_212_68 rfl rfl ?_
                show RR _ _ _ [some (.ref 146), some (.int (nI w)), some (.int (nI e)), some (.int (nI 1)), some (.int (nI (z + 1)))] _ _ _ _
                refine rr_nx (pc' := 15) (al' := [some (.ref 146), some (.int (nI w)), some (.int (nI e)), some (.int (nI 1)), some (.int (nI (z + 1)))]) (st' := []) d_212_71 (fun _ => rfl) ?_
                refine rr_al (al1 := [some (.ref 146), some (.int (nI w)), some (.int (nI e)), some (.int (bI (∀ q, q < z + 1 → okU w n c e q))), some (.int (nI (z + 1)))]) (by rw [show (nI 1) = bI (∀ q, q < z + 1 → okU w n c e q) from bI_t (fun q hq => (Nat.lt_succ_iff_lt_or_eq.mp hq).elim (fun h => c25 q h) (fun h => h ▸ ⟨by first | exact Or.inl c30 | exact Or.inr c42, by first | exact Or.inl c47 | exact Or.inr c59⟩))]) ?_
                exact ihz (trivial)
              · refine rr_nx (pc' := 51) (al' := [some (.ref 146), some (.int (nI w)), some (.int (nI e)), some (.int (bI (∀ q, q < z → okU w n c e q))), some (.int (nI z))]) (st' := [.ref 146]) d_212_50 (fun _ => rfl) ?_
                refine rr_nx (pc' := 53) (al' := [some (.ref 146), some (.int (nI w)), some (.int (nI e)), some (.int (bI (∀ q, q < z → okU w n c e q))), some (.int (nI z))]) (st' := [.int (nI z), .ref 146]) d_212_51 (fun _ => rfl) ?_
                refine rr_nx (pc' := 54) (al' := [some (.ref 146), some (.int (nI w)), some (.int (nI e)), some (.int (bI (∀ q, q < z → okU w n c e q))), some (.int (nI z))]) (st' := [.int (nI e), .int (nI z), .ref 146]) d_212_53 (fun _ => rfl) ?_
                refine rr_pv (as := [.int (nI z), .int (nI e)]) (al0 := [some (.ref 146), some (.int (nI z)), some (.int (nI e))]) (r := []) d_212_54 mo_212 ml_130 mz_213 rfl rfl rfl (by decide) (s_times hc (by omega) (by omega)) ?_
                show RR _ _ 57 [some (.ref 146), some (.int (nI w)), some (.int (nI e)), some (.int (bI (∀ q, q < z → okU w n c e q))), some (.int (nI z))] [.int (nI (c (n * z + e)))] g A _
                refine rr_nx (pc' := 59) (al' := [some (.ref 146), some (.int (nI w)), some (.int (nI e)), some (.int (bI (∀ q, q < z → okU w n c e q))), some (.int (nI z))]) (st' := [.int (nI z), .int (nI (c (n * z + e)))]) d_212_57 (fun _ => rfl) ?_
                refine rn_cne (t := 66) d_212_59 (by decide) (cu_b hc (by omega) (by omega)) (by omega) (fun c59 => ?_) (fun c59 => ?_)
                · refine rn_ic (v := 0) d_212_66 (by decide) ?_
                  refine rr_nx (pc' := 68) (al' := [some (.ref 146), some (.int (nI w)), some (.int (nI e)), some (.int (nI 0)), some (.int (nI z))]) (st' := []) d_212_67 (fun _ => rfl) ?_
                  refine rn_inc d_212_68 rfl rfl ?_
                  show RR _ _ _ [some (.ref 146), some (.int (nI w)), some (.int (nI e)), some (.int (nI 0)), some (.int (nI (z + 1)))] _ _ _ _
                  refine rr_nx (pc' := 15) (al' := [some (.ref 146), some (.int (nI w)), some (.int (nI e)), some (.int (nI 0)), some (.int (nI (z + 1)))]) (st' := []) d_212_71 (fun _ => rfl) ?_
                  refine rr_al (al1 := [some (.ref 146), some (.int (nI w)), some (.int (nI e)), some (.int (bI (∀ q, q < z + 1 → okU w n c e q))), some (.int (nI (z + 1)))]) (by rw [show (nI 0) = bI (∀ q, q < z + 1 → okU w n c e q) from bI_f (by intro h; have h1 := h z (by omega); first | exact c25 (fun q hq => h q (by omega)) | exact c42 (h1.1.resolve_left c30) | exact c59 (h1.2.resolve_left c47))]) ?_
                  exact ihz (trivial)
                · refine rn_ic (v := 1) d_212_62 (by decide) ?_
                  refine rr_nx (pc' := 67) (al' := [some (.ref 146), some (.int (nI w)), some (.int (nI e)), some (.int (bI (∀ q, q < z → okU w n c e q))), some (.int (nI z))]) (st' := [.int (nI 1)]) d_212_63 (fun _ => rfl) ?_
                  refine rr_nx (pc' := 68) (al' := [some (.ref 146), some (.int (nI w)), some (.int (nI e)), some (.int (nI 1)), some (.int (nI z))]) (st' := []) d_212_67 (fun _ => rfl) ?_
                  refine rn_inc d_212_68 rfl rfl ?_
                  show RR _ _ _ [some (.ref 146), some (.int (nI w)), some (.int (nI e)), some (.int (nI 1)), some (.int (nI (z + 1)))] _ _ _ _
                  refine rr_nx (pc' := 15) (al' := [some (.ref 146), some (.int (nI w)), some (.int (nI e)), some (.int (nI 1)), some (.int (nI (z + 1)))]) (st' := []) d_212_71 (fun _ => rfl) ?_
                  refine rr_al (al1 := [some (.ref 146), some (.int (nI w)), some (.int (nI e)), some (.int (bI (∀ q, q < z + 1 → okU w n c e q))), some (.int (nI (z + 1)))]) (by rw [show (nI 1) = bI (∀ q, q < z + 1 → okU w n c e q) from bI_t (fun q hq => (Nat.lt_succ_iff_lt_or_eq.mp hq).elim (fun h => c25 q h) (fun h => h ▸ ⟨by first | exact Or.inl c30 | exact Or.inr c42, by first | exact Or.inl c47 | exact Or.inr c59⟩))]) ?_
                  exact ihz (trivial)
            · refine rr_nx (pc' := 34) (al' := [some (.ref 146), some (.int (nI w)), some (.int (nI e)), some (.int (bI (∀ q, q < z → okU w n c e q))), some (.int (nI z))]) (st' := [.ref 146]) d_212_33 (fun _ => rfl) ?_
              refine rr_nx (pc' := 35) (al' := [some (.ref 146), some (.int (nI w)), some (.int (nI e)), some (.int (bI (∀ q, q < z → okU w n c e q))), some (.int (nI z))]) (st' := [.int (nI e), .ref 146]) d_212_34 (fun _ => rfl) ?_
              refine rr_nx (pc' := 37) (al' := [some (.ref 146), some (.int (nI w)), some (.int (nI e)), some (.int (bI (∀ q, q < z → okU w n c e q))), some (.int (nI z))]) (st' := [.int (nI z), .int (nI e), .ref 146]) d_212_35 (fun _ => rfl) ?_
              refine rr_pv (as := [.int (nI e), .int (nI z)]) (al0 := [some (.ref 146), some (.int (nI e)), some (.int (nI z))]) (r := []) d_212_37 mo_212 ml_130 mz_213 rfl rfl rfl (by decide) (s_times hc (by omega) (by omega)) ?_
              show RR _ _ 40 [some (.ref 146), some (.int (nI w)), some (.int (nI e)), some (.int (bI (∀ q, q < z → okU w n c e q))), some (.int (nI z))] [.int (nI (c (n * e + z)))] g A _
              refine rr_nx (pc' := 42) (al' := [some (.ref 146), some (.int (nI w)), some (.int (nI e)), some (.int (bI (∀ q, q < z → okU w n c e q))), some (.int (nI z))]) (st' := [.int (nI z), .int (nI (c (n * e + z)))]) d_212_40 (fun _ => rfl) ?_
              refine rn_cne (t := 66) d_212_42 (by decide) (cu_b hc (by omega) (by omega)) (by omega) (fun c42 => ?_) (fun c42 => ?_)
              · refine rn_ic (v := 0) d_212_66 (by decide) ?_
                refine rr_nx (pc' := 68) (al' := [some (.ref 146), some (.int (nI w)), some (.int (nI e)), some (.int (nI 0)), some (.int (nI z))]) (st' := []) d_212_67 (fun _ => rfl) ?_
                refine rn_inc d_212_68 rfl rfl ?_
                show RR _ _ _ [some (.ref 146), some (.int (nI w)), some (.int (nI e)), some (.int (nI 0)), some (.int (nI (z + 1)))] _ _ _ _
                refine rr_nx (pc' := 15) (al' := [some (.ref 146), some (.int (nI w)), some (.int (nI e)), some (.int (nI 0)), some (.int (nI (z + 1)))]) (st' := []) d_212_71 (fun _ => rfl) ?_
                refine rr_al (al1 := [some (.ref 146), some (.int (nI w)), some (.int (nI e)), some (.int (bI (∀ q, q < z + 1 → okU w n c e q))), some (.int (nI (z + 1)))]) (by rw [show (nI 0) = bI (∀ q, q < z + 1 → okU w n c e q) from bI_f (by intro h; have h1 := h z (by omega); first | exact c25 (fun q hq => h q (by omega)) | exact c42 (h1.1.resolve_left c30) | exact c59 (h1.2.resolve_left c47))]) ?_
                exact ihz (trivial)
              · refine rr_nx (pc' := 46) (al' := [some (.ref 146), some (.int (nI w)), some (.int (nI e)), some (.int (bI (∀ q, q < z → okU w n c e q))), some (.int (nI z))]) (st' := [.int (nI w)]) d_212_45 (fun _ => rfl) ?_
                refine rn_ic (v := 1) d_212_46 (by decide) ?_
                refine rn_ceq (t := 62) d_212_47 (by decide) (by omega) (by omega) (fun c47 => ?_) (fun c47 => ?_)
                · refine rn_ic (v := 1) d_212_62 (by decide) ?_
                  refine rr_nx (pc' := 67) (al' := [some (.ref 146), some (.int (nI w)), some (.int (nI e)), some (.int (bI (∀ q, q < z → okU w n c e q))), some (.int (nI z))]) (st' := [.int (nI 1)]) d_212_63 (fun _ => rfl) ?_
                  refine rr_nx (pc' := 68) (al' := [some (.ref 146), some (.int (nI w)), some (.int (nI e)), some (.int (nI 1)), some (.int (nI z))]) (st' := []) d_212_67 (fun _ => rfl) ?_
                  refine rn_inc d_212_68 rfl rfl ?_
                  show RR _ _ _ [some (.ref 146), some (.int (nI w)), some (.int (nI e)), some (.int (nI 1)), some (.int (nI (z + 1)))] _ _ _ _
                  refine rr_nx (pc' := 15) (al' := [some (.ref 146), some (.int (nI w)), some (.int (nI e)), some (.int (nI 1)), some (.int (nI (z + 1)))]) (st' := []) d_212_71 (fun _ => rfl) ?_
                  refine rr_al (al1 := [some (.ref 146), some (.int (nI w)), some (.int (nI e)), some (.int (bI (∀ q, q < z + 1 → okU w n c e q))), some (.int (nI (z + 1)))]) (by rw [show (nI 1) = bI (∀ q, q < z + 1 → okU w n c e q) from bI_t (fun q hq => (Nat.lt_succ_iff_lt_or_eq.mp hq).elim (fun h => c25 q h) (fun h => h ▸ ⟨by first | exact Or.inl c30 | exact Or.inr c42, by first | exact Or.inl c47 | exact Or.inr c59⟩))]) ?_
                  exact ihz (trivial)
                · refine rr_nx (pc' := 51) (al' := [some (.ref 146), some (.int (nI w)), some (.int (nI e)), some (.int (bI (∀ q, q < z → okU w n c e q))), some (.int (nI z))]) (st' := [.ref 146]) d_212_50 (fun _ => rfl) ?_
                  refine rr_nx (pc' := 53) (al' := [some (.ref 146), some (.int (nI w)), some (.int (nI e)), some (.int (bI (∀ q, q < z → okU w n c e q))), some (.int (nI z))]) (st' := [.int (nI z), .ref 146]) d_212_51 (fun _ => rfl) ?_
                  refine rr_nx (pc' := 54) (al' := [some (.ref 146), some (.int (nI w)), some (.int (nI e)), some (.int (bI (∀ q, q < z → okU w n c e q))), some (.int (nI z))]) (st' := [.int (nI e), .int (nI z), .ref 146]) d_212_53 (fun _ => rfl) ?_
                  refine rr_pv (as := [.int (nI z), .int (nI e)]) (al0 := [some (.ref 146), some (.int (nI z)), some (.int (nI e))]) (r := []) d_212_54 mo_212 ml_130 mz_213 rfl rfl rfl (by decide) (s_times hc (by omega) (by omega)) ?_
                  show RR _ _ 57 [some (.ref 146), some (.int (nI w)), some (.int (nI e)), some (.int (bI (∀ q, q < z → okU w n c e q))), some (.int (nI z))] [.int (nI (c (n * z + e)))] g A _
                  refine rr_nx (pc' := 59) (al' := [some (.ref 146), some (.int (nI w)), some (.int (nI e)), some (.int (bI (∀ q, q < z → okU w n c e q))), some (.int (nI z))]) (st' := [.int (nI z), .int (nI (c (n * z + e)))]) d_212_57 (fun _ => rfl) ?_
                  refine rn_cne (t := 66) d_212_59 (by decide) (cu_b hc (by omega) (by omega)) (by omega) (fun c59 => ?_) (fun c59 => ?_)
                  · refine rn_ic (v := 0) d_212_66 (by decide) ?_
                    refine rr_nx (pc' := 68) (al' := [some (.ref 146), some (.int (nI w)), some (.int (nI e)), some (.int (nI 0)), some (.int (nI z))]) (st' := []) d_212_67 (fun _ => rfl) ?_
                    refine rn_inc d_212_68 rfl rfl ?_
                    show RR _ _ _ [some (.ref 146), some (.int (nI w)), some (.int (nI e)), some (.int (nI 0)), some (.int (nI (z + 1)))] _ _ _ _
                    refine rr_nx (pc' := 15) (al' := [some (.ref 146), some (.int (nI w)), some (.int (nI e)), some (.int (nI 0)), some (.int (nI (z + 1)))]) (st' := []) d_212_71 (fun _ => rfl) ?_
                    refine rr_al (al1 := [some (.ref 146), some (.int (nI w)), some (.int (nI e)), some (.int (bI (∀ q, q < z + 1 → okU w n c e q))), some (.int (nI (z + 1)))]) (by rw [show (nI 0) = bI (∀ q, q < z + 1 → okU w n c e q) from bI_f (by intro h; have h1 := h z (by omega); first | exact c25 (fun q hq => h q (by omega)) | exact c42 (h1.1.resolve_left c30) | exact c59 (h1.2.resolve_left c47))]) ?_
                    exact ihz (trivial)
                  · refine rn_ic (v := 1) d_212_62 (by decide) ?_
                    refine rr_nx (pc' := 67) (al' := [some (.ref 146), some (.int (nI w)), some (.int (nI e)), some (.int (bI (∀ q, q < z → okU w n c e q))), some (.int (nI z))]) (st' := [.int (nI 1)]) d_212_63 (fun _ => rfl) ?_
                    refine rr_nx (pc' := 68) (al' := [some (.ref 146), some (.int (nI w)), some (.int (nI e)), some (.int (nI 1)), some (.int (nI z))]) (st' := []) d_212_67 (fun _ => rfl) ?_
                    refine rn_inc d_212_68 rfl rfl ?_
                    show RR _ _ _ [some (.ref 146), some (.int (nI w)), some (.int (nI e)), some (.int (nI 1)), some (.int (nI (z + 1)))] _ _ _ _
                    refine rr_nx (pc' := 15) (al' := [some (.ref 146), some (.int (nI w)), some (.int (nI e)), some (.int (nI 1)), some (.int (nI (z + 1)))]) (st' := []) d_212_71 (fun _ => rfl) ?_
                    refine rr_al (al1 := [some (.ref 146), some (.int (nI w)), some (.int (nI e)), some (.int (bI (∀ q, q < z + 1 → okU w n c e q))), some (.int (nI (z + 1)))]) (by rw [show (nI 1) = bI (∀ q, q < z + 1 → okU w n c e q) from bI_t (fun q hq => (Nat.lt_succ_iff_lt_or_eq.mp hq).elim (fun h => c25 q h) (fun h => h ▸ ⟨by first | exact Or.inl c30 | exact Or.inr c42, by first | exact Or.inl c47 | exact Or.inr c59⟩))]) ?_
                    exact ihz (trivial)
      · show RR _ _ 15 [some (.ref 146), some (.int (nI w)), some (.int (nI e)), some (.int (bI (∀ q, q < n → okU w n c e q))), some (.int (nI n))] [] g A _
        refine rr_nx (pc' := 17) (al' := [some (.ref 146), some (.int (nI w)), some (.int (nI e)), some (.int (bI (∀ q, q < n → okU w n c e q))), some (.int (nI n))]) (st' := [.int (nI n)]) d_212_15 (fun _ => rfl) ?_
        refine rr_nx (pc' := 18) (al' := [some (.ref 146), some (.int (nI w)), some (.int (nI e)), some (.int (bI (∀ q, q < n → okU w n c e q))), some (.int (nI n))]) (st' := [.ref 146, .int (nI n)]) d_212_17 (fun _ => rfl) ?_
        refine rr_gn d_212_18 mo_212 fl_127 rfl hc.1 ?_
        refine rn_cge (t := 74) d_212_21 (by decide) (by omega) (by omega) (fun c21 => ?_) (fun c21 => ?_)
        · refine rr_nx (pc' := 75) (al' := [some (.ref 146), some (.int (nI w)), some (.int (nI e)), some (.int (bI (∀ q, q < n → okU w n c e q))), some (.int (nI n))]) (st' := [.int (bI (∀ q, q < n → okU w n c e q))]) d_212_74 (fun _ => rfl) ?_
          refine rr_beq (t := 80) d_212_75 (by decide) (fun c75 => ?_) (fun c75 => ?_)
          · refine rn_inc d_212_80 rfl rfl ?_
            show RR _ _ _ [some (.ref 146), some (.int (nI w)), some (.int (nI (e + 1))), some (.int (bI (∀ q, q < n → okU w n c e q))), some (.int (nI n))] _ _ _ _
            refine rr_nx (pc' := 2) (al' := [some (.ref 146), some (.int (nI w)), some (.int (nI (e + 1))), some (.int (bI (∀ q, q < n → okU w n c e q))), some (.int (nI n))]) (st' := []) d_212_83 (fun _ => rfl) ?_
            refine rr_dr (al1 := [some (.ref 146), some (.int (nI w)), some (.int (nI (e + 1))), none, none]) (le_s (le_s (le_s (le_d rfl (le_d rfl (le_n)))))) ?_
            exact ihe (trivial)
          · exact absurd c75 (hu e he)
        · omega
  · show RR _ _ 2 [some (.ref 146), some (.int (nI w)), some (.int (nI d)), none, none] [] g A _
    refine rr_nx (pc' := 3) (al' := [some (.ref 146), some (.int (nI w)), some (.int (nI d)), none, none]) (st' := [.int (nI d)]) d_212_2 (fun _ => rfl) ?_
    refine rr_nx (pc' := 4) (al' := [some (.ref 146), some (.int (nI w)), some (.int (nI d)), none, none]) (st' := [.ref 146, .int (nI d)]) d_212_3 (fun _ => rfl) ?_
    refine rr_gn d_212_4 mo_212 fl_127 rfl hc.1 ?_
    refine rn_cge (t := 86) d_212_7 (by decide) (by omega) (by omega) (fun c7 => ?_) (fun c7 => ?_)
    · refine rr_nx (pc' := 87) (al' := [some (.ref 146), some (.int (nI w)), some (.int (nI d)), none, none]) (st' := [.int (-1)]) d_212_86 (fun _ => rfl) ?_
      exact rr_ri d_212_87 mr_212 rfl ⟨by rw [unV, if_neg (show ¬ unI w n c < n by omega)], rfl, rfl⟩
    · refine rn_ic (v := 1) d_212_10 (by decide) ?_
      refine rr_nx (pc' := 12) (al' := [some (.ref 146), some (.int (nI w)), some (.int (nI d)), some (.int (nI 1)), none]) (st' := []) d_212_11 (fun _ => rfl) ?_
      refine rn_ic (v := 0) d_212_12 (by decide) ?_
      refine rr_nx (pc' := 15) (al' := [some (.ref 146), some (.int (nI w)), some (.int (nI d)), some (.int (nI 1)), some (.int (nI 0))]) (st' := []) d_212_13 (fun _ => rfl) ?_
      refine rr_up (al := fun z => [some (.ref 146), some (.int (nI w)), some (.int (nI d)), some (.int (bI (∀ q, q < z → okU w n c d q))), some (.int (nI z))]) (G := fun z => g) (B := fun z => A) (P := fun z => True) (n := n) (fun z hz pz ihz => ?_) (fun pz => ?_) 0 (by omega) (trivial)
      · show RR _ _ 15 [some (.ref 146), some (.int (nI w)), some (.int (nI d)), some (.int (bI (∀ q, q < z → okU w n c d q))), some (.int (nI z))] [] g A _
        refine rr_nx (pc' := 17) (al' := [some (.ref 146), some (.int (nI w)), some (.int (nI d)), some (.int (bI (∀ q, q < z → okU w n c d q))), some (.int (nI z))]) (st' := [.int (nI z)]) d_212_15 (fun _ => rfl) ?_
        refine rr_nx (pc' := 18) (al' := [some (.ref 146), some (.int (nI w)), some (.int (nI d)), some (.int (bI (∀ q, q < z → okU w n c d q))), some (.int (nI z))]) (st' := [.ref 146, .int (nI z)]) d_212_17 (fun _ => rfl) ?_
        refine rr_gn d_212_18 mo_212 fl_127 rfl hc.1 ?_
        refine rn_cge (t := 74) d_212_21 (by decide) (by omega) (by omega) (fun c21 => ?_) (fun c21 => ?_)
        · omega
        · refine rr_nx (pc' := 25) (al' := [some (.ref 146), some (.int (nI w)), some (.int (nI d)), some (.int (bI (∀ q, q < z → okU w n c d q))), some (.int (nI z))]) (st' := [.int (bI (∀ q, q < z → okU w n c d q))]) d_212_24 (fun _ => rfl) ?_
          refine rr_beq (t := 66) d_212_25 (by decide) (fun c25 => ?_) (fun c25 => ?_)
          · refine rn_ic (v := 0) d_212_66 (by decide) ?_
            refine rr_nx (pc' := 68) (al' := [some (.ref 146), some (.int (nI w)), some (.int (nI d)), some (.int (nI 0)), some (.int (nI z))]) (st' := []) d_212_67 (fun _ => rfl) ?_
            refine rn_inc d_212_68 rfl rfl ?_
            show RR _ _ _ [some (.ref 146), some (.int (nI w)), some (.int (nI d)), some (.int (nI 0)), some (.int (nI (z + 1)))] _ _ _ _
            refine rr_nx (pc' := 15) (al' := [some (.ref 146), some (.int (nI w)), some (.int (nI d)), some (.int (nI 0)), some (.int (nI (z + 1)))]) (st' := []) d_212_71 (fun _ => rfl) ?_
            refine rr_al (al1 := [some (.ref 146), some (.int (nI w)), some (.int (nI d)), some (.int (bI (∀ q, q < z + 1 → okU w n c d q))), some (.int (nI (z + 1)))]) (by rw [show (nI 0) = bI (∀ q, q < z + 1 → okU w n c d q) from bI_f (by intro h; have h1 := h z (by omega); first | exact c25 (fun q hq => h q (by omega)) | exact c42 (h1.1.resolve_left c30) | exact c59 (h1.2.resolve_left c47))]) ?_
            exact ihz (trivial)
          · refine rr_nx (pc' := 29) (al' := [some (.ref 146), some (.int (nI w)), some (.int (nI d)), some (.int (bI (∀ q, q < z → okU w n c d q))), some (.int (nI z))]) (st' := [.int (nI w)]) d_212_28 (fun _ => rfl) ?_
            refine rn_ic (v := 2) d_212_29 (by decide) ?_
            refine rn_ceq (t := 45) d_212_30 (by decide) (by omega) (by omega) (fun c30 => ?_) (fun c30 => ?_)
            · refine rr_nx (pc' := 46) (al' := [some (.ref 146), some (.int (nI w)), some (.int (nI d)), some (.int (bI (∀ q, q < z → okU w n c d q))), some (.int (nI z))]) (st' := [.int (nI w)]) d_212_45 (fun _ => rfl) ?_
              refine rn_ic (v := 1) d_212_46 (by decide) ?_
              refine rn_ceq (t := 62) d_212_47 (by decide) (by omega) (by omega) (fun c47 => ?_) (fun c47 => ?_)
              · refine rn_ic (v := 1) d_212_62 (by decide) ?_
                refine rr_nx (pc' := 67) (al' := [some (.ref 146), some (.int (nI w)), some (.int (nI d)), some (.int (bI (∀ q, q < z → okU w n c d q))), some (.int (nI z))]) (st' := [.int (nI 1)]) d_212_63 (fun _ => rfl) ?_
                refine rr_nx (pc' := 68) (al' := [some (.ref 146), some (.int (nI w)), some (.int (nI d)), some (.int (nI 1)), some (.int (nI z))]) (st' := []) d_212_67 (fun _ => rfl) ?_
                refine rn_inc d_212_68 rfl rfl ?_
                show RR _ _ _ [some (.ref 146), some (.int (nI w)), some (.int (nI d)), some (.int (nI 1)), some (.int (nI (z + 1)))] _ _ _ _
                refine rr_nx (pc' := 15) (al' := [some (.ref 146), some (.int (nI w)), some (.int (nI d)), some (.int (nI 1)), some (.int (nI (z + 1)))]) (st' := []) d_212_71 (fun _ => rfl) ?_
                refine rr_al (al1 := [some (.ref 146), some (.int (nI w)), some (.int (nI d)), some (.int (bI (∀ q, q < z + 1 → okU w n c d q))), some (.int (nI (z + 1)))]) (by rw [show (nI 1) = bI (∀ q, q < z + 1 → okU w n c d q) from bI_t (fun q hq => (Nat.lt_succ_iff_lt_or_eq.mp hq).elim (fun h => c25 q h) (fun h => h ▸ ⟨by first | exact Or.inl c30 | exact Or.inr c42, by first | exact Or.inl c47 | exact Or.inr c59⟩))]) ?_
                exact ihz (trivial)
              · refine rr_nx (pc' := 51) (al' := [some (.ref 146), some (.int (nI w)), some (.int (nI d)), some (.int (bI (∀ q, q < z → okU w n c d q))), some (.int (nI z))]) (st' := [.ref 146]) d_212_50 (fun _ => rfl) ?_
                refine rr_nx (pc' := 53) (al' := [some (.ref 146), some (.int (nI w)), some (.int (nI d)), some (.int (bI (∀ q, q < z → okU w n c d q))), some (.int (nI z))]) (st' := [.int (nI z), .ref 146]) d_212_51 (fun _ => rfl) ?_
                refine rr_nx (pc' := 54) (al' := [some (.ref 146), some (.int (nI w)), some (.int (nI d)), some (.int (bI (∀ q, q < z → okU w n c d q))), some (.int (nI z))]) (st' := [.int (nI d), .int (nI z), .ref 146]) d_212_53 (fun _ => rfl) ?_
                refine rr_pv (as := [.int (nI z), .int (nI d)]) (al0 := [some (.ref 146), some (.int (nI z)), some (.int (nI d))]) (r := []) d_212_54 mo_212 ml_130 mz_213 rfl rfl rfl (by decide) (s_times hc (by omega) (by omega)) ?_
                show RR _ _ 57 [some (.ref 146), some (.int (nI w)), some (.int (nI d)), some (.int (bI (∀ q, q < z → okU w n c d q))), some (.int (nI z))] [.int (nI (c (n * z + d)))] g A _
                refine rr_nx (pc' := 59) (al' := [some (.ref 146), some (.int (nI w)), some (.int (nI d)), some (.int (bI (∀ q, q < z → okU w n c d q))), some (.int (nI z))]) (st' := [.int (nI z), .int (nI (c (n * z + d)))]) d_212_57 (fun _ => rfl) ?_
                refine rn_cne (t := 66) d_212_59 (by decide) (cu_b hc (by omega) (by omega)) (by omega) (fun c59 => ?_) (fun c59 => ?_)
                · refine rn_ic (v := 0) d_212_66 (by decide) ?_
                  refine rr_nx (pc' := 68) (al' := [some (.ref 146), some (.int (nI w)), some (.int (nI d)), some (.int (nI 0)), some (.int (nI z))]) (st' := []) d_212_67 (fun _ => rfl) ?_
                  refine rn_inc d_212_68 rfl rfl ?_
                  show RR _ _ _ [some (.ref 146), some (.int (nI w)), some (.int (nI d)), some (.int (nI 0)), some (.int (nI (z + 1)))] _ _ _ _
                  refine rr_nx (pc' := 15) (al' := [some (.ref 146), some (.int (nI w)), some (.int (nI d)), some (.int (nI 0)), some (.int (nI (z + 1)))]) (st' := []) d_212_71 (fun _ => rfl) ?_
                  refine rr_al (al1 := [some (.ref 146), some (.int (nI w)), some (.int (nI d)), some (.int (bI (∀ q, q < z + 1 → okU w n c d q))), some (.int (nI (z + 1)))]) (by rw [show (nI 0) = bI (∀ q, q < z + 1 → okU w n c d q) from bI_f (by intro h; have h1 := h z (by omega); first | exact c25 (fun q hq => h q (by omega)) | exact c42 (h1.1.resolve_left c30) | exact c59 (h1.2.resolve_left c47))]) ?_
                  exact ihz (trivial)
                · refine rn_ic (v := 1) d_212_62 (by decide) ?_
                  refine rr_nx (pc' := 67) (al' := [some (.ref 146), some (.int (nI w)), some (.int (nI d)), some (.int (bI (∀ q, q < z → okU w n c d q))), some (.int (nI z))]) (st' := [.int (nI 1)]) d_212_63 (fun _ => rfl) ?_
                  refine rr_nx (pc' := 68) (al' := [some (.ref 146), some (.int (nI w)), some (.int (nI d)), some (.int (nI 1)), some (.int (nI z))]) (st' := []) d_212_67 (fun _ => rfl) ?_
                  refine rn_inc d_212_68 rfl rfl ?_
                  show RR _ _ _ [some (.ref 146), some (.int (nI w)), some (.int (nI d)), some (.int (nI 1)), some (.int (nI (z + 1)))] _ _ _ _
                  refine rr_nx (pc' := 15) (al' := [some (.ref 146), some (.int (nI w)), some (.int (nI d)), some (.int (nI 1)), some (.int (nI (z + 1)))]) (st' := []) d_212_71 (fun _ => rfl) ?_
                  refine rr_al (al1 := [some (.ref 146), some (.int (nI w)), some (.int (nI d)), some (.int (bI (∀ q, q < z + 1 → okU w n c d q))), some (.int (nI (z + 1)))]) (by rw [show (nI 1) = bI (∀ q, q < z + 1 → okU w n c d q) from bI_t (fun q hq => (Nat.lt_succ_iff_lt_or_eq.mp hq).elim (fun h => c25 q h) (fun h => h ▸ ⟨by first | exact Or.inl c30 | exact Or.inr c42, by first | exact Or.inl c47 | exact Or.inr c59⟩))]) ?_
                  exact ihz (trivial)
            · refine rr_nx (pc' := 34) (al' := [some (.ref 146), some (.int (nI w)), some (.int (nI d)), some (.int (bI (∀ q, q < z → okU w n c d q))), some (.int (nI z))]) (st' := [.ref 146]) d_212_33 (fun _ => rfl) ?_
              refine rr_nx (pc' := 35) (al' := [some (.ref 146), some (.int (nI w)), some (.int (nI d)), some (.int (bI (∀ q, q < z → okU w n c d q))), some (.int (nI z))]) (st' := [.int (nI d), .ref 146]) d_212_34 (fun _ => rfl) ?_
              refine rr_nx (pc' := 37) (al' := [some (.ref 146), some (.int (nI w)), some (.int (nI d)), some (.int (bI (∀ q, q < z → okU w n c d q))), some (.int (nI z))]) (st' := [.int (nI z), .int (nI d), .ref 146]) d_212_35 (fun _ => rfl) ?_
              refine rr_pv (as := [.int (nI d), .int (nI z)]) (al0 := [some (.ref 146), some (.int (nI d)), some (.int (nI z))]) (r := []) d_212_37 mo_212 ml_130 mz_213 rfl rfl rfl (by decide) (s_times hc (by omega) (by omega)) ?_
              show RR _ _ 40 [some (.ref 146), some (.int (nI w)), some (.int (nI d)), some (.int (bI (∀ q, q < z → okU w n c d q))), some (.int (nI z))] [.int (nI (c (n * d + z)))] g A _
              refine rr_nx (pc' := 42) (al' := [some (.ref 146), some (.int (nI w)), some (.int (nI d)), some (.int (bI (∀ q, q < z → okU w n c d q))), some (.int (nI z))]) (st' := [.int (nI z), .int (nI (c (n * d + z)))]) d_212_40 (fun _ => rfl) ?_
              refine rn_cne (t := 66) d_212_42 (by decide) (cu_b hc (by omega) (by omega)) (by omega) (fun c42 => ?_) (fun c42 => ?_)
              · refine rn_ic (v := 0) d_212_66 (by decide) ?_
                refine rr_nx (pc' := 68) (al' := [some (.ref 146), some (.int (nI w)), some (.int (nI d)), some (.int (nI 0)), some (.int (nI z))]) (st' := []) d_212_67 (fun _ => rfl) ?_
                refine rn_inc d_212_68 rfl rfl ?_
                show RR _ _ _ [some (.ref 146), some (.int (nI w)), some (.int (nI d)), some (.int (nI 0)), some (.int (nI (z + 1)))] _ _ _ _
                refine rr_nx (pc' := 15) (al' := [some (.ref 146), some (.int (nI w)), some (.int (nI d)), some (.int (nI 0)), some (.int (nI (z + 1)))]) (st' := []) d_212_71 (fun _ => rfl) ?_
                refine rr_al (al1 := [some (.ref 146), some (.int (nI w)), some (.int (nI d)), some (.int (bI (∀ q, q < z + 1 → okU w n c d q))), some (.int (nI (z + 1)))]) (by rw [show (nI 0) = bI (∀ q, q < z + 1 → okU w n c d q) from bI_f (by intro h; have h1 := h z (by omega); first | exact c25 (fun q hq => h q (by omega)) | exact c42 (h1.1.resolve_left c30) | exact c59 (h1.2.resolve_left c47))]) ?_
                exact ihz (trivial)
              · refine rr_nx (pc' := 46) (al' := [some (.ref 146), some (.int (nI w)), some (.int (nI d)), some (.int (bI (∀ q, q < z → okU w n c d q))), some (.int (nI z))]) (st' := [.int (nI w)]) d_212_45 (fun _ => rfl) ?_
                refine rn_ic (v := 1) d_212_46 (by decide) ?_
                refine rn_ceq (t := 62) d_212_47 (by decide) (by omega) (by omega) (fun c47 => ?_) (fun c47 => ?_)
                · refine rn_ic (v := 1) d_212_62 (by decide) ?_
                  refine rr_nx (pc' := 67) (al' := [some (.ref 146), some (.int (nI w)), some (.int (nI d)), some (.int (bI (∀ q, q < z → okU w n c d q))), some (.int (nI z))]) (st' := [.int (nI 1)]) d_212_63 (fun _ => rfl) ?_
                  refine rr_nx (pc' := 68) (al' := [some (.ref 146), some (.int (nI w)), some (.int (nI d)), some (.int (nI 1)), some (.int (nI z))]) (st' := []) d_212_67 (fun _ => rfl) ?_
                  refine rn_inc d_212_68 rfl rfl ?_
                  show RR _ _ _ [some (.ref 146), some (.int (nI w)), some (.int (nI d)), some (.int (nI 1)), some (.int (nI (z + 1)))] _ _ _ _
                  refine rr_nx (pc' := 15) (al' := [some (.ref 146), some (.int (nI w)), some (.int (nI d)), some (.int (nI 1)), some (.int (nI (z + 1)))]) (st' := []) d_212_71 (fun _ => rfl) ?_
                  refine rr_al (al1 := [some (.ref 146), some (.int (nI w)), some (.int (nI d)), some (.int (bI (∀ q, q < z + 1 → okU w n c d q))), some (.int (nI (z + 1)))]) (by rw [show (nI 1) = bI (∀ q, q < z + 1 → okU w n c d q) from bI_t (fun q hq => (Nat.lt_succ_iff_lt_or_eq.mp hq).elim (fun h => c25 q h) (fun h => h ▸ ⟨by first | exact Or.inl c30 | exact Or.inr c42, by first | exact Or.inl c47 | exact Or.inr c59⟩))]) ?_
                  exact ihz (trivial)
                · refine rr_nx (pc' := 51) (al' := [some (.ref 146), some (.int (nI w)), some (.int (nI d)), some (.int (bI (∀ q, q < z → okU w n c d q))), some (.int (nI z))]) (st' := [.ref 146]) d_212_50 (fun _ => rfl) ?_
                  refine rr_nx (pc' := 53) (al' := [some (.ref 146), some (.int (nI w)), some (.int (nI d)), some (.int (bI (∀ q, q < z → okU w n c d q))), some (.int (nI z))]) (st' := [.int (nI z), .ref 146]) d_212_51 (fun _ => rfl) ?_
                  refine rr_nx (pc' := 54) (al' := [some (.ref 146), some (.int (nI w)), some (.int (nI d)), some (.int (bI (∀ q, q < z → okU w n c d q))), some (.int (nI z))]) (st' := [.int (nI d), .int (nI z), .ref 146]) d_212_53 (fun _ => rfl) ?_
                  refine rr_pv (as := [.int (nI z), .int (nI d)]) (al0 := [some (.ref 146), some (.int (nI z)), some (.int (nI d))]) (r := []) d_212_54 mo_212 ml_130 mz_213 rfl rfl rfl (by decide) (s_times hc (by omega) (by omega)) ?_
                  show RR _ _ 57 [some (.ref 146), some (.int (nI w)), some (.int (nI d)), some (.int (bI (∀ q, q < z → okU w n c d q))), some (.int (nI z))] [.int (nI (c (n * z + d)))] g A _
                  refine rr_nx (pc' := 59) (al' := [some (.ref 146), some (.int (nI w)), some (.int (nI d)), some (.int (bI (∀ q, q < z → okU w n c d q))), some (.int (nI z))]) (st' := [.int (nI z), .int (nI (c (n * z + d)))]) d_212_57 (fun _ => rfl) ?_
                  refine rn_cne (t := 66) d_212_59 (by decide) (cu_b hc (by omega) (by omega)) (by omega) (fun c59 => ?_) (fun c59 => ?_)
                  · refine rn_ic (v := 0) d_212_66 (by decide) ?_
                    refine rr_nx (pc' := 68) (al' := [some (.ref 146), some (.int (nI w)), some (.int (nI d)), some (.int (nI 0)), some (.int (nI z))]) (st' := []) d_212_67 (fun _ => rfl) ?_
                    refine rn_inc d_212_68 rfl rfl ?_
                    show RR _ _ _ [some (.ref 146), some (.int (nI w)), some (.int (nI d)), some (.int (nI 0)), some (.int (nI (z + 1)))] _ _ _ _
                    refine rr_nx (pc' := 15) (al' := [some (.ref 146), some (.int (nI w)), some (.int (nI d)), some (.int (nI 0)), some (.int (nI (z + 1)))]) (st' := []) d_212_71 (fun _ => rfl) ?_
                    refine rr_al (al1 := [some (.ref 146), some (.int (nI w)), some (.int (nI d)), some (.int (bI (∀ q, q < z + 1 → okU w n c d q))), some (.int (nI (z + 1)))]) (by rw [show (nI 0) = bI (∀ q, q < z + 1 → okU w n c d q) from bI_f (by intro h; have h1 := h z (by omega); first | exact c25 (fun q hq => h q (by omega)) | exact c42 (h1.1.resolve_left c30) | exact c59 (h1.2.resolve_left c47))]) ?_
                    exact ihz (trivial)
                  · refine rn_ic (v := 1) d_212_62 (by decide) ?_
                    refine rr_nx (pc' := 67) (al' := [some (.ref 146), some (.int (nI w)), some (.int (nI d)), some (.int (bI (∀ q, q < z → okU w n c d q))), some (.int (nI z))]) (st' := [.int (nI 1)]) d_212_63 (fun _ => rfl) ?_
                    refine rr_nx (pc' := 68) (al' := [some (.ref 146), some (.int (nI w)), some (.int (nI d)), some (.int (nI 1)), some (.int (nI z))]) (st' := []) d_212_67 (fun _ => rfl) ?_
                    refine rn_inc d_212_68 rfl rfl ?_
                    show RR _ _ _ [some (.ref 146), some (.int (nI w)), some (.int (nI d)), some (.int (nI 1)), some (.int (nI (z + 1)))] _ _ _ _
                    refine rr_nx (pc' := 15) (al' := [some (.ref 146), some (.int (nI w)), some (.int (nI d)), some (.int (nI 1)), some (.int (nI (z + 1)))]) (st' := []) d_212_71 (fun _ => rfl) ?_
                    refine rr_al (al1 := [some (.ref 146), some (.int (nI w)), some (.int (nI d)), some (.int (bI (∀ q, q < z + 1 → okU w n c d q))), some (.int (nI (z + 1)))]) (by rw [show (nI 1) = bI (∀ q, q < z + 1 → okU w n c d q) from bI_t (fun q hq => (Nat.lt_succ_iff_lt_or_eq.mp hq).elim (fun h => c25 q h) (fun h => h ▸ ⟨by first | exact Or.inl c30 | exact Or.inr c42, by first | exact Or.inl c47 | exact Or.inr c59⟩))]) ?_
                    exact ihz (trivial)
      · show RR _ _ 15 [some (.ref 146), some (.int (nI w)), some (.int (nI d)), some (.int (bI (∀ q, q < n → okU w n c d q))), some (.int (nI n))] [] g A _
        refine rr_nx (pc' := 17) (al' := [some (.ref 146), some (.int (nI w)), some (.int (nI d)), some (.int (bI (∀ q, q < n → okU w n c d q))), some (.int (nI n))]) (st' := [.int (nI n)]) d_212_15 (fun _ => rfl) ?_
        refine rr_nx (pc' := 18) (al' := [some (.ref 146), some (.int (nI w)), some (.int (nI d)), some (.int (bI (∀ q, q < n → okU w n c d q))), some (.int (nI n))]) (st' := [.ref 146, .int (nI n)]) d_212_17 (fun _ => rfl) ?_
        refine rr_gn d_212_18 mo_212 fl_127 rfl hc.1 ?_
        refine rn_cge (t := 74) d_212_21 (by decide) (by omega) (by omega) (fun c21 => ?_) (fun c21 => ?_)
        · refine rr_nx (pc' := 75) (al' := [some (.ref 146), some (.int (nI w)), some (.int (nI d)), some (.int (bI (∀ q, q < n → okU w n c d q))), some (.int (nI n))]) (st' := [.int (bI (∀ q, q < n → okU w n c d q))]) d_212_74 (fun _ => rfl) ?_
          refine rr_beq (t := 80) d_212_75 (by decide) (fun c75 => ?_) (fun c75 => ?_)
          · exact absurd (hy c7) c75
          · refine rr_nx (pc' := 79) (al' := [some (.ref 146), some (.int (nI w)), some (.int (nI d)), some (.int (bI (∀ q, q < n → okU w n c d q))), some (.int (nI n))]) (st' := [.int (nI d)]) d_212_78 (fun _ => rfl) ?_
            exact rr_ri d_212_79 mr_212 rfl ⟨by rw [unV, if_pos (show unI w n c < n by omega), hd], rfl, rfl⟩
        · omega
/-- how many triples join alike -/
def asN (n : Nat) (c : Nat → Nat) : Nat := SM (fun x => SM (fun y => SM (fun z => if c (n * x + c (n * y + z)) = c (n * c (n * x + y) + z) then 1 else 0) n) n) n
theorem s_joined {g : Nat → Int32} {A : Nat → Nat → Int32} {n : Nat} {c : Nat → Nat} (hc : Cur g A n c) : RR 1 254 0 [some (.ref 146), none, none, none, none] [] g A (rP (some (.int (nI (asN n c)))) g A) := by
  have hn6 := hc.2.1
  refine rn_ic (v := 0) d_254_0 (by decide) ?_
  refine rr_nx (pc' := 2) (al' := [some (.ref 146), some (.int (nI 0)), none, none, none]) (st' := []) d_254_1 (fun _ => rfl) ?_
  refine rn_ic (v := 0) d_254_2 (by decide) ?_
  refine rr_nx (pc' := 4) (al' := [some (.ref 146), some (.int (nI 0)), some (.int (nI 0)), none, none]) (st' := []) d_254_3 (fun _ => rfl) ?_
  refine rr_up (al := fun x => [some (.ref 146), some (.int (nI (SM (fun x => SM (fun y => SM (fun z => if c (n * x + c (n * y + z)) = c (n * c (n * x + y) + z) then 1 else 0) n) n) x))), some (.int (nI x)), none, none]) (G := fun x => g) (B := fun x => A) (P := fun x => True) (n := n) (fun x hx px ihx => ?_) (fun px => ?_) 0 (by omega) (trivial)
  · show RR _ _ 4 [some (.ref 146), some (.int (nI (SM (fun x => SM (fun y => SM (fun z => if c (n * x + c (n * y + z)) = c (n * c (n * x + y) + z) then 1 else 0) n) n) x))), some (.int (nI x)), none, none] [] g A _
    refine rr_nx (pc' := 5) (al' := [some (.ref 146), some (.int (nI (SM (fun x => SM (fun y => SM (fun z => if c (n * x + c (n * y + z)) = c (n * c (n * x + y) + z) then 1 else 0) n) n) x))), some (.int (nI x)), none, none]) (st' := [.int (nI x)]) d_254_4 (fun _ => rfl) ?_
    refine rr_nx (pc' := 6) (al' := [some (.ref 146), some (.int (nI (SM (fun x => SM (fun y => SM (fun z => if c (n * x + c (n * y + z)) = c (n * c (n * x + y) + z) then 1 else 0) n) n) x))), some (.int (nI x)), none, none]) (st' := [.ref 146, .int (nI x)]) d_254_5 (fun _ => rfl) ?_
    refine rr_gn d_254_6 mo_254 fl_127 rfl hc.1 ?_
    refine rn_cge (t := 87) d_254_9 (by decide) (by omega) (by omega) (fun c9 => ?_) (fun c9 => ?_)
    · omega
    · refine rn_ic (v := 0) d_254_12 (by decide) ?_
      refine rr_nx (pc' := 14) (al' := [some (.ref 146), some (.int (nI (SM (fun x => SM (fun y => SM (fun z => if c (n * x + c (n * y + z)) = c (n * c (n * x + y) + z) then 1 else 0) n) n) x))), some (.int (nI x)), some (.int (nI 0)), none]) (st' := []) d_254_13 (fun _ => rfl) ?_
      refine rr_up (al := fun y => [some (.ref 146), some (.int (nI (SM (fun x => SM (fun y => SM (fun z => if c (n * x + c (n * y + z)) = c (n * c (n * x + y) + z) then 1 else 0) n) n) x + SM (fun y => SM (fun z => if c (n * x + c (n * y + z)) = c (n * c (n * x + y) + z) then 1 else 0) n) y))), some (.int (nI x)), some (.int (nI y)), none]) (G := fun y => g) (B := fun y => A) (P := fun y => True) (n := n) (fun y hy py ihy => ?_) (fun py => ?_) 0 (by omega) (trivial)
      · show RR _ _ 14 [some (.ref 146), some (.int (nI (SM (fun x => SM (fun y => SM (fun z => if c (n * x + c (n * y + z)) = c (n * c (n * x + y) + z) then 1 else 0) n) n) x + SM (fun y => SM (fun z => if c (n * x + c (n * y + z)) = c (n * c (n * x + y) + z) then 1 else 0) n) y))), some (.int (nI x)), some (.int (nI y)), none] [] g A _
        refine rr_nx (pc' := 15) (al' := [some (.ref 146), some (.int (nI (SM (fun x => SM (fun y => SM (fun z => if c (n * x + c (n * y + z)) = c (n * c (n * x + y) + z) then 1 else 0) n) n) x + SM (fun y => SM (fun z => if c (n * x + c (n * y + z)) = c (n * c (n * x + y) + z) then 1 else 0) n) y))), some (.int (nI x)), some (.int (nI y)), none]) (st' := [.int (nI y)]) d_254_14 (fun _ => rfl) ?_
        refine rr_nx (pc' := 16) (al' := [some (.ref 146), some (.int (nI (SM (fun x => SM (fun y => SM (fun z => if c (n * x + c (n * y + z)) = c (n * c (n * x + y) + z) then 1 else 0) n) n) x + SM (fun y => SM (fun z => if c (n * x + c (n * y + z)) = c (n * c (n * x + y) + z) then 1 else 0) n) y))), some (.int (nI x)), some (.int (nI y)), none]) (st' := [.ref 146, .int (nI y)]) d_254_15 (fun _ => rfl) ?_
        refine rr_gn d_254_16 mo_254 fl_127 rfl hc.1 ?_
        refine rn_cge (t := 81) d_254_19 (by decide) (by omega) (by omega) (fun c19 => ?_) (fun c19 => ?_)
        · omega
        · refine rn_ic (v := 0) d_254_22 (by decide) ?_
          refine rr_nx (pc' := 25) (al' := [some (.ref 146), some (.int (nI (SM (fun x => SM (fun y => SM (fun z => if c (n * x + c (n * y + z)) = c (n * c (n * x + y) + z) then 1 else 0) n) n) x + SM (fun y => SM (fun z => if c (n * x + c (n * y + z)) = c (n * c (n * x + y) + z) then 1 else 0) n) y))), some (.int (nI x)), some (.int (nI y)), some (.int (nI 0))]) (st' := []) d_254_23 (fun _ => rfl) ?_
          refine rr_up (al := fun z => [some (.ref 146), some (.int (nI (SM (fun x => SM (fun y => SM (fun z => if c (n * x + c (n * y + z)) = c (n * c (n * x + y) + z) then 1 else 0) n) n) x + SM (fun y => SM (fun z => if c (n * x + c (n * y + z)) = c (n * c (n * x + y) + z) then 1 else 0) n) y + SM (fun z => if c (n * x + c (n * y + z)) = c (n * c (n * x + y) + z) then 1 else 0) z))), some (.int (nI x)), some (.int (nI y)), some (.int (nI z))]) (G := fun z => g) (B := fun z => A) (P := fun z => True) (n := n) (fun z hz pz ihz => ?_) (fun pz => ?_) 0 (by omega) (trivial)
          · show RR _ _ 25 [some (.ref 146), some (.int (nI (SM (fun x => SM (fun y => SM (fun z => if c (n * x + c (n * y + z)) = c (n * c (n * x + y) + z) then 1 else 0) n) n) x + SM (fun y => SM (fun z => if c (n * x + c (n * y + z)) = c (n * c (n * x + y) + z) then 1 else 0) n) y + SM (fun z => if c (n * x + c (n * y + z)) = c (n * c (n * x + y) + z) then 1 else 0) z))), some (.int (nI x)), some (.int (nI y)), some (.int (nI z))] [] g A _
            refine rr_nx (pc' := 27) (al' := [some (.ref 146), some (.int (nI (SM (fun x => SM (fun y => SM (fun z => if c (n * x + c (n * y + z)) = c (n * c (n * x + y) + z) then 1 else 0) n) n) x + SM (fun y => SM (fun z => if c (n * x + c (n * y + z)) = c (n * c (n * x + y) + z) then 1 else 0) n) y + SM (fun z => if c (n * x + c (n * y + z)) = c (n * c (n * x + y) + z) then 1 else 0) z))), some (.int (nI x)), some (.int (nI y)), some (.int (nI z))]) (st' := [.int (nI z)]) d_254_25 (fun _ => rfl) ?_
            refine rr_nx (pc' := 28) (al' := [some (.ref 146), some (.int (nI (SM (fun x => SM (fun y => SM (fun z => if c (n * x + c (n * y + z)) = c (n * c (n * x + y) + z) then 1 else 0) n) n) x + SM (fun y => SM (fun z => if c (n * x + c (n * y + z)) = c (n * c (n * x + y) + z) then 1 else 0) n) y + SM (fun z => if c (n * x + c (n * y + z)) = c (n * c (n * x + y) + z) then 1 else 0) z))), some (.int (nI x)), some (.int (nI y)), some (.int (nI z))]) (st' := [.ref 146, .int (nI z)]) d_254_27 (fun _ => rfl) ?_
            refine rr_gn d_254_28 mo_254 fl_127 rfl hc.1 ?_
            refine rn_cge (t := 75) d_254_31 (by decide) (by omega) (by omega) (fun c31 => ?_) (fun c31 => ?_)
            · omega
            · refine rr_nx (pc' := 35) (al' := [some (.ref 146), some (.int (nI (SM (fun x => SM (fun y => SM (fun z => if c (n * x + c (n * y + z)) = c (n * c (n * x + y) + z) then 1 else 0) n) n) x + SM (fun y => SM (fun z => if c (n * x + c (n * y + z)) = c (n * c (n * x + y) + z) then 1 else 0) n) y + SM (fun z => if c (n * x + c (n * y + z)) = c (n * c (n * x + y) + z) then 1 else 0) z))), some (.int (nI x)), some (.int (nI y)), some (.int (nI z))]) (st' := [.int (nI (SM (fun x => SM (fun y => SM (fun z => if c (n * x + c (n * y + z)) = c (n * c (n * x + y) + z) then 1 else 0) n) n) x + SM (fun y => SM (fun z => if c (n * x + c (n * y + z)) = c (n * c (n * x + y) + z) then 1 else 0) n) y + SM (fun z => if c (n * x + c (n * y + z)) = c (n * c (n * x + y) + z) then 1 else 0) z))]) d_254_34 (fun _ => rfl) ?_
              refine rr_nx (pc' := 36) (al' := [some (.ref 146), some (.int (nI (SM (fun x => SM (fun y => SM (fun z => if c (n * x + c (n * y + z)) = c (n * c (n * x + y) + z) then 1 else 0) n) n) x + SM (fun y => SM (fun z => if c (n * x + c (n * y + z)) = c (n * c (n * x + y) + z) then 1 else 0) n) y + SM (fun z => if c (n * x + c (n * y + z)) = c (n * c (n * x + y) + z) then 1 else 0) z))), some (.int (nI x)), some (.int (nI y)), some (.int (nI z))]) (st' := [.ref 146, .int (nI (SM (fun x => SM (fun y => SM (fun z => if c (n * x + c (n * y + z)) = c (n * c (n * x + y) + z) then 1 else 0) n) n) x + SM (fun y => SM (fun z => if c (n * x + c (n * y + z)) = c (n * c (n * x + y) + z) then 1 else 0) n) y + SM (fun z => if c (n * x + c (n * y + z)) = c (n * c (n * x + y) + z) then 1 else 0) z))]) d_254_35 (fun _ => rfl) ?_
              refine rr_nx (pc' := 37) (al' := [some (.ref 146), some (.int (nI (SM (fun x => SM (fun y => SM (fun z => if c (n * x + c (n * y + z)) = c (n * c (n * x + y) + z) then 1 else 0) n) n) x + SM (fun y => SM (fun z => if c (n * x + c (n * y + z)) = c (n * c (n * x + y) + z) then 1 else 0) n) y + SM (fun z => if c (n * x + c (n * y + z)) = c (n * c (n * x + y) + z) then 1 else 0) z))), some (.int (nI x)), some (.int (nI y)), some (.int (nI z))]) (st' := [.int (nI x), .ref 146, .int (nI (SM (fun x => SM (fun y => SM (fun z => if c (n * x + c (n * y + z)) = c (n * c (n * x + y) + z) then 1 else 0) n) n) x + SM (fun y => SM (fun z => if c (n * x + c (n * y + z)) = c (n * c (n * x + y) + z) then 1 else 0) n) y + SM (fun z => if c (n * x + c (n * y + z)) = c (n * c (n * x + y) + z) then 1 else 0) z))]) d_254_36 (fun _ => rfl) ?_
              refine rr_nx (pc' := 38) (al' := [some (.ref 146), some (.int (nI (SM (fun x => SM (fun y => SM (fun z => if c (n * x + c (n * y + z)) = c (n * c (n * x + y) + z) then 1 else 0) n) n) x + SM (fun y => SM (fun z => if c (n * x + c (n * y + z)) = c (n * c (n * x + y) + z) then 1 else 0) n) y + SM (fun z => if c (n * x + c (n * y + z)) = c (n * c (n * x + y) + z) then 1 else 0) z))), some (.int (nI x)), some (.int (nI y)), some (.int (nI z))]) (st' := [.ref 146, .int (nI x), .ref 146, .int (nI (SM (fun x => SM (fun y => SM (fun z => if c (n * x + c (n * y + z)) = c (n * c (n * x + y) + z) then 1 else 0) n) n) x + SM (fun y => SM (fun z => if c (n * x + c (n * y + z)) = c (n * c (n * x + y) + z) then 1 else 0) n) y + SM (fun z => if c (n * x + c (n * y + z)) = c (n * c (n * x + y) + z) then 1 else 0) z))]) d_254_37 (fun _ => rfl) ?_
              refine rr_nx (pc' := 39) (al' := [some (.ref 146), some (.int (nI (SM (fun x => SM (fun y => SM (fun z => if c (n * x + c (n * y + z)) = c (n * c (n * x + y) + z) then 1 else 0) n) n) x + SM (fun y => SM (fun z => if c (n * x + c (n * y + z)) = c (n * c (n * x + y) + z) then 1 else 0) n) y + SM (fun z => if c (n * x + c (n * y + z)) = c (n * c (n * x + y) + z) then 1 else 0) z))), some (.int (nI x)), some (.int (nI y)), some (.int (nI z))]) (st' := [.int (nI y), .ref 146, .int (nI x), .ref 146, .int (nI (SM (fun x => SM (fun y => SM (fun z => if c (n * x + c (n * y + z)) = c (n * c (n * x + y) + z) then 1 else 0) n) n) x + SM (fun y => SM (fun z => if c (n * x + c (n * y + z)) = c (n * c (n * x + y) + z) then 1 else 0) n) y + SM (fun z => if c (n * x + c (n * y + z)) = c (n * c (n * x + y) + z) then 1 else 0) z))]) d_254_38 (fun _ => rfl) ?_
              refine rr_nx (pc' := 41) (al' := [some (.ref 146), some (.int (nI (SM (fun x => SM (fun y => SM (fun z => if c (n * x + c (n * y + z)) = c (n * c (n * x + y) + z) then 1 else 0) n) n) x + SM (fun y => SM (fun z => if c (n * x + c (n * y + z)) = c (n * c (n * x + y) + z) then 1 else 0) n) y + SM (fun z => if c (n * x + c (n * y + z)) = c (n * c (n * x + y) + z) then 1 else 0) z))), some (.int (nI x)), some (.int (nI y)), some (.int (nI z))]) (st' := [.int (nI z), .int (nI y), .ref 146, .int (nI x), .ref 146, .int (nI (SM (fun x => SM (fun y => SM (fun z => if c (n * x + c (n * y + z)) = c (n * c (n * x + y) + z) then 1 else 0) n) n) x + SM (fun y => SM (fun z => if c (n * x + c (n * y + z)) = c (n * c (n * x + y) + z) then 1 else 0) n) y + SM (fun z => if c (n * x + c (n * y + z)) = c (n * c (n * x + y) + z) then 1 else 0) z))]) d_254_39 (fun _ => rfl) ?_
              refine rr_pv (as := [.int (nI y), .int (nI z)]) (al0 := [some (.ref 146), some (.int (nI y)), some (.int (nI z))]) (r := [.int (nI x), .ref 146, .int (nI (SM (fun x => SM (fun y => SM (fun z => if c (n * x + c (n * y + z)) = c (n * c (n * x + y) + z) then 1 else 0) n) n) x + SM (fun y => SM (fun z => if c (n * x + c (n * y + z)) = c (n * c (n * x + y) + z) then 1 else 0) n) y + SM (fun z => if c (n * x + c (n * y + z)) = c (n * c (n * x + y) + z) then 1 else 0) z))]) d_254_41 mo_254 ml_130 mz_213 rfl rfl rfl (by decide) (s_times hc (by omega) (by omega)) ?_
              show RR _ _ 44 [some (.ref 146), some (.int (nI (SM (fun x => SM (fun y => SM (fun z => if c (n * x + c (n * y + z)) = c (n * c (n * x + y) + z) then 1 else 0) n) n) x + SM (fun y => SM (fun z => if c (n * x + c (n * y + z)) = c (n * c (n * x + y) + z) then 1 else 0) n) y + SM (fun z => if c (n * x + c (n * y + z)) = c (n * c (n * x + y) + z) then 1 else 0) z))), some (.int (nI x)), some (.int (nI y)), some (.int (nI z))] [.int (nI (c (n * y + z))), .int (nI x), .ref 146, .int (nI (SM (fun x => SM (fun y => SM (fun z => if c (n * x + c (n * y + z)) = c (n * c (n * x + y) + z) then 1 else 0) n) n) x + SM (fun y => SM (fun z => if c (n * x + c (n * y + z)) = c (n * c (n * x + y) + z) then 1 else 0) n) y + SM (fun z => if c (n * x + c (n * y + z)) = c (n * c (n * x + y) + z) then 1 else 0) z))] g A _
              refine rr_pv (as := [.int (nI x), .int (nI (c (n * y + z)))]) (al0 := [some (.ref 146), some (.int (nI x)), some (.int (nI (c (n * y + z))))]) (r := [.int (nI (SM (fun x => SM (fun y => SM (fun z => if c (n * x + c (n * y + z)) = c (n * c (n * x + y) + z) then 1 else 0) n) n) x + SM (fun y => SM (fun z => if c (n * x + c (n * y + z)) = c (n * c (n * x + y) + z) then 1 else 0) n) y + SM (fun z => if c (n * x + c (n * y + z)) = c (n * c (n * x + y) + z) then 1 else 0) z))]) d_254_44 mo_254 ml_130 mz_213 rfl rfl rfl (by decide) (s_times hc (by omega) ((hc.2.2 _ (cu_lt (by omega) (by omega))).2)) ?_
              show RR _ _ 47 [some (.ref 146), some (.int (nI (SM (fun x => SM (fun y => SM (fun z => if c (n * x + c (n * y + z)) = c (n * c (n * x + y) + z) then 1 else 0) n) n) x + SM (fun y => SM (fun z => if c (n * x + c (n * y + z)) = c (n * c (n * x + y) + z) then 1 else 0) n) y + SM (fun z => if c (n * x + c (n * y + z)) = c (n * c (n * x + y) + z) then 1 else 0) z))), some (.int (nI x)), some (.int (nI y)), some (.int (nI z))] [.int (nI (c (n * x + (c (n * y + z))))), .int (nI (SM (fun x => SM (fun y => SM (fun z => if c (n * x + c (n * y + z)) = c (n * c (n * x + y) + z) then 1 else 0) n) n) x + SM (fun y => SM (fun z => if c (n * x + c (n * y + z)) = c (n * c (n * x + y) + z) then 1 else 0) n) y + SM (fun z => if c (n * x + c (n * y + z)) = c (n * c (n * x + y) + z) then 1 else 0) z))] g A _
              refine rr_nx (pc' := 48) (al' := [some (.ref 146), some (.int (nI (SM (fun x => SM (fun y => SM (fun z => if c (n * x + c (n * y + z)) = c (n * c (n * x + y) + z) then 1 else 0) n) n) x + SM (fun y => SM (fun z => if c (n * x + c (n * y + z)) = c (n * c (n * x + y) + z) then 1 else 0) n) y + SM (fun z => if c (n * x + c (n * y + z)) = c (n * c (n * x + y) + z) then 1 else 0) z))), some (.int (nI x)), some (.int (nI y)), some (.int (nI z))]) (st' := [.ref 146, .int (nI (c (n * x + (c (n * y + z))))), .int (nI (SM (fun x => SM (fun y => SM (fun z => if c (n * x + c (n * y + z)) = c (n * c (n * x + y) + z) then 1 else 0) n) n) x + SM (fun y => SM (fun z => if c (n * x + c (n * y + z)) = c (n * c (n * x + y) + z) then 1 else 0) n) y + SM (fun z => if c (n * x + c (n * y + z)) = c (n * c (n * x + y) + z) then 1 else 0) z))]) d_254_47 (fun _ => rfl) ?_
              refine rr_nx (pc' := 49) (al' := [some (.ref 146), some (.int (nI (SM (fun x => SM (fun y => SM (fun z => if c (n * x + c (n * y + z)) = c (n * c (n * x + y) + z) then 1 else 0) n) n) x + SM (fun y => SM (fun z => if c (n * x + c (n * y + z)) = c (n * c (n * x + y) + z) then 1 else 0) n) y + SM (fun z => if c (n * x + c (n * y + z)) = c (n * c (n * x + y) + z) then 1 else 0) z))), some (.int (nI x)), some (.int (nI y)), some (.int (nI z))]) (st' := [.ref 146, .ref 146, .int (nI (c (n * x + (c (n * y + z))))), .int (nI (SM (fun x => SM (fun y => SM (fun z => if c (n * x + c (n * y + z)) = c (n * c (n * x + y) + z) then 1 else 0) n) n) x + SM (fun y => SM (fun z => if c (n * x + c (n * y + z)) = c (n * c (n * x + y) + z) then 1 else 0) n) y + SM (fun z => if c (n * x + c (n * y + z)) = c (n * c (n * x + y) + z) then 1 else 0) z))]) d_254_48 (fun _ => rfl) ?_
              refine rr_nx (pc' := 50) (al' := [some (.ref 146), some (.int (nI (SM (fun x => SM (fun y => SM (fun z => if c (n * x + c (n * y + z)) = c (n * c (n * x + y) + z) then 1 else 0) n) n) x + SM (fun y => SM (fun z => if c (n * x + c (n * y + z)) = c (n * c (n * x + y) + z) then 1 else 0) n) y + SM (fun z => if c (n * x + c (n * y + z)) = c (n * c (n * x + y) + z) then 1 else 0) z))), some (.int (nI x)), some (.int (nI y)), some (.int (nI z))]) (st' := [.int (nI x), .ref 146, .ref 146, .int (nI (c (n * x + (c (n * y + z))))), .int (nI (SM (fun x => SM (fun y => SM (fun z => if c (n * x + c (n * y + z)) = c (n * c (n * x + y) + z) then 1 else 0) n) n) x + SM (fun y => SM (fun z => if c (n * x + c (n * y + z)) = c (n * c (n * x + y) + z) then 1 else 0) n) y + SM (fun z => if c (n * x + c (n * y + z)) = c (n * c (n * x + y) + z) then 1 else 0) z))]) d_254_49 (fun _ => rfl) ?_
              refine rr_nx (pc' := 51) (al' := [some (.ref 146), some (.int (nI (SM (fun x => SM (fun y => SM (fun z => if c (n * x + c (n * y + z)) = c (n * c (n * x + y) + z) then 1 else 0) n) n) x + SM (fun y => SM (fun z => if c (n * x + c (n * y + z)) = c (n * c (n * x + y) + z) then 1 else 0) n) y + SM (fun z => if c (n * x + c (n * y + z)) = c (n * c (n * x + y) + z) then 1 else 0) z))), some (.int (nI x)), some (.int (nI y)), some (.int (nI z))]) (st' := [.int (nI y), .int (nI x), .ref 146, .ref 146, .int (nI (c (n * x + (c (n * y + z))))), .int (nI (SM (fun x => SM (fun y => SM (fun z => if c (n * x + c (n * y + z)) = c (n * c (n * x + y) + z) then 1 else 0) n) n) x + SM (fun y => SM (fun z => if c (n * x + c (n * y + z)) = c (n * c (n * x + y) + z) then 1 else 0) n) y + SM (fun z => if c (n * x + c (n * y + z)) = c (n * c (n * x + y) + z) then 1 else 0) z))]) d_254_50 (fun _ => rfl) ?_
              refine rr_pv (as := [.int (nI x), .int (nI y)]) (al0 := [some (.ref 146), some (.int (nI x)), some (.int (nI y))]) (r := [.ref 146, .int (nI (c (n * x + (c (n * y + z))))), .int (nI (SM (fun x => SM (fun y => SM (fun z => if c (n * x + c (n * y + z)) = c (n * c (n * x + y) + z) then 1 else 0) n) n) x + SM (fun y => SM (fun z => if c (n * x + c (n * y + z)) = c (n * c (n * x + y) + z) then 1 else 0) n) y + SM (fun z => if c (n * x + c (n * y + z)) = c (n * c (n * x + y) + z) then 1 else 0) z))]) d_254_51 mo_254 ml_130 mz_213 rfl rfl rfl (by decide) (s_times hc (by omega) (by omega)) ?_
              show RR _ _ 54 [some (.ref 146), some (.int (nI (SM (fun x => SM (fun y => SM (fun z => if c (n * x + c (n * y + z)) = c (n * c (n * x + y) + z) then 1 else 0) n) n) x + SM (fun y => SM (fun z => if c (n * x + c (n * y + z)) = c (n * c (n * x + y) + z) then 1 else 0) n) y + SM (fun z => if c (n * x + c (n * y + z)) = c (n * c (n * x + y) + z) then 1 else 0) z))), some (.int (nI x)), some (.int (nI y)), some (.int (nI z))] [.int (nI (c (n * x + y))), .ref 146, .int (nI (c (n * x + (c (n * y + z))))), .int (nI (SM (fun x => SM (fun y => SM (fun z => if c (n * x + c (n * y + z)) = c (n * c (n * x + y) + z) then 1 else 0) n) n) x + SM (fun y => SM (fun z => if c (n * x + c (n * y + z)) = c (n * c (n * x + y) + z) then 1 else 0) n) y + SM (fun z => if c (n * x + c (n * y + z)) = c (n * c (n * x + y) + z) then 1 else 0) z))] g A _
              refine rr_nx (pc' := 56) (al' := [some (.ref 146), some (.int (nI (SM (fun x => SM (fun y => SM (fun z => if c (n * x + c (n * y + z)) = c (n * c (n * x + y) + z) then 1 else 0) n) n) x + SM (fun y => SM (fun z => if c (n * x + c (n * y + z)) = c (n * c (n * x + y) + z) then 1 else 0) n) y + SM (fun z => if c (n * x + c (n * y + z)) = c (n * c (n * x + y) + z) then 1 else 0) z))), some (.int (nI x)), some (.int (nI y)), some (.int (nI z))]) (st' := [.int (nI z), .int (nI (c (n * x + y))), .ref 146, .int (nI (c (n * x + (c (n * y + z))))), .int (nI (SM (fun x => SM (fun y => SM (fun z => if c (n * x + c (n * y + z)) = c (n * c (n * x + y) + z) then 1 else 0) n) n) x + SM (fun y => SM (fun z => if c (n * x + c (n * y + z)) = c (n * c (n * x + y) + z) then 1 else 0) n) y + SM (fun z => if c (n * x + c (n * y + z)) = c (n * c (n * x + y) + z) then 1 else 0) z))]) d_254_54 (fun _ => rfl) ?_
              refine rr_pv (as := [.int (nI (c (n * x + y))), .int (nI z)]) (al0 := [some (.ref 146), some (.int (nI (c (n * x + y)))), some (.int (nI z))]) (r := [.int (nI (c (n * x + (c (n * y + z))))), .int (nI (SM (fun x => SM (fun y => SM (fun z => if c (n * x + c (n * y + z)) = c (n * c (n * x + y) + z) then 1 else 0) n) n) x + SM (fun y => SM (fun z => if c (n * x + c (n * y + z)) = c (n * c (n * x + y) + z) then 1 else 0) n) y + SM (fun z => if c (n * x + c (n * y + z)) = c (n * c (n * x + y) + z) then 1 else 0) z))]) d_254_56 mo_254 ml_130 mz_213 rfl rfl rfl (by decide) (s_times hc ((hc.2.2 _ (cu_lt (by omega) (by omega))).2) (by omega)) ?_
              show RR _ _ 59 [some (.ref 146), some (.int (nI (SM (fun x => SM (fun y => SM (fun z => if c (n * x + c (n * y + z)) = c (n * c (n * x + y) + z) then 1 else 0) n) n) x + SM (fun y => SM (fun z => if c (n * x + c (n * y + z)) = c (n * c (n * x + y) + z) then 1 else 0) n) y + SM (fun z => if c (n * x + c (n * y + z)) = c (n * c (n * x + y) + z) then 1 else 0) z))), some (.int (nI x)), some (.int (nI y)), some (.int (nI z))] [.int (nI (c (n * (c (n * x + y)) + z))), .int (nI (c (n * x + (c (n * y + z))))), .int (nI (SM (fun x => SM (fun y => SM (fun z => if c (n * x + c (n * y + z)) = c (n * c (n * x + y) + z) then 1 else 0) n) n) x + SM (fun y => SM (fun z => if c (n * x + c (n * y + z)) = c (n * c (n * x + y) + z) then 1 else 0) n) y + SM (fun z => if c (n * x + c (n * y + z)) = c (n * c (n * x + y) + z) then 1 else 0) z))] g A _
              refine rn_cne (t := 66) d_254_59 (by decide) (cu_b hc (by omega) ((hc.2.2 _ (cu_lt (by omega) (by omega))).2)) (cu_b hc ((hc.2.2 _ (cu_lt (by omega) (by omega))).2) (by omega)) (fun c59 => ?_) (fun c59 => ?_)
              · refine rn_ic (v := 0) d_254_66 (by decide) ?_
                refine rn_add d_254_67  ?_
                refine rr_nx (pc' := 69) (al' := [some (.ref 146), some (.int (nI ((SM (fun x => SM (fun y => SM (fun z => if c (n * x + c (n * y + z)) = c (n * c (n * x + y) + z) then 1 else 0) n) n) x + SM (fun y => SM (fun z => if c (n * x + c (n * y + z)) = c (n * c (n * x + y) + z) then 1 else 0) n) y + SM (fun z => if c (n * x + c (n * y + z)) = c (n * c (n * x + y) + z) then 1 else 0) z) + 0))), some (.int (nI x)), some (.int (nI y)), some (.int (nI z))]) (st' := []) d_254_68 (fun _ => rfl) ?_
                refine rn_inc d_254_69 rfl rfl ?_
                show RR _ _ _ [some (.ref 146), some (.int (nI ((SM (fun x => SM (fun y => SM (fun z => if c (n * x + c (n * y + z)) = c (n * c (n * x + y) + z) then 1 else 0) n) n) x + SM (fun y => SM (fun z => if c (n * x + c (n * y + z)) = c (n * c (n * x + y) + z) then 1 else 0) n) y + SM (fun z => if c (n * x + c (n * y + z)) = c (n * c (n * x + y) + z) then 1 else 0) z) + 0))), some (.int (nI x)), some (.int (nI y)), some (.int (nI (z + 1)))] _ _ _ _
                refine rr_nx (pc' := 25) (al' := [some (.ref 146), some (.int (nI ((SM (fun x => SM (fun y => SM (fun z => if c (n * x + c (n * y + z)) = c (n * c (n * x + y) + z) then 1 else 0) n) n) x + SM (fun y => SM (fun z => if c (n * x + c (n * y + z)) = c (n * c (n * x + y) + z) then 1 else 0) n) y + SM (fun z => if c (n * x + c (n * y + z)) = c (n * c (n * x + y) + z) then 1 else 0) z) + 0))), some (.int (nI x)), some (.int (nI y)), some (.int (nI (z + 1)))]) (st' := []) d_254_72 (fun _ => rfl) ?_
                refine rr_al (al1 := [some (.ref 146), some (.int (nI (SM (fun x => SM (fun y => SM (fun z => if c (n * x + c (n * y + z)) = c (n * c (n * x + y) + z) then 1 else 0) n) n) x + SM (fun y => SM (fun z => if c (n * x + c (n * y + z)) = c (n * c (n * x + y) + z) then 1 else 0) n) y + SM (fun z => if c (n * x + c (n * y + z)) = c (n * c (n * x + y) + z) then 1 else 0) (z + 1)))), some (.int (nI x)), some (.int (nI y)), some (.int (nI (z + 1)))]) (by rw [show (SM (fun x => SM (fun y => SM (fun z => if c (n * x + c (n * y + z)) = c (n * c (n * x + y) + z) then 1 else 0) n) n) x + SM (fun y => SM (fun z => if c (n * x + c (n * y + z)) = c (n * c (n * x + y) + z) then 1 else 0) n) y + SM (fun z => if c (n * x + c (n * y + z)) = c (n * c (n * x + y) + z) then 1 else 0) z) + 0 = SM (fun x => SM (fun y => SM (fun z => if c (n * x + c (n * y + z)) = c (n * c (n * x + y) + z) then 1 else 0) n) n) x + SM (fun y => SM (fun z => if c (n * x + c (n * y + z)) = c (n * c (n * x + y) + z) then 1 else 0) n) y + SM (fun z => if c (n * x + c (n * y + z)) = c (n * c (n * x + y) + z) then 1 else 0) (z + 1) by rw [SM_s]; simp only [c59, if_true, if_false]; omega]) ?_
                exact ihz (trivial)
              · refine rn_ic (v := 1) d_254_62 (by decide) ?_
                refine rr_nx (pc' := 67) (al' := [some (.ref 146), some (.int (nI (SM (fun x => SM (fun y => SM (fun z => if c (n * x + c (n * y + z)) = c (n * c (n * x + y) + z) then 1 else 0) n) n) x + SM (fun y => SM (fun z => if c (n * x + c (n * y + z)) = c (n * c (n * x + y) + z) then 1 else 0) n) y + SM (fun z => if c (n * x + c (n * y + z)) = c (n * c (n * x + y) + z) then 1 else 0) z))), some (.int (nI x)), some (.int (nI y)), some (.int (nI z))]) (st' := [.int (nI 1), .int (nI (SM (fun x => SM (fun y => SM (fun z => if c (n * x + c (n * y + z)) = c (n * c (n * x + y) + z) then 1 else 0) n) n) x + SM (fun y => SM (fun z => if c (n * x + c (n * y + z)) = c (n * c (n * x + y) + z) then 1 else 0) n) y + SM (fun z => if c (n * x + c (n * y + z)) = c (n * c (n * x + y) + z) then 1 else 0) z))]) d_254_63 (fun _ => rfl) ?_
                refine rn_add d_254_67  ?_
                refine rr_nx (pc' := 69) (al' := [some (.ref 146), some (.int (nI ((SM (fun x => SM (fun y => SM (fun z => if c (n * x + c (n * y + z)) = c (n * c (n * x + y) + z) then 1 else 0) n) n) x + SM (fun y => SM (fun z => if c (n * x + c (n * y + z)) = c (n * c (n * x + y) + z) then 1 else 0) n) y + SM (fun z => if c (n * x + c (n * y + z)) = c (n * c (n * x + y) + z) then 1 else 0) z) + 1))), some (.int (nI x)), some (.int (nI y)), some (.int (nI z))]) (st' := []) d_254_68 (fun _ => rfl) ?_
                refine rn_inc d_254_69 rfl rfl ?_
                show RR _ _ _ [some (.ref 146), some (.int (nI ((SM (fun x => SM (fun y => SM (fun z => if c (n * x + c (n * y + z)) = c (n * c (n * x + y) + z) then 1 else 0) n) n) x + SM (fun y => SM (fun z => if c (n * x + c (n * y + z)) = c (n * c (n * x + y) + z) then 1 else 0) n) y + SM (fun z => if c (n * x + c (n * y + z)) = c (n * c (n * x + y) + z) then 1 else 0) z) + 1))), some (.int (nI x)), some (.int (nI y)), some (.int (nI (z + 1)))] _ _ _ _
                refine rr_nx (pc' := 25) (al' := [some (.ref 146), some (.int (nI ((SM (fun x => SM (fun y => SM (fun z => if c (n * x + c (n * y + z)) = c (n * c (n * x + y) + z) then 1 else 0) n) n) x + SM (fun y => SM (fun z => if c (n * x + c (n * y + z)) = c (n * c (n * x + y) + z) then 1 else 0) n) y + SM (fun z => if c (n * x + c (n * y + z)) = c (n * c (n * x + y) + z) then 1 else 0) z) + 1))), some (.int (nI x)), some (.int (nI y)), some (.int (nI (z + 1)))]) (st' := []) d_254_72 (fun _ => rfl) ?_
                refine rr_al (al1 := [some (.ref 146), some (.int (nI (SM (fun x => SM (fun y => SM (fun z => if c (n * x + c (n * y + z)) = c (n * c (n * x + y) + z) then 1 else 0) n) n) x + SM (fun y => SM (fun z => if c (n * x + c (n * y + z)) = c (n * c (n * x + y) + z) then 1 else 0) n) y + SM (fun z => if c (n * x + c (n * y + z)) = c (n * c (n * x + y) + z) then 1 else 0) (z + 1)))), some (.int (nI x)), some (.int (nI y)), some (.int (nI (z + 1)))]) (by rw [show (SM (fun x => SM (fun y => SM (fun z => if c (n * x + c (n * y + z)) = c (n * c (n * x + y) + z) then 1 else 0) n) n) x + SM (fun y => SM (fun z => if c (n * x + c (n * y + z)) = c (n * c (n * x + y) + z) then 1 else 0) n) y + SM (fun z => if c (n * x + c (n * y + z)) = c (n * c (n * x + y) + z) then 1 else 0) z) + 1 = SM (fun x => SM (fun y => SM (fun z => if c (n * x + c (n * y + z)) = c (n * c (n * x + y) + z) then 1 else 0) n) n) x + SM (fun y => SM (fun z => if c (n * x + c (n * y + z)) = c (n * c (n * x + y) + z) then 1 else 0) n) y + SM (fun z => if c (n * x + c (n * y + z)) = c (n * c (n * x + y) + z) then 1 else 0) (z + 1) by rw [SM_s]; simp only [c59, if_true, if_false]; omega]) ?_
                exact ihz (trivial)
          · show RR _ _ 25 [some (.ref 146), some (.int (nI (SM (fun x => SM (fun y => SM (fun z => if c (n * x + c (n * y + z)) = c (n * c (n * x + y) + z) then 1 else 0) n) n) x + SM (fun y => SM (fun z => if c (n * x + c (n * y + z)) = c (n * c (n * x + y) + z) then 1 else 0) n) y + SM (fun z => if c (n * x + c (n * y + z)) = c (n * c (n * x + y) + z) then 1 else 0) n))), some (.int (nI x)), some (.int (nI y)), some (.int (nI n))] [] g A _
            refine rr_nx (pc' := 27) (al' := [some (.ref 146), some (.int (nI (SM (fun x => SM (fun y => SM (fun z => if c (n * x + c (n * y + z)) = c (n * c (n * x + y) + z) then 1 else 0) n) n) x + SM (fun y => SM (fun z => if c (n * x + c (n * y + z)) = c (n * c (n * x + y) + z) then 1 else 0) n) y + SM (fun z => if c (n * x + c (n * y + z)) = c (n * c (n * x + y) + z) then 1 else 0) n))), some (.int (nI x)), some (.int (nI y)), some (.int (nI n))]) (st' := [.int (nI n)]) d_254_25 (fun _ => rfl) ?_
            refine rr_nx (pc' := 28) (al' := [some (.ref 146), some (.int (nI (SM (fun x => SM (fun y => SM (fun z => if c (n * x + c (n * y + z)) = c (n * c (n * x + y) + z) then 1 else 0) n) n) x + SM (fun y => SM (fun z => if c (n * x + c (n * y + z)) = c (n * c (n * x + y) + z) then 1 else 0) n) y + SM (fun z => if c (n * x + c (n * y + z)) = c (n * c (n * x + y) + z) then 1 else 0) n))), some (.int (nI x)), some (.int (nI y)), some (.int (nI n))]) (st' := [.ref 146, .int (nI n)]) d_254_27 (fun _ => rfl) ?_
            refine rr_gn d_254_28 mo_254 fl_127 rfl hc.1 ?_
            refine rn_cge (t := 75) d_254_31 (by decide) (by omega) (by omega) (fun c31 => ?_) (fun c31 => ?_)
            · refine rn_inc d_254_75 rfl rfl ?_
              show RR _ _ _ [some (.ref 146), some (.int (nI (SM (fun x => SM (fun y => SM (fun z => if c (n * x + c (n * y + z)) = c (n * c (n * x + y) + z) then 1 else 0) n) n) x + SM (fun y => SM (fun z => if c (n * x + c (n * y + z)) = c (n * c (n * x + y) + z) then 1 else 0) n) y + SM (fun z => if c (n * x + c (n * y + z)) = c (n * c (n * x + y) + z) then 1 else 0) n))), some (.int (nI x)), some (.int (nI (y + 1))), some (.int (nI n))] _ _ _ _
              refine rr_nx (pc' := 14) (al' := [some (.ref 146), some (.int (nI (SM (fun x => SM (fun y => SM (fun z => if c (n * x + c (n * y + z)) = c (n * c (n * x + y) + z) then 1 else 0) n) n) x + SM (fun y => SM (fun z => if c (n * x + c (n * y + z)) = c (n * c (n * x + y) + z) then 1 else 0) n) y + SM (fun z => if c (n * x + c (n * y + z)) = c (n * c (n * x + y) + z) then 1 else 0) n))), some (.int (nI x)), some (.int (nI (y + 1))), some (.int (nI n))]) (st' := []) d_254_78 (fun _ => rfl) ?_
              refine rr_al (al1 := [some (.ref 146), some (.int (nI (SM (fun x => SM (fun y => SM (fun z => if c (n * x + c (n * y + z)) = c (n * c (n * x + y) + z) then 1 else 0) n) n) x + SM (fun y => SM (fun z => if c (n * x + c (n * y + z)) = c (n * c (n * x + y) + z) then 1 else 0) n) (y + 1)))), some (.int (nI x)), some (.int (nI (y + 1))), some (.int (nI n))]) (by rw [show SM (fun x => SM (fun y => SM (fun z => if c (n * x + c (n * y + z)) = c (n * c (n * x + y) + z) then 1 else 0) n) n) x + SM (fun y => SM (fun z => if c (n * x + c (n * y + z)) = c (n * c (n * x + y) + z) then 1 else 0) n) y + SM (fun z => if c (n * x + c (n * y + z)) = c (n * c (n * x + y) + z) then 1 else 0) n = SM (fun x => SM (fun y => SM (fun z => if c (n * x + c (n * y + z)) = c (n * c (n * x + y) + z) then 1 else 0) n) n) x + SM (fun y => SM (fun z => if c (n * x + c (n * y + z)) = c (n * c (n * x + y) + z) then 1 else 0) n) (y + 1) by rw [SM_s (fun y => SM (fun z => if c (n * x + c (n * y + z)) = c (n * c (n * x + y) + z) then 1 else 0) n) y]; omega]) ?_
              refine rr_dr (al1 := [some (.ref 146), some (.int (nI (SM (fun x => SM (fun y => SM (fun z => if c (n * x + c (n * y + z)) = c (n * c (n * x + y) + z) then 1 else 0) n) n) x + SM (fun y => SM (fun z => if c (n * x + c (n * y + z)) = c (n * c (n * x + y) + z) then 1 else 0) n) (y + 1)))), some (.int (nI x)), some (.int (nI (y + 1))), none]) (le_s (le_s (le_s (le_s (le_d rfl (le_n)))))) ?_
              exact ihy (trivial)
            · omega
      · show RR _ _ 14 [some (.ref 146), some (.int (nI (SM (fun x => SM (fun y => SM (fun z => if c (n * x + c (n * y + z)) = c (n * c (n * x + y) + z) then 1 else 0) n) n) x + SM (fun y => SM (fun z => if c (n * x + c (n * y + z)) = c (n * c (n * x + y) + z) then 1 else 0) n) n))), some (.int (nI x)), some (.int (nI n)), none] [] g A _
        refine rr_nx (pc' := 15) (al' := [some (.ref 146), some (.int (nI (SM (fun x => SM (fun y => SM (fun z => if c (n * x + c (n * y + z)) = c (n * c (n * x + y) + z) then 1 else 0) n) n) x + SM (fun y => SM (fun z => if c (n * x + c (n * y + z)) = c (n * c (n * x + y) + z) then 1 else 0) n) n))), some (.int (nI x)), some (.int (nI n)), none]) (st' := [.int (nI n)]) d_254_14 (fun _ => rfl) ?_
        refine rr_nx (pc' := 16) (al' := [some (.ref 146), some (.int (nI (SM (fun x => SM (fun y => SM (fun z => if c (n * x + c (n * y + z)) = c (n * c (n * x + y) + z) then 1 else 0) n) n) x + SM (fun y => SM (fun z => if c (n * x + c (n * y + z)) = c (n * c (n * x + y) + z) then 1 else 0) n) n))), some (.int (nI x)), some (.int (nI n)), none]) (st' := [.ref 146, .int (nI n)]) d_254_15 (fun _ => rfl) ?_
        refine rr_gn d_254_16 mo_254 fl_127 rfl hc.1 ?_
        refine rn_cge (t := 81) d_254_19 (by decide) (by omega) (by omega) (fun c19 => ?_) (fun c19 => ?_)
        · refine rn_inc d_254_81 rfl rfl ?_
          show RR _ _ _ [some (.ref 146), some (.int (nI (SM (fun x => SM (fun y => SM (fun z => if c (n * x + c (n * y + z)) = c (n * c (n * x + y) + z) then 1 else 0) n) n) x + SM (fun y => SM (fun z => if c (n * x + c (n * y + z)) = c (n * c (n * x + y) + z) then 1 else 0) n) n))), some (.int (nI (x + 1))), some (.int (nI n)), none] _ _ _ _
          refine rr_nx (pc' := 4) (al' := [some (.ref 146), some (.int (nI (SM (fun x => SM (fun y => SM (fun z => if c (n * x + c (n * y + z)) = c (n * c (n * x + y) + z) then 1 else 0) n) n) x + SM (fun y => SM (fun z => if c (n * x + c (n * y + z)) = c (n * c (n * x + y) + z) then 1 else 0) n) n))), some (.int (nI (x + 1))), some (.int (nI n)), none]) (st' := []) d_254_84 (fun _ => rfl) ?_
          refine rr_al (al1 := [some (.ref 146), some (.int (nI (SM (fun x => SM (fun y => SM (fun z => if c (n * x + c (n * y + z)) = c (n * c (n * x + y) + z) then 1 else 0) n) n) (x + 1)))), some (.int (nI (x + 1))), some (.int (nI n)), none]) (by rw [show SM (fun x => SM (fun y => SM (fun z => if c (n * x + c (n * y + z)) = c (n * c (n * x + y) + z) then 1 else 0) n) n) x + SM (fun y => SM (fun z => if c (n * x + c (n * y + z)) = c (n * c (n * x + y) + z) then 1 else 0) n) n = SM (fun x => SM (fun y => SM (fun z => if c (n * x + c (n * y + z)) = c (n * c (n * x + y) + z) then 1 else 0) n) n) (x + 1) by rw [SM_s (fun x => SM (fun y => SM (fun z => if c (n * x + c (n * y + z)) = c (n * c (n * x + y) + z) then 1 else 0) n) n) x]]) ?_
          refine rr_dr (al1 := [some (.ref 146), some (.int (nI (SM (fun x => SM (fun y => SM (fun z => if c (n * x + c (n * y + z)) = c (n * c (n * x + y) + z) then 1 else 0) n) n) (x + 1)))), some (.int (nI (x + 1))), none, none]) (le_s (le_s (le_s (le_d rfl (le_s (le_n)))))) ?_
          exact ihx (trivial)
        · omega
  · show RR _ _ 4 [some (.ref 146), some (.int (nI (SM (fun x => SM (fun y => SM (fun z => if c (n * x + c (n * y + z)) = c (n * c (n * x + y) + z) then 1 else 0) n) n) n))), some (.int (nI n)), none, none] [] g A _
    refine rr_nx (pc' := 5) (al' := [some (.ref 146), some (.int (nI (SM (fun x => SM (fun y => SM (fun z => if c (n * x + c (n * y + z)) = c (n * c (n * x + y) + z) then 1 else 0) n) n) n))), some (.int (nI n)), none, none]) (st' := [.int (nI n)]) d_254_4 (fun _ => rfl) ?_
    refine rr_nx (pc' := 6) (al' := [some (.ref 146), some (.int (nI (SM (fun x => SM (fun y => SM (fun z => if c (n * x + c (n * y + z)) = c (n * c (n * x + y) + z) then 1 else 0) n) n) n))), some (.int (nI n)), none, none]) (st' := [.ref 146, .int (nI n)]) d_254_5 (fun _ => rfl) ?_
    refine rr_gn d_254_6 mo_254 fl_127 rfl hc.1 ?_
    refine rn_cge (t := 87) d_254_9 (by decide) (by omega) (by omega) (fun c9 => ?_) (fun c9 => ?_)
    · refine rr_nx (pc' := 88) (al' := [some (.ref 146), some (.int (nI (SM (fun x => SM (fun y => SM (fun z => if c (n * x + c (n * y + z)) = c (n * c (n * x + y) + z) then 1 else 0) n) n) n))), some (.int (nI n)), none, none]) (st' := [.int (nI (SM (fun x => SM (fun y => SM (fun z => if c (n * x + c (n * y + z)) = c (n * c (n * x + y) + z) then 1 else 0) n) n) n))]) d_254_87 (fun _ => rfl) ?_
      exact rr_ri d_254_88 mr_254 rfl ⟨rfl, rfl, rfl⟩
    · omega
