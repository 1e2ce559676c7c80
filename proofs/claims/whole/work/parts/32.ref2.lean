/-! The reference, methods on the table in cells; printed by wip/whole/gen_ref2.py. -/
/-- sums and counts -/
def SM (f : Nat → Nat) : Nat → Nat
  | 0 => 0
  | n + 1 => SM f n + f n
theorem SM_0 (f : Nat → Nat) : SM f 0 = 0 := rfl
theorem SM_s (f : Nat → Nat) (n : Nat) : SM f (n + 1) = SM f n + f n := rfl
theorem SM_c {f h : Nat → Nat} : ∀ {n : Nat}, (∀ i, i < n → f i = h i) → SM f n = SM h n
  | 0, _ => rfl
  | n + 1, e => by rw [SM_s, SM_s, SM_c (fun i hi => e i (by omega)), e n (by omega)]
theorem SM_le {f : Nat → Nat} {b : Nat} : ∀ {n : Nat}, (∀ i, i < n → f i ≤ b) → SM f n ≤ n * b
  | 0, _ => by simp [SM]
  | n + 1, e => by
    have := SM_le (n := n) (fun i hi => e i (by omega))
    have := e n (by omega)
    rw [SM_s, Nat.succ_mul]
    omega
theorem rr_al {k y pc : Nat} {al al1 : AL} {st : List Value} {g : Nat → Int32} {A : Nat → Nat → Int32} {Q : Option Value → (Nat → Int32) → (Nat → Nat → Int32) → Prop} (e : al = al1) (kk : RR k y pc al1 st g A Q) : RR k y pc al st g A Q := by
  rw [e]
  exact kk
theorem cu_b {g : Nat → Int32} {A : Nat → Nat → Int32} {n : Nat} {c : Nat → Nat} (hc : Cur g A n c) {x z : Nat} (hx : x < n) (hz : z < n) : c (n * x + z) < 2 ^ 31 := by
  have := (hc.2.2 _ (cu_lt hx hz)).2
  have := hc.2.1
  omega
theorem s_refuses {g : Nat → Int32} {A : Nat → Nat → Int32} {v : Int32} {e : Nat} (he : e < 7) (hv : -v = nI e) : RR 0 180 0 [some (.ref 146), some (.int v)] [] g A (rP (some (.int v)) (upd g 0 v) (rf_u A 0 (upd (A 0) e (A 0 e + nI 1)))) := by
  refine rr_nx (pc' := 1) (al' := [some (.ref 146), some (.int v)]) (st' := [.ref 146]) d_180_0 (fun _ => rfl) ?_
  refine rr_nx (pc' := 2) (al' := [some (.ref 146), some (.int v)]) (st' := [.int v, .ref 146]) d_180_1 (fun _ => rfl) ?_
  refine rp_0 d_180_2 mo_180 fl_100  ?_
  refine rr_nx (pc' := 6) (al' := [some (.ref 146), some (.int v)]) (st' := [.ref 146]) d_180_5 (fun _ => rfl) ?_
  refine rr_gf (v := .ref (147 + 0)) d_180_6 mo_180 fl_9 rfl ?_
  refine rr_nx (pc' := 10) (al' := [some (.ref 146), some (.int v)]) (st' := [.int v, .ref (147 + 0)]) d_180_9 (fun _ => rfl) ?_
  refine rr_nx (pc' := 11) (al' := [some (.ref 146), some (.int v)]) (st' := [.int (-v), .ref (147 + 0)]) d_180_10 (fun _ => rfl) ?_
  refine rr_tp (z := nI e) hv ?_
  refine rr_nx (pc' := 12) (al' := [some (.ref 146), some (.int v)]) (st' := [.int (nI e), .ref (147 + 0), .int (nI e), .ref (147 + 0)]) d_180_11 (fun _ => rfl) ?_
  refine rr_ia (j := 0) (v := (A 0 e)) d_180_12 (by decide) rfl (by decide) (show e < 7 by omega) rfl ?_
  refine rn_ic (v := 1) d_180_13 (by decide) ?_
  refine rr_nx (pc' := 15) (al' := [some (.ref 146), some (.int v)]) (st' := [.int (((A 0 e)) + ((nI 1))), .int (nI e), .ref (147 + 0)]) d_180_14 (fun _ => rfl) ?_
  refine rr_iS (j := 0) (A1 := (rf_u A 0 (upd (A 0) e (((((A 0 e)) + ((nI 1)))))))) d_180_15 (by decide) rfl (by decide) (show e < 7 by omega) rfl ?_
  refine rr_nx (pc' := 17) (al' := [some (.ref 146), some (.int v)]) (st' := [.int v]) d_180_16 (fun _ => rfl) ?_
  exact rr_ri d_180_17 mr_180 rfl ⟨rfl, rfl, rfl⟩
theorem s_good {g : Nat → Int32} {A : Nat → Nat → Int32} (v : Int32) : RR 0 181 0 [some (.ref 146), some (.int v)] [] g A (rP (some (.int v)) (upd (upd g 0 (nI 0)) 1 (g 1 + nI 1)) A) := by
  refine rr_nx (pc' := 1) (al' := [some (.ref 146), some (.int v)]) (st' := [.ref 146]) d_181_0 (fun _ => rfl) ?_
  refine rn_ic (v := 0) d_181_1 (by decide) ?_
  refine rp_0 d_181_2 mo_181 fl_100  ?_
  refine rr_nx (pc' := 6) (al' := [some (.ref 146), some (.int v)]) (st' := [.ref 146]) d_181_5 (fun _ => rfl) ?_
  refine rr_nx (pc' := 7) (al' := [some (.ref 146), some (.int v)]) (st' := [.ref 146, .ref 146]) d_181_6 (fun _ => rfl) ?_
  refine rr_gf (v := .int (g 1)) d_181_7 mo_181 fl_103 rfl ?_
  refine rn_ic (v := 1) d_181_10 (by decide) ?_
  refine rr_nx (pc' := 12) (al' := [some (.ref 146), some (.int v)]) (st' := [.int (((g 1)) + ((nI 1))), .ref 146]) d_181_11 (fun _ => rfl) ?_
  refine rp_1 d_181_12 mo_181 fl_103  ?_
  refine rr_nx (pc' := 16) (al' := [some (.ref 146), some (.int v)]) (st' := [.int v]) d_181_15 (fun _ => rfl) ?_
  exact rr_ri d_181_16 mr_181 rfl ⟨rfl, rfl, rfl⟩
theorem s_status {g : Nat → Int32} {A : Nat → Nat → Int32}  : RR 0 289 0 [some (.ref 146)] [] g A (rP (some (.int (g 0))) g A) := by
  refine rr_nx (pc' := 1) (al' := [some (.ref 146)]) (st' := [.ref 146]) d_289_0 (fun _ => rfl) ?_
  refine rr_gf (v := .int (g 0)) d_289_1 mo_289 fl_100 rfl ?_
  exact rr_ri d_289_4 mr_289 rfl ⟨rfl, rfl, rfl⟩
theorem s_fault {g : Nat → Int32} {A : Nat → Nat → Int32}  : RR 0 205 0 [some (.ref 146)] [] g A (rP (some (.int (g 14))) g A) := by
  refine rr_nx (pc' := 1) (al' := [some (.ref 146)]) (st' := [.ref 146]) d_205_0 (fun _ => rfl) ?_
  refine rr_gf (v := .int (g 14)) d_205_1 mo_205 fl_39 rfl ?_
  exact rr_ri d_205_4 mr_205 rfl ⟨rfl, rfl, rfl⟩
theorem s_isElement {g : Nat → Int32} {A : Nat → Nat → Int32} {n : Nat} {c : Nat → Nat} (hc : Cur g A n c) (h1 : 1 ≤ n) (x : Int32) : RR 1 228 0 [some (.ref 146), some (.int x)] [] g A (rP (some (.int (bI (nI 0 ≤ x ∧ x ≤ nI (n - 1))))) g A) := by
  refine rr_nx (pc' := 1) (al' := [some (.ref 146), some (.int x)]) (st' := [.int x]) d_228_0 (fun _ => rfl) ?_
  refine rn_ic (v := 0) d_228_1 (by decide) ?_
  refine rr_nx (pc' := 3) (al' := [some (.ref 146), some (.int x)]) (st' := [.ref 146, .int (nI 0), .int x]) d_228_2 (fun _ => rfl) ?_
  refine rr_gn d_228_3 mo_228 fl_127 rfl hc.1 ?_
  refine rn_ic (v := 1) d_228_6 (by decide) ?_
  refine rn_sub d_228_7 h1 ?_
  refine rr_ps (as := [.int x, .int (nI 0), .int (nI (n - 1))]) (al0 := [some (.int x), some (.int (nI 0)), some (.int (nI (n - 1)))]) (r := []) d_228_8 mo_228 ml_106 mz_179 rfl rfl rfl (by decide) (s_lies x ((nI 0)) ((nI (n - 1)))) ?_
  show RR _ _ 11 [some (.ref 146), some (.int x)] [.int (bI ((nI 0) ≤ x ∧ x ≤ (nI (n - 1))))] g A _
  exact rr_ri d_228_11 mr_228 (bI_nar _) ⟨rfl, rfl, rfl⟩
theorem s_behind {g : Nat → Int32} {A : Nat → Nat → Int32} {n : Nat} {c : Nat → Nat} (hc : Cur g A n c) {x v d : Nat} (hx : x < n) (hv : v < 2 ^ 31) (hdn : d < n) (hd : c (n * x + d) = v) (hu : ∀ z, z < d → ¬ c (n * x + z) = v) : RR 1 220 0 [some (.ref 146), some (.int (nI x)), some (.int (nI v)), none] [] g A (rP (some (.int (nI d))) g A) := by
  refine rn_ic (v := 0) d_220_0 (by decide) ?_
  refine rr_nx (pc' := 2) (al' := [some (.ref 146), some (.int (nI x)), some (.int (nI v)), some (.int (nI 0))]) (st' := []) d_220_1 (fun _ => rfl) ?_
  refine rr_up (al := fun z => [some (.ref 146), some (.int (nI x)), some (.int (nI v)), some (.int (nI z))]) (G := fun z => g) (B := fun z => A) (P := fun z => True) (n := d) (fun z hz pz ihz => ?_) (fun pz => ?_) 0 (by omega) (trivial)
  · show RR _ _ 2 [some (.ref 146), some (.int (nI x)), some (.int (nI v)), some (.int (nI z))] [] g A _
    refine rr_nx (pc' := 3) (al' := [some (.ref 146), some (.int (nI x)), some (.int (nI v)), some (.int (nI z))]) (st' := [.ref 146]) d_220_2 (fun _ => rfl) ?_
    refine rr_nx (pc' := 4) (al' := [some (.ref 146), some (.int (nI x)), some (.int (nI v)), some (.int (nI z))]) (st' := [.int (nI x), .ref 146]) d_220_3 (fun _ => rfl) ?_
    refine rr_nx (pc' := 5) (al' := [some (.ref 146), some (.int (nI x)), some (.int (nI v)), some (.int (nI z))]) (st' := [.int (nI z), .int (nI x), .ref 146]) d_220_4 (fun _ => rfl) ?_
    refine rr_pv (as := [.int (nI x), .int (nI z)]) (al0 := [some (.ref 146), some (.int (nI x)), some (.int (nI z))]) (r := []) d_220_5 mo_220 ml_130 mz_213 rfl rfl rfl (by decide) (s_times hc hx (by omega)) ?_
    show RR _ _ 8 [some (.ref 146), some (.int (nI x)), some (.int (nI v)), some (.int (nI z))] [.int (nI (c (n * x + z)))] g A _
    refine rr_nx (pc' := 9) (al' := [some (.ref 146), some (.int (nI x)), some (.int (nI v)), some (.int (nI z))]) (st' := [.int (nI v), .int (nI (c (n * x + z)))]) d_220_8 (fun _ => rfl) ?_
    refine rn_ceq (t := 18) d_220_9 (by decide) (cu_b hc hx (by omega)) (by omega) (fun c9 => ?_) (fun c9 => ?_)
    · exact absurd c9 (hu z hz)
    · refine rn_inc d_220_12 rfl rfl ?_
      show RR _ _ _ [some (.ref 146), some (.int (nI x)), some (.int (nI v)), some (.int (nI (z + 1)))] _ _ _ _
      refine rr_nx (pc' := 2) (al' := [some (.ref 146), some (.int (nI x)), some (.int (nI v)), some (.int (nI (z + 1)))]) (st' := []) d_220_15 (fun _ => rfl) ?_
      exact ihz (trivial)
  · show RR _ _ 2 [some (.ref 146), some (.int (nI x)), some (.int (nI v)), some (.int (nI d))] [] g A _
    refine rr_nx (pc' := 3) (al' := [some (.ref 146), some (.int (nI x)), some (.int (nI v)), some (.int (nI d))]) (st' := [.ref 146]) d_220_2 (fun _ => rfl) ?_
    refine rr_nx (pc' := 4) (al' := [some (.ref 146), some (.int (nI x)), some (.int (nI v)), some (.int (nI d))]) (st' := [.int (nI x), .ref 146]) d_220_3 (fun _ => rfl) ?_
    refine rr_nx (pc' := 5) (al' := [some (.ref 146), some (.int (nI x)), some (.int (nI v)), some (.int (nI d))]) (st' := [.int (nI d), .int (nI x), .ref 146]) d_220_4 (fun _ => rfl) ?_
    refine rr_pv (as := [.int (nI x), .int (nI d)]) (al0 := [some (.ref 146), some (.int (nI x)), some (.int (nI d))]) (r := []) d_220_5 mo_220 ml_130 mz_213 rfl rfl rfl (by decide) (s_times hc hx (by omega)) ?_
    show RR _ _ 8 [some (.ref 146), some (.int (nI x)), some (.int (nI v)), some (.int (nI d))] [.int (nI (c (n * x + d)))] g A _
    refine rr_nx (pc' := 9) (al' := [some (.ref 146), some (.int (nI x)), some (.int (nI v)), some (.int (nI d))]) (st' := [.int (nI v), .int (nI (c (n * x + d)))]) d_220_8 (fun _ => rfl) ?_
    refine rn_ceq (t := 18) d_220_9 (by decide) (cu_b hc hx (by omega)) (by omega) (fun c9 => ?_) (fun c9 => ?_)
    · refine rr_nx (pc' := 19) (al' := [some (.ref 146), some (.int (nI x)), some (.int (nI v)), some (.int (nI d))]) (st' := [.int (nI d)]) d_220_18 (fun _ => rfl) ?_
      exact rr_ri d_220_19 mr_220 rfl ⟨rfl, rfl, rfl⟩
    · exact absurd hd c9
theorem s_ahead {g : Nat → Int32} {A : Nat → Nat → Int32} {n : Nat} {c : Nat → Nat} (hc : Cur g A n c) {x v d : Nat} (hx : x < n) (hv : v < 2 ^ 31) (hdn : d < n) (hd : c (n * d + x) = v) (hu : ∀ z, z < d → ¬ c (n * z + x) = v) : RR 1 219 0 [some (.ref 146), some (.int (nI v)), some (.int (nI x)), none] [] g A (rP (some (.int (nI d))) g A) := by
  refine rn_ic (v := 0) d_219_0 (by decide) ?_
  refine rr_nx (pc' := 2) (al' := [some (.ref 146), some (.int (nI v)), some (.int (nI x)), some (.int (nI 0))]) (st' := []) d_219_1 (fun _ => rfl) ?_
  refine rr_up (al := fun z => [some (.ref 146), some (.int (nI v)), some (.int (nI x)), some (.int (nI z))]) (G := fun z => g) (B := fun z => A) (P := fun z => True) (n := d) (fun z hz pz ihz => ?_) (fun pz => ?_) 0 (by omega) (trivial)
  · show RR _ _ 2 [some (.ref 146), some (.int (nI v)), some (.int (nI x)), some (.int (nI z))] [] g A _
    refine rr_nx (pc' := 3) (al' := [some (.ref 146), some (.int (nI v)), some (.int (nI x)), some (.int (nI z))]) (st' := [.ref 146]) d_219_2 (fun _ => rfl) ?_
    refine rr_nx (pc' := 4) (al' := [some (.ref 146), some (.int (nI v)), some (.int (nI x)), some (.int (nI z))]) (st' := [.int (nI z), .ref 146]) d_219_3 (fun _ => rfl) ?_
    refine rr_nx (pc' := 5) (al' := [some (.ref 146), some (.int (nI v)), some (.int (nI x)), some (.int (nI z))]) (st' := [.int (nI x), .int (nI z), .ref 146]) d_219_4 (fun _ => rfl) ?_
    refine rr_pv (as := [.int (nI z), .int (nI x)]) (al0 := [some (.ref 146), some (.int (nI z)), some (.int (nI x))]) (r := []) d_219_5 mo_219 ml_130 mz_213 rfl rfl rfl (by decide) (s_times hc (by omega) hx) ?_
    show RR _ _ 8 [some (.ref 146), some (.int (nI v)), some (.int (nI x)), some (.int (nI z))] [.int (nI (c (n * z + x)))] g A _
    refine rr_nx (pc' := 9) (al' := [some (.ref 146), some (.int (nI v)), some (.int (nI x)), some (.int (nI z))]) (st' := [.int (nI v), .int (nI (c (n * z + x)))]) d_219_8 (fun _ => rfl) ?_
    refine rn_ceq (t := 18) d_219_9 (by decide) (cu_b hc (by omega) hx) (by omega) (fun c9 => ?_) (fun c9 => ?_)
    · exact absurd c9 (hu z hz)
    · refine rn_inc d_219_12 rfl rfl ?_
      show RR _ _ _ [some (.ref 146), some (.int (nI v)), some (.int (nI x)), some (.int (nI (z + 1)))] _ _ _ _
      refine rr_nx (pc' := 2) (al' := [some (.ref 146), some (.int (nI v)), some (.int (nI x)), some (.int (nI (z + 1)))]) (st' := []) d_219_15 (fun _ => rfl) ?_
      exact ihz (trivial)
  · show RR _ _ 2 [some (.ref 146), some (.int (nI v)), some (.int (nI x)), some (.int (nI d))] [] g A _
    refine rr_nx (pc' := 3) (al' := [some (.ref 146), some (.int (nI v)), some (.int (nI x)), some (.int (nI d))]) (st' := [.ref 146]) d_219_2 (fun _ => rfl) ?_
    refine rr_nx (pc' := 4) (al' := [some (.ref 146), some (.int (nI v)), some (.int (nI x)), some (.int (nI d))]) (st' := [.int (nI d), .ref 146]) d_219_3 (fun _ => rfl) ?_
    refine rr_nx (pc' := 5) (al' := [some (.ref 146), some (.int (nI v)), some (.int (nI x)), some (.int (nI d))]) (st' := [.int (nI x), .int (nI d), .ref 146]) d_219_4 (fun _ => rfl) ?_
    refine rr_pv (as := [.int (nI d), .int (nI x)]) (al0 := [some (.ref 146), some (.int (nI d)), some (.int (nI x))]) (r := []) d_219_5 mo_219 ml_130 mz_213 rfl rfl rfl (by decide) (s_times hc (by omega) hx) ?_
    show RR _ _ 8 [some (.ref 146), some (.int (nI v)), some (.int (nI x)), some (.int (nI d))] [.int (nI (c (n * d + x)))] g A _
    refine rr_nx (pc' := 9) (al' := [some (.ref 146), some (.int (nI v)), some (.int (nI x)), some (.int (nI d))]) (st' := [.int (nI v), .int (nI (c (n * d + x)))]) d_219_8 (fun _ => rfl) ?_
    refine rn_ceq (t := 18) d_219_9 (by decide) (cu_b hc (by omega) hx) (by omega) (fun c9 => ?_) (fun c9 => ?_)
    · refine rr_nx (pc' := 19) (al' := [some (.ref 146), some (.int (nI v)), some (.int (nI x)), some (.int (nI d))]) (st' := [.int (nI d)]) d_219_18 (fun _ => rfl) ?_
      exact rr_ri d_219_19 mr_219 rfl ⟨rfl, rfl, rfl⟩
    · exact absurd hd c9
