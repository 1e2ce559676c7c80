/-! Likeness by permutations: automorphisms, autotopies; printed by wip/whole/gen_b3.py. -/
/-- where a renaming p of c is not e -/
def hoF (n : Nat) (c e p : Nat → Nat) (x y : Nat) : Nat := if p (c (n * x + y)) = e (n * p x + p y) then 0 else 1
def hoS (n : Nat) (c e p : Nat → Nat) (x : Nat) : Nat := SM (hoF n c e p x) n
def hoN (n : Nat) (c e p : Nat → Nat) : Nat := SM (hoS n c e p) n
def fl01 (k : Nat) : Nat := if k = 0 then 1 else 0
theorem fl_le (k : Nat) : fl01 k ≤ 1 := by unfold fl01; split <;> omega
theorem fl_1 {k : Nat} (h : 0 < fl01 k) : k = 0 := by unfold fl01 at h; split at h <;> omega
theorem fl_0 {k : Nat} (h : fl01 k = 0) : k ≠ 0 := by unfold fl01 at h; split at h <;> omega
theorem fl_p {k : Nat} (h : k ≠ 0) : fl01 k = 0 := if_neg h
theorem hoF_1 {n : Nat} {c e p : Nat → Nat} {x : Nat} (y : Nat) : hoF n c e p x y ≤ 1 := by unfold hoF; split <;> omega
theorem SM_gr {f : Nat → Nat} {i n : Nat} (h : i ≤ n) : SM f i ≤ SM f n := by
  induction n with
  | zero => rw [Nat.le_zero.mp h]; exact Nat.le_refl _
  | succ n ih =>
    rcases Nat.lt_or_ge i (n + 1) with h1 | h1
    · have := ih (by omega)
      rw [SM_s]
      omega
    · rw [show i = n + 1 by omega]
      exact Nat.le_refl _
/-- how many renamings of e are c -/
def wyF (n : Nat) (c e : Nat → Nat) (r : Nat) : Nat := fl01 (hoN n e c (pmE n r))
def wyN (n : Nat) (c e : Nat → Nat) : Nat := SM (wyF n c e) (FA n)
theorem wyN_le {n : Nat} {c e : Nat → Nat} : wyN n c e ≤ FA n := SM_1 (fun i => fl_le _)
theorem s_ways {g : Nat → Int32} {A : Nat → Nat → Int32} {n : Nat} {c e : Nat → Nat} (hc : Cur g A n c) (he : ∀ q, q < n * n → A 20 q = nI (e q) ∧ e q < n) : RR 2 263 0 [some (.ref 146), none, none, none, none, none, none] [] g A (fun r g' A' => r = some (.int (nI (wyN n c e))) ∧ g' = g ∧ ∃ w, A' = rf_u A 13 w) := by
  have hn6 := hc.2.1
  refine rr_nx (pc' := 1) (al' := [some (.ref 146), none, none, none, none, none, none]) (st' := [.ref 146]) d_263_0 (fun _ => rfl) ?_
  refine rr_gn d_263_1 mo_263 fl_127 rfl hc.1 ?_
  refine rr_ps (as := [.int (nI n)]) (al0 := [some (.int (nI n)), none, none]) (r := []) d_263_4 mo_263 ml_270 mz_233 rfl rfl rfl (Nat.le_of_ble_eq_true rfl) (s_factorial (by omega)) ?_
  show RR _ _ 7 [some (.ref 146), none, none, none, none, none, none] [.int (nI (FA n))] g A _
  refine rr_nx (pc' := 8) (al' := [some (.ref 146), some (.int (nI (FA n))), none, none, none, none, none]) (st' := []) d_263_7 (fun _ => rfl) ?_
  refine rn_ic (v := 0) d_263_8 (by decide) ?_
  refine rr_nx (pc' := 10) (al' := [some (.ref 146), some (.int (nI (FA n))), some (.int (nI 0)), none, none, none, none]) (st' := []) d_263_9 (fun _ => rfl) ?_
  refine rn_ic (v := 0) d_263_10 (by decide) ?_
  refine rr_nx (pc' := 12) (al' := [some (.ref 146), some (.int (nI (FA n))), some (.int (nI 0)), some (.int (nI 0)), none, none, none]) (st' := []) d_263_11 (fun _ => rfl) ?_
  refine rr_al (congrArg (fun z__ : Nat => ([some (.ref 146), some (.int (nI (FA n))), some (.int (nI z__)), some (.int (nI 0)), none, none, none] : AL)) (show 0 = SM (wyF n c e) 0 by rfl)) ?_
  refine rr_A (show A = (rf_u A 13 (A 13)) by rw [rf_u_id]) ?_
  refine rr_upw (al := fun r w_ => [some (.ref 146), some (.int (nI (FA n))), some (.int (nI (SM (wyF n c e) r))), some (.int (nI r)), none, none, none]) (G := fun r w_ => g) (B := fun r w_ => (rf_u A 13 w_)) (P := fun r w_ => True) (n := FA n) (fun r w_ hr pr ihr => ?_) (fun w_ pr => ?_) 0 (A 13) (by omega) (trivial)
  · show RR _ _ 12 [some (.ref 146), some (.int (nI (FA n))), some (.int (nI (SM (wyF n c e) r))), some (.int (nI r)), none, none, none] [] g (rf_u A 13 w_) _
    have hP := pm_per hn6 hr
    have hrr := FA_720 hn6
    have hsm : SM (wyF n c e) r ≤ r := SM_1 (fun i => fl_le _)
    refine rr_nx (pc' := 13) (al' := [some (.ref 146), some (.int (nI (FA n))), some (.int (nI (SM (wyF n c e) r))), some (.int (nI r)), none, none, none]) (st' := [.int (nI r)]) d_263_12 (fun _ => rfl) ?_
    refine rr_nx (pc' := 14) (al' := [some (.ref 146), some (.int (nI (FA n))), some (.int (nI (SM (wyF n c e) r))), some (.int (nI r)), none, none, none]) (st' := [.int (nI (FA n)), .int (nI r)]) d_263_13 (fun _ => rfl) ?_
    refine rn_cge (t := 142) d_263_14 (by decide) (by first | omega | assumption | exact cu_36 (by omega) (cu_lt (by omega) (by omega))) (by first | omega | assumption | exact cu_36 (by omega) (cu_lt (by omega) (by omega))) (fun c14 => ?_) (fun c14 => ?_)
    · omega
    · refine rr_nx (pc' := 18) (al' := [some (.ref 146), some (.int (nI (FA n))), some (.int (nI (SM (wyF n c e) r))), some (.int (nI r)), none, none, none]) (st' := [.ref 146]) d_263_17 (fun _ => rfl) ?_
      refine rr_nx (pc' := 19) (al' := [some (.ref 146), some (.int (nI (FA n))), some (.int (nI (SM (wyF n c e) r))), some (.int (nI r)), none, none, none]) (st' := [.int (nI r), .ref 146]) d_263_18 (fun _ => rfl) ?_
      refine rr_nx (pc' := 20) (al' := [some (.ref 146), some (.int (nI (FA n))), some (.int (nI (SM (wyF n c e) r))), some (.int (nI r)), none, none, none]) (st' := [.ref 146, .int (nI r), .ref 146]) d_263_19 (fun _ => rfl) ?_
      refine rr_gn d_263_20 mo_263 fl_127 rfl hc.1 ?_
      refine rr_cv (as := [.int (nI r), .int (nI n)]) (al0 := [some (.ref 146), some (.int (nI r)), some (.int (nI n)), none, none, none, none, none, none]) (r := []) d_263_23 mo_263 ml_273 mz_234 rfl rfl rfl (rr_wk (Nat.le_of_ble_eq_true rfl) (s_permutes (n := n) (r := r) (by omega) (by first | omega | assumption | exact cu_36 (by omega) (cu_lt (by omega) (by omega))))) (fun v1 g1 A1 h1 => ?_)
      obtain ⟨q0_, q1_, w23, q9_, hw23⟩ := h1
      obtain rfl := q0_
      obtain rfl := q1_.symm
      obtain rfl := q9_
      rw [rf_u_u]
      show RR _ _ 26 [some (.ref 146), some (.int (nI (FA n))), some (.int (nI (SM (wyF n c e) r))), some (.int (nI r)), none, none, none] [] g (rf_u A 13 w23) _
      refine rn_ic (v := 1) d_263_26 (by decide) ?_
      refine rr_nx (pc' := 29) (al' := [some (.ref 146), some (.int (nI (FA n))), some (.int (nI (SM (wyF n c e) r))), some (.int (nI r)), some (.int (nI 1)), none, none]) (st' := []) d_263_27 (fun _ => rfl) ?_
      refine rn_ic (v := 0) d_263_29 (by decide) ?_
      refine rr_nx (pc' := 32) (al' := [some (.ref 146), some (.int (nI (FA n))), some (.int (nI (SM (wyF n c e) r))), some (.int (nI r)), some (.int (nI 1)), some (.int (nI 0)), none]) (st' := []) d_263_30 (fun _ => rfl) ?_
      refine rr_al (congrArg (fun z__ : Nat => ([some (.ref 146), some (.int (nI (FA n))), some (.int (nI (SM (wyF n c e) r))), some (.int (nI r)), some (.int (nI z__)), some (.int (nI 0)), none] : AL)) (show 1 = fl01 (SM (hoS n e c (pmE n r)) 0) by rfl)) ?_
      refine rr_up (al := fun x => [some (.ref 146), some (.int (nI (FA n))), some (.int (nI (SM (wyF n c e) r))), some (.int (nI r)), some (.int (nI (fl01 (SM (hoS n e c (pmE n r)) x)))), some (.int (nI x)), none]) (G := fun x => g) (B := fun x => (rf_u A 13 w23)) (P := fun x => True) (n := n) (fun x hx px ihx => ?_) (fun px => ?_) 0  (by omega) (trivial)
      · show RR _ _ 32 [some (.ref 146), some (.int (nI (FA n))), some (.int (nI (SM (wyF n c e) r))), some (.int (nI r)), some (.int (nI (fl01 (SM (hoS n e c (pmE n r)) x)))), some (.int (nI x)), none] [] g (rf_u A 13 w23) _
        have hf4 := fl_le (SM (hoS n e c (pmE n r)) x)
        refine rr_nx (pc' := 34) (al' := [some (.ref 146), some (.int (nI (FA n))), some (.int (nI (SM (wyF n c e) r))), some (.int (nI r)), some (.int (nI (fl01 (SM (hoS n e c (pmE n r)) x)))), some (.int (nI x)), none]) (st' := [.int (nI x)]) d_263_32 (fun _ => rfl) ?_
        refine rr_nx (pc' := 35) (al' := [some (.ref 146), some (.int (nI (FA n))), some (.int (nI (SM (wyF n c e) r))), some (.int (nI r)), some (.int (nI (fl01 (SM (hoS n e c (pmE n r)) x)))), some (.int (nI x)), none]) (st' := [.ref 146, .int (nI x)]) d_263_34 (fun _ => rfl) ?_
        refine rr_gn d_263_35 mo_263 fl_127 rfl hc.1 ?_
        refine rn_cge (t := 123) d_263_38 (by decide) (by first | omega | assumption | exact cu_36 (by omega) (cu_lt (by omega) (by omega))) (by first | omega | assumption | exact cu_36 (by omega) (cu_lt (by omega) (by omega))) (fun c38 => ?_) (fun c38 => ?_)
        · omega
        · refine rr_nx (pc' := 43) (al' := [some (.ref 146), some (.int (nI (FA n))), some (.int (nI (SM (wyF n c e) r))), some (.int (nI r)), some (.int (nI (fl01 (SM (hoS n e c (pmE n r)) x)))), some (.int (nI x)), none]) (st' := [.int (nI (fl01 (SM (hoS n e c (pmE n r)) x)))]) d_263_41 (fun _ => rfl) ?_
          refine rn_ieq (t := 123) d_263_43 (by decide) (by first | omega | assumption | exact cu_36 (by omega) (cu_lt (by omega) (by omega))) (fun c43 => ?_) (fun c43 => ?_)
          · have h43 : fl01 (hoN n e c (pmE n r)) = 0 := fl_p (by have h1 := fl_0 c43; have h2 : SM (hoS n e c (pmE n r)) x ≤ hoN n e c (pmE n r) := SM_gr (by omega); omega)
            refine rr_nx (pc' := 124) (al' := [some (.ref 146), some (.int (nI (FA n))), some (.int (nI (SM (wyF n c e) r))), some (.int (nI r)), some (.int (nI (fl01 (SM (hoS n e c (pmE n r)) x)))), some (.int (nI x)), none]) (st' := [.int (nI (SM (wyF n c e) r))]) d_263_123 (fun _ => rfl) ?_
            refine rr_nx (pc' := 126) (al' := [some (.ref 146), some (.int (nI (FA n))), some (.int (nI (SM (wyF n c e) r))), some (.int (nI r)), some (.int (nI (fl01 (SM (hoS n e c (pmE n r)) x)))), some (.int (nI x)), none]) (st' := [.int (nI (fl01 (SM (hoS n e c (pmE n r)) x))), .int (nI (SM (wyF n c e) r))]) d_263_124 (fun _ => rfl) ?_
            refine rn_ieq (t := 133) d_263_126 (by decide) (by first | omega | assumption | exact cu_36 (by omega) (cu_lt (by omega) (by omega))) (fun c126 => ?_) (fun c126 => ?_)
            · refine rn_ic (v := 0) d_263_133 (by decide) ?_
              refine rn_add d_263_134  ?_
              refine rr_nx (pc' := 136) (al' := [some (.ref 146), some (.int (nI (FA n))), some (.int (nI ((SM (wyF n c e) r) + 0))), some (.int (nI r)), some (.int (nI (fl01 (SM (hoS n e c (pmE n r)) x)))), some (.int (nI x)), none]) (st' := []) d_263_135 (fun _ => rfl) ?_
              refine rn_inc d_263_136 rfl rfl ?_
              show RR _ _ 139 [some (.ref 146), some (.int (nI (FA n))), some (.int (nI ((SM (wyF n c e) r) + 0))), some (.int (nI (r + 1))), some (.int (nI (fl01 (SM (hoS n e c (pmE n r)) x)))), some (.int (nI x)), none] [] g (rf_u A 13 w23) _
              refine rr_nx (pc' := 12) (al' := [some (.ref 146), some (.int (nI (FA n))), some (.int (nI ((SM (wyF n c e) r) + 0))), some (.int (nI (r + 1))), some (.int (nI (fl01 (SM (hoS n e c (pmE n r)) x)))), some (.int (nI x)), none]) (st' := []) d_263_139 (fun _ => rfl) ?_
              refine rr_al (congrArg (fun z__ : Nat => ([some (.ref 146), some (.int (nI (FA n))), some (.int (nI z__)), some (.int (nI (r + 1))), some (.int (nI (fl01 (SM (hoS n e c (pmE n r)) x)))), some (.int (nI x)), none] : AL)) (show (SM (wyF n c e) r) + 0 = SM (wyF n c e) (r + 1) by first | (rw [SM_s, wyF, h43]) | (rw [SM_s, wyF, show hoN n e c (pmE n r) = 0 from fl_1 c126]; rfl) | (rw [SM_s, wyF, show fl01 (hoN n e c (pmE n r)) = 0 from c126]))) ?_
              refine rr_dr (al1 := [some (.ref 146), some (.int (nI (FA n))), some (.int (nI (SM (wyF n c e) (r + 1)))), some (.int (nI (r + 1))), none, none, none]) (le_s (le_s (le_s (le_s (le_d rfl (le_d rfl (le_s (le_n)))))))) ?_
              exact ihr w23 (trivial)
            · omega
          · refine rn_ic (v := 0) d_263_46 (by decide) ?_
            refine rr_nx (pc' := 49) (al' := [some (.ref 146), some (.int (nI (FA n))), some (.int (nI (SM (wyF n c e) r))), some (.int (nI r)), some (.int (nI (fl01 (SM (hoS n e c (pmE n r)) x)))), some (.int (nI x)), some (.int (nI 0))]) (st' := []) d_263_47 (fun _ => rfl) ?_
            refine rr_al (congrArg (fun z__ : Nat => ([some (.ref 146), some (.int (nI (FA n))), some (.int (nI (SM (wyF n c e) r))), some (.int (nI r)), some (.int (nI z__)), some (.int (nI x)), some (.int (nI 0))] : AL)) (show fl01 (SM (hoS n e c (pmE n r)) x) = fl01 (SM (hoS n e c (pmE n r)) x + SM (hoF n e c (pmE n r) x) 0) by rfl)) ?_
            refine rr_up (al := fun y => [some (.ref 146), some (.int (nI (FA n))), some (.int (nI (SM (wyF n c e) r))), some (.int (nI r)), some (.int (nI (fl01 (SM (hoS n e c (pmE n r)) x + SM (hoF n e c (pmE n r) x) y)))), some (.int (nI x)), some (.int (nI y))]) (G := fun y => g) (B := fun y => (rf_u A 13 w23)) (P := fun y => True) (n := n) (fun y hy py ihy => ?_) (fun py => ?_) 0  (by omega) (trivial)
            · show RR _ _ 49 [some (.ref 146), some (.int (nI (FA n))), some (.int (nI (SM (wyF n c e) r))), some (.int (nI r)), some (.int (nI (fl01 (SM (hoS n e c (pmE n r)) x + SM (hoF n e c (pmE n r) x) y)))), some (.int (nI x)), some (.int (nI y))] [] g (rf_u A 13 w23) _
              have hf6 := fl_le (SM (hoS n e c (pmE n r)) x + SM (hoF n e c (pmE n r) x) y)
              refine rr_nx (pc' := 51) (al' := [some (.ref 146), some (.int (nI (FA n))), some (.int (nI (SM (wyF n c e) r))), some (.int (nI r)), some (.int (nI (fl01 (SM (hoS n e c (pmE n r)) x + SM (hoF n e c (pmE n r) x) y)))), some (.int (nI x)), some (.int (nI y))]) (st' := [.int (nI y)]) d_263_49 (fun _ => rfl) ?_
              refine rr_nx (pc' := 52) (al' := [some (.ref 146), some (.int (nI (FA n))), some (.int (nI (SM (wyF n c e) r))), some (.int (nI r)), some (.int (nI (fl01 (SM (hoS n e c (pmE n r)) x + SM (hoF n e c (pmE n r) x) y)))), some (.int (nI x)), some (.int (nI y))]) (st' := [.ref 146, .int (nI y)]) d_263_51 (fun _ => rfl) ?_
              refine rr_gn d_263_52 mo_263 fl_127 rfl hc.1 ?_
              refine rn_cge (t := 117) d_263_55 (by decide) (by first | omega | assumption | exact cu_36 (by omega) (cu_lt (by omega) (by omega))) (by first | omega | assumption | exact cu_36 (by omega) (cu_lt (by omega) (by omega))) (fun c55 => ?_) (fun c55 => ?_)
              · omega
              · refine rr_nx (pc' := 60) (al' := [some (.ref 146), some (.int (nI (FA n))), some (.int (nI (SM (wyF n c e) r))), some (.int (nI r)), some (.int (nI (fl01 (SM (hoS n e c (pmE n r)) x + SM (hoF n e c (pmE n r) x) y)))), some (.int (nI x)), some (.int (nI y))]) (st' := [.int (nI (fl01 (SM (hoS n e c (pmE n r)) x + SM (hoF n e c (pmE n r) x) y)))]) d_263_58 (fun _ => rfl) ?_
                refine rn_ieq (t := 117) d_263_60 (by decide) (by first | omega | assumption | exact cu_36 (by omega) (cu_lt (by omega) (by omega))) (fun c60 => ?_) (fun c60 => ?_)
                · refine rn_inc d_263_117 rfl rfl ?_
                  show RR _ _ 120 [some (.ref 146), some (.int (nI (FA n))), some (.int (nI (SM (wyF n c e) r))), some (.int (nI r)), some (.int (nI (fl01 (SM (hoS n e c (pmE n r)) x + SM (hoF n e c (pmE n r) x) y)))), some (.int (nI (x + 1))), some (.int (nI y))] [] g (rf_u A 13 w23) _
                  refine rr_nx (pc' := 32) (al' := [some (.ref 146), some (.int (nI (FA n))), some (.int (nI (SM (wyF n c e) r))), some (.int (nI r)), some (.int (nI (fl01 (SM (hoS n e c (pmE n r)) x + SM (hoF n e c (pmE n r) x) y)))), some (.int (nI (x + 1))), some (.int (nI y))]) (st' := []) d_263_120 (fun _ => rfl) ?_
                  refine rr_al (congrArg (fun z__ : Nat => ([some (.ref 146), some (.int (nI (FA n))), some (.int (nI (SM (wyF n c e) r))), some (.int (nI r)), some (.int (nI z__)), some (.int (nI (x + 1))), some (.int (nI y))] : AL)) (show fl01 (SM (hoS n e c (pmE n r)) x + SM (hoF n e c (pmE n r) x) y) = fl01 (SM (hoS n e c (pmE n r)) (x + 1)) by first | rfl | (rw [fl_p (fl_0 c60), fl_p]; have h1 := fl_0 c60; have h2 : SM (hoF n e c (pmE n r) x) y ≤ hoS n e c (pmE n r) x := SM_gr (by omega); rw [SM_s]; omega))) ?_
                  refine rr_dr (al1 := [some (.ref 146), some (.int (nI (FA n))), some (.int (nI (SM (wyF n c e) r))), some (.int (nI r)), some (.int (nI (fl01 (SM (hoS n e c (pmE n r)) (x + 1))))), some (.int (nI (x + 1))), none]) (le_s (le_s (le_s (le_s (le_s (le_s (le_d rfl (le_n)))))))) ?_
                  exact ihx  (trivial)
                · refine rr_nx (pc' := 64) (al' := [some (.ref 146), some (.int (nI (FA n))), some (.int (nI (SM (wyF n c e) r))), some (.int (nI r)), some (.int (nI (fl01 (SM (hoS n e c (pmE n r)) x + SM (hoF n e c (pmE n r) x) y)))), some (.int (nI x)), some (.int (nI y))]) (st' := [.ref 146]) d_263_63 (fun _ => rfl) ?_
                  refine rr_nx (pc' := 65) (al' := [some (.ref 146), some (.int (nI (FA n))), some (.int (nI (SM (wyF n c e) r))), some (.int (nI r)), some (.int (nI (fl01 (SM (hoS n e c (pmE n r)) x + SM (hoF n e c (pmE n r) x) y)))), some (.int (nI x)), some (.int (nI y))]) (st' := [.ref 146, .ref 146]) d_263_64 (fun _ => rfl) ?_
                  refine rr_gf (v := .ref (147 + 13)) d_263_65 mo_263 fl_55 rfl ?_
                  refine rr_nx (pc' := 70) (al' := [some (.ref 146), some (.int (nI (FA n))), some (.int (nI (SM (wyF n c e) r))), some (.int (nI r)), some (.int (nI (fl01 (SM (hoS n e c (pmE n r)) x + SM (hoF n e c (pmE n r) x) y)))), some (.int (nI x)), some (.int (nI y))]) (st' := [.int (nI x), .ref (147 + 13), .ref 146]) d_263_68 (fun _ => rfl) ?_
                  refine rr_ia (j := 13) (v := (nI (pmE n r x))) d_263_70 (by decide) rfl (by decide) (show x < 6 by first | omega | assumption | exact cu_36 (by omega) (cu_lt (by omega) (by omega))) (hw23 x hx) ?_
                  refine rr_nx (pc' := 72) (al' := [some (.ref 146), some (.int (nI (FA n))), some (.int (nI (SM (wyF n c e) r))), some (.int (nI r)), some (.int (nI (fl01 (SM (hoS n e c (pmE n r)) x + SM (hoF n e c (pmE n r) x) y)))), some (.int (nI x)), some (.int (nI y))]) (st' := [.ref 146, .int (nI (pmE n r x)), .ref 146]) d_263_71 (fun _ => rfl) ?_
                  refine rr_gf (v := .ref (147 + 13)) d_263_72 mo_263 fl_55 rfl ?_
                  refine rr_nx (pc' := 77) (al' := [some (.ref 146), some (.int (nI (FA n))), some (.int (nI (SM (wyF n c e) r))), some (.int (nI r)), some (.int (nI (fl01 (SM (hoS n e c (pmE n r)) x + SM (hoF n e c (pmE n r) x) y)))), some (.int (nI x)), some (.int (nI y))]) (st' := [.int (nI y), .ref (147 + 13), .int (nI (pmE n r x)), .ref 146]) d_263_75 (fun _ => rfl) ?_
                  refine rr_ia (j := 13) (v := (nI (pmE n r y))) d_263_77 (by decide) rfl (by decide) (show y < 6 by first | omega | assumption | exact cu_36 (by omega) (cu_lt (by omega) (by omega))) (hw23 y hy) ?_
                  refine rr_pv (as := [.int (nI (pmE n r x)), .int (nI (pmE n r y))]) (al0 := [some (.ref 146), some (.int (nI (pmE n r x))), some (.int (nI (pmE n r y)))]) (r := []) d_263_78 mo_263 ml_130 mz_213 rfl rfl rfl (Nat.le_of_ble_eq_true rfl) (s_times (hc.up (j := 13) (by decide)) (hP.1 x hx) (hP.1 y hy)) ?_
                  show RR _ _ 81 [some (.ref 146), some (.int (nI (FA n))), some (.int (nI (SM (wyF n c e) r))), some (.int (nI r)), some (.int (nI (fl01 (SM (hoS n e c (pmE n r)) x + SM (hoF n e c (pmE n r) x) y)))), some (.int (nI x)), some (.int (nI y))] [.int (nI (c (n * (pmE n r x) + (pmE n r y))))] g (rf_u A 13 w23) _
                  have b78 : c (n * (pmE n r x) + (pmE n r y)) < n := (hc.2.2 _ (cu_lt (hP.1 x hx) (hP.1 y hy))).2
                  refine rr_nx (pc' := 82) (al' := [some (.ref 146), some (.int (nI (FA n))), some (.int (nI (SM (wyF n c e) r))), some (.int (nI r)), some (.int (nI (fl01 (SM (hoS n e c (pmE n r)) x + SM (hoF n e c (pmE n r) x) y)))), some (.int (nI x)), some (.int (nI y))]) (st' := [.ref 146, .int (nI (c (n * (pmE n r x) + (pmE n r y))))]) d_263_81 (fun _ => rfl) ?_
                  refine rr_gf (v := .ref (147 + 13)) d_263_82 mo_263 fl_55 rfl ?_
                  refine rr_nx (pc' := 86) (al' := [some (.ref 146), some (.int (nI (FA n))), some (.int (nI (SM (wyF n c e) r))), some (.int (nI r)), some (.int (nI (fl01 (SM (hoS n e c (pmE n r)) x + SM (hoF n e c (pmE n r) x) y)))), some (.int (nI x)), some (.int (nI y))]) (st' := [.ref 146, .ref (147 + 13), .int (nI (c (n * (pmE n r x) + (pmE n r y))))]) d_263_85 (fun _ => rfl) ?_
                  refine rr_gf (v := .ref (147 + 20)) d_263_86 mo_263 fl_76 rfl ?_
                  refine rr_nx (pc' := 90) (al' := [some (.ref 146), some (.int (nI (FA n))), some (.int (nI (SM (wyF n c e) r))), some (.int (nI r)), some (.int (nI (fl01 (SM (hoS n e c (pmE n r)) x + SM (hoF n e c (pmE n r) x) y)))), some (.int (nI x)), some (.int (nI y))]) (st' := [.ref 146, .ref (147 + 20), .ref (147 + 13), .int (nI (c (n * (pmE n r x) + (pmE n r y))))]) d_263_89 (fun _ => rfl) ?_
                  refine rr_gn d_263_90 mo_263 fl_127 rfl hc.1 ?_
                  refine rr_nx (pc' := 95) (al' := [some (.ref 146), some (.int (nI (FA n))), some (.int (nI (SM (wyF n c e) r))), some (.int (nI r)), some (.int (nI (fl01 (SM (hoS n e c (pmE n r)) x + SM (hoF n e c (pmE n r) x) y)))), some (.int (nI x)), some (.int (nI y))]) (st' := [.int (nI x), .int (nI n), .ref (147 + 20), .ref (147 + 13), .int (nI (c (n * (pmE n r x) + (pmE n r y))))]) d_263_93 (fun _ => rfl) ?_
                  refine rn_mul d_263_95  ?_
                  refine rr_nx (pc' := 98) (al' := [some (.ref 146), some (.int (nI (FA n))), some (.int (nI (SM (wyF n c e) r))), some (.int (nI r)), some (.int (nI (fl01 (SM (hoS n e c (pmE n r)) x + SM (hoF n e c (pmE n r) x) y)))), some (.int (nI x)), some (.int (nI y))]) (st' := [.int (nI y), .int (nI (n * x)), .ref (147 + 20), .ref (147 + 13), .int (nI (c (n * (pmE n r x) + (pmE n r y))))]) d_263_96 (fun _ => rfl) ?_
                  refine rn_add d_263_98  ?_
                  refine rr_ia (j := 20) (v := (nI (e (n * x + y)))) d_263_99 (by decide) rfl (by decide) (show (n * x) + y < 36 by exact cu_36 hn6 (cu_lt hx hy)) (he _ (cu_lt hx hy)).1 ?_
                  refine rr_ia (j := 13) (v := (nI (pmE n r (e (n * x + y))))) d_263_100 (by decide) rfl (by decide) (show e (n * x + y) < 6 by have := (he _ (cu_lt hx hy)).2; omega) (hw23 _ (he _ (cu_lt hx hy)).2) ?_
                  refine rn_cne (t := 108) d_263_101 (by decide) (by have := (hc.2.2 _ (cu_lt (hP.1 x hx) (hP.1 y hy))).2; omega) (by have := hP.1 _ (he _ (cu_lt hx hy)).2; omega) (fun c101 => ?_) (fun c101 => ?_)
                  · refine rn_ic (v := 0) d_263_108 (by decide) ?_
                    refine rr_nx (pc' := 111) (al' := [some (.ref 146), some (.int (nI (FA n))), some (.int (nI (SM (wyF n c e) r))), some (.int (nI r)), some (.int (nI 0)), some (.int (nI x)), some (.int (nI y))]) (st' := []) d_263_109 (fun _ => rfl) ?_
                    refine rn_inc d_263_111 rfl rfl ?_
                    show RR _ _ 114 [some (.ref 146), some (.int (nI (FA n))), some (.int (nI (SM (wyF n c e) r))), some (.int (nI r)), some (.int (nI 0)), some (.int (nI x)), some (.int (nI (y + 1)))] [] g (rf_u A 13 w23) _
                    refine rr_nx (pc' := 49) (al' := [some (.ref 146), some (.int (nI (FA n))), some (.int (nI (SM (wyF n c e) r))), some (.int (nI r)), some (.int (nI 0)), some (.int (nI x)), some (.int (nI (y + 1)))]) (st' := []) d_263_114 (fun _ => rfl) ?_
                    refine rr_al (congrArg (fun z__ : Nat => ([some (.ref 146), some (.int (nI (FA n))), some (.int (nI (SM (wyF n c e) r))), some (.int (nI r)), some (.int (nI z__)), some (.int (nI x)), some (.int (nI (y + 1)))] : AL)) (show 0 = fl01 (SM (hoS n e c (pmE n r)) x + SM (hoF n e c (pmE n r) x) (y + 1)) by first | (rw [SM_s, hoF, if_pos c101.symm, Nat.add_zero, fl_1 c60]; rfl) | (rw [SM_s, hoF, if_neg (fun h => c101 h.symm)]; rfl))) ?_
                    exact ihy  (trivial)
                  · refine rn_ic (v := 1) d_263_104 (by decide) ?_
                    refine rr_nx (pc' := 109) (al' := [some (.ref 146), some (.int (nI (FA n))), some (.int (nI (SM (wyF n c e) r))), some (.int (nI r)), some (.int (nI (fl01 (SM (hoS n e c (pmE n r)) x + SM (hoF n e c (pmE n r) x) y)))), some (.int (nI x)), some (.int (nI y))]) (st' := [.int (nI 1)]) d_263_105 (fun _ => rfl) ?_
                    refine rr_nx (pc' := 111) (al' := [some (.ref 146), some (.int (nI (FA n))), some (.int (nI (SM (wyF n c e) r))), some (.int (nI r)), some (.int (nI 1)), some (.int (nI x)), some (.int (nI y))]) (st' := []) d_263_109 (fun _ => rfl) ?_
                    refine rn_inc d_263_111 rfl rfl ?_
                    show RR _ _ 114 [some (.ref 146), some (.int (nI (FA n))), some (.int (nI (SM (wyF n c e) r))), some (.int (nI r)), some (.int (nI 1)), some (.int (nI x)), some (.int (nI (y + 1)))] [] g (rf_u A 13 w23) _
                    refine rr_nx (pc' := 49) (al' := [some (.ref 146), some (.int (nI (FA n))), some (.int (nI (SM (wyF n c e) r))), some (.int (nI r)), some (.int (nI 1)), some (.int (nI x)), some (.int (nI (y + 1)))]) (st' := []) d_263_114 (fun _ => rfl) ?_
                    refine rr_al (congrArg (fun z__ : Nat => ([some (.ref 146), some (.int (nI (FA n))), some (.int (nI (SM (wyF n c e) r))), some (.int (nI r)), some (.int (nI z__)), some (.int (nI x)), some (.int (nI (y + 1)))] : AL)) (show 1 = fl01 (SM (hoS n e c (pmE n r)) x + SM (hoF n e c (pmE n r) x) (y + 1)) by first | (rw [SM_s, hoF, if_pos c101.symm, Nat.add_zero, fl_1 c60]; rfl) | (rw [SM_s, hoF, if_neg (fun h => c101 h.symm)]; rfl))) ?_
                    exact ihy  (trivial)
            · show RR _ _ 49 [some (.ref 146), some (.int (nI (FA n))), some (.int (nI (SM (wyF n c e) r))), some (.int (nI r)), some (.int (nI (fl01 (SM (hoS n e c (pmE n r)) x + SM (hoF n e c (pmE n r) x) n)))), some (.int (nI x)), some (.int (nI n))] [] g (rf_u A 13 w23) _
              have hf6 := fl_le (SM (hoS n e c (pmE n r)) x + SM (hoF n e c (pmE n r) x) n)
              refine rr_nx (pc' := 51) (al' := [some (.ref 146), some (.int (nI (FA n))), some (.int (nI (SM (wyF n c e) r))), some (.int (nI r)), some (.int (nI (fl01 (SM (hoS n e c (pmE n r)) x + SM (hoF n e c (pmE n r) x) n)))), some (.int (nI x)), some (.int (nI n))]) (st' := [.int (nI n)]) d_263_49 (fun _ => rfl) ?_
              refine rr_nx (pc' := 52) (al' := [some (.ref 146), some (.int (nI (FA n))), some (.int (nI (SM (wyF n c e) r))), some (.int (nI r)), some (.int (nI (fl01 (SM (hoS n e c (pmE n r)) x + SM (hoF n e c (pmE n r) x) n)))), some (.int (nI x)), some (.int (nI n))]) (st' := [.ref 146, .int (nI n)]) d_263_51 (fun _ => rfl) ?_
              refine rr_gn d_263_52 mo_263 fl_127 rfl hc.1 ?_
              refine rn_cge (t := 117) d_263_55 (by decide) (by first | omega | assumption | exact cu_36 (by omega) (cu_lt (by omega) (by omega))) (by first | omega | assumption | exact cu_36 (by omega) (cu_lt (by omega) (by omega))) (fun c55 => ?_) (fun c55 => ?_)
              · refine rn_inc d_263_117 rfl rfl ?_
                show RR _ _ 120 [some (.ref 146), some (.int (nI (FA n))), some (.int (nI (SM (wyF n c e) r))), some (.int (nI r)), some (.int (nI (fl01 (SM (hoS n e c (pmE n r)) x + SM (hoF n e c (pmE n r) x) n)))), some (.int (nI (x + 1))), some (.int (nI n))] [] g (rf_u A 13 w23) _
                refine rr_nx (pc' := 32) (al' := [some (.ref 146), some (.int (nI (FA n))), some (.int (nI (SM (wyF n c e) r))), some (.int (nI r)), some (.int (nI (fl01 (SM (hoS n e c (pmE n r)) x + SM (hoF n e c (pmE n r) x) n)))), some (.int (nI (x + 1))), some (.int (nI n))]) (st' := []) d_263_120 (fun _ => rfl) ?_
                refine rr_al (congrArg (fun z__ : Nat => ([some (.ref 146), some (.int (nI (FA n))), some (.int (nI (SM (wyF n c e) r))), some (.int (nI r)), some (.int (nI z__)), some (.int (nI (x + 1))), some (.int (nI n))] : AL)) (show fl01 (SM (hoS n e c (pmE n r)) x + SM (hoF n e c (pmE n r) x) n) = fl01 (SM (hoS n e c (pmE n r)) (x + 1)) by first | rfl | (rw [fl_p (fl_0 c60), fl_p]; have h1 := fl_0 c60; have h2 : SM (hoF n e c (pmE n r) x) y ≤ hoS n e c (pmE n r) x := SM_gr (by omega); rw [SM_s]; omega))) ?_
                refine rr_dr (al1 := [some (.ref 146), some (.int (nI (FA n))), some (.int (nI (SM (wyF n c e) r))), some (.int (nI r)), some (.int (nI (fl01 (SM (hoS n e c (pmE n r)) (x + 1))))), some (.int (nI (x + 1))), none]) (le_s (le_s (le_s (le_s (le_s (le_s (le_d rfl (le_n)))))))) ?_
                exact ihx  (trivial)
              · omega
      · show RR _ _ 32 [some (.ref 146), some (.int (nI (FA n))), some (.int (nI (SM (wyF n c e) r))), some (.int (nI r)), some (.int (nI (fl01 (SM (hoS n e c (pmE n r)) n)))), some (.int (nI n)), none] [] g (rf_u A 13 w23) _
        have hf4 := fl_le (SM (hoS n e c (pmE n r)) n)
        refine rr_nx (pc' := 34) (al' := [some (.ref 146), some (.int (nI (FA n))), some (.int (nI (SM (wyF n c e) r))), some (.int (nI r)), some (.int (nI (fl01 (SM (hoS n e c (pmE n r)) n)))), some (.int (nI n)), none]) (st' := [.int (nI n)]) d_263_32 (fun _ => rfl) ?_
        refine rr_nx (pc' := 35) (al' := [some (.ref 146), some (.int (nI (FA n))), some (.int (nI (SM (wyF n c e) r))), some (.int (nI r)), some (.int (nI (fl01 (SM (hoS n e c (pmE n r)) n)))), some (.int (nI n)), none]) (st' := [.ref 146, .int (nI n)]) d_263_34 (fun _ => rfl) ?_
        refine rr_gn d_263_35 mo_263 fl_127 rfl hc.1 ?_
        refine rn_cge (t := 123) d_263_38 (by decide) (by first | omega | assumption | exact cu_36 (by omega) (cu_lt (by omega) (by omega))) (by first | omega | assumption | exact cu_36 (by omega) (cu_lt (by omega) (by omega))) (fun c38 => ?_) (fun c38 => ?_)
        · refine rr_nx (pc' := 124) (al' := [some (.ref 146), some (.int (nI (FA n))), some (.int (nI (SM (wyF n c e) r))), some (.int (nI r)), some (.int (nI (fl01 (SM (hoS n e c (pmE n r)) n)))), some (.int (nI n)), none]) (st' := [.int (nI (SM (wyF n c e) r))]) d_263_123 (fun _ => rfl) ?_
          refine rr_nx (pc' := 126) (al' := [some (.ref 146), some (.int (nI (FA n))), some (.int (nI (SM (wyF n c e) r))), some (.int (nI r)), some (.int (nI (fl01 (SM (hoS n e c (pmE n r)) n)))), some (.int (nI n)), none]) (st' := [.int (nI (fl01 (SM (hoS n e c (pmE n r)) n))), .int (nI (SM (wyF n c e) r))]) d_263_124 (fun _ => rfl) ?_
          refine rn_ieq (t := 133) d_263_126 (by decide) (by first | omega | assumption | exact cu_36 (by omega) (cu_lt (by omega) (by omega))) (fun c126 => ?_) (fun c126 => ?_)
          · refine rn_ic (v := 0) d_263_133 (by decide) ?_
            refine rn_add d_263_134  ?_
            refine rr_nx (pc' := 136) (al' := [some (.ref 146), some (.int (nI (FA n))), some (.int (nI ((SM (wyF n c e) r) + 0))), some (.int (nI r)), some (.int (nI (fl01 (SM (hoS n e c (pmE n r)) n)))), some (.int (nI n)), none]) (st' := []) d_263_135 (fun _ => rfl) ?_
            refine rn_inc d_263_136 rfl rfl ?_
            show RR _ _ 139 [some (.ref 146), some (.int (nI (FA n))), some (.int (nI ((SM (wyF n c e) r) + 0))), some (.int (nI (r + 1))), some (.int (nI (fl01 (SM (hoS n e c (pmE n r)) n)))), some (.int (nI n)), none] [] g (rf_u A 13 w23) _
            refine rr_nx (pc' := 12) (al' := [some (.ref 146), some (.int (nI (FA n))), some (.int (nI ((SM (wyF n c e) r) + 0))), some (.int (nI (r + 1))), some (.int (nI (fl01 (SM (hoS n e c (pmE n r)) n)))), some (.int (nI n)), none]) (st' := []) d_263_139 (fun _ => rfl) ?_
            refine rr_al (congrArg (fun z__ : Nat => ([some (.ref 146), some (.int (nI (FA n))), some (.int (nI z__)), some (.int (nI (r + 1))), some (.int (nI (fl01 (SM (hoS n e c (pmE n r)) n)))), some (.int (nI n)), none] : AL)) (show (SM (wyF n c e) r) + 0 = SM (wyF n c e) (r + 1) by first | (rw [SM_s, wyF, h43]) | (rw [SM_s, wyF, show hoN n e c (pmE n r) = 0 from fl_1 c126]; rfl) | (rw [SM_s, wyF, show fl01 (hoN n e c (pmE n r)) = 0 from c126]))) ?_
            refine rr_dr (al1 := [some (.ref 146), some (.int (nI (FA n))), some (.int (nI (SM (wyF n c e) (r + 1)))), some (.int (nI (r + 1))), none, none, none]) (le_s (le_s (le_s (le_s (le_d rfl (le_d rfl (le_s (le_n)))))))) ?_
            exact ihr w23 (trivial)
          · refine rn_ic (v := 1) d_263_129 (by decide) ?_
            refine rr_nx (pc' := 134) (al' := [some (.ref 146), some (.int (nI (FA n))), some (.int (nI (SM (wyF n c e) r))), some (.int (nI r)), some (.int (nI (fl01 (SM (hoS n e c (pmE n r)) n)))), some (.int (nI n)), none]) (st' := [.int (nI 1), .int (nI (SM (wyF n c e) r))]) d_263_130 (fun _ => rfl) ?_
            refine rn_add d_263_134  ?_
            refine rr_nx (pc' := 136) (al' := [some (.ref 146), some (.int (nI (FA n))), some (.int (nI ((SM (wyF n c e) r) + 1))), some (.int (nI r)), some (.int (nI (fl01 (SM (hoS n e c (pmE n r)) n)))), some (.int (nI n)), none]) (st' := []) d_263_135 (fun _ => rfl) ?_
            refine rn_inc d_263_136 rfl rfl ?_
            show RR _ _ 139 [some (.ref 146), some (.int (nI (FA n))), some (.int (nI ((SM (wyF n c e) r) + 1))), some (.int (nI (r + 1))), some (.int (nI (fl01 (SM (hoS n e c (pmE n r)) n)))), some (.int (nI n)), none] [] g (rf_u A 13 w23) _
            refine rr_nx (pc' := 12) (al' := [some (.ref 146), some (.int (nI (FA n))), some (.int (nI ((SM (wyF n c e) r) + 1))), some (.int (nI (r + 1))), some (.int (nI (fl01 (SM (hoS n e c (pmE n r)) n)))), some (.int (nI n)), none]) (st' := []) d_263_139 (fun _ => rfl) ?_
            refine rr_al (congrArg (fun z__ : Nat => ([some (.ref 146), some (.int (nI (FA n))), some (.int (nI z__)), some (.int (nI (r + 1))), some (.int (nI (fl01 (SM (hoS n e c (pmE n r)) n)))), some (.int (nI n)), none] : AL)) (show (SM (wyF n c e) r) + 1 = SM (wyF n c e) (r + 1) by first | (rw [SM_s, wyF, h43]) | (rw [SM_s, wyF, show hoN n e c (pmE n r) = 0 from fl_1 c126]; rfl) | (rw [SM_s, wyF, show fl01 (hoN n e c (pmE n r)) = 0 from c126]))) ?_
            refine rr_dr (al1 := [some (.ref 146), some (.int (nI (FA n))), some (.int (nI (SM (wyF n c e) (r + 1)))), some (.int (nI (r + 1))), none, none, none]) (le_s (le_s (le_s (le_s (le_d rfl (le_d rfl (le_s (le_n)))))))) ?_
            exact ihr w23 (trivial)
        · omega
  · show RR _ _ 12 [some (.ref 146), some (.int (nI (FA n))), some (.int (nI (SM (wyF n c e) (FA n)))), some (.int (nI (FA n))), none, none, none] [] g (rf_u A 13 w_) _
    have hrr := FA_720 hn6
    refine rr_nx (pc' := 13) (al' := [some (.ref 146), some (.int (nI (FA n))), some (.int (nI (SM (wyF n c e) (FA n)))), some (.int (nI (FA n))), none, none, none]) (st' := [.int (nI (FA n))]) d_263_12 (fun _ => rfl) ?_
    refine rr_nx (pc' := 14) (al' := [some (.ref 146), some (.int (nI (FA n))), some (.int (nI (SM (wyF n c e) (FA n)))), some (.int (nI (FA n))), none, none, none]) (st' := [.int (nI (FA n)), .int (nI (FA n))]) d_263_13 (fun _ => rfl) ?_
    refine rn_cge (t := 142) d_263_14 (by decide) (by first | omega | assumption | exact cu_36 (by omega) (cu_lt (by omega) (by omega))) (by first | omega | assumption | exact cu_36 (by omega) (cu_lt (by omega) (by omega))) (fun c14 => ?_) (fun c14 => ?_)
    · refine rr_nx (pc' := 143) (al' := [some (.ref 146), some (.int (nI (FA n))), some (.int (nI (SM (wyF n c e) (FA n)))), some (.int (nI (FA n))), none, none, none]) (st' := [.int (nI (SM (wyF n c e) (FA n)))]) d_263_142 (fun _ => rfl) ?_
      exact rr_ri d_263_143 mr_263 rfl ⟨rfl, rfl, w_, rfl⟩
    · omega
theorem mn_st {s t m : Nat} (h : ¬ m < min s (m + 1)) : min s (m + 1) = s := by omega
theorem k_renamedApart {S : CS} {G : Nat → Nat → Value} {B : Nat → Nat → Int32} {J : Nat → Nat → Int64} {R : Nat → Nat → Option Nat} (hS : ShOk S) (hF : FxG G) {a n : Nat} (ht : TabAt S G a) (hn : G a 0 = .int (nI n)) {c : Nat → Nat} (hc : TabC B a n c) {b : Nat} {e : Nat → Nat} (hu : TabAt S G b) (hm : G b 0 = .int (nI n)) (he : TabC B b n e) {p : Nat → Nat} (hP : Per n p) (hp : ∀ k, k < n → B 136 k = nI (p k)) {m : Nat} (hmm : m < 1000) : CR 1 75 0 [some (.ref 133), some (.ref a), some (.ref b), some (.int (nI m)), none, none, none] [] S G B J R (cP (some (.int (nI (min (hoN n c e p) (m + 1))))) S G B J R) := by
  have hn6 := hc.1
  refine cn_ic (v := 0) d_75_0 (by decide) ?_
  refine cr_nx (pc' := 3) (al' := [some (.ref 133), some (.ref a), some (.ref b), some (.int (nI m)), some (.int (nI 0)), none, none]) (st' := []) d_75_1 (fun _ => rfl) ?_
  refine cn_ic (v := 0) d_75_3 (by decide) ?_
  refine cr_nx (pc' := 6) (al' := [some (.ref 133), some (.ref a), some (.ref b), some (.int (nI m)), some (.int (nI 0)), some (.int (nI 0)), none]) (st' := []) d_75_4 (fun _ => rfl) ?_
  refine cr_al (congrArg (fun z__ : Nat => ([some (.ref 133), some (.ref a), some (.ref b), some (.int (nI m)), some (.int (nI z__)), some (.int (nI 0)), none] : AL)) (show 0 = min (SM (hoS n c e p) 0) (m + 1) by show 0 = min 0 (m + 1); omega)) ?_
  refine cr_up (al := fun x => [some (.ref 133), some (.ref a), some (.ref b), some (.int (nI m)), some (.int (nI (min (SM (hoS n c e p) x) (m + 1)))), some (.int (nI x)), none]) (S := fun x => S) (G := fun x => G) (B := fun x => B) (J := fun x => J) (R := fun x => R) (P := fun x => True) (n := n) (fun x hx px ihx => ?_) (fun px => ?_) 0  (by omega) (trivial)
  · show CR _ _ 6 [some (.ref 133), some (.ref a), some (.ref b), some (.int (nI m)), some (.int (nI (min (SM (hoS n c e p) x) (m + 1)))), some (.int (nI x)), none] [] S G B J R _
    refine cr_nx (pc' := 8) (al' := [some (.ref 133), some (.ref a), some (.ref b), some (.int (nI m)), some (.int (nI (min (SM (hoS n c e p) x) (m + 1)))), some (.int (nI x)), none]) (st' := [.int (nI x)]) d_75_6 (fun _ => rfl) ?_
    refine cr_nx (pc' := 9) (al' := [some (.ref 133), some (.ref a), some (.ref b), some (.int (nI m)), some (.int (nI (min (SM (hoS n c e p) x) (m + 1)))), some (.int (nI x)), none]) (st' := [.ref a, .int (nI x)]) d_75_8 (fun _ => rfl) ?_
    refine cr_gf (v := .int (nI n)) d_75_9 cw_75 cf_8_34 ht.1 ht.2.2.1 (by decide) hn ?_
    refine cn_cge (t := 88) d_75_12 (by decide) (by first | omega | assumption | exact cu_36 (by omega) (cu_lt (by omega) (by omega))) (by first | omega | assumption | exact cu_36 (by omega) (cu_lt (by omega) (by omega))) (fun c12 => ?_) (fun c12 => ?_)
    · omega
    · refine cr_nx (pc' := 17) (al' := [some (.ref 133), some (.ref a), some (.ref b), some (.int (nI m)), some (.int (nI (min (SM (hoS n c e p) x) (m + 1)))), some (.int (nI x)), none]) (st' := [.int (nI (min (SM (hoS n c e p) x) (m + 1)))]) d_75_15 (fun _ => rfl) ?_
      refine cr_nx (pc' := 18) (al' := [some (.ref 133), some (.ref a), some (.ref b), some (.int (nI m)), some (.int (nI (min (SM (hoS n c e p) x) (m + 1)))), some (.int (nI x)), none]) (st' := [.int (nI m), .int (nI (min (SM (hoS n c e p) x) (m + 1)))]) d_75_17 (fun _ => rfl) ?_
      refine cn_cgt (t := 88) d_75_18 (by decide) (by first | omega | assumption | exact cu_36 (by omega) (cu_lt (by omega) (by omega))) (by first | omega | assumption | exact cu_36 (by omega) (cu_lt (by omega) (by omega))) (fun c18 => ?_) (fun c18 => ?_)
      · have h2 : SM (hoS n c e p) x ≤ hoN n c e p := SM_gr (by omega)
        refine cr_nx (pc' := 90) (al' := [some (.ref 133), some (.ref a), some (.ref b), some (.int (nI m)), some (.int (nI (min (SM (hoS n c e p) x) (m + 1)))), some (.int (nI x)), none]) (st' := [.int (nI (min (SM (hoS n c e p) x) (m + 1)))]) d_75_88 (fun _ => rfl) ?_
        exact cr_ri d_75_90 cx_75 rfl ⟨by rw [show min (SM (hoS n c e p) x) (m + 1) = min (hoN n c e p) (m + 1) by omega], rfl, rfl, rfl, rfl, rfl⟩
      · refine cn_ic (v := 0) d_75_21 (by decide) ?_
        refine cr_nx (pc' := 24) (al' := [some (.ref 133), some (.ref a), some (.ref b), some (.int (nI m)), some (.int (nI (min (SM (hoS n c e p) x) (m + 1)))), some (.int (nI x)), some (.int (nI 0))]) (st' := []) d_75_22 (fun _ => rfl) ?_
        refine cr_al (congrArg (fun z__ : Nat => ([some (.ref 133), some (.ref a), some (.ref b), some (.int (nI m)), some (.int (nI z__)), some (.int (nI x)), some (.int (nI 0))] : AL)) (show min (SM (hoS n c e p) x) (m + 1) = min (SM (hoS n c e p) x + SM (hoF n c e p x) 0) (m + 1) by rfl)) ?_
        refine cr_up (al := fun y => [some (.ref 133), some (.ref a), some (.ref b), some (.int (nI m)), some (.int (nI (min (SM (hoS n c e p) x + SM (hoF n c e p x) y) (m + 1)))), some (.int (nI x)), some (.int (nI y))]) (S := fun y => S) (G := fun y => G) (B := fun y => B) (J := fun y => J) (R := fun y => R) (P := fun y => True) (n := n) (fun y hy py ihy => ?_) (fun py => ?_) 0  (by omega) (trivial)
        · show CR _ _ 24 [some (.ref 133), some (.ref a), some (.ref b), some (.int (nI m)), some (.int (nI (min (SM (hoS n c e p) x + SM (hoF n c e p x) y) (m + 1)))), some (.int (nI x)), some (.int (nI y))] [] S G B J R _
          refine cr_nx (pc' := 26) (al' := [some (.ref 133), some (.ref a), some (.ref b), some (.int (nI m)), some (.int (nI (min (SM (hoS n c e p) x + SM (hoF n c e p x) y) (m + 1)))), some (.int (nI x)), some (.int (nI y))]) (st' := [.int (nI y)]) d_75_24 (fun _ => rfl) ?_
          refine cr_nx (pc' := 27) (al' := [some (.ref 133), some (.ref a), some (.ref b), some (.int (nI m)), some (.int (nI (min (SM (hoS n c e p) x + SM (hoF n c e p x) y) (m + 1)))), some (.int (nI x)), some (.int (nI y))]) (st' := [.ref a, .int (nI y)]) d_75_26 (fun _ => rfl) ?_
          refine cr_gf (v := .int (nI n)) d_75_27 cw_75 cf_8_34 ht.1 ht.2.2.1 (by decide) hn ?_
          refine cn_cge (t := 82) d_75_30 (by decide) (by first | omega | assumption | exact cu_36 (by omega) (cu_lt (by omega) (by omega))) (by first | omega | assumption | exact cu_36 (by omega) (cu_lt (by omega) (by omega))) (fun c30 => ?_) (fun c30 => ?_)
          · omega
          · refine cr_nx (pc' := 35) (al' := [some (.ref 133), some (.ref a), some (.ref b), some (.int (nI m)), some (.int (nI (min (SM (hoS n c e p) x + SM (hoF n c e p x) y) (m + 1)))), some (.int (nI x)), some (.int (nI y))]) (st' := [.int (nI (min (SM (hoS n c e p) x + SM (hoF n c e p x) y) (m + 1)))]) d_75_33 (fun _ => rfl) ?_
            refine cr_nx (pc' := 36) (al' := [some (.ref 133), some (.ref a), some (.ref b), some (.int (nI m)), some (.int (nI (min (SM (hoS n c e p) x + SM (hoF n c e p x) y) (m + 1)))), some (.int (nI x)), some (.int (nI y))]) (st' := [.int (nI m), .int (nI (min (SM (hoS n c e p) x + SM (hoF n c e p x) y) (m + 1)))]) d_75_35 (fun _ => rfl) ?_
            refine cn_cgt (t := 82) d_75_36 (by decide) (by first | omega | assumption | exact cu_36 (by omega) (cu_lt (by omega) (by omega))) (by first | omega | assumption | exact cu_36 (by omega) (cu_lt (by omega) (by omega))) (fun c36 => ?_) (fun c36 => ?_)
            · refine cn_inc d_75_82 rfl rfl ?_
              show CR _ _ 85 [some (.ref 133), some (.ref a), some (.ref b), some (.int (nI m)), some (.int (nI (min (SM (hoS n c e p) x + SM (hoF n c e p x) y) (m + 1)))), some (.int (nI (x + 1))), some (.int (nI y))] [] S G B J R _
              refine cr_nx (pc' := 6) (al' := [some (.ref 133), some (.ref a), some (.ref b), some (.int (nI m)), some (.int (nI (min (SM (hoS n c e p) x + SM (hoF n c e p x) y) (m + 1)))), some (.int (nI (x + 1))), some (.int (nI y))]) (st' := []) d_75_85 (fun _ => rfl) ?_
              refine cr_al (congrArg (fun z__ : Nat => ([some (.ref 133), some (.ref a), some (.ref b), some (.int (nI m)), some (.int (nI z__)), some (.int (nI (x + 1))), some (.int (nI y))] : AL)) (show min (SM (hoS n c e p) x + SM (hoF n c e p x) y) (m + 1) = min (SM (hoS n c e p) (x + 1)) (m + 1) by rw [SM_s]; first | rfl | (have h2 : SM (hoF n c e p x) y ≤ hoS n c e p x := SM_gr (by omega); omega))) ?_
              refine cr_dr (al1 := [some (.ref 133), some (.ref a), some (.ref b), some (.int (nI m)), some (.int (nI (min (SM (hoS n c e p) (x + 1)) (m + 1)))), some (.int (nI (x + 1))), none]) (le_s (le_s (le_s (le_s (le_s (le_s (le_d rfl (le_n)))))))) ?_
              exact ihx  (trivial)
            · refine cr_nx (pc' := 40) (al' := [some (.ref 133), some (.ref a), some (.ref b), some (.int (nI m)), some (.int (nI (min (SM (hoS n c e p) x + SM (hoF n c e p x) y) (m + 1)))), some (.int (nI x)), some (.int (nI y))]) (st' := [.ref 133]) d_75_39 (fun _ => rfl) ?_
              refine cr_gf (v := .ref 136) d_75_40 cw_75 cf_8_18 (hS.i (a := 133) (by decide) (by decide)) (hS.s (a := 133) (by decide) (by decide) rfl) (by decide) (fx_133_3 hF) ?_
              refine cr_nx (pc' := 44) (al' := [some (.ref 133), some (.ref a), some (.ref b), some (.int (nI m)), some (.int (nI (min (SM (hoS n c e p) x + SM (hoF n c e p x) y) (m + 1)))), some (.int (nI x)), some (.int (nI y))]) (st' := [.ref a, .ref 136]) d_75_43 (fun _ => rfl) ?_
              refine cr_nx (pc' := 46) (al' := [some (.ref 133), some (.ref a), some (.ref b), some (.int (nI m)), some (.int (nI (min (SM (hoS n c e p) x + SM (hoF n c e p x) y) (m + 1)))), some (.int (nI x)), some (.int (nI y))]) (st' := [.int (nI x), .ref a, .ref 136]) d_75_44 (fun _ => rfl) ?_
              refine cr_nx (pc' := 48) (al' := [some (.ref 133), some (.ref a), some (.ref b), some (.int (nI m)), some (.int (nI (min (SM (hoS n c e p) x + SM (hoF n c e p x) y) (m + 1)))), some (.int (nI x)), some (.int (nI y))]) (st' := [.int (nI y), .int (nI x), .ref a, .ref 136]) d_75_46 (fun _ => rfl) ?_
              refine cr_pv (b := a) (as := [.int (nI x), .int (nI y)]) (al0 := [some (.ref a), some (.int (nI x)), some (.int (nI y))]) (r := [.ref 136]) d_75_48 cw_75 cm_8_42 cz_91 rfl rfl ht.1 (by rw [cw_91]; exact ht.2.2.1) (by rw [cw_91]; decide) rfl (Nat.le_of_ble_eq_true rfl) (k_times ht hn hc (by omega) (by omega)) ?_
              show CR _ _ 51 [some (.ref 133), some (.ref a), some (.ref b), some (.int (nI m)), some (.int (nI (min (SM (hoS n c e p) x + SM (hoF n c e p x) y) (m + 1)))), some (.int (nI x)), some (.int (nI y))] [.int (nI (c (n * x + y))), .ref 136] S G B J R _
              have b48 : c (n * x + y) < n := (hc.2 _ (cu_lt (by omega) (by omega))).2
              refine cr_ia (a := 136) (v := (nI (p (c (n * x + y))))) d_75_51 (hS.i (a := 136) (by decide) (by decide)) (hS.s (a := 136) (by decide) (by decide) rfl) (by first | decide | omega) (show c (n * x + y) < 6 by first | omega | assumption | exact cu_36 (by omega) (cu_lt (by omega) (by omega))) (hp _ b48) ?_
              refine cr_nx (pc' := 53) (al' := [some (.ref 133), some (.ref a), some (.ref b), some (.int (nI m)), some (.int (nI (min (SM (hoS n c e p) x + SM (hoF n c e p x) y) (m + 1)))), some (.int (nI x)), some (.int (nI y))]) (st' := [.ref b, .int (nI (p (c (n * x + y))))]) d_75_52 (fun _ => rfl) ?_
              refine cr_nx (pc' := 54) (al' := [some (.ref 133), some (.ref a), some (.ref b), some (.int (nI m)), some (.int (nI (min (SM (hoS n c e p) x + SM (hoF n c e p x) y) (m + 1)))), some (.int (nI x)), some (.int (nI y))]) (st' := [.ref 133, .ref b, .int (nI (p (c (n * x + y))))]) d_75_53 (fun _ => rfl) ?_
              refine cr_gf (v := .ref 136) d_75_54 cw_75 cf_8_18 (hS.i (a := 133) (by decide) (by decide)) (hS.s (a := 133) (by decide) (by decide) rfl) (by decide) (fx_133_3 hF) ?_
              refine cr_nx (pc' := 59) (al' := [some (.ref 133), some (.ref a), some (.ref b), some (.int (nI m)), some (.int (nI (min (SM (hoS n c e p) x + SM (hoF n c e p x) y) (m + 1)))), some (.int (nI x)), some (.int (nI y))]) (st' := [.int (nI x), .ref 136, .ref b, .int (nI (p (c (n * x + y))))]) d_75_57 (fun _ => rfl) ?_
              refine cr_ia (a := 136) (v := (nI (p x))) d_75_59 (hS.i (a := 136) (by decide) (by decide)) (hS.s (a := 136) (by decide) (by decide) rfl) (by first | decide | omega) (show x < 6 by first | omega | assumption | exact cu_36 (by omega) (cu_lt (by omega) (by omega))) (hp x hx) ?_
              refine cr_nx (pc' := 61) (al' := [some (.ref 133), some (.ref a), some (.ref b), some (.int (nI m)), some (.int (nI (min (SM (hoS n c e p) x + SM (hoF n c e p x) y) (m + 1)))), some (.int (nI x)), some (.int (nI y))]) (st' := [.ref 133, .int (nI (p x)), .ref b, .int (nI (p (c (n * x + y))))]) d_75_60 (fun _ => rfl) ?_
              refine cr_gf (v := .ref 136) d_75_61 cw_75 cf_8_18 (hS.i (a := 133) (by decide) (by decide)) (hS.s (a := 133) (by decide) (by decide) rfl) (by decide) (fx_133_3 hF) ?_
              refine cr_nx (pc' := 66) (al' := [some (.ref 133), some (.ref a), some (.ref b), some (.int (nI m)), some (.int (nI (min (SM (hoS n c e p) x + SM (hoF n c e p x) y) (m + 1)))), some (.int (nI x)), some (.int (nI y))]) (st' := [.int (nI y), .ref 136, .int (nI (p x)), .ref b, .int (nI (p (c (n * x + y))))]) d_75_64 (fun _ => rfl) ?_
              refine cr_ia (a := 136) (v := (nI (p y))) d_75_66 (hS.i (a := 136) (by decide) (by decide)) (hS.s (a := 136) (by decide) (by decide) rfl) (by first | decide | omega) (show y < 6 by first | omega | assumption | exact cu_36 (by omega) (cu_lt (by omega) (by omega))) (hp y hy) ?_
              refine cr_pv (b := b) (as := [.int (nI (p x)), .int (nI (p y))]) (al0 := [some (.ref b), some (.int (nI (p x))), some (.int (nI (p y)))]) (r := [.int (nI (p (c (n * x + y))))]) d_75_67 cw_75 cm_8_42 cz_91 rfl rfl hu.1 (by rw [cw_91]; exact hu.2.2.1) (by rw [cw_91]; decide) rfl (Nat.le_of_ble_eq_true rfl) (k_times hu hm he (hP.1 x hx) (hP.1 y hy)) ?_
              show CR _ _ 70 [some (.ref 133), some (.ref a), some (.ref b), some (.int (nI m)), some (.int (nI (min (SM (hoS n c e p) x + SM (hoF n c e p x) y) (m + 1)))), some (.int (nI x)), some (.int (nI y))] [.int (nI (e (n * (p x) + (p y)))), .int (nI (p (c (n * x + y))))] S G B J R _
              have b67 : e (n * (p x) + (p y)) < n := (he.2 _ (cu_lt (hP.1 x hx) (hP.1 y hy))).2
              refine cn_ceq (t := 76) d_75_70 (by decide) (by have := hP.1 _ b48; omega) (by omega) (fun c70 => ?_) (fun c70 => ?_)
              · refine cn_inc d_75_76 rfl rfl ?_
                show CR _ _ 79 [some (.ref 133), some (.ref a), some (.ref b), some (.int (nI m)), some (.int (nI (min (SM (hoS n c e p) x + SM (hoF n c e p x) y) (m + 1)))), some (.int (nI x)), some (.int (nI (y + 1)))] [] S G B J R _
                refine cr_nx (pc' := 24) (al' := [some (.ref 133), some (.ref a), some (.ref b), some (.int (nI m)), some (.int (nI (min (SM (hoS n c e p) x + SM (hoF n c e p x) y) (m + 1)))), some (.int (nI x)), some (.int (nI (y + 1)))]) (st' := []) d_75_79 (fun _ => rfl) ?_
                refine cr_al (congrArg (fun z__ : Nat => ([some (.ref 133), some (.ref a), some (.ref b), some (.int (nI m)), some (.int (nI z__)), some (.int (nI x)), some (.int (nI (y + 1)))] : AL)) (show min (SM (hoS n c e p) x + SM (hoF n c e p x) y) (m + 1) = min (SM (hoS n c e p) x + SM (hoF n c e p x) (y + 1)) (m + 1) by first | (rw [SM_s, hoF, if_pos c70]; omega) | (rw [SM_s, hoF, if_neg c70]; omega))) ?_
                exact ihy  (trivial)
              · refine cn_inc d_75_73 rfl rfl ?_
                show CR _ _ 76 [some (.ref 133), some (.ref a), some (.ref b), some (.int (nI m)), some (.int (nI ((min (SM (hoS n c e p) x + SM (hoF n c e p x) y) (m + 1)) + 1))), some (.int (nI x)), some (.int (nI y))] [] S G B J R _
                refine cn_inc d_75_76 rfl rfl ?_
                show CR _ _ 79 [some (.ref 133), some (.ref a), some (.ref b), some (.int (nI m)), some (.int (nI ((min (SM (hoS n c e p) x + SM (hoF n c e p x) y) (m + 1)) + 1))), some (.int (nI x)), some (.int (nI (y + 1)))] [] S G B J R _
                refine cr_nx (pc' := 24) (al' := [some (.ref 133), some (.ref a), some (.ref b), some (.int (nI m)), some (.int (nI ((min (SM (hoS n c e p) x + SM (hoF n c e p x) y) (m + 1)) + 1))), some (.int (nI x)), some (.int (nI (y + 1)))]) (st' := []) d_75_79 (fun _ => rfl) ?_
                refine cr_al (congrArg (fun z__ : Nat => ([some (.ref 133), some (.ref a), some (.ref b), some (.int (nI m)), some (.int (nI z__)), some (.int (nI x)), some (.int (nI (y + 1)))] : AL)) (show (min (SM (hoS n c e p) x + SM (hoF n c e p x) y) (m + 1)) + 1 = min (SM (hoS n c e p) x + SM (hoF n c e p x) (y + 1)) (m + 1) by first | (rw [SM_s, hoF, if_pos c70]; omega) | (rw [SM_s, hoF, if_neg c70]; omega))) ?_
                exact ihy  (trivial)
        · show CR _ _ 24 [some (.ref 133), some (.ref a), some (.ref b), some (.int (nI m)), some (.int (nI (min (SM (hoS n c e p) x + SM (hoF n c e p x) n) (m + 1)))), some (.int (nI x)), some (.int (nI n))] [] S G B J R _
          refine cr_nx (pc' := 26) (al' := [some (.ref 133), some (.ref a), some (.ref b), some (.int (nI m)), some (.int (nI (min (SM (hoS n c e p) x + SM (hoF n c e p x) n) (m + 1)))), some (.int (nI x)), some (.int (nI n))]) (st' := [.int (nI n)]) d_75_24 (fun _ => rfl) ?_
          refine cr_nx (pc' := 27) (al' := [some (.ref 133), some (.ref a), some (.ref b), some (.int (nI m)), some (.int (nI (min (SM (hoS n c e p) x + SM (hoF n c e p x) n) (m + 1)))), some (.int (nI x)), some (.int (nI n))]) (st' := [.ref a, .int (nI n)]) d_75_26 (fun _ => rfl) ?_
          refine cr_gf (v := .int (nI n)) d_75_27 cw_75 cf_8_34 ht.1 ht.2.2.1 (by decide) hn ?_
          refine cn_cge (t := 82) d_75_30 (by decide) (by first | omega | assumption | exact cu_36 (by omega) (cu_lt (by omega) (by omega))) (by first | omega | assumption | exact cu_36 (by omega) (cu_lt (by omega) (by omega))) (fun c30 => ?_) (fun c30 => ?_)
          · refine cn_inc d_75_82 rfl rfl ?_
            show CR _ _ 85 [some (.ref 133), some (.ref a), some (.ref b), some (.int (nI m)), some (.int (nI (min (SM (hoS n c e p) x + SM (hoF n c e p x) n) (m + 1)))), some (.int (nI (x + 1))), some (.int (nI n))] [] S G B J R _
            refine cr_nx (pc' := 6) (al' := [some (.ref 133), some (.ref a), some (.ref b), some (.int (nI m)), some (.int (nI (min (SM (hoS n c e p) x + SM (hoF n c e p x) n) (m + 1)))), some (.int (nI (x + 1))), some (.int (nI n))]) (st' := []) d_75_85 (fun _ => rfl) ?_
            refine cr_al (congrArg (fun z__ : Nat => ([some (.ref 133), some (.ref a), some (.ref b), some (.int (nI m)), some (.int (nI z__)), some (.int (nI (x + 1))), some (.int (nI n))] : AL)) (show min (SM (hoS n c e p) x + SM (hoF n c e p x) n) (m + 1) = min (SM (hoS n c e p) (x + 1)) (m + 1) by rw [SM_s]; first | rfl | (have h2 : SM (hoF n c e p x) y ≤ hoS n c e p x := SM_gr (by omega); omega))) ?_
            refine cr_dr (al1 := [some (.ref 133), some (.ref a), some (.ref b), some (.int (nI m)), some (.int (nI (min (SM (hoS n c e p) (x + 1)) (m + 1)))), some (.int (nI (x + 1))), none]) (le_s (le_s (le_s (le_s (le_s (le_s (le_d rfl (le_n)))))))) ?_
            exact ihx  (trivial)
          · omega
  · show CR _ _ 6 [some (.ref 133), some (.ref a), some (.ref b), some (.int (nI m)), some (.int (nI (min (SM (hoS n c e p) n) (m + 1)))), some (.int (nI n)), none] [] S G B J R _
    refine cr_nx (pc' := 8) (al' := [some (.ref 133), some (.ref a), some (.ref b), some (.int (nI m)), some (.int (nI (min (SM (hoS n c e p) n) (m + 1)))), some (.int (nI n)), none]) (st' := [.int (nI n)]) d_75_6 (fun _ => rfl) ?_
    refine cr_nx (pc' := 9) (al' := [some (.ref 133), some (.ref a), some (.ref b), some (.int (nI m)), some (.int (nI (min (SM (hoS n c e p) n) (m + 1)))), some (.int (nI n)), none]) (st' := [.ref a, .int (nI n)]) d_75_8 (fun _ => rfl) ?_
    refine cr_gf (v := .int (nI n)) d_75_9 cw_75 cf_8_34 ht.1 ht.2.2.1 (by decide) hn ?_
    refine cn_cge (t := 88) d_75_12 (by decide) (by first | omega | assumption | exact cu_36 (by omega) (cu_lt (by omega) (by omega))) (by first | omega | assumption | exact cu_36 (by omega) (cu_lt (by omega) (by omega))) (fun c12 => ?_) (fun c12 => ?_)
    · refine cr_nx (pc' := 90) (al' := [some (.ref 133), some (.ref a), some (.ref b), some (.int (nI m)), some (.int (nI (min (SM (hoS n c e p) n) (m + 1)))), some (.int (nI n)), none]) (st' := [.int (nI (min (SM (hoS n c e p) n) (m + 1)))]) d_75_88 (fun _ => rfl) ?_
      exact cr_ri d_75_90 cx_75 rfl ⟨rfl, rfl, rfl, rfl, rfl, rfl⟩
    · omega
/-- automorphisms -/
def auF (n : Nat) (c : Nat → Nat) (r : Nat) : Nat := fl01 (hoN n c c (pmE n r))
def auN (n : Nat) (c : Nat → Nat) : Nat := SM (auF n c) (FA n)
theorem au_wy {n : Nat} {c : Nat → Nat} : auN n c = wyN n c c := rfl
theorem auN_le {n : Nat} {c : Nat → Nat} : auN n c ≤ FA n := SM_1 (fun i => fl_le _)
/-- the next one -/
theorem nx_w {n r : Nat} {w : Nat → Int32} (hn : n ≤ 6) (h : ∀ q, q < n → w q = nI (nxP 0 n (pmE n r) q)) : r + 1 < FA n → ∀ q, q < n → w q = nI (pmE n (r + 1) q) := fun hr q hq => by rw [h q hq, nx_pm hn hr hq]
theorem pm_31 {n r : Nat} (hn : n ≤ 6) (hr : r < FA n) : ∀ q, q < n → pmE n r q < 2 ^ 31 := fun q hq => by have := (pm_per hn hr).1 q hq; omega
theorem k_automorphisms {S : CS} {G : Nat → Nat → Value} {B : Nat → Nat → Int32} {J : Nat → Nat → Int64} {R : Nat → Nat → Option Nat} (hS : ShOk S) (hF : FxG G) {a n : Nat} (ht : TabAt S G a) (hn : G a 0 = .int (nI n)) {c : Nat → Nat} (hc : TabC B a n c) (hn1 : 1 ≤ n) (hap : a + 1 ≠ 136) : CR 2 74 0 [some (.ref 133), some (.ref a), none, none] [] S G B J R (fun r_ S' G' B' J' R' => r_ = some (.int (nI (auN n c))) ∧ S' = S ∧ G' = G ∧ J' = J ∧ R' = R ∧ ∃ w, B' = upr B 136 w) := by
  have hn6 := hc.1
  have hrr := FA_720 hn6
  refine cn_ic (v := 0) d_74_0 (by decide) ?_
  refine cr_nx (pc' := 2) (al' := [some (.ref 133), some (.ref a), some (.int (nI 0)), none]) (st' := []) d_74_1 (fun _ => rfl) ?_
  refine cr_nx (pc' := 3) (al' := [some (.ref 133), some (.ref a), some (.int (nI 0)), none]) (st' := [.ref 133]) d_74_2 (fun _ => rfl) ?_
  refine cr_gf (v := .ref 136) d_74_3 cw_74 cf_8_18 (hS.i (a := 133) (by decide) (by decide)) (hS.s (a := 133) (by decide) (by decide) rfl) (by decide) (fx_133_3 hF) ?_
  refine cr_cs (as := [.ref 136]) (al0 := [some (.ref 136), none]) (r := []) d_74_6 cw_74 cm_8_50 (by decide) cz_154 rfl rfl rfl (cr_wk (Nat.le_of_ble_eq_true rfl) (k_startPermutation (hS.i (a := 136) (by decide) (by decide)) (hS.s (a := 136) (by decide) (by decide) rfl) (by decide))) (fun v1 S1 G1 B1 J1 R1 h1 => ?_)
  obtain ⟨q0_, q1_, q2_, q3_, q4_, w6, q9_, hw6⟩ := h1
  obtain rfl := q0_
  obtain rfl := q1_.symm
  obtain rfl := q2_.symm
  obtain rfl := q3_.symm
  obtain rfl := q4_.symm
  obtain rfl := q9_
  show CR _ _ 9 [some (.ref 133), some (.ref a), some (.int (nI 0)), none] [] S G (upr B 136 w6) J R _
  refine cn_ic (v := 0) d_74_9 (by decide) ?_
  refine cr_nx (pc' := 11) (al' := [some (.ref 133), some (.ref a), some (.int (nI 0)), some (.int (nI 0))]) (st' := []) d_74_10 (fun _ => rfl) ?_
  refine cr_al (congrArg (fun z__ : Nat => ([some (.ref 133), some (.ref a), some (.int (nI z__)), some (.int (nI 0))] : AL)) (show 0 = SM (auF n c) 0 by rfl)) ?_
  refine cr_upw (al := fun r w_ => [some (.ref 133), some (.ref a), some (.int (nI (SM (auF n c) r))), some (.int (nI r))]) (S := fun r w_ => S) (G := fun r w_ => G) (B := fun r w_ => (upr B 136 w_)) (J := fun r w_ => J) (R := fun r w_ => R) (P := fun r w_ => (r < FA n → ∀ q, q < n → w_ q = nI (pmE n r q))) (n := FA n) (fun r w_ hr pr ihr => ?_) (fun w_ pr => ?_) 0 w6 (by omega) (fun _ q hq => by rw [hw6 q (by omega), pm_id hn6 hq])
  · show CR _ _ 11 [some (.ref 133), some (.ref a), some (.int (nI (SM (auF n c) r))), some (.int (nI r))] [] S G (upr B 136 w_) J R _
    have hP := pm_per hn6 hr
    refine cr_nx (pc' := 12) (al' := [some (.ref 133), some (.ref a), some (.int (nI (SM (auF n c) r))), some (.int (nI r))]) (st' := [.int (nI r)]) d_74_11 (fun _ => rfl) ?_
    refine cr_gs d_74_12 cw_74 cq_8_54 ?_
    refine cr_nx (pc' := 16) (al' := [some (.ref 133), some (.ref a), some (.int (nI (SM (auF n c) r))), some (.int (nI r))]) (st' := [.ref a, .ref 0, .int (nI r)]) d_74_15 (fun _ => rfl) ?_
    refine cr_gf (v := .int (nI n)) d_74_16 cw_74 cf_8_34 ht.1 ht.2.2.1 (by decide) hn ?_
    refine cr_fa (v := (nI (FA n))) d_74_19 (show n < 7 by first | omega | assumption | exact cu_36 (by omega) (cu_lt (by omega) (by omega))) (am_fcN (by first | omega | assumption | exact cu_36 (by omega) (cu_lt (by omega) (by omega)))) ?_
    refine cn_cge (t := 54) d_74_20 (by decide) (by first | omega | assumption | exact cu_36 (by omega) (cu_lt (by omega) (by omega))) (by first | omega | assumption | exact cu_36 (by omega) (cu_lt (by omega) (by omega))) (fun c20 => ?_) (fun c20 => ?_)
    · omega
    · refine cr_nx (pc' := 24) (al' := [some (.ref 133), some (.ref a), some (.int (nI (SM (auF n c) r))), some (.int (nI r))]) (st' := [.ref 133]) d_74_23 (fun _ => rfl) ?_
      refine cr_nx (pc' := 25) (al' := [some (.ref 133), some (.ref a), some (.int (nI (SM (auF n c) r))), some (.int (nI r))]) (st' := [.ref a, .ref 133]) d_74_24 (fun _ => rfl) ?_
      refine cr_nx (pc' := 26) (al' := [some (.ref 133), some (.ref a), some (.int (nI (SM (auF n c) r))), some (.int (nI r))]) (st' := [.ref a, .ref a, .ref 133]) d_74_25 (fun _ => rfl) ?_
      refine cn_ic (v := 0) d_74_26 (by decide) ?_
      refine cr_pv (b := 133) (as := [.ref a, .ref a, .int (nI 0)]) (al0 := [some (.ref 133), some (.ref a), some (.ref a), some (.int (nI 0)), none, none, none]) (r := []) d_74_27 cw_74 cm_8_57 cz_75 rfl rfl (hS.i (a := 133) (by decide) (by decide)) (by rw [cw_75]; exact (hS.s (a := 133) (by decide) (by decide) rfl)) (by rw [cw_75]; decide) rfl (Nat.le_of_ble_eq_true rfl) (k_renamedApart hS hF ht hn (TabC.u1 hap hc) ht hn (TabC.u1 hap hc) hP (fun q hq => by rw [upr_s]; exact pr hr q hq) (by omega)) ?_
      show CR _ _ 30 [some (.ref 133), some (.ref a), some (.int (nI (SM (auF n c) r))), some (.int (nI r))] [.int (nI (min (hoN n c c (pmE n r)) (0 + 1)))] S G (upr B 136 w_) J R _
      refine cn_ine (t := 36) d_74_30 (by decide) (by first | omega | assumption | exact cu_36 (by omega) (cu_lt (by omega) (by omega))) (fun c30 => ?_) (fun c30 => ?_)
      · refine cr_nx (pc' := 37) (al' := [some (.ref 133), some (.ref a), some (.int (nI (SM (auF n c) r))), some (.int (nI r))]) (st' := [.ref 133]) d_74_36 (fun _ => rfl) ?_
        refine cr_gf (v := .ref 136) d_74_37 cw_74 cf_8_18 (hS.i (a := 133) (by decide) (by decide)) (hS.s (a := 133) (by decide) (by decide) rfl) (by decide) (fx_133_3 hF) ?_
        refine cn_ic (v := 0) d_74_40 (by decide) ?_
        refine cr_nx (pc' := 42) (al' := [some (.ref 133), some (.ref a), some (.int (nI (SM (auF n c) r))), some (.int (nI r))]) (st' := [.ref a, .int (nI 0), .ref 136]) d_74_41 (fun _ => rfl) ?_
        refine cr_gf (v := .int (nI n)) d_74_42 cw_74 cf_8_34 ht.1 ht.2.2.1 (by decide) hn ?_
        refine cr_cs (as := [.ref 136, .int (nI 0), .int (nI n)]) (al0 := [some (.ref 136), some (.int (nI 0)), some (.int (nI n)), none, none, none]) (r := []) d_74_45 cw_74 cm_8_61 (by decide) cz_157 rfl rfl rfl (cr_wk (Nat.le_of_ble_eq_true rfl) (k_permuteOn (f := pmE n r) (hS.i (a := 136) (by decide) (by decide)) (hS.s (a := 136) (by decide) (by decide) rfl) (by decide) (by omega) (by omega) (by omega) (pm_31 hn6 hr) (fun q hq => by rw [upr_s]; exact pr hr q hq))) (fun v1 S1 G1 B1 J1 R1 h1 => ?_)
        obtain ⟨q0_, q1_, q2_, q3_, q4_, w45, q9_, hw45⟩ := h1
        obtain rfl := q0_
        obtain rfl := q1_.symm
        obtain rfl := q2_.symm
        obtain rfl := q3_.symm
        obtain rfl := q4_.symm
        obtain rfl := q9_
        rw [upr_u]
        show CR _ _ 48 [some (.ref 133), some (.ref a), some (.int (nI (SM (auF n c) r))), some (.int (nI r))] [] S G (upr B 136 w45) J R _
        refine cn_inc d_74_48 rfl rfl ?_
        show CR _ _ 51 [some (.ref 133), some (.ref a), some (.int (nI (SM (auF n c) r))), some (.int (nI (r + 1)))] [] S G (upr B 136 w45) J R _
        refine cr_nx (pc' := 11) (al' := [some (.ref 133), some (.ref a), some (.int (nI (SM (auF n c) r))), some (.int (nI (r + 1)))]) (st' := []) d_74_51 (fun _ => rfl) ?_
        refine cr_al (congrArg (fun z__ : Nat => ([some (.ref 133), some (.ref a), some (.int (nI z__)), some (.int (nI (r + 1)))] : AL)) (show SM (auF n c) r = SM (auF n c) (r + 1) by first | (rw [SM_s, auF, show hoN n c c (pmE n r) = 0 by omega]; rfl) | (rw [SM_s, auF, fl_p (by omega)]; rfl))) ?_
        exact ihr w45 (nx_w hn6 hw45)
      · refine cn_inc d_74_33 rfl rfl ?_
        show CR _ _ 36 [some (.ref 133), some (.ref a), some (.int (nI ((SM (auF n c) r) + 1))), some (.int (nI r))] [] S G (upr B 136 w_) J R _
        refine cr_nx (pc' := 37) (al' := [some (.ref 133), some (.ref a), some (.int (nI ((SM (auF n c) r) + 1))), some (.int (nI r))]) (st' := [.ref 133]) d_74_36 (fun _ => rfl) ?_
        refine cr_gf (v := .ref 136) d_74_37 cw_74 cf_8_18 (hS.i (a := 133) (by decide) (by decide)) (hS.s (a := 133) (by decide) (by decide) rfl) (by decide) (fx_133_3 hF) ?_
        refine cn_ic (v := 0) d_74_40 (by decide) ?_
        refine cr_nx (pc' := 42) (al' := [some (.ref 133), some (.ref a), some (.int (nI ((SM (auF n c) r) + 1))), some (.int (nI r))]) (st' := [.ref a, .int (nI 0), .ref 136]) d_74_41 (fun _ => rfl) ?_
        refine cr_gf (v := .int (nI n)) d_74_42 cw_74 cf_8_34 ht.1 ht.2.2.1 (by decide) hn ?_
        refine cr_cs (as := [.ref 136, .int (nI 0), .int (nI n)]) (al0 := [some (.ref 136), some (.int (nI 0)), some (.int (nI n)), none, none, none]) (r := []) d_74_45 cw_74 cm_8_61 (by decide) cz_157 rfl rfl rfl (cr_wk (Nat.le_of_ble_eq_true rfl) (k_permuteOn (f := pmE n r) (hS.i (a := 136) (by decide) (by decide)) (hS.s (a := 136) (by decide) (by decide) rfl) (by decide) (by omega) (by omega) (by omega) (pm_31 hn6 hr) (fun q hq => by rw [upr_s]; exact pr hr q hq))) (fun v1 S1 G1 B1 J1 R1 h1 => ?_)
        obtain ⟨q0_, q1_, q2_, q3_, q4_, w45, q9_, hw45⟩ := h1
        obtain rfl := q0_
        obtain rfl := q1_.symm
        obtain rfl := q2_.symm
        obtain rfl := q3_.symm
        obtain rfl := q4_.symm
        obtain rfl := q9_
        rw [upr_u]
        show CR _ _ 48 [some (.ref 133), some (.ref a), some (.int (nI ((SM (auF n c) r) + 1))), some (.int (nI r))] [] S G (upr B 136 w45) J R _
        refine cn_inc d_74_48 rfl rfl ?_
        show CR _ _ 51 [some (.ref 133), some (.ref a), some (.int (nI ((SM (auF n c) r) + 1))), some (.int (nI (r + 1)))] [] S G (upr B 136 w45) J R _
        refine cr_nx (pc' := 11) (al' := [some (.ref 133), some (.ref a), some (.int (nI ((SM (auF n c) r) + 1))), some (.int (nI (r + 1)))]) (st' := []) d_74_51 (fun _ => rfl) ?_
        refine cr_al (congrArg (fun z__ : Nat => ([some (.ref 133), some (.ref a), some (.int (nI z__)), some (.int (nI (r + 1)))] : AL)) (show (SM (auF n c) r) + 1 = SM (auF n c) (r + 1) by first | (rw [SM_s, auF, show hoN n c c (pmE n r) = 0 by omega]; rfl) | (rw [SM_s, auF, fl_p (by omega)]; rfl))) ?_
        exact ihr w45 (nx_w hn6 hw45)
  · show CR _ _ 11 [some (.ref 133), some (.ref a), some (.int (nI (SM (auF n c) (FA n)))), some (.int (nI (FA n)))] [] S G (upr B 136 w_) J R _
    refine cr_nx (pc' := 12) (al' := [some (.ref 133), some (.ref a), some (.int (nI (SM (auF n c) (FA n)))), some (.int (nI (FA n)))]) (st' := [.int (nI (FA n))]) d_74_11 (fun _ => rfl) ?_
    refine cr_gs d_74_12 cw_74 cq_8_54 ?_
    refine cr_nx (pc' := 16) (al' := [some (.ref 133), some (.ref a), some (.int (nI (SM (auF n c) (FA n)))), some (.int (nI (FA n)))]) (st' := [.ref a, .ref 0, .int (nI (FA n))]) d_74_15 (fun _ => rfl) ?_
    refine cr_gf (v := .int (nI n)) d_74_16 cw_74 cf_8_34 ht.1 ht.2.2.1 (by decide) hn ?_
    refine cr_fa (v := (nI (FA n))) d_74_19 (show n < 7 by first | omega | assumption | exact cu_36 (by omega) (cu_lt (by omega) (by omega))) (am_fcN (by first | omega | assumption | exact cu_36 (by omega) (cu_lt (by omega) (by omega)))) ?_
    refine cn_cge (t := 54) d_74_20 (by decide) (by first | omega | assumption | exact cu_36 (by omega) (cu_lt (by omega) (by omega))) (by first | omega | assumption | exact cu_36 (by omega) (cu_lt (by omega) (by omega))) (fun c20 => ?_) (fun c20 => ?_)
    · refine cr_nx (pc' := 55) (al' := [some (.ref 133), some (.ref a), some (.int (nI (SM (auF n c) (FA n)))), some (.int (nI (FA n)))]) (st' := [.int (nI (SM (auF n c) (FA n)))]) d_74_54 (fun _ => rfl) ?_
      exact cr_ri d_74_55 cx_74 rfl ⟨rfl, rfl, rfl, rfl, rfl, w_, rfl⟩
    · omega
/-- the third permutation, the second one that p and an image leave -/
def gaN (n : Nat) (c p : Nat → Nat) (i v : Nat) : Nat := c (n * p (ovrI n c v 0) + i)
def beN (n : Nat) (c p : Nat → Nat) (i y : Nat) : Nat := undI n c (p 0) (gaN n c p i (c (n * 0 + y)))
abbrev atB (n : Nat) (c p : Nat → Nat) (i : Nat) : Prop := ∀ x, x < n → ∀ y, y < n → gaN n c p i (c (n * x + y)) = c (n * p x + beN n c p i y)
theorem ga_lt {n : Nat} {c p : Nat → Nat} {i v : Nat} (hl : Lat n c) (hP : Per n p) (hi : i < n) (hv : v < n) : gaN n c p i v < n := hl.b (hP.1 _ (hl.o (by omega) hv).1) hi
theorem be_lt {n : Nat} {c p : Nat → Nat} {i y : Nat} (hl : Lat n c) (hP : Per n p) (hi : i < n) (hy : y < n) : beN n c p i y < n := (hl.u (hP.1 0 (by omega)) (ga_lt hl hP hi (hl.b (by omega) hy))).1
theorem ga_0 {n : Nat} {c p : Nat → Nat} {i x : Nat} (hl : Lat n c) (hx : x < n) : gaN n c p i (c (n * x + 0)) = c (n * p x + i) := by
  unfold gaN
  rw [hl.oc hx (by omega)]
/-- a 0 row and a 0 column are always so -/
theorem at_1 {n : Nat} {c p : Nat → Nat} {i : Nat} (hl : Lat n c) (hP : Per n p) (hi : i < n) (h : ∀ x, x < n → 1 ≤ x → ∀ y, y < n → 1 ≤ y → gaN n c p i (c (n * x + y)) = c (n * p x + beN n c p i y)) : atB n c p i := by
  have h0 : ∀ y, y < n → gaN n c p i (c (n * 0 + y)) = c (n * p 0 + beN n c p i y) := fun y hy => (hl.u (hP.1 0 (by omega)) (ga_lt hl hP hi (hl.b (by omega) hy))).2.symm
  have hb0 : beN n c p i 0 = i := by
    unfold beN
    rw [ga_0 hl (by omega), hl.uc (hP.1 0 (by omega)) hi]
  intro x hx y hy
  rcases Nat.eq_zero_or_pos x with e | e
  · subst e
    exact h0 y hy
  · rcases Nat.eq_zero_or_pos y with e2 | e2
    · subst e2
      rw [ga_0 hl hx, hb0]
    · exact h x hx e y hy e2
theorem k_isAutotopy {S : CS} {G : Nat → Nat → Value} {B : Nat → Nat → Int32} {J : Nat → Nat → Int64} {R : Nat → Nat → Option Nat} (hS : ShOk S) (hF : FxG G) {a n : Nat} (ht : TabAt S G a) (hn : G a 0 = .int (nI n)) {c : Nat → Nat} (hc : TabC B a n c) (hl : Lat n c) {i : Nat} (hi : i < n) (hap : 139 ≤ a + 1 ∨ a + 1 < 136) {p : Nat → Nat} (hP : Per n p) (hp : ∀ k, k < n → B 136 k = nI (p k)) [Decidable (atB n c p i)] : CR 2 77 0 [some (.ref 133), some (.ref a), some (.int (nI i)), none, none, none] [] S G B J R (fun r_ S' G' B' J' R' => r_ = some (.int (bI (atB n c p i))) ∧ S' = S ∧ G' = G ∧ J' = J ∧ R' = R ∧ ∃ wr wq, B' = upr (upr B 138 wr) 137 wq) := by
  have hn6 := hc.1
  have hp0 := hP.1 0 (by omega)
  refine cr_nx (pc' := 1) (al' := [some (.ref 133), some (.ref a), some (.int (nI i)), none, none, none]) (st' := [.ref a]) d_77_0 (fun _ => rfl) ?_
  refine cr_gf (v := .int (nI n)) d_77_1 cw_77 cf_8_34 ht.1 ht.2.2.1 (by decide) hn ?_
  refine cr_nx (pc' := 5) (al' := [some (.ref 133), some (.ref a), some (.int (nI i)), some (.int (nI n)), none, none]) (st' := []) d_77_4 (fun _ => rfl) ?_
  refine cn_ic (v := 0) d_77_5 (by decide) ?_
  refine cr_nx (pc' := 8) (al' := [some (.ref 133), some (.ref a), some (.int (nI i)), some (.int (nI n)), some (.int (nI 0)), none]) (st' := []) d_77_6 (fun _ => rfl) ?_
  refine cr_B (show B = (upr B 138 (B 138)) by rw [upr_id]) ?_
  refine cr_upw (al := fun x w_ => [some (.ref 133), some (.ref a), some (.int (nI i)), some (.int (nI n)), some (.int (nI x)), none]) (S := fun x w_ => S) (G := fun x w_ => G) (B := fun x w_ => (upr B 138 w_)) (J := fun x w_ => J) (R := fun x w_ => R) (P := fun x w_ => ∀ u, u < x → w_ (c (n * u + 0)) = nI (gaN n c p i (c (n * u + 0)))) (n := n) (fun x w_ hx px ihx => ?_) (fun w_ px => ?_) 0 (B 138) (by omega) (all_0)
  · show CR _ _ 8 [some (.ref 133), some (.ref a), some (.int (nI i)), some (.int (nI n)), some (.int (nI x)), none] [] S G (upr B 138 w_) J R _
    refine cr_nx (pc' := 10) (al' := [some (.ref 133), some (.ref a), some (.int (nI i)), some (.int (nI n)), some (.int (nI x)), none]) (st' := [.int (nI x)]) d_77_8 (fun _ => rfl) ?_
    refine cr_nx (pc' := 11) (al' := [some (.ref 133), some (.ref a), some (.int (nI i)), some (.int (nI n)), some (.int (nI x)), none]) (st' := [.int (nI n), .int (nI x)]) d_77_10 (fun _ => rfl) ?_
    refine cn_cge (t := 44) d_77_11 (by decide) (by first | omega | assumption | exact cu_36 (by omega) (cu_lt (by omega) (by omega))) (by first | omega | assumption | exact cu_36 (by omega) (cu_lt (by omega) (by omega))) (fun c11 => ?_) (fun c11 => ?_)
    · omega
    · refine cr_nx (pc' := 15) (al' := [some (.ref 133), some (.ref a), some (.int (nI i)), some (.int (nI n)), some (.int (nI x)), none]) (st' := [.ref 133]) d_77_14 (fun _ => rfl) ?_
      refine cr_gf (v := .ref 138) d_77_15 cw_77 cf_8_25 (hS.i (a := 133) (by decide) (by decide)) (hS.s (a := 133) (by decide) (by decide) rfl) (by decide) (fx_133_5 hF) ?_
      refine cr_nx (pc' := 19) (al' := [some (.ref 133), some (.ref a), some (.int (nI i)), some (.int (nI n)), some (.int (nI x)), none]) (st' := [.ref a, .ref 138]) d_77_18 (fun _ => rfl) ?_
      refine cr_nx (pc' := 21) (al' := [some (.ref 133), some (.ref a), some (.int (nI i)), some (.int (nI n)), some (.int (nI x)), none]) (st' := [.int (nI x), .ref a, .ref 138]) d_77_19 (fun _ => rfl) ?_
      refine cn_ic (v := 0) d_77_21 (by decide) ?_
      refine cr_pv (b := a) (as := [.int (nI x), .int (nI 0)]) (al0 := [some (.ref a), some (.int (nI x)), some (.int (nI 0))]) (r := [.ref 138]) d_77_22 cw_77 cm_8_42 cz_91 rfl rfl ht.1 (by rw [cw_91]; exact ht.2.2.1) (by rw [cw_91]; decide) rfl (Nat.le_of_ble_eq_true rfl) (k_times ht hn (by first | exact hc | exact TabC.u1 (by omega) hc | exact TabC.u1 (by omega) (TabC.u1 (by omega) hc) | exact TabC.u1 (by omega) (TabC.u1 (by omega) (TabC.u1 (by omega) hc))) (by omega) (by omega)) ?_
      show CR _ _ 25 [some (.ref 133), some (.ref a), some (.int (nI i)), some (.int (nI n)), some (.int (nI x)), none] [.int (nI (c (n * x + 0))), .ref 138] S G (upr B 138 w_) J R _
      have b22 : c (n * x + 0) < n := (hc.2 _ (cu_lt (by omega) (by omega))).2
      refine cr_nx (pc' := 26) (al' := [some (.ref 133), some (.ref a), some (.int (nI i)), some (.int (nI n)), some (.int (nI x)), none]) (st' := [.ref a, .int (nI (c (n * x + 0))), .ref 138]) d_77_25 (fun _ => rfl) ?_
      refine cr_nx (pc' := 27) (al' := [some (.ref 133), some (.ref a), some (.int (nI i)), some (.int (nI n)), some (.int (nI x)), none]) (st' := [.ref 133, .ref a, .int (nI (c (n * x + 0))), .ref 138]) d_77_26 (fun _ => rfl) ?_
      refine cr_gf (v := .ref 136) d_77_27 cw_77 cf_8_18 (hS.i (a := 133) (by decide) (by decide)) (hS.s (a := 133) (by decide) (by decide) rfl) (by decide) (fx_133_3 hF) ?_
      refine cr_nx (pc' := 32) (al' := [some (.ref 133), some (.ref a), some (.int (nI i)), some (.int (nI n)), some (.int (nI x)), none]) (st' := [.int (nI x), .ref 136, .ref a, .int (nI (c (n * x + 0))), .ref 138]) d_77_30 (fun _ => rfl) ?_
      refine cr_ia (a := 136) (v := (nI (p x))) d_77_32 (hS.i (a := 136) (by decide) (by decide)) (hS.s (a := 136) (by decide) (by decide) rfl) (by first | decide | omega) (show x < 6 by first | omega | assumption | exact cu_36 (by omega) (cu_lt (by omega) (by omega))) ((congrFun (by rw [upr_n (show (136 : Nat) ≠ 138 by decide)] : (upr B 138 w_) 136 = B 136) _).trans (hp x hx)) ?_
      refine cr_nx (pc' := 34) (al' := [some (.ref 133), some (.ref a), some (.int (nI i)), some (.int (nI n)), some (.int (nI x)), none]) (st' := [.int (nI i), .int (nI (p x)), .ref a, .int (nI (c (n * x + 0))), .ref 138]) d_77_33 (fun _ => rfl) ?_
      refine cr_pv (b := a) (as := [.int (nI (p x)), .int (nI i)]) (al0 := [some (.ref a), some (.int (nI (p x))), some (.int (nI i))]) (r := [.int (nI (c (n * x + 0))), .ref 138]) d_77_34 cw_77 cm_8_42 cz_91 rfl rfl ht.1 (by rw [cw_91]; exact ht.2.2.1) (by rw [cw_91]; decide) rfl (Nat.le_of_ble_eq_true rfl) (k_times ht hn (by first | exact hc | exact TabC.u1 (by omega) hc | exact TabC.u1 (by omega) (TabC.u1 (by omega) hc) | exact TabC.u1 (by omega) (TabC.u1 (by omega) (TabC.u1 (by omega) hc))) (hP.1 x hx) hi) ?_
      show CR _ _ 37 [some (.ref 133), some (.ref a), some (.int (nI i)), some (.int (nI n)), some (.int (nI x)), none] [.int (nI (c (n * (p x) + i))), .int (nI (c (n * x + 0))), .ref 138] S G (upr B 138 w_) J R _
      have b34 : c (n * (p x) + i) < n := (hc.2 _ (cu_lt (hP.1 x hx) hi)).2
      refine cr_iS (a := 138) (B1 := (upr B 138 (upd w_ (c (n * x + 0)) (nI (c (n * (p x) + i)))))) d_77_37 (hS.i (a := 138) (by decide) (by decide)) (hS.s (a := 138) (by decide) (by decide) rfl) (by first | decide | omega) (show c (n * x + 0) < 6 by first | omega | assumption | exact cu_36 (by omega) (cu_lt (by omega) (by omega))) (by rw [upr_s, upr_u]) ?_
      refine cn_inc d_77_38 rfl rfl ?_
      show CR _ _ 41 [some (.ref 133), some (.ref a), some (.int (nI i)), some (.int (nI n)), some (.int (nI (x + 1))), none] [] S G (upr B 138 (upd w_ (c (n * x + 0)) (nI (c (n * (p x) + i))))) J R _
      refine cr_nx (pc' := 8) (al' := [some (.ref 133), some (.ref a), some (.int (nI i)), some (.int (nI n)), some (.int (nI (x + 1))), none]) (st' := []) d_77_41 (fun _ => rfl) ?_
      exact ihx (upd w_ (c (n * x + 0)) (nI (c (n * (p x) + i)))) (fun u hu => by
          by_cases e : c (n * u + 0) = c (n * x + 0)
          · rw [e, pk_us, ga_0 hl hx]
          · rw [pk_un e]
            exact px u (Nat.lt_of_le_of_ne (by omega) (fun h => e (by rw [h]))))
  · show CR _ _ 8 [some (.ref 133), some (.ref a), some (.int (nI i)), some (.int (nI n)), some (.int (nI n)), none] [] S G (upr B 138 w_) J R _
    refine cr_nx (pc' := 10) (al' := [some (.ref 133), some (.ref a), some (.int (nI i)), some (.int (nI n)), some (.int (nI n)), none]) (st' := [.int (nI n)]) d_77_8 (fun _ => rfl) ?_
    refine cr_nx (pc' := 11) (al' := [some (.ref 133), some (.ref a), some (.int (nI i)), some (.int (nI n)), some (.int (nI n)), none]) (st' := [.int (nI n), .int (nI n)]) d_77_10 (fun _ => rfl) ?_
    refine cn_cge (t := 44) d_77_11 (by decide) (by first | omega | assumption | exact cu_36 (by omega) (cu_lt (by omega) (by omega))) (by first | omega | assumption | exact cu_36 (by omega) (cu_lt (by omega) (by omega))) (fun c11 => ?_) (fun c11 => ?_)
    · refine cn_ic (v := 0) d_77_44 (by decide) ?_
      refine cr_nx (pc' := 47) (al' := [some (.ref 133), some (.ref a), some (.int (nI i)), some (.int (nI n)), some (.int (nI 0)), none]) (st' := []) d_77_45 (fun _ => rfl) ?_
      refine cr_B (show (upr B 138 w_) = (upr (upr B 138 w_) 137 (B 137)) by exact upr_idn (by decide)) ?_
      refine cr_upw (al := fun y w2_ => [some (.ref 133), some (.ref a), some (.int (nI i)), some (.int (nI n)), some (.int (nI y)), none]) (S := fun y w2_ => S) (G := fun y w2_ => G) (B := fun y w2_ => (upr (upr B 138 w_) 137 w2_)) (J := fun y w2_ => J) (R := fun y w2_ => R) (P := fun y w2_ => ∀ u, u < y → w2_ u = nI (beN n c p i u)) (n := n) (fun y w2_ hy py ihy => ?_) (fun w2_ py => ?_) 0 (B 137) (by omega) (all_0)
      · show CR _ _ 47 [some (.ref 133), some (.ref a), some (.int (nI i)), some (.int (nI n)), some (.int (nI y)), none] [] S G (upr (upr B 138 w_) 137 w2_) J R _
        have hr : ∀ v, v < n → w_ v = nI (gaN n c p i v) := fun v hv => by
          have := px (ovrI n c v 0) (hl.o (by omega) hv).1
          rw [(hl.o (by omega) hv).2] at this
          exact this
        have hg := ga_lt hl hP hi (hl.b (show 0 < n by omega) hy)
        refine cr_nx (pc' := 49) (al' := [some (.ref 133), some (.ref a), some (.int (nI i)), some (.int (nI n)), some (.int (nI y)), none]) (st' := [.int (nI y)]) d_77_47 (fun _ => rfl) ?_
        refine cr_nx (pc' := 50) (al' := [some (.ref 133), some (.ref a), some (.int (nI i)), some (.int (nI n)), some (.int (nI y)), none]) (st' := [.int (nI n), .int (nI y)]) d_77_49 (fun _ => rfl) ?_
        refine cn_cge (t := 88) d_77_50 (by decide) (by first | omega | assumption | exact cu_36 (by omega) (cu_lt (by omega) (by omega))) (by first | omega | assumption | exact cu_36 (by omega) (cu_lt (by omega) (by omega))) (fun c50 => ?_) (fun c50 => ?_)
        · omega
        · refine cr_nx (pc' := 54) (al' := [some (.ref 133), some (.ref a), some (.int (nI i)), some (.int (nI n)), some (.int (nI y)), none]) (st' := [.ref 133]) d_77_53 (fun _ => rfl) ?_
          refine cr_gf (v := .ref 137) d_77_54 cw_77 cf_8_22 (hS.i (a := 133) (by decide) (by decide)) (hS.s (a := 133) (by decide) (by decide) rfl) (by decide) (fx_133_4 hF) ?_
          refine cr_nx (pc' := 59) (al' := [some (.ref 133), some (.ref a), some (.int (nI i)), some (.int (nI n)), some (.int (nI y)), none]) (st' := [.int (nI y), .ref 137]) d_77_57 (fun _ => rfl) ?_
          refine cr_nx (pc' := 60) (al' := [some (.ref 133), some (.ref a), some (.int (nI i)), some (.int (nI n)), some (.int (nI y)), none]) (st' := [.ref a, .int (nI y), .ref 137]) d_77_59 (fun _ => rfl) ?_
          refine cr_nx (pc' := 61) (al' := [some (.ref 133), some (.ref a), some (.int (nI i)), some (.int (nI n)), some (.int (nI y)), none]) (st' := [.ref 133, .ref a, .int (nI y), .ref 137]) d_77_60 (fun _ => rfl) ?_
          refine cr_gf (v := .ref 136) d_77_61 cw_77 cf_8_18 (hS.i (a := 133) (by decide) (by decide)) (hS.s (a := 133) (by decide) (by decide) rfl) (by decide) (fx_133_3 hF) ?_
          refine cn_ic (v := 0) d_77_64 (by decide) ?_
          refine cr_ia (a := 136) (v := (nI (p 0))) d_77_65 (hS.i (a := 136) (by decide) (by decide)) (hS.s (a := 136) (by decide) (by decide) rfl) (by first | decide | omega) (show 0 < 6 by first | omega | assumption | exact cu_36 (by omega) (cu_lt (by omega) (by omega))) ((congrFun (by rw [upr_n (show (136 : Nat) ≠ 137 by decide), upr_n (show (136 : Nat) ≠ 138 by decide)] : (upr (upr B 138 w_) 137 w2_) 136 = B 136) _).trans (hp 0 (by omega))) ?_
          refine cr_nx (pc' := 67) (al' := [some (.ref 133), some (.ref a), some (.int (nI i)), some (.int (nI n)), some (.int (nI y)), none]) (st' := [.ref 133, .int (nI (p 0)), .ref a, .int (nI y), .ref 137]) d_77_66 (fun _ => rfl) ?_
          refine cr_gf (v := .ref 138) d_77_67 cw_77 cf_8_25 (hS.i (a := 133) (by decide) (by decide)) (hS.s (a := 133) (by decide) (by decide) rfl) (by decide) (fx_133_5 hF) ?_
          refine cr_nx (pc' := 71) (al' := [some (.ref 133), some (.ref a), some (.int (nI i)), some (.int (nI n)), some (.int (nI y)), none]) (st' := [.ref a, .ref 138, .int (nI (p 0)), .ref a, .int (nI y), .ref 137]) d_77_70 (fun _ => rfl) ?_
          refine cn_ic (v := 0) d_77_71 (by decide) ?_
          refine cr_nx (pc' := 74) (al' := [some (.ref 133), some (.ref a), some (.int (nI i)), some (.int (nI n)), some (.int (nI y)), none]) (st' := [.int (nI y), .int (nI 0), .ref a, .ref 138, .int (nI (p 0)), .ref a, .int (nI y), .ref 137]) d_77_72 (fun _ => rfl) ?_
          refine cr_pv (b := a) (as := [.int (nI 0), .int (nI y)]) (al0 := [some (.ref a), some (.int (nI 0)), some (.int (nI y))]) (r := [.ref 138, .int (nI (p 0)), .ref a, .int (nI y), .ref 137]) d_77_74 cw_77 cm_8_42 cz_91 rfl rfl ht.1 (by rw [cw_91]; exact ht.2.2.1) (by rw [cw_91]; decide) rfl (Nat.le_of_ble_eq_true rfl) (k_times ht hn (by first | exact hc | exact TabC.u1 (by omega) hc | exact TabC.u1 (by omega) (TabC.u1 (by omega) hc) | exact TabC.u1 (by omega) (TabC.u1 (by omega) (TabC.u1 (by omega) hc))) (by omega) (by omega)) ?_
          show CR _ _ 77 [some (.ref 133), some (.ref a), some (.int (nI i)), some (.int (nI n)), some (.int (nI y)), none] [.int (nI (c (n * 0 + y))), .ref 138, .int (nI (p 0)), .ref a, .int (nI y), .ref 137] S G (upr (upr B 138 w_) 137 w2_) J R _
          have b74 : c (n * 0 + y) < n := (hc.2 _ (cu_lt (by omega) (by omega))).2
          refine cr_ia (a := 138) (v := (nI (gaN n c p i (c (n * 0 + y))))) d_77_77 (hS.i (a := 138) (by decide) (by decide)) (hS.s (a := 138) (by decide) (by decide) rfl) (by first | decide | omega) (show c (n * 0 + y) < 6 by have := hl.b (show 0 < n by omega) hy; omega) ((congrFun (by rw [upr_n (show (138 : Nat) ≠ 137 by decide), upr_s] : (upr (upr B 138 w_) 137 w2_) 138 = w_) _).trans (hr _ (hl.b (by omega) hy))) ?_
          refine cr_pv (b := a) (as := [.int (nI (p 0)), .int (nI (gaN n c p i (c (n * 0 + y))))]) (al0 := [some (.ref a), some (.int (nI (p 0))), some (.int (nI (gaN n c p i (c (n * 0 + y))))), none]) (r := [.int (nI y), .ref 137]) d_77_78 cw_77 cm_8_69 cz_102 rfl rfl ht.1 (by rw [cw_102]; exact ht.2.2.1) (by rw [cw_102]; decide) rfl (Nat.le_of_ble_eq_true rfl) ((fxV_t (hl.u (x := p 0) (v := gaN n c p i (c (n * 0 + y))) (by omega) (by omega)).1 ▸ k_under ht hn (by first | exact hc | exact TabC.u1 (by omega) hc | exact TabC.u1 (by omega) (TabC.u1 (by omega) hc) | exact TabC.u1 (by omega) (TabC.u1 (by omega) (TabC.u1 (by omega) hc))) (x := p 0) (v := gaN n c p i (c (n * 0 + y))) (by omega) (by omega))) ?_
          show CR _ _ 81 [some (.ref 133), some (.ref a), some (.int (nI i)), some (.int (nI n)), some (.int (nI y)), none] [.int (nI (undI n c (p 0) (gaN n c p i (c (n * 0 + y))))), .int (nI y), .ref 137] S G (upr (upr B 138 w_) 137 w2_) J R _
          have b78 : undI n c (p 0) (gaN n c p i (c (n * 0 + y))) < n := (hl.u (by omega) (by omega)).1
          refine cr_iS (a := 137) (B1 := (upr (upr B 138 w_) 137 (upd w2_ y (nI (undI n c (p 0) (gaN n c p i (c (n * 0 + y)))))))) d_77_81 (hS.i (a := 137) (by decide) (by decide)) (hS.s (a := 137) (by decide) (by decide) rfl) (by first | decide | omega) (show y < 6 by first | omega | assumption | exact cu_36 (by omega) (cu_lt (by omega) (by omega))) (by rw [upr_s, upr_u]) ?_
          refine cn_inc d_77_82 rfl rfl ?_
          show CR _ _ 85 [some (.ref 133), some (.ref a), some (.int (nI i)), some (.int (nI n)), some (.int (nI (y + 1))), none] [] S G (upr (upr B 138 w_) 137 (upd w2_ y (nI (undI n c (p 0) (gaN n c p i (c (n * 0 + y))))))) J R _
          refine cr_nx (pc' := 47) (al' := [some (.ref 133), some (.ref a), some (.int (nI i)), some (.int (nI n)), some (.int (nI (y + 1))), none]) (st' := []) d_77_85 (fun _ => rfl) ?_
          exact ihy (upd w2_ y (nI (undI n c (p 0) (gaN n c p i (c (n * 0 + y)))))) (up_all (f := fun u => nI (beN n c p i u)) py rfl)
      · show CR _ _ 47 [some (.ref 133), some (.ref a), some (.int (nI i)), some (.int (nI n)), some (.int (nI n)), none] [] S G (upr (upr B 138 w_) 137 w2_) J R _
        have hr : ∀ v, v < n → w_ v = nI (gaN n c p i v) := fun v hv => by
          have := px (ovrI n c v 0) (hl.o (by omega) hv).1
          rw [(hl.o (by omega) hv).2] at this
          exact this
        refine cr_nx (pc' := 49) (al' := [some (.ref 133), some (.ref a), some (.int (nI i)), some (.int (nI n)), some (.int (nI n)), none]) (st' := [.int (nI n)]) d_77_47 (fun _ => rfl) ?_
        refine cr_nx (pc' := 50) (al' := [some (.ref 133), some (.ref a), some (.int (nI i)), some (.int (nI n)), some (.int (nI n)), none]) (st' := [.int (nI n), .int (nI n)]) d_77_49 (fun _ => rfl) ?_
        refine cn_cge (t := 88) d_77_50 (by decide) (by first | omega | assumption | exact cu_36 (by omega) (cu_lt (by omega) (by omega))) (by first | omega | assumption | exact cu_36 (by omega) (cu_lt (by omega) (by omega))) (fun c50 => ?_) (fun c50 => ?_)
        · refine cn_ic (v := 1) d_77_88 (by decide) ?_
          refine cr_nx (pc' := 91) (al' := [some (.ref 133), some (.ref a), some (.int (nI i)), some (.int (nI n)), some (.int (nI 1)), none]) (st' := []) d_77_89 (fun _ => rfl) ?_
          refine cr_up (al := fun x2 => [some (.ref 133), some (.ref a), some (.int (nI i)), some (.int (nI n)), some (.int (nI x2)), none]) (S := fun x2 => S) (G := fun x2 => G) (B := fun x2 => (upr (upr B 138 w_) 137 w2_)) (J := fun x2 => J) (R := fun x2 => R) (P := fun x2 => 1 ≤ x2 ∧ ∀ x, x < x2 → 1 ≤ x → ∀ y, y < n → 1 ≤ y → gaN n c p i (c (n * x + y)) = c (n * p x + beN n c p i y)) (n := n) (fun x2 hx2 px2 ihx2 => ?_) (fun px2 => ?_) 1  (by omega) (⟨Nat.le_refl 1, fun x h1 h2 => by omega⟩)
          · show CR _ _ 91 [some (.ref 133), some (.ref a), some (.int (nI i)), some (.int (nI n)), some (.int (nI x2)), none] [] S G (upr (upr B 138 w_) 137 w2_) J R _
            refine cr_nx (pc' := 93) (al' := [some (.ref 133), some (.ref a), some (.int (nI i)), some (.int (nI n)), some (.int (nI x2)), none]) (st' := [.int (nI x2)]) d_77_91 (fun _ => rfl) ?_
            refine cr_nx (pc' := 94) (al' := [some (.ref 133), some (.ref a), some (.int (nI i)), some (.int (nI n)), some (.int (nI x2)), none]) (st' := [.int (nI n), .int (nI x2)]) d_77_93 (fun _ => rfl) ?_
            refine cn_cge (t := 154) d_77_94 (by decide) (by first | omega | assumption | exact cu_36 (by omega) (cu_lt (by omega) (by omega))) (by first | omega | assumption | exact cu_36 (by omega) (cu_lt (by omega) (by omega))) (fun c94 => ?_) (fun c94 => ?_)
            · omega
            · refine cn_ic (v := 1) d_77_97 (by decide) ?_
              refine cr_nx (pc' := 100) (al' := [some (.ref 133), some (.ref a), some (.int (nI i)), some (.int (nI n)), some (.int (nI x2)), some (.int (nI 1))]) (st' := []) d_77_98 (fun _ => rfl) ?_
              refine cr_up (al := fun y2 => [some (.ref 133), some (.ref a), some (.int (nI i)), some (.int (nI n)), some (.int (nI x2)), some (.int (nI y2))]) (S := fun y2 => S) (G := fun y2 => G) (B := fun y2 => (upr (upr B 138 w_) 137 w2_)) (J := fun y2 => J) (R := fun y2 => R) (P := fun y2 => 1 ≤ y2 ∧ ∀ y, y < y2 → 1 ≤ y → gaN n c p i (c (n * x2 + y)) = c (n * p x2 + beN n c p i y)) (n := n) (fun y2 hy2 py2 ihy2 => ?_) (fun py2 => ?_) 1  (by omega) (⟨Nat.le_refl 1, fun x h1 h2 => by omega⟩)
              · show CR _ _ 100 [some (.ref 133), some (.ref a), some (.int (nI i)), some (.int (nI n)), some (.int (nI x2)), some (.int (nI y2))] [] S G (upr (upr B 138 w_) 137 w2_) J R _
                have hg := ga_lt hl hP hi (hl.b hx2 hy2)
                have hbe := be_lt hl hP hi hy2
                have hpx := hP.1 x2 hx2
                refine cr_nx (pc' := 102) (al' := [some (.ref 133), some (.ref a), some (.int (nI i)), some (.int (nI n)), some (.int (nI x2)), some (.int (nI y2))]) (st' := [.int (nI y2)]) d_77_100 (fun _ => rfl) ?_
                refine cr_nx (pc' := 103) (al' := [some (.ref 133), some (.ref a), some (.int (nI i)), some (.int (nI n)), some (.int (nI x2)), some (.int (nI y2))]) (st' := [.int (nI n), .int (nI y2)]) d_77_102 (fun _ => rfl) ?_
                refine cn_cge (t := 148) d_77_103 (by decide) (by first | omega | assumption | exact cu_36 (by omega) (cu_lt (by omega) (by omega))) (by first | omega | assumption | exact cu_36 (by omega) (cu_lt (by omega) (by omega))) (fun c103 => ?_) (fun c103 => ?_)
                · omega
                · refine cr_nx (pc' := 107) (al' := [some (.ref 133), some (.ref a), some (.int (nI i)), some (.int (nI n)), some (.int (nI x2)), some (.int (nI y2))]) (st' := [.ref 133]) d_77_106 (fun _ => rfl) ?_
                  refine cr_gf (v := .ref 138) d_77_107 cw_77 cf_8_25 (hS.i (a := 133) (by decide) (by decide)) (hS.s (a := 133) (by decide) (by decide) rfl) (by decide) (fx_133_5 hF) ?_
                  refine cr_nx (pc' := 111) (al' := [some (.ref 133), some (.ref a), some (.int (nI i)), some (.int (nI n)), some (.int (nI x2)), some (.int (nI y2))]) (st' := [.ref a, .ref 138]) d_77_110 (fun _ => rfl) ?_
                  refine cr_nx (pc' := 113) (al' := [some (.ref 133), some (.ref a), some (.int (nI i)), some (.int (nI n)), some (.int (nI x2)), some (.int (nI y2))]) (st' := [.int (nI x2), .ref a, .ref 138]) d_77_111 (fun _ => rfl) ?_
                  refine cr_nx (pc' := 115) (al' := [some (.ref 133), some (.ref a), some (.int (nI i)), some (.int (nI n)), some (.int (nI x2)), some (.int (nI y2))]) (st' := [.int (nI y2), .int (nI x2), .ref a, .ref 138]) d_77_113 (fun _ => rfl) ?_
                  refine cr_pv (b := a) (as := [.int (nI x2), .int (nI y2)]) (al0 := [some (.ref a), some (.int (nI x2)), some (.int (nI y2))]) (r := [.ref 138]) d_77_115 cw_77 cm_8_42 cz_91 rfl rfl ht.1 (by rw [cw_91]; exact ht.2.2.1) (by rw [cw_91]; decide) rfl (Nat.le_of_ble_eq_true rfl) (k_times ht hn (by first | exact hc | exact TabC.u1 (by omega) hc | exact TabC.u1 (by omega) (TabC.u1 (by omega) hc) | exact TabC.u1 (by omega) (TabC.u1 (by omega) (TabC.u1 (by omega) hc))) (by omega) (by omega)) ?_
                  show CR _ _ 118 [some (.ref 133), some (.ref a), some (.int (nI i)), some (.int (nI n)), some (.int (nI x2)), some (.int (nI y2))] [.int (nI (c (n * x2 + y2))), .ref 138] S G (upr (upr B 138 w_) 137 w2_) J R _
                  have b115 : c (n * x2 + y2) < n := (hc.2 _ (cu_lt (by omega) (by omega))).2
                  refine cr_ia (a := 138) (v := (nI (gaN n c p i (c (n * x2 + y2))))) d_77_118 (hS.i (a := 138) (by decide) (by decide)) (hS.s (a := 138) (by decide) (by decide) rfl) (by first | decide | omega) (show c (n * x2 + y2) < 6 by have := hl.b hx2 hy2; omega) ((congrFun (by rw [upr_n (show (138 : Nat) ≠ 137 by decide), upr_s] : (upr (upr B 138 w_) 137 w2_) 138 = w_) _).trans (hr _ (hl.b hx2 hy2))) ?_
                  refine cr_nx (pc' := 120) (al' := [some (.ref 133), some (.ref a), some (.int (nI i)), some (.int (nI n)), some (.int (nI x2)), some (.int (nI y2))]) (st' := [.ref a, .int (nI (gaN n c p i (c (n * x2 + y2))))]) d_77_119 (fun _ => rfl) ?_
                  refine cr_nx (pc' := 121) (al' := [some (.ref 133), some (.ref a), some (.int (nI i)), some (.int (nI n)), some (.int (nI x2)), some (.int (nI y2))]) (st' := [.ref 133, .ref a, .int (nI (gaN n c p i (c (n * x2 + y2))))]) d_77_120 (fun _ => rfl) ?_
                  refine cr_gf (v := .ref 136) d_77_121 cw_77 cf_8_18 (hS.i (a := 133) (by decide) (by decide)) (hS.s (a := 133) (by decide) (by decide) rfl) (by decide) (fx_133_3 hF) ?_
                  refine cr_nx (pc' := 126) (al' := [some (.ref 133), some (.ref a), some (.int (nI i)), some (.int (nI n)), some (.int (nI x2)), some (.int (nI y2))]) (st' := [.int (nI x2), .ref 136, .ref a, .int (nI (gaN n c p i (c (n * x2 + y2))))]) d_77_124 (fun _ => rfl) ?_
                  refine cr_ia (a := 136) (v := (nI (p x2))) d_77_126 (hS.i (a := 136) (by decide) (by decide)) (hS.s (a := 136) (by decide) (by decide) rfl) (by first | decide | omega) (show x2 < 6 by first | omega | assumption | exact cu_36 (by omega) (cu_lt (by omega) (by omega))) ((congrFun (by rw [upr_n (show (136 : Nat) ≠ 137 by decide), upr_n (show (136 : Nat) ≠ 138 by decide)] : (upr (upr B 138 w_) 137 w2_) 136 = B 136) _).trans (hp x2 hx2)) ?_
                  refine cr_nx (pc' := 128) (al' := [some (.ref 133), some (.ref a), some (.int (nI i)), some (.int (nI n)), some (.int (nI x2)), some (.int (nI y2))]) (st' := [.ref 133, .int (nI (p x2)), .ref a, .int (nI (gaN n c p i (c (n * x2 + y2))))]) d_77_127 (fun _ => rfl) ?_
                  refine cr_gf (v := .ref 137) d_77_128 cw_77 cf_8_22 (hS.i (a := 133) (by decide) (by decide)) (hS.s (a := 133) (by decide) (by decide) rfl) (by decide) (fx_133_4 hF) ?_
                  refine cr_nx (pc' := 133) (al' := [some (.ref 133), some (.ref a), some (.int (nI i)), some (.int (nI n)), some (.int (nI x2)), some (.int (nI y2))]) (st' := [.int (nI y2), .ref 137, .int (nI (p x2)), .ref a, .int (nI (gaN n c p i (c (n * x2 + y2))))]) d_77_131 (fun _ => rfl) ?_
                  refine cr_ia (a := 137) (v := (nI (beN n c p i y2))) d_77_133 (hS.i (a := 137) (by decide) (by decide)) (hS.s (a := 137) (by decide) (by decide) rfl) (by first | decide | omega) (show y2 < 6 by first | omega | assumption | exact cu_36 (by omega) (cu_lt (by omega) (by omega))) ((congrFun (by rw [upr_s] : (upr (upr B 138 w_) 137 w2_) 137 = w2_) _).trans (py y2 hy2)) ?_
                  refine cr_pv (b := a) (as := [.int (nI (p x2)), .int (nI (beN n c p i y2))]) (al0 := [some (.ref a), some (.int (nI (p x2))), some (.int (nI (beN n c p i y2)))]) (r := [.int (nI (gaN n c p i (c (n * x2 + y2))))]) d_77_134 cw_77 cm_8_42 cz_91 rfl rfl ht.1 (by rw [cw_91]; exact ht.2.2.1) (by rw [cw_91]; decide) rfl (Nat.le_of_ble_eq_true rfl) (k_times ht hn (by first | exact hc | exact TabC.u1 (by omega) hc | exact TabC.u1 (by omega) (TabC.u1 (by omega) hc) | exact TabC.u1 (by omega) (TabC.u1 (by omega) (TabC.u1 (by omega) hc))) (by omega) (by omega)) ?_
                  show CR _ _ 137 [some (.ref 133), some (.ref a), some (.int (nI i)), some (.int (nI n)), some (.int (nI x2)), some (.int (nI y2))] [.int (nI (c (n * (p x2) + (beN n c p i y2)))), .int (nI (gaN n c p i (c (n * x2 + y2))))] S G (upr (upr B 138 w_) 137 w2_) J R _
                  have b134 : c (n * (p x2) + (beN n c p i y2)) < n := (hc.2 _ (cu_lt (by omega) (by omega))).2
                  refine cn_ceq (t := 142) d_77_137 (by decide) (by first | omega | assumption | exact cu_36 (by omega) (cu_lt (by omega) (by omega))) (by first | omega | assumption | exact cu_36 (by omega) (cu_lt (by omega) (by omega))) (fun c137 => ?_) (fun c137 => ?_)
                  · refine cn_inc d_77_142 rfl rfl ?_
                    show CR _ _ 145 [some (.ref 133), some (.ref a), some (.int (nI i)), some (.int (nI n)), some (.int (nI x2)), some (.int (nI (y2 + 1)))] [] S G (upr (upr B 138 w_) 137 w2_) J R _
                    refine cr_nx (pc' := 100) (al' := [some (.ref 133), some (.ref a), some (.int (nI i)), some (.int (nI n)), some (.int (nI x2)), some (.int (nI (y2 + 1)))]) (st' := []) d_77_145 (fun _ => rfl) ?_
                    exact ihy2  (⟨by omega, fun y hy h1 => (Nat.lt_succ_iff_lt_or_eq.mp hy).elim (fun e => py2.2 y e h1) (fun e => by subst e; exact c137)⟩)
                  · refine cn_ic (v := 0) d_77_140 (by decide) ?_
                    exact cr_ri d_77_141 cx_77 (by decide) ⟨by rw [bI_f (show ¬ atB n c p i from fun h => c137 (h x2 hx2 y2 hy2))], rfl, rfl, rfl, rfl, w_, w2_, rfl⟩
              · show CR _ _ 100 [some (.ref 133), some (.ref a), some (.int (nI i)), some (.int (nI n)), some (.int (nI x2)), some (.int (nI n))] [] S G (upr (upr B 138 w_) 137 w2_) J R _
                refine cr_nx (pc' := 102) (al' := [some (.ref 133), some (.ref a), some (.int (nI i)), some (.int (nI n)), some (.int (nI x2)), some (.int (nI n))]) (st' := [.int (nI n)]) d_77_100 (fun _ => rfl) ?_
                refine cr_nx (pc' := 103) (al' := [some (.ref 133), some (.ref a), some (.int (nI i)), some (.int (nI n)), some (.int (nI x2)), some (.int (nI n))]) (st' := [.int (nI n), .int (nI n)]) d_77_102 (fun _ => rfl) ?_
                refine cn_cge (t := 148) d_77_103 (by decide) (by first | omega | assumption | exact cu_36 (by omega) (cu_lt (by omega) (by omega))) (by first | omega | assumption | exact cu_36 (by omega) (cu_lt (by omega) (by omega))) (fun c103 => ?_) (fun c103 => ?_)
                · refine cn_inc d_77_148 rfl rfl ?_
                  show CR _ _ 151 [some (.ref 133), some (.ref a), some (.int (nI i)), some (.int (nI n)), some (.int (nI (x2 + 1))), some (.int (nI n))] [] S G (upr (upr B 138 w_) 137 w2_) J R _
                  refine cr_nx (pc' := 91) (al' := [some (.ref 133), some (.ref a), some (.int (nI i)), some (.int (nI n)), some (.int (nI (x2 + 1))), some (.int (nI n))]) (st' := []) d_77_151 (fun _ => rfl) ?_
                  refine cr_dr (al1 := [some (.ref 133), some (.ref a), some (.int (nI i)), some (.int (nI n)), some (.int (nI (x2 + 1))), none]) (le_s (le_s (le_s (le_s (le_s (le_d rfl (le_n))))))) ?_
                  exact ihx2  (⟨by omega, fun x hx h1 => (Nat.lt_succ_iff_lt_or_eq.mp hx).elim (fun e => px2.2 x e h1) (fun e => by subst e; exact py2.2)⟩)
                · omega
          · show CR _ _ 91 [some (.ref 133), some (.ref a), some (.int (nI i)), some (.int (nI n)), some (.int (nI n)), none] [] S G (upr (upr B 138 w_) 137 w2_) J R _
            refine cr_nx (pc' := 93) (al' := [some (.ref 133), some (.ref a), some (.int (nI i)), some (.int (nI n)), some (.int (nI n)), none]) (st' := [.int (nI n)]) d_77_91 (fun _ => rfl) ?_
            refine cr_nx (pc' := 94) (al' := [some (.ref 133), some (.ref a), some (.int (nI i)), some (.int (nI n)), some (.int (nI n)), none]) (st' := [.int (nI n), .int (nI n)]) d_77_93 (fun _ => rfl) ?_
            refine cn_cge (t := 154) d_77_94 (by decide) (by first | omega | assumption | exact cu_36 (by omega) (cu_lt (by omega) (by omega))) (by first | omega | assumption | exact cu_36 (by omega) (cu_lt (by omega) (by omega))) (fun c94 => ?_) (fun c94 => ?_)
            · refine cn_ic (v := 1) d_77_154 (by decide) ?_
              exact cr_ri d_77_155 cx_77 (by decide) ⟨by rw [bI_t (show atB n c p i from at_1 hl hP hi px2.2)], rfl, rfl, rfl, rfl, w_, w2_, rfl⟩
            · omega
        · omega
    · omega
def atD (n : Nat) (c p : Nat → Nat) (i : Nat) : Nat := if atB n c p i then 1 else 0
def atF (n : Nat) (c : Nat → Nat) (r i : Nat) : Nat := atD n c (pmE n r) i
def atS (n : Nat) (c : Nat → Nat) (r : Nat) : Nat := SM (atF n c r) n
def atN (n : Nat) (c : Nat → Nat) : Nat := SM (atS n c) (FA n)
/-- only the scratch rows of Permutations -/
def Bfr (l : List Nat) (B B' : Nat → Nat → Int32) : Prop := ∀ a, a ∉ l → B' a = B a
theorem Bfr.rf {l : List Nat} {B : Nat → Nat → Int32} : Bfr l B B := fun _ _ => rfl
theorem Bfr.u {l : List Nat} {B B' : Nat → Nat → Int32} {d : Nat} {w : Nat → Int32} (h : Bfr l B B') (hd : d ∈ l) : Bfr l B (upr B' d w) := fun a ha => by
  rw [upr_n (show a ≠ d from fun e => ha (by rw [e]; exact hd))]
  exact h a ha
theorem Bfr.c {l : List Nat} {B B' : Nat → Nat → Int32} {a n : Nat} {c : Nat → Nat} (h : Bfr l B B') (ha : a + 1 ∉ l) (hc : TabC B a n c) : TabC B' a n c := ⟨hc.1, fun q hq => by rw [h _ ha]; exact hc.2 q hq⟩
theorem k_autotopies {S : CS} {G : Nat → Nat → Value} {B : Nat → Nat → Int32} {J : Nat → Nat → Int64} {R : Nat → Nat → Option Nat} (hS : ShOk S) (hF : FxG G) {a n : Nat} (ht : TabAt S G a) (hn : G a 0 = .int (nI n)) {c : Nat → Nat} (hc : TabC B a n c) (hl : Lat n c) (hn1 : 1 ≤ n) (hap : a + 1 ∉ [136, 137, 138]) : CR 3 76 0 [some (.ref 133), some (.ref a), none, none, none] [] S G B J R (fun r_ S' G' B' J' R' => r_ = some (.int (nI (atN n c))) ∧ S' = S ∧ G' = G ∧ J' = J ∧ R' = R ∧ Bfr [136, 137, 138] B B') := by
  have hn6 := hc.1
  have hrr := FA_720 hn6
  have hap2 : 139 ≤ a + 1 ∨ a + 1 < 136 := by simp at hap; omega
  refine cn_ic (v := 0) d_76_0 (by decide) ?_
  refine cr_nx (pc' := 2) (al' := [some (.ref 133), some (.ref a), some (.int (nI 0)), none, none]) (st' := []) d_76_1 (fun _ => rfl) ?_
  refine cr_nx (pc' := 3) (al' := [some (.ref 133), some (.ref a), some (.int (nI 0)), none, none]) (st' := [.ref 133]) d_76_2 (fun _ => rfl) ?_
  refine cr_gf (v := .ref 136) d_76_3 cw_76 cf_8_18 (hS.i (a := 133) (by decide) (by decide)) (hS.s (a := 133) (by decide) (by decide) rfl) (by decide) (fx_133_3 hF) ?_
  refine cr_cs (as := [.ref 136]) (al0 := [some (.ref 136), none]) (r := []) d_76_6 cw_76 cm_8_50 (by decide) cz_154 rfl rfl rfl (cr_wk (Nat.le_of_ble_eq_true rfl) (k_startPermutation (hS.i (a := 136) (by decide) (by decide)) (hS.s (a := 136) (by decide) (by decide) rfl) (by decide))) (fun v1 S1 G1 B1 J1 R1 h1 => ?_)
  obtain ⟨q0_, q1_, q2_, q3_, q4_, w6, q9_, hw6⟩ := h1
  obtain rfl := q0_
  obtain rfl := q1_.symm
  obtain rfl := q2_.symm
  obtain rfl := q3_.symm
  obtain rfl := q4_.symm
  obtain rfl := q9_
  show CR _ _ 9 [some (.ref 133), some (.ref a), some (.int (nI 0)), none, none] [] S G (upr B 136 w6) J R _
  refine cn_ic (v := 0) d_76_9 (by decide) ?_
  refine cr_nx (pc' := 11) (al' := [some (.ref 133), some (.ref a), some (.int (nI 0)), some (.int (nI 0)), none]) (st' := []) d_76_10 (fun _ => rfl) ?_
  refine cr_al (congrArg (fun z__ : Nat => ([some (.ref 133), some (.ref a), some (.int (nI z__)), some (.int (nI 0)), none] : AL)) (show 0 = SM (atS n c) 0 by rfl)) ?_
  refine cr_upw (al := fun r w_ => [some (.ref 133), some (.ref a), some (.int (nI (SM (atS n c) r))), some (.int (nI r)), none]) (S := fun r w_ => S) (G := fun r w_ => G) (B := fun r w_ => w_) (J := fun r w_ => J) (R := fun r w_ => R) (P := fun r w_ => Bfr [136, 137, 138] B w_ ∧ (r < FA n → ∀ q, q < n → w_ 136 q = nI (pmE n r q))) (n := FA n) (fun r w_ hr pr ihr => ?_) (fun w_ pr => ?_) 0 (upr B 136 w6) (by omega) (⟨Bfr.rf.u (by decide), fun _ q hq => by rw [upr_s, hw6 q (by omega), pm_id hn6 hq]⟩)
  · show CR _ _ 11 [some (.ref 133), some (.ref a), some (.int (nI (SM (atS n c) r))), some (.int (nI r)), none] [] S G w_ J R _
    have hP := pm_per hn6 hr
    refine cr_nx (pc' := 12) (al' := [some (.ref 133), some (.ref a), some (.int (nI (SM (atS n c) r))), some (.int (nI r)), none]) (st' := [.int (nI r)]) d_76_11 (fun _ => rfl) ?_
    refine cr_gs d_76_12 cw_76 cq_8_54 ?_
    refine cr_nx (pc' := 16) (al' := [some (.ref 133), some (.ref a), some (.int (nI (SM (atS n c) r))), some (.int (nI r)), none]) (st' := [.ref a, .ref 0, .int (nI r)]) d_76_15 (fun _ => rfl) ?_
    refine cr_gf (v := .int (nI n)) d_76_16 cw_76 cf_8_34 ht.1 ht.2.2.1 (by decide) hn ?_
    refine cr_fa (v := (nI (FA n))) d_76_19 (show n < 7 by first | omega | assumption | exact cu_36 (by omega) (cu_lt (by omega) (by omega))) (am_fcN (by first | omega | assumption | exact cu_36 (by omega) (cu_lt (by omega) (by omega)))) ?_
    refine cn_cge (t := 72) d_76_20 (by decide) (by first | omega | assumption | exact cu_36 (by omega) (cu_lt (by omega) (by omega))) (by first | omega | assumption | exact cu_36 (by omega) (cu_lt (by omega) (by omega))) (fun c20 => ?_) (fun c20 => ?_)
    · omega
    · refine cn_ic (v := 0) d_76_23 (by decide) ?_
      refine cr_nx (pc' := 26) (al' := [some (.ref 133), some (.ref a), some (.int (nI (SM (atS n c) r))), some (.int (nI r)), some (.int (nI 0))]) (st' := []) d_76_24 (fun _ => rfl) ?_
      refine cr_al (congrArg (fun z__ : Nat => ([some (.ref 133), some (.ref a), some (.int (nI z__)), some (.int (nI r)), some (.int (nI 0))] : AL)) (show SM (atS n c) r = SM (atS n c) r + SM (atF n c r) 0 by rfl)) ?_
      refine cr_upw (al := fun i w_ => [some (.ref 133), some (.ref a), some (.int (nI (SM (atS n c) r + SM (atF n c r) i))), some (.int (nI r)), some (.int (nI i))]) (S := fun i w_ => S) (G := fun i w_ => G) (B := fun i w_ => w_) (J := fun i w_ => J) (R := fun i w_ => R) (P := fun i w_ => Bfr [136, 137, 138] B w_ ∧ ∀ q, q < n → w_ 136 q = nI (pmE n r q)) (n := n) (fun i w_ hi pi ihi => ?_) (fun w_ pi => ?_) 0 w_ (by omega) (⟨pr.1, pr.2 hr⟩)
      · show CR _ _ 26 [some (.ref 133), some (.ref a), some (.int (nI (SM (atS n c) r + SM (atF n c r) i))), some (.int (nI r)), some (.int (nI i))] [] S G w_ J R _
        refine cr_nx (pc' := 28) (al' := [some (.ref 133), some (.ref a), some (.int (nI (SM (atS n c) r + SM (atF n c r) i))), some (.int (nI r)), some (.int (nI i))]) (st' := [.int (nI i)]) d_76_26 (fun _ => rfl) ?_
        refine cr_nx (pc' := 29) (al' := [some (.ref 133), some (.ref a), some (.int (nI (SM (atS n c) r + SM (atF n c r) i))), some (.int (nI r)), some (.int (nI i))]) (st' := [.ref a, .int (nI i)]) d_76_28 (fun _ => rfl) ?_
        refine cr_gf (v := .int (nI n)) d_76_29 cw_76 cf_8_34 ht.1 ht.2.2.1 (by decide) hn ?_
        refine cn_cge (t := 54) d_76_32 (by decide) (by first | omega | assumption | exact cu_36 (by omega) (cu_lt (by omega) (by omega))) (by first | omega | assumption | exact cu_36 (by omega) (cu_lt (by omega) (by omega))) (fun c32 => ?_) (fun c32 => ?_)
        · omega
        · refine cr_nx (pc' := 36) (al' := [some (.ref 133), some (.ref a), some (.int (nI (SM (atS n c) r + SM (atF n c r) i))), some (.int (nI r)), some (.int (nI i))]) (st' := [.ref 133]) d_76_35 (fun _ => rfl) ?_
          refine cr_nx (pc' := 37) (al' := [some (.ref 133), some (.ref a), some (.int (nI (SM (atS n c) r + SM (atF n c r) i))), some (.int (nI r)), some (.int (nI i))]) (st' := [.ref a, .ref 133]) d_76_36 (fun _ => rfl) ?_
          refine cr_nx (pc' := 39) (al' := [some (.ref 133), some (.ref a), some (.int (nI (SM (atS n c) r + SM (atF n c r) i))), some (.int (nI r)), some (.int (nI i))]) (st' := [.int (nI i), .ref a, .ref 133]) d_76_37 (fun _ => rfl) ?_
          refine cr_cv (b := 133) (as := [.ref a, .int (nI i)]) (al0 := [some (.ref 133), some (.ref a), some (.int (nI i)), none, none, none]) (r := []) d_76_39 cw_76 cm_8_65 cz_77 rfl rfl (hS.i (a := 133) (by decide) (by decide)) (by rw [cw_77]; exact (hS.s (a := 133) (by decide) (by decide) rfl)) (by rw [cw_77]; decide) rfl (cr_wk (Nat.le_of_ble_eq_true rfl) (k_isAutotopy hS hF ht hn (by first | exact (pr.1.u (by decide)).c hap hc | exact pr.1.c hap hc | exact pi.1.c hap hc | exact ((pi.1.u (by decide)).u (by decide)).c hap hc) hl (by omega) (by omega) hP pi.2)) (fun v1 S1 G1 B1 J1 R1 h1 => ?_)
          obtain ⟨q0_, q1_, q2_, q3_, q4_, w138, w137, q9_⟩ := h1
          obtain rfl := q0_
          obtain rfl := q1_.symm
          obtain rfl := q2_.symm
          obtain rfl := q3_.symm
          obtain rfl := q4_.symm
          obtain rfl := q9_
          show CR _ _ 42 [some (.ref 133), some (.ref a), some (.int (nI (SM (atS n c) r + SM (atF n c r) i))), some (.int (nI r)), some (.int (nI i))] [.int (bI (atB n c (pmE n r) i))] S G (upr (upr w_ 138 w138) 137 w137) J R _
          refine cr_beq (t := 48) d_76_42 (by decide) (fun c42 => ?_) (fun c42 => ?_)
          · refine cn_inc d_76_48 rfl rfl ?_
            show CR _ _ 51 [some (.ref 133), some (.ref a), some (.int (nI (SM (atS n c) r + SM (atF n c r) i))), some (.int (nI r)), some (.int (nI (i + 1)))] [] S G (upr (upr w_ 138 w138) 137 w137) J R _
            refine cr_nx (pc' := 26) (al' := [some (.ref 133), some (.ref a), some (.int (nI (SM (atS n c) r + SM (atF n c r) i))), some (.int (nI r)), some (.int (nI (i + 1)))]) (st' := []) d_76_51 (fun _ => rfl) ?_
            refine cr_al (congrArg (fun z__ : Nat => ([some (.ref 133), some (.ref a), some (.int (nI z__)), some (.int (nI r)), some (.int (nI (i + 1)))] : AL)) (show SM (atS n c) r + SM (atF n c r) i = SM (atS n c) r + SM (atF n c r) (i + 1) by first | (rw [SM_s, atF, atD, if_pos c42]; rfl) | (rw [SM_s, atF, atD, if_neg c42]; rfl))) ?_
            exact ihi (upr (upr w_ 138 w138) 137 w137) (⟨(pi.1.u (by decide)).u (by decide), fun q hq => by rw [upr_n (by decide), upr_n (by decide)]; exact pi.2 q hq⟩)
          · refine cn_inc d_76_45 rfl rfl ?_
            show CR _ _ 48 [some (.ref 133), some (.ref a), some (.int (nI ((SM (atS n c) r + SM (atF n c r) i) + 1))), some (.int (nI r)), some (.int (nI i))] [] S G (upr (upr w_ 138 w138) 137 w137) J R _
            refine cn_inc d_76_48 rfl rfl ?_
            show CR _ _ 51 [some (.ref 133), some (.ref a), some (.int (nI ((SM (atS n c) r + SM (atF n c r) i) + 1))), some (.int (nI r)), some (.int (nI (i + 1)))] [] S G (upr (upr w_ 138 w138) 137 w137) J R _
            refine cr_nx (pc' := 26) (al' := [some (.ref 133), some (.ref a), some (.int (nI ((SM (atS n c) r + SM (atF n c r) i) + 1))), some (.int (nI r)), some (.int (nI (i + 1)))]) (st' := []) d_76_51 (fun _ => rfl) ?_
            refine cr_al (congrArg (fun z__ : Nat => ([some (.ref 133), some (.ref a), some (.int (nI z__)), some (.int (nI r)), some (.int (nI (i + 1)))] : AL)) (show (SM (atS n c) r + SM (atF n c r) i) + 1 = SM (atS n c) r + SM (atF n c r) (i + 1) by first | (rw [SM_s, atF, atD, if_pos c42]; rfl) | (rw [SM_s, atF, atD, if_neg c42]; rfl))) ?_
            exact ihi (upr (upr w_ 138 w138) 137 w137) (⟨(pi.1.u (by decide)).u (by decide), fun q hq => by rw [upr_n (by decide), upr_n (by decide)]; exact pi.2 q hq⟩)
      · show CR _ _ 26 [some (.ref 133), some (.ref a), some (.int (nI (SM (atS n c) r + SM (atF n c r) n))), some (.int (nI r)), some (.int (nI n))] [] S G w_ J R _
        refine cr_nx (pc' := 28) (al' := [some (.ref 133), some (.ref a), some (.int (nI (SM (atS n c) r + SM (atF n c r) n))), some (.int (nI r)), some (.int (nI n))]) (st' := [.int (nI n)]) d_76_26 (fun _ => rfl) ?_
        refine cr_nx (pc' := 29) (al' := [some (.ref 133), some (.ref a), some (.int (nI (SM (atS n c) r + SM (atF n c r) n))), some (.int (nI r)), some (.int (nI n))]) (st' := [.ref a, .int (nI n)]) d_76_28 (fun _ => rfl) ?_
        refine cr_gf (v := .int (nI n)) d_76_29 cw_76 cf_8_34 ht.1 ht.2.2.1 (by decide) hn ?_
        refine cn_cge (t := 54) d_76_32 (by decide) (by first | omega | assumption | exact cu_36 (by omega) (cu_lt (by omega) (by omega))) (by first | omega | assumption | exact cu_36 (by omega) (cu_lt (by omega) (by omega))) (fun c32 => ?_) (fun c32 => ?_)
        · refine cr_nx (pc' := 55) (al' := [some (.ref 133), some (.ref a), some (.int (nI (SM (atS n c) r + SM (atF n c r) n))), some (.int (nI r)), some (.int (nI n))]) (st' := [.ref 133]) d_76_54 (fun _ => rfl) ?_
          refine cr_gf (v := .ref 136) d_76_55 cw_76 cf_8_18 (hS.i (a := 133) (by decide) (by decide)) (hS.s (a := 133) (by decide) (by decide) rfl) (by decide) (fx_133_3 hF) ?_
          refine cn_ic (v := 0) d_76_58 (by decide) ?_
          refine cr_nx (pc' := 60) (al' := [some (.ref 133), some (.ref a), some (.int (nI (SM (atS n c) r + SM (atF n c r) n))), some (.int (nI r)), some (.int (nI n))]) (st' := [.ref a, .int (nI 0), .ref 136]) d_76_59 (fun _ => rfl) ?_
          refine cr_gf (v := .int (nI n)) d_76_60 cw_76 cf_8_34 ht.1 ht.2.2.1 (by decide) hn ?_
          refine cr_cs (as := [.ref 136, .int (nI 0), .int (nI n)]) (al0 := [some (.ref 136), some (.int (nI 0)), some (.int (nI n)), none, none, none]) (r := []) d_76_63 cw_76 cm_8_61 (by decide) cz_157 rfl rfl rfl (cr_wk (Nat.le_of_ble_eq_true rfl) (k_permuteOn (f := pmE n r) (hS.i (a := 136) (by decide) (by decide)) (hS.s (a := 136) (by decide) (by decide) rfl) (by decide) (by omega) (by omega) (by omega) (pm_31 hn6 hr) pi.2)) (fun v1 S1 G1 B1 J1 R1 h1 => ?_)
          obtain ⟨q0_, q1_, q2_, q3_, q4_, w63, q9_, hw63⟩ := h1
          obtain rfl := q0_
          obtain rfl := q1_.symm
          obtain rfl := q2_.symm
          obtain rfl := q3_.symm
          obtain rfl := q4_.symm
          obtain rfl := q9_
          show CR _ _ 66 [some (.ref 133), some (.ref a), some (.int (nI (SM (atS n c) r + SM (atF n c r) n))), some (.int (nI r)), some (.int (nI n))] [] S G (upr w_ 136 w63) J R _
          refine cn_inc d_76_66 rfl rfl ?_
          show CR _ _ 69 [some (.ref 133), some (.ref a), some (.int (nI (SM (atS n c) r + SM (atF n c r) n))), some (.int (nI (r + 1))), some (.int (nI n))] [] S G (upr w_ 136 w63) J R _
          refine cr_nx (pc' := 11) (al' := [some (.ref 133), some (.ref a), some (.int (nI (SM (atS n c) r + SM (atF n c r) n))), some (.int (nI (r + 1))), some (.int (nI n))]) (st' := []) d_76_69 (fun _ => rfl) ?_
          refine cr_al (congrArg (fun z__ : Nat => ([some (.ref 133), some (.ref a), some (.int (nI z__)), some (.int (nI (r + 1))), some (.int (nI n))] : AL)) (show SM (atS n c) r + SM (atF n c r) n = SM (atS n c) (r + 1) by rfl)) ?_
          refine cr_dr (al1 := [some (.ref 133), some (.ref a), some (.int (nI (SM (atS n c) (r + 1)))), some (.int (nI (r + 1))), none]) (le_s (le_s (le_s (le_s (le_d rfl (le_n)))))) ?_
          exact ihr (upr w_ 136 w63) (⟨pi.1.u (by decide), by rw [upr_s]; exact nx_w hn6 hw63⟩)
        · omega
  · show CR _ _ 11 [some (.ref 133), some (.ref a), some (.int (nI (SM (atS n c) (FA n)))), some (.int (nI (FA n))), none] [] S G w_ J R _
    refine cr_nx (pc' := 12) (al' := [some (.ref 133), some (.ref a), some (.int (nI (SM (atS n c) (FA n)))), some (.int (nI (FA n))), none]) (st' := [.int (nI (FA n))]) d_76_11 (fun _ => rfl) ?_
    refine cr_gs d_76_12 cw_76 cq_8_54 ?_
    refine cr_nx (pc' := 16) (al' := [some (.ref 133), some (.ref a), some (.int (nI (SM (atS n c) (FA n)))), some (.int (nI (FA n))), none]) (st' := [.ref a, .ref 0, .int (nI (FA n))]) d_76_15 (fun _ => rfl) ?_
    refine cr_gf (v := .int (nI n)) d_76_16 cw_76 cf_8_34 ht.1 ht.2.2.1 (by decide) hn ?_
    refine cr_fa (v := (nI (FA n))) d_76_19 (show n < 7 by first | omega | assumption | exact cu_36 (by omega) (cu_lt (by omega) (by omega))) (am_fcN (by first | omega | assumption | exact cu_36 (by omega) (cu_lt (by omega) (by omega)))) ?_
    refine cn_cge (t := 72) d_76_20 (by decide) (by first | omega | assumption | exact cu_36 (by omega) (cu_lt (by omega) (by omega))) (by first | omega | assumption | exact cu_36 (by omega) (cu_lt (by omega) (by omega))) (fun c20 => ?_) (fun c20 => ?_)
    · refine cr_nx (pc' := 73) (al' := [some (.ref 133), some (.ref a), some (.int (nI (SM (atS n c) (FA n)))), some (.int (nI (FA n))), none]) (st' := [.int (nI (SM (atS n c) (FA n)))]) d_76_72 (fun _ => rfl) ?_
      exact cr_ri d_76_73 cx_76 rfl ⟨rfl, rfl, rfl, rfl, rfl, pr.1⟩
    · omega
/-- the reference's rows and numbers that calls keep -/
def kpR (j : Nat) : Bool := [0, 1, 2, 3, 6, 7, 26].contains j
def kpG (j : Nat) : Bool := [0, 1, 13, 14, 48, 50, 51, 52, 53, 54, 56].contains j
def Ksm (A A' : Nat → Nat → Int32) : Prop := ∀ j, kpR j = true → A' j = A j
def Gsm (g g' : Nat → Int32) : Prop := ∀ j, kpG j = true → g' j = g j
theorem Ksm.rf {A : Nat → Nat → Int32} : Ksm A A := fun _ _ => rfl
theorem Gsm.rf {g : Nat → Int32} : Gsm g g := fun _ _ => rfl
theorem Ksm.u {A A' : Nat → Nat → Int32} {j : Nat} {w : Nat → Int32} (h : Ksm A A') (hj : kpR j = false) : Ksm A (rf_u A' j w) := fun i hi => by
  rw [rf_u_n (fun e => by rw [e, hj] at hi; cases hi)]
  exact h i hi
theorem Gsm.u {g g' : Nat → Int32} {j : Nat} {v : Int32} (h : Gsm g g') (hj : kpG j = false) : Gsm g (upd g' j v) := fun i hi => by
  rw [pk_un (fun e => by rw [e, hj] at hi; cases hi)]
  exact h i hi
theorem Ksm.tr {A B C : Nat → Nat → Int32} (h : Ksm A B) (h2 : Ksm B C) : Ksm A C := fun j hj => (h2 j hj).trans (h j hj)
theorem Gsm.tr {A B C : Nat → Int32} (h : Gsm A B) (h2 : Gsm B C) : Gsm A C := fun j hj => (h2 j hj).trans (h j hj)
def rS (v : Int32) (g : Nat → Int32) (A : Nat → Nat → Int32) : Option Value → (Nat → Int32) → (Nat → Nat → Int32) → Prop := fun r g' A' => r = some (.int v) ∧ Gsm g g' ∧ Ksm A A'
def isK (n : Nat) (c : Nat → Nat) (k : Nat) : Nat → Nat := isN n (isN n c 0 0) (k / n) (k % n)
def atR (n : Nat) (c : Nat → Nat) (k : Nat) : Nat := wyN n (isK n c k) (isN n c 0 0)
theorem s_autos0_24 {g : Nat → Int32} {A : Nat → Nat → Int32} {n : Nat} {c : Nat → Nat} (hc : Cur g A n c) : RR 3 262 24 [some (.ref 146), none, some (.int (nI 0)), none, none, none] [] g A (rS (nI (wyN n c c)) g A) := by
  have hn6 := hc.2.1
  have hnn : n * n ≤ 36 := Nat.mul_le_mul hn6 hn6
  refine rn_ic (v := 0) d_262_24 (by decide) ?_
  refine rr_nx (pc' := 26) (al' := [some (.ref 146), none, some (.int (nI 0)), some (.int (nI 0)), none, none]) (st' := []) d_262_25 (fun _ => rfl) ?_
  refine rr_A (show A = (rf_u A 20 (A 20)) by rw [rf_u_id]) ?_
  refine rr_upw (al := fun k w_ => [some (.ref 146), none, some (.int (nI 0)), some (.int (nI k)), none, none]) (G := fun k w_ => g) (B := fun k w_ => (rf_u A 20 w_)) (P := fun k w_ => ∀ q, q < k → w_ q = nI (c q)) (n := n * n) (fun k w_ hk pk ihk => ?_) (fun w_ pk => ?_) 0 (A 20) (by omega) (all_0)
  · show RR _ _ 26 [some (.ref 146), none, some (.int (nI 0)), some (.int (nI k)), none, none] [] g (rf_u A 20 w_) _
    refine rr_nx (pc' := 27) (al' := [some (.ref 146), none, some (.int (nI 0)), some (.int (nI k)), none, none]) (st' := [.int (nI k)]) d_262_26 (fun _ => rfl) ?_
    refine rr_nx (pc' := 28) (al' := [some (.ref 146), none, some (.int (nI 0)), some (.int (nI k)), none, none]) (st' := [.ref 146, .int (nI k)]) d_262_27 (fun _ => rfl) ?_
    refine rr_gn d_262_28 mo_262 fl_127 rfl hc.1 ?_
    refine rr_nx (pc' := 32) (al' := [some (.ref 146), none, some (.int (nI 0)), some (.int (nI k)), none, none]) (st' := [.ref 146, .int (nI n), .int (nI k)]) d_262_31 (fun _ => rfl) ?_
    refine rr_gn d_262_32 mo_262 fl_127 rfl hc.1 ?_
    refine rn_mul d_262_35  ?_
    refine rn_cge (t := 57) d_262_36 (by decide) (by first | omega | assumption | exact cu_36 (by omega) (cu_lt (by omega) (by omega))) (by first | omega | assumption | exact cu_36 (by omega) (cu_lt (by omega) (by omega))) (fun c36 => ?_) (fun c36 => ?_)
    · omega
    · refine rr_nx (pc' := 40) (al' := [some (.ref 146), none, some (.int (nI 0)), some (.int (nI k)), none, none]) (st' := [.ref 146]) d_262_39 (fun _ => rfl) ?_
      refine rr_gf (v := .ref (147 + 20)) d_262_40 mo_262 fl_76 rfl ?_
      refine rr_nx (pc' := 44) (al' := [some (.ref 146), none, some (.int (nI 0)), some (.int (nI k)), none, none]) (st' := [.int (nI k), .ref (147 + 20)]) d_262_43 (fun _ => rfl) ?_
      refine rr_nx (pc' := 45) (al' := [some (.ref 146), none, some (.int (nI 0)), some (.int (nI k)), none, none]) (st' := [.ref 146, .int (nI k), .ref (147 + 20)]) d_262_44 (fun _ => rfl) ?_
      refine rr_gf (v := .ref (147 + 4)) d_262_45 mo_262 fl_23 rfl ?_
      refine rr_nx (pc' := 49) (al' := [some (.ref 146), none, some (.int (nI 0)), some (.int (nI k)), none, none]) (st' := [.int (nI k), .ref (147 + 4), .int (nI k), .ref (147 + 20)]) d_262_48 (fun _ => rfl) ?_
      refine rr_ia (j := 4) (v := (nI (c k))) d_262_49 (by decide) rfl (by decide) (show k < 36 by first | omega | assumption | exact cu_36 (by omega) (cu_lt (by omega) (by omega))) (hc.2.2 k hk).1 ?_
      refine rr_iS (j := 20) (A1 := (rf_u A 20 (upd w_ k (nI (c k))))) d_262_50 (by decide) rfl (by decide) (show k < 36 by first | omega | assumption | exact cu_36 (by omega) (cu_lt (by omega) (by omega))) rf_uw ?_
      refine rn_inc d_262_51 rfl rfl ?_
      show RR _ _ 54 [some (.ref 146), none, some (.int (nI 0)), some (.int (nI (k + 1))), none, none] [] g (rf_u A 20 (upd w_ k (nI (c k)))) _
      refine rr_nx (pc' := 26) (al' := [some (.ref 146), none, some (.int (nI 0)), some (.int (nI (k + 1))), none, none]) (st' := []) d_262_54 (fun _ => rfl) ?_
      exact ihk (upd w_ k (nI (c k))) (up_all (f := fun q => nI (c q)) pk rfl)
  · show RR _ _ 26 [some (.ref 146), none, some (.int (nI 0)), some (.int (nI (n * n))), none, none] [] g (rf_u A 20 w_) _
    refine rr_nx (pc' := 27) (al' := [some (.ref 146), none, some (.int (nI 0)), some (.int (nI (n * n))), none, none]) (st' := [.int (nI (n * n))]) d_262_26 (fun _ => rfl) ?_
    refine rr_nx (pc' := 28) (al' := [some (.ref 146), none, some (.int (nI 0)), some (.int (nI (n * n))), none, none]) (st' := [.ref 146, .int (nI (n * n))]) d_262_27 (fun _ => rfl) ?_
    refine rr_gn d_262_28 mo_262 fl_127 rfl hc.1 ?_
    refine rr_nx (pc' := 32) (al' := [some (.ref 146), none, some (.int (nI 0)), some (.int (nI (n * n))), none, none]) (st' := [.ref 146, .int (nI n), .int (nI (n * n))]) d_262_31 (fun _ => rfl) ?_
    refine rr_gn d_262_32 mo_262 fl_127 rfl hc.1 ?_
    refine rn_mul d_262_35  ?_
    refine rn_cge (t := 57) d_262_36 (by decide) (by first | omega | assumption | exact cu_36 (by omega) (cu_lt (by omega) (by omega))) (by first | omega | assumption | exact cu_36 (by omega) (cu_lt (by omega) (by omega))) (fun c36 => ?_) (fun c36 => ?_)
    · refine rr_nx (pc' := 58) (al' := [some (.ref 146), none, some (.int (nI 0)), some (.int (nI (n * n))), none, none]) (st' := [.int (nI 0)]) d_262_57 (fun _ => rfl) ?_
      refine rn_ine (t := 66) d_262_58 (by decide) (by first | omega | assumption | exact cu_36 (by omega) (cu_lt (by omega) (by omega))) (fun c58 => ?_) (fun c58 => ?_)
      · omega
      · refine rr_nx (pc' := 62) (al' := [some (.ref 146), none, some (.int (nI 0)), some (.int (nI (n * n))), none, none]) (st' := [.ref 146]) d_262_61 (fun _ => rfl) ?_
        refine rr_cv (as := []) (al0 := [some (.ref 146), none, none, none, none, none, none]) (r := []) d_262_62 mo_262 ml_322 mz_263 rfl rfl rfl (rr_wk (Nat.le_of_ble_eq_true rfl) (s_ways (hc.up (by decide)) (fun q hq => ⟨by rw [rf_u_s]; exact pk q hq, (hc.2.2 q hq).2⟩))) (fun v1 g1 A1 h1 => ?_)
        obtain ⟨q0_, q1_, w62, q9_⟩ := h1
        obtain rfl := q0_
        obtain rfl := q1_.symm
        obtain rfl := q9_
        show RR _ _ 65 [some (.ref 146), none, some (.int (nI 0)), some (.int (nI (n * n))), none, none] [.int (nI (wyN n c c))] g (rf_u (rf_u A 20 w_) 13 w62) _
        exact rr_ri d_262_65 mr_262 rfl ⟨rfl, Gsm.rf, (Ksm.rf.u (by decide)).u (by decide)⟩
    · omega
theorem rf_sw {A : Nat → Nat → Int32} {i j : Nat} {v w : Nat → Int32} (h : i ≠ j) : rf_u (rf_u A i v) j w = rf_u (rf_u A j w) i v := by
  funext q
  unfold rf_u
  by_cases h1 : q = j
  · rw [if_pos h1, if_neg (show ¬ q = i from fun e => h (by rw [← e, h1])), if_pos h1]
  · rw [if_neg h1]
    by_cases h2 : q = i
    · rw [if_pos h2, if_pos h2]
    · rw [if_neg h2, if_neg h2, if_neg h1]
theorem s_autos1_24 {g : Nat → Int32} {A : Nat → Nat → Int32} {n : Nat} {c : Nat → Nat} (hc : Cur g A n c) (hl : Lat n c) (hn1 : 1 ≤ n) : RR 3 262 24 [some (.ref 146), none, some (.int (nI 1)), none, none, none] [] g A (rS (nI (SM (atR n c) (n * n))) g A) := by
  have hn6 := hc.2.1
  have hnn : n * n ≤ 36 := Nat.mul_le_mul hn6 hn6
  have hlL : Lat n (isN n c 0 0) := isN_lat hl (by omega) (by omega)
  have hg6 : upd g 8 (nI n) 6 = nI n := by rw [pk_un (by decide)]; exact hc.1
  refine rn_ic (v := 0) d_262_24 (by decide) ?_
  refine rr_nx (pc' := 26) (al' := [some (.ref 146), none, some (.int (nI 1)), some (.int (nI 0)), none, none]) (st' := []) d_262_25 (fun _ => rfl) ?_
  refine rr_A (show A = (rf_u A 20 (A 20)) by rw [rf_u_id]) ?_
  refine rr_upw (al := fun k w_ => [some (.ref 146), none, some (.int (nI 1)), some (.int (nI k)), none, none]) (G := fun k w_ => g) (B := fun k w_ => (rf_u A 20 w_)) (P := fun k w_ => ∀ q, q < k → w_ q = nI (c q)) (n := n * n) (fun k w_ hk pk ihk => ?_) (fun w_ pk => ?_) 0 (A 20) (by omega) (all_0)
  · show RR _ _ 26 [some (.ref 146), none, some (.int (nI 1)), some (.int (nI k)), none, none] [] g (rf_u A 20 w_) _
    refine rr_nx (pc' := 27) (al' := [some (.ref 146), none, some (.int (nI 1)), some (.int (nI k)), none, none]) (st' := [.int (nI k)]) d_262_26 (fun _ => rfl) ?_
    refine rr_nx (pc' := 28) (al' := [some (.ref 146), none, some (.int (nI 1)), some (.int (nI k)), none, none]) (st' := [.ref 146, .int (nI k)]) d_262_27 (fun _ => rfl) ?_
    refine rr_gn d_262_28 mo_262 fl_127 rfl (by first | exact hc.1 | exact hg6) ?_
    refine rr_nx (pc' := 32) (al' := [some (.ref 146), none, some (.int (nI 1)), some (.int (nI k)), none, none]) (st' := [.ref 146, .int (nI n), .int (nI k)]) d_262_31 (fun _ => rfl) ?_
    refine rr_gn d_262_32 mo_262 fl_127 rfl (by first | exact hc.1 | exact hg6) ?_
    refine rn_mul d_262_35  ?_
    refine rn_cge (t := 57) d_262_36 (by decide) (by first | omega | assumption | exact cu_36 (by omega) (cu_lt (by omega) (by omega))) (by first | omega | assumption | exact cu_36 (by omega) (cu_lt (by omega) (by omega))) (fun c36 => ?_) (fun c36 => ?_)
    · omega
    · refine rr_nx (pc' := 40) (al' := [some (.ref 146), none, some (.int (nI 1)), some (.int (nI k)), none, none]) (st' := [.ref 146]) d_262_39 (fun _ => rfl) ?_
      refine rr_gf (v := .ref (147 + 20)) d_262_40 mo_262 fl_76 rfl ?_
      refine rr_nx (pc' := 44) (al' := [some (.ref 146), none, some (.int (nI 1)), some (.int (nI k)), none, none]) (st' := [.int (nI k), .ref (147 + 20)]) d_262_43 (fun _ => rfl) ?_
      refine rr_nx (pc' := 45) (al' := [some (.ref 146), none, some (.int (nI 1)), some (.int (nI k)), none, none]) (st' := [.ref 146, .int (nI k), .ref (147 + 20)]) d_262_44 (fun _ => rfl) ?_
      refine rr_gf (v := .ref (147 + 4)) d_262_45 mo_262 fl_23 rfl ?_
      refine rr_nx (pc' := 49) (al' := [some (.ref 146), none, some (.int (nI 1)), some (.int (nI k)), none, none]) (st' := [.int (nI k), .ref (147 + 4), .int (nI k), .ref (147 + 20)]) d_262_48 (fun _ => rfl) ?_
      refine rr_ia (j := 4) (v := (nI (c k))) d_262_49 (by decide) rfl (by decide) (show k < 36 by first | omega | assumption | exact cu_36 (by omega) (cu_lt (by omega) (by omega))) (hc.2.2 k hk).1 ?_
      refine rr_iS (j := 20) (A1 := (rf_u A 20 (upd w_ k (nI (c k))))) d_262_50 (by decide) rfl (by decide) (show k < 36 by first | omega | assumption | exact cu_36 (by omega) (cu_lt (by omega) (by omega))) rf_uw ?_
      refine rn_inc d_262_51 rfl rfl ?_
      show RR _ _ 54 [some (.ref 146), none, some (.int (nI 1)), some (.int (nI (k + 1))), none, none] [] g (rf_u A 20 (upd w_ k (nI (c k)))) _
      refine rr_nx (pc' := 26) (al' := [some (.ref 146), none, some (.int (nI 1)), some (.int (nI (k + 1))), none, none]) (st' := []) d_262_54 (fun _ => rfl) ?_
      exact ihk (upd w_ k (nI (c k))) (up_all (f := fun q => nI (c q)) pk rfl)
  · show RR _ _ 26 [some (.ref 146), none, some (.int (nI 1)), some (.int (nI (n * n))), none, none] [] g (rf_u A 20 w_) _
    refine rr_nx (pc' := 27) (al' := [some (.ref 146), none, some (.int (nI 1)), some (.int (nI (n * n))), none, none]) (st' := [.int (nI (n * n))]) d_262_26 (fun _ => rfl) ?_
    refine rr_nx (pc' := 28) (al' := [some (.ref 146), none, some (.int (nI 1)), some (.int (nI (n * n))), none, none]) (st' := [.ref 146, .int (nI (n * n))]) d_262_27 (fun _ => rfl) ?_
    refine rr_gn d_262_28 mo_262 fl_127 rfl (by first | exact hc.1 | exact hg6) ?_
    refine rr_nx (pc' := 32) (al' := [some (.ref 146), none, some (.int (nI 1)), some (.int (nI (n * n))), none, none]) (st' := [.ref 146, .int (nI n), .int (nI (n * n))]) d_262_31 (fun _ => rfl) ?_
    refine rr_gn d_262_32 mo_262 fl_127 rfl (by first | exact hc.1 | exact hg6) ?_
    refine rn_mul d_262_35  ?_
    refine rn_cge (t := 57) d_262_36 (by decide) (by first | omega | assumption | exact cu_36 (by omega) (cu_lt (by omega) (by omega))) (by first | omega | assumption | exact cu_36 (by omega) (cu_lt (by omega) (by omega))) (fun c36 => ?_) (fun c36 => ?_)
    · refine rr_nx (pc' := 58) (al' := [some (.ref 146), none, some (.int (nI 1)), some (.int (nI (n * n))), none, none]) (st' := [.int (nI 1)]) d_262_57 (fun _ => rfl) ?_
      refine rn_ine (t := 66) d_262_58 (by decide) (by first | omega | assumption | exact cu_36 (by omega) (cu_lt (by omega) (by omega))) (fun c58 => ?_) (fun c58 => ?_)
      · refine rr_nx (pc' := 67) (al' := [some (.ref 146), none, some (.int (nI 1)), some (.int (nI (n * n))), none, none]) (st' := [.ref 146]) d_262_66 (fun _ => rfl) ?_
        refine rn_ic (v := 0) d_262_67 (by decide) ?_
        refine rn_ic (v := 0) d_262_68 (by decide) ?_
        refine rr_cv (as := [.int (nI 0), .int (nI 0)]) (al0 := [some (.ref 146), some (.int (nI 0)), some (.int (nI 0)), none, none]) (r := []) d_262_69 mo_262 ml_263 mz_229 rfl rfl rfl (rr_wk (Nat.le_of_ble_eq_true rfl) (s_isotopes (hc.up (by decide)) hl (by omega) (by omega))) (fun v1 g1 A1 h1 => ?_)
        obtain ⟨rfl, rfl, w5, rfl, hw5⟩ := h1
        show RR _ _ 72 [some (.ref 146), none, some (.int (nI 1)), some (.int (nI (n * n))), none, none] [] (upd g 8 (nI n)) (rf_u (rf_u A 20 w_) 5 w5) _
        refine rn_ic (v := 0) d_262_72 (by decide) ?_
        refine rr_nx (pc' := 74) (al' := [some (.ref 146), none, some (.int (nI 1)), some (.int (nI 0)), none, none]) (st' := []) d_262_73 (fun _ => rfl) ?_
        refine rr_A (show (rf_u (rf_u A 20 w_) 5 w5) = (rf_u (rf_u A 5 w5) 20 w_) by exact rf_sw (by decide)) ?_
        refine rr_upw (al := fun k2 w2_ => [some (.ref 146), none, some (.int (nI 1)), some (.int (nI k2)), none, none]) (G := fun k2 w2_ => (upd g 8 (nI n))) (B := fun k2 w2_ => (rf_u (rf_u A 5 w5) 20 w2_)) (P := fun k2 w2_ => ∀ q, q < k2 → w2_ q = nI ((isN n c 0 0) q)) (n := n * n) (fun k2 w2_ hk2 pk2 ihk2 => ?_) (fun w2_ pk2 => ?_) 0 w_ (by omega) (all_0)
        · show RR _ _ 74 [some (.ref 146), none, some (.int (nI 1)), some (.int (nI k2)), none, none] [] (upd g 8 (nI n)) (rf_u (rf_u A 5 w5) 20 w2_) _
          refine rr_nx (pc' := 75) (al' := [some (.ref 146), none, some (.int (nI 1)), some (.int (nI k2)), none, none]) (st' := [.int (nI k2)]) d_262_74 (fun _ => rfl) ?_
          refine rr_nx (pc' := 76) (al' := [some (.ref 146), none, some (.int (nI 1)), some (.int (nI k2)), none, none]) (st' := [.ref 146, .int (nI k2)]) d_262_75 (fun _ => rfl) ?_
          refine rr_gf (v := .int (g 6)) d_262_76 mo_262 fl_127 rfl ?_
          refine rr_tp (z := nI n) (by first | exact hc.1 | exact hg6) ?_
          refine rr_nx (pc' := 80) (al' := [some (.ref 146), none, some (.int (nI 1)), some (.int (nI k2)), none, none]) (st' := [.ref 146, .int (nI n), .int (nI k2)]) d_262_79 (fun _ => rfl) ?_
          refine rr_gf (v := .int (g 6)) d_262_80 mo_262 fl_127 rfl ?_
          refine rr_tp (z := nI n) (by first | exact hc.1 | exact hg6) ?_
          refine rn_mul d_262_83  ?_
          refine rn_cge (t := 105) d_262_84 (by decide) (by first | omega | assumption | exact cu_36 (by omega) (cu_lt (by omega) (by omega))) (by first | omega | assumption | exact cu_36 (by omega) (cu_lt (by omega) (by omega))) (fun c84 => ?_) (fun c84 => ?_)
          · omega
          · refine rr_nx (pc' := 88) (al' := [some (.ref 146), none, some (.int (nI 1)), some (.int (nI k2)), none, none]) (st' := [.ref 146]) d_262_87 (fun _ => rfl) ?_
            refine rr_gf (v := .ref (147 + 20)) d_262_88 mo_262 fl_76 rfl ?_
            refine rr_nx (pc' := 92) (al' := [some (.ref 146), none, some (.int (nI 1)), some (.int (nI k2)), none, none]) (st' := [.int (nI k2), .ref (147 + 20)]) d_262_91 (fun _ => rfl) ?_
            refine rr_nx (pc' := 93) (al' := [some (.ref 146), none, some (.int (nI 1)), some (.int (nI k2)), none, none]) (st' := [.ref 146, .int (nI k2), .ref (147 + 20)]) d_262_92 (fun _ => rfl) ?_
            refine rr_gf (v := .ref (147 + 5)) d_262_93 mo_262 fl_26 rfl ?_
            refine rr_nx (pc' := 97) (al' := [some (.ref 146), none, some (.int (nI 1)), some (.int (nI k2)), none, none]) (st' := [.int (nI k2), .ref (147 + 5), .int (nI k2), .ref (147 + 20)]) d_262_96 (fun _ => rfl) ?_
            refine rr_ia (j := 5) (v := (nI ((isN n c 0 0) k2))) d_262_97 (by decide) rfl (by decide) (show k2 < 36 by first | omega | assumption | exact cu_36 (by omega) (cu_lt (by omega) (by omega))) (hw5 k2 hk2) ?_
            refine rr_iS (j := 20) (A1 := (rf_u (rf_u A 5 w5) 20 (upd w2_ k2 (nI ((isN n c 0 0) k2))))) d_262_98 (by decide) rfl (by decide) (show k2 < 36 by first | omega | assumption | exact cu_36 (by omega) (cu_lt (by omega) (by omega))) rf_uw ?_
            refine rn_inc d_262_99 rfl rfl ?_
            show RR _ _ 102 [some (.ref 146), none, some (.int (nI 1)), some (.int (nI (k2 + 1))), none, none] [] (upd g 8 (nI n)) (rf_u (rf_u A 5 w5) 20 (upd w2_ k2 (nI ((isN n c 0 0) k2)))) _
            refine rr_nx (pc' := 74) (al' := [some (.ref 146), none, some (.int (nI 1)), some (.int (nI (k2 + 1))), none, none]) (st' := []) d_262_102 (fun _ => rfl) ?_
            exact ihk2 (upd w2_ k2 (nI ((isN n c 0 0) k2))) (up_all (f := fun q => nI ((isN n c 0 0) q)) pk2 rfl)
        · show RR _ _ 74 [some (.ref 146), none, some (.int (nI 1)), some (.int (nI (n * n))), none, none] [] (upd g 8 (nI n)) (rf_u (rf_u A 5 w5) 20 w2_) _
          refine rr_nx (pc' := 75) (al' := [some (.ref 146), none, some (.int (nI 1)), some (.int (nI (n * n))), none, none]) (st' := [.int (nI (n * n))]) d_262_74 (fun _ => rfl) ?_
          refine rr_nx (pc' := 76) (al' := [some (.ref 146), none, some (.int (nI 1)), some (.int (nI (n * n))), none, none]) (st' := [.ref 146, .int (nI (n * n))]) d_262_75 (fun _ => rfl) ?_
          refine rr_gf (v := .int (g 6)) d_262_76 mo_262 fl_127 rfl ?_
          refine rr_tp (z := nI n) (by first | exact hc.1 | exact hg6) ?_
          refine rr_nx (pc' := 80) (al' := [some (.ref 146), none, some (.int (nI 1)), some (.int (nI (n * n))), none, none]) (st' := [.ref 146, .int (nI n), .int (nI (n * n))]) d_262_79 (fun _ => rfl) ?_
          refine rr_gf (v := .int (g 6)) d_262_80 mo_262 fl_127 rfl ?_
          refine rr_tp (z := nI n) (by first | exact hc.1 | exact hg6) ?_
          refine rn_mul d_262_83  ?_
          refine rn_cge (t := 105) d_262_84 (by decide) (by first | omega | assumption | exact cu_36 (by omega) (cu_lt (by omega) (by omega))) (by first | omega | assumption | exact cu_36 (by omega) (cu_lt (by omega) (by omega))) (fun c84 => ?_) (fun c84 => ?_)
          · refine rn_ic (v := 0) d_262_105 (by decide) ?_
            refine rr_nx (pc' := 107) (al' := [some (.ref 146), none, some (.int (nI 1)), some (.int (nI 0)), none, none]) (st' := []) d_262_106 (fun _ => rfl) ?_
            refine rn_ic (v := 0) d_262_107 (by decide) ?_
            refine rr_nx (pc' := 110) (al' := [some (.ref 146), none, some (.int (nI 1)), some (.int (nI 0)), some (.int (nI 0)), none]) (st' := []) d_262_108 (fun _ => rfl) ?_
            refine rr_al (congrArg (fun z__ : Nat => ([some (.ref 146), none, some (.int (nI 1)), some (.int (nI z__)), some (.int (nI 0)), none] : AL)) (show 0 = SM (atR n c) 0 by rfl)) ?_
            refine rr_upw (al := fun i w3_ => [some (.ref 146), none, some (.int (nI 1)), some (.int (nI (SM (atR n c) i))), some (.int (nI i)), none]) (G := fun i w3_ => (upd g 8 (nI n))) (B := fun i w3_ => w3_) (P := fun i w3_ => (∀ q, q < n * n → w3_ 20 q = nI ((isN n c 0 0) q)) ∧ Ksm A w3_) (n := n * n) (fun i w3_ hi pi ihi => ?_) (fun w3_ pi => ?_) 0 (rf_u (rf_u A 5 w5) 20 w2_) (by omega) (⟨fun q hq => by rw [rf_u_s]; exact pk2 q hq, (Ksm.rf.u (by decide)).u (by decide)⟩)
            · show RR _ _ 110 [some (.ref 146), none, some (.int (nI 1)), some (.int (nI (SM (atR n c) i))), some (.int (nI i)), none] [] (upd g 8 (nI n)) w3_ _
              have hdi := dm_dl hi
              have hmi := dm_ml hi
              have hlK : Lat n (isK n c i) := isN_lat hlL hdi hmi
              refine rr_nx (pc' := 112) (al' := [some (.ref 146), none, some (.int (nI 1)), some (.int (nI (SM (atR n c) i))), some (.int (nI i)), none]) (st' := [.int (nI i)]) d_262_110 (fun _ => rfl) ?_
              refine rr_nx (pc' := 113) (al' := [some (.ref 146), none, some (.int (nI 1)), some (.int (nI (SM (atR n c) i))), some (.int (nI i)), none]) (st' := [.ref 146, .int (nI i)]) d_262_112 (fun _ => rfl) ?_
              refine rr_gf (v := .int (g 6)) d_262_113 mo_262 fl_127 rfl ?_
              refine rr_tp (z := nI n) (by first | exact hc.1 | exact hg6) ?_
              refine rr_nx (pc' := 117) (al' := [some (.ref 146), none, some (.int (nI 1)), some (.int (nI (SM (atR n c) i))), some (.int (nI i)), none]) (st' := [.ref 146, .int (nI n), .int (nI i)]) d_262_116 (fun _ => rfl) ?_
              refine rr_gf (v := .int (g 6)) d_262_117 mo_262 fl_127 rfl ?_
              refine rr_tp (z := nI n) (by first | exact hc.1 | exact hg6) ?_
              refine rn_mul d_262_120  ?_
              refine rn_cge (t := 229) d_262_121 (by decide) (by first | omega | assumption | exact cu_36 (by omega) (cu_lt (by omega) (by omega))) (by first | omega | assumption | exact cu_36 (by omega) (cu_lt (by omega) (by omega))) (fun c121 => ?_) (fun c121 => ?_)
              · omega
              · refine rn_ic (v := 0) d_262_124 (by decide) ?_
                refine rr_nx (pc' := 127) (al' := [some (.ref 146), none, some (.int (nI 1)), some (.int (nI (SM (atR n c) i))), some (.int (nI i)), some (.int (nI 0))]) (st' := []) d_262_125 (fun _ => rfl) ?_
                refine rr_A (show w3_ = (rf_u w3_ 4 (w3_ 4)) by rw [rf_u_id]) ?_
                refine rr_upw (al := fun k4 w4_ => [some (.ref 146), none, some (.int (nI 1)), some (.int (nI (SM (atR n c) i))), some (.int (nI i)), some (.int (nI k4))]) (G := fun k4 w4_ => (upd g 8 (nI n))) (B := fun k4 w4_ => (rf_u w3_ 4 w4_)) (P := fun k4 w4_ => ∀ q, q < k4 → w4_ q = nI ((isN n c 0 0) q)) (n := n * n) (fun k4 w4_ hk4 pk4 ihk4 => ?_) (fun w4_ pk4 => ?_) 0 (w3_ 4) (by omega) (all_0)
                · show RR _ _ 127 [some (.ref 146), none, some (.int (nI 1)), some (.int (nI (SM (atR n c) i))), some (.int (nI i)), some (.int (nI k4))] [] (upd g 8 (nI n)) (rf_u w3_ 4 w4_) _
                  refine rr_nx (pc' := 129) (al' := [some (.ref 146), none, some (.int (nI 1)), some (.int (nI (SM (atR n c) i))), some (.int (nI i)), some (.int (nI k4))]) (st' := [.int (nI k4)]) d_262_127 (fun _ => rfl) ?_
                  refine rr_nx (pc' := 130) (al' := [some (.ref 146), none, some (.int (nI 1)), some (.int (nI (SM (atR n c) i))), some (.int (nI i)), some (.int (nI k4))]) (st' := [.ref 146, .int (nI k4)]) d_262_129 (fun _ => rfl) ?_
                  refine rr_gf (v := .int (g 6)) d_262_130 mo_262 fl_127 rfl ?_
                  refine rr_tp (z := nI n) (by first | exact hc.1 | exact hg6) ?_
                  refine rr_nx (pc' := 134) (al' := [some (.ref 146), none, some (.int (nI 1)), some (.int (nI (SM (atR n c) i))), some (.int (nI i)), some (.int (nI k4))]) (st' := [.ref 146, .int (nI n), .int (nI k4)]) d_262_133 (fun _ => rfl) ?_
                  refine rr_gf (v := .int (g 6)) d_262_134 mo_262 fl_127 rfl ?_
                  refine rr_tp (z := nI n) (by first | exact hc.1 | exact hg6) ?_
                  refine rn_mul d_262_137  ?_
                  refine rn_cge (t := 161) d_262_138 (by decide) (by first | omega | assumption | exact cu_36 (by omega) (cu_lt (by omega) (by omega))) (by first | omega | assumption | exact cu_36 (by omega) (cu_lt (by omega) (by omega))) (fun c138 => ?_) (fun c138 => ?_)
                  · omega
                  · refine rr_nx (pc' := 142) (al' := [some (.ref 146), none, some (.int (nI 1)), some (.int (nI (SM (atR n c) i))), some (.int (nI i)), some (.int (nI k4))]) (st' := [.ref 146]) d_262_141 (fun _ => rfl) ?_
                    refine rr_gf (v := .ref (147 + 4)) d_262_142 mo_262 fl_23 rfl ?_
                    refine rr_nx (pc' := 147) (al' := [some (.ref 146), none, some (.int (nI 1)), some (.int (nI (SM (atR n c) i))), some (.int (nI i)), some (.int (nI k4))]) (st' := [.int (nI k4), .ref (147 + 4)]) d_262_145 (fun _ => rfl) ?_
                    refine rr_nx (pc' := 148) (al' := [some (.ref 146), none, some (.int (nI 1)), some (.int (nI (SM (atR n c) i))), some (.int (nI i)), some (.int (nI k4))]) (st' := [.ref 146, .int (nI k4), .ref (147 + 4)]) d_262_147 (fun _ => rfl) ?_
                    refine rr_gf (v := .ref (147 + 20)) d_262_148 mo_262 fl_76 rfl ?_
                    refine rr_nx (pc' := 153) (al' := [some (.ref 146), none, some (.int (nI 1)), some (.int (nI (SM (atR n c) i))), some (.int (nI i)), some (.int (nI k4))]) (st' := [.int (nI k4), .ref (147 + 20), .int (nI k4), .ref (147 + 4)]) d_262_151 (fun _ => rfl) ?_
                    refine rr_ia (j := 20) (v := (nI ((isN n c 0 0) k4))) d_262_153 (by decide) rfl (by decide) (show k4 < 36 by first | omega | assumption | exact cu_36 (by omega) (cu_lt (by omega) (by omega))) (pi.1 k4 hk4) ?_
                    refine rr_iS (j := 4) (A1 := (rf_u w3_ 4 (upd w4_ k4 (nI ((isN n c 0 0) k4))))) d_262_154 (by decide) rfl (by decide) (show k4 < 36 by first | omega | assumption | exact cu_36 (by omega) (cu_lt (by omega) (by omega))) rf_uw ?_
                    refine rn_inc d_262_155 rfl rfl ?_
                    show RR _ _ 158 [some (.ref 146), none, some (.int (nI 1)), some (.int (nI (SM (atR n c) i))), some (.int (nI i)), some (.int (nI (k4 + 1)))] [] (upd g 8 (nI n)) (rf_u w3_ 4 (upd w4_ k4 (nI ((isN n c 0 0) k4)))) _
                    refine rr_nx (pc' := 127) (al' := [some (.ref 146), none, some (.int (nI 1)), some (.int (nI (SM (atR n c) i))), some (.int (nI i)), some (.int (nI (k4 + 1)))]) (st' := []) d_262_158 (fun _ => rfl) ?_
                    exact ihk4 (upd w4_ k4 (nI ((isN n c 0 0) k4))) (up_all (f := fun q => nI ((isN n c 0 0) q)) pk4 rfl)
                · show RR _ _ 127 [some (.ref 146), none, some (.int (nI 1)), some (.int (nI (SM (atR n c) i))), some (.int (nI i)), some (.int (nI (n * n)))] [] (upd g 8 (nI n)) (rf_u w3_ 4 w4_) _
                  refine rr_nx (pc' := 129) (al' := [some (.ref 146), none, some (.int (nI 1)), some (.int (nI (SM (atR n c) i))), some (.int (nI i)), some (.int (nI (n * n)))]) (st' := [.int (nI (n * n))]) d_262_127 (fun _ => rfl) ?_
                  refine rr_nx (pc' := 130) (al' := [some (.ref 146), none, some (.int (nI 1)), some (.int (nI (SM (atR n c) i))), some (.int (nI i)), some (.int (nI (n * n)))]) (st' := [.ref 146, .int (nI (n * n))]) d_262_129 (fun _ => rfl) ?_
                  refine rr_gf (v := .int (g 6)) d_262_130 mo_262 fl_127 rfl ?_
                  refine rr_tp (z := nI n) (by first | exact hc.1 | exact hg6) ?_
                  refine rr_nx (pc' := 134) (al' := [some (.ref 146), none, some (.int (nI 1)), some (.int (nI (SM (atR n c) i))), some (.int (nI i)), some (.int (nI (n * n)))]) (st' := [.ref 146, .int (nI n), .int (nI (n * n))]) d_262_133 (fun _ => rfl) ?_
                  refine rr_gf (v := .int (g 6)) d_262_134 mo_262 fl_127 rfl ?_
                  refine rr_tp (z := nI n) (by first | exact hc.1 | exact hg6) ?_
                  refine rn_mul d_262_137  ?_
                  refine rn_cge (t := 161) d_262_138 (by decide) (by first | omega | assumption | exact cu_36 (by omega) (cu_lt (by omega) (by omega))) (by first | omega | assumption | exact cu_36 (by omega) (cu_lt (by omega) (by omega))) (fun c138 => ?_) (fun c138 => ?_)
                  · have hcL : Cur (upd g 8 (nI n)) (rf_u w3_ 4 w4_) n (isN n c 0 0) := ⟨hg6, hn6, fun q hq => ⟨by rw [rf_u_s]; exact pk4 q hq, hlL.1 q hq⟩⟩
                    refine rr_nx (pc' := 162) (al' := [some (.ref 146), none, some (.int (nI 1)), some (.int (nI (SM (atR n c) i))), some (.int (nI i)), some (.int (nI (n * n)))]) (st' := [.ref 146]) d_262_161 (fun _ => rfl) ?_
                    refine rr_nx (pc' := 164) (al' := [some (.ref 146), none, some (.int (nI 1)), some (.int (nI (SM (atR n c) i))), some (.int (nI i)), some (.int (nI (n * n)))]) (st' := [.int (nI i), .ref 146]) d_262_162 (fun _ => rfl) ?_
                    refine rr_nx (pc' := 165) (al' := [some (.ref 146), none, some (.int (nI 1)), some (.int (nI (SM (atR n c) i))), some (.int (nI i)), some (.int (nI (n * n)))]) (st' := [.ref 146, .int (nI i), .ref 146]) d_262_164 (fun _ => rfl) ?_
                    refine rr_gf (v := .int (g 6)) d_262_165 mo_262 fl_127 rfl ?_
                    refine rr_tp (z := nI n) (by first | exact hc.1 | exact hg6) ?_
                    refine rn_div d_262_168 (by omega) (by omega) (by omega) ?_
                    refine rr_nx (pc' := 171) (al' := [some (.ref 146), none, some (.int (nI 1)), some (.int (nI (SM (atR n c) i))), some (.int (nI i)), some (.int (nI (n * n)))]) (st' := [.int (nI i), .int (nI (i / n)), .ref 146]) d_262_169 (fun _ => rfl) ?_
                    refine rr_nx (pc' := 172) (al' := [some (.ref 146), none, some (.int (nI 1)), some (.int (nI (SM (atR n c) i))), some (.int (nI i)), some (.int (nI (n * n)))]) (st' := [.ref 146, .int (nI i), .int (nI (i / n)), .ref 146]) d_262_171 (fun _ => rfl) ?_
                    refine rr_gf (v := .int (g 6)) d_262_172 mo_262 fl_127 rfl ?_
                    refine rr_tp (z := nI n) (by first | exact hc.1 | exact hg6) ?_
                    refine rn_rem d_262_175 (by omega) (by omega) (by omega) ?_
                    refine rr_cv (as := [.int (nI (i / n)), .int (nI (i % n))]) (al0 := [some (.ref 146), some (.int (nI (i / n))), some (.int (nI (i % n))), none, none]) (r := []) d_262_176 mo_262 ml_263 mz_229 rfl rfl rfl (rr_wk (Nat.le_of_ble_eq_true rfl) (s_isotopes hcL hlL (by omega) (by omega))) (fun v1 g1 A1 h1 => ?_)
                    obtain ⟨rfl, rfl, w6, rfl, hw6⟩ := h1
                    rw [upd_u]
                    show RR _ _ 179 [some (.ref 146), none, some (.int (nI 1)), some (.int (nI (SM (atR n c) i))), some (.int (nI i)), some (.int (nI (n * n)))] [] (upd g 8 (nI n)) (rf_u (rf_u w3_ 4 w4_) 5 w6) _
                    refine rn_ic (v := 0) d_262_179 (by decide) ?_
                    refine rr_nx (pc' := 182) (al' := [some (.ref 146), none, some (.int (nI 1)), some (.int (nI (SM (atR n c) i))), some (.int (nI i)), some (.int (nI 0))]) (st' := []) d_262_180 (fun _ => rfl) ?_
                    refine rr_A (show (rf_u (rf_u w3_ 4 w4_) 5 w6) = (rf_u (rf_u w3_ 5 w6) 4 w4_) by exact rf_sw (by decide)) ?_
                    refine rr_upw (al := fun k5 w5_ => [some (.ref 146), none, some (.int (nI 1)), some (.int (nI (SM (atR n c) i))), some (.int (nI i)), some (.int (nI k5))]) (G := fun k5 w5_ => (upd g 8 (nI n))) (B := fun k5 w5_ => (rf_u (rf_u w3_ 5 w6) 4 w5_)) (P := fun k5 w5_ => ∀ q, q < k5 → w5_ q = nI (isK n c i q)) (n := n * n) (fun k5 w5_ hk5 pk5 ihk5 => ?_) (fun w5_ pk5 => ?_) 0 w4_ (by omega) (all_0)
                    · show RR _ _ 182 [some (.ref 146), none, some (.int (nI 1)), some (.int (nI (SM (atR n c) i))), some (.int (nI i)), some (.int (nI k5))] [] (upd g 8 (nI n)) (rf_u (rf_u w3_ 5 w6) 4 w5_) _
                      refine rr_nx (pc' := 184) (al' := [some (.ref 146), none, some (.int (nI 1)), some (.int (nI (SM (atR n c) i))), some (.int (nI i)), some (.int (nI k5))]) (st' := [.int (nI k5)]) d_262_182 (fun _ => rfl) ?_
                      refine rr_nx (pc' := 185) (al' := [some (.ref 146), none, some (.int (nI 1)), some (.int (nI (SM (atR n c) i))), some (.int (nI i)), some (.int (nI k5))]) (st' := [.ref 146, .int (nI k5)]) d_262_184 (fun _ => rfl) ?_
                      refine rr_gf (v := .int (g 6)) d_262_185 mo_262 fl_127 rfl ?_
                      refine rr_tp (z := nI n) (by first | exact hc.1 | exact hg6) ?_
                      refine rr_nx (pc' := 189) (al' := [some (.ref 146), none, some (.int (nI 1)), some (.int (nI (SM (atR n c) i))), some (.int (nI i)), some (.int (nI k5))]) (st' := [.ref 146, .int (nI n), .int (nI k5)]) d_262_188 (fun _ => rfl) ?_
                      refine rr_gf (v := .int (g 6)) d_262_189 mo_262 fl_127 rfl ?_
                      refine rr_tp (z := nI n) (by first | exact hc.1 | exact hg6) ?_
                      refine rn_mul d_262_192  ?_
                      refine rn_cge (t := 216) d_262_193 (by decide) (by first | omega | assumption | exact cu_36 (by omega) (cu_lt (by omega) (by omega))) (by first | omega | assumption | exact cu_36 (by omega) (cu_lt (by omega) (by omega))) (fun c193 => ?_) (fun c193 => ?_)
                      · omega
                      · refine rr_nx (pc' := 197) (al' := [some (.ref 146), none, some (.int (nI 1)), some (.int (nI (SM (atR n c) i))), some (.int (nI i)), some (.int (nI k5))]) (st' := [.ref 146]) d_262_196 (fun _ => rfl) ?_
                        refine rr_gf (v := .ref (147 + 4)) d_262_197 mo_262 fl_23 rfl ?_
                        refine rr_nx (pc' := 202) (al' := [some (.ref 146), none, some (.int (nI 1)), some (.int (nI (SM (atR n c) i))), some (.int (nI i)), some (.int (nI k5))]) (st' := [.int (nI k5), .ref (147 + 4)]) d_262_200 (fun _ => rfl) ?_
                        refine rr_nx (pc' := 203) (al' := [some (.ref 146), none, some (.int (nI 1)), some (.int (nI (SM (atR n c) i))), some (.int (nI i)), some (.int (nI k5))]) (st' := [.ref 146, .int (nI k5), .ref (147 + 4)]) d_262_202 (fun _ => rfl) ?_
                        refine rr_gf (v := .ref (147 + 5)) d_262_203 mo_262 fl_26 rfl ?_
                        refine rr_nx (pc' := 208) (al' := [some (.ref 146), none, some (.int (nI 1)), some (.int (nI (SM (atR n c) i))), some (.int (nI i)), some (.int (nI k5))]) (st' := [.int (nI k5), .ref (147 + 5), .int (nI k5), .ref (147 + 4)]) d_262_206 (fun _ => rfl) ?_
                        refine rr_ia (j := 5) (v := (nI (isK n c i k5))) d_262_208 (by decide) rfl (by decide) (show k5 < 36 by first | omega | assumption | exact cu_36 (by omega) (cu_lt (by omega) (by omega))) (hw6 k5 hk5) ?_
                        refine rr_iS (j := 4) (A1 := (rf_u (rf_u w3_ 5 w6) 4 (upd w5_ k5 (nI (isK n c i k5))))) d_262_209 (by decide) rfl (by decide) (show k5 < 36 by first | omega | assumption | exact cu_36 (by omega) (cu_lt (by omega) (by omega))) rf_uw ?_
                        refine rn_inc d_262_210 rfl rfl ?_
                        show RR _ _ 213 [some (.ref 146), none, some (.int (nI 1)), some (.int (nI (SM (atR n c) i))), some (.int (nI i)), some (.int (nI (k5 + 1)))] [] (upd g 8 (nI n)) (rf_u (rf_u w3_ 5 w6) 4 (upd w5_ k5 (nI (isK n c i k5)))) _
                        refine rr_nx (pc' := 182) (al' := [some (.ref 146), none, some (.int (nI 1)), some (.int (nI (SM (atR n c) i))), some (.int (nI i)), some (.int (nI (k5 + 1)))]) (st' := []) d_262_213 (fun _ => rfl) ?_
                        exact ihk5 (upd w5_ k5 (nI (isK n c i k5))) (up_all (f := fun q => nI (isK n c i q)) pk5 rfl)
                    · show RR _ _ 182 [some (.ref 146), none, some (.int (nI 1)), some (.int (nI (SM (atR n c) i))), some (.int (nI i)), some (.int (nI (n * n)))] [] (upd g 8 (nI n)) (rf_u (rf_u w3_ 5 w6) 4 w5_) _
                      refine rr_nx (pc' := 184) (al' := [some (.ref 146), none, some (.int (nI 1)), some (.int (nI (SM (atR n c) i))), some (.int (nI i)), some (.int (nI (n * n)))]) (st' := [.int (nI (n * n))]) d_262_182 (fun _ => rfl) ?_
                      refine rr_nx (pc' := 185) (al' := [some (.ref 146), none, some (.int (nI 1)), some (.int (nI (SM (atR n c) i))), some (.int (nI i)), some (.int (nI (n * n)))]) (st' := [.ref 146, .int (nI (n * n))]) d_262_184 (fun _ => rfl) ?_
                      refine rr_gf (v := .int (g 6)) d_262_185 mo_262 fl_127 rfl ?_
                      refine rr_tp (z := nI n) (by first | exact hc.1 | exact hg6) ?_
                      refine rr_nx (pc' := 189) (al' := [some (.ref 146), none, some (.int (nI 1)), some (.int (nI (SM (atR n c) i))), some (.int (nI i)), some (.int (nI (n * n)))]) (st' := [.ref 146, .int (nI n), .int (nI (n * n))]) d_262_188 (fun _ => rfl) ?_
                      refine rr_gf (v := .int (g 6)) d_262_189 mo_262 fl_127 rfl ?_
                      refine rr_tp (z := nI n) (by first | exact hc.1 | exact hg6) ?_
                      refine rn_mul d_262_192  ?_
                      refine rn_cge (t := 216) d_262_193 (by decide) (by first | omega | assumption | exact cu_36 (by omega) (cu_lt (by omega) (by omega))) (by first | omega | assumption | exact cu_36 (by omega) (cu_lt (by omega) (by omega))) (fun c193 => ?_) (fun c193 => ?_)
                      · refine rr_nx (pc' := 217) (al' := [some (.ref 146), none, some (.int (nI 1)), some (.int (nI (SM (atR n c) i))), some (.int (nI i)), some (.int (nI (n * n)))]) (st' := [.int (nI (SM (atR n c) i))]) d_262_216 (fun _ => rfl) ?_
                        refine rr_nx (pc' := 218) (al' := [some (.ref 146), none, some (.int (nI 1)), some (.int (nI (SM (atR n c) i))), some (.int (nI i)), some (.int (nI (n * n)))]) (st' := [.ref 146, .int (nI (SM (atR n c) i))]) d_262_217 (fun _ => rfl) ?_
                        refine rr_cv (as := []) (al0 := [some (.ref 146), none, none, none, none, none, none]) (r := [.int (nI (SM (atR n c) i))]) d_262_218 mo_262 ml_322 mz_263 rfl rfl rfl (rr_wk (Nat.le_of_ble_eq_true rfl) (s_ways ⟨hg6, hn6, fun q hq => ⟨by rw [rf_u_s]; exact pk5 q hq, hlK.1 q hq⟩⟩ (fun q hq => ⟨by rw [rf_u_n (by decide), rf_u_n (by decide)]; exact pi.1 q hq, hlL.1 q hq⟩))) (fun v1 g1 A1 h1 => ?_)
                        obtain ⟨q0_, q1_, w218, q9_⟩ := h1
                        obtain rfl := q0_
                        obtain rfl := q1_.symm
                        obtain rfl := q9_
                        show RR _ _ 221 [some (.ref 146), none, some (.int (nI 1)), some (.int (nI (SM (atR n c) i))), some (.int (nI i)), some (.int (nI (n * n)))] [.int (nI (wyN n (isK n c i) (isN n c 0 0))), .int (nI (SM (atR n c) i))] (upd g 8 (nI n)) (rf_u (rf_u (rf_u w3_ 5 w6) 4 w5_) 13 w218) _
                        refine rn_add d_262_221  ?_
                        refine rr_nx (pc' := 223) (al' := [some (.ref 146), none, some (.int (nI 1)), some (.int (nI ((SM (atR n c) i) + (wyN n (isK n c i) (isN n c 0 0))))), some (.int (nI i)), some (.int (nI (n * n)))]) (st' := []) d_262_222 (fun _ => rfl) ?_
                        refine rn_inc d_262_223 rfl rfl ?_
                        show RR _ _ 226 [some (.ref 146), none, some (.int (nI 1)), some (.int (nI ((SM (atR n c) i) + (wyN n (isK n c i) (isN n c 0 0))))), some (.int (nI (i + 1))), some (.int (nI (n * n)))] [] (upd g 8 (nI n)) (rf_u (rf_u (rf_u w3_ 5 w6) 4 w5_) 13 w218) _
                        refine rr_nx (pc' := 110) (al' := [some (.ref 146), none, some (.int (nI 1)), some (.int (nI ((SM (atR n c) i) + (wyN n (isK n c i) (isN n c 0 0))))), some (.int (nI (i + 1))), some (.int (nI (n * n)))]) (st' := []) d_262_226 (fun _ => rfl) ?_
                        refine rr_al (congrArg (fun z__ : Nat => ([some (.ref 146), none, some (.int (nI 1)), some (.int (nI z__)), some (.int (nI (i + 1))), some (.int (nI (n * n)))] : AL)) (show (SM (atR n c) i) + (wyN n (isK n c i) (isN n c 0 0)) = SM (atR n c) (i + 1) by rfl)) ?_
                        refine rr_dr (al1 := [some (.ref 146), none, some (.int (nI 1)), some (.int (nI (SM (atR n c) (i + 1)))), some (.int (nI (i + 1))), none]) (le_s (le_s (le_s (le_s (le_s (le_d rfl (le_n))))))) ?_
                        exact ihi (rf_u (rf_u (rf_u w3_ 5 w6) 4 w5_) 13 w218) (⟨fun q hq => by rw [rf_u_n (by decide), rf_u_n (by decide), rf_u_n (by decide)]; exact pi.1 q hq, ((pi.2.u (by decide)).u (by decide)).u (by decide)⟩)
                      · omega
                  · omega
            · show RR _ _ 110 [some (.ref 146), none, some (.int (nI 1)), some (.int (nI (SM (atR n c) (n * n)))), some (.int (nI (n * n))), none] [] (upd g 8 (nI n)) w3_ _
              refine rr_nx (pc' := 112) (al' := [some (.ref 146), none, some (.int (nI 1)), some (.int (nI (SM (atR n c) (n * n)))), some (.int (nI (n * n))), none]) (st' := [.int (nI (n * n))]) d_262_110 (fun _ => rfl) ?_
              refine rr_nx (pc' := 113) (al' := [some (.ref 146), none, some (.int (nI 1)), some (.int (nI (SM (atR n c) (n * n)))), some (.int (nI (n * n))), none]) (st' := [.ref 146, .int (nI (n * n))]) d_262_112 (fun _ => rfl) ?_
              refine rr_gf (v := .int (g 6)) d_262_113 mo_262 fl_127 rfl ?_
              refine rr_tp (z := nI n) (by first | exact hc.1 | exact hg6) ?_
              refine rr_nx (pc' := 117) (al' := [some (.ref 146), none, some (.int (nI 1)), some (.int (nI (SM (atR n c) (n * n)))), some (.int (nI (n * n))), none]) (st' := [.ref 146, .int (nI n), .int (nI (n * n))]) d_262_116 (fun _ => rfl) ?_
              refine rr_gf (v := .int (g 6)) d_262_117 mo_262 fl_127 rfl ?_
              refine rr_tp (z := nI n) (by first | exact hc.1 | exact hg6) ?_
              refine rn_mul d_262_120  ?_
              refine rn_cge (t := 229) d_262_121 (by decide) (by first | omega | assumption | exact cu_36 (by omega) (cu_lt (by omega) (by omega))) (by first | omega | assumption | exact cu_36 (by omega) (cu_lt (by omega) (by omega))) (fun c121 => ?_) (fun c121 => ?_)
              · refine rr_nx (pc' := 230) (al' := [some (.ref 146), none, some (.int (nI 1)), some (.int (nI (SM (atR n c) (n * n)))), some (.int (nI (n * n))), none]) (st' := [.int (nI (SM (atR n c) (n * n)))]) d_262_229 (fun _ => rfl) ?_
                exact rr_ri d_262_230 mr_262 rfl ⟨rfl, Gsm.rf.u (by decide), pi.2⟩
              · omega
          · omega
      · omega
    · omega
