/-! Tables filled in all ways: the reference, whole; printed by wip/whole/gen_c09.py. -/
/-- a filled table is told what to do -/
def LfC (n : Nat) (T : Nat → Option Nat) (P : (Nat → Nat) → Bool) (g : Nat → Int32) (A : Nat → Nat → Int32) : Prop := ∀ (s : Option Nat) (m L : Nat) (c : Nat → Nat) (g1 : Nat → Int32) (A1 : Nat → Nat → Int32), PLat n c (n * n) → (∀ q u, q < n * n → T q = some u → c q = u) → FiS n T (n * n) c g1 A1 → capO s m L → g1 44 = nI m → g1 45 = stI s → FiF g A g1 A1 → RR 25 275 0 [some (.ref 146), some (.int (nI (n * n))), none, none, none, none] [] g1 A1 (FiQ s m ([c].filter P) n T (n * n) c g1 A1)
theorem s_fi_a {n : Nat} {T : Nat → Option Nat} {s : Option Nat} (hn6 : n ≤ 6) (hn : 0 < n) {P : (Nat → Nat) → Bool} {g : Nat → Int32} {A : Nat → Nat → Int32} (hT : ∀ q u, T q = some u → u < 6) (hLf : LfC n T P g A) : ∀ (f k m : Nat) (c : Nat → Nat) (g1 : Nat → Int32) (A1 : Nat → Nat → Int32), k + f = n * n → PLat n c k → (∀ q u, q < k → T q = some u → c q = u) → FiS n T k c g1 A1 → capO s m (flL n T f k c).length → g1 44 = nI m → g1 45 = stI s → FiF g A g1 A1 → RR (f + 25) 275 0 [some (.ref 146), some (.int (nI k)), none, none, none, none] [] g1 A1 (FiQ s m ((flL n T f k c).filter P) n T k c g1 A1)
  | 0, k, m, c, g1, A1, hk, hl, ht, hS, hC, h44, h45, hF => by
    have hk : k = n * n := by omega
    subst hk
    exact rr_wk (by omega) (hLf s m _ c g1 A1 hl ht hS hC h44 h45 hF)
  | f + 1, k, m, c, g1, A1, hk, hl, ht, hS, hC, h44, h45, hF => by
    rw [show f + 1 + 25 = (f + 25) + 1 by omega]
    refine s_fi_s hn6 hn (by omega) hl hT hS hC h44 h45 (fun v hv hv6 htd hfr g2 A2 hS2 hC2 h442 h452 hF2 => ?_)
    rw [flX_t htd hfr] at hC2 ⊢
    exact s_fi_a hn6 hn hT hLf f (k + 1) _ (upN c k v) g2 A2 (by omega) (hl.s (by omega) hv hfr) (fun q u hq hq2 => by
      by_cases e : q = k
      · rw [e, upN_s]
        rw [e] at hq2
        exact ((td_s hq2).mp htd).symm
      · rw [upN_n e]
        exact ht q u (by omega) hq2) hS2 hC2 h442 h452 (hF.tr hF2)
theorem s_starts {g : Nat → Int32} {A : Nat → Nat → Int32} {n : Nat} {st : Int32} : RR 0 274 0 [some (.ref 146), some (.int (nI n)), some (.int st), none] [] g A (fun v g' A' => v = none ∧ g' = upd (upd (upd (upd g 6 (nI n)) 8 (nI n)) 45 st) 44 (nI 0) ∧ ∃ w x, A' = rf_u (rf_u A 23 w) 24 x ∧ (∀ q, q < 6 → w q = nI 0) ∧ ∀ q, q < 6 → x q = nI 0) := by
  refine rr_nx (pc' := 1) (al' := [some (.ref 146), some (.int (nI n)), some (.int st), none]) (st' := [.ref 146]) d_274_0 (fun _ => rfl) ?_
  refine rr_nx (pc' := 2) (al' := [some (.ref 146), some (.int (nI n)), some (.int st), none]) (st' := [.int (nI n), .ref 146]) d_274_1 (fun _ => rfl) ?_
  refine rp_6 d_274_2 mo_274 fl_127  ?_
  refine rr_nx (pc' := 6) (al' := [some (.ref 146), some (.int (nI n)), some (.int st), none]) (st' := [.ref 146]) d_274_5 (fun _ => rfl) ?_
  refine rr_nx (pc' := 7) (al' := [some (.ref 146), some (.int (nI n)), some (.int st), none]) (st' := [.int (nI n), .ref 146]) d_274_6 (fun _ => rfl) ?_
  refine rp_8 d_274_7 mo_274 fl_134  ?_
  refine rr_nx (pc' := 11) (al' := [some (.ref 146), some (.int (nI n)), some (.int st), none]) (st' := [.ref 146]) d_274_10 (fun _ => rfl) ?_
  refine rr_nx (pc' := 12) (al' := [some (.ref 146), some (.int (nI n)), some (.int st), none]) (st' := [.int st, .ref 146]) d_274_11 (fun _ => rfl) ?_
  refine rp_45 d_274_12 mo_274 fl_340  ?_
  refine rr_nx (pc' := 16) (al' := [some (.ref 146), some (.int (nI n)), some (.int st), none]) (st' := [.ref 146]) d_274_15 (fun _ => rfl) ?_
  refine rn_ic (v := 0) d_274_16 (by decide) ?_
  refine rp_44 d_274_17 mo_274 fl_337  ?_
  refine rn_ic (v := 0) d_274_20 (by decide) ?_
  refine rr_nx (pc' := 22) (al' := [some (.ref 146), some (.int (nI n)), some (.int st), some (.int (nI 0))]) (st' := []) d_274_21 (fun _ => rfl) ?_
  refine rr_A (show A = (rf_u (rf_u A 23 ((A 23, A 24).1)) 24 ((A 23, A 24).2)) by rw [rf_u_id, rf_u_id]) ?_
  refine rr_upw (al := fun i w_ => [some (.ref 146), some (.int (nI n)), some (.int st), some (.int (nI i))]) (G := fun i w_ => (upd (upd (upd (upd g 6 (nI n)) 8 (nI n)) 45 st) 44 (nI 0))) (B := fun i w_ => (rf_u (rf_u A 23 w_.1) 24 w_.2)) (P := fun i w_ => (∀ q, q < i → w_.1 q = nI 0) ∧ ∀ q, q < i → w_.2 q = nI 0) (n := 6) (fun i w_ hi pi ihi => ?_) (fun w_ pi => ?_) 0 (A 23, A 24) (by omega) (⟨all_0, all_0⟩)
  · show RR _ _ 22 [some (.ref 146), some (.int (nI n)), some (.int st), some (.int (nI i))] [] (upd (upd (upd (upd g 6 (nI n)) 8 (nI n)) 45 st) 44 (nI 0)) (rf_u (rf_u A 23 w_.1) 24 w_.2) _
    refine rr_nx (pc' := 23) (al' := [some (.ref 146), some (.int (nI n)), some (.int st), some (.int (nI i))]) (st' := [.int (nI i)]) d_274_22 (fun _ => rfl) ?_
    refine rn_bp (v := 6) d_274_23 (by decide) ?_
    refine rn_cge (t := 48) d_274_25 (by decide) (by first | omega | assumption | exact cu_36 (by omega) (cu_lt (by omega) (by omega))) (by first | omega | assumption | exact cu_36 (by omega) (cu_lt (by omega) (by omega))) (fun c25 => ?_) (fun c25 => ?_)
    · omega
    · refine rr_nx (pc' := 29) (al' := [some (.ref 146), some (.int (nI n)), some (.int st), some (.int (nI i))]) (st' := [.ref 146]) d_274_28 (fun _ => rfl) ?_
      refine rr_gf (v := .ref (147 + 23)) d_274_29 mo_274 fl_85 rfl ?_
      refine rr_nx (pc' := 33) (al' := [some (.ref 146), some (.int (nI n)), some (.int st), some (.int (nI i))]) (st' := [.int (nI i), .ref (147 + 23)]) d_274_32 (fun _ => rfl) ?_
      refine rn_ic (v := 0) d_274_33 (by decide) ?_
      refine rr_iS (j := 23) (A1 := (rf_u (rf_u A 23 (upd w_.1 i (nI 0))) 24 w_.2)) d_274_34 (by decide) rfl (by decide) (show i < 6 by first | omega | assumption | exact cu_36 (by omega) (cu_lt (by omega) (by omega))) (by funext q__; simp only [rf_u]; split <;> simp_all) ?_
      refine rr_nx (pc' := 36) (al' := [some (.ref 146), some (.int (nI n)), some (.int st), some (.int (nI i))]) (st' := [.ref 146]) d_274_35 (fun _ => rfl) ?_
      refine rr_gf (v := .ref (147 + 24)) d_274_36 mo_274 fl_88 rfl ?_
      refine rr_nx (pc' := 40) (al' := [some (.ref 146), some (.int (nI n)), some (.int st), some (.int (nI i))]) (st' := [.int (nI i), .ref (147 + 24)]) d_274_39 (fun _ => rfl) ?_
      refine rn_ic (v := 0) d_274_40 (by decide) ?_
      refine rr_iS (j := 24) (A1 := (rf_u (rf_u A 23 (upd w_.1 i (nI 0))) 24 (upd w_.2 i (nI 0)))) d_274_41 (by decide) rfl (by decide) (show i < 6 by first | omega | assumption | exact cu_36 (by omega) (cu_lt (by omega) (by omega))) rf_uw ?_
      refine rn_inc d_274_42 rfl rfl ?_
      show RR _ _ 45 [some (.ref 146), some (.int (nI n)), some (.int st), some (.int (nI (i + 1)))] [] (upd (upd (upd (upd g 6 (nI n)) 8 (nI n)) 45 st) 44 (nI 0)) (rf_u (rf_u A 23 (upd w_.1 i (nI 0))) 24 (upd w_.2 i (nI 0))) _
      refine rr_nx (pc' := 22) (al' := [some (.ref 146), some (.int (nI n)), some (.int st), some (.int (nI (i + 1)))]) (st' := []) d_274_45 (fun _ => rfl) ?_
      exact ihi ((upd w_.1 i (nI 0)), (upd w_.2 i (nI 0))) (⟨up_all (f := fun _ => nI 0) pi.1 rfl, up_all (f := fun _ => nI 0) pi.2 rfl⟩)
  · show RR _ _ 22 [some (.ref 146), some (.int (nI n)), some (.int st), some (.int (nI 6))] [] (upd (upd (upd (upd g 6 (nI n)) 8 (nI n)) 45 st) 44 (nI 0)) (rf_u (rf_u A 23 w_.1) 24 w_.2) _
    refine rr_nx (pc' := 23) (al' := [some (.ref 146), some (.int (nI n)), some (.int st), some (.int (nI 6))]) (st' := [.int (nI 6)]) d_274_22 (fun _ => rfl) ?_
    refine rn_bp (v := 6) d_274_23 (by decide) ?_
    refine rn_cge (t := 48) d_274_25 (by decide) (by first | omega | assumption | exact cu_36 (by omega) (cu_lt (by omega) (by omega))) (by first | omega | assumption | exact cu_36 (by omega) (cu_lt (by omega) (by omega))) (fun c25 => ?_) (fun c25 => ?_)
    · exact rr_rv d_274_48 mr_274 ⟨rfl, rfl, w_.1, w_.2, rfl, pi.1, pi.2⟩
    · omega
theorem f3_0 {br : Nat → Nat → Nat → Bool} {xs ys zs : Nat} : f3N br ys zs xs = 0 ↔ NoT br xs ys zs := by
  constructor
  · intro h p hp q hq r hr
    cases e : br p q r
    · rfl
    · exfalso
      have h1 : 0 < f1N br p q zs := by
        have h2 : f1N br p q (r + 1) ≤ f1N br p q zs := SM_gr hr
        rw [f1_t e] at h2
        omega
      have h2 : f2N br zs p q + f1N br p q zs ≤ f2N br zs p ys := SM_gr (f := fun k => f1N br p k zs) (show q + 1 ≤ ys from hq)
      have h3 : f3N br ys zs p + f2N br zs p ys ≤ f3N br ys zs xs := SM_gr (f := fun k => f2N br zs k ys) (show p + 1 ≤ xs from hp)
      omega
  · intro h
    refine SM_0s (fun p hp => SM_0s (fun q hq => SM_0s (fun r hr => ?_)))
    rw [h p hp q hq r hr]
    rfl
/-- at how many values a law that was read is broken -/
def lwC (n : Nat) (c : Nat → Nat) (e : Nat) (cod : Nat → Nat) (N : Nat) : Nat := f3N (fun x y z => lwB cod (vlF x y z e) (jnW n c) 401) (spN n (lwR cod N 401).2.2.1 1) (spN n (lwR cod N 401).2.2.1 2) (spN n (lwR cod N 401).2.2.1 0)
/-- a law that was read stands in kept -/
def LwO (l : Nat) (N : Nat) (cod : Nat → Nat) (A : Nat → Nat → Int32) : Prop := LwK l N cod A ∧ (lwR cod N 401).1 = true
theorem LwO.v {l N : Nat} {cod : Nat → Nat} {A : Nat → Nat → Int32} (h : LwO l N cod A) : LwV cod N 401 (lwR cod N 401).2.2.1 (lwR cod N 401).2.2.2 := lw_v h.1.1.2.2 h.2
/-- what reckoning leaves alone -/
def Gt0 (g : Nat → Int32) (A : Nat → Nat → Int32) (g' : Nat → Int32) (A' : Nat → Nat → Int32) : Prop := (∀ k, k < 24 ∨ 30 ≤ k → g' k = g k) ∧ ∀ j, j ≠ 12 → A' j = A j
theorem Gt0.tr {g : Nat → Int32} {A : Nat → Nat → Int32} {g1 : Nat → Int32} {A1 : Nat → Nat → Int32} {g2 : Nat → Int32} {A2 : Nat → Nat → Int32} (h : Gt0 g A g1 A1) (h2 : Gt0 g1 A1 g2 A2) : Gt0 g A g2 A2 := ⟨fun k a => (h2.1 k a).trans (h.1 k a), fun j a => (h2.2 j a).trans (h.2 j a)⟩
theorem Gt0.rf {g : Nat → Int32} {A : Nat → Nat → Int32} : Gt0 g A g A := ⟨fun _ _ => rfl, fun _ _ => rfl⟩
theorem LwO.g {l N : Nat} {cod : Nat → Nat} {g : Nat → Int32} {A : Nat → Nat → Int32} {g' : Nat → Int32} {A' : Nat → Nat → Int32} (h : LwO l N cod A) (hg : Gt0 g A g' A') : LwO l N cod A' := by
  unfold LwO LwK
  rw [hg.2 1 (by decide)]
  exact h
theorem Cur.g0 {n : Nat} {c : Nat → Nat} {g : Nat → Int32} {A : Nat → Nat → Int32} {g' : Nat → Int32} {A' : Nat → Nat → Int32} (h : Cur g A n c) (hg : Gt0 g A g' A') : Cur g' A' n c := by
  unfold Cur
  rw [hg.1 6 (by omega), hg.2 4 (by decide)]
  exact h
theorem s_isSo {g : Nat → Int32} {A : Nat → Nat → Int32} {l N n e : Nat} {cod c : Nat → Nat} (hO : LwO l N cod A) (hc : Cur g A n c) (hl : Lat n c) (he : e < n) (hu : (if unV 0 n c = -1 then nI 0 else unV 0 n c) = nI e) : RR 23 209 0 [some (.ref 146), some (.int (nI l))] [] g A (fun v g' A' => v = some (.int (bI (lwC n c e cod N = 0))) ∧ Gt0 g A g' A') := by
  refine rr_nx (pc' := 1) (al' := [some (.ref 146), some (.int (nI l))]) (st' := [.ref 146]) d_209_0 (fun _ => rfl) ?_
  refine rr_nx (pc' := 2) (al' := [some (.ref 146), some (.int (nI l))]) (st' := [.int (nI l), .ref 146]) d_209_1 (fun _ => rfl) ?_
  refine rn_ic (v := 1) d_209_2 (by decide) ?_
  refine rr_cv (as := [.int (nI l), .int (nI 1)]) (al0 := [some (.ref 146), some (.int (nI l)), some (.int (nI 1)), none, none, none, none]) (r := []) d_209_3 mo_209 ml_241 mz_210 rfl rfl rfl (rr_wk (Nat.le_of_ble_eq_true rfl) (s_goes1 hO.1 hc hl (by have := hO.1.1.2.1; omega) hO.2 he (sp_R (k := 0) hO.v (by decide)) (sp_R (k := 1) hO.v (by decide)) (sp_R (k := 2) hO.v (by decide)) hu)) (fun v1 g1 A1 h1 => ?_)
  obtain ⟨q0_, hG, hD⟩ := h1
  obtain rfl := q0_
  have hq : g1 26 = nI (1 - (if lwC n c e cod N = 0 then 1 else 0)) := hD.elim (fun h_ => by rw [h_.1, if_pos (show lwC n c e cod N = 0 from f3_0.mpr h_.2)]) (fun h_ => by obtain ⟨_, _, _, h2_⟩ := h_.2; rw [h_.1, if_neg (show ¬ lwC n c e cod N = 0 from fun e_ => h2_.no (f3_0.mp e_))])
  show RR _ _ 6 [some (.ref 146), some (.int (nI l))] [] g1 A1 _
  refine rr_nx (pc' := 7) (al' := [some (.ref 146), some (.int (nI l))]) (st' := [.ref 146]) d_209_6 (fun _ => rfl) ?_
  refine rr_gn d_209_7 mo_209 fl_226 rfl hq ?_
  refine rn_ine (t := 17) d_209_10 (by decide) (by first | omega | assumption | exact cu_36 (by omega) (cu_lt (by omega) (by omega))) (fun c10 => ?_) (fun c10 => ?_)
  · refine rn_ic (v := 0) d_209_17 (by decide) ?_
    exact rr_ri d_209_18 mr_209 (by decide) ⟨by rw [← bI_f (p := lwC n c e cod N = 0) (fun h_ => by rw [if_pos h_] at c10; omega)], hG.1, hG.2.1⟩
  · refine rn_ic (v := 1) d_209_13 (by decide) ?_
    refine rr_nx (pc' := 18) (al' := [some (.ref 146), some (.int (nI l))]) (st' := [.int (nI 1)]) d_209_14 (fun _ => rfl) ?_
    exact rr_ri d_209_18 mr_209 (by decide) ⟨by rw [← bI_t (p := lwC n c e cod N = 0) (Decidable.byContradiction fun h_ => by rw [if_neg h_] at c10; omega)], hG.1, hG.2.1⟩
/-- whether a table is listed -/
def lsB (K : Nat) (cds : Nat → Nat → Nat) (Ns : Nat → Nat) (hold no n : Nat) (c : Nat → Nat) : Bool := (List.range K).all fun l => (!hold.testBit l || decide (lwC n c 0 (cds l) (Ns l) = 0)) && (!no.testBit l || decide (¬ lwC n c 0 (cds l) (Ns l) = 0))
theorem ls_iff {K : Nat} {cds : Nat → Nat → Nat} {Ns : Nat → Nat} {hold no n : Nat} {c : Nat → Nat} : lsB K cds Ns hold no n c = true ↔ ∀ l, l < K → (hold.testBit l = true → lwC n c 0 (cds l) (Ns l) = 0) ∧ (no.testBit l = true → ¬ lwC n c 0 (cds l) (Ns l) = 0) := by
  unfold lsB
  rw [List.all_eq_true]
  constructor
  · intro h l hl
    have := h l (List.mem_range.mpr hl)
    rw [Bool.and_eq_true, Bool.or_eq_true, Bool.or_eq_true, decide_eq_true_iff, decide_eq_true_iff] at this
    refine ⟨fun e => this.1.elim (fun q => ?_) id, fun e => this.2.elim (fun q => ?_) id⟩
    · rw [e] at q; cases q
    · rw [e] at q; cases q
  · intro h l hl
    have := h l (List.mem_range.mp hl)
    rw [Bool.and_eq_true, Bool.or_eq_true, Bool.or_eq_true, decide_eq_true_iff, decide_eq_true_iff]
    constructor
    · cases e : hold.testBit l
      · exact Or.inl rfl
      · exact Or.inr (this.1 e)
    · cases e : no.testBit l
      · exact Or.inl rfl
      · exact Or.inr (this.2 e)
def LkA (K : Nat) (cds : Nat → Nat → Nat) (Ns : Nat → Nat) (A : Nat → Nat → Int32) : Prop := K ≤ 8 ∧ A 1 2509 = nI K ∧ ∀ l, l < K → LwO l (Ns l) (cds l) A
theorem LkA.g {K : Nat} {cds : Nat → Nat → Nat} {Ns : Nat → Nat} {g : Nat → Int32} {A : Nat → Nat → Int32} {g' : Nat → Int32} {A' : Nat → Nat → Int32} (h : LkA K cds Ns A) (hg : Gt0 g A g' A') : LkA K cds Ns A' := ⟨h.1, by rw [hg.2 1 (by decide)]; exact h.2.1, fun l hl => (h.2.2 l hl).g hg⟩
theorem s_isListed {g : Nat → Int32} {A : Nat → Nat → Int32} {K n hold no : Nat} {cds : Nat → Nat → Nat} {Ns : Nat → Nat} {c : Nat → Nat} (hK : LkA K cds Ns A) (hc : Cur g A n c) (hla : Lat n c) (h0n : 0 < n) (hu : (if unV 0 n c = -1 then nI 0 else unV 0 n c) = nI 0) (h46 : g 46 = nI hold) (h47 : g 47 = nI no) (hh : hold < 256) (hn2 : no < 256) : RR 24 276 0 [some (.ref 146), none, none, none, none] [] g A (fun v g' A' => v = some (.int (bI (lsB K cds Ns hold no n c = true))) ∧ Gt0 g A g' A') := by
  have hK8 := hK.1
  refine rn_ic (v := 0) d_276_0 (by decide) ?_
  refine rr_nx (pc' := 2) (al' := [some (.ref 146), some (.int (nI 0)), none, none, none]) (st' := []) d_276_1 (fun _ => rfl) ?_
  refine rr_upw (al := fun l w_ => [some (.ref 146), some (.int (nI l)), none, none, none]) (G := fun l w_ => w_.1) (B := fun l w_ => w_.2) (P := fun l w_ => Gt0 g A w_.1 w_.2 ∧ ∀ p, p < l → (hold.testBit p = true → lwC n c 0 (cds p) (Ns p) = 0) ∧ (no.testBit p = true → ¬ lwC n c 0 (cds p) (Ns p) = 0)) (n := K) (fun l w_ hl pl ihl => ?_) (fun w_ pl => ?_) 0 (g, A) (by omega) (⟨Gt0.rf, fun l h => absurd h (Nat.not_lt_zero l)⟩)
  · show RR _ _ 2 [some (.ref 146), some (.int (nI l)), none, none, none] [] w_.1 w_.2 _
    refine rr_nx (pc' := 3) (al' := [some (.ref 146), some (.int (nI l)), none, none, none]) (st' := [.int (nI l)]) d_276_2 (fun _ => rfl) ?_
    refine rr_nx (pc' := 4) (al' := [some (.ref 146), some (.int (nI l)), none, none, none]) (st' := [.ref 146, .int (nI l)]) d_276_3 (fun _ => rfl) ?_
    refine rr_gf (v := .ref (147 + 1)) d_276_4 mo_276 fl_13 rfl ?_
    refine rn_sp (v := 2509) d_276_7 (by decide) ?_
    refine rr_ia (j := 1) (v := (nI K)) d_276_10 (by decide) rfl (by decide) (show 2509 < 5720 by first | omega | assumption | exact cu_36 (by omega) (cu_lt (by omega) (by omega))) ((congrFun (pl.1.2 1 (by decide)) _).trans hK.2.1) ?_
    refine rn_cge (t := 94) d_276_11 (by decide) (by first | omega | assumption | exact cu_36 (by omega) (cu_lt (by omega) (by omega))) (by first | omega | assumption | exact cu_36 (by omega) (cu_lt (by omega) (by omega))) (fun c11 => ?_) (fun c11 => ?_)
    · omega
    · refine rr_nx (pc' := 15) (al' := [some (.ref 146), some (.int (nI l)), none, none, none]) (st' := [.ref 146]) d_276_14 (fun _ => rfl) ?_
      refine rr_gn d_276_15 mo_276 fl_352 rfl ((pl.1.1 46 (by omega)).trans h46) ?_
      refine rr_nx (pc' := 19) (al' := [some (.ref 146), some (.int (nI l)), none, none, none]) (st' := [.int (nI l), .int (nI hold)]) d_276_18 (fun _ => rfl) ?_
      refine rn_shr d_276_19 (by omega) (by omega) ?_
      refine rn_ic (v := 1) d_276_20 (by decide) ?_
      refine rn_and d_276_21 ?_
      refine rn_ic (v := 1) d_276_22 (by decide) ?_
      refine rn_cne (t := 30) d_276_23 (by decide) (by have := bt_lt hold l; omega) (by decide) (fun c23 => ?_) (fun c23 => ?_)
      · have z23 : hold / 2 ^ l &&& 1 = 0 := by have := bt_lt hold l; omega
        refine rn_ic (v := 0) d_276_30 (by decide) ?_
        refine rr_nx (pc' := 32) (al' := [some (.ref 146), some (.int (nI l)), some (.int (nI 0)), none, none]) (st' := []) d_276_31 (fun _ => rfl) ?_
        refine rr_nx (pc' := 33) (al' := [some (.ref 146), some (.int (nI l)), some (.int (nI 0)), none, none]) (st' := [.ref 146]) d_276_32 (fun _ => rfl) ?_
        refine rr_gn d_276_33 mo_276 fl_355 rfl ((pl.1.1 47 (by omega)).trans h47) ?_
        refine rr_nx (pc' := 37) (al' := [some (.ref 146), some (.int (nI l)), some (.int (nI 0)), none, none]) (st' := [.int (nI l), .int (nI no)]) d_276_36 (fun _ => rfl) ?_
        refine rn_shr d_276_37 (by omega) (by omega) ?_
        refine rn_ic (v := 1) d_276_38 (by decide) ?_
        refine rn_and d_276_39 ?_
        refine rn_ic (v := 1) d_276_40 (by decide) ?_
        refine rn_cne (t := 48) d_276_41 (by decide) (by have := bt_lt no l; omega) (by decide) (fun c41 => ?_) (fun c41 => ?_)
        · have z41 : no / 2 ^ l &&& 1 = 0 := by have := bt_lt no l; omega
          refine rn_ic (v := 0) d_276_48 (by decide) ?_
          refine rr_nx (pc' := 50) (al' := [some (.ref 146), some (.int (nI l)), some (.int (nI 0)), some (.int (nI 0)), none]) (st' := []) d_276_49 (fun _ => rfl) ?_
          refine rr_nx (pc' := 51) (al' := [some (.ref 146), some (.int (nI l)), some (.int (nI 0)), some (.int (nI 0)), none]) (st' := [.int (nI 0)]) d_276_50 (fun _ => rfl) ?_
          refine rn_ine (t := 61) d_276_51 (by decide) (by first | omega | assumption | exact cu_36 (by omega) (cu_lt (by omega) (by omega))) (fun c51 => ?_) (fun c51 => ?_)
          · omega
          · refine rr_nx (pc' := 55) (al' := [some (.ref 146), some (.int (nI l)), some (.int (nI 0)), some (.int (nI 0)), none]) (st' := [.int (nI 0)]) d_276_54 (fun _ => rfl) ?_
            refine rn_ine (t := 61) d_276_55 (by decide) (by first | omega | assumption | exact cu_36 (by omega) (cu_lt (by omega) (by omega))) (fun c55 => ?_) (fun c55 => ?_)
            · omega
            · refine rr_nx (pc' := 88) (al' := [some (.ref 146), some (.int (nI l)), some (.int (nI 0)), some (.int (nI 0)), none]) (st' := []) d_276_58 (fun _ => rfl) ?_
              refine rn_inc d_276_88 rfl rfl ?_
              show RR _ _ 91 [some (.ref 146), some (.int (nI (l + 1))), some (.int (nI 0)), some (.int (nI 0)), none] [] w_.1 w_.2 _
              refine rr_nx (pc' := 2) (al' := [some (.ref 146), some (.int (nI (l + 1))), some (.int (nI 0)), some (.int (nI 0)), none]) (st' := []) d_276_91 (fun _ => rfl) ?_
              refine rr_dr (al1 := [some (.ref 146), some (.int (nI (l + 1))), none, none, none]) (le_s (le_s (le_d rfl (le_d rfl (le_s (le_n)))))) ?_
              exact ihl w_ (⟨pl.1, all_s (p := fun p => (hold.testBit p = true → lwC n c 0 (cds p) (Ns p) = 0) ∧ (no.testBit p = true → ¬ lwC n c 0 (cds p) (Ns p) = 0)) pl.2 ⟨fun h_ => absurd h_ (by rw [bt_e0.mp z23]; exact Bool.false_ne_true), fun h_ => absurd h_ (by rw [bt_e0.mp z41]; exact Bool.false_ne_true)⟩⟩)
        · have z41 := bt_e1.mp c41
          refine rn_ic (v := 1) d_276_44 (by decide) ?_
          refine rr_nx (pc' := 49) (al' := [some (.ref 146), some (.int (nI l)), some (.int (nI 0)), none, none]) (st' := [.int (nI 1)]) d_276_45 (fun _ => rfl) ?_
          refine rr_nx (pc' := 50) (al' := [some (.ref 146), some (.int (nI l)), some (.int (nI 0)), some (.int (nI 1)), none]) (st' := []) d_276_49 (fun _ => rfl) ?_
          refine rr_nx (pc' := 51) (al' := [some (.ref 146), some (.int (nI l)), some (.int (nI 0)), some (.int (nI 1)), none]) (st' := [.int (nI 0)]) d_276_50 (fun _ => rfl) ?_
          refine rn_ine (t := 61) d_276_51 (by decide) (by first | omega | assumption | exact cu_36 (by omega) (cu_lt (by omega) (by omega))) (fun c51 => ?_) (fun c51 => ?_)
          · omega
          · refine rr_nx (pc' := 55) (al' := [some (.ref 146), some (.int (nI l)), some (.int (nI 0)), some (.int (nI 1)), none]) (st' := [.int (nI 1)]) d_276_54 (fun _ => rfl) ?_
            refine rn_ine (t := 61) d_276_55 (by decide) (by first | omega | assumption | exact cu_36 (by omega) (cu_lt (by omega) (by omega))) (fun c55 => ?_) (fun c55 => ?_)
            · refine rr_nx (pc' := 62) (al' := [some (.ref 146), some (.int (nI l)), some (.int (nI 0)), some (.int (nI 1)), none]) (st' := [.ref 146]) d_276_61 (fun _ => rfl) ?_
              refine rr_nx (pc' := 63) (al' := [some (.ref 146), some (.int (nI l)), some (.int (nI 0)), some (.int (nI 1)), none]) (st' := [.int (nI l), .ref 146]) d_276_62 (fun _ => rfl) ?_
              refine rr_cv (as := [.int (nI l)]) (al0 := [some (.ref 146), some (.int (nI l))]) (r := []) d_276_63 mo_276 ml_251 mz_209 rfl rfl rfl (rr_wk (Nat.le_of_ble_eq_true rfl) (s_isSo ((hK.2.2 l hl).g pl.1) (hc.g0 pl.1) hla h0n hu)) (fun v1 g1 A1 h1 => ?_)
              obtain ⟨q0_, hG⟩ := h1
              obtain rfl := q0_
              show RR _ _ 66 [some (.ref 146), some (.int (nI l)), some (.int (nI 0)), some (.int (nI 1)), none] [.int (bI (lwC n c 0 (cds l) (Ns l) = 0))] g1 A1 _
              refine rr_nx (pc' := 68) (al' := [some (.ref 146), some (.int (nI l)), some (.int (nI 0)), some (.int (nI 1)), some (.int (bI (lwC n c 0 (cds l) (Ns l) = 0)))]) (st' := []) d_276_66 (fun _ => rfl) ?_
              refine rr_nx (pc' := 69) (al' := [some (.ref 146), some (.int (nI l)), some (.int (nI 0)), some (.int (nI 1)), some (.int (bI (lwC n c 0 (cds l) (Ns l) = 0)))]) (st' := [.int (nI 0)]) d_276_68 (fun _ => rfl) ?_
              refine rn_ieq (t := 77) d_276_69 (by decide) (by first | omega | assumption | exact cu_36 (by omega) (cu_lt (by omega) (by omega))) (fun c69 => ?_) (fun c69 => ?_)
              · refine rr_nx (pc' := 78) (al' := [some (.ref 146), some (.int (nI l)), some (.int (nI 0)), some (.int (nI 1)), some (.int (bI (lwC n c 0 (cds l) (Ns l) = 0)))]) (st' := [.int (nI 1)]) d_276_77 (fun _ => rfl) ?_
                refine rn_ieq (t := 88) d_276_78 (by decide) (by first | omega | assumption | exact cu_36 (by omega) (cu_lt (by omega) (by omega))) (fun c78 => ?_) (fun c78 => ?_)
                · omega
                · refine rr_nx (pc' := 83) (al' := [some (.ref 146), some (.int (nI l)), some (.int (nI 0)), some (.int (nI 1)), some (.int (bI (lwC n c 0 (cds l) (Ns l) = 0)))]) (st' := [.int (bI (lwC n c 0 (cds l) (Ns l) = 0))]) d_276_81 (fun _ => rfl) ?_
                  refine rr_beq (t := 88) d_276_83 (by decide) (fun c83 => ?_) (fun c83 => ?_)
                  · refine rn_inc d_276_88 rfl rfl ?_
                    show RR _ _ 91 [some (.ref 146), some (.int (nI (l + 1))), some (.int (nI 0)), some (.int (nI 1)), some (.int (bI (lwC n c 0 (cds l) (Ns l) = 0)))] [] g1 A1 _
                    refine rr_nx (pc' := 2) (al' := [some (.ref 146), some (.int (nI (l + 1))), some (.int (nI 0)), some (.int (nI 1)), some (.int (bI (lwC n c 0 (cds l) (Ns l) = 0)))]) (st' := []) d_276_91 (fun _ => rfl) ?_
                    refine rr_dr (al1 := [some (.ref 146), some (.int (nI (l + 1))), none, none, none]) (le_s (le_s (le_d rfl (le_d rfl (le_d rfl (le_n)))))) ?_
                    exact ihl (g1, A1) (⟨pl.1.tr hG, all_s (p := fun p => (hold.testBit p = true → lwC n c 0 (cds p) (Ns p) = 0) ∧ (no.testBit p = true → ¬ lwC n c 0 (cds p) (Ns p) = 0)) pl.2 ⟨fun h_ => absurd h_ (by rw [bt_e0.mp z23]; exact Bool.false_ne_true), fun _ => c83⟩⟩)
                  · refine rn_ic (v := 0) d_276_86 (by decide) ?_
                    exact rr_ri d_276_87 mr_276 (by decide) ⟨by rw [← bI_f (fun e_ => (fun h_ => (h_ l hl).2 z41 c83) (ls_iff.mp e_))], pl.1.tr hG⟩
              · omega
            · omega
      · have z23 := bt_e1.mp c23
        refine rn_ic (v := 1) d_276_26 (by decide) ?_
        refine rr_nx (pc' := 31) (al' := [some (.ref 146), some (.int (nI l)), none, none, none]) (st' := [.int (nI 1)]) d_276_27 (fun _ => rfl) ?_
        refine rr_nx (pc' := 32) (al' := [some (.ref 146), some (.int (nI l)), some (.int (nI 1)), none, none]) (st' := []) d_276_31 (fun _ => rfl) ?_
        refine rr_nx (pc' := 33) (al' := [some (.ref 146), some (.int (nI l)), some (.int (nI 1)), none, none]) (st' := [.ref 146]) d_276_32 (fun _ => rfl) ?_
        refine rr_gn d_276_33 mo_276 fl_355 rfl ((pl.1.1 47 (by omega)).trans h47) ?_
        refine rr_nx (pc' := 37) (al' := [some (.ref 146), some (.int (nI l)), some (.int (nI 1)), none, none]) (st' := [.int (nI l), .int (nI no)]) d_276_36 (fun _ => rfl) ?_
        refine rn_shr d_276_37 (by omega) (by omega) ?_
        refine rn_ic (v := 1) d_276_38 (by decide) ?_
        refine rn_and d_276_39 ?_
        refine rn_ic (v := 1) d_276_40 (by decide) ?_
        refine rn_cne (t := 48) d_276_41 (by decide) (by have := bt_lt no l; omega) (by decide) (fun c41 => ?_) (fun c41 => ?_)
        · have z41 : no / 2 ^ l &&& 1 = 0 := by have := bt_lt no l; omega
          refine rn_ic (v := 0) d_276_48 (by decide) ?_
          refine rr_nx (pc' := 50) (al' := [some (.ref 146), some (.int (nI l)), some (.int (nI 1)), some (.int (nI 0)), none]) (st' := []) d_276_49 (fun _ => rfl) ?_
          refine rr_nx (pc' := 51) (al' := [some (.ref 146), some (.int (nI l)), some (.int (nI 1)), some (.int (nI 0)), none]) (st' := [.int (nI 1)]) d_276_50 (fun _ => rfl) ?_
          refine rn_ine (t := 61) d_276_51 (by decide) (by first | omega | assumption | exact cu_36 (by omega) (cu_lt (by omega) (by omega))) (fun c51 => ?_) (fun c51 => ?_)
          · refine rr_nx (pc' := 62) (al' := [some (.ref 146), some (.int (nI l)), some (.int (nI 1)), some (.int (nI 0)), none]) (st' := [.ref 146]) d_276_61 (fun _ => rfl) ?_
            refine rr_nx (pc' := 63) (al' := [some (.ref 146), some (.int (nI l)), some (.int (nI 1)), some (.int (nI 0)), none]) (st' := [.int (nI l), .ref 146]) d_276_62 (fun _ => rfl) ?_
            refine rr_cv (as := [.int (nI l)]) (al0 := [some (.ref 146), some (.int (nI l))]) (r := []) d_276_63 mo_276 ml_251 mz_209 rfl rfl rfl (rr_wk (Nat.le_of_ble_eq_true rfl) (s_isSo ((hK.2.2 l hl).g pl.1) (hc.g0 pl.1) hla h0n hu)) (fun v1 g1 A1 h1 => ?_)
            obtain ⟨q0_, hG⟩ := h1
            obtain rfl := q0_
            show RR _ _ 66 [some (.ref 146), some (.int (nI l)), some (.int (nI 1)), some (.int (nI 0)), none] [.int (bI (lwC n c 0 (cds l) (Ns l) = 0))] g1 A1 _
            refine rr_nx (pc' := 68) (al' := [some (.ref 146), some (.int (nI l)), some (.int (nI 1)), some (.int (nI 0)), some (.int (bI (lwC n c 0 (cds l) (Ns l) = 0)))]) (st' := []) d_276_66 (fun _ => rfl) ?_
            refine rr_nx (pc' := 69) (al' := [some (.ref 146), some (.int (nI l)), some (.int (nI 1)), some (.int (nI 0)), some (.int (bI (lwC n c 0 (cds l) (Ns l) = 0)))]) (st' := [.int (nI 1)]) d_276_68 (fun _ => rfl) ?_
            refine rn_ieq (t := 77) d_276_69 (by decide) (by first | omega | assumption | exact cu_36 (by omega) (cu_lt (by omega) (by omega))) (fun c69 => ?_) (fun c69 => ?_)
            · omega
            · refine rr_nx (pc' := 74) (al' := [some (.ref 146), some (.int (nI l)), some (.int (nI 1)), some (.int (nI 0)), some (.int (bI (lwC n c 0 (cds l) (Ns l) = 0)))]) (st' := [.int (bI (lwC n c 0 (cds l) (Ns l) = 0))]) d_276_72 (fun _ => rfl) ?_
              refine rr_beq (t := 86) d_276_74 (by decide) (fun c74 => ?_) (fun c74 => ?_)
              · refine rn_ic (v := 0) d_276_86 (by decide) ?_
                exact rr_ri d_276_87 mr_276 (by decide) ⟨by rw [← bI_f (fun e_ => (fun h_ => c74 ((h_ l hl).1 z23)) (ls_iff.mp e_))], pl.1.tr hG⟩
              · refine rr_nx (pc' := 78) (al' := [some (.ref 146), some (.int (nI l)), some (.int (nI 1)), some (.int (nI 0)), some (.int (bI (lwC n c 0 (cds l) (Ns l) = 0)))]) (st' := [.int (nI 0)]) d_276_77 (fun _ => rfl) ?_
                refine rn_ieq (t := 88) d_276_78 (by decide) (by first | omega | assumption | exact cu_36 (by omega) (cu_lt (by omega) (by omega))) (fun c78 => ?_) (fun c78 => ?_)
                · refine rn_inc d_276_88 rfl rfl ?_
                  show RR _ _ 91 [some (.ref 146), some (.int (nI (l + 1))), some (.int (nI 1)), some (.int (nI 0)), some (.int (bI (lwC n c 0 (cds l) (Ns l) = 0)))] [] g1 A1 _
                  refine rr_nx (pc' := 2) (al' := [some (.ref 146), some (.int (nI (l + 1))), some (.int (nI 1)), some (.int (nI 0)), some (.int (bI (lwC n c 0 (cds l) (Ns l) = 0)))]) (st' := []) d_276_91 (fun _ => rfl) ?_
                  refine rr_dr (al1 := [some (.ref 146), some (.int (nI (l + 1))), none, none, none]) (le_s (le_s (le_d rfl (le_d rfl (le_d rfl (le_n)))))) ?_
                  exact ihl (g1, A1) (⟨pl.1.tr hG, all_s (p := fun p => (hold.testBit p = true → lwC n c 0 (cds p) (Ns p) = 0) ∧ (no.testBit p = true → ¬ lwC n c 0 (cds p) (Ns p) = 0)) pl.2 ⟨fun _ => c74, fun h_ => absurd h_ (by rw [bt_e0.mp z41]; exact Bool.false_ne_true)⟩⟩)
                · omega
          · omega
        · have z41 := bt_e1.mp c41
          refine rn_ic (v := 1) d_276_44 (by decide) ?_
          refine rr_nx (pc' := 49) (al' := [some (.ref 146), some (.int (nI l)), some (.int (nI 1)), none, none]) (st' := [.int (nI 1)]) d_276_45 (fun _ => rfl) ?_
          refine rr_nx (pc' := 50) (al' := [some (.ref 146), some (.int (nI l)), some (.int (nI 1)), some (.int (nI 1)), none]) (st' := []) d_276_49 (fun _ => rfl) ?_
          refine rr_nx (pc' := 51) (al' := [some (.ref 146), some (.int (nI l)), some (.int (nI 1)), some (.int (nI 1)), none]) (st' := [.int (nI 1)]) d_276_50 (fun _ => rfl) ?_
          refine rn_ine (t := 61) d_276_51 (by decide) (by first | omega | assumption | exact cu_36 (by omega) (cu_lt (by omega) (by omega))) (fun c51 => ?_) (fun c51 => ?_)
          · refine rr_nx (pc' := 62) (al' := [some (.ref 146), some (.int (nI l)), some (.int (nI 1)), some (.int (nI 1)), none]) (st' := [.ref 146]) d_276_61 (fun _ => rfl) ?_
            refine rr_nx (pc' := 63) (al' := [some (.ref 146), some (.int (nI l)), some (.int (nI 1)), some (.int (nI 1)), none]) (st' := [.int (nI l), .ref 146]) d_276_62 (fun _ => rfl) ?_
            refine rr_cv (as := [.int (nI l)]) (al0 := [some (.ref 146), some (.int (nI l))]) (r := []) d_276_63 mo_276 ml_251 mz_209 rfl rfl rfl (rr_wk (Nat.le_of_ble_eq_true rfl) (s_isSo ((hK.2.2 l hl).g pl.1) (hc.g0 pl.1) hla h0n hu)) (fun v1 g1 A1 h1 => ?_)
            obtain ⟨q0_, hG⟩ := h1
            obtain rfl := q0_
            show RR _ _ 66 [some (.ref 146), some (.int (nI l)), some (.int (nI 1)), some (.int (nI 1)), none] [.int (bI (lwC n c 0 (cds l) (Ns l) = 0))] g1 A1 _
            refine rr_nx (pc' := 68) (al' := [some (.ref 146), some (.int (nI l)), some (.int (nI 1)), some (.int (nI 1)), some (.int (bI (lwC n c 0 (cds l) (Ns l) = 0)))]) (st' := []) d_276_66 (fun _ => rfl) ?_
            refine rr_nx (pc' := 69) (al' := [some (.ref 146), some (.int (nI l)), some (.int (nI 1)), some (.int (nI 1)), some (.int (bI (lwC n c 0 (cds l) (Ns l) = 0)))]) (st' := [.int (nI 1)]) d_276_68 (fun _ => rfl) ?_
            refine rn_ieq (t := 77) d_276_69 (by decide) (by first | omega | assumption | exact cu_36 (by omega) (cu_lt (by omega) (by omega))) (fun c69 => ?_) (fun c69 => ?_)
            · omega
            · refine rr_nx (pc' := 74) (al' := [some (.ref 146), some (.int (nI l)), some (.int (nI 1)), some (.int (nI 1)), some (.int (bI (lwC n c 0 (cds l) (Ns l) = 0)))]) (st' := [.int (bI (lwC n c 0 (cds l) (Ns l) = 0))]) d_276_72 (fun _ => rfl) ?_
              refine rr_beq (t := 86) d_276_74 (by decide) (fun c74 => ?_) (fun c74 => ?_)
              · refine rn_ic (v := 0) d_276_86 (by decide) ?_
                exact rr_ri d_276_87 mr_276 (by decide) ⟨by rw [← bI_f (fun e_ => (fun h_ => c74 ((h_ l hl).1 z23)) (ls_iff.mp e_))], pl.1.tr hG⟩
              · refine rr_nx (pc' := 78) (al' := [some (.ref 146), some (.int (nI l)), some (.int (nI 1)), some (.int (nI 1)), some (.int (bI (lwC n c 0 (cds l) (Ns l) = 0)))]) (st' := [.int (nI 1)]) d_276_77 (fun _ => rfl) ?_
                refine rn_ieq (t := 88) d_276_78 (by decide) (by first | omega | assumption | exact cu_36 (by omega) (cu_lt (by omega) (by omega))) (fun c78 => ?_) (fun c78 => ?_)
                · omega
                · refine rr_nx (pc' := 83) (al' := [some (.ref 146), some (.int (nI l)), some (.int (nI 1)), some (.int (nI 1)), some (.int (bI (lwC n c 0 (cds l) (Ns l) = 0)))]) (st' := [.int (bI (lwC n c 0 (cds l) (Ns l) = 0))]) d_276_81 (fun _ => rfl) ?_
                  refine rr_beq (t := 88) d_276_83 (by decide) (fun c83 => ?_) (fun c83 => ?_)
                  · refine rn_inc d_276_88 rfl rfl ?_
                    show RR _ _ 91 [some (.ref 146), some (.int (nI (l + 1))), some (.int (nI 1)), some (.int (nI 1)), some (.int (bI (lwC n c 0 (cds l) (Ns l) = 0)))] [] g1 A1 _
                    refine rr_nx (pc' := 2) (al' := [some (.ref 146), some (.int (nI (l + 1))), some (.int (nI 1)), some (.int (nI 1)), some (.int (bI (lwC n c 0 (cds l) (Ns l) = 0)))]) (st' := []) d_276_91 (fun _ => rfl) ?_
                    refine rr_dr (al1 := [some (.ref 146), some (.int (nI (l + 1))), none, none, none]) (le_s (le_s (le_d rfl (le_d rfl (le_d rfl (le_n)))))) ?_
                    exact ihl (g1, A1) (⟨pl.1.tr hG, all_s (p := fun p => (hold.testBit p = true → lwC n c 0 (cds p) (Ns p) = 0) ∧ (no.testBit p = true → ¬ lwC n c 0 (cds p) (Ns p) = 0)) pl.2 ⟨fun _ => c74, fun _ => c83⟩⟩)
                  · refine rn_ic (v := 0) d_276_86 (by decide) ?_
                    exact rr_ri d_276_87 mr_276 (by decide) ⟨by rw [← bI_f (fun e_ => (fun h_ => (h_ l hl).2 z41 c83) (ls_iff.mp e_))], pl.1.tr hG⟩
          · omega
  · show RR _ _ 2 [some (.ref 146), some (.int (nI K)), none, none, none] [] w_.1 w_.2 _
    refine rr_nx (pc' := 3) (al' := [some (.ref 146), some (.int (nI K)), none, none, none]) (st' := [.int (nI K)]) d_276_2 (fun _ => rfl) ?_
    refine rr_nx (pc' := 4) (al' := [some (.ref 146), some (.int (nI K)), none, none, none]) (st' := [.ref 146, .int (nI K)]) d_276_3 (fun _ => rfl) ?_
    refine rr_gf (v := .ref (147 + 1)) d_276_4 mo_276 fl_13 rfl ?_
    refine rn_sp (v := 2509) d_276_7 (by decide) ?_
    refine rr_ia (j := 1) (v := (nI K)) d_276_10 (by decide) rfl (by decide) (show 2509 < 5720 by first | omega | assumption | exact cu_36 (by omega) (cu_lt (by omega) (by omega))) ((congrFun (pl.1.2 1 (by decide)) _).trans hK.2.1) ?_
    refine rn_cge (t := 94) d_276_11 (by decide) (by first | omega | assumption | exact cu_36 (by omega) (cu_lt (by omega) (by omega))) (by first | omega | assumption | exact cu_36 (by omega) (cu_lt (by omega) (by omega))) (fun c11 => ?_) (fun c11 => ?_)
    · refine rn_ic (v := 1) d_276_94 (by decide) ?_
      exact rr_ri d_276_95 mr_276 (by decide) ⟨by rw [← bI_t (ls_iff.mpr pl.2)], pl.1⟩
    · omega
