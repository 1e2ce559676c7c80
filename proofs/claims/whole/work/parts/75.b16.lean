/-! Transversals and mates of the class; printed by wip/whole/gen_b16.py. -/
def orP (f : Nat → Nat → Nat) (p : List Nat) : Nat := ORs (fun i => 1 * 2 ^ f i (p.getD i 0)) p.length
theorem orP_a {f : Nat → Nat → Nat} {p : List Nat} {y : Nat} : orP f (p ++ [y]) = orP f p ||| 1 * 2 ^ f p.length y := by
  unfold orP
  rw [List.length_append]
  show ORs _ (p.length + 1) = _
  rw [ORs_s, gD_end]
  congr 1
  exact ORs_c fun i hi => by rw [gD_app hi]
theorem orP_bit {f : Nat → Nat → Nat} {p : List Nat} {q : Nat} : (orP f p).testBit q = true ↔ ∃ i, i < p.length ∧ f i (p.getD i 0) = q := by
  unfold orP
  rw [ORs_bit]
  constructor
  · rintro ⟨x, hx, h⟩
    rw [Nat.one_mul, Nat.testBit_two_pow] at h
    exact ⟨x, hx, of_decide_eq_true h⟩
  · rintro ⟨x, hx, h⟩
    exact ⟨x, hx, by rw [Nat.one_mul, Nat.testBit_two_pow]; exact decide_eq_true h⟩
def fC (_ y : Nat) : Nat := y
def fE (n : Nat) (c : Nat → Nat) (i y : Nat) : Nat := c (n * i + y)
def fM (n i y : Nat) : Nat := n * i + y
/-- all rows of columns that go on from one -/
def dfP (n : Nat) : Nat → List Nat → List (List Nat)
  | 0, p => [p]
  | k + 1, p => (List.range n).flatMap fun y => if p.contains y then [] else dfP n k (p ++ [y])
def okP (n : Nat) (c : Nat → Nat) (p : List Nat) (y : Nat) : Bool := !(orP fC p).testBit y && !(orP (fE n c) p).testBit (c (n * p.length + y))
def dfT (n : Nat) (c : Nat → Nat) : Nat → List Nat → List Nat
  | 0, p => [orP (fM n) p]
  | k + 1, p => (List.range n).flatMap fun y => if okP n c p y = true then dfT n c k (p ++ [y]) else []
def pmL (n r : Nat) : List Nat := (List.range n).map (pmE n r)
theorem df_ck : (List.range 7).all (fun n => dfP n n [] == (List.range (FA n)).map (pmL n)) = true := by decide +kernel
theorem df_pm {n : Nat} (hn : n ≤ 6) : dfP n n [] = (List.range (FA n)).map (pmL n) := beq_iff_eq.mp (List.all_eq_true.mp df_ck n (List.mem_range.mpr (by omega)))
def tvQ (n : Nat) (c : Nat → Nat) (p : List Nat) : Bool := decide (∀ i, i < p.length → ∀ j, j < i → ¬ c (n * i + p.getD i 0) = c (n * j + p.getD j 0))
theorem tvQ_a {n : Nat} {c : Nat → Nat} {p t : List Nat} (h : tvQ n c (p ++ t) = true) : tvQ n c p = true := by
  have h := of_decide_eq_true h
  refine decide_eq_true (fun i hi j hj => ?_)
  have h2 := h i (by rw [List.length_append]; omega) j hj
  have e : ∀ k, k < p.length → (p ++ t).getD k 0 = p.getD k 0 := fun k hk => by
    rw [List.getD_eq_getElem?_getD, List.getD_eq_getElem?_getD, List.getElem?_append_left hk]
  rw [e i hi, e j (by omega)] at h2
  exact h2
theorem dfP_ext {n : Nat} : ∀ {k : Nat} {p s : List Nat}, s ∈ dfP n k p → ∃ t, s = p ++ t
  | 0, p, s, h => ⟨[], by rw [List.append_nil]; exact List.mem_singleton.mp h⟩
  | k + 1, p, s, h => by
    unfold dfP at h
    obtain ⟨y, hy, h2⟩ := List.mem_flatMap.mp h
    by_cases e : p.contains y = true
    · rw [if_pos e] at h2
      exact absurd h2 List.not_mem_nil
    · rw [if_neg e] at h2
      obtain ⟨t, ht⟩ := dfP_ext h2
      exact ⟨[y] ++ t, by rw [ht, List.append_assoc]⟩
theorem tvQ_s {n : Nat} {c : Nat → Nat} {p : List Nat} {y : Nat} (h : tvQ n c p = true) : tvQ n c (p ++ [y]) = true ↔ (orP (fE n c) p).testBit (c (n * p.length + y)) = false := by
  have h := of_decide_eq_true h
  constructor
  · intro e
    have e := of_decide_eq_true e
    cases hb : (orP (fE n c) p).testBit (c (n * p.length + y))
    · rfl
    · obtain ⟨i, hi, hq⟩ := orP_bit.mp hb
      have := e p.length (by rw [List.length_append]; exact Nat.lt_succ_self _) i hi
      rw [gD_end, gD_app hi] at this
      exact absurd hq.symm this
  · intro e
    refine decide_eq_true (fun i hi j hj => ?_)
    rw [List.length_append] at hi
    have hi : i < p.length + 1 := hi
    by_cases hq : i = p.length
    · subst hq
      rw [gD_end, gD_app hj]
      intro e2
      have : (orP (fE n c) p).testBit (c (n * p.length + y)) = true := orP_bit.mpr ⟨j, hj, e2.symm⟩
      rw [e] at this
      cases this
    · rw [gD_app (by omega), gD_app (by omega)]
      exact h i (by omega) j hj
theorem con_bit {p : List Nat} {y : Nat} : p.contains y = true ↔ (orP fC p).testBit y = true := by
  rw [List.contains_iff_mem, orP_bit]
  constructor
  · intro h
    obtain ⟨i, hi, e⟩ := List.getElem_of_mem h
    refine ⟨i, hi, ?_⟩
    show p.getD i 0 = y
    rw [List.getD_eq_getElem?_getD, List.getElem?_eq_getElem hi]
    exact e
  · rintro ⟨i, hi, e⟩
    have := gD_mem hi
    rw [show p.getD i 0 = y from e] at this
    exact this
theorem fm_c {α β : Type} {f g : α → List β} : ∀ {l : List α}, (∀ x, x ∈ l → f x = g x) → l.flatMap f = l.flatMap g
  | [], _ => rfl
  | a :: l, h => by
    rw [List.flatMap_cons, List.flatMap_cons, h a (List.mem_cons_self ..), fm_c (fun x hx => h x (List.mem_cons_of_mem _ hx))]
theorem dfT_P {n : Nat} {c : Nat → Nat} : ∀ {k : Nat} {p : List Nat}, tvQ n c p = true → dfT n c k p = ((dfP n k p).filter (tvQ n c)).map (orP (fM n))
  | 0, p, h => by
    show [_] = (([p] : List (List Nat)).filter _).map _
    rw [List.filter_cons, if_pos h]
    rfl
  | k + 1, p, h => by
    unfold dfT dfP
    rw [List.filter_flatMap, List.map_flatMap]
    refine fm_c (fun y _ => ?_)
    by_cases hc : p.contains y = true
    · rw [if_pos hc, if_neg]
      · rfl
      · unfold okP
        rw [con_bit.mp hc]
        exact Bool.false_ne_true
    · rw [if_neg hc]
      have hb : (orP fC p).testBit y = false := by
        cases e : (orP fC p).testBit y
        · rfl
        · exact absurd (con_bit.mpr e) hc
      by_cases he : (orP (fE n c) p).testBit (c (n * p.length + y)) = false
      · rw [if_pos (by unfold okP; rw [hb, he]; rfl)]
        exact dfT_P ((tvQ_s h).mpr he)
      · rw [if_neg (fun e => by unfold okP at e; simp only [Bool.and_eq_true, Bool.not_eq_true'] at e; exact he e.2)]
        have : (dfP n k (p ++ [y])).filter (tvQ n c) = [] := by
          rw [List.filter_eq_nil_iff]
          intro s hs e
          obtain ⟨t, ht⟩ := dfP_ext hs
          rw [ht] at e
          exact he ((tvQ_s h).mp (tvQ_a e))
        rw [this]
        rfl
theorem pmL_g {n r i : Nat} (h : i < n) : (pmL n r).getD i 0 = pmE n r i := by
  unfold pmL
  rw [List.getD_eq_getElem?_getD, List.getElem?_map, List.getElem?_range h]
  rfl
theorem pmL_l {n r : Nat} : (pmL n r).length = n := by
  unfold pmL
  rw [List.length_map, List.length_range]
theorem orP_pm {n r : Nat} : orP (fM n) (pmL n r) = mkM n r := by
  unfold orP mkM
  rw [pmL_l]
  exact ORs_c fun i hi => by rw [pmL_g hi]; rfl
theorem tvQ_pm {n : Nat} {c : Nat → Nat} {r : Nat} (hn : n ≤ 6) (hl : Lat n c) (hr : r < FA n) : tvQ n c (pmL n r) = TVb n c r := by
  have hP := pm_per hn hr
  have hb : ∀ x, x < n → c (n * x + pmE n r x) < n := fun x hx => hl.b hx (hP.1 x hx)
  rw [Bool.eq_iff_iff]
  unfold tvQ TVb
  rw [decide_eq_true_eq, decide_eq_true_eq, pmL_l]
  constructor
  · intro h
    have inj : ∀ i j, i < n → j < n → c (n * i + pmE n r i) = c (n * j + pmE n r j) → i = j := by
      intro i j hi hj e
      rcases Nat.lt_trichotomy i j with q | q | q
      · have := h j hj i q
        rw [pmL_g hj, pmL_g hi] at this
        exact absurd e.symm this
      · exact q
      · have := h i hi j q
        rw [pmL_g hj, pmL_g hi] at this
        exact absurd e this
    have h2 := Nat.two_pow_pos n
    apply bset_eq (n := n)
    · exact ORs_lt fun x hx => by rw [Nat.one_mul]; exact tw_lt (hb x hx)
    · omega
    · intro q hq
      rw [Nat.one_mul, Nat.testBit_two_pow_sub_one, decide_eq_true hq]
      obtain ⟨i, hi, e⟩ := php_inj hb inj q hq
      unfold tvS
      rw [ORs_bit]
      exact ⟨i, hi, by rw [Nat.one_mul, Nat.testBit_two_pow]; exact decide_eq_true e⟩
  · intro h i hi j hj
    rw [pmL_g hi, pmL_g (by omega)]
    intro e
    have hs : ∀ v, v < n → ∃ i, i < n ∧ c (n * i + pmE n r i) = v := fun v hv => or_on (h := fun x => c (n * x + pmE n r x)) h hv
    have := php_surj hb hs i j hi (by omega) e
    omega
theorem df_list {n : Nat} {c : Nat → Nat} (hn : n ≤ 6) (hl : Lat n c) : dfT n c n [] = (tvL n c).map (mkM n) := by
  have h0 : tvQ n c [] = true := decide_eq_true (fun i hi => absurd (show i < 0 from hi) (Nat.not_lt_zero i))
  rw [dfT_P h0, df_pm hn, List.filter_map, List.map_map]
  unfold tvL
  have e1 : (List.range (FA n)).filter (tvQ n c ∘ pmL n) = (List.range (FA n)).filter (TVb n c) := List.filter_congr fun r hr => tvQ_pm hn hl (List.mem_range.mp hr)
  rw [e1]
  exact List.map_congr_left fun r _ => orP_pm
/-- the transversals found so far -/
def CrS (G : Nat → Nat → Value) (J : Nat → Nat → Int64) (l : List Nat) : Prop := G 141 2 = .int (nI l.length) ∧ ∀ i, i < l.length → J 144 i = lN (l.getD i 0)
theorem CrS.ad {G G' : Nat → Nat → Value} {J J' : Nat → Nat → Int64} {l : List Nat} {v : Nat} (h : CrS G J l) (hG : G' 141 2 = .int (nI (l.length + 1))) (hJ : J' 144 = vp_updL (J 144) l.length (lN v)) : CrS G' J' (l ++ [v]) := by
  refine ⟨by rw [hG, List.length_append]; rfl, fun j hj => ?_⟩
  rw [hJ]
  rw [List.length_append] at hj
  by_cases e : j = l.length
  · subst e
    rw [pk_uLs, gD_end]
  · rw [pk_uLn e, gD_app (by simp at hj; omega)]
    exact h.2 j (by simp at hj; omega)
theorem fm_len {α : Type} {g : Nat → List α} {i n : Nat} (h : i ≤ n) : ((List.range i).flatMap g).length ≤ ((List.range n).flatMap g).length := by
  induction n with
  | zero => rw [Nat.le_zero.mp h]; exact Nat.le_refl _
  | succ n ih =>
    rcases Nat.lt_or_ge i (n + 1) with h1 | h1
    · have := ih (by omega)
      rw [List.range_succ, List.flatMap_append, List.length_append]
      omega
    · rw [show i = n + 1 by omega]
      exact Nat.le_refl _
theorem fm_s {α : Type} {g : Nat → List α} {i : Nat} : (List.range (i + 1)).flatMap g = (List.range i).flatMap g ++ g i := by
  rw [List.range_succ, List.flatMap_append, List.flatMap_singleton]
def dfG (n : Nat) (c : Nat → Nat) (k : Nat) (p : List Nat) (y : Nat) : List Nat := if okP n c p y = true then dfT n c k (p ++ [y]) else []
theorem dfT_s {n : Nat} {c : Nat → Nat} {k : Nat} {p : List Nat} : dfT n c (k + 1) p = (List.range n).flatMap (dfG n c k p) := rfl
theorem and_0_c {u e : Nat} : u &&& 2 ^ e = 0 ↔ u.testBit e = false := by
  constructor
  · intro h
    cases hb : u.testBit e
    · rfl
    · have := and_0.mp h e hb
      rw [Nat.testBit_two_pow_self] at this
      cases this
  · intro h
    rw [and_0]
    intro q hq
    rw [Nat.testBit_two_pow]
    by_cases e2 : e = q
    · subst e2
      rw [h] at hq
      cases hq
    · exact decide_eq_false e2
theorem and_p {u e : Nat} : u &&& 1 * 2 ^ e = 0 ↔ u.testBit e = false := by
  rw [Nat.one_mul, and_0_c]
def CrC (n a : Nat) (c : Nat → Nat) (k : Nat) : Prop := ∀ {S : CS} {G : Nat → Nat → Value} {B : Nat → Nat → Int32} {J : Nat → Nat → Int64} {R : Nat → Nat → Option Nat} {p l : List Nat}, ShOk S → FxG G → TabAt S G a → G a 0 = .int (nI n) → TabC B a n c → G 141 0 = .ref a → a ≠ 141 → CrS G J l → p.length + k = n → (∀ i, i < p.length → p.getD i 0 < n) → l.length + (dfT n c k p).length ≤ 720 → CR (k + 1) 11 0 [some (.ref 141), some (.int (nI p.length)), some (.int (nI (orP fC p))), some (.int (nI (orP (fE n c) p))), some (.long (lN (orP (fM n) p))), none, none, none] [] S G B J R (fun r_ S' G' B' J' R' => r_ = none ∧ S' = S ∧ B' = B ∧ R' = R ∧ FxG G' ∧ Gfr [141] G G' ∧ G' 141 0 = .ref a ∧ CrS G' J' (l ++ dfT n c k p))
theorem k_cross_0 {n a : Nat} {c : Nat → Nat} : CrC n a c 0 := by
  intro S G B J R p l hS hF ht hn hc hT ha hC hk hp hlen
  have hn6 := hc.1
  have hlen2 : l.length + 1 ≤ 720 := hlen
  refine cr_nx (pc' := 1) (al' := [some (.ref 141), some (.int (nI p.length)), some (.int (nI (orP fC p))), some (.int (nI (orP (fE n c) p))), some (.long (lN (orP (fM n) p))), none, none, none]) (st' := [.int (nI p.length)]) d_11_0 (fun _ => rfl) ?_
  refine cr_nx (pc' := 2) (al' := [some (.ref 141), some (.int (nI p.length)), some (.int (nI (orP fC p))), some (.int (nI (orP (fE n c) p))), some (.long (lN (orP (fM n) p))), none, none, none]) (st' := [.ref 141, .int (nI p.length)]) d_11_1 (fun _ => rfl) ?_
  refine cr_gf (v := .ref a) d_11_2 cw_11 cf_1_10 (hS.i (a := 141) (by decide) (by decide)) (hS.s (a := 141) (by decide) (by decide) rfl) (by decide) hT ?_
  refine cr_gf (v := .int (nI n)) d_11_5 cw_11 cf_1_28 ht.1 ht.2.2.1 (by decide) hn ?_
  refine cn_clt (t := 45) d_11_8 (by decide) (by first | omega | assumption | exact cu_36 (by omega) (cu_lt (by omega) (by omega))) (by first | omega | assumption | exact cu_36 (by omega) (cu_lt (by omega) (by omega))) (fun c8 => ?_) (fun c8 => ?_)
  · omega
  · refine cr_nx (pc' := 12) (al' := [some (.ref 141), some (.int (nI p.length)), some (.int (nI (orP fC p))), some (.int (nI (orP (fE n c) p))), some (.long (lN (orP (fM n) p))), none, none, none]) (st' := [.ref 141]) d_11_11 (fun _ => rfl) ?_
    refine cr_gf (v := .int (nI l.length)) d_11_12 cw_11 cf_1_20 (hS.i (a := 141) (by decide) (by decide)) (hS.s (a := 141) (by decide) (by decide) rfl) (by decide) hC.1 ?_
    refine cr_nx (pc' := 16) (al' := [some (.ref 141), some (.int (nI p.length)), some (.int (nI (orP fC p))), some (.int (nI (orP (fE n c) p))), some (.long (lN (orP (fM n) p))), none, none, none]) (st' := [.ref 141, .int (nI l.length)]) d_11_15 (fun _ => rfl) ?_
    refine cr_gf (v := .ref 144) d_11_16 cw_11 cf_1_16 (hS.i (a := 141) (by decide) (by decide)) (hS.s (a := 141) (by decide) (by decide) rfl) (by decide) (fx_141_1 hF) ?_
    refine cr_le d_11_19 (hS.i (a := 144) (by decide) (by decide)) (by decide) (by decide) (hS.s (a := 144) (by decide) (by decide) rfl) ?_
    refine cn_cge (t := 44) d_11_20 (by decide) (by first | omega | assumption | exact cu_36 (by omega) (cu_lt (by omega) (by omega))) (by first | omega | assumption | exact cu_36 (by omega) (cu_lt (by omega) (by omega))) (fun c20 => ?_) (fun c20 => ?_)
    · omega
    · refine cr_nx (pc' := 24) (al' := [some (.ref 141), some (.int (nI p.length)), some (.int (nI (orP fC p))), some (.int (nI (orP (fE n c) p))), some (.long (lN (orP (fM n) p))), none, none, none]) (st' := [.ref 141]) d_11_23 (fun _ => rfl) ?_
      refine cr_gf (v := .ref 144) d_11_24 cw_11 cf_1_16 (hS.i (a := 141) (by decide) (by decide)) (hS.s (a := 141) (by decide) (by decide) rfl) (by decide) (fx_141_1 hF) ?_
      refine cr_nx (pc' := 28) (al' := [some (.ref 141), some (.int (nI p.length)), some (.int (nI (orP fC p))), some (.int (nI (orP (fE n c) p))), some (.long (lN (orP (fM n) p))), none, none, none]) (st' := [.ref 141, .ref 144]) d_11_27 (fun _ => rfl) ?_
      refine cr_gf (v := .int (nI l.length)) d_11_28 cw_11 cf_1_20 (hS.i (a := 141) (by decide) (by decide)) (hS.s (a := 141) (by decide) (by decide) rfl) (by decide) hC.1 ?_
      refine cr_nx (pc' := 33) (al' := [some (.ref 141), some (.int (nI p.length)), some (.int (nI (orP fC p))), some (.int (nI (orP (fE n c) p))), some (.long (lN (orP (fM n) p))), none, none, none]) (st' := [.long (lN (orP (fM n) p)), .int (nI l.length), .ref 144]) d_11_31 (fun _ => rfl) ?_
      refine cr_lS (a := 144) (J1 := (upr J 144 (vp_updL (J 144) l.length ( (lN (orP (fM n) p)))))) d_11_33 (hS.i (a := 144) (by decide) (by decide)) (hS.s (a := 144) (by decide) (by decide) rfl) (by first | decide | omega) (show l.length < 720 by first | omega | assumption | exact cu_36 (by omega) (cu_lt (by omega) (by omega))) rfl ?_
      refine cr_nx (pc' := 35) (al' := [some (.ref 141), some (.int (nI p.length)), some (.int (nI (orP fC p))), some (.int (nI (orP (fE n c) p))), some (.long (lN (orP (fM n) p))), none, none, none]) (st' := [.ref 141]) d_11_34 (fun _ => rfl) ?_
      refine cr_nx (pc' := 36) (al' := [some (.ref 141), some (.int (nI p.length)), some (.int (nI (orP fC p))), some (.int (nI (orP (fE n c) p))), some (.long (lN (orP (fM n) p))), none, none, none]) (st' := [.ref 141, .ref 141]) d_11_35 (fun _ => rfl) ?_
      refine cr_gf (v := .int (nI l.length)) d_11_36 cw_11 cf_1_20 (hS.i (a := 141) (by decide) (by decide)) (hS.s (a := 141) (by decide) (by decide) rfl) (by decide) hC.1 ?_
      refine cn_ic (v := 1) d_11_39 (by decide) ?_
      refine cn_add d_11_40  ?_
      refine cp_1_2  d_11_41 cw_11 cf_1_20 (hS.i (a := 141) (by decide) (by decide)) (hS.s (a := 141) (by decide) (by decide) rfl) (by decide) ?_
      exact cr_rv d_11_44 cx_11 ⟨rfl, rfl, rfl, rfl, hF.up (by decide +kernel), Gfr.rf.u (by decide), by rw [up2_n (by decide)]; exact hT, hC.ad up2_s upr_s⟩
theorem cr_st {k y pc : Nat} {al : AL} {st st1 : List Value} {S : CS} {G : Nat → Nat → Value} {B : Nat → Nat → Int32} {J : Nat → Nat → Int64} {R : Nat → Nat → Option Nat} {Q : CQ} (e : st = st1) (kk : CR k y pc al st1 S G B J R Q) : CR k y pc al st S G B J R Q := by rw [e]; exact kk
theorem k_cross_s {n a k : Nat} {c : Nat → Nat} (ih : CrC n a c k) : CrC n a c (k + 1) := by
  intro S G B J R p l hS hF ht hn hc hT ha hC hk hp hlen
  have hn6 := hc.1
  have ho1 : orP fC p < 64 := ORs_lt (m := 6) fun i hi => tw_64 (by have := hp i hi; unfold fC; omega)
  have ho2 : orP (fE n c) p < 64 := ORs_lt (m := 6) fun i hi => tw_64 (by have := (hc.2 _ (cu_lt (show i < n by omega) (hp i hi))).2; unfold fE; omega)
  refine cr_nx (pc' := 1) (al' := [some (.ref 141), some (.int (nI p.length)), some (.int (nI (orP fC p))), some (.int (nI (orP (fE n c) p))), some (.long (lN (orP (fM n) p))), none, none, none]) (st' := [.int (nI p.length)]) d_11_0 (fun _ => rfl) ?_
  refine cr_nx (pc' := 2) (al' := [some (.ref 141), some (.int (nI p.length)), some (.int (nI (orP fC p))), some (.int (nI (orP (fE n c) p))), some (.long (lN (orP (fM n) p))), none, none, none]) (st' := [.ref 141, .int (nI p.length)]) d_11_1 (fun _ => rfl) ?_
  refine cr_gf (v := .ref a) d_11_2 cw_11 cf_1_10 (hS.i (a := 141) (by decide) (by decide)) (hS.s (a := 141) (by decide) (by decide) rfl) (by decide) (by first | exact hT | exact pz.2.2.1) ?_
  refine cr_gf (v := .int (nI n)) d_11_5 cw_11 cf_1_28 ht.1 ht.2.2.1 (by decide) (by first | exact hn | (rw [pz.2.1 a (by simpa using ha)]; exact hn)) ?_
  refine cn_clt (t := 45) d_11_8 (by decide) (by first | omega | assumption | exact cu_36 (by omega) (cu_lt (by omega) (by omega))) (by first | omega | assumption | exact cu_36 (by omega) (cu_lt (by omega) (by omega))) (fun c8 => ?_) (fun c8 => ?_)
  · refine cn_ic (v := 0) d_11_45 (by decide) ?_
    refine cr_nx (pc' := 48) (al' := [some (.ref 141), some (.int (nI p.length)), some (.int (nI (orP fC p))), some (.int (nI (orP (fE n c) p))), some (.long (lN (orP (fM n) p))), none, some (.int (nI 0)), none]) (st' := []) d_11_46 (fun _ => rfl) ?_
    refine cr_upw (al := fun z w_ => [some (.ref 141), some (.int (nI p.length)), some (.int (nI (orP fC p))), some (.int (nI (orP (fE n c) p))), some (.long (lN (orP (fM n) p))), none, some (.int (nI z)), none]) (S := fun z w_ => S) (G := fun z w_ => w_.2.1) (B := fun z w_ => B) (J := fun z w_ => w_.2.2) (R := fun z w_ => R) (P := fun z w_ => FxG w_.2.1 ∧ Gfr [141] G w_.2.1 ∧ w_.2.1 141 0 = .ref a ∧ CrS w_.2.1 w_.2.2 w_.1 ∧ w_.1 = l ++ (List.range z).flatMap (dfG n c k p)) (n := n) (fun z w_ hz pz ihz => ?_) (fun w_ pz => ?_) 0 (l, G, J) (by omega) (⟨hF, Gfr.rf, hT, hC, (List.append_nil l).symm⟩)
    · show CR _ _ 48 [some (.ref 141), some (.int (nI p.length)), some (.int (nI (orP fC p))), some (.int (nI (orP (fE n c) p))), some (.long (lN (orP (fM n) p))), none, some (.int (nI z)), none] [] S w_.2.1 B w_.2.2 R _
      have hz36 : n * p.length + z < 36 := cu_36 hn6 (cu_lt (by omega) hz)
      refine cr_nx (pc' := 50) (al' := [some (.ref 141), some (.int (nI p.length)), some (.int (nI (orP fC p))), some (.int (nI (orP (fE n c) p))), some (.long (lN (orP (fM n) p))), none, some (.int (nI z)), none]) (st' := [.int (nI z)]) d_11_48 (fun _ => rfl) ?_
      refine cr_nx (pc' := 51) (al' := [some (.ref 141), some (.int (nI p.length)), some (.int (nI (orP fC p))), some (.int (nI (orP (fE n c) p))), some (.long (lN (orP (fM n) p))), none, some (.int (nI z)), none]) (st' := [.ref 141, .int (nI z)]) d_11_50 (fun _ => rfl) ?_
      refine cr_gf (v := .ref a) d_11_51 cw_11 cf_1_10 (hS.i (a := 141) (by decide) (by decide)) (hS.s (a := 141) (by decide) (by decide) rfl) (by decide) (by first | exact hT | exact pz.2.2.1) ?_
      refine cr_gf (v := .int (nI n)) d_11_54 cw_11 cf_1_28 ht.1 ht.2.2.1 (by decide) (by first | exact hn | (rw [pz.2.1 a (by simpa using ha)]; exact hn)) ?_
      refine cn_cge (t := 130) d_11_57 (by decide) (by first | omega | assumption | exact cu_36 (by omega) (cu_lt (by omega) (by omega))) (by first | omega | assumption | exact cu_36 (by omega) (cu_lt (by omega) (by omega))) (fun c57 => ?_) (fun c57 => ?_)
      · omega
      · refine cn_ic (v := 1) d_11_60 (by decide) ?_
        refine cr_nx (pc' := 62) (al' := [some (.ref 141), some (.int (nI p.length)), some (.int (nI (orP fC p))), some (.int (nI (orP (fE n c) p))), some (.long (lN (orP (fM n) p))), none, some (.int (nI z)), none]) (st' := [.ref 141, .int (nI 1)]) d_11_61 (fun _ => rfl) ?_
        refine cr_gf (v := .ref a) d_11_62 cw_11 cf_1_10 (hS.i (a := 141) (by decide) (by decide)) (hS.s (a := 141) (by decide) (by decide) rfl) (by decide) (by first | exact hT | exact pz.2.2.1) ?_
        refine cr_nx (pc' := 66) (al' := [some (.ref 141), some (.int (nI p.length)), some (.int (nI (orP fC p))), some (.int (nI (orP (fE n c) p))), some (.long (lN (orP (fM n) p))), none, some (.int (nI z)), none]) (st' := [.int (nI p.length), .ref a, .int (nI 1)]) d_11_65 (fun _ => rfl) ?_
        refine cr_nx (pc' := 68) (al' := [some (.ref 141), some (.int (nI p.length)), some (.int (nI (orP fC p))), some (.int (nI (orP (fE n c) p))), some (.long (lN (orP (fM n) p))), none, some (.int (nI z)), none]) (st' := [.int (nI z), .int (nI p.length), .ref a, .int (nI 1)]) d_11_66 (fun _ => rfl) ?_
        refine cr_pv (b := a) (as := [.int (nI p.length), .int (nI z)]) (al0 := [some (.ref a), some (.int (nI p.length)), some (.int (nI z))]) (r := [.int (nI 1)]) d_11_68 cw_11 cm_1_31 cz_91 rfl rfl ht.1 (by rw [cw_91]; exact ht.2.2.1) (by rw [cw_91]; decide) rfl (Nat.le_of_ble_eq_true rfl) (k_times (pz.2.1.t (by simpa using ha) ht) (by rw [pz.2.1 a (by simpa using ha)]; exact hn) hc (by omega) (by omega)) ?_
        show CR _ _ 71 [some (.ref 141), some (.int (nI p.length)), some (.int (nI (orP fC p))), some (.int (nI (orP (fE n c) p))), some (.long (lN (orP (fM n) p))), none, some (.int (nI z)), none] [.int (nI (c (n * p.length + z))), .int (nI 1)] S w_.2.1 B w_.2.2 R _
        have b68 : c (n * p.length + z) < n := (hc.2 _ (cu_lt (by omega) (by omega))).2
        refine cn_shl d_11_71 (by have := b68; omega) ?_
        refine cr_nx (pc' := 74) (al' := [some (.ref 141), some (.int (nI p.length)), some (.int (nI (orP fC p))), some (.int (nI (orP (fE n c) p))), some (.long (lN (orP (fM n) p))), none, some (.int (nI z)), some (.int (nI (1 * 2 ^ (c (n * p.length + z)))))]) (st' := []) d_11_72 (fun _ => rfl) ?_
        refine cr_nx (pc' := 75) (al' := [some (.ref 141), some (.int (nI p.length)), some (.int (nI (orP fC p))), some (.int (nI (orP (fE n c) p))), some (.long (lN (orP (fM n) p))), none, some (.int (nI z)), some (.int (nI (1 * 2 ^ (c (n * p.length + z)))))]) (st' := [.int (nI (orP fC p))]) d_11_74 (fun _ => rfl) ?_
        refine cr_nx (pc' := 77) (al' := [some (.ref 141), some (.int (nI p.length)), some (.int (nI (orP fC p))), some (.int (nI (orP (fE n c) p))), some (.long (lN (orP (fM n) p))), none, some (.int (nI z)), some (.int (nI (1 * 2 ^ (c (n * p.length + z)))))]) (st' := [.int (nI z), .int (nI (orP fC p))]) d_11_75 (fun _ => rfl) ?_
        refine cn_shr d_11_77 (by omega) (by omega) ?_
        refine cn_ic (v := 1) d_11_78 (by decide) ?_
        refine cn_and d_11_79 ?_
        refine cn_ine (t := 124) d_11_80 (by decide) (by have := bt_lt (orP fC p) z; omega) (fun c80 => ?_) (fun c80 => ?_)
        · have hno1 : ¬ okP n c p z = true := by unfold okP; rw [bt_p0.mp c80]; exact Bool.false_ne_true
          refine cn_inc d_11_124 rfl rfl ?_
          show CR _ _ 127 [some (.ref 141), some (.int (nI p.length)), some (.int (nI (orP fC p))), some (.int (nI (orP (fE n c) p))), some (.long (lN (orP (fM n) p))), none, some (.int (nI (z + 1))), some (.int (nI (1 * 2 ^ (c (n * p.length + z)))))] [] S w_.2.1 B w_.2.2 R _
          refine cr_nx (pc' := 48) (al' := [some (.ref 141), some (.int (nI p.length)), some (.int (nI (orP fC p))), some (.int (nI (orP (fE n c) p))), some (.long (lN (orP (fM n) p))), none, some (.int (nI (z + 1))), some (.int (nI (1 * 2 ^ (c (n * p.length + z)))))]) (st' := []) d_11_127 (fun _ => rfl) ?_
          refine cr_dr (al1 := [some (.ref 141), some (.int (nI p.length)), some (.int (nI (orP fC p))), some (.int (nI (orP (fE n c) p))), some (.long (lN (orP (fM n) p))), none, some (.int (nI (z + 1))), none]) (le_s (le_s (le_s (le_s (le_s (le_s (le_s (le_d rfl (le_n))))))))) ?_
          exact ihz w_ (⟨pz.1, pz.2.1, pz.2.2.1, pz.2.2.2.1, by rw [pz.2.2.2.2, fm_s, show dfG n c k p z = [] from if_neg (by first | exact hno1 | exact hno2), List.append_nil]⟩)
        · refine cr_nx (pc' := 84) (al' := [some (.ref 141), some (.int (nI p.length)), some (.int (nI (orP fC p))), some (.int (nI (orP (fE n c) p))), some (.long (lN (orP (fM n) p))), none, some (.int (nI z)), some (.int (nI (1 * 2 ^ (c (n * p.length + z)))))]) (st' := [.int (nI (orP (fE n c) p))]) d_11_83 (fun _ => rfl) ?_
          refine cr_nx (pc' := 86) (al' := [some (.ref 141), some (.int (nI p.length)), some (.int (nI (orP fC p))), some (.int (nI (orP (fE n c) p))), some (.long (lN (orP (fM n) p))), none, some (.int (nI z)), some (.int (nI (1 * 2 ^ (c (n * p.length + z)))))]) (st' := [.int (nI (1 * 2 ^ (c (n * p.length + z)))), .int (nI (orP (fE n c) p))]) d_11_84 (fun _ => rfl) ?_
          refine cn_and d_11_86 ?_
          refine cn_ine (t := 124) d_11_87 (by decide) (by exact Nat.lt_of_le_of_lt Nat.and_le_left (by omega)) (fun c87 => ?_) (fun c87 => ?_)
          · have hno2 : ¬ okP n c p z = true := by
              unfold okP
              intro e
              simp only [Bool.and_eq_true, Bool.not_eq_true'] at e
              have := and_p.mpr e.2
              omega
            refine cn_inc d_11_124 rfl rfl ?_
            show CR _ _ 127 [some (.ref 141), some (.int (nI p.length)), some (.int (nI (orP fC p))), some (.int (nI (orP (fE n c) p))), some (.long (lN (orP (fM n) p))), none, some (.int (nI (z + 1))), some (.int (nI (1 * 2 ^ (c (n * p.length + z)))))] [] S w_.2.1 B w_.2.2 R _
            refine cr_nx (pc' := 48) (al' := [some (.ref 141), some (.int (nI p.length)), some (.int (nI (orP fC p))), some (.int (nI (orP (fE n c) p))), some (.long (lN (orP (fM n) p))), none, some (.int (nI (z + 1))), some (.int (nI (1 * 2 ^ (c (n * p.length + z)))))]) (st' := []) d_11_127 (fun _ => rfl) ?_
            refine cr_dr (al1 := [some (.ref 141), some (.int (nI p.length)), some (.int (nI (orP fC p))), some (.int (nI (orP (fE n c) p))), some (.long (lN (orP (fM n) p))), none, some (.int (nI (z + 1))), none]) (le_s (le_s (le_s (le_s (le_s (le_s (le_s (le_d rfl (le_n))))))))) ?_
            exact ihz w_ (⟨pz.1, pz.2.1, pz.2.2.1, pz.2.2.2.1, by rw [pz.2.2.2.2, fm_s, show dfG n c k p z = [] from if_neg (by first | exact hno1 | exact hno2), List.append_nil]⟩)
          · have hok : okP n c p z = true := by
              unfold okP
              rw [bt_e0.mp c80, show (orP (fE n c) p).testBit (c (n * p.length + z)) = false from and_p.mp c87]
              rfl
            have hle := fm_len (g := (dfG n c k p)) (show z + 1 ≤ n by omega)
            rw [fm_s, List.length_append, show (dfG n c k p) z = dfT n c k (p ++ [z]) from if_pos hok] at hle
            rw [dfT_s] at hlen
            have hp2 : ∀ i, i < (p ++ [z]).length → (p ++ [z]).getD i 0 < n := fun i hi => by
              rw [List.length_append] at hi
              by_cases e : i = p.length
              · subst e; rw [gD_end]; exact hz
              · rw [gD_app (by simp at hi; omega)]; exact hp i (by simp at hi; omega)
            refine cr_nx (pc' := 91) (al' := [some (.ref 141), some (.int (nI p.length)), some (.int (nI (orP fC p))), some (.int (nI (orP (fE n c) p))), some (.long (lN (orP (fM n) p))), none, some (.int (nI z)), some (.int (nI (1 * 2 ^ (c (n * p.length + z)))))]) (st' := [.ref 141]) d_11_90 (fun _ => rfl) ?_
            refine cr_nx (pc' := 92) (al' := [some (.ref 141), some (.int (nI p.length)), some (.int (nI (orP fC p))), some (.int (nI (orP (fE n c) p))), some (.long (lN (orP (fM n) p))), none, some (.int (nI z)), some (.int (nI (1 * 2 ^ (c (n * p.length + z)))))]) (st' := [.int (nI p.length), .ref 141]) d_11_91 (fun _ => rfl) ?_
            refine cn_ic (v := 1) d_11_92 (by decide) ?_
            refine cn_add d_11_93  ?_
            refine cr_nx (pc' := 95) (al' := [some (.ref 141), some (.int (nI p.length)), some (.int (nI (orP fC p))), some (.int (nI (orP (fE n c) p))), some (.long (lN (orP (fM n) p))), none, some (.int (nI z)), some (.int (nI (1 * 2 ^ (c (n * p.length + z)))))]) (st' := [.int (nI (orP fC p)), .int (nI (p.length + 1)), .ref 141]) d_11_94 (fun _ => rfl) ?_
            refine cn_ic (v := 1) d_11_95 (by decide) ?_
            refine cr_nx (pc' := 98) (al' := [some (.ref 141), some (.int (nI p.length)), some (.int (nI (orP fC p))), some (.int (nI (orP (fE n c) p))), some (.long (lN (orP (fM n) p))), none, some (.int (nI z)), some (.int (nI (1 * 2 ^ (c (n * p.length + z)))))]) (st' := [.int (nI z), .int (nI 1), .int (nI (orP fC p)), .int (nI (p.length + 1)), .ref 141]) d_11_96 (fun _ => rfl) ?_
            refine cn_shl d_11_98 (by omega) ?_
            refine cn_or d_11_99 ?_
            refine cr_nx (pc' := 101) (al' := [some (.ref 141), some (.int (nI p.length)), some (.int (nI (orP fC p))), some (.int (nI (orP (fE n c) p))), some (.long (lN (orP (fM n) p))), none, some (.int (nI z)), some (.int (nI (1 * 2 ^ (c (n * p.length + z)))))]) (st' := [.int (nI (orP (fE n c) p)), .int (nI ((orP fC p) ||| (1 * 2 ^ z))), .int (nI (p.length + 1)), .ref 141]) d_11_100 (fun _ => rfl) ?_
            refine cr_nx (pc' := 103) (al' := [some (.ref 141), some (.int (nI p.length)), some (.int (nI (orP fC p))), some (.int (nI (orP (fE n c) p))), some (.long (lN (orP (fM n) p))), none, some (.int (nI z)), some (.int (nI (1 * 2 ^ (c (n * p.length + z)))))]) (st' := [.int (nI (1 * 2 ^ (c (n * p.length + z)))), .int (nI (orP (fE n c) p)), .int (nI ((orP fC p) ||| (1 * 2 ^ z))), .int (nI (p.length + 1)), .ref 141]) d_11_101 (fun _ => rfl) ?_
            refine cn_or d_11_103 ?_
            refine cr_nx (pc' := 106) (al' := [some (.ref 141), some (.int (nI p.length)), some (.int (nI (orP fC p))), some (.int (nI (orP (fE n c) p))), some (.long (lN (orP (fM n) p))), none, some (.int (nI z)), some (.int (nI (1 * 2 ^ (c (n * p.length + z)))))]) (st' := [.long (lN (orP (fM n) p)), .int (nI ((orP (fE n c) p) ||| (1 * 2 ^ (c (n * p.length + z))))), .int (nI ((orP fC p) ||| (1 * 2 ^ z))), .int (nI (p.length + 1)), .ref 141]) d_11_104 (fun _ => rfl) ?_
            refine cr_nx (pc' := 107) (al' := [some (.ref 141), some (.int (nI p.length)), some (.int (nI (orP fC p))), some (.int (nI (orP (fE n c) p))), some (.long (lN (orP (fM n) p))), none, some (.int (nI z)), some (.int (nI (1 * 2 ^ (c (n * p.length + z)))))]) (st' := [.long (lN 1), .long (lN (orP (fM n) p)), .int (nI ((orP (fE n c) p) ||| (1 * 2 ^ (c (n * p.length + z))))), .int (nI ((orP fC p) ||| (1 * 2 ^ z))), .int (nI (p.length + 1)), .ref 141]) d_11_106 (fun _ => rfl) ?_
            refine cr_nx (pc' := 108) (al' := [some (.ref 141), some (.int (nI p.length)), some (.int (nI (orP fC p))), some (.int (nI (orP (fE n c) p))), some (.long (lN (orP (fM n) p))), none, some (.int (nI z)), some (.int (nI (1 * 2 ^ (c (n * p.length + z)))))]) (st' := [.ref 141, .long (lN 1), .long (lN (orP (fM n) p)), .int (nI ((orP (fE n c) p) ||| (1 * 2 ^ (c (n * p.length + z))))), .int (nI ((orP fC p) ||| (1 * 2 ^ z))), .int (nI (p.length + 1)), .ref 141]) d_11_107 (fun _ => rfl) ?_
            refine cr_gf (v := .ref a) d_11_108 cw_11 cf_1_10 (hS.i (a := 141) (by decide) (by decide)) (hS.s (a := 141) (by decide) (by decide) rfl) (by decide) (by first | exact hT | exact pz.2.2.1) ?_
            refine cr_gf (v := .int (nI n)) d_11_111 cw_11 cf_1_28 ht.1 ht.2.2.1 (by decide) (by first | exact hn | (rw [pz.2.1 a (by simpa using ha)]; exact hn)) ?_
            refine cr_nx (pc' := 115) (al' := [some (.ref 141), some (.int (nI p.length)), some (.int (nI (orP fC p))), some (.int (nI (orP (fE n c) p))), some (.long (lN (orP (fM n) p))), none, some (.int (nI z)), some (.int (nI (1 * 2 ^ (c (n * p.length + z)))))]) (st' := [.int (nI p.length), .int (nI n), .long (lN 1), .long (lN (orP (fM n) p)), .int (nI ((orP (fE n c) p) ||| (1 * 2 ^ (c (n * p.length + z))))), .int (nI ((orP fC p) ||| (1 * 2 ^ z))), .int (nI (p.length + 1)), .ref 141]) d_11_114 (fun _ => rfl) ?_
            refine cn_mul d_11_115  ?_
            refine cr_nx (pc' := 118) (al' := [some (.ref 141), some (.int (nI p.length)), some (.int (nI (orP fC p))), some (.int (nI (orP (fE n c) p))), some (.long (lN (orP (fM n) p))), none, some (.int (nI z)), some (.int (nI (1 * 2 ^ (c (n * p.length + z)))))]) (st' := [.int (nI z), .int (nI (n * p.length)), .long (lN 1), .long (lN (orP (fM n) p)), .int (nI ((orP (fE n c) p) ||| (1 * 2 ^ (c (n * p.length + z))))), .int (nI ((orP fC p) ||| (1 * 2 ^ z))), .int (nI (p.length + 1)), .ref 141]) d_11_116 (fun _ => rfl) ?_
            refine cn_add d_11_118  ?_
            refine cr_lshl d_11_119 (by omega) ?_
            refine cr_lor d_11_120  ?_
            refine cr_st (st1 := [.long (lN (orP (fM n) (p ++ [z]))), .int (nI (orP (fE n c) (p ++ [z]))), .int (nI (orP fC (p ++ [z]))), .int (nI ((p ++ [z]).length)), .ref 141]) (by rw [orP_a, orP_a, orP_a, List.length_append]; rfl) ?_
            refine cr_cv (b := 141) (as := [.int (nI ((p ++ [z]).length)), .int (nI (orP fC (p ++ [z]))), .int (nI (orP (fE n c) (p ++ [z]))), .long (lN (orP (fM n) (p ++ [z])))]) (al0 := [some (.ref 141), some (.int (nI ((p ++ [z]).length))), some (.int (nI (orP fC (p ++ [z])))), some (.int (nI (orP (fE n c) (p ++ [z])))), some (.long (lN (orP (fM n) (p ++ [z])))), none, none, none]) (r := []) d_11_121 cw_11 cm_1_24 cz_11 rfl rfl (hS.i (a := 141) (by decide) (by decide)) (by rw [cw_11]; exact (hS.s (a := 141) (by decide) (by decide) rfl)) (by rw [cw_11]; decide) rfl (cr_wk (Nat.le_refl _) (ih (p := p ++ [z]) (l := w_.1) hS pz.1 (pz.2.1.t (by simpa using ha) ht) (by rw [pz.2.1 a (by simpa using ha)]; exact hn) hc pz.2.2.1 ha pz.2.2.2.1 (by rw [List.length_append]; show p.length + 1 + k = n; omega) hp2 (by rw [pz.2.2.2.2, List.length_append]; omega))) (fun v1 S1 G2 B1 J2 R1 h1 => ?_)
            obtain ⟨q0_, q1_, q2_, q3_, fx2, gf2, gt2, cr2⟩ := h1
            obtain rfl := q0_
            obtain rfl := q1_.symm
            obtain rfl := q2_.symm
            obtain rfl := q3_.symm
            show CR _ _ 124 [some (.ref 141), some (.int (nI p.length)), some (.int (nI (orP fC p))), some (.int (nI (orP (fE n c) p))), some (.long (lN (orP (fM n) p))), none, some (.int (nI z)), some (.int (nI (1 * 2 ^ (c (n * p.length + z)))))] [] S G2 B J2 R _
            refine cn_inc d_11_124 rfl rfl ?_
            show CR _ _ 127 [some (.ref 141), some (.int (nI p.length)), some (.int (nI (orP fC p))), some (.int (nI (orP (fE n c) p))), some (.long (lN (orP (fM n) p))), none, some (.int (nI (z + 1))), some (.int (nI (1 * 2 ^ (c (n * p.length + z)))))] [] S G2 B J2 R _
            refine cr_nx (pc' := 48) (al' := [some (.ref 141), some (.int (nI p.length)), some (.int (nI (orP fC p))), some (.int (nI (orP (fE n c) p))), some (.long (lN (orP (fM n) p))), none, some (.int (nI (z + 1))), some (.int (nI (1 * 2 ^ (c (n * p.length + z)))))]) (st' := []) d_11_127 (fun _ => rfl) ?_
            refine cr_dr (al1 := [some (.ref 141), some (.int (nI p.length)), some (.int (nI (orP fC p))), some (.int (nI (orP (fE n c) p))), some (.long (lN (orP (fM n) p))), none, some (.int (nI (z + 1))), none]) (le_s (le_s (le_s (le_s (le_s (le_s (le_s (le_d rfl (le_n))))))))) ?_
            exact ihz (w_.1 ++ dfT n c k (p ++ [z]), G2, J2) (⟨fx2, pz.2.1.tr gf2, gt2, cr2, by dsimp only; rw [pz.2.2.2.2, fm_s, show dfG n c k p z = dfT n c k (p ++ [z]) from if_pos hok, List.append_assoc]⟩)
    · show CR _ _ 48 [some (.ref 141), some (.int (nI p.length)), some (.int (nI (orP fC p))), some (.int (nI (orP (fE n c) p))), some (.long (lN (orP (fM n) p))), none, some (.int (nI n)), none] [] S w_.2.1 B w_.2.2 R _
      refine cr_nx (pc' := 50) (al' := [some (.ref 141), some (.int (nI p.length)), some (.int (nI (orP fC p))), some (.int (nI (orP (fE n c) p))), some (.long (lN (orP (fM n) p))), none, some (.int (nI n)), none]) (st' := [.int (nI n)]) d_11_48 (fun _ => rfl) ?_
      refine cr_nx (pc' := 51) (al' := [some (.ref 141), some (.int (nI p.length)), some (.int (nI (orP fC p))), some (.int (nI (orP (fE n c) p))), some (.long (lN (orP (fM n) p))), none, some (.int (nI n)), none]) (st' := [.ref 141, .int (nI n)]) d_11_50 (fun _ => rfl) ?_
      refine cr_gf (v := .ref a) d_11_51 cw_11 cf_1_10 (hS.i (a := 141) (by decide) (by decide)) (hS.s (a := 141) (by decide) (by decide) rfl) (by decide) (by first | exact hT | exact pz.2.2.1) ?_
      refine cr_gf (v := .int (nI n)) d_11_54 cw_11 cf_1_28 ht.1 ht.2.2.1 (by decide) (by first | exact hn | (rw [pz.2.1 a (by simpa using ha)]; exact hn)) ?_
      refine cn_cge (t := 130) d_11_57 (by decide) (by first | omega | assumption | exact cu_36 (by omega) (cu_lt (by omega) (by omega))) (by first | omega | assumption | exact cu_36 (by omega) (cu_lt (by omega) (by omega))) (fun c57 => ?_) (fun c57 => ?_)
      · exact cr_rv d_11_130 cx_11 ⟨rfl, rfl, rfl, rfl, pz.1, pz.2.1, pz.2.2.1, by rw [dfT_s, ← pz.2.2.2.2]; exact pz.2.2.2.1⟩
      · omega
  · omega
theorem k_crossFrom {n a : Nat} {c : Nat → Nat} : ∀ k, CrC n a c k
  | 0 => k_cross_0
  | k + 1 => k_cross_s (k_crossFrom k)
theorem k_transversals {S : CS} {G : Nat → Nat → Value} {B : Nat → Nat → Int32} {J : Nat → Nat → Int64} {R : Nat → Nat → Option Nat} (hS : ShOk S) (hF : FxG G) {a n : Nat} (ht : TabAt S G a) (hn : G a 0 = .int (nI n)) {c : Nat → Nat} (hc : TabC B a n c) (hl : Lat n c) (ha : a ≠ 141) : CR 8 10 0 [some (.ref 141), some (.ref a)] [] S G B J R (fun r_ S' G' B' J' R' => r_ = some (.int (nI (tvL n c).length)) ∧ S' = S ∧ B' = B ∧ R' = R ∧ FxG G' ∧ Gfr [141] G G' ∧ G' 141 0 = .ref a ∧ CrS G' J' ((tvL n c).map (mkM n))) := by
  have hn6 := hc.1
  refine cr_nx (pc' := 1) (al' := [some (.ref 141), some (.ref a)]) (st' := [.ref 141]) d_10_0 (fun _ => rfl) ?_
  refine cr_nx (pc' := 2) (al' := [some (.ref 141), some (.ref a)]) (st' := [.ref a, .ref 141]) d_10_1 (fun _ => rfl) ?_
  refine cp_1_0  d_10_2 cw_10 cf_1_10 (hS.i (a := 141) (by decide) (by decide)) (hS.s (a := 141) (by decide) (by decide) rfl) (by decide) ?_
  refine cr_nx (pc' := 6) (al' := [some (.ref 141), some (.ref a)]) (st' := [.ref 141]) d_10_5 (fun _ => rfl) ?_
  refine cn_ic (v := 0) d_10_6 (by decide) ?_
  refine cp_1_2  d_10_7 cw_10 cf_1_20 (hS.i (a := 141) (by decide) (by decide)) (hS.s (a := 141) (by decide) (by decide) rfl) (by decide) ?_
  refine cr_nx (pc' := 11) (al' := [some (.ref 141), some (.ref a)]) (st' := [.ref 141]) d_10_10 (fun _ => rfl) ?_
  refine cn_ic (v := 0) d_10_11 (by decide) ?_
  refine cn_ic (v := 0) d_10_12 (by decide) ?_
  refine cn_ic (v := 0) d_10_13 (by decide) ?_
  refine cr_nx (pc' := 15) (al' := [some (.ref 141), some (.ref a)]) (st' := [.long (lN 0), .int (nI 0), .int (nI 0), .int (nI 0), .ref 141]) d_10_14 (fun _ => rfl) ?_
  refine cr_cv (b := 141) (as := [.int (nI 0), .int (nI 0), .int (nI 0), .long (lN 0)]) (al0 := [some (.ref 141), some (.int (nI 0)), some (.int (nI 0)), some (.int (nI 0)), some (.long (lN 0)), none, none, none]) (r := []) d_10_15 cw_10 cm_1_24 cz_11 rfl rfl (hS.i (a := 141) (by decide) (by decide)) (by rw [cw_11]; exact (hS.s (a := 141) (by decide) (by decide) rfl)) (by rw [cw_11]; decide) rfl (cr_wk (show n + 1 ≤ 7 by omega) (k_crossFrom n (p := []) (l := []) hS ((hF.up (by decide +kernel)).up (by decide +kernel)) ((ht.s0 (by omega)).s0 (by omega)) (by rw [up2_n (by omega), up2_n (by omega)]; exact hn) hc (by rw [up2_n (by decide)]; exact up2_s) ha ⟨up2_s, fun i hi => absurd hi (Nat.not_lt_zero i)⟩ (Nat.zero_add n) (fun i hi => absurd hi (Nat.not_lt_zero i)) (by rw [df_list hn6 hl, List.length_map]; have := (tvL_ok (c := c) hn6).2; show 0 + _ ≤ 720; omega))) (fun v1 S1 G2 B1 J2 R1 h1 => ?_)
  obtain ⟨q0_, q1_, q2_, q3_, fx2, gf2, gt2, cr2⟩ := h1
  obtain rfl := q0_
  obtain rfl := q1_.symm
  obtain rfl := q2_.symm
  obtain rfl := q3_.symm
  rw [List.nil_append, df_list hn6 hl] at cr2
  show CR _ _ 18 [some (.ref 141), some (.ref a)] [] S G2 B J2 R _
  refine cr_nx (pc' := 19) (al' := [some (.ref 141), some (.ref a)]) (st' := [.ref 141]) d_10_18 (fun _ => rfl) ?_
  refine cr_gf (v := .int (nI ((tvL n c).length))) d_10_19 cw_10 cf_1_20 (hS.i (a := 141) (by decide) (by decide)) (hS.s (a := 141) (by decide) (by decide) rfl) (by decide) (by rw [cr2.1, List.length_map]) ?_
  exact cr_ri d_10_22 cx_10 rfl ⟨rfl, rfl, rfl, rfl, fx2, ((Gfr.rf.u (by decide)).u (by decide)).tr gf2, gt2, cr2⟩
def ShC (n a : Nat) (c : Nat → Nat) (L : List Nat) (k : Nat) : Prop := ∀ {S : CS} {G : Nat → Nat → Value} {B : Nat → Nat → Int32} {J : Nat → Nat → Int64} {R : Nat → Nat → Option Nat} {col u : Nat}, ShOk S → FxG G → TabAt S G a → G a 0 = .int (nI n) → G 141 0 = .ref a → CrS G J (L.map (mkM n)) → col + k = n → u < 2 ^ 36 → CR (k + 1) 13 0 [some (.ref 141), some (.int (nI col)), some (.long (lN u)), none, none, none] [] S G B J R (cP (some (.int (nI (mtM n L k col u)))) S G B J R)
theorem map_g {L : List Nat} {f : Nat → Nat} {j : Nat} (h : j < L.length) : (L.map f).getD j 0 = f (L.getD j 0) := by
  rw [List.getD_eq_getElem?_getD, List.getD_eq_getElem?_getD, List.getElem?_map, List.getElem?_eq_getElem h]
  rfl
theorem k_share_0 {n a : Nat} {c : Nat → Nat} {L : List Nat} (hn6 : n ≤ 6) : ShC n a c L 0 := by
  intro S G B J R col u hS hF ht hn hT hC hk hu
  refine cr_nx (pc' := 1) (al' := [some (.ref 141), some (.int (nI col)), some (.long (lN u)), none, none, none]) (st' := [.int (nI col)]) d_13_0 (fun _ => rfl) ?_
  refine cr_nx (pc' := 2) (al' := [some (.ref 141), some (.int (nI col)), some (.long (lN u)), none, none, none]) (st' := [.ref 141, .int (nI col)]) d_13_1 (fun _ => rfl) ?_
  refine cr_gf (v := .ref a) d_13_2 cw_13 cf_1_10 (hS.i (a := 141) (by decide) (by decide)) (hS.s (a := 141) (by decide) (by decide) rfl) (by decide) hT ?_
  refine cr_gf (v := .int (nI n)) d_13_5 cw_13 cf_1_28 ht.1 ht.2.2.1 (by decide) hn ?_
  refine cn_clt (t := 13) d_13_8 (by decide) (by first | omega | assumption | exact cu_36 (by omega) (cu_lt (by omega) (by omega))) (by first | omega | assumption | exact cu_36 (by omega) (cu_lt (by omega) (by omega))) (fun c8 => ?_) (fun c8 => ?_)
  · omega
  · refine cn_ic (v := 1) d_13_11 (by decide) ?_
    exact cr_ri d_13_12 cx_13 rfl ⟨rfl, rfl, rfl, rfl, rfl, rfl⟩
theorem k_share_s {n a k : Nat} {c : Nat → Nat} {L : List Nat} (hn6 : n ≤ 6) (hLF : ∀ r, r ∈ L → r < FA n) (hL720 : L.length ≤ 720) (ih : ShC n a c L k) : ShC n a c L (k + 1) := by
  intro S G B J R col u hS hF ht hn hT hC hk hu
  refine cr_nx (pc' := 1) (al' := [some (.ref 141), some (.int (nI col)), some (.long (lN u)), none, none, none]) (st' := [.int (nI col)]) d_13_0 (fun _ => rfl) ?_
  refine cr_nx (pc' := 2) (al' := [some (.ref 141), some (.int (nI col)), some (.long (lN u)), none, none, none]) (st' := [.ref 141, .int (nI col)]) d_13_1 (fun _ => rfl) ?_
  refine cr_gf (v := .ref a) d_13_2 cw_13 cf_1_10 (hS.i (a := 141) (by decide) (by decide)) (hS.s (a := 141) (by decide) (by decide) rfl) (by decide) hT ?_
  refine cr_gf (v := .int (nI n)) d_13_5 cw_13 cf_1_28 ht.1 ht.2.2.1 (by decide) hn ?_
  refine cn_clt (t := 13) d_13_8 (by decide) (by first | omega | assumption | exact cu_36 (by omega) (cu_lt (by omega) (by omega))) (by first | omega | assumption | exact cu_36 (by omega) (cu_lt (by omega) (by omega))) (fun c8 => ?_) (fun c8 => ?_)
  · refine cn_ic (v := 0) d_13_13 (by decide) ?_
    refine cr_nx (pc' := 16) (al' := [some (.ref 141), some (.int (nI col)), some (.long (lN u)), none, some (.int (nI 0)), none]) (st' := []) d_13_14 (fun _ => rfl) ?_
    refine cn_ic (v := 0) d_13_16 (by decide) ?_
    refine cr_nx (pc' := 19) (al' := [some (.ref 141), some (.int (nI col)), some (.long (lN u)), none, some (.int (nI 0)), some (.int (nI 0))]) (st' := []) d_13_17 (fun _ => rfl) ?_
    refine cr_al (congrArg (fun z__ : Nat => ([some (.ref 141), some (.int (nI col)), some (.long (lN u)), none, some (.int (nI z__)), some (.int (nI 0))] : AL)) (show 0 = SM (mtF n L k col u) 0 by rfl)) ?_
    refine cr_up (al := fun i => [some (.ref 141), some (.int (nI col)), some (.long (lN u)), none, some (.int (nI (SM (mtF n L k col u) i))), some (.int (nI i))]) (S := fun i => S) (G := fun i => G) (B := fun i => B) (J := fun i => J) (R := fun i => R) (P := fun i => True) (n := L.length) (fun i hi pi ihi => ?_) (fun pi => ?_) 0  (by omega) (trivial)
    · show CR _ _ 19 [some (.ref 141), some (.int (nI col)), some (.long (lN u)), none, some (.int (nI (SM (mtF n L k col u) i))), some (.int (nI i))] [] S G B J R _
      have hrF := hLF _ (gD_mem hi)
      have hm36 := mkM_lt hn6 hrF
      have hJ : J 144 i = lN (mkM n (L.getD i 0)) := by rw [hC.2 i (by rw [List.length_map]; exact hi), map_g hi]
      refine cr_nx (pc' := 21) (al' := [some (.ref 141), some (.int (nI col)), some (.long (lN u)), none, some (.int (nI (SM (mtF n L k col u) i))), some (.int (nI i))]) (st' := [.int (nI i)]) d_13_19 (fun _ => rfl) ?_
      refine cr_nx (pc' := 22) (al' := [some (.ref 141), some (.int (nI col)), some (.long (lN u)), none, some (.int (nI (SM (mtF n L k col u) i))), some (.int (nI i))]) (st' := [.ref 141, .int (nI i)]) d_13_21 (fun _ => rfl) ?_
      refine cr_gf (v := .int (nI L.length)) d_13_22 cw_13 cf_1_20 (hS.i (a := 141) (by decide) (by decide)) (hS.s (a := 141) (by decide) (by decide) rfl) (by decide) (by rw [hC.1, List.length_map]) ?_
      refine cn_cge (t := 85) d_13_25 (by decide) (by first | omega | assumption | exact cu_36 (by omega) (cu_lt (by omega) (by omega))) (by first | omega | assumption | exact cu_36 (by omega) (cu_lt (by omega) (by omega))) (fun c25 => ?_) (fun c25 => ?_)
      · omega
      · refine cr_nx (pc' := 29) (al' := [some (.ref 141), some (.int (nI col)), some (.long (lN u)), none, some (.int (nI (SM (mtF n L k col u) i))), some (.int (nI i))]) (st' := [.ref 141]) d_13_28 (fun _ => rfl) ?_
        refine cr_gf (v := .ref 144) d_13_29 cw_13 cf_1_16 (hS.i (a := 141) (by decide) (by decide)) (hS.s (a := 141) (by decide) (by decide) rfl) (by decide) (fx_141_1 hF) ?_
        refine cr_nx (pc' := 34) (al' := [some (.ref 141), some (.int (nI col)), some (.long (lN u)), none, some (.int (nI (SM (mtF n L k col u) i))), some (.int (nI i))]) (st' := [.int (nI i), .ref 144]) d_13_32 (fun _ => rfl) ?_
        refine cr_la (a := 144) (v :=  (lN (mkM n (L.getD i 0)))) d_13_34 (hS.i (a := 144) (by decide) (by decide)) (hS.s (a := 144) (by decide) (by decide) rfl) (by first | decide | omega) (show i < 720 by omega) hJ ?_
        refine cr_nx (pc' := 36) (al' := [some (.ref 141), some (.int (nI col)), some (.long (lN u)), none, some (.int (nI (SM (mtF n L k col u) i))), some (.int (nI i))]) (st' := [.int (nI col), .long (lN (mkM n (L.getD i 0)))]) d_13_35 (fun _ => rfl) ?_
        refine cr_lshr d_13_36 (by omega) (by omega) ?_
        refine cr_nx (pc' := 38) (al' := [some (.ref 141), some (.int (nI col)), some (.long (lN u)), none, some (.int (nI (SM (mtF n L k col u) i))), some (.int (nI i))]) (st' := [.long (lN 1), .long (lN ((mkM n (L.getD i 0)) / 2 ^ col))]) d_13_37 (fun _ => rfl) ?_
        refine cr_land d_13_38  ?_
        refine cr_nx (pc' := 40) (al' := [some (.ref 141), some (.int (nI col)), some (.long (lN u)), none, some (.int (nI (SM (mtF n L k col u) i))), some (.int (nI i))]) (st' := [.long (lN 0), .long (lN (((mkM n (L.getD i 0)) / 2 ^ col) &&& 1))]) d_13_39 (fun _ => rfl) ?_
        refine cr_nx (pc' := 41) (al' := [some (.ref 141), some (.int (nI col)), some (.long (lN u)), none, some (.int (nI (SM (mtF n L k col u) i))), some (.int (nI i))]) (st' := [.int (lg_cmp (lN (((mkM n (L.getD i 0)) / 2 ^ col) &&& 1)) (lN 0))]) d_13_40 (fun _ => rfl) ?_
        refine cr_ieq (t := 79) d_13_41 (by decide) (fun c41 => ?_) (fun c41 => ?_)
        · have h41f : ¬ pmE n (L.getD i 0) 0 = col := fun e => by
            have h0 := (lg_0 (show mkM n (L.getD i 0) / 2 ^ col &&& 1 < 2 ^ 63 by have := bt_lt (mkM n (L.getD i 0)) col; omega)).mp c41
            have := (mkM_0 hn6 hrF (by omega)).mpr e
            rw [bt_e0.mp h0] at this
            cases this
          refine cn_inc d_13_79 rfl rfl ?_
          show CR _ _ 82 [some (.ref 141), some (.int (nI col)), some (.long (lN u)), none, some (.int (nI (SM (mtF n L k col u) i))), some (.int (nI (i + 1)))] [] S G B J R _
          refine cr_nx (pc' := 19) (al' := [some (.ref 141), some (.int (nI col)), some (.long (lN u)), none, some (.int (nI (SM (mtF n L k col u) i))), some (.int (nI (i + 1)))]) (st' := []) d_13_82 (fun _ => rfl) ?_
          refine cr_al (congrArg (fun z__ : Nat => ([some (.ref 141), some (.int (nI col)), some (.long (lN u)), none, some (.int (nI z__)), some (.int (nI (i + 1)))] : AL)) (show SM (mtF n L k col u) i = SM (mtF n L k col u) (i + 1) by rw [SM_s, mtF, if_neg (fun e => h41f e.1)]; rfl)) ?_
          exact ihi  (trivial)
        · have h41t : pmE n (L.getD i 0) 0 = col := (mkM_0 hn6 hrF (by omega)).mp (by
            have hq : ¬ mkM n (L.getD i 0) / 2 ^ col &&& 1 = 0 := fun e => c41 ((lg_0 (by have := bt_lt (mkM n (L.getD i 0)) col; omega)).mpr e)
            exact bt_p0.mp (by omega))
          refine cr_nx (pc' := 45) (al' := [some (.ref 141), some (.int (nI col)), some (.long (lN u)), none, some (.int (nI (SM (mtF n L k col u) i))), some (.int (nI i))]) (st' := [.ref 141]) d_13_44 (fun _ => rfl) ?_
          refine cr_gf (v := .ref 144) d_13_45 cw_13 cf_1_16 (hS.i (a := 141) (by decide) (by decide)) (hS.s (a := 141) (by decide) (by decide) rfl) (by decide) (fx_141_1 hF) ?_
          refine cr_nx (pc' := 50) (al' := [some (.ref 141), some (.int (nI col)), some (.long (lN u)), none, some (.int (nI (SM (mtF n L k col u) i))), some (.int (nI i))]) (st' := [.int (nI i), .ref 144]) d_13_48 (fun _ => rfl) ?_
          refine cr_la (a := 144) (v :=  (lN (mkM n (L.getD i 0)))) d_13_50 (hS.i (a := 144) (by decide) (by decide)) (hS.s (a := 144) (by decide) (by decide) rfl) (by first | decide | omega) (show i < 720 by omega) hJ ?_
          refine cr_nx (pc' := 52) (al' := [some (.ref 141), some (.int (nI col)), some (.long (lN u)), none, some (.int (nI (SM (mtF n L k col u) i))), some (.int (nI i))]) (st' := [.long (lN u), .long (lN (mkM n (L.getD i 0)))]) d_13_51 (fun _ => rfl) ?_
          refine cr_land d_13_52  ?_
          refine cr_nx (pc' := 54) (al' := [some (.ref 141), some (.int (nI col)), some (.long (lN u)), none, some (.int (nI (SM (mtF n L k col u) i))), some (.int (nI i))]) (st' := [.long (lN 0), .long (lN ((mkM n (L.getD i 0)) &&& u))]) d_13_53 (fun _ => rfl) ?_
          refine cr_nx (pc' := 55) (al' := [some (.ref 141), some (.int (nI col)), some (.long (lN u)), none, some (.int (nI (SM (mtF n L k col u) i))), some (.int (nI i))]) (st' := [.int (lg_cmp (lN ((mkM n (L.getD i 0)) &&& u)) (lN 0))]) d_13_54 (fun _ => rfl) ?_
          refine cr_ine (t := 79) d_13_55 (by decide) (fun c55 => ?_) (fun c55 => ?_)
          · have h55f : ¬ mkM n (L.getD i 0) &&& u = 0 := fun e => c55 ((lg_0 (Nat.lt_of_le_of_lt Nat.and_le_left (by omega))).mpr e)
            refine cn_inc d_13_79 rfl rfl ?_
            show CR _ _ 82 [some (.ref 141), some (.int (nI col)), some (.long (lN u)), none, some (.int (nI (SM (mtF n L k col u) i))), some (.int (nI (i + 1)))] [] S G B J R _
            refine cr_nx (pc' := 19) (al' := [some (.ref 141), some (.int (nI col)), some (.long (lN u)), none, some (.int (nI (SM (mtF n L k col u) i))), some (.int (nI (i + 1)))]) (st' := []) d_13_82 (fun _ => rfl) ?_
            refine cr_al (congrArg (fun z__ : Nat => ([some (.ref 141), some (.int (nI col)), some (.long (lN u)), none, some (.int (nI z__)), some (.int (nI (i + 1)))] : AL)) (show SM (mtF n L k col u) i = SM (mtF n L k col u) (i + 1) by rw [SM_s, mtF, if_neg (fun e => h55f e.2)]; rfl)) ?_
            exact ihi  (trivial)
          · have h55t : mkM n (L.getD i 0) &&& u = 0 := (lg_0 (Nat.lt_of_le_of_lt Nat.and_le_left (by omega))).mp c55
            refine cr_nx (pc' := 60) (al' := [some (.ref 141), some (.int (nI col)), some (.long (lN u)), none, some (.int (nI (SM (mtF n L k col u) i))), some (.int (nI i))]) (st' := [.int (nI (SM (mtF n L k col u) i))]) d_13_58 (fun _ => rfl) ?_
            refine cr_nx (pc' := 61) (al' := [some (.ref 141), some (.int (nI col)), some (.long (lN u)), none, some (.int (nI (SM (mtF n L k col u) i))), some (.int (nI i))]) (st' := [.ref 141, .int (nI (SM (mtF n L k col u) i))]) d_13_60 (fun _ => rfl) ?_
            refine cr_nx (pc' := 62) (al' := [some (.ref 141), some (.int (nI col)), some (.long (lN u)), none, some (.int (nI (SM (mtF n L k col u) i))), some (.int (nI i))]) (st' := [.int (nI col), .ref 141, .int (nI (SM (mtF n L k col u) i))]) d_13_61 (fun _ => rfl) ?_
            refine cn_ic (v := 1) d_13_62 (by decide) ?_
            refine cn_add d_13_63  ?_
            refine cr_nx (pc' := 65) (al' := [some (.ref 141), some (.int (nI col)), some (.long (lN u)), none, some (.int (nI (SM (mtF n L k col u) i))), some (.int (nI i))]) (st' := [.long (lN u), .int (nI (col + 1)), .ref 141, .int (nI (SM (mtF n L k col u) i))]) d_13_64 (fun _ => rfl) ?_
            refine cr_nx (pc' := 66) (al' := [some (.ref 141), some (.int (nI col)), some (.long (lN u)), none, some (.int (nI (SM (mtF n L k col u) i))), some (.int (nI i))]) (st' := [.ref 141, .long (lN u), .int (nI (col + 1)), .ref 141, .int (nI (SM (mtF n L k col u) i))]) d_13_65 (fun _ => rfl) ?_
            refine cr_gf (v := .ref 144) d_13_66 cw_13 cf_1_16 (hS.i (a := 141) (by decide) (by decide)) (hS.s (a := 141) (by decide) (by decide) rfl) (by decide) (fx_141_1 hF) ?_
            refine cr_nx (pc' := 71) (al' := [some (.ref 141), some (.int (nI col)), some (.long (lN u)), none, some (.int (nI (SM (mtF n L k col u) i))), some (.int (nI i))]) (st' := [.int (nI i), .ref 144, .long (lN u), .int (nI (col + 1)), .ref 141, .int (nI (SM (mtF n L k col u) i))]) d_13_69 (fun _ => rfl) ?_
            refine cr_la (a := 144) (v :=  (lN (mkM n (L.getD i 0)))) d_13_71 (hS.i (a := 144) (by decide) (by decide)) (hS.s (a := 144) (by decide) (by decide) rfl) (by first | decide | omega) (show i < 720 by omega) hJ ?_
            refine cr_lor d_13_72  ?_
            refine cr_pv (b := 141) (as := [.int (nI (col + 1)), .long (lN (u ||| (mkM n (L.getD i 0))))]) (al0 := [some (.ref 141), some (.int (nI (col + 1))), some (.long (lN (u ||| (mkM n (L.getD i 0))))), none, none, none]) (r := [.int (nI (SM (mtF n L k col u) i))]) d_13_73 cw_13 cm_1_39 cz_13 rfl rfl (hS.i (a := 141) (by decide) (by decide)) (by rw [cw_13]; exact (hS.s (a := 141) (by decide) (by decide) rfl)) (by rw [cw_13]; decide) rfl (Nat.le_refl _) (ih hS hF ht hn hT hC (by omega) (Nat.or_lt_two_pow hu hm36)) ?_
            show CR _ _ 76 [some (.ref 141), some (.int (nI col)), some (.long (lN u)), none, some (.int (nI (SM (mtF n L k col u) i))), some (.int (nI i))] [.int (nI (mtM n L k (col + 1) (u ||| mkM n (L.getD i 0)))), .int (nI (SM (mtF n L k col u) i))] S G B J R _
            refine cn_add d_13_76  ?_
            refine cr_nx (pc' := 79) (al' := [some (.ref 141), some (.int (nI col)), some (.long (lN u)), none, some (.int (nI ((SM (mtF n L k col u) i) + (mtM n L k (col + 1) (u ||| mkM n (L.getD i 0)))))), some (.int (nI i))]) (st' := []) d_13_77 (fun _ => rfl) ?_
            refine cn_inc d_13_79 rfl rfl ?_
            show CR _ _ 82 [some (.ref 141), some (.int (nI col)), some (.long (lN u)), none, some (.int (nI ((SM (mtF n L k col u) i) + (mtM n L k (col + 1) (u ||| mkM n (L.getD i 0)))))), some (.int (nI (i + 1)))] [] S G B J R _
            refine cr_nx (pc' := 19) (al' := [some (.ref 141), some (.int (nI col)), some (.long (lN u)), none, some (.int (nI ((SM (mtF n L k col u) i) + (mtM n L k (col + 1) (u ||| mkM n (L.getD i 0)))))), some (.int (nI (i + 1)))]) (st' := []) d_13_82 (fun _ => rfl) ?_
            refine cr_al (congrArg (fun z__ : Nat => ([some (.ref 141), some (.int (nI col)), some (.long (lN u)), none, some (.int (nI z__)), some (.int (nI (i + 1)))] : AL)) (show (SM (mtF n L k col u) i) + (mtM n L k (col + 1) (u ||| mkM n (L.getD i 0))) = SM (mtF n L k col u) (i + 1) by rw [SM_s, mtF, if_pos ⟨h41t, h55t⟩])) ?_
            exact ihi  (trivial)
    · show CR _ _ 19 [some (.ref 141), some (.int (nI col)), some (.long (lN u)), none, some (.int (nI (SM (mtF n L k col u) L.length))), some (.int (nI L.length))] [] S G B J R _
      refine cr_nx (pc' := 21) (al' := [some (.ref 141), some (.int (nI col)), some (.long (lN u)), none, some (.int (nI (SM (mtF n L k col u) L.length))), some (.int (nI L.length))]) (st' := [.int (nI L.length)]) d_13_19 (fun _ => rfl) ?_
      refine cr_nx (pc' := 22) (al' := [some (.ref 141), some (.int (nI col)), some (.long (lN u)), none, some (.int (nI (SM (mtF n L k col u) L.length))), some (.int (nI L.length))]) (st' := [.ref 141, .int (nI L.length)]) d_13_21 (fun _ => rfl) ?_
      refine cr_gf (v := .int (nI L.length)) d_13_22 cw_13 cf_1_20 (hS.i (a := 141) (by decide) (by decide)) (hS.s (a := 141) (by decide) (by decide) rfl) (by decide) (by rw [hC.1, List.length_map]) ?_
      refine cn_cge (t := 85) d_13_25 (by decide) (by first | omega | assumption | exact cu_36 (by omega) (cu_lt (by omega) (by omega))) (by first | omega | assumption | exact cu_36 (by omega) (cu_lt (by omega) (by omega))) (fun c25 => ?_) (fun c25 => ?_)
      · refine cr_nx (pc' := 87) (al' := [some (.ref 141), some (.int (nI col)), some (.long (lN u)), none, some (.int (nI (SM (mtF n L k col u) L.length))), some (.int (nI L.length))]) (st' := [.int (nI (SM (mtF n L k col u) L.length))]) d_13_85 (fun _ => rfl) ?_
        exact cr_ri d_13_87 cx_13 rfl ⟨rfl, rfl, rfl, rfl, rfl, rfl⟩
      · omega
  · omega
theorem k_shareFrom {n a : Nat} {c : Nat → Nat} {L : List Nat} (hn6 : n ≤ 6) (hLF : ∀ r, r ∈ L → r < FA n) (hL720 : L.length ≤ 720) : ∀ k, ShC n a c L k
  | 0 => k_share_0 (c := c) hn6
  | k + 1 => k_share_s (c := c) hn6 hLF hL720 (k_shareFrom (c := c) hn6 hLF hL720 k)
theorem k_mates {S : CS} {G : Nat → Nat → Value} {B : Nat → Nat → Int32} {J : Nat → Nat → Int64} {R : Nat → Nat → Option Nat} (hS : ShOk S) (hF : FxG G) {a n : Nat} (ht : TabAt S G a) (hn : G a 0 = .int (nI n)) {c : Nat → Nat} (hc : TabC B a n c) (hl : Lat n c) (ha : a ≠ 141) : CR 9 12 0 [some (.ref 141), some (.ref a)] [] S G B J R (fun r_ S' G' B' J' R' => r_ = some (.int (nI (mtN n c))) ∧ S' = S ∧ B' = B ∧ R' = R ∧ FxG G' ∧ Gfr [141] G G') := by
  have hn6 := hc.1
  refine cr_nx (pc' := 1) (al' := [some (.ref 141), some (.ref a)]) (st' := [.ref 141]) d_12_0 (fun _ => rfl) ?_
  refine cr_nx (pc' := 2) (al' := [some (.ref 141), some (.ref a)]) (st' := [.ref a, .ref 141]) d_12_1 (fun _ => rfl) ?_
  refine cr_cv (b := 141) (as := [.ref a]) (al0 := [some (.ref 141), some (.ref a)]) (r := []) d_12_2 cw_12 cm_1_35 cz_10 rfl rfl (hS.i (a := 141) (by decide) (by decide)) (by rw [cw_10]; exact (hS.s (a := 141) (by decide) (by decide) rfl)) (by rw [cw_10]; decide) rfl (cr_wk (Nat.le_of_ble_eq_true rfl) (k_transversals hS hF ht hn hc hl ha)) (fun v1 S1 G2 B1 J2 R1 h1 => ?_)
  obtain ⟨q0_, q1_, q2_, q3_, fx2, gf2, gt2, cr2⟩ := h1
  obtain rfl := q0_
  obtain rfl := q1_.symm
  obtain rfl := q2_.symm
  obtain rfl := q3_.symm
  show CR _ _ 5 [some (.ref 141), some (.ref a)] [.int (nI ((tvL n c).length))] S G2 B J2 R _
  refine cr_nx (pc' := 6) (al' := [some (.ref 141), some (.ref a)]) (st' := []) d_12_5 (fun _ => rfl) ?_
  refine cr_nx (pc' := 7) (al' := [some (.ref 141), some (.ref a)]) (st' := [.ref 141]) d_12_6 (fun _ => rfl) ?_
  refine cn_ic (v := 0) d_12_7 (by decide) ?_
  refine cr_nx (pc' := 9) (al' := [some (.ref 141), some (.ref a)]) (st' := [.long (lN 0), .int (nI 0), .ref 141]) d_12_8 (fun _ => rfl) ?_
  refine cr_pv (b := 141) (as := [.int (nI 0), .long (lN 0)]) (al0 := [some (.ref 141), some (.int (nI 0)), some (.long (lN 0)), none, none, none]) (r := []) d_12_9 cw_12 cm_1_39 cz_13 rfl rfl (hS.i (a := 141) (by decide) (by decide)) (by rw [cw_13]; exact (hS.s (a := 141) (by decide) (by decide) rfl)) (by rw [cw_13]; decide) rfl (show n + 1 ≤ 8 by omega) (k_shareFrom (c := c) hn6 (tvL_ok hn6).1 (tvL_ok hn6).2 n hS fx2 (gf2.t (by simpa using ha) ht) (by rw [gf2 a (by simpa using ha)]; exact hn) gt2 cr2 (Nat.zero_add n) (by decide)) ?_
  show CR _ _ 12 [some (.ref 141), some (.ref a)] [.int (nI (mtN n c))] S G2 B J2 R _
  exact cr_ri d_12_12 cx_12 rfl ⟨rfl, rfl, rfl, rfl, fx2, gf2⟩
