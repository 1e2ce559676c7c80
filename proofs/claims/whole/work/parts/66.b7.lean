/-! Groups of multiplication: both; printed by wip/whole/gen_b7.py. -/
/-- the k-th maker: rows, then columns -/
def mkG (n : Nat) (c : Nat → Nat) (k x : Nat) : Nat := if k < n then c (n * k + x) else c (n * x + (k - n))
theorem mkG_per {n : Nat} {c : Nat → Nat} {k : Nat} (hl : Lat n c) (hk : k < 2 * n) : Per n (mkG n c k) := by
  unfold mkG
  by_cases h : k < n
  · simp only [h, if_true]
    exact ⟨fun x hx => hl.b h hx, fun i j hi hj e => hl.2.1 k i j h hi hj e⟩
  · simp only [h, if_false]
    exact ⟨fun x hx => hl.b hx (by omega), fun i j hi hj e => hl.2.2 i j (k - n) hi hj (by omega) e⟩
theorem Per.cmp {n : Nat} {p q : Nat → Nat} (hp : Per n p) (hq : Per n q) : Per n (fun x => p (q x)) := ⟨fun k hk => hp.1 _ (hq.1 k hk), fun i j hi hj e => hq.2 i j hi hj (hp.2 _ _ (hq.1 i hi) (hq.1 j hj) e)⟩
/-- the number of a permutation -/
def rkN (n : Nat) (p : Nat → Nat) : Nat := (rkS n p n).2
theorem rk_ok {n : Nat} {p : Nat → Nat} (hn : n ≤ 6) (h : Per n p) : rkOk n (rkN n p) p := by
  obtain ⟨r, hr⟩ := per_num hn h
  have : rkN n p = r := hr.2.1
  rw [this]
  exact hr
/-- what follows the r-th permutation by the k-th maker -/
def scN (n : Nat) (c : Nat → Nat) (r k : Nat) : Nat := rkN n (fun x => mkG n c k (pmE n r x))
theorem sc_per {n : Nat} {c : Nat → Nat} {r k : Nat} (hn : n ≤ 6) (hl : Lat n c) (hr : r < FA n) (hk : k < 2 * n) : Per n (fun x => mkG n c k (pmE n r x)) := (mkG_per hl hk).cmp (pm_per hn hr)
theorem sc_ok {n : Nat} {c : Nat → Nat} {r k : Nat} (hn : n ≤ 6) (hl : Lat n c) (hr : r < FA n) (hk : k < 2 * n) : rkOk n (scN n c r k) (fun x => mkG n c k (pmE n r x)) := rk_ok hn (sc_per hn hl hr hk)
def Rea (n : Nat) (c : Nat → Nat) (lo hi v : Nat) : Prop := ∀ T : Nat → Prop, T 0 → (∀ r k, r < FA n → T r → lo ≤ k → k < hi → T (scN n c r k)) → T v
def BfI (n : Nat) (c : Nat → Nat) (lo hi i : Nat) (l : List Nat) : Prop := l.Nodup ∧ (∀ v, v ∈ l → v < FA n) ∧ 0 ∈ l ∧ i ≤ l.length ∧ (∀ j, j < i → ∀ k, lo ≤ k → k < hi → scN n c (l.getD j 0) k ∈ l) ∧ ∀ v, v ∈ l → Rea n c lo hi v
theorem gD_app {l : List Nat} {v j : Nat} (h : j < l.length) : (l ++ [v]).getD j 0 = l.getD j 0 := by
  rw [List.getD_eq_getElem?_getD, List.getD_eq_getElem?_getD, List.getElem?_append_left h]
theorem gD_end {l : List Nat} {v : Nat} : (l ++ [v]).getD l.length 0 = v := by
  rw [List.getD_eq_getElem?_getD, List.getElem?_append_right (Nat.le_refl _), Nat.sub_self]
  rfl
theorem gD_mem {l : List Nat} {j : Nat} (h : j < l.length) : l.getD j 0 ∈ l := by
  rw [List.getD_eq_getElem?_getD, List.getElem?_eq_getElem h]
  exact List.getElem_mem h
theorem Bf_0 {n : Nat} {c : Nat → Nat} {lo hi : Nat} : BfI n c lo hi 0 [0] := ⟨List.nodup_cons.mpr ⟨List.not_mem_nil, List.nodup_nil⟩, fun v hv => by rw [List.mem_singleton.mp hv]; exact FA_pos n, List.mem_singleton.mpr rfl, Nat.zero_le _, fun j hj => absurd hj (Nat.not_lt_zero j), fun v hv => by
  rw [List.mem_singleton.mp hv]
  exact fun T h0 _ => h0⟩
theorem Bf_add {n : Nat} {c : Nat → Nat} {lo hi i k v : Nat} {l : List Nat} (hn : n ≤ 6) (hl : Lat n c) (h : BfI n c lo hi i l) (hil : i < l.length) (hk1 : lo ≤ k) (hk2 : k < hi) (hk3 : k < 2 * n) (hv : scN n c (l.getD i 0) k = v) (hno : v ∉ l) : BfI n c lo hi i (l ++ [v]) := by
  obtain ⟨a1, a2, a3, a4, a5, a6⟩ := h
  have hm := gD_mem hil
  refine ⟨?_, ?_, List.mem_append_left _ a3, by rw [List.length_append]; omega, ?_, ?_⟩
  · rw [List.nodup_append]
    exact ⟨a1, List.nodup_cons.mpr ⟨List.not_mem_nil, List.nodup_nil⟩, fun x hx y hy e => by
      rw [List.mem_singleton.mp hy] at e
      exact hno (e ▸ hx)⟩
  · intro w hw
    rcases List.mem_append.mp hw with h1 | h1
    · exact a2 w h1
    · rw [List.mem_singleton.mp h1, ← hv]
      exact (sc_ok hn hl (a2 _ hm) hk3).1
  · intro j hj k2 hk hk'
    rw [gD_app (by omega)]
    exact List.mem_append_left _ (a5 j hj k2 hk hk')
  · intro w hw
    rcases List.mem_append.mp hw with h1 | h1
    · exact a6 w h1
    · rw [List.mem_singleton.mp h1, ← hv]
      exact fun T h0 hs => hs _ _ (a2 _ hm) (a6 _ hm T h0 hs) hk1 hk2
theorem Bf_len {n : Nat} {c : Nat → Nat} {lo hi i : Nat} {l : List Nat} (h : BfI n c lo hi i l) : l.length ≤ FA n := by
  have := List.Nodup.length_le_of_subset h.1 (l₂ := List.range (FA n)) (fun v hv => List.mem_range.mpr (h.2.1 v hv))
  rw [List.length_range] at this
  exact this
theorem Bf_end {n : Nat} {c : Nat → Nat} {lo hi i : Nat} {l : List Nat} (h : BfI n c lo hi i l) (he : l.length ≤ i) (v : Nat) : v ∈ l ↔ Rea n c lo hi v := by
  refine ⟨h.2.2.2.2.2 v, fun hr => hr (fun w => w ∈ l) h.2.2.1 (fun r k hr hm h1 h2 => ?_)⟩
  obtain ⟨j, hj, e⟩ := List.getElem_of_mem hm
  have := h.2.2.2.2.1 j (by omega) k h1 h2
  rw [List.getD_eq_getElem?_getD, List.getElem?_eq_getElem hj] at this
  rw [← e]
  exact this
theorem Bf_eq {n : Nat} {c : Nat → Nat} {lo hi i j : Nat} {l m : List Nat} (h : BfI n c lo hi i l) (he : l.length ≤ i) (h2 : BfI n c lo hi j m) (he2 : m.length ≤ j) : l.length = m.length := ((List.perm_ext_iff_of_nodup h.1 h2.1).mpr (fun v => by rw [Bf_end h he, Bf_end h2 he2])).length_eq
/-- one more done -/
theorem Bf_nx {n : Nat} {c : Nat → Nat} {lo hi i : Nat} {l : List Nat} (h : BfI n c lo hi i l) (hil : i < l.length) (hk : ∀ k, lo ≤ k → k < hi → scN n c (l.getD i 0) k ∈ l) : BfI n c lo hi (i + 1) l := ⟨h.1, h.2.1, h.2.2.1, by omega, fun j hj k h1 h2 => by
  rcases Nat.lt_succ_iff_lt_or_eq.mp hj with e | e
  · exact h.2.2.2.2.1 j e k h1 h2
  · rw [e]
    exact hk k h1 h2, h.2.2.2.2.2⟩
theorem s_maker {g : Nat → Int32} {A : Nat → Nat → Int32} {n : Nat} {c : Nat → Nat} (hc : Cur g A n c) {k : Nat} (hk : k < 2 * n) : RR 1 256 0 [some (.ref 146), some (.int (nI k)), none] [] g A (pmR 18 g A n (fun x => nI (mkG n c k x))) := by
  have hn6 := hc.2.1
  refine rn_ic (v := 0) d_256_0 (by decide) ?_
  refine rr_nx (pc' := 2) (al' := [some (.ref 146), some (.int (nI k)), some (.int (nI 0))]) (st' := []) d_256_1 (fun _ => rfl) ?_
  refine rr_A (show A = (rf_u A 18 (A 18)) by rw [rf_u_id]) ?_
  refine rr_upw (al := fun x w_ => [some (.ref 146), some (.int (nI k)), some (.int (nI x))]) (G := fun x w_ => g) (B := fun x w_ => (rf_u A 18 w_)) (P := fun x w_ => ∀ q, q < x → w_ q = nI (mkG n c k q)) (n := n) (fun x w_ hx px ihx => ?_) (fun w_ px => ?_) 0 (A 18) (by omega) (all_0)
  · show RR _ _ 2 [some (.ref 146), some (.int (nI k)), some (.int (nI x))] [] g (rf_u A 18 w_) _
    refine rr_nx (pc' := 3) (al' := [some (.ref 146), some (.int (nI k)), some (.int (nI x))]) (st' := [.int (nI x)]) d_256_2 (fun _ => rfl) ?_
    refine rr_nx (pc' := 4) (al' := [some (.ref 146), some (.int (nI k)), some (.int (nI x))]) (st' := [.ref 146, .int (nI x)]) d_256_3 (fun _ => rfl) ?_
    refine rr_gn d_256_4 mo_256 fl_127 rfl hc.1 ?_
    refine rn_cge (t := 50) d_256_7 (by decide) (by first | omega | assumption | exact cu_36 (by omega) (cu_lt (by omega) (by omega))) (by first | omega | assumption | exact cu_36 (by omega) (cu_lt (by omega) (by omega))) (fun c7 => ?_) (fun c7 => ?_)
    · omega
    · refine rr_nx (pc' := 11) (al' := [some (.ref 146), some (.int (nI k)), some (.int (nI x))]) (st' := [.ref 146]) d_256_10 (fun _ => rfl) ?_
      refine rr_gf (v := .ref (147 + 18)) d_256_11 mo_256 fl_70 rfl ?_
      refine rr_nx (pc' := 15) (al' := [some (.ref 146), some (.int (nI k)), some (.int (nI x))]) (st' := [.int (nI x), .ref (147 + 18)]) d_256_14 (fun _ => rfl) ?_
      refine rr_nx (pc' := 16) (al' := [some (.ref 146), some (.int (nI k)), some (.int (nI x))]) (st' := [.int (nI k), .int (nI x), .ref (147 + 18)]) d_256_15 (fun _ => rfl) ?_
      refine rr_nx (pc' := 17) (al' := [some (.ref 146), some (.int (nI k)), some (.int (nI x))]) (st' := [.ref 146, .int (nI k), .int (nI x), .ref (147 + 18)]) d_256_16 (fun _ => rfl) ?_
      refine rr_gn d_256_17 mo_256 fl_127 rfl hc.1 ?_
      refine rn_cge (t := 32) d_256_20 (by decide) (by first | omega | assumption | exact cu_36 (by omega) (cu_lt (by omega) (by omega))) (by first | omega | assumption | exact cu_36 (by omega) (cu_lt (by omega) (by omega))) (fun c20 => ?_) (fun c20 => ?_)
      · refine rr_nx (pc' := 33) (al' := [some (.ref 146), some (.int (nI k)), some (.int (nI x))]) (st' := [.ref 146, .int (nI x), .ref (147 + 18)]) d_256_32 (fun _ => rfl) ?_
        refine rr_nx (pc' := 34) (al' := [some (.ref 146), some (.int (nI k)), some (.int (nI x))]) (st' := [.int (nI x), .ref 146, .int (nI x), .ref (147 + 18)]) d_256_33 (fun _ => rfl) ?_
        refine rr_nx (pc' := 35) (al' := [some (.ref 146), some (.int (nI k)), some (.int (nI x))]) (st' := [.int (nI k), .int (nI x), .ref 146, .int (nI x), .ref (147 + 18)]) d_256_34 (fun _ => rfl) ?_
        refine rr_nx (pc' := 36) (al' := [some (.ref 146), some (.int (nI k)), some (.int (nI x))]) (st' := [.ref 146, .int (nI k), .int (nI x), .ref 146, .int (nI x), .ref (147 + 18)]) d_256_35 (fun _ => rfl) ?_
        refine rr_gn d_256_36 mo_256 fl_127 rfl hc.1 ?_
        refine rn_sub d_256_39 (by first | omega | assumption | exact cu_36 (by omega) (cu_lt (by omega) (by omega))) ?_
        refine rr_pv (as := [.int (nI x), .int (nI (k - n))]) (al0 := [some (.ref 146), some (.int (nI x)), some (.int (nI (k - n)))]) (r := [.int (nI x), .ref (147 + 18)]) d_256_40 mo_256 ml_130 mz_213 rfl rfl rfl (Nat.le_of_ble_eq_true rfl) (s_times (hc.up (j := 18) (by decide)) (by omega) (by omega)) ?_
        show RR _ _ 43 [some (.ref 146), some (.int (nI k)), some (.int (nI x))] [.int (nI (c (n * x + (k - n)))), .int (nI x), .ref (147 + 18)] g (rf_u A 18 w_) _
        have b40 : c (n * x + (k - n)) < n := (hc.2.2 _ (cu_lt (by omega) (by omega))).2
        refine rr_iS (j := 18) (A1 := (rf_u A 18 (upd w_ x (nI (c (n * x + (k - n))))))) d_256_43 (by decide) rfl (by decide) (show x < 6 by first | omega | assumption | exact cu_36 (by omega) (cu_lt (by omega) (by omega))) rf_uw ?_
        refine rn_inc d_256_44 rfl rfl ?_
        show RR _ _ 47 [some (.ref 146), some (.int (nI k)), some (.int (nI (x + 1)))] [] g (rf_u A 18 (upd w_ x (nI (c (n * x + (k - n)))))) _
        refine rr_nx (pc' := 2) (al' := [some (.ref 146), some (.int (nI k)), some (.int (nI (x + 1)))]) (st' := []) d_256_47 (fun _ => rfl) ?_
        exact ihx (upd w_ x (nI (c (n * x + (k - n))))) (up_all (f := fun x => nI (mkG n c k x)) px (by first | exact congrArg nI (if_pos c20).symm | exact congrArg nI (if_neg (Nat.not_lt.mpr c20)).symm))
      · refine rr_nx (pc' := 24) (al' := [some (.ref 146), some (.int (nI k)), some (.int (nI x))]) (st' := [.ref 146, .int (nI x), .ref (147 + 18)]) d_256_23 (fun _ => rfl) ?_
        refine rr_nx (pc' := 25) (al' := [some (.ref 146), some (.int (nI k)), some (.int (nI x))]) (st' := [.int (nI k), .ref 146, .int (nI x), .ref (147 + 18)]) d_256_24 (fun _ => rfl) ?_
        refine rr_nx (pc' := 26) (al' := [some (.ref 146), some (.int (nI k)), some (.int (nI x))]) (st' := [.int (nI x), .int (nI k), .ref 146, .int (nI x), .ref (147 + 18)]) d_256_25 (fun _ => rfl) ?_
        refine rr_pv (as := [.int (nI k), .int (nI x)]) (al0 := [some (.ref 146), some (.int (nI k)), some (.int (nI x))]) (r := [.int (nI x), .ref (147 + 18)]) d_256_26 mo_256 ml_130 mz_213 rfl rfl rfl (Nat.le_of_ble_eq_true rfl) (s_times (hc.up (j := 18) (by decide)) (by omega) (by omega)) ?_
        show RR _ _ 29 [some (.ref 146), some (.int (nI k)), some (.int (nI x))] [.int (nI (c (n * k + x))), .int (nI x), .ref (147 + 18)] g (rf_u A 18 w_) _
        have b26 : c (n * k + x) < n := (hc.2.2 _ (cu_lt (by omega) (by omega))).2
        refine rr_nx (pc' := 43) (al' := [some (.ref 146), some (.int (nI k)), some (.int (nI x))]) (st' := [.int (nI (c (n * k + x))), .int (nI x), .ref (147 + 18)]) d_256_29 (fun _ => rfl) ?_
        refine rr_iS (j := 18) (A1 := (rf_u A 18 (upd w_ x (nI (c (n * k + x)))))) d_256_43 (by decide) rfl (by decide) (show x < 6 by first | omega | assumption | exact cu_36 (by omega) (cu_lt (by omega) (by omega))) rf_uw ?_
        refine rn_inc d_256_44 rfl rfl ?_
        show RR _ _ 47 [some (.ref 146), some (.int (nI k)), some (.int (nI (x + 1)))] [] g (rf_u A 18 (upd w_ x (nI (c (n * k + x))))) _
        refine rr_nx (pc' := 2) (al' := [some (.ref 146), some (.int (nI k)), some (.int (nI (x + 1)))]) (st' := []) d_256_47 (fun _ => rfl) ?_
        exact ihx (upd w_ x (nI (c (n * k + x)))) (up_all (f := fun x => nI (mkG n c k x)) px (by first | exact congrArg nI (if_pos c20).symm | exact congrArg nI (if_neg (Nat.not_lt.mpr c20)).symm))
  · show RR _ _ 2 [some (.ref 146), some (.int (nI k)), some (.int (nI n))] [] g (rf_u A 18 w_) _
    refine rr_nx (pc' := 3) (al' := [some (.ref 146), some (.int (nI k)), some (.int (nI n))]) (st' := [.int (nI n)]) d_256_2 (fun _ => rfl) ?_
    refine rr_nx (pc' := 4) (al' := [some (.ref 146), some (.int (nI k)), some (.int (nI n))]) (st' := [.ref 146, .int (nI n)]) d_256_3 (fun _ => rfl) ?_
    refine rr_gn d_256_4 mo_256 fl_127 rfl hc.1 ?_
    refine rn_cge (t := 50) d_256_7 (by decide) (by first | omega | assumption | exact cu_36 (by omega) (cu_lt (by omega) (by omega))) (by first | omega | assumption | exact cu_36 (by omega) (cu_lt (by omega) (by omega))) (fun c7 => ?_) (fun c7 => ?_)
    · exact rr_rv d_256_50 mr_256 ⟨rfl, rfl, w_, rfl, px⟩
    · omega
def GrR (n : Nat) (A : Nat → Nat → Int32) (l : List Nat) : Prop := (∀ j, j < l.length → A 16 j = nI (l.getD j 0)) ∧ ∀ r, r < FA n → A 15 r = nI (if r ∈ l then 1 else 0)
theorem GrR.ad {n : Nat} {A A' : Nat → Nat → Int32} {l : List Nat} {v : Nat} (h : GrR n A l) (hv : v ∉ l) (h16 : A' 16 = upd (A 16) l.length (nI v)) (h15 : A' 15 = upd (A 15) v (nI 1)) : GrR n A' (l ++ [v]) := by
  refine ⟨fun j hj => ?_, fun r hr => ?_⟩
  · rw [h16]
    rw [List.length_append] at hj
    by_cases e : j = l.length
    · subst e
      rw [pk_us, gD_end]
    · rw [pk_un e, gD_app (by simp at hj; omega)]
      exact h.1 j (by simp at hj; omega)
  · rw [h15]
    by_cases e : r = v
    · subst e
      rw [pk_us, if_pos (by simp)]
    · rw [pk_un e, h.2 r hr]
      by_cases h2 : r ∈ l
      · rw [if_pos h2, if_pos (by simp [h2])]
      · rw [if_neg h2, if_neg (by simp [h2, e])]
theorem GrR.cg {n : Nat} {A A' : Nat → Nat → Int32} {l : List Nat} (h : GrR n A l) (h16 : A' 16 = A 16) (h15 : A' 15 = A 15) : GrR n A' l := ⟨fun j hj => by rw [h16]; exact h.1 j hj, fun r hr => by rw [h15]; exact h.2 r hr⟩
theorem nar_b (v : Nat) (h : v = 0 ∨ v = 1) : vp_nar .boolean (nI v) = nI v := by
  rcases h with h | h <;> subst h <;> rfl
theorem rf_idn {A : Nat → Nat → Int32} {i j : Nat} {v : Nat → Int32} (h : j ≠ i) : rf_u A i v = rf_u (rf_u A i v) j (A j) := by
  rw [rf_sw h.symm, rf_u_id]
theorem s_group0 {g : Nat → Int32} {A : Nat → Nat → Int32} {n : Nat} {c : Nat → Nat} (hc : Cur g A n c) (hl : Lat n c) : RR 2 255 24 [some (.ref 146), none, some (.int (nI 0)), none, none, none, none, none] [] g A (fun r_ g' A' => ∃ l i, BfI n c 0 (n) i l ∧ l.length ≤ i ∧ r_ = some (.int (nI l.length)) ∧ Gsm g g' ∧ Ksm A A') := by
  have hn6 := hc.2.1
  have h720 := FA_720 hn6
  have hfp := FA_pos n
  refine rr_nx (pc' := 25) (al' := [some (.ref 146), none, some (.int (nI 0)), none, none, none, none, none]) (st' := [.ref 146]) d_255_24 (fun _ => rfl) ?_
  refine rr_gn d_255_25 mo_255 fl_127 rfl hc.1 ?_
  refine rr_ps (as := [.int (nI n)]) (al0 := [some (.int (nI n)), none, none]) (r := []) d_255_28 mo_255 ml_270 mz_233 rfl rfl rfl (Nat.le_of_ble_eq_true rfl) (s_factorial (by omega)) ?_
  show RR _ _ 31 [some (.ref 146), none, some (.int (nI 0)), none, none, none, none, none] [.int (nI (FA n))] g A _
  refine rr_nx (pc' := 32) (al' := [some (.ref 146), none, some (.int (nI 0)), some (.int (nI (FA n))), none, none, none, none]) (st' := []) d_255_31 (fun _ => rfl) ?_
  refine rn_ic (v := 0) d_255_32 (by decide) ?_
  refine rr_nx (pc' := 35) (al' := [some (.ref 146), none, some (.int (nI 0)), some (.int (nI (FA n))), some (.int (nI 0)), none, none, none]) (st' := []) d_255_33 (fun _ => rfl) ?_
  refine rr_A (show A = (rf_u A 15 (A 15)) by rw [rf_u_id]) ?_
  refine rr_upw (al := fun z w_ => [some (.ref 146), none, some (.int (nI 0)), some (.int (nI (FA n))), some (.int (nI z)), none, none, none]) (G := fun z w_ => g) (B := fun z w_ => (rf_u A 15 w_)) (P := fun z w_ => ∀ q, q < z → w_ q = nI (if q ∈ [0] then 1 else 0)) (n := FA n) (fun z w_ hz pz ihz => ?_) (fun w_ pz => ?_) 0 (A 15) (by omega) (all_0)
  · show RR _ _ 35 [some (.ref 146), none, some (.int (nI 0)), some (.int (nI (FA n))), some (.int (nI z)), none, none, none] [] g (rf_u A 15 w_) _
    refine rr_nx (pc' := 37) (al' := [some (.ref 146), none, some (.int (nI 0)), some (.int (nI (FA n))), some (.int (nI z)), none, none, none]) (st' := [.int (nI z)]) d_255_35 (fun _ => rfl) ?_
    refine rr_nx (pc' := 38) (al' := [some (.ref 146), none, some (.int (nI 0)), some (.int (nI (FA n))), some (.int (nI z)), none, none, none]) (st' := [.int (nI (FA n)), .int (nI z)]) d_255_37 (fun _ => rfl) ?_
    refine rn_cge (t := 64) d_255_38 (by decide) (by first | omega | assumption | exact cu_36 (by omega) (cu_lt (by omega) (by omega))) (by first | omega | assumption | exact cu_36 (by omega) (cu_lt (by omega) (by omega))) (fun c38 => ?_) (fun c38 => ?_)
    · omega
    · refine rr_nx (pc' := 42) (al' := [some (.ref 146), none, some (.int (nI 0)), some (.int (nI (FA n))), some (.int (nI z)), none, none, none]) (st' := [.ref 146]) d_255_41 (fun _ => rfl) ?_
      refine rr_gf (v := .ref (147 + 15)) d_255_42 mo_255 fl_61 rfl ?_
      refine rr_nx (pc' := 47) (al' := [some (.ref 146), none, some (.int (nI 0)), some (.int (nI (FA n))), some (.int (nI z)), none, none, none]) (st' := [.int (nI z), .ref (147 + 15)]) d_255_45 (fun _ => rfl) ?_
      refine rr_nx (pc' := 49) (al' := [some (.ref 146), none, some (.int (nI 0)), some (.int (nI (FA n))), some (.int (nI z)), none, none, none]) (st' := [.int (nI z), .int (nI z), .ref (147 + 15)]) d_255_47 (fun _ => rfl) ?_
      refine rn_ine (t := 56) d_255_49 (by decide) (by first | omega | assumption | exact cu_36 (by omega) (cu_lt (by omega) (by omega))) (fun c49 => ?_) (fun c49 => ?_)
      · refine rn_ic (v := 0) d_255_56 (by decide) ?_
        refine rr_zS (j := 15) (A1 := (rf_u A 15 (upd w_ z (vp_nar .boolean (nI 0))))) d_255_57 (by decide) rfl (by decide) (show z < 720 by first | omega | assumption | exact cu_36 (by omega) (cu_lt (by omega) (by omega))) rf_uw ?_
        refine rn_inc d_255_58 rfl rfl ?_
        show RR _ _ 61 [some (.ref 146), none, some (.int (nI 0)), some (.int (nI (FA n))), some (.int (nI (z + 1))), none, none, none] [] g (rf_u A 15 (upd w_ z (vp_nar .boolean (nI 0)))) _
        refine rr_nx (pc' := 35) (al' := [some (.ref 146), none, some (.int (nI 0)), some (.int (nI (FA n))), some (.int (nI (z + 1))), none, none, none]) (st' := []) d_255_61 (fun _ => rfl) ?_
        exact ihz (upd w_ z (vp_nar .boolean (nI 0))) (up_all (f := fun q => nI (if q ∈ [0] then 1 else 0)) pz (by rw [nar_b _ (by decide)]; first | rw [if_pos (by simp; omega)] | rw [if_neg (by simp; omega)]))
      · refine rn_ic (v := 1) d_255_52 (by decide) ?_
        refine rr_nx (pc' := 57) (al' := [some (.ref 146), none, some (.int (nI 0)), some (.int (nI (FA n))), some (.int (nI z)), none, none, none]) (st' := [.int (nI 1), .int (nI z), .ref (147 + 15)]) d_255_53 (fun _ => rfl) ?_
        refine rr_zS (j := 15) (A1 := (rf_u A 15 (upd w_ z (vp_nar .boolean (nI 1))))) d_255_57 (by decide) rfl (by decide) (show z < 720 by first | omega | assumption | exact cu_36 (by omega) (cu_lt (by omega) (by omega))) rf_uw ?_
        refine rn_inc d_255_58 rfl rfl ?_
        show RR _ _ 61 [some (.ref 146), none, some (.int (nI 0)), some (.int (nI (FA n))), some (.int (nI (z + 1))), none, none, none] [] g (rf_u A 15 (upd w_ z (vp_nar .boolean (nI 1)))) _
        refine rr_nx (pc' := 35) (al' := [some (.ref 146), none, some (.int (nI 0)), some (.int (nI (FA n))), some (.int (nI (z + 1))), none, none, none]) (st' := []) d_255_61 (fun _ => rfl) ?_
        exact ihz (upd w_ z (vp_nar .boolean (nI 1))) (up_all (f := fun q => nI (if q ∈ [0] then 1 else 0)) pz (by rw [nar_b _ (by decide)]; first | rw [if_pos (by simp; omega)] | rw [if_neg (by simp; omega)]))
  · show RR _ _ 35 [some (.ref 146), none, some (.int (nI 0)), some (.int (nI (FA n))), some (.int (nI (FA n))), none, none, none] [] g (rf_u A 15 w_) _
    refine rr_nx (pc' := 37) (al' := [some (.ref 146), none, some (.int (nI 0)), some (.int (nI (FA n))), some (.int (nI (FA n))), none, none, none]) (st' := [.int (nI (FA n))]) d_255_35 (fun _ => rfl) ?_
    refine rr_nx (pc' := 38) (al' := [some (.ref 146), none, some (.int (nI 0)), some (.int (nI (FA n))), some (.int (nI (FA n))), none, none, none]) (st' := [.int (nI (FA n)), .int (nI (FA n))]) d_255_37 (fun _ => rfl) ?_
    refine rn_cge (t := 64) d_255_38 (by decide) (by first | omega | assumption | exact cu_36 (by omega) (cu_lt (by omega) (by omega))) (by first | omega | assumption | exact cu_36 (by omega) (cu_lt (by omega) (by omega))) (fun c38 => ?_) (fun c38 => ?_)
    · refine rr_nx (pc' := 65) (al' := [some (.ref 146), none, some (.int (nI 0)), some (.int (nI (FA n))), some (.int (nI (FA n))), none, none, none]) (st' := [.ref 146]) d_255_64 (fun _ => rfl) ?_
      refine rr_gf (v := .ref (147 + 16)) d_255_65 mo_255 fl_64 rfl ?_
      refine rn_ic (v := 0) d_255_68 (by decide) ?_
      refine rn_ic (v := 0) d_255_69 (by decide) ?_
      refine rr_iS (j := 16) (A1 := (rf_u (rf_u A 15 w_) 16 (upd (A 16) 0 (nI 0)))) d_255_70 (by decide) rfl (by decide) (show 0 < 720 by first | omega | assumption | exact cu_36 (by omega) (cu_lt (by omega) (by omega))) rfl ?_
      refine rn_ic (v := 1) d_255_71 (by decide) ?_
      refine rr_nx (pc' := 74) (al' := [some (.ref 146), none, some (.int (nI 0)), some (.int (nI (FA n))), some (.int (nI 1)), none, none, none]) (st' := []) d_255_72 (fun _ => rfl) ?_
      refine rn_ic (v := 0) d_255_74 (by decide) ?_
      refine rr_nx (pc' := 77) (al' := [some (.ref 146), none, some (.int (nI 0)), some (.int (nI (FA n))), some (.int (nI 1)), some (.int (nI 0)), none, none]) (st' := []) d_255_75 (fun _ => rfl) ?_
      refine rr_al (congrArg (fun z__ : Nat => ([some (.ref 146), none, some (.int (nI 0)), some (.int (nI (FA n))), some (.int (nI z__)), some (.int (nI 0)), none, none] : AL)) (show 1 = ([0], (rf_u (rf_u A 15 w_) 16 (upd (A 16) 0 (nI 0)))).1.length by rfl)) ?_
      refine rr_upw (al := fun i w_ => [some (.ref 146), none, some (.int (nI 0)), some (.int (nI (FA n))), some (.int (nI w_.1.length)), some (.int (nI i)), none, none]) (G := fun i w_ => g) (B := fun i w_ => w_.2) (P := fun i w_ => BfI n c 0 (n) i w_.1 ∧ GrR n w_.2 w_.1 ∧ w_.2 4 = A 4 ∧ Ksm A w_.2) (n := FA n) (fun i w_ hi pi ihi => ?_) (fun w_ pi => ?_) 0 ([0], (rf_u (rf_u A 15 w_) 16 (upd (A 16) 0 (nI 0)))) (by omega) (⟨Bf_0, ⟨fun j hj => by dsimp only at hj ⊢; rw [rf_u_s, show j = 0 by simp at hj; exact hj, pk_us]; rfl, fun q hq => by dsimp only; rw [rf_u_n (by decide), rf_u_s]; exact pz q hq⟩, rfl, (Ksm.rf.u (by decide)).u (by decide)⟩)
      · show RR _ _ 77 [some (.ref 146), none, some (.int (nI 0)), some (.int (nI (FA n))), some (.int (nI w_.1.length)), some (.int (nI i)), none, none] [] g w_.2 _
        have hlen := Bf_len pi.1
        refine rr_nx (pc' := 79) (al' := [some (.ref 146), none, some (.int (nI 0)), some (.int (nI (FA n))), some (.int (nI w_.1.length)), some (.int (nI i)), none, none]) (st' := [.int (nI i)]) d_255_77 (fun _ => rfl) ?_
        refine rr_nx (pc' := 81) (al' := [some (.ref 146), none, some (.int (nI 0)), some (.int (nI (FA n))), some (.int (nI w_.1.length)), some (.int (nI i)), none, none]) (st' := [.int (nI w_.1.length), .int (nI i)]) d_255_79 (fun _ => rfl) ?_
        refine rn_cge (t := 266) d_255_81 (by decide) (by first | omega | assumption | exact cu_36 (by omega) (cu_lt (by omega) (by omega))) (by first | omega | assumption | exact cu_36 (by omega) (cu_lt (by omega) (by omega))) (fun c81 => ?_) (fun c81 => ?_)
        · refine rr_nx (pc' := 268) (al' := [some (.ref 146), none, some (.int (nI 0)), some (.int (nI (FA n))), some (.int (nI w_.1.length)), some (.int (nI i)), none, none]) (st' := [.int (nI w_.1.length)]) d_255_266 (fun _ => rfl) ?_
          exact rr_ri d_255_268 mr_255 rfl ⟨w_.1, i, pi.1, by omega, rfl, Gsm.rf, pi.2.2.2⟩
        · obtain ⟨r, hr⟩ : ∃ r, w_.1.getD i 0 = r := ⟨_, rfl⟩
          have hrF : r < FA n := by rw [← hr]; exact pi.1.2.1 _ (gD_mem c81)
          refine rr_nx (pc' := 85) (al' := [some (.ref 146), none, some (.int (nI 0)), some (.int (nI (FA n))), some (.int (nI w_.1.length)), some (.int (nI i)), none, none]) (st' := [.ref 146]) d_255_84 (fun _ => rfl) ?_
          refine rr_nx (pc' := 86) (al' := [some (.ref 146), none, some (.int (nI 0)), some (.int (nI (FA n))), some (.int (nI w_.1.length)), some (.int (nI i)), none, none]) (st' := [.ref 146, .ref 146]) d_255_85 (fun _ => rfl) ?_
          refine rr_gf (v := .ref (147 + 16)) d_255_86 mo_255 fl_64 rfl ?_
          refine rr_nx (pc' := 91) (al' := [some (.ref 146), none, some (.int (nI 0)), some (.int (nI (FA n))), some (.int (nI w_.1.length)), some (.int (nI i)), none, none]) (st' := [.int (nI i), .ref (147 + 16), .ref 146]) d_255_89 (fun _ => rfl) ?_
          refine rr_ia (j := 16) (v := (nI r)) d_255_91 (by decide) rfl (by decide) (show i < 720 by omega) (by rw [pi.2.1.1 i c81, hr]) ?_
          refine rr_nx (pc' := 93) (al' := [some (.ref 146), none, some (.int (nI 0)), some (.int (nI (FA n))), some (.int (nI w_.1.length)), some (.int (nI i)), none, none]) (st' := [.ref 146, .int (nI r), .ref 146]) d_255_92 (fun _ => rfl) ?_
          refine rr_gn d_255_93 mo_255 fl_127 rfl hc.1 ?_
          refine rr_cv (as := [.int (nI r), .int (nI n)]) (al0 := [some (.ref 146), some (.int (nI r)), some (.int (nI n)), none, none, none, none, none, none]) (r := []) d_255_96 mo_255 ml_273 mz_234 rfl rfl rfl (rr_wk (Nat.le_of_ble_eq_true rfl) (s_permutes (n := n) (r := r) (by omega) (by exact hrF))) (fun v1 g1 A1 h1 => ?_)
          obtain ⟨q0_, q1_, w96, q9_, hw96⟩ := h1
          obtain rfl := q0_
          obtain rfl := q1_.symm
          obtain rfl := q9_
          show RR _ _ 99 [some (.ref 146), none, some (.int (nI 0)), some (.int (nI (FA n))), some (.int (nI w_.1.length)), some (.int (nI i)), none, none] [] g (rf_u w_.2 13 w96) _
          refine rn_ic (v := 0) d_255_99 (by decide) ?_
          refine rr_nx (pc' := 102) (al' := [some (.ref 146), none, some (.int (nI 0)), some (.int (nI (FA n))), some (.int (nI w_.1.length)), some (.int (nI i)), some (.int (nI 0)), none]) (st' := []) d_255_100 (fun _ => rfl) ?_
          refine rr_A (show (rf_u w_.2 13 w96) = (rf_u (rf_u w_.2 13 w96) 17 (w_.2 17)) by exact rf_idn (by decide)) ?_
          refine rr_upw (al := fun x w17 => [some (.ref 146), none, some (.int (nI 0)), some (.int (nI (FA n))), some (.int (nI w_.1.length)), some (.int (nI i)), some (.int (nI x)), none]) (G := fun x w17 => g) (B := fun x w17 => (rf_u (rf_u w_.2 13 w96) 17 w17)) (P := fun x w17 => ∀ q, q < x → w17 q = nI (pmE n r q)) (n := n) (fun x w17 hx px ihx => ?_) (fun w17 px => ?_) 0 (w_.2 17) (by omega) (all_0)
          · show RR _ _ 102 [some (.ref 146), none, some (.int (nI 0)), some (.int (nI (FA n))), some (.int (nI w_.1.length)), some (.int (nI i)), some (.int (nI x)), none] [] g (rf_u (rf_u w_.2 13 w96) 17 w17) _
            refine rr_nx (pc' := 104) (al' := [some (.ref 146), none, some (.int (nI 0)), some (.int (nI (FA n))), some (.int (nI w_.1.length)), some (.int (nI i)), some (.int (nI x)), none]) (st' := [.int (nI x)]) d_255_102 (fun _ => rfl) ?_
            refine rr_nx (pc' := 105) (al' := [some (.ref 146), none, some (.int (nI 0)), some (.int (nI (FA n))), some (.int (nI w_.1.length)), some (.int (nI i)), some (.int (nI x)), none]) (st' := [.ref 146, .int (nI x)]) d_255_104 (fun _ => rfl) ?_
            refine rr_gn d_255_105 mo_255 fl_127 rfl hc.1 ?_
            refine rn_cge (t := 131) d_255_108 (by decide) (by first | omega | assumption | exact cu_36 (by omega) (cu_lt (by omega) (by omega))) (by first | omega | assumption | exact cu_36 (by omega) (cu_lt (by omega) (by omega))) (fun c108 => ?_) (fun c108 => ?_)
            · omega
            · refine rr_nx (pc' := 112) (al' := [some (.ref 146), none, some (.int (nI 0)), some (.int (nI (FA n))), some (.int (nI w_.1.length)), some (.int (nI i)), some (.int (nI x)), none]) (st' := [.ref 146]) d_255_111 (fun _ => rfl) ?_
              refine rr_gf (v := .ref (147 + 17)) d_255_112 mo_255 fl_67 rfl ?_
              refine rr_nx (pc' := 117) (al' := [some (.ref 146), none, some (.int (nI 0)), some (.int (nI (FA n))), some (.int (nI w_.1.length)), some (.int (nI i)), some (.int (nI x)), none]) (st' := [.int (nI x), .ref (147 + 17)]) d_255_115 (fun _ => rfl) ?_
              refine rr_nx (pc' := 118) (al' := [some (.ref 146), none, some (.int (nI 0)), some (.int (nI (FA n))), some (.int (nI w_.1.length)), some (.int (nI i)), some (.int (nI x)), none]) (st' := [.ref 146, .int (nI x), .ref (147 + 17)]) d_255_117 (fun _ => rfl) ?_
              refine rr_gf (v := .ref (147 + 13)) d_255_118 mo_255 fl_55 rfl ?_
              refine rr_nx (pc' := 123) (al' := [some (.ref 146), none, some (.int (nI 0)), some (.int (nI (FA n))), some (.int (nI w_.1.length)), some (.int (nI i)), some (.int (nI x)), none]) (st' := [.int (nI x), .ref (147 + 13), .int (nI x), .ref (147 + 17)]) d_255_121 (fun _ => rfl) ?_
              refine rr_ia (j := 13) (v := (nI (pmE n r x))) d_255_123 (by decide) rfl (by decide) (show x < 6 by first | omega | assumption | exact cu_36 (by omega) (cu_lt (by omega) (by omega))) (hw96 x hx) ?_
              refine rr_iS (j := 17) (A1 := (rf_u (rf_u w_.2 13 w96) 17 (upd w17 x (nI (pmE n r x))))) d_255_124 (by decide) rfl (by decide) (show x < 6 by first | omega | assumption | exact cu_36 (by omega) (cu_lt (by omega) (by omega))) rf_uw ?_
              refine rn_inc d_255_125 rfl rfl ?_
              show RR _ _ 128 [some (.ref 146), none, some (.int (nI 0)), some (.int (nI (FA n))), some (.int (nI w_.1.length)), some (.int (nI i)), some (.int (nI (x + 1))), none] [] g (rf_u (rf_u w_.2 13 w96) 17 (upd w17 x (nI (pmE n r x)))) _
              refine rr_nx (pc' := 102) (al' := [some (.ref 146), none, some (.int (nI 0)), some (.int (nI (FA n))), some (.int (nI w_.1.length)), some (.int (nI i)), some (.int (nI (x + 1))), none]) (st' := []) d_255_128 (fun _ => rfl) ?_
              exact ihx (upd w17 x (nI (pmE n r x))) (up_all (f := fun q => nI (pmE n r q)) px rfl)
          · show RR _ _ 102 [some (.ref 146), none, some (.int (nI 0)), some (.int (nI (FA n))), some (.int (nI w_.1.length)), some (.int (nI i)), some (.int (nI n)), none] [] g (rf_u (rf_u w_.2 13 w96) 17 w17) _
            refine rr_nx (pc' := 104) (al' := [some (.ref 146), none, some (.int (nI 0)), some (.int (nI (FA n))), some (.int (nI w_.1.length)), some (.int (nI i)), some (.int (nI n)), none]) (st' := [.int (nI n)]) d_255_102 (fun _ => rfl) ?_
            refine rr_nx (pc' := 105) (al' := [some (.ref 146), none, some (.int (nI 0)), some (.int (nI (FA n))), some (.int (nI w_.1.length)), some (.int (nI i)), some (.int (nI n)), none]) (st' := [.ref 146, .int (nI n)]) d_255_104 (fun _ => rfl) ?_
            refine rr_gn d_255_105 mo_255 fl_127 rfl hc.1 ?_
            refine rn_cge (t := 131) d_255_108 (by decide) (by first | omega | assumption | exact cu_36 (by omega) (cu_lt (by omega) (by omega))) (by first | omega | assumption | exact cu_36 (by omega) (cu_lt (by omega) (by omega))) (fun c108 => ?_) (fun c108 => ?_)
            · refine rr_nx (pc' := 132) (al' := [some (.ref 146), none, some (.int (nI 0)), some (.int (nI (FA n))), some (.int (nI w_.1.length)), some (.int (nI i)), some (.int (nI n)), none]) (st' := [.int (nI 0)]) d_255_131 (fun _ => rfl) ?_
              refine rn_ic (v := 1) d_255_132 (by decide) ?_
              refine rn_cne (t := 143) d_255_133 (by decide) (by first | omega | assumption | exact cu_36 (by omega) (cu_lt (by omega) (by omega))) (by first | omega | assumption | exact cu_36 (by omega) (cu_lt (by omega) (by omega))) (fun c133 => ?_) (fun c133 => ?_)
              · refine rn_ic (v := 0) d_255_143 (by decide) ?_
                refine rr_nx (pc' := 146) (al' := [some (.ref 146), none, some (.int (nI 0)), some (.int (nI (FA n))), some (.int (nI w_.1.length)), some (.int (nI i)), some (.int (nI 0)), none]) (st' := []) d_255_144 (fun _ => rfl) ?_
                refine rr_al (congrArg (fun z__ : Nat => ([some (.ref 146), none, some (.int (nI 0)), some (.int (nI (FA n))), some (.int (nI z__)), some (.int (nI i)), some (.int (nI 0)), none] : AL)) (show w_.1.length = (w_.1, (rf_u (rf_u w_.2 13 w96) 17 w17)).1.length by rfl)) ?_
                refine rr_upw (al := fun k w2 => [some (.ref 146), none, some (.int (nI 0)), some (.int (nI (FA n))), some (.int (nI w2.1.length)), some (.int (nI i)), some (.int (nI k)), none]) (G := fun k w2 => g) (B := fun k w2 => w2.2) (P := fun k w2 => BfI n c 0 (n) i w2.1 ∧ GrR n w2.2 w2.1 ∧ w2.2 4 = A 4 ∧ Ksm A w2.2 ∧ i < w2.1.length ∧ w2.1.getD i 0 = r ∧ (∀ z, 0 ≤ z → z < k → scN n c r z ∈ w2.1) ∧ (∀ q, q < n → w2.2 17 q = nI (pmE n r q)) ∧ 0 ≤ k) (n := n) (fun k w2 hk pk ihk => ?_) (fun w2 pk => ?_) 0 (w_.1, (rf_u (rf_u w_.2 13 w96) 17 w17)) (by omega) (⟨pi.1, pi.2.1.cg rfl rfl, pi.2.2.1, (pi.2.2.2.u (by decide)).u (by decide), c81, hr, fun k h1 h2 => by omega, fun q hq => by dsimp only; rw [rf_u_s]; exact px q hq, Nat.le_refl _⟩)
                · show RR _ _ 146 [some (.ref 146), none, some (.int (nI 0)), some (.int (nI (FA n))), some (.int (nI w2.1.length)), some (.int (nI i)), some (.int (nI k)), none] [] g w2.2 _
                  have hlen := Bf_len pk.1
                  have hok := sc_ok (k := k) hn6 hl hrF (by omega)
                  have hcc : Cur g w2.2 n c := ⟨hc.1, hn6, fun q hq => by rw [pk.2.2.1]; exact hc.2.2 q hq⟩
                  refine rr_nx (pc' := 148) (al' := [some (.ref 146), none, some (.int (nI 0)), some (.int (nI (FA n))), some (.int (nI w2.1.length)), some (.int (nI i)), some (.int (nI k)), none]) (st' := [.int (nI k)]) d_255_146 (fun _ => rfl) ?_
                  refine rr_nx (pc' := 149) (al' := [some (.ref 146), none, some (.int (nI 0)), some (.int (nI (FA n))), some (.int (nI w2.1.length)), some (.int (nI i)), some (.int (nI k)), none]) (st' := [.int (nI 0), .int (nI k)]) d_255_148 (fun _ => rfl) ?_
                  refine rn_ine (t := 159) d_255_149 (by decide) (by first | omega | assumption | exact cu_36 (by omega) (cu_lt (by omega) (by omega))) (fun c149 => ?_) (fun c149 => ?_)
                  · omega
                  · refine rr_nx (pc' := 153) (al' := [some (.ref 146), none, some (.int (nI 0)), some (.int (nI (FA n))), some (.int (nI w2.1.length)), some (.int (nI i)), some (.int (nI k)), none]) (st' := [.ref 146, .int (nI k)]) d_255_152 (fun _ => rfl) ?_
                    refine rr_gn d_255_153 mo_255 fl_127 rfl hc.1 ?_
                    refine rr_nx (pc' := 165) (al' := [some (.ref 146), none, some (.int (nI 0)), some (.int (nI (FA n))), some (.int (nI w2.1.length)), some (.int (nI i)), some (.int (nI k)), none]) (st' := [.int (nI n), .int (nI k)]) d_255_156 (fun _ => rfl) ?_
                    refine rn_cge (t := 260) d_255_165 (by decide) (by first | omega | assumption | exact cu_36 (by omega) (cu_lt (by omega) (by omega))) (by first | omega | assumption | exact cu_36 (by omega) (cu_lt (by omega) (by omega))) (fun c165 => ?_) (fun c165 => ?_)
                    · omega
                    · refine rr_nx (pc' := 169) (al' := [some (.ref 146), none, some (.int (nI 0)), some (.int (nI (FA n))), some (.int (nI w2.1.length)), some (.int (nI i)), some (.int (nI k)), none]) (st' := [.ref 146]) d_255_168 (fun _ => rfl) ?_
                      refine rr_nx (pc' := 171) (al' := [some (.ref 146), none, some (.int (nI 0)), some (.int (nI (FA n))), some (.int (nI w2.1.length)), some (.int (nI i)), some (.int (nI k)), none]) (st' := [.int (nI k), .ref 146]) d_255_169 (fun _ => rfl) ?_
                      refine rr_cv (as := [.int (nI k)]) (al0 := [some (.ref 146), some (.int (nI k)), none]) (r := []) d_255_171 mo_255 ml_305 mz_256 rfl rfl rfl (rr_wk (Nat.le_of_ble_eq_true rfl) (s_maker hcc (by omega))) (fun v1 g1 A1 h1 => ?_)
                      obtain ⟨q0_, q1_, w171, q9_, hw171⟩ := h1
                      obtain rfl := q0_
                      obtain rfl := q1_.symm
                      obtain rfl := q9_
                      show RR _ _ 174 [some (.ref 146), none, some (.int (nI 0)), some (.int (nI (FA n))), some (.int (nI w2.1.length)), some (.int (nI i)), some (.int (nI k)), none] [] g (rf_u w2.2 18 w171) _
                      refine rn_ic (v := 0) d_255_174 (by decide) ?_
                      refine rr_nx (pc' := 177) (al' := [some (.ref 146), none, some (.int (nI 0)), some (.int (nI (FA n))), some (.int (nI w2.1.length)), some (.int (nI i)), some (.int (nI k)), some (.int (nI 0))]) (st' := []) d_255_175 (fun _ => rfl) ?_
                      refine rr_A (show (rf_u w2.2 18 w171) = (rf_u (rf_u w2.2 18 w171) 13 (w2.2 13)) by exact rf_idn (by decide)) ?_
                      refine rr_upw (al := fun y w13 => [some (.ref 146), none, some (.int (nI 0)), some (.int (nI (FA n))), some (.int (nI w2.1.length)), some (.int (nI i)), some (.int (nI k)), some (.int (nI y))]) (G := fun y w13 => g) (B := fun y w13 => (rf_u (rf_u w2.2 18 w171) 13 w13)) (P := fun y w13 => ∀ q, q < y → w13 q = nI (mkG n c k (pmE n r q))) (n := n) (fun y w13 hy py ihy => ?_) (fun w13 py => ?_) 0 (w2.2 13) (by omega) (all_0)
                      · show RR _ _ 177 [some (.ref 146), none, some (.int (nI 0)), some (.int (nI (FA n))), some (.int (nI w2.1.length)), some (.int (nI i)), some (.int (nI k)), some (.int (nI y))] [] g (rf_u (rf_u w2.2 18 w171) 13 w13) _
                        refine rr_nx (pc' := 179) (al' := [some (.ref 146), none, some (.int (nI 0)), some (.int (nI (FA n))), some (.int (nI w2.1.length)), some (.int (nI i)), some (.int (nI k)), some (.int (nI y))]) (st' := [.int (nI y)]) d_255_177 (fun _ => rfl) ?_
                        refine rr_nx (pc' := 180) (al' := [some (.ref 146), none, some (.int (nI 0)), some (.int (nI (FA n))), some (.int (nI w2.1.length)), some (.int (nI i)), some (.int (nI k)), some (.int (nI y))]) (st' := [.ref 146, .int (nI y)]) d_255_179 (fun _ => rfl) ?_
                        refine rr_gn d_255_180 mo_255 fl_127 rfl hc.1 ?_
                        refine rn_cge (t := 211) d_255_183 (by decide) (by first | omega | assumption | exact cu_36 (by omega) (cu_lt (by omega) (by omega))) (by first | omega | assumption | exact cu_36 (by omega) (cu_lt (by omega) (by omega))) (fun c183 => ?_) (fun c183 => ?_)
                        · omega
                        · refine rr_nx (pc' := 187) (al' := [some (.ref 146), none, some (.int (nI 0)), some (.int (nI (FA n))), some (.int (nI w2.1.length)), some (.int (nI i)), some (.int (nI k)), some (.int (nI y))]) (st' := [.ref 146]) d_255_186 (fun _ => rfl) ?_
                          refine rr_gf (v := .ref (147 + 13)) d_255_187 mo_255 fl_55 rfl ?_
                          refine rr_nx (pc' := 192) (al' := [some (.ref 146), none, some (.int (nI 0)), some (.int (nI (FA n))), some (.int (nI w2.1.length)), some (.int (nI i)), some (.int (nI k)), some (.int (nI y))]) (st' := [.int (nI y), .ref (147 + 13)]) d_255_190 (fun _ => rfl) ?_
                          refine rr_nx (pc' := 193) (al' := [some (.ref 146), none, some (.int (nI 0)), some (.int (nI (FA n))), some (.int (nI w2.1.length)), some (.int (nI i)), some (.int (nI k)), some (.int (nI y))]) (st' := [.ref 146, .int (nI y), .ref (147 + 13)]) d_255_192 (fun _ => rfl) ?_
                          refine rr_gf (v := .ref (147 + 18)) d_255_193 mo_255 fl_70 rfl ?_
                          refine rr_nx (pc' := 197) (al' := [some (.ref 146), none, some (.int (nI 0)), some (.int (nI (FA n))), some (.int (nI w2.1.length)), some (.int (nI i)), some (.int (nI k)), some (.int (nI y))]) (st' := [.ref 146, .ref (147 + 18), .int (nI y), .ref (147 + 13)]) d_255_196 (fun _ => rfl) ?_
                          refine rr_gf (v := .ref (147 + 17)) d_255_197 mo_255 fl_67 rfl ?_
                          refine rr_nx (pc' := 202) (al' := [some (.ref 146), none, some (.int (nI 0)), some (.int (nI (FA n))), some (.int (nI w2.1.length)), some (.int (nI i)), some (.int (nI k)), some (.int (nI y))]) (st' := [.int (nI y), .ref (147 + 17), .ref (147 + 18), .int (nI y), .ref (147 + 13)]) d_255_200 (fun _ => rfl) ?_
                          refine rr_ia (j := 17) (v := (nI (pmE n r y))) d_255_202 (by decide) rfl (by decide) (show y < 6 by first | omega | assumption | exact cu_36 (by omega) (cu_lt (by omega) (by omega))) (pk.2.2.2.2.2.2.2.1 y hy) ?_
                          refine rr_ia (j := 18) (v := (nI (mkG n c k (pmE n r y)))) d_255_203 (by decide) rfl (by decide) (show pmE n r y < 6 by have := (pm_per hn6 hrF).1 y hy; omega) (hw171 _ ((pm_per hn6 hrF).1 y hy)) ?_
                          refine rr_iS (j := 13) (A1 := (rf_u (rf_u w2.2 18 w171) 13 (upd w13 y (nI (mkG n c k (pmE n r y)))))) d_255_204 (by decide) rfl (by decide) (show y < 6 by first | omega | assumption | exact cu_36 (by omega) (cu_lt (by omega) (by omega))) rf_uw ?_
                          refine rn_inc d_255_205 rfl rfl ?_
                          show RR _ _ 208 [some (.ref 146), none, some (.int (nI 0)), some (.int (nI (FA n))), some (.int (nI w2.1.length)), some (.int (nI i)), some (.int (nI k)), some (.int (nI (y + 1)))] [] g (rf_u (rf_u w2.2 18 w171) 13 (upd w13 y (nI (mkG n c k (pmE n r y))))) _
                          refine rr_nx (pc' := 177) (al' := [some (.ref 146), none, some (.int (nI 0)), some (.int (nI (FA n))), some (.int (nI w2.1.length)), some (.int (nI i)), some (.int (nI k)), some (.int (nI (y + 1)))]) (st' := []) d_255_208 (fun _ => rfl) ?_
                          exact ihy (upd w13 y (nI (mkG n c k (pmE n r y)))) (up_all (f := fun q => nI (mkG n c k (pmE n r q))) py rfl)
                      · show RR _ _ 177 [some (.ref 146), none, some (.int (nI 0)), some (.int (nI (FA n))), some (.int (nI w2.1.length)), some (.int (nI i)), some (.int (nI k)), some (.int (nI n))] [] g (rf_u (rf_u w2.2 18 w171) 13 w13) _
                        refine rr_nx (pc' := 179) (al' := [some (.ref 146), none, some (.int (nI 0)), some (.int (nI (FA n))), some (.int (nI w2.1.length)), some (.int (nI i)), some (.int (nI k)), some (.int (nI n))]) (st' := [.int (nI n)]) d_255_177 (fun _ => rfl) ?_
                        refine rr_nx (pc' := 180) (al' := [some (.ref 146), none, some (.int (nI 0)), some (.int (nI (FA n))), some (.int (nI w2.1.length)), some (.int (nI i)), some (.int (nI k)), some (.int (nI n))]) (st' := [.ref 146, .int (nI n)]) d_255_179 (fun _ => rfl) ?_
                        refine rr_gn d_255_180 mo_255 fl_127 rfl hc.1 ?_
                        refine rn_cge (t := 211) d_255_183 (by decide) (by first | omega | assumption | exact cu_36 (by omega) (cu_lt (by omega) (by omega))) (by first | omega | assumption | exact cu_36 (by omega) (cu_lt (by omega) (by omega))) (fun c183 => ?_) (fun c183 => ?_)
                        · refine rr_nx (pc' := 212) (al' := [some (.ref 146), none, some (.int (nI 0)), some (.int (nI (FA n))), some (.int (nI w2.1.length)), some (.int (nI i)), some (.int (nI k)), some (.int (nI n))]) (st' := [.ref 146]) d_255_211 (fun _ => rfl) ?_
                          refine rr_nx (pc' := 213) (al' := [some (.ref 146), none, some (.int (nI 0)), some (.int (nI (FA n))), some (.int (nI w2.1.length)), some (.int (nI i)), some (.int (nI k)), some (.int (nI n))]) (st' := [.ref 146, .ref 146]) d_255_212 (fun _ => rfl) ?_
                          refine rr_gf (v := .ref (147 + 13)) d_255_213 mo_255 fl_55 rfl ?_
                          refine rr_pv (as := [.ref (147 + 13)]) (al0 := [some (.ref 146), some (.ref (147 + 13)), none, none, none, none]) (r := []) d_255_216 mo_255 ml_308 mz_257 rfl rfl rfl (Nat.le_of_ble_eq_true rfl) (s_numberOf hc.1 hn6 (fun q hq => by rw [rf_u_s]; exact py q hq) hok (sc_per hn6 hl hrF (by omega))) ?_
                          show RR _ _ 219 [some (.ref 146), none, some (.int (nI 0)), some (.int (nI (FA n))), some (.int (nI w2.1.length)), some (.int (nI i)), some (.int (nI k)), some (.int (nI n))] [.int (nI (scN n c r k))] g (rf_u (rf_u w2.2 18 w171) 13 w13) _
                          refine rr_nx (pc' := 221) (al' := [some (.ref 146), none, some (.int (nI 0)), some (.int (nI (FA n))), some (.int (nI w2.1.length)), some (.int (nI i)), some (.int (nI k)), some (.int (nI (scN n c r k)))]) (st' := []) d_255_219 (fun _ => rfl) ?_
                          refine rr_nx (pc' := 222) (al' := [some (.ref 146), none, some (.int (nI 0)), some (.int (nI (FA n))), some (.int (nI w2.1.length)), some (.int (nI i)), some (.int (nI k)), some (.int (nI (scN n c r k)))]) (st' := [.ref 146]) d_255_221 (fun _ => rfl) ?_
                          refine rr_gf (v := .ref (147 + 15)) d_255_222 mo_255 fl_61 rfl ?_
                          refine rr_nx (pc' := 227) (al' := [some (.ref 146), none, some (.int (nI 0)), some (.int (nI (FA n))), some (.int (nI w2.1.length)), some (.int (nI i)), some (.int (nI k)), some (.int (nI (scN n c r k)))]) (st' := [.int (nI (scN n c r k)), .ref (147 + 15)]) d_255_225 (fun _ => rfl) ?_
                          refine rr_ba (j := 15) (v := (nI (if scN n c r k ∈ w2.1 then 1 else 0))) d_255_227 (by decide) (by decide) (by decide) (show scN n c r k < 720 by have := hok.1; omega) (pk.2.1.2 _ hok.1) ?_
                          refine rn_ieq (t := 234) d_255_228 (by decide) (by split <;> decide) (fun c228 => ?_) (fun c228 => ?_)
                          · have hno : scN n c r k ∉ w2.1 := fun e => by rw [if_pos e] at c228; cases c228
                            have hb2 := Bf_add hn6 hl pk.1 pk.2.2.2.2.1 (k := k) pk.2.2.2.2.2.2.2.2 hk (by omega) (by rw [pk.2.2.2.2.2.1]) hno
                            have hlen2 := Bf_len hb2
                            rw [List.length_append] at hlen2
                            simp only [List.length_singleton] at hlen2
                            refine rr_nx (pc' := 235) (al' := [some (.ref 146), none, some (.int (nI 0)), some (.int (nI (FA n))), some (.int (nI w2.1.length)), some (.int (nI i)), some (.int (nI k)), some (.int (nI (scN n c r k)))]) (st' := [.ref 146]) d_255_234 (fun _ => rfl) ?_
                            refine rr_gf (v := .ref (147 + 15)) d_255_235 mo_255 fl_61 rfl ?_
                            refine rr_nx (pc' := 240) (al' := [some (.ref 146), none, some (.int (nI 0)), some (.int (nI (FA n))), some (.int (nI w2.1.length)), some (.int (nI i)), some (.int (nI k)), some (.int (nI (scN n c r k)))]) (st' := [.int (nI (scN n c r k)), .ref (147 + 15)]) d_255_238 (fun _ => rfl) ?_
                            refine rn_ic (v := 1) d_255_240 (by decide) ?_
                            refine rr_zS (j := 15) (A1 := (rf_u (rf_u (rf_u w2.2 18 w171) 13 w13) 15 (upd (w2.2 15) (scN n c r k) (vp_nar .boolean (nI 1))))) d_255_241 (by decide) rfl (by decide) (show scN n c r k < 720 by have := hok.1; omega) rfl ?_
                            refine rr_nx (pc' := 243) (al' := [some (.ref 146), none, some (.int (nI 0)), some (.int (nI (FA n))), some (.int (nI w2.1.length)), some (.int (nI i)), some (.int (nI k)), some (.int (nI (scN n c r k)))]) (st' := [.ref 146]) d_255_242 (fun _ => rfl) ?_
                            refine rr_gf (v := .ref (147 + 16)) d_255_243 mo_255 fl_64 rfl ?_
                            refine rr_nx (pc' := 248) (al' := [some (.ref 146), none, some (.int (nI 0)), some (.int (nI (FA n))), some (.int (nI w2.1.length)), some (.int (nI i)), some (.int (nI k)), some (.int (nI (scN n c r k)))]) (st' := [.int (nI w2.1.length), .ref (147 + 16)]) d_255_246 (fun _ => rfl) ?_
                            refine rr_nx (pc' := 250) (al' := [some (.ref 146), none, some (.int (nI 0)), some (.int (nI (FA n))), some (.int (nI w2.1.length)), some (.int (nI i)), some (.int (nI k)), some (.int (nI (scN n c r k)))]) (st' := [.int (nI (scN n c r k)), .int (nI w2.1.length), .ref (147 + 16)]) d_255_248 (fun _ => rfl) ?_
                            refine rr_iS (j := 16) (A1 := (rf_u (rf_u (rf_u (rf_u w2.2 18 w171) 13 w13) 15 (upd (w2.2 15) (scN n c r k) (vp_nar .boolean (nI 1)))) 16 (upd (w2.2 16) w2.1.length (nI (scN n c r k))))) d_255_250 (by decide) rfl (by decide) (show w2.1.length < 720 by omega) rfl ?_
                            refine rn_inc d_255_251 rfl rfl ?_
                            show RR _ _ 254 [some (.ref 146), none, some (.int (nI 0)), some (.int (nI (FA n))), some (.int (nI (w2.1.length + 1))), some (.int (nI i)), some (.int (nI k)), some (.int (nI (scN n c r k)))] [] g (rf_u (rf_u (rf_u (rf_u w2.2 18 w171) 13 w13) 15 (upd (w2.2 15) (scN n c r k) (vp_nar .boolean (nI 1)))) 16 (upd (w2.2 16) w2.1.length (nI (scN n c r k)))) _
                            rw [show w2.1.length + 1 = (w2.1 ++ [scN n c r k]).length by rw [List.length_append]; rfl]
                            refine rn_inc d_255_254 rfl rfl ?_
                            show RR _ _ 257 [some (.ref 146), none, some (.int (nI 0)), some (.int (nI (FA n))), some (.int (nI ((w2.1 ++ [scN n c r k]).length))), some (.int (nI i)), some (.int (nI (k + 1))), some (.int (nI (scN n c r k)))] [] g (rf_u (rf_u (rf_u (rf_u w2.2 18 w171) 13 w13) 15 (upd (w2.2 15) (scN n c r k) (vp_nar .boolean (nI 1)))) 16 (upd (w2.2 16) w2.1.length (nI (scN n c r k)))) _
                            refine rr_nx (pc' := 146) (al' := [some (.ref 146), none, some (.int (nI 0)), some (.int (nI (FA n))), some (.int (nI ((w2.1 ++ [scN n c r k]).length))), some (.int (nI i)), some (.int (nI (k + 1))), some (.int (nI (scN n c r k)))]) (st' := []) d_255_257 (fun _ => rfl) ?_
                            refine rr_al (congrArg (fun z__ : Nat => ([some (.ref 146), none, some (.int (nI 0)), some (.int (nI (FA n))), some (.int (nI z__)), some (.int (nI i)), some (.int (nI (k + 1))), some (.int (nI (scN n c r k)))] : AL)) (show (w2.1 ++ [scN n c r k]).length = (w2.1 ++ [scN n c r k], (rf_u (rf_u (rf_u (rf_u w2.2 18 w171) 13 w13) 15 (upd (w2.2 15) (scN n c r k) (vp_nar .boolean (nI 1)))) 16 (upd (w2.2 16) w2.1.length (nI (scN n c r k))))).1.length by rfl)) ?_
                            refine rr_dr (al1 := [some (.ref 146), none, some (.int (nI 0)), some (.int (nI (FA n))), some (.int (nI ((w2.1 ++ [scN n c r k], (rf_u (rf_u (rf_u (rf_u w2.2 18 w171) 13 w13) 15 (upd (w2.2 15) (scN n c r k) (vp_nar .boolean (nI 1)))) 16 (upd (w2.2 16) w2.1.length (nI (scN n c r k))))).1.length))), some (.int (nI i)), some (.int (nI (k + 1))), none]) (le_s (le_s (le_s (le_s (le_s (le_s (le_s (le_d rfl (le_n))))))))) ?_
                            exact ihk (w2.1 ++ [scN n c r k], (rf_u (rf_u (rf_u (rf_u w2.2 18 w171) 13 w13) 15 (upd (w2.2 15) (scN n c r k) (vp_nar .boolean (nI 1)))) 16 (upd (w2.2 16) w2.1.length (nI (scN n c r k))))) (⟨hb2, pk.2.1.ad hno rfl (by dsimp only; rw [rf_u_n (by decide), rf_u_s, nar_b _ (by decide)]), pk.2.2.1, (((pk.2.2.2.1.u (by decide)).u (by decide)).u (by decide)).u (by decide), by dsimp only; rw [List.length_append]; omega, by dsimp only; rw [gD_app pk.2.2.2.2.1]; exact pk.2.2.2.2.2.1, fun z h1 h2 => by
                                dsimp only
                                rcases Nat.lt_succ_iff_lt_or_eq.mp h2 with e | e
                                · exact List.mem_append_left _ (pk.2.2.2.2.2.2.1 z h1 e)
                                · rw [e]; exact List.mem_append_right _ (List.mem_singleton.mpr rfl), fun q hq => pk.2.2.2.2.2.2.2.1 q hq, by omega⟩)
                          · have hin : scN n c r k ∈ w2.1 := by
                              by_cases e : scN n c r k ∈ w2.1
                              · exact e
                              · rw [if_neg e] at c228; cases c228
                            refine rr_nx (pc' := 254) (al' := [some (.ref 146), none, some (.int (nI 0)), some (.int (nI (FA n))), some (.int (nI w2.1.length)), some (.int (nI i)), some (.int (nI k)), some (.int (nI (scN n c r k)))]) (st' := []) d_255_231 (fun _ => rfl) ?_
                            refine rn_inc d_255_254 rfl rfl ?_
                            show RR _ _ 257 [some (.ref 146), none, some (.int (nI 0)), some (.int (nI (FA n))), some (.int (nI w2.1.length)), some (.int (nI i)), some (.int (nI (k + 1))), some (.int (nI (scN n c r k)))] [] g (rf_u (rf_u w2.2 18 w171) 13 w13) _
                            refine rr_nx (pc' := 146) (al' := [some (.ref 146), none, some (.int (nI 0)), some (.int (nI (FA n))), some (.int (nI w2.1.length)), some (.int (nI i)), some (.int (nI (k + 1))), some (.int (nI (scN n c r k)))]) (st' := []) d_255_257 (fun _ => rfl) ?_
                            refine rr_al (congrArg (fun z__ : Nat => ([some (.ref 146), none, some (.int (nI 0)), some (.int (nI (FA n))), some (.int (nI z__)), some (.int (nI i)), some (.int (nI (k + 1))), some (.int (nI (scN n c r k)))] : AL)) (show w2.1.length = (w2.1, (rf_u (rf_u w2.2 18 w171) 13 w13)).1.length by rfl)) ?_
                            refine rr_dr (al1 := [some (.ref 146), none, some (.int (nI 0)), some (.int (nI (FA n))), some (.int (nI ((w2.1, (rf_u (rf_u w2.2 18 w171) 13 w13)).1.length))), some (.int (nI i)), some (.int (nI (k + 1))), none]) (le_s (le_s (le_s (le_s (le_s (le_s (le_s (le_d rfl (le_n))))))))) ?_
                            exact ihk (w2.1, (rf_u (rf_u w2.2 18 w171) 13 w13)) (⟨pk.1, pk.2.1.cg rfl rfl, pk.2.2.1, (pk.2.2.2.1.u (by decide)).u (by decide), pk.2.2.2.2.1, pk.2.2.2.2.2.1, fun z h1 h2 => by
                                rcases Nat.lt_succ_iff_lt_or_eq.mp h2 with e | e
                                · exact pk.2.2.2.2.2.2.1 z h1 e
                                · rw [e]; exact hin, fun q hq => pk.2.2.2.2.2.2.2.1 q hq, by omega⟩)
                        · omega
                · show RR _ _ 146 [some (.ref 146), none, some (.int (nI 0)), some (.int (nI (FA n))), some (.int (nI w2.1.length)), some (.int (nI i)), some (.int (nI n)), none] [] g w2.2 _
                  have hlen := Bf_len pk.1
                  refine rr_nx (pc' := 148) (al' := [some (.ref 146), none, some (.int (nI 0)), some (.int (nI (FA n))), some (.int (nI w2.1.length)), some (.int (nI i)), some (.int (nI n)), none]) (st' := [.int (nI n)]) d_255_146 (fun _ => rfl) ?_
                  refine rr_nx (pc' := 149) (al' := [some (.ref 146), none, some (.int (nI 0)), some (.int (nI (FA n))), some (.int (nI w2.1.length)), some (.int (nI i)), some (.int (nI n)), none]) (st' := [.int (nI 0), .int (nI n)]) d_255_148 (fun _ => rfl) ?_
                  refine rn_ine (t := 159) d_255_149 (by decide) (by first | omega | assumption | exact cu_36 (by omega) (cu_lt (by omega) (by omega))) (fun c149 => ?_) (fun c149 => ?_)
                  · omega
                  · refine rr_nx (pc' := 153) (al' := [some (.ref 146), none, some (.int (nI 0)), some (.int (nI (FA n))), some (.int (nI w2.1.length)), some (.int (nI i)), some (.int (nI n)), none]) (st' := [.ref 146, .int (nI n)]) d_255_152 (fun _ => rfl) ?_
                    refine rr_gn d_255_153 mo_255 fl_127 rfl hc.1 ?_
                    refine rr_nx (pc' := 165) (al' := [some (.ref 146), none, some (.int (nI 0)), some (.int (nI (FA n))), some (.int (nI w2.1.length)), some (.int (nI i)), some (.int (nI n)), none]) (st' := [.int (nI n), .int (nI n)]) d_255_156 (fun _ => rfl) ?_
                    refine rn_cge (t := 260) d_255_165 (by decide) (by first | omega | assumption | exact cu_36 (by omega) (cu_lt (by omega) (by omega))) (by first | omega | assumption | exact cu_36 (by omega) (cu_lt (by omega) (by omega))) (fun c165 => ?_) (fun c165 => ?_)
                    · refine rn_inc d_255_260 rfl rfl ?_
                      show RR _ _ 263 [some (.ref 146), none, some (.int (nI 0)), some (.int (nI (FA n))), some (.int (nI w2.1.length)), some (.int (nI (i + 1))), some (.int (nI n)), none] [] g w2.2 _
                      refine rr_nx (pc' := 77) (al' := [some (.ref 146), none, some (.int (nI 0)), some (.int (nI (FA n))), some (.int (nI w2.1.length)), some (.int (nI (i + 1))), some (.int (nI n)), none]) (st' := []) d_255_263 (fun _ => rfl) ?_
                      refine rr_al (congrArg (fun z__ : Nat => ([some (.ref 146), none, some (.int (nI 0)), some (.int (nI (FA n))), some (.int (nI z__)), some (.int (nI (i + 1))), some (.int (nI n)), none] : AL)) (show w2.1.length = (w2.1, w2.2).1.length by rfl)) ?_
                      refine rr_dr (al1 := [some (.ref 146), none, some (.int (nI 0)), some (.int (nI (FA n))), some (.int (nI ((w2.1, w2.2).1.length))), some (.int (nI (i + 1))), none, none]) (le_s (le_s (le_s (le_s (le_s (le_s (le_d rfl (le_s (le_n))))))))) ?_
                      exact ihi (w2.1, w2.2) (⟨Bf_nx pk.1 pk.2.2.2.2.1 (fun k h1 h2 => by rw [pk.2.2.2.2.2.1]; exact pk.2.2.2.2.2.2.1 k h1 h2), pk.2.1, pk.2.2.1, pk.2.2.2.1⟩)
                    · omega
              · omega
            · omega
      · show RR _ _ 77 [some (.ref 146), none, some (.int (nI 0)), some (.int (nI (FA n))), some (.int (nI w_.1.length)), some (.int (nI (FA n))), none, none] [] g w_.2 _
        have hlen := Bf_len pi.1
        refine rr_nx (pc' := 79) (al' := [some (.ref 146), none, some (.int (nI 0)), some (.int (nI (FA n))), some (.int (nI w_.1.length)), some (.int (nI (FA n))), none, none]) (st' := [.int (nI (FA n))]) d_255_77 (fun _ => rfl) ?_
        refine rr_nx (pc' := 81) (al' := [some (.ref 146), none, some (.int (nI 0)), some (.int (nI (FA n))), some (.int (nI w_.1.length)), some (.int (nI (FA n))), none, none]) (st' := [.int (nI w_.1.length), .int (nI (FA n))]) d_255_79 (fun _ => rfl) ?_
        refine rn_cge (t := 266) d_255_81 (by decide) (by first | omega | assumption | exact cu_36 (by omega) (cu_lt (by omega) (by omega))) (by first | omega | assumption | exact cu_36 (by omega) (cu_lt (by omega) (by omega))) (fun c81 => ?_) (fun c81 => ?_)
        · refine rr_nx (pc' := 268) (al' := [some (.ref 146), none, some (.int (nI 0)), some (.int (nI (FA n))), some (.int (nI w_.1.length)), some (.int (nI (FA n))), none, none]) (st' := [.int (nI w_.1.length)]) d_255_266 (fun _ => rfl) ?_
          exact rr_ri d_255_268 mr_255 rfl ⟨w_.1, FA n, pi.1, by omega, rfl, Gsm.rf, pi.2.2.2⟩
        · omega
    · omega
theorem s_group1 {g : Nat → Int32} {A : Nat → Nat → Int32} {n : Nat} {c : Nat → Nat} (hc : Cur g A n c) (hl : Lat n c) : RR 2 255 24 [some (.ref 146), none, some (.int (nI 1)), none, none, none, none, none] [] g A (fun r_ g' A' => ∃ l i, BfI n c n (2 * n) i l ∧ l.length ≤ i ∧ r_ = some (.int (nI l.length)) ∧ Gsm g g' ∧ Ksm A A') := by
  have hn6 := hc.2.1
  have h720 := FA_720 hn6
  have hfp := FA_pos n
  refine rr_nx (pc' := 25) (al' := [some (.ref 146), none, some (.int (nI 1)), none, none, none, none, none]) (st' := [.ref 146]) d_255_24 (fun _ => rfl) ?_
  refine rr_gn d_255_25 mo_255 fl_127 rfl hc.1 ?_
  refine rr_ps (as := [.int (nI n)]) (al0 := [some (.int (nI n)), none, none]) (r := []) d_255_28 mo_255 ml_270 mz_233 rfl rfl rfl (Nat.le_of_ble_eq_true rfl) (s_factorial (by omega)) ?_
  show RR _ _ 31 [some (.ref 146), none, some (.int (nI 1)), none, none, none, none, none] [.int (nI (FA n))] g A _
  refine rr_nx (pc' := 32) (al' := [some (.ref 146), none, some (.int (nI 1)), some (.int (nI (FA n))), none, none, none, none]) (st' := []) d_255_31 (fun _ => rfl) ?_
  refine rn_ic (v := 0) d_255_32 (by decide) ?_
  refine rr_nx (pc' := 35) (al' := [some (.ref 146), none, some (.int (nI 1)), some (.int (nI (FA n))), some (.int (nI 0)), none, none, none]) (st' := []) d_255_33 (fun _ => rfl) ?_
  refine rr_A (show A = (rf_u A 15 (A 15)) by rw [rf_u_id]) ?_
  refine rr_upw (al := fun z w_ => [some (.ref 146), none, some (.int (nI 1)), some (.int (nI (FA n))), some (.int (nI z)), none, none, none]) (G := fun z w_ => g) (B := fun z w_ => (rf_u A 15 w_)) (P := fun z w_ => ∀ q, q < z → w_ q = nI (if q ∈ [0] then 1 else 0)) (n := FA n) (fun z w_ hz pz ihz => ?_) (fun w_ pz => ?_) 0 (A 15) (by omega) (all_0)
  · show RR _ _ 35 [some (.ref 146), none, some (.int (nI 1)), some (.int (nI (FA n))), some (.int (nI z)), none, none, none] [] g (rf_u A 15 w_) _
    refine rr_nx (pc' := 37) (al' := [some (.ref 146), none, some (.int (nI 1)), some (.int (nI (FA n))), some (.int (nI z)), none, none, none]) (st' := [.int (nI z)]) d_255_35 (fun _ => rfl) ?_
    refine rr_nx (pc' := 38) (al' := [some (.ref 146), none, some (.int (nI 1)), some (.int (nI (FA n))), some (.int (nI z)), none, none, none]) (st' := [.int (nI (FA n)), .int (nI z)]) d_255_37 (fun _ => rfl) ?_
    refine rn_cge (t := 64) d_255_38 (by decide) (by first | omega | assumption | exact cu_36 (by omega) (cu_lt (by omega) (by omega))) (by first | omega | assumption | exact cu_36 (by omega) (cu_lt (by omega) (by omega))) (fun c38 => ?_) (fun c38 => ?_)
    · omega
    · refine rr_nx (pc' := 42) (al' := [some (.ref 146), none, some (.int (nI 1)), some (.int (nI (FA n))), some (.int (nI z)), none, none, none]) (st' := [.ref 146]) d_255_41 (fun _ => rfl) ?_
      refine rr_gf (v := .ref (147 + 15)) d_255_42 mo_255 fl_61 rfl ?_
      refine rr_nx (pc' := 47) (al' := [some (.ref 146), none, some (.int (nI 1)), some (.int (nI (FA n))), some (.int (nI z)), none, none, none]) (st' := [.int (nI z), .ref (147 + 15)]) d_255_45 (fun _ => rfl) ?_
      refine rr_nx (pc' := 49) (al' := [some (.ref 146), none, some (.int (nI 1)), some (.int (nI (FA n))), some (.int (nI z)), none, none, none]) (st' := [.int (nI z), .int (nI z), .ref (147 + 15)]) d_255_47 (fun _ => rfl) ?_
      refine rn_ine (t := 56) d_255_49 (by decide) (by first | omega | assumption | exact cu_36 (by omega) (cu_lt (by omega) (by omega))) (fun c49 => ?_) (fun c49 => ?_)
      · refine rn_ic (v := 0) d_255_56 (by decide) ?_
        refine rr_zS (j := 15) (A1 := (rf_u A 15 (upd w_ z (vp_nar .boolean (nI 0))))) d_255_57 (by decide) rfl (by decide) (show z < 720 by first | omega | assumption | exact cu_36 (by omega) (cu_lt (by omega) (by omega))) rf_uw ?_
        refine rn_inc d_255_58 rfl rfl ?_
        show RR _ _ 61 [some (.ref 146), none, some (.int (nI 1)), some (.int (nI (FA n))), some (.int (nI (z + 1))), none, none, none] [] g (rf_u A 15 (upd w_ z (vp_nar .boolean (nI 0)))) _
        refine rr_nx (pc' := 35) (al' := [some (.ref 146), none, some (.int (nI 1)), some (.int (nI (FA n))), some (.int (nI (z + 1))), none, none, none]) (st' := []) d_255_61 (fun _ => rfl) ?_
        exact ihz (upd w_ z (vp_nar .boolean (nI 0))) (up_all (f := fun q => nI (if q ∈ [0] then 1 else 0)) pz (by rw [nar_b _ (by decide)]; first | rw [if_pos (by simp; omega)] | rw [if_neg (by simp; omega)]))
      · refine rn_ic (v := 1) d_255_52 (by decide) ?_
        refine rr_nx (pc' := 57) (al' := [some (.ref 146), none, some (.int (nI 1)), some (.int (nI (FA n))), some (.int (nI z)), none, none, none]) (st' := [.int (nI 1), .int (nI z), .ref (147 + 15)]) d_255_53 (fun _ => rfl) ?_
        refine rr_zS (j := 15) (A1 := (rf_u A 15 (upd w_ z (vp_nar .boolean (nI 1))))) d_255_57 (by decide) rfl (by decide) (show z < 720 by first | omega | assumption | exact cu_36 (by omega) (cu_lt (by omega) (by omega))) rf_uw ?_
        refine rn_inc d_255_58 rfl rfl ?_
        show RR _ _ 61 [some (.ref 146), none, some (.int (nI 1)), some (.int (nI (FA n))), some (.int (nI (z + 1))), none, none, none] [] g (rf_u A 15 (upd w_ z (vp_nar .boolean (nI 1)))) _
        refine rr_nx (pc' := 35) (al' := [some (.ref 146), none, some (.int (nI 1)), some (.int (nI (FA n))), some (.int (nI (z + 1))), none, none, none]) (st' := []) d_255_61 (fun _ => rfl) ?_
        exact ihz (upd w_ z (vp_nar .boolean (nI 1))) (up_all (f := fun q => nI (if q ∈ [0] then 1 else 0)) pz (by rw [nar_b _ (by decide)]; first | rw [if_pos (by simp; omega)] | rw [if_neg (by simp; omega)]))
  · show RR _ _ 35 [some (.ref 146), none, some (.int (nI 1)), some (.int (nI (FA n))), some (.int (nI (FA n))), none, none, none] [] g (rf_u A 15 w_) _
    refine rr_nx (pc' := 37) (al' := [some (.ref 146), none, some (.int (nI 1)), some (.int (nI (FA n))), some (.int (nI (FA n))), none, none, none]) (st' := [.int (nI (FA n))]) d_255_35 (fun _ => rfl) ?_
    refine rr_nx (pc' := 38) (al' := [some (.ref 146), none, some (.int (nI 1)), some (.int (nI (FA n))), some (.int (nI (FA n))), none, none, none]) (st' := [.int (nI (FA n)), .int (nI (FA n))]) d_255_37 (fun _ => rfl) ?_
    refine rn_cge (t := 64) d_255_38 (by decide) (by first | omega | assumption | exact cu_36 (by omega) (cu_lt (by omega) (by omega))) (by first | omega | assumption | exact cu_36 (by omega) (cu_lt (by omega) (by omega))) (fun c38 => ?_) (fun c38 => ?_)
    · refine rr_nx (pc' := 65) (al' := [some (.ref 146), none, some (.int (nI 1)), some (.int (nI (FA n))), some (.int (nI (FA n))), none, none, none]) (st' := [.ref 146]) d_255_64 (fun _ => rfl) ?_
      refine rr_gf (v := .ref (147 + 16)) d_255_65 mo_255 fl_64 rfl ?_
      refine rn_ic (v := 0) d_255_68 (by decide) ?_
      refine rn_ic (v := 0) d_255_69 (by decide) ?_
      refine rr_iS (j := 16) (A1 := (rf_u (rf_u A 15 w_) 16 (upd (A 16) 0 (nI 0)))) d_255_70 (by decide) rfl (by decide) (show 0 < 720 by first | omega | assumption | exact cu_36 (by omega) (cu_lt (by omega) (by omega))) rfl ?_
      refine rn_ic (v := 1) d_255_71 (by decide) ?_
      refine rr_nx (pc' := 74) (al' := [some (.ref 146), none, some (.int (nI 1)), some (.int (nI (FA n))), some (.int (nI 1)), none, none, none]) (st' := []) d_255_72 (fun _ => rfl) ?_
      refine rn_ic (v := 0) d_255_74 (by decide) ?_
      refine rr_nx (pc' := 77) (al' := [some (.ref 146), none, some (.int (nI 1)), some (.int (nI (FA n))), some (.int (nI 1)), some (.int (nI 0)), none, none]) (st' := []) d_255_75 (fun _ => rfl) ?_
      refine rr_al (congrArg (fun z__ : Nat => ([some (.ref 146), none, some (.int (nI 1)), some (.int (nI (FA n))), some (.int (nI z__)), some (.int (nI 0)), none, none] : AL)) (show 1 = ([0], (rf_u (rf_u A 15 w_) 16 (upd (A 16) 0 (nI 0)))).1.length by rfl)) ?_
      refine rr_upw (al := fun i w_ => [some (.ref 146), none, some (.int (nI 1)), some (.int (nI (FA n))), some (.int (nI w_.1.length)), some (.int (nI i)), none, none]) (G := fun i w_ => g) (B := fun i w_ => w_.2) (P := fun i w_ => BfI n c n (2 * n) i w_.1 ∧ GrR n w_.2 w_.1 ∧ w_.2 4 = A 4 ∧ Ksm A w_.2) (n := FA n) (fun i w_ hi pi ihi => ?_) (fun w_ pi => ?_) 0 ([0], (rf_u (rf_u A 15 w_) 16 (upd (A 16) 0 (nI 0)))) (by omega) (⟨Bf_0, ⟨fun j hj => by dsimp only at hj ⊢; rw [rf_u_s, show j = 0 by simp at hj; exact hj, pk_us]; rfl, fun q hq => by dsimp only; rw [rf_u_n (by decide), rf_u_s]; exact pz q hq⟩, rfl, (Ksm.rf.u (by decide)).u (by decide)⟩)
      · show RR _ _ 77 [some (.ref 146), none, some (.int (nI 1)), some (.int (nI (FA n))), some (.int (nI w_.1.length)), some (.int (nI i)), none, none] [] g w_.2 _
        have hlen := Bf_len pi.1
        refine rr_nx (pc' := 79) (al' := [some (.ref 146), none, some (.int (nI 1)), some (.int (nI (FA n))), some (.int (nI w_.1.length)), some (.int (nI i)), none, none]) (st' := [.int (nI i)]) d_255_77 (fun _ => rfl) ?_
        refine rr_nx (pc' := 81) (al' := [some (.ref 146), none, some (.int (nI 1)), some (.int (nI (FA n))), some (.int (nI w_.1.length)), some (.int (nI i)), none, none]) (st' := [.int (nI w_.1.length), .int (nI i)]) d_255_79 (fun _ => rfl) ?_
        refine rn_cge (t := 266) d_255_81 (by decide) (by first | omega | assumption | exact cu_36 (by omega) (cu_lt (by omega) (by omega))) (by first | omega | assumption | exact cu_36 (by omega) (cu_lt (by omega) (by omega))) (fun c81 => ?_) (fun c81 => ?_)
        · refine rr_nx (pc' := 268) (al' := [some (.ref 146), none, some (.int (nI 1)), some (.int (nI (FA n))), some (.int (nI w_.1.length)), some (.int (nI i)), none, none]) (st' := [.int (nI w_.1.length)]) d_255_266 (fun _ => rfl) ?_
          exact rr_ri d_255_268 mr_255 rfl ⟨w_.1, i, pi.1, by omega, rfl, Gsm.rf, pi.2.2.2⟩
        · obtain ⟨r, hr⟩ : ∃ r, w_.1.getD i 0 = r := ⟨_, rfl⟩
          have hrF : r < FA n := by rw [← hr]; exact pi.1.2.1 _ (gD_mem c81)
          refine rr_nx (pc' := 85) (al' := [some (.ref 146), none, some (.int (nI 1)), some (.int (nI (FA n))), some (.int (nI w_.1.length)), some (.int (nI i)), none, none]) (st' := [.ref 146]) d_255_84 (fun _ => rfl) ?_
          refine rr_nx (pc' := 86) (al' := [some (.ref 146), none, some (.int (nI 1)), some (.int (nI (FA n))), some (.int (nI w_.1.length)), some (.int (nI i)), none, none]) (st' := [.ref 146, .ref 146]) d_255_85 (fun _ => rfl) ?_
          refine rr_gf (v := .ref (147 + 16)) d_255_86 mo_255 fl_64 rfl ?_
          refine rr_nx (pc' := 91) (al' := [some (.ref 146), none, some (.int (nI 1)), some (.int (nI (FA n))), some (.int (nI w_.1.length)), some (.int (nI i)), none, none]) (st' := [.int (nI i), .ref (147 + 16), .ref 146]) d_255_89 (fun _ => rfl) ?_
          refine rr_ia (j := 16) (v := (nI r)) d_255_91 (by decide) rfl (by decide) (show i < 720 by omega) (by rw [pi.2.1.1 i c81, hr]) ?_
          refine rr_nx (pc' := 93) (al' := [some (.ref 146), none, some (.int (nI 1)), some (.int (nI (FA n))), some (.int (nI w_.1.length)), some (.int (nI i)), none, none]) (st' := [.ref 146, .int (nI r), .ref 146]) d_255_92 (fun _ => rfl) ?_
          refine rr_gn d_255_93 mo_255 fl_127 rfl hc.1 ?_
          refine rr_cv (as := [.int (nI r), .int (nI n)]) (al0 := [some (.ref 146), some (.int (nI r)), some (.int (nI n)), none, none, none, none, none, none]) (r := []) d_255_96 mo_255 ml_273 mz_234 rfl rfl rfl (rr_wk (Nat.le_of_ble_eq_true rfl) (s_permutes (n := n) (r := r) (by omega) (by exact hrF))) (fun v1 g1 A1 h1 => ?_)
          obtain ⟨q0_, q1_, w96, q9_, hw96⟩ := h1
          obtain rfl := q0_
          obtain rfl := q1_.symm
          obtain rfl := q9_
          show RR _ _ 99 [some (.ref 146), none, some (.int (nI 1)), some (.int (nI (FA n))), some (.int (nI w_.1.length)), some (.int (nI i)), none, none] [] g (rf_u w_.2 13 w96) _
          refine rn_ic (v := 0) d_255_99 (by decide) ?_
          refine rr_nx (pc' := 102) (al' := [some (.ref 146), none, some (.int (nI 1)), some (.int (nI (FA n))), some (.int (nI w_.1.length)), some (.int (nI i)), some (.int (nI 0)), none]) (st' := []) d_255_100 (fun _ => rfl) ?_
          refine rr_A (show (rf_u w_.2 13 w96) = (rf_u (rf_u w_.2 13 w96) 17 (w_.2 17)) by exact rf_idn (by decide)) ?_
          refine rr_upw (al := fun x w17 => [some (.ref 146), none, some (.int (nI 1)), some (.int (nI (FA n))), some (.int (nI w_.1.length)), some (.int (nI i)), some (.int (nI x)), none]) (G := fun x w17 => g) (B := fun x w17 => (rf_u (rf_u w_.2 13 w96) 17 w17)) (P := fun x w17 => ∀ q, q < x → w17 q = nI (pmE n r q)) (n := n) (fun x w17 hx px ihx => ?_) (fun w17 px => ?_) 0 (w_.2 17) (by omega) (all_0)
          · show RR _ _ 102 [some (.ref 146), none, some (.int (nI 1)), some (.int (nI (FA n))), some (.int (nI w_.1.length)), some (.int (nI i)), some (.int (nI x)), none] [] g (rf_u (rf_u w_.2 13 w96) 17 w17) _
            refine rr_nx (pc' := 104) (al' := [some (.ref 146), none, some (.int (nI 1)), some (.int (nI (FA n))), some (.int (nI w_.1.length)), some (.int (nI i)), some (.int (nI x)), none]) (st' := [.int (nI x)]) d_255_102 (fun _ => rfl) ?_
            refine rr_nx (pc' := 105) (al' := [some (.ref 146), none, some (.int (nI 1)), some (.int (nI (FA n))), some (.int (nI w_.1.length)), some (.int (nI i)), some (.int (nI x)), none]) (st' := [.ref 146, .int (nI x)]) d_255_104 (fun _ => rfl) ?_
            refine rr_gn d_255_105 mo_255 fl_127 rfl hc.1 ?_
            refine rn_cge (t := 131) d_255_108 (by decide) (by first | omega | assumption | exact cu_36 (by omega) (cu_lt (by omega) (by omega))) (by first | omega | assumption | exact cu_36 (by omega) (cu_lt (by omega) (by omega))) (fun c108 => ?_) (fun c108 => ?_)
            · omega
            · refine rr_nx (pc' := 112) (al' := [some (.ref 146), none, some (.int (nI 1)), some (.int (nI (FA n))), some (.int (nI w_.1.length)), some (.int (nI i)), some (.int (nI x)), none]) (st' := [.ref 146]) d_255_111 (fun _ => rfl) ?_
              refine rr_gf (v := .ref (147 + 17)) d_255_112 mo_255 fl_67 rfl ?_
              refine rr_nx (pc' := 117) (al' := [some (.ref 146), none, some (.int (nI 1)), some (.int (nI (FA n))), some (.int (nI w_.1.length)), some (.int (nI i)), some (.int (nI x)), none]) (st' := [.int (nI x), .ref (147 + 17)]) d_255_115 (fun _ => rfl) ?_
              refine rr_nx (pc' := 118) (al' := [some (.ref 146), none, some (.int (nI 1)), some (.int (nI (FA n))), some (.int (nI w_.1.length)), some (.int (nI i)), some (.int (nI x)), none]) (st' := [.ref 146, .int (nI x), .ref (147 + 17)]) d_255_117 (fun _ => rfl) ?_
              refine rr_gf (v := .ref (147 + 13)) d_255_118 mo_255 fl_55 rfl ?_
              refine rr_nx (pc' := 123) (al' := [some (.ref 146), none, some (.int (nI 1)), some (.int (nI (FA n))), some (.int (nI w_.1.length)), some (.int (nI i)), some (.int (nI x)), none]) (st' := [.int (nI x), .ref (147 + 13), .int (nI x), .ref (147 + 17)]) d_255_121 (fun _ => rfl) ?_
              refine rr_ia (j := 13) (v := (nI (pmE n r x))) d_255_123 (by decide) rfl (by decide) (show x < 6 by first | omega | assumption | exact cu_36 (by omega) (cu_lt (by omega) (by omega))) (hw96 x hx) ?_
              refine rr_iS (j := 17) (A1 := (rf_u (rf_u w_.2 13 w96) 17 (upd w17 x (nI (pmE n r x))))) d_255_124 (by decide) rfl (by decide) (show x < 6 by first | omega | assumption | exact cu_36 (by omega) (cu_lt (by omega) (by omega))) rf_uw ?_
              refine rn_inc d_255_125 rfl rfl ?_
              show RR _ _ 128 [some (.ref 146), none, some (.int (nI 1)), some (.int (nI (FA n))), some (.int (nI w_.1.length)), some (.int (nI i)), some (.int (nI (x + 1))), none] [] g (rf_u (rf_u w_.2 13 w96) 17 (upd w17 x (nI (pmE n r x)))) _
              refine rr_nx (pc' := 102) (al' := [some (.ref 146), none, some (.int (nI 1)), some (.int (nI (FA n))), some (.int (nI w_.1.length)), some (.int (nI i)), some (.int (nI (x + 1))), none]) (st' := []) d_255_128 (fun _ => rfl) ?_
              exact ihx (upd w17 x (nI (pmE n r x))) (up_all (f := fun q => nI (pmE n r q)) px rfl)
          · show RR _ _ 102 [some (.ref 146), none, some (.int (nI 1)), some (.int (nI (FA n))), some (.int (nI w_.1.length)), some (.int (nI i)), some (.int (nI n)), none] [] g (rf_u (rf_u w_.2 13 w96) 17 w17) _
            refine rr_nx (pc' := 104) (al' := [some (.ref 146), none, some (.int (nI 1)), some (.int (nI (FA n))), some (.int (nI w_.1.length)), some (.int (nI i)), some (.int (nI n)), none]) (st' := [.int (nI n)]) d_255_102 (fun _ => rfl) ?_
            refine rr_nx (pc' := 105) (al' := [some (.ref 146), none, some (.int (nI 1)), some (.int (nI (FA n))), some (.int (nI w_.1.length)), some (.int (nI i)), some (.int (nI n)), none]) (st' := [.ref 146, .int (nI n)]) d_255_104 (fun _ => rfl) ?_
            refine rr_gn d_255_105 mo_255 fl_127 rfl hc.1 ?_
            refine rn_cge (t := 131) d_255_108 (by decide) (by first | omega | assumption | exact cu_36 (by omega) (cu_lt (by omega) (by omega))) (by first | omega | assumption | exact cu_36 (by omega) (cu_lt (by omega) (by omega))) (fun c108 => ?_) (fun c108 => ?_)
            · refine rr_nx (pc' := 132) (al' := [some (.ref 146), none, some (.int (nI 1)), some (.int (nI (FA n))), some (.int (nI w_.1.length)), some (.int (nI i)), some (.int (nI n)), none]) (st' := [.int (nI 1)]) d_255_131 (fun _ => rfl) ?_
              refine rn_ic (v := 1) d_255_132 (by decide) ?_
              refine rn_cne (t := 143) d_255_133 (by decide) (by first | omega | assumption | exact cu_36 (by omega) (cu_lt (by omega) (by omega))) (by first | omega | assumption | exact cu_36 (by omega) (cu_lt (by omega) (by omega))) (fun c133 => ?_) (fun c133 => ?_)
              · omega
              · refine rr_nx (pc' := 137) (al' := [some (.ref 146), none, some (.int (nI 1)), some (.int (nI (FA n))), some (.int (nI w_.1.length)), some (.int (nI i)), some (.int (nI n)), none]) (st' := [.ref 146]) d_255_136 (fun _ => rfl) ?_
                refine rr_gn d_255_137 mo_255 fl_127 rfl hc.1 ?_
                refine rr_nx (pc' := 144) (al' := [some (.ref 146), none, some (.int (nI 1)), some (.int (nI (FA n))), some (.int (nI w_.1.length)), some (.int (nI i)), some (.int (nI n)), none]) (st' := [.int (nI n)]) d_255_140 (fun _ => rfl) ?_
                refine rr_nx (pc' := 146) (al' := [some (.ref 146), none, some (.int (nI 1)), some (.int (nI (FA n))), some (.int (nI w_.1.length)), some (.int (nI i)), some (.int (nI n)), none]) (st' := []) d_255_144 (fun _ => rfl) ?_
                refine rr_al (congrArg (fun z__ : Nat => ([some (.ref 146), none, some (.int (nI 1)), some (.int (nI (FA n))), some (.int (nI z__)), some (.int (nI i)), some (.int (nI n)), none] : AL)) (show w_.1.length = (w_.1, (rf_u (rf_u w_.2 13 w96) 17 w17)).1.length by rfl)) ?_
                refine rr_upw (al := fun k w2 => [some (.ref 146), none, some (.int (nI 1)), some (.int (nI (FA n))), some (.int (nI w2.1.length)), some (.int (nI i)), some (.int (nI k)), none]) (G := fun k w2 => g) (B := fun k w2 => w2.2) (P := fun k w2 => BfI n c n (2 * n) i w2.1 ∧ GrR n w2.2 w2.1 ∧ w2.2 4 = A 4 ∧ Ksm A w2.2 ∧ i < w2.1.length ∧ w2.1.getD i 0 = r ∧ (∀ z, n ≤ z → z < k → scN n c r z ∈ w2.1) ∧ (∀ q, q < n → w2.2 17 q = nI (pmE n r q)) ∧ n ≤ k) (n := 2 * n) (fun k w2 hk pk ihk => ?_) (fun w2 pk => ?_) n (w_.1, (rf_u (rf_u w_.2 13 w96) 17 w17)) (by omega) (⟨pi.1, pi.2.1.cg rfl rfl, pi.2.2.1, (pi.2.2.2.u (by decide)).u (by decide), c81, hr, fun k h1 h2 => by omega, fun q hq => by dsimp only; rw [rf_u_s]; exact px q hq, Nat.le_refl _⟩)
                · show RR _ _ 146 [some (.ref 146), none, some (.int (nI 1)), some (.int (nI (FA n))), some (.int (nI w2.1.length)), some (.int (nI i)), some (.int (nI k)), none] [] g w2.2 _
                  have hlen := Bf_len pk.1
                  have hok := sc_ok (k := k) hn6 hl hrF (by omega)
                  have hcc : Cur g w2.2 n c := ⟨hc.1, hn6, fun q hq => by rw [pk.2.2.1]; exact hc.2.2 q hq⟩
                  refine rr_nx (pc' := 148) (al' := [some (.ref 146), none, some (.int (nI 1)), some (.int (nI (FA n))), some (.int (nI w2.1.length)), some (.int (nI i)), some (.int (nI k)), none]) (st' := [.int (nI k)]) d_255_146 (fun _ => rfl) ?_
                  refine rr_nx (pc' := 149) (al' := [some (.ref 146), none, some (.int (nI 1)), some (.int (nI (FA n))), some (.int (nI w2.1.length)), some (.int (nI i)), some (.int (nI k)), none]) (st' := [.int (nI 1), .int (nI k)]) d_255_148 (fun _ => rfl) ?_
                  refine rn_ine (t := 159) d_255_149 (by decide) (by first | omega | assumption | exact cu_36 (by omega) (cu_lt (by omega) (by omega))) (fun c149 => ?_) (fun c149 => ?_)
                  · refine rn_ic (v := 2) d_255_159 (by decide) ?_
                    refine rr_nx (pc' := 161) (al' := [some (.ref 146), none, some (.int (nI 1)), some (.int (nI (FA n))), some (.int (nI w2.1.length)), some (.int (nI i)), some (.int (nI k)), none]) (st' := [.ref 146, .int (nI 2), .int (nI k)]) d_255_160 (fun _ => rfl) ?_
                    refine rr_gn d_255_161 mo_255 fl_127 rfl hc.1 ?_
                    refine rn_mul d_255_164  ?_
                    refine rn_cge (t := 260) d_255_165 (by decide) (by first | omega | assumption | exact cu_36 (by omega) (cu_lt (by omega) (by omega))) (by first | omega | assumption | exact cu_36 (by omega) (cu_lt (by omega) (by omega))) (fun c165 => ?_) (fun c165 => ?_)
                    · omega
                    · refine rr_nx (pc' := 169) (al' := [some (.ref 146), none, some (.int (nI 1)), some (.int (nI (FA n))), some (.int (nI w2.1.length)), some (.int (nI i)), some (.int (nI k)), none]) (st' := [.ref 146]) d_255_168 (fun _ => rfl) ?_
                      refine rr_nx (pc' := 171) (al' := [some (.ref 146), none, some (.int (nI 1)), some (.int (nI (FA n))), some (.int (nI w2.1.length)), some (.int (nI i)), some (.int (nI k)), none]) (st' := [.int (nI k), .ref 146]) d_255_169 (fun _ => rfl) ?_
                      refine rr_cv (as := [.int (nI k)]) (al0 := [some (.ref 146), some (.int (nI k)), none]) (r := []) d_255_171 mo_255 ml_305 mz_256 rfl rfl rfl (rr_wk (Nat.le_of_ble_eq_true rfl) (s_maker hcc (by omega))) (fun v1 g1 A1 h1 => ?_)
                      obtain ⟨q0_, q1_, w171, q9_, hw171⟩ := h1
                      obtain rfl := q0_
                      obtain rfl := q1_.symm
                      obtain rfl := q9_
                      show RR _ _ 174 [some (.ref 146), none, some (.int (nI 1)), some (.int (nI (FA n))), some (.int (nI w2.1.length)), some (.int (nI i)), some (.int (nI k)), none] [] g (rf_u w2.2 18 w171) _
                      refine rn_ic (v := 0) d_255_174 (by decide) ?_
                      refine rr_nx (pc' := 177) (al' := [some (.ref 146), none, some (.int (nI 1)), some (.int (nI (FA n))), some (.int (nI w2.1.length)), some (.int (nI i)), some (.int (nI k)), some (.int (nI 0))]) (st' := []) d_255_175 (fun _ => rfl) ?_
                      refine rr_A (show (rf_u w2.2 18 w171) = (rf_u (rf_u w2.2 18 w171) 13 (w2.2 13)) by exact rf_idn (by decide)) ?_
                      refine rr_upw (al := fun y w13 => [some (.ref 146), none, some (.int (nI 1)), some (.int (nI (FA n))), some (.int (nI w2.1.length)), some (.int (nI i)), some (.int (nI k)), some (.int (nI y))]) (G := fun y w13 => g) (B := fun y w13 => (rf_u (rf_u w2.2 18 w171) 13 w13)) (P := fun y w13 => ∀ q, q < y → w13 q = nI (mkG n c k (pmE n r q))) (n := n) (fun y w13 hy py ihy => ?_) (fun w13 py => ?_) 0 (w2.2 13) (by omega) (all_0)
                      · show RR _ _ 177 [some (.ref 146), none, some (.int (nI 1)), some (.int (nI (FA n))), some (.int (nI w2.1.length)), some (.int (nI i)), some (.int (nI k)), some (.int (nI y))] [] g (rf_u (rf_u w2.2 18 w171) 13 w13) _
                        refine rr_nx (pc' := 179) (al' := [some (.ref 146), none, some (.int (nI 1)), some (.int (nI (FA n))), some (.int (nI w2.1.length)), some (.int (nI i)), some (.int (nI k)), some (.int (nI y))]) (st' := [.int (nI y)]) d_255_177 (fun _ => rfl) ?_
                        refine rr_nx (pc' := 180) (al' := [some (.ref 146), none, some (.int (nI 1)), some (.int (nI (FA n))), some (.int (nI w2.1.length)), some (.int (nI i)), some (.int (nI k)), some (.int (nI y))]) (st' := [.ref 146, .int (nI y)]) d_255_179 (fun _ => rfl) ?_
                        refine rr_gn d_255_180 mo_255 fl_127 rfl hc.1 ?_
                        refine rn_cge (t := 211) d_255_183 (by decide) (by first | omega | assumption | exact cu_36 (by omega) (cu_lt (by omega) (by omega))) (by first | omega | assumption | exact cu_36 (by omega) (cu_lt (by omega) (by omega))) (fun c183 => ?_) (fun c183 => ?_)
                        · omega
                        · refine rr_nx (pc' := 187) (al' := [some (.ref 146), none, some (.int (nI 1)), some (.int (nI (FA n))), some (.int (nI w2.1.length)), some (.int (nI i)), some (.int (nI k)), some (.int (nI y))]) (st' := [.ref 146]) d_255_186 (fun _ => rfl) ?_
                          refine rr_gf (v := .ref (147 + 13)) d_255_187 mo_255 fl_55 rfl ?_
                          refine rr_nx (pc' := 192) (al' := [some (.ref 146), none, some (.int (nI 1)), some (.int (nI (FA n))), some (.int (nI w2.1.length)), some (.int (nI i)), some (.int (nI k)), some (.int (nI y))]) (st' := [.int (nI y), .ref (147 + 13)]) d_255_190 (fun _ => rfl) ?_
                          refine rr_nx (pc' := 193) (al' := [some (.ref 146), none, some (.int (nI 1)), some (.int (nI (FA n))), some (.int (nI w2.1.length)), some (.int (nI i)), some (.int (nI k)), some (.int (nI y))]) (st' := [.ref 146, .int (nI y), .ref (147 + 13)]) d_255_192 (fun _ => rfl) ?_
                          refine rr_gf (v := .ref (147 + 18)) d_255_193 mo_255 fl_70 rfl ?_
                          refine rr_nx (pc' := 197) (al' := [some (.ref 146), none, some (.int (nI 1)), some (.int (nI (FA n))), some (.int (nI w2.1.length)), some (.int (nI i)), some (.int (nI k)), some (.int (nI y))]) (st' := [.ref 146, .ref (147 + 18), .int (nI y), .ref (147 + 13)]) d_255_196 (fun _ => rfl) ?_
                          refine rr_gf (v := .ref (147 + 17)) d_255_197 mo_255 fl_67 rfl ?_
                          refine rr_nx (pc' := 202) (al' := [some (.ref 146), none, some (.int (nI 1)), some (.int (nI (FA n))), some (.int (nI w2.1.length)), some (.int (nI i)), some (.int (nI k)), some (.int (nI y))]) (st' := [.int (nI y), .ref (147 + 17), .ref (147 + 18), .int (nI y), .ref (147 + 13)]) d_255_200 (fun _ => rfl) ?_
                          refine rr_ia (j := 17) (v := (nI (pmE n r y))) d_255_202 (by decide) rfl (by decide) (show y < 6 by first | omega | assumption | exact cu_36 (by omega) (cu_lt (by omega) (by omega))) (pk.2.2.2.2.2.2.2.1 y hy) ?_
                          refine rr_ia (j := 18) (v := (nI (mkG n c k (pmE n r y)))) d_255_203 (by decide) rfl (by decide) (show pmE n r y < 6 by have := (pm_per hn6 hrF).1 y hy; omega) (hw171 _ ((pm_per hn6 hrF).1 y hy)) ?_
                          refine rr_iS (j := 13) (A1 := (rf_u (rf_u w2.2 18 w171) 13 (upd w13 y (nI (mkG n c k (pmE n r y)))))) d_255_204 (by decide) rfl (by decide) (show y < 6 by first | omega | assumption | exact cu_36 (by omega) (cu_lt (by omega) (by omega))) rf_uw ?_
                          refine rn_inc d_255_205 rfl rfl ?_
                          show RR _ _ 208 [some (.ref 146), none, some (.int (nI 1)), some (.int (nI (FA n))), some (.int (nI w2.1.length)), some (.int (nI i)), some (.int (nI k)), some (.int (nI (y + 1)))] [] g (rf_u (rf_u w2.2 18 w171) 13 (upd w13 y (nI (mkG n c k (pmE n r y))))) _
                          refine rr_nx (pc' := 177) (al' := [some (.ref 146), none, some (.int (nI 1)), some (.int (nI (FA n))), some (.int (nI w2.1.length)), some (.int (nI i)), some (.int (nI k)), some (.int (nI (y + 1)))]) (st' := []) d_255_208 (fun _ => rfl) ?_
                          exact ihy (upd w13 y (nI (mkG n c k (pmE n r y)))) (up_all (f := fun q => nI (mkG n c k (pmE n r q))) py rfl)
                      · show RR _ _ 177 [some (.ref 146), none, some (.int (nI 1)), some (.int (nI (FA n))), some (.int (nI w2.1.length)), some (.int (nI i)), some (.int (nI k)), some (.int (nI n))] [] g (rf_u (rf_u w2.2 18 w171) 13 w13) _
                        refine rr_nx (pc' := 179) (al' := [some (.ref 146), none, some (.int (nI 1)), some (.int (nI (FA n))), some (.int (nI w2.1.length)), some (.int (nI i)), some (.int (nI k)), some (.int (nI n))]) (st' := [.int (nI n)]) d_255_177 (fun _ => rfl) ?_
                        refine rr_nx (pc' := 180) (al' := [some (.ref 146), none, some (.int (nI 1)), some (.int (nI (FA n))), some (.int (nI w2.1.length)), some (.int (nI i)), some (.int (nI k)), some (.int (nI n))]) (st' := [.ref 146, .int (nI n)]) d_255_179 (fun _ => rfl) ?_
                        refine rr_gn d_255_180 mo_255 fl_127 rfl hc.1 ?_
                        refine rn_cge (t := 211) d_255_183 (by decide) (by first | omega | assumption | exact cu_36 (by omega) (cu_lt (by omega) (by omega))) (by first | omega | assumption | exact cu_36 (by omega) (cu_lt (by omega) (by omega))) (fun c183 => ?_) (fun c183 => ?_)
                        · refine rr_nx (pc' := 212) (al' := [some (.ref 146), none, some (.int (nI 1)), some (.int (nI (FA n))), some (.int (nI w2.1.length)), some (.int (nI i)), some (.int (nI k)), some (.int (nI n))]) (st' := [.ref 146]) d_255_211 (fun _ => rfl) ?_
                          refine rr_nx (pc' := 213) (al' := [some (.ref 146), none, some (.int (nI 1)), some (.int (nI (FA n))), some (.int (nI w2.1.length)), some (.int (nI i)), some (.int (nI k)), some (.int (nI n))]) (st' := [.ref 146, .ref 146]) d_255_212 (fun _ => rfl) ?_
                          refine rr_gf (v := .ref (147 + 13)) d_255_213 mo_255 fl_55 rfl ?_
                          refine rr_pv (as := [.ref (147 + 13)]) (al0 := [some (.ref 146), some (.ref (147 + 13)), none, none, none, none]) (r := []) d_255_216 mo_255 ml_308 mz_257 rfl rfl rfl (Nat.le_of_ble_eq_true rfl) (s_numberOf hc.1 hn6 (fun q hq => by rw [rf_u_s]; exact py q hq) hok (sc_per hn6 hl hrF (by omega))) ?_
                          show RR _ _ 219 [some (.ref 146), none, some (.int (nI 1)), some (.int (nI (FA n))), some (.int (nI w2.1.length)), some (.int (nI i)), some (.int (nI k)), some (.int (nI n))] [.int (nI (scN n c r k))] g (rf_u (rf_u w2.2 18 w171) 13 w13) _
                          refine rr_nx (pc' := 221) (al' := [some (.ref 146), none, some (.int (nI 1)), some (.int (nI (FA n))), some (.int (nI w2.1.length)), some (.int (nI i)), some (.int (nI k)), some (.int (nI (scN n c r k)))]) (st' := []) d_255_219 (fun _ => rfl) ?_
                          refine rr_nx (pc' := 222) (al' := [some (.ref 146), none, some (.int (nI 1)), some (.int (nI (FA n))), some (.int (nI w2.1.length)), some (.int (nI i)), some (.int (nI k)), some (.int (nI (scN n c r k)))]) (st' := [.ref 146]) d_255_221 (fun _ => rfl) ?_
                          refine rr_gf (v := .ref (147 + 15)) d_255_222 mo_255 fl_61 rfl ?_
                          refine rr_nx (pc' := 227) (al' := [some (.ref 146), none, some (.int (nI 1)), some (.int (nI (FA n))), some (.int (nI w2.1.length)), some (.int (nI i)), some (.int (nI k)), some (.int (nI (scN n c r k)))]) (st' := [.int (nI (scN n c r k)), .ref (147 + 15)]) d_255_225 (fun _ => rfl) ?_
                          refine rr_ba (j := 15) (v := (nI (if scN n c r k ∈ w2.1 then 1 else 0))) d_255_227 (by decide) (by decide) (by decide) (show scN n c r k < 720 by have := hok.1; omega) (pk.2.1.2 _ hok.1) ?_
                          refine rn_ieq (t := 234) d_255_228 (by decide) (by split <;> decide) (fun c228 => ?_) (fun c228 => ?_)
                          · have hno : scN n c r k ∉ w2.1 := fun e => by rw [if_pos e] at c228; cases c228
                            have hb2 := Bf_add hn6 hl pk.1 pk.2.2.2.2.1 (k := k) pk.2.2.2.2.2.2.2.2 hk (by omega) (by rw [pk.2.2.2.2.2.1]) hno
                            have hlen2 := Bf_len hb2
                            rw [List.length_append] at hlen2
                            simp only [List.length_singleton] at hlen2
                            refine rr_nx (pc' := 235) (al' := [some (.ref 146), none, some (.int (nI 1)), some (.int (nI (FA n))), some (.int (nI w2.1.length)), some (.int (nI i)), some (.int (nI k)), some (.int (nI (scN n c r k)))]) (st' := [.ref 146]) d_255_234 (fun _ => rfl) ?_
                            refine rr_gf (v := .ref (147 + 15)) d_255_235 mo_255 fl_61 rfl ?_
                            refine rr_nx (pc' := 240) (al' := [some (.ref 146), none, some (.int (nI 1)), some (.int (nI (FA n))), some (.int (nI w2.1.length)), some (.int (nI i)), some (.int (nI k)), some (.int (nI (scN n c r k)))]) (st' := [.int (nI (scN n c r k)), .ref (147 + 15)]) d_255_238 (fun _ => rfl) ?_
                            refine rn_ic (v := 1) d_255_240 (by decide) ?_
                            refine rr_zS (j := 15) (A1 := (rf_u (rf_u (rf_u w2.2 18 w171) 13 w13) 15 (upd (w2.2 15) (scN n c r k) (vp_nar .boolean (nI 1))))) d_255_241 (by decide) rfl (by decide) (show scN n c r k < 720 by have := hok.1; omega) rfl ?_
                            refine rr_nx (pc' := 243) (al' := [some (.ref 146), none, some (.int (nI 1)), some (.int (nI (FA n))), some (.int (nI w2.1.length)), some (.int (nI i)), some (.int (nI k)), some (.int (nI (scN n c r k)))]) (st' := [.ref 146]) d_255_242 (fun _ => rfl) ?_
                            refine rr_gf (v := .ref (147 + 16)) d_255_243 mo_255 fl_64 rfl ?_
                            refine rr_nx (pc' := 248) (al' := [some (.ref 146), none, some (.int (nI 1)), some (.int (nI (FA n))), some (.int (nI w2.1.length)), some (.int (nI i)), some (.int (nI k)), some (.int (nI (scN n c r k)))]) (st' := [.int (nI w2.1.length), .ref (147 + 16)]) d_255_246 (fun _ => rfl) ?_
                            refine rr_nx (pc' := 250) (al' := [some (.ref 146), none, some (.int (nI 1)), some (.int (nI (FA n))), some (.int (nI w2.1.length)), some (.int (nI i)), some (.int (nI k)), some (.int (nI (scN n c r k)))]) (st' := [.int (nI (scN n c r k)), .int (nI w2.1.length), .ref (147 + 16)]) d_255_248 (fun _ => rfl) ?_
                            refine rr_iS (j := 16) (A1 := (rf_u (rf_u (rf_u (rf_u w2.2 18 w171) 13 w13) 15 (upd (w2.2 15) (scN n c r k) (vp_nar .boolean (nI 1)))) 16 (upd (w2.2 16) w2.1.length (nI (scN n c r k))))) d_255_250 (by decide) rfl (by decide) (show w2.1.length < 720 by omega) rfl ?_
                            refine rn_inc d_255_251 rfl rfl ?_
                            show RR _ _ 254 [some (.ref 146), none, some (.int (nI 1)), some (.int (nI (FA n))), some (.int (nI (w2.1.length + 1))), some (.int (nI i)), some (.int (nI k)), some (.int (nI (scN n c r k)))] [] g (rf_u (rf_u (rf_u (rf_u w2.2 18 w171) 13 w13) 15 (upd (w2.2 15) (scN n c r k) (vp_nar .boolean (nI 1)))) 16 (upd (w2.2 16) w2.1.length (nI (scN n c r k)))) _
                            rw [show w2.1.length + 1 = (w2.1 ++ [scN n c r k]).length by rw [List.length_append]; rfl]
                            refine rn_inc d_255_254 rfl rfl ?_
                            show RR _ _ 257 [some (.ref 146), none, some (.int (nI 1)), some (.int (nI (FA n))), some (.int (nI ((w2.1 ++ [scN n c r k]).length))), some (.int (nI i)), some (.int (nI (k + 1))), some (.int (nI (scN n c r k)))] [] g (rf_u (rf_u (rf_u (rf_u w2.2 18 w171) 13 w13) 15 (upd (w2.2 15) (scN n c r k) (vp_nar .boolean (nI 1)))) 16 (upd (w2.2 16) w2.1.length (nI (scN n c r k)))) _
                            refine rr_nx (pc' := 146) (al' := [some (.ref 146), none, some (.int (nI 1)), some (.int (nI (FA n))), some (.int (nI ((w2.1 ++ [scN n c r k]).length))), some (.int (nI i)), some (.int (nI (k + 1))), some (.int (nI (scN n c r k)))]) (st' := []) d_255_257 (fun _ => rfl) ?_
                            refine rr_al (congrArg (fun z__ : Nat => ([some (.ref 146), none, some (.int (nI 1)), some (.int (nI (FA n))), some (.int (nI z__)), some (.int (nI i)), some (.int (nI (k + 1))), some (.int (nI (scN n c r k)))] : AL)) (show (w2.1 ++ [scN n c r k]).length = (w2.1 ++ [scN n c r k], (rf_u (rf_u (rf_u (rf_u w2.2 18 w171) 13 w13) 15 (upd (w2.2 15) (scN n c r k) (vp_nar .boolean (nI 1)))) 16 (upd (w2.2 16) w2.1.length (nI (scN n c r k))))).1.length by rfl)) ?_
                            refine rr_dr (al1 := [some (.ref 146), none, some (.int (nI 1)), some (.int (nI (FA n))), some (.int (nI ((w2.1 ++ [scN n c r k], (rf_u (rf_u (rf_u (rf_u w2.2 18 w171) 13 w13) 15 (upd (w2.2 15) (scN n c r k) (vp_nar .boolean (nI 1)))) 16 (upd (w2.2 16) w2.1.length (nI (scN n c r k))))).1.length))), some (.int (nI i)), some (.int (nI (k + 1))), none]) (le_s (le_s (le_s (le_s (le_s (le_s (le_s (le_d rfl (le_n))))))))) ?_
                            exact ihk (w2.1 ++ [scN n c r k], (rf_u (rf_u (rf_u (rf_u w2.2 18 w171) 13 w13) 15 (upd (w2.2 15) (scN n c r k) (vp_nar .boolean (nI 1)))) 16 (upd (w2.2 16) w2.1.length (nI (scN n c r k))))) (⟨hb2, pk.2.1.ad hno rfl (by dsimp only; rw [rf_u_n (by decide), rf_u_s, nar_b _ (by decide)]), pk.2.2.1, (((pk.2.2.2.1.u (by decide)).u (by decide)).u (by decide)).u (by decide), by dsimp only; rw [List.length_append]; omega, by dsimp only; rw [gD_app pk.2.2.2.2.1]; exact pk.2.2.2.2.2.1, fun z h1 h2 => by
                                dsimp only
                                rcases Nat.lt_succ_iff_lt_or_eq.mp h2 with e | e
                                · exact List.mem_append_left _ (pk.2.2.2.2.2.2.1 z h1 e)
                                · rw [e]; exact List.mem_append_right _ (List.mem_singleton.mpr rfl), fun q hq => pk.2.2.2.2.2.2.2.1 q hq, by omega⟩)
                          · have hin : scN n c r k ∈ w2.1 := by
                              by_cases e : scN n c r k ∈ w2.1
                              · exact e
                              · rw [if_neg e] at c228; cases c228
                            refine rr_nx (pc' := 254) (al' := [some (.ref 146), none, some (.int (nI 1)), some (.int (nI (FA n))), some (.int (nI w2.1.length)), some (.int (nI i)), some (.int (nI k)), some (.int (nI (scN n c r k)))]) (st' := []) d_255_231 (fun _ => rfl) ?_
                            refine rn_inc d_255_254 rfl rfl ?_
                            show RR _ _ 257 [some (.ref 146), none, some (.int (nI 1)), some (.int (nI (FA n))), some (.int (nI w2.1.length)), some (.int (nI i)), some (.int (nI (k + 1))), some (.int (nI (scN n c r k)))] [] g (rf_u (rf_u w2.2 18 w171) 13 w13) _
                            refine rr_nx (pc' := 146) (al' := [some (.ref 146), none, some (.int (nI 1)), some (.int (nI (FA n))), some (.int (nI w2.1.length)), some (.int (nI i)), some (.int (nI (k + 1))), some (.int (nI (scN n c r k)))]) (st' := []) d_255_257 (fun _ => rfl) ?_
                            refine rr_al (congrArg (fun z__ : Nat => ([some (.ref 146), none, some (.int (nI 1)), some (.int (nI (FA n))), some (.int (nI z__)), some (.int (nI i)), some (.int (nI (k + 1))), some (.int (nI (scN n c r k)))] : AL)) (show w2.1.length = (w2.1, (rf_u (rf_u w2.2 18 w171) 13 w13)).1.length by rfl)) ?_
                            refine rr_dr (al1 := [some (.ref 146), none, some (.int (nI 1)), some (.int (nI (FA n))), some (.int (nI ((w2.1, (rf_u (rf_u w2.2 18 w171) 13 w13)).1.length))), some (.int (nI i)), some (.int (nI (k + 1))), none]) (le_s (le_s (le_s (le_s (le_s (le_s (le_s (le_d rfl (le_n))))))))) ?_
                            exact ihk (w2.1, (rf_u (rf_u w2.2 18 w171) 13 w13)) (⟨pk.1, pk.2.1.cg rfl rfl, pk.2.2.1, (pk.2.2.2.1.u (by decide)).u (by decide), pk.2.2.2.2.1, pk.2.2.2.2.2.1, fun z h1 h2 => by
                                rcases Nat.lt_succ_iff_lt_or_eq.mp h2 with e | e
                                · exact pk.2.2.2.2.2.2.1 z h1 e
                                · rw [e]; exact hin, fun q hq => pk.2.2.2.2.2.2.2.1 q hq, by omega⟩)
                        · omega
                  · omega
                · show RR _ _ 146 [some (.ref 146), none, some (.int (nI 1)), some (.int (nI (FA n))), some (.int (nI w2.1.length)), some (.int (nI i)), some (.int (nI (2 * n))), none] [] g w2.2 _
                  have hlen := Bf_len pk.1
                  refine rr_nx (pc' := 148) (al' := [some (.ref 146), none, some (.int (nI 1)), some (.int (nI (FA n))), some (.int (nI w2.1.length)), some (.int (nI i)), some (.int (nI (2 * n))), none]) (st' := [.int (nI (2 * n))]) d_255_146 (fun _ => rfl) ?_
                  refine rr_nx (pc' := 149) (al' := [some (.ref 146), none, some (.int (nI 1)), some (.int (nI (FA n))), some (.int (nI w2.1.length)), some (.int (nI i)), some (.int (nI (2 * n))), none]) (st' := [.int (nI 1), .int (nI (2 * n))]) d_255_148 (fun _ => rfl) ?_
                  refine rn_ine (t := 159) d_255_149 (by decide) (by first | omega | assumption | exact cu_36 (by omega) (cu_lt (by omega) (by omega))) (fun c149 => ?_) (fun c149 => ?_)
                  · refine rn_ic (v := 2) d_255_159 (by decide) ?_
                    refine rr_nx (pc' := 161) (al' := [some (.ref 146), none, some (.int (nI 1)), some (.int (nI (FA n))), some (.int (nI w2.1.length)), some (.int (nI i)), some (.int (nI (2 * n))), none]) (st' := [.ref 146, .int (nI 2), .int (nI (2 * n))]) d_255_160 (fun _ => rfl) ?_
                    refine rr_gn d_255_161 mo_255 fl_127 rfl hc.1 ?_
                    refine rn_mul d_255_164  ?_
                    refine rn_cge (t := 260) d_255_165 (by decide) (by first | omega | assumption | exact cu_36 (by omega) (cu_lt (by omega) (by omega))) (by first | omega | assumption | exact cu_36 (by omega) (cu_lt (by omega) (by omega))) (fun c165 => ?_) (fun c165 => ?_)
                    · refine rn_inc d_255_260 rfl rfl ?_
                      show RR _ _ 263 [some (.ref 146), none, some (.int (nI 1)), some (.int (nI (FA n))), some (.int (nI w2.1.length)), some (.int (nI (i + 1))), some (.int (nI (2 * n))), none] [] g w2.2 _
                      refine rr_nx (pc' := 77) (al' := [some (.ref 146), none, some (.int (nI 1)), some (.int (nI (FA n))), some (.int (nI w2.1.length)), some (.int (nI (i + 1))), some (.int (nI (2 * n))), none]) (st' := []) d_255_263 (fun _ => rfl) ?_
                      refine rr_al (congrArg (fun z__ : Nat => ([some (.ref 146), none, some (.int (nI 1)), some (.int (nI (FA n))), some (.int (nI z__)), some (.int (nI (i + 1))), some (.int (nI (2 * n))), none] : AL)) (show w2.1.length = (w2.1, w2.2).1.length by rfl)) ?_
                      refine rr_dr (al1 := [some (.ref 146), none, some (.int (nI 1)), some (.int (nI (FA n))), some (.int (nI ((w2.1, w2.2).1.length))), some (.int (nI (i + 1))), none, none]) (le_s (le_s (le_s (le_s (le_s (le_s (le_d rfl (le_s (le_n))))))))) ?_
                      exact ihi (w2.1, w2.2) (⟨Bf_nx pk.1 pk.2.2.2.2.1 (fun k h1 h2 => by rw [pk.2.2.2.2.2.1]; exact pk.2.2.2.2.2.2.1 k h1 h2), pk.2.1, pk.2.2.1, pk.2.2.2.1⟩)
                    · omega
                  · omega
            · omega
      · show RR _ _ 77 [some (.ref 146), none, some (.int (nI 1)), some (.int (nI (FA n))), some (.int (nI w_.1.length)), some (.int (nI (FA n))), none, none] [] g w_.2 _
        have hlen := Bf_len pi.1
        refine rr_nx (pc' := 79) (al' := [some (.ref 146), none, some (.int (nI 1)), some (.int (nI (FA n))), some (.int (nI w_.1.length)), some (.int (nI (FA n))), none, none]) (st' := [.int (nI (FA n))]) d_255_77 (fun _ => rfl) ?_
        refine rr_nx (pc' := 81) (al' := [some (.ref 146), none, some (.int (nI 1)), some (.int (nI (FA n))), some (.int (nI w_.1.length)), some (.int (nI (FA n))), none, none]) (st' := [.int (nI w_.1.length), .int (nI (FA n))]) d_255_79 (fun _ => rfl) ?_
        refine rn_cge (t := 266) d_255_81 (by decide) (by first | omega | assumption | exact cu_36 (by omega) (cu_lt (by omega) (by omega))) (by first | omega | assumption | exact cu_36 (by omega) (cu_lt (by omega) (by omega))) (fun c81 => ?_) (fun c81 => ?_)
        · refine rr_nx (pc' := 268) (al' := [some (.ref 146), none, some (.int (nI 1)), some (.int (nI (FA n))), some (.int (nI w_.1.length)), some (.int (nI (FA n))), none, none]) (st' := [.int (nI w_.1.length)]) d_255_266 (fun _ => rfl) ?_
          exact rr_ri d_255_268 mr_255 rfl ⟨w_.1, FA n, pi.1, by omega, rfl, Gsm.rf, pi.2.2.2⟩
        · omega
    · omega
theorem s_group2 {g : Nat → Int32} {A : Nat → Nat → Int32} {n : Nat} {c : Nat → Nat} (hc : Cur g A n c) (hl : Lat n c) : RR 2 255 24 [some (.ref 146), none, some (.int (nI 2)), none, none, none, none, none] [] g A (fun r_ g' A' => ∃ l i, BfI n c 0 (2 * n) i l ∧ l.length ≤ i ∧ r_ = some (.int (nI l.length)) ∧ Gsm g g' ∧ Ksm A A') := by
  have hn6 := hc.2.1
  have h720 := FA_720 hn6
  have hfp := FA_pos n
  refine rr_nx (pc' := 25) (al' := [some (.ref 146), none, some (.int (nI 2)), none, none, none, none, none]) (st' := [.ref 146]) d_255_24 (fun _ => rfl) ?_
  refine rr_gn d_255_25 mo_255 fl_127 rfl hc.1 ?_
  refine rr_ps (as := [.int (nI n)]) (al0 := [some (.int (nI n)), none, none]) (r := []) d_255_28 mo_255 ml_270 mz_233 rfl rfl rfl (Nat.le_of_ble_eq_true rfl) (s_factorial (by omega)) ?_
  show RR _ _ 31 [some (.ref 146), none, some (.int (nI 2)), none, none, none, none, none] [.int (nI (FA n))] g A _
  refine rr_nx (pc' := 32) (al' := [some (.ref 146), none, some (.int (nI 2)), some (.int (nI (FA n))), none, none, none, none]) (st' := []) d_255_31 (fun _ => rfl) ?_
  refine rn_ic (v := 0) d_255_32 (by decide) ?_
  refine rr_nx (pc' := 35) (al' := [some (.ref 146), none, some (.int (nI 2)), some (.int (nI (FA n))), some (.int (nI 0)), none, none, none]) (st' := []) d_255_33 (fun _ => rfl) ?_
  refine rr_A (show A = (rf_u A 15 (A 15)) by rw [rf_u_id]) ?_
  refine rr_upw (al := fun z w_ => [some (.ref 146), none, some (.int (nI 2)), some (.int (nI (FA n))), some (.int (nI z)), none, none, none]) (G := fun z w_ => g) (B := fun z w_ => (rf_u A 15 w_)) (P := fun z w_ => ∀ q, q < z → w_ q = nI (if q ∈ [0] then 1 else 0)) (n := FA n) (fun z w_ hz pz ihz => ?_) (fun w_ pz => ?_) 0 (A 15) (by omega) (all_0)
  · show RR _ _ 35 [some (.ref 146), none, some (.int (nI 2)), some (.int (nI (FA n))), some (.int (nI z)), none, none, none] [] g (rf_u A 15 w_) _
    refine rr_nx (pc' := 37) (al' := [some (.ref 146), none, some (.int (nI 2)), some (.int (nI (FA n))), some (.int (nI z)), none, none, none]) (st' := [.int (nI z)]) d_255_35 (fun _ => rfl) ?_
    refine rr_nx (pc' := 38) (al' := [some (.ref 146), none, some (.int (nI 2)), some (.int (nI (FA n))), some (.int (nI z)), none, none, none]) (st' := [.int (nI (FA n)), .int (nI z)]) d_255_37 (fun _ => rfl) ?_
    refine rn_cge (t := 64) d_255_38 (by decide) (by first | omega | assumption | exact cu_36 (by omega) (cu_lt (by omega) (by omega))) (by first | omega | assumption | exact cu_36 (by omega) (cu_lt (by omega) (by omega))) (fun c38 => ?_) (fun c38 => ?_)
    · omega
    · refine rr_nx (pc' := 42) (al' := [some (.ref 146), none, some (.int (nI 2)), some (.int (nI (FA n))), some (.int (nI z)), none, none, none]) (st' := [.ref 146]) d_255_41 (fun _ => rfl) ?_
      refine rr_gf (v := .ref (147 + 15)) d_255_42 mo_255 fl_61 rfl ?_
      refine rr_nx (pc' := 47) (al' := [some (.ref 146), none, some (.int (nI 2)), some (.int (nI (FA n))), some (.int (nI z)), none, none, none]) (st' := [.int (nI z), .ref (147 + 15)]) d_255_45 (fun _ => rfl) ?_
      refine rr_nx (pc' := 49) (al' := [some (.ref 146), none, some (.int (nI 2)), some (.int (nI (FA n))), some (.int (nI z)), none, none, none]) (st' := [.int (nI z), .int (nI z), .ref (147 + 15)]) d_255_47 (fun _ => rfl) ?_
      refine rn_ine (t := 56) d_255_49 (by decide) (by first | omega | assumption | exact cu_36 (by omega) (cu_lt (by omega) (by omega))) (fun c49 => ?_) (fun c49 => ?_)
      · refine rn_ic (v := 0) d_255_56 (by decide) ?_
        refine rr_zS (j := 15) (A1 := (rf_u A 15 (upd w_ z (vp_nar .boolean (nI 0))))) d_255_57 (by decide) rfl (by decide) (show z < 720 by first | omega | assumption | exact cu_36 (by omega) (cu_lt (by omega) (by omega))) rf_uw ?_
        refine rn_inc d_255_58 rfl rfl ?_
        show RR _ _ 61 [some (.ref 146), none, some (.int (nI 2)), some (.int (nI (FA n))), some (.int (nI (z + 1))), none, none, none] [] g (rf_u A 15 (upd w_ z (vp_nar .boolean (nI 0)))) _
        refine rr_nx (pc' := 35) (al' := [some (.ref 146), none, some (.int (nI 2)), some (.int (nI (FA n))), some (.int (nI (z + 1))), none, none, none]) (st' := []) d_255_61 (fun _ => rfl) ?_
        exact ihz (upd w_ z (vp_nar .boolean (nI 0))) (up_all (f := fun q => nI (if q ∈ [0] then 1 else 0)) pz (by rw [nar_b _ (by decide)]; first | rw [if_pos (by simp; omega)] | rw [if_neg (by simp; omega)]))
      · refine rn_ic (v := 1) d_255_52 (by decide) ?_
        refine rr_nx (pc' := 57) (al' := [some (.ref 146), none, some (.int (nI 2)), some (.int (nI (FA n))), some (.int (nI z)), none, none, none]) (st' := [.int (nI 1), .int (nI z), .ref (147 + 15)]) d_255_53 (fun _ => rfl) ?_
        refine rr_zS (j := 15) (A1 := (rf_u A 15 (upd w_ z (vp_nar .boolean (nI 1))))) d_255_57 (by decide) rfl (by decide) (show z < 720 by first | omega | assumption | exact cu_36 (by omega) (cu_lt (by omega) (by omega))) rf_uw ?_
        refine rn_inc d_255_58 rfl rfl ?_
        show RR _ _ 61 [some (.ref 146), none, some (.int (nI 2)), some (.int (nI (FA n))), some (.int (nI (z + 1))), none, none, none] [] g (rf_u A 15 (upd w_ z (vp_nar .boolean (nI 1)))) _
        refine rr_nx (pc' := 35) (al' := [some (.ref 146), none, some (.int (nI 2)), some (.int (nI (FA n))), some (.int (nI (z + 1))), none, none, none]) (st' := []) d_255_61 (fun _ => rfl) ?_
        exact ihz (upd w_ z (vp_nar .boolean (nI 1))) (up_all (f := fun q => nI (if q ∈ [0] then 1 else 0)) pz (by rw [nar_b _ (by decide)]; first | rw [if_pos (by simp; omega)] | rw [if_neg (by simp; omega)]))
  · show RR _ _ 35 [some (.ref 146), none, some (.int (nI 2)), some (.int (nI (FA n))), some (.int (nI (FA n))), none, none, none] [] g (rf_u A 15 w_) _
    refine rr_nx (pc' := 37) (al' := [some (.ref 146), none, some (.int (nI 2)), some (.int (nI (FA n))), some (.int (nI (FA n))), none, none, none]) (st' := [.int (nI (FA n))]) d_255_35 (fun _ => rfl) ?_
    refine rr_nx (pc' := 38) (al' := [some (.ref 146), none, some (.int (nI 2)), some (.int (nI (FA n))), some (.int (nI (FA n))), none, none, none]) (st' := [.int (nI (FA n)), .int (nI (FA n))]) d_255_37 (fun _ => rfl) ?_
    refine rn_cge (t := 64) d_255_38 (by decide) (by first | omega | assumption | exact cu_36 (by omega) (cu_lt (by omega) (by omega))) (by first | omega | assumption | exact cu_36 (by omega) (cu_lt (by omega) (by omega))) (fun c38 => ?_) (fun c38 => ?_)
    · refine rr_nx (pc' := 65) (al' := [some (.ref 146), none, some (.int (nI 2)), some (.int (nI (FA n))), some (.int (nI (FA n))), none, none, none]) (st' := [.ref 146]) d_255_64 (fun _ => rfl) ?_
      refine rr_gf (v := .ref (147 + 16)) d_255_65 mo_255 fl_64 rfl ?_
      refine rn_ic (v := 0) d_255_68 (by decide) ?_
      refine rn_ic (v := 0) d_255_69 (by decide) ?_
      refine rr_iS (j := 16) (A1 := (rf_u (rf_u A 15 w_) 16 (upd (A 16) 0 (nI 0)))) d_255_70 (by decide) rfl (by decide) (show 0 < 720 by first | omega | assumption | exact cu_36 (by omega) (cu_lt (by omega) (by omega))) rfl ?_
      refine rn_ic (v := 1) d_255_71 (by decide) ?_
      refine rr_nx (pc' := 74) (al' := [some (.ref 146), none, some (.int (nI 2)), some (.int (nI (FA n))), some (.int (nI 1)), none, none, none]) (st' := []) d_255_72 (fun _ => rfl) ?_
      refine rn_ic (v := 0) d_255_74 (by decide) ?_
      refine rr_nx (pc' := 77) (al' := [some (.ref 146), none, some (.int (nI 2)), some (.int (nI (FA n))), some (.int (nI 1)), some (.int (nI 0)), none, none]) (st' := []) d_255_75 (fun _ => rfl) ?_
      refine rr_al (congrArg (fun z__ : Nat => ([some (.ref 146), none, some (.int (nI 2)), some (.int (nI (FA n))), some (.int (nI z__)), some (.int (nI 0)), none, none] : AL)) (show 1 = ([0], (rf_u (rf_u A 15 w_) 16 (upd (A 16) 0 (nI 0)))).1.length by rfl)) ?_
      refine rr_upw (al := fun i w_ => [some (.ref 146), none, some (.int (nI 2)), some (.int (nI (FA n))), some (.int (nI w_.1.length)), some (.int (nI i)), none, none]) (G := fun i w_ => g) (B := fun i w_ => w_.2) (P := fun i w_ => BfI n c 0 (2 * n) i w_.1 ∧ GrR n w_.2 w_.1 ∧ w_.2 4 = A 4 ∧ Ksm A w_.2) (n := FA n) (fun i w_ hi pi ihi => ?_) (fun w_ pi => ?_) 0 ([0], (rf_u (rf_u A 15 w_) 16 (upd (A 16) 0 (nI 0)))) (by omega) (⟨Bf_0, ⟨fun j hj => by dsimp only at hj ⊢; rw [rf_u_s, show j = 0 by simp at hj; exact hj, pk_us]; rfl, fun q hq => by dsimp only; rw [rf_u_n (by decide), rf_u_s]; exact pz q hq⟩, rfl, (Ksm.rf.u (by decide)).u (by decide)⟩)
      · show RR _ _ 77 [some (.ref 146), none, some (.int (nI 2)), some (.int (nI (FA n))), some (.int (nI w_.1.length)), some (.int (nI i)), none, none] [] g w_.2 _
        have hlen := Bf_len pi.1
        refine rr_nx (pc' := 79) (al' := [some (.ref 146), none, some (.int (nI 2)), some (.int (nI (FA n))), some (.int (nI w_.1.length)), some (.int (nI i)), none, none]) (st' := [.int (nI i)]) d_255_77 (fun _ => rfl) ?_
        refine rr_nx (pc' := 81) (al' := [some (.ref 146), none, some (.int (nI 2)), some (.int (nI (FA n))), some (.int (nI w_.1.length)), some (.int (nI i)), none, none]) (st' := [.int (nI w_.1.length), .int (nI i)]) d_255_79 (fun _ => rfl) ?_
        refine rn_cge (t := 266) d_255_81 (by decide) (by first | omega | assumption | exact cu_36 (by omega) (cu_lt (by omega) (by omega))) (by first | omega | assumption | exact cu_36 (by omega) (cu_lt (by omega) (by omega))) (fun c81 => ?_) (fun c81 => ?_)
        · refine rr_nx (pc' := 268) (al' := [some (.ref 146), none, some (.int (nI 2)), some (.int (nI (FA n))), some (.int (nI w_.1.length)), some (.int (nI i)), none, none]) (st' := [.int (nI w_.1.length)]) d_255_266 (fun _ => rfl) ?_
          exact rr_ri d_255_268 mr_255 rfl ⟨w_.1, i, pi.1, by omega, rfl, Gsm.rf, pi.2.2.2⟩
        · obtain ⟨r, hr⟩ : ∃ r, w_.1.getD i 0 = r := ⟨_, rfl⟩
          have hrF : r < FA n := by rw [← hr]; exact pi.1.2.1 _ (gD_mem c81)
          refine rr_nx (pc' := 85) (al' := [some (.ref 146), none, some (.int (nI 2)), some (.int (nI (FA n))), some (.int (nI w_.1.length)), some (.int (nI i)), none, none]) (st' := [.ref 146]) d_255_84 (fun _ => rfl) ?_
          refine rr_nx (pc' := 86) (al' := [some (.ref 146), none, some (.int (nI 2)), some (.int (nI (FA n))), some (.int (nI w_.1.length)), some (.int (nI i)), none, none]) (st' := [.ref 146, .ref 146]) d_255_85 (fun _ => rfl) ?_
          refine rr_gf (v := .ref (147 + 16)) d_255_86 mo_255 fl_64 rfl ?_
          refine rr_nx (pc' := 91) (al' := [some (.ref 146), none, some (.int (nI 2)), some (.int (nI (FA n))), some (.int (nI w_.1.length)), some (.int (nI i)), none, none]) (st' := [.int (nI i), .ref (147 + 16), .ref 146]) d_255_89 (fun _ => rfl) ?_
          refine rr_ia (j := 16) (v := (nI r)) d_255_91 (by decide) rfl (by decide) (show i < 720 by omega) (by rw [pi.2.1.1 i c81, hr]) ?_
          refine rr_nx (pc' := 93) (al' := [some (.ref 146), none, some (.int (nI 2)), some (.int (nI (FA n))), some (.int (nI w_.1.length)), some (.int (nI i)), none, none]) (st' := [.ref 146, .int (nI r), .ref 146]) d_255_92 (fun _ => rfl) ?_
          refine rr_gn d_255_93 mo_255 fl_127 rfl hc.1 ?_
          refine rr_cv (as := [.int (nI r), .int (nI n)]) (al0 := [some (.ref 146), some (.int (nI r)), some (.int (nI n)), none, none, none, none, none, none]) (r := []) d_255_96 mo_255 ml_273 mz_234 rfl rfl rfl (rr_wk (Nat.le_of_ble_eq_true rfl) (s_permutes (n := n) (r := r) (by omega) (by exact hrF))) (fun v1 g1 A1 h1 => ?_)
          obtain ⟨q0_, q1_, w96, q9_, hw96⟩ := h1
          obtain rfl := q0_
          obtain rfl := q1_.symm
          obtain rfl := q9_
          show RR _ _ 99 [some (.ref 146), none, some (.int (nI 2)), some (.int (nI (FA n))), some (.int (nI w_.1.length)), some (.int (nI i)), none, none] [] g (rf_u w_.2 13 w96) _
          refine rn_ic (v := 0) d_255_99 (by decide) ?_
          refine rr_nx (pc' := 102) (al' := [some (.ref 146), none, some (.int (nI 2)), some (.int (nI (FA n))), some (.int (nI w_.1.length)), some (.int (nI i)), some (.int (nI 0)), none]) (st' := []) d_255_100 (fun _ => rfl) ?_
          refine rr_A (show (rf_u w_.2 13 w96) = (rf_u (rf_u w_.2 13 w96) 17 (w_.2 17)) by exact rf_idn (by decide)) ?_
          refine rr_upw (al := fun x w17 => [some (.ref 146), none, some (.int (nI 2)), some (.int (nI (FA n))), some (.int (nI w_.1.length)), some (.int (nI i)), some (.int (nI x)), none]) (G := fun x w17 => g) (B := fun x w17 => (rf_u (rf_u w_.2 13 w96) 17 w17)) (P := fun x w17 => ∀ q, q < x → w17 q = nI (pmE n r q)) (n := n) (fun x w17 hx px ihx => ?_) (fun w17 px => ?_) 0 (w_.2 17) (by omega) (all_0)
          · show RR _ _ 102 [some (.ref 146), none, some (.int (nI 2)), some (.int (nI (FA n))), some (.int (nI w_.1.length)), some (.int (nI i)), some (.int (nI x)), none] [] g (rf_u (rf_u w_.2 13 w96) 17 w17) _
            refine rr_nx (pc' := 104) (al' := [some (.ref 146), none, some (.int (nI 2)), some (.int (nI (FA n))), some (.int (nI w_.1.length)), some (.int (nI i)), some (.int (nI x)), none]) (st' := [.int (nI x)]) d_255_102 (fun _ => rfl) ?_
            refine rr_nx (pc' := 105) (al' := [some (.ref 146), none, some (.int (nI 2)), some (.int (nI (FA n))), some (.int (nI w_.1.length)), some (.int (nI i)), some (.int (nI x)), none]) (st' := [.ref 146, .int (nI x)]) d_255_104 (fun _ => rfl) ?_
            refine rr_gn d_255_105 mo_255 fl_127 rfl hc.1 ?_
            refine rn_cge (t := 131) d_255_108 (by decide) (by first | omega | assumption | exact cu_36 (by omega) (cu_lt (by omega) (by omega))) (by first | omega | assumption | exact cu_36 (by omega) (cu_lt (by omega) (by omega))) (fun c108 => ?_) (fun c108 => ?_)
            · omega
            · refine rr_nx (pc' := 112) (al' := [some (.ref 146), none, some (.int (nI 2)), some (.int (nI (FA n))), some (.int (nI w_.1.length)), some (.int (nI i)), some (.int (nI x)), none]) (st' := [.ref 146]) d_255_111 (fun _ => rfl) ?_
              refine rr_gf (v := .ref (147 + 17)) d_255_112 mo_255 fl_67 rfl ?_
              refine rr_nx (pc' := 117) (al' := [some (.ref 146), none, some (.int (nI 2)), some (.int (nI (FA n))), some (.int (nI w_.1.length)), some (.int (nI i)), some (.int (nI x)), none]) (st' := [.int (nI x), .ref (147 + 17)]) d_255_115 (fun _ => rfl) ?_
              refine rr_nx (pc' := 118) (al' := [some (.ref 146), none, some (.int (nI 2)), some (.int (nI (FA n))), some (.int (nI w_.1.length)), some (.int (nI i)), some (.int (nI x)), none]) (st' := [.ref 146, .int (nI x), .ref (147 + 17)]) d_255_117 (fun _ => rfl) ?_
              refine rr_gf (v := .ref (147 + 13)) d_255_118 mo_255 fl_55 rfl ?_
              refine rr_nx (pc' := 123) (al' := [some (.ref 146), none, some (.int (nI 2)), some (.int (nI (FA n))), some (.int (nI w_.1.length)), some (.int (nI i)), some (.int (nI x)), none]) (st' := [.int (nI x), .ref (147 + 13), .int (nI x), .ref (147 + 17)]) d_255_121 (fun _ => rfl) ?_
              refine rr_ia (j := 13) (v := (nI (pmE n r x))) d_255_123 (by decide) rfl (by decide) (show x < 6 by first | omega | assumption | exact cu_36 (by omega) (cu_lt (by omega) (by omega))) (hw96 x hx) ?_
              refine rr_iS (j := 17) (A1 := (rf_u (rf_u w_.2 13 w96) 17 (upd w17 x (nI (pmE n r x))))) d_255_124 (by decide) rfl (by decide) (show x < 6 by first | omega | assumption | exact cu_36 (by omega) (cu_lt (by omega) (by omega))) rf_uw ?_
              refine rn_inc d_255_125 rfl rfl ?_
              show RR _ _ 128 [some (.ref 146), none, some (.int (nI 2)), some (.int (nI (FA n))), some (.int (nI w_.1.length)), some (.int (nI i)), some (.int (nI (x + 1))), none] [] g (rf_u (rf_u w_.2 13 w96) 17 (upd w17 x (nI (pmE n r x)))) _
              refine rr_nx (pc' := 102) (al' := [some (.ref 146), none, some (.int (nI 2)), some (.int (nI (FA n))), some (.int (nI w_.1.length)), some (.int (nI i)), some (.int (nI (x + 1))), none]) (st' := []) d_255_128 (fun _ => rfl) ?_
              exact ihx (upd w17 x (nI (pmE n r x))) (up_all (f := fun q => nI (pmE n r q)) px rfl)
          · show RR _ _ 102 [some (.ref 146), none, some (.int (nI 2)), some (.int (nI (FA n))), some (.int (nI w_.1.length)), some (.int (nI i)), some (.int (nI n)), none] [] g (rf_u (rf_u w_.2 13 w96) 17 w17) _
            refine rr_nx (pc' := 104) (al' := [some (.ref 146), none, some (.int (nI 2)), some (.int (nI (FA n))), some (.int (nI w_.1.length)), some (.int (nI i)), some (.int (nI n)), none]) (st' := [.int (nI n)]) d_255_102 (fun _ => rfl) ?_
            refine rr_nx (pc' := 105) (al' := [some (.ref 146), none, some (.int (nI 2)), some (.int (nI (FA n))), some (.int (nI w_.1.length)), some (.int (nI i)), some (.int (nI n)), none]) (st' := [.ref 146, .int (nI n)]) d_255_104 (fun _ => rfl) ?_
            refine rr_gn d_255_105 mo_255 fl_127 rfl hc.1 ?_
            refine rn_cge (t := 131) d_255_108 (by decide) (by first | omega | assumption | exact cu_36 (by omega) (cu_lt (by omega) (by omega))) (by first | omega | assumption | exact cu_36 (by omega) (cu_lt (by omega) (by omega))) (fun c108 => ?_) (fun c108 => ?_)
            · refine rr_nx (pc' := 132) (al' := [some (.ref 146), none, some (.int (nI 2)), some (.int (nI (FA n))), some (.int (nI w_.1.length)), some (.int (nI i)), some (.int (nI n)), none]) (st' := [.int (nI 2)]) d_255_131 (fun _ => rfl) ?_
              refine rn_ic (v := 1) d_255_132 (by decide) ?_
              refine rn_cne (t := 143) d_255_133 (by decide) (by first | omega | assumption | exact cu_36 (by omega) (cu_lt (by omega) (by omega))) (by first | omega | assumption | exact cu_36 (by omega) (cu_lt (by omega) (by omega))) (fun c133 => ?_) (fun c133 => ?_)
              · refine rn_ic (v := 0) d_255_143 (by decide) ?_
                refine rr_nx (pc' := 146) (al' := [some (.ref 146), none, some (.int (nI 2)), some (.int (nI (FA n))), some (.int (nI w_.1.length)), some (.int (nI i)), some (.int (nI 0)), none]) (st' := []) d_255_144 (fun _ => rfl) ?_
                refine rr_al (congrArg (fun z__ : Nat => ([some (.ref 146), none, some (.int (nI 2)), some (.int (nI (FA n))), some (.int (nI z__)), some (.int (nI i)), some (.int (nI 0)), none] : AL)) (show w_.1.length = (w_.1, (rf_u (rf_u w_.2 13 w96) 17 w17)).1.length by rfl)) ?_
                refine rr_upw (al := fun k w2 => [some (.ref 146), none, some (.int (nI 2)), some (.int (nI (FA n))), some (.int (nI w2.1.length)), some (.int (nI i)), some (.int (nI k)), none]) (G := fun k w2 => g) (B := fun k w2 => w2.2) (P := fun k w2 => BfI n c 0 (2 * n) i w2.1 ∧ GrR n w2.2 w2.1 ∧ w2.2 4 = A 4 ∧ Ksm A w2.2 ∧ i < w2.1.length ∧ w2.1.getD i 0 = r ∧ (∀ z, 0 ≤ z → z < k → scN n c r z ∈ w2.1) ∧ (∀ q, q < n → w2.2 17 q = nI (pmE n r q)) ∧ 0 ≤ k) (n := 2 * n) (fun k w2 hk pk ihk => ?_) (fun w2 pk => ?_) 0 (w_.1, (rf_u (rf_u w_.2 13 w96) 17 w17)) (by omega) (⟨pi.1, pi.2.1.cg rfl rfl, pi.2.2.1, (pi.2.2.2.u (by decide)).u (by decide), c81, hr, fun k h1 h2 => by omega, fun q hq => by dsimp only; rw [rf_u_s]; exact px q hq, Nat.le_refl _⟩)
                · show RR _ _ 146 [some (.ref 146), none, some (.int (nI 2)), some (.int (nI (FA n))), some (.int (nI w2.1.length)), some (.int (nI i)), some (.int (nI k)), none] [] g w2.2 _
                  have hlen := Bf_len pk.1
                  have hok := sc_ok (k := k) hn6 hl hrF (by omega)
                  have hcc : Cur g w2.2 n c := ⟨hc.1, hn6, fun q hq => by rw [pk.2.2.1]; exact hc.2.2 q hq⟩
                  refine rr_nx (pc' := 148) (al' := [some (.ref 146), none, some (.int (nI 2)), some (.int (nI (FA n))), some (.int (nI w2.1.length)), some (.int (nI i)), some (.int (nI k)), none]) (st' := [.int (nI k)]) d_255_146 (fun _ => rfl) ?_
                  refine rr_nx (pc' := 149) (al' := [some (.ref 146), none, some (.int (nI 2)), some (.int (nI (FA n))), some (.int (nI w2.1.length)), some (.int (nI i)), some (.int (nI k)), none]) (st' := [.int (nI 2), .int (nI k)]) d_255_148 (fun _ => rfl) ?_
                  refine rn_ine (t := 159) d_255_149 (by decide) (by first | omega | assumption | exact cu_36 (by omega) (cu_lt (by omega) (by omega))) (fun c149 => ?_) (fun c149 => ?_)
                  · refine rn_ic (v := 2) d_255_159 (by decide) ?_
                    refine rr_nx (pc' := 161) (al' := [some (.ref 146), none, some (.int (nI 2)), some (.int (nI (FA n))), some (.int (nI w2.1.length)), some (.int (nI i)), some (.int (nI k)), none]) (st' := [.ref 146, .int (nI 2), .int (nI k)]) d_255_160 (fun _ => rfl) ?_
                    refine rr_gn d_255_161 mo_255 fl_127 rfl hc.1 ?_
                    refine rn_mul d_255_164  ?_
                    refine rn_cge (t := 260) d_255_165 (by decide) (by first | omega | assumption | exact cu_36 (by omega) (cu_lt (by omega) (by omega))) (by first | omega | assumption | exact cu_36 (by omega) (cu_lt (by omega) (by omega))) (fun c165 => ?_) (fun c165 => ?_)
                    · omega
                    · refine rr_nx (pc' := 169) (al' := [some (.ref 146), none, some (.int (nI 2)), some (.int (nI (FA n))), some (.int (nI w2.1.length)), some (.int (nI i)), some (.int (nI k)), none]) (st' := [.ref 146]) d_255_168 (fun _ => rfl) ?_
                      refine rr_nx (pc' := 171) (al' := [some (.ref 146), none, some (.int (nI 2)), some (.int (nI (FA n))), some (.int (nI w2.1.length)), some (.int (nI i)), some (.int (nI k)), none]) (st' := [.int (nI k), .ref 146]) d_255_169 (fun _ => rfl) ?_
                      refine rr_cv (as := [.int (nI k)]) (al0 := [some (.ref 146), some (.int (nI k)), none]) (r := []) d_255_171 mo_255 ml_305 mz_256 rfl rfl rfl (rr_wk (Nat.le_of_ble_eq_true rfl) (s_maker hcc (by omega))) (fun v1 g1 A1 h1 => ?_)
                      obtain ⟨q0_, q1_, w171, q9_, hw171⟩ := h1
                      obtain rfl := q0_
                      obtain rfl := q1_.symm
                      obtain rfl := q9_
                      show RR _ _ 174 [some (.ref 146), none, some (.int (nI 2)), some (.int (nI (FA n))), some (.int (nI w2.1.length)), some (.int (nI i)), some (.int (nI k)), none] [] g (rf_u w2.2 18 w171) _
                      refine rn_ic (v := 0) d_255_174 (by decide) ?_
                      refine rr_nx (pc' := 177) (al' := [some (.ref 146), none, some (.int (nI 2)), some (.int (nI (FA n))), some (.int (nI w2.1.length)), some (.int (nI i)), some (.int (nI k)), some (.int (nI 0))]) (st' := []) d_255_175 (fun _ => rfl) ?_
                      refine rr_A (show (rf_u w2.2 18 w171) = (rf_u (rf_u w2.2 18 w171) 13 (w2.2 13)) by exact rf_idn (by decide)) ?_
                      refine rr_upw (al := fun y w13 => [some (.ref 146), none, some (.int (nI 2)), some (.int (nI (FA n))), some (.int (nI w2.1.length)), some (.int (nI i)), some (.int (nI k)), some (.int (nI y))]) (G := fun y w13 => g) (B := fun y w13 => (rf_u (rf_u w2.2 18 w171) 13 w13)) (P := fun y w13 => ∀ q, q < y → w13 q = nI (mkG n c k (pmE n r q))) (n := n) (fun y w13 hy py ihy => ?_) (fun w13 py => ?_) 0 (w2.2 13) (by omega) (all_0)
                      · show RR _ _ 177 [some (.ref 146), none, some (.int (nI 2)), some (.int (nI (FA n))), some (.int (nI w2.1.length)), some (.int (nI i)), some (.int (nI k)), some (.int (nI y))] [] g (rf_u (rf_u w2.2 18 w171) 13 w13) _
                        refine rr_nx (pc' := 179) (al' := [some (.ref 146), none, some (.int (nI 2)), some (.int (nI (FA n))), some (.int (nI w2.1.length)), some (.int (nI i)), some (.int (nI k)), some (.int (nI y))]) (st' := [.int (nI y)]) d_255_177 (fun _ => rfl) ?_
                        refine rr_nx (pc' := 180) (al' := [some (.ref 146), none, some (.int (nI 2)), some (.int (nI (FA n))), some (.int (nI w2.1.length)), some (.int (nI i)), some (.int (nI k)), some (.int (nI y))]) (st' := [.ref 146, .int (nI y)]) d_255_179 (fun _ => rfl) ?_
                        refine rr_gn d_255_180 mo_255 fl_127 rfl hc.1 ?_
                        refine rn_cge (t := 211) d_255_183 (by decide) (by first | omega | assumption | exact cu_36 (by omega) (cu_lt (by omega) (by omega))) (by first | omega | assumption | exact cu_36 (by omega) (cu_lt (by omega) (by omega))) (fun c183 => ?_) (fun c183 => ?_)
                        · omega
                        · refine rr_nx (pc' := 187) (al' := [some (.ref 146), none, some (.int (nI 2)), some (.int (nI (FA n))), some (.int (nI w2.1.length)), some (.int (nI i)), some (.int (nI k)), some (.int (nI y))]) (st' := [.ref 146]) d_255_186 (fun _ => rfl) ?_
                          refine rr_gf (v := .ref (147 + 13)) d_255_187 mo_255 fl_55 rfl ?_
                          refine rr_nx (pc' := 192) (al' := [some (.ref 146), none, some (.int (nI 2)), some (.int (nI (FA n))), some (.int (nI w2.1.length)), some (.int (nI i)), some (.int (nI k)), some (.int (nI y))]) (st' := [.int (nI y), .ref (147 + 13)]) d_255_190 (fun _ => rfl) ?_
                          refine rr_nx (pc' := 193) (al' := [some (.ref 146), none, some (.int (nI 2)), some (.int (nI (FA n))), some (.int (nI w2.1.length)), some (.int (nI i)), some (.int (nI k)), some (.int (nI y))]) (st' := [.ref 146, .int (nI y), .ref (147 + 13)]) d_255_192 (fun _ => rfl) ?_
                          refine rr_gf (v := .ref (147 + 18)) d_255_193 mo_255 fl_70 rfl ?_
                          refine rr_nx (pc' := 197) (al' := [some (.ref 146), none, some (.int (nI 2)), some (.int (nI (FA n))), some (.int (nI w2.1.length)), some (.int (nI i)), some (.int (nI k)), some (.int (nI y))]) (st' := [.ref 146, .ref (147 + 18), .int (nI y), .ref (147 + 13)]) d_255_196 (fun _ => rfl) ?_
                          refine rr_gf (v := .ref (147 + 17)) d_255_197 mo_255 fl_67 rfl ?_
                          refine rr_nx (pc' := 202) (al' := [some (.ref 146), none, some (.int (nI 2)), some (.int (nI (FA n))), some (.int (nI w2.1.length)), some (.int (nI i)), some (.int (nI k)), some (.int (nI y))]) (st' := [.int (nI y), .ref (147 + 17), .ref (147 + 18), .int (nI y), .ref (147 + 13)]) d_255_200 (fun _ => rfl) ?_
                          refine rr_ia (j := 17) (v := (nI (pmE n r y))) d_255_202 (by decide) rfl (by decide) (show y < 6 by first | omega | assumption | exact cu_36 (by omega) (cu_lt (by omega) (by omega))) (pk.2.2.2.2.2.2.2.1 y hy) ?_
                          refine rr_ia (j := 18) (v := (nI (mkG n c k (pmE n r y)))) d_255_203 (by decide) rfl (by decide) (show pmE n r y < 6 by have := (pm_per hn6 hrF).1 y hy; omega) (hw171 _ ((pm_per hn6 hrF).1 y hy)) ?_
                          refine rr_iS (j := 13) (A1 := (rf_u (rf_u w2.2 18 w171) 13 (upd w13 y (nI (mkG n c k (pmE n r y)))))) d_255_204 (by decide) rfl (by decide) (show y < 6 by first | omega | assumption | exact cu_36 (by omega) (cu_lt (by omega) (by omega))) rf_uw ?_
                          refine rn_inc d_255_205 rfl rfl ?_
                          show RR _ _ 208 [some (.ref 146), none, some (.int (nI 2)), some (.int (nI (FA n))), some (.int (nI w2.1.length)), some (.int (nI i)), some (.int (nI k)), some (.int (nI (y + 1)))] [] g (rf_u (rf_u w2.2 18 w171) 13 (upd w13 y (nI (mkG n c k (pmE n r y))))) _
                          refine rr_nx (pc' := 177) (al' := [some (.ref 146), none, some (.int (nI 2)), some (.int (nI (FA n))), some (.int (nI w2.1.length)), some (.int (nI i)), some (.int (nI k)), some (.int (nI (y + 1)))]) (st' := []) d_255_208 (fun _ => rfl) ?_
                          exact ihy (upd w13 y (nI (mkG n c k (pmE n r y)))) (up_all (f := fun q => nI (mkG n c k (pmE n r q))) py rfl)
                      · show RR _ _ 177 [some (.ref 146), none, some (.int (nI 2)), some (.int (nI (FA n))), some (.int (nI w2.1.length)), some (.int (nI i)), some (.int (nI k)), some (.int (nI n))] [] g (rf_u (rf_u w2.2 18 w171) 13 w13) _
                        refine rr_nx (pc' := 179) (al' := [some (.ref 146), none, some (.int (nI 2)), some (.int (nI (FA n))), some (.int (nI w2.1.length)), some (.int (nI i)), some (.int (nI k)), some (.int (nI n))]) (st' := [.int (nI n)]) d_255_177 (fun _ => rfl) ?_
                        refine rr_nx (pc' := 180) (al' := [some (.ref 146), none, some (.int (nI 2)), some (.int (nI (FA n))), some (.int (nI w2.1.length)), some (.int (nI i)), some (.int (nI k)), some (.int (nI n))]) (st' := [.ref 146, .int (nI n)]) d_255_179 (fun _ => rfl) ?_
                        refine rr_gn d_255_180 mo_255 fl_127 rfl hc.1 ?_
                        refine rn_cge (t := 211) d_255_183 (by decide) (by first | omega | assumption | exact cu_36 (by omega) (cu_lt (by omega) (by omega))) (by first | omega | assumption | exact cu_36 (by omega) (cu_lt (by omega) (by omega))) (fun c183 => ?_) (fun c183 => ?_)
                        · refine rr_nx (pc' := 212) (al' := [some (.ref 146), none, some (.int (nI 2)), some (.int (nI (FA n))), some (.int (nI w2.1.length)), some (.int (nI i)), some (.int (nI k)), some (.int (nI n))]) (st' := [.ref 146]) d_255_211 (fun _ => rfl) ?_
                          refine rr_nx (pc' := 213) (al' := [some (.ref 146), none, some (.int (nI 2)), some (.int (nI (FA n))), some (.int (nI w2.1.length)), some (.int (nI i)), some (.int (nI k)), some (.int (nI n))]) (st' := [.ref 146, .ref 146]) d_255_212 (fun _ => rfl) ?_
                          refine rr_gf (v := .ref (147 + 13)) d_255_213 mo_255 fl_55 rfl ?_
                          refine rr_pv (as := [.ref (147 + 13)]) (al0 := [some (.ref 146), some (.ref (147 + 13)), none, none, none, none]) (r := []) d_255_216 mo_255 ml_308 mz_257 rfl rfl rfl (Nat.le_of_ble_eq_true rfl) (s_numberOf hc.1 hn6 (fun q hq => by rw [rf_u_s]; exact py q hq) hok (sc_per hn6 hl hrF (by omega))) ?_
                          show RR _ _ 219 [some (.ref 146), none, some (.int (nI 2)), some (.int (nI (FA n))), some (.int (nI w2.1.length)), some (.int (nI i)), some (.int (nI k)), some (.int (nI n))] [.int (nI (scN n c r k))] g (rf_u (rf_u w2.2 18 w171) 13 w13) _
                          refine rr_nx (pc' := 221) (al' := [some (.ref 146), none, some (.int (nI 2)), some (.int (nI (FA n))), some (.int (nI w2.1.length)), some (.int (nI i)), some (.int (nI k)), some (.int (nI (scN n c r k)))]) (st' := []) d_255_219 (fun _ => rfl) ?_
                          refine rr_nx (pc' := 222) (al' := [some (.ref 146), none, some (.int (nI 2)), some (.int (nI (FA n))), some (.int (nI w2.1.length)), some (.int (nI i)), some (.int (nI k)), some (.int (nI (scN n c r k)))]) (st' := [.ref 146]) d_255_221 (fun _ => rfl) ?_
                          refine rr_gf (v := .ref (147 + 15)) d_255_222 mo_255 fl_61 rfl ?_
                          refine rr_nx (pc' := 227) (al' := [some (.ref 146), none, some (.int (nI 2)), some (.int (nI (FA n))), some (.int (nI w2.1.length)), some (.int (nI i)), some (.int (nI k)), some (.int (nI (scN n c r k)))]) (st' := [.int (nI (scN n c r k)), .ref (147 + 15)]) d_255_225 (fun _ => rfl) ?_
                          refine rr_ba (j := 15) (v := (nI (if scN n c r k ∈ w2.1 then 1 else 0))) d_255_227 (by decide) (by decide) (by decide) (show scN n c r k < 720 by have := hok.1; omega) (pk.2.1.2 _ hok.1) ?_
                          refine rn_ieq (t := 234) d_255_228 (by decide) (by split <;> decide) (fun c228 => ?_) (fun c228 => ?_)
                          · have hno : scN n c r k ∉ w2.1 := fun e => by rw [if_pos e] at c228; cases c228
                            have hb2 := Bf_add hn6 hl pk.1 pk.2.2.2.2.1 (k := k) pk.2.2.2.2.2.2.2.2 hk (by omega) (by rw [pk.2.2.2.2.2.1]) hno
                            have hlen2 := Bf_len hb2
                            rw [List.length_append] at hlen2
                            simp only [List.length_singleton] at hlen2
                            refine rr_nx (pc' := 235) (al' := [some (.ref 146), none, some (.int (nI 2)), some (.int (nI (FA n))), some (.int (nI w2.1.length)), some (.int (nI i)), some (.int (nI k)), some (.int (nI (scN n c r k)))]) (st' := [.ref 146]) d_255_234 (fun _ => rfl) ?_
                            refine rr_gf (v := .ref (147 + 15)) d_255_235 mo_255 fl_61 rfl ?_
                            refine rr_nx (pc' := 240) (al' := [some (.ref 146), none, some (.int (nI 2)), some (.int (nI (FA n))), some (.int (nI w2.1.length)), some (.int (nI i)), some (.int (nI k)), some (.int (nI (scN n c r k)))]) (st' := [.int (nI (scN n c r k)), .ref (147 + 15)]) d_255_238 (fun _ => rfl) ?_
                            refine rn_ic (v := 1) d_255_240 (by decide) ?_
                            refine rr_zS (j := 15) (A1 := (rf_u (rf_u (rf_u w2.2 18 w171) 13 w13) 15 (upd (w2.2 15) (scN n c r k) (vp_nar .boolean (nI 1))))) d_255_241 (by decide) rfl (by decide) (show scN n c r k < 720 by have := hok.1; omega) rfl ?_
                            refine rr_nx (pc' := 243) (al' := [some (.ref 146), none, some (.int (nI 2)), some (.int (nI (FA n))), some (.int (nI w2.1.length)), some (.int (nI i)), some (.int (nI k)), some (.int (nI (scN n c r k)))]) (st' := [.ref 146]) d_255_242 (fun _ => rfl) ?_
                            refine rr_gf (v := .ref (147 + 16)) d_255_243 mo_255 fl_64 rfl ?_
                            refine rr_nx (pc' := 248) (al' := [some (.ref 146), none, some (.int (nI 2)), some (.int (nI (FA n))), some (.int (nI w2.1.length)), some (.int (nI i)), some (.int (nI k)), some (.int (nI (scN n c r k)))]) (st' := [.int (nI w2.1.length), .ref (147 + 16)]) d_255_246 (fun _ => rfl) ?_
                            refine rr_nx (pc' := 250) (al' := [some (.ref 146), none, some (.int (nI 2)), some (.int (nI (FA n))), some (.int (nI w2.1.length)), some (.int (nI i)), some (.int (nI k)), some (.int (nI (scN n c r k)))]) (st' := [.int (nI (scN n c r k)), .int (nI w2.1.length), .ref (147 + 16)]) d_255_248 (fun _ => rfl) ?_
                            refine rr_iS (j := 16) (A1 := (rf_u (rf_u (rf_u (rf_u w2.2 18 w171) 13 w13) 15 (upd (w2.2 15) (scN n c r k) (vp_nar .boolean (nI 1)))) 16 (upd (w2.2 16) w2.1.length (nI (scN n c r k))))) d_255_250 (by decide) rfl (by decide) (show w2.1.length < 720 by omega) rfl ?_
                            refine rn_inc d_255_251 rfl rfl ?_
                            show RR _ _ 254 [some (.ref 146), none, some (.int (nI 2)), some (.int (nI (FA n))), some (.int (nI (w2.1.length + 1))), some (.int (nI i)), some (.int (nI k)), some (.int (nI (scN n c r k)))] [] g (rf_u (rf_u (rf_u (rf_u w2.2 18 w171) 13 w13) 15 (upd (w2.2 15) (scN n c r k) (vp_nar .boolean (nI 1)))) 16 (upd (w2.2 16) w2.1.length (nI (scN n c r k)))) _
                            rw [show w2.1.length + 1 = (w2.1 ++ [scN n c r k]).length by rw [List.length_append]; rfl]
                            refine rn_inc d_255_254 rfl rfl ?_
                            show RR _ _ 257 [some (.ref 146), none, some (.int (nI 2)), some (.int (nI (FA n))), some (.int (nI ((w2.1 ++ [scN n c r k]).length))), some (.int (nI i)), some (.int (nI (k + 1))), some (.int (nI (scN n c r k)))] [] g (rf_u (rf_u (rf_u (rf_u w2.2 18 w171) 13 w13) 15 (upd (w2.2 15) (scN n c r k) (vp_nar .boolean (nI 1)))) 16 (upd (w2.2 16) w2.1.length (nI (scN n c r k)))) _
                            refine rr_nx (pc' := 146) (al' := [some (.ref 146), none, some (.int (nI 2)), some (.int (nI (FA n))), some (.int (nI ((w2.1 ++ [scN n c r k]).length))), some (.int (nI i)), some (.int (nI (k + 1))), some (.int (nI (scN n c r k)))]) (st' := []) d_255_257 (fun _ => rfl) ?_
                            refine rr_al (congrArg (fun z__ : Nat => ([some (.ref 146), none, some (.int (nI 2)), some (.int (nI (FA n))), some (.int (nI z__)), some (.int (nI i)), some (.int (nI (k + 1))), some (.int (nI (scN n c r k)))] : AL)) (show (w2.1 ++ [scN n c r k]).length = (w2.1 ++ [scN n c r k], (rf_u (rf_u (rf_u (rf_u w2.2 18 w171) 13 w13) 15 (upd (w2.2 15) (scN n c r k) (vp_nar .boolean (nI 1)))) 16 (upd (w2.2 16) w2.1.length (nI (scN n c r k))))).1.length by rfl)) ?_
                            refine rr_dr (al1 := [some (.ref 146), none, some (.int (nI 2)), some (.int (nI (FA n))), some (.int (nI ((w2.1 ++ [scN n c r k], (rf_u (rf_u (rf_u (rf_u w2.2 18 w171) 13 w13) 15 (upd (w2.2 15) (scN n c r k) (vp_nar .boolean (nI 1)))) 16 (upd (w2.2 16) w2.1.length (nI (scN n c r k))))).1.length))), some (.int (nI i)), some (.int (nI (k + 1))), none]) (le_s (le_s (le_s (le_s (le_s (le_s (le_s (le_d rfl (le_n))))))))) ?_
                            exact ihk (w2.1 ++ [scN n c r k], (rf_u (rf_u (rf_u (rf_u w2.2 18 w171) 13 w13) 15 (upd (w2.2 15) (scN n c r k) (vp_nar .boolean (nI 1)))) 16 (upd (w2.2 16) w2.1.length (nI (scN n c r k))))) (⟨hb2, pk.2.1.ad hno rfl (by dsimp only; rw [rf_u_n (by decide), rf_u_s, nar_b _ (by decide)]), pk.2.2.1, (((pk.2.2.2.1.u (by decide)).u (by decide)).u (by decide)).u (by decide), by dsimp only; rw [List.length_append]; omega, by dsimp only; rw [gD_app pk.2.2.2.2.1]; exact pk.2.2.2.2.2.1, fun z h1 h2 => by
                                dsimp only
                                rcases Nat.lt_succ_iff_lt_or_eq.mp h2 with e | e
                                · exact List.mem_append_left _ (pk.2.2.2.2.2.2.1 z h1 e)
                                · rw [e]; exact List.mem_append_right _ (List.mem_singleton.mpr rfl), fun q hq => pk.2.2.2.2.2.2.2.1 q hq, by omega⟩)
                          · have hin : scN n c r k ∈ w2.1 := by
                              by_cases e : scN n c r k ∈ w2.1
                              · exact e
                              · rw [if_neg e] at c228; cases c228
                            refine rr_nx (pc' := 254) (al' := [some (.ref 146), none, some (.int (nI 2)), some (.int (nI (FA n))), some (.int (nI w2.1.length)), some (.int (nI i)), some (.int (nI k)), some (.int (nI (scN n c r k)))]) (st' := []) d_255_231 (fun _ => rfl) ?_
                            refine rn_inc d_255_254 rfl rfl ?_
                            show RR _ _ 257 [some (.ref 146), none, some (.int (nI 2)), some (.int (nI (FA n))), some (.int (nI w2.1.length)), some (.int (nI i)), some (.int (nI (k + 1))), some (.int (nI (scN n c r k)))] [] g (rf_u (rf_u w2.2 18 w171) 13 w13) _
                            refine rr_nx (pc' := 146) (al' := [some (.ref 146), none, some (.int (nI 2)), some (.int (nI (FA n))), some (.int (nI w2.1.length)), some (.int (nI i)), some (.int (nI (k + 1))), some (.int (nI (scN n c r k)))]) (st' := []) d_255_257 (fun _ => rfl) ?_
                            refine rr_al (congrArg (fun z__ : Nat => ([some (.ref 146), none, some (.int (nI 2)), some (.int (nI (FA n))), some (.int (nI z__)), some (.int (nI i)), some (.int (nI (k + 1))), some (.int (nI (scN n c r k)))] : AL)) (show w2.1.length = (w2.1, (rf_u (rf_u w2.2 18 w171) 13 w13)).1.length by rfl)) ?_
                            refine rr_dr (al1 := [some (.ref 146), none, some (.int (nI 2)), some (.int (nI (FA n))), some (.int (nI ((w2.1, (rf_u (rf_u w2.2 18 w171) 13 w13)).1.length))), some (.int (nI i)), some (.int (nI (k + 1))), none]) (le_s (le_s (le_s (le_s (le_s (le_s (le_s (le_d rfl (le_n))))))))) ?_
                            exact ihk (w2.1, (rf_u (rf_u w2.2 18 w171) 13 w13)) (⟨pk.1, pk.2.1.cg rfl rfl, pk.2.2.1, (pk.2.2.2.1.u (by decide)).u (by decide), pk.2.2.2.2.1, pk.2.2.2.2.2.1, fun z h1 h2 => by
                                rcases Nat.lt_succ_iff_lt_or_eq.mp h2 with e | e
                                · exact pk.2.2.2.2.2.2.1 z h1 e
                                · rw [e]; exact hin, fun q hq => pk.2.2.2.2.2.2.2.1 q hq, by omega⟩)
                        · omega
                  · omega
                · show RR _ _ 146 [some (.ref 146), none, some (.int (nI 2)), some (.int (nI (FA n))), some (.int (nI w2.1.length)), some (.int (nI i)), some (.int (nI (2 * n))), none] [] g w2.2 _
                  have hlen := Bf_len pk.1
                  refine rr_nx (pc' := 148) (al' := [some (.ref 146), none, some (.int (nI 2)), some (.int (nI (FA n))), some (.int (nI w2.1.length)), some (.int (nI i)), some (.int (nI (2 * n))), none]) (st' := [.int (nI (2 * n))]) d_255_146 (fun _ => rfl) ?_
                  refine rr_nx (pc' := 149) (al' := [some (.ref 146), none, some (.int (nI 2)), some (.int (nI (FA n))), some (.int (nI w2.1.length)), some (.int (nI i)), some (.int (nI (2 * n))), none]) (st' := [.int (nI 2), .int (nI (2 * n))]) d_255_148 (fun _ => rfl) ?_
                  refine rn_ine (t := 159) d_255_149 (by decide) (by first | omega | assumption | exact cu_36 (by omega) (cu_lt (by omega) (by omega))) (fun c149 => ?_) (fun c149 => ?_)
                  · refine rn_ic (v := 2) d_255_159 (by decide) ?_
                    refine rr_nx (pc' := 161) (al' := [some (.ref 146), none, some (.int (nI 2)), some (.int (nI (FA n))), some (.int (nI w2.1.length)), some (.int (nI i)), some (.int (nI (2 * n))), none]) (st' := [.ref 146, .int (nI 2), .int (nI (2 * n))]) d_255_160 (fun _ => rfl) ?_
                    refine rr_gn d_255_161 mo_255 fl_127 rfl hc.1 ?_
                    refine rn_mul d_255_164  ?_
                    refine rn_cge (t := 260) d_255_165 (by decide) (by first | omega | assumption | exact cu_36 (by omega) (cu_lt (by omega) (by omega))) (by first | omega | assumption | exact cu_36 (by omega) (cu_lt (by omega) (by omega))) (fun c165 => ?_) (fun c165 => ?_)
                    · refine rn_inc d_255_260 rfl rfl ?_
                      show RR _ _ 263 [some (.ref 146), none, some (.int (nI 2)), some (.int (nI (FA n))), some (.int (nI w2.1.length)), some (.int (nI (i + 1))), some (.int (nI (2 * n))), none] [] g w2.2 _
                      refine rr_nx (pc' := 77) (al' := [some (.ref 146), none, some (.int (nI 2)), some (.int (nI (FA n))), some (.int (nI w2.1.length)), some (.int (nI (i + 1))), some (.int (nI (2 * n))), none]) (st' := []) d_255_263 (fun _ => rfl) ?_
                      refine rr_al (congrArg (fun z__ : Nat => ([some (.ref 146), none, some (.int (nI 2)), some (.int (nI (FA n))), some (.int (nI z__)), some (.int (nI (i + 1))), some (.int (nI (2 * n))), none] : AL)) (show w2.1.length = (w2.1, w2.2).1.length by rfl)) ?_
                      refine rr_dr (al1 := [some (.ref 146), none, some (.int (nI 2)), some (.int (nI (FA n))), some (.int (nI ((w2.1, w2.2).1.length))), some (.int (nI (i + 1))), none, none]) (le_s (le_s (le_s (le_s (le_s (le_s (le_d rfl (le_s (le_n))))))))) ?_
                      exact ihi (w2.1, w2.2) (⟨Bf_nx pk.1 pk.2.2.2.2.1 (fun k h1 h2 => by rw [pk.2.2.2.2.2.1]; exact pk.2.2.2.2.2.2.1 k h1 h2), pk.2.1, pk.2.2.1, pk.2.2.2.1⟩)
                    · omega
                  · omega
              · omega
            · omega
      · show RR _ _ 77 [some (.ref 146), none, some (.int (nI 2)), some (.int (nI (FA n))), some (.int (nI w_.1.length)), some (.int (nI (FA n))), none, none] [] g w_.2 _
        have hlen := Bf_len pi.1
        refine rr_nx (pc' := 79) (al' := [some (.ref 146), none, some (.int (nI 2)), some (.int (nI (FA n))), some (.int (nI w_.1.length)), some (.int (nI (FA n))), none, none]) (st' := [.int (nI (FA n))]) d_255_77 (fun _ => rfl) ?_
        refine rr_nx (pc' := 81) (al' := [some (.ref 146), none, some (.int (nI 2)), some (.int (nI (FA n))), some (.int (nI w_.1.length)), some (.int (nI (FA n))), none, none]) (st' := [.int (nI w_.1.length), .int (nI (FA n))]) d_255_79 (fun _ => rfl) ?_
        refine rn_cge (t := 266) d_255_81 (by decide) (by first | omega | assumption | exact cu_36 (by omega) (cu_lt (by omega) (by omega))) (by first | omega | assumption | exact cu_36 (by omega) (cu_lt (by omega) (by omega))) (fun c81 => ?_) (fun c81 => ?_)
        · refine rr_nx (pc' := 268) (al' := [some (.ref 146), none, some (.int (nI 2)), some (.int (nI (FA n))), some (.int (nI w_.1.length)), some (.int (nI (FA n))), none, none]) (st' := [.int (nI w_.1.length)]) d_255_266 (fun _ => rfl) ?_
          exact rr_ri d_255_268 mr_255 rfl ⟨w_.1, FA n, pi.1, by omega, rfl, Gsm.rf, pi.2.2.2⟩
        · omega
    · omega
