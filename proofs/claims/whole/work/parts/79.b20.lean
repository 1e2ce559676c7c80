/-! Normal parts, quotients: the reference; printed by wip/whole/gen_b20.py. -/
/-- what the reference's row classes is behind some rows -/
def ClI (n : Nat) (c : Nat → Nat) (p k : Nat) (w : Nat → Int32) : Prop := ∀ y, y < n → (∀ x, x < k → (roN n c x p).testBit y = true → w y = nI (lwN n c p x)) ∧ ((∀ x, x < k → (roN n c x p).testBit y = false) → w y = -1)
theorem Cl_0 {n : Nat} {c : Nat → Nat} {p : Nat} {w : Nat → Int32} (h : ∀ y, y < n → w y = -1) : ClI n c p 0 w := fun y hy => ⟨fun x hx => absurd hx (Nat.not_lt_zero x), fun _ => h y hy⟩
/-- in the midst of row k: columns below j are done -/
def ClJ (n : Nat) (c : Nat → Nat) (p k j : Nat) (w : Nat → Int32) : Prop := ∀ y, y < n → (∀ x, (x < k ∨ (x = k ∧ y < j)) → (roN n c x p).testBit y = true → w y = nI (lwN n c p x)) ∧ ((∀ x, (x < k ∨ (x = k ∧ y < j)) → (roN n c x p).testBit y = false) → w y = -1)
theorem Cl_I {n : Nat} {c : Nat → Nat} {p k : Nat} {w : Nat → Int32} (h : ClI n c p k w) : ClJ n c p k 0 w := fun y hy => ⟨fun x hx hb => (h y hy).1 x (by omega) hb, fun q => (h y hy).2 (fun x hx => q x (Or.inl hx))⟩
theorem Cl_J {n : Nat} {c : Nat → Nat} {p k : Nat} {w : Nat → Int32} (h : ClJ n c p k n w) : ClI n c p (k + 1) w := fun y hy => ⟨fun x hx hb => (h y hy).1 x (by omega) hb, fun q => (h y hy).2 (fun x hx => q x (by omega))⟩
theorem Cl_no {n : Nat} {c : Nat → Nat} {p k j : Nat} {w : Nat → Int32} (h : ClJ n c p k j w) (hb : (roN n c k p).testBit j = false) : ClJ n c p k (j + 1) w := fun y hy => by
  refine ⟨fun x hx q => ?_, fun q => (h y hy).2 (fun x hx => q x (by omega))⟩
  by_cases e : x = k ∧ y = j
  · rw [e.1, e.2, hb] at q
    cases q
  · exact (h y hy).1 x (by omega) q
theorem Cl_yes {n : Nat} {c : Nat → Nat} {p k j : Nat} {w : Nat → Int32} (h : ClJ n c p k j w) (hj : j < n) (hb : (roN n c k p).testBit j = true) (hw : w j = -1 ∨ w j = nI (lwN n c p k)) (hlw : ∀ x, x ≤ k → lwN n c p x < 6) : ClJ n c p k (j + 1) (upd w j (nI (lwN n c p k))) := fun y hy => by
  by_cases e : y = j
  · subst e
    rw [pk_us]
    refine ⟨fun x hx q => ?_, fun q => ?_⟩
    · by_cases e2 : x = k
      · rw [e2]
      · have hwy := (h y hy).1 x (Or.inl (by omega)) q
        rcases hw with r | r
        · rw [r] at hwy
          exact absurd hwy.symm (ia_ne (hlw x (by omega)))
        · rw [← hwy, r]
    · have := q k (Or.inr ⟨rfl, Nat.lt_succ_self y⟩)
      rw [hb] at this
      cases this
  · rw [pk_un e]
    exact ⟨fun x hx q => (h y hy).1 x (by omega) q, fun q => (h y hy).2 (fun x hx => q x (by omega))⟩
theorem Cl_bad {n : Nat} {c : Nat → Nat} {p k j : Nat} {w : Nat → Int32} (h : ClJ n c p k j w) (hk : k < n) (hj : j < n) (hb : (roN n c k p).testBit j = true) (h1 : ¬ w j = -1) (h2 : ¬ w j = nI (lwN n c p k)) : ¬ FaA n c p := fun hF => by
  apply h1
  refine (h j hj).2 (fun x hx => ?_)
  cases q : (roN n c x p).testBit j
  · rfl
  · exfalso
    apply h2
    rw [(h j hj).1 x hx q]
    have hxn : x < n := by omega
    unfold lwN
    rw [Fa_s hF hxn hk q hb]
def szN (n : Nat) (c : Nat → Nat) (p x i : Nat) : Nat := SM (fun y => if lwN n c p y = lwN n c p x then 1 else 0) i
theorem sz_Fa {n : Nat} {c : Nat → Nat} (hn : n ≤ 6) (hl : Lat n c) (hu : Uni n c) {p : Nat} (hp : clB n c p = true) (h : FaA n c p) {x : Nat} (hx : x < n) : szN n c p x n = onN p := by
  have hp2 := (clB_iff.mp hp).1
  rw [← ro_on hn hl hx hp2.2, onN_n (by omega) (roN_lt hl.1 hx)]
  unfold szN
  refine SM_c (fun y hy => ?_)
  rw [bt_1]
  by_cases q : lwN n c p y = lwN n c p x
  · rw [if_pos q, if_pos ((Fa_lw hn hl hu hp h hx hy).mpr q)]
  · rw [if_neg q, if_neg (fun e => q ((Fa_lw hn hl hu hp h hx hy).mp e))]
/-- rows that have the lowest in common, all classes as large as the part: they fall asunder -/
theorem Fa_of {n : Nat} {c : Nat → Nat} (hn : n ≤ 6) (hl : Lat n c) {p : Nat} (hp : p < 2 ^ n) (h0 : 0 < p) (h1 : ∀ x, x < n → ∀ y, y < n → (roN n c x p).testBit y = true → lwN n c p y = lwN n c p x) (h2 : ∀ x, x < n → szN n c p x n = onN p) : FaA n c p := by
  have key : ∀ x, x < n → ∀ y, y < n → lwN n c p y = lwN n c p x → (roN n c x p).testBit y = true := by
    intro x hx y hy e
    apply Decidable.byContradiction
    intro hb
    have hlt : SM (fun k => roN n c x p / 2 ^ k &&& 1) n < SM (fun y => if lwN n c p y = lwN n c p x then 1 else 0) n := by
      refine SM_lt (k := y) hy (fun z hz => ?_) ?_
      · rw [bt_1]
        by_cases q : (roN n c x p).testBit z = true
        · rw [if_pos q, if_pos (h1 x hx z hz q)]
          exact Nat.le_refl _
        · rw [if_neg q]
          exact Nat.zero_le _
      · rw [bt_1, if_neg hb, if_pos e]
        decide
    rw [← onN_n (by omega) (roN_lt hl.1 hx), ro_on hn hl hx hp] at hlt
    have := h2 x hx
    unfold szN at this
    omega
  intro x hx y hy
  have hyn : y < n := by omega
  by_cases e : roN n c x p &&& roN n c y p = 0
  · exact Or.inr e
  · left
    obtain ⟨z, hz⟩ := Nat.exists_testBit_of_ne_zero e
    rw [Nat.testBit_and, Bool.and_eq_true] at hz
    have hzn := bit_lt (roN_lt hl.1 hx) hz.1
    have e1 := h1 x hx z hzn hz.1
    have e2 := h1 y hyn z hzn hz.2
    apply bset_eq (roN_lt hl.1 hx) (roN_lt hl.1 hyn)
    intro q hq
    rw [Bool.eq_iff_iff]
    constructor
    · exact fun w => key y hyn q hq (by rw [h1 x hx q hq w, ← e1, e2])
    · exact fun w => key x hx q hq (by rw [h1 y hyn q hq w, ← e2, e1])
theorem s_isNormal {g : Nat → Int32} {A : Nat → Nat → Int32} {n : Nat} {c : Nat → Nat} (hc : Cur g A n c) (hl : Lat n c) (hu : Uni n c) {p : Nat} (hp31 : p < 2 ^ 31) : RR 3 243 0 [some (.ref 146), some (.int (nI p)), none, none, none, none] [] g A (fun r_ g' A' => r_ = some (.int (bI (Nrm n c p))) ∧ g' = g ∧ ∃ w, A' = rf_u A 14 w ∧ (Nrm n c p → ∀ x, x < n → w x = nI (lwN n c p x))) := by
  have hn6 := hc.2.1
  refine rr_nx (pc' := 1) (al' := [some (.ref 146), some (.int (nI p)), none, none, none, none]) (st' := [.ref 146]) d_243_0 (fun _ => rfl) ?_
  refine rr_nx (pc' := 2) (al' := [some (.ref 146), some (.int (nI p)), none, none, none, none]) (st' := [.int (nI p), .ref 146]) d_243_1 (fun _ => rfl) ?_
  refine rr_pv (as := [.int (nI p)]) (al0 := [some (.ref 146), some (.int (nI p))]) (r := []) d_243_2 mo_243 ml_289 mz_244 rfl rfl rfl (Nat.le_of_ble_eq_true rfl) (s_isClosed hc (by first | omega | assumption | exact cu_36 (by omega) (cu_lt (by omega) (by omega)))) ?_
  show RR _ _ 5 [some (.ref 146), some (.int (nI p)), none, none, none, none] [.int (bI (clB n c p = true))] g A _
  refine rr_bne (t := 10) d_243_5 (by decide) (fun c5 => ?_) (fun c5 => ?_)
  · have hp0 := (clB_iff.mp c5).1.1
    have hp := (clB_iff.mp c5).1.2
    have hp64 := le_64 hn6 hp
    refine rn_ic (v := 0) d_243_10 (by decide) ?_
    refine rr_nx (pc' := 12) (al' := [some (.ref 146), some (.int (nI p)), some (.int (nI 0)), none, none, none]) (st' := []) d_243_11 (fun _ => rfl) ?_
    refine rr_A (show A = (rf_u A 14 (A 14)) by rw [rf_u_id]) ?_
    refine rr_upw (al := fun z w_ => [some (.ref 146), some (.int (nI p)), some (.int (nI z)), none, none, none]) (G := fun z w_ => g) (B := fun z w_ => (rf_u A 14 w_)) (P := fun z w_ => ∀ y, y < z → w_ y = -1) (n := n) (fun z w_ hz pz ihz => ?_) (fun w_ pz => ?_) 0 (A 14) (by omega) (all_0)
    · show RR _ _ 12 [some (.ref 146), some (.int (nI p)), some (.int (nI z)), none, none, none] [] g (rf_u A 14 w_) _
      refine rr_nx (pc' := 13) (al' := [some (.ref 146), some (.int (nI p)), some (.int (nI z)), none, none, none]) (st' := [.int (nI z)]) d_243_12 (fun _ => rfl) ?_
      refine rr_nx (pc' := 14) (al' := [some (.ref 146), some (.int (nI p)), some (.int (nI z)), none, none, none]) (st' := [.ref 146, .int (nI z)]) d_243_13 (fun _ => rfl) ?_
      refine rr_gn d_243_14 mo_243 fl_127 rfl hc.1 ?_
      refine rn_cge (t := 33) d_243_17 (by decide) (by first | omega | assumption | exact cu_36 (by omega) (cu_lt (by omega) (by omega))) (by first | omega | assumption | exact cu_36 (by omega) (cu_lt (by omega) (by omega))) (fun c17 => ?_) (fun c17 => ?_)
      · omega
      · refine rr_nx (pc' := 21) (al' := [some (.ref 146), some (.int (nI p)), some (.int (nI z)), none, none, none]) (st' := [.ref 146]) d_243_20 (fun _ => rfl) ?_
        refine rr_gf (v := .ref (147 + 14)) d_243_21 mo_243 fl_58 rfl ?_
        refine rr_nx (pc' := 25) (al' := [some (.ref 146), some (.int (nI p)), some (.int (nI z)), none, none, none]) (st' := [.int (nI z), .ref (147 + 14)]) d_243_24 (fun _ => rfl) ?_
        refine rr_nx (pc' := 26) (al' := [some (.ref 146), some (.int (nI p)), some (.int (nI z)), none, none, none]) (st' := [.int (-1), .int (nI z), .ref (147 + 14)]) d_243_25 (fun _ => rfl) ?_
        refine rr_iS (j := 14) (A1 := (rf_u A 14 (upd w_ z (-1)))) d_243_26 (by decide) rfl (by decide) (show z < 6 by first | omega | assumption | exact cu_36 (by omega) (cu_lt (by omega) (by omega))) rf_uw ?_
        refine rn_inc d_243_27 rfl rfl ?_
        show RR _ _ 30 [some (.ref 146), some (.int (nI p)), some (.int (nI (z + 1))), none, none, none] [] g (rf_u A 14 (upd w_ z (-1))) _
        refine rr_nx (pc' := 12) (al' := [some (.ref 146), some (.int (nI p)), some (.int (nI (z + 1))), none, none, none]) (st' := []) d_243_30 (fun _ => rfl) ?_
        exact ihz (upd w_ z (-1)) (up_all (f := fun _ => -1) pz rfl)
    · show RR _ _ 12 [some (.ref 146), some (.int (nI p)), some (.int (nI n)), none, none, none] [] g (rf_u A 14 w_) _
      refine rr_nx (pc' := 13) (al' := [some (.ref 146), some (.int (nI p)), some (.int (nI n)), none, none, none]) (st' := [.int (nI n)]) d_243_12 (fun _ => rfl) ?_
      refine rr_nx (pc' := 14) (al' := [some (.ref 146), some (.int (nI p)), some (.int (nI n)), none, none, none]) (st' := [.ref 146, .int (nI n)]) d_243_13 (fun _ => rfl) ?_
      refine rr_gn d_243_14 mo_243 fl_127 rfl hc.1 ?_
      refine rn_cge (t := 33) d_243_17 (by decide) (by first | omega | assumption | exact cu_36 (by omega) (cu_lt (by omega) (by omega))) (by first | omega | assumption | exact cu_36 (by omega) (cu_lt (by omega) (by omega))) (fun c17 => ?_) (fun c17 => ?_)
      · refine rn_ic (v := 0) d_243_33 (by decide) ?_
        refine rr_nx (pc' := 35) (al' := [some (.ref 146), some (.int (nI p)), some (.int (nI 0)), none, none, none]) (st' := []) d_243_34 (fun _ => rfl) ?_
        refine rr_upw (al := fun x w_ => [some (.ref 146), some (.int (nI p)), some (.int (nI x)), none, none, none]) (G := fun x w_ => g) (B := fun x w_ => (rf_u A 14 w_)) (P := fun x w_ => ClI n c p x w_) (n := n) (fun x w_ hx px ihx => ?_) (fun w_ px => ?_) 0 w_ (by omega) (Cl_0 pz)
        · show RR _ _ 35 [some (.ref 146), some (.int (nI p)), some (.int (nI x)), none, none, none] [] g (rf_u A 14 w_) _
          have hrx := roN_lt (p := p) hl.1 hx
          have hr64 := le_64 hn6 hrx
          obtain ⟨l1, l2, l3⟩ := lw_f hn6 hl.1 hx hp0 hp
          refine rr_nx (pc' := 36) (al' := [some (.ref 146), some (.int (nI p)), some (.int (nI x)), none, none, none]) (st' := [.int (nI x)]) d_243_35 (fun _ => rfl) ?_
          refine rr_nx (pc' := 37) (al' := [some (.ref 146), some (.int (nI p)), some (.int (nI x)), none, none, none]) (st' := [.ref 146, .int (nI x)]) d_243_36 (fun _ => rfl) ?_
          refine rr_gn d_243_37 mo_243 fl_127 rfl hc.1 ?_
          refine rn_cge (t := 173) d_243_40 (by decide) (by first | omega | assumption | exact cu_36 (by omega) (cu_lt (by omega) (by omega))) (by first | omega | assumption | exact cu_36 (by omega) (cu_lt (by omega) (by omega))) (fun c40 => ?_) (fun c40 => ?_)
          · omega
          · refine rn_ic (v := 0) d_243_43 (by decide) ?_
            refine rr_nx (pc' := 45) (al' := [some (.ref 146), some (.int (nI p)), some (.int (nI x)), some (.int (nI 0)), none, none]) (st' := []) d_243_44 (fun _ => rfl) ?_
            refine rn_ic (v := 0) d_243_45 (by decide) ?_
            refine rr_nx (pc' := 48) (al' := [some (.ref 146), some (.int (nI p)), some (.int (nI x)), some (.int (nI 0)), some (.int (nI 0)), none]) (st' := []) d_243_46 (fun _ => rfl) ?_
            refine rr_al (congrArg (fun z__ : Nat => ([some (.ref 146), some (.int (nI p)), some (.int (nI x)), some (.int (nI z__)), some (.int (nI 0)), none] : AL)) (show 0 = ORs (roF n c x p) 0 by rfl)) ?_
            refine rr_up (al := fun u => [some (.ref 146), some (.int (nI p)), some (.int (nI x)), some (.int (nI (ORs (roF n c x p) u))), some (.int (nI u)), none]) (G := fun u => g) (B := fun u => (rf_u A 14 w_)) (P := fun u => True) (n := n) (fun u hu pu ihu => ?_) (fun pu => ?_) 0  (by omega) (trivial)
            · show RR _ _ 48 [some (.ref 146), some (.int (nI p)), some (.int (nI x)), some (.int (nI (ORs (roF n c x p) u))), some (.int (nI u)), none] [] g (rf_u A 14 w_) _
              have hbu := bt_lt p u
              refine rr_nx (pc' := 50) (al' := [some (.ref 146), some (.int (nI p)), some (.int (nI x)), some (.int (nI (ORs (roF n c x p) u))), some (.int (nI u)), none]) (st' := [.int (nI u)]) d_243_48 (fun _ => rfl) ?_
              refine rr_nx (pc' := 51) (al' := [some (.ref 146), some (.int (nI p)), some (.int (nI x)), some (.int (nI (ORs (roF n c x p) u))), some (.int (nI u)), none]) (st' := [.ref 146, .int (nI u)]) d_243_50 (fun _ => rfl) ?_
              refine rr_gn d_243_51 mo_243 fl_127 rfl hc.1 ?_
              refine rn_cge (t := 85) d_243_54 (by decide) (by first | omega | assumption | exact cu_36 (by omega) (cu_lt (by omega) (by omega))) (by first | omega | assumption | exact cu_36 (by omega) (cu_lt (by omega) (by omega))) (fun c54 => ?_) (fun c54 => ?_)
              · omega
              · refine rr_nx (pc' := 58) (al' := [some (.ref 146), some (.int (nI p)), some (.int (nI x)), some (.int (nI (ORs (roF n c x p) u))), some (.int (nI u)), none]) (st' := [.int (nI p)]) d_243_57 (fun _ => rfl) ?_
                refine rr_nx (pc' := 60) (al' := [some (.ref 146), some (.int (nI p)), some (.int (nI x)), some (.int (nI (ORs (roF n c x p) u))), some (.int (nI u)), none]) (st' := [.int (nI u), .int (nI p)]) d_243_58 (fun _ => rfl) ?_
                refine rn_shr d_243_60 (by omega) (by omega) ?_
                refine rn_ic (v := 1) d_243_61 (by decide) ?_
                refine rn_and d_243_62 ?_
                refine rn_ic (v := 1) d_243_63 (by decide) ?_
                refine rn_cne (t := 79) d_243_64 (by decide) (by omega) (by decide) (fun c64 => ?_) (fun c64 => ?_)
                · refine rn_inc d_243_79 rfl rfl ?_
                  show RR _ _ 82 [some (.ref 146), some (.int (nI p)), some (.int (nI x)), some (.int (nI (ORs (roF n c x p) u))), some (.int (nI (u + 1))), none] [] g (rf_u A 14 w_) _
                  refine rr_nx (pc' := 48) (al' := [some (.ref 146), some (.int (nI p)), some (.int (nI x)), some (.int (nI (ORs (roF n c x p) u))), some (.int (nI (u + 1))), none]) (st' := []) d_243_82 (fun _ => rfl) ?_
                  refine rr_al (congrArg (fun z__ : Nat => ([some (.ref 146), some (.int (nI p)), some (.int (nI x)), some (.int (nI z__)), some (.int (nI (u + 1))), none] : AL)) (show ORs (roF n c x p) u = ORs (roF n c x p) (u + 1) by rw [ORs_s, roF, if_neg (by rw [bt_e0.mp (by omega)]; exact Bool.false_ne_true), Nat.or_zero])) ?_
                  exact ihu  (trivial)
                · refine rr_nx (pc' := 68) (al' := [some (.ref 146), some (.int (nI p)), some (.int (nI x)), some (.int (nI (ORs (roF n c x p) u))), some (.int (nI u)), none]) (st' := [.int (nI (ORs (roF n c x p) u))]) d_243_67 (fun _ => rfl) ?_
                  refine rn_ic (v := 1) d_243_68 (by decide) ?_
                  refine rr_nx (pc' := 70) (al' := [some (.ref 146), some (.int (nI p)), some (.int (nI x)), some (.int (nI (ORs (roF n c x p) u))), some (.int (nI u)), none]) (st' := [.ref 146, .int (nI 1), .int (nI (ORs (roF n c x p) u))]) d_243_69 (fun _ => rfl) ?_
                  refine rr_nx (pc' := 71) (al' := [some (.ref 146), some (.int (nI p)), some (.int (nI x)), some (.int (nI (ORs (roF n c x p) u))), some (.int (nI u)), none]) (st' := [.int (nI x), .ref 146, .int (nI 1), .int (nI (ORs (roF n c x p) u))]) d_243_70 (fun _ => rfl) ?_
                  refine rr_nx (pc' := 73) (al' := [some (.ref 146), some (.int (nI p)), some (.int (nI x)), some (.int (nI (ORs (roF n c x p) u))), some (.int (nI u)), none]) (st' := [.int (nI u), .int (nI x), .ref 146, .int (nI 1), .int (nI (ORs (roF n c x p) u))]) d_243_71 (fun _ => rfl) ?_
                  refine rr_pv (as := [.int (nI x), .int (nI u)]) (al0 := [some (.ref 146), some (.int (nI x)), some (.int (nI u))]) (r := [.int (nI 1), .int (nI (ORs (roF n c x p) u))]) d_243_73 mo_243 ml_130 mz_213 rfl rfl rfl (Nat.le_of_ble_eq_true rfl) (s_times (hc.up (j := 14) (by decide)) (by omega) (by omega)) ?_
                  show RR _ _ 76 [some (.ref 146), some (.int (nI p)), some (.int (nI x)), some (.int (nI (ORs (roF n c x p) u))), some (.int (nI u)), none] [.int (nI (c (n * x + u))), .int (nI 1), .int (nI (ORs (roF n c x p) u))] g (rf_u A 14 w_) _
                  have b73 : c (n * x + u) < n := (hc.2.2 _ (cu_lt (by omega) (by omega))).2
                  refine rn_shl d_243_76 (by first | omega | assumption | exact cu_36 (by omega) (cu_lt (by omega) (by omega))) ?_
                  refine rn_or d_243_77 ?_
                  refine rr_nx (pc' := 79) (al' := [some (.ref 146), some (.int (nI p)), some (.int (nI x)), some (.int (nI ((ORs (roF n c x p) u) ||| (1 * 2 ^ (c (n * x + u)))))), some (.int (nI u)), none]) (st' := []) d_243_78 (fun _ => rfl) ?_
                  refine rn_inc d_243_79 rfl rfl ?_
                  show RR _ _ 82 [some (.ref 146), some (.int (nI p)), some (.int (nI x)), some (.int (nI ((ORs (roF n c x p) u) ||| (1 * 2 ^ (c (n * x + u)))))), some (.int (nI (u + 1))), none] [] g (rf_u A 14 w_) _
                  refine rr_nx (pc' := 48) (al' := [some (.ref 146), some (.int (nI p)), some (.int (nI x)), some (.int (nI ((ORs (roF n c x p) u) ||| (1 * 2 ^ (c (n * x + u)))))), some (.int (nI (u + 1))), none]) (st' := []) d_243_82 (fun _ => rfl) ?_
                  refine rr_al (congrArg (fun z__ : Nat => ([some (.ref 146), some (.int (nI p)), some (.int (nI x)), some (.int (nI z__)), some (.int (nI (u + 1))), none] : AL)) (show (ORs (roF n c x p) u) ||| (1 * 2 ^ (c (n * x + u))) = ORs (roF n c x p) (u + 1) by rw [ORs_s, roF, if_pos (bt_e1.mp c64)])) ?_
                  exact ihu  (trivial)
            · show RR _ _ 48 [some (.ref 146), some (.int (nI p)), some (.int (nI x)), some (.int (nI (ORs (roF n c x p) n))), some (.int (nI n)), none] [] g (rf_u A 14 w_) _
              refine rr_nx (pc' := 50) (al' := [some (.ref 146), some (.int (nI p)), some (.int (nI x)), some (.int (nI (ORs (roF n c x p) n))), some (.int (nI n)), none]) (st' := [.int (nI n)]) d_243_48 (fun _ => rfl) ?_
              refine rr_nx (pc' := 51) (al' := [some (.ref 146), some (.int (nI p)), some (.int (nI x)), some (.int (nI (ORs (roF n c x p) n))), some (.int (nI n)), none]) (st' := [.ref 146, .int (nI n)]) d_243_50 (fun _ => rfl) ?_
              refine rr_gn d_243_51 mo_243 fl_127 rfl hc.1 ?_
              refine rn_cge (t := 85) d_243_54 (by decide) (by first | omega | assumption | exact cu_36 (by omega) (cu_lt (by omega) (by omega))) (by first | omega | assumption | exact cu_36 (by omega) (cu_lt (by omega) (by omega))) (fun c54 => ?_) (fun c54 => ?_)
              · show RR _ _ 85 [some (.ref 146), some (.int (nI p)), some (.int (nI x)), some (.int (nI (roN n c x p))), some (.int (nI n)), none] [] g (rf_u A 14 w_) _
                refine rn_ic (v := 0) d_243_85 (by decide) ?_
                refine rr_nx (pc' := 88) (al' := [some (.ref 146), some (.int (nI p)), some (.int (nI x)), some (.int (nI (roN n c x p))), some (.int (nI 0)), none]) (st' := []) d_243_86 (fun _ => rfl) ?_
                refine rr_up (al := fun k => [some (.ref 146), some (.int (nI p)), some (.int (nI x)), some (.int (nI (roN n c x p))), some (.int (nI k)), none]) (G := fun k => g) (B := fun k => (rf_u A 14 w_)) (P := fun k => True) (n := lwN n c p x) (fun k hk pk ihk => ?_) (fun pk => ?_) 0  (by omega) (trivial)
                · show RR _ _ 88 [some (.ref 146), some (.int (nI p)), some (.int (nI x)), some (.int (nI (roN n c x p))), some (.int (nI k)), none] [] g (rf_u A 14 w_) _
                  have hbk := bt_lt (roN n c x p) k
                  refine rr_nx (pc' := 89) (al' := [some (.ref 146), some (.int (nI p)), some (.int (nI x)), some (.int (nI (roN n c x p))), some (.int (nI k)), none]) (st' := [.int (nI (roN n c x p))]) d_243_88 (fun _ => rfl) ?_
                  refine rr_nx (pc' := 91) (al' := [some (.ref 146), some (.int (nI p)), some (.int (nI x)), some (.int (nI (roN n c x p))), some (.int (nI k)), none]) (st' := [.int (nI k), .int (nI (roN n c x p))]) d_243_89 (fun _ => rfl) ?_
                  refine rn_shr d_243_91 (by omega) (by omega) ?_
                  refine rn_ic (v := 1) d_243_92 (by decide) ?_
                  refine rn_and d_243_93 ?_
                  refine rn_ine (t := 103) d_243_94 (by decide) (by omega) (fun c94 => ?_) (fun c94 => ?_)
                  · exact absurd (bt_p0.mp c94) (by intro q; have := l3 k q; omega)
                  · refine rn_inc d_243_97 rfl rfl ?_
                    show RR _ _ 100 [some (.ref 146), some (.int (nI p)), some (.int (nI x)), some (.int (nI (roN n c x p))), some (.int (nI (k + 1))), none] [] g (rf_u A 14 w_) _
                    refine rr_nx (pc' := 88) (al' := [some (.ref 146), some (.int (nI p)), some (.int (nI x)), some (.int (nI (roN n c x p))), some (.int (nI (k + 1))), none]) (st' := []) d_243_100 (fun _ => rfl) ?_
                    exact ihk  (trivial)
                · show RR _ _ 88 [some (.ref 146), some (.int (nI p)), some (.int (nI x)), some (.int (nI (roN n c x p))), some (.int (nI (lwN n c p x))), none] [] g (rf_u A 14 w_) _
                  have hbk := bt_lt (roN n c x p) (lwN n c p x)
                  refine rr_nx (pc' := 89) (al' := [some (.ref 146), some (.int (nI p)), some (.int (nI x)), some (.int (nI (roN n c x p))), some (.int (nI (lwN n c p x))), none]) (st' := [.int (nI (roN n c x p))]) d_243_88 (fun _ => rfl) ?_
                  refine rr_nx (pc' := 91) (al' := [some (.ref 146), some (.int (nI p)), some (.int (nI x)), some (.int (nI (roN n c x p))), some (.int (nI (lwN n c p x))), none]) (st' := [.int (nI (lwN n c p x)), .int (nI (roN n c x p))]) d_243_89 (fun _ => rfl) ?_
                  refine rn_shr d_243_91 (by omega) (by omega) ?_
                  refine rn_ic (v := 1) d_243_92 (by decide) ?_
                  refine rn_and d_243_93 ?_
                  refine rn_ine (t := 103) d_243_94 (by decide) (by omega) (fun c94 => ?_) (fun c94 => ?_)
                  · refine rn_ic (v := 0) d_243_103 (by decide) ?_
                    refine rr_nx (pc' := 106) (al' := [some (.ref 146), some (.int (nI p)), some (.int (nI x)), some (.int (nI (roN n c x p))), some (.int (nI (lwN n c p x))), some (.int (nI 0))]) (st' := []) d_243_104 (fun _ => rfl) ?_
                    refine rr_upw (al := fun y w_ => [some (.ref 146), some (.int (nI p)), some (.int (nI x)), some (.int (nI (roN n c x p))), some (.int (nI (lwN n c p x))), some (.int (nI y))]) (G := fun y w_ => g) (B := fun y w_ => (rf_u A 14 w_)) (P := fun y w_ => ClJ n c p x y w_) (n := n) (fun y w_ hy py ihy => ?_) (fun w_ py => ?_) 0 w_ (by omega) (Cl_I px)
                    · show RR _ _ 106 [some (.ref 146), some (.int (nI p)), some (.int (nI x)), some (.int (nI (roN n c x p))), some (.int (nI (lwN n c p x))), some (.int (nI y))] [] g (rf_u A 14 w_) _
                      have hby := bt_lt (roN n c x p) y
                      refine rr_nx (pc' := 108) (al' := [some (.ref 146), some (.int (nI p)), some (.int (nI x)), some (.int (nI (roN n c x p))), some (.int (nI (lwN n c p x))), some (.int (nI y))]) (st' := [.int (nI y)]) d_243_106 (fun _ => rfl) ?_
                      refine rr_nx (pc' := 109) (al' := [some (.ref 146), some (.int (nI p)), some (.int (nI x)), some (.int (nI (roN n c x p))), some (.int (nI (lwN n c p x))), some (.int (nI y))]) (st' := [.ref 146, .int (nI y)]) d_243_108 (fun _ => rfl) ?_
                      refine rr_gn d_243_109 mo_243 fl_127 rfl hc.1 ?_
                      refine rn_cge (t := 167) d_243_112 (by decide) (by first | omega | assumption | exact cu_36 (by omega) (cu_lt (by omega) (by omega))) (by first | omega | assumption | exact cu_36 (by omega) (cu_lt (by omega) (by omega))) (fun c112 => ?_) (fun c112 => ?_)
                      · omega
                      · refine rr_nx (pc' := 116) (al' := [some (.ref 146), some (.int (nI p)), some (.int (nI x)), some (.int (nI (roN n c x p))), some (.int (nI (lwN n c p x))), some (.int (nI y))]) (st' := [.int (nI (roN n c x p))]) d_243_115 (fun _ => rfl) ?_
                        refine rr_nx (pc' := 118) (al' := [some (.ref 146), some (.int (nI p)), some (.int (nI x)), some (.int (nI (roN n c x p))), some (.int (nI (lwN n c p x))), some (.int (nI y))]) (st' := [.int (nI y), .int (nI (roN n c x p))]) d_243_116 (fun _ => rfl) ?_
                        refine rn_shr d_243_118 (by omega) (by omega) ?_
                        refine rn_ic (v := 1) d_243_119 (by decide) ?_
                        refine rn_and d_243_120 ?_
                        refine rn_ine (t := 127) d_243_121 (by decide) (by omega) (fun c121 => ?_) (fun c121 => ?_)
                        · have hbt := bt_p0.mp c121
                          refine rr_nx (pc' := 128) (al' := [some (.ref 146), some (.int (nI p)), some (.int (nI x)), some (.int (nI (roN n c x p))), some (.int (nI (lwN n c p x))), some (.int (nI y))]) (st' := [.ref 146]) d_243_127 (fun _ => rfl) ?_
                          refine rr_gf (v := .ref (147 + 14)) d_243_128 mo_243 fl_58 rfl ?_
                          refine rr_nx (pc' := 133) (al' := [some (.ref 146), some (.int (nI p)), some (.int (nI x)), some (.int (nI (roN n c x p))), some (.int (nI (lwN n c p x))), some (.int (nI y))]) (st' := [.int (nI y), .ref (147 + 14)]) d_243_131 (fun _ => rfl) ?_
                          refine rr_ia (j := 14) (v := (w_ y)) d_243_133 (by decide) rfl (by decide) (show y < 6 by first | omega | assumption | exact cu_36 (by omega) (cu_lt (by omega) (by omega))) rfl ?_
                          refine rr_nx (pc' := 135) (al' := [some (.ref 146), some (.int (nI p)), some (.int (nI x)), some (.int (nI (roN n c x p))), some (.int (nI (lwN n c p x))), some (.int (nI y))]) (st' := [.int (-1), .int (w_ y)]) d_243_134 (fun _ => rfl) ?_
                          refine rr_ceq (t := 152) d_243_135 (by decide) (fun c135 => ?_) (fun c135 => ?_)
                          · have hlw6 : ∀ x_, x_ ≤ x → lwN n c p x_ < 6 := fun x_ hx_ => by have := (lw_f hn6 hl.1 (show x_ < n by omega) hp0 hp).1; omega
                            refine rr_nx (pc' := 153) (al' := [some (.ref 146), some (.int (nI p)), some (.int (nI x)), some (.int (nI (roN n c x p))), some (.int (nI (lwN n c p x))), some (.int (nI y))]) (st' := [.ref 146]) d_243_152 (fun _ => rfl) ?_
                            refine rr_gf (v := .ref (147 + 14)) d_243_153 mo_243 fl_58 rfl ?_
                            refine rr_nx (pc' := 158) (al' := [some (.ref 146), some (.int (nI p)), some (.int (nI x)), some (.int (nI (roN n c x p))), some (.int (nI (lwN n c p x))), some (.int (nI y))]) (st' := [.int (nI y), .ref (147 + 14)]) d_243_156 (fun _ => rfl) ?_
                            refine rr_nx (pc' := 160) (al' := [some (.ref 146), some (.int (nI p)), some (.int (nI x)), some (.int (nI (roN n c x p))), some (.int (nI (lwN n c p x))), some (.int (nI y))]) (st' := [.int (nI (lwN n c p x)), .int (nI y), .ref (147 + 14)]) d_243_158 (fun _ => rfl) ?_
                            refine rr_iS (j := 14) (A1 := (rf_u A 14 (upd w_ y (nI (lwN n c p x))))) d_243_160 (by decide) rfl (by decide) (show y < 6 by first | omega | assumption | exact cu_36 (by omega) (cu_lt (by omega) (by omega))) rf_uw ?_
                            refine rn_inc d_243_161 rfl rfl ?_
                            show RR _ _ 164 [some (.ref 146), some (.int (nI p)), some (.int (nI x)), some (.int (nI (roN n c x p))), some (.int (nI (lwN n c p x))), some (.int (nI (y + 1)))] [] g (rf_u A 14 (upd w_ y (nI (lwN n c p x)))) _
                            refine rr_nx (pc' := 106) (al' := [some (.ref 146), some (.int (nI p)), some (.int (nI x)), some (.int (nI (roN n c x p))), some (.int (nI (lwN n c p x))), some (.int (nI (y + 1)))]) (st' := []) d_243_164 (fun _ => rfl) ?_
                            exact ihy (upd w_ y (nI (lwN n c p x))) (Cl_yes py hy hbt (Or.inl c135) hlw6)
                          · refine rr_nx (pc' := 139) (al' := [some (.ref 146), some (.int (nI p)), some (.int (nI x)), some (.int (nI (roN n c x p))), some (.int (nI (lwN n c p x))), some (.int (nI y))]) (st' := [.ref 146]) d_243_138 (fun _ => rfl) ?_
                            refine rr_gf (v := .ref (147 + 14)) d_243_139 mo_243 fl_58 rfl ?_
                            refine rr_nx (pc' := 144) (al' := [some (.ref 146), some (.int (nI p)), some (.int (nI x)), some (.int (nI (roN n c x p))), some (.int (nI (lwN n c p x))), some (.int (nI y))]) (st' := [.int (nI y), .ref (147 + 14)]) d_243_142 (fun _ => rfl) ?_
                            refine rr_ia (j := 14) (v := (w_ y)) d_243_144 (by decide) rfl (by decide) (show y < 6 by first | omega | assumption | exact cu_36 (by omega) (cu_lt (by omega) (by omega))) rfl ?_
                            refine rr_nx (pc' := 147) (al' := [some (.ref 146), some (.int (nI p)), some (.int (nI x)), some (.int (nI (roN n c x p))), some (.int (nI (lwN n c p x))), some (.int (nI y))]) (st' := [.int (nI (lwN n c p x)), .int (w_ y)]) d_243_145 (fun _ => rfl) ?_
                            refine rr_ceq (t := 152) d_243_147 (by decide) (fun c147 => ?_) (fun c147 => ?_)
                            · have hlw6 : ∀ x_, x_ ≤ x → lwN n c p x_ < 6 := fun x_ hx_ => by have := (lw_f hn6 hl.1 (show x_ < n by omega) hp0 hp).1; omega
                              refine rr_nx (pc' := 153) (al' := [some (.ref 146), some (.int (nI p)), some (.int (nI x)), some (.int (nI (roN n c x p))), some (.int (nI (lwN n c p x))), some (.int (nI y))]) (st' := [.ref 146]) d_243_152 (fun _ => rfl) ?_
                              refine rr_gf (v := .ref (147 + 14)) d_243_153 mo_243 fl_58 rfl ?_
                              refine rr_nx (pc' := 158) (al' := [some (.ref 146), some (.int (nI p)), some (.int (nI x)), some (.int (nI (roN n c x p))), some (.int (nI (lwN n c p x))), some (.int (nI y))]) (st' := [.int (nI y), .ref (147 + 14)]) d_243_156 (fun _ => rfl) ?_
                              refine rr_nx (pc' := 160) (al' := [some (.ref 146), some (.int (nI p)), some (.int (nI x)), some (.int (nI (roN n c x p))), some (.int (nI (lwN n c p x))), some (.int (nI y))]) (st' := [.int (nI (lwN n c p x)), .int (nI y), .ref (147 + 14)]) d_243_158 (fun _ => rfl) ?_
                              refine rr_iS (j := 14) (A1 := (rf_u A 14 (upd w_ y (nI (lwN n c p x))))) d_243_160 (by decide) rfl (by decide) (show y < 6 by first | omega | assumption | exact cu_36 (by omega) (cu_lt (by omega) (by omega))) rf_uw ?_
                              refine rn_inc d_243_161 rfl rfl ?_
                              show RR _ _ 164 [some (.ref 146), some (.int (nI p)), some (.int (nI x)), some (.int (nI (roN n c x p))), some (.int (nI (lwN n c p x))), some (.int (nI (y + 1)))] [] g (rf_u A 14 (upd w_ y (nI (lwN n c p x)))) _
                              refine rr_nx (pc' := 106) (al' := [some (.ref 146), some (.int (nI p)), some (.int (nI x)), some (.int (nI (roN n c x p))), some (.int (nI (lwN n c p x))), some (.int (nI (y + 1)))]) (st' := []) d_243_164 (fun _ => rfl) ?_
                              exact ihy (upd w_ y (nI (lwN n c p x))) (Cl_yes py hy hbt (Or.inr c147) hlw6)
                            · refine rn_ic (v := 0) d_243_150 (by decide) ?_
                              exact rr_ri d_243_151 mr_243 (by decide) ⟨by rw [bI_f (show ¬ Nrm n c p from fun e => Cl_bad py hx hy hbt c135 c147 e.2.1)], rfl, w_, rfl, fun e => absurd e (fun e => Cl_bad py hx hy hbt c135 c147 e.2.1)⟩
                        · refine rr_nx (pc' := 161) (al' := [some (.ref 146), some (.int (nI p)), some (.int (nI x)), some (.int (nI (roN n c x p))), some (.int (nI (lwN n c p x))), some (.int (nI y))]) (st' := []) d_243_124 (fun _ => rfl) ?_
                          refine rn_inc d_243_161 rfl rfl ?_
                          show RR _ _ 164 [some (.ref 146), some (.int (nI p)), some (.int (nI x)), some (.int (nI (roN n c x p))), some (.int (nI (lwN n c p x))), some (.int (nI (y + 1)))] [] g (rf_u A 14 w_) _
                          refine rr_nx (pc' := 106) (al' := [some (.ref 146), some (.int (nI p)), some (.int (nI x)), some (.int (nI (roN n c x p))), some (.int (nI (lwN n c p x))), some (.int (nI (y + 1)))]) (st' := []) d_243_164 (fun _ => rfl) ?_
                          exact ihy w_ (Cl_no py (bt_e0.mp c121))
                    · show RR _ _ 106 [some (.ref 146), some (.int (nI p)), some (.int (nI x)), some (.int (nI (roN n c x p))), some (.int (nI (lwN n c p x))), some (.int (nI n))] [] g (rf_u A 14 w_) _
                      refine rr_nx (pc' := 108) (al' := [some (.ref 146), some (.int (nI p)), some (.int (nI x)), some (.int (nI (roN n c x p))), some (.int (nI (lwN n c p x))), some (.int (nI n))]) (st' := [.int (nI n)]) d_243_106 (fun _ => rfl) ?_
                      refine rr_nx (pc' := 109) (al' := [some (.ref 146), some (.int (nI p)), some (.int (nI x)), some (.int (nI (roN n c x p))), some (.int (nI (lwN n c p x))), some (.int (nI n))]) (st' := [.ref 146, .int (nI n)]) d_243_108 (fun _ => rfl) ?_
                      refine rr_gn d_243_109 mo_243 fl_127 rfl hc.1 ?_
                      refine rn_cge (t := 167) d_243_112 (by decide) (by first | omega | assumption | exact cu_36 (by omega) (cu_lt (by omega) (by omega))) (by first | omega | assumption | exact cu_36 (by omega) (cu_lt (by omega) (by omega))) (fun c112 => ?_) (fun c112 => ?_)
                      · refine rn_inc d_243_167 rfl rfl ?_
                        show RR _ _ 170 [some (.ref 146), some (.int (nI p)), some (.int (nI (x + 1))), some (.int (nI (roN n c x p))), some (.int (nI (lwN n c p x))), some (.int (nI n))] [] g (rf_u A 14 w_) _
                        refine rr_nx (pc' := 35) (al' := [some (.ref 146), some (.int (nI p)), some (.int (nI (x + 1))), some (.int (nI (roN n c x p))), some (.int (nI (lwN n c p x))), some (.int (nI n))]) (st' := []) d_243_170 (fun _ => rfl) ?_
                        refine rr_dr (al1 := [some (.ref 146), some (.int (nI p)), some (.int (nI (x + 1))), none, none, none]) (le_s (le_s (le_s (le_d rfl (le_d rfl (le_d rfl (le_n))))))) ?_
                        exact ihx w_ (Cl_J py)
                      · omega
                  · exact absurd l2 (by rw [show (roN n c x p).testBit (lwN n c p x) = false from bt_e0.mp c94]; exact Bool.false_ne_true)
              · omega
        · show RR _ _ 35 [some (.ref 146), some (.int (nI p)), some (.int (nI n)), none, none, none] [] g (rf_u A 14 w_) _
          refine rr_nx (pc' := 36) (al' := [some (.ref 146), some (.int (nI p)), some (.int (nI n)), none, none, none]) (st' := [.int (nI n)]) d_243_35 (fun _ => rfl) ?_
          refine rr_nx (pc' := 37) (al' := [some (.ref 146), some (.int (nI p)), some (.int (nI n)), none, none, none]) (st' := [.ref 146, .int (nI n)]) d_243_36 (fun _ => rfl) ?_
          refine rr_gn d_243_37 mo_243 fl_127 rfl hc.1 ?_
          refine rn_cge (t := 173) d_243_40 (by decide) (by first | omega | assumption | exact cu_36 (by omega) (cu_lt (by omega) (by omega))) (by first | omega | assumption | exact cu_36 (by omega) (cu_lt (by omega) (by omega))) (fun c40 => ?_) (fun c40 => ?_)
          · refine rn_ic (v := 0) d_243_173 (by decide) ?_
            refine rr_nx (pc' := 175) (al' := [some (.ref 146), some (.int (nI p)), some (.int (nI 0)), none, none, none]) (st' := []) d_243_174 (fun _ => rfl) ?_
            refine rr_up (al := fun x2 => [some (.ref 146), some (.int (nI p)), some (.int (nI x2)), none, none, none]) (G := fun x2 => g) (B := fun x2 => (rf_u A 14 w_)) (P := fun x2 => ∀ u, u < x2 → szN n c p u n = onN p) (n := n) (fun x2 hx2 px2 ihx2 => ?_) (fun px2 => ?_) 0  (by omega) (all_0)
            · show RR _ _ 175 [some (.ref 146), some (.int (nI p)), some (.int (nI x2)), none, none, none] [] g (rf_u A 14 w_) _
              have hcl : ∀ y, y < n → w_ y = nI (lwN n c p y) := fun y hy => (px y hy).1 y hy (uni_in hn6 hl hu c5 y hy)
              have hrow : ∀ x, x < n → ∀ y, y < n → (roN n c x p).testBit y = true → lwN n c p y = lwN n c p x := fun x hx y hy q => by
                have := (px y hy).1 x hx q
                rw [hcl y hy] at this
                exact (nI_eq (by have := (lw_f hn6 hl.1 hy hp0 hp).1; omega) (by have := (lw_f hn6 hl.1 hx hp0 hp).1; omega)).mp this
              have l1 := (lw_f hn6 hl.1 hx2 hp0 hp).1
              refine rr_nx (pc' := 176) (al' := [some (.ref 146), some (.int (nI p)), some (.int (nI x2)), none, none, none]) (st' := [.int (nI x2)]) d_243_175 (fun _ => rfl) ?_
              refine rr_nx (pc' := 177) (al' := [some (.ref 146), some (.int (nI p)), some (.int (nI x2)), none, none, none]) (st' := [.ref 146, .int (nI x2)]) d_243_176 (fun _ => rfl) ?_
              refine rr_gn d_243_177 mo_243 fl_127 rfl hc.1 ?_
              refine rn_cge (t := 253) d_243_180 (by decide) (by first | omega | assumption | exact cu_36 (by omega) (cu_lt (by omega) (by omega))) (by first | omega | assumption | exact cu_36 (by omega) (cu_lt (by omega) (by omega))) (fun c180 => ?_) (fun c180 => ?_)
              · omega
              · refine rn_ic (v := 0) d_243_183 (by decide) ?_
                refine rr_nx (pc' := 185) (al' := [some (.ref 146), some (.int (nI p)), some (.int (nI x2)), some (.int (nI 0)), none, none]) (st' := []) d_243_184 (fun _ => rfl) ?_
                refine rn_ic (v := 0) d_243_185 (by decide) ?_
                refine rr_nx (pc' := 188) (al' := [some (.ref 146), some (.int (nI p)), some (.int (nI x2)), some (.int (nI 0)), some (.int (nI 0)), none]) (st' := []) d_243_186 (fun _ => rfl) ?_
                refine rr_al (congrArg (fun z__ : Nat => ([some (.ref 146), some (.int (nI p)), some (.int (nI x2)), some (.int (nI z__)), some (.int (nI 0)), none] : AL)) (show 0 = szN n c p x2 0 by rfl)) ?_
                refine rr_up (al := fun y2 => [some (.ref 146), some (.int (nI p)), some (.int (nI x2)), some (.int (nI (szN n c p x2 y2))), some (.int (nI y2)), none]) (G := fun y2 => g) (B := fun y2 => (rf_u A 14 w_)) (P := fun y2 => True) (n := n) (fun y2 hy2 py2 ihy2 => ?_) (fun py2 => ?_) 0  (by omega) (trivial)
                · show RR _ _ 188 [some (.ref 146), some (.int (nI p)), some (.int (nI x2)), some (.int (nI (szN n c p x2 y2))), some (.int (nI y2)), none] [] g (rf_u A 14 w_) _
                  have l2 := (lw_f hn6 hl.1 hy2 hp0 hp).1
                  refine rr_nx (pc' := 190) (al' := [some (.ref 146), some (.int (nI p)), some (.int (nI x2)), some (.int (nI (szN n c p x2 y2))), some (.int (nI y2)), none]) (st' := [.int (nI y2)]) d_243_188 (fun _ => rfl) ?_
                  refine rr_nx (pc' := 191) (al' := [some (.ref 146), some (.int (nI p)), some (.int (nI x2)), some (.int (nI (szN n c p x2 y2))), some (.int (nI y2)), none]) (st' := [.ref 146, .int (nI y2)]) d_243_190 (fun _ => rfl) ?_
                  refine rr_gn d_243_191 mo_243 fl_127 rfl hc.1 ?_
                  refine rn_cge (t := 227) d_243_194 (by decide) (by first | omega | assumption | exact cu_36 (by omega) (cu_lt (by omega) (by omega))) (by first | omega | assumption | exact cu_36 (by omega) (cu_lt (by omega) (by omega))) (fun c194 => ?_) (fun c194 => ?_)
                  · omega
                  · refine rr_nx (pc' := 198) (al' := [some (.ref 146), some (.int (nI p)), some (.int (nI x2)), some (.int (nI (szN n c p x2 y2))), some (.int (nI y2)), none]) (st' := [.int (nI (szN n c p x2 y2))]) d_243_197 (fun _ => rfl) ?_
                    refine rr_nx (pc' := 199) (al' := [some (.ref 146), some (.int (nI p)), some (.int (nI x2)), some (.int (nI (szN n c p x2 y2))), some (.int (nI y2)), none]) (st' := [.ref 146, .int (nI (szN n c p x2 y2))]) d_243_198 (fun _ => rfl) ?_
                    refine rr_gf (v := .ref (147 + 14)) d_243_199 mo_243 fl_58 rfl ?_
                    refine rr_nx (pc' := 204) (al' := [some (.ref 146), some (.int (nI p)), some (.int (nI x2)), some (.int (nI (szN n c p x2 y2))), some (.int (nI y2)), none]) (st' := [.int (nI y2), .ref (147 + 14), .int (nI (szN n c p x2 y2))]) d_243_202 (fun _ => rfl) ?_
                    refine rr_ia (j := 14) (v := (nI (lwN n c p y2))) d_243_204 (by decide) rfl (by decide) (show y2 < 6 by first | omega | assumption | exact cu_36 (by omega) (cu_lt (by omega) (by omega))) (hcl y2 hy2) ?_
                    refine rr_nx (pc' := 206) (al' := [some (.ref 146), some (.int (nI p)), some (.int (nI x2)), some (.int (nI (szN n c p x2 y2))), some (.int (nI y2)), none]) (st' := [.ref 146, .int (nI (lwN n c p y2)), .int (nI (szN n c p x2 y2))]) d_243_205 (fun _ => rfl) ?_
                    refine rr_gf (v := .ref (147 + 14)) d_243_206 mo_243 fl_58 rfl ?_
                    refine rr_nx (pc' := 210) (al' := [some (.ref 146), some (.int (nI p)), some (.int (nI x2)), some (.int (nI (szN n c p x2 y2))), some (.int (nI y2)), none]) (st' := [.int (nI x2), .ref (147 + 14), .int (nI (lwN n c p y2)), .int (nI (szN n c p x2 y2))]) d_243_209 (fun _ => rfl) ?_
                    refine rr_ia (j := 14) (v := (nI (lwN n c p x2))) d_243_210 (by decide) rfl (by decide) (show x2 < 6 by first | omega | assumption | exact cu_36 (by omega) (cu_lt (by omega) (by omega))) (hcl x2 hx2) ?_
                    refine rn_cne (t := 218) d_243_211 (by decide) (by first | omega | assumption | exact cu_36 (by omega) (cu_lt (by omega) (by omega))) (by first | omega | assumption | exact cu_36 (by omega) (cu_lt (by omega) (by omega))) (fun c211 => ?_) (fun c211 => ?_)
                    · refine rn_ic (v := 0) d_243_218 (by decide) ?_
                      refine rn_add d_243_219  ?_
                      refine rr_nx (pc' := 221) (al' := [some (.ref 146), some (.int (nI p)), some (.int (nI x2)), some (.int (nI ((szN n c p x2 y2) + 0))), some (.int (nI y2)), none]) (st' := []) d_243_220 (fun _ => rfl) ?_
                      refine rn_inc d_243_221 rfl rfl ?_
                      show RR _ _ 224 [some (.ref 146), some (.int (nI p)), some (.int (nI x2)), some (.int (nI ((szN n c p x2 y2) + 0))), some (.int (nI (y2 + 1))), none] [] g (rf_u A 14 w_) _
                      refine rr_nx (pc' := 188) (al' := [some (.ref 146), some (.int (nI p)), some (.int (nI x2)), some (.int (nI ((szN n c p x2 y2) + 0))), some (.int (nI (y2 + 1))), none]) (st' := []) d_243_224 (fun _ => rfl) ?_
                      refine rr_al (congrArg (fun z__ : Nat => ([some (.ref 146), some (.int (nI p)), some (.int (nI x2)), some (.int (nI z__)), some (.int (nI (y2 + 1))), none] : AL)) (show (szN n c p x2 y2) + 0 = szN n c p x2 (y2 + 1) by rw [szN, szN, SM_s, if_neg c211])) ?_
                      exact ihy2  (trivial)
                    · refine rn_ic (v := 1) d_243_214 (by decide) ?_
                      refine rr_nx (pc' := 219) (al' := [some (.ref 146), some (.int (nI p)), some (.int (nI x2)), some (.int (nI (szN n c p x2 y2))), some (.int (nI y2)), none]) (st' := [.int (nI 1), .int (nI (szN n c p x2 y2))]) d_243_215 (fun _ => rfl) ?_
                      refine rn_add d_243_219  ?_
                      refine rr_nx (pc' := 221) (al' := [some (.ref 146), some (.int (nI p)), some (.int (nI x2)), some (.int (nI ((szN n c p x2 y2) + 1))), some (.int (nI y2)), none]) (st' := []) d_243_220 (fun _ => rfl) ?_
                      refine rn_inc d_243_221 rfl rfl ?_
                      show RR _ _ 224 [some (.ref 146), some (.int (nI p)), some (.int (nI x2)), some (.int (nI ((szN n c p x2 y2) + 1))), some (.int (nI (y2 + 1))), none] [] g (rf_u A 14 w_) _
                      refine rr_nx (pc' := 188) (al' := [some (.ref 146), some (.int (nI p)), some (.int (nI x2)), some (.int (nI ((szN n c p x2 y2) + 1))), some (.int (nI (y2 + 1))), none]) (st' := []) d_243_224 (fun _ => rfl) ?_
                      refine rr_al (congrArg (fun z__ : Nat => ([some (.ref 146), some (.int (nI p)), some (.int (nI x2)), some (.int (nI z__)), some (.int (nI (y2 + 1))), none] : AL)) (show (szN n c p x2 y2) + 1 = szN n c p x2 (y2 + 1) by rw [szN, szN, SM_s, if_pos c211])) ?_
                      exact ihy2  (trivial)
                · show RR _ _ 188 [some (.ref 146), some (.int (nI p)), some (.int (nI x2)), some (.int (nI (szN n c p x2 n))), some (.int (nI n)), none] [] g (rf_u A 14 w_) _
                  have hsz : szN n c p x2 n ≤ n := SM_1 (fun i => by split <;> omega)
                  have ho16 := onN_16 p
                  refine rr_nx (pc' := 190) (al' := [some (.ref 146), some (.int (nI p)), some (.int (nI x2)), some (.int (nI (szN n c p x2 n))), some (.int (nI n)), none]) (st' := [.int (nI n)]) d_243_188 (fun _ => rfl) ?_
                  refine rr_nx (pc' := 191) (al' := [some (.ref 146), some (.int (nI p)), some (.int (nI x2)), some (.int (nI (szN n c p x2 n))), some (.int (nI n)), none]) (st' := [.ref 146, .int (nI n)]) d_243_190 (fun _ => rfl) ?_
                  refine rr_gn d_243_191 mo_243 fl_127 rfl hc.1 ?_
                  refine rn_cge (t := 227) d_243_194 (by decide) (by first | omega | assumption | exact cu_36 (by omega) (cu_lt (by omega) (by omega))) (by first | omega | assumption | exact cu_36 (by omega) (cu_lt (by omega) (by omega))) (fun c194 => ?_) (fun c194 => ?_)
                  · refine rr_nx (pc' := 228) (al' := [some (.ref 146), some (.int (nI p)), some (.int (nI x2)), some (.int (nI (szN n c p x2 n))), some (.int (nI n)), none]) (st' := [.ref 146]) d_243_227 (fun _ => rfl) ?_
                    refine rr_gf (v := .ref (147 + 14)) d_243_228 mo_243 fl_58 rfl ?_
                    refine rr_nx (pc' := 232) (al' := [some (.ref 146), some (.int (nI p)), some (.int (nI x2)), some (.int (nI (szN n c p x2 n))), some (.int (nI n)), none]) (st' := [.int (nI x2), .ref (147 + 14)]) d_243_231 (fun _ => rfl) ?_
                    refine rr_ia (j := 14) (v := (nI (lwN n c p x2))) d_243_232 (by decide) rfl (by decide) (show x2 < 6 by first | omega | assumption | exact cu_36 (by omega) (cu_lt (by omega) (by omega))) (hcl x2 hx2) ?_
                    refine rr_nx (pc' := 234) (al' := [some (.ref 146), some (.int (nI p)), some (.int (nI x2)), some (.int (nI (szN n c p x2 n))), some (.int (nI n)), none]) (st' := [.int (-1), .int (nI (lwN n c p x2))]) d_243_233 (fun _ => rfl) ?_
                    refine rr_ceq (t := 245) d_243_234 (by decide) (fun c234 => ?_) (fun c234 => ?_)
                    · exact absurd c234 (ia_ne (by omega))
                    · refine rr_nx (pc' := 238) (al' := [some (.ref 146), some (.int (nI p)), some (.int (nI x2)), some (.int (nI (szN n c p x2 n))), some (.int (nI n)), none]) (st' := [.int (nI (szN n c p x2 n))]) d_243_237 (fun _ => rfl) ?_
                      refine rr_nx (pc' := 239) (al' := [some (.ref 146), some (.int (nI p)), some (.int (nI x2)), some (.int (nI (szN n c p x2 n))), some (.int (nI n)), none]) (st' := [.int (nI p), .int (nI (szN n c p x2 n))]) d_243_238 (fun _ => rfl) ?_
                      refine rr_ps (as := [.int (nI p)]) (al0 := [some (.int (nI p)), none, none]) (r := [.int (nI (szN n c p x2 n))]) d_243_239 mo_243 ml_292 mz_247 rfl rfl rfl (Nat.le_of_ble_eq_true rfl) (s_ones (by omega)) ?_
                      show RR _ _ 242 [some (.ref 146), some (.int (nI p)), some (.int (nI x2)), some (.int (nI (szN n c p x2 n))), some (.int (nI n)), none] [.int (nI (onN p)), .int (nI (szN n c p x2 n))] g (rf_u A 14 w_) _
                      refine rn_ceq (t := 247) d_243_242 (by decide) (by omega) (by omega) (fun c242 => ?_) (fun c242 => ?_)
                      · refine rn_inc d_243_247 rfl rfl ?_
                        show RR _ _ 250 [some (.ref 146), some (.int (nI p)), some (.int (nI (x2 + 1))), some (.int (nI (szN n c p x2 n))), some (.int (nI n)), none] [] g (rf_u A 14 w_) _
                        refine rr_nx (pc' := 175) (al' := [some (.ref 146), some (.int (nI p)), some (.int (nI (x2 + 1))), some (.int (nI (szN n c p x2 n))), some (.int (nI n)), none]) (st' := []) d_243_250 (fun _ => rfl) ?_
                        refine rr_dr (al1 := [some (.ref 146), some (.int (nI p)), some (.int (nI (x2 + 1))), none, none, none]) (le_s (le_s (le_s (le_d rfl (le_d rfl (le_s (le_n))))))) ?_
                        exact ihx2  (all_s (p := fun u => szN n c p u n = onN p) px2 c242)
                      · refine rn_ic (v := 0) d_243_245 (by decide) ?_
                        exact rr_ri d_243_246 mr_243 (by decide) ⟨by rw [bI_f (show ¬ Nrm n c p from fun e => c242 (sz_Fa hn6 hl hu e.1 e.2.1 hx2))], rfl, w_, rfl, fun e => absurd e (fun e => c242 (sz_Fa hn6 hl hu e.1 e.2.1 hx2))⟩
                  · omega
            · show RR _ _ 175 [some (.ref 146), some (.int (nI p)), some (.int (nI n)), none, none, none] [] g (rf_u A 14 w_) _
              have hcl : ∀ y, y < n → w_ y = nI (lwN n c p y) := fun y hy => (px y hy).1 y hy (uni_in hn6 hl hu c5 y hy)
              have hrow : ∀ x, x < n → ∀ y, y < n → (roN n c x p).testBit y = true → lwN n c p y = lwN n c p x := fun x hx y hy q => by
                have := (px y hy).1 x hx q
                rw [hcl y hy] at this
                exact (nI_eq (by have := (lw_f hn6 hl.1 hy hp0 hp).1; omega) (by have := (lw_f hn6 hl.1 hx hp0 hp).1; omega)).mp this
              refine rr_nx (pc' := 176) (al' := [some (.ref 146), some (.int (nI p)), some (.int (nI n)), none, none, none]) (st' := [.int (nI n)]) d_243_175 (fun _ => rfl) ?_
              refine rr_nx (pc' := 177) (al' := [some (.ref 146), some (.int (nI p)), some (.int (nI n)), none, none, none]) (st' := [.ref 146, .int (nI n)]) d_243_176 (fun _ => rfl) ?_
              refine rr_gn d_243_177 mo_243 fl_127 rfl hc.1 ?_
              refine rn_cge (t := 253) d_243_180 (by decide) (by first | omega | assumption | exact cu_36 (by omega) (cu_lt (by omega) (by omega))) (by first | omega | assumption | exact cu_36 (by omega) (cu_lt (by omega) (by omega))) (fun c180 => ?_) (fun c180 => ?_)
              · refine rn_ic (v := 0) d_243_253 (by decide) ?_
                refine rr_nx (pc' := 255) (al' := [some (.ref 146), some (.int (nI p)), some (.int (nI 0)), none, none, none]) (st' := []) d_243_254 (fun _ => rfl) ?_
                refine rr_up (al := fun x3 => [some (.ref 146), some (.int (nI p)), some (.int (nI x3)), none, none, none]) (G := fun x3 => g) (B := fun x3 => (rf_u A 14 w_)) (P := fun x3 => ∀ u, u < x3 → ∀ v, v < n → lwN n c p (c (n * u + v)) = lwN n c p (c (n * lwN n c p u + lwN n c p v))) (n := n) (fun x3 hx3 px3 ihx3 => ?_) (fun px3 => ?_) 0  (by omega) (all_0)
                · show RR _ _ 255 [some (.ref 146), some (.int (nI p)), some (.int (nI x3)), none, none, none] [] g (rf_u A 14 w_) _
                  have hF := Fa_of hn6 hl hp hp0 hrow px2
                  have l3 := (lw_f hn6 hl.1 hx3 hp0 hp).1
                  refine rr_nx (pc' := 256) (al' := [some (.ref 146), some (.int (nI p)), some (.int (nI x3)), none, none, none]) (st' := [.int (nI x3)]) d_243_255 (fun _ => rfl) ?_
                  refine rr_nx (pc' := 257) (al' := [some (.ref 146), some (.int (nI p)), some (.int (nI x3)), none, none, none]) (st' := [.ref 146, .int (nI x3)]) d_243_256 (fun _ => rfl) ?_
                  refine rr_gn d_243_257 mo_243 fl_127 rfl hc.1 ?_
                  refine rn_cge (t := 322) d_243_260 (by decide) (by first | omega | assumption | exact cu_36 (by omega) (cu_lt (by omega) (by omega))) (by first | omega | assumption | exact cu_36 (by omega) (cu_lt (by omega) (by omega))) (fun c260 => ?_) (fun c260 => ?_)
                  · omega
                  · refine rn_ic (v := 0) d_243_263 (by decide) ?_
                    refine rr_nx (pc' := 265) (al' := [some (.ref 146), some (.int (nI p)), some (.int (nI x3)), some (.int (nI 0)), none, none]) (st' := []) d_243_264 (fun _ => rfl) ?_
                    refine rr_up (al := fun y3 => [some (.ref 146), some (.int (nI p)), some (.int (nI x3)), some (.int (nI y3)), none, none]) (G := fun y3 => g) (B := fun y3 => (rf_u A 14 w_)) (P := fun y3 => ∀ v, v < y3 → lwN n c p (c (n * x3 + v)) = lwN n c p (c (n * lwN n c p x3 + lwN n c p v))) (n := n) (fun y3 hy3 py3 ihy3 => ?_) (fun py3 => ?_) 0  (by omega) (all_0)
                    · show RR _ _ 265 [some (.ref 146), some (.int (nI p)), some (.int (nI x3)), some (.int (nI y3)), none, none] [] g (rf_u A 14 w_) _
                      have l4 := (lw_f hn6 hl.1 hy3 hp0 hp).1
                      have l5 := (lw_f hn6 hl.1 (hl.b hx3 hy3) hp0 hp).1
                      have l6 := (lw_f hn6 hl.1 (hl.b l3 l4) hp0 hp).1
                      refine rr_nx (pc' := 266) (al' := [some (.ref 146), some (.int (nI p)), some (.int (nI x3)), some (.int (nI y3)), none, none]) (st' := [.int (nI y3)]) d_243_265 (fun _ => rfl) ?_
                      refine rr_nx (pc' := 267) (al' := [some (.ref 146), some (.int (nI p)), some (.int (nI x3)), some (.int (nI y3)), none, none]) (st' := [.ref 146, .int (nI y3)]) d_243_266 (fun _ => rfl) ?_
                      refine rr_gn d_243_267 mo_243 fl_127 rfl hc.1 ?_
                      refine rn_cge (t := 316) d_243_270 (by decide) (by first | omega | assumption | exact cu_36 (by omega) (cu_lt (by omega) (by omega))) (by first | omega | assumption | exact cu_36 (by omega) (cu_lt (by omega) (by omega))) (fun c270 => ?_) (fun c270 => ?_)
                      · omega
                      · refine rr_nx (pc' := 274) (al' := [some (.ref 146), some (.int (nI p)), some (.int (nI x3)), some (.int (nI y3)), none, none]) (st' := [.ref 146]) d_243_273 (fun _ => rfl) ?_
                        refine rr_gf (v := .ref (147 + 14)) d_243_274 mo_243 fl_58 rfl ?_
                        refine rr_nx (pc' := 278) (al' := [some (.ref 146), some (.int (nI p)), some (.int (nI x3)), some (.int (nI y3)), none, none]) (st' := [.ref 146, .ref (147 + 14)]) d_243_277 (fun _ => rfl) ?_
                        refine rr_nx (pc' := 279) (al' := [some (.ref 146), some (.int (nI p)), some (.int (nI x3)), some (.int (nI y3)), none, none]) (st' := [.int (nI x3), .ref 146, .ref (147 + 14)]) d_243_278 (fun _ => rfl) ?_
                        refine rr_nx (pc' := 280) (al' := [some (.ref 146), some (.int (nI p)), some (.int (nI x3)), some (.int (nI y3)), none, none]) (st' := [.int (nI y3), .int (nI x3), .ref 146, .ref (147 + 14)]) d_243_279 (fun _ => rfl) ?_
                        refine rr_pv (as := [.int (nI x3), .int (nI y3)]) (al0 := [some (.ref 146), some (.int (nI x3)), some (.int (nI y3))]) (r := [.ref (147 + 14)]) d_243_280 mo_243 ml_130 mz_213 rfl rfl rfl (Nat.le_of_ble_eq_true rfl) (s_times (hc.up (j := 14) (by decide)) (by omega) (by omega)) ?_
                        show RR _ _ 283 [some (.ref 146), some (.int (nI p)), some (.int (nI x3)), some (.int (nI y3)), none, none] [.int (nI (c (n * x3 + y3))), .ref (147 + 14)] g (rf_u A 14 w_) _
                        have b280 : c (n * x3 + y3) < n := (hc.2.2 _ (cu_lt (by omega) (by omega))).2
                        refine rr_ia (j := 14) (v := (nI (lwN n c p (c (n * x3 + y3))))) d_243_283 (by decide) rfl (by decide) (show c (n * x3 + y3) < 6 by have := hl.b hx3 hy3; omega) (hcl _ (hl.b hx3 hy3)) ?_
                        refine rr_nx (pc' := 285) (al' := [some (.ref 146), some (.int (nI p)), some (.int (nI x3)), some (.int (nI y3)), none, none]) (st' := [.ref 146, .int (nI (lwN n c p (c (n * x3 + y3))))]) d_243_284 (fun _ => rfl) ?_
                        refine rr_gf (v := .ref (147 + 14)) d_243_285 mo_243 fl_58 rfl ?_
                        refine rr_nx (pc' := 289) (al' := [some (.ref 146), some (.int (nI p)), some (.int (nI x3)), some (.int (nI y3)), none, none]) (st' := [.ref 146, .ref (147 + 14), .int (nI (lwN n c p (c (n * x3 + y3))))]) d_243_288 (fun _ => rfl) ?_
                        refine rr_nx (pc' := 290) (al' := [some (.ref 146), some (.int (nI p)), some (.int (nI x3)), some (.int (nI y3)), none, none]) (st' := [.ref 146, .ref 146, .ref (147 + 14), .int (nI (lwN n c p (c (n * x3 + y3))))]) d_243_289 (fun _ => rfl) ?_
                        refine rr_gf (v := .ref (147 + 14)) d_243_290 mo_243 fl_58 rfl ?_
                        refine rr_nx (pc' := 294) (al' := [some (.ref 146), some (.int (nI p)), some (.int (nI x3)), some (.int (nI y3)), none, none]) (st' := [.int (nI x3), .ref (147 + 14), .ref 146, .ref (147 + 14), .int (nI (lwN n c p (c (n * x3 + y3))))]) d_243_293 (fun _ => rfl) ?_
                        refine rr_ia (j := 14) (v := (nI (lwN n c p x3))) d_243_294 (by decide) rfl (by decide) (show x3 < 6 by first | omega | assumption | exact cu_36 (by omega) (cu_lt (by omega) (by omega))) (hcl x3 hx3) ?_
                        refine rr_nx (pc' := 296) (al' := [some (.ref 146), some (.int (nI p)), some (.int (nI x3)), some (.int (nI y3)), none, none]) (st' := [.ref 146, .int (nI (lwN n c p x3)), .ref 146, .ref (147 + 14), .int (nI (lwN n c p (c (n * x3 + y3))))]) d_243_295 (fun _ => rfl) ?_
                        refine rr_gf (v := .ref (147 + 14)) d_243_296 mo_243 fl_58 rfl ?_
                        refine rr_nx (pc' := 300) (al' := [some (.ref 146), some (.int (nI p)), some (.int (nI x3)), some (.int (nI y3)), none, none]) (st' := [.int (nI y3), .ref (147 + 14), .int (nI (lwN n c p x3)), .ref 146, .ref (147 + 14), .int (nI (lwN n c p (c (n * x3 + y3))))]) d_243_299 (fun _ => rfl) ?_
                        refine rr_ia (j := 14) (v := (nI (lwN n c p y3))) d_243_300 (by decide) rfl (by decide) (show y3 < 6 by first | omega | assumption | exact cu_36 (by omega) (cu_lt (by omega) (by omega))) (hcl y3 hy3) ?_
                        refine rr_pv (as := [.int (nI (lwN n c p x3)), .int (nI (lwN n c p y3))]) (al0 := [some (.ref 146), some (.int (nI (lwN n c p x3))), some (.int (nI (lwN n c p y3)))]) (r := [.ref (147 + 14), .int (nI (lwN n c p (c (n * x3 + y3))))]) d_243_301 mo_243 ml_130 mz_213 rfl rfl rfl (Nat.le_of_ble_eq_true rfl) (s_times (hc.up (j := 14) (by decide)) (by omega) (by omega)) ?_
                        show RR _ _ 304 [some (.ref 146), some (.int (nI p)), some (.int (nI x3)), some (.int (nI y3)), none, none] [.int (nI (c (n * (lwN n c p x3) + (lwN n c p y3)))), .ref (147 + 14), .int (nI (lwN n c p (c (n * x3 + y3))))] g (rf_u A 14 w_) _
                        have b301 : c (n * (lwN n c p x3) + (lwN n c p y3)) < n := (hc.2.2 _ (cu_lt (by omega) (by omega))).2
                        refine rr_ia (j := 14) (v := (nI (lwN n c p (c (n * lwN n c p x3 + lwN n c p y3))))) d_243_304 (by decide) rfl (by decide) (show c (n * (lwN n c p x3) + (lwN n c p y3)) < 6 by have := hl.b l3 l4; omega) (hcl _ (hl.b l3 l4)) ?_
                        refine rn_ceq (t := 310) d_243_305 (by decide) (by first | omega | assumption | exact cu_36 (by omega) (cu_lt (by omega) (by omega))) (by first | omega | assumption | exact cu_36 (by omega) (cu_lt (by omega) (by omega))) (fun c305 => ?_) (fun c305 => ?_)
                        · refine rn_inc d_243_310 rfl rfl ?_
                          show RR _ _ 313 [some (.ref 146), some (.int (nI p)), some (.int (nI x3)), some (.int (nI (y3 + 1))), none, none] [] g (rf_u A 14 w_) _
                          refine rr_nx (pc' := 265) (al' := [some (.ref 146), some (.int (nI p)), some (.int (nI x3)), some (.int (nI (y3 + 1))), none, none]) (st' := []) d_243_313 (fun _ => rfl) ?_
                          exact ihy3  (all_s (p := fun v => lwN n c p (c (n * x3 + v)) = lwN n c p (c (n * lwN n c p x3 + lwN n c p v))) py3 c305)
                        · refine rn_ic (v := 0) d_243_308 (by decide) ?_
                          exact rr_ri d_243_309 mr_243 (by decide) ⟨by rw [bI_f (show ¬ Nrm n c p from fun e => c305 (e.2.2 x3 hx3 y3 hy3))], rfl, w_, rfl, fun e => absurd e (fun e => c305 (e.2.2 x3 hx3 y3 hy3))⟩
                    · show RR _ _ 265 [some (.ref 146), some (.int (nI p)), some (.int (nI x3)), some (.int (nI n)), none, none] [] g (rf_u A 14 w_) _
                      refine rr_nx (pc' := 266) (al' := [some (.ref 146), some (.int (nI p)), some (.int (nI x3)), some (.int (nI n)), none, none]) (st' := [.int (nI n)]) d_243_265 (fun _ => rfl) ?_
                      refine rr_nx (pc' := 267) (al' := [some (.ref 146), some (.int (nI p)), some (.int (nI x3)), some (.int (nI n)), none, none]) (st' := [.ref 146, .int (nI n)]) d_243_266 (fun _ => rfl) ?_
                      refine rr_gn d_243_267 mo_243 fl_127 rfl hc.1 ?_
                      refine rn_cge (t := 316) d_243_270 (by decide) (by first | omega | assumption | exact cu_36 (by omega) (cu_lt (by omega) (by omega))) (by first | omega | assumption | exact cu_36 (by omega) (cu_lt (by omega) (by omega))) (fun c270 => ?_) (fun c270 => ?_)
                      · refine rn_inc d_243_316 rfl rfl ?_
                        show RR _ _ 319 [some (.ref 146), some (.int (nI p)), some (.int (nI (x3 + 1))), some (.int (nI n)), none, none] [] g (rf_u A 14 w_) _
                        refine rr_nx (pc' := 255) (al' := [some (.ref 146), some (.int (nI p)), some (.int (nI (x3 + 1))), some (.int (nI n)), none, none]) (st' := []) d_243_319 (fun _ => rfl) ?_
                        refine rr_dr (al1 := [some (.ref 146), some (.int (nI p)), some (.int (nI (x3 + 1))), none, none, none]) (le_s (le_s (le_s (le_d rfl (le_s (le_s (le_n))))))) ?_
                        exact ihx3  (all_s px3 py3)
                      · omega
                · show RR _ _ 255 [some (.ref 146), some (.int (nI p)), some (.int (nI n)), none, none, none] [] g (rf_u A 14 w_) _
                  have hF := Fa_of hn6 hl hp hp0 hrow px2
                  refine rr_nx (pc' := 256) (al' := [some (.ref 146), some (.int (nI p)), some (.int (nI n)), none, none, none]) (st' := [.int (nI n)]) d_243_255 (fun _ => rfl) ?_
                  refine rr_nx (pc' := 257) (al' := [some (.ref 146), some (.int (nI p)), some (.int (nI n)), none, none, none]) (st' := [.ref 146, .int (nI n)]) d_243_256 (fun _ => rfl) ?_
                  refine rr_gn d_243_257 mo_243 fl_127 rfl hc.1 ?_
                  refine rn_cge (t := 322) d_243_260 (by decide) (by first | omega | assumption | exact cu_36 (by omega) (cu_lt (by omega) (by omega))) (by first | omega | assumption | exact cu_36 (by omega) (cu_lt (by omega) (by omega))) (fun c260 => ?_) (fun c260 => ?_)
                  · refine rn_ic (v := 1) d_243_322 (by decide) ?_
                    exact rr_ri d_243_323 mr_243 (by decide) ⟨by rw [bI_t (show Nrm n c p from ⟨c5, hF, px3⟩)], rfl, w_, rfl, fun _ => hcl⟩
                  · omega
              · omega
          · omega
      · omega
  · refine rn_ic (v := 0) d_243_8 (by decide) ?_
    exact rr_ri d_243_9 mr_243 (by decide) ⟨by rw [bI_f (show ¬ Nrm n c p from fun e => c5 e.1)], rfl, A 14, rf_u_id.symm, fun e => absurd e.1 c5⟩
theorem s_parts1_40 {g : Nat → Int32} {A : Nat → Nat → Int32} {n : Nat} {c : Nat → Nat} (hc : Cur g A n c) (hl : Lat n c) (hu : Uni n c) : RR 4 249 40 [some (.ref 146), none, some (.int (nI 1)), none, none] [] g A (rS (nI (npN n c)) g A) := by
  have hn6 := hc.2.1
  have hm64 := m_lt hn6
  refine rn_ic (v := 0) d_249_40 (by decide) ?_
  refine rr_nx (pc' := 42) (al' := [some (.ref 146), none, some (.int (nI 1)), some (.int (nI 0)), none]) (st' := []) d_249_41 (fun _ => rfl) ?_
  refine rn_ic (v := 1) d_249_42 (by decide) ?_
  refine rr_nx (pc' := 45) (al' := [some (.ref 146), none, some (.int (nI 1)), some (.int (nI 0)), some (.int (nI 1))]) (st' := []) d_249_43 (fun _ => rfl) ?_
  refine rr_al (congrArg (fun z__ : Nat => ([some (.ref 146), none, some (.int (nI 1)), some (.int (nI z__)), some (.int (nI 1))] : AL)) (show 0 = SM (npF n c) 1 by show 0 = 0 + npF n c 0; rw [npF_0])) ?_
  refine rr_A (show A = (rf_u A 14 (A 14)) by rw [rf_u_id]) ?_
  refine rr_upw (al := fun i w_ => [some (.ref 146), none, some (.int (nI 1)), some (.int (nI (SM (npF n c) i))), some (.int (nI i))]) (G := fun i w_ => g) (B := fun i w_ => (rf_u A 14 w_)) (P := fun i w_ => True) (n := 1 * 2 ^ n) (fun i w_ hi pi ihi => ?_) (fun w_ pi => ?_) 1 (A 14) (by omega) (trivial)
  · show RR _ _ 45 [some (.ref 146), none, some (.int (nI 1)), some (.int (nI (SM (npF n c) i))), some (.int (nI i))] [] g (rf_u A 14 w_) _
    refine rr_nx (pc' := 47) (al' := [some (.ref 146), none, some (.int (nI 1)), some (.int (nI (SM (npF n c) i))), some (.int (nI i))]) (st' := [.int (nI i)]) d_249_45 (fun _ => rfl) ?_
    refine rn_ic (v := 1) d_249_47 (by decide) ?_
    refine rr_nx (pc' := 49) (al' := [some (.ref 146), none, some (.int (nI 1)), some (.int (nI (SM (npF n c) i))), some (.int (nI i))]) (st' := [.ref 146, .int (nI 1), .int (nI i)]) d_249_48 (fun _ => rfl) ?_
    refine rr_gn d_249_49 mo_249 fl_127 rfl hc.1 ?_
    refine rn_shl d_249_52 (by first | omega | assumption | exact cu_36 (by omega) (cu_lt (by omega) (by omega))) ?_
    refine rn_cge (t := 95) d_249_53 (by decide) (by first | omega | assumption | exact cu_36 (by omega) (cu_lt (by omega) (by omega))) (by first | omega | assumption | exact cu_36 (by omega) (cu_lt (by omega) (by omega))) (fun c53 => ?_) (fun c53 => ?_)
    · omega
    · refine rr_nx (pc' := 57) (al' := [some (.ref 146), none, some (.int (nI 1)), some (.int (nI (SM (npF n c) i))), some (.int (nI i))]) (st' := [.int (nI (SM (npF n c) i))]) d_249_56 (fun _ => rfl) ?_
      refine rr_nx (pc' := 58) (al' := [some (.ref 146), none, some (.int (nI 1)), some (.int (nI (SM (npF n c) i))), some (.int (nI i))]) (st' := [.int (nI 1), .int (nI (SM (npF n c) i))]) d_249_57 (fun _ => rfl) ?_
      refine rn_ine (t := 73) d_249_58 (by decide) (by first | omega | assumption | exact cu_36 (by omega) (cu_lt (by omega) (by omega))) (fun c58 => ?_) (fun c58 => ?_)
      · refine rr_nx (pc' := 74) (al' := [some (.ref 146), none, some (.int (nI 1)), some (.int (nI (SM (npF n c) i))), some (.int (nI i))]) (st' := [.ref 146, .int (nI (SM (npF n c) i))]) d_249_73 (fun _ => rfl) ?_
        refine rr_nx (pc' := 76) (al' := [some (.ref 146), none, some (.int (nI 1)), some (.int (nI (SM (npF n c) i))), some (.int (nI i))]) (st' := [.int (nI i), .ref 146, .int (nI (SM (npF n c) i))]) d_249_74 (fun _ => rfl) ?_
        refine rr_cv (as := [.int (nI i)]) (al0 := [some (.ref 146), some (.int (nI i)), none, none, none, none]) (r := [.int (nI (SM (npF n c) i))]) d_249_76 mo_249 ml_295 mz_243 rfl rfl rfl (rr_wk (Nat.le_of_ble_eq_true rfl) (s_isNormal (hc.up (by decide)) hl hu (by omega))) (fun v1 g1 A1 h1 => ?_)
        obtain ⟨q0_, q1_, w76, q2_, hw76⟩ := h1
        obtain rfl := q0_
        obtain rfl := q1_.symm
        obtain rfl := q2_
        rw [rf_u_u]
        show RR _ _ 79 [some (.ref 146), none, some (.int (nI 1)), some (.int (nI (SM (npF n c) i))), some (.int (nI i))] [.int (bI (Nrm n c i)), .int (nI (SM (npF n c) i))] g (rf_u A 14 w76) _
        refine rr_beq (t := 86) d_249_79 (by decide) (fun c79 => ?_) (fun c79 => ?_)
        · refine rn_ic (v := 0) d_249_86 (by decide) ?_
          refine rn_add d_249_87  ?_
          refine rr_nx (pc' := 89) (al' := [some (.ref 146), none, some (.int (nI 1)), some (.int (nI ((SM (npF n c) i) + 0))), some (.int (nI i))]) (st' := []) d_249_88 (fun _ => rfl) ?_
          refine rn_inc d_249_89 rfl rfl ?_
          show RR _ _ 92 [some (.ref 146), none, some (.int (nI 1)), some (.int (nI ((SM (npF n c) i) + 0))), some (.int (nI (i + 1)))] [] g (rf_u A 14 w76) _
          refine rr_nx (pc' := 45) (al' := [some (.ref 146), none, some (.int (nI 1)), some (.int (nI ((SM (npF n c) i) + 0))), some (.int (nI (i + 1)))]) (st' := []) d_249_92 (fun _ => rfl) ?_
          refine rr_al (congrArg (fun z__ : Nat => ([some (.ref 146), none, some (.int (nI 1)), some (.int (nI z__)), some (.int (nI (i + 1)))] : AL)) (show (SM (npF n c) i) + 0 = SM (npF n c) (i + 1) by rw [SM_s, npF, if_neg c79])) ?_
          exact ihi w76 (trivial)
        · refine rn_ic (v := 1) d_249_82 (by decide) ?_
          refine rr_nx (pc' := 87) (al' := [some (.ref 146), none, some (.int (nI 1)), some (.int (nI (SM (npF n c) i))), some (.int (nI i))]) (st' := [.int (nI 1), .int (nI (SM (npF n c) i))]) d_249_83 (fun _ => rfl) ?_
          refine rn_add d_249_87  ?_
          refine rr_nx (pc' := 89) (al' := [some (.ref 146), none, some (.int (nI 1)), some (.int (nI ((SM (npF n c) i) + 1))), some (.int (nI i))]) (st' := []) d_249_88 (fun _ => rfl) ?_
          refine rn_inc d_249_89 rfl rfl ?_
          show RR _ _ 92 [some (.ref 146), none, some (.int (nI 1)), some (.int (nI ((SM (npF n c) i) + 1))), some (.int (nI (i + 1)))] [] g (rf_u A 14 w76) _
          refine rr_nx (pc' := 45) (al' := [some (.ref 146), none, some (.int (nI 1)), some (.int (nI ((SM (npF n c) i) + 1))), some (.int (nI (i + 1)))]) (st' := []) d_249_92 (fun _ => rfl) ?_
          refine rr_al (congrArg (fun z__ : Nat => ([some (.ref 146), none, some (.int (nI 1)), some (.int (nI z__)), some (.int (nI (i + 1)))] : AL)) (show (SM (npF n c) i) + 1 = SM (npF n c) (i + 1) by rw [SM_s, npF, if_pos c79])) ?_
          exact ihi w76 (trivial)
      · omega
  · show RR _ _ 45 [some (.ref 146), none, some (.int (nI 1)), some (.int (nI (SM (npF n c) (1 * 2 ^ n)))), some (.int (nI (1 * 2 ^ n)))] [] g (rf_u A 14 w_) _
    refine rr_nx (pc' := 47) (al' := [some (.ref 146), none, some (.int (nI 1)), some (.int (nI (SM (npF n c) (1 * 2 ^ n)))), some (.int (nI (1 * 2 ^ n)))]) (st' := [.int (nI (1 * 2 ^ n))]) d_249_45 (fun _ => rfl) ?_
    refine rn_ic (v := 1) d_249_47 (by decide) ?_
    refine rr_nx (pc' := 49) (al' := [some (.ref 146), none, some (.int (nI 1)), some (.int (nI (SM (npF n c) (1 * 2 ^ n)))), some (.int (nI (1 * 2 ^ n)))]) (st' := [.ref 146, .int (nI 1), .int (nI (1 * 2 ^ n))]) d_249_48 (fun _ => rfl) ?_
    refine rr_gn d_249_49 mo_249 fl_127 rfl hc.1 ?_
    refine rn_shl d_249_52 (by first | omega | assumption | exact cu_36 (by omega) (cu_lt (by omega) (by omega))) ?_
    refine rn_cge (t := 95) d_249_53 (by decide) (by first | omega | assumption | exact cu_36 (by omega) (cu_lt (by omega) (by omega))) (by first | omega | assumption | exact cu_36 (by omega) (cu_lt (by omega) (by omega))) (fun c53 => ?_) (fun c53 => ?_)
    · refine rr_nx (pc' := 96) (al' := [some (.ref 146), none, some (.int (nI 1)), some (.int (nI (SM (npF n c) (1 * 2 ^ n)))), some (.int (nI (1 * 2 ^ n)))]) (st' := [.int (nI (SM (npF n c) (1 * 2 ^ n)))]) d_249_95 (fun _ => rfl) ?_
      exact rr_ri d_249_96 mr_249 rfl ⟨rfl, Gsm.rf, Ksm.rf.u (by decide)⟩
    · omega
def ctN (n : Nat) (c : Nat → Nat) (p v : Nat) : Nat := SM (fun z => if lwN n c p z = z then 1 else 0) v
theorem lo_rep {n : Nat} {c : Nat → Nat} (hn : n ≤ 6) (hl : Lat n c) (hu : Uni n c) {p : Nat} (h : Nrm n c p) {z : Nat} : (loN n c p).testBit z = true ↔ z < n ∧ lwN n c p z = z := by
  have hp2 := (clB_iff.mp h.1).1
  rw [lo_bit]
  constructor
  · rintro ⟨x, hx, e⟩
    rw [← e]
    exact ⟨(lw_f hn hl.1 hx hp2.1 hp2.2).1, lw_lw hn hl hu h hx⟩
  · exact fun e => ⟨z, e.1, e.2⟩
theorem ct_cn {n : Nat} {c : Nat → Nat} (hn : n ≤ 6) (hl : Lat n c) (hu : Uni n c) {p : Nat} (h : Nrm n c p) {v : Nat} (hv : v ≤ n) : ctN n c p v = cnN n c p v := by
  have hp2 := (clB_iff.mp h.1).1
  have hlo : loN n c p < 2 ^ 6 := le_64 hn (lo_lt hn hl.1 hp2.1 hp2.2)
  unfold cnN ctN
  rw [cn_sm hlo]
  have key : ∀ k, v ≤ k → SM (fun k => if (loN n c p).testBit k = true ∧ k < v then 1 else 0) k = SM (fun z => if lwN n c p z = z then 1 else 0) v := by
    intro k hk
    induction k with
    | zero => rw [Nat.le_zero.mp hk]; rfl
    | succ k ih =>
      rcases Nat.lt_or_ge k v with q | q
      · rw [show v = k + 1 by omega]
        refine SM_c (fun z hz => ?_)
        by_cases e : lwN n c p z = z
        · rw [if_pos e, if_pos ⟨(lo_rep hn hl hu h).mpr ⟨by omega, e⟩, by omega⟩]
        · rw [if_neg e, if_neg (fun r => e ((lo_rep hn hl hu h).mp r.1).2)]
      · rw [SM_s, ih q, if_neg (fun r => by omega)]
        rfl
  exact (key 6 (by omega)).symm
theorem ct_m {n : Nat} {c : Nat → Nat} (hn : n ≤ 6) (hl : Lat n c) (hu : Uni n c) {p : Nat} (h : Nrm n c p) : ctN n c p n = qtM n c p := by
  have hp2 := (clB_iff.mp h.1).1
  have hlt := lo_lt hn hl.1 hp2.1 hp2.2
  rw [ct_cn hn hl hu h (Nat.le_refl n)]
  unfold cnN qtM
  congr 1
  apply Nat.eq_of_testBit_eq
  intro q
  rw [Bool.eq_iff_iff, cn_bit]
  exact ⟨fun e => e.1, fun e => ⟨e, bit_lt hlt e⟩⟩
theorem sq_skip {f : Nat → Int32} {D : Nat → Nat → Nat → Prop} {n x : Nat} {w : Nat → Int32} (h : ScQ f D n x 0 w) (hd : ∀ v q, v < n → D x v q → w q = f q) : ScQ f D n x n w := ⟨h.1, fun v q hv hq => hd v q hv hq⟩
theorem s_quotient_67 {g : Nat → Int32} {A : Nat → Nat → Int32} {Q : Option Value → (Nat → Int32) → (Nat → Nat → Int32) → Prop} {n : Nat} {c : Nat → Nat} (hc : Cur g A n c) {t o p : Nat} (hl : Lat n c) (hu : Uni n c) (hN : Nrm n c p) (hcl : ∀ x, x < n → A 14 x = nI (lwN n c p x)) (hk : ∀ w, (∀ q, q < qtM n c p * qtM n c p → w q = nI (qtN n c p q)) → RR 20 242 259 [some (.ref 146), some (.int (nI t)), some (.int (nI o)), some (.int (nI p)), none, none, none, none, none, none] [] (upd g 8 (nI (qtM n c p))) (rf_u A 5 w) Q) : RR 20 242 67 [some (.ref 146), some (.int (nI t)), some (.int (nI o)), some (.int (nI p)), none, none, none, none, none, none] [] g A Q := by
  have hn6 := hc.2.1
  have hp0 := (clB_iff.mp hN.1).1.1
  have hp := (clB_iff.mp hN.1).1.2
  have hlo : loN n c p < 2 ^ 6 := le_64 hn6 (lo_lt hn6 hl.1 hp0 hp)
  have hqm := (qt_lat hn6 hl hu hN).2.1
  have rp1 : ∀ i, i < qtM n c p → rpN n c p i < n ∧ lwN n c p (rpN n c p i) = rpN n c p i ∧ cnN n c p (rpN n c p i) = i := fun i hi => by
    obtain ⟨r1, r2⟩ := rp_f hlo hi
    have := (lo_rep hn6 hl hu hN).mp r1
    exact ⟨this.1, this.2, r2⟩
  refine rr_nx (pc' := 68) (al' := [some (.ref 146), some (.int (nI t)), some (.int (nI o)), some (.int (nI p)), none, none, none, none, none, none]) (st' := [.ref 146]) d_242_67 (fun _ => rfl) ?_
  refine rn_ic (v := 0) d_242_68 (by decide) ?_
  refine rp_8 d_242_69 mo_242 fl_134  ?_
  refine rn_ic (v := 0) d_242_72 (by decide) ?_
  refine rr_nx (pc' := 75) (al' := [some (.ref 146), some (.int (nI t)), some (.int (nI o)), some (.int (nI p)), some (.int (nI 0)), none, none, none, none, none]) (st' := []) d_242_73 (fun _ => rfl) ?_
  refine rr_G (show (upd g 8 (nI 0)) = (upd g 8 (nI (ctN n c p 0))) by rfl) ?_
  refine rr_up (al := fun z => [some (.ref 146), some (.int (nI t)), some (.int (nI o)), some (.int (nI p)), some (.int (nI z)), none, none, none, none, none]) (G := fun z => (upd g 8 (nI (ctN n c p z)))) (B := fun z => A) (P := fun z => True) (n := n) (fun z hz pz ihz => ?_) (fun pz => ?_) 0  (by omega) (trivial)
  · show RR _ _ 75 [some (.ref 146), some (.int (nI t)), some (.int (nI o)), some (.int (nI p)), some (.int (nI z)), none, none, none, none, none] [] (upd g 8 (nI (ctN n c p z))) A _
    refine rr_nx (pc' := 77) (al' := [some (.ref 146), some (.int (nI t)), some (.int (nI o)), some (.int (nI p)), some (.int (nI z)), none, none, none, none, none]) (st' := [.int (nI z)]) d_242_75 (fun _ => rfl) ?_
    refine rr_nx (pc' := 78) (al' := [some (.ref 146), some (.int (nI t)), some (.int (nI o)), some (.int (nI p)), some (.int (nI z)), none, none, none, none, none]) (st' := [.ref 146, .int (nI z)]) d_242_77 (fun _ => rfl) ?_
    refine rr_gf (v := .int (g 6)) d_242_78 mo_242 fl_127 rfl ?_
    refine rr_tp (z := nI n) hc.1 ?_
    refine rn_cge (t := 112) d_242_81 (by decide) (by first | omega | assumption | exact cu_36 (by omega) (cu_lt (by omega) (by omega))) (by first | omega | assumption | exact cu_36 (by omega) (cu_lt (by omega) (by omega))) (fun c81 => ?_) (fun c81 => ?_)
    · omega
    · refine rr_nx (pc' := 85) (al' := [some (.ref 146), some (.int (nI t)), some (.int (nI o)), some (.int (nI p)), some (.int (nI z)), none, none, none, none, none]) (st' := [.ref 146]) d_242_84 (fun _ => rfl) ?_
      refine rr_gf (v := .ref (147 + 14)) d_242_85 mo_242 fl_58 rfl ?_
      refine rr_nx (pc' := 90) (al' := [some (.ref 146), some (.int (nI t)), some (.int (nI o)), some (.int (nI p)), some (.int (nI z)), none, none, none, none, none]) (st' := [.int (nI z), .ref (147 + 14)]) d_242_88 (fun _ => rfl) ?_
      refine rr_ia (j := 14) (v := (nI (lwN n c p z))) d_242_90 (by decide) rfl (by decide) (show z < 6 by first | omega | assumption | exact cu_36 (by omega) (cu_lt (by omega) (by omega))) (hcl z hz) ?_
      refine rr_nx (pc' := 93) (al' := [some (.ref 146), some (.int (nI t)), some (.int (nI o)), some (.int (nI p)), some (.int (nI z)), none, none, none, none, none]) (st' := [.int (nI z), .int (nI (lwN n c p z))]) d_242_91 (fun _ => rfl) ?_
      refine rn_cne (t := 106) d_242_93 (by decide) (by have := (lw_f hn6 hl.1 hz hp0 hp).1; omega) (by omega) (fun c93 => ?_) (fun c93 => ?_)
      · refine rn_inc d_242_106 rfl rfl ?_
        show RR _ _ 109 [some (.ref 146), some (.int (nI t)), some (.int (nI o)), some (.int (nI p)), some (.int (nI (z + 1))), none, none, none, none, none] [] (upd g 8 (nI (ctN n c p z))) A _
        refine rr_nx (pc' := 75) (al' := [some (.ref 146), some (.int (nI t)), some (.int (nI o)), some (.int (nI p)), some (.int (nI (z + 1))), none, none, none, none, none]) (st' := []) d_242_109 (fun _ => rfl) ?_
        refine rr_G (show (upd g 8 (nI (ctN n c p z))) = (upd g 8 (nI (ctN n c p (z + 1)))) by rw [ctN, ctN, SM_s, if_neg c93]; rfl) ?_
        exact ihz  (trivial)
      · refine rr_nx (pc' := 97) (al' := [some (.ref 146), some (.int (nI t)), some (.int (nI o)), some (.int (nI p)), some (.int (nI z)), none, none, none, none, none]) (st' := [.ref 146]) d_242_96 (fun _ => rfl) ?_
        refine rr_nx (pc' := 98) (al' := [some (.ref 146), some (.int (nI t)), some (.int (nI o)), some (.int (nI p)), some (.int (nI z)), none, none, none, none, none]) (st' := [.ref 146, .ref 146]) d_242_97 (fun _ => rfl) ?_
        refine rr_gf (v := .int (nI (ctN n c p z))) d_242_98 mo_242 fl_134 rfl ?_
        refine rn_ic (v := 1) d_242_101 (by decide) ?_
        refine rn_add d_242_102  ?_
        refine rp_8 d_242_103 mo_242 fl_134  ?_
        refine rr_G (upd_u) ?_
        refine rn_inc d_242_106 rfl rfl ?_
        show RR _ _ 109 [some (.ref 146), some (.int (nI t)), some (.int (nI o)), some (.int (nI p)), some (.int (nI (z + 1))), none, none, none, none, none] [] (upd g 8 (nI ((ctN n c p z) + 1))) A _
        refine rr_nx (pc' := 75) (al' := [some (.ref 146), some (.int (nI t)), some (.int (nI o)), some (.int (nI p)), some (.int (nI (z + 1))), none, none, none, none, none]) (st' := []) d_242_109 (fun _ => rfl) ?_
        refine rr_G (show (upd g 8 (nI ((ctN n c p z) + 1))) = (upd g 8 (nI (ctN n c p (z + 1)))) by rw [show ctN n c p z + 1 = ctN n c p (z + 1) by rw [ctN, ctN, SM_s, if_pos c93]]) ?_
        exact ihz  (trivial)
  · show RR _ _ 75 [some (.ref 146), some (.int (nI t)), some (.int (nI o)), some (.int (nI p)), some (.int (nI n)), none, none, none, none, none] [] (upd g 8 (nI (ctN n c p n))) A _
    refine rr_nx (pc' := 77) (al' := [some (.ref 146), some (.int (nI t)), some (.int (nI o)), some (.int (nI p)), some (.int (nI n)), none, none, none, none, none]) (st' := [.int (nI n)]) d_242_75 (fun _ => rfl) ?_
    refine rr_nx (pc' := 78) (al' := [some (.ref 146), some (.int (nI t)), some (.int (nI o)), some (.int (nI p)), some (.int (nI n)), none, none, none, none, none]) (st' := [.ref 146, .int (nI n)]) d_242_77 (fun _ => rfl) ?_
    refine rr_gf (v := .int (g 6)) d_242_78 mo_242 fl_127 rfl ?_
    refine rr_tp (z := nI n) hc.1 ?_
    refine rn_cge (t := 112) d_242_81 (by decide) (by first | omega | assumption | exact cu_36 (by omega) (cu_lt (by omega) (by omega))) (by first | omega | assumption | exact cu_36 (by omega) (cu_lt (by omega) (by omega))) (fun c81 => ?_) (fun c81 => ?_)
    · rw [show ctN n c p n = qtM n c p from ct_m hn6 hl hu hN]
      refine rn_ic (v := 0) d_242_112 (by decide) ?_
      refine rr_nx (pc' := 115) (al' := [some (.ref 146), some (.int (nI t)), some (.int (nI o)), some (.int (nI p)), some (.int (nI 0)), none, none, none, none, none]) (st' := []) d_242_113 (fun _ => rfl) ?_
      refine rn_ic (v := 0) d_242_115 (by decide) ?_
      refine rr_nx (pc' := 118) (al' := [some (.ref 146), some (.int (nI t)), some (.int (nI o)), some (.int (nI p)), some (.int (nI 0)), some (.int (nI 0)), none, none, none, none]) (st' := []) d_242_116 (fun _ => rfl) ?_
      refine rr_al (congrArg (fun z__ : Nat => ([some (.ref 146), some (.int (nI t)), some (.int (nI o)), some (.int (nI p)), some (.int (nI z__)), some (.int (nI 0)), none, none, none, none] : AL)) (show 0 = ctN n c p 0 by rfl)) ?_
      refine rr_A (show A = (rf_u A 5 (A 5)) by rw [rf_u_id]) ?_
      refine rr_upw (al := fun x w_ => [some (.ref 146), some (.int (nI t)), some (.int (nI o)), some (.int (nI p)), some (.int (nI (ctN n c p x))), some (.int (nI x)), none, none, none, none]) (G := fun x w_ => (upd g 8 (nI (qtM n c p)))) (B := fun x w_ => (rf_u A 5 w_)) (P := fun x w_ => ScQ (fun q => nI (qtN n c p q)) (fun u v q => lwN n c p u = u ∧ lwN n c p v = v ∧ q = qtM n c p * cnN n c p u + cnN n c p v) n x 0 w_) (n := n) (fun x w_ hx px ihx => ?_) (fun w_ px => ?_) 0 (A 5) (by omega) (sq_0)
      · show RR _ _ 118 [some (.ref 146), some (.int (nI t)), some (.int (nI o)), some (.int (nI p)), some (.int (nI (ctN n c p x))), some (.int (nI x)), none, none, none, none] [] (upd g 8 (nI (qtM n c p))) (rf_u A 5 w_) _
        have l1 := (lw_f hn6 hl.1 hx hp0 hp).1
        have ct1 := ct_cn hn6 hl hu hN (show x ≤ n by omega)
        refine rr_nx (pc' := 120) (al' := [some (.ref 146), some (.int (nI t)), some (.int (nI o)), some (.int (nI p)), some (.int (nI (ctN n c p x))), some (.int (nI x)), none, none, none, none]) (st' := [.int (nI x)]) d_242_118 (fun _ => rfl) ?_
        refine rr_nx (pc' := 121) (al' := [some (.ref 146), some (.int (nI t)), some (.int (nI o)), some (.int (nI p)), some (.int (nI (ctN n c p x))), some (.int (nI x)), none, none, none, none]) (st' := [.ref 146, .int (nI x)]) d_242_120 (fun _ => rfl) ?_
        refine rr_gf (v := .int (g 6)) d_242_121 mo_242 fl_127 rfl ?_
        refine rr_tp (z := nI n) hc.1 ?_
        refine rn_cge (t := 259) d_242_124 (by decide) (by first | omega | assumption | exact cu_36 (by omega) (cu_lt (by omega) (by omega))) (by first | omega | assumption | exact cu_36 (by omega) (cu_lt (by omega) (by omega))) (fun c124 => ?_) (fun c124 => ?_)
        · omega
        · refine rr_nx (pc' := 128) (al' := [some (.ref 146), some (.int (nI t)), some (.int (nI o)), some (.int (nI p)), some (.int (nI (ctN n c p x))), some (.int (nI x)), none, none, none, none]) (st' := [.ref 146]) d_242_127 (fun _ => rfl) ?_
          refine rr_gf (v := .ref (147 + 14)) d_242_128 mo_242 fl_58 rfl ?_
          refine rr_nx (pc' := 133) (al' := [some (.ref 146), some (.int (nI t)), some (.int (nI o)), some (.int (nI p)), some (.int (nI (ctN n c p x))), some (.int (nI x)), none, none, none, none]) (st' := [.int (nI x), .ref (147 + 14)]) d_242_131 (fun _ => rfl) ?_
          refine rr_ia (j := 14) (v := (nI (lwN n c p x))) d_242_133 (by decide) rfl (by decide) (show x < 6 by first | omega | assumption | exact cu_36 (by omega) (cu_lt (by omega) (by omega))) (hcl x hx) ?_
          refine rr_nx (pc' := 136) (al' := [some (.ref 146), some (.int (nI t)), some (.int (nI o)), some (.int (nI p)), some (.int (nI (ctN n c p x))), some (.int (nI x)), none, none, none, none]) (st' := [.int (nI x), .int (nI (lwN n c p x))]) d_242_134 (fun _ => rfl) ?_
          refine rn_ceq (t := 142) d_242_136 (by decide) (by first | omega | assumption | exact cu_36 (by omega) (cu_lt (by omega) (by omega))) (by first | omega | assumption | exact cu_36 (by omega) (cu_lt (by omega) (by omega))) (fun c136 => ?_) (fun c136 => ?_)
          · have hx3 : cnN n c p x < qtM n c p := (rp_cn hlo ((lo_rep hn6 hl hu hN).mpr ⟨hx, c136⟩)).1
            refine rn_ic (v := 0) d_242_142 (by decide) ?_
            refine rr_nx (pc' := 145) (al' := [some (.ref 146), some (.int (nI t)), some (.int (nI o)), some (.int (nI p)), some (.int (nI (ctN n c p x))), some (.int (nI x)), some (.int (nI 0)), none, none, none]) (st' := []) d_242_143 (fun _ => rfl) ?_
            refine rn_ic (v := 0) d_242_145 (by decide) ?_
            refine rr_nx (pc' := 148) (al' := [some (.ref 146), some (.int (nI t)), some (.int (nI o)), some (.int (nI p)), some (.int (nI (ctN n c p x))), some (.int (nI x)), some (.int (nI 0)), some (.int (nI 0)), none, none]) (st' := []) d_242_146 (fun _ => rfl) ?_
            refine rr_al (congrArg (fun z__ : Nat => ([some (.ref 146), some (.int (nI t)), some (.int (nI o)), some (.int (nI p)), some (.int (nI (ctN n c p x))), some (.int (nI x)), some (.int (nI z__)), some (.int (nI 0)), none, none] : AL)) (show 0 = ctN n c p 0 by rfl)) ?_
            refine rr_upw (al := fun y w_ => [some (.ref 146), some (.int (nI t)), some (.int (nI o)), some (.int (nI p)), some (.int (nI (ctN n c p x))), some (.int (nI x)), some (.int (nI (ctN n c p y))), some (.int (nI y)), none, none]) (G := fun y w_ => (upd g 8 (nI (qtM n c p)))) (B := fun y w_ => (rf_u A 5 w_)) (P := fun y w_ => ScQ (fun q => nI (qtN n c p q)) (fun u v q => lwN n c p u = u ∧ lwN n c p v = v ∧ q = qtM n c p * cnN n c p u + cnN n c p v) n x y w_) (n := n) (fun y w_ hy py ihy => ?_) (fun w_ py => ?_) 0 w_ (by omega) (px)
            · show RR _ _ 148 [some (.ref 146), some (.int (nI t)), some (.int (nI o)), some (.int (nI p)), some (.int (nI (ctN n c p x))), some (.int (nI x)), some (.int (nI (ctN n c p y))), some (.int (nI y)), none, none] [] (upd g 8 (nI (qtM n c p))) (rf_u A 5 w_) _
              have l2 := (lw_f hn6 hl.1 hy hp0 hp).1
              have ct2 := ct_cn hn6 hl hu hN (show y ≤ n by omega)
              have hxy := hl.b hx hy
              have l3 := (lw_f hn6 hl.1 hxy hp0 hp).1
              refine rr_nx (pc' := 150) (al' := [some (.ref 146), some (.int (nI t)), some (.int (nI o)), some (.int (nI p)), some (.int (nI (ctN n c p x))), some (.int (nI x)), some (.int (nI (ctN n c p y))), some (.int (nI y)), none, none]) (st' := [.int (nI y)]) d_242_148 (fun _ => rfl) ?_
              refine rr_nx (pc' := 151) (al' := [some (.ref 146), some (.int (nI t)), some (.int (nI o)), some (.int (nI p)), some (.int (nI (ctN n c p x))), some (.int (nI x)), some (.int (nI (ctN n c p y))), some (.int (nI y)), none, none]) (st' := [.ref 146, .int (nI y)]) d_242_150 (fun _ => rfl) ?_
              refine rr_gf (v := .int (g 6)) d_242_151 mo_242 fl_127 rfl ?_
              refine rr_tp (z := nI n) hc.1 ?_
              refine rn_cge (t := 250) d_242_154 (by decide) (by first | omega | assumption | exact cu_36 (by omega) (cu_lt (by omega) (by omega))) (by first | omega | assumption | exact cu_36 (by omega) (cu_lt (by omega) (by omega))) (fun c154 => ?_) (fun c154 => ?_)
              · omega
              · refine rr_nx (pc' := 158) (al' := [some (.ref 146), some (.int (nI t)), some (.int (nI o)), some (.int (nI p)), some (.int (nI (ctN n c p x))), some (.int (nI x)), some (.int (nI (ctN n c p y))), some (.int (nI y)), none, none]) (st' := [.ref 146]) d_242_157 (fun _ => rfl) ?_
                refine rr_gf (v := .ref (147 + 14)) d_242_158 mo_242 fl_58 rfl ?_
                refine rr_nx (pc' := 163) (al' := [some (.ref 146), some (.int (nI t)), some (.int (nI o)), some (.int (nI p)), some (.int (nI (ctN n c p x))), some (.int (nI x)), some (.int (nI (ctN n c p y))), some (.int (nI y)), none, none]) (st' := [.int (nI y), .ref (147 + 14)]) d_242_161 (fun _ => rfl) ?_
                refine rr_ia (j := 14) (v := (nI (lwN n c p y))) d_242_163 (by decide) rfl (by decide) (show y < 6 by first | omega | assumption | exact cu_36 (by omega) (cu_lt (by omega) (by omega))) (hcl y hy) ?_
                refine rr_nx (pc' := 166) (al' := [some (.ref 146), some (.int (nI t)), some (.int (nI o)), some (.int (nI p)), some (.int (nI (ctN n c p x))), some (.int (nI x)), some (.int (nI (ctN n c p y))), some (.int (nI y)), none, none]) (st' := [.int (nI y), .int (nI (lwN n c p y))]) d_242_164 (fun _ => rfl) ?_
                refine rn_ceq (t := 172) d_242_166 (by decide) (by first | omega | assumption | exact cu_36 (by omega) (cu_lt (by omega) (by omega))) (by first | omega | assumption | exact cu_36 (by omega) (cu_lt (by omega) (by omega))) (fun c166 => ?_) (fun c166 => ?_)
                · have hy3 : cnN n c p y < qtM n c p := (rp_cn hlo ((lo_rep hn6 hl hu hN).mpr ⟨hy, c166⟩)).1
                  refine rn_ic (v := 0) d_242_172 (by decide) ?_
                  refine rr_nx (pc' := 175) (al' := [some (.ref 146), some (.int (nI t)), some (.int (nI o)), some (.int (nI p)), some (.int (nI (ctN n c p x))), some (.int (nI x)), some (.int (nI (ctN n c p y))), some (.int (nI y)), some (.int (nI 0)), none]) (st' := []) d_242_173 (fun _ => rfl) ?_
                  refine rn_ic (v := 0) d_242_175 (by decide) ?_
                  refine rr_nx (pc' := 178) (al' := [some (.ref 146), some (.int (nI t)), some (.int (nI o)), some (.int (nI p)), some (.int (nI (ctN n c p x))), some (.int (nI x)), some (.int (nI (ctN n c p y))), some (.int (nI y)), some (.int (nI 0)), some (.int (nI 0))]) (st' := []) d_242_176 (fun _ => rfl) ?_
                  refine rr_al (congrArg (fun z__ : Nat => ([some (.ref 146), some (.int (nI t)), some (.int (nI o)), some (.int (nI p)), some (.int (nI (ctN n c p x))), some (.int (nI x)), some (.int (nI (ctN n c p y))), some (.int (nI y)), some (.int (nI z__)), some (.int (nI 0))] : AL)) (show 0 = ctN n c p 0 by rfl)) ?_
                  refine rr_up (al := fun k => [some (.ref 146), some (.int (nI t)), some (.int (nI o)), some (.int (nI p)), some (.int (nI (ctN n c p x))), some (.int (nI x)), some (.int (nI (ctN n c p y))), some (.int (nI y)), some (.int (nI (ctN n c p k))), some (.int (nI k))]) (G := fun k => (upd g 8 (nI (qtM n c p)))) (B := fun k => (rf_u A 5 w_)) (P := fun k => True) (n := lwN n c p (c (n * x + y))) (fun k hk pk ihk => ?_) (fun pk => ?_) 0  (by omega) (trivial)
                  · show RR _ _ 178 [some (.ref 146), some (.int (nI t)), some (.int (nI o)), some (.int (nI p)), some (.int (nI (ctN n c p x))), some (.int (nI x)), some (.int (nI (ctN n c p y))), some (.int (nI y)), some (.int (nI (ctN n c p k))), some (.int (nI k))] [] (upd g 8 (nI (qtM n c p))) (rf_u A 5 w_) _
                    have l4 := (lw_f hn6 hl.1 (show k < n by omega) hp0 hp).1
                    refine rr_nx (pc' := 180) (al' := [some (.ref 146), some (.int (nI t)), some (.int (nI o)), some (.int (nI p)), some (.int (nI (ctN n c p x))), some (.int (nI x)), some (.int (nI (ctN n c p y))), some (.int (nI y)), some (.int (nI (ctN n c p k))), some (.int (nI k))]) (st' := [.int (nI k)]) d_242_178 (fun _ => rfl) ?_
                    refine rr_nx (pc' := 181) (al' := [some (.ref 146), some (.int (nI t)), some (.int (nI o)), some (.int (nI p)), some (.int (nI (ctN n c p x))), some (.int (nI x)), some (.int (nI (ctN n c p y))), some (.int (nI y)), some (.int (nI (ctN n c p k))), some (.int (nI k))]) (st' := [.ref 146, .int (nI k)]) d_242_180 (fun _ => rfl) ?_
                    refine rr_gf (v := .ref (147 + 14)) d_242_181 mo_242 fl_58 rfl ?_
                    refine rr_nx (pc' := 185) (al' := [some (.ref 146), some (.int (nI t)), some (.int (nI o)), some (.int (nI p)), some (.int (nI (ctN n c p x))), some (.int (nI x)), some (.int (nI (ctN n c p y))), some (.int (nI y)), some (.int (nI (ctN n c p k))), some (.int (nI k))]) (st' := [.ref 146, .ref (147 + 14), .int (nI k)]) d_242_184 (fun _ => rfl) ?_
                    refine rr_nx (pc' := 187) (al' := [some (.ref 146), some (.int (nI t)), some (.int (nI o)), some (.int (nI p)), some (.int (nI (ctN n c p x))), some (.int (nI x)), some (.int (nI (ctN n c p y))), some (.int (nI y)), some (.int (nI (ctN n c p k))), some (.int (nI k))]) (st' := [.int (nI x), .ref 146, .ref (147 + 14), .int (nI k)]) d_242_185 (fun _ => rfl) ?_
                    refine rr_nx (pc' := 189) (al' := [some (.ref 146), some (.int (nI t)), some (.int (nI o)), some (.int (nI p)), some (.int (nI (ctN n c p x))), some (.int (nI x)), some (.int (nI (ctN n c p y))), some (.int (nI y)), some (.int (nI (ctN n c p k))), some (.int (nI k))]) (st' := [.int (nI y), .int (nI x), .ref 146, .ref (147 + 14), .int (nI k)]) d_242_187 (fun _ => rfl) ?_
                    refine rr_pv (as := [.int (nI x), .int (nI y)]) (al0 := [some (.ref 146), some (.int (nI x)), some (.int (nI y))]) (r := [.ref (147 + 14), .int (nI k)]) d_242_189 mo_242 ml_130 mz_213 rfl rfl rfl (Nat.le_of_ble_eq_true rfl) (s_times ((hc.ug (by decide)).up (by decide)) hx hy) ?_
                    show RR _ _ 192 [some (.ref 146), some (.int (nI t)), some (.int (nI o)), some (.int (nI p)), some (.int (nI (ctN n c p x))), some (.int (nI x)), some (.int (nI (ctN n c p y))), some (.int (nI y)), some (.int (nI (ctN n c p k))), some (.int (nI k))] [.int (nI (c (n * x + y))), .ref (147 + 14), .int (nI k)] (upd g 8 (nI (qtM n c p))) (rf_u A 5 w_) _
                    refine rr_ia (j := 14) (v := (nI (lwN n c p (c (n * x + y))))) d_242_192 (by decide) rfl (by decide) (show c (n * x + y) < 6 by omega) (hcl _ hxy) ?_
                    refine rn_cge (t := 224) d_242_193 (by decide) (by first | omega | assumption | exact cu_36 (by omega) (cu_lt (by omega) (by omega))) (by first | omega | assumption | exact cu_36 (by omega) (cu_lt (by omega) (by omega))) (fun c193 => ?_) (fun c193 => ?_)
                    · omega
                    · refine rr_nx (pc' := 198) (al' := [some (.ref 146), some (.int (nI t)), some (.int (nI o)), some (.int (nI p)), some (.int (nI (ctN n c p x))), some (.int (nI x)), some (.int (nI (ctN n c p y))), some (.int (nI y)), some (.int (nI (ctN n c p k))), some (.int (nI k))]) (st' := [.int (nI (ctN n c p k))]) d_242_196 (fun _ => rfl) ?_
                      refine rr_nx (pc' := 199) (al' := [some (.ref 146), some (.int (nI t)), some (.int (nI o)), some (.int (nI p)), some (.int (nI (ctN n c p x))), some (.int (nI x)), some (.int (nI (ctN n c p y))), some (.int (nI y)), some (.int (nI (ctN n c p k))), some (.int (nI k))]) (st' := [.ref 146, .int (nI (ctN n c p k))]) d_242_198 (fun _ => rfl) ?_
                      refine rr_gf (v := .ref (147 + 14)) d_242_199 mo_242 fl_58 rfl ?_
                      refine rr_nx (pc' := 204) (al' := [some (.ref 146), some (.int (nI t)), some (.int (nI o)), some (.int (nI p)), some (.int (nI (ctN n c p x))), some (.int (nI x)), some (.int (nI (ctN n c p y))), some (.int (nI y)), some (.int (nI (ctN n c p k))), some (.int (nI k))]) (st' := [.int (nI k), .ref (147 + 14), .int (nI (ctN n c p k))]) d_242_202 (fun _ => rfl) ?_
                      refine rr_ia (j := 14) (v := (nI (lwN n c p k))) d_242_204 (by decide) rfl (by decide) (show k < 6 by first | omega | assumption | exact cu_36 (by omega) (cu_lt (by omega) (by omega))) (hcl k (by omega)) ?_
                      refine rr_nx (pc' := 207) (al' := [some (.ref 146), some (.int (nI t)), some (.int (nI o)), some (.int (nI p)), some (.int (nI (ctN n c p x))), some (.int (nI x)), some (.int (nI (ctN n c p y))), some (.int (nI y)), some (.int (nI (ctN n c p k))), some (.int (nI k))]) (st' := [.int (nI k), .int (nI (lwN n c p k)), .int (nI (ctN n c p k))]) d_242_205 (fun _ => rfl) ?_
                      refine rn_cne (t := 214) d_242_207 (by decide) (by first | omega | assumption | exact cu_36 (by omega) (cu_lt (by omega) (by omega))) (by first | omega | assumption | exact cu_36 (by omega) (cu_lt (by omega) (by omega))) (fun c207 => ?_) (fun c207 => ?_)
                      · refine rn_ic (v := 0) d_242_214 (by decide) ?_
                        refine rn_add d_242_215  ?_
                        refine rr_nx (pc' := 218) (al' := [some (.ref 146), some (.int (nI t)), some (.int (nI o)), some (.int (nI p)), some (.int (nI (ctN n c p x))), some (.int (nI x)), some (.int (nI (ctN n c p y))), some (.int (nI y)), some (.int (nI ((ctN n c p k) + 0))), some (.int (nI k))]) (st' := []) d_242_216 (fun _ => rfl) ?_
                        refine rn_inc d_242_218 rfl rfl ?_
                        show RR _ _ 221 [some (.ref 146), some (.int (nI t)), some (.int (nI o)), some (.int (nI p)), some (.int (nI (ctN n c p x))), some (.int (nI x)), some (.int (nI (ctN n c p y))), some (.int (nI y)), some (.int (nI ((ctN n c p k) + 0))), some (.int (nI (k + 1)))] [] (upd g 8 (nI (qtM n c p))) (rf_u A 5 w_) _
                        refine rr_nx (pc' := 178) (al' := [some (.ref 146), some (.int (nI t)), some (.int (nI o)), some (.int (nI p)), some (.int (nI (ctN n c p x))), some (.int (nI x)), some (.int (nI (ctN n c p y))), some (.int (nI y)), some (.int (nI ((ctN n c p k) + 0))), some (.int (nI (k + 1)))]) (st' := []) d_242_221 (fun _ => rfl) ?_
                        refine rr_al (congrArg (fun z__ : Nat => ([some (.ref 146), some (.int (nI t)), some (.int (nI o)), some (.int (nI p)), some (.int (nI (ctN n c p x))), some (.int (nI x)), some (.int (nI (ctN n c p y))), some (.int (nI y)), some (.int (nI z__)), some (.int (nI (k + 1)))] : AL)) (show (ctN n c p k) + 0 = ctN n c p (k + 1) by rw [ctN, ctN, SM_s, if_neg c207])) ?_
                        exact ihk  (trivial)
                      · refine rn_ic (v := 1) d_242_210 (by decide) ?_
                        refine rr_nx (pc' := 215) (al' := [some (.ref 146), some (.int (nI t)), some (.int (nI o)), some (.int (nI p)), some (.int (nI (ctN n c p x))), some (.int (nI x)), some (.int (nI (ctN n c p y))), some (.int (nI y)), some (.int (nI (ctN n c p k))), some (.int (nI k))]) (st' := [.int (nI 1), .int (nI (ctN n c p k))]) d_242_211 (fun _ => rfl) ?_
                        refine rn_add d_242_215  ?_
                        refine rr_nx (pc' := 218) (al' := [some (.ref 146), some (.int (nI t)), some (.int (nI o)), some (.int (nI p)), some (.int (nI (ctN n c p x))), some (.int (nI x)), some (.int (nI (ctN n c p y))), some (.int (nI y)), some (.int (nI ((ctN n c p k) + 1))), some (.int (nI k))]) (st' := []) d_242_216 (fun _ => rfl) ?_
                        refine rn_inc d_242_218 rfl rfl ?_
                        show RR _ _ 221 [some (.ref 146), some (.int (nI t)), some (.int (nI o)), some (.int (nI p)), some (.int (nI (ctN n c p x))), some (.int (nI x)), some (.int (nI (ctN n c p y))), some (.int (nI y)), some (.int (nI ((ctN n c p k) + 1))), some (.int (nI (k + 1)))] [] (upd g 8 (nI (qtM n c p))) (rf_u A 5 w_) _
                        refine rr_nx (pc' := 178) (al' := [some (.ref 146), some (.int (nI t)), some (.int (nI o)), some (.int (nI p)), some (.int (nI (ctN n c p x))), some (.int (nI x)), some (.int (nI (ctN n c p y))), some (.int (nI y)), some (.int (nI ((ctN n c p k) + 1))), some (.int (nI (k + 1)))]) (st' := []) d_242_221 (fun _ => rfl) ?_
                        refine rr_al (congrArg (fun z__ : Nat => ([some (.ref 146), some (.int (nI t)), some (.int (nI o)), some (.int (nI p)), some (.int (nI (ctN n c p x))), some (.int (nI x)), some (.int (nI (ctN n c p y))), some (.int (nI y)), some (.int (nI z__)), some (.int (nI (k + 1)))] : AL)) (show (ctN n c p k) + 1 = ctN n c p (k + 1) by rw [ctN, ctN, SM_s, if_pos c207])) ?_
                        exact ihk  (trivial)
                  · show RR _ _ 178 [some (.ref 146), some (.int (nI t)), some (.int (nI o)), some (.int (nI p)), some (.int (nI (ctN n c p x))), some (.int (nI x)), some (.int (nI (ctN n c p y))), some (.int (nI y)), some (.int (nI (ctN n c p (lwN n c p (c (n * x + y)))))), some (.int (nI (lwN n c p (c (n * x + y)))))] [] (upd g 8 (nI (qtM n c p))) (rf_u A 5 w_) _
                    refine rr_nx (pc' := 180) (al' := [some (.ref 146), some (.int (nI t)), some (.int (nI o)), some (.int (nI p)), some (.int (nI (ctN n c p x))), some (.int (nI x)), some (.int (nI (ctN n c p y))), some (.int (nI y)), some (.int (nI (ctN n c p (lwN n c p (c (n * x + y)))))), some (.int (nI (lwN n c p (c (n * x + y)))))]) (st' := [.int (nI (lwN n c p (c (n * x + y))))]) d_242_178 (fun _ => rfl) ?_
                    refine rr_nx (pc' := 181) (al' := [some (.ref 146), some (.int (nI t)), some (.int (nI o)), some (.int (nI p)), some (.int (nI (ctN n c p x))), some (.int (nI x)), some (.int (nI (ctN n c p y))), some (.int (nI y)), some (.int (nI (ctN n c p (lwN n c p (c (n * x + y)))))), some (.int (nI (lwN n c p (c (n * x + y)))))]) (st' := [.ref 146, .int (nI (lwN n c p (c (n * x + y))))]) d_242_180 (fun _ => rfl) ?_
                    refine rr_gf (v := .ref (147 + 14)) d_242_181 mo_242 fl_58 rfl ?_
                    refine rr_nx (pc' := 185) (al' := [some (.ref 146), some (.int (nI t)), some (.int (nI o)), some (.int (nI p)), some (.int (nI (ctN n c p x))), some (.int (nI x)), some (.int (nI (ctN n c p y))), some (.int (nI y)), some (.int (nI (ctN n c p (lwN n c p (c (n * x + y)))))), some (.int (nI (lwN n c p (c (n * x + y)))))]) (st' := [.ref 146, .ref (147 + 14), .int (nI (lwN n c p (c (n * x + y))))]) d_242_184 (fun _ => rfl) ?_
                    refine rr_nx (pc' := 187) (al' := [some (.ref 146), some (.int (nI t)), some (.int (nI o)), some (.int (nI p)), some (.int (nI (ctN n c p x))), some (.int (nI x)), some (.int (nI (ctN n c p y))), some (.int (nI y)), some (.int (nI (ctN n c p (lwN n c p (c (n * x + y)))))), some (.int (nI (lwN n c p (c (n * x + y)))))]) (st' := [.int (nI x), .ref 146, .ref (147 + 14), .int (nI (lwN n c p (c (n * x + y))))]) d_242_185 (fun _ => rfl) ?_
                    refine rr_nx (pc' := 189) (al' := [some (.ref 146), some (.int (nI t)), some (.int (nI o)), some (.int (nI p)), some (.int (nI (ctN n c p x))), some (.int (nI x)), some (.int (nI (ctN n c p y))), some (.int (nI y)), some (.int (nI (ctN n c p (lwN n c p (c (n * x + y)))))), some (.int (nI (lwN n c p (c (n * x + y)))))]) (st' := [.int (nI y), .int (nI x), .ref 146, .ref (147 + 14), .int (nI (lwN n c p (c (n * x + y))))]) d_242_187 (fun _ => rfl) ?_
                    refine rr_pv (as := [.int (nI x), .int (nI y)]) (al0 := [some (.ref 146), some (.int (nI x)), some (.int (nI y))]) (r := [.ref (147 + 14), .int (nI (lwN n c p (c (n * x + y))))]) d_242_189 mo_242 ml_130 mz_213 rfl rfl rfl (Nat.le_of_ble_eq_true rfl) (s_times ((hc.ug (by decide)).up (by decide)) hx hy) ?_
                    show RR _ _ 192 [some (.ref 146), some (.int (nI t)), some (.int (nI o)), some (.int (nI p)), some (.int (nI (ctN n c p x))), some (.int (nI x)), some (.int (nI (ctN n c p y))), some (.int (nI y)), some (.int (nI (ctN n c p (lwN n c p (c (n * x + y)))))), some (.int (nI (lwN n c p (c (n * x + y)))))] [.int (nI (c (n * x + y))), .ref (147 + 14), .int (nI (lwN n c p (c (n * x + y))))] (upd g 8 (nI (qtM n c p))) (rf_u A 5 w_) _
                    refine rr_ia (j := 14) (v := (nI (lwN n c p (c (n * x + y))))) d_242_192 (by decide) rfl (by decide) (show c (n * x + y) < 6 by omega) (hcl _ hxy) ?_
                    refine rn_cge (t := 224) d_242_193 (by decide) (by first | omega | assumption | exact cu_36 (by omega) (cu_lt (by omega) (by omega))) (by first | omega | assumption | exact cu_36 (by omega) (cu_lt (by omega) (by omega))) (fun c193 => ?_) (fun c193 => ?_)
                    · have hval : nI (ctN n c p (lwN n c p (c (n * x + y)))) = (fun q => nI (qtN n c p q)) (qtM n c p * ctN n c p x + ctN n c p y) := congrArg nI (by
                        rw [ct1, ct2, ct_cn hn6 hl hu hN (by omega)]
                        have := qt_xy hn6 hl hu hN hx hy
                        rw [c136, c166] at this
                        exact this.symm)
                      refine rr_nx (pc' := 225) (al' := [some (.ref 146), some (.int (nI t)), some (.int (nI o)), some (.int (nI p)), some (.int (nI (ctN n c p x))), some (.int (nI x)), some (.int (nI (ctN n c p y))), some (.int (nI y)), some (.int (nI (ctN n c p (lwN n c p (c (n * x + y)))))), some (.int (nI (lwN n c p (c (n * x + y)))))]) (st' := [.ref 146]) d_242_224 (fun _ => rfl) ?_
                      refine rr_gf (v := .ref (147 + 5)) d_242_225 mo_242 fl_26 rfl ?_
                      refine rr_nx (pc' := 229) (al' := [some (.ref 146), some (.int (nI t)), some (.int (nI o)), some (.int (nI p)), some (.int (nI (ctN n c p x))), some (.int (nI x)), some (.int (nI (ctN n c p y))), some (.int (nI y)), some (.int (nI (ctN n c p (lwN n c p (c (n * x + y)))))), some (.int (nI (lwN n c p (c (n * x + y)))))]) (st' := [.ref 146, .ref (147 + 5)]) d_242_228 (fun _ => rfl) ?_
                      refine rr_gf (v := .int (nI (qtM n c p))) d_242_229 mo_242 fl_134 rfl ?_
                      refine rr_nx (pc' := 234) (al' := [some (.ref 146), some (.int (nI t)), some (.int (nI o)), some (.int (nI p)), some (.int (nI (ctN n c p x))), some (.int (nI x)), some (.int (nI (ctN n c p y))), some (.int (nI y)), some (.int (nI (ctN n c p (lwN n c p (c (n * x + y)))))), some (.int (nI (lwN n c p (c (n * x + y)))))]) (st' := [.int (nI (ctN n c p x)), .int (nI (qtM n c p)), .ref (147 + 5)]) d_242_232 (fun _ => rfl) ?_
                      refine rn_mul d_242_234  ?_
                      refine rr_nx (pc' := 237) (al' := [some (.ref 146), some (.int (nI t)), some (.int (nI o)), some (.int (nI p)), some (.int (nI (ctN n c p x))), some (.int (nI x)), some (.int (nI (ctN n c p y))), some (.int (nI y)), some (.int (nI (ctN n c p (lwN n c p (c (n * x + y)))))), some (.int (nI (lwN n c p (c (n * x + y)))))]) (st' := [.int (nI (ctN n c p y)), .int (nI ((qtM n c p) * (ctN n c p x))), .ref (147 + 5)]) d_242_235 (fun _ => rfl) ?_
                      refine rn_add d_242_237  ?_
                      refine rr_nx (pc' := 240) (al' := [some (.ref 146), some (.int (nI t)), some (.int (nI o)), some (.int (nI p)), some (.int (nI (ctN n c p x))), some (.int (nI x)), some (.int (nI (ctN n c p y))), some (.int (nI y)), some (.int (nI (ctN n c p (lwN n c p (c (n * x + y)))))), some (.int (nI (lwN n c p (c (n * x + y)))))]) (st' := [.int (nI (ctN n c p (lwN n c p (c (n * x + y))))), .int (nI (((qtM n c p) * (ctN n c p x)) + (ctN n c p y))), .ref (147 + 5)]) d_242_238 (fun _ => rfl) ?_
                      refine rr_iS (j := 5) (A1 := (rf_u A 5 (upd w_ (((qtM n c p) * (ctN n c p x)) + (ctN n c p y)) (nI (ctN n c p (lwN n c p (c (n * x + y)))))))) d_242_240 (by decide) rfl (by decide) (show ((qtM n c p) * (ctN n c p x)) + (ctN n c p y) < 36 by rw [ct1, ct2]; exact cu_36 (n := qtM n c p) (by omega) (cu_lt hx3 hy3)) rf_uw ?_
                      refine rn_inc d_242_241 rfl rfl ?_
                      show RR _ _ 244 [some (.ref 146), some (.int (nI t)), some (.int (nI o)), some (.int (nI p)), some (.int (nI (ctN n c p x))), some (.int (nI x)), some (.int (nI ((ctN n c p y) + 1))), some (.int (nI y)), some (.int (nI (ctN n c p (lwN n c p (c (n * x + y)))))), some (.int (nI (lwN n c p (c (n * x + y)))))] [] (upd g 8 (nI (qtM n c p))) (rf_u A 5 (upd w_ (((qtM n c p) * (ctN n c p x)) + (ctN n c p y)) (nI (ctN n c p (lwN n c p (c (n * x + y))))))) _
                      refine rn_inc d_242_244 rfl rfl ?_
                      show RR _ _ 247 [some (.ref 146), some (.int (nI t)), some (.int (nI o)), some (.int (nI p)), some (.int (nI (ctN n c p x))), some (.int (nI x)), some (.int (nI ((ctN n c p y) + 1))), some (.int (nI (y + 1))), some (.int (nI (ctN n c p (lwN n c p (c (n * x + y)))))), some (.int (nI (lwN n c p (c (n * x + y)))))] [] (upd g 8 (nI (qtM n c p))) (rf_u A 5 (upd w_ (((qtM n c p) * (ctN n c p x)) + (ctN n c p y)) (nI (ctN n c p (lwN n c p (c (n * x + y))))))) _
                      refine rr_nx (pc' := 148) (al' := [some (.ref 146), some (.int (nI t)), some (.int (nI o)), some (.int (nI p)), some (.int (nI (ctN n c p x))), some (.int (nI x)), some (.int (nI ((ctN n c p y) + 1))), some (.int (nI (y + 1))), some (.int (nI (ctN n c p (lwN n c p (c (n * x + y)))))), some (.int (nI (lwN n c p (c (n * x + y)))))]) (st' := []) d_242_247 (fun _ => rfl) ?_
                      refine rr_al (congrArg (fun z__ : Nat => ([some (.ref 146), some (.int (nI t)), some (.int (nI o)), some (.int (nI p)), some (.int (nI (ctN n c p x))), some (.int (nI x)), some (.int (nI z__)), some (.int (nI (y + 1))), some (.int (nI (ctN n c p (lwN n c p (c (n * x + y)))))), some (.int (nI (lwN n c p (c (n * x + y)))))] : AL)) (show (ctN n c p y) + 1 = ctN n c p (y + 1) by rw [ctN, ctN, SM_s, if_pos c166])) ?_
                      refine rr_dr (al1 := [some (.ref 146), some (.int (nI t)), some (.int (nI o)), some (.int (nI p)), some (.int (nI (ctN n c p x))), some (.int (nI x)), some (.int (nI (ctN n c p (y + 1)))), some (.int (nI (y + 1))), none, none]) (le_s (le_s (le_s (le_s (le_s (le_s (le_s (le_s (le_d rfl (le_d rfl (le_n))))))))))) ?_
                      exact ihy (upd w_ (((qtM n c p) * (ctN n c p x)) + (ctN n c p y)) (nI (ctN n c p (lwN n c p (c (n * x + y)))))) (sq_in (sq_k hval py) (fun q hd => by rw [hd.2.2, ← ct1, ← ct2]; exact sc_n (f := (fun q => nI (qtN n c p q))) hval))
                    · omega
                · refine rr_nx (pc' := 244) (al' := [some (.ref 146), some (.int (nI t)), some (.int (nI o)), some (.int (nI p)), some (.int (nI (ctN n c p x))), some (.int (nI x)), some (.int (nI (ctN n c p y))), some (.int (nI y)), none, none]) (st' := []) d_242_169 (fun _ => rfl) ?_
                  refine rn_inc d_242_244 rfl rfl ?_
                  show RR _ _ 247 [some (.ref 146), some (.int (nI t)), some (.int (nI o)), some (.int (nI p)), some (.int (nI (ctN n c p x))), some (.int (nI x)), some (.int (nI (ctN n c p y))), some (.int (nI (y + 1))), none, none] [] (upd g 8 (nI (qtM n c p))) (rf_u A 5 w_) _
                  refine rr_nx (pc' := 148) (al' := [some (.ref 146), some (.int (nI t)), some (.int (nI o)), some (.int (nI p)), some (.int (nI (ctN n c p x))), some (.int (nI x)), some (.int (nI (ctN n c p y))), some (.int (nI (y + 1))), none, none]) (st' := []) d_242_247 (fun _ => rfl) ?_
                  refine rr_al (congrArg (fun z__ : Nat => ([some (.ref 146), some (.int (nI t)), some (.int (nI o)), some (.int (nI p)), some (.int (nI (ctN n c p x))), some (.int (nI x)), some (.int (nI z__)), some (.int (nI (y + 1))), none, none] : AL)) (show ctN n c p y = ctN n c p (y + 1) by rw [ctN, ctN, SM_s, if_neg c166]; rfl)) ?_
                  exact ihy w_ (sq_in py (fun q hd => absurd hd.2.1 c166))
            · show RR _ _ 148 [some (.ref 146), some (.int (nI t)), some (.int (nI o)), some (.int (nI p)), some (.int (nI (ctN n c p x))), some (.int (nI x)), some (.int (nI (ctN n c p n))), some (.int (nI n)), none, none] [] (upd g 8 (nI (qtM n c p))) (rf_u A 5 w_) _
              refine rr_nx (pc' := 150) (al' := [some (.ref 146), some (.int (nI t)), some (.int (nI o)), some (.int (nI p)), some (.int (nI (ctN n c p x))), some (.int (nI x)), some (.int (nI (ctN n c p n))), some (.int (nI n)), none, none]) (st' := [.int (nI n)]) d_242_148 (fun _ => rfl) ?_
              refine rr_nx (pc' := 151) (al' := [some (.ref 146), some (.int (nI t)), some (.int (nI o)), some (.int (nI p)), some (.int (nI (ctN n c p x))), some (.int (nI x)), some (.int (nI (ctN n c p n))), some (.int (nI n)), none, none]) (st' := [.ref 146, .int (nI n)]) d_242_150 (fun _ => rfl) ?_
              refine rr_gf (v := .int (g 6)) d_242_151 mo_242 fl_127 rfl ?_
              refine rr_tp (z := nI n) hc.1 ?_
              refine rn_cge (t := 250) d_242_154 (by decide) (by first | omega | assumption | exact cu_36 (by omega) (cu_lt (by omega) (by omega))) (by first | omega | assumption | exact cu_36 (by omega) (cu_lt (by omega) (by omega))) (fun c154 => ?_) (fun c154 => ?_)
              · refine rn_inc d_242_250 rfl rfl ?_
                show RR _ _ 253 [some (.ref 146), some (.int (nI t)), some (.int (nI o)), some (.int (nI p)), some (.int (nI ((ctN n c p x) + 1))), some (.int (nI x)), some (.int (nI (ctN n c p n))), some (.int (nI n)), none, none] [] (upd g 8 (nI (qtM n c p))) (rf_u A 5 w_) _
                refine rn_inc d_242_253 rfl rfl ?_
                show RR _ _ 256 [some (.ref 146), some (.int (nI t)), some (.int (nI o)), some (.int (nI p)), some (.int (nI ((ctN n c p x) + 1))), some (.int (nI (x + 1))), some (.int (nI (ctN n c p n))), some (.int (nI n)), none, none] [] (upd g 8 (nI (qtM n c p))) (rf_u A 5 w_) _
                refine rr_nx (pc' := 118) (al' := [some (.ref 146), some (.int (nI t)), some (.int (nI o)), some (.int (nI p)), some (.int (nI ((ctN n c p x) + 1))), some (.int (nI (x + 1))), some (.int (nI (ctN n c p n))), some (.int (nI n)), none, none]) (st' := []) d_242_256 (fun _ => rfl) ?_
                refine rr_al (congrArg (fun z__ : Nat => ([some (.ref 146), some (.int (nI t)), some (.int (nI o)), some (.int (nI p)), some (.int (nI z__)), some (.int (nI (x + 1))), some (.int (nI (ctN n c p n))), some (.int (nI n)), none, none] : AL)) (show (ctN n c p x) + 1 = ctN n c p (x + 1) by rw [ctN, ctN, SM_s, if_pos c136])) ?_
                refine rr_dr (al1 := [some (.ref 146), some (.int (nI t)), some (.int (nI o)), some (.int (nI p)), some (.int (nI (ctN n c p (x + 1)))), some (.int (nI (x + 1))), none, none, none, none]) (le_s (le_s (le_s (le_s (le_s (le_s (le_d rfl (le_d rfl (le_s (le_s (le_n))))))))))) ?_
                exact ihx w_ (sq_out py)
              · omega
          · refine rr_nx (pc' := 253) (al' := [some (.ref 146), some (.int (nI t)), some (.int (nI o)), some (.int (nI p)), some (.int (nI (ctN n c p x))), some (.int (nI x)), none, none, none, none]) (st' := []) d_242_139 (fun _ => rfl) ?_
            refine rn_inc d_242_253 rfl rfl ?_
            show RR _ _ 256 [some (.ref 146), some (.int (nI t)), some (.int (nI o)), some (.int (nI p)), some (.int (nI (ctN n c p x))), some (.int (nI (x + 1))), none, none, none, none] [] (upd g 8 (nI (qtM n c p))) (rf_u A 5 w_) _
            refine rr_nx (pc' := 118) (al' := [some (.ref 146), some (.int (nI t)), some (.int (nI o)), some (.int (nI p)), some (.int (nI (ctN n c p x))), some (.int (nI (x + 1))), none, none, none, none]) (st' := []) d_242_256 (fun _ => rfl) ?_
            refine rr_al (congrArg (fun z__ : Nat => ([some (.ref 146), some (.int (nI t)), some (.int (nI o)), some (.int (nI p)), some (.int (nI z__)), some (.int (nI (x + 1))), none, none, none, none] : AL)) (show ctN n c p x = ctN n c p (x + 1) by rw [ctN, ctN, SM_s, if_neg c136]; rfl)) ?_
            exact ihx w_ (sq_out (sq_skip px (fun v q _ hd => absurd hd.1 c136)))
      · show RR _ _ 118 [some (.ref 146), some (.int (nI t)), some (.int (nI o)), some (.int (nI p)), some (.int (nI (ctN n c p n))), some (.int (nI n)), none, none, none, none] [] (upd g 8 (nI (qtM n c p))) (rf_u A 5 w_) _
        refine rr_nx (pc' := 120) (al' := [some (.ref 146), some (.int (nI t)), some (.int (nI o)), some (.int (nI p)), some (.int (nI (ctN n c p n))), some (.int (nI n)), none, none, none, none]) (st' := [.int (nI n)]) d_242_118 (fun _ => rfl) ?_
        refine rr_nx (pc' := 121) (al' := [some (.ref 146), some (.int (nI t)), some (.int (nI o)), some (.int (nI p)), some (.int (nI (ctN n c p n))), some (.int (nI n)), none, none, none, none]) (st' := [.ref 146, .int (nI n)]) d_242_120 (fun _ => rfl) ?_
        refine rr_gf (v := .int (g 6)) d_242_121 mo_242 fl_127 rfl ?_
        refine rr_tp (z := nI n) hc.1 ?_
        refine rn_cge (t := 259) d_242_124 (by decide) (by first | omega | assumption | exact cu_36 (by omega) (cu_lt (by omega) (by omega))) (by first | omega | assumption | exact cu_36 (by omega) (cu_lt (by omega) (by omega))) (fun c124 => ?_) (fun c124 => ?_)
        · refine rr_dr (al1 := [some (.ref 146), some (.int (nI t)), some (.int (nI o)), some (.int (nI p)), none, none, none, none, none, none]) (le_s (le_s (le_s (le_s (le_d rfl (le_d rfl (le_s (le_s (le_s (le_s (le_n))))))))))) ?_
          exact hk w_ (fun q hq => px.1 _ _ q (rp1 _ (dm_dl hq)).1 (rp1 _ (dm_ml hq)).1 ⟨(rp1 _ (dm_dl hq)).2.1, (rp1 _ (dm_ml hq)).2.1, by rw [(rp1 _ (dm_dl hq)).2.2, (rp1 _ (dm_ml hq)).2.2]; exact dm_q.symm⟩)
        · omega
    · omega
