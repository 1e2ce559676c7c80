/-! Laws: the reference goes through all values; printed by wip/whole/gen_c05.py. -/
/-- a law stands in kept -/
def LwK (l N : Nat) (cod : Nat → Nat) (A : Nat → Nat → Int32) : Prop := (l < 8 ∧ N ≤ 400 ∧ cod N = 0) ∧ A 1 (2512 + l) = nI N ∧ (∀ j, j < N → A 1 (2520 + (400 * l + j)) = nI (cod j)) ∧ ∀ j, cod j < 400
def LwH (l N n : Nat) (cod vl c : Nat → Nat) (g : Nat → Int32) (A : Nat → Nat → Int32) : Prop := LwK l N cod A ∧ Cur g A n c ∧ (∀ k, k ≤ 3 → A 12 (k + 1) = nI (vl k)) ∧ ∀ k, vl k < n
theorem LwH.ev {l N n : Nat} {cod vl c : Nat → Nat} {g : Nat → Int32} {A : Nat → Nat → Int32} {x : Int32} (h : LwH l N n cod vl c g A) : EvH l N n cod vl c (upd (upd g 24 x) 25 (nI (400 * l + N))) A := ⟨pk_us, (h.2.1.ug (by decide)).ug (by decide), h.1.1, h.1.2.2.1, h.1.2.2.2, h.2.2.1, h.2.2.2⟩
theorem s_ff_n {g : Nat → Int32} {A : Nat → Nat → Int32} {l N n : Nat} {cod vl c : Nat → Nat} (hH : LwH l N n cod vl c g A) {b t : Nat} (hb : b ≤ 1) (ht : t ≤ N) (h5 : ¬ cod t = 5) (hq1 : RR 20 215 0 [some (.ref 146), none, none, none] [] (upd (upd g 24 (nI (400 * l))) 25 (nI (400 * l + N))) A (rP (some (.int (nI b))) (upd (upd (upd g 24 (nI (400 * l))) 25 (nI (400 * l + N))) 24 (nI (400 * l + t))) A)) : RR 21 214 0 [some (.ref 146), some (.int (nI l)), none] [] g A (fun v_ g' A' => v_ = some (.int (nI (if b = 0 then 1 else 0))) ∧ (∀ k, k ≠ 24 → k ≠ 25 → g' k = g k) ∧ A' = A) := by
  have hl8 := hH.1.1.1
  have hN4 := hH.1.1.2.1
  refine rr_nx (pc' := 1) (al' := [some (.ref 146), some (.int (nI l)), none]) (st' := [.ref 146]) d_214_0 (fun _ => rfl) ?_
  refine rn_sp (v := 400) d_214_1 (by decide) ?_
  refine rr_nx (pc' := 5) (al' := [some (.ref 146), some (.int (nI l)), none]) (st' := [.int (nI l), .int (nI 400), .ref 146]) d_214_4 (fun _ => rfl) ?_
  refine rn_mul d_214_5  ?_
  refine rp_24 d_214_6 mo_214 fl_202  ?_
  refine rr_nx (pc' := 10) (al' := [some (.ref 146), some (.int (nI l)), none]) (st' := [.ref 146]) d_214_9 (fun _ => rfl) ?_
  refine rr_nx (pc' := 11) (al' := [some (.ref 146), some (.int (nI l)), none]) (st' := [.ref 146, .ref 146]) d_214_10 (fun _ => rfl) ?_
  refine rr_gf (v := .int (nI (400 * l))) d_214_11 mo_214 fl_202 rfl ?_
  refine rr_nx (pc' := 15) (al' := [some (.ref 146), some (.int (nI l)), none]) (st' := [.ref 146, .int (nI (400 * l)), .ref 146]) d_214_14 (fun _ => rfl) ?_
  refine rr_gf (v := .ref (147 + 1)) d_214_15 mo_214 fl_13 rfl ?_
  refine rn_sp (v := 2512) d_214_18 (by decide) ?_
  refine rr_nx (pc' := 22) (al' := [some (.ref 146), some (.int (nI l)), none]) (st' := [.int (nI l), .int (nI 2512), .ref (147 + 1), .int (nI (400 * l)), .ref 146]) d_214_21 (fun _ => rfl) ?_
  refine rn_add d_214_22  ?_
  refine rr_ia (j := 1) (v := (nI N)) d_214_23 (by decide) rfl (by decide) (show 2512 + l < 5720 by first | omega | assumption | exact cu_36 (by omega) (cu_lt (by omega) (by omega))) hH.1.2.1 ?_
  refine rn_add d_214_24  ?_
  refine rp_25 d_214_25 mo_214 fl_195  ?_
  refine rr_nx (pc' := 29) (al' := [some (.ref 146), some (.int (nI l)), none]) (st' := [.ref 146]) d_214_28 (fun _ => rfl) ?_
  refine rr_pv (as := []) (al0 := [some (.ref 146), none, none, none]) (r := []) d_214_29 mo_214 ml_217 mz_215 rfl rfl rfl (Nat.le_of_ble_eq_true rfl) (hq1) ?_
  show RR _ _ 32 [some (.ref 146), some (.int (nI l)), none] [.int (nI b)] (upd (upd (upd g 24 (nI (400 * l))) 25 (nI (400 * l + N))) 24 (nI (400 * l + t))) A _
  refine rr_nx (pc' := 33) (al' := [some (.ref 146), some (.int (nI l)), some (.int (nI b))]) (st' := []) d_214_32 (fun _ => rfl) ?_
  refine rr_nx (pc' := 34) (al' := [some (.ref 146), some (.int (nI l)), some (.int (nI b))]) (st' := [.ref 146]) d_214_33 (fun _ => rfl) ?_
  refine rr_nx (pc' := 35) (al' := [some (.ref 146), some (.int (nI l)), some (.int (nI b))]) (st' := [.ref 146, .ref 146]) d_214_34 (fun _ => rfl) ?_
  refine rr_gf (v := .int (nI (400 * l + t))) d_214_35 mo_214 fl_202 rfl ?_
  refine rr_pv (as := [.int (nI (400 * l + t))]) (al0 := [some (.ref 146), some (.int (nI (400 * l + t)))]) (r := []) d_214_38 mo_214 ml_205 mz_218 rfl rfl rfl (Nat.le_of_ble_eq_true rfl) (s_codeAt (j := t) hH.ev.u ht) ?_
  show RR _ _ 41 [some (.ref 146), some (.int (nI l)), some (.int (nI b))] [.int (nI (cod t))] (upd (upd (upd g 24 (nI (400 * l))) 25 (nI (400 * l + N))) 24 (nI (400 * l + t))) A _
  have hk4 := hH.1.2.2.2 t
  refine rn_ic (v := 5) d_214_41 (by decide) ?_
  refine rn_ceq (t := 55) d_214_42 (by decide) (by first | omega | assumption | exact cu_36 (by omega) (cu_lt (by omega) (by omega))) (by first | omega | assumption | exact cu_36 (by omega) (cu_lt (by omega) (by omega))) (fun c42 => ?_) (fun c42 => ?_)
  · omega
  · refine rr_nx (pc' := 46) (al' := [some (.ref 146), some (.int (nI l)), some (.int (nI b))]) (st' := [.int (nI b)]) d_214_45 (fun _ => rfl) ?_
    refine rn_ine (t := 53) d_214_46 (by decide) (by first | omega | assumption | exact cu_36 (by omega) (cu_lt (by omega) (by omega))) (fun c46 => ?_) (fun c46 => ?_)
    · refine rn_ic (v := 0) d_214_53 (by decide) ?_
      exact rr_ri d_214_54 mr_214 (by decide) ⟨by rw [if_neg (by omega)], fun k h1_ h2_ => by rw [pk_un h1_, pk_un h2_, pk_un h1_], rfl⟩
    · refine rn_ic (v := 1) d_214_49 (by decide) ?_
      refine rr_nx (pc' := 54) (al' := [some (.ref 146), some (.int (nI l)), some (.int (nI b))]) (st' := [.int (nI 1)]) d_214_50 (fun _ => rfl) ?_
      exact rr_ri d_214_54 mr_214 (by decide) ⟨by rw [if_pos c46], fun k h1_ h2_ => by rw [pk_un h1_, pk_un h2_, pk_un h1_], rfl⟩
theorem s_ff_y {g : Nat → Int32} {A : Nat → Nat → Int32} {l N n : Nat} {cod vl c : Nat → Nat} (hH : LwH l N n cod vl c g A) {b b2 t r : Nat} (hb : b ≤ 1) (hb2 : b2 ≤ 1) (ht : t ≤ N) (h5 : cod t = 5) (hq1 : RR 20 215 0 [some (.ref 146), none, none, none] [] (upd (upd g 24 (nI (400 * l))) 25 (nI (400 * l + N))) A (rP (some (.int (nI b))) (upd (upd (upd g 24 (nI (400 * l))) 25 (nI (400 * l + N))) 24 (nI (400 * l + t))) A)) (hq2 : RR 20 215 0 [some (.ref 146), none, none, none] [] (upd (upd (upd g 24 (nI (400 * l))) 25 (nI (400 * l + N))) 24 (nI (400 * l + t + 1))) A (rP (some (.int (nI b2))) (upd (upd (upd g 24 (nI (400 * l))) 25 (nI (400 * l + N))) 24 (nI (400 * l + r))) A)) : RR 21 214 0 [some (.ref 146), some (.int (nI l)), none] [] g A (fun v_ g' A' => v_ = some (.int (nI (if b2 = 1 ∧ b = 0 then 1 else 0))) ∧ (∀ k, k ≠ 24 → k ≠ 25 → g' k = g k) ∧ A' = A) := by
  have hl8 := hH.1.1.1
  have hN4 := hH.1.1.2.1
  refine rr_nx (pc' := 1) (al' := [some (.ref 146), some (.int (nI l)), none]) (st' := [.ref 146]) d_214_0 (fun _ => rfl) ?_
  refine rn_sp (v := 400) d_214_1 (by decide) ?_
  refine rr_nx (pc' := 5) (al' := [some (.ref 146), some (.int (nI l)), none]) (st' := [.int (nI l), .int (nI 400), .ref 146]) d_214_4 (fun _ => rfl) ?_
  refine rn_mul d_214_5  ?_
  refine rp_24 d_214_6 mo_214 fl_202  ?_
  refine rr_nx (pc' := 10) (al' := [some (.ref 146), some (.int (nI l)), none]) (st' := [.ref 146]) d_214_9 (fun _ => rfl) ?_
  refine rr_nx (pc' := 11) (al' := [some (.ref 146), some (.int (nI l)), none]) (st' := [.ref 146, .ref 146]) d_214_10 (fun _ => rfl) ?_
  refine rr_gf (v := .int (nI (400 * l))) d_214_11 mo_214 fl_202 rfl ?_
  refine rr_nx (pc' := 15) (al' := [some (.ref 146), some (.int (nI l)), none]) (st' := [.ref 146, .int (nI (400 * l)), .ref 146]) d_214_14 (fun _ => rfl) ?_
  refine rr_gf (v := .ref (147 + 1)) d_214_15 mo_214 fl_13 rfl ?_
  refine rn_sp (v := 2512) d_214_18 (by decide) ?_
  refine rr_nx (pc' := 22) (al' := [some (.ref 146), some (.int (nI l)), none]) (st' := [.int (nI l), .int (nI 2512), .ref (147 + 1), .int (nI (400 * l)), .ref 146]) d_214_21 (fun _ => rfl) ?_
  refine rn_add d_214_22  ?_
  refine rr_ia (j := 1) (v := (nI N)) d_214_23 (by decide) rfl (by decide) (show 2512 + l < 5720 by first | omega | assumption | exact cu_36 (by omega) (cu_lt (by omega) (by omega))) hH.1.2.1 ?_
  refine rn_add d_214_24  ?_
  refine rp_25 d_214_25 mo_214 fl_195  ?_
  refine rr_nx (pc' := 29) (al' := [some (.ref 146), some (.int (nI l)), none]) (st' := [.ref 146]) d_214_28 (fun _ => rfl) ?_
  refine rr_pv (as := []) (al0 := [some (.ref 146), none, none, none]) (r := []) d_214_29 mo_214 ml_217 mz_215 rfl rfl rfl (Nat.le_of_ble_eq_true rfl) (hq1) ?_
  show RR _ _ 32 [some (.ref 146), some (.int (nI l)), none] [.int (nI b)] (upd (upd (upd g 24 (nI (400 * l))) 25 (nI (400 * l + N))) 24 (nI (400 * l + t))) A _
  refine rr_nx (pc' := 33) (al' := [some (.ref 146), some (.int (nI l)), some (.int (nI b))]) (st' := []) d_214_32 (fun _ => rfl) ?_
  refine rr_nx (pc' := 34) (al' := [some (.ref 146), some (.int (nI l)), some (.int (nI b))]) (st' := [.ref 146]) d_214_33 (fun _ => rfl) ?_
  refine rr_nx (pc' := 35) (al' := [some (.ref 146), some (.int (nI l)), some (.int (nI b))]) (st' := [.ref 146, .ref 146]) d_214_34 (fun _ => rfl) ?_
  refine rr_gf (v := .int (nI (400 * l + t))) d_214_35 mo_214 fl_202 rfl ?_
  refine rr_pv (as := [.int (nI (400 * l + t))]) (al0 := [some (.ref 146), some (.int (nI (400 * l + t)))]) (r := []) d_214_38 mo_214 ml_205 mz_218 rfl rfl rfl (Nat.le_of_ble_eq_true rfl) (s_codeAt (j := t) hH.ev.u ht) ?_
  show RR _ _ 41 [some (.ref 146), some (.int (nI l)), some (.int (nI b))] [.int (nI (cod t))] (upd (upd (upd g 24 (nI (400 * l))) 25 (nI (400 * l + N))) 24 (nI (400 * l + t))) A _
  have hk4 := hH.1.2.2.2 t
  refine rn_ic (v := 5) d_214_41 (by decide) ?_
  refine rn_ceq (t := 55) d_214_42 (by decide) (by first | omega | assumption | exact cu_36 (by omega) (cu_lt (by omega) (by omega))) (by first | omega | assumption | exact cu_36 (by omega) (cu_lt (by omega) (by omega))) (fun c42 => ?_) (fun c42 => ?_)
  · refine rr_nx (pc' := 56) (al' := [some (.ref 146), some (.int (nI l)), some (.int (nI b))]) (st' := [.ref 146]) d_214_55 (fun _ => rfl) ?_
    refine rr_nx (pc' := 57) (al' := [some (.ref 146), some (.int (nI l)), some (.int (nI b))]) (st' := [.ref 146, .ref 146]) d_214_56 (fun _ => rfl) ?_
    refine rr_gf (v := .int (nI (400 * l + t))) d_214_57 mo_214 fl_202 rfl ?_
    refine rn_ic (v := 1) d_214_60 (by decide) ?_
    refine rn_add d_214_61  ?_
    refine rp_24 d_214_62 mo_214 fl_202  ?_
    refine rr_G (upd_u) ?_
    refine rr_nx (pc' := 66) (al' := [some (.ref 146), some (.int (nI l)), some (.int (nI b))]) (st' := [.ref 146]) d_214_65 (fun _ => rfl) ?_
    refine rr_pv (as := []) (al0 := [some (.ref 146), none, none, none]) (r := []) d_214_66 mo_214 ml_217 mz_215 rfl rfl rfl (Nat.le_of_ble_eq_true rfl) (hq2) ?_
    show RR _ _ 69 [some (.ref 146), some (.int (nI l)), some (.int (nI b))] [.int (nI b2)] (upd (upd (upd g 24 (nI (400 * l))) 25 (nI (400 * l + N))) 24 (nI (400 * l + r))) A _
    refine rn_ieq (t := 80) d_214_69 (by decide) (by first | omega | assumption | exact cu_36 (by omega) (cu_lt (by omega) (by omega))) (fun c69 => ?_) (fun c69 => ?_)
    · refine rn_ic (v := 0) d_214_80 (by decide) ?_
      exact rr_ri d_214_81 mr_214 (by decide) ⟨by rw [if_neg (fun h_ => by omega)], fun k h1_ h2_ => by rw [pk_un h1_, pk_un h2_, pk_un h1_], rfl⟩
    · refine rr_nx (pc' := 73) (al' := [some (.ref 146), some (.int (nI l)), some (.int (nI b))]) (st' := [.int (nI b)]) d_214_72 (fun _ => rfl) ?_
      refine rn_ine (t := 80) d_214_73 (by decide) (by first | omega | assumption | exact cu_36 (by omega) (cu_lt (by omega) (by omega))) (fun c73 => ?_) (fun c73 => ?_)
      · refine rn_ic (v := 0) d_214_80 (by decide) ?_
        exact rr_ri d_214_81 mr_214 (by decide) ⟨by rw [if_neg (fun h_ => by omega)], fun k h1_ h2_ => by rw [pk_un h1_, pk_un h2_, pk_un h1_], rfl⟩
      · refine rn_ic (v := 1) d_214_76 (by decide) ?_
        refine rr_nx (pc' := 81) (al' := [some (.ref 146), some (.int (nI l)), some (.int (nI b))]) (st' := [.int (nI 1)]) d_214_77 (fun _ => rfl) ?_
        exact rr_ri d_214_81 mr_214 (by decide) ⟨by rw [if_pos ⟨by omega, c73⟩], fun k h1_ h2_ => by rw [pk_un h1_, pk_un h2_, pk_un h1_], rfl⟩
  · omega
theorem s_failsFor {g : Nat → Int32} {A : Nat → Nat → Int32} {l N n : Nat} {cod vl c : Nat → Nat} (hH : LwH l N n cod vl c g A) (hl : Lat n c) {F : Nat} (hFN : N < F) (hw : (lwR cod N F).1 = true) : RR 21 214 0 [some (.ref 146), some (.int (nI l)), none] [] g A (fun v_ g' A' => v_ = some (.int (bI (lwB cod vl (jnW n c) F = true))) ∧ (∀ k, k ≠ 24 → k ≠ 25 → g' k = g k) ∧ A' = A) := by
  have hCE : CdE cod N := hH.1.1.2.2
  obtain ⟨r, hr⟩ : ∃ r, sid cod F (0, 0, []) = r := ⟨_, rfl⟩
  obtain ⟨r2, hr2⟩ : ∃ r2, sid cod F (r.2.1 + 1, r.2.2.1, r.2.2.2) = r2 := ⟨_, rfl⟩
  rw [lwR_w hr hr2] at hw
  have hok := sid_ok (F := F) hCE (0, 0, []) (Nat.zero_le _) (Nat.zero_le _)
  rw [hr] at hok
  obtain ⟨o1, o2, o3, o4, o5⟩ := hok
  by_cases hc : r.1 = true
  · rw [if_pos hc] at hw
    have hr' : sid cod F (0, 0, []) = (true, r.2) := by rw [hr, ← hc]
    have v1 := (sid_v (vl := vl) (jn := jnW n c) F _ _ hr').1
    have run1 := s_sideOf (s := (0, 0, [])) hl hFN (hH.ev (x := nI (400 * l))) (by rw [pk_un (by decide), pk_us]; rfl) (Nat.zero_le _) (Nat.zero_le _) hr'
    dsimp only at v1 run1
    unfold lwB
    rw [v1]
    by_cases h5 : cod r.2.1 = 5
    · rw [if_pos h5] at hw ⊢
      by_cases h2 : r2.1 = true
      · have hr2' : sid cod F (r.2.1 + 1, r.2.2.1, r.2.2.2) = (true, r2.2) := by rw [hr2, ← h2]
        have hlt := cd_in hCE o2 (by omega)
        have run2 := s_sideOf (s := (r.2.1 + 1, r.2.2.1, r.2.2.2)) (g := upd (upd (upd g 24 (nI (400 * l))) 25 (nI (400 * l + N))) 24 (nI (400 * l + r.2.1 + 1))) hl hFN hH.ev.u (by rw [pk_us]; rfl) (by show r.2.1 + 1 ≤ N; omega) o4 hr2'
        rw [upd_u] at run2
        dsimp only at run2
        refine rr_cq (s_ff_y hH (b1_le _) (b1_le _) o2 h5 run1 run2) ?_
        rintro v g' A' ⟨rfl, q2, q3⟩
        refine ⟨?_, q2, q3⟩
        rw [← b1_bI]
        cases (sdE cod vl (jnW n c) F F (r.2.1 + 1)).1 <;> cases (sdE cod vl (jnW n c) F F 0).1 <;> rfl
      · rw [if_neg h2] at hw
        cases hw
    · rw [if_neg h5] at ⊢
      refine rr_cq (s_ff_n hH (b1_le _) o2 h5 run1) ?_
      rintro v g' A' ⟨rfl, q2, q3⟩
      refine ⟨?_, q2, q3⟩
      rw [← b1_bI]
      cases (sdE cod vl (jnW n c) F F 0).1 <;> rfl
  · rw [if_neg hc] at hw
    cases hw
def usF (cod : Nat → Nat) (j : Nat) : Nat := if 1 ≤ cod j ∧ cod j ≤ 3 then 1 * 2 ^ cod j else 0
def usC (cod : Nat → Nat) (N : Nat) : Nat := ORs (usF cod) N
theorem us_lt {cod : Nat → Nat} {N : Nat} : usC cod N < 16 := ORs_lt (m := 4) (fun i _ => by
  unfold usF
  split
  next h => rw [Nat.one_mul]; exact Nat.pow_lt_pow_right (by decide) (by omega)
  next h => decide)
theorem usC_bit {cod : Nat → Nat} {N k : Nat} (h1 : 1 ≤ k) (h3 : k ≤ 3) : (usC cod N).testBit k = true ↔ ∃ j, j < N ∧ cod j = k := by
  unfold usC
  rw [ORs_bit]
  constructor
  · rintro ⟨i, hi, e⟩
    unfold usF at e
    split at e
    · rw [Nat.one_mul, Nat.testBit_two_pow] at e
      exact ⟨i, hi, of_decide_eq_true e⟩
    · rw [Nat.zero_testBit] at e
      cases e
  · rintro ⟨i, hi, e⟩
    refine ⟨i, hi, ?_⟩
    unfold usF
    rw [if_pos (by omega), Nat.one_mul, Nat.testBit_two_pow]
    exact decide_eq_true e
theorem an_p {u k : Nat} : (0 < u &&& 2 ^ k) ↔ u.testBit k = true := by
  constructor
  · intro h
    cases e : u.testBit k
    · exfalso
      have : u &&& 2 ^ k = 0 := by
        apply Nat.eq_of_testBit_eq
        intro j
        rw [Nat.testBit_and, Nat.testBit_two_pow, Nat.zero_testBit]
        by_cases q : k = j
        · rw [← q, e, Bool.false_and]
        · rw [decide_eq_false q, Bool.and_false]
      omega
    · rfl
  · intro e
    rcases Nat.eq_zero_or_pos (u &&& 2 ^ k) with q | q
    · have : (u &&& 2 ^ k).testBit k = true := by rw [Nat.testBit_and, e, Nat.testBit_two_pow_self]; rfl
      rw [q, Nat.zero_testBit] at this
      cases this
    · exact q
/-- spans by the reference are spans by the code -/
theorem sp_R {cod : Nat → Nat} {N F n i k : Nat} {w : List Nat} (hV : LwV cod N F w i) (hk : k ≤ 2) : (0 < usC cod N &&& 2 ^ (k + 1) → spN n w k = n) ∧ (usC cod N &&& 2 ^ (k + 1) = 0 → spN n w k = 1) := by
  have h := hV.2.2.2.2.2.1 k (by omega)
  unfold spN
  constructor
  · intro q
    rw [if_pos (h.mpr ((usC_bit (by omega) (by omega)).mp (an_p.mp q)))]
  · intro q
    rw [if_neg (fun e => absurd (an_p.mpr ((usC_bit (by omega) (by omega)).mpr (h.mp e))) (by omega))]
theorem s_usedIn {g : Nat → Int32} {A : Nat → Nat → Int32} {l N : Nat} {cod : Nat → Nat} (hK : LwK l N cod A) : RR 1 211 0 [some (.ref 146), some (.int (nI l)), none, none] [] g A (rP (some (.int (nI (usC cod N)))) g A) := by
  have hl8 := hK.1.1
  have hN4 := hK.1.2.1
  refine rn_ic (v := 0) d_211_0 (by decide) ?_
  refine rr_nx (pc' := 2) (al' := [some (.ref 146), some (.int (nI l)), some (.int (nI 0)), none]) (st' := []) d_211_1 (fun _ => rfl) ?_
  refine rn_ic (v := 0) d_211_2 (by decide) ?_
  refine rr_nx (pc' := 4) (al' := [some (.ref 146), some (.int (nI l)), some (.int (nI 0)), some (.int (nI 0))]) (st' := []) d_211_3 (fun _ => rfl) ?_
  refine rr_al (congrArg (fun z__ : Nat => ([some (.ref 146), some (.int (nI l)), some (.int (nI z__)), some (.int (nI 0))] : AL)) (show 0 = ORs (usF cod) 0 by rfl)) ?_
  refine rr_up (al := fun j => [some (.ref 146), some (.int (nI l)), some (.int (nI (ORs (usF cod) j))), some (.int (nI j))]) (G := fun j => g) (B := fun j => A) (P := fun j => True) (n := N) (fun j hj pj ihj => ?_) (fun pj => ?_) 0  (by omega) (trivial)
  · show RR _ _ 4 [some (.ref 146), some (.int (nI l)), some (.int (nI (ORs (usF cod) j))), some (.int (nI j))] [] g A _
    refine rr_nx (pc' := 5) (al' := [some (.ref 146), some (.int (nI l)), some (.int (nI (ORs (usF cod) j))), some (.int (nI j))]) (st' := [.int (nI j)]) d_211_4 (fun _ => rfl) ?_
    refine rr_nx (pc' := 6) (al' := [some (.ref 146), some (.int (nI l)), some (.int (nI (ORs (usF cod) j))), some (.int (nI j))]) (st' := [.ref 146, .int (nI j)]) d_211_5 (fun _ => rfl) ?_
    refine rr_gf (v := .ref (147 + 1)) d_211_6 mo_211 fl_13 rfl ?_
    refine rn_sp (v := 2512) d_211_9 (by decide) ?_
    refine rr_nx (pc' := 13) (al' := [some (.ref 146), some (.int (nI l)), some (.int (nI (ORs (usF cod) j))), some (.int (nI j))]) (st' := [.int (nI l), .int (nI 2512), .ref (147 + 1), .int (nI j)]) d_211_12 (fun _ => rfl) ?_
    refine rn_add d_211_13  ?_
    refine rr_ia (j := 1) (v := (nI N)) d_211_14 (by decide) rfl (by decide) (show 2512 + l < 5720 by first | omega | assumption | exact cu_36 (by omega) (cu_lt (by omega) (by omega))) hK.2.1 ?_
    refine rn_cge (t := 69) d_211_15 (by decide) (by first | omega | assumption | exact cu_36 (by omega) (cu_lt (by omega) (by omega))) (by first | omega | assumption | exact cu_36 (by omega) (cu_lt (by omega) (by omega))) (fun c15 => ?_) (fun c15 => ?_)
    · omega
    · refine rr_nx (pc' := 19) (al' := [some (.ref 146), some (.int (nI l)), some (.int (nI (ORs (usF cod) j))), some (.int (nI j))]) (st' := [.ref 146]) d_211_18 (fun _ => rfl) ?_
      refine rr_gf (v := .ref (147 + 1)) d_211_19 mo_211 fl_13 rfl ?_
      refine rn_sp (v := 2520) d_211_22 (by decide) ?_
      refine rn_sp (v := 400) d_211_25 (by decide) ?_
      refine rr_nx (pc' := 29) (al' := [some (.ref 146), some (.int (nI l)), some (.int (nI (ORs (usF cod) j))), some (.int (nI j))]) (st' := [.int (nI l), .int (nI 400), .int (nI 2520), .ref (147 + 1)]) d_211_28 (fun _ => rfl) ?_
      refine rn_mul d_211_29  ?_
      refine rn_add d_211_30  ?_
      refine rr_nx (pc' := 32) (al' := [some (.ref 146), some (.int (nI l)), some (.int (nI (ORs (usF cod) j))), some (.int (nI j))]) (st' := [.int (nI j), .int (nI (2520 + (400 * l))), .ref (147 + 1)]) d_211_31 (fun _ => rfl) ?_
      refine rn_add d_211_32  ?_
      refine rr_ia (j := 1) (v := (nI (cod j))) d_211_33 (by decide) rfl (by decide) (show (2520 + (400 * l)) + j < 5720 by first | omega | assumption | exact cu_36 (by omega) (cu_lt (by omega) (by omega))) (by rw [Nat.add_assoc]; exact hK.2.2.1 j hj) ?_
      refine rn_ic (v := 1) d_211_34 (by decide) ?_
      refine rn_ic (v := 3) d_211_35 (by decide) ?_
      refine rr_ps (as := [.int (nI (cod j)), .int (nI 1), .int (nI 3)]) (al0 := [some (.int (nI (cod j))), some (.int (nI 1)), some (.int (nI 3))]) (r := []) d_211_36 mo_211 ml_106 mz_179 rfl rfl rfl (Nat.le_of_ble_eq_true rfl) (s_lies _ _ _) ?_
      show RR _ _ 39 [some (.ref 146), some (.int (nI l)), some (.int (nI (ORs (usF cod) j))), some (.int (nI j))] [.int (bI (nI 1 ≤ nI (cod j) ∧ nI (cod j) ≤ nI 3))] g A _
      have hk4 := hK.2.2.2 j
      refine rr_beq (t := 63) d_211_39 (by decide) (fun c39 => ?_) (fun c39 => ?_)
      · rw [nI_leI (by decide) (by omega), nI_leI (by omega) (by decide)] at c39
        refine rn_inc d_211_63 rfl rfl ?_
        show RR _ _ 66 [some (.ref 146), some (.int (nI l)), some (.int (nI (ORs (usF cod) j))), some (.int (nI (j + 1)))] [] g A _
        refine rr_nx (pc' := 4) (al' := [some (.ref 146), some (.int (nI l)), some (.int (nI (ORs (usF cod) j))), some (.int (nI (j + 1)))]) (st' := []) d_211_66 (fun _ => rfl) ?_
        refine rr_al (congrArg (fun z__ : Nat => ([some (.ref 146), some (.int (nI l)), some (.int (nI z__)), some (.int (nI (j + 1)))] : AL)) (show ORs (usF cod) j = ORs (usF cod) (j + 1) by rw [ORs_s, usF, if_neg c39, Nat.or_zero])) ?_
        exact ihj  (trivial)
      · rw [nI_leI (by decide) (by omega), nI_leI (by omega) (by decide)] at c39
        refine rr_nx (pc' := 43) (al' := [some (.ref 146), some (.int (nI l)), some (.int (nI (ORs (usF cod) j))), some (.int (nI j))]) (st' := [.int (nI (ORs (usF cod) j))]) d_211_42 (fun _ => rfl) ?_
        refine rn_ic (v := 1) d_211_43 (by decide) ?_
        refine rr_nx (pc' := 45) (al' := [some (.ref 146), some (.int (nI l)), some (.int (nI (ORs (usF cod) j))), some (.int (nI j))]) (st' := [.ref 146, .int (nI 1), .int (nI (ORs (usF cod) j))]) d_211_44 (fun _ => rfl) ?_
        refine rr_gf (v := .ref (147 + 1)) d_211_45 mo_211 fl_13 rfl ?_
        refine rn_sp (v := 2520) d_211_48 (by decide) ?_
        refine rn_sp (v := 400) d_211_51 (by decide) ?_
        refine rr_nx (pc' := 55) (al' := [some (.ref 146), some (.int (nI l)), some (.int (nI (ORs (usF cod) j))), some (.int (nI j))]) (st' := [.int (nI l), .int (nI 400), .int (nI 2520), .ref (147 + 1), .int (nI 1), .int (nI (ORs (usF cod) j))]) d_211_54 (fun _ => rfl) ?_
        refine rn_mul d_211_55  ?_
        refine rn_add d_211_56  ?_
        refine rr_nx (pc' := 58) (al' := [some (.ref 146), some (.int (nI l)), some (.int (nI (ORs (usF cod) j))), some (.int (nI j))]) (st' := [.int (nI j), .int (nI (2520 + (400 * l))), .ref (147 + 1), .int (nI 1), .int (nI (ORs (usF cod) j))]) d_211_57 (fun _ => rfl) ?_
        refine rn_add d_211_58  ?_
        refine rr_ia (j := 1) (v := (nI (cod j))) d_211_59 (by decide) rfl (by decide) (show (2520 + (400 * l)) + j < 5720 by first | omega | assumption | exact cu_36 (by omega) (cu_lt (by omega) (by omega))) (by rw [Nat.add_assoc]; exact hK.2.2.1 j hj) ?_
        refine rn_shl d_211_60 (by omega) ?_
        refine rn_or d_211_61 ?_
        refine rr_nx (pc' := 63) (al' := [some (.ref 146), some (.int (nI l)), some (.int (nI ((ORs (usF cod) j) ||| (1 * 2 ^ (cod j))))), some (.int (nI j))]) (st' := []) d_211_62 (fun _ => rfl) ?_
        refine rn_inc d_211_63 rfl rfl ?_
        show RR _ _ 66 [some (.ref 146), some (.int (nI l)), some (.int (nI ((ORs (usF cod) j) ||| (1 * 2 ^ (cod j))))), some (.int (nI (j + 1)))] [] g A _
        refine rr_nx (pc' := 4) (al' := [some (.ref 146), some (.int (nI l)), some (.int (nI ((ORs (usF cod) j) ||| (1 * 2 ^ (cod j))))), some (.int (nI (j + 1)))]) (st' := []) d_211_66 (fun _ => rfl) ?_
        refine rr_al (congrArg (fun z__ : Nat => ([some (.ref 146), some (.int (nI l)), some (.int (nI z__)), some (.int (nI (j + 1)))] : AL)) (show (ORs (usF cod) j) ||| (1 * 2 ^ (cod j)) = ORs (usF cod) (j + 1) by rw [ORs_s, usF, if_pos c39])) ?_
        exact ihj  (trivial)
  · show RR _ _ 4 [some (.ref 146), some (.int (nI l)), some (.int (nI (ORs (usF cod) N))), some (.int (nI N))] [] g A _
    refine rr_nx (pc' := 5) (al' := [some (.ref 146), some (.int (nI l)), some (.int (nI (ORs (usF cod) N))), some (.int (nI N))]) (st' := [.int (nI N)]) d_211_4 (fun _ => rfl) ?_
    refine rr_nx (pc' := 6) (al' := [some (.ref 146), some (.int (nI l)), some (.int (nI (ORs (usF cod) N))), some (.int (nI N))]) (st' := [.ref 146, .int (nI N)]) d_211_5 (fun _ => rfl) ?_
    refine rr_gf (v := .ref (147 + 1)) d_211_6 mo_211 fl_13 rfl ?_
    refine rn_sp (v := 2512) d_211_9 (by decide) ?_
    refine rr_nx (pc' := 13) (al' := [some (.ref 146), some (.int (nI l)), some (.int (nI (ORs (usF cod) N))), some (.int (nI N))]) (st' := [.int (nI l), .int (nI 2512), .ref (147 + 1), .int (nI N)]) d_211_12 (fun _ => rfl) ?_
    refine rn_add d_211_13  ?_
    refine rr_ia (j := 1) (v := (nI N)) d_211_14 (by decide) rfl (by decide) (show 2512 + l < 5720 by first | omega | assumption | exact cu_36 (by omega) (cu_lt (by omega) (by omega))) hK.2.1 ?_
    refine rn_cge (t := 69) d_211_15 (by decide) (by first | omega | assumption | exact cu_36 (by omega) (cu_lt (by omega) (by omega))) (by first | omega | assumption | exact cu_36 (by omega) (cu_lt (by omega) (by omega))) (fun c15 => ?_) (fun c15 => ?_)
    · refine rr_nx (pc' := 70) (al' := [some (.ref 146), some (.int (nI l)), some (.int (nI (ORs (usF cod) N))), some (.int (nI N))]) (st' := [.int (nI (ORs (usF cod) N))]) d_211_69 (fun _ => rfl) ?_
      exact rr_ri d_211_70 mr_211 rfl ⟨rfl, rfl, rfl⟩
    · omega
theorem s_gt_55 {g : Nat → Int32} {A : Nat → Nat → Int32} {Q : Option Value → (Nat → Int32) → (Nat → Nat → Int32) → Prop} {K l fi u n p q : Nat} {p4 p5 p6 : Option Value} (h6 : g 6 = nI n) (hn6 : n ≤ 6) (hs : (0 < u &&& 2 → q = n) ∧ (u &&& 2 = 0 → q = 1)) (hk : RR K 210 69 [some (.ref 146), some (.int (nI l)), some (.int (nI fi)), some (.int (nI u)), p4, p5, p6] [.int (nI q), .int (nI p)] g A Q) : RR K 210 55 [some (.ref 146), some (.int (nI l)), some (.int (nI fi)), some (.int (nI u)), p4, p5, p6] [.int (nI p)] g A Q := by
  refine rr_nx (pc' := 56) (al' := [some (.ref 146), some (.int (nI l)), some (.int (nI fi)), some (.int (nI u)), p4, p5, p6]) (st' := [.int (nI u), .int (nI p)]) d_210_55 (fun _ => rfl) ?_
  refine rn_ic (v := 2) d_210_56 (by decide) ?_
  refine rn_and d_210_57 ?_
  refine rn_zle (t := 68) d_210_58 (by decide) (Nat.lt_of_le_of_lt Nat.and_le_right (by decide)) (fun c58 => ?_) (fun c58 => ?_)
  · refine rn_ic (v := 1) d_210_68 (by decide) ?_
    rw [hs.2 c58] at hk
    exact hk
  · refine rr_nx (pc' := 62) (al' := [some (.ref 146), some (.int (nI l)), some (.int (nI fi)), some (.int (nI u)), p4, p5, p6]) (st' := [.ref 146, .int (nI p)]) d_210_61 (fun _ => rfl) ?_
    refine rr_gn d_210_62 mo_210 fl_127 rfl h6 ?_
    refine rr_nx (pc' := 69) (al' := [some (.ref 146), some (.int (nI l)), some (.int (nI fi)), some (.int (nI u)), p4, p5, p6]) (st' := [.int (nI n), .int (nI p)]) d_210_65 (fun _ => rfl) ?_
    rw [hs.1 c58] at hk
    exact hk
theorem s_gt_77 {g : Nat → Int32} {A : Nat → Nat → Int32} {Q : Option Value → (Nat → Int32) → (Nat → Nat → Int32) → Prop} {K l fi u n p q : Nat} {p4 p5 p6 : Option Value} (h6 : g 6 = nI n) (hn6 : n ≤ 6) (hs : (0 < u &&& 4 → q = n) ∧ (u &&& 4 = 0 → q = 1)) (hk : RR K 210 91 [some (.ref 146), some (.int (nI l)), some (.int (nI fi)), some (.int (nI u)), p4, p5, p6] [.int (nI q), .int (nI p)] g A Q) : RR K 210 77 [some (.ref 146), some (.int (nI l)), some (.int (nI fi)), some (.int (nI u)), p4, p5, p6] [.int (nI p)] g A Q := by
  refine rr_nx (pc' := 78) (al' := [some (.ref 146), some (.int (nI l)), some (.int (nI fi)), some (.int (nI u)), p4, p5, p6]) (st' := [.int (nI u), .int (nI p)]) d_210_77 (fun _ => rfl) ?_
  refine rn_ic (v := 4) d_210_78 (by decide) ?_
  refine rn_and d_210_79 ?_
  refine rn_zle (t := 90) d_210_80 (by decide) (Nat.lt_of_le_of_lt Nat.and_le_right (by decide)) (fun c80 => ?_) (fun c80 => ?_)
  · refine rn_ic (v := 1) d_210_90 (by decide) ?_
    rw [hs.2 c80] at hk
    exact hk
  · refine rr_nx (pc' := 84) (al' := [some (.ref 146), some (.int (nI l)), some (.int (nI fi)), some (.int (nI u)), p4, p5, p6]) (st' := [.ref 146, .int (nI p)]) d_210_83 (fun _ => rfl) ?_
    refine rr_gn d_210_84 mo_210 fl_127 rfl h6 ?_
    refine rr_nx (pc' := 91) (al' := [some (.ref 146), some (.int (nI l)), some (.int (nI fi)), some (.int (nI u)), p4, p5, p6]) (st' := [.int (nI n), .int (nI p)]) d_210_87 (fun _ => rfl) ?_
    rw [hs.1 c80] at hk
    exact hk
theorem s_gt_99 {g : Nat → Int32} {A : Nat → Nat → Int32} {Q : Option Value → (Nat → Int32) → (Nat → Nat → Int32) → Prop} {K l fi u n p q : Nat} {p4 p5 p6 : Option Value} (h6 : g 6 = nI n) (hn6 : n ≤ 6) (hs : (0 < u &&& 8 → q = n) ∧ (u &&& 8 = 0 → q = 1)) (hk : RR K 210 114 [some (.ref 146), some (.int (nI l)), some (.int (nI fi)), some (.int (nI u)), p4, p5, p6] [.int (nI q), .int (nI p)] g A Q) : RR K 210 99 [some (.ref 146), some (.int (nI l)), some (.int (nI fi)), some (.int (nI u)), p4, p5, p6] [.int (nI p)] g A Q := by
  refine rr_nx (pc' := 100) (al' := [some (.ref 146), some (.int (nI l)), some (.int (nI fi)), some (.int (nI u)), p4, p5, p6]) (st' := [.int (nI u), .int (nI p)]) d_210_99 (fun _ => rfl) ?_
  refine rn_bp (v := 8) d_210_100 (by decide) ?_
  refine rn_and d_210_102 ?_
  refine rn_zle (t := 113) d_210_103 (by decide) (Nat.lt_of_le_of_lt Nat.and_le_right (by decide)) (fun c103 => ?_) (fun c103 => ?_)
  · refine rn_ic (v := 1) d_210_113 (by decide) ?_
    rw [hs.2 c103] at hk
    exact hk
  · refine rr_nx (pc' := 107) (al' := [some (.ref 146), some (.int (nI l)), some (.int (nI fi)), some (.int (nI u)), p4, p5, p6]) (st' := [.ref 146, .int (nI p)]) d_210_106 (fun _ => rfl) ?_
    refine rr_gn d_210_107 mo_210 fl_127 rfl h6 ?_
    refine rr_nx (pc' := 114) (al' := [some (.ref 146), some (.int (nI l)), some (.int (nI fi)), some (.int (nI u)), p4, p5, p6]) (st' := [.int (nI n), .int (nI p)]) d_210_110 (fun _ => rfl) ?_
    rw [hs.1 c103] at hk
    exact hk
/-- none ahead of x y z -/
def NB (br : Nat → Nat → Nat → Bool) (ys zs x y z : Nat) : Prop := (∀ p, p < x → ∀ q, q < ys → ∀ r, r < zs → br p q r = false) ∧ (∀ q, q < y → ∀ r, r < zs → br x q r = false) ∧ ∀ r, r < z → br x y r = false
theorem NB.z {br : Nat → Nat → Nat → Bool} {ys zs x y z : Nat} (h : NB br ys zs x y z) (hb : br x y z = false) : NB br ys zs x y (z + 1) := ⟨h.1, h.2.1, all_s (p := fun r => br x y r = false) h.2.2 hb⟩
theorem NB.y {br : Nat → Nat → Nat → Bool} {ys zs x y : Nat} (h : NB br ys zs x y zs) : NB br ys zs x (y + 1) 0 := ⟨h.1, all_s (p := fun q => ∀ r, r < zs → br x q r = false) h.2.1 h.2.2, all_0⟩
theorem NB.x {br : Nat → Nat → Nat → Bool} {ys zs x : Nat} (h : NB br ys zs x ys 0) : NB br ys zs (x + 1) 0 0 := ⟨all_s (p := fun p => ∀ q, q < ys → ∀ r, r < zs → br p q r = false) h.1 h.2.1, all_0, all_0⟩
theorem NB.o {br : Nat → Nat → Nat → Bool} {ys zs : Nat} : NB br ys zs 0 0 0 := ⟨all_0, all_0, all_0⟩
/-- the first, so far -/
def Fg1 (br : Nat → Nat → Nat → Bool) (xs ys zs x y z : Nat) (g : Nat → Int32) : Prop := (g 26 = nI 0 ∧ NB br ys zs x y z) ∨ (g 26 = nI 1 ∧ ∃ u v w, FsT br xs ys zs u v w)
def FgN (br : Nat → Nat → Nat → Bool) (xs ys zs cnt x y z : Nat) (g : Nat → Int32) : Prop := g 26 = nI cnt ∧ ((cnt = 0 ∧ NB br ys zs x y z ∧ g 27 = -1 ∧ g 28 = -1 ∧ g 29 = -1) ∨ (0 < cnt ∧ ∃ u v w, FsT br xs ys zs u v w ∧ g 27 = nI u ∧ g 28 = nI v ∧ g 29 = nI w))
def GtF (g : Nat → Int32) (A : Nat → Nat → Int32) (e : Nat) (w : (Nat → Int32) × (Nat → Nat → Int32)) : Prop := (∀ k, k < 24 ∨ 30 ≤ k → w.1 k = g k) ∧ (∀ j, j ≠ 12 → w.2 j = A j) ∧ w.2 12 4 = nI e
theorem Fg1.cg {br : Nat → Nat → Nat → Bool} {xs ys zs x y z u v w : Nat} {g g' : Nat → Int32} (h : Fg1 br xs ys zs x y z g) (hn : NB br ys zs x y z → NB br ys zs u v w) (hg : g' 26 = g 26) : Fg1 br xs ys zs u v w g' := by
  unfold Fg1
  rw [hg]
  exact h.imp (fun q => ⟨q.1, hn q.2⟩) id
theorem FgN.cg {br : Nat → Nat → Nat → Bool} {xs ys zs cnt x y z u v w : Nat} {g g' : Nat → Int32} (h : FgN br xs ys zs cnt x y z g) (hn : NB br ys zs x y z → NB br ys zs u v w) (hg : ∀ k, k ≠ 24 → k ≠ 25 → g' k = g k) : FgN br xs ys zs cnt u v w g' := by
  unfold FgN
  rw [hg 26 (by decide) (by decide), hg 27 (by decide) (by decide), hg 28 (by decide) (by decide), hg 29 (by decide) (by decide)]
  exact ⟨h.1, h.2.imp (fun q => ⟨q.1, hn q.2.1, q.2.2⟩) id⟩
theorem FgN.c {br : Nat → Nat → Nat → Bool} {xs ys zs cnt cnt' x y z : Nat} {g : Nat → Int32} (h : FgN br xs ys zs cnt x y z g) (e : cnt = cnt') : FgN br xs ys zs cnt' x y z g := e ▸ h
theorem GtF.s {g g1 : Nat → Int32} {A : Nat → Nat → Int32} {e : Nat} {w : (Nat → Int32) × (Nat → Nat → Int32)} (h : GtF g A e w) {a b d : Int32} (hg : ∀ k, k ≠ 24 → k ≠ 25 → g1 k = w.1 k) : GtF g A e (g1, rf_u w.2 12 (upd (upd (upd (w.2 12) 1 a) 2 b) 3 d)) := ⟨fun k hk => by dsimp only; rw [hg k (by omega) (by omega)]; exact h.1 k hk, fun j hj => by dsimp only; rw [rf_u_n hj]; exact h.2.1 j hj, by dsimp only; rw [rf_u_s, pk_un (by decide), pk_un (by decide), pk_un (by decide)]; exact h.2.2⟩
theorem GtF.u {g g1 : Nat → Int32} {A A1 : Nat → Nat → Int32} {e k : Nat} {v : Int32} (h : GtF g A e (g1, A1)) (hk : 24 ≤ k ∧ k < 30) : GtF g A e (upd g1 k v, A1) := ⟨fun j hj => by dsimp only; rw [pk_un (by omega)]; exact h.1 j hj, h.2⟩
theorem GtF.lw {g : Nat → Int32} {A : Nat → Nat → Int32} {e l N n x y z : Nat} {cod c : Nat → Nat} {w : (Nat → Int32) × (Nat → Nat → Int32)} (h : GtF g A e w) (hK : LwK l N cod A) (hc : Cur g A n c) (hx : x < n) (hy : y < n) (hz : z < n) (he : e < n) : LwH l N n cod (vlF x y z e) c w.1 (rf_u w.2 12 (upd (upd (upd (w.2 12) 1 (nI x)) 2 (nI y)) 3 (nI z))) := by
  have h1 : rf_u w.2 12 (upd (upd (upd (w.2 12) 1 (nI x)) 2 (nI y)) 3 (nI z)) 1 = A 1 := by rw [rf_u_n (by decide)]; exact h.2.1 1 (by decide)
  have h4 : rf_u w.2 12 (upd (upd (upd (w.2 12) 1 (nI x)) 2 (nI y)) 3 (nI z)) 4 = A 4 := by rw [rf_u_n (by decide)]; exact h.2.1 4 (by decide)
  refine ⟨?_, ⟨by rw [h.1 6 (by omega)]; exact hc.1, hc.2.1, fun q hq => by rw [h4]; exact hc.2.2 q hq⟩, fun k hk => ?_, fun k => ?_⟩
  · unfold LwK
    rw [h1]
    exact hK
  · rw [rf_u_s]
    have hk4 : k = 0 ∨ k = 1 ∨ k = 2 ∨ k = 3 := by omega
    rcases hk4 with rfl | rfl | rfl | rfl
    · rw [pk_un (by decide), pk_un (by decide), pk_us]; rfl
    · rw [pk_un (by decide), pk_us]; rfl
    · rw [pk_us]; rfl
    · rw [pk_un (by decide), pk_un (by decide), pk_un (by decide)]; exact h.2.2
  · unfold vlF
    split
    · exact hx
    · split
      · exact hy
      · split
        · exact hz
        · exact he
theorem n_26 {v : Int32} (h : v = nI 0) : v ≤ 0 := by rw [h]; decide
theorem sx {u xs n : Nat} (h : (0 < u → xs = n) ∧ (u = 0 → xs = 1)) (h1 : 1 ≤ n) : xs ≤ n := by
  rcases Nat.eq_zero_or_pos u with q | q
  · rw [h.2 q]; exact h1
  · rw [h.1 q]; exact Nat.le_refl _
theorem sl {x xs n : Nat} (h : xs ≤ n) (hx : x < xs) : x < n := Nat.lt_of_lt_of_le hx h
theorem s_gt_0 {g : Nat → Int32} {A : Nat → Nat → Int32} {Q : Option Value → (Nat → Int32) → (Nat → Nat → Int32) → Prop} {fi : Nat} {l N n e xs ys zs F : Nat} {cod c : Nat → Nat} (hK : LwK l N cod A) (hc : Cur g A n c) (hl : Lat n c) (hFN : N < F) (hw : (lwR cod N F).1 = true) (he : e < n) (hs0 : (0 < usC cod N &&& 2 → xs = n) ∧ (usC cod N &&& 2 = 0 → xs = 1)) (hs1 : (0 < usC cod N &&& 4 → ys = n) ∧ (usC cod N &&& 4 = 0 → ys = 1)) (hs2 : (0 < usC cod N &&& 8 → zs = n) ∧ (usC cod N &&& 8 = 0 → zs = 1)) (hu : (if unV 0 n c = -1 then nI 0 else unV 0 n c) = nI e) (hk : RR 22 210 53 [some (.ref 146), some (.int (nI l)), some (.int (nI fi)), some (.int (nI (usC cod N))), some (.int (nI 0)), none, none] [] (upd (upd (upd (upd g 26 (nI 0)) 27 (-1)) 28 (-1)) 29 (-1)) (rf_u A 12 (upd (A 12) 4 (nI e))) Q) : RR 22 210 0 [some (.ref 146), some (.int (nI l)), some (.int (nI fi)), none, none, none, none] [] g A Q := by
  refine rr_nx (pc' := 1) (al' := [some (.ref 146), some (.int (nI l)), some (.int (nI fi)), none, none, none, none]) (st' := [.ref 146]) d_210_0 (fun _ => rfl) ?_
  refine rr_nx (pc' := 2) (al' := [some (.ref 146), some (.int (nI l)), some (.int (nI fi)), none, none, none, none]) (st' := [.int (nI l), .ref 146]) d_210_1 (fun _ => rfl) ?_
  refine rr_pv (as := [.int (nI l)]) (al0 := [some (.ref 146), some (.int (nI l)), none, none]) (r := []) d_210_2 mo_210 ml_220 mz_211 rfl rfl rfl (Nat.le_of_ble_eq_true rfl) (s_usedIn hK) ?_
  show RR _ _ 5 [some (.ref 146), some (.int (nI l)), some (.int (nI fi)), none, none, none, none] [.int (nI (usC cod N))] g A _
  refine rr_nx (pc' := 6) (al' := [some (.ref 146), some (.int (nI l)), some (.int (nI fi)), some (.int (nI (usC cod N))), none, none, none]) (st' := []) d_210_5 (fun _ => rfl) ?_
  refine rr_nx (pc' := 7) (al' := [some (.ref 146), some (.int (nI l)), some (.int (nI fi)), some (.int (nI (usC cod N))), none, none, none]) (st' := [.ref 146]) d_210_6 (fun _ => rfl) ?_
  refine rr_gf (v := .ref (147 + 12)) d_210_7 mo_210 fl_52 rfl ?_
  refine rn_ic (v := 4) d_210_10 (by decide) ?_
  refine rr_nx (pc' := 12) (al' := [some (.ref 146), some (.int (nI l)), some (.int (nI fi)), some (.int (nI (usC cod N))), none, none, none]) (st' := [.ref 146, .int (nI 4), .ref (147 + 12)]) d_210_11 (fun _ => rfl) ?_
  refine rn_ic (v := 0) d_210_12 (by decide) ?_
  refine rr_pv (as := [.int (nI 0)]) (al0 := [some (.ref 146), some (.int (nI 0)), none, none, none]) (r := [.int (nI 4), .ref (147 + 12)]) d_210_13 mo_210 ml_223 mz_212 rfl rfl rfl (Nat.le_of_ble_eq_true rfl) (s_unitOf hc (by omega)) ?_
  show RR _ _ 16 [some (.ref 146), some (.int (nI l)), some (.int (nI fi)), some (.int (nI (usC cod N))), none, none, none] [.int (unV 0 n c), .int (nI 4), .ref (147 + 12)] g A _
  refine rr_nx (pc' := 17) (al' := [some (.ref 146), some (.int (nI l)), some (.int (nI fi)), some (.int (nI (usC cod N))), none, none, none]) (st' := [.int (-1), .int (unV 0 n c), .int (nI 4), .ref (147 + 12)]) d_210_16 (fun _ => rfl) ?_
  refine rr_cne (t := 24) d_210_17 (by decide) (fun c17 => ?_) (fun c17 => ?_)
  · refine rr_nx (pc' := 25) (al' := [some (.ref 146), some (.int (nI l)), some (.int (nI fi)), some (.int (nI (usC cod N))), none, none, none]) (st' := [.ref 146, .int (nI 4), .ref (147 + 12)]) d_210_24 (fun _ => rfl) ?_
    refine rn_ic (v := 0) d_210_25 (by decide) ?_
    refine rr_pv (as := [.int (nI 0)]) (al0 := [some (.ref 146), some (.int (nI 0)), none, none, none]) (r := [.int (nI 4), .ref (147 + 12)]) d_210_26 mo_210 ml_223 mz_212 rfl rfl rfl (Nat.le_of_ble_eq_true rfl) (s_unitOf hc (by omega)) ?_
    show RR _ _ 29 [some (.ref 146), some (.int (nI l)), some (.int (nI fi)), some (.int (nI (usC cod N))), none, none, none] [.int (unV 0 n c), .int (nI 4), .ref (147 + 12)] g A _
    refine rr_tp (z := nI e) (by rw [← hu, if_neg c17]) ?_
    refine rr_iS (j := 12) (A1 := (rf_u A 12 (upd (A 12) 4 (nI e)))) d_210_29 (by decide) rfl (by decide) (show 4 < 5 by first | omega | assumption | exact cu_36 (by omega) (cu_lt (by omega) (by omega))) rfl ?_
    refine rr_nx (pc' := 31) (al' := [some (.ref 146), some (.int (nI l)), some (.int (nI fi)), some (.int (nI (usC cod N))), none, none, none]) (st' := [.ref 146]) d_210_30 (fun _ => rfl) ?_
    refine rn_ic (v := 0) d_210_31 (by decide) ?_
    refine rp_26 d_210_32 mo_210 fl_226  ?_
    refine rr_nx (pc' := 36) (al' := [some (.ref 146), some (.int (nI l)), some (.int (nI fi)), some (.int (nI (usC cod N))), none, none, none]) (st' := [.ref 146]) d_210_35 (fun _ => rfl) ?_
    refine rr_nx (pc' := 37) (al' := [some (.ref 146), some (.int (nI l)), some (.int (nI fi)), some (.int (nI (usC cod N))), none, none, none]) (st' := [.int (-1), .ref 146]) d_210_36 (fun _ => rfl) ?_
    refine rp_27 d_210_37 mo_210 fl_229  ?_
    refine rr_nx (pc' := 41) (al' := [some (.ref 146), some (.int (nI l)), some (.int (nI fi)), some (.int (nI (usC cod N))), none, none, none]) (st' := [.ref 146]) d_210_40 (fun _ => rfl) ?_
    refine rr_nx (pc' := 42) (al' := [some (.ref 146), some (.int (nI l)), some (.int (nI fi)), some (.int (nI (usC cod N))), none, none, none]) (st' := [.int (-1), .ref 146]) d_210_41 (fun _ => rfl) ?_
    refine rp_28 d_210_42 mo_210 fl_232  ?_
    refine rr_nx (pc' := 46) (al' := [some (.ref 146), some (.int (nI l)), some (.int (nI fi)), some (.int (nI (usC cod N))), none, none, none]) (st' := [.ref 146]) d_210_45 (fun _ => rfl) ?_
    refine rr_nx (pc' := 47) (al' := [some (.ref 146), some (.int (nI l)), some (.int (nI fi)), some (.int (nI (usC cod N))), none, none, none]) (st' := [.int (-1), .ref 146]) d_210_46 (fun _ => rfl) ?_
    refine rp_29 d_210_47 mo_210 fl_235  ?_
    refine rn_ic (v := 0) d_210_50 (by decide) ?_
    refine rr_nx (pc' := 53) (al' := [some (.ref 146), some (.int (nI l)), some (.int (nI fi)), some (.int (nI (usC cod N))), some (.int (nI 0)), none, none]) (st' := []) d_210_51 (fun _ => rfl) ?_
    exact hk
  · refine rn_ic (v := 0) d_210_20 (by decide) ?_
    refine rr_nx (pc' := 29) (al' := [some (.ref 146), some (.int (nI l)), some (.int (nI fi)), some (.int (nI (usC cod N))), none, none, none]) (st' := [.int (nI 0), .int (nI 4), .ref (147 + 12)]) d_210_21 (fun _ => rfl) ?_
    refine rr_tp (z := nI e) (by rw [← hu, if_pos c17]) ?_
    refine rr_iS (j := 12) (A1 := (rf_u A 12 (upd (A 12) 4 (nI e)))) d_210_29 (by decide) rfl (by decide) (show 4 < 5 by first | omega | assumption | exact cu_36 (by omega) (cu_lt (by omega) (by omega))) rfl ?_
    refine rr_nx (pc' := 31) (al' := [some (.ref 146), some (.int (nI l)), some (.int (nI fi)), some (.int (nI (usC cod N))), none, none, none]) (st' := [.ref 146]) d_210_30 (fun _ => rfl) ?_
    refine rn_ic (v := 0) d_210_31 (by decide) ?_
    refine rp_26 d_210_32 mo_210 fl_226  ?_
    refine rr_nx (pc' := 36) (al' := [some (.ref 146), some (.int (nI l)), some (.int (nI fi)), some (.int (nI (usC cod N))), none, none, none]) (st' := [.ref 146]) d_210_35 (fun _ => rfl) ?_
    refine rr_nx (pc' := 37) (al' := [some (.ref 146), some (.int (nI l)), some (.int (nI fi)), some (.int (nI (usC cod N))), none, none, none]) (st' := [.int (-1), .ref 146]) d_210_36 (fun _ => rfl) ?_
    refine rp_27 d_210_37 mo_210 fl_229  ?_
    refine rr_nx (pc' := 41) (al' := [some (.ref 146), some (.int (nI l)), some (.int (nI fi)), some (.int (nI (usC cod N))), none, none, none]) (st' := [.ref 146]) d_210_40 (fun _ => rfl) ?_
    refine rr_nx (pc' := 42) (al' := [some (.ref 146), some (.int (nI l)), some (.int (nI fi)), some (.int (nI (usC cod N))), none, none, none]) (st' := [.int (-1), .ref 146]) d_210_41 (fun _ => rfl) ?_
    refine rp_28 d_210_42 mo_210 fl_232  ?_
    refine rr_nx (pc' := 46) (al' := [some (.ref 146), some (.int (nI l)), some (.int (nI fi)), some (.int (nI (usC cod N))), none, none, none]) (st' := [.ref 146]) d_210_45 (fun _ => rfl) ?_
    refine rr_nx (pc' := 47) (al' := [some (.ref 146), some (.int (nI l)), some (.int (nI fi)), some (.int (nI (usC cod N))), none, none, none]) (st' := [.int (-1), .ref 146]) d_210_46 (fun _ => rfl) ?_
    refine rp_29 d_210_47 mo_210 fl_235  ?_
    refine rn_ic (v := 0) d_210_50 (by decide) ?_
    refine rr_nx (pc' := 53) (al' := [some (.ref 146), some (.int (nI l)), some (.int (nI fi)), some (.int (nI (usC cod N))), some (.int (nI 0)), none, none]) (st' := []) d_210_51 (fun _ => rfl) ?_
    exact hk
theorem s_goes1_ {g : Nat → Int32} {A : Nat → Nat → Int32} {l N n e xs ys zs F : Nat} {cod c : Nat → Nat} (hK : LwK l N cod A) (hc : Cur g A n c) (hl : Lat n c) (hFN : N < F) (hw : (lwR cod N F).1 = true) (he : e < n) (hs0 : (0 < usC cod N &&& 2 → xs = n) ∧ (usC cod N &&& 2 = 0 → xs = 1)) (hs1 : (0 < usC cod N &&& 4 → ys = n) ∧ (usC cod N &&& 4 = 0 → ys = 1)) (hs2 : (0 < usC cod N &&& 8 → zs = n) ∧ (usC cod N &&& 8 = 0 → zs = 1)) (hu : (if unV 0 n c = -1 then nI 0 else unV 0 n c) = nI e) : RR 22 210 53 [some (.ref 146), some (.int (nI l)), some (.int (nI 1)), some (.int (nI (usC cod N))), some (.int (nI 0)), none, none] [] (upd (upd (upd (upd g 26 (nI 0)) 27 (-1)) 28 (-1)) 29 (-1)) (rf_u A 12 (upd (A 12) 4 (nI e))) (fun v_ g' A' => v_ = none ∧ GtF g A e (g', A') ∧ ((g' 26 = nI 0 ∧ NoT (fun x_ y_ z_ => lwB cod (vlF x_ y_ z_ e) (jnW n c) F) xs ys zs) ∨ (g' 26 = nI 1 ∧ ∃ x y z, FsT (fun x_ y_ z_ => lwB cod (vlF x_ y_ z_ e) (jnW n c) F) xs ys zs x y z))) := by
  have hn6 := hc.2.1
  have hx0 : xs ≤ n := sx hs0 (by omega)
  have hy0 : ys ≤ n := sx hs1 (by omega)
  have hz0 : zs ≤ n := sx hs2 (by omega)
  refine rr_upw (al := fun x w_ => [some (.ref 146), some (.int (nI l)), some (.int (nI 1)), some (.int (nI (usC cod N))), some (.int (nI x)), none, none]) (G := fun x w_ => w_.1) (B := fun x w_ => w_.2) (P := fun x w_ => GtF g A e w_ ∧ Fg1 (fun x_ y_ z_ => lwB cod (vlF x_ y_ z_ e) (jnW n c) F) xs ys zs x 0 0 w_.1) (n := xs) (fun x w_ hx px ihx => ?_) (fun w_ px => ?_) 0 ((upd (upd (upd (upd g 26 (nI 0)) 27 (-1)) 28 (-1)) 29 (-1)), (rf_u A 12 (upd (A 12) 4 (nI e)))) (by omega) (⟨⟨fun k hk => by dsimp only; rw [pk_un (by omega), pk_un (by omega), pk_un (by omega), pk_un (by omega)], fun j hj => rf_u_n hj, by dsimp only; rw [rf_u_s, pk_us]⟩, Or.inl ⟨rfl, NB.o⟩⟩)
  · show RR _ _ 53 [some (.ref 146), some (.int (nI l)), some (.int (nI 1)), some (.int (nI (usC cod N))), some (.int (nI x)), none, none] [] w_.1 w_.2 _
    have hgg := px.1.1
    refine rr_nx (pc' := 55) (al' := [some (.ref 146), some (.int (nI l)), some (.int (nI 1)), some (.int (nI (usC cod N))), some (.int (nI x)), none, none]) (st' := [.int (nI x)]) d_210_53 (fun _ => rfl) ?_
    refine s_gt_55 (n := n) (by rw [hgg 6 (by omega)]; exact hc.1) hn6 hs0 ?_
    show RR _ _ 69 [some (.ref 146), some (.int (nI l)), some (.int (nI 1)), some (.int (nI (usC cod N))), some (.int (nI x)), none, none] [.int (nI xs), .int (nI x)] w_.1 w_.2 _
    refine rn_cge (t := 217) d_210_69 (by decide) (by first | omega | assumption | exact cu_36 (by omega) (cu_lt (by omega) (by omega))) (by first | omega | assumption | exact cu_36 (by omega) (cu_lt (by omega) (by omega))) (fun c69 => ?_) (fun c69 => ?_)
    · omega
    · refine rn_ic (v := 0) d_210_72 (by decide) ?_
      refine rr_nx (pc' := 75) (al' := [some (.ref 146), some (.int (nI l)), some (.int (nI 1)), some (.int (nI (usC cod N))), some (.int (nI x)), some (.int (nI 0)), none]) (st' := []) d_210_73 (fun _ => rfl) ?_
      refine rr_upw (al := fun y w_ => [some (.ref 146), some (.int (nI l)), some (.int (nI 1)), some (.int (nI (usC cod N))), some (.int (nI x)), some (.int (nI y)), none]) (G := fun y w_ => w_.1) (B := fun y w_ => w_.2) (P := fun y w_ => GtF g A e w_ ∧ Fg1 (fun x_ y_ z_ => lwB cod (vlF x_ y_ z_ e) (jnW n c) F) xs ys zs x y 0 w_.1) (n := ys) (fun y w_ hy py ihy => ?_) (fun w_ py => ?_) 0 w_ (by omega) (px)
      · show RR _ _ 75 [some (.ref 146), some (.int (nI l)), some (.int (nI 1)), some (.int (nI (usC cod N))), some (.int (nI x)), some (.int (nI y)), none] [] w_.1 w_.2 _
        have hgg := py.1.1
        refine rr_nx (pc' := 77) (al' := [some (.ref 146), some (.int (nI l)), some (.int (nI 1)), some (.int (nI (usC cod N))), some (.int (nI x)), some (.int (nI y)), none]) (st' := [.int (nI y)]) d_210_75 (fun _ => rfl) ?_
        refine s_gt_77 (n := n) (by rw [hgg 6 (by omega)]; exact hc.1) hn6 hs1 ?_
        show RR _ _ 91 [some (.ref 146), some (.int (nI l)), some (.int (nI 1)), some (.int (nI (usC cod N))), some (.int (nI x)), some (.int (nI y)), none] [.int (nI ys), .int (nI y)] w_.1 w_.2 _
        refine rn_cge (t := 211) d_210_91 (by decide) (by first | omega | assumption | exact cu_36 (by omega) (cu_lt (by omega) (by omega))) (by first | omega | assumption | exact cu_36 (by omega) (cu_lt (by omega) (by omega))) (fun c91 => ?_) (fun c91 => ?_)
        · omega
        · refine rn_ic (v := 0) d_210_94 (by decide) ?_
          refine rr_nx (pc' := 97) (al' := [some (.ref 146), some (.int (nI l)), some (.int (nI 1)), some (.int (nI (usC cod N))), some (.int (nI x)), some (.int (nI y)), some (.int (nI 0))]) (st' := []) d_210_95 (fun _ => rfl) ?_
          refine rr_upw (al := fun z w_ => [some (.ref 146), some (.int (nI l)), some (.int (nI 1)), some (.int (nI (usC cod N))), some (.int (nI x)), some (.int (nI y)), some (.int (nI z))]) (G := fun z w_ => w_.1) (B := fun z w_ => w_.2) (P := fun z w_ => GtF g A e w_ ∧ Fg1 (fun x_ y_ z_ => lwB cod (vlF x_ y_ z_ e) (jnW n c) F) xs ys zs x y z w_.1) (n := zs) (fun z w_ hz pz ihz => ?_) (fun w_ pz => ?_) 0 w_ (by omega) (py)
          · show RR _ _ 97 [some (.ref 146), some (.int (nI l)), some (.int (nI 1)), some (.int (nI (usC cod N))), some (.int (nI x)), some (.int (nI y)), some (.int (nI z))] [] w_.1 w_.2 _
            have hgg := pz.1.1
            refine rr_nx (pc' := 99) (al' := [some (.ref 146), some (.int (nI l)), some (.int (nI 1)), some (.int (nI (usC cod N))), some (.int (nI x)), some (.int (nI y)), some (.int (nI z))]) (st' := [.int (nI z)]) d_210_97 (fun _ => rfl) ?_
            refine s_gt_99 (n := n) (by rw [hgg 6 (by omega)]; exact hc.1) hn6 hs2 ?_
            show RR _ _ 114 [some (.ref 146), some (.int (nI l)), some (.int (nI 1)), some (.int (nI (usC cod N))), some (.int (nI x)), some (.int (nI y)), some (.int (nI z))] [.int (nI zs), .int (nI z)] w_.1 w_.2 _
            refine rn_cge (t := 205) d_210_114 (by decide) (by first | omega | assumption | exact cu_36 (by omega) (cu_lt (by omega) (by omega))) (by first | omega | assumption | exact cu_36 (by omega) (cu_lt (by omega) (by omega))) (fun c114 => ?_) (fun c114 => ?_)
            · omega
            · refine rr_nx (pc' := 118) (al' := [some (.ref 146), some (.int (nI l)), some (.int (nI 1)), some (.int (nI (usC cod N))), some (.int (nI x)), some (.int (nI y)), some (.int (nI z))]) (st' := [.int (nI 1)]) d_210_117 (fun _ => rfl) ?_
              refine rn_ieq (t := 129) d_210_118 (by decide) (by first | omega | assumption | exact cu_36 (by omega) (cu_lt (by omega) (by omega))) (fun c118 => ?_) (fun c118 => ?_)
              · omega
              · refine rr_nx (pc' := 122) (al' := [some (.ref 146), some (.int (nI l)), some (.int (nI 1)), some (.int (nI (usC cod N))), some (.int (nI x)), some (.int (nI y)), some (.int (nI z))]) (st' := [.ref 146]) d_210_121 (fun _ => rfl) ?_
                refine rr_gf (v := .int (w_.1 26)) d_210_122 mo_210 fl_226 rfl ?_
                refine rr_ile (t := 129) d_210_125 (by decide) (fun c125 => ?_) (fun c125 => ?_)
                · have h26 : w_.1 26 = nI 0 := pz.2.elim (fun h_ => h_.1) (fun h_ => absurd c125 (by rw [h_.1]; decide))
                  have pz0 := pz.2.elim (fun h_ => h_.2) (fun h_ => absurd c125 (by rw [h_.1]; decide))
                  refine rr_nx (pc' := 130) (al' := [some (.ref 146), some (.int (nI l)), some (.int (nI 1)), some (.int (nI (usC cod N))), some (.int (nI x)), some (.int (nI y)), some (.int (nI z))]) (st' := [.ref 146]) d_210_129 (fun _ => rfl) ?_
                  refine rr_gf (v := .ref (147 + 12)) d_210_130 mo_210 fl_52 rfl ?_
                  refine rn_ic (v := 1) d_210_133 (by decide) ?_
                  refine rr_nx (pc' := 136) (al' := [some (.ref 146), some (.int (nI l)), some (.int (nI 1)), some (.int (nI (usC cod N))), some (.int (nI x)), some (.int (nI y)), some (.int (nI z))]) (st' := [.int (nI x), .int (nI 1), .ref (147 + 12)]) d_210_134 (fun _ => rfl) ?_
                  refine rr_iS (j := 12) (A1 := (rf_u w_.2 12 (upd (w_.2 12) 1 (nI x)))) d_210_136 (by decide) rfl (by decide) (show 1 < 5 by first | omega | assumption | exact cu_36 (by omega) (cu_lt (by omega) (by omega))) rfl ?_
                  refine rr_nx (pc' := 138) (al' := [some (.ref 146), some (.int (nI l)), some (.int (nI 1)), some (.int (nI (usC cod N))), some (.int (nI x)), some (.int (nI y)), some (.int (nI z))]) (st' := [.ref 146]) d_210_137 (fun _ => rfl) ?_
                  refine rr_gf (v := .ref (147 + 12)) d_210_138 mo_210 fl_52 rfl ?_
                  refine rn_ic (v := 2) d_210_141 (by decide) ?_
                  refine rr_nx (pc' := 144) (al' := [some (.ref 146), some (.int (nI l)), some (.int (nI 1)), some (.int (nI (usC cod N))), some (.int (nI x)), some (.int (nI y)), some (.int (nI z))]) (st' := [.int (nI y), .int (nI 2), .ref (147 + 12)]) d_210_142 (fun _ => rfl) ?_
                  refine rr_iS (j := 12) (A1 := (rf_u w_.2 12 (upd (upd (w_.2 12) 1 (nI x)) 2 (nI y)))) d_210_144 (by decide) rfl (by decide) (show 2 < 5 by first | omega | assumption | exact cu_36 (by omega) (cu_lt (by omega) (by omega))) rf_uw ?_
                  refine rr_nx (pc' := 146) (al' := [some (.ref 146), some (.int (nI l)), some (.int (nI 1)), some (.int (nI (usC cod N))), some (.int (nI x)), some (.int (nI y)), some (.int (nI z))]) (st' := [.ref 146]) d_210_145 (fun _ => rfl) ?_
                  refine rr_gf (v := .ref (147 + 12)) d_210_146 mo_210 fl_52 rfl ?_
                  refine rn_ic (v := 3) d_210_149 (by decide) ?_
                  refine rr_nx (pc' := 152) (al' := [some (.ref 146), some (.int (nI l)), some (.int (nI 1)), some (.int (nI (usC cod N))), some (.int (nI x)), some (.int (nI y)), some (.int (nI z))]) (st' := [.int (nI z), .int (nI 3), .ref (147 + 12)]) d_210_150 (fun _ => rfl) ?_
                  refine rr_iS (j := 12) (A1 := (rf_u w_.2 12 (upd (upd (upd (w_.2 12) 1 (nI x)) 2 (nI y)) 3 (nI z)))) d_210_152 (by decide) rfl (by decide) (show 3 < 5 by first | omega | assumption | exact cu_36 (by omega) (cu_lt (by omega) (by omega))) rf_uw ?_
                  refine rr_nx (pc' := 154) (al' := [some (.ref 146), some (.int (nI l)), some (.int (nI 1)), some (.int (nI (usC cod N))), some (.int (nI x)), some (.int (nI y)), some (.int (nI z))]) (st' := [.ref 146]) d_210_153 (fun _ => rfl) ?_
                  refine rr_nx (pc' := 155) (al' := [some (.ref 146), some (.int (nI l)), some (.int (nI 1)), some (.int (nI (usC cod N))), some (.int (nI x)), some (.int (nI y)), some (.int (nI z))]) (st' := [.int (nI l), .ref 146]) d_210_154 (fun _ => rfl) ?_
                  refine rr_cv (as := [.int (nI l)]) (al0 := [some (.ref 146), some (.int (nI l)), none]) (r := []) d_210_155 mo_210 ml_238 mz_214 rfl rfl rfl (rr_wk (Nat.le_of_ble_eq_true rfl) (s_failsFor (pz.1.lw hK hc (sl hx0 hx) (sl hy0 hy) (sl hz0 hz) he) hl hFN hw)) (fun v1 g1 A1 h1 => ?_)
                  obtain ⟨q0_, hg1, q1_⟩ := h1
                  obtain rfl := q0_
                  obtain rfl := q1_
                  show RR _ _ 158 [some (.ref 146), some (.int (nI l)), some (.int (nI 1)), some (.int (nI (usC cod N))), some (.int (nI x)), some (.int (nI y)), some (.int (nI z))] [.int (bI (lwB cod (vlF x y z e) (jnW n c) F = true))] g1 (rf_u w_.2 12 (upd (upd (upd (w_.2 12) 1 (nI x)) 2 (nI y)) 3 (nI z))) _
                  refine rr_bne (t := 164) d_210_158 (by decide) (fun c158 => ?_) (fun c158 => ?_)
                  · refine rr_nx (pc' := 165) (al' := [some (.ref 146), some (.int (nI l)), some (.int (nI 1)), some (.int (nI (usC cod N))), some (.int (nI x)), some (.int (nI y)), some (.int (nI z))]) (st' := [.ref 146]) d_210_164 (fun _ => rfl) ?_
                    refine rr_gf (v := .int (g1 26)) d_210_165 mo_210 fl_226 rfl ?_
                    refine rr_ine (t := 189) d_210_168 (by decide) (fun c168 => ?_) (fun c168 => ?_)
                    · exact absurd (by rw [hg1 26 (by decide) (by decide), h26]; rfl) c168
                    · refine rr_nx (pc' := 172) (al' := [some (.ref 146), some (.int (nI l)), some (.int (nI 1)), some (.int (nI (usC cod N))), some (.int (nI x)), some (.int (nI y)), some (.int (nI z))]) (st' := [.ref 146]) d_210_171 (fun _ => rfl) ?_
                      refine rr_nx (pc' := 174) (al' := [some (.ref 146), some (.int (nI l)), some (.int (nI 1)), some (.int (nI (usC cod N))), some (.int (nI x)), some (.int (nI y)), some (.int (nI z))]) (st' := [.int (nI x), .ref 146]) d_210_172 (fun _ => rfl) ?_
                      refine rp_27 d_210_174 mo_210 fl_229  ?_
                      refine rr_nx (pc' := 178) (al' := [some (.ref 146), some (.int (nI l)), some (.int (nI 1)), some (.int (nI (usC cod N))), some (.int (nI x)), some (.int (nI y)), some (.int (nI z))]) (st' := [.ref 146]) d_210_177 (fun _ => rfl) ?_
                      refine rr_nx (pc' := 180) (al' := [some (.ref 146), some (.int (nI l)), some (.int (nI 1)), some (.int (nI (usC cod N))), some (.int (nI x)), some (.int (nI y)), some (.int (nI z))]) (st' := [.int (nI y), .ref 146]) d_210_178 (fun _ => rfl) ?_
                      refine rp_28 d_210_180 mo_210 fl_232  ?_
                      refine rr_nx (pc' := 184) (al' := [some (.ref 146), some (.int (nI l)), some (.int (nI 1)), some (.int (nI (usC cod N))), some (.int (nI x)), some (.int (nI y)), some (.int (nI z))]) (st' := [.ref 146]) d_210_183 (fun _ => rfl) ?_
                      refine rr_nx (pc' := 186) (al' := [some (.ref 146), some (.int (nI l)), some (.int (nI 1)), some (.int (nI (usC cod N))), some (.int (nI x)), some (.int (nI y)), some (.int (nI z))]) (st' := [.int (nI z), .ref 146]) d_210_184 (fun _ => rfl) ?_
                      refine rp_29 d_210_186 mo_210 fl_235  ?_
                      refine rr_nx (pc' := 190) (al' := [some (.ref 146), some (.int (nI l)), some (.int (nI 1)), some (.int (nI (usC cod N))), some (.int (nI x)), some (.int (nI y)), some (.int (nI z))]) (st' := [.ref 146]) d_210_189 (fun _ => rfl) ?_
                      refine rr_nx (pc' := 191) (al' := [some (.ref 146), some (.int (nI l)), some (.int (nI 1)), some (.int (nI (usC cod N))), some (.int (nI x)), some (.int (nI y)), some (.int (nI z))]) (st' := [.ref 146, .ref 146]) d_210_190 (fun _ => rfl) ?_
                      refine rr_gf (v := .int (g1 26)) d_210_191 mo_210 fl_226 rfl ?_
                      refine rn_ic (v := 1) d_210_194 (by decide) ?_
                      refine rr_nx (pc' := 196) (al' := [some (.ref 146), some (.int (nI l)), some (.int (nI 1)), some (.int (nI (usC cod N))), some (.int (nI x)), some (.int (nI y)), some (.int (nI z))]) (st' := [.int ((g1 26) + (nI 1)), .ref 146]) d_210_195 (fun _ => rfl) ?_
                      refine rp_26 d_210_196 mo_210 fl_226  ?_
                      refine rn_inc d_210_199 rfl rfl ?_
                      show RR _ _ 202 [some (.ref 146), some (.int (nI l)), some (.int (nI 1)), some (.int (nI (usC cod N))), some (.int (nI x)), some (.int (nI y)), some (.int (nI (z + 1)))] [] (upd (upd (upd (upd g1 27 (nI x)) 28 (nI y)) 29 (nI z)) 26 ((g1 26) + (nI 1))) (rf_u w_.2 12 (upd (upd (upd (w_.2 12) 1 (nI x)) 2 (nI y)) 3 (nI z))) _
                      refine rr_nx (pc' := 97) (al' := [some (.ref 146), some (.int (nI l)), some (.int (nI 1)), some (.int (nI (usC cod N))), some (.int (nI x)), some (.int (nI y)), some (.int (nI (z + 1)))]) (st' := []) d_210_202 (fun _ => rfl) ?_
                      exact ihz ((upd (upd (upd (upd g1 27 (nI x)) 28 (nI y)) 29 (nI z)) 26 ((g1 26) + (nI 1))), (rf_u w_.2 12 (upd (upd (upd (w_.2 12) 1 (nI x)) 2 (nI y)) 3 (nI z)))) (⟨((((pz.1.s hg1).u (by decide)).u (by decide)).u (by decide)).u (by decide), Or.inr ⟨by dsimp only; rw [pk_us, hg1 26 (by decide) (by decide), h26]; rfl, x, y, z, ⟨hx, hy, hz⟩, c158, pz0.1, pz0.2.1, pz0.2.2⟩⟩)
                  · refine rr_nx (pc' := 199) (al' := [some (.ref 146), some (.int (nI l)), some (.int (nI 1)), some (.int (nI (usC cod N))), some (.int (nI x)), some (.int (nI y)), some (.int (nI z))]) (st' := []) d_210_161 (fun _ => rfl) ?_
                    refine rn_inc d_210_199 rfl rfl ?_
                    show RR _ _ 202 [some (.ref 146), some (.int (nI l)), some (.int (nI 1)), some (.int (nI (usC cod N))), some (.int (nI x)), some (.int (nI y)), some (.int (nI (z + 1)))] [] g1 (rf_u w_.2 12 (upd (upd (upd (w_.2 12) 1 (nI x)) 2 (nI y)) 3 (nI z))) _
                    refine rr_nx (pc' := 97) (al' := [some (.ref 146), some (.int (nI l)), some (.int (nI 1)), some (.int (nI (usC cod N))), some (.int (nI x)), some (.int (nI y)), some (.int (nI (z + 1)))]) (st' := []) d_210_202 (fun _ => rfl) ?_
                    exact ihz (g1, (rf_u w_.2 12 (upd (upd (upd (w_.2 12) 1 (nI x)) 2 (nI y)) 3 (nI z)))) (⟨pz.1.s hg1, pz.2.cg (fun h_ => h_.z (Bool.eq_false_iff.mpr c158)) (hg1 26 (by decide) (by decide))⟩)
                · exact rr_rv d_210_128 mr_210 ⟨rfl, pz.1, pz.2.elim (fun h_ => absurd (n_26 h_.1) c125) (fun h_ => Or.inr h_)⟩
          · show RR _ _ 97 [some (.ref 146), some (.int (nI l)), some (.int (nI 1)), some (.int (nI (usC cod N))), some (.int (nI x)), some (.int (nI y)), some (.int (nI zs))] [] w_.1 w_.2 _
            have hgg := pz.1.1
            refine rr_nx (pc' := 99) (al' := [some (.ref 146), some (.int (nI l)), some (.int (nI 1)), some (.int (nI (usC cod N))), some (.int (nI x)), some (.int (nI y)), some (.int (nI zs))]) (st' := [.int (nI zs)]) d_210_97 (fun _ => rfl) ?_
            refine s_gt_99 (n := n) (by rw [hgg 6 (by omega)]; exact hc.1) hn6 hs2 ?_
            show RR _ _ 114 [some (.ref 146), some (.int (nI l)), some (.int (nI 1)), some (.int (nI (usC cod N))), some (.int (nI x)), some (.int (nI y)), some (.int (nI zs))] [.int (nI zs), .int (nI zs)] w_.1 w_.2 _
            refine rn_cge (t := 205) d_210_114 (by decide) (by first | omega | assumption | exact cu_36 (by omega) (cu_lt (by omega) (by omega))) (by first | omega | assumption | exact cu_36 (by omega) (cu_lt (by omega) (by omega))) (fun c114 => ?_) (fun c114 => ?_)
            · refine rn_inc d_210_205 rfl rfl ?_
              show RR _ _ 208 [some (.ref 146), some (.int (nI l)), some (.int (nI 1)), some (.int (nI (usC cod N))), some (.int (nI x)), some (.int (nI (y + 1))), some (.int (nI zs))] [] w_.1 w_.2 _
              refine rr_nx (pc' := 75) (al' := [some (.ref 146), some (.int (nI l)), some (.int (nI 1)), some (.int (nI (usC cod N))), some (.int (nI x)), some (.int (nI (y + 1))), some (.int (nI zs))]) (st' := []) d_210_208 (fun _ => rfl) ?_
              refine rr_dr (al1 := [some (.ref 146), some (.int (nI l)), some (.int (nI 1)), some (.int (nI (usC cod N))), some (.int (nI x)), some (.int (nI (y + 1))), none]) (le_s (le_s (le_s (le_s (le_s (le_s (le_d rfl (le_n)))))))) ?_
              exact ihy w_ (⟨pz.1, pz.2.cg NB.y rfl⟩)
            · omega
      · show RR _ _ 75 [some (.ref 146), some (.int (nI l)), some (.int (nI 1)), some (.int (nI (usC cod N))), some (.int (nI x)), some (.int (nI ys)), none] [] w_.1 w_.2 _
        have hgg := py.1.1
        refine rr_nx (pc' := 77) (al' := [some (.ref 146), some (.int (nI l)), some (.int (nI 1)), some (.int (nI (usC cod N))), some (.int (nI x)), some (.int (nI ys)), none]) (st' := [.int (nI ys)]) d_210_75 (fun _ => rfl) ?_
        refine s_gt_77 (n := n) (by rw [hgg 6 (by omega)]; exact hc.1) hn6 hs1 ?_
        show RR _ _ 91 [some (.ref 146), some (.int (nI l)), some (.int (nI 1)), some (.int (nI (usC cod N))), some (.int (nI x)), some (.int (nI ys)), none] [.int (nI ys), .int (nI ys)] w_.1 w_.2 _
        refine rn_cge (t := 211) d_210_91 (by decide) (by first | omega | assumption | exact cu_36 (by omega) (cu_lt (by omega) (by omega))) (by first | omega | assumption | exact cu_36 (by omega) (cu_lt (by omega) (by omega))) (fun c91 => ?_) (fun c91 => ?_)
        · refine rn_inc d_210_211 rfl rfl ?_
          show RR _ _ 214 [some (.ref 146), some (.int (nI l)), some (.int (nI 1)), some (.int (nI (usC cod N))), some (.int (nI (x + 1))), some (.int (nI ys)), none] [] w_.1 w_.2 _
          refine rr_nx (pc' := 53) (al' := [some (.ref 146), some (.int (nI l)), some (.int (nI 1)), some (.int (nI (usC cod N))), some (.int (nI (x + 1))), some (.int (nI ys)), none]) (st' := []) d_210_214 (fun _ => rfl) ?_
          refine rr_dr (al1 := [some (.ref 146), some (.int (nI l)), some (.int (nI 1)), some (.int (nI (usC cod N))), some (.int (nI (x + 1))), none, none]) (le_s (le_s (le_s (le_s (le_s (le_d rfl (le_s (le_n)))))))) ?_
          exact ihx w_ (⟨py.1, py.2.cg NB.x rfl⟩)
        · omega
  · show RR _ _ 53 [some (.ref 146), some (.int (nI l)), some (.int (nI 1)), some (.int (nI (usC cod N))), some (.int (nI xs)), none, none] [] w_.1 w_.2 _
    have hgg := px.1.1
    refine rr_nx (pc' := 55) (al' := [some (.ref 146), some (.int (nI l)), some (.int (nI 1)), some (.int (nI (usC cod N))), some (.int (nI xs)), none, none]) (st' := [.int (nI xs)]) d_210_53 (fun _ => rfl) ?_
    refine s_gt_55 (n := n) (by rw [hgg 6 (by omega)]; exact hc.1) hn6 hs0 ?_
    show RR _ _ 69 [some (.ref 146), some (.int (nI l)), some (.int (nI 1)), some (.int (nI (usC cod N))), some (.int (nI xs)), none, none] [.int (nI xs), .int (nI xs)] w_.1 w_.2 _
    refine rn_cge (t := 217) d_210_69 (by decide) (by first | omega | assumption | exact cu_36 (by omega) (cu_lt (by omega) (by omega))) (by first | omega | assumption | exact cu_36 (by omega) (cu_lt (by omega) (by omega))) (fun c69 => ?_) (fun c69 => ?_)
    · exact rr_rv d_210_217 mr_210 ⟨rfl, px.1, px.2.imp (fun h_ => ⟨h_.1, h_.2.1⟩) id⟩
    · omega
theorem s_goes1 {g : Nat → Int32} {A : Nat → Nat → Int32} {l N n e xs ys zs F : Nat} {cod c : Nat → Nat} (hK : LwK l N cod A) (hc : Cur g A n c) (hl : Lat n c) (hFN : N < F) (hw : (lwR cod N F).1 = true) (he : e < n) (hs0 : (0 < usC cod N &&& 2 → xs = n) ∧ (usC cod N &&& 2 = 0 → xs = 1)) (hs1 : (0 < usC cod N &&& 4 → ys = n) ∧ (usC cod N &&& 4 = 0 → ys = 1)) (hs2 : (0 < usC cod N &&& 8 → zs = n) ∧ (usC cod N &&& 8 = 0 → zs = 1)) (hu : (if unV 0 n c = -1 then nI 0 else unV 0 n c) = nI e) : RR 22 210 0 [some (.ref 146), some (.int (nI l)), some (.int (nI 1)), none, none, none, none] [] g A (fun v_ g' A' => v_ = none ∧ GtF g A e (g', A') ∧ ((g' 26 = nI 0 ∧ NoT (fun x_ y_ z_ => lwB cod (vlF x_ y_ z_ e) (jnW n c) F) xs ys zs) ∨ (g' 26 = nI 1 ∧ ∃ x y z, FsT (fun x_ y_ z_ => lwB cod (vlF x_ y_ z_ e) (jnW n c) F) xs ys zs x y z))) := s_gt_0 hK hc hl hFN hw he hs0 hs1 hs2 hu (s_goes1_ hK hc hl hFN hw he hs0 hs1 hs2 hu)
theorem s_goesN_ {g : Nat → Int32} {A : Nat → Nat → Int32} {l N n e xs ys zs F : Nat} {cod c : Nat → Nat} (hK : LwK l N cod A) (hc : Cur g A n c) (hl : Lat n c) (hFN : N < F) (hw : (lwR cod N F).1 = true) (he : e < n) (hs0 : (0 < usC cod N &&& 2 → xs = n) ∧ (usC cod N &&& 2 = 0 → xs = 1)) (hs1 : (0 < usC cod N &&& 4 → ys = n) ∧ (usC cod N &&& 4 = 0 → ys = 1)) (hs2 : (0 < usC cod N &&& 8 → zs = n) ∧ (usC cod N &&& 8 = 0 → zs = 1)) (hu : (if unV 0 n c = -1 then nI 0 else unV 0 n c) = nI e) : RR 22 210 53 [some (.ref 146), some (.int (nI l)), some (.int (nI 0)), some (.int (nI (usC cod N))), some (.int (nI 0)), none, none] [] (upd (upd (upd (upd g 26 (nI 0)) 27 (-1)) 28 (-1)) 29 (-1)) (rf_u A 12 (upd (A 12) 4 (nI e))) (fun v_ g' A' => v_ = none ∧ GtF g A e (g', A') ∧ g' 26 = nI (f3N (fun x_ y_ z_ => lwB cod (vlF x_ y_ z_ e) (jnW n c) F) ys zs xs) ∧ ((f3N (fun x_ y_ z_ => lwB cod (vlF x_ y_ z_ e) (jnW n c) F) ys zs xs = 0 ∧ NoT (fun x_ y_ z_ => lwB cod (vlF x_ y_ z_ e) (jnW n c) F) xs ys zs ∧ g' 27 = -1 ∧ g' 28 = -1 ∧ g' 29 = -1) ∨ (0 < f3N (fun x_ y_ z_ => lwB cod (vlF x_ y_ z_ e) (jnW n c) F) ys zs xs ∧ ∃ x y z, FsT (fun x_ y_ z_ => lwB cod (vlF x_ y_ z_ e) (jnW n c) F) xs ys zs x y z ∧ g' 27 = nI x ∧ g' 28 = nI y ∧ g' 29 = nI z))) := by
  have hn6 := hc.2.1
  have hx0 : xs ≤ n := sx hs0 (by omega)
  have hy0 : ys ≤ n := sx hs1 (by omega)
  have hz0 : zs ≤ n := sx hs2 (by omega)
  refine rr_upw (al := fun x w_ => [some (.ref 146), some (.int (nI l)), some (.int (nI 0)), some (.int (nI (usC cod N))), some (.int (nI x)), none, none]) (G := fun x w_ => w_.1) (B := fun x w_ => w_.2) (P := fun x w_ => GtF g A e w_ ∧ FgN (fun x_ y_ z_ => lwB cod (vlF x_ y_ z_ e) (jnW n c) F) xs ys zs (f3N (fun x_ y_ z_ => lwB cod (vlF x_ y_ z_ e) (jnW n c) F) ys zs x) x 0 0 w_.1) (n := xs) (fun x w_ hx px ihx => ?_) (fun w_ px => ?_) 0 ((upd (upd (upd (upd g 26 (nI 0)) 27 (-1)) 28 (-1)) 29 (-1)), (rf_u A 12 (upd (A 12) 4 (nI e)))) (by omega) (⟨⟨fun k hk => by dsimp only; rw [pk_un (by omega), pk_un (by omega), pk_un (by omega), pk_un (by omega)], fun j hj => rf_u_n hj, by dsimp only; rw [rf_u_s, pk_us]⟩, rfl, Or.inl ⟨rfl, NB.o, rfl, rfl, rfl⟩⟩)
  · show RR _ _ 53 [some (.ref 146), some (.int (nI l)), some (.int (nI 0)), some (.int (nI (usC cod N))), some (.int (nI x)), none, none] [] w_.1 w_.2 _
    have hgg := px.1.1
    refine rr_nx (pc' := 55) (al' := [some (.ref 146), some (.int (nI l)), some (.int (nI 0)), some (.int (nI (usC cod N))), some (.int (nI x)), none, none]) (st' := [.int (nI x)]) d_210_53 (fun _ => rfl) ?_
    refine s_gt_55 (n := n) (by rw [hgg 6 (by omega)]; exact hc.1) hn6 hs0 ?_
    show RR _ _ 69 [some (.ref 146), some (.int (nI l)), some (.int (nI 0)), some (.int (nI (usC cod N))), some (.int (nI x)), none, none] [.int (nI xs), .int (nI x)] w_.1 w_.2 _
    refine rn_cge (t := 217) d_210_69 (by decide) (by first | omega | assumption | exact cu_36 (by omega) (cu_lt (by omega) (by omega))) (by first | omega | assumption | exact cu_36 (by omega) (cu_lt (by omega) (by omega))) (fun c69 => ?_) (fun c69 => ?_)
    · omega
    · refine rn_ic (v := 0) d_210_72 (by decide) ?_
      refine rr_nx (pc' := 75) (al' := [some (.ref 146), some (.int (nI l)), some (.int (nI 0)), some (.int (nI (usC cod N))), some (.int (nI x)), some (.int (nI 0)), none]) (st' := []) d_210_73 (fun _ => rfl) ?_
      refine rr_upw (al := fun y w_ => [some (.ref 146), some (.int (nI l)), some (.int (nI 0)), some (.int (nI (usC cod N))), some (.int (nI x)), some (.int (nI y)), none]) (G := fun y w_ => w_.1) (B := fun y w_ => w_.2) (P := fun y w_ => GtF g A e w_ ∧ FgN (fun x_ y_ z_ => lwB cod (vlF x_ y_ z_ e) (jnW n c) F) xs ys zs (f3N (fun x_ y_ z_ => lwB cod (vlF x_ y_ z_ e) (jnW n c) F) ys zs x + f2N (fun x_ y_ z_ => lwB cod (vlF x_ y_ z_ e) (jnW n c) F) zs x y) x y 0 w_.1) (n := ys) (fun y w_ hy py ihy => ?_) (fun w_ py => ?_) 0 w_ (by omega) (px)
      · show RR _ _ 75 [some (.ref 146), some (.int (nI l)), some (.int (nI 0)), some (.int (nI (usC cod N))), some (.int (nI x)), some (.int (nI y)), none] [] w_.1 w_.2 _
        have hgg := py.1.1
        refine rr_nx (pc' := 77) (al' := [some (.ref 146), some (.int (nI l)), some (.int (nI 0)), some (.int (nI (usC cod N))), some (.int (nI x)), some (.int (nI y)), none]) (st' := [.int (nI y)]) d_210_75 (fun _ => rfl) ?_
        refine s_gt_77 (n := n) (by rw [hgg 6 (by omega)]; exact hc.1) hn6 hs1 ?_
        show RR _ _ 91 [some (.ref 146), some (.int (nI l)), some (.int (nI 0)), some (.int (nI (usC cod N))), some (.int (nI x)), some (.int (nI y)), none] [.int (nI ys), .int (nI y)] w_.1 w_.2 _
        refine rn_cge (t := 211) d_210_91 (by decide) (by first | omega | assumption | exact cu_36 (by omega) (cu_lt (by omega) (by omega))) (by first | omega | assumption | exact cu_36 (by omega) (cu_lt (by omega) (by omega))) (fun c91 => ?_) (fun c91 => ?_)
        · omega
        · refine rn_ic (v := 0) d_210_94 (by decide) ?_
          refine rr_nx (pc' := 97) (al' := [some (.ref 146), some (.int (nI l)), some (.int (nI 0)), some (.int (nI (usC cod N))), some (.int (nI x)), some (.int (nI y)), some (.int (nI 0))]) (st' := []) d_210_95 (fun _ => rfl) ?_
          refine rr_upw (al := fun z w_ => [some (.ref 146), some (.int (nI l)), some (.int (nI 0)), some (.int (nI (usC cod N))), some (.int (nI x)), some (.int (nI y)), some (.int (nI z))]) (G := fun z w_ => w_.1) (B := fun z w_ => w_.2) (P := fun z w_ => GtF g A e w_ ∧ FgN (fun x_ y_ z_ => lwB cod (vlF x_ y_ z_ e) (jnW n c) F) xs ys zs (f3N (fun x_ y_ z_ => lwB cod (vlF x_ y_ z_ e) (jnW n c) F) ys zs x + f2N (fun x_ y_ z_ => lwB cod (vlF x_ y_ z_ e) (jnW n c) F) zs x y + f1N (fun x_ y_ z_ => lwB cod (vlF x_ y_ z_ e) (jnW n c) F) x y z) x y z w_.1) (n := zs) (fun z w_ hz pz ihz => ?_) (fun w_ pz => ?_) 0 w_ (by omega) (py)
          · show RR _ _ 97 [some (.ref 146), some (.int (nI l)), some (.int (nI 0)), some (.int (nI (usC cod N))), some (.int (nI x)), some (.int (nI y)), some (.int (nI z))] [] w_.1 w_.2 _
            have hgg := pz.1.1
            refine rr_nx (pc' := 99) (al' := [some (.ref 146), some (.int (nI l)), some (.int (nI 0)), some (.int (nI (usC cod N))), some (.int (nI x)), some (.int (nI y)), some (.int (nI z))]) (st' := [.int (nI z)]) d_210_97 (fun _ => rfl) ?_
            refine s_gt_99 (n := n) (by rw [hgg 6 (by omega)]; exact hc.1) hn6 hs2 ?_
            show RR _ _ 114 [some (.ref 146), some (.int (nI l)), some (.int (nI 0)), some (.int (nI (usC cod N))), some (.int (nI x)), some (.int (nI y)), some (.int (nI z))] [.int (nI zs), .int (nI z)] w_.1 w_.2 _
            refine rn_cge (t := 205) d_210_114 (by decide) (by first | omega | assumption | exact cu_36 (by omega) (cu_lt (by omega) (by omega))) (by first | omega | assumption | exact cu_36 (by omega) (cu_lt (by omega) (by omega))) (fun c114 => ?_) (fun c114 => ?_)
            · omega
            · refine rr_nx (pc' := 118) (al' := [some (.ref 146), some (.int (nI l)), some (.int (nI 0)), some (.int (nI (usC cod N))), some (.int (nI x)), some (.int (nI y)), some (.int (nI z))]) (st' := [.int (nI 0)]) d_210_117 (fun _ => rfl) ?_
              refine rn_ieq (t := 129) d_210_118 (by decide) (by first | omega | assumption | exact cu_36 (by omega) (cu_lt (by omega) (by omega))) (fun c118 => ?_) (fun c118 => ?_)
              · refine rr_nx (pc' := 130) (al' := [some (.ref 146), some (.int (nI l)), some (.int (nI 0)), some (.int (nI (usC cod N))), some (.int (nI x)), some (.int (nI y)), some (.int (nI z))]) (st' := [.ref 146]) d_210_129 (fun _ => rfl) ?_
                refine rr_gf (v := .ref (147 + 12)) d_210_130 mo_210 fl_52 rfl ?_
                refine rn_ic (v := 1) d_210_133 (by decide) ?_
                refine rr_nx (pc' := 136) (al' := [some (.ref 146), some (.int (nI l)), some (.int (nI 0)), some (.int (nI (usC cod N))), some (.int (nI x)), some (.int (nI y)), some (.int (nI z))]) (st' := [.int (nI x), .int (nI 1), .ref (147 + 12)]) d_210_134 (fun _ => rfl) ?_
                refine rr_iS (j := 12) (A1 := (rf_u w_.2 12 (upd (w_.2 12) 1 (nI x)))) d_210_136 (by decide) rfl (by decide) (show 1 < 5 by first | omega | assumption | exact cu_36 (by omega) (cu_lt (by omega) (by omega))) rfl ?_
                refine rr_nx (pc' := 138) (al' := [some (.ref 146), some (.int (nI l)), some (.int (nI 0)), some (.int (nI (usC cod N))), some (.int (nI x)), some (.int (nI y)), some (.int (nI z))]) (st' := [.ref 146]) d_210_137 (fun _ => rfl) ?_
                refine rr_gf (v := .ref (147 + 12)) d_210_138 mo_210 fl_52 rfl ?_
                refine rn_ic (v := 2) d_210_141 (by decide) ?_
                refine rr_nx (pc' := 144) (al' := [some (.ref 146), some (.int (nI l)), some (.int (nI 0)), some (.int (nI (usC cod N))), some (.int (nI x)), some (.int (nI y)), some (.int (nI z))]) (st' := [.int (nI y), .int (nI 2), .ref (147 + 12)]) d_210_142 (fun _ => rfl) ?_
                refine rr_iS (j := 12) (A1 := (rf_u w_.2 12 (upd (upd (w_.2 12) 1 (nI x)) 2 (nI y)))) d_210_144 (by decide) rfl (by decide) (show 2 < 5 by first | omega | assumption | exact cu_36 (by omega) (cu_lt (by omega) (by omega))) rf_uw ?_
                refine rr_nx (pc' := 146) (al' := [some (.ref 146), some (.int (nI l)), some (.int (nI 0)), some (.int (nI (usC cod N))), some (.int (nI x)), some (.int (nI y)), some (.int (nI z))]) (st' := [.ref 146]) d_210_145 (fun _ => rfl) ?_
                refine rr_gf (v := .ref (147 + 12)) d_210_146 mo_210 fl_52 rfl ?_
                refine rn_ic (v := 3) d_210_149 (by decide) ?_
                refine rr_nx (pc' := 152) (al' := [some (.ref 146), some (.int (nI l)), some (.int (nI 0)), some (.int (nI (usC cod N))), some (.int (nI x)), some (.int (nI y)), some (.int (nI z))]) (st' := [.int (nI z), .int (nI 3), .ref (147 + 12)]) d_210_150 (fun _ => rfl) ?_
                refine rr_iS (j := 12) (A1 := (rf_u w_.2 12 (upd (upd (upd (w_.2 12) 1 (nI x)) 2 (nI y)) 3 (nI z)))) d_210_152 (by decide) rfl (by decide) (show 3 < 5 by first | omega | assumption | exact cu_36 (by omega) (cu_lt (by omega) (by omega))) rf_uw ?_
                refine rr_nx (pc' := 154) (al' := [some (.ref 146), some (.int (nI l)), some (.int (nI 0)), some (.int (nI (usC cod N))), some (.int (nI x)), some (.int (nI y)), some (.int (nI z))]) (st' := [.ref 146]) d_210_153 (fun _ => rfl) ?_
                refine rr_nx (pc' := 155) (al' := [some (.ref 146), some (.int (nI l)), some (.int (nI 0)), some (.int (nI (usC cod N))), some (.int (nI x)), some (.int (nI y)), some (.int (nI z))]) (st' := [.int (nI l), .ref 146]) d_210_154 (fun _ => rfl) ?_
                refine rr_cv (as := [.int (nI l)]) (al0 := [some (.ref 146), some (.int (nI l)), none]) (r := []) d_210_155 mo_210 ml_238 mz_214 rfl rfl rfl (rr_wk (Nat.le_of_ble_eq_true rfl) (s_failsFor (pz.1.lw hK hc (sl hx0 hx) (sl hy0 hy) (sl hz0 hz) he) hl hFN hw)) (fun v1 g1 A1 h1 => ?_)
                obtain ⟨q0_, hg1, q1_⟩ := h1
                obtain rfl := q0_
                obtain rfl := q1_
                show RR _ _ 158 [some (.ref 146), some (.int (nI l)), some (.int (nI 0)), some (.int (nI (usC cod N))), some (.int (nI x)), some (.int (nI y)), some (.int (nI z))] [.int (bI (lwB cod (vlF x y z e) (jnW n c) F = true))] g1 (rf_u w_.2 12 (upd (upd (upd (w_.2 12) 1 (nI x)) 2 (nI y)) 3 (nI z))) _
                refine rr_bne (t := 164) d_210_158 (by decide) (fun c158 => ?_) (fun c158 => ?_)
                · have h26 : g1 26 = nI (f3N (fun x_ y_ z_ => lwB cod (vlF x_ y_ z_ e) (jnW n c) F) ys zs x + f2N (fun x_ y_ z_ => lwB cod (vlF x_ y_ z_ e) (jnW n c) F) zs x y + f1N (fun x_ y_ z_ => lwB cod (vlF x_ y_ z_ e) (jnW n c) F) x y z) := (hg1 26 (by decide) (by decide)).trans pz.2.1
                  have hb3 := f_le (br := (fun x_ y_ z_ => lwB cod (vlF x_ y_ z_ e) (jnW n c) F)) hx hy (show z ≤ zs by omega)
                  have h216 := f_216 (br := (fun x_ y_ z_ => lwB cod (vlF x_ y_ z_ e) (jnW n c) F)) (show xs ≤ 6 by omega) (show ys ≤ 6 by omega) (show zs ≤ 6 by omega)
                  refine rr_nx (pc' := 165) (al' := [some (.ref 146), some (.int (nI l)), some (.int (nI 0)), some (.int (nI (usC cod N))), some (.int (nI x)), some (.int (nI y)), some (.int (nI z))]) (st' := [.ref 146]) d_210_164 (fun _ => rfl) ?_
                  refine rr_gn d_210_165 mo_210 fl_226 rfl h26 ?_
                  refine rn_ine (t := 189) d_210_168 (by decide) (by first | omega | assumption | exact cu_36 (by omega) (cu_lt (by omega) (by omega))) (fun c168 => ?_) (fun c168 => ?_)
                  · obtain ⟨u0, v0, w0, pz0, pz0v⟩ := pz.2.2.elim (fun h_ => absurd h_.1 (by omega)) (fun h_ => h_.2)
                    refine rr_nx (pc' := 190) (al' := [some (.ref 146), some (.int (nI l)), some (.int (nI 0)), some (.int (nI (usC cod N))), some (.int (nI x)), some (.int (nI y)), some (.int (nI z))]) (st' := [.ref 146]) d_210_189 (fun _ => rfl) ?_
                    refine rr_nx (pc' := 191) (al' := [some (.ref 146), some (.int (nI l)), some (.int (nI 0)), some (.int (nI (usC cod N))), some (.int (nI x)), some (.int (nI y)), some (.int (nI z))]) (st' := [.ref 146, .ref 146]) d_210_190 (fun _ => rfl) ?_
                    refine rr_gn d_210_191 mo_210 fl_226 rfl h26 ?_
                    refine rn_ic (v := 1) d_210_194 (by decide) ?_
                    refine rn_add d_210_195  ?_
                    refine rp_26 d_210_196 mo_210 fl_226  ?_
                    refine rn_inc d_210_199 rfl rfl ?_
                    show RR _ _ 202 [some (.ref 146), some (.int (nI l)), some (.int (nI 0)), some (.int (nI (usC cod N))), some (.int (nI x)), some (.int (nI y)), some (.int (nI (z + 1)))] [] (upd g1 26 (nI ((f3N (fun x_ y_ z_ => lwB cod (vlF x_ y_ z_ e) (jnW n c) F) ys zs x + f2N (fun x_ y_ z_ => lwB cod (vlF x_ y_ z_ e) (jnW n c) F) zs x y + f1N (fun x_ y_ z_ => lwB cod (vlF x_ y_ z_ e) (jnW n c) F) x y z) + 1))) (rf_u w_.2 12 (upd (upd (upd (w_.2 12) 1 (nI x)) 2 (nI y)) 3 (nI z))) _
                    refine rr_nx (pc' := 97) (al' := [some (.ref 146), some (.int (nI l)), some (.int (nI 0)), some (.int (nI (usC cod N))), some (.int (nI x)), some (.int (nI y)), some (.int (nI (z + 1)))]) (st' := []) d_210_202 (fun _ => rfl) ?_
                    exact ihz ((upd g1 26 (nI ((f3N (fun x_ y_ z_ => lwB cod (vlF x_ y_ z_ e) (jnW n c) F) ys zs x + f2N (fun x_ y_ z_ => lwB cod (vlF x_ y_ z_ e) (jnW n c) F) zs x y + f1N (fun x_ y_ z_ => lwB cod (vlF x_ y_ z_ e) (jnW n c) F) x y z) + 1))), (rf_u w_.2 12 (upd (upd (upd (w_.2 12) 1 (nI x)) 2 (nI y)) 3 (nI z)))) (⟨(pz.1.s hg1).u (by decide), by dsimp only; rw [pk_us, f1_t (br := (fun x_ y_ z_ => lwB cod (vlF x_ y_ z_ e) (jnW n c) F)) c158]; rfl, Or.inr ⟨by rw [f1_t (br := (fun x_ y_ z_ => lwB cod (vlF x_ y_ z_ e) (jnW n c) F)) c158]; omega, u0, v0, w0, pz0, by dsimp only; rw [pk_un (by decide), hg1 27 (by decide) (by decide)]; exact pz0v.1, by dsimp only; rw [pk_un (by decide), hg1 28 (by decide) (by decide)]; exact pz0v.2.1, by dsimp only; rw [pk_un (by decide), hg1 29 (by decide) (by decide)]; exact pz0v.2.2⟩⟩)
                  · have pz0 := pz.2.2.elim (fun h_ => h_.2.1) (fun h_ => absurd h_.1 (by omega))
                    refine rr_nx (pc' := 172) (al' := [some (.ref 146), some (.int (nI l)), some (.int (nI 0)), some (.int (nI (usC cod N))), some (.int (nI x)), some (.int (nI y)), some (.int (nI z))]) (st' := [.ref 146]) d_210_171 (fun _ => rfl) ?_
                    refine rr_nx (pc' := 174) (al' := [some (.ref 146), some (.int (nI l)), some (.int (nI 0)), some (.int (nI (usC cod N))), some (.int (nI x)), some (.int (nI y)), some (.int (nI z))]) (st' := [.int (nI x), .ref 146]) d_210_172 (fun _ => rfl) ?_
                    refine rp_27 d_210_174 mo_210 fl_229  ?_
                    refine rr_nx (pc' := 178) (al' := [some (.ref 146), some (.int (nI l)), some (.int (nI 0)), some (.int (nI (usC cod N))), some (.int (nI x)), some (.int (nI y)), some (.int (nI z))]) (st' := [.ref 146]) d_210_177 (fun _ => rfl) ?_
                    refine rr_nx (pc' := 180) (al' := [some (.ref 146), some (.int (nI l)), some (.int (nI 0)), some (.int (nI (usC cod N))), some (.int (nI x)), some (.int (nI y)), some (.int (nI z))]) (st' := [.int (nI y), .ref 146]) d_210_178 (fun _ => rfl) ?_
                    refine rp_28 d_210_180 mo_210 fl_232  ?_
                    refine rr_nx (pc' := 184) (al' := [some (.ref 146), some (.int (nI l)), some (.int (nI 0)), some (.int (nI (usC cod N))), some (.int (nI x)), some (.int (nI y)), some (.int (nI z))]) (st' := [.ref 146]) d_210_183 (fun _ => rfl) ?_
                    refine rr_nx (pc' := 186) (al' := [some (.ref 146), some (.int (nI l)), some (.int (nI 0)), some (.int (nI (usC cod N))), some (.int (nI x)), some (.int (nI y)), some (.int (nI z))]) (st' := [.int (nI z), .ref 146]) d_210_184 (fun _ => rfl) ?_
                    refine rp_29 d_210_186 mo_210 fl_235  ?_
                    refine rr_nx (pc' := 190) (al' := [some (.ref 146), some (.int (nI l)), some (.int (nI 0)), some (.int (nI (usC cod N))), some (.int (nI x)), some (.int (nI y)), some (.int (nI z))]) (st' := [.ref 146]) d_210_189 (fun _ => rfl) ?_
                    refine rr_nx (pc' := 191) (al' := [some (.ref 146), some (.int (nI l)), some (.int (nI 0)), some (.int (nI (usC cod N))), some (.int (nI x)), some (.int (nI y)), some (.int (nI z))]) (st' := [.ref 146, .ref 146]) d_210_190 (fun _ => rfl) ?_
                    refine rr_gf (v := .int (g1 26)) d_210_191 mo_210 fl_226 rfl ?_
                    refine rr_tp (z := nI (f3N (fun x_ y_ z_ => lwB cod (vlF x_ y_ z_ e) (jnW n c) F) ys zs x + f2N (fun x_ y_ z_ => lwB cod (vlF x_ y_ z_ e) (jnW n c) F) zs x y + f1N (fun x_ y_ z_ => lwB cod (vlF x_ y_ z_ e) (jnW n c) F) x y z)) h26 ?_
                    refine rn_ic (v := 1) d_210_194 (by decide) ?_
                    refine rn_add d_210_195  ?_
                    refine rp_26 d_210_196 mo_210 fl_226  ?_
                    refine rn_inc d_210_199 rfl rfl ?_
                    show RR _ _ 202 [some (.ref 146), some (.int (nI l)), some (.int (nI 0)), some (.int (nI (usC cod N))), some (.int (nI x)), some (.int (nI y)), some (.int (nI (z + 1)))] [] (upd (upd (upd (upd g1 27 (nI x)) 28 (nI y)) 29 (nI z)) 26 (nI ((f3N (fun x_ y_ z_ => lwB cod (vlF x_ y_ z_ e) (jnW n c) F) ys zs x + f2N (fun x_ y_ z_ => lwB cod (vlF x_ y_ z_ e) (jnW n c) F) zs x y + f1N (fun x_ y_ z_ => lwB cod (vlF x_ y_ z_ e) (jnW n c) F) x y z) + 1))) (rf_u w_.2 12 (upd (upd (upd (w_.2 12) 1 (nI x)) 2 (nI y)) 3 (nI z))) _
                    refine rr_nx (pc' := 97) (al' := [some (.ref 146), some (.int (nI l)), some (.int (nI 0)), some (.int (nI (usC cod N))), some (.int (nI x)), some (.int (nI y)), some (.int (nI (z + 1)))]) (st' := []) d_210_202 (fun _ => rfl) ?_
                    exact ihz ((upd (upd (upd (upd g1 27 (nI x)) 28 (nI y)) 29 (nI z)) 26 (nI ((f3N (fun x_ y_ z_ => lwB cod (vlF x_ y_ z_ e) (jnW n c) F) ys zs x + f2N (fun x_ y_ z_ => lwB cod (vlF x_ y_ z_ e) (jnW n c) F) zs x y + f1N (fun x_ y_ z_ => lwB cod (vlF x_ y_ z_ e) (jnW n c) F) x y z) + 1))), (rf_u w_.2 12 (upd (upd (upd (w_.2 12) 1 (nI x)) 2 (nI y)) 3 (nI z)))) (⟨((((pz.1.s hg1).u (by decide)).u (by decide)).u (by decide)).u (by decide), by dsimp only; rw [pk_us, f1_t (br := (fun x_ y_ z_ => lwB cod (vlF x_ y_ z_ e) (jnW n c) F)) c158]; rfl, Or.inr ⟨by rw [f1_t (br := (fun x_ y_ z_ => lwB cod (vlF x_ y_ z_ e) (jnW n c) F)) c158]; omega, x, y, z, ⟨⟨hx, hy, hz⟩, c158, pz0.1, pz0.2.1, pz0.2.2⟩, by dsimp only; rw [pk_un (by decide), pk_un (by decide), pk_un (by decide), pk_us], by dsimp only; rw [pk_un (by decide), pk_un (by decide), pk_us], by dsimp only; rw [pk_un (by decide), pk_us]⟩⟩)
                · refine rr_nx (pc' := 199) (al' := [some (.ref 146), some (.int (nI l)), some (.int (nI 0)), some (.int (nI (usC cod N))), some (.int (nI x)), some (.int (nI y)), some (.int (nI z))]) (st' := []) d_210_161 (fun _ => rfl) ?_
                  refine rn_inc d_210_199 rfl rfl ?_
                  show RR _ _ 202 [some (.ref 146), some (.int (nI l)), some (.int (nI 0)), some (.int (nI (usC cod N))), some (.int (nI x)), some (.int (nI y)), some (.int (nI (z + 1)))] [] g1 (rf_u w_.2 12 (upd (upd (upd (w_.2 12) 1 (nI x)) 2 (nI y)) 3 (nI z))) _
                  refine rr_nx (pc' := 97) (al' := [some (.ref 146), some (.int (nI l)), some (.int (nI 0)), some (.int (nI (usC cod N))), some (.int (nI x)), some (.int (nI y)), some (.int (nI (z + 1)))]) (st' := []) d_210_202 (fun _ => rfl) ?_
                  exact ihz (g1, (rf_u w_.2 12 (upd (upd (upd (w_.2 12) 1 (nI x)) 2 (nI y)) 3 (nI z)))) (⟨pz.1.s hg1, (pz.2.cg (fun h_ => h_.z (Bool.eq_false_iff.mpr c158)) hg1).c (by rw [f1_f (br := (fun x_ y_ z_ => lwB cod (vlF x_ y_ z_ e) (jnW n c) F)) c158])⟩)
              · omega
          · show RR _ _ 97 [some (.ref 146), some (.int (nI l)), some (.int (nI 0)), some (.int (nI (usC cod N))), some (.int (nI x)), some (.int (nI y)), some (.int (nI zs))] [] w_.1 w_.2 _
            have hgg := pz.1.1
            refine rr_nx (pc' := 99) (al' := [some (.ref 146), some (.int (nI l)), some (.int (nI 0)), some (.int (nI (usC cod N))), some (.int (nI x)), some (.int (nI y)), some (.int (nI zs))]) (st' := [.int (nI zs)]) d_210_97 (fun _ => rfl) ?_
            refine s_gt_99 (n := n) (by rw [hgg 6 (by omega)]; exact hc.1) hn6 hs2 ?_
            show RR _ _ 114 [some (.ref 146), some (.int (nI l)), some (.int (nI 0)), some (.int (nI (usC cod N))), some (.int (nI x)), some (.int (nI y)), some (.int (nI zs))] [.int (nI zs), .int (nI zs)] w_.1 w_.2 _
            refine rn_cge (t := 205) d_210_114 (by decide) (by first | omega | assumption | exact cu_36 (by omega) (cu_lt (by omega) (by omega))) (by first | omega | assumption | exact cu_36 (by omega) (cu_lt (by omega) (by omega))) (fun c114 => ?_) (fun c114 => ?_)
            · refine rn_inc d_210_205 rfl rfl ?_
              show RR _ _ 208 [some (.ref 146), some (.int (nI l)), some (.int (nI 0)), some (.int (nI (usC cod N))), some (.int (nI x)), some (.int (nI (y + 1))), some (.int (nI zs))] [] w_.1 w_.2 _
              refine rr_nx (pc' := 75) (al' := [some (.ref 146), some (.int (nI l)), some (.int (nI 0)), some (.int (nI (usC cod N))), some (.int (nI x)), some (.int (nI (y + 1))), some (.int (nI zs))]) (st' := []) d_210_208 (fun _ => rfl) ?_
              refine rr_dr (al1 := [some (.ref 146), some (.int (nI l)), some (.int (nI 0)), some (.int (nI (usC cod N))), some (.int (nI x)), some (.int (nI (y + 1))), none]) (le_s (le_s (le_s (le_s (le_s (le_s (le_d rfl (le_n)))))))) ?_
              exact ihy w_ (⟨pz.1, (pz.2.cg NB.y (fun _ _ _ => rfl)).c (Nat.add_assoc _ _ _)⟩)
            · omega
      · show RR _ _ 75 [some (.ref 146), some (.int (nI l)), some (.int (nI 0)), some (.int (nI (usC cod N))), some (.int (nI x)), some (.int (nI ys)), none] [] w_.1 w_.2 _
        have hgg := py.1.1
        refine rr_nx (pc' := 77) (al' := [some (.ref 146), some (.int (nI l)), some (.int (nI 0)), some (.int (nI (usC cod N))), some (.int (nI x)), some (.int (nI ys)), none]) (st' := [.int (nI ys)]) d_210_75 (fun _ => rfl) ?_
        refine s_gt_77 (n := n) (by rw [hgg 6 (by omega)]; exact hc.1) hn6 hs1 ?_
        show RR _ _ 91 [some (.ref 146), some (.int (nI l)), some (.int (nI 0)), some (.int (nI (usC cod N))), some (.int (nI x)), some (.int (nI ys)), none] [.int (nI ys), .int (nI ys)] w_.1 w_.2 _
        refine rn_cge (t := 211) d_210_91 (by decide) (by first | omega | assumption | exact cu_36 (by omega) (cu_lt (by omega) (by omega))) (by first | omega | assumption | exact cu_36 (by omega) (cu_lt (by omega) (by omega))) (fun c91 => ?_) (fun c91 => ?_)
        · refine rn_inc d_210_211 rfl rfl ?_
          show RR _ _ 214 [some (.ref 146), some (.int (nI l)), some (.int (nI 0)), some (.int (nI (usC cod N))), some (.int (nI (x + 1))), some (.int (nI ys)), none] [] w_.1 w_.2 _
          refine rr_nx (pc' := 53) (al' := [some (.ref 146), some (.int (nI l)), some (.int (nI 0)), some (.int (nI (usC cod N))), some (.int (nI (x + 1))), some (.int (nI ys)), none]) (st' := []) d_210_214 (fun _ => rfl) ?_
          refine rr_dr (al1 := [some (.ref 146), some (.int (nI l)), some (.int (nI 0)), some (.int (nI (usC cod N))), some (.int (nI (x + 1))), none, none]) (le_s (le_s (le_s (le_s (le_s (le_d rfl (le_s (le_n)))))))) ?_
          exact ihx w_ (⟨py.1, py.2.cg NB.x (fun _ _ _ => rfl)⟩)
        · omega
  · show RR _ _ 53 [some (.ref 146), some (.int (nI l)), some (.int (nI 0)), some (.int (nI (usC cod N))), some (.int (nI xs)), none, none] [] w_.1 w_.2 _
    have hgg := px.1.1
    refine rr_nx (pc' := 55) (al' := [some (.ref 146), some (.int (nI l)), some (.int (nI 0)), some (.int (nI (usC cod N))), some (.int (nI xs)), none, none]) (st' := [.int (nI xs)]) d_210_53 (fun _ => rfl) ?_
    refine s_gt_55 (n := n) (by rw [hgg 6 (by omega)]; exact hc.1) hn6 hs0 ?_
    show RR _ _ 69 [some (.ref 146), some (.int (nI l)), some (.int (nI 0)), some (.int (nI (usC cod N))), some (.int (nI xs)), none, none] [.int (nI xs), .int (nI xs)] w_.1 w_.2 _
    refine rn_cge (t := 217) d_210_69 (by decide) (by first | omega | assumption | exact cu_36 (by omega) (cu_lt (by omega) (by omega))) (by first | omega | assumption | exact cu_36 (by omega) (cu_lt (by omega) (by omega))) (fun c69 => ?_) (fun c69 => ?_)
    · exact rr_rv d_210_217 mr_210 ⟨rfl, px.1, px.2.1, px.2.2.imp (fun h_ => ⟨h_.1, h_.2.1.1, h_.2.2⟩) id⟩
    · omega
theorem s_goesN {g : Nat → Int32} {A : Nat → Nat → Int32} {l N n e xs ys zs F : Nat} {cod c : Nat → Nat} (hK : LwK l N cod A) (hc : Cur g A n c) (hl : Lat n c) (hFN : N < F) (hw : (lwR cod N F).1 = true) (he : e < n) (hs0 : (0 < usC cod N &&& 2 → xs = n) ∧ (usC cod N &&& 2 = 0 → xs = 1)) (hs1 : (0 < usC cod N &&& 4 → ys = n) ∧ (usC cod N &&& 4 = 0 → ys = 1)) (hs2 : (0 < usC cod N &&& 8 → zs = n) ∧ (usC cod N &&& 8 = 0 → zs = 1)) (hu : (if unV 0 n c = -1 then nI 0 else unV 0 n c) = nI e) : RR 22 210 0 [some (.ref 146), some (.int (nI l)), some (.int (nI 0)), none, none, none, none] [] g A (fun v_ g' A' => v_ = none ∧ GtF g A e (g', A') ∧ g' 26 = nI (f3N (fun x_ y_ z_ => lwB cod (vlF x_ y_ z_ e) (jnW n c) F) ys zs xs) ∧ ((f3N (fun x_ y_ z_ => lwB cod (vlF x_ y_ z_ e) (jnW n c) F) ys zs xs = 0 ∧ NoT (fun x_ y_ z_ => lwB cod (vlF x_ y_ z_ e) (jnW n c) F) xs ys zs ∧ g' 27 = -1 ∧ g' 28 = -1 ∧ g' 29 = -1) ∨ (0 < f3N (fun x_ y_ z_ => lwB cod (vlF x_ y_ z_ e) (jnW n c) F) ys zs xs ∧ ∃ x y z, FsT (fun x_ y_ z_ => lwB cod (vlF x_ y_ z_ e) (jnW n c) F) xs ys zs x y z ∧ g' 27 = nI x ∧ g' 28 = nI y ∧ g' 29 = nI z))) := s_gt_0 hK hc hl hFN hw he hs0 hs1 hs2 hu (s_goesN_ hK hc hl hFN hw he hs0 hs1 hs2 hu)
