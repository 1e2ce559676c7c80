/-! Names, the reference; printed by wip/whole/gen_b10.py. -/
theorem s_conjugates {g : Nat → Int32} {A : Nat → Nat → Int32} {n : Nat} {c : Nat → Nat} (hc : Cur g A n c) (hl : Lat n c) {w : Nat} (hw : w < 6) : RR 1 231 0 [some (.ref 146), some (.int (nI w)), none, none, none] [] g A (mkR g A n (cjN w n c)) := by
  obtain rfl | rfl | rfl | rfl | rfl | rfl : w = 0 ∨ w = 1 ∨ w = 2 ∨ w = 3 ∨ w = 4 ∨ w = 5 := by omega
  · exact s_conjugates0 hc hl
  · exact s_conjugates1 hc hl
  · exact s_conjugates2 hc hl
  · exact s_conjugates3 hc hl
  · exact s_conjugates4 hc hl
  · exact s_conjugates5 hc hl
theorem k_makeConjugate {S : CS} {G : Nat → Nat → Value} {B : Nat → Nat → Int32} {J : Nat → Nat → Int64} {R : Nat → Nat → Option Nat} {a d n : Nat} (ht : TabAt S G a) (hn : G a 0 = .int (nI n)) {c : Nat → Nat} (hc : TabC B a n c) (hd : TabAt S G d) (hne : a ≠ d) (hl : Lat n c) {w : Nat} (hw : w < 6) : CR 2 98 0 [some (.ref d), some (.ref a), some (.int (nI w)), none, none] [] S G B J R (mkC d S G B J R n (cjN w n c)) := by
  obtain rfl | rfl | rfl | rfl | rfl | rfl : w = 0 ∨ w = 1 ∨ w = 2 ∨ w = 3 ∨ w = 4 ∨ w = 5 := by omega
  · exact k_makeConjugate0 ht hn hc hd hne hl
  · exact k_makeConjugate1 ht hn hc hd hne hl
  · exact k_makeConjugate2 ht hn hc hd hne hl
  · exact k_makeConjugate3 ht hn hc hd hne hl
  · exact k_makeConjugate4 ht hn hc hd hne hl
  · exact k_makeConjugate5 ht hn hc hd hne hl
/-- the isotope by the k-th cell of the w-th conjugate, renamed -/
def FK (n : Nat) (c : Nat → Nat) (w k : Nat) (t : Nat → Nat) : Prop := FR n (isN n (cjN w n c) (k / n) (k % n)) (some (cjN w n c k)) t
def NmK (n : Nat) (c : Nat → Nat) (W : Nat) (t : Nat → Nat) : Prop := ∃ w, w < W ∧ ∃ k, k < n * n ∧ FK n c w k t
def NmF (l n : Nat) (c : Nat → Nat) (t : Nat → Nat) : Prop := match l with
  | 0 => FR n c none t
  | 1 => NmK n c 1 t
  | _ => NmK n c 6 t
theorem Nm_0 {n : Nat} {c : Nat → Nat} {F : (Nat → Nat) → Prop} {w : Nat} (t : Nat → Nat) : F t ↔ (F t ∨ ∃ k, k < 0 ∧ FK n c w k t) := ⟨Or.inl, fun h => h.elim id (fun ⟨k, hk, _⟩ => absurd hk (Nat.not_lt_zero k))⟩
theorem Nm_s {n : Nat} {c : Nat → Nat} {F : (Nat → Nat) → Prop} {w i : Nat} (t : Nat → Nat) : ((F t ∨ ∃ k, k < i ∧ FK n c w k t) ∨ FK n c w i t) ↔ (F t ∨ ∃ k, k < i + 1 ∧ FK n c w k t) := by
  constructor
  · rintro ((h | ⟨k, hk, h⟩) | h)
    · exact Or.inl h
    · exact Or.inr ⟨k, by omega, h⟩
    · exact Or.inr ⟨i, by omega, h⟩
  · rintro (h | ⟨k, hk, h⟩)
    · exact Or.inl (Or.inl h)
    · rcases Nat.lt_succ_iff_lt_or_eq.mp hk with e | e
      · exact Or.inl (Or.inr ⟨k, e, h⟩)
      · subst e
        exact Or.inr h
theorem Nm_w {n : Nat} {c : Nat → Nat} {w : Nat} (t : Nat → Nat) : (NmK n c w t ∨ ∃ k, k < n * n ∧ FK n c w k t) ↔ NmK n c (w + 1) t := by
  constructor
  · rintro (⟨w2, hw, h⟩ | h)
    · exact ⟨w2, by omega, h⟩
    · exact ⟨w, by omega, h⟩
  · rintro ⟨w2, hw, h⟩
    rcases Nat.lt_succ_iff_lt_or_eq.mp hw with e | e
    · exact Or.inl ⟨w2, e, h⟩
    · subst e
      exact Or.inr h
theorem FR_ex {n : Nat} {c : Nat → Nat} (h1 : 1 ≤ n) {z : Option Nat} (hz : ∀ k, z = some k → k < n) : ∃ t, FR n c z t := by
  cases z with
  | none => exact ⟨rnN n c (fun x => x), fun x => x, ⟨fun k hk => hk, fun i j _ _ e => e⟩, trivial, fun _ _ => rfl⟩
  | some z =>
    have hz := hz z rfl
    refine ⟨rnN n c (fun x => if x = z then 0 else if x = 0 then z else x), _, ⟨fun k hk => ?_, fun i j hi hj e => ?_⟩, ?_, fun _ _ => rfl⟩
    · (try dsimp only)
      split
      · omega
      · split <;> omega
    · (try dsimp only at e)
      split at e <;> split at e <;> (try split at e) <;> (try split at e) <;> omega
    · show (if z = z then 0 else _) = 0
      rw [if_pos rfl]
theorem Nm_ex {l n : Nat} {c : Nat → Nat} (hl : Lat n c) (h1 : 1 ≤ n) : ∃ t, NmF l n c t := by
  have h0 : 0 < n * n := Nat.mul_pos h1 h1
  match l with
  | 0 => exact FR_ex h1 (fun k hk => by cases hk)
  | 1 =>
    obtain ⟨t, ht⟩ := FR_ex (n := n) (c := isN n (cjN 0 n c) (0 / n) (0 % n)) h1 (z := some (cjN 0 n c 0)) (fun k hk => by cases hk; exact (cj_lat hl).1 0 h0)
    exact ⟨t, 0, by decide, 0, h0, ht⟩
  | l + 2 =>
    obtain ⟨t, ht⟩ := FR_ex (n := n) (c := isN n (cjN 0 n c) (0 / n) (0 % n)) h1 (z := some (cjN 0 n c 0)) (fun k hk => by cases hk; exact (cj_lat hl).1 0 h0)
    exact ⟨t, 0, by decide, 0, h0, ht⟩
theorem Min_1 {m h : Nat} {F : (Nat → Nat) → Prop} {b : Nat → Nat} (hm : MinS m F h b) (hex : ∃ t, F t) : h = 1 ∧ MinS m F 1 b := by
  obtain ⟨t, ht⟩ := hex
  rcases hm with ⟨_, hno⟩ | ⟨h1, hx⟩
  · exact absurd ht (hno t)
  · exact ⟨h1, Or.inr ⟨rfl, hx⟩⟩
theorem s_names0 {g : Nat → Int32} {A : Nat → Nat → Int32} {t n : Nat} {c : Nat → Nat} (ht6 : t < 6) (hn1 : 1 ≤ n) (hn6 : n ≤ 6) (hl : Lat n c) (hord : A 1 (37 * t) = nI n) (hcl : ∀ q, q < n * n → A 1 (37 * t + 1 + q) = nI (c q)) : RR 21 259 0 [some (.ref 146), some (.int (nI t)), some (.int (nI 0)), none, none, none, none] [] g A (fun r g' A' => r = none ∧ g' 6 = nI n ∧ Gsm g g' ∧ Ksm A A' ∧ ∃ b, (∀ q, q < n * n → A' 19 q = nI (b q) ∧ b q < n) ∧ MinS (n * n) (NmF 0 n c) 1 b) := by
  have hnn : n * n ≤ 36 := Nat.mul_le_mul hn6 hn6
  refine rr_nx (pc' := 1) (al' := [some (.ref 146), some (.int (nI t)), some (.int (nI 0)), none, none, none, none]) (st' := [.ref 146]) d_259_0 (fun _ => rfl) ?_
  refine rn_ic (v := 0) d_259_1 (by decide) ?_
  refine rp_38 d_259_2 mo_259 fl_312 (Or.inl rfl) ?_
  refine rr_nx (pc' := 6) (al' := [some (.ref 146), some (.int (nI t)), some (.int (nI 0)), none, none, none, none]) (st' := [.ref 146]) d_259_5 (fun _ => rfl) ?_
  refine rr_nx (pc' := 7) (al' := [some (.ref 146), some (.int (nI t)), some (.int (nI 0)), none, none, none, none]) (st' := [.int (nI t), .ref 146]) d_259_6 (fun _ => rfl) ?_
  refine rr_pv (as := [.int (nI t)]) (al0 := [some (.ref 146), some (.int (nI t)), none]) (r := []) d_259_7 mo_259 ml_248 mz_208 rfl rfl rfl (Nat.le_of_ble_eq_true rfl) (s_lays (n := n) ht6 hn6 hord) ?_
  obtain ⟨wl7, hwl7⟩ : ∃ w_, w_ = rf_f (fun q => A 1 (37 * t + 1 + q)) (A 4) (n * n) := ⟨_, rfl⟩
  rw [← hwl7]
  show RR _ _ 10 [some (.ref 146), some (.int (nI t)), some (.int (nI 0)), none, none, none, none] [] (upd (upd g 38 (nI 0)) 6 (nI n)) (rf_u A 4 wl7) _
  refine rr_nx (pc' := 11) (al' := [some (.ref 146), some (.int (nI t)), some (.int (nI 0)), none, none, none, none]) (st' := [.int (nI 0)]) d_259_10 (fun _ => rfl) ?_
  refine rn_ine (t := 20) d_259_11 (by decide) (by first | omega | assumption | exact cu_36 (by omega) (cu_lt (by omega) (by omega))) (fun c11 => ?_) (fun c11 => ?_)
  · omega
  · refine rr_nx (pc' := 15) (al' := [some (.ref 146), some (.int (nI t)), some (.int (nI 0)), none, none, none, none]) (st' := [.ref 146]) d_259_14 (fun _ => rfl) ?_
    refine rr_nx (pc' := 16) (al' := [some (.ref 146), some (.int (nI t)), some (.int (nI 0)), none, none, none, none]) (st' := [.int (-1), .ref 146]) d_259_15 (fun _ => rfl) ?_
    refine rr_cv (as := [.int (-1)]) (al0 := [some (.ref 146), some (.int (-1)), none, none, none, none]) (r := []) d_259_16 mo_259 ml_316 mz_260 rfl rfl rfl (rr_wk (Nat.le_of_ble_eq_true rfl) (s_renamingsN (h := 0) (b := fun _ => 0) (F := fun _ => False) ⟨pk_us, hn6, fun q hq => ⟨by rw [rf_u_s, hwl7, rf_f_in hq]; exact hcl q hq, hl.1 q hq⟩⟩ hl (by rw [pk_un (by decide)]; exact pk_us) (by omega) (fun e => by omega) (Or.inl ⟨rfl, fun _ e => e⟩))) (fun v1 g1 A1 h1 => ?_)
    obtain ⟨rfl, h2, b2, k1, k2, k3, k4, k5, k6, k7, k8⟩ := h1
    obtain ⟨q0, q1⟩ : h2 = 1 ∧ MinS (n * n) (NmF 0 n c) 1 b2 := Min_1 (Min_iff k8 (fun t => ⟨fun h => h.elim False.elim id, Or.inr⟩)) (Nm_ex hl hn1)
    show RR _ _ 19 [some (.ref 146), some (.int (nI t)), some (.int (nI 0)), none, none, none, none] [] g1 A1 _
    exact rr_rv d_259_19 mr_259 ⟨rfl, k1, ((Gsm.rf.u (by decide)).u (by decide)).tr k4, (Ksm.rf.u (by decide)).tr k5, b2, k7 q0, q1⟩
theorem s_names1 {g : Nat → Int32} {A : Nat → Nat → Int32} {t n : Nat} {c : Nat → Nat} (ht6 : t < 6) (hn1 : 1 ≤ n) (hn6 : n ≤ 6) (hl : Lat n c) (hord : A 1 (37 * t) = nI n) (hcl : ∀ q, q < n * n → A 1 (37 * t + 1 + q) = nI (c q)) : RR 21 259 0 [some (.ref 146), some (.int (nI t)), some (.int (nI 1)), none, none, none, none] [] g A (fun r g' A' => r = none ∧ g' 6 = nI n ∧ Gsm g g' ∧ Ksm A A' ∧ ∃ b, (∀ q, q < n * n → A' 19 q = nI (b q) ∧ b q < n) ∧ MinS (n * n) (NmF 1 n c) 1 b) := by
  have hnn : n * n ≤ 36 := Nat.mul_le_mul hn6 hn6
  refine rr_nx (pc' := 1) (al' := [some (.ref 146), some (.int (nI t)), some (.int (nI 1)), none, none, none, none]) (st' := [.ref 146]) d_259_0 (fun _ => rfl) ?_
  refine rn_ic (v := 0) d_259_1 (by decide) ?_
  refine rp_38 d_259_2 mo_259 fl_312 (Or.inl rfl) ?_
  refine rr_nx (pc' := 6) (al' := [some (.ref 146), some (.int (nI t)), some (.int (nI 1)), none, none, none, none]) (st' := [.ref 146]) d_259_5 (fun _ => rfl) ?_
  refine rr_nx (pc' := 7) (al' := [some (.ref 146), some (.int (nI t)), some (.int (nI 1)), none, none, none, none]) (st' := [.int (nI t), .ref 146]) d_259_6 (fun _ => rfl) ?_
  refine rr_pv (as := [.int (nI t)]) (al0 := [some (.ref 146), some (.int (nI t)), none]) (r := []) d_259_7 mo_259 ml_248 mz_208 rfl rfl rfl (Nat.le_of_ble_eq_true rfl) (s_lays (n := n) ht6 hn6 (by first | exact hord | (rw [hA1]; exact hord))) ?_
  obtain ⟨wl7, hwl7⟩ : ∃ w_, w_ = rf_f (fun q => A 1 (37 * t + 1 + q)) (A 4) (n * n) := ⟨_, rfl⟩
  rw [← hwl7]
  show RR _ _ 10 [some (.ref 146), some (.int (nI t)), some (.int (nI 1)), none, none, none, none] [] (upd (upd g 38 (nI 0)) 6 (nI n)) (rf_u A 4 wl7) _
  refine rr_nx (pc' := 11) (al' := [some (.ref 146), some (.int (nI t)), some (.int (nI 1)), none, none, none, none]) (st' := [.int (nI 1)]) d_259_10 (fun _ => rfl) ?_
  refine rn_ine (t := 20) d_259_11 (by decide) (by first | omega | assumption | exact cu_36 (by omega) (cu_lt (by omega) (by omega))) (fun c11 => ?_) (fun c11 => ?_)
  · refine rn_ic (v := 0) d_259_20 (by decide) ?_
    refine rr_nx (pc' := 22) (al' := [some (.ref 146), some (.int (nI t)), some (.int (nI 1)), some (.int (nI 0)), none, none, none]) (st' := []) d_259_21 (fun _ => rfl) ?_
    refine rr_upw (al := fun w w_ => [some (.ref 146), some (.int (nI t)), some (.int (nI 1)), some (.int (nI w)), none, none, none]) (G := fun w w_ => w_.2.2.1) (B := fun w w_ => w_.2.2.2) (P := fun w w_ => w_.2.2.1 6 = nI n ∧ w_.2.2.1 38 = nI w_.1 ∧ w_.1 ≤ 1 ∧ Gsm g w_.2.2.1 ∧ Ksm A w_.2.2.2 ∧ (w_.1 = 1 → ∀ q, q < n * n → w_.2.2.2 19 q = nI (w_.2.1 q) ∧ w_.2.1 q < n) ∧ MinS (n * n) (NmK n c w) w_.1 w_.2.1) (n := 1) (fun w w_ hw pw ihw => ?_) (fun w_ pw => ?_) 0 ((0 : Nat), (fun _ => 0 : Nat → Nat), (upd (upd g 38 (nI 0)) 6 (nI n)), (rf_u A 4 wl7)) (by omega) (⟨by dsimp only; exact pk_us, by dsimp only; rw [pk_un (by decide)]; exact pk_us, Nat.zero_le 1, (Gsm.rf.u (by decide)).u (by decide), Ksm.rf.u (by decide), fun e => absurd (show (0 : Nat) = 1 from e) (by decide), Or.inl ⟨rfl, fun t ht => ht.elim (fun w hw => absurd hw.1 (Nat.not_lt_zero w))⟩⟩)
    · show RR _ _ 22 [some (.ref 146), some (.int (nI t)), some (.int (nI 1)), some (.int (nI w)), none, none, none] [] w_.2.2.1 w_.2.2.2 _
      have hlC : Lat n (cjN w n c) := cj_lat hl
      refine rr_nx (pc' := 23) (al' := [some (.ref 146), some (.int (nI t)), some (.int (nI 1)), some (.int (nI w)), none, none, none]) (st' := [.int (nI w)]) d_259_22 (fun _ => rfl) ?_
      refine rr_nx (pc' := 24) (al' := [some (.ref 146), some (.int (nI t)), some (.int (nI 1)), some (.int (nI w)), none, none, none]) (st' := [.int (nI 1), .int (nI w)]) d_259_23 (fun _ => rfl) ?_
      refine rn_ic (v := 2) d_259_24 (by decide) ?_
      refine rn_cne (t := 33) d_259_25 (by decide) (by first | omega | assumption | exact cu_36 (by omega) (cu_lt (by omega) (by omega))) (by first | omega | assumption | exact cu_36 (by omega) (cu_lt (by omega) (by omega))) (fun c25 => ?_) (fun c25 => ?_)
      · refine rn_ic (v := 1) d_259_33 (by decide) ?_
        refine rn_cge (t := 194) d_259_34 (by decide) (by first | omega | assumption | exact cu_36 (by omega) (cu_lt (by omega) (by omega))) (by first | omega | assumption | exact cu_36 (by omega) (cu_lt (by omega) (by omega))) (fun c34 => ?_) (fun c34 => ?_)
        · omega
        · refine rn_ic (v := 0) d_259_37 (by decide) ?_
          refine rr_nx (pc' := 40) (al' := [some (.ref 146), some (.int (nI t)), some (.int (nI 1)), some (.int (nI w)), some (.int (nI 0)), none, none]) (st' := []) d_259_38 (fun _ => rfl) ?_
          refine rr_upw (al := fun k u_ => [some (.ref 146), some (.int (nI t)), some (.int (nI 1)), some (.int (nI w)), some (.int (nI k)), none, none]) (G := fun k u_ => u_.2.2.1) (B := fun k u_ => u_.2.2.2) (P := fun k u_ => u_.2.2.1 6 = nI n ∧ u_.2.2.1 38 = nI u_.1 ∧ u_.1 ≤ 1 ∧ Gsm g u_.2.2.1 ∧ Ksm A u_.2.2.2 ∧ (u_.1 = 1 → ∀ q, q < n * n → u_.2.2.2 19 q = nI (u_.2.1 q) ∧ u_.2.1 q < n) ∧ MinS (n * n) (fun t => NmK n c w t ∨ ∃ k_, k_ < k ∧ FK n c w k_ t) u_.1 u_.2.1) (n := n * n) (fun k u_ hk pk ihk => ?_) (fun u_ pk => ?_) 0 w_ (by omega) (⟨pw.1, pw.2.1, pw.2.2.1, pw.2.2.2.1, pw.2.2.2.2.1, pw.2.2.2.2.2.1, Min_iff pw.2.2.2.2.2.2 Nm_0⟩)
          · show RR _ _ 40 [some (.ref 146), some (.int (nI t)), some (.int (nI 1)), some (.int (nI w)), some (.int (nI k)), none, none] [] u_.2.2.1 u_.2.2.2 _
            have hdk := dm_dl hk
            have hmk := dm_ml hk
            have hlI : Lat n (isN n (cjN w n c) (k / n) (k % n)) := isN_lat hlC hdk hmk
            have hg6 : upd (upd u_.2.2.1 6 (nI n)) 8 (nI n) 6 = nI n := by rw [pk_un (by decide)]; exact pk_us
            have hA1 : u_.2.2.2 1 = A 1 := pk.2.2.2.2.1 1 (by decide)
            refine rr_nx (pc' := 42) (al' := [some (.ref 146), some (.int (nI t)), some (.int (nI 1)), some (.int (nI w)), some (.int (nI k)), none, none]) (st' := [.int (nI k)]) d_259_40 (fun _ => rfl) ?_
            refine rr_nx (pc' := 43) (al' := [some (.ref 146), some (.int (nI t)), some (.int (nI 1)), some (.int (nI w)), some (.int (nI k)), none, none]) (st' := [.ref 146, .int (nI k)]) d_259_42 (fun _ => rfl) ?_
            refine rr_gn d_259_43 mo_259 fl_127 rfl (by first | exact pk.1 | exact pw.1 | exact hg6 | exact pk_us) ?_
            refine rr_nx (pc' := 47) (al' := [some (.ref 146), some (.int (nI t)), some (.int (nI 1)), some (.int (nI w)), some (.int (nI k)), none, none]) (st' := [.ref 146, .int (nI n), .int (nI k)]) d_259_46 (fun _ => rfl) ?_
            refine rr_gn d_259_47 mo_259 fl_127 rfl (by first | exact pk.1 | exact pw.1 | exact hg6 | exact pk_us) ?_
            refine rn_mul d_259_50  ?_
            refine rn_cge (t := 188) d_259_51 (by decide) (by first | omega | assumption | exact cu_36 (by omega) (cu_lt (by omega) (by omega))) (by first | omega | assumption | exact cu_36 (by omega) (cu_lt (by omega) (by omega))) (fun c51 => ?_) (fun c51 => ?_)
            · omega
            · refine rr_nx (pc' := 55) (al' := [some (.ref 146), some (.int (nI t)), some (.int (nI 1)), some (.int (nI w)), some (.int (nI k)), none, none]) (st' := [.ref 146]) d_259_54 (fun _ => rfl) ?_
              refine rr_nx (pc' := 56) (al' := [some (.ref 146), some (.int (nI t)), some (.int (nI 1)), some (.int (nI w)), some (.int (nI k)), none, none]) (st' := [.int (nI t), .ref 146]) d_259_55 (fun _ => rfl) ?_
              refine rr_pv (as := [.int (nI t)]) (al0 := [some (.ref 146), some (.int (nI t)), none]) (r := []) d_259_56 mo_259 ml_248 mz_208 rfl rfl rfl (Nat.le_of_ble_eq_true rfl) (s_lays (n := n) ht6 hn6 (by first | exact hord | (rw [hA1]; exact hord))) ?_
              obtain ⟨wl56, hwl56⟩ : ∃ w_, w_ = rf_f (fun q => u_.2.2.2 1 (37 * t + 1 + q)) (u_.2.2.2 4) (n * n) := ⟨_, rfl⟩
              rw [← hwl56]
              show RR _ _ 59 [some (.ref 146), some (.int (nI t)), some (.int (nI 1)), some (.int (nI w)), some (.int (nI k)), none, none] [] (upd u_.2.2.1 6 (nI n)) (rf_u u_.2.2.2 4 wl56) _
              refine rr_nx (pc' := 60) (al' := [some (.ref 146), some (.int (nI t)), some (.int (nI 1)), some (.int (nI w)), some (.int (nI k)), none, none]) (st' := [.ref 146]) d_259_59 (fun _ => rfl) ?_
              refine rr_nx (pc' := 61) (al' := [some (.ref 146), some (.int (nI t)), some (.int (nI 1)), some (.int (nI w)), some (.int (nI k)), none, none]) (st' := [.int (nI w), .ref 146]) d_259_60 (fun _ => rfl) ?_
              refine rr_cv (as := [.int (nI w)]) (al0 := [some (.ref 146), some (.int (nI w)), none, none, none]) (r := []) d_259_61 mo_259 ml_267 mz_231 rfl rfl rfl (rr_wk (Nat.le_of_ble_eq_true rfl) (s_conjugates ⟨pk_us, hn6, fun q hq => ⟨by rw [rf_u_s, hwl56, rf_f_in hq, hA1]; exact hcl q hq, hl.1 q hq⟩⟩ hl (by omega))) (fun v1 g1 A1 h1 => ?_)
              obtain ⟨rfl, rfl, w61, rfl, hw61⟩ := h1
              show RR _ _ 64 [some (.ref 146), some (.int (nI t)), some (.int (nI 1)), some (.int (nI w)), some (.int (nI k)), none, none] [] (upd (upd u_.2.2.1 6 (nI n)) 8 (nI n)) (rf_u (rf_u u_.2.2.2 4 wl56) 5 w61) _
              refine rn_ic (v := 0) d_259_64 (by decide) ?_
              refine rr_nx (pc' := 67) (al' := [some (.ref 146), some (.int (nI t)), some (.int (nI 1)), some (.int (nI w)), some (.int (nI k)), some (.int (nI 0)), none]) (st' := []) d_259_65 (fun _ => rfl) ?_
              refine rr_A (show (rf_u (rf_u u_.2.2.2 4 wl56) 5 w61) = (rf_u (rf_u u_.2.2.2 5 w61) 4 wl56) by exact rf_sw (by decide)) ?_
              refine rr_upw (al := fun y w4 => [some (.ref 146), some (.int (nI t)), some (.int (nI 1)), some (.int (nI w)), some (.int (nI k)), some (.int (nI y)), none]) (G := fun y w4 => (upd (upd u_.2.2.1 6 (nI n)) 8 (nI n))) (B := fun y w4 => (rf_u (rf_u u_.2.2.2 5 w61) 4 w4)) (P := fun y w4 => ∀ q, q < y → w4 q = nI ((cjN w n c) q)) (n := n * n) (fun y w4 hy py ihy => ?_) (fun w4 py => ?_) 0 wl56 (by omega) (all_0)
              · show RR _ _ 67 [some (.ref 146), some (.int (nI t)), some (.int (nI 1)), some (.int (nI w)), some (.int (nI k)), some (.int (nI y)), none] [] (upd (upd u_.2.2.1 6 (nI n)) 8 (nI n)) (rf_u (rf_u u_.2.2.2 5 w61) 4 w4) _
                refine rr_nx (pc' := 69) (al' := [some (.ref 146), some (.int (nI t)), some (.int (nI 1)), some (.int (nI w)), some (.int (nI k)), some (.int (nI y)), none]) (st' := [.int (nI y)]) d_259_67 (fun _ => rfl) ?_
                refine rr_nx (pc' := 70) (al' := [some (.ref 146), some (.int (nI t)), some (.int (nI 1)), some (.int (nI w)), some (.int (nI k)), some (.int (nI y)), none]) (st' := [.ref 146, .int (nI y)]) d_259_69 (fun _ => rfl) ?_
                refine rr_gf (v := .int (nI n)) d_259_70 mo_259 fl_127 rfl ?_
                refine rr_nx (pc' := 74) (al' := [some (.ref 146), some (.int (nI t)), some (.int (nI 1)), some (.int (nI w)), some (.int (nI k)), some (.int (nI y)), none]) (st' := [.ref 146, .int (nI n), .int (nI y)]) d_259_73 (fun _ => rfl) ?_
                refine rr_gf (v := .int (nI n)) d_259_74 mo_259 fl_127 rfl ?_
                refine rn_mul d_259_77  ?_
                refine rn_cge (t := 101) d_259_78 (by decide) (by first | omega | assumption | exact cu_36 (by omega) (cu_lt (by omega) (by omega))) (by first | omega | assumption | exact cu_36 (by omega) (cu_lt (by omega) (by omega))) (fun c78 => ?_) (fun c78 => ?_)
                · omega
                · refine rr_nx (pc' := 82) (al' := [some (.ref 146), some (.int (nI t)), some (.int (nI 1)), some (.int (nI w)), some (.int (nI k)), some (.int (nI y)), none]) (st' := [.ref 146]) d_259_81 (fun _ => rfl) ?_
                  refine rr_gf (v := .ref (147 + 4)) d_259_82 mo_259 fl_23 rfl ?_
                  refine rr_nx (pc' := 87) (al' := [some (.ref 146), some (.int (nI t)), some (.int (nI 1)), some (.int (nI w)), some (.int (nI k)), some (.int (nI y)), none]) (st' := [.int (nI y), .ref (147 + 4)]) d_259_85 (fun _ => rfl) ?_
                  refine rr_nx (pc' := 88) (al' := [some (.ref 146), some (.int (nI t)), some (.int (nI 1)), some (.int (nI w)), some (.int (nI k)), some (.int (nI y)), none]) (st' := [.ref 146, .int (nI y), .ref (147 + 4)]) d_259_87 (fun _ => rfl) ?_
                  refine rr_gf (v := .ref (147 + 5)) d_259_88 mo_259 fl_26 rfl ?_
                  refine rr_nx (pc' := 93) (al' := [some (.ref 146), some (.int (nI t)), some (.int (nI 1)), some (.int (nI w)), some (.int (nI k)), some (.int (nI y)), none]) (st' := [.int (nI y), .ref (147 + 5), .int (nI y), .ref (147 + 4)]) d_259_91 (fun _ => rfl) ?_
                  refine rr_ia (j := 5) (v := (nI (cjN w n c y))) d_259_93 (by decide) rfl (by decide) (show y < 36 by first | omega | assumption | exact cu_36 (by omega) (cu_lt (by omega) (by omega))) (hw61 y hy) ?_
                  refine rr_iS (j := 4) (A1 := (rf_u (rf_u u_.2.2.2 5 w61) 4 (upd w4 y (nI (cjN w n c y))))) d_259_94 (by decide) rfl (by decide) (show y < 36 by first | omega | assumption | exact cu_36 (by omega) (cu_lt (by omega) (by omega))) rf_uw ?_
                  refine rn_inc d_259_95 rfl rfl ?_
                  show RR _ _ 98 [some (.ref 146), some (.int (nI t)), some (.int (nI 1)), some (.int (nI w)), some (.int (nI k)), some (.int (nI (y + 1))), none] [] (upd (upd u_.2.2.1 6 (nI n)) 8 (nI n)) (rf_u (rf_u u_.2.2.2 5 w61) 4 (upd w4 y (nI (cjN w n c y)))) _
                  refine rr_nx (pc' := 67) (al' := [some (.ref 146), some (.int (nI t)), some (.int (nI 1)), some (.int (nI w)), some (.int (nI k)), some (.int (nI (y + 1))), none]) (st' := []) d_259_98 (fun _ => rfl) ?_
                  exact ihy (upd w4 y (nI (cjN w n c y))) (up_all (f := fun q => nI ((cjN w n c) q)) py rfl)
              · show RR _ _ 67 [some (.ref 146), some (.int (nI t)), some (.int (nI 1)), some (.int (nI w)), some (.int (nI k)), some (.int (nI (n * n))), none] [] (upd (upd u_.2.2.1 6 (nI n)) 8 (nI n)) (rf_u (rf_u u_.2.2.2 5 w61) 4 w4) _
                refine rr_nx (pc' := 69) (al' := [some (.ref 146), some (.int (nI t)), some (.int (nI 1)), some (.int (nI w)), some (.int (nI k)), some (.int (nI (n * n))), none]) (st' := [.int (nI (n * n))]) d_259_67 (fun _ => rfl) ?_
                refine rr_nx (pc' := 70) (al' := [some (.ref 146), some (.int (nI t)), some (.int (nI 1)), some (.int (nI w)), some (.int (nI k)), some (.int (nI (n * n))), none]) (st' := [.ref 146, .int (nI (n * n))]) d_259_69 (fun _ => rfl) ?_
                refine rr_gf (v := .int (nI n)) d_259_70 mo_259 fl_127 rfl ?_
                refine rr_nx (pc' := 74) (al' := [some (.ref 146), some (.int (nI t)), some (.int (nI 1)), some (.int (nI w)), some (.int (nI k)), some (.int (nI (n * n))), none]) (st' := [.ref 146, .int (nI n), .int (nI (n * n))]) d_259_73 (fun _ => rfl) ?_
                refine rr_gf (v := .int (nI n)) d_259_74 mo_259 fl_127 rfl ?_
                refine rn_mul d_259_77  ?_
                refine rn_cge (t := 101) d_259_78 (by decide) (by first | omega | assumption | exact cu_36 (by omega) (cu_lt (by omega) (by omega))) (by first | omega | assumption | exact cu_36 (by omega) (cu_lt (by omega) (by omega))) (fun c78 => ?_) (fun c78 => ?_)
                · refine rr_nx (pc' := 102) (al' := [some (.ref 146), some (.int (nI t)), some (.int (nI 1)), some (.int (nI w)), some (.int (nI k)), some (.int (nI (n * n))), none]) (st' := [.ref 146]) d_259_101 (fun _ => rfl) ?_
                  refine rr_nx (pc' := 104) (al' := [some (.ref 146), some (.int (nI t)), some (.int (nI 1)), some (.int (nI w)), some (.int (nI k)), some (.int (nI (n * n))), none]) (st' := [.int (nI k), .ref 146]) d_259_102 (fun _ => rfl) ?_
                  refine rr_nx (pc' := 105) (al' := [some (.ref 146), some (.int (nI t)), some (.int (nI 1)), some (.int (nI w)), some (.int (nI k)), some (.int (nI (n * n))), none]) (st' := [.ref 146, .int (nI k), .ref 146]) d_259_104 (fun _ => rfl) ?_
                  refine rr_gf (v := .int (nI n)) d_259_105 mo_259 fl_127 rfl ?_
                  refine rn_div d_259_108 (by omega) (by omega) (by omega) ?_
                  refine rr_nx (pc' := 111) (al' := [some (.ref 146), some (.int (nI t)), some (.int (nI 1)), some (.int (nI w)), some (.int (nI k)), some (.int (nI (n * n))), none]) (st' := [.int (nI k), .int (nI (k / n)), .ref 146]) d_259_109 (fun _ => rfl) ?_
                  refine rr_nx (pc' := 112) (al' := [some (.ref 146), some (.int (nI t)), some (.int (nI 1)), some (.int (nI w)), some (.int (nI k)), some (.int (nI (n * n))), none]) (st' := [.ref 146, .int (nI k), .int (nI (k / n)), .ref 146]) d_259_111 (fun _ => rfl) ?_
                  refine rr_gf (v := .int (nI n)) d_259_112 mo_259 fl_127 rfl ?_
                  refine rn_rem d_259_115 (by omega) (by omega) (by omega) ?_
                  refine rr_pv (as := [.int (nI (k / n)), .int (nI (k % n))]) (al0 := [some (.ref 146), some (.int (nI (k / n))), some (.int (nI (k % n)))]) (r := []) d_259_116 mo_259 ml_130 mz_213 rfl rfl rfl (Nat.le_of_ble_eq_true rfl) (s_times ⟨hg6, hn6, fun q hq => ⟨by rw [rf_u_s]; exact py q hq, hlC.1 q hq⟩⟩ (by omega) (by omega)) ?_
                  rw [show n * (k / n) + k % n = k from dm_q]
                  show RR _ _ 119 [some (.ref 146), some (.int (nI t)), some (.int (nI 1)), some (.int (nI w)), some (.int (nI k)), some (.int (nI (n * n))), none] [.int (nI (cjN w n c k))] (upd (upd u_.2.2.1 6 (nI n)) 8 (nI n)) (rf_u (rf_u u_.2.2.2 5 w61) 4 w4) _
                  have b116 : cjN w n c k < n := hlC.1 k hk
                  refine rr_nx (pc' := 121) (al' := [some (.ref 146), some (.int (nI t)), some (.int (nI 1)), some (.int (nI w)), some (.int (nI k)), some (.int (nI (cjN w n c k))), none]) (st' := []) d_259_119 (fun _ => rfl) ?_
                  refine rr_nx (pc' := 122) (al' := [some (.ref 146), some (.int (nI t)), some (.int (nI 1)), some (.int (nI w)), some (.int (nI k)), some (.int (nI (cjN w n c k))), none]) (st' := [.ref 146]) d_259_121 (fun _ => rfl) ?_
                  refine rr_nx (pc' := 124) (al' := [some (.ref 146), some (.int (nI t)), some (.int (nI 1)), some (.int (nI w)), some (.int (nI k)), some (.int (nI (cjN w n c k))), none]) (st' := [.int (nI k), .ref 146]) d_259_122 (fun _ => rfl) ?_
                  refine rr_nx (pc' := 125) (al' := [some (.ref 146), some (.int (nI t)), some (.int (nI 1)), some (.int (nI w)), some (.int (nI k)), some (.int (nI (cjN w n c k))), none]) (st' := [.ref 146, .int (nI k), .ref 146]) d_259_124 (fun _ => rfl) ?_
                  refine rr_gf (v := .int (nI n)) d_259_125 mo_259 fl_127 rfl ?_
                  refine rn_div d_259_128 (by omega) (by omega) (by omega) ?_
                  refine rr_nx (pc' := 131) (al' := [some (.ref 146), some (.int (nI t)), some (.int (nI 1)), some (.int (nI w)), some (.int (nI k)), some (.int (nI (cjN w n c k))), none]) (st' := [.int (nI k), .int (nI (k / n)), .ref 146]) d_259_129 (fun _ => rfl) ?_
                  refine rr_nx (pc' := 132) (al' := [some (.ref 146), some (.int (nI t)), some (.int (nI 1)), some (.int (nI w)), some (.int (nI k)), some (.int (nI (cjN w n c k))), none]) (st' := [.ref 146, .int (nI k), .int (nI (k / n)), .ref 146]) d_259_131 (fun _ => rfl) ?_
                  refine rr_gf (v := .int (nI n)) d_259_132 mo_259 fl_127 rfl ?_
                  refine rn_rem d_259_135 (by omega) (by omega) (by omega) ?_
                  refine rr_cv (as := [.int (nI (k / n)), .int (nI (k % n))]) (al0 := [some (.ref 146), some (.int (nI (k / n))), some (.int (nI (k % n))), none, none]) (r := []) d_259_136 mo_259 ml_263 mz_229 rfl rfl rfl (rr_wk (Nat.le_of_ble_eq_true rfl) (s_isotopes ⟨hg6, hn6, fun q hq => ⟨by rw [rf_u_s]; exact py q hq, hlC.1 q hq⟩⟩ hlC (by omega) (by omega))) (fun v1 g1 A1 h1 => ?_)
                  obtain ⟨rfl, rfl, w136, rfl, hw136⟩ := h1
                  rw [upd_u, rf_sw (by decide), rf_u_u]
                  show RR _ _ 139 [some (.ref 146), some (.int (nI t)), some (.int (nI 1)), some (.int (nI w)), some (.int (nI k)), some (.int (nI (cjN w n c k))), none] [] (upd (upd u_.2.2.1 6 (nI n)) 8 (nI n)) (rf_u (rf_u u_.2.2.2 5 w136) 4 w4) _
                  refine rn_ic (v := 0) d_259_139 (by decide) ?_
                  refine rr_nx (pc' := 142) (al' := [some (.ref 146), some (.int (nI t)), some (.int (nI 1)), some (.int (nI w)), some (.int (nI k)), some (.int (nI (cjN w n c k))), some (.int (nI 0))]) (st' := []) d_259_140 (fun _ => rfl) ?_
                  refine rr_upw (al := fun y2 w44 => [some (.ref 146), some (.int (nI t)), some (.int (nI 1)), some (.int (nI w)), some (.int (nI k)), some (.int (nI (cjN w n c k))), some (.int (nI y2))]) (G := fun y2 w44 => (upd (upd u_.2.2.1 6 (nI n)) 8 (nI n))) (B := fun y2 w44 => (rf_u (rf_u u_.2.2.2 5 w136) 4 w44)) (P := fun y2 w44 => ∀ q, q < y2 → w44 q = nI ((isN n (cjN w n c) (k / n) (k % n)) q)) (n := n * n) (fun y2 w44 hy2 py2 ihy2 => ?_) (fun w44 py2 => ?_) 0 w4 (by omega) (all_0)
                  · show RR _ _ 142 [some (.ref 146), some (.int (nI t)), some (.int (nI 1)), some (.int (nI w)), some (.int (nI k)), some (.int (nI (cjN w n c k))), some (.int (nI y2))] [] (upd (upd u_.2.2.1 6 (nI n)) 8 (nI n)) (rf_u (rf_u u_.2.2.2 5 w136) 4 w44) _
                    refine rr_nx (pc' := 144) (al' := [some (.ref 146), some (.int (nI t)), some (.int (nI 1)), some (.int (nI w)), some (.int (nI k)), some (.int (nI (cjN w n c k))), some (.int (nI y2))]) (st' := [.int (nI y2)]) d_259_142 (fun _ => rfl) ?_
                    refine rr_nx (pc' := 145) (al' := [some (.ref 146), some (.int (nI t)), some (.int (nI 1)), some (.int (nI w)), some (.int (nI k)), some (.int (nI (cjN w n c k))), some (.int (nI y2))]) (st' := [.ref 146, .int (nI y2)]) d_259_144 (fun _ => rfl) ?_
                    refine rr_gf (v := .int (nI n)) d_259_145 mo_259 fl_127 rfl ?_
                    refine rr_nx (pc' := 149) (al' := [some (.ref 146), some (.int (nI t)), some (.int (nI 1)), some (.int (nI w)), some (.int (nI k)), some (.int (nI (cjN w n c k))), some (.int (nI y2))]) (st' := [.ref 146, .int (nI n), .int (nI y2)]) d_259_148 (fun _ => rfl) ?_
                    refine rr_gf (v := .int (nI n)) d_259_149 mo_259 fl_127 rfl ?_
                    refine rn_mul d_259_152  ?_
                    refine rn_cge (t := 176) d_259_153 (by decide) (by first | omega | assumption | exact cu_36 (by omega) (cu_lt (by omega) (by omega))) (by first | omega | assumption | exact cu_36 (by omega) (cu_lt (by omega) (by omega))) (fun c153 => ?_) (fun c153 => ?_)
                    · omega
                    · refine rr_nx (pc' := 157) (al' := [some (.ref 146), some (.int (nI t)), some (.int (nI 1)), some (.int (nI w)), some (.int (nI k)), some (.int (nI (cjN w n c k))), some (.int (nI y2))]) (st' := [.ref 146]) d_259_156 (fun _ => rfl) ?_
                      refine rr_gf (v := .ref (147 + 4)) d_259_157 mo_259 fl_23 rfl ?_
                      refine rr_nx (pc' := 162) (al' := [some (.ref 146), some (.int (nI t)), some (.int (nI 1)), some (.int (nI w)), some (.int (nI k)), some (.int (nI (cjN w n c k))), some (.int (nI y2))]) (st' := [.int (nI y2), .ref (147 + 4)]) d_259_160 (fun _ => rfl) ?_
                      refine rr_nx (pc' := 163) (al' := [some (.ref 146), some (.int (nI t)), some (.int (nI 1)), some (.int (nI w)), some (.int (nI k)), some (.int (nI (cjN w n c k))), some (.int (nI y2))]) (st' := [.ref 146, .int (nI y2), .ref (147 + 4)]) d_259_162 (fun _ => rfl) ?_
                      refine rr_gf (v := .ref (147 + 5)) d_259_163 mo_259 fl_26 rfl ?_
                      refine rr_nx (pc' := 168) (al' := [some (.ref 146), some (.int (nI t)), some (.int (nI 1)), some (.int (nI w)), some (.int (nI k)), some (.int (nI (cjN w n c k))), some (.int (nI y2))]) (st' := [.int (nI y2), .ref (147 + 5), .int (nI y2), .ref (147 + 4)]) d_259_166 (fun _ => rfl) ?_
                      refine rr_ia (j := 5) (v := (nI ((isN n (cjN w n c) (k / n) (k % n)) y2))) d_259_168 (by decide) rfl (by decide) (show y2 < 36 by first | omega | assumption | exact cu_36 (by omega) (cu_lt (by omega) (by omega))) (hw136 y2 hy2) ?_
                      refine rr_iS (j := 4) (A1 := (rf_u (rf_u u_.2.2.2 5 w136) 4 (upd w44 y2 (nI ((isN n (cjN w n c) (k / n) (k % n)) y2))))) d_259_169 (by decide) rfl (by decide) (show y2 < 36 by first | omega | assumption | exact cu_36 (by omega) (cu_lt (by omega) (by omega))) rf_uw ?_
                      refine rn_inc d_259_170 rfl rfl ?_
                      show RR _ _ 173 [some (.ref 146), some (.int (nI t)), some (.int (nI 1)), some (.int (nI w)), some (.int (nI k)), some (.int (nI (cjN w n c k))), some (.int (nI (y2 + 1)))] [] (upd (upd u_.2.2.1 6 (nI n)) 8 (nI n)) (rf_u (rf_u u_.2.2.2 5 w136) 4 (upd w44 y2 (nI ((isN n (cjN w n c) (k / n) (k % n)) y2)))) _
                      refine rr_nx (pc' := 142) (al' := [some (.ref 146), some (.int (nI t)), some (.int (nI 1)), some (.int (nI w)), some (.int (nI k)), some (.int (nI (cjN w n c k))), some (.int (nI (y2 + 1)))]) (st' := []) d_259_173 (fun _ => rfl) ?_
                      exact ihy2 (upd w44 y2 (nI ((isN n (cjN w n c) (k / n) (k % n)) y2))) (up_all (f := fun q => nI ((isN n (cjN w n c) (k / n) (k % n)) q)) py2 rfl)
                  · show RR _ _ 142 [some (.ref 146), some (.int (nI t)), some (.int (nI 1)), some (.int (nI w)), some (.int (nI k)), some (.int (nI (cjN w n c k))), some (.int (nI (n * n)))] [] (upd (upd u_.2.2.1 6 (nI n)) 8 (nI n)) (rf_u (rf_u u_.2.2.2 5 w136) 4 w44) _
                    refine rr_nx (pc' := 144) (al' := [some (.ref 146), some (.int (nI t)), some (.int (nI 1)), some (.int (nI w)), some (.int (nI k)), some (.int (nI (cjN w n c k))), some (.int (nI (n * n)))]) (st' := [.int (nI (n * n))]) d_259_142 (fun _ => rfl) ?_
                    refine rr_nx (pc' := 145) (al' := [some (.ref 146), some (.int (nI t)), some (.int (nI 1)), some (.int (nI w)), some (.int (nI k)), some (.int (nI (cjN w n c k))), some (.int (nI (n * n)))]) (st' := [.ref 146, .int (nI (n * n))]) d_259_144 (fun _ => rfl) ?_
                    refine rr_gf (v := .int (nI n)) d_259_145 mo_259 fl_127 rfl ?_
                    refine rr_nx (pc' := 149) (al' := [some (.ref 146), some (.int (nI t)), some (.int (nI 1)), some (.int (nI w)), some (.int (nI k)), some (.int (nI (cjN w n c k))), some (.int (nI (n * n)))]) (st' := [.ref 146, .int (nI n), .int (nI (n * n))]) d_259_148 (fun _ => rfl) ?_
                    refine rr_gf (v := .int (nI n)) d_259_149 mo_259 fl_127 rfl ?_
                    refine rn_mul d_259_152  ?_
                    refine rn_cge (t := 176) d_259_153 (by decide) (by first | omega | assumption | exact cu_36 (by omega) (cu_lt (by omega) (by omega))) (by first | omega | assumption | exact cu_36 (by omega) (cu_lt (by omega) (by omega))) (fun c153 => ?_) (fun c153 => ?_)
                    · refine rr_nx (pc' := 177) (al' := [some (.ref 146), some (.int (nI t)), some (.int (nI 1)), some (.int (nI w)), some (.int (nI k)), some (.int (nI (cjN w n c k))), some (.int (nI (n * n)))]) (st' := [.ref 146]) d_259_176 (fun _ => rfl) ?_
                      refine rr_nx (pc' := 179) (al' := [some (.ref 146), some (.int (nI t)), some (.int (nI 1)), some (.int (nI w)), some (.int (nI k)), some (.int (nI (cjN w n c k))), some (.int (nI (n * n)))]) (st' := [.int (nI (cjN w n c k)), .ref 146]) d_259_177 (fun _ => rfl) ?_
                      refine rr_cv (as := [.int (nI (cjN w n c k))]) (al0 := [some (.ref 146), some (.int (nI (cjN w n c k))), none, none, none, none]) (r := []) d_259_179 mo_259 ml_316 mz_260 rfl rfl rfl (rr_wk (Nat.le_of_ble_eq_true rfl) (s_renamingsZ (h := u_.1) (b := u_.2.1) (F := fun t => NmK n c w t ∨ ∃ k_, k_ < k ∧ FK n c w k_ t) ⟨hg6, hn6, fun q hq => ⟨by rw [rf_u_s]; exact py2 q hq, hlI.1 q hq⟩⟩ hlI (by omega) (by rw [pk_un (by decide), pk_un (by decide)]; exact pk.2.1) pk.2.2.1 (fun e q hq => by rw [rf_u_n (by decide), rf_u_n (by decide)]; exact pk.2.2.2.2.2.1 e q hq) pk.2.2.2.2.2.2)) (fun v1 g2 A2 h1 => ?_)
                      obtain ⟨rfl, h2, b2, k1, k2, k3, k4, k5, k6, k7, k8⟩ := h1
                      show RR _ _ 182 [some (.ref 146), some (.int (nI t)), some (.int (nI 1)), some (.int (nI w)), some (.int (nI k)), some (.int (nI (cjN w n c k))), some (.int (nI (n * n)))] [] g2 A2 _
                      refine rn_inc d_259_182 rfl rfl ?_
                      show RR _ _ 185 [some (.ref 146), some (.int (nI t)), some (.int (nI 1)), some (.int (nI w)), some (.int (nI (k + 1))), some (.int (nI (cjN w n c k))), some (.int (nI (n * n)))] [] g2 A2 _
                      refine rr_nx (pc' := 40) (al' := [some (.ref 146), some (.int (nI t)), some (.int (nI 1)), some (.int (nI w)), some (.int (nI (k + 1))), some (.int (nI (cjN w n c k))), some (.int (nI (n * n)))]) (st' := []) d_259_185 (fun _ => rfl) ?_
                      refine rr_dr (al1 := [some (.ref 146), some (.int (nI t)), some (.int (nI 1)), some (.int (nI w)), some (.int (nI (k + 1))), none, none]) (le_s (le_s (le_s (le_s (le_s (le_d rfl (le_d rfl (le_n)))))))) ?_
                      exact ihk (h2, b2, g2, A2) (⟨k1, k2, k3, ((pk.2.2.2.1.u (by decide)).u (by decide)).tr k4, ((pk.2.2.2.2.1.u (by decide)).u (by decide)).tr k5, k7, Min_iff k8 Nm_s⟩)
                    · omega
                · omega
          · show RR _ _ 40 [some (.ref 146), some (.int (nI t)), some (.int (nI 1)), some (.int (nI w)), some (.int (nI (n * n))), none, none] [] u_.2.2.1 u_.2.2.2 _
            refine rr_nx (pc' := 42) (al' := [some (.ref 146), some (.int (nI t)), some (.int (nI 1)), some (.int (nI w)), some (.int (nI (n * n))), none, none]) (st' := [.int (nI (n * n))]) d_259_40 (fun _ => rfl) ?_
            refine rr_nx (pc' := 43) (al' := [some (.ref 146), some (.int (nI t)), some (.int (nI 1)), some (.int (nI w)), some (.int (nI (n * n))), none, none]) (st' := [.ref 146, .int (nI (n * n))]) d_259_42 (fun _ => rfl) ?_
            refine rr_gn d_259_43 mo_259 fl_127 rfl (by first | exact pk.1 | exact pw.1 | exact hg6 | exact pk_us) ?_
            refine rr_nx (pc' := 47) (al' := [some (.ref 146), some (.int (nI t)), some (.int (nI 1)), some (.int (nI w)), some (.int (nI (n * n))), none, none]) (st' := [.ref 146, .int (nI n), .int (nI (n * n))]) d_259_46 (fun _ => rfl) ?_
            refine rr_gn d_259_47 mo_259 fl_127 rfl (by first | exact pk.1 | exact pw.1 | exact hg6 | exact pk_us) ?_
            refine rn_mul d_259_50  ?_
            refine rn_cge (t := 188) d_259_51 (by decide) (by first | omega | assumption | exact cu_36 (by omega) (cu_lt (by omega) (by omega))) (by first | omega | assumption | exact cu_36 (by omega) (cu_lt (by omega) (by omega))) (fun c51 => ?_) (fun c51 => ?_)
            · refine rn_inc d_259_188 rfl rfl ?_
              show RR _ _ 191 [some (.ref 146), some (.int (nI t)), some (.int (nI 1)), some (.int (nI (w + 1))), some (.int (nI (n * n))), none, none] [] u_.2.2.1 u_.2.2.2 _
              refine rr_nx (pc' := 22) (al' := [some (.ref 146), some (.int (nI t)), some (.int (nI 1)), some (.int (nI (w + 1))), some (.int (nI (n * n))), none, none]) (st' := []) d_259_191 (fun _ => rfl) ?_
              refine rr_dr (al1 := [some (.ref 146), some (.int (nI t)), some (.int (nI 1)), some (.int (nI (w + 1))), none, none, none]) (le_s (le_s (le_s (le_s (le_d rfl (le_s (le_s (le_n)))))))) ?_
              exact ihw u_ (⟨pk.1, pk.2.1, pk.2.2.1, pk.2.2.2.1, pk.2.2.2.2.1, pk.2.2.2.2.2.1, Min_iff pk.2.2.2.2.2.2 Nm_w⟩)
            · omega
      · omega
    · show RR _ _ 22 [some (.ref 146), some (.int (nI t)), some (.int (nI 1)), some (.int (nI 1)), none, none, none] [] w_.2.2.1 w_.2.2.2 _
      refine rr_nx (pc' := 23) (al' := [some (.ref 146), some (.int (nI t)), some (.int (nI 1)), some (.int (nI 1)), none, none, none]) (st' := [.int (nI 1)]) d_259_22 (fun _ => rfl) ?_
      refine rr_nx (pc' := 24) (al' := [some (.ref 146), some (.int (nI t)), some (.int (nI 1)), some (.int (nI 1)), none, none, none]) (st' := [.int (nI 1), .int (nI 1)]) d_259_23 (fun _ => rfl) ?_
      refine rn_ic (v := 2) d_259_24 (by decide) ?_
      refine rn_cne (t := 33) d_259_25 (by decide) (by first | omega | assumption | exact cu_36 (by omega) (cu_lt (by omega) (by omega))) (by first | omega | assumption | exact cu_36 (by omega) (cu_lt (by omega) (by omega))) (fun c25 => ?_) (fun c25 => ?_)
      · refine rn_ic (v := 1) d_259_33 (by decide) ?_
        refine rn_cge (t := 194) d_259_34 (by decide) (by first | omega | assumption | exact cu_36 (by omega) (cu_lt (by omega) (by omega))) (by first | omega | assumption | exact cu_36 (by omega) (cu_lt (by omega) (by omega))) (fun c34 => ?_) (fun c34 => ?_)
        · exact rr_rv d_259_194 mr_259 (by
              obtain ⟨q0, q1⟩ : w_.1 = 1 ∧ MinS (n * n) (NmF 1 n c) 1 w_.2.1 := Min_1 pw.2.2.2.2.2.2 (Nm_ex (l := 1) hl hn1)
              exact ⟨rfl, pw.1, pw.2.2.2.1, pw.2.2.2.2.1, w_.2.1, pw.2.2.2.2.2.1 q0, q1⟩)
        · omega
      · omega
  · omega
theorem s_names2 {g : Nat → Int32} {A : Nat → Nat → Int32} {t n : Nat} {c : Nat → Nat} (ht6 : t < 6) (hn1 : 1 ≤ n) (hn6 : n ≤ 6) (hl : Lat n c) (hord : A 1 (37 * t) = nI n) (hcl : ∀ q, q < n * n → A 1 (37 * t + 1 + q) = nI (c q)) : RR 21 259 0 [some (.ref 146), some (.int (nI t)), some (.int (nI 2)), none, none, none, none] [] g A (fun r g' A' => r = none ∧ g' 6 = nI n ∧ Gsm g g' ∧ Ksm A A' ∧ ∃ b, (∀ q, q < n * n → A' 19 q = nI (b q) ∧ b q < n) ∧ MinS (n * n) (NmF 2 n c) 1 b) := by
  have hnn : n * n ≤ 36 := Nat.mul_le_mul hn6 hn6
  refine rr_nx (pc' := 1) (al' := [some (.ref 146), some (.int (nI t)), some (.int (nI 2)), none, none, none, none]) (st' := [.ref 146]) d_259_0 (fun _ => rfl) ?_
  refine rn_ic (v := 0) d_259_1 (by decide) ?_
  refine rp_38 d_259_2 mo_259 fl_312 (Or.inl rfl) ?_
  refine rr_nx (pc' := 6) (al' := [some (.ref 146), some (.int (nI t)), some (.int (nI 2)), none, none, none, none]) (st' := [.ref 146]) d_259_5 (fun _ => rfl) ?_
  refine rr_nx (pc' := 7) (al' := [some (.ref 146), some (.int (nI t)), some (.int (nI 2)), none, none, none, none]) (st' := [.int (nI t), .ref 146]) d_259_6 (fun _ => rfl) ?_
  refine rr_pv (as := [.int (nI t)]) (al0 := [some (.ref 146), some (.int (nI t)), none]) (r := []) d_259_7 mo_259 ml_248 mz_208 rfl rfl rfl (Nat.le_of_ble_eq_true rfl) (s_lays (n := n) ht6 hn6 (by first | exact hord | (rw [hA1]; exact hord))) ?_
  obtain ⟨wl7, hwl7⟩ : ∃ w_, w_ = rf_f (fun q => A 1 (37 * t + 1 + q)) (A 4) (n * n) := ⟨_, rfl⟩
  rw [← hwl7]
  show RR _ _ 10 [some (.ref 146), some (.int (nI t)), some (.int (nI 2)), none, none, none, none] [] (upd (upd g 38 (nI 0)) 6 (nI n)) (rf_u A 4 wl7) _
  refine rr_nx (pc' := 11) (al' := [some (.ref 146), some (.int (nI t)), some (.int (nI 2)), none, none, none, none]) (st' := [.int (nI 2)]) d_259_10 (fun _ => rfl) ?_
  refine rn_ine (t := 20) d_259_11 (by decide) (by first | omega | assumption | exact cu_36 (by omega) (cu_lt (by omega) (by omega))) (fun c11 => ?_) (fun c11 => ?_)
  · refine rn_ic (v := 0) d_259_20 (by decide) ?_
    refine rr_nx (pc' := 22) (al' := [some (.ref 146), some (.int (nI t)), some (.int (nI 2)), some (.int (nI 0)), none, none, none]) (st' := []) d_259_21 (fun _ => rfl) ?_
    refine rr_upw (al := fun w w_ => [some (.ref 146), some (.int (nI t)), some (.int (nI 2)), some (.int (nI w)), none, none, none]) (G := fun w w_ => w_.2.2.1) (B := fun w w_ => w_.2.2.2) (P := fun w w_ => w_.2.2.1 6 = nI n ∧ w_.2.2.1 38 = nI w_.1 ∧ w_.1 ≤ 1 ∧ Gsm g w_.2.2.1 ∧ Ksm A w_.2.2.2 ∧ (w_.1 = 1 → ∀ q, q < n * n → w_.2.2.2 19 q = nI (w_.2.1 q) ∧ w_.2.1 q < n) ∧ MinS (n * n) (NmK n c w) w_.1 w_.2.1) (n := 6) (fun w w_ hw pw ihw => ?_) (fun w_ pw => ?_) 0 ((0 : Nat), (fun _ => 0 : Nat → Nat), (upd (upd g 38 (nI 0)) 6 (nI n)), (rf_u A 4 wl7)) (by omega) (⟨by dsimp only; exact pk_us, by dsimp only; rw [pk_un (by decide)]; exact pk_us, Nat.zero_le 1, (Gsm.rf.u (by decide)).u (by decide), Ksm.rf.u (by decide), fun e => absurd (show (0 : Nat) = 1 from e) (by decide), Or.inl ⟨rfl, fun t ht => ht.elim (fun w hw => absurd hw.1 (Nat.not_lt_zero w))⟩⟩)
    · show RR _ _ 22 [some (.ref 146), some (.int (nI t)), some (.int (nI 2)), some (.int (nI w)), none, none, none] [] w_.2.2.1 w_.2.2.2 _
      have hlC : Lat n (cjN w n c) := cj_lat hl
      refine rr_nx (pc' := 23) (al' := [some (.ref 146), some (.int (nI t)), some (.int (nI 2)), some (.int (nI w)), none, none, none]) (st' := [.int (nI w)]) d_259_22 (fun _ => rfl) ?_
      refine rr_nx (pc' := 24) (al' := [some (.ref 146), some (.int (nI t)), some (.int (nI 2)), some (.int (nI w)), none, none, none]) (st' := [.int (nI 2), .int (nI w)]) d_259_23 (fun _ => rfl) ?_
      refine rn_ic (v := 2) d_259_24 (by decide) ?_
      refine rn_cne (t := 33) d_259_25 (by decide) (by first | omega | assumption | exact cu_36 (by omega) (cu_lt (by omega) (by omega))) (by first | omega | assumption | exact cu_36 (by omega) (cu_lt (by omega) (by omega))) (fun c25 => ?_) (fun c25 => ?_)
      · omega
      · refine rn_bp (v := 6) d_259_28 (by decide) ?_
        refine rr_nx (pc' := 34) (al' := [some (.ref 146), some (.int (nI t)), some (.int (nI 2)), some (.int (nI w)), none, none, none]) (st' := [.int (nI 6), .int (nI w)]) d_259_30 (fun _ => rfl) ?_
        refine rn_cge (t := 194) d_259_34 (by decide) (by first | omega | assumption | exact cu_36 (by omega) (cu_lt (by omega) (by omega))) (by first | omega | assumption | exact cu_36 (by omega) (cu_lt (by omega) (by omega))) (fun c34 => ?_) (fun c34 => ?_)
        · omega
        · refine rn_ic (v := 0) d_259_37 (by decide) ?_
          refine rr_nx (pc' := 40) (al' := [some (.ref 146), some (.int (nI t)), some (.int (nI 2)), some (.int (nI w)), some (.int (nI 0)), none, none]) (st' := []) d_259_38 (fun _ => rfl) ?_
          refine rr_upw (al := fun k u_ => [some (.ref 146), some (.int (nI t)), some (.int (nI 2)), some (.int (nI w)), some (.int (nI k)), none, none]) (G := fun k u_ => u_.2.2.1) (B := fun k u_ => u_.2.2.2) (P := fun k u_ => u_.2.2.1 6 = nI n ∧ u_.2.2.1 38 = nI u_.1 ∧ u_.1 ≤ 1 ∧ Gsm g u_.2.2.1 ∧ Ksm A u_.2.2.2 ∧ (u_.1 = 1 → ∀ q, q < n * n → u_.2.2.2 19 q = nI (u_.2.1 q) ∧ u_.2.1 q < n) ∧ MinS (n * n) (fun t => NmK n c w t ∨ ∃ k_, k_ < k ∧ FK n c w k_ t) u_.1 u_.2.1) (n := n * n) (fun k u_ hk pk ihk => ?_) (fun u_ pk => ?_) 0 w_ (by omega) (⟨pw.1, pw.2.1, pw.2.2.1, pw.2.2.2.1, pw.2.2.2.2.1, pw.2.2.2.2.2.1, Min_iff pw.2.2.2.2.2.2 Nm_0⟩)
          · show RR _ _ 40 [some (.ref 146), some (.int (nI t)), some (.int (nI 2)), some (.int (nI w)), some (.int (nI k)), none, none] [] u_.2.2.1 u_.2.2.2 _
            have hdk := dm_dl hk
            have hmk := dm_ml hk
            have hlI : Lat n (isN n (cjN w n c) (k / n) (k % n)) := isN_lat hlC hdk hmk
            have hg6 : upd (upd u_.2.2.1 6 (nI n)) 8 (nI n) 6 = nI n := by rw [pk_un (by decide)]; exact pk_us
            have hA1 : u_.2.2.2 1 = A 1 := pk.2.2.2.2.1 1 (by decide)
            refine rr_nx (pc' := 42) (al' := [some (.ref 146), some (.int (nI t)), some (.int (nI 2)), some (.int (nI w)), some (.int (nI k)), none, none]) (st' := [.int (nI k)]) d_259_40 (fun _ => rfl) ?_
            refine rr_nx (pc' := 43) (al' := [some (.ref 146), some (.int (nI t)), some (.int (nI 2)), some (.int (nI w)), some (.int (nI k)), none, none]) (st' := [.ref 146, .int (nI k)]) d_259_42 (fun _ => rfl) ?_
            refine rr_gn d_259_43 mo_259 fl_127 rfl (by first | exact pk.1 | exact pw.1 | exact hg6 | exact pk_us) ?_
            refine rr_nx (pc' := 47) (al' := [some (.ref 146), some (.int (nI t)), some (.int (nI 2)), some (.int (nI w)), some (.int (nI k)), none, none]) (st' := [.ref 146, .int (nI n), .int (nI k)]) d_259_46 (fun _ => rfl) ?_
            refine rr_gn d_259_47 mo_259 fl_127 rfl (by first | exact pk.1 | exact pw.1 | exact hg6 | exact pk_us) ?_
            refine rn_mul d_259_50  ?_
            refine rn_cge (t := 188) d_259_51 (by decide) (by first | omega | assumption | exact cu_36 (by omega) (cu_lt (by omega) (by omega))) (by first | omega | assumption | exact cu_36 (by omega) (cu_lt (by omega) (by omega))) (fun c51 => ?_) (fun c51 => ?_)
            · omega
            · refine rr_nx (pc' := 55) (al' := [some (.ref 146), some (.int (nI t)), some (.int (nI 2)), some (.int (nI w)), some (.int (nI k)), none, none]) (st' := [.ref 146]) d_259_54 (fun _ => rfl) ?_
              refine rr_nx (pc' := 56) (al' := [some (.ref 146), some (.int (nI t)), some (.int (nI 2)), some (.int (nI w)), some (.int (nI k)), none, none]) (st' := [.int (nI t), .ref 146]) d_259_55 (fun _ => rfl) ?_
              refine rr_pv (as := [.int (nI t)]) (al0 := [some (.ref 146), some (.int (nI t)), none]) (r := []) d_259_56 mo_259 ml_248 mz_208 rfl rfl rfl (Nat.le_of_ble_eq_true rfl) (s_lays (n := n) ht6 hn6 (by first | exact hord | (rw [hA1]; exact hord))) ?_
              obtain ⟨wl56, hwl56⟩ : ∃ w_, w_ = rf_f (fun q => u_.2.2.2 1 (37 * t + 1 + q)) (u_.2.2.2 4) (n * n) := ⟨_, rfl⟩
              rw [← hwl56]
              show RR _ _ 59 [some (.ref 146), some (.int (nI t)), some (.int (nI 2)), some (.int (nI w)), some (.int (nI k)), none, none] [] (upd u_.2.2.1 6 (nI n)) (rf_u u_.2.2.2 4 wl56) _
              refine rr_nx (pc' := 60) (al' := [some (.ref 146), some (.int (nI t)), some (.int (nI 2)), some (.int (nI w)), some (.int (nI k)), none, none]) (st' := [.ref 146]) d_259_59 (fun _ => rfl) ?_
              refine rr_nx (pc' := 61) (al' := [some (.ref 146), some (.int (nI t)), some (.int (nI 2)), some (.int (nI w)), some (.int (nI k)), none, none]) (st' := [.int (nI w), .ref 146]) d_259_60 (fun _ => rfl) ?_
              refine rr_cv (as := [.int (nI w)]) (al0 := [some (.ref 146), some (.int (nI w)), none, none, none]) (r := []) d_259_61 mo_259 ml_267 mz_231 rfl rfl rfl (rr_wk (Nat.le_of_ble_eq_true rfl) (s_conjugates ⟨pk_us, hn6, fun q hq => ⟨by rw [rf_u_s, hwl56, rf_f_in hq, hA1]; exact hcl q hq, hl.1 q hq⟩⟩ hl (by omega))) (fun v1 g1 A1 h1 => ?_)
              obtain ⟨rfl, rfl, w61, rfl, hw61⟩ := h1
              show RR _ _ 64 [some (.ref 146), some (.int (nI t)), some (.int (nI 2)), some (.int (nI w)), some (.int (nI k)), none, none] [] (upd (upd u_.2.2.1 6 (nI n)) 8 (nI n)) (rf_u (rf_u u_.2.2.2 4 wl56) 5 w61) _
              refine rn_ic (v := 0) d_259_64 (by decide) ?_
              refine rr_nx (pc' := 67) (al' := [some (.ref 146), some (.int (nI t)), some (.int (nI 2)), some (.int (nI w)), some (.int (nI k)), some (.int (nI 0)), none]) (st' := []) d_259_65 (fun _ => rfl) ?_
              refine rr_A (show (rf_u (rf_u u_.2.2.2 4 wl56) 5 w61) = (rf_u (rf_u u_.2.2.2 5 w61) 4 wl56) by exact rf_sw (by decide)) ?_
              refine rr_upw (al := fun y w4 => [some (.ref 146), some (.int (nI t)), some (.int (nI 2)), some (.int (nI w)), some (.int (nI k)), some (.int (nI y)), none]) (G := fun y w4 => (upd (upd u_.2.2.1 6 (nI n)) 8 (nI n))) (B := fun y w4 => (rf_u (rf_u u_.2.2.2 5 w61) 4 w4)) (P := fun y w4 => ∀ q, q < y → w4 q = nI ((cjN w n c) q)) (n := n * n) (fun y w4 hy py ihy => ?_) (fun w4 py => ?_) 0 wl56 (by omega) (all_0)
              · show RR _ _ 67 [some (.ref 146), some (.int (nI t)), some (.int (nI 2)), some (.int (nI w)), some (.int (nI k)), some (.int (nI y)), none] [] (upd (upd u_.2.2.1 6 (nI n)) 8 (nI n)) (rf_u (rf_u u_.2.2.2 5 w61) 4 w4) _
                refine rr_nx (pc' := 69) (al' := [some (.ref 146), some (.int (nI t)), some (.int (nI 2)), some (.int (nI w)), some (.int (nI k)), some (.int (nI y)), none]) (st' := [.int (nI y)]) d_259_67 (fun _ => rfl) ?_
                refine rr_nx (pc' := 70) (al' := [some (.ref 146), some (.int (nI t)), some (.int (nI 2)), some (.int (nI w)), some (.int (nI k)), some (.int (nI y)), none]) (st' := [.ref 146, .int (nI y)]) d_259_69 (fun _ => rfl) ?_
                refine rr_gf (v := .int (nI n)) d_259_70 mo_259 fl_127 rfl ?_
                refine rr_nx (pc' := 74) (al' := [some (.ref 146), some (.int (nI t)), some (.int (nI 2)), some (.int (nI w)), some (.int (nI k)), some (.int (nI y)), none]) (st' := [.ref 146, .int (nI n), .int (nI y)]) d_259_73 (fun _ => rfl) ?_
                refine rr_gf (v := .int (nI n)) d_259_74 mo_259 fl_127 rfl ?_
                refine rn_mul d_259_77  ?_
                refine rn_cge (t := 101) d_259_78 (by decide) (by first | omega | assumption | exact cu_36 (by omega) (cu_lt (by omega) (by omega))) (by first | omega | assumption | exact cu_36 (by omega) (cu_lt (by omega) (by omega))) (fun c78 => ?_) (fun c78 => ?_)
                · omega
                · refine rr_nx (pc' := 82) (al' := [some (.ref 146), some (.int (nI t)), some (.int (nI 2)), some (.int (nI w)), some (.int (nI k)), some (.int (nI y)), none]) (st' := [.ref 146]) d_259_81 (fun _ => rfl) ?_
                  refine rr_gf (v := .ref (147 + 4)) d_259_82 mo_259 fl_23 rfl ?_
                  refine rr_nx (pc' := 87) (al' := [some (.ref 146), some (.int (nI t)), some (.int (nI 2)), some (.int (nI w)), some (.int (nI k)), some (.int (nI y)), none]) (st' := [.int (nI y), .ref (147 + 4)]) d_259_85 (fun _ => rfl) ?_
                  refine rr_nx (pc' := 88) (al' := [some (.ref 146), some (.int (nI t)), some (.int (nI 2)), some (.int (nI w)), some (.int (nI k)), some (.int (nI y)), none]) (st' := [.ref 146, .int (nI y), .ref (147 + 4)]) d_259_87 (fun _ => rfl) ?_
                  refine rr_gf (v := .ref (147 + 5)) d_259_88 mo_259 fl_26 rfl ?_
                  refine rr_nx (pc' := 93) (al' := [some (.ref 146), some (.int (nI t)), some (.int (nI 2)), some (.int (nI w)), some (.int (nI k)), some (.int (nI y)), none]) (st' := [.int (nI y), .ref (147 + 5), .int (nI y), .ref (147 + 4)]) d_259_91 (fun _ => rfl) ?_
                  refine rr_ia (j := 5) (v := (nI (cjN w n c y))) d_259_93 (by decide) rfl (by decide) (show y < 36 by first | omega | assumption | exact cu_36 (by omega) (cu_lt (by omega) (by omega))) (hw61 y hy) ?_
                  refine rr_iS (j := 4) (A1 := (rf_u (rf_u u_.2.2.2 5 w61) 4 (upd w4 y (nI (cjN w n c y))))) d_259_94 (by decide) rfl (by decide) (show y < 36 by first | omega | assumption | exact cu_36 (by omega) (cu_lt (by omega) (by omega))) rf_uw ?_
                  refine rn_inc d_259_95 rfl rfl ?_
                  show RR _ _ 98 [some (.ref 146), some (.int (nI t)), some (.int (nI 2)), some (.int (nI w)), some (.int (nI k)), some (.int (nI (y + 1))), none] [] (upd (upd u_.2.2.1 6 (nI n)) 8 (nI n)) (rf_u (rf_u u_.2.2.2 5 w61) 4 (upd w4 y (nI (cjN w n c y)))) _
                  refine rr_nx (pc' := 67) (al' := [some (.ref 146), some (.int (nI t)), some (.int (nI 2)), some (.int (nI w)), some (.int (nI k)), some (.int (nI (y + 1))), none]) (st' := []) d_259_98 (fun _ => rfl) ?_
                  exact ihy (upd w4 y (nI (cjN w n c y))) (up_all (f := fun q => nI ((cjN w n c) q)) py rfl)
              · show RR _ _ 67 [some (.ref 146), some (.int (nI t)), some (.int (nI 2)), some (.int (nI w)), some (.int (nI k)), some (.int (nI (n * n))), none] [] (upd (upd u_.2.2.1 6 (nI n)) 8 (nI n)) (rf_u (rf_u u_.2.2.2 5 w61) 4 w4) _
                refine rr_nx (pc' := 69) (al' := [some (.ref 146), some (.int (nI t)), some (.int (nI 2)), some (.int (nI w)), some (.int (nI k)), some (.int (nI (n * n))), none]) (st' := [.int (nI (n * n))]) d_259_67 (fun _ => rfl) ?_
                refine rr_nx (pc' := 70) (al' := [some (.ref 146), some (.int (nI t)), some (.int (nI 2)), some (.int (nI w)), some (.int (nI k)), some (.int (nI (n * n))), none]) (st' := [.ref 146, .int (nI (n * n))]) d_259_69 (fun _ => rfl) ?_
                refine rr_gf (v := .int (nI n)) d_259_70 mo_259 fl_127 rfl ?_
                refine rr_nx (pc' := 74) (al' := [some (.ref 146), some (.int (nI t)), some (.int (nI 2)), some (.int (nI w)), some (.int (nI k)), some (.int (nI (n * n))), none]) (st' := [.ref 146, .int (nI n), .int (nI (n * n))]) d_259_73 (fun _ => rfl) ?_
                refine rr_gf (v := .int (nI n)) d_259_74 mo_259 fl_127 rfl ?_
                refine rn_mul d_259_77  ?_
                refine rn_cge (t := 101) d_259_78 (by decide) (by first | omega | assumption | exact cu_36 (by omega) (cu_lt (by omega) (by omega))) (by first | omega | assumption | exact cu_36 (by omega) (cu_lt (by omega) (by omega))) (fun c78 => ?_) (fun c78 => ?_)
                · refine rr_nx (pc' := 102) (al' := [some (.ref 146), some (.int (nI t)), some (.int (nI 2)), some (.int (nI w)), some (.int (nI k)), some (.int (nI (n * n))), none]) (st' := [.ref 146]) d_259_101 (fun _ => rfl) ?_
                  refine rr_nx (pc' := 104) (al' := [some (.ref 146), some (.int (nI t)), some (.int (nI 2)), some (.int (nI w)), some (.int (nI k)), some (.int (nI (n * n))), none]) (st' := [.int (nI k), .ref 146]) d_259_102 (fun _ => rfl) ?_
                  refine rr_nx (pc' := 105) (al' := [some (.ref 146), some (.int (nI t)), some (.int (nI 2)), some (.int (nI w)), some (.int (nI k)), some (.int (nI (n * n))), none]) (st' := [.ref 146, .int (nI k), .ref 146]) d_259_104 (fun _ => rfl) ?_
                  refine rr_gf (v := .int (nI n)) d_259_105 mo_259 fl_127 rfl ?_
                  refine rn_div d_259_108 (by omega) (by omega) (by omega) ?_
                  refine rr_nx (pc' := 111) (al' := [some (.ref 146), some (.int (nI t)), some (.int (nI 2)), some (.int (nI w)), some (.int (nI k)), some (.int (nI (n * n))), none]) (st' := [.int (nI k), .int (nI (k / n)), .ref 146]) d_259_109 (fun _ => rfl) ?_
                  refine rr_nx (pc' := 112) (al' := [some (.ref 146), some (.int (nI t)), some (.int (nI 2)), some (.int (nI w)), some (.int (nI k)), some (.int (nI (n * n))), none]) (st' := [.ref 146, .int (nI k), .int (nI (k / n)), .ref 146]) d_259_111 (fun _ => rfl) ?_
                  refine rr_gf (v := .int (nI n)) d_259_112 mo_259 fl_127 rfl ?_
                  refine rn_rem d_259_115 (by omega) (by omega) (by omega) ?_
                  refine rr_pv (as := [.int (nI (k / n)), .int (nI (k % n))]) (al0 := [some (.ref 146), some (.int (nI (k / n))), some (.int (nI (k % n)))]) (r := []) d_259_116 mo_259 ml_130 mz_213 rfl rfl rfl (Nat.le_of_ble_eq_true rfl) (s_times ⟨hg6, hn6, fun q hq => ⟨by rw [rf_u_s]; exact py q hq, hlC.1 q hq⟩⟩ (by omega) (by omega)) ?_
                  rw [show n * (k / n) + k % n = k from dm_q]
                  show RR _ _ 119 [some (.ref 146), some (.int (nI t)), some (.int (nI 2)), some (.int (nI w)), some (.int (nI k)), some (.int (nI (n * n))), none] [.int (nI (cjN w n c k))] (upd (upd u_.2.2.1 6 (nI n)) 8 (nI n)) (rf_u (rf_u u_.2.2.2 5 w61) 4 w4) _
                  have b116 : cjN w n c k < n := hlC.1 k hk
                  refine rr_nx (pc' := 121) (al' := [some (.ref 146), some (.int (nI t)), some (.int (nI 2)), some (.int (nI w)), some (.int (nI k)), some (.int (nI (cjN w n c k))), none]) (st' := []) d_259_119 (fun _ => rfl) ?_
                  refine rr_nx (pc' := 122) (al' := [some (.ref 146), some (.int (nI t)), some (.int (nI 2)), some (.int (nI w)), some (.int (nI k)), some (.int (nI (cjN w n c k))), none]) (st' := [.ref 146]) d_259_121 (fun _ => rfl) ?_
                  refine rr_nx (pc' := 124) (al' := [some (.ref 146), some (.int (nI t)), some (.int (nI 2)), some (.int (nI w)), some (.int (nI k)), some (.int (nI (cjN w n c k))), none]) (st' := [.int (nI k), .ref 146]) d_259_122 (fun _ => rfl) ?_
                  refine rr_nx (pc' := 125) (al' := [some (.ref 146), some (.int (nI t)), some (.int (nI 2)), some (.int (nI w)), some (.int (nI k)), some (.int (nI (cjN w n c k))), none]) (st' := [.ref 146, .int (nI k), .ref 146]) d_259_124 (fun _ => rfl) ?_
                  refine rr_gf (v := .int (nI n)) d_259_125 mo_259 fl_127 rfl ?_
                  refine rn_div d_259_128 (by omega) (by omega) (by omega) ?_
                  refine rr_nx (pc' := 131) (al' := [some (.ref 146), some (.int (nI t)), some (.int (nI 2)), some (.int (nI w)), some (.int (nI k)), some (.int (nI (cjN w n c k))), none]) (st' := [.int (nI k), .int (nI (k / n)), .ref 146]) d_259_129 (fun _ => rfl) ?_
                  refine rr_nx (pc' := 132) (al' := [some (.ref 146), some (.int (nI t)), some (.int (nI 2)), some (.int (nI w)), some (.int (nI k)), some (.int (nI (cjN w n c k))), none]) (st' := [.ref 146, .int (nI k), .int (nI (k / n)), .ref 146]) d_259_131 (fun _ => rfl) ?_
                  refine rr_gf (v := .int (nI n)) d_259_132 mo_259 fl_127 rfl ?_
                  refine rn_rem d_259_135 (by omega) (by omega) (by omega) ?_
                  refine rr_cv (as := [.int (nI (k / n)), .int (nI (k % n))]) (al0 := [some (.ref 146), some (.int (nI (k / n))), some (.int (nI (k % n))), none, none]) (r := []) d_259_136 mo_259 ml_263 mz_229 rfl rfl rfl (rr_wk (Nat.le_of_ble_eq_true rfl) (s_isotopes ⟨hg6, hn6, fun q hq => ⟨by rw [rf_u_s]; exact py q hq, hlC.1 q hq⟩⟩ hlC (by omega) (by omega))) (fun v1 g1 A1 h1 => ?_)
                  obtain ⟨rfl, rfl, w136, rfl, hw136⟩ := h1
                  rw [upd_u, rf_sw (by decide), rf_u_u]
                  show RR _ _ 139 [some (.ref 146), some (.int (nI t)), some (.int (nI 2)), some (.int (nI w)), some (.int (nI k)), some (.int (nI (cjN w n c k))), none] [] (upd (upd u_.2.2.1 6 (nI n)) 8 (nI n)) (rf_u (rf_u u_.2.2.2 5 w136) 4 w4) _
                  refine rn_ic (v := 0) d_259_139 (by decide) ?_
                  refine rr_nx (pc' := 142) (al' := [some (.ref 146), some (.int (nI t)), some (.int (nI 2)), some (.int (nI w)), some (.int (nI k)), some (.int (nI (cjN w n c k))), some (.int (nI 0))]) (st' := []) d_259_140 (fun _ => rfl) ?_
                  refine rr_upw (al := fun y2 w44 => [some (.ref 146), some (.int (nI t)), some (.int (nI 2)), some (.int (nI w)), some (.int (nI k)), some (.int (nI (cjN w n c k))), some (.int (nI y2))]) (G := fun y2 w44 => (upd (upd u_.2.2.1 6 (nI n)) 8 (nI n))) (B := fun y2 w44 => (rf_u (rf_u u_.2.2.2 5 w136) 4 w44)) (P := fun y2 w44 => ∀ q, q < y2 → w44 q = nI ((isN n (cjN w n c) (k / n) (k % n)) q)) (n := n * n) (fun y2 w44 hy2 py2 ihy2 => ?_) (fun w44 py2 => ?_) 0 w4 (by omega) (all_0)
                  · show RR _ _ 142 [some (.ref 146), some (.int (nI t)), some (.int (nI 2)), some (.int (nI w)), some (.int (nI k)), some (.int (nI (cjN w n c k))), some (.int (nI y2))] [] (upd (upd u_.2.2.1 6 (nI n)) 8 (nI n)) (rf_u (rf_u u_.2.2.2 5 w136) 4 w44) _
                    refine rr_nx (pc' := 144) (al' := [some (.ref 146), some (.int (nI t)), some (.int (nI 2)), some (.int (nI w)), some (.int (nI k)), some (.int (nI (cjN w n c k))), some (.int (nI y2))]) (st' := [.int (nI y2)]) d_259_142 (fun _ => rfl) ?_
                    refine rr_nx (pc' := 145) (al' := [some (.ref 146), some (.int (nI t)), some (.int (nI 2)), some (.int (nI w)), some (.int (nI k)), some (.int (nI (cjN w n c k))), some (.int (nI y2))]) (st' := [.ref 146, .int (nI y2)]) d_259_144 (fun _ => rfl) ?_
                    refine rr_gf (v := .int (nI n)) d_259_145 mo_259 fl_127 rfl ?_
                    refine rr_nx (pc' := 149) (al' := [some (.ref 146), some (.int (nI t)), some (.int (nI 2)), some (.int (nI w)), some (.int (nI k)), some (.int (nI (cjN w n c k))), some (.int (nI y2))]) (st' := [.ref 146, .int (nI n), .int (nI y2)]) d_259_148 (fun _ => rfl) ?_
                    refine rr_gf (v := .int (nI n)) d_259_149 mo_259 fl_127 rfl ?_
                    refine rn_mul d_259_152  ?_
                    refine rn_cge (t := 176) d_259_153 (by decide) (by first | omega | assumption | exact cu_36 (by omega) (cu_lt (by omega) (by omega))) (by first | omega | assumption | exact cu_36 (by omega) (cu_lt (by omega) (by omega))) (fun c153 => ?_) (fun c153 => ?_)
                    · omega
                    · refine rr_nx (pc' := 157) (al' := [some (.ref 146), some (.int (nI t)), some (.int (nI 2)), some (.int (nI w)), some (.int (nI k)), some (.int (nI (cjN w n c k))), some (.int (nI y2))]) (st' := [.ref 146]) d_259_156 (fun _ => rfl) ?_
                      refine rr_gf (v := .ref (147 + 4)) d_259_157 mo_259 fl_23 rfl ?_
                      refine rr_nx (pc' := 162) (al' := [some (.ref 146), some (.int (nI t)), some (.int (nI 2)), some (.int (nI w)), some (.int (nI k)), some (.int (nI (cjN w n c k))), some (.int (nI y2))]) (st' := [.int (nI y2), .ref (147 + 4)]) d_259_160 (fun _ => rfl) ?_
                      refine rr_nx (pc' := 163) (al' := [some (.ref 146), some (.int (nI t)), some (.int (nI 2)), some (.int (nI w)), some (.int (nI k)), some (.int (nI (cjN w n c k))), some (.int (nI y2))]) (st' := [.ref 146, .int (nI y2), .ref (147 + 4)]) d_259_162 (fun _ => rfl) ?_
                      refine rr_gf (v := .ref (147 + 5)) d_259_163 mo_259 fl_26 rfl ?_
                      refine rr_nx (pc' := 168) (al' := [some (.ref 146), some (.int (nI t)), some (.int (nI 2)), some (.int (nI w)), some (.int (nI k)), some (.int (nI (cjN w n c k))), some (.int (nI y2))]) (st' := [.int (nI y2), .ref (147 + 5), .int (nI y2), .ref (147 + 4)]) d_259_166 (fun _ => rfl) ?_
                      refine rr_ia (j := 5) (v := (nI ((isN n (cjN w n c) (k / n) (k % n)) y2))) d_259_168 (by decide) rfl (by decide) (show y2 < 36 by first | omega | assumption | exact cu_36 (by omega) (cu_lt (by omega) (by omega))) (hw136 y2 hy2) ?_
                      refine rr_iS (j := 4) (A1 := (rf_u (rf_u u_.2.2.2 5 w136) 4 (upd w44 y2 (nI ((isN n (cjN w n c) (k / n) (k % n)) y2))))) d_259_169 (by decide) rfl (by decide) (show y2 < 36 by first | omega | assumption | exact cu_36 (by omega) (cu_lt (by omega) (by omega))) rf_uw ?_
                      refine rn_inc d_259_170 rfl rfl ?_
                      show RR _ _ 173 [some (.ref 146), some (.int (nI t)), some (.int (nI 2)), some (.int (nI w)), some (.int (nI k)), some (.int (nI (cjN w n c k))), some (.int (nI (y2 + 1)))] [] (upd (upd u_.2.2.1 6 (nI n)) 8 (nI n)) (rf_u (rf_u u_.2.2.2 5 w136) 4 (upd w44 y2 (nI ((isN n (cjN w n c) (k / n) (k % n)) y2)))) _
                      refine rr_nx (pc' := 142) (al' := [some (.ref 146), some (.int (nI t)), some (.int (nI 2)), some (.int (nI w)), some (.int (nI k)), some (.int (nI (cjN w n c k))), some (.int (nI (y2 + 1)))]) (st' := []) d_259_173 (fun _ => rfl) ?_
                      exact ihy2 (upd w44 y2 (nI ((isN n (cjN w n c) (k / n) (k % n)) y2))) (up_all (f := fun q => nI ((isN n (cjN w n c) (k / n) (k % n)) q)) py2 rfl)
                  · show RR _ _ 142 [some (.ref 146), some (.int (nI t)), some (.int (nI 2)), some (.int (nI w)), some (.int (nI k)), some (.int (nI (cjN w n c k))), some (.int (nI (n * n)))] [] (upd (upd u_.2.2.1 6 (nI n)) 8 (nI n)) (rf_u (rf_u u_.2.2.2 5 w136) 4 w44) _
                    refine rr_nx (pc' := 144) (al' := [some (.ref 146), some (.int (nI t)), some (.int (nI 2)), some (.int (nI w)), some (.int (nI k)), some (.int (nI (cjN w n c k))), some (.int (nI (n * n)))]) (st' := [.int (nI (n * n))]) d_259_142 (fun _ => rfl) ?_
                    refine rr_nx (pc' := 145) (al' := [some (.ref 146), some (.int (nI t)), some (.int (nI 2)), some (.int (nI w)), some (.int (nI k)), some (.int (nI (cjN w n c k))), some (.int (nI (n * n)))]) (st' := [.ref 146, .int (nI (n * n))]) d_259_144 (fun _ => rfl) ?_
                    refine rr_gf (v := .int (nI n)) d_259_145 mo_259 fl_127 rfl ?_
                    refine rr_nx (pc' := 149) (al' := [some (.ref 146), some (.int (nI t)), some (.int (nI 2)), some (.int (nI w)), some (.int (nI k)), some (.int (nI (cjN w n c k))), some (.int (nI (n * n)))]) (st' := [.ref 146, .int (nI n), .int (nI (n * n))]) d_259_148 (fun _ => rfl) ?_
                    refine rr_gf (v := .int (nI n)) d_259_149 mo_259 fl_127 rfl ?_
                    refine rn_mul d_259_152  ?_
                    refine rn_cge (t := 176) d_259_153 (by decide) (by first | omega | assumption | exact cu_36 (by omega) (cu_lt (by omega) (by omega))) (by first | omega | assumption | exact cu_36 (by omega) (cu_lt (by omega) (by omega))) (fun c153 => ?_) (fun c153 => ?_)
                    · refine rr_nx (pc' := 177) (al' := [some (.ref 146), some (.int (nI t)), some (.int (nI 2)), some (.int (nI w)), some (.int (nI k)), some (.int (nI (cjN w n c k))), some (.int (nI (n * n)))]) (st' := [.ref 146]) d_259_176 (fun _ => rfl) ?_
                      refine rr_nx (pc' := 179) (al' := [some (.ref 146), some (.int (nI t)), some (.int (nI 2)), some (.int (nI w)), some (.int (nI k)), some (.int (nI (cjN w n c k))), some (.int (nI (n * n)))]) (st' := [.int (nI (cjN w n c k)), .ref 146]) d_259_177 (fun _ => rfl) ?_
                      refine rr_cv (as := [.int (nI (cjN w n c k))]) (al0 := [some (.ref 146), some (.int (nI (cjN w n c k))), none, none, none, none]) (r := []) d_259_179 mo_259 ml_316 mz_260 rfl rfl rfl (rr_wk (Nat.le_of_ble_eq_true rfl) (s_renamingsZ (h := u_.1) (b := u_.2.1) (F := fun t => NmK n c w t ∨ ∃ k_, k_ < k ∧ FK n c w k_ t) ⟨hg6, hn6, fun q hq => ⟨by rw [rf_u_s]; exact py2 q hq, hlI.1 q hq⟩⟩ hlI (by omega) (by rw [pk_un (by decide), pk_un (by decide)]; exact pk.2.1) pk.2.2.1 (fun e q hq => by rw [rf_u_n (by decide), rf_u_n (by decide)]; exact pk.2.2.2.2.2.1 e q hq) pk.2.2.2.2.2.2)) (fun v1 g2 A2 h1 => ?_)
                      obtain ⟨rfl, h2, b2, k1, k2, k3, k4, k5, k6, k7, k8⟩ := h1
                      show RR _ _ 182 [some (.ref 146), some (.int (nI t)), some (.int (nI 2)), some (.int (nI w)), some (.int (nI k)), some (.int (nI (cjN w n c k))), some (.int (nI (n * n)))] [] g2 A2 _
                      refine rn_inc d_259_182 rfl rfl ?_
                      show RR _ _ 185 [some (.ref 146), some (.int (nI t)), some (.int (nI 2)), some (.int (nI w)), some (.int (nI (k + 1))), some (.int (nI (cjN w n c k))), some (.int (nI (n * n)))] [] g2 A2 _
                      refine rr_nx (pc' := 40) (al' := [some (.ref 146), some (.int (nI t)), some (.int (nI 2)), some (.int (nI w)), some (.int (nI (k + 1))), some (.int (nI (cjN w n c k))), some (.int (nI (n * n)))]) (st' := []) d_259_185 (fun _ => rfl) ?_
                      refine rr_dr (al1 := [some (.ref 146), some (.int (nI t)), some (.int (nI 2)), some (.int (nI w)), some (.int (nI (k + 1))), none, none]) (le_s (le_s (le_s (le_s (le_s (le_d rfl (le_d rfl (le_n)))))))) ?_
                      exact ihk (h2, b2, g2, A2) (⟨k1, k2, k3, ((pk.2.2.2.1.u (by decide)).u (by decide)).tr k4, ((pk.2.2.2.2.1.u (by decide)).u (by decide)).tr k5, k7, Min_iff k8 Nm_s⟩)
                    · omega
                · omega
          · show RR _ _ 40 [some (.ref 146), some (.int (nI t)), some (.int (nI 2)), some (.int (nI w)), some (.int (nI (n * n))), none, none] [] u_.2.2.1 u_.2.2.2 _
            refine rr_nx (pc' := 42) (al' := [some (.ref 146), some (.int (nI t)), some (.int (nI 2)), some (.int (nI w)), some (.int (nI (n * n))), none, none]) (st' := [.int (nI (n * n))]) d_259_40 (fun _ => rfl) ?_
            refine rr_nx (pc' := 43) (al' := [some (.ref 146), some (.int (nI t)), some (.int (nI 2)), some (.int (nI w)), some (.int (nI (n * n))), none, none]) (st' := [.ref 146, .int (nI (n * n))]) d_259_42 (fun _ => rfl) ?_
            refine rr_gn d_259_43 mo_259 fl_127 rfl (by first | exact pk.1 | exact pw.1 | exact hg6 | exact pk_us) ?_
            refine rr_nx (pc' := 47) (al' := [some (.ref 146), some (.int (nI t)), some (.int (nI 2)), some (.int (nI w)), some (.int (nI (n * n))), none, none]) (st' := [.ref 146, .int (nI n), .int (nI (n * n))]) d_259_46 (fun _ => rfl) ?_
            refine rr_gn d_259_47 mo_259 fl_127 rfl (by first | exact pk.1 | exact pw.1 | exact hg6 | exact pk_us) ?_
            refine rn_mul d_259_50  ?_
            refine rn_cge (t := 188) d_259_51 (by decide) (by first | omega | assumption | exact cu_36 (by omega) (cu_lt (by omega) (by omega))) (by first | omega | assumption | exact cu_36 (by omega) (cu_lt (by omega) (by omega))) (fun c51 => ?_) (fun c51 => ?_)
            · refine rn_inc d_259_188 rfl rfl ?_
              show RR _ _ 191 [some (.ref 146), some (.int (nI t)), some (.int (nI 2)), some (.int (nI (w + 1))), some (.int (nI (n * n))), none, none] [] u_.2.2.1 u_.2.2.2 _
              refine rr_nx (pc' := 22) (al' := [some (.ref 146), some (.int (nI t)), some (.int (nI 2)), some (.int (nI (w + 1))), some (.int (nI (n * n))), none, none]) (st' := []) d_259_191 (fun _ => rfl) ?_
              refine rr_dr (al1 := [some (.ref 146), some (.int (nI t)), some (.int (nI 2)), some (.int (nI (w + 1))), none, none, none]) (le_s (le_s (le_s (le_s (le_d rfl (le_s (le_s (le_n)))))))) ?_
              exact ihw u_ (⟨pk.1, pk.2.1, pk.2.2.1, pk.2.2.2.1, pk.2.2.2.2.1, pk.2.2.2.2.2.1, Min_iff pk.2.2.2.2.2.2 Nm_w⟩)
            · omega
    · show RR _ _ 22 [some (.ref 146), some (.int (nI t)), some (.int (nI 2)), some (.int (nI 6)), none, none, none] [] w_.2.2.1 w_.2.2.2 _
      refine rr_nx (pc' := 23) (al' := [some (.ref 146), some (.int (nI t)), some (.int (nI 2)), some (.int (nI 6)), none, none, none]) (st' := [.int (nI 6)]) d_259_22 (fun _ => rfl) ?_
      refine rr_nx (pc' := 24) (al' := [some (.ref 146), some (.int (nI t)), some (.int (nI 2)), some (.int (nI 6)), none, none, none]) (st' := [.int (nI 2), .int (nI 6)]) d_259_23 (fun _ => rfl) ?_
      refine rn_ic (v := 2) d_259_24 (by decide) ?_
      refine rn_cne (t := 33) d_259_25 (by decide) (by first | omega | assumption | exact cu_36 (by omega) (cu_lt (by omega) (by omega))) (by first | omega | assumption | exact cu_36 (by omega) (cu_lt (by omega) (by omega))) (fun c25 => ?_) (fun c25 => ?_)
      · omega
      · refine rn_bp (v := 6) d_259_28 (by decide) ?_
        refine rr_nx (pc' := 34) (al' := [some (.ref 146), some (.int (nI t)), some (.int (nI 2)), some (.int (nI 6)), none, none, none]) (st' := [.int (nI 6), .int (nI 6)]) d_259_30 (fun _ => rfl) ?_
        refine rn_cge (t := 194) d_259_34 (by decide) (by first | omega | assumption | exact cu_36 (by omega) (cu_lt (by omega) (by omega))) (by first | omega | assumption | exact cu_36 (by omega) (cu_lt (by omega) (by omega))) (fun c34 => ?_) (fun c34 => ?_)
        · exact rr_rv d_259_194 mr_259 (by
              obtain ⟨q0, q1⟩ : w_.1 = 1 ∧ MinS (n * n) (NmF 2 n c) 1 w_.2.1 := Min_1 pw.2.2.2.2.2.2 (Nm_ex (l := 2) hl hn1)
              exact ⟨rfl, pw.1, pw.2.2.2.1, pw.2.2.2.2.1, w_.2.1, pw.2.2.2.2.2.1 q0, q1⟩)
        · omega
  · omega
