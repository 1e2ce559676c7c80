/-! Calls: closed, near, apart, automorphisms; printed by wip/whole/gen_c29.py. -/
abbrev ptP (x : Int32) (m : Nat) : Prop := 1 ≤ x.toInt ∧ x.toInt < 2 ^ m
theorem pt_n {x : Int32} {m : Nat} (h : ptP x m) : ∃ p, 1 ≤ p ∧ p < 2 ^ m ∧ x = nI p := by
  obtain ⟨j, hj, e⟩ := in_n (x := x) (m := 2 ^ m) ⟨by have := h.1; omega, by have := h.2; simpa using this⟩
  subst e
  have hlt := Int32.toInt_lt (nI j)
  refine ⟨j, ?_, hj, rfl⟩
  rcases Nat.eq_zero_or_pos j with q | q
  · subst q
    exact absurd h.1 (by decide)
  · exact q
theorem pt_c {x : Int32} {m : Nat} (hm : m ≤ 6) : (0 < x ∧ x < nI (1 * 2 ^ m)) ↔ ptP x m := by
  have h64 : 2 ^ m ≤ 2 ^ 6 := Nat.pow_le_pow_right (by decide) hm
  rw [Int32.lt_iff_toInt_lt, i_ltN (by omega), Nat.one_mul]
  have : ((2 ^ m : Nat) : Int) = (2 : Int) ^ m := by simp
  rw [this]
  exact Iff.rfl
theorem pt_r {x : Int32} {m : Nat} (hm : m ≤ 6) : (nI 1 ≤ x ∧ x ≤ nI (1 * 2 ^ m - 1)) ↔ ptP x m := by
  have h64 : 2 ^ m ≤ 2 ^ 6 := Nat.pow_le_pow_right (by decide) hm
  have h1 : 1 ≤ 2 ^ m := Nat.one_le_two_pow
  rw [i_leN (by decide), i_Nle (by omega), Nat.one_mul]
  unfold ptP
  have : ((2 ^ m : Nat) : Int) = (2 : Int) ^ m := by simp
  rw [← this]
  omega
theorem k_seekGroups {S : CS} {G : Nat → Nat → Value} {B : Nat → Nat → Int32} {J : Nat → Nat → Int64} {R : Nat → Nat → Option Nat} (hS : ShOk S) (hF : FxG G) {a n : Nat} {e : Nat → Nat} (ht : TabAt S G a) (hn : G a 0 = .int (nI n)) (he : TabC B a n e) (hn1 : 1 ≤ n) (hap : a < 133 ∨ 137 ≤ a) : CR 4 78 0 [some (.ref 133), some (.ref a)] [] S G B J R (fun r_ S' G' B' J' R' => r_ = none ∧ S' = S ∧ J' = J ∧ R' = R ∧ FxG G' ∧ Gfr [133, 134] G G' ∧ Bfr [135, 136] B B' ∧ G' 133 0 = .int (nI (nrV n e).1) ∧ G' 133 1 = .int (nI (nrV n e).2)) := by
  by_cases h4 : n = 4
  · subst h4
    exact k_seekGroups4 hS hF ht hn he (tb_134 hS hF) (by decide) hap
  · by_cases h6 : n = 6
    · subst h6
      exact k_seekGroups6 hS hF ht hn he (tb_134 hS hF) (by decide) hap
    · exact k_seekGroupsX hS hF ht hn he (tb_134 hS hF) hn1 hap h4 h6
theorem s_near19 {g : Nat → Int32} {A : Nat → Nat → Int32} {n t u : Nat} {e : Nat → Nat} (hord : A 1 (37 * t) = nI n) (hn1 : 1 ≤ n) (hn6 : n ≤ 6) (hu : u ≤ 1) (ht6 : t < 6) (he : ∀ q, q < n * n → A 1 (37 * t + 1 + q) = nI (e q)) (hE : ∀ q, q < n * n → e q < n) : RR 20 269 19 [some (.ref 146), some (.int (nI t)), some (.int (nI u)), none, none, none, none, none, none, none, none, none, none, none] [] g A (rS (nI (if u = 0 then (nrV n e).1 else (nrV n e).2)) g A) := by
  by_cases h4 : n = 4
  · subst h4
    exact s_near4 hord (by decide) (by decide) hu ht6 he hE
  · by_cases h6 : n = 6
    · subst h6
      exact s_near6 hord (by decide) (by decide) hu ht6 he hE
    · exact s_nearX h4 h6 hord hn1 hn6 hu ht6 he hE
theorem pt_i {p m : Nat} (hm : m ≤ 6) (h1 : 1 ≤ p) (hp : p < 2 ^ m) : ptP (nI p) m := by
  have h64 := le_64 hm hp
  unfold ptP
  rw [nI_toInt (by omega)]
  have : ((2 ^ m : Nat) : Int) = (2 : Int) ^ m := by simp
  rw [← this]
  omega
theorem p_closed_y {S : CS} {G : Nat → Nat → Value} {B : Nat → Nat → Int32} {J : Nat → Nat → Int64} {R : Nat → Nat → Option Nat} {n : Nat} {W : WS} (hW : WC n S G B R W) {j m : Nat} {c : Nat → Nat} (hj : j < 6) (htb : tbK (wK W) j = (m, c)) (h1 : 1 ≤ m) {p : Nat} (hp1 : 1 ≤ p) (hp : p < 2 ^ m) : CR 80 150 0 [some (.ref 2), some (.int (nI j)), some (.int (nI p))] [] S G B J R (fun r S' G' B' J' R' => r = some (.int (nI (clN m c p))) ∧ WC (n + 1) S' G' B' R' W) := by
  have hS := hW.1.1
  have hF := hW.2.1
  have hO := hW.2.2.2.1
  obtain ⟨ta, ka, la, hH, hLk, hl2, hs3, hbd⟩ := hW.2.2.1
  obtain ⟨zt, hzt, ezt⟩ := (hH.2.1 j hj).2
  have ht := hH.ta hj
  have hsh := hH.2.2.2.2.2.2.1 j hj
  rw [show kH (wK W) (kD (wK W)) j = (m, c) from htb] at hsh
  have hok := tb_ok hO hj
  rw [htb] at hok
  have hn : G (ta j) 0 = .int (nI m) := hsh.1
  have hc : TabC B (ta j) m c := hsh.c hok
  have hl : Lat m c := hok.2
  have hm6 : m ≤ 6 := hok.1
  have hyes : hasP (wK W) (nI j) := (has_i hj).mpr (by rw [htb]; exact h1)
  refine cr_nx (pc' := 1) (al' := [some (.ref 2), some (.int (nI j)), some (.int (nI p))]) (st' := [.ref 2]) d_150_0 (fun _ => rfl) ?_
  refine cr_nx (pc' := 2) (al' := [some (.ref 2), some (.int (nI j)), some (.int (nI p))]) (st' := [.int (nI j), .ref 2]) d_150_1 (fun _ => rfl) ?_
  refine cr_pv (b := 2) (as := [.int (nI j)]) (al0 := [some (.ref 2), some (.int (nI j))]) (r := []) d_150_2 cw_150 cm_11_137 cz_126 rfl rfl (hS.i (a := 2) (by decide) (by decide)) (by rw [cw_126]; exact (hS.s (a := 2) (by decide) (by decide) rfl)) (by rw [cw_126]; decide) rfl (Nat.le_of_ble_eq_true rfl) (k_has hS hF hH hO) ?_
  show CR _ _ 5 [some (.ref 2), some (.int (nI j)), some (.int (nI p))] [.int (bI (hasP (wK W) (nI j)))] S G B J R _
  refine cr_beq (t := 24) d_150_5 (by decide) (fun c5 => ?_) (fun c5 => ?_)
  · exact absurd hyes c5
  · refine cr_nx (pc' := 9) (al' := [some (.ref 2), some (.int (nI j)), some (.int (nI p))]) (st' := [.ref 2]) d_150_8 (fun _ => rfl) ?_
    refine cr_gf (v := .ref 3) d_150_9 cw_150 cf_11_10 (hS.i (a := 2) (by decide) (by decide)) (hS.s (a := 2) (by decide) (by decide) rfl) (by decide) (fx_2_0 hF) ?_
    refine cr_gf (v := .ref 4) d_150_12 cw_150 cf_11_140 (hS.i (a := 3) (by decide) (by decide)) (hS.s (a := 3) (by decide) (by decide) rfl) (by decide) (fx_3_0 hF) ?_
    refine cr_nx (pc' := 16) (al' := [some (.ref 2), some (.int (nI j)), some (.int (nI p))]) (st' := [.int (nI j), .ref 4]) d_150_15 (fun _ => rfl) ?_
    refine cr_aa (a := 4) (v := .ref (ta j)) d_150_16 (hS.i (a := 4) (by decide) (by decide)) (by decide) (hS.s (a := 4) (by decide) (by decide) rfl) (by decide) (show j < 6 by first | omega | assumption | exact cu_36 (by omega) (cu_lt (by omega) (by omega))) (show va_rf _ = _ by rw [(hH.2.1 j hj).1]; rfl) ?_
    refine cr_nx (pc' := 18) (al' := [some (.ref 2), some (.int (nI j)), some (.int (nI p))]) (st' := [.int (nI p), .ref (ta j)]) d_150_17 (fun _ => rfl) ?_
    refine cr_pv (b := (ta j)) (as := [.int (nI p)]) (al0 := [some (.ref (ta j)), some (.int (nI p))]) (r := []) d_150_18 cw_150 cm_11_285 cz_108 rfl rfl ht.1 (by rw [cw_108]; exact ht.2.2.1) (by rw [cw_108]; decide) rfl (Nat.le_of_ble_eq_true rfl) (k_hasPart ht hn (nI p) hm6) ?_
    show CR _ _ 21 [some (.ref 2), some (.int (nI j)), some (.int (nI p))] [.int (bI (0 < nI p ∧ nI p < nI (1 * 2 ^ m)))] S G B J R _
    refine cr_bne (t := 26) d_150_21 (by decide) (fun c21 => ?_) (fun c21 => ?_)
    · refine cr_nx (pc' := 27) (al' := [some (.ref 2), some (.int (nI j)), some (.int (nI p))]) (st' := [.ref 2]) d_150_26 (fun _ => rfl) ?_
      refine cr_gf (v := .ref 3) d_150_27 cw_150 cf_11_10 (hS.i (a := 2) (by decide) (by decide)) (hS.s (a := 2) (by decide) (by decide) rfl) (by decide) (fx_2_0 hF) ?_
      refine cr_gf (v := .ref 4) d_150_30 cw_150 cf_11_140 (hS.i (a := 3) (by decide) (by decide)) (hS.s (a := 3) (by decide) (by decide) rfl) (by decide) (fx_3_0 hF) ?_
      refine cr_nx (pc' := 34) (al' := [some (.ref 2), some (.int (nI j)), some (.int (nI p))]) (st' := [.int (nI j), .ref 4]) d_150_33 (fun _ => rfl) ?_
      refine cr_aa (a := 4) (v := .ref (ta j)) d_150_34 (hS.i (a := 4) (by decide) (by decide)) (by decide) (hS.s (a := 4) (by decide) (by decide) rfl) (by decide) (show j < 6 by first | omega | assumption | exact cu_36 (by omega) (cu_lt (by omega) (by omega))) (show va_rf _ = _ by rw [(hH.2.1 j hj).1]; rfl) ?_
      refine cr_nx (pc' := 36) (al' := [some (.ref 2), some (.int (nI j)), some (.int (nI p))]) (st' := [.int (nI p), .ref (ta j)]) d_150_35 (fun _ => rfl) ?_
      refine cr_ps (as := [.ref (ta j), .int (nI p)]) (al0 := [some (.ref (ta j)), some (.int (nI p)), none, none]) (r := []) d_150_36 cw_150 cm_11_288 (by decide) cz_63 rfl rfl rfl (Nat.le_of_ble_eq_true rfl) (k_leastClosed ht hn hc hp) ?_
      show CR _ _ 39 [some (.ref 2), some (.int (nI j)), some (.int (nI p))] [.int (nI (clN m c p))] S G B J R _
      exact cr_ri d_150_39 cx_150 rfl ⟨rfl, hW.mo⟩
    · exact absurd ((pt_c hm6).mpr (pt_i hm6 hp1 hp)) c21
theorem r_closed_y {g : Nat → Int32} {A : Nat → Nat → Int32} {n : Nat} {W : WS} (hW : WR n g A W) (hO : CoOk (wK W)) {j m : Nat} {c : Nat → Nat} (hj : j < 6) (htb : tbK (wK W) j = (m, c)) (h1 : 1 ≤ m) {p : Nat} (hp1 : 1 ≤ p) (hp : p < 2 ^ m) : RR 80 248 0 [some (.ref 146), some (.int (nI j)), some (.int (nI p))] [] g A (fun r g' A' => r = some (.int (nI (clN m c p))) ∧ WR (n + 1) g' A' W) := by
  have hsh := hW.1.1.1 j hj
  rw [show kH (wK W) (kD (wK W)) j = (m, c) from htb] at hsh
  have hok := tb_ok hO hj
  rw [htb] at hok
  have hk : A 1 (37 * j) = nI m := hsh.1
  have hl : Lat m c := hok.2
  have hm6 : m ≤ 6 := hok.1
  have hyes : isT A (nI j) := (has_r hW hO).mpr ((has_i hj).mpr (by rw [htb]; exact h1))
  refine rr_nx (pc' := 1) (al' := [some (.ref 146), some (.int (nI j)), some (.int (nI p))]) (st' := [.ref 146]) d_248_0 (fun _ => rfl) ?_
  refine rr_nx (pc' := 2) (al' := [some (.ref 146), some (.int (nI j)), some (.int (nI p))]) (st' := [.int (nI j), .ref 146]) d_248_1 (fun _ => rfl) ?_
  refine rr_pv (as := [.int (nI j)]) (al0 := [some (.ref 146), some (.int (nI j))]) (r := []) d_248_2 mo_248 ml_124 mz_184 rfl rfl rfl (Nat.le_of_ble_eq_true rfl) (s_isTable (nI j)) ?_
  show RR _ _ 5 [some (.ref 146), some (.int (nI j)), some (.int (nI p))] [.int (bI (isT A (nI j)))] g A _
  refine rr_bne (t := 10) d_248_5 (by decide) (fun c5 => ?_) (fun c5 => ?_)
  · refine rr_nx (pc' := 11) (al' := [some (.ref 146), some (.int (nI j)), some (.int (nI p))]) (st' := [.ref 146]) d_248_10 (fun _ => rfl) ?_
    refine rr_nx (pc' := 12) (al' := [some (.ref 146), some (.int (nI j)), some (.int (nI p))]) (st' := [.int (nI j), .ref 146]) d_248_11 (fun _ => rfl) ?_
    refine rr_pv (as := [.int (nI j)]) (al0 := [some (.ref 146), some (.int (nI j)), none]) (r := []) d_248_12 mo_248 ml_248 mz_208 rfl rfl rfl (Nat.le_of_ble_eq_true rfl) (s_lays (n := m) hj hm6 hk) ?_
    obtain ⟨wl12, hwl12⟩ : ∃ w_, w_ = rf_f (fun q => A 1 (37 * j + 1 + q)) (A 4) (m * m) := ⟨_, rfl⟩
    rw [← hwl12]
    show RR _ _ 15 [some (.ref 146), some (.int (nI j)), some (.int (nI p))] [] (upd g 6 (nI m)) (rf_u A 4 wl12) _
    have hcu := cur_l (g := g) hsh hm6 hl hwl12
    refine rr_nx (pc' := 16) (al' := [some (.ref 146), some (.int (nI j)), some (.int (nI p))]) (st' := [.ref 146]) d_248_15 (fun _ => rfl) ?_
    refine rr_nx (pc' := 17) (al' := [some (.ref 146), some (.int (nI j)), some (.int (nI p))]) (st' := [.int (nI p), .ref 146]) d_248_16 (fun _ => rfl) ?_
    refine rr_pv (as := [.int (nI p)]) (al0 := [some (.ref 146), some (.int (nI p))]) (r := []) d_248_17 mo_248 ml_283 mz_245 rfl rfl rfl (Nat.le_of_ble_eq_true rfl) (s_isPart hcu (nI p)) ?_
    show RR _ _ 20 [some (.ref 146), some (.int (nI j)), some (.int (nI p))] [.int (bI (nI 1 ≤ nI p ∧ nI p ≤ nI (1 * 2 ^ m - 1)))] (upd g 6 (nI m)) (rf_u A 4 wl12) _
    refine rr_beq (t := 31) d_248_20 (by decide) (fun c20 => ?_) (fun c20 => ?_)
    · exact absurd ((pt_r hm6).mpr (pt_i hm6 hp1 hp)) c20
    · refine rr_nx (pc' := 24) (al' := [some (.ref 146), some (.int (nI j)), some (.int (nI p))]) (st' := [.ref 146]) d_248_23 (fun _ => rfl) ?_
      refine rr_nx (pc' := 25) (al' := [some (.ref 146), some (.int (nI j)), some (.int (nI p))]) (st' := [.int (nI p), .ref 146]) d_248_24 (fun _ => rfl) ?_
      refine rr_pv (as := [.int (nI p)]) (al0 := [some (.ref 146), some (.int (nI p)), none, none, none, none]) (r := []) d_248_25 mo_248 ml_286 mz_246 rfl rfl rfl (Nat.le_of_ble_eq_true rfl) (s_closedOf hcu (by omega) hp) ?_
      show RR _ _ 28 [some (.ref 146), some (.int (nI j)), some (.int (nI p))] [.int (nI (clN m c p))] (upd g 6 (nI m)) (rf_u A 4 wl12) _
      refine rr_nx (pc' := 32) (al' := [some (.ref 146), some (.int (nI j)), some (.int (nI p))]) (st' := [.int (nI (clN m c p))]) d_248_28 (fun _ => rfl) ?_
      exact rr_ri d_248_32 mr_248 rfl ⟨rfl, (hW.q (Gsm.rf.u rfl) (Ksm.rf.u rfl)).mo⟩
  · exact absurd hyes c5
theorem p_closed_x {S : CS} {G : Nat → Nat → Value} {B : Nat → Nat → Int32} {J : Nat → Nat → Int64} {R : Nat → Nat → Option Nat} {n : Nat} {W : WS} (hW : WC n S G B R W) {j m : Nat} {c : Nat → Nat} (hj : j < 6) (htb : tbK (wK W) j = (m, c)) (h1 : 1 ≤ m) {w : Int32} (hw : ¬ ptP w m) : CR 80 150 0 [some (.ref 2), some (.int (nI j)), some (.int w)] [] S G B J R (fun r S' G' B' J' R' => r = some (.int (-1)) ∧ WC (n + 1) S' G' B' R' W) := by
  have hS := hW.1.1
  have hF := hW.2.1
  have hO := hW.2.2.2.1
  obtain ⟨ta, ka, la, hH, hLk, hl2, hs3, hbd⟩ := hW.2.2.1
  obtain ⟨zt, hzt, ezt⟩ := (hH.2.1 j hj).2
  have ht := hH.ta hj
  have hsh := hH.2.2.2.2.2.2.1 j hj
  rw [show kH (wK W) (kD (wK W)) j = (m, c) from htb] at hsh
  have hok := tb_ok hO hj
  rw [htb] at hok
  have hn : G (ta j) 0 = .int (nI m) := hsh.1
  have hc : TabC B (ta j) m c := hsh.c hok
  have hl : Lat m c := hok.2
  have hm6 : m ≤ 6 := hok.1
  have hyes : hasP (wK W) (nI j) := (has_i hj).mpr (by rw [htb]; exact h1)
  refine cr_nx (pc' := 1) (al' := [some (.ref 2), some (.int (nI j)), some (.int w)]) (st' := [.ref 2]) d_150_0 (fun _ => rfl) ?_
  refine cr_nx (pc' := 2) (al' := [some (.ref 2), some (.int (nI j)), some (.int w)]) (st' := [.int (nI j), .ref 2]) d_150_1 (fun _ => rfl) ?_
  refine cr_pv (b := 2) (as := [.int (nI j)]) (al0 := [some (.ref 2), some (.int (nI j))]) (r := []) d_150_2 cw_150 cm_11_137 cz_126 rfl rfl (hS.i (a := 2) (by decide) (by decide)) (by rw [cw_126]; exact (hS.s (a := 2) (by decide) (by decide) rfl)) (by rw [cw_126]; decide) rfl (Nat.le_of_ble_eq_true rfl) (k_has hS hF hH hO) ?_
  show CR _ _ 5 [some (.ref 2), some (.int (nI j)), some (.int w)] [.int (bI (hasP (wK W) (nI j)))] S G B J R _
  refine cr_beq (t := 24) d_150_5 (by decide) (fun c5 => ?_) (fun c5 => ?_)
  · exact absurd hyes c5
  · refine cr_nx (pc' := 9) (al' := [some (.ref 2), some (.int (nI j)), some (.int w)]) (st' := [.ref 2]) d_150_8 (fun _ => rfl) ?_
    refine cr_gf (v := .ref 3) d_150_9 cw_150 cf_11_10 (hS.i (a := 2) (by decide) (by decide)) (hS.s (a := 2) (by decide) (by decide) rfl) (by decide) (fx_2_0 hF) ?_
    refine cr_gf (v := .ref 4) d_150_12 cw_150 cf_11_140 (hS.i (a := 3) (by decide) (by decide)) (hS.s (a := 3) (by decide) (by decide) rfl) (by decide) (fx_3_0 hF) ?_
    refine cr_nx (pc' := 16) (al' := [some (.ref 2), some (.int (nI j)), some (.int w)]) (st' := [.int (nI j), .ref 4]) d_150_15 (fun _ => rfl) ?_
    refine cr_aa (a := 4) (v := .ref (ta j)) d_150_16 (hS.i (a := 4) (by decide) (by decide)) (by decide) (hS.s (a := 4) (by decide) (by decide) rfl) (by decide) (show j < 6 by first | omega | assumption | exact cu_36 (by omega) (cu_lt (by omega) (by omega))) (show va_rf _ = _ by rw [(hH.2.1 j hj).1]; rfl) ?_
    refine cr_nx (pc' := 18) (al' := [some (.ref 2), some (.int (nI j)), some (.int w)]) (st' := [.int w, .ref (ta j)]) d_150_17 (fun _ => rfl) ?_
    refine cr_pv (b := (ta j)) (as := [.int w]) (al0 := [some (.ref (ta j)), some (.int w)]) (r := []) d_150_18 cw_150 cm_11_285 cz_108 rfl rfl ht.1 (by rw [cw_108]; exact ht.2.2.1) (by rw [cw_108]; decide) rfl (Nat.le_of_ble_eq_true rfl) (k_hasPart ht hn w hm6) ?_
    show CR _ _ 21 [some (.ref 2), some (.int (nI j)), some (.int w)] [.int (bI (0 < w ∧ w < nI (1 * 2 ^ m)))] S G B J R _
    refine cr_bne (t := 26) d_150_21 (by decide) (fun c21 => ?_) (fun c21 => ?_)
    · exact absurd c21 (fun e_ => hw ((pt_c hm6).mp e_))
    · refine cr_nx (pc' := 25) (al' := [some (.ref 2), some (.int (nI j)), some (.int w)]) (st' := [.int (-1)]) d_150_24 (fun _ => rfl) ?_
      exact cr_ri d_150_25 cx_150 rfl ⟨rfl, hW.mo⟩
theorem r_closed_x {g : Nat → Int32} {A : Nat → Nat → Int32} {n : Nat} {W : WS} (hW : WR n g A W) (hO : CoOk (wK W)) {j m : Nat} {c : Nat → Nat} (hj : j < 6) (htb : tbK (wK W) j = (m, c)) (h1 : 1 ≤ m) {w : Int32} (hw : ¬ ptP w m) : RR 80 248 0 [some (.ref 146), some (.int (nI j)), some (.int w)] [] g A (fun r g' A' => r = some (.int (-1)) ∧ WR (n + 1) g' A' W) := by
  have hsh := hW.1.1.1 j hj
  rw [show kH (wK W) (kD (wK W)) j = (m, c) from htb] at hsh
  have hok := tb_ok hO hj
  rw [htb] at hok
  have hk : A 1 (37 * j) = nI m := hsh.1
  have hl : Lat m c := hok.2
  have hm6 : m ≤ 6 := hok.1
  have hyes : isT A (nI j) := (has_r hW hO).mpr ((has_i hj).mpr (by rw [htb]; exact h1))
  refine rr_nx (pc' := 1) (al' := [some (.ref 146), some (.int (nI j)), some (.int w)]) (st' := [.ref 146]) d_248_0 (fun _ => rfl) ?_
  refine rr_nx (pc' := 2) (al' := [some (.ref 146), some (.int (nI j)), some (.int w)]) (st' := [.int (nI j), .ref 146]) d_248_1 (fun _ => rfl) ?_
  refine rr_pv (as := [.int (nI j)]) (al0 := [some (.ref 146), some (.int (nI j))]) (r := []) d_248_2 mo_248 ml_124 mz_184 rfl rfl rfl (Nat.le_of_ble_eq_true rfl) (s_isTable (nI j)) ?_
  show RR _ _ 5 [some (.ref 146), some (.int (nI j)), some (.int w)] [.int (bI (isT A (nI j)))] g A _
  refine rr_bne (t := 10) d_248_5 (by decide) (fun c5 => ?_) (fun c5 => ?_)
  · refine rr_nx (pc' := 11) (al' := [some (.ref 146), some (.int (nI j)), some (.int w)]) (st' := [.ref 146]) d_248_10 (fun _ => rfl) ?_
    refine rr_nx (pc' := 12) (al' := [some (.ref 146), some (.int (nI j)), some (.int w)]) (st' := [.int (nI j), .ref 146]) d_248_11 (fun _ => rfl) ?_
    refine rr_pv (as := [.int (nI j)]) (al0 := [some (.ref 146), some (.int (nI j)), none]) (r := []) d_248_12 mo_248 ml_248 mz_208 rfl rfl rfl (Nat.le_of_ble_eq_true rfl) (s_lays (n := m) hj hm6 hk) ?_
    obtain ⟨wl12, hwl12⟩ : ∃ w_, w_ = rf_f (fun q => A 1 (37 * j + 1 + q)) (A 4) (m * m) := ⟨_, rfl⟩
    rw [← hwl12]
    show RR _ _ 15 [some (.ref 146), some (.int (nI j)), some (.int w)] [] (upd g 6 (nI m)) (rf_u A 4 wl12) _
    have hcu := cur_l (g := g) hsh hm6 hl hwl12
    refine rr_nx (pc' := 16) (al' := [some (.ref 146), some (.int (nI j)), some (.int w)]) (st' := [.ref 146]) d_248_15 (fun _ => rfl) ?_
    refine rr_nx (pc' := 17) (al' := [some (.ref 146), some (.int (nI j)), some (.int w)]) (st' := [.int w, .ref 146]) d_248_16 (fun _ => rfl) ?_
    refine rr_pv (as := [.int w]) (al0 := [some (.ref 146), some (.int w)]) (r := []) d_248_17 mo_248 ml_283 mz_245 rfl rfl rfl (Nat.le_of_ble_eq_true rfl) (s_isPart hcu w) ?_
    show RR _ _ 20 [some (.ref 146), some (.int (nI j)), some (.int w)] [.int (bI (nI 1 ≤ w ∧ w ≤ nI (1 * 2 ^ m - 1)))] (upd g 6 (nI m)) (rf_u A 4 wl12) _
    refine rr_beq (t := 31) d_248_20 (by decide) (fun c20 => ?_) (fun c20 => ?_)
    · refine rr_nx (pc' := 32) (al' := [some (.ref 146), some (.int (nI j)), some (.int w)]) (st' := [.int (-1)]) d_248_31 (fun _ => rfl) ?_
      exact rr_ri d_248_32 mr_248 rfl ⟨rfl, (hW.q (Gsm.rf.u rfl) (Ksm.rf.u rfl)).mo⟩
    · exact absurd c20 (fun e_ => hw ((pt_r hm6).mp e_))
  · exact absurd hyes c5
theorem p_closed_n {S : CS} {G : Nat → Nat → Value} {B : Nat → Nat → Int32} {J : Nat → Nat → Int64} {R : Nat → Nat → Option Nat} {n : Nat} {W : WS} (hW : WC n S G B R W) {t : Int32} (hh : ¬ hasP (wK W) t) {w : Int32} : CR 80 150 0 [some (.ref 2), some (.int t), some (.int w)] [] S G B J R (fun r S' G' B' J' R' => r = some (.int (-1)) ∧ WC (n + 1) S' G' B' R' W) := by
  have hS := hW.1.1
  have hF := hW.2.1
  have hO := hW.2.2.2.1
  obtain ⟨ta, ka, la, hH, hLk, hl2, hs3, hbd⟩ := hW.2.2.1
  refine cr_nx (pc' := 1) (al' := [some (.ref 2), some (.int t), some (.int w)]) (st' := [.ref 2]) d_150_0 (fun _ => rfl) ?_
  refine cr_nx (pc' := 2) (al' := [some (.ref 2), some (.int t), some (.int w)]) (st' := [.int t, .ref 2]) d_150_1 (fun _ => rfl) ?_
  refine cr_pv (b := 2) (as := [.int t]) (al0 := [some (.ref 2), some (.int t)]) (r := []) d_150_2 cw_150 cm_11_137 cz_126 rfl rfl (hS.i (a := 2) (by decide) (by decide)) (by rw [cw_126]; exact (hS.s (a := 2) (by decide) (by decide) rfl)) (by rw [cw_126]; decide) rfl (Nat.le_of_ble_eq_true rfl) (k_has hS hF hH hO) ?_
  show CR _ _ 5 [some (.ref 2), some (.int t), some (.int w)] [.int (bI (hasP (wK W) t))] S G B J R _
  refine cr_beq (t := 24) d_150_5 (by decide) (fun c5 => ?_) (fun c5 => ?_)
  · refine cr_nx (pc' := 25) (al' := [some (.ref 2), some (.int t), some (.int w)]) (st' := [.int (-1)]) d_150_24 (fun _ => rfl) ?_
    exact cr_ri d_150_25 cx_150 rfl ⟨rfl, hW.mo⟩
  · exact absurd c5 hh
theorem r_closed_n {g : Nat → Int32} {A : Nat → Nat → Int32} {n : Nat} {W : WS} (hW : WR n g A W) (hO : CoOk (wK W)) {t : Int32} (hh : ¬ hasP (wK W) t) {w : Int32} : RR 80 248 0 [some (.ref 146), some (.int t), some (.int w)] [] g A (fun r g' A' => r = some (.int (-1)) ∧ WR (n + 1) g' A' W) := by
  refine rr_nx (pc' := 1) (al' := [some (.ref 146), some (.int t), some (.int w)]) (st' := [.ref 146]) d_248_0 (fun _ => rfl) ?_
  refine rr_nx (pc' := 2) (al' := [some (.ref 146), some (.int t), some (.int w)]) (st' := [.int t, .ref 146]) d_248_1 (fun _ => rfl) ?_
  refine rr_pv (as := [.int t]) (al0 := [some (.ref 146), some (.int t)]) (r := []) d_248_2 mo_248 ml_124 mz_184 rfl rfl rfl (Nat.le_of_ble_eq_true rfl) (s_isTable t) ?_
  show RR _ _ 5 [some (.ref 146), some (.int t), some (.int w)] [.int (bI (isT A t))] g A _
  refine rr_bne (t := 10) d_248_5 (by decide) (fun c5 => ?_) (fun c5 => ?_)
  · exact absurd c5 (fun e_ => hh ((has_r hW hO).mp e_))
  · refine rr_nx (pc' := 9) (al' := [some (.ref 146), some (.int t), some (.int w)]) (st' := [.int (-1)]) d_248_8 (fun _ => rfl) ?_
    exact rr_ri d_248_9 mr_248 rfl ⟨rfl, hW.mo⟩
theorem T_closed {S : CS} {G : Nat → Nat → Value} {B : Nat → Nat → Int32} {J : Nat → Nat → Int64} {R : Nat → Nat → Option Nat} {g : Nat → Int32} {A : Nat → Nat → Int32} {n : Nat} {W : WS} (hC : WC n S G B R W) (hR : WR n g A W) (hn : n ≤ 10000) {t : Int32} {w : Int32} : Tie n 150 248 [some (.ref 2), some (.int t), some (.int w)] [some (.ref 146), some (.int t), some (.int w)] S G B J R g A W := by
  have hO := hC.2.2.2.1
  by_cases hh : hasP (wK W) t
  · obtain ⟨j, hj, e_, h1⟩ := has_n hh
    subst e_
    obtain ⟨⟨m, c⟩, htb⟩ : ∃ tb, tbK (wK W) j = tb := ⟨_, rfl⟩
    rw [htb] at h1
    by_cases hw : ptP w m
    · obtain ⟨p, hp1, hp, e_⟩ := pt_n hw
      subst e_
      exact ⟨_, W, p_closed_y hC hj htb h1 hp1 hp, r_closed_y hR hO hj htb h1 hp1 hp⟩
    · exact ⟨_, W, p_closed_x hC hj htb h1 hw, r_closed_x hR hO hj htb h1 hw⟩
  · exact ⟨_, W, p_closed_n hC hh, r_closed_n hR hO hh⟩
theorem p_nearX {S : CS} {G : Nat → Nat → Value} {B : Nat → Nat → Int32} {J : Nat → Nat → Int64} {R : Nat → Nat → Option Nat} {n : Nat} {W : WS} (hW : WC n S G B R W) {j m : Nat} {c : Nat → Nat} (hj : j < 6) (htb : tbK (wK W) j = (m, c)) (h1 : 1 ≤ m) {w : Int32} (hw : ¬ inP w 2) : CR 80 163 0 [some (.ref 2), some (.int (nI j)), some (.int w)] [] S G B J R (fun r S' G' B' J' R' => r = some (.int (-1)) ∧ WC (n + 1) S' G' B' R' W) := by
  have hS := hW.1.1
  have hF := hW.2.1
  have hO := hW.2.2.2.1
  obtain ⟨ta, ka, la, hH, hLk, hl2, hs3, hbd⟩ := hW.2.2.1
  obtain ⟨zt, hzt, ezt⟩ := (hH.2.1 j hj).2
  have ht := hH.ta hj
  have hsh := hH.2.2.2.2.2.2.1 j hj
  rw [show kH (wK W) (kD (wK W)) j = (m, c) from htb] at hsh
  have hok := tb_ok hO hj
  rw [htb] at hok
  have hn : G (ta j) 0 = .int (nI m) := hsh.1
  have hc : TabC B (ta j) m c := hsh.c hok
  have hl : Lat m c := hok.2
  have hm6 : m ≤ 6 := hok.1
  have hyes : hasP (wK W) (nI j) := (has_i hj).mpr (by rw [htb]; exact h1)
  refine cr_nx (pc' := 1) (al' := [some (.ref 2), some (.int (nI j)), some (.int w)]) (st' := [.ref 2]) d_163_0 (fun _ => rfl) ?_
  refine cr_nx (pc' := 2) (al' := [some (.ref 2), some (.int (nI j)), some (.int w)]) (st' := [.int (nI j), .ref 2]) d_163_1 (fun _ => rfl) ?_
  refine cr_pv (b := 2) (as := [.int (nI j)]) (al0 := [some (.ref 2), some (.int (nI j))]) (r := []) d_163_2 cw_163 cm_11_137 cz_126 rfl rfl (hS.i (a := 2) (by decide) (by decide)) (by rw [cw_126]; exact (hS.s (a := 2) (by decide) (by decide) rfl)) (by rw [cw_126]; decide) rfl (Nat.le_of_ble_eq_true rfl) (k_has hS hF hH hO) ?_
  show CR _ _ 5 [some (.ref 2), some (.int (nI j)), some (.int w)] [.int (bI (hasP (wK W) (nI j)))] S G B J R _
  refine cr_beq (t := 17) d_163_5 (by decide) (fun c5 => ?_) (fun c5 => ?_)
  · exact absurd hyes c5
  · refine cr_nx (pc' := 9) (al' := [some (.ref 2), some (.int (nI j)), some (.int w)]) (st' := [.int w]) d_163_8 (fun _ => rfl) ?_
    refine cr_ilt (t := 17) d_163_9 (by decide) (fun c9 => ?_) (fun c9 => ?_)
    · refine cr_nx (pc' := 18) (al' := [some (.ref 2), some (.int (nI j)), some (.int w)]) (st' := [.int (-1)]) d_163_17 (fun _ => rfl) ?_
      exact cr_ri d_163_18 cx_163 rfl ⟨rfl, hW.mo⟩
    · refine cr_nx (pc' := 13) (al' := [some (.ref 2), some (.int (nI j)), some (.int w)]) (st' := [.int w]) d_163_12 (fun _ => rfl) ?_
      refine cn_ic (v := 1) d_163_13 (by decide) ?_
      refine cr_cle (t := 19) d_163_14 (by decide) (fun c14 => ?_) (fun c14 => ?_)
      · exact absurd (show inP w 2 from ⟨by rw [i_lt0] at c9; omega, by rw [i_Nle (by decide)] at c14; omega⟩) hw
      · refine cr_nx (pc' := 18) (al' := [some (.ref 2), some (.int (nI j)), some (.int w)]) (st' := [.int (-1)]) d_163_17 (fun _ => rfl) ?_
        exact cr_ri d_163_18 cx_163 rfl ⟨rfl, hW.mo⟩
theorem r_nearX {g : Nat → Int32} {A : Nat → Nat → Int32} {n : Nat} {W : WS} (hW : WR n g A W) (hO : CoOk (wK W)) {j m : Nat} {c : Nat → Nat} (hj : j < 6) (htb : tbK (wK W) j = (m, c)) (h1 : 1 ≤ m) {w : Int32} (hw : ¬ inP w 2) : RR 80 269 0 [some (.ref 146), some (.int (nI j)), some (.int w), none, none, none, none, none, none, none, none, none, none, none] [] g A (fun r g' A' => r = some (.int (-1)) ∧ WR (n + 1) g' A' W) := by
  have hsh := hW.1.1.1 j hj
  rw [show kH (wK W) (kD (wK W)) j = (m, c) from htb] at hsh
  have hok := tb_ok hO hj
  rw [htb] at hok
  have hk : A 1 (37 * j) = nI m := hsh.1
  have hl : Lat m c := hok.2
  have hm6 : m ≤ 6 := hok.1
  have hyes : isT A (nI j) := (has_r hW hO).mpr ((has_i hj).mpr (by rw [htb]; exact h1))
  refine rr_nx (pc' := 1) (al' := [some (.ref 146), some (.int (nI j)), some (.int w), none, none, none, none, none, none, none, none, none, none, none]) (st' := [.ref 146]) d_269_0 (fun _ => rfl) ?_
  refine rr_nx (pc' := 2) (al' := [some (.ref 146), some (.int (nI j)), some (.int w), none, none, none, none, none, none, none, none, none, none, none]) (st' := [.int (nI j), .ref 146]) d_269_1 (fun _ => rfl) ?_
  refine rr_pv (as := [.int (nI j)]) (al0 := [some (.ref 146), some (.int (nI j))]) (r := []) d_269_2 mo_269 ml_124 mz_184 rfl rfl rfl (Nat.le_of_ble_eq_true rfl) (s_isTable (nI j)) ?_
  show RR _ _ 5 [some (.ref 146), some (.int (nI j)), some (.int w), none, none, none, none, none, none, none, none, none, none, none] [.int (bI (isT A (nI j)))] g A _
  refine rr_beq (t := 17) d_269_5 (by decide) (fun c5 => ?_) (fun c5 => ?_)
  · exact absurd hyes c5
  · refine rr_nx (pc' := 9) (al' := [some (.ref 146), some (.int (nI j)), some (.int w), none, none, none, none, none, none, none, none, none, none, none]) (st' := [.int w]) d_269_8 (fun _ => rfl) ?_
    refine rn_ic (v := 0) d_269_9 (by decide) ?_
    refine rn_ic (v := 1) d_269_10 (by decide) ?_
    refine rr_ps (as := [.int w, .int (nI 0), .int (nI 1)]) (al0 := [some (.int w), some (.int (nI 0)), some (.int (nI 1))]) (r := []) d_269_11 mo_269 ml_106 mz_179 rfl rfl rfl (Nat.le_of_ble_eq_true rfl) (s_lies w (nI 0) (nI 1)) ?_
    show RR _ _ 14 [some (.ref 146), some (.int (nI j)), some (.int w), none, none, none, none, none, none, none, none, none, none, none] [.int (bI ((nI 0) ≤ w ∧ w ≤ (nI 1)))] g A _
    refine rr_bne (t := 19) d_269_14 (by decide) (fun c14 => ?_) (fun c14 => ?_)
    · exact absurd c14 (fun e_ => hw ((in_r (m := 1) (by decide)).mp e_))
    · refine rr_nx (pc' := 18) (al' := [some (.ref 146), some (.int (nI j)), some (.int w), none, none, none, none, none, none, none, none, none, none, none]) (st' := [.int (-1)]) d_269_17 (fun _ => rfl) ?_
      exact rr_ri d_269_18 mr_269 rfl ⟨rfl, hW.mo⟩
theorem p_near0 {S : CS} {G : Nat → Nat → Value} {B : Nat → Nat → Int32} {J : Nat → Nat → Int64} {R : Nat → Nat → Option Nat} {n : Nat} {W : WS} (hW : WC n S G B R W) {j m : Nat} {c : Nat → Nat} (hj : j < 6) (htb : tbK (wK W) j = (m, c)) (h1 : 1 ≤ m) : CR 80 163 0 [some (.ref 2), some (.int (nI j)), some (.int (nI 0))] [] S G B J R (fun r S' G' B' J' R' => r = some (.int (nI (if 0 = 0 then (nrV m c).1 else (nrV m c).2))) ∧ WC (n + 1) S' G' B' R' W) := by
  have hS := hW.1.1
  have hF := hW.2.1
  have hO := hW.2.2.2.1
  obtain ⟨ta, ka, la, hH, hLk, hl2, hs3, hbd⟩ := hW.2.2.1
  obtain ⟨zt, hzt, ezt⟩ := (hH.2.1 j hj).2
  have ht := hH.ta hj
  have hsh := hH.2.2.2.2.2.2.1 j hj
  rw [show kH (wK W) (kD (wK W)) j = (m, c) from htb] at hsh
  have hok := tb_ok hO hj
  rw [htb] at hok
  have hn : G (ta j) 0 = .int (nI m) := hsh.1
  have hc : TabC B (ta j) m c := hsh.c hok
  have hl : Lat m c := hok.2
  have hm6 : m ≤ 6 := hok.1
  have hyes : hasP (wK W) (nI j) := (has_i hj).mpr (by rw [htb]; exact h1)
  refine cr_nx (pc' := 1) (al' := [some (.ref 2), some (.int (nI j)), some (.int (nI 0))]) (st' := [.ref 2]) d_163_0 (fun _ => rfl) ?_
  refine cr_nx (pc' := 2) (al' := [some (.ref 2), some (.int (nI j)), some (.int (nI 0))]) (st' := [.int (nI j), .ref 2]) d_163_1 (fun _ => rfl) ?_
  refine cr_pv (b := 2) (as := [.int (nI j)]) (al0 := [some (.ref 2), some (.int (nI j))]) (r := []) d_163_2 cw_163 cm_11_137 cz_126 rfl rfl (hS.i (a := 2) (by decide) (by decide)) (by rw [cw_126]; exact (hS.s (a := 2) (by decide) (by decide) rfl)) (by rw [cw_126]; decide) rfl (Nat.le_of_ble_eq_true rfl) (k_has hS hF hH hO) ?_
  show CR _ _ 5 [some (.ref 2), some (.int (nI j)), some (.int (nI 0))] [.int (bI (hasP (wK W) (nI j)))] S G B J R _
  refine cr_beq (t := 17) d_163_5 (by decide) (fun c5 => ?_) (fun c5 => ?_)
  · exact absurd hyes c5
  · refine cr_nx (pc' := 9) (al' := [some (.ref 2), some (.int (nI j)), some (.int (nI 0))]) (st' := [.int (nI 0)]) d_163_8 (fun _ => rfl) ?_
    refine cn_zlt (t := 17) d_163_9 (by decide) (by first | omega | assumption | exact cu_36 (by omega) (cu_lt (by omega) (by omega))) (fun c9 => ?_) (fun c9 => ?_)
    · exact c9.elim
    · refine cr_nx (pc' := 13) (al' := [some (.ref 2), some (.int (nI j)), some (.int (nI 0))]) (st' := [.int (nI 0)]) d_163_12 (fun _ => rfl) ?_
      refine cn_ic (v := 1) d_163_13 (by decide) ?_
      refine cn_cle (t := 19) d_163_14 (by decide) (by first | omega | assumption | exact cu_36 (by omega) (cu_lt (by omega) (by omega))) (by first | omega | assumption | exact cu_36 (by omega) (cu_lt (by omega) (by omega))) (fun c14 => ?_) (fun c14 => ?_)
      · refine cr_nx (pc' := 20) (al' := [some (.ref 2), some (.int (nI j)), some (.int (nI 0))]) (st' := [.ref 2]) d_163_19 (fun _ => rfl) ?_
        refine cr_gf (v := .ref 133) d_163_20 cw_163 cf_11_79 (hS.i (a := 2) (by decide) (by decide)) (hS.s (a := 2) (by decide) (by decide) rfl) (by decide) (fx_2_13 hF) ?_
        refine cr_nx (pc' := 24) (al' := [some (.ref 2), some (.int (nI j)), some (.int (nI 0))]) (st' := [.ref 2, .ref 133]) d_163_23 (fun _ => rfl) ?_
        refine cr_gf (v := .ref 3) d_163_24 cw_163 cf_11_10 (hS.i (a := 2) (by decide) (by decide)) (hS.s (a := 2) (by decide) (by decide) rfl) (by decide) (fx_2_0 hF) ?_
        refine cr_gf (v := .ref 4) d_163_27 cw_163 cf_11_140 (hS.i (a := 3) (by decide) (by decide)) (hS.s (a := 3) (by decide) (by decide) rfl) (by decide) (fx_3_0 hF) ?_
        refine cr_nx (pc' := 31) (al' := [some (.ref 2), some (.int (nI j)), some (.int (nI 0))]) (st' := [.int (nI j), .ref 4, .ref 133]) d_163_30 (fun _ => rfl) ?_
        refine cr_aa (a := 4) (v := .ref (ta j)) d_163_31 (hS.i (a := 4) (by decide) (by decide)) (by decide) (hS.s (a := 4) (by decide) (by decide) rfl) (by decide) (show j < 6 by first | omega | assumption | exact cu_36 (by omega) (cu_lt (by omega) (by omega))) (show va_rf _ = _ by rw [(hH.2.1 j hj).1]; rfl) ?_
        refine cr_cv (b := 133) (as := [.ref (ta j)]) (al0 := [some (.ref 133), some (.ref (ta j))]) (r := []) d_163_32 cw_163 cm_11_333 cz_78 rfl rfl (hS.i (a := 133) (by decide) (by decide)) (by rw [cw_78]; exact (hS.s (a := 133) (by decide) (by decide) rfl)) (by rw [cw_78]; decide) rfl (cr_wk (Nat.le_of_ble_eq_true rfl) (k_seekGroups hS hF ht hn hc h1 (by omega))) (fun v1 S1 G1 B1 J1 R1 h1x => ?_)
        obtain ⟨q0_, q1_, q2_, q3_, h4_, h5_, h6_, h7_, h8_⟩ := h1x
        obtain rfl := q0_
        obtain rfl := q1_.symm
        obtain rfl := q2_.symm
        obtain rfl := q3_.symm
        show CR _ _ 35 [some (.ref 2), some (.int (nI j)), some (.int (nI 0))] [] S G1 B1 J R _
        refine cr_nx (pc' := 36) (al' := [some (.ref 2), some (.int (nI j)), some (.int (nI 0))]) (st' := [.int (nI 0)]) d_163_35 (fun _ => rfl) ?_
        refine cn_ine (t := 49) d_163_36 (by decide) (by first | omega | assumption | exact cu_36 (by omega) (cu_lt (by omega) (by omega))) (fun c36 => ?_) (fun c36 => ?_)
        · omega
        · refine cr_nx (pc' := 40) (al' := [some (.ref 2), some (.int (nI j)), some (.int (nI 0))]) (st' := [.ref 2]) d_163_39 (fun _ => rfl) ?_
          refine cr_gf (v := .ref 133) d_163_40 cw_163 cf_11_79 (hS.i (a := 2) (by decide) (by decide)) (hS.s (a := 2) (by decide) (by decide) rfl) (by decide) (fx_2_13 h4_) ?_
          refine cr_gf (v := .int (nI ((nrV m c).1))) d_163_43 cw_163 cf_11_336 (hS.i (a := 133) (by decide) (by decide)) (hS.s (a := 133) (by decide) (by decide) rfl) (by decide) h7_ ?_
          refine cr_nx (pc' := 56) (al' := [some (.ref 2), some (.int (nI j)), some (.int (nI 0))]) (st' := [.int (nI ((nrV m c).1))]) d_163_46 (fun _ => rfl) ?_
          exact cr_ri d_163_56 cx_163 rfl ⟨rfl, (hW.q h4_ (h5_.mo (by decide)) (h6_.mo (by decide))).mo⟩
      · omega
theorem r_near0 {g : Nat → Int32} {A : Nat → Nat → Int32} {n : Nat} {W : WS} (hW : WR n g A W) (hO : CoOk (wK W)) {j m : Nat} {c : Nat → Nat} (hj : j < 6) (htb : tbK (wK W) j = (m, c)) (h1 : 1 ≤ m) : RR 80 269 0 [some (.ref 146), some (.int (nI j)), some (.int (nI 0)), none, none, none, none, none, none, none, none, none, none, none] [] g A (fun r g' A' => r = some (.int (nI (if 0 = 0 then (nrV m c).1 else (nrV m c).2))) ∧ WR (n + 1) g' A' W) := by
  have hsh := hW.1.1.1 j hj
  rw [show kH (wK W) (kD (wK W)) j = (m, c) from htb] at hsh
  have hok := tb_ok hO hj
  rw [htb] at hok
  have hk : A 1 (37 * j) = nI m := hsh.1
  have hl : Lat m c := hok.2
  have hm6 : m ≤ 6 := hok.1
  have hyes : isT A (nI j) := (has_r hW hO).mpr ((has_i hj).mpr (by rw [htb]; exact h1))
  refine rr_nx (pc' := 1) (al' := [some (.ref 146), some (.int (nI j)), some (.int (nI 0)), none, none, none, none, none, none, none, none, none, none, none]) (st' := [.ref 146]) d_269_0 (fun _ => rfl) ?_
  refine rr_nx (pc' := 2) (al' := [some (.ref 146), some (.int (nI j)), some (.int (nI 0)), none, none, none, none, none, none, none, none, none, none, none]) (st' := [.int (nI j), .ref 146]) d_269_1 (fun _ => rfl) ?_
  refine rr_pv (as := [.int (nI j)]) (al0 := [some (.ref 146), some (.int (nI j))]) (r := []) d_269_2 mo_269 ml_124 mz_184 rfl rfl rfl (Nat.le_of_ble_eq_true rfl) (s_isTable (nI j)) ?_
  show RR _ _ 5 [some (.ref 146), some (.int (nI j)), some (.int (nI 0)), none, none, none, none, none, none, none, none, none, none, none] [.int (bI (isT A (nI j)))] g A _
  refine rr_beq (t := 17) d_269_5 (by decide) (fun c5 => ?_) (fun c5 => ?_)
  · exact absurd hyes c5
  · refine rr_nx (pc' := 9) (al' := [some (.ref 146), some (.int (nI j)), some (.int (nI 0)), none, none, none, none, none, none, none, none, none, none, none]) (st' := [.int (nI 0)]) d_269_8 (fun _ => rfl) ?_
    refine rn_ic (v := 0) d_269_9 (by decide) ?_
    refine rn_ic (v := 1) d_269_10 (by decide) ?_
    refine rr_ps (as := [.int (nI 0), .int (nI 0), .int (nI 1)]) (al0 := [some (.int (nI 0)), some (.int (nI 0)), some (.int (nI 1))]) (r := []) d_269_11 mo_269 ml_106 mz_179 rfl rfl rfl (Nat.le_of_ble_eq_true rfl) (s_lies (nI 0) (nI 0) (nI 1)) ?_
    show RR _ _ 14 [some (.ref 146), some (.int (nI j)), some (.int (nI 0)), none, none, none, none, none, none, none, none, none, none, none] [.int (bI ((nI 0) ≤ (nI 0) ∧ (nI 0) ≤ (nI 1)))] g A _
    refine rr_bne (t := 19) d_269_14 (by decide) (fun c14 => ?_) (fun c14 => ?_)
    · refine rr_cq (rr_wk (by decide) (s_near19 hk h1 hm6 (by decide) hj hsh.2 hl.1)) ?_
      rintro r_ g_ A_ ⟨rfl, h1_, h2_⟩
      exact ⟨rfl, (hW.q h1_ h2_).mo⟩
    · exact absurd (show nI 0 ≤ nI 0 ∧ nI 0 ≤ nI 1 by decide) c14
theorem p_near1 {S : CS} {G : Nat → Nat → Value} {B : Nat → Nat → Int32} {J : Nat → Nat → Int64} {R : Nat → Nat → Option Nat} {n : Nat} {W : WS} (hW : WC n S G B R W) {j m : Nat} {c : Nat → Nat} (hj : j < 6) (htb : tbK (wK W) j = (m, c)) (h1 : 1 ≤ m) : CR 80 163 0 [some (.ref 2), some (.int (nI j)), some (.int (nI 1))] [] S G B J R (fun r S' G' B' J' R' => r = some (.int (nI (if 1 = 0 then (nrV m c).1 else (nrV m c).2))) ∧ WC (n + 1) S' G' B' R' W) := by
  have hS := hW.1.1
  have hF := hW.2.1
  have hO := hW.2.2.2.1
  obtain ⟨ta, ka, la, hH, hLk, hl2, hs3, hbd⟩ := hW.2.2.1
  obtain ⟨zt, hzt, ezt⟩ := (hH.2.1 j hj).2
  have ht := hH.ta hj
  have hsh := hH.2.2.2.2.2.2.1 j hj
  rw [show kH (wK W) (kD (wK W)) j = (m, c) from htb] at hsh
  have hok := tb_ok hO hj
  rw [htb] at hok
  have hn : G (ta j) 0 = .int (nI m) := hsh.1
  have hc : TabC B (ta j) m c := hsh.c hok
  have hl : Lat m c := hok.2
  have hm6 : m ≤ 6 := hok.1
  have hyes : hasP (wK W) (nI j) := (has_i hj).mpr (by rw [htb]; exact h1)
  refine cr_nx (pc' := 1) (al' := [some (.ref 2), some (.int (nI j)), some (.int (nI 1))]) (st' := [.ref 2]) d_163_0 (fun _ => rfl) ?_
  refine cr_nx (pc' := 2) (al' := [some (.ref 2), some (.int (nI j)), some (.int (nI 1))]) (st' := [.int (nI j), .ref 2]) d_163_1 (fun _ => rfl) ?_
  refine cr_pv (b := 2) (as := [.int (nI j)]) (al0 := [some (.ref 2), some (.int (nI j))]) (r := []) d_163_2 cw_163 cm_11_137 cz_126 rfl rfl (hS.i (a := 2) (by decide) (by decide)) (by rw [cw_126]; exact (hS.s (a := 2) (by decide) (by decide) rfl)) (by rw [cw_126]; decide) rfl (Nat.le_of_ble_eq_true rfl) (k_has hS hF hH hO) ?_
  show CR _ _ 5 [some (.ref 2), some (.int (nI j)), some (.int (nI 1))] [.int (bI (hasP (wK W) (nI j)))] S G B J R _
  refine cr_beq (t := 17) d_163_5 (by decide) (fun c5 => ?_) (fun c5 => ?_)
  · exact absurd hyes c5
  · refine cr_nx (pc' := 9) (al' := [some (.ref 2), some (.int (nI j)), some (.int (nI 1))]) (st' := [.int (nI 1)]) d_163_8 (fun _ => rfl) ?_
    refine cn_zlt (t := 17) d_163_9 (by decide) (by first | omega | assumption | exact cu_36 (by omega) (cu_lt (by omega) (by omega))) (fun c9 => ?_) (fun c9 => ?_)
    · exact c9.elim
    · refine cr_nx (pc' := 13) (al' := [some (.ref 2), some (.int (nI j)), some (.int (nI 1))]) (st' := [.int (nI 1)]) d_163_12 (fun _ => rfl) ?_
      refine cn_ic (v := 1) d_163_13 (by decide) ?_
      refine cn_cle (t := 19) d_163_14 (by decide) (by first | omega | assumption | exact cu_36 (by omega) (cu_lt (by omega) (by omega))) (by first | omega | assumption | exact cu_36 (by omega) (cu_lt (by omega) (by omega))) (fun c14 => ?_) (fun c14 => ?_)
      · refine cr_nx (pc' := 20) (al' := [some (.ref 2), some (.int (nI j)), some (.int (nI 1))]) (st' := [.ref 2]) d_163_19 (fun _ => rfl) ?_
        refine cr_gf (v := .ref 133) d_163_20 cw_163 cf_11_79 (hS.i (a := 2) (by decide) (by decide)) (hS.s (a := 2) (by decide) (by decide) rfl) (by decide) (fx_2_13 hF) ?_
        refine cr_nx (pc' := 24) (al' := [some (.ref 2), some (.int (nI j)), some (.int (nI 1))]) (st' := [.ref 2, .ref 133]) d_163_23 (fun _ => rfl) ?_
        refine cr_gf (v := .ref 3) d_163_24 cw_163 cf_11_10 (hS.i (a := 2) (by decide) (by decide)) (hS.s (a := 2) (by decide) (by decide) rfl) (by decide) (fx_2_0 hF) ?_
        refine cr_gf (v := .ref 4) d_163_27 cw_163 cf_11_140 (hS.i (a := 3) (by decide) (by decide)) (hS.s (a := 3) (by decide) (by decide) rfl) (by decide) (fx_3_0 hF) ?_
        refine cr_nx (pc' := 31) (al' := [some (.ref 2), some (.int (nI j)), some (.int (nI 1))]) (st' := [.int (nI j), .ref 4, .ref 133]) d_163_30 (fun _ => rfl) ?_
        refine cr_aa (a := 4) (v := .ref (ta j)) d_163_31 (hS.i (a := 4) (by decide) (by decide)) (by decide) (hS.s (a := 4) (by decide) (by decide) rfl) (by decide) (show j < 6 by first | omega | assumption | exact cu_36 (by omega) (cu_lt (by omega) (by omega))) (show va_rf _ = _ by rw [(hH.2.1 j hj).1]; rfl) ?_
        refine cr_cv (b := 133) (as := [.ref (ta j)]) (al0 := [some (.ref 133), some (.ref (ta j))]) (r := []) d_163_32 cw_163 cm_11_333 cz_78 rfl rfl (hS.i (a := 133) (by decide) (by decide)) (by rw [cw_78]; exact (hS.s (a := 133) (by decide) (by decide) rfl)) (by rw [cw_78]; decide) rfl (cr_wk (Nat.le_of_ble_eq_true rfl) (k_seekGroups hS hF ht hn hc h1 (by omega))) (fun v1 S1 G1 B1 J1 R1 h1x => ?_)
        obtain ⟨q0_, q1_, q2_, q3_, h4_, h5_, h6_, h7_, h8_⟩ := h1x
        obtain rfl := q0_
        obtain rfl := q1_.symm
        obtain rfl := q2_.symm
        obtain rfl := q3_.symm
        show CR _ _ 35 [some (.ref 2), some (.int (nI j)), some (.int (nI 1))] [] S G1 B1 J R _
        refine cr_nx (pc' := 36) (al' := [some (.ref 2), some (.int (nI j)), some (.int (nI 1))]) (st' := [.int (nI 1)]) d_163_35 (fun _ => rfl) ?_
        refine cn_ine (t := 49) d_163_36 (by decide) (by first | omega | assumption | exact cu_36 (by omega) (cu_lt (by omega) (by omega))) (fun c36 => ?_) (fun c36 => ?_)
        · refine cr_nx (pc' := 50) (al' := [some (.ref 2), some (.int (nI j)), some (.int (nI 1))]) (st' := [.ref 2]) d_163_49 (fun _ => rfl) ?_
          refine cr_gf (v := .ref 133) d_163_50 cw_163 cf_11_79 (hS.i (a := 2) (by decide) (by decide)) (hS.s (a := 2) (by decide) (by decide) rfl) (by decide) (fx_2_13 h4_) ?_
          refine cr_gf (v := .int (nI ((nrV m c).2))) d_163_53 cw_163 cf_11_339 (hS.i (a := 133) (by decide) (by decide)) (hS.s (a := 133) (by decide) (by decide) rfl) (by decide) h8_ ?_
          exact cr_ri d_163_56 cx_163 rfl ⟨rfl, (hW.q h4_ (h5_.mo (by decide)) (h6_.mo (by decide))).mo⟩
        · omega
      · omega
theorem r_near1 {g : Nat → Int32} {A : Nat → Nat → Int32} {n : Nat} {W : WS} (hW : WR n g A W) (hO : CoOk (wK W)) {j m : Nat} {c : Nat → Nat} (hj : j < 6) (htb : tbK (wK W) j = (m, c)) (h1 : 1 ≤ m) : RR 80 269 0 [some (.ref 146), some (.int (nI j)), some (.int (nI 1)), none, none, none, none, none, none, none, none, none, none, none] [] g A (fun r g' A' => r = some (.int (nI (if 1 = 0 then (nrV m c).1 else (nrV m c).2))) ∧ WR (n + 1) g' A' W) := by
  have hsh := hW.1.1.1 j hj
  rw [show kH (wK W) (kD (wK W)) j = (m, c) from htb] at hsh
  have hok := tb_ok hO hj
  rw [htb] at hok
  have hk : A 1 (37 * j) = nI m := hsh.1
  have hl : Lat m c := hok.2
  have hm6 : m ≤ 6 := hok.1
  have hyes : isT A (nI j) := (has_r hW hO).mpr ((has_i hj).mpr (by rw [htb]; exact h1))
  refine rr_nx (pc' := 1) (al' := [some (.ref 146), some (.int (nI j)), some (.int (nI 1)), none, none, none, none, none, none, none, none, none, none, none]) (st' := [.ref 146]) d_269_0 (fun _ => rfl) ?_
  refine rr_nx (pc' := 2) (al' := [some (.ref 146), some (.int (nI j)), some (.int (nI 1)), none, none, none, none, none, none, none, none, none, none, none]) (st' := [.int (nI j), .ref 146]) d_269_1 (fun _ => rfl) ?_
  refine rr_pv (as := [.int (nI j)]) (al0 := [some (.ref 146), some (.int (nI j))]) (r := []) d_269_2 mo_269 ml_124 mz_184 rfl rfl rfl (Nat.le_of_ble_eq_true rfl) (s_isTable (nI j)) ?_
  show RR _ _ 5 [some (.ref 146), some (.int (nI j)), some (.int (nI 1)), none, none, none, none, none, none, none, none, none, none, none] [.int (bI (isT A (nI j)))] g A _
  refine rr_beq (t := 17) d_269_5 (by decide) (fun c5 => ?_) (fun c5 => ?_)
  · exact absurd hyes c5
  · refine rr_nx (pc' := 9) (al' := [some (.ref 146), some (.int (nI j)), some (.int (nI 1)), none, none, none, none, none, none, none, none, none, none, none]) (st' := [.int (nI 1)]) d_269_8 (fun _ => rfl) ?_
    refine rn_ic (v := 0) d_269_9 (by decide) ?_
    refine rn_ic (v := 1) d_269_10 (by decide) ?_
    refine rr_ps (as := [.int (nI 1), .int (nI 0), .int (nI 1)]) (al0 := [some (.int (nI 1)), some (.int (nI 0)), some (.int (nI 1))]) (r := []) d_269_11 mo_269 ml_106 mz_179 rfl rfl rfl (Nat.le_of_ble_eq_true rfl) (s_lies (nI 1) (nI 0) (nI 1)) ?_
    show RR _ _ 14 [some (.ref 146), some (.int (nI j)), some (.int (nI 1)), none, none, none, none, none, none, none, none, none, none, none] [.int (bI ((nI 0) ≤ (nI 1) ∧ (nI 1) ≤ (nI 1)))] g A _
    refine rr_bne (t := 19) d_269_14 (by decide) (fun c14 => ?_) (fun c14 => ?_)
    · refine rr_cq (rr_wk (by decide) (s_near19 hk h1 hm6 (by decide) hj hsh.2 hl.1)) ?_
      rintro r_ g_ A_ ⟨rfl, h1_, h2_⟩
      exact ⟨rfl, (hW.q h1_ h2_).mo⟩
    · exact absurd (show nI 0 ≤ nI 1 ∧ nI 1 ≤ nI 1 by decide) c14
theorem p_near_n {S : CS} {G : Nat → Nat → Value} {B : Nat → Nat → Int32} {J : Nat → Nat → Int64} {R : Nat → Nat → Option Nat} {n : Nat} {W : WS} (hW : WC n S G B R W) {t : Int32} (hh : ¬ hasP (wK W) t) {w : Int32} : CR 80 163 0 [some (.ref 2), some (.int t), some (.int w)] [] S G B J R (fun r S' G' B' J' R' => r = some (.int (-1)) ∧ WC (n + 1) S' G' B' R' W) := by
  have hS := hW.1.1
  have hF := hW.2.1
  have hO := hW.2.2.2.1
  obtain ⟨ta, ka, la, hH, hLk, hl2, hs3, hbd⟩ := hW.2.2.1
  refine cr_nx (pc' := 1) (al' := [some (.ref 2), some (.int t), some (.int w)]) (st' := [.ref 2]) d_163_0 (fun _ => rfl) ?_
  refine cr_nx (pc' := 2) (al' := [some (.ref 2), some (.int t), some (.int w)]) (st' := [.int t, .ref 2]) d_163_1 (fun _ => rfl) ?_
  refine cr_pv (b := 2) (as := [.int t]) (al0 := [some (.ref 2), some (.int t)]) (r := []) d_163_2 cw_163 cm_11_137 cz_126 rfl rfl (hS.i (a := 2) (by decide) (by decide)) (by rw [cw_126]; exact (hS.s (a := 2) (by decide) (by decide) rfl)) (by rw [cw_126]; decide) rfl (Nat.le_of_ble_eq_true rfl) (k_has hS hF hH hO) ?_
  show CR _ _ 5 [some (.ref 2), some (.int t), some (.int w)] [.int (bI (hasP (wK W) t))] S G B J R _
  refine cr_beq (t := 17) d_163_5 (by decide) (fun c5 => ?_) (fun c5 => ?_)
  · refine cr_nx (pc' := 18) (al' := [some (.ref 2), some (.int t), some (.int w)]) (st' := [.int (-1)]) d_163_17 (fun _ => rfl) ?_
    exact cr_ri d_163_18 cx_163 rfl ⟨rfl, hW.mo⟩
  · exact absurd c5 hh
theorem r_near_n {g : Nat → Int32} {A : Nat → Nat → Int32} {n : Nat} {W : WS} (hW : WR n g A W) (hO : CoOk (wK W)) {t : Int32} (hh : ¬ hasP (wK W) t) {w : Int32} : RR 80 269 0 [some (.ref 146), some (.int t), some (.int w), none, none, none, none, none, none, none, none, none, none, none] [] g A (fun r g' A' => r = some (.int (-1)) ∧ WR (n + 1) g' A' W) := by
  refine rr_nx (pc' := 1) (al' := [some (.ref 146), some (.int t), some (.int w), none, none, none, none, none, none, none, none, none, none, none]) (st' := [.ref 146]) d_269_0 (fun _ => rfl) ?_
  refine rr_nx (pc' := 2) (al' := [some (.ref 146), some (.int t), some (.int w), none, none, none, none, none, none, none, none, none, none, none]) (st' := [.int t, .ref 146]) d_269_1 (fun _ => rfl) ?_
  refine rr_pv (as := [.int t]) (al0 := [some (.ref 146), some (.int t)]) (r := []) d_269_2 mo_269 ml_124 mz_184 rfl rfl rfl (Nat.le_of_ble_eq_true rfl) (s_isTable t) ?_
  show RR _ _ 5 [some (.ref 146), some (.int t), some (.int w), none, none, none, none, none, none, none, none, none, none, none] [.int (bI (isT A t))] g A _
  refine rr_beq (t := 17) d_269_5 (by decide) (fun c5 => ?_) (fun c5 => ?_)
  · refine rr_nx (pc' := 18) (al' := [some (.ref 146), some (.int t), some (.int w), none, none, none, none, none, none, none, none, none, none, none]) (st' := [.int (-1)]) d_269_17 (fun _ => rfl) ?_
    exact rr_ri d_269_18 mr_269 rfl ⟨rfl, hW.mo⟩
  · exact absurd c5 (fun e_ => hh ((has_r hW hO).mp e_))
theorem T_near {S : CS} {G : Nat → Nat → Value} {B : Nat → Nat → Int32} {J : Nat → Nat → Int64} {R : Nat → Nat → Option Nat} {g : Nat → Int32} {A : Nat → Nat → Int32} {n : Nat} {W : WS} (hC : WC n S G B R W) (hR : WR n g A W) (hn : n ≤ 10000) {t : Int32} {w : Int32} : Tie n 163 269 [some (.ref 2), some (.int t), some (.int w)] [some (.ref 146), some (.int t), some (.int w), none, none, none, none, none, none, none, none, none, none, none] S G B J R g A W := by
  have hO := hC.2.2.2.1
  by_cases hh : hasP (wK W) t
  · obtain ⟨j, hj, e_, h1⟩ := has_n hh
    subst e_
    obtain ⟨⟨m, c⟩, htb⟩ : ∃ tb, tbK (wK W) j = tb := ⟨_, rfl⟩
    rw [htb] at h1
    by_cases hw : inP w 2
    · obtain ⟨k, hk, e_⟩ := in_n hw
      subst e_
      have hk2 : k = 0 ∨ k = 1 := by omega
      rcases hk2 with rfl | rfl
      · exact ⟨_, W, p_near0 hC hj htb h1, r_near0 hR hO hj htb h1⟩
      · exact ⟨_, W, p_near1 hC hj htb h1, r_near1 hR hO hj htb h1⟩
    · exact ⟨_, W, p_nearX hC hj htb h1 hw, r_nearX hR hO hj htb h1 hw⟩
  · exact ⟨_, W, p_near_n hC hh, r_near_n hR hO hh⟩
theorem p_apart_y {S : CS} {G : Nat → Nat → Value} {B : Nat → Nat → Int32} {J : Nat → Nat → Int64} {R : Nat → Nat → Option Nat} {n : Nat} {W : WS} (hW : WC n S G B R W) {j m j2 m2 : Nat} {c c2 : Nat → Nat} (hj : j < 6) (htb : tbK (wK W) j = (m, c)) (h1 : 1 ≤ m) (hj2 : j2 < 6) (htb2 : tbK (wK W) j2 = (m2, c2)) (h12 : 1 ≤ m2) (hmm : m = m2) : CR 80 162 0 [some (.ref 2), some (.int (nI j)), some (.int (nI j2))] [] S G B J R (fun r S' G' B' J' R' => r = some (.int (nI (dfN (m * m) c c2))) ∧ WC (n + 1) S' G' B' R' W) := by
  have hS := hW.1.1
  have hF := hW.2.1
  have hO := hW.2.2.2.1
  obtain ⟨ta, ka, la, hH, hLk, hl2, hs3, hbd⟩ := hW.2.2.1
  obtain ⟨zt, hzt, ezt⟩ := (hH.2.1 j hj).2
  have ht := hH.ta hj
  have hsh := hH.2.2.2.2.2.2.1 j hj
  rw [show kH (wK W) (kD (wK W)) j = (m, c) from htb] at hsh
  have hok := tb_ok hO hj
  rw [htb] at hok
  have hn : G (ta j) 0 = .int (nI m) := hsh.1
  have hc : TabC B (ta j) m c := hsh.c hok
  have hl : Lat m c := hok.2
  have hm6 : m ≤ 6 := hok.1
  have hyes : hasP (wK W) (nI j) := (has_i hj).mpr (by rw [htb]; exact h1)
  obtain ⟨zt2, hzt2, ezt2⟩ := (hH.2.1 j2 hj2).2
  have ht2 := hH.ta hj2
  have hsh2 := hH.2.2.2.2.2.2.1 j2 hj2
  rw [show kH (wK W) (kD (wK W)) j2 = (m2, c2) from htb2] at hsh2
  have hok2 := tb_ok hO hj2
  rw [htb2] at hok2
  have hn2 : G (ta j2) 0 = .int (nI m2) := hsh2.1
  have hc2 : TabC B (ta j2) m2 c2 := hsh2.c hok2
  have hl2 : Lat m2 c2 := hok2.2
  have hm62 : m2 ≤ 6 := hok2.1
  have hyes2 : hasP (wK W) (nI j2) := (has_i hj2).mpr (by rw [htb2]; exact h12)
  refine cr_nx (pc' := 1) (al' := [some (.ref 2), some (.int (nI j)), some (.int (nI j2))]) (st' := [.ref 2]) d_162_0 (fun _ => rfl) ?_
  refine cr_nx (pc' := 2) (al' := [some (.ref 2), some (.int (nI j)), some (.int (nI j2))]) (st' := [.int (nI j), .ref 2]) d_162_1 (fun _ => rfl) ?_
  refine cr_pv (b := 2) (as := [.int (nI j)]) (al0 := [some (.ref 2), some (.int (nI j))]) (r := []) d_162_2 cw_162 cm_11_137 cz_126 rfl rfl (hS.i (a := 2) (by decide) (by decide)) (by rw [cw_126]; exact (hS.s (a := 2) (by decide) (by decide) rfl)) (by rw [cw_126]; decide) rfl (Nat.le_of_ble_eq_true rfl) (k_has hS hF hH hO) ?_
  show CR _ _ 5 [some (.ref 2), some (.int (nI j)), some (.int (nI j2))] [.int (bI (hasP (wK W) (nI j)))] S G B J R _
  refine cr_beq (t := 43) d_162_5 (by decide) (fun c5 => ?_) (fun c5 => ?_)
  · exact absurd hyes c5
  · refine cr_nx (pc' := 9) (al' := [some (.ref 2), some (.int (nI j)), some (.int (nI j2))]) (st' := [.ref 2]) d_162_8 (fun _ => rfl) ?_
    refine cr_nx (pc' := 10) (al' := [some (.ref 2), some (.int (nI j)), some (.int (nI j2))]) (st' := [.int (nI j2), .ref 2]) d_162_9 (fun _ => rfl) ?_
    refine cr_pv (b := 2) (as := [.int (nI j2)]) (al0 := [some (.ref 2), some (.int (nI j2))]) (r := []) d_162_10 cw_162 cm_11_137 cz_126 rfl rfl (hS.i (a := 2) (by decide) (by decide)) (by rw [cw_126]; exact (hS.s (a := 2) (by decide) (by decide) rfl)) (by rw [cw_126]; decide) rfl (Nat.le_of_ble_eq_true rfl) (k_has hS hF hH hO) ?_
    show CR _ _ 13 [some (.ref 2), some (.int (nI j)), some (.int (nI j2))] [.int (bI (hasP (wK W) (nI j2)))] S G B J R _
    refine cr_beq (t := 43) d_162_13 (by decide) (fun c13 => ?_) (fun c13 => ?_)
    · exact absurd hyes2 c13
    · refine cr_nx (pc' := 17) (al' := [some (.ref 2), some (.int (nI j)), some (.int (nI j2))]) (st' := [.ref 2]) d_162_16 (fun _ => rfl) ?_
      refine cr_gf (v := .ref 3) d_162_17 cw_162 cf_11_10 (hS.i (a := 2) (by decide) (by decide)) (hS.s (a := 2) (by decide) (by decide) rfl) (by decide) (fx_2_0 hF) ?_
      refine cr_gf (v := .ref 4) d_162_20 cw_162 cf_11_140 (hS.i (a := 3) (by decide) (by decide)) (hS.s (a := 3) (by decide) (by decide) rfl) (by decide) (fx_3_0 hF) ?_
      refine cr_nx (pc' := 24) (al' := [some (.ref 2), some (.int (nI j)), some (.int (nI j2))]) (st' := [.int (nI j), .ref 4]) d_162_23 (fun _ => rfl) ?_
      refine cr_aa (a := 4) (v := .ref (ta j)) d_162_24 (hS.i (a := 4) (by decide) (by decide)) (by decide) (hS.s (a := 4) (by decide) (by decide) rfl) (by decide) (show j < 6 by first | omega | assumption | exact cu_36 (by omega) (cu_lt (by omega) (by omega))) (show va_rf _ = _ by rw [(hH.2.1 j hj).1]; rfl) ?_
      refine cr_gf (v := .int (nI m)) d_162_25 cw_162 cf_11_112 ht.1 ht.2.2.1 (by decide) hn ?_
      refine cr_nx (pc' := 29) (al' := [some (.ref 2), some (.int (nI j)), some (.int (nI j2))]) (st' := [.ref 2, .int (nI m)]) d_162_28 (fun _ => rfl) ?_
      refine cr_gf (v := .ref 3) d_162_29 cw_162 cf_11_10 (hS.i (a := 2) (by decide) (by decide)) (hS.s (a := 2) (by decide) (by decide) rfl) (by decide) (fx_2_0 hF) ?_
      refine cr_gf (v := .ref 4) d_162_32 cw_162 cf_11_140 (hS.i (a := 3) (by decide) (by decide)) (hS.s (a := 3) (by decide) (by decide) rfl) (by decide) (fx_3_0 hF) ?_
      refine cr_nx (pc' := 36) (al' := [some (.ref 2), some (.int (nI j)), some (.int (nI j2))]) (st' := [.int (nI j2), .ref 4, .int (nI m)]) d_162_35 (fun _ => rfl) ?_
      refine cr_aa (a := 4) (v := .ref (ta j2)) d_162_36 (hS.i (a := 4) (by decide) (by decide)) (by decide) (hS.s (a := 4) (by decide) (by decide) rfl) (by decide) (show j2 < 6 by first | omega | assumption | exact cu_36 (by omega) (cu_lt (by omega) (by omega))) (show va_rf _ = _ by rw [(hH.2.1 j2 hj2).1]; rfl) ?_
      refine cr_gf (v := .int (nI m2)) d_162_37 cw_162 cf_11_112 ht2.1 ht2.2.2.1 (by decide) hn2 ?_
      refine cn_ceq (t := 45) d_162_40 (by decide) (by first | omega | assumption | exact cu_36 (by omega) (cu_lt (by omega) (by omega))) (by first | omega | assumption | exact cu_36 (by omega) (cu_lt (by omega) (by omega))) (fun c40 => ?_) (fun c40 => ?_)
      · refine cr_nx (pc' := 46) (al' := [some (.ref 2), some (.int (nI j)), some (.int (nI j2))]) (st' := [.ref 2]) d_162_45 (fun _ => rfl) ?_
        refine cr_gf (v := .ref 3) d_162_46 cw_162 cf_11_10 (hS.i (a := 2) (by decide) (by decide)) (hS.s (a := 2) (by decide) (by decide) rfl) (by decide) (fx_2_0 hF) ?_
        refine cr_gf (v := .ref 4) d_162_49 cw_162 cf_11_140 (hS.i (a := 3) (by decide) (by decide)) (hS.s (a := 3) (by decide) (by decide) rfl) (by decide) (fx_3_0 hF) ?_
        refine cr_nx (pc' := 53) (al' := [some (.ref 2), some (.int (nI j)), some (.int (nI j2))]) (st' := [.int (nI j), .ref 4]) d_162_52 (fun _ => rfl) ?_
        refine cr_aa (a := 4) (v := .ref (ta j)) d_162_53 (hS.i (a := 4) (by decide) (by decide)) (by decide) (hS.s (a := 4) (by decide) (by decide) rfl) (by decide) (show j < 6 by first | omega | assumption | exact cu_36 (by omega) (cu_lt (by omega) (by omega))) (show va_rf _ = _ by rw [(hH.2.1 j hj).1]; rfl) ?_
        refine cr_nx (pc' := 55) (al' := [some (.ref 2), some (.int (nI j)), some (.int (nI j2))]) (st' := [.ref 2, .ref (ta j)]) d_162_54 (fun _ => rfl) ?_
        refine cr_gf (v := .ref 3) d_162_55 cw_162 cf_11_10 (hS.i (a := 2) (by decide) (by decide)) (hS.s (a := 2) (by decide) (by decide) rfl) (by decide) (fx_2_0 hF) ?_
        refine cr_gf (v := .ref 4) d_162_58 cw_162 cf_11_140 (hS.i (a := 3) (by decide) (by decide)) (hS.s (a := 3) (by decide) (by decide) rfl) (by decide) (fx_3_0 hF) ?_
        refine cr_nx (pc' := 62) (al' := [some (.ref 2), some (.int (nI j)), some (.int (nI j2))]) (st' := [.int (nI j2), .ref 4, .ref (ta j)]) d_162_61 (fun _ => rfl) ?_
        refine cr_aa (a := 4) (v := .ref (ta j2)) d_162_62 (hS.i (a := 4) (by decide) (by decide)) (by decide) (hS.s (a := 4) (by decide) (by decide) rfl) (by decide) (show j2 < 6 by first | omega | assumption | exact cu_36 (by omega) (cu_lt (by omega) (by omega))) (show va_rf _ = _ by rw [(hH.2.1 j2 hj2).1]; rfl) ?_
        refine cr_pv (b := (ta j)) (as := [.ref (ta j2)]) (al0 := [some (.ref (ta j)), some (.ref (ta j2)), none, none]) (r := []) d_162_63 cw_162 cm_11_309 cz_109 rfl rfl ht.1 (by rw [cw_109]; exact ht.2.2.1) (by rw [cw_109]; decide) rfl (Nat.le_of_ble_eq_true rfl) (k_differences ht hn hc ht2 (by rw [hmm]; exact hc2)) ?_
        show CR _ _ 66 [some (.ref 2), some (.int (nI j)), some (.int (nI j2))] [.int (nI (dfN (m * m) c c2))] S G B J R _
        exact cr_ri d_162_66 cx_162 rfl ⟨rfl, hW.mo⟩
      · exact absurd hmm c40
theorem p_apart_d {S : CS} {G : Nat → Nat → Value} {B : Nat → Nat → Int32} {J : Nat → Nat → Int64} {R : Nat → Nat → Option Nat} {n : Nat} {W : WS} (hW : WC n S G B R W) {j m j2 m2 : Nat} {c c2 : Nat → Nat} (hj : j < 6) (htb : tbK (wK W) j = (m, c)) (h1 : 1 ≤ m) (hj2 : j2 < 6) (htb2 : tbK (wK W) j2 = (m2, c2)) (h12 : 1 ≤ m2) (hmm : ¬ m = m2) : CR 80 162 0 [some (.ref 2), some (.int (nI j)), some (.int (nI j2))] [] S G B J R (fun r S' G' B' J' R' => r = some (.int (-1)) ∧ WC (n + 1) S' G' B' R' W) := by
  have hS := hW.1.1
  have hF := hW.2.1
  have hO := hW.2.2.2.1
  obtain ⟨ta, ka, la, hH, hLk, hl2, hs3, hbd⟩ := hW.2.2.1
  obtain ⟨zt, hzt, ezt⟩ := (hH.2.1 j hj).2
  have ht := hH.ta hj
  have hsh := hH.2.2.2.2.2.2.1 j hj
  rw [show kH (wK W) (kD (wK W)) j = (m, c) from htb] at hsh
  have hok := tb_ok hO hj
  rw [htb] at hok
  have hn : G (ta j) 0 = .int (nI m) := hsh.1
  have hc : TabC B (ta j) m c := hsh.c hok
  have hl : Lat m c := hok.2
  have hm6 : m ≤ 6 := hok.1
  have hyes : hasP (wK W) (nI j) := (has_i hj).mpr (by rw [htb]; exact h1)
  obtain ⟨zt2, hzt2, ezt2⟩ := (hH.2.1 j2 hj2).2
  have ht2 := hH.ta hj2
  have hsh2 := hH.2.2.2.2.2.2.1 j2 hj2
  rw [show kH (wK W) (kD (wK W)) j2 = (m2, c2) from htb2] at hsh2
  have hok2 := tb_ok hO hj2
  rw [htb2] at hok2
  have hn2 : G (ta j2) 0 = .int (nI m2) := hsh2.1
  have hc2 : TabC B (ta j2) m2 c2 := hsh2.c hok2
  have hl2 : Lat m2 c2 := hok2.2
  have hm62 : m2 ≤ 6 := hok2.1
  have hyes2 : hasP (wK W) (nI j2) := (has_i hj2).mpr (by rw [htb2]; exact h12)
  refine cr_nx (pc' := 1) (al' := [some (.ref 2), some (.int (nI j)), some (.int (nI j2))]) (st' := [.ref 2]) d_162_0 (fun _ => rfl) ?_
  refine cr_nx (pc' := 2) (al' := [some (.ref 2), some (.int (nI j)), some (.int (nI j2))]) (st' := [.int (nI j), .ref 2]) d_162_1 (fun _ => rfl) ?_
  refine cr_pv (b := 2) (as := [.int (nI j)]) (al0 := [some (.ref 2), some (.int (nI j))]) (r := []) d_162_2 cw_162 cm_11_137 cz_126 rfl rfl (hS.i (a := 2) (by decide) (by decide)) (by rw [cw_126]; exact (hS.s (a := 2) (by decide) (by decide) rfl)) (by rw [cw_126]; decide) rfl (Nat.le_of_ble_eq_true rfl) (k_has hS hF hH hO) ?_
  show CR _ _ 5 [some (.ref 2), some (.int (nI j)), some (.int (nI j2))] [.int (bI (hasP (wK W) (nI j)))] S G B J R _
  refine cr_beq (t := 43) d_162_5 (by decide) (fun c5 => ?_) (fun c5 => ?_)
  · exact absurd hyes c5
  · refine cr_nx (pc' := 9) (al' := [some (.ref 2), some (.int (nI j)), some (.int (nI j2))]) (st' := [.ref 2]) d_162_8 (fun _ => rfl) ?_
    refine cr_nx (pc' := 10) (al' := [some (.ref 2), some (.int (nI j)), some (.int (nI j2))]) (st' := [.int (nI j2), .ref 2]) d_162_9 (fun _ => rfl) ?_
    refine cr_pv (b := 2) (as := [.int (nI j2)]) (al0 := [some (.ref 2), some (.int (nI j2))]) (r := []) d_162_10 cw_162 cm_11_137 cz_126 rfl rfl (hS.i (a := 2) (by decide) (by decide)) (by rw [cw_126]; exact (hS.s (a := 2) (by decide) (by decide) rfl)) (by rw [cw_126]; decide) rfl (Nat.le_of_ble_eq_true rfl) (k_has hS hF hH hO) ?_
    show CR _ _ 13 [some (.ref 2), some (.int (nI j)), some (.int (nI j2))] [.int (bI (hasP (wK W) (nI j2)))] S G B J R _
    refine cr_beq (t := 43) d_162_13 (by decide) (fun c13 => ?_) (fun c13 => ?_)
    · exact absurd hyes2 c13
    · refine cr_nx (pc' := 17) (al' := [some (.ref 2), some (.int (nI j)), some (.int (nI j2))]) (st' := [.ref 2]) d_162_16 (fun _ => rfl) ?_
      refine cr_gf (v := .ref 3) d_162_17 cw_162 cf_11_10 (hS.i (a := 2) (by decide) (by decide)) (hS.s (a := 2) (by decide) (by decide) rfl) (by decide) (fx_2_0 hF) ?_
      refine cr_gf (v := .ref 4) d_162_20 cw_162 cf_11_140 (hS.i (a := 3) (by decide) (by decide)) (hS.s (a := 3) (by decide) (by decide) rfl) (by decide) (fx_3_0 hF) ?_
      refine cr_nx (pc' := 24) (al' := [some (.ref 2), some (.int (nI j)), some (.int (nI j2))]) (st' := [.int (nI j), .ref 4]) d_162_23 (fun _ => rfl) ?_
      refine cr_aa (a := 4) (v := .ref (ta j)) d_162_24 (hS.i (a := 4) (by decide) (by decide)) (by decide) (hS.s (a := 4) (by decide) (by decide) rfl) (by decide) (show j < 6 by first | omega | assumption | exact cu_36 (by omega) (cu_lt (by omega) (by omega))) (show va_rf _ = _ by rw [(hH.2.1 j hj).1]; rfl) ?_
      refine cr_gf (v := .int (nI m)) d_162_25 cw_162 cf_11_112 ht.1 ht.2.2.1 (by decide) hn ?_
      refine cr_nx (pc' := 29) (al' := [some (.ref 2), some (.int (nI j)), some (.int (nI j2))]) (st' := [.ref 2, .int (nI m)]) d_162_28 (fun _ => rfl) ?_
      refine cr_gf (v := .ref 3) d_162_29 cw_162 cf_11_10 (hS.i (a := 2) (by decide) (by decide)) (hS.s (a := 2) (by decide) (by decide) rfl) (by decide) (fx_2_0 hF) ?_
      refine cr_gf (v := .ref 4) d_162_32 cw_162 cf_11_140 (hS.i (a := 3) (by decide) (by decide)) (hS.s (a := 3) (by decide) (by decide) rfl) (by decide) (fx_3_0 hF) ?_
      refine cr_nx (pc' := 36) (al' := [some (.ref 2), some (.int (nI j)), some (.int (nI j2))]) (st' := [.int (nI j2), .ref 4, .int (nI m)]) d_162_35 (fun _ => rfl) ?_
      refine cr_aa (a := 4) (v := .ref (ta j2)) d_162_36 (hS.i (a := 4) (by decide) (by decide)) (by decide) (hS.s (a := 4) (by decide) (by decide) rfl) (by decide) (show j2 < 6 by first | omega | assumption | exact cu_36 (by omega) (cu_lt (by omega) (by omega))) (show va_rf _ = _ by rw [(hH.2.1 j2 hj2).1]; rfl) ?_
      refine cr_gf (v := .int (nI m2)) d_162_37 cw_162 cf_11_112 ht2.1 ht2.2.2.1 (by decide) hn2 ?_
      refine cn_ceq (t := 45) d_162_40 (by decide) (by first | omega | assumption | exact cu_36 (by omega) (cu_lt (by omega) (by omega))) (by first | omega | assumption | exact cu_36 (by omega) (cu_lt (by omega) (by omega))) (fun c40 => ?_) (fun c40 => ?_)
      · exact absurd c40 hmm
      · refine cr_nx (pc' := 44) (al' := [some (.ref 2), some (.int (nI j)), some (.int (nI j2))]) (st' := [.int (-1)]) d_162_43 (fun _ => rfl) ?_
        exact cr_ri d_162_44 cx_162 rfl ⟨rfl, hW.mo⟩
theorem p_apart_a {S : CS} {G : Nat → Nat → Value} {B : Nat → Nat → Int32} {J : Nat → Nat → Int64} {R : Nat → Nat → Option Nat} {n : Nat} {W : WS} (hW : WC n S G B R W) {t : Int32} (hh : ¬ hasP (wK W) t) {w : Int32} : CR 80 162 0 [some (.ref 2), some (.int t), some (.int w)] [] S G B J R (fun r S' G' B' J' R' => r = some (.int (-1)) ∧ WC (n + 1) S' G' B' R' W) := by
  have hS := hW.1.1
  have hF := hW.2.1
  have hO := hW.2.2.2.1
  obtain ⟨ta, ka, la, hH, hLk, hl2, hs3, hbd⟩ := hW.2.2.1
  refine cr_nx (pc' := 1) (al' := [some (.ref 2), some (.int t), some (.int w)]) (st' := [.ref 2]) d_162_0 (fun _ => rfl) ?_
  refine cr_nx (pc' := 2) (al' := [some (.ref 2), some (.int t), some (.int w)]) (st' := [.int t, .ref 2]) d_162_1 (fun _ => rfl) ?_
  refine cr_pv (b := 2) (as := [.int t]) (al0 := [some (.ref 2), some (.int t)]) (r := []) d_162_2 cw_162 cm_11_137 cz_126 rfl rfl (hS.i (a := 2) (by decide) (by decide)) (by rw [cw_126]; exact (hS.s (a := 2) (by decide) (by decide) rfl)) (by rw [cw_126]; decide) rfl (Nat.le_of_ble_eq_true rfl) (k_has hS hF hH hO) ?_
  show CR _ _ 5 [some (.ref 2), some (.int t), some (.int w)] [.int (bI (hasP (wK W) t))] S G B J R _
  refine cr_beq (t := 43) d_162_5 (by decide) (fun c5 => ?_) (fun c5 => ?_)
  · refine cr_nx (pc' := 44) (al' := [some (.ref 2), some (.int t), some (.int w)]) (st' := [.int (-1)]) d_162_43 (fun _ => rfl) ?_
    exact cr_ri d_162_44 cx_162 rfl ⟨rfl, hW.mo⟩
  · exact absurd c5 hh
theorem p_apart_b {S : CS} {G : Nat → Nat → Value} {B : Nat → Nat → Int32} {J : Nat → Nat → Int64} {R : Nat → Nat → Option Nat} {n : Nat} {W : WS} (hW : WC n S G B R W) {j m : Nat} {c : Nat → Nat} (hj : j < 6) (htb : tbK (wK W) j = (m, c)) (h1 : 1 ≤ m) {t : Int32} (hh : ¬ hasP (wK W) t) : CR 80 162 0 [some (.ref 2), some (.int (nI j)), some (.int t)] [] S G B J R (fun r S' G' B' J' R' => r = some (.int (-1)) ∧ WC (n + 1) S' G' B' R' W) := by
  have hS := hW.1.1
  have hF := hW.2.1
  have hO := hW.2.2.2.1
  obtain ⟨ta, ka, la, hH, hLk, hl2, hs3, hbd⟩ := hW.2.2.1
  obtain ⟨zt, hzt, ezt⟩ := (hH.2.1 j hj).2
  have ht := hH.ta hj
  have hsh := hH.2.2.2.2.2.2.1 j hj
  rw [show kH (wK W) (kD (wK W)) j = (m, c) from htb] at hsh
  have hok := tb_ok hO hj
  rw [htb] at hok
  have hn : G (ta j) 0 = .int (nI m) := hsh.1
  have hc : TabC B (ta j) m c := hsh.c hok
  have hl : Lat m c := hok.2
  have hm6 : m ≤ 6 := hok.1
  have hyes : hasP (wK W) (nI j) := (has_i hj).mpr (by rw [htb]; exact h1)
  refine cr_nx (pc' := 1) (al' := [some (.ref 2), some (.int (nI j)), some (.int t)]) (st' := [.ref 2]) d_162_0 (fun _ => rfl) ?_
  refine cr_nx (pc' := 2) (al' := [some (.ref 2), some (.int (nI j)), some (.int t)]) (st' := [.int (nI j), .ref 2]) d_162_1 (fun _ => rfl) ?_
  refine cr_pv (b := 2) (as := [.int (nI j)]) (al0 := [some (.ref 2), some (.int (nI j))]) (r := []) d_162_2 cw_162 cm_11_137 cz_126 rfl rfl (hS.i (a := 2) (by decide) (by decide)) (by rw [cw_126]; exact (hS.s (a := 2) (by decide) (by decide) rfl)) (by rw [cw_126]; decide) rfl (Nat.le_of_ble_eq_true rfl) (k_has hS hF hH hO) ?_
  show CR _ _ 5 [some (.ref 2), some (.int (nI j)), some (.int t)] [.int (bI (hasP (wK W) (nI j)))] S G B J R _
  refine cr_beq (t := 43) d_162_5 (by decide) (fun c5 => ?_) (fun c5 => ?_)
  · exact absurd hyes c5
  · refine cr_nx (pc' := 9) (al' := [some (.ref 2), some (.int (nI j)), some (.int t)]) (st' := [.ref 2]) d_162_8 (fun _ => rfl) ?_
    refine cr_nx (pc' := 10) (al' := [some (.ref 2), some (.int (nI j)), some (.int t)]) (st' := [.int t, .ref 2]) d_162_9 (fun _ => rfl) ?_
    refine cr_pv (b := 2) (as := [.int t]) (al0 := [some (.ref 2), some (.int t)]) (r := []) d_162_10 cw_162 cm_11_137 cz_126 rfl rfl (hS.i (a := 2) (by decide) (by decide)) (by rw [cw_126]; exact (hS.s (a := 2) (by decide) (by decide) rfl)) (by rw [cw_126]; decide) rfl (Nat.le_of_ble_eq_true rfl) (k_has hS hF hH hO) ?_
    show CR _ _ 13 [some (.ref 2), some (.int (nI j)), some (.int t)] [.int (bI (hasP (wK W) t))] S G B J R _
    refine cr_beq (t := 43) d_162_13 (by decide) (fun c13 => ?_) (fun c13 => ?_)
    · refine cr_nx (pc' := 44) (al' := [some (.ref 2), some (.int (nI j)), some (.int t)]) (st' := [.int (-1)]) d_162_43 (fun _ => rfl) ?_
      exact cr_ri d_162_44 cx_162 rfl ⟨rfl, hW.mo⟩
    · exact absurd c13 hh
theorem s_ordN {g : Nat → Int32} {A : Nat → Nat → Int32} {t m : Nat} (ht : t < 6) (hk : A 1 (37 * t) = nI m) : RR 0 186 0 [some (.ref 146), some (.int (nI t))] [] g A (rP (some (.int (nI m))) g A) := hk ▸ s_orderOf ht
theorem dfN_su {m : Nat} {c d : Nat → Nat} : dfN (m + 1) c d = dfN m c d + dfF c d m := rfl
theorem r_apart_y {g : Nat → Int32} {A : Nat → Nat → Int32} {n : Nat} {W : WS} (hW : WR n g A W) (hO : CoOk (wK W)) {j m j2 m2 : Nat} {c c2 : Nat → Nat} (hj : j < 6) (htb : tbK (wK W) j = (m, c)) (h1 : 1 ≤ m) (hj2 : j2 < 6) (htb2 : tbK (wK W) j2 = (m2, c2)) (h12 : 1 ≤ m2) (hmm : m = m2) : RR 80 268 0 [some (.ref 146), some (.int (nI j)), some (.int (nI j2)), none, none] [] g A (fun r g' A' => r = some (.int (nI (dfN (m * m) c c2))) ∧ WR (n + 1) g' A' W) := by
  have hsh := hW.1.1.1 j hj
  rw [show kH (wK W) (kD (wK W)) j = (m, c) from htb] at hsh
  have hok := tb_ok hO hj
  rw [htb] at hok
  have hk : A 1 (37 * j) = nI m := hsh.1
  have hl : Lat m c := hok.2
  have hm6 : m ≤ 6 := hok.1
  have hyes : isT A (nI j) := (has_r hW hO).mpr ((has_i hj).mpr (by rw [htb]; exact h1))
  have hsh2 := hW.1.1.1 j2 hj2
  rw [show kH (wK W) (kD (wK W)) j2 = (m2, c2) from htb2] at hsh2
  have hok2 := tb_ok hO hj2
  rw [htb2] at hok2
  have hk2 : A 1 (37 * j2) = nI m2 := hsh2.1
  have hl2 : Lat m2 c2 := hok2.2
  have hm62 : m2 ≤ 6 := hok2.1
  have hyes2 : isT A (nI j2) := (has_r hW hO).mpr ((has_i hj2).mpr (by rw [htb2]; exact h12))
  have h36 := Nat.mul_le_mul hm6 hm6
  have h22 : m2 * m2 = m * m := by rw [hmm]
  refine rr_nx (pc' := 1) (al' := [some (.ref 146), some (.int (nI j)), some (.int (nI j2)), none, none]) (st' := [.ref 146]) d_268_0 (fun _ => rfl) ?_
  refine rr_nx (pc' := 2) (al' := [some (.ref 146), some (.int (nI j)), some (.int (nI j2)), none, none]) (st' := [.int (nI j), .ref 146]) d_268_1 (fun _ => rfl) ?_
  refine rr_pv (as := [.int (nI j)]) (al0 := [some (.ref 146), some (.int (nI j))]) (r := []) d_268_2 mo_268 ml_124 mz_184 rfl rfl rfl (Nat.le_of_ble_eq_true rfl) (s_isTable (nI j)) ?_
  show RR _ _ 5 [some (.ref 146), some (.int (nI j)), some (.int (nI j2)), none, none] [.int (bI (isT A (nI j)))] g A _
  refine rr_beq (t := 29) d_268_5 (by decide) (fun c5 => ?_) (fun c5 => ?_)
  · exact absurd hyes c5
  · refine rr_nx (pc' := 9) (al' := [some (.ref 146), some (.int (nI j)), some (.int (nI j2)), none, none]) (st' := [.ref 146]) d_268_8 (fun _ => rfl) ?_
    refine rr_nx (pc' := 10) (al' := [some (.ref 146), some (.int (nI j)), some (.int (nI j2)), none, none]) (st' := [.int (nI j2), .ref 146]) d_268_9 (fun _ => rfl) ?_
    refine rr_pv (as := [.int (nI j2)]) (al0 := [some (.ref 146), some (.int (nI j2))]) (r := []) d_268_10 mo_268 ml_124 mz_184 rfl rfl rfl (Nat.le_of_ble_eq_true rfl) (s_isTable (nI j2)) ?_
    show RR _ _ 13 [some (.ref 146), some (.int (nI j)), some (.int (nI j2)), none, none] [.int (bI (isT A (nI j2)))] g A _
    refine rr_beq (t := 29) d_268_13 (by decide) (fun c13 => ?_) (fun c13 => ?_)
    · exact absurd hyes2 c13
    · refine rr_nx (pc' := 17) (al' := [some (.ref 146), some (.int (nI j)), some (.int (nI j2)), none, none]) (st' := [.ref 146]) d_268_16 (fun _ => rfl) ?_
      refine rr_nx (pc' := 18) (al' := [some (.ref 146), some (.int (nI j)), some (.int (nI j2)), none, none]) (st' := [.int (nI j), .ref 146]) d_268_17 (fun _ => rfl) ?_
      refine rr_pv (as := [.int (nI j)]) (al0 := [some (.ref 146), some (.int (nI j))]) (r := []) d_268_18 mo_268 ml_121 mz_186 rfl rfl rfl (Nat.le_of_ble_eq_true rfl) (s_ordN hj hk) ?_
      show RR _ _ 21 [some (.ref 146), some (.int (nI j)), some (.int (nI j2)), none, none] [.int (nI m)] g A _
      refine rr_nx (pc' := 22) (al' := [some (.ref 146), some (.int (nI j)), some (.int (nI j2)), none, none]) (st' := [.ref 146, .int (nI m)]) d_268_21 (fun _ => rfl) ?_
      refine rr_nx (pc' := 23) (al' := [some (.ref 146), some (.int (nI j)), some (.int (nI j2)), none, none]) (st' := [.int (nI j2), .ref 146, .int (nI m)]) d_268_22 (fun _ => rfl) ?_
      refine rr_pv (as := [.int (nI j2)]) (al0 := [some (.ref 146), some (.int (nI j2))]) (r := [.int (nI m)]) d_268_23 mo_268 ml_121 mz_186 rfl rfl rfl (Nat.le_of_ble_eq_true rfl) (s_ordN hj2 hk2) ?_
      show RR _ _ 26 [some (.ref 146), some (.int (nI j)), some (.int (nI j2)), none, none] [.int (nI m2), .int (nI m)] g A _
      refine rn_ceq (t := 31) d_268_26 (by decide) (by first | omega | assumption | exact cu_36 (by omega) (cu_lt (by omega) (by omega))) (by first | omega | assumption | exact cu_36 (by omega) (cu_lt (by omega) (by omega))) (fun c26 => ?_) (fun c26 => ?_)
      · refine rn_ic (v := 0) d_268_31 (by decide) ?_
        refine rr_nx (pc' := 33) (al' := [some (.ref 146), some (.int (nI j)), some (.int (nI j2)), some (.int (nI 0)), none]) (st' := []) d_268_32 (fun _ => rfl) ?_
        refine rn_ic (v := 1) d_268_33 (by decide) ?_
        refine rr_nx (pc' := 36) (al' := [some (.ref 146), some (.int (nI j)), some (.int (nI j2)), some (.int (nI 0)), some (.int (nI 1))]) (st' := []) d_268_34 (fun _ => rfl) ?_
        refine rr_al (congrArg (fun z__ : Nat => ([some (.ref 146), some (.int (nI j)), some (.int (nI j2)), some (.int (nI z__)), some (.int (nI 1))] : AL)) (show 0 = dfN (1 - 1) c c2 by rfl)) ?_
        refine rr_up (al := fun i => [some (.ref 146), some (.int (nI j)), some (.int (nI j2)), some (.int (nI (dfN (i - 1) c c2))), some (.int (nI i))]) (G := fun i => g) (B := fun i => A) (P := fun i => 1 ≤ i) (n := m * m + 1) (fun i hi pi ihi => ?_) (fun pi => ?_) 1  (by omega) (Nat.le_refl _)
        · show RR _ _ 36 [some (.ref 146), some (.int (nI j)), some (.int (nI j2)), some (.int (nI (dfN (i - 1) c c2))), some (.int (nI i))] [] g A _
          refine rr_nx (pc' := 38) (al' := [some (.ref 146), some (.int (nI j)), some (.int (nI j2)), some (.int (nI (dfN (i - 1) c c2))), some (.int (nI i))]) (st' := [.int (nI i)]) d_268_36 (fun _ => rfl) ?_
          refine rr_nx (pc' := 39) (al' := [some (.ref 146), some (.int (nI j)), some (.int (nI j2)), some (.int (nI (dfN (i - 1) c c2))), some (.int (nI i))]) (st' := [.ref 146, .int (nI i)]) d_268_38 (fun _ => rfl) ?_
          refine rr_nx (pc' := 40) (al' := [some (.ref 146), some (.int (nI j)), some (.int (nI j2)), some (.int (nI (dfN (i - 1) c c2))), some (.int (nI i))]) (st' := [.int (nI j), .ref 146, .int (nI i)]) d_268_39 (fun _ => rfl) ?_
          refine rr_pv (as := [.int (nI j)]) (al0 := [some (.ref 146), some (.int (nI j))]) (r := [.int (nI i)]) d_268_40 mo_268 ml_121 mz_186 rfl rfl rfl (Nat.le_of_ble_eq_true rfl) (s_ordN hj hk) ?_
          show RR _ _ 43 [some (.ref 146), some (.int (nI j)), some (.int (nI j2)), some (.int (nI (dfN (i - 1) c c2))), some (.int (nI i))] [.int (nI m), .int (nI i)] g A _
          refine rr_nx (pc' := 44) (al' := [some (.ref 146), some (.int (nI j)), some (.int (nI j2)), some (.int (nI (dfN (i - 1) c c2))), some (.int (nI i))]) (st' := [.ref 146, .int (nI m), .int (nI i)]) d_268_43 (fun _ => rfl) ?_
          refine rr_nx (pc' := 45) (al' := [some (.ref 146), some (.int (nI j)), some (.int (nI j2)), some (.int (nI (dfN (i - 1) c c2))), some (.int (nI i))]) (st' := [.int (nI j), .ref 146, .int (nI m), .int (nI i)]) d_268_44 (fun _ => rfl) ?_
          refine rr_pv (as := [.int (nI j)]) (al0 := [some (.ref 146), some (.int (nI j))]) (r := [.int (nI m), .int (nI i)]) d_268_45 mo_268 ml_121 mz_186 rfl rfl rfl (Nat.le_of_ble_eq_true rfl) (s_ordN hj hk) ?_
          show RR _ _ 48 [some (.ref 146), some (.int (nI j)), some (.int (nI j2)), some (.int (nI (dfN (i - 1) c c2))), some (.int (nI i))] [.int (nI m), .int (nI m), .int (nI i)] g A _
          refine rn_mul d_268_48  ?_
          refine rn_cgt (t := 93) d_268_49 (by decide) (by omega) (by omega) (fun c49 => ?_) (fun c49 => ?_)
          · omega
          · refine rr_nx (pc' := 53) (al' := [some (.ref 146), some (.int (nI j)), some (.int (nI j2)), some (.int (nI (dfN (i - 1) c c2))), some (.int (nI i))]) (st' := [.int (nI (dfN (i - 1) c c2))]) d_268_52 (fun _ => rfl) ?_
            refine rr_nx (pc' := 54) (al' := [some (.ref 146), some (.int (nI j)), some (.int (nI j2)), some (.int (nI (dfN (i - 1) c c2))), some (.int (nI i))]) (st' := [.ref 146, .int (nI (dfN (i - 1) c c2))]) d_268_53 (fun _ => rfl) ?_
            refine rr_gf (v := .ref (147 + 1)) d_268_54 mo_268 fl_13 rfl ?_
            refine rn_bp (v := 37) d_268_57 (by decide) ?_
            refine rr_nx (pc' := 60) (al' := [some (.ref 146), some (.int (nI j)), some (.int (nI j2)), some (.int (nI (dfN (i - 1) c c2))), some (.int (nI i))]) (st' := [.int (nI j), .int (nI 37), .ref (147 + 1), .int (nI (dfN (i - 1) c c2))]) d_268_59 (fun _ => rfl) ?_
            refine rn_mul d_268_60  ?_
            refine rr_nx (pc' := 63) (al' := [some (.ref 146), some (.int (nI j)), some (.int (nI j2)), some (.int (nI (dfN (i - 1) c c2))), some (.int (nI i))]) (st' := [.int (nI i), .int (nI (37 * j)), .ref (147 + 1), .int (nI (dfN (i - 1) c c2))]) d_268_61 (fun _ => rfl) ?_
            refine rn_add d_268_63  ?_
            refine rr_ia (j := 1) (v := (nI (c (i - 1)))) d_268_64 (by decide) rfl (by decide) (show (37 * j) + i < 5720 by first | omega | assumption | exact cu_36 (by omega) (cu_lt (by omega) (by omega))) (by rw [show 37 * j + i = 37 * j + 1 + (i - 1) by omega]; exact hsh.2 (i - 1) (by dsimp only; omega)) ?_
            refine rr_nx (pc' := 66) (al' := [some (.ref 146), some (.int (nI j)), some (.int (nI j2)), some (.int (nI (dfN (i - 1) c c2))), some (.int (nI i))]) (st' := [.ref 146, .int (nI (c (i - 1))), .int (nI (dfN (i - 1) c c2))]) d_268_65 (fun _ => rfl) ?_
            refine rr_gf (v := .ref (147 + 1)) d_268_66 mo_268 fl_13 rfl ?_
            refine rn_bp (v := 37) d_268_69 (by decide) ?_
            refine rr_nx (pc' := 72) (al' := [some (.ref 146), some (.int (nI j)), some (.int (nI j2)), some (.int (nI (dfN (i - 1) c c2))), some (.int (nI i))]) (st' := [.int (nI j2), .int (nI 37), .ref (147 + 1), .int (nI (c (i - 1))), .int (nI (dfN (i - 1) c c2))]) d_268_71 (fun _ => rfl) ?_
            refine rn_mul d_268_72  ?_
            refine rr_nx (pc' := 75) (al' := [some (.ref 146), some (.int (nI j)), some (.int (nI j2)), some (.int (nI (dfN (i - 1) c c2))), some (.int (nI i))]) (st' := [.int (nI i), .int (nI (37 * j2)), .ref (147 + 1), .int (nI (c (i - 1))), .int (nI (dfN (i - 1) c c2))]) d_268_73 (fun _ => rfl) ?_
            refine rn_add d_268_75  ?_
            refine rr_ia (j := 1) (v := (nI (c2 (i - 1)))) d_268_76 (by decide) rfl (by decide) (show (37 * j2) + i < 5720 by first | omega | assumption | exact cu_36 (by omega) (cu_lt (by omega) (by omega))) (by rw [show 37 * j2 + i = 37 * j2 + 1 + (i - 1) by omega]; exact hsh2.2 (i - 1) (by dsimp only; omega)) ?_
            refine rn_cne (t := 84) d_268_77 (by decide) (by have := hl.1 (i - 1) (by omega); omega) (by have := hl2.1 (i - 1) (by omega); omega) (fun c77 => ?_) (fun c77 => ?_)
            · refine rn_ic (v := 1) d_268_84 (by decide) ?_
              refine rn_add d_268_85  ?_
              refine rr_nx (pc' := 87) (al' := [some (.ref 146), some (.int (nI j)), some (.int (nI j2)), some (.int (nI ((dfN (i - 1) c c2) + 1))), some (.int (nI i))]) (st' := []) d_268_86 (fun _ => rfl) ?_
              refine rn_inc d_268_87 rfl rfl ?_
              show RR _ _ 90 [some (.ref 146), some (.int (nI j)), some (.int (nI j2)), some (.int (nI ((dfN (i - 1) c c2) + 1))), some (.int (nI (i + 1)))] [] g A _
              refine rr_nx (pc' := 36) (al' := [some (.ref 146), some (.int (nI j)), some (.int (nI j2)), some (.int (nI ((dfN (i - 1) c c2) + 1))), some (.int (nI (i + 1)))]) (st' := []) d_268_90 (fun _ => rfl) ?_
              refine rr_al (congrArg (fun z__ : Nat => ([some (.ref 146), some (.int (nI j)), some (.int (nI j2)), some (.int (nI z__)), some (.int (nI (i + 1)))] : AL)) (show (dfN (i - 1) c c2) + 1 = dfN ((i + 1) - 1) c c2 by rw [show i + 1 - 1 = (i - 1) + 1 by omega, dfN_su, dfF, if_neg c77])) ?_
              exact ihi  (by omega)
            · refine rn_ic (v := 0) d_268_80 (by decide) ?_
              refine rr_nx (pc' := 85) (al' := [some (.ref 146), some (.int (nI j)), some (.int (nI j2)), some (.int (nI (dfN (i - 1) c c2))), some (.int (nI i))]) (st' := [.int (nI 0), .int (nI (dfN (i - 1) c c2))]) d_268_81 (fun _ => rfl) ?_
              refine rn_add d_268_85  ?_
              refine rr_nx (pc' := 87) (al' := [some (.ref 146), some (.int (nI j)), some (.int (nI j2)), some (.int (nI ((dfN (i - 1) c c2) + 0))), some (.int (nI i))]) (st' := []) d_268_86 (fun _ => rfl) ?_
              refine rn_inc d_268_87 rfl rfl ?_
              show RR _ _ 90 [some (.ref 146), some (.int (nI j)), some (.int (nI j2)), some (.int (nI ((dfN (i - 1) c c2) + 0))), some (.int (nI (i + 1)))] [] g A _
              refine rr_nx (pc' := 36) (al' := [some (.ref 146), some (.int (nI j)), some (.int (nI j2)), some (.int (nI ((dfN (i - 1) c c2) + 0))), some (.int (nI (i + 1)))]) (st' := []) d_268_90 (fun _ => rfl) ?_
              refine rr_al (congrArg (fun z__ : Nat => ([some (.ref 146), some (.int (nI j)), some (.int (nI j2)), some (.int (nI z__)), some (.int (nI (i + 1)))] : AL)) (show (dfN (i - 1) c c2) + 0 = dfN ((i + 1) - 1) c c2 by rw [show i + 1 - 1 = (i - 1) + 1 by omega, dfN_su, dfF, if_pos c77])) ?_
              exact ihi  (by omega)
        · show RR _ _ 36 [some (.ref 146), some (.int (nI j)), some (.int (nI j2)), some (.int (nI (dfN ((m * m + 1) - 1) c c2))), some (.int (nI (m * m + 1)))] [] g A _
          refine rr_nx (pc' := 38) (al' := [some (.ref 146), some (.int (nI j)), some (.int (nI j2)), some (.int (nI (dfN ((m * m + 1) - 1) c c2))), some (.int (nI (m * m + 1)))]) (st' := [.int (nI (m * m + 1))]) d_268_36 (fun _ => rfl) ?_
          refine rr_nx (pc' := 39) (al' := [some (.ref 146), some (.int (nI j)), some (.int (nI j2)), some (.int (nI (dfN ((m * m + 1) - 1) c c2))), some (.int (nI (m * m + 1)))]) (st' := [.ref 146, .int (nI (m * m + 1))]) d_268_38 (fun _ => rfl) ?_
          refine rr_nx (pc' := 40) (al' := [some (.ref 146), some (.int (nI j)), some (.int (nI j2)), some (.int (nI (dfN ((m * m + 1) - 1) c c2))), some (.int (nI (m * m + 1)))]) (st' := [.int (nI j), .ref 146, .int (nI (m * m + 1))]) d_268_39 (fun _ => rfl) ?_
          refine rr_pv (as := [.int (nI j)]) (al0 := [some (.ref 146), some (.int (nI j))]) (r := [.int (nI (m * m + 1))]) d_268_40 mo_268 ml_121 mz_186 rfl rfl rfl (Nat.le_of_ble_eq_true rfl) (s_ordN hj hk) ?_
          show RR _ _ 43 [some (.ref 146), some (.int (nI j)), some (.int (nI j2)), some (.int (nI (dfN ((m * m + 1) - 1) c c2))), some (.int (nI (m * m + 1)))] [.int (nI m), .int (nI (m * m + 1))] g A _
          refine rr_nx (pc' := 44) (al' := [some (.ref 146), some (.int (nI j)), some (.int (nI j2)), some (.int (nI (dfN ((m * m + 1) - 1) c c2))), some (.int (nI (m * m + 1)))]) (st' := [.ref 146, .int (nI m), .int (nI (m * m + 1))]) d_268_43 (fun _ => rfl) ?_
          refine rr_nx (pc' := 45) (al' := [some (.ref 146), some (.int (nI j)), some (.int (nI j2)), some (.int (nI (dfN ((m * m + 1) - 1) c c2))), some (.int (nI (m * m + 1)))]) (st' := [.int (nI j), .ref 146, .int (nI m), .int (nI (m * m + 1))]) d_268_44 (fun _ => rfl) ?_
          refine rr_pv (as := [.int (nI j)]) (al0 := [some (.ref 146), some (.int (nI j))]) (r := [.int (nI m), .int (nI (m * m + 1))]) d_268_45 mo_268 ml_121 mz_186 rfl rfl rfl (Nat.le_of_ble_eq_true rfl) (s_ordN hj hk) ?_
          show RR _ _ 48 [some (.ref 146), some (.int (nI j)), some (.int (nI j2)), some (.int (nI (dfN ((m * m + 1) - 1) c c2))), some (.int (nI (m * m + 1)))] [.int (nI m), .int (nI m), .int (nI (m * m + 1))] g A _
          refine rn_mul d_268_48  ?_
          refine rn_cgt (t := 93) d_268_49 (by decide) (by omega) (by omega) (fun c49 => ?_) (fun c49 => ?_)
          · refine rr_nx (pc' := 94) (al' := [some (.ref 146), some (.int (nI j)), some (.int (nI j2)), some (.int (nI (dfN ((m * m + 1) - 1) c c2))), some (.int (nI (m * m + 1)))]) (st' := [.int (nI (dfN ((m * m + 1) - 1) c c2))]) d_268_93 (fun _ => rfl) ?_
            exact rr_ri d_268_94 mr_268 rfl ⟨rfl, hW.mo⟩
          · omega
      · exact absurd hmm c26
theorem r_apart_d {g : Nat → Int32} {A : Nat → Nat → Int32} {n : Nat} {W : WS} (hW : WR n g A W) (hO : CoOk (wK W)) {j m j2 m2 : Nat} {c c2 : Nat → Nat} (hj : j < 6) (htb : tbK (wK W) j = (m, c)) (h1 : 1 ≤ m) (hj2 : j2 < 6) (htb2 : tbK (wK W) j2 = (m2, c2)) (h12 : 1 ≤ m2) (hmm : ¬ m = m2) : RR 80 268 0 [some (.ref 146), some (.int (nI j)), some (.int (nI j2)), none, none] [] g A (fun r g' A' => r = some (.int (-1)) ∧ WR (n + 1) g' A' W) := by
  have hsh := hW.1.1.1 j hj
  rw [show kH (wK W) (kD (wK W)) j = (m, c) from htb] at hsh
  have hok := tb_ok hO hj
  rw [htb] at hok
  have hk : A 1 (37 * j) = nI m := hsh.1
  have hl : Lat m c := hok.2
  have hm6 : m ≤ 6 := hok.1
  have hyes : isT A (nI j) := (has_r hW hO).mpr ((has_i hj).mpr (by rw [htb]; exact h1))
  have hsh2 := hW.1.1.1 j2 hj2
  rw [show kH (wK W) (kD (wK W)) j2 = (m2, c2) from htb2] at hsh2
  have hok2 := tb_ok hO hj2
  rw [htb2] at hok2
  have hk2 : A 1 (37 * j2) = nI m2 := hsh2.1
  have hl2 : Lat m2 c2 := hok2.2
  have hm62 : m2 ≤ 6 := hok2.1
  have hyes2 : isT A (nI j2) := (has_r hW hO).mpr ((has_i hj2).mpr (by rw [htb2]; exact h12))
  refine rr_nx (pc' := 1) (al' := [some (.ref 146), some (.int (nI j)), some (.int (nI j2)), none, none]) (st' := [.ref 146]) d_268_0 (fun _ => rfl) ?_
  refine rr_nx (pc' := 2) (al' := [some (.ref 146), some (.int (nI j)), some (.int (nI j2)), none, none]) (st' := [.int (nI j), .ref 146]) d_268_1 (fun _ => rfl) ?_
  refine rr_pv (as := [.int (nI j)]) (al0 := [some (.ref 146), some (.int (nI j))]) (r := []) d_268_2 mo_268 ml_124 mz_184 rfl rfl rfl (Nat.le_of_ble_eq_true rfl) (s_isTable (nI j)) ?_
  show RR _ _ 5 [some (.ref 146), some (.int (nI j)), some (.int (nI j2)), none, none] [.int (bI (isT A (nI j)))] g A _
  refine rr_beq (t := 29) d_268_5 (by decide) (fun c5 => ?_) (fun c5 => ?_)
  · exact absurd hyes c5
  · refine rr_nx (pc' := 9) (al' := [some (.ref 146), some (.int (nI j)), some (.int (nI j2)), none, none]) (st' := [.ref 146]) d_268_8 (fun _ => rfl) ?_
    refine rr_nx (pc' := 10) (al' := [some (.ref 146), some (.int (nI j)), some (.int (nI j2)), none, none]) (st' := [.int (nI j2), .ref 146]) d_268_9 (fun _ => rfl) ?_
    refine rr_pv (as := [.int (nI j2)]) (al0 := [some (.ref 146), some (.int (nI j2))]) (r := []) d_268_10 mo_268 ml_124 mz_184 rfl rfl rfl (Nat.le_of_ble_eq_true rfl) (s_isTable (nI j2)) ?_
    show RR _ _ 13 [some (.ref 146), some (.int (nI j)), some (.int (nI j2)), none, none] [.int (bI (isT A (nI j2)))] g A _
    refine rr_beq (t := 29) d_268_13 (by decide) (fun c13 => ?_) (fun c13 => ?_)
    · exact absurd hyes2 c13
    · refine rr_nx (pc' := 17) (al' := [some (.ref 146), some (.int (nI j)), some (.int (nI j2)), none, none]) (st' := [.ref 146]) d_268_16 (fun _ => rfl) ?_
      refine rr_nx (pc' := 18) (al' := [some (.ref 146), some (.int (nI j)), some (.int (nI j2)), none, none]) (st' := [.int (nI j), .ref 146]) d_268_17 (fun _ => rfl) ?_
      refine rr_pv (as := [.int (nI j)]) (al0 := [some (.ref 146), some (.int (nI j))]) (r := []) d_268_18 mo_268 ml_121 mz_186 rfl rfl rfl (Nat.le_of_ble_eq_true rfl) (s_ordN hj hk) ?_
      show RR _ _ 21 [some (.ref 146), some (.int (nI j)), some (.int (nI j2)), none, none] [.int (nI m)] g A _
      refine rr_nx (pc' := 22) (al' := [some (.ref 146), some (.int (nI j)), some (.int (nI j2)), none, none]) (st' := [.ref 146, .int (nI m)]) d_268_21 (fun _ => rfl) ?_
      refine rr_nx (pc' := 23) (al' := [some (.ref 146), some (.int (nI j)), some (.int (nI j2)), none, none]) (st' := [.int (nI j2), .ref 146, .int (nI m)]) d_268_22 (fun _ => rfl) ?_
      refine rr_pv (as := [.int (nI j2)]) (al0 := [some (.ref 146), some (.int (nI j2))]) (r := [.int (nI m)]) d_268_23 mo_268 ml_121 mz_186 rfl rfl rfl (Nat.le_of_ble_eq_true rfl) (s_ordN hj2 hk2) ?_
      show RR _ _ 26 [some (.ref 146), some (.int (nI j)), some (.int (nI j2)), none, none] [.int (nI m2), .int (nI m)] g A _
      refine rn_ceq (t := 31) d_268_26 (by decide) (by first | omega | assumption | exact cu_36 (by omega) (cu_lt (by omega) (by omega))) (by first | omega | assumption | exact cu_36 (by omega) (cu_lt (by omega) (by omega))) (fun c26 => ?_) (fun c26 => ?_)
      · exact absurd c26 hmm
      · refine rr_nx (pc' := 30) (al' := [some (.ref 146), some (.int (nI j)), some (.int (nI j2)), none, none]) (st' := [.int (-1)]) d_268_29 (fun _ => rfl) ?_
        exact rr_ri d_268_30 mr_268 rfl ⟨rfl, hW.mo⟩
theorem r_apart_a {g : Nat → Int32} {A : Nat → Nat → Int32} {n : Nat} {W : WS} (hW : WR n g A W) (hO : CoOk (wK W)) {t : Int32} (hh : ¬ hasP (wK W) t) {w : Int32} : RR 80 268 0 [some (.ref 146), some (.int t), some (.int w), none, none] [] g A (fun r g' A' => r = some (.int (-1)) ∧ WR (n + 1) g' A' W) := by
  refine rr_nx (pc' := 1) (al' := [some (.ref 146), some (.int t), some (.int w), none, none]) (st' := [.ref 146]) d_268_0 (fun _ => rfl) ?_
  refine rr_nx (pc' := 2) (al' := [some (.ref 146), some (.int t), some (.int w), none, none]) (st' := [.int t, .ref 146]) d_268_1 (fun _ => rfl) ?_
  refine rr_pv (as := [.int t]) (al0 := [some (.ref 146), some (.int t)]) (r := []) d_268_2 mo_268 ml_124 mz_184 rfl rfl rfl (Nat.le_of_ble_eq_true rfl) (s_isTable t) ?_
  show RR _ _ 5 [some (.ref 146), some (.int t), some (.int w), none, none] [.int (bI (isT A t))] g A _
  refine rr_beq (t := 29) d_268_5 (by decide) (fun c5 => ?_) (fun c5 => ?_)
  · refine rr_nx (pc' := 30) (al' := [some (.ref 146), some (.int t), some (.int w), none, none]) (st' := [.int (-1)]) d_268_29 (fun _ => rfl) ?_
    exact rr_ri d_268_30 mr_268 rfl ⟨rfl, hW.mo⟩
  · exact absurd c5 (fun e_ => hh ((has_r hW hO).mp e_))
theorem r_apart_b {g : Nat → Int32} {A : Nat → Nat → Int32} {n : Nat} {W : WS} (hW : WR n g A W) (hO : CoOk (wK W)) {j m : Nat} {c : Nat → Nat} (hj : j < 6) (htb : tbK (wK W) j = (m, c)) (h1 : 1 ≤ m) {t : Int32} (hh : ¬ hasP (wK W) t) : RR 80 268 0 [some (.ref 146), some (.int (nI j)), some (.int t), none, none] [] g A (fun r g' A' => r = some (.int (-1)) ∧ WR (n + 1) g' A' W) := by
  have hsh := hW.1.1.1 j hj
  rw [show kH (wK W) (kD (wK W)) j = (m, c) from htb] at hsh
  have hok := tb_ok hO hj
  rw [htb] at hok
  have hk : A 1 (37 * j) = nI m := hsh.1
  have hl : Lat m c := hok.2
  have hm6 : m ≤ 6 := hok.1
  have hyes : isT A (nI j) := (has_r hW hO).mpr ((has_i hj).mpr (by rw [htb]; exact h1))
  refine rr_nx (pc' := 1) (al' := [some (.ref 146), some (.int (nI j)), some (.int t), none, none]) (st' := [.ref 146]) d_268_0 (fun _ => rfl) ?_
  refine rr_nx (pc' := 2) (al' := [some (.ref 146), some (.int (nI j)), some (.int t), none, none]) (st' := [.int (nI j), .ref 146]) d_268_1 (fun _ => rfl) ?_
  refine rr_pv (as := [.int (nI j)]) (al0 := [some (.ref 146), some (.int (nI j))]) (r := []) d_268_2 mo_268 ml_124 mz_184 rfl rfl rfl (Nat.le_of_ble_eq_true rfl) (s_isTable (nI j)) ?_
  show RR _ _ 5 [some (.ref 146), some (.int (nI j)), some (.int t), none, none] [.int (bI (isT A (nI j)))] g A _
  refine rr_beq (t := 29) d_268_5 (by decide) (fun c5 => ?_) (fun c5 => ?_)
  · exact absurd hyes c5
  · refine rr_nx (pc' := 9) (al' := [some (.ref 146), some (.int (nI j)), some (.int t), none, none]) (st' := [.ref 146]) d_268_8 (fun _ => rfl) ?_
    refine rr_nx (pc' := 10) (al' := [some (.ref 146), some (.int (nI j)), some (.int t), none, none]) (st' := [.int t, .ref 146]) d_268_9 (fun _ => rfl) ?_
    refine rr_pv (as := [.int t]) (al0 := [some (.ref 146), some (.int t)]) (r := []) d_268_10 mo_268 ml_124 mz_184 rfl rfl rfl (Nat.le_of_ble_eq_true rfl) (s_isTable t) ?_
    show RR _ _ 13 [some (.ref 146), some (.int (nI j)), some (.int t), none, none] [.int (bI (isT A t))] g A _
    refine rr_beq (t := 29) d_268_13 (by decide) (fun c13 => ?_) (fun c13 => ?_)
    · refine rr_nx (pc' := 30) (al' := [some (.ref 146), some (.int (nI j)), some (.int t), none, none]) (st' := [.int (-1)]) d_268_29 (fun _ => rfl) ?_
      exact rr_ri d_268_30 mr_268 rfl ⟨rfl, hW.mo⟩
    · exact absurd c13 (fun e_ => hh ((has_r hW hO).mp e_))
theorem T_apart {S : CS} {G : Nat → Nat → Value} {B : Nat → Nat → Int32} {J : Nat → Nat → Int64} {R : Nat → Nat → Option Nat} {g : Nat → Int32} {A : Nat → Nat → Int32} {n : Nat} {W : WS} (hC : WC n S G B R W) (hR : WR n g A W) (hn : n ≤ 10000) {t : Int32} {w : Int32} : Tie n 162 268 [some (.ref 2), some (.int t), some (.int w)] [some (.ref 146), some (.int t), some (.int w), none, none] S G B J R g A W := by
  have hO := hC.2.2.2.1
  by_cases hh : hasP (wK W) t
  · obtain ⟨j, hj, e_, h1⟩ := has_n hh
    subst e_
    obtain ⟨⟨m, c⟩, htb⟩ : ∃ tb, tbK (wK W) j = tb := ⟨_, rfl⟩
    rw [htb] at h1
    by_cases hh2 : hasP (wK W) w
    · obtain ⟨j2, hj2, e_, h12⟩ := has_n hh2
      subst e_
      obtain ⟨⟨m2, c2⟩, htb2⟩ : ∃ tb, tbK (wK W) j2 = tb := ⟨_, rfl⟩
      rw [htb2] at h12
      by_cases hmm : m = m2
      · exact ⟨_, W, p_apart_y hC hj htb h1 hj2 htb2 h12 hmm, r_apart_y hR hO hj htb h1 hj2 htb2 h12 hmm⟩
      · exact ⟨_, W, p_apart_d hC hj htb h1 hj2 htb2 h12 hmm, r_apart_d hR hO hj htb h1 hj2 htb2 h12 hmm⟩
    · exact ⟨_, W, p_apart_b hC hj htb h1 hh2, r_apart_b hR hO hj htb h1 hh2⟩
  · exact ⟨_, W, p_apart_a hC hh, r_apart_a hR hO hh⟩
