/-! Call: walk; printed by wip/whole/gen_c45.py. -/
theorem rr_kl {k y pc x o : Nat} {al : AL} {r : List Value} {g : Nat → Int32} {A : Nat → Nat → Int32} {Q : Option Value → (Nat → Int32) → (Nat → Nat → Int32) → Prop} {v : Int64} (hd : decode (am_b y) pc = .ok (.ldc2_w x, 3)) (ho : am_o y = o) (hk : am_kl o x = some v) (kk : RR k y (pc + 3) al (.long v :: r) g A Q) : RR k y pc al r g A Q := by
  refine rr_nx hd (fun h => ?_) kk
  show (if 3 = 3 then (am_kl (am_o y) x).bind fun v => am_nx (pc + 3) al (.long v :: r) h else none) = _
  rw [ho, hk]
  rfl
theorem rr_lrm {k y pc : Nat} {al : AL} {r : List Value} {g : Nat → Int32} {A : Nat → Nat → Int32} {Q : Option Value → (Nat → Int32) → (Nat → Nat → Int32) → Prop} {a b : Int64} (hd : decode (am_b y) pc = .ok (.lrem, 1)) (hb : ¬ b = 0) (kk : RR k y (pc + 1) al (.long (a - a / b * b) :: r) g A Q) : RR k y pc al (.long b :: .long a :: r) g A Q := by
  refine rr_nx hd (fun h => ?_) kk
  show (if 1 = 1 then (if b = 0 then none else am_nx (pc + 1) al (.long (a - a / b * b) :: r) h) else none) = _
  rw [if_pos rfl, if_neg hb]
  rfl
/-- the number drawn behind s -/
def drN (s : Nat) : Nat := (s * 1103 + 12345) % 1000003
theorem dr_lt (s : Nat) : drN s ≤ 1000002 := by
  have := Nat.mod_lt (s * 1103 + 12345) (show 0 < 1000003 by decide)
  unfold drN
  omega
theorem dr_64 {s : Nat} (hs : s ≤ 1000002) : (1103 * (nI s).toInt64 + 12345 - (1103 * (nI s).toInt64 + 12345) / 1000003 * 1000003).toInt32 = nI (drN s) := by
  unfold drN nI
  have h1 : (Int32.ofNat s).toInt64 = Int64.ofNat s := by
    apply Int64.toInt_inj.mp
    rw [Int32.toInt_toInt64, Int32.toInt_ofNat_of_lt (by omega), Int64.toInt_ofNat_of_lt (by omega)]
  have h2 : (1103 : Int64) * Int64.ofNat s + 12345 = Int64.ofNat (s * 1103 + 12345) := by
    rw [Int64.ofNat_add, Int64.ofNat_mul, Int64.mul_comm]
    rfl
  have h3 : Int64.ofNat (s * 1103 + 12345) / 1000003 = Int64.ofNat ((s * 1103 + 12345) / 1000003) := by
    apply Int64.toInt_inj.mp
    rw [Int64.toInt_div, Int64.toInt_ofNat_of_lt (by omega), Int64.toInt_ofNat_of_lt (by omega)]
    rw [show (1000003 : Int64).toInt = ((1000003 : Nat) : Int) from rfl, ← Int.ofNat_tdiv]
    exact Int.bmod_eq_of_le (by omega) (by omega)
  have h4 : Int64.ofNat (s * 1103 + 12345) - Int64.ofNat ((s * 1103 + 12345) / 1000003) * 1000003 = Int64.ofNat ((s * 1103 + 12345) % 1000003) := by
    have h5 : (1000003 : Int64) = Int64.ofNat 1000003 := by decide
    have h6 : s * 1103 + 12345 - (s * 1103 + 12345) / 1000003 * 1000003 = (s * 1103 + 12345) % 1000003 := by omega
    rw [h5, ← Int64.ofNat_mul, ← h6, Int64.ofNat_sub _ _ (by omega)]
  rw [h1, h2, h3, h4]
  apply Int32.toInt_inj.mp
  rw [Int32.toInt_ofNat_of_lt (by omega), Int64.toInt_toInt32, Int64.toInt_ofNat_of_lt (by omega)]
  rw [Int.bmod_eq_of_le (by omega) (by omega)]
def wkB (a b : Nat) : Nat := if b < a then b else b + 1
def wkN (m s0 : Nat) (c0 : Nat → Nat) : Nat → Nat × (Nat → Nat)
  | 0 => (s0, c0)
  | i + 1 => (drN (drN (drN (wkN m s0 c0 i).1)), swN m (wkN m s0 c0 i).2 (drN (wkN m s0 c0 i).1 % m) (wkB (drN (wkN m s0 c0 i).1 % m) (drN (drN (wkN m s0 c0 i).1) % (m - 1))) (orb m (sgN m (wkN m s0 c0 i).2 (drN (wkN m s0 c0 i).1 % m) (wkB (drN (wkN m s0 c0 i).1 % m) (drN (drN (wkN m s0 c0 i).1) % (m - 1)))) (drN (drN (drN (wkN m s0 c0 i).1)) % m)))
theorem wk_b {m a b : Nat} (hm : 2 ≤ m) (ha : a < m) (hb : b < m - 1) : wkB a b < m ∧ a ≠ wkB a b := by
  unfold wkB
  split <;> omega
theorem wk_ok {m s0 : Nat} {c0 : Nat → Nat} (hm : 2 ≤ m) (hs : s0 ≤ 1000002) (hl : Lat m c0) : ∀ i, (wkN m s0 c0 i).1 ≤ 1000002 ∧ Lat m (wkN m s0 c0 i).2
  | 0 => ⟨hs, hl⟩
  | i + 1 => by
    have ih := wk_ok hm hs hl i
    have ha := Nat.mod_lt (drN (wkN m s0 c0 i).1) (show m > 0 by omega)
    have hb := Nat.mod_lt (drN (drN (wkN m s0 c0 i).1)) (show m - 1 > 0 by omega)
    have hk := Nat.mod_lt (drN (drN (drN (wkN m s0 c0 i).1))) (show m > 0 by omega)
    have h := wk_b hm ha hb
    exact ⟨dr_lt _, orb_lat ih.2 ha h.1 h.2 hk⟩
def wkW (W : WS) (tb : Tb) : WS := (wK W, wI W, wT W, wL W, wF W, nI 0, wR W, tb)
theorem WC.wk {S : CS} {G G' : Nat → Nat → Value} {B B' : Nat → Nat → Int32} {R : Nat → Nat → Option Nat} {n : Nat} {W : WS} {tb : Tb} (h : WC n S G B R W) (hF : FxG G') (hg : ∀ b, b ≠ 2 → b ≠ 88 → G' b = G b) (hg2 : ∀ k, k ≠ 16 → G' 2 k = G 2 k) (h16 : G' 2 16 = .int (nI 0)) (hb : ∀ b, b ≠ 89 → B' b = B b) (ht : ShT G' B' 88 tb) (hk : TbOk tb) : WC n S G' B' R (wkW W tb) := by
  obtain ⟨⟨a1, a2, a3⟩, a4, a5, a6, a7, a8, a9, a10, a11, a12, a13, a14⟩ := h
  refine ⟨⟨a1, a2, a3.1, a3.2.cg (fun _ hb2 => ⟨hb2, rfl⟩) (fun b hb2 => Or.inl (by rw [hg b (by omega) (by omega)])) rfl (fun _ _ => rfl)⟩, hF, a5.cg a6 (fun a ha => ⟨ha, rfl⟩) (fun b hb1 hb2 => ⟨hg b (by omega) (by omega), hb b (by omega), rfl⟩) (fun b hb2 _ => ⟨fun _ => hg b (by omega) (by omega), fun _ => hb b (by omega)⟩), a6, a7.cg (fun b hb2 => ⟨hg b (by omega) (by omega), hb b (by omega)⟩), ?_, ?_, h16, ?_, ⟨ht, hk⟩, nm_1 a13 (hg _ (by decide) (by decide)) (hg _ (by decide) (by decide)) (hg _ (by decide) (by decide)) (hb _ (by decide)) (hb _ (by decide)), nm_2 a14 (hg _ (by decide) (by decide)) (hg _ (by decide) (by decide)) (hg _ (by decide) (by decide)) (hb _ (by decide)) (hb _ (by decide))⟩
  · rw [hg2 3 (by decide), hb 82 (by decide)]
    exact a8
  · rw [hg2 5 (by decide)]
    exact a9
  · rw [hb 145 (by decide)]
    exact a11
theorem FxG.u88 {G : Nat → Nat → Value} {v : Value} (h : FxG G) : FxG (up2 G 88 0 v) := fun e he => by
  rw [up2_n]
  · exact h e he
  · intro q
    simp only [List.mem_cons, List.mem_nil_iff, or_false, Prod.ext_iff] at he
    omega
theorem WR.wk {n : Nat} {g g' : Nat → Int32} {A A' : Nat → Nat → Int32} {W : WS} {tb : Tb} (h : WR n g A W) (hn : n ≤ 100000) (hg : ∀ k, kpG k = true → k ≠ 0 → k ≠ 1 → k ≠ 56 → g' k = g k) (h0 : g' 0 = nI 0) (h1 : g' 1 = g 1 + nI 1) (h56 : g' 56 = nI tb.1) (ha : ∀ j, kpR j = true → j ≠ 26 → A' j = A j) (h26 : ∀ q, q < tb.1 * tb.1 → A' 26 q = nI (tb.2 q)) : WR (n + 1) g' A' (wkW W tb) := by
  obtain ⟨b1, b2, b3, b4, b5, b6, b7, b8, b9, b10⟩ := h
  refine ⟨?_, ?_, ?_, ?_, ?_, h0, ?_, ⟨h56, h26⟩, ?_, b10.gd hn h1 (hg 50 rfl (by decide) (by decide) (by decide))⟩
  · rw [ha 1 rfl (by decide)]
    exact b1
  · unfold ImR
    rw [ha 2 rfl (by decide), ha 3 rfl (by decide)]
    exact b2
  · rw [ha 6 rfl (by decide)]
    exact b3
  · rw [hg 13 rfl (by decide) (by decide) (by decide), ha 7 rfl (by decide)]
    exact b4
  · rw [hg 14 rfl (by decide) (by decide) (by decide)]
    exact b5
  · rw [ha 0 rfl (by decide)]
    exact b7
  · rw [hg 48 rfl (by decide) (by decide) (by decide)]
    exact b9
theorem k_drawAfter {S : CS} {G : Nat → Nat → Value} {B : Nat → Nat → Int32} {J : Nat → Nat → Int64} {R : Nat → Nat → Option Nat} {s : Nat} (hs : s ≤ 1000002) : CR 0 171 0 [some (.int (nI s))] [] S G B J R (cP (some (.int (nI (drN s)))) S G B J R) := by
  refine cr_nx (pc' := 1) (al' := [some (.int (nI s))]) (st' := [.int (nI s)]) d_171_0 (fun _ => rfl) ?_
  refine cn_sp (v := 1103) d_171_1 (by decide) ?_
  refine cn_mul d_171_4  ?_
  refine cn_sp (v := 12345) d_171_5 (by decide) ?_
  refine cn_add d_171_8  ?_
  refine cr_k3 (v := nI 1000003) d_171_9 cw_171 ck_11_369 ?_
  refine cn_rem d_171_12 (by omega) (by omega) (by omega) ?_
  exact cr_ri d_171_13 cx_171 rfl ⟨rfl, rfl, rfl, rfl, rfl, rfl⟩
theorem s_draws {g : Nat → Int32} {A : Nat → Nat → Int32} {s k : Nat} (h57 : g 57 = nI s) (hs : s ≤ 1000002) (hk : 1 ≤ k) (hk6 : k ≤ 6) : RR 0 286 0 [some (.ref 146), some (.int (nI k))] [] g A (rP (some (.int (nI (drN s % k)))) (upd g 57 (nI (drN s))) A) := by
  refine rr_nx (pc' := 1) (al' := [some (.ref 146), some (.int (nI k))]) (st' := [.ref 146]) d_286_0 (fun _ => rfl) ?_
  refine rr_kl (v := 1103) d_286_1 mo_286 (by decide +kernel) ?_
  refine rr_nx (pc' := 5) (al' := [some (.ref 146), some (.int (nI k))]) (st' := [.ref 146, .long 1103, .ref 146]) d_286_4 (fun _ => rfl) ?_
  refine rr_gn d_286_5 mo_286 fl_388 rfl h57 ?_
  refine rr_nx (pc' := 9) (al' := [some (.ref 146), some (.int (nI k))]) (st' := [.long ((nI s).toInt64), .long 1103, .ref 146]) d_286_8 (fun _ => rfl) ?_
  refine rr_nx (pc' := 10) (al' := [some (.ref 146), some (.int (nI k))]) (st' := [.long (1103 * ((nI s).toInt64)), .ref 146]) d_286_9 (fun _ => rfl) ?_
  refine rr_kl (v := 12345) d_286_10 mo_286 (by decide +kernel) ?_
  refine rr_nx (pc' := 14) (al' := [some (.ref 146), some (.int (nI k))]) (st' := [.long ((1103 * ((nI s).toInt64)) + 12345), .ref 146]) d_286_13 (fun _ => rfl) ?_
  refine rr_kl (v := 1000003) d_286_14 mo_286 (by decide +kernel) ?_
  refine rr_lrm d_286_17 (by decide) ?_
  refine rr_nx (pc' := 19) (al' := [some (.ref 146), some (.int (nI k))]) (st' := [.int ((((1103 * ((nI s).toInt64)) + 12345) - ((1103 * ((nI s).toInt64)) + 12345) / 1000003 * 1000003).toInt32), .ref 146]) d_286_18 (fun _ => rfl) ?_
  refine rr_tp (z := (nI (drN s))) (dr_64 hs) ?_
  refine rp_57 d_286_19 mo_286 fl_388  ?_
  refine rr_nx (pc' := 23) (al' := [some (.ref 146), some (.int (nI k))]) (st' := [.ref 146]) d_286_22 (fun _ => rfl) ?_
  refine rr_gf (v := .int (nI (drN s))) d_286_23 mo_286 fl_388 rfl ?_
  refine rr_nx (pc' := 27) (al' := [some (.ref 146), some (.int (nI k))]) (st' := [.int (nI k), .int (nI (drN s))]) d_286_26 (fun _ => rfl) ?_
  refine rn_rem d_286_27 (by omega) (by have := dr_lt s; omega) (by omega) ?_
  exact rr_ri d_286_28 mr_286 rfl ⟨rfl, rfl, rfl⟩
theorem p_walk_y {S : CS} {G : Nat → Nat → Value} {B : Nat → Nat → Int32} {J : Nat → Nat → Int64} {R : Nat → Nat → Option Nat} {n : Nat} {W : WS} (hW : WC n S G B R W) {j m : Nat} {c : Nat → Nat} (hj : j < 6) (htb : tbK (wK W) j = (m, c)) (h1 : 1 ≤ m) {s k : Nat} (hs : s ≤ 1000000) (hk2 : k ≤ 200) (hm2 : 2 ≤ m) : CR 80 170 0 [some (.ref 2), some (.int (nI j)), some (.int (nI s)), some (.int (nI k)), none, none, none, none, none, none] [] S G B J R (fun r__ S' G' B' J' R' => r__ = some (.int (nI (dfN (m * m) (wkN m s c k).2 c))) ∧ WC (n + 1) S' G' B' R' (wkW W (m, (wkN m s c k).2))) := by
  have hS := hW.1.1
  have hF := hW.2.1
  have hO := hW.2.2.2.1
  obtain ⟨ta, ka, la, hH, hLk, hl2, hs3, hbd⟩ := hW.2.2.1
  obtain ⟨zt, hzt, ezt⟩ := (hH.2.1 j hj).2
  have ht := hH.ta hj
  have hsh := hH.2.2.2.2.2.2.1 j hj
  rw [show kH (wK W) (kD (wK W)) j = (m, c) from htb] at hsh
  have hok := tb_ok hO hj
  rw [htb] at hok
  have hn : G (ta j) 0 = .int (nI m) := hsh.1
  have hc : TabC B (ta j) m c := hsh.c hok
  have hl : Lat m c := hok.2
  have hm6 : m ≤ 6 := hok.1
  have hyes : hasP (wK W) (nI j) := (has_i hj).mpr (by rw [htb]; exact h1)
  have h36 := Nat.mul_le_mul hm6 hm6
  refine cr_nx (pc' := 1) (al' := [some (.ref 2), some (.int (nI j)), some (.int (nI s)), some (.int (nI k)), none, none, none, none, none, none]) (st' := [.int (nI s)]) d_170_0 (fun _ => rfl) ?_
  refine cn_zlt (t := 22) d_170_1 (by decide) (by first | omega | assumption | exact cu_36 (by omega) (cu_lt (by omega) (by omega))) (fun c1 => ?_) (fun c1 => ?_)
  · exact c1.elim
  · refine cr_nx (pc' := 5) (al' := [some (.ref 2), some (.int (nI j)), some (.int (nI s)), some (.int (nI k)), none, none, none, none, none, none]) (st' := [.int (nI s)]) d_170_4 (fun _ => rfl) ?_
    refine cr_k3 (v := nI 1000000) d_170_5 cw_170 ck_11_365 ?_
    refine cn_cgt (t := 22) d_170_8 (by decide) (by omega) (by decide) (fun c8 => ?_) (fun c8 => ?_)
    · omega
    · refine cr_nx (pc' := 12) (al' := [some (.ref 2), some (.int (nI j)), some (.int (nI s)), some (.int (nI k)), none, none, none, none, none, none]) (st' := [.int (nI k)]) d_170_11 (fun _ => rfl) ?_
      refine cn_zlt (t := 22) d_170_12 (by decide) (by first | omega | assumption | exact cu_36 (by omega) (cu_lt (by omega) (by omega))) (fun c12 => ?_) (fun c12 => ?_)
      · exact c12.elim
      · refine cr_nx (pc' := 16) (al' := [some (.ref 2), some (.int (nI j)), some (.int (nI s)), some (.int (nI k)), none, none, none, none, none, none]) (st' := [.int (nI k)]) d_170_15 (fun _ => rfl) ?_
        refine cn_sp (v := 200) d_170_16 (by decide) ?_
        refine cn_cle (t := 28) d_170_19 (by decide) (by omega) (by decide) (fun c19 => ?_) (fun c19 => ?_)
        · refine cr_nx (pc' := 29) (al' := [some (.ref 2), some (.int (nI j)), some (.int (nI s)), some (.int (nI k)), none, none, none, none, none, none]) (st' := [.ref 2]) d_170_28 (fun _ => rfl) ?_
          refine cr_nx (pc' := 30) (al' := [some (.ref 2), some (.int (nI j)), some (.int (nI s)), some (.int (nI k)), none, none, none, none, none, none]) (st' := [.int (nI j), .ref 2]) d_170_29 (fun _ => rfl) ?_
          refine cr_pv (b := 2) (as := [.int (nI j)]) (al0 := [some (.ref 2), some (.int (nI j))]) (r := []) d_170_30 cw_170 cm_11_137 cz_126 rfl rfl (hS.i (a := 2) (by decide) (by decide)) (by rw [cw_126]; exact (hS.s (a := 2) (by decide) (by decide) rfl)) (by rw [cw_126]; decide) rfl (Nat.le_of_ble_eq_true rfl) (k_has hS hF hH hO) ?_
          show CR _ _ 33 [some (.ref 2), some (.int (nI j)), some (.int (nI s)), some (.int (nI k)), none, none, none, none, none, none] [.int (bI (hasP (wK W) (nI j)))] S G B J R _
          refine cr_bne (t := 43) d_170_33 (by decide) (fun c33 => ?_) (fun c33 => ?_)
          · refine cr_nx (pc' := 44) (al' := [some (.ref 2), some (.int (nI j)), some (.int (nI s)), some (.int (nI k)), none, none, none, none, none, none]) (st' := [.ref 2]) d_170_43 (fun _ => rfl) ?_
            refine cr_gf (v := .ref 3) d_170_44 cw_170 cf_11_10 (hS.i (a := 2) (by decide) (by decide)) (hS.s (a := 2) (by decide) (by decide) rfl) (by decide) (fx_2_0 hF) ?_
            refine cr_gf (v := .ref 4) d_170_47 cw_170 cf_11_140 (hS.i (a := 3) (by decide) (by decide)) (hS.s (a := 3) (by decide) (by decide) rfl) (by decide) (fx_3_0 hF) ?_
            refine cr_nx (pc' := 51) (al' := [some (.ref 2), some (.int (nI j)), some (.int (nI s)), some (.int (nI k)), none, none, none, none, none, none]) (st' := [.int (nI j), .ref 4]) d_170_50 (fun _ => rfl) ?_
            refine cr_aa (a := 4) (v := .ref (ta j)) d_170_51 (hS.i (a := 4) (by decide) (by decide)) (by decide) (hS.s (a := 4) (by decide) (by decide) rfl) (by decide) (show j < 6 by first | omega | assumption | exact cu_36 (by omega) (cu_lt (by omega) (by omega))) (show va_rf _ = _ by rw [(hH.2.1 j hj).1]; rfl) ?_
            refine cr_nx (pc' := 54) (al' := [some (.ref 2), some (.int (nI j)), some (.int (nI s)), some (.int (nI k)), some (.ref (ta j)), none, none, none, none, none]) (st' := []) d_170_52 (fun _ => rfl) ?_
            refine cr_nx (pc' := 56) (al' := [some (.ref 2), some (.int (nI j)), some (.int (nI s)), some (.int (nI k)), some (.ref (ta j)), none, none, none, none, none]) (st' := [.ref (ta j)]) d_170_54 (fun _ => rfl) ?_
            refine cr_gf (v := .int (nI m)) d_170_56 cw_170 cf_11_112 ht.1 ht.2.2.1 (by decide) hn ?_
            refine cr_nx (pc' := 61) (al' := [some (.ref 2), some (.int (nI j)), some (.int (nI s)), some (.int (nI k)), some (.ref (ta j)), some (.int (nI m)), none, none, none, none]) (st' := []) d_170_59 (fun _ => rfl) ?_
            refine cr_nx (pc' := 63) (al' := [some (.ref 2), some (.int (nI j)), some (.int (nI s)), some (.int (nI k)), some (.ref (ta j)), some (.int (nI m)), none, none, none, none]) (st' := [.int (nI m)]) d_170_61 (fun _ => rfl) ?_
            refine cn_ic (v := 2) d_170_63 (by decide) ?_
            refine cn_cge (t := 74) d_170_64 (by decide) (by omega) (by decide) (fun c64 => ?_) (fun c64 => ?_)
            · refine cr_nx (pc' := 75) (al' := [some (.ref 2), some (.int (nI j)), some (.int (nI s)), some (.int (nI k)), some (.ref (ta j)), some (.int (nI m)), none, none, none, none]) (st' := [.ref 2]) d_170_74 (fun _ => rfl) ?_
              refine cr_gf (v := .ref 88) d_170_75 cw_170 cf_11_42 (hS.i (a := 2) (by decide) (by decide)) (hS.s (a := 2) (by decide) (by decide) rfl) (by decide) (fx_2_7 hF) ?_
              refine cr_nx (pc' := 80) (al' := [some (.ref 2), some (.int (nI j)), some (.int (nI s)), some (.int (nI k)), some (.ref (ta j)), some (.int (nI m)), none, none, none, none]) (st' := [.ref (ta j), .ref 88]) d_170_78 (fun _ => rfl) ?_
              refine cr_pv (b := 88) (as := [.ref (ta j)]) (al0 := [some (.ref 88), some (.ref (ta j))]) (r := []) d_170_80 cw_170 cm_11_144 cz_93 rfl rfl (hS.i (a := 88) (by decide) (by decide)) (by rw [cw_93]; exact (hS.s (a := 88) (by decide) (by decide) rfl)) (by rw [cw_93]; decide) rfl (Nat.le_of_ble_eq_true rfl) (k_become (tb_88 hS hF) ht (by omega) hn) ?_
              show CR _ _ 83 [some (.ref 2), some (.int (nI j)), some (.int (nI s)), some (.int (nI k)), some (.ref (ta j)), some (.int (nI m)), none, none, none, none] [] S (up2 G 88 0 (.int (nI m))) (upr B 89 (va_cpy (B (ta j + 1)) (B 89) 0 0 36)) J R _
              refine cr_nx (pc' := 84) (al' := [some (.ref 2), some (.int (nI j)), some (.int (nI s)), some (.int (nI k)), some (.ref (ta j)), some (.int (nI m)), none, none, none, none]) (st' := [.int (nI s)]) d_170_83 (fun _ => rfl) ?_
              refine cr_nx (pc' := 86) (al' := [some (.ref 2), some (.int (nI j)), some (.int (nI s)), some (.int (nI k)), some (.ref (ta j)), some (.int (nI m)), some (.int (nI s)), none, none, none]) (st' := []) d_170_84 (fun _ => rfl) ?_
              refine cn_ic (v := 0) d_170_86 (by decide) ?_
              refine cr_nx (pc' := 89) (al' := [some (.ref 2), some (.int (nI j)), some (.int (nI s)), some (.int (nI k)), some (.ref (ta j)), some (.int (nI m)), some (.int (nI s)), some (.int (nI 0)), none, none]) (st' := []) d_170_87 (fun _ => rfl) ?_
              refine cr_al (congrArg (fun z__ : Nat => ([some (.ref 2), some (.int (nI j)), some (.int (nI s)), some (.int (nI k)), some (.ref (ta j)), some (.int (nI m)), some (.int (nI z__)), some (.int (nI 0)), none, none] : AL)) (show s = (wkN m s c 0).1 by rfl)) ?_
              refine cr_upw (al := fun i w_ => [some (.ref 2), some (.int (nI j)), some (.int (nI s)), some (.int (nI k)), some (.ref (ta j)), some (.int (nI m)), some (.int (nI ((wkN m s c i).1))), some (.int (nI i)), none, none]) (S := fun i w_ => S) (G := fun i w_ => (up2 G 88 0 (.int (nI m)))) (B := fun i w_ => (upr B 89 w_)) (J := fun i w_ => J) (R := fun i w_ => R) (P := fun i w_ => ∀ q, q < m * m → w_ q = nI ((wkN m s c i).2 q)) (n := k) (fun i w_ hi pi ihi => ?_) (fun w_ pi => ?_) 0 (va_cpy (B (ta j + 1)) (B 89) 0 0 36) (by omega) (fun q hq => by rw [cpy_36 (by omega)]; exact hsh.2 q hq)
              · show CR _ _ 89 [some (.ref 2), some (.int (nI j)), some (.int (nI s)), some (.int (nI k)), some (.ref (ta j)), some (.int (nI m)), some (.int (nI ((wkN m s c i).1))), some (.int (nI i)), none, none] [] S (up2 G 88 0 (.int (nI m))) (upr B 89 w_) J R _
                have hwi := wk_ok (m := m) (s0 := s) (c0 := c) hm2 (by omega) hl i
                have hai := Nat.mod_lt (drN (wkN m s c i).1) (show m > 0 by omega)
                have hbi := Nat.mod_lt (drN (drN (wkN m s c i).1)) (show m - 1 > 0 by omega)
                have hki := Nat.mod_lt (drN (drN (drN (wkN m s c i).1))) (show m > 0 by omega)
                have hbb := wk_b hm2 hai hbi
                have hd1 := dr_lt (wkN m s c i).1
                have hd2 := dr_lt (drN (wkN m s c i).1)
                have hd3 := dr_lt (drN (drN (wkN m s c i).1))
                refine cr_nx (pc' := 91) (al' := [some (.ref 2), some (.int (nI j)), some (.int (nI s)), some (.int (nI k)), some (.ref (ta j)), some (.int (nI m)), some (.int (nI ((wkN m s c i).1))), some (.int (nI i)), none, none]) (st' := [.int (nI i)]) d_170_89 (fun _ => rfl) ?_
                refine cr_nx (pc' := 92) (al' := [some (.ref 2), some (.int (nI j)), some (.int (nI s)), some (.int (nI k)), some (.ref (ta j)), some (.int (nI m)), some (.int (nI ((wkN m s c i).1))), some (.int (nI i)), none, none]) (st' := [.int (nI k), .int (nI i)]) d_170_91 (fun _ => rfl) ?_
                refine cn_cge (t := 175) d_170_92 (by decide) (by omega) (by omega) (fun c92 => ?_) (fun c92 => ?_)
                · omega
                · refine cr_nx (pc' := 97) (al' := [some (.ref 2), some (.int (nI j)), some (.int (nI s)), some (.int (nI k)), some (.ref (ta j)), some (.int (nI m)), some (.int (nI ((wkN m s c i).1))), some (.int (nI i)), none, none]) (st' := [.int (nI ((wkN m s c i).1))]) d_170_95 (fun _ => rfl) ?_
                  refine cr_ps (as := [.int (nI ((wkN m s c i).1))]) (al0 := [some (.int (nI ((wkN m s c i).1)))]) (r := []) d_170_97 cw_170 cm_11_366 (by decide) cz_171 rfl rfl rfl (Nat.le_of_ble_eq_true rfl) (k_drawAfter (by omega)) ?_
                  show CR _ _ 100 [some (.ref 2), some (.int (nI j)), some (.int (nI s)), some (.int (nI k)), some (.ref (ta j)), some (.int (nI m)), some (.int (nI ((wkN m s c i).1))), some (.int (nI i)), none, none] [.int (nI (drN ((wkN m s c i).1)))] S (up2 G 88 0 (.int (nI m))) (upr B 89 w_) J R _
                  refine cr_nx (pc' := 102) (al' := [some (.ref 2), some (.int (nI j)), some (.int (nI s)), some (.int (nI k)), some (.ref (ta j)), some (.int (nI m)), some (.int (nI (drN ((wkN m s c i).1)))), some (.int (nI i)), none, none]) (st' := []) d_170_100 (fun _ => rfl) ?_
                  refine cr_nx (pc' := 104) (al' := [some (.ref 2), some (.int (nI j)), some (.int (nI s)), some (.int (nI k)), some (.ref (ta j)), some (.int (nI m)), some (.int (nI (drN ((wkN m s c i).1)))), some (.int (nI i)), none, none]) (st' := [.int (nI (drN ((wkN m s c i).1)))]) d_170_102 (fun _ => rfl) ?_
                  refine cr_nx (pc' := 106) (al' := [some (.ref 2), some (.int (nI j)), some (.int (nI s)), some (.int (nI k)), some (.ref (ta j)), some (.int (nI m)), some (.int (nI (drN ((wkN m s c i).1)))), some (.int (nI i)), none, none]) (st' := [.int (nI m), .int (nI (drN ((wkN m s c i).1)))]) d_170_104 (fun _ => rfl) ?_
                  refine cn_rem d_170_106 (by omega) (by omega) (by omega) ?_
                  refine cr_nx (pc' := 109) (al' := [some (.ref 2), some (.int (nI j)), some (.int (nI s)), some (.int (nI k)), some (.ref (ta j)), some (.int (nI m)), some (.int (nI (drN ((wkN m s c i).1)))), some (.int (nI i)), some (.int (nI ((drN ((wkN m s c i).1)) % m))), none]) (st' := []) d_170_107 (fun _ => rfl) ?_
                  refine cr_nx (pc' := 111) (al' := [some (.ref 2), some (.int (nI j)), some (.int (nI s)), some (.int (nI k)), some (.ref (ta j)), some (.int (nI m)), some (.int (nI (drN ((wkN m s c i).1)))), some (.int (nI i)), some (.int (nI ((drN ((wkN m s c i).1)) % m))), none]) (st' := [.int (nI (drN ((wkN m s c i).1)))]) d_170_109 (fun _ => rfl) ?_
                  refine cr_ps (as := [.int (nI (drN ((wkN m s c i).1)))]) (al0 := [some (.int (nI (drN ((wkN m s c i).1))))]) (r := []) d_170_111 cw_170 cm_11_366 (by decide) cz_171 rfl rfl rfl (Nat.le_of_ble_eq_true rfl) (k_drawAfter (by omega)) ?_
                  show CR _ _ 114 [some (.ref 2), some (.int (nI j)), some (.int (nI s)), some (.int (nI k)), some (.ref (ta j)), some (.int (nI m)), some (.int (nI (drN ((wkN m s c i).1)))), some (.int (nI i)), some (.int (nI ((drN ((wkN m s c i).1)) % m))), none] [.int (nI (drN (drN ((wkN m s c i).1))))] S (up2 G 88 0 (.int (nI m))) (upr B 89 w_) J R _
                  refine cr_nx (pc' := 116) (al' := [some (.ref 2), some (.int (nI j)), some (.int (nI s)), some (.int (nI k)), some (.ref (ta j)), some (.int (nI m)), some (.int (nI (drN (drN ((wkN m s c i).1))))), some (.int (nI i)), some (.int (nI ((drN ((wkN m s c i).1)) % m))), none]) (st' := []) d_170_114 (fun _ => rfl) ?_
                  refine cr_nx (pc' := 118) (al' := [some (.ref 2), some (.int (nI j)), some (.int (nI s)), some (.int (nI k)), some (.ref (ta j)), some (.int (nI m)), some (.int (nI (drN (drN ((wkN m s c i).1))))), some (.int (nI i)), some (.int (nI ((drN ((wkN m s c i).1)) % m))), none]) (st' := [.int (nI (drN (drN ((wkN m s c i).1))))]) d_170_116 (fun _ => rfl) ?_
                  refine cr_nx (pc' := 120) (al' := [some (.ref 2), some (.int (nI j)), some (.int (nI s)), some (.int (nI k)), some (.ref (ta j)), some (.int (nI m)), some (.int (nI (drN (drN ((wkN m s c i).1))))), some (.int (nI i)), some (.int (nI ((drN ((wkN m s c i).1)) % m))), none]) (st' := [.int (nI m), .int (nI (drN (drN ((wkN m s c i).1))))]) d_170_118 (fun _ => rfl) ?_
                  refine cn_ic (v := 1) d_170_120 (by decide) ?_
                  refine cn_sub d_170_121 (by omega) ?_
                  refine cn_rem d_170_122 (by omega) (by omega) (by omega) ?_
                  refine cr_nx (pc' := 125) (al' := [some (.ref 2), some (.int (nI j)), some (.int (nI s)), some (.int (nI k)), some (.ref (ta j)), some (.int (nI m)), some (.int (nI (drN (drN ((wkN m s c i).1))))), some (.int (nI i)), some (.int (nI ((drN ((wkN m s c i).1)) % m))), some (.int (nI ((drN (drN ((wkN m s c i).1))) % (m - 1))))]) (st' := []) d_170_123 (fun _ => rfl) ?_
                  refine cr_nx (pc' := 127) (al' := [some (.ref 2), some (.int (nI j)), some (.int (nI s)), some (.int (nI k)), some (.ref (ta j)), some (.int (nI m)), some (.int (nI (drN (drN ((wkN m s c i).1))))), some (.int (nI i)), some (.int (nI ((drN ((wkN m s c i).1)) % m))), some (.int (nI ((drN (drN ((wkN m s c i).1))) % (m - 1))))]) (st' := [.int (nI ((drN (drN ((wkN m s c i).1))) % (m - 1)))]) d_170_125 (fun _ => rfl) ?_
                  refine cr_nx (pc' := 129) (al' := [some (.ref 2), some (.int (nI j)), some (.int (nI s)), some (.int (nI k)), some (.ref (ta j)), some (.int (nI m)), some (.int (nI (drN (drN ((wkN m s c i).1))))), some (.int (nI i)), some (.int (nI ((drN ((wkN m s c i).1)) % m))), some (.int (nI ((drN (drN ((wkN m s c i).1))) % (m - 1))))]) (st' := [.int (nI ((drN ((wkN m s c i).1)) % m)), .int (nI ((drN (drN ((wkN m s c i).1))) % (m - 1)))]) d_170_127 (fun _ => rfl) ?_
                  refine cn_clt (t := 135) d_170_129 (by decide) (by omega) (by omega) (fun c129 => ?_) (fun c129 => ?_)
                  · refine cr_nx (pc' := 137) (al' := [some (.ref 2), some (.int (nI j)), some (.int (nI s)), some (.int (nI k)), some (.ref (ta j)), some (.int (nI m)), some (.int (nI (drN (drN ((wkN m s c i).1))))), some (.int (nI i)), some (.int (nI ((drN ((wkN m s c i).1)) % m))), some (.int (nI ((drN (drN ((wkN m s c i).1))) % (m - 1))))]) (st' := [.int (nI (drN (drN ((wkN m s c i).1))))]) d_170_135 (fun _ => rfl) ?_
                    refine cr_ps (as := [.int (nI (drN (drN ((wkN m s c i).1))))]) (al0 := [some (.int (nI (drN (drN ((wkN m s c i).1)))))]) (r := []) d_170_137 cw_170 cm_11_366 (by decide) cz_171 rfl rfl rfl (Nat.le_of_ble_eq_true rfl) (k_drawAfter (by omega)) ?_
                    show CR _ _ 140 [some (.ref 2), some (.int (nI j)), some (.int (nI s)), some (.int (nI k)), some (.ref (ta j)), some (.int (nI m)), some (.int (nI (drN (drN ((wkN m s c i).1))))), some (.int (nI i)), some (.int (nI ((drN ((wkN m s c i).1)) % m))), some (.int (nI ((drN (drN ((wkN m s c i).1))) % (m - 1))))] [.int (nI (drN (drN (drN ((wkN m s c i).1)))))] S (up2 G 88 0 (.int (nI m))) (upr B 89 w_) J R _
                    refine cr_nx (pc' := 142) (al' := [some (.ref 2), some (.int (nI j)), some (.int (nI s)), some (.int (nI k)), some (.ref (ta j)), some (.int (nI m)), some (.int (nI (drN (drN (drN ((wkN m s c i).1)))))), some (.int (nI i)), some (.int (nI ((drN ((wkN m s c i).1)) % m))), some (.int (nI ((drN (drN ((wkN m s c i).1))) % (m - 1))))]) (st' := []) d_170_140 (fun _ => rfl) ?_
                    refine cr_nx (pc' := 143) (al' := [some (.ref 2), some (.int (nI j)), some (.int (nI s)), some (.int (nI k)), some (.ref (ta j)), some (.int (nI m)), some (.int (nI (drN (drN (drN ((wkN m s c i).1)))))), some (.int (nI i)), some (.int (nI ((drN ((wkN m s c i).1)) % m))), some (.int (nI ((drN (drN ((wkN m s c i).1))) % (m - 1))))]) (st' := [.ref 2]) d_170_142 (fun _ => rfl) ?_
                    refine cr_gf (v := .ref 88) d_170_143 cw_170 cf_11_42 (hS.i (a := 2) (by decide) (by decide)) (hS.s (a := 2) (by decide) (by decide) rfl) (by decide) (by simp [up2]; exact (fx_2_7 hF)) ?_
                    refine cr_nx (pc' := 148) (al' := [some (.ref 2), some (.int (nI j)), some (.int (nI s)), some (.int (nI k)), some (.ref (ta j)), some (.int (nI m)), some (.int (nI (drN (drN (drN ((wkN m s c i).1)))))), some (.int (nI i)), some (.int (nI ((drN ((wkN m s c i).1)) % m))), some (.int (nI ((drN (drN ((wkN m s c i).1))) % (m - 1))))]) (st' := [.int (nI ((drN ((wkN m s c i).1)) % m)), .ref 88]) d_170_146 (fun _ => rfl) ?_
                    refine cr_nx (pc' := 150) (al' := [some (.ref 2), some (.int (nI j)), some (.int (nI s)), some (.int (nI k)), some (.ref (ta j)), some (.int (nI m)), some (.int (nI (drN (drN (drN ((wkN m s c i).1)))))), some (.int (nI i)), some (.int (nI ((drN ((wkN m s c i).1)) % m))), some (.int (nI ((drN (drN ((wkN m s c i).1))) % (m - 1))))]) (st' := [.int (nI ((drN (drN ((wkN m s c i).1))) % (m - 1))), .int (nI ((drN ((wkN m s c i).1)) % m)), .ref 88]) d_170_148 (fun _ => rfl) ?_
                    refine cr_nx (pc' := 151) (al' := [some (.ref 2), some (.int (nI j)), some (.int (nI s)), some (.int (nI k)), some (.ref (ta j)), some (.int (nI m)), some (.int (nI (drN (drN (drN ((wkN m s c i).1)))))), some (.int (nI i)), some (.int (nI ((drN ((wkN m s c i).1)) % m))), some (.int (nI ((drN (drN ((wkN m s c i).1))) % (m - 1))))]) (st' := [.ref 2, .int (nI ((drN (drN ((wkN m s c i).1))) % (m - 1))), .int (nI ((drN ((wkN m s c i).1)) % m)), .ref 88]) d_170_150 (fun _ => rfl) ?_
                    refine cr_gf (v := .ref 88) d_170_151 cw_170 cf_11_42 (hS.i (a := 2) (by decide) (by decide)) (hS.s (a := 2) (by decide) (by decide) rfl) (by decide) (by simp [up2]; exact (fx_2_7 hF)) ?_
                    refine cr_nx (pc' := 156) (al' := [some (.ref 2), some (.int (nI j)), some (.int (nI s)), some (.int (nI k)), some (.ref (ta j)), some (.int (nI m)), some (.int (nI (drN (drN (drN ((wkN m s c i).1)))))), some (.int (nI i)), some (.int (nI ((drN ((wkN m s c i).1)) % m))), some (.int (nI ((drN (drN ((wkN m s c i).1))) % (m - 1))))]) (st' := [.int (nI ((drN ((wkN m s c i).1)) % m)), .ref 88, .int (nI ((drN (drN ((wkN m s c i).1))) % (m - 1))), .int (nI ((drN ((wkN m s c i).1)) % m)), .ref 88]) d_170_154 (fun _ => rfl) ?_
                    refine cr_nx (pc' := 158) (al' := [some (.ref 2), some (.int (nI j)), some (.int (nI s)), some (.int (nI k)), some (.ref (ta j)), some (.int (nI m)), some (.int (nI (drN (drN (drN ((wkN m s c i).1)))))), some (.int (nI i)), some (.int (nI ((drN ((wkN m s c i).1)) % m))), some (.int (nI ((drN (drN ((wkN m s c i).1))) % (m - 1))))]) (st' := [.int (nI ((drN (drN ((wkN m s c i).1))) % (m - 1))), .int (nI ((drN ((wkN m s c i).1)) % m)), .ref 88, .int (nI ((drN (drN ((wkN m s c i).1))) % (m - 1))), .int (nI ((drN ((wkN m s c i).1)) % m)), .ref 88]) d_170_156 (fun _ => rfl) ?_
                    refine cr_nx (pc' := 160) (al' := [some (.ref 2), some (.int (nI j)), some (.int (nI s)), some (.int (nI k)), some (.ref (ta j)), some (.int (nI m)), some (.int (nI (drN (drN (drN ((wkN m s c i).1)))))), some (.int (nI i)), some (.int (nI ((drN ((wkN m s c i).1)) % m))), some (.int (nI ((drN (drN ((wkN m s c i).1))) % (m - 1))))]) (st' := [.int (nI (drN (drN (drN ((wkN m s c i).1))))), .int (nI ((drN (drN ((wkN m s c i).1))) % (m - 1))), .int (nI ((drN ((wkN m s c i).1)) % m)), .ref 88, .int (nI ((drN (drN ((wkN m s c i).1))) % (m - 1))), .int (nI ((drN ((wkN m s c i).1)) % m)), .ref 88]) d_170_158 (fun _ => rfl) ?_
                    refine cr_nx (pc' := 162) (al' := [some (.ref 2), some (.int (nI j)), some (.int (nI s)), some (.int (nI k)), some (.ref (ta j)), some (.int (nI m)), some (.int (nI (drN (drN (drN ((wkN m s c i).1)))))), some (.int (nI i)), some (.int (nI ((drN ((wkN m s c i).1)) % m))), some (.int (nI ((drN (drN ((wkN m s c i).1))) % (m - 1))))]) (st' := [.int (nI m), .int (nI (drN (drN (drN ((wkN m s c i).1))))), .int (nI ((drN (drN ((wkN m s c i).1))) % (m - 1))), .int (nI ((drN ((wkN m s c i).1)) % m)), .ref 88, .int (nI ((drN (drN ((wkN m s c i).1))) % (m - 1))), .int (nI ((drN ((wkN m s c i).1)) % m)), .ref 88]) d_170_160 (fun _ => rfl) ?_
                    refine cn_rem d_170_162 (by omega) (by omega) (by omega) ?_
                    have hcD : TabC (upr B 89 w_) 88 m (wkN m s c i).2 := ⟨hm6, fun q hq => ⟨by rw [show (88 + 1 : Nat) = 89 from rfl, upr_s]; exact pi q hq, hwi.2.1 q hq⟩⟩
                    refine cr_pv (b := 88) (as := [.int (nI ((drN ((wkN m s c i).1)) % m)), .int (nI ((drN (drN ((wkN m s c i).1))) % (m - 1))), .int (nI ((drN (drN (drN ((wkN m s c i).1)))) % m))]) (al0 := [some (.ref 88), some (.int (nI ((drN ((wkN m s c i).1)) % m))), some (.int (nI ((drN (drN ((wkN m s c i).1))) % (m - 1)))), some (.int (nI ((drN (drN (drN ((wkN m s c i).1)))) % m))), none, none, none]) (r := [.int (nI ((drN (drN ((wkN m s c i).1))) % (m - 1))), .int (nI ((drN ((wkN m s c i).1)) % m)), .ref 88]) d_170_163 cw_170 cm_11_173 cz_101 rfl rfl (hS.i (a := 88) (by decide) (by decide)) (by rw [cw_101]; exact (hS.s (a := 88) (by decide) (by decide) rfl)) (by rw [cw_101]; decide) rfl (Nat.le_of_ble_eq_true rfl) (k_cycleFrom (e := drN (wkN m s c i).1 % m) (f := (drN (drN ((wkN m s c i).1))) % (m - 1)) (k := drN (drN (drN (wkN m s c i).1)) % m) (tb_88 hS hF).up up2_s hcD hwi.2 hai (by omega) hki) ?_
                    show CR _ _ 166 [some (.ref 2), some (.int (nI j)), some (.int (nI s)), some (.int (nI k)), some (.ref (ta j)), some (.int (nI m)), some (.int (nI (drN (drN (drN ((wkN m s c i).1)))))), some (.int (nI i)), some (.int (nI ((drN ((wkN m s c i).1)) % m))), some (.int (nI ((drN (drN ((wkN m s c i).1))) % (m - 1))))] [.int (nI (orb m (sgN m (wkN m s c i).2 (drN (wkN m s c i).1 % m) ((drN (drN ((wkN m s c i).1))) % (m - 1))) (drN (drN (drN (wkN m s c i).1)) % m))), .int (nI ((drN (drN ((wkN m s c i).1))) % (m - 1))), .int (nI ((drN ((wkN m s c i).1)) % m)), .ref 88] S (up2 G 88 0 (.int (nI m))) (upr B 89 w_) J R _
                    refine cr_cv (b := 88) (as := [.int (nI ((drN ((wkN m s c i).1)) % m)), .int (nI ((drN (drN ((wkN m s c i).1))) % (m - 1))), .int (nI (orb m (sgN m (wkN m s c i).2 (drN (wkN m s c i).1 % m) ((drN (drN ((wkN m s c i).1))) % (m - 1))) (drN (drN (drN (wkN m s c i).1)) % m)))]) (al0 := [some (.ref 88), some (.int (nI ((drN ((wkN m s c i).1)) % m))), some (.int (nI ((drN (drN ((wkN m s c i).1))) % (m - 1)))), some (.int (nI (orb m (sgN m (wkN m s c i).2 (drN (wkN m s c i).1 % m) ((drN (drN ((wkN m s c i).1))) % (m - 1))) (drN (drN (drN (wkN m s c i).1)) % m)))), none]) (r := []) d_170_166 cw_170 cm_11_177 cz_103 rfl rfl (hS.i (a := 88) (by decide) (by decide)) (by rw [cw_103]; exact (hS.s (a := 88) (by decide) (by decide) rfl)) (by rw [cw_103]; decide) rfl (cr_wk (Nat.le_of_ble_eq_true rfl) (k_switchRows (e := drN (wkN m s c i).1 % m) (f := (drN (drN ((wkN m s c i).1))) % (m - 1)) (tb_88 hS hF).up up2_s hcD hai (by omega) (by omega) (orb_64 (sg_per hwi.2 hai (by omega)) hm6 hki))) (fun v1 S1 G1 B1 J1 R1 h1x => ?_)
                    obtain ⟨q0_, q1_, q2_, q3_, q4_, w9, q9_, hw9⟩ := h1x
                    obtain rfl := q0_
                    obtain rfl := q1_.symm
                    obtain rfl := q2_.symm
                    obtain rfl := q3_.symm
                    obtain rfl := q4_.symm
                    obtain rfl := q9_
                    rw [upr_u]
                    have eb : (drN (drN ((wkN m s c i).1))) % (m - 1) = wkB (drN (wkN m s c i).1 % m) (drN (drN (wkN m s c i).1) % (m - 1)) := by unfold wkB; rw [if_pos c129]
                    rw [eb] at hw9
                    show CR _ _ 169 [some (.ref 2), some (.int (nI j)), some (.int (nI s)), some (.int (nI k)), some (.ref (ta j)), some (.int (nI m)), some (.int (nI (drN (drN (drN ((wkN m s c i).1)))))), some (.int (nI i)), some (.int (nI ((drN ((wkN m s c i).1)) % m))), some (.int (nI ((drN (drN ((wkN m s c i).1))) % (m - 1))))] [] S (up2 G 88 0 (.int (nI m))) (upr B 89 w9) J R _
                    refine cn_inc d_170_169 rfl rfl ?_
                    show CR _ _ 172 [some (.ref 2), some (.int (nI j)), some (.int (nI s)), some (.int (nI k)), some (.ref (ta j)), some (.int (nI m)), some (.int (nI (drN (drN (drN ((wkN m s c i).1)))))), some (.int (nI (i + 1))), some (.int (nI ((drN ((wkN m s c i).1)) % m))), some (.int (nI ((drN (drN ((wkN m s c i).1))) % (m - 1))))] [] S (up2 G 88 0 (.int (nI m))) (upr B 89 w9) J R _
                    refine cr_nx (pc' := 89) (al' := [some (.ref 2), some (.int (nI j)), some (.int (nI s)), some (.int (nI k)), some (.ref (ta j)), some (.int (nI m)), some (.int (nI (drN (drN (drN ((wkN m s c i).1)))))), some (.int (nI (i + 1))), some (.int (nI ((drN ((wkN m s c i).1)) % m))), some (.int (nI ((drN (drN ((wkN m s c i).1))) % (m - 1))))]) (st' := []) d_170_172 (fun _ => rfl) ?_
                    refine cr_al (congrArg (fun z__ : Nat => ([some (.ref 2), some (.int (nI j)), some (.int (nI s)), some (.int (nI k)), some (.ref (ta j)), some (.int (nI m)), some (.int (nI z__)), some (.int (nI (i + 1))), some (.int (nI ((drN ((wkN m s c i).1)) % m))), some (.int (nI ((drN (drN ((wkN m s c i).1))) % (m - 1))))] : AL)) (show drN (drN (drN ((wkN m s c i).1))) = (wkN m s c (i + 1)).1 by rfl)) ?_
                    refine cr_dr (al1 := [some (.ref 2), some (.int (nI j)), some (.int (nI s)), some (.int (nI k)), some (.ref (ta j)), some (.int (nI m)), some (.int (nI ((wkN m s c (i + 1)).1))), some (.int (nI (i + 1))), none, none]) (le_s (le_s (le_s (le_s (le_s (le_s (le_s (le_s (le_d rfl (le_d rfl (le_n))))))))))) ?_
                    exact ihi w9 (hw9)
                  · refine cn_inc d_170_132 rfl rfl ?_
                    show CR _ _ 135 [some (.ref 2), some (.int (nI j)), some (.int (nI s)), some (.int (nI k)), some (.ref (ta j)), some (.int (nI m)), some (.int (nI (drN (drN ((wkN m s c i).1))))), some (.int (nI i)), some (.int (nI ((drN ((wkN m s c i).1)) % m))), some (.int (nI (((drN (drN ((wkN m s c i).1))) % (m - 1)) + 1)))] [] S (up2 G 88 0 (.int (nI m))) (upr B 89 w_) J R _
                    refine cr_nx (pc' := 137) (al' := [some (.ref 2), some (.int (nI j)), some (.int (nI s)), some (.int (nI k)), some (.ref (ta j)), some (.int (nI m)), some (.int (nI (drN (drN ((wkN m s c i).1))))), some (.int (nI i)), some (.int (nI ((drN ((wkN m s c i).1)) % m))), some (.int (nI (((drN (drN ((wkN m s c i).1))) % (m - 1)) + 1)))]) (st' := [.int (nI (drN (drN ((wkN m s c i).1))))]) d_170_135 (fun _ => rfl) ?_
                    refine cr_ps (as := [.int (nI (drN (drN ((wkN m s c i).1))))]) (al0 := [some (.int (nI (drN (drN ((wkN m s c i).1)))))]) (r := []) d_170_137 cw_170 cm_11_366 (by decide) cz_171 rfl rfl rfl (Nat.le_of_ble_eq_true rfl) (k_drawAfter (by omega)) ?_
                    show CR _ _ 140 [some (.ref 2), some (.int (nI j)), some (.int (nI s)), some (.int (nI k)), some (.ref (ta j)), some (.int (nI m)), some (.int (nI (drN (drN ((wkN m s c i).1))))), some (.int (nI i)), some (.int (nI ((drN ((wkN m s c i).1)) % m))), some (.int (nI (((drN (drN ((wkN m s c i).1))) % (m - 1)) + 1)))] [.int (nI (drN (drN (drN ((wkN m s c i).1)))))] S (up2 G 88 0 (.int (nI m))) (upr B 89 w_) J R _
                    refine cr_nx (pc' := 142) (al' := [some (.ref 2), some (.int (nI j)), some (.int (nI s)), some (.int (nI k)), some (.ref (ta j)), some (.int (nI m)), some (.int (nI (drN (drN (drN ((wkN m s c i).1)))))), some (.int (nI i)), some (.int (nI ((drN ((wkN m s c i).1)) % m))), some (.int (nI (((drN (drN ((wkN m s c i).1))) % (m - 1)) + 1)))]) (st' := []) d_170_140 (fun _ => rfl) ?_
                    refine cr_nx (pc' := 143) (al' := [some (.ref 2), some (.int (nI j)), some (.int (nI s)), some (.int (nI k)), some (.ref (ta j)), some (.int (nI m)), some (.int (nI (drN (drN (drN ((wkN m s c i).1)))))), some (.int (nI i)), some (.int (nI ((drN ((wkN m s c i).1)) % m))), some (.int (nI (((drN (drN ((wkN m s c i).1))) % (m - 1)) + 1)))]) (st' := [.ref 2]) d_170_142 (fun _ => rfl) ?_
                    refine cr_gf (v := .ref 88) d_170_143 cw_170 cf_11_42 (hS.i (a := 2) (by decide) (by decide)) (hS.s (a := 2) (by decide) (by decide) rfl) (by decide) (by simp [up2]; exact (fx_2_7 hF)) ?_
                    refine cr_nx (pc' := 148) (al' := [some (.ref 2), some (.int (nI j)), some (.int (nI s)), some (.int (nI k)), some (.ref (ta j)), some (.int (nI m)), some (.int (nI (drN (drN (drN ((wkN m s c i).1)))))), some (.int (nI i)), some (.int (nI ((drN ((wkN m s c i).1)) % m))), some (.int (nI (((drN (drN ((wkN m s c i).1))) % (m - 1)) + 1)))]) (st' := [.int (nI ((drN ((wkN m s c i).1)) % m)), .ref 88]) d_170_146 (fun _ => rfl) ?_
                    refine cr_nx (pc' := 150) (al' := [some (.ref 2), some (.int (nI j)), some (.int (nI s)), some (.int (nI k)), some (.ref (ta j)), some (.int (nI m)), some (.int (nI (drN (drN (drN ((wkN m s c i).1)))))), some (.int (nI i)), some (.int (nI ((drN ((wkN m s c i).1)) % m))), some (.int (nI (((drN (drN ((wkN m s c i).1))) % (m - 1)) + 1)))]) (st' := [.int (nI (((drN (drN ((wkN m s c i).1))) % (m - 1)) + 1)), .int (nI ((drN ((wkN m s c i).1)) % m)), .ref 88]) d_170_148 (fun _ => rfl) ?_
                    refine cr_nx (pc' := 151) (al' := [some (.ref 2), some (.int (nI j)), some (.int (nI s)), some (.int (nI k)), some (.ref (ta j)), some (.int (nI m)), some (.int (nI (drN (drN (drN ((wkN m s c i).1)))))), some (.int (nI i)), some (.int (nI ((drN ((wkN m s c i).1)) % m))), some (.int (nI (((drN (drN ((wkN m s c i).1))) % (m - 1)) + 1)))]) (st' := [.ref 2, .int (nI (((drN (drN ((wkN m s c i).1))) % (m - 1)) + 1)), .int (nI ((drN ((wkN m s c i).1)) % m)), .ref 88]) d_170_150 (fun _ => rfl) ?_
                    refine cr_gf (v := .ref 88) d_170_151 cw_170 cf_11_42 (hS.i (a := 2) (by decide) (by decide)) (hS.s (a := 2) (by decide) (by decide) rfl) (by decide) (by simp [up2]; exact (fx_2_7 hF)) ?_
                    refine cr_nx (pc' := 156) (al' := [some (.ref 2), some (.int (nI j)), some (.int (nI s)), some (.int (nI k)), some (.ref (ta j)), some (.int (nI m)), some (.int (nI (drN (drN (drN ((wkN m s c i).1)))))), some (.int (nI i)), some (.int (nI ((drN ((wkN m s c i).1)) % m))), some (.int (nI (((drN (drN ((wkN m s c i).1))) % (m - 1)) + 1)))]) (st' := [.int (nI ((drN ((wkN m s c i).1)) % m)), .ref 88, .int (nI (((drN (drN ((wkN m s c i).1))) % (m - 1)) + 1)), .int (nI ((drN ((wkN m s c i).1)) % m)), .ref 88]) d_170_154 (fun _ => rfl) ?_
                    refine cr_nx (pc' := 158) (al' := [some (.ref 2), some (.int (nI j)), some (.int (nI s)), some (.int (nI k)), some (.ref (ta j)), some (.int (nI m)), some (.int (nI (drN (drN (drN ((wkN m s c i).1)))))), some (.int (nI i)), some (.int (nI ((drN ((wkN m s c i).1)) % m))), some (.int (nI (((drN (drN ((wkN m s c i).1))) % (m - 1)) + 1)))]) (st' := [.int (nI (((drN (drN ((wkN m s c i).1))) % (m - 1)) + 1)), .int (nI ((drN ((wkN m s c i).1)) % m)), .ref 88, .int (nI (((drN (drN ((wkN m s c i).1))) % (m - 1)) + 1)), .int (nI ((drN ((wkN m s c i).1)) % m)), .ref 88]) d_170_156 (fun _ => rfl) ?_
                    refine cr_nx (pc' := 160) (al' := [some (.ref 2), some (.int (nI j)), some (.int (nI s)), some (.int (nI k)), some (.ref (ta j)), some (.int (nI m)), some (.int (nI (drN (drN (drN ((wkN m s c i).1)))))), some (.int (nI i)), some (.int (nI ((drN ((wkN m s c i).1)) % m))), some (.int (nI (((drN (drN ((wkN m s c i).1))) % (m - 1)) + 1)))]) (st' := [.int (nI (drN (drN (drN ((wkN m s c i).1))))), .int (nI (((drN (drN ((wkN m s c i).1))) % (m - 1)) + 1)), .int (nI ((drN ((wkN m s c i).1)) % m)), .ref 88, .int (nI (((drN (drN ((wkN m s c i).1))) % (m - 1)) + 1)), .int (nI ((drN ((wkN m s c i).1)) % m)), .ref 88]) d_170_158 (fun _ => rfl) ?_
                    refine cr_nx (pc' := 162) (al' := [some (.ref 2), some (.int (nI j)), some (.int (nI s)), some (.int (nI k)), some (.ref (ta j)), some (.int (nI m)), some (.int (nI (drN (drN (drN ((wkN m s c i).1)))))), some (.int (nI i)), some (.int (nI ((drN ((wkN m s c i).1)) % m))), some (.int (nI (((drN (drN ((wkN m s c i).1))) % (m - 1)) + 1)))]) (st' := [.int (nI m), .int (nI (drN (drN (drN ((wkN m s c i).1))))), .int (nI (((drN (drN ((wkN m s c i).1))) % (m - 1)) + 1)), .int (nI ((drN ((wkN m s c i).1)) % m)), .ref 88, .int (nI (((drN (drN ((wkN m s c i).1))) % (m - 1)) + 1)), .int (nI ((drN ((wkN m s c i).1)) % m)), .ref 88]) d_170_160 (fun _ => rfl) ?_
                    refine cn_rem d_170_162 (by omega) (by omega) (by omega) ?_
                    have hcD : TabC (upr B 89 w_) 88 m (wkN m s c i).2 := ⟨hm6, fun q hq => ⟨by rw [show (88 + 1 : Nat) = 89 from rfl, upr_s]; exact pi q hq, hwi.2.1 q hq⟩⟩
                    refine cr_pv (b := 88) (as := [.int (nI ((drN ((wkN m s c i).1)) % m)), .int (nI (((drN (drN ((wkN m s c i).1))) % (m - 1)) + 1)), .int (nI ((drN (drN (drN ((wkN m s c i).1)))) % m))]) (al0 := [some (.ref 88), some (.int (nI ((drN ((wkN m s c i).1)) % m))), some (.int (nI (((drN (drN ((wkN m s c i).1))) % (m - 1)) + 1))), some (.int (nI ((drN (drN (drN ((wkN m s c i).1)))) % m))), none, none, none]) (r := [.int (nI (((drN (drN ((wkN m s c i).1))) % (m - 1)) + 1)), .int (nI ((drN ((wkN m s c i).1)) % m)), .ref 88]) d_170_163 cw_170 cm_11_173 cz_101 rfl rfl (hS.i (a := 88) (by decide) (by decide)) (by rw [cw_101]; exact (hS.s (a := 88) (by decide) (by decide) rfl)) (by rw [cw_101]; decide) rfl (Nat.le_of_ble_eq_true rfl) (k_cycleFrom (e := drN (wkN m s c i).1 % m) (f := ((drN (drN ((wkN m s c i).1))) % (m - 1)) + 1) (k := drN (drN (drN (wkN m s c i).1)) % m) (tb_88 hS hF).up up2_s hcD hwi.2 hai (by omega) hki) ?_
                    show CR _ _ 166 [some (.ref 2), some (.int (nI j)), some (.int (nI s)), some (.int (nI k)), some (.ref (ta j)), some (.int (nI m)), some (.int (nI (drN (drN (drN ((wkN m s c i).1)))))), some (.int (nI i)), some (.int (nI ((drN ((wkN m s c i).1)) % m))), some (.int (nI (((drN (drN ((wkN m s c i).1))) % (m - 1)) + 1)))] [.int (nI (orb m (sgN m (wkN m s c i).2 (drN (wkN m s c i).1 % m) (((drN (drN ((wkN m s c i).1))) % (m - 1)) + 1)) (drN (drN (drN (wkN m s c i).1)) % m))), .int (nI (((drN (drN ((wkN m s c i).1))) % (m - 1)) + 1)), .int (nI ((drN ((wkN m s c i).1)) % m)), .ref 88] S (up2 G 88 0 (.int (nI m))) (upr B 89 w_) J R _
                    refine cr_cv (b := 88) (as := [.int (nI ((drN ((wkN m s c i).1)) % m)), .int (nI (((drN (drN ((wkN m s c i).1))) % (m - 1)) + 1)), .int (nI (orb m (sgN m (wkN m s c i).2 (drN (wkN m s c i).1 % m) (((drN (drN ((wkN m s c i).1))) % (m - 1)) + 1)) (drN (drN (drN (wkN m s c i).1)) % m)))]) (al0 := [some (.ref 88), some (.int (nI ((drN ((wkN m s c i).1)) % m))), some (.int (nI (((drN (drN ((wkN m s c i).1))) % (m - 1)) + 1))), some (.int (nI (orb m (sgN m (wkN m s c i).2 (drN (wkN m s c i).1 % m) (((drN (drN ((wkN m s c i).1))) % (m - 1)) + 1)) (drN (drN (drN (wkN m s c i).1)) % m)))), none]) (r := []) d_170_166 cw_170 cm_11_177 cz_103 rfl rfl (hS.i (a := 88) (by decide) (by decide)) (by rw [cw_103]; exact (hS.s (a := 88) (by decide) (by decide) rfl)) (by rw [cw_103]; decide) rfl (cr_wk (Nat.le_of_ble_eq_true rfl) (k_switchRows (e := drN (wkN m s c i).1 % m) (f := ((drN (drN ((wkN m s c i).1))) % (m - 1)) + 1) (tb_88 hS hF).up up2_s hcD hai (by omega) (by omega) (orb_64 (sg_per hwi.2 hai (by omega)) hm6 hki))) (fun v1 S1 G1 B1 J1 R1 h1x => ?_)
                    obtain ⟨q0_, q1_, q2_, q3_, q4_, w9, q9_, hw9⟩ := h1x
                    obtain rfl := q0_
                    obtain rfl := q1_.symm
                    obtain rfl := q2_.symm
                    obtain rfl := q3_.symm
                    obtain rfl := q4_.symm
                    obtain rfl := q9_
                    rw [upr_u]
                    have eb : ((drN (drN ((wkN m s c i).1))) % (m - 1)) + 1 = wkB (drN (wkN m s c i).1 % m) (drN (drN (wkN m s c i).1) % (m - 1)) := by unfold wkB; rw [if_neg (by omega)]
                    rw [eb] at hw9
                    show CR _ _ 169 [some (.ref 2), some (.int (nI j)), some (.int (nI s)), some (.int (nI k)), some (.ref (ta j)), some (.int (nI m)), some (.int (nI (drN (drN (drN ((wkN m s c i).1)))))), some (.int (nI i)), some (.int (nI ((drN ((wkN m s c i).1)) % m))), some (.int (nI (((drN (drN ((wkN m s c i).1))) % (m - 1)) + 1)))] [] S (up2 G 88 0 (.int (nI m))) (upr B 89 w9) J R _
                    refine cn_inc d_170_169 rfl rfl ?_
                    show CR _ _ 172 [some (.ref 2), some (.int (nI j)), some (.int (nI s)), some (.int (nI k)), some (.ref (ta j)), some (.int (nI m)), some (.int (nI (drN (drN (drN ((wkN m s c i).1)))))), some (.int (nI (i + 1))), some (.int (nI ((drN ((wkN m s c i).1)) % m))), some (.int (nI (((drN (drN ((wkN m s c i).1))) % (m - 1)) + 1)))] [] S (up2 G 88 0 (.int (nI m))) (upr B 89 w9) J R _
                    refine cr_nx (pc' := 89) (al' := [some (.ref 2), some (.int (nI j)), some (.int (nI s)), some (.int (nI k)), some (.ref (ta j)), some (.int (nI m)), some (.int (nI (drN (drN (drN ((wkN m s c i).1)))))), some (.int (nI (i + 1))), some (.int (nI ((drN ((wkN m s c i).1)) % m))), some (.int (nI (((drN (drN ((wkN m s c i).1))) % (m - 1)) + 1)))]) (st' := []) d_170_172 (fun _ => rfl) ?_
                    refine cr_al (congrArg (fun z__ : Nat => ([some (.ref 2), some (.int (nI j)), some (.int (nI s)), some (.int (nI k)), some (.ref (ta j)), some (.int (nI m)), some (.int (nI z__)), some (.int (nI (i + 1))), some (.int (nI ((drN ((wkN m s c i).1)) % m))), some (.int (nI (((drN (drN ((wkN m s c i).1))) % (m - 1)) + 1)))] : AL)) (show drN (drN (drN ((wkN m s c i).1))) = (wkN m s c (i + 1)).1 by rfl)) ?_
                    refine cr_dr (al1 := [some (.ref 2), some (.int (nI j)), some (.int (nI s)), some (.int (nI k)), some (.ref (ta j)), some (.int (nI m)), some (.int (nI ((wkN m s c (i + 1)).1))), some (.int (nI (i + 1))), none, none]) (le_s (le_s (le_s (le_s (le_s (le_s (le_s (le_s (le_d rfl (le_d rfl (le_n))))))))))) ?_
                    exact ihi w9 (hw9)
              · show CR _ _ 89 [some (.ref 2), some (.int (nI j)), some (.int (nI s)), some (.int (nI k)), some (.ref (ta j)), some (.int (nI m)), some (.int (nI ((wkN m s c k).1))), some (.int (nI k)), none, none] [] S (up2 G 88 0 (.int (nI m))) (upr B 89 w_) J R _
                refine cr_nx (pc' := 91) (al' := [some (.ref 2), some (.int (nI j)), some (.int (nI s)), some (.int (nI k)), some (.ref (ta j)), some (.int (nI m)), some (.int (nI ((wkN m s c k).1))), some (.int (nI k)), none, none]) (st' := [.int (nI k)]) d_170_89 (fun _ => rfl) ?_
                refine cr_nx (pc' := 92) (al' := [some (.ref 2), some (.int (nI j)), some (.int (nI s)), some (.int (nI k)), some (.ref (ta j)), some (.int (nI m)), some (.int (nI ((wkN m s c k).1))), some (.int (nI k)), none, none]) (st' := [.int (nI k), .int (nI k)]) d_170_91 (fun _ => rfl) ?_
                refine cn_cge (t := 175) d_170_92 (by decide) (by omega) (by omega) (fun c92 => ?_) (fun c92 => ?_)
                · refine cr_nx (pc' := 176) (al' := [some (.ref 2), some (.int (nI j)), some (.int (nI s)), some (.int (nI k)), some (.ref (ta j)), some (.int (nI m)), some (.int (nI ((wkN m s c k).1))), some (.int (nI k)), none, none]) (st' := [.ref 2]) d_170_175 (fun _ => rfl) ?_
                  refine cr_nx (pc' := 177) (al' := [some (.ref 2), some (.int (nI j)), some (.int (nI s)), some (.int (nI k)), some (.ref (ta j)), some (.int (nI m)), some (.int (nI ((wkN m s c k).1))), some (.int (nI k)), none, none]) (st' := [.ref 2, .ref 2]) d_170_176 (fun _ => rfl) ?_
                  refine cr_gf (v := .ref 88) d_170_177 cw_170 cf_11_42 (hS.i (a := 2) (by decide) (by decide)) (hS.s (a := 2) (by decide) (by decide) rfl) (by decide) (by simp [up2]; exact (fx_2_7 hF)) ?_
                  refine cr_nx (pc' := 182) (al' := [some (.ref 2), some (.int (nI j)), some (.int (nI s)), some (.int (nI k)), some (.ref (ta j)), some (.int (nI m)), some (.int (nI ((wkN m s c k).1))), some (.int (nI k)), none, none]) (st' := [.ref (ta j), .ref 88, .ref 2]) d_170_180 (fun _ => rfl) ?_
                  have hwk := wk_ok (m := m) (s0 := s) (c0 := c) hm2 (by omega) hl k
                  have hcK : TabC (upr B 89 w_) 88 m (wkN m s c k).2 := ⟨hm6, fun q hq => ⟨by rw [show (88 + 1 : Nat) = 89 from rfl, upr_s]; exact pi q hq, hwk.2.1 q hq⟩⟩
                  have hcJ : TabC (upr B 89 w_) (ta j) m c := ⟨hm6, fun q hq => ⟨by rw [upr_n (by omega)]; exact (hc.2 q hq).1, (hc.2 q hq).2⟩⟩
                  refine cr_pv (b := 88) (as := [.ref (ta j)]) (al0 := [some (.ref 88), some (.ref (ta j)), none, none]) (r := [.ref 2]) d_170_182 cw_170 cm_11_309 cz_109 rfl rfl (hS.i (a := 88) (by decide) (by decide)) (by rw [cw_109]; exact (hS.s (a := 88) (by decide) (by decide) rfl)) (by rw [cw_109]; decide) rfl (Nat.le_of_ble_eq_true rfl) (k_differences (tb_88 hS hF).up up2_s hcK (TabAt.up ht) hcJ) ?_
                  show CR _ _ 185 [some (.ref 2), some (.int (nI j)), some (.int (nI s)), some (.int (nI k)), some (.ref (ta j)), some (.int (nI m)), some (.int (nI ((wkN m s c k).1))), some (.int (nI k)), none, none] [.int (nI (dfN (m * m) (wkN m s c k).2 c)), .ref 2] S (up2 G 88 0 (.int (nI m))) (upr B 89 w_) J R _
                  refine cr_pv (b := 2) (as := [.int (nI (dfN (m * m) (wkN m s c k).2 c))]) (al0 := [some (.ref 2), some (.int (nI (dfN (m * m) (wkN m s c k).2 c)))]) (r := []) d_170_185 cw_170 cm_11_212 cz_123 rfl rfl (hS.i (a := 2) (by decide) (by decide)) (by rw [cw_123]; exact (hS.s (a := 2) (by decide) (by decide) rfl)) (by rw [cw_123]; decide) rfl (Nat.le_of_ble_eq_true rfl) (k_accept hS) ?_
                  show CR _ _ 188 [some (.ref 2), some (.int (nI j)), some (.int (nI s)), some (.int (nI k)), some (.ref (ta j)), some (.int (nI m)), some (.int (nI ((wkN m s c k).1))), some (.int (nI k)), none, none] [.int (nI (dfN (m * m) (wkN m s c k).2 c))] S (up2 (up2 G 88 0 (.int (nI m))) 2 16 (.int (nI 0))) (upr B 89 w_) J R _
                  exact cr_ri d_170_188 cx_170 rfl ⟨rfl, (hW.wk (FxG.u2 (FxG.u88 hF)) (fun b b1 b2 => by rw [up2_g b1, up2_g b2]) (fun k_ hk_ => by rw [up2_n (fun e_ => hk_ e_.2), up2_n (fun e_ => absurd e_.1 (by decide))]) up2_s (fun b b1 => upr_n b1) (show ShT _ _ 88 (m, (wkN m s c k).2) from ⟨by rw [up2_n (by decide), up2_s], fun q hq => by show upr B 89 w_ 89 q = _; rw [upr_s]; exact pi q hq⟩) ⟨hm6, hwk.2⟩).mo⟩
                · omega
            · omega
          · exact absurd hyes c33
        · omega
theorem r_walk_y {g : Nat → Int32} {A : Nat → Nat → Int32} {n : Nat} {W : WS} (hW : WR n g A W) (hO : CoOk (wK W)) {j m : Nat} {c : Nat → Nat} (hj : j < 6) (htb : tbK (wK W) j = (m, c)) (h1 : 1 ≤ m) {s k : Nat} (hs : s ≤ 1000000) (hk2 : k ≤ 200) (hm2 : 2 ≤ m) (hn5 : n ≤ 10000) : RR 80 285 0 [some (.ref 146), some (.int (nI j)), some (.int (nI s)), some (.int (nI k)), none, none, none] [] g A (fun r__ g' A' => r__ = some (.int (nI (dfN (m * m) (wkN m s c k).2 c))) ∧ WR (n + 1) g' A' (wkW W (m, (wkN m s c k).2))) := by
  have hsh := hW.1.1.1 j hj
  rw [show kH (wK W) (kD (wK W)) j = (m, c) from htb] at hsh
  have hok := tb_ok hO hj
  rw [htb] at hok
  have hk : A 1 (37 * j) = nI m := hsh.1
  have hl : Lat m c := hok.2
  have hm6 : m ≤ 6 := hok.1
  have hyes : isT A (nI j) := (has_r hW hO).mpr ((has_i hj).mpr (by rw [htb]; exact h1))
  have h36 := Nat.mul_le_mul hm6 hm6
  refine rr_nx (pc' := 1) (al' := [some (.ref 146), some (.int (nI j)), some (.int (nI s)), some (.int (nI k)), none, none, none]) (st' := [.int (nI s)]) d_285_0 (fun _ => rfl) ?_
  refine rn_ic (v := 0) d_285_1 (by decide) ?_
  refine rr_k2 (v := nI 1000000) d_285_2 mo_285 ck_12_152 ?_
  refine rr_ps (as := [.int (nI s), .int (nI 0), .int (nI 1000000)]) (al0 := [some (.int (nI s)), some (.int (nI 0)), some (.int (nI 1000000))]) (r := []) d_285_4 mo_285 ml_106 mz_179 rfl rfl rfl (Nat.le_of_ble_eq_true rfl) (s_lies (nI s) (nI 0) (nI 1000000)) ?_
  show RR _ _ 7 [some (.ref 146), some (.int (nI j)), some (.int (nI s)), some (.int (nI k)), none, none, none] [.int (bI ((nI 0) ≤ (nI s) ∧ (nI s) ≤ (nI 1000000)))] g A _
  refine rr_beq (t := 21) d_285_7 (by decide) (fun c7 => ?_) (fun c7 => ?_)
  · exact absurd (ia_natI (by decide) hs) c7
  · refine rr_nx (pc' := 11) (al' := [some (.ref 146), some (.int (nI j)), some (.int (nI s)), some (.int (nI k)), none, none, none]) (st' := [.int (nI k)]) d_285_10 (fun _ => rfl) ?_
    refine rn_ic (v := 0) d_285_11 (by decide) ?_
    refine rn_sp (v := 200) d_285_12 (by decide) ?_
    refine rr_ps (as := [.int (nI k), .int (nI 0), .int (nI 200)]) (al0 := [some (.int (nI k)), some (.int (nI 0)), some (.int (nI 200))]) (r := []) d_285_15 mo_285 ml_106 mz_179 rfl rfl rfl (Nat.le_of_ble_eq_true rfl) (s_lies (nI k) (nI 0) (nI 200)) ?_
    show RR _ _ 18 [some (.ref 146), some (.int (nI j)), some (.int (nI s)), some (.int (nI k)), none, none, none] [.int (bI ((nI 0) ≤ (nI k) ∧ (nI k) ≤ (nI 200)))] g A _
    refine rr_bne (t := 27) d_285_18 (by decide) (fun c18 => ?_) (fun c18 => ?_)
    · refine rr_nx (pc' := 28) (al' := [some (.ref 146), some (.int (nI j)), some (.int (nI s)), some (.int (nI k)), none, none, none]) (st' := [.ref 146]) d_285_27 (fun _ => rfl) ?_
      refine rr_nx (pc' := 29) (al' := [some (.ref 146), some (.int (nI j)), some (.int (nI s)), some (.int (nI k)), none, none, none]) (st' := [.int (nI j), .ref 146]) d_285_28 (fun _ => rfl) ?_
      refine rr_pv (as := [.int (nI j)]) (al0 := [some (.ref 146), some (.int (nI j))]) (r := []) d_285_29 mo_285 ml_124 mz_184 rfl rfl rfl (Nat.le_of_ble_eq_true rfl) (s_isTable (nI j)) ?_
      show RR _ _ 32 [some (.ref 146), some (.int (nI j)), some (.int (nI s)), some (.int (nI k)), none, none, none] [.int (bI (isT A (nI j)))] g A _
      refine rr_bne (t := 42) d_285_32 (by decide) (fun c32 => ?_) (fun c32 => ?_)
      · refine rr_nx (pc' := 43) (al' := [some (.ref 146), some (.int (nI j)), some (.int (nI s)), some (.int (nI k)), none, none, none]) (st' := [.ref 146]) d_285_42 (fun _ => rfl) ?_
        refine rr_nx (pc' := 44) (al' := [some (.ref 146), some (.int (nI j)), some (.int (nI s)), some (.int (nI k)), none, none, none]) (st' := [.int (nI j), .ref 146]) d_285_43 (fun _ => rfl) ?_
        refine rr_pv (as := [.int (nI j)]) (al0 := [some (.ref 146), some (.int (nI j))]) (r := []) d_285_44 mo_285 ml_121 mz_186 rfl rfl rfl (Nat.le_of_ble_eq_true rfl) (s_ordN hj hk) ?_
        show RR _ _ 47 [some (.ref 146), some (.int (nI j)), some (.int (nI s)), some (.int (nI k)), none, none, none] [.int (nI m)] g A _
        refine rn_ic (v := 1) d_285_47 (by decide) ?_
        refine rn_cne (t := 58) d_285_48 (by decide) (by omega) (by decide) (fun c48 => ?_) (fun c48 => ?_)
        · refine rr_nx (pc' := 59) (al' := [some (.ref 146), some (.int (nI j)), some (.int (nI s)), some (.int (nI k)), none, none, none]) (st' := [.ref 146]) d_285_58 (fun _ => rfl) ?_
          refine rr_nx (pc' := 60) (al' := [some (.ref 146), some (.int (nI j)), some (.int (nI s)), some (.int (nI k)), none, none, none]) (st' := [.int (nI j), .ref 146]) d_285_59 (fun _ => rfl) ?_
          refine rr_pv (as := [.int (nI j)]) (al0 := [some (.ref 146), some (.int (nI j)), none]) (r := []) d_285_60 mo_285 ml_248 mz_208 rfl rfl rfl (Nat.le_of_ble_eq_true rfl) (s_lays (n := m) hj hm6 hk) ?_
          obtain ⟨wl60, hwl60⟩ : ∃ w_, w_ = rf_f (fun q => A 1 (37 * j + 1 + q)) (A 4) (m * m) := ⟨_, rfl⟩
          rw [← hwl60]
          show RR _ _ 63 [some (.ref 146), some (.int (nI j)), some (.int (nI s)), some (.int (nI k)), none, none, none] [] (upd g 6 (nI m)) (rf_u A 4 wl60) _
          have hcu := cur_l (g := g) hsh hm6 hl hwl60
          have hlay : ∀ q, q < m * m → wl60 q = nI (c q) := fun q hq => (congrFun rf_u_s.symm q).trans (hcu.2.2 q hq).1
          refine rr_nx (pc' := 64) (al' := [some (.ref 146), some (.int (nI j)), some (.int (nI s)), some (.int (nI k)), none, none, none]) (st' := [.ref 146]) d_285_63 (fun _ => rfl) ?_
          refine rr_nx (pc' := 65) (al' := [some (.ref 146), some (.int (nI j)), some (.int (nI s)), some (.int (nI k)), none, none, none]) (st' := [.int (nI s), .ref 146]) d_285_64 (fun _ => rfl) ?_
          refine rp_57 d_285_65 mo_285 fl_388  ?_
          refine rn_ic (v := 0) d_285_68 (by decide) ?_
          refine rr_nx (pc' := 71) (al' := [some (.ref 146), some (.int (nI j)), some (.int (nI s)), some (.int (nI k)), some (.int (nI 0)), none, none]) (st' := []) d_285_69 (fun _ => rfl) ?_
          refine rr_G (show (upd (upd g 6 (nI m)) 57 (nI s)) = (upd (upd g 6 (nI m)) 57 (nI ((wkN m s c 0).1))) by rfl) ?_
          refine rr_upw (al := fun i w_ => [some (.ref 146), some (.int (nI j)), some (.int (nI s)), some (.int (nI k)), some (.int (nI i)), none, none]) (G := fun i w_ => (upd (upd g 6 (nI m)) 57 (nI ((wkN m s c i).1)))) (B := fun i w_ => (rf_u A 4 w_)) (P := fun i w_ => ∀ q, q < m * m → w_ q = nI ((wkN m s c i).2 q)) (n := k) (fun i w_ hi pi ihi => ?_) (fun w_ pi => ?_) 0 wl60 (by omega) (hlay)
          · show RR _ _ 71 [some (.ref 146), some (.int (nI j)), some (.int (nI s)), some (.int (nI k)), some (.int (nI i)), none, none] [] (upd (upd g 6 (nI m)) 57 (nI ((wkN m s c i).1))) (rf_u A 4 w_) _
            have hwi := wk_ok (m := m) (s0 := s) (c0 := c) hm2 (by omega) hl i
            have hai := Nat.mod_lt (drN (wkN m s c i).1) (show m > 0 by omega)
            have hbi := Nat.mod_lt (drN (drN (wkN m s c i).1)) (show m - 1 > 0 by omega)
            have hki := Nat.mod_lt (drN (drN (drN (wkN m s c i).1))) (show m > 0 by omega)
            have hbb := wk_b hm2 hai hbi
            have hd1 := dr_lt (wkN m s c i).1
            have hd2 := dr_lt (drN (wkN m s c i).1)
            have hd3 := dr_lt (drN (drN (wkN m s c i).1))
            refine rr_nx (pc' := 73) (al' := [some (.ref 146), some (.int (nI j)), some (.int (nI s)), some (.int (nI k)), some (.int (nI i)), none, none]) (st' := [.int (nI i)]) d_285_71 (fun _ => rfl) ?_
            refine rr_nx (pc' := 74) (al' := [some (.ref 146), some (.int (nI j)), some (.int (nI s)), some (.int (nI k)), some (.int (nI i)), none, none]) (st' := [.int (nI k), .int (nI i)]) d_285_73 (fun _ => rfl) ?_
            refine rn_cge (t := 136) d_285_74 (by decide) (by omega) (by omega) (fun c74 => ?_) (fun c74 => ?_)
            · omega
            · refine rr_nx (pc' := 78) (al' := [some (.ref 146), some (.int (nI j)), some (.int (nI s)), some (.int (nI k)), some (.int (nI i)), none, none]) (st' := [.ref 146]) d_285_77 (fun _ => rfl) ?_
              refine rr_nx (pc' := 79) (al' := [some (.ref 146), some (.int (nI j)), some (.int (nI s)), some (.int (nI k)), some (.int (nI i)), none, none]) (st' := [.ref 146, .ref 146]) d_285_78 (fun _ => rfl) ?_
              refine rr_gf (v := .int (nI m)) d_285_79 mo_285 fl_127 rfl ?_
              refine rr_pv (as := [.int (nI m)]) (al0 := [some (.ref 146), some (.int (nI m))]) (r := []) d_285_82 mo_285 ml_395 mz_286 rfl rfl rfl (Nat.le_of_ble_eq_true rfl) (s_draws (s := (wkN m s c i).1) pk_us (by omega) (by omega) (by omega)) ?_
              rw [upd_u]
              show RR _ _ 85 [some (.ref 146), some (.int (nI j)), some (.int (nI s)), some (.int (nI k)), some (.int (nI i)), none, none] [.int (nI (drN ((wkN m s c i).1) % m))] (upd (upd g 6 (nI m)) 57 (nI (drN ((wkN m s c i).1)))) (rf_u A 4 w_) _
              refine rr_nx (pc' := 87) (al' := [some (.ref 146), some (.int (nI j)), some (.int (nI s)), some (.int (nI k)), some (.int (nI i)), some (.int (nI (drN ((wkN m s c i).1) % m))), none]) (st' := []) d_285_85 (fun _ => rfl) ?_
              refine rr_nx (pc' := 88) (al' := [some (.ref 146), some (.int (nI j)), some (.int (nI s)), some (.int (nI k)), some (.int (nI i)), some (.int (nI (drN ((wkN m s c i).1) % m))), none]) (st' := [.ref 146]) d_285_87 (fun _ => rfl) ?_
              refine rr_nx (pc' := 89) (al' := [some (.ref 146), some (.int (nI j)), some (.int (nI s)), some (.int (nI k)), some (.int (nI i)), some (.int (nI (drN ((wkN m s c i).1) % m))), none]) (st' := [.ref 146, .ref 146]) d_285_88 (fun _ => rfl) ?_
              refine rr_gf (v := .int (nI m)) d_285_89 mo_285 fl_127 rfl ?_
              refine rn_ic (v := 1) d_285_92 (by decide) ?_
              refine rn_sub d_285_93 (by omega) ?_
              refine rr_pv (as := [.int (nI (m - 1))]) (al0 := [some (.ref 146), some (.int (nI (m - 1)))]) (r := []) d_285_94 mo_285 ml_395 mz_286 rfl rfl rfl (Nat.le_of_ble_eq_true rfl) (s_draws (s := drN ((wkN m s c i).1)) pk_us (by omega) (by omega) (by omega)) ?_
              rw [upd_u]
              show RR _ _ 97 [some (.ref 146), some (.int (nI j)), some (.int (nI s)), some (.int (nI k)), some (.int (nI i)), some (.int (nI (drN ((wkN m s c i).1) % m))), none] [.int (nI (drN (drN ((wkN m s c i).1)) % (m - 1)))] (upd (upd g 6 (nI m)) 57 (nI (drN (drN ((wkN m s c i).1))))) (rf_u A 4 w_) _
              refine rr_nx (pc' := 99) (al' := [some (.ref 146), some (.int (nI j)), some (.int (nI s)), some (.int (nI k)), some (.int (nI i)), some (.int (nI (drN ((wkN m s c i).1) % m))), some (.int (nI (drN (drN ((wkN m s c i).1)) % (m - 1))))]) (st' := []) d_285_97 (fun _ => rfl) ?_
              refine rr_nx (pc' := 100) (al' := [some (.ref 146), some (.int (nI j)), some (.int (nI s)), some (.int (nI k)), some (.int (nI i)), some (.int (nI (drN ((wkN m s c i).1) % m))), some (.int (nI (drN (drN ((wkN m s c i).1)) % (m - 1))))]) (st' := [.ref 146]) d_285_99 (fun _ => rfl) ?_
              refine rr_nx (pc' := 102) (al' := [some (.ref 146), some (.int (nI j)), some (.int (nI s)), some (.int (nI k)), some (.int (nI i)), some (.int (nI (drN ((wkN m s c i).1) % m))), some (.int (nI (drN (drN ((wkN m s c i).1)) % (m - 1))))]) (st' := [.int (nI (drN ((wkN m s c i).1) % m)), .ref 146]) d_285_100 (fun _ => rfl) ?_
              refine rr_nx (pc' := 104) (al' := [some (.ref 146), some (.int (nI j)), some (.int (nI s)), some (.int (nI k)), some (.int (nI i)), some (.int (nI (drN ((wkN m s c i).1) % m))), some (.int (nI (drN (drN ((wkN m s c i).1)) % (m - 1))))]) (st' := [.int (nI (drN (drN ((wkN m s c i).1)) % (m - 1))), .int (nI (drN ((wkN m s c i).1) % m)), .ref 146]) d_285_102 (fun _ => rfl) ?_
              refine rr_nx (pc' := 106) (al' := [some (.ref 146), some (.int (nI j)), some (.int (nI s)), some (.int (nI k)), some (.int (nI i)), some (.int (nI (drN ((wkN m s c i).1) % m))), some (.int (nI (drN (drN ((wkN m s c i).1)) % (m - 1))))]) (st' := [.int (nI (drN ((wkN m s c i).1) % m)), .int (nI (drN (drN ((wkN m s c i).1)) % (m - 1))), .int (nI (drN ((wkN m s c i).1) % m)), .ref 146]) d_285_104 (fun _ => rfl) ?_
              refine rn_clt (t := 116) d_285_106 (by decide) (by omega) (by omega) (fun c106 => ?_) (fun c106 => ?_)
              · refine rr_nx (pc' := 118) (al' := [some (.ref 146), some (.int (nI j)), some (.int (nI s)), some (.int (nI k)), some (.int (nI i)), some (.int (nI (drN ((wkN m s c i).1) % m))), some (.int (nI (drN (drN ((wkN m s c i).1)) % (m - 1))))]) (st' := [.int (nI (drN (drN ((wkN m s c i).1)) % (m - 1))), .int (nI (drN ((wkN m s c i).1) % m)), .ref 146]) d_285_116 (fun _ => rfl) ?_
                refine rr_nx (pc' := 119) (al' := [some (.ref 146), some (.int (nI j)), some (.int (nI s)), some (.int (nI k)), some (.int (nI i)), some (.int (nI (drN ((wkN m s c i).1) % m))), some (.int (nI (drN (drN ((wkN m s c i).1)) % (m - 1))))]) (st' := [.ref 146, .int (nI (drN (drN ((wkN m s c i).1)) % (m - 1))), .int (nI (drN ((wkN m s c i).1) % m)), .ref 146]) d_285_118 (fun _ => rfl) ?_
                refine rr_nx (pc' := 120) (al' := [some (.ref 146), some (.int (nI j)), some (.int (nI s)), some (.int (nI k)), some (.int (nI i)), some (.int (nI (drN ((wkN m s c i).1) % m))), some (.int (nI (drN (drN ((wkN m s c i).1)) % (m - 1))))]) (st' := [.ref 146, .ref 146, .int (nI (drN (drN ((wkN m s c i).1)) % (m - 1))), .int (nI (drN ((wkN m s c i).1) % m)), .ref 146]) d_285_119 (fun _ => rfl) ?_
                refine rr_gf (v := .int (nI m)) d_285_120 mo_285 fl_127 rfl ?_
                refine rr_pv (as := [.int (nI m)]) (al0 := [some (.ref 146), some (.int (nI m))]) (r := [.int (nI (drN (drN ((wkN m s c i).1)) % (m - 1))), .int (nI (drN ((wkN m s c i).1) % m)), .ref 146]) d_285_123 mo_285 ml_395 mz_286 rfl rfl rfl (Nat.le_of_ble_eq_true rfl) (s_draws (s := drN (drN ((wkN m s c i).1))) pk_us (by omega) (by omega) (by omega)) ?_
                rw [upd_u]
                show RR _ _ 126 [some (.ref 146), some (.int (nI j)), some (.int (nI s)), some (.int (nI k)), some (.int (nI i)), some (.int (nI (drN ((wkN m s c i).1) % m))), some (.int (nI (drN (drN ((wkN m s c i).1)) % (m - 1))))] [.int (nI (drN (drN (drN ((wkN m s c i).1))) % m)), .int (nI (drN (drN ((wkN m s c i).1)) % (m - 1))), .int (nI (drN ((wkN m s c i).1) % m)), .ref 146] (upd (upd g 6 (nI m)) 57 (nI (drN (drN (drN ((wkN m s c i).1)))))) (rf_u A 4 w_) _
                have hcI : Cur (upd (upd g 6 (nI m)) 57 (nI (drN (drN (drN ((wkN m s c i).1)))))) (rf_u A 4 w_) m (wkN m s c i).2 := ⟨by rw [pk_un (by decide), pk_us], hm6, fun q hq => ⟨by rw [rf_u_s]; exact pi q hq, hwi.2.1 q hq⟩⟩
                refine rr_cv (as := [.int (nI (drN ((wkN m s c i).1) % m)), .int (nI (drN (drN ((wkN m s c i).1)) % (m - 1))), .int (nI (drN (drN (drN ((wkN m s c i).1))) % m))]) (al0 := [some (.ref 146), some (.int (nI (drN ((wkN m s c i).1) % m))), some (.int (nI (drN (drN ((wkN m s c i).1)) % (m - 1)))), some (.int (nI (drN (drN (drN ((wkN m s c i).1))) % m))), none, none, none, none, none, none]) (r := []) d_285_126 mo_285 ml_279 mz_237 rfl rfl rfl (rr_wk (Nat.le_of_ble_eq_true rfl) (s_switches (e := drN (wkN m s c i).1 % m) (f := drN (drN ((wkN m s c i).1)) % (m - 1)) (k := drN (drN (drN (wkN m s c i).1)) % m) hcI hwi.2 hai (by omega) (by omega) hki)) (fun v1 g1 A1 h1x => ?_)
                obtain ⟨q0_, q1_, w9, q2_, hw9⟩ := h1x
                obtain rfl := q0_
                obtain rfl := q1_
                obtain rfl := q2_
                rw [rf_u_u]
                have eb : drN (drN ((wkN m s c i).1)) % (m - 1) = wkB (drN (wkN m s c i).1 % m) (drN (drN (wkN m s c i).1) % (m - 1)) := by unfold wkB; rw [if_pos c106]
                rw [eb] at hw9
                show RR _ _ 129 [some (.ref 146), some (.int (nI j)), some (.int (nI s)), some (.int (nI k)), some (.int (nI i)), some (.int (nI (drN ((wkN m s c i).1) % m))), some (.int (nI (drN (drN ((wkN m s c i).1)) % (m - 1))))] [.int (nI (pdN m (sgN m (wkN m s c i).2 (drN (wkN m s c i).1 % m) (drN (drN ((wkN m s c i).1)) % (m - 1))) (drN (drN (drN (wkN m s c i).1)) % m)))] (upd (upd g 6 (nI m)) 57 (nI (drN (drN (drN ((wkN m s c i).1)))))) (rf_u A 4 w9) _
                refine rr_nx (pc' := 130) (al' := [some (.ref 146), some (.int (nI j)), some (.int (nI s)), some (.int (nI k)), some (.int (nI i)), some (.int (nI (drN ((wkN m s c i).1) % m))), some (.int (nI (drN (drN ((wkN m s c i).1)) % (m - 1))))]) (st' := []) d_285_129 (fun _ => rfl) ?_
                refine rn_inc d_285_130 rfl rfl ?_
                show RR _ _ 133 [some (.ref 146), some (.int (nI j)), some (.int (nI s)), some (.int (nI k)), some (.int (nI (i + 1))), some (.int (nI (drN ((wkN m s c i).1) % m))), some (.int (nI (drN (drN ((wkN m s c i).1)) % (m - 1))))] [] (upd (upd g 6 (nI m)) 57 (nI (drN (drN (drN ((wkN m s c i).1)))))) (rf_u A 4 w9) _
                refine rr_nx (pc' := 71) (al' := [some (.ref 146), some (.int (nI j)), some (.int (nI s)), some (.int (nI k)), some (.int (nI (i + 1))), some (.int (nI (drN ((wkN m s c i).1) % m))), some (.int (nI (drN (drN ((wkN m s c i).1)) % (m - 1))))]) (st' := []) d_285_133 (fun _ => rfl) ?_
                refine rr_G (show (upd (upd g 6 (nI m)) 57 (nI (drN (drN (drN ((wkN m s c i).1)))))) = (upd (upd g 6 (nI m)) 57 (nI ((wkN m s c (i + 1)).1))) by rfl) ?_
                refine rr_dr (al1 := [some (.ref 146), some (.int (nI j)), some (.int (nI s)), some (.int (nI k)), some (.int (nI (i + 1))), none, none]) (le_s (le_s (le_s (le_s (le_s (le_d rfl (le_d rfl (le_n)))))))) ?_
                exact ihi w9 (hw9)
              · refine rr_nx (pc' := 111) (al' := [some (.ref 146), some (.int (nI j)), some (.int (nI s)), some (.int (nI k)), some (.int (nI i)), some (.int (nI (drN ((wkN m s c i).1) % m))), some (.int (nI (drN (drN ((wkN m s c i).1)) % (m - 1))))]) (st' := [.int (nI (drN (drN ((wkN m s c i).1)) % (m - 1))), .int (nI (drN ((wkN m s c i).1) % m)), .ref 146]) d_285_109 (fun _ => rfl) ?_
                refine rn_ic (v := 1) d_285_111 (by decide) ?_
                refine rn_add d_285_112  ?_
                refine rr_nx (pc' := 118) (al' := [some (.ref 146), some (.int (nI j)), some (.int (nI s)), some (.int (nI k)), some (.int (nI i)), some (.int (nI (drN ((wkN m s c i).1) % m))), some (.int (nI (drN (drN ((wkN m s c i).1)) % (m - 1))))]) (st' := [.int (nI ((drN (drN ((wkN m s c i).1)) % (m - 1)) + 1)), .int (nI (drN ((wkN m s c i).1) % m)), .ref 146]) d_285_113 (fun _ => rfl) ?_
                refine rr_nx (pc' := 119) (al' := [some (.ref 146), some (.int (nI j)), some (.int (nI s)), some (.int (nI k)), some (.int (nI i)), some (.int (nI (drN ((wkN m s c i).1) % m))), some (.int (nI (drN (drN ((wkN m s c i).1)) % (m - 1))))]) (st' := [.ref 146, .int (nI ((drN (drN ((wkN m s c i).1)) % (m - 1)) + 1)), .int (nI (drN ((wkN m s c i).1) % m)), .ref 146]) d_285_118 (fun _ => rfl) ?_
                refine rr_nx (pc' := 120) (al' := [some (.ref 146), some (.int (nI j)), some (.int (nI s)), some (.int (nI k)), some (.int (nI i)), some (.int (nI (drN ((wkN m s c i).1) % m))), some (.int (nI (drN (drN ((wkN m s c i).1)) % (m - 1))))]) (st' := [.ref 146, .ref 146, .int (nI ((drN (drN ((wkN m s c i).1)) % (m - 1)) + 1)), .int (nI (drN ((wkN m s c i).1) % m)), .ref 146]) d_285_119 (fun _ => rfl) ?_
                refine rr_gf (v := .int (nI m)) d_285_120 mo_285 fl_127 rfl ?_
                refine rr_pv (as := [.int (nI m)]) (al0 := [some (.ref 146), some (.int (nI m))]) (r := [.int (nI ((drN (drN ((wkN m s c i).1)) % (m - 1)) + 1)), .int (nI (drN ((wkN m s c i).1) % m)), .ref 146]) d_285_123 mo_285 ml_395 mz_286 rfl rfl rfl (Nat.le_of_ble_eq_true rfl) (s_draws (s := drN (drN ((wkN m s c i).1))) pk_us (by omega) (by omega) (by omega)) ?_
                rw [upd_u]
                show RR _ _ 126 [some (.ref 146), some (.int (nI j)), some (.int (nI s)), some (.int (nI k)), some (.int (nI i)), some (.int (nI (drN ((wkN m s c i).1) % m))), some (.int (nI (drN (drN ((wkN m s c i).1)) % (m - 1))))] [.int (nI (drN (drN (drN ((wkN m s c i).1))) % m)), .int (nI ((drN (drN ((wkN m s c i).1)) % (m - 1)) + 1)), .int (nI (drN ((wkN m s c i).1) % m)), .ref 146] (upd (upd g 6 (nI m)) 57 (nI (drN (drN (drN ((wkN m s c i).1)))))) (rf_u A 4 w_) _
                have hcI : Cur (upd (upd g 6 (nI m)) 57 (nI (drN (drN (drN ((wkN m s c i).1)))))) (rf_u A 4 w_) m (wkN m s c i).2 := ⟨by rw [pk_un (by decide), pk_us], hm6, fun q hq => ⟨by rw [rf_u_s]; exact pi q hq, hwi.2.1 q hq⟩⟩
                refine rr_cv (as := [.int (nI (drN ((wkN m s c i).1) % m)), .int (nI ((drN (drN ((wkN m s c i).1)) % (m - 1)) + 1)), .int (nI (drN (drN (drN ((wkN m s c i).1))) % m))]) (al0 := [some (.ref 146), some (.int (nI (drN ((wkN m s c i).1) % m))), some (.int (nI ((drN (drN ((wkN m s c i).1)) % (m - 1)) + 1))), some (.int (nI (drN (drN (drN ((wkN m s c i).1))) % m))), none, none, none, none, none, none]) (r := []) d_285_126 mo_285 ml_279 mz_237 rfl rfl rfl (rr_wk (Nat.le_of_ble_eq_true rfl) (s_switches (e := drN (wkN m s c i).1 % m) (f := (drN (drN ((wkN m s c i).1)) % (m - 1)) + 1) (k := drN (drN (drN (wkN m s c i).1)) % m) hcI hwi.2 hai (by omega) (by omega) hki)) (fun v1 g1 A1 h1x => ?_)
                obtain ⟨q0_, q1_, w9, q2_, hw9⟩ := h1x
                obtain rfl := q0_
                obtain rfl := q1_
                obtain rfl := q2_
                rw [rf_u_u]
                have eb : (drN (drN ((wkN m s c i).1)) % (m - 1)) + 1 = wkB (drN (wkN m s c i).1 % m) (drN (drN (wkN m s c i).1) % (m - 1)) := by unfold wkB; rw [if_neg (by omega)]
                rw [eb] at hw9
                show RR _ _ 129 [some (.ref 146), some (.int (nI j)), some (.int (nI s)), some (.int (nI k)), some (.int (nI i)), some (.int (nI (drN ((wkN m s c i).1) % m))), some (.int (nI (drN (drN ((wkN m s c i).1)) % (m - 1))))] [.int (nI (pdN m (sgN m (wkN m s c i).2 (drN (wkN m s c i).1 % m) ((drN (drN ((wkN m s c i).1)) % (m - 1)) + 1)) (drN (drN (drN (wkN m s c i).1)) % m)))] (upd (upd g 6 (nI m)) 57 (nI (drN (drN (drN ((wkN m s c i).1)))))) (rf_u A 4 w9) _
                refine rr_nx (pc' := 130) (al' := [some (.ref 146), some (.int (nI j)), some (.int (nI s)), some (.int (nI k)), some (.int (nI i)), some (.int (nI (drN ((wkN m s c i).1) % m))), some (.int (nI (drN (drN ((wkN m s c i).1)) % (m - 1))))]) (st' := []) d_285_129 (fun _ => rfl) ?_
                refine rn_inc d_285_130 rfl rfl ?_
                show RR _ _ 133 [some (.ref 146), some (.int (nI j)), some (.int (nI s)), some (.int (nI k)), some (.int (nI (i + 1))), some (.int (nI (drN ((wkN m s c i).1) % m))), some (.int (nI (drN (drN ((wkN m s c i).1)) % (m - 1))))] [] (upd (upd g 6 (nI m)) 57 (nI (drN (drN (drN ((wkN m s c i).1)))))) (rf_u A 4 w9) _
                refine rr_nx (pc' := 71) (al' := [some (.ref 146), some (.int (nI j)), some (.int (nI s)), some (.int (nI k)), some (.int (nI (i + 1))), some (.int (nI (drN ((wkN m s c i).1) % m))), some (.int (nI (drN (drN ((wkN m s c i).1)) % (m - 1))))]) (st' := []) d_285_133 (fun _ => rfl) ?_
                refine rr_G (show (upd (upd g 6 (nI m)) 57 (nI (drN (drN (drN ((wkN m s c i).1)))))) = (upd (upd g 6 (nI m)) 57 (nI ((wkN m s c (i + 1)).1))) by rfl) ?_
                refine rr_dr (al1 := [some (.ref 146), some (.int (nI j)), some (.int (nI s)), some (.int (nI k)), some (.int (nI (i + 1))), none, none]) (le_s (le_s (le_s (le_s (le_s (le_d rfl (le_d rfl (le_n)))))))) ?_
                exact ihi w9 (hw9)
          · show RR _ _ 71 [some (.ref 146), some (.int (nI j)), some (.int (nI s)), some (.int (nI k)), some (.int (nI k)), none, none] [] (upd (upd g 6 (nI m)) 57 (nI ((wkN m s c k).1))) (rf_u A 4 w_) _
            refine rr_nx (pc' := 73) (al' := [some (.ref 146), some (.int (nI j)), some (.int (nI s)), some (.int (nI k)), some (.int (nI k)), none, none]) (st' := [.int (nI k)]) d_285_71 (fun _ => rfl) ?_
            refine rr_nx (pc' := 74) (al' := [some (.ref 146), some (.int (nI j)), some (.int (nI s)), some (.int (nI k)), some (.int (nI k)), none, none]) (st' := [.int (nI k), .int (nI k)]) d_285_73 (fun _ => rfl) ?_
            refine rn_cge (t := 136) d_285_74 (by decide) (by omega) (by omega) (fun c74 => ?_) (fun c74 => ?_)
            · have hwk := wk_ok (m := m) (s0 := s) (c0 := c) hm2 (by omega) hl k
              refine rr_nx (pc' := 137) (al' := [some (.ref 146), some (.int (nI j)), some (.int (nI s)), some (.int (nI k)), some (.int (nI k)), none, none]) (st' := [.ref 146]) d_285_136 (fun _ => rfl) ?_
              refine rr_nx (pc' := 138) (al' := [some (.ref 146), some (.int (nI j)), some (.int (nI s)), some (.int (nI k)), some (.int (nI k)), none, none]) (st' := [.ref 146, .ref 146]) d_285_137 (fun _ => rfl) ?_
              refine rr_gf (v := .int (nI m)) d_285_138 mo_285 fl_127 rfl ?_
              refine rp_56 d_285_141 mo_285 fl_398  ?_
              refine rn_ic (v := 0) d_285_144 (by decide) ?_
              refine rr_nx (pc' := 147) (al' := [some (.ref 146), some (.int (nI j)), some (.int (nI s)), some (.int (nI k)), some (.int (nI 0)), none, none]) (st' := []) d_285_145 (fun _ => rfl) ?_
              refine rn_ic (v := 0) d_285_147 (by decide) ?_
              refine rr_nx (pc' := 150) (al' := [some (.ref 146), some (.int (nI j)), some (.int (nI s)), some (.int (nI k)), some (.int (nI 0)), some (.int (nI 0)), none]) (st' := []) d_285_148 (fun _ => rfl) ?_
              refine rr_al (congrArg (fun z__ : Nat => ([some (.ref 146), some (.int (nI j)), some (.int (nI s)), some (.int (nI k)), some (.int (nI z__)), some (.int (nI 0)), none] : AL)) (show 0 = dfN 0 (wkN m s c k).2 c by rfl)) ?_
              refine rr_A (show (rf_u A 4 w_) = (rf_u (rf_u A 4 w_) 26 (A 26)) by rw [show A 26 = rf_u A 4 w_ 26 by rw [rf_u_n (by decide)], rf_u_id]) ?_
              refine rr_upw (al := fun z v_ => [some (.ref 146), some (.int (nI j)), some (.int (nI s)), some (.int (nI k)), some (.int (nI (dfN z (wkN m s c k).2 c))), some (.int (nI z)), none]) (G := fun z v_ => (upd (upd (upd g 6 (nI m)) 57 (nI ((wkN m s c k).1))) 56 (nI m))) (B := fun z v_ => (rf_u (rf_u A 4 w_) 26 v_)) (P := fun z v_ => ∀ q, q < z → v_ q = nI ((wkN m s c k).2 q)) (n := m * m) (fun z v_ hz pz ihz => ?_) (fun v_ pz => ?_) 0 (A 26) (by omega) (all_0)
              · show RR _ _ 150 [some (.ref 146), some (.int (nI j)), some (.int (nI s)), some (.int (nI k)), some (.int (nI (dfN z (wkN m s c k).2 c))), some (.int (nI z)), none] [] (upd (upd (upd g 6 (nI m)) 57 (nI ((wkN m s c k).1))) 56 (nI m)) (rf_u (rf_u A 4 w_) 26 v_) _
                have hcz := hwk.2.1 z hz
                have hcj := hl.1 z hz
                refine rr_nx (pc' := 152) (al' := [some (.ref 146), some (.int (nI j)), some (.int (nI s)), some (.int (nI k)), some (.int (nI (dfN z (wkN m s c k).2 c))), some (.int (nI z)), none]) (st' := [.int (nI z)]) d_285_150 (fun _ => rfl) ?_
                refine rr_nx (pc' := 153) (al' := [some (.ref 146), some (.int (nI j)), some (.int (nI s)), some (.int (nI k)), some (.int (nI (dfN z (wkN m s c k).2 c))), some (.int (nI z)), none]) (st' := [.ref 146, .int (nI z)]) d_285_152 (fun _ => rfl) ?_
                refine rr_gf (v := .int (nI m)) d_285_153 mo_285 fl_127 rfl ?_
                refine rr_nx (pc' := 157) (al' := [some (.ref 146), some (.int (nI j)), some (.int (nI s)), some (.int (nI k)), some (.int (nI (dfN z (wkN m s c k).2 c))), some (.int (nI z)), none]) (st' := [.ref 146, .int (nI m), .int (nI z)]) d_285_156 (fun _ => rfl) ?_
                refine rr_gf (v := .int (nI m)) d_285_157 mo_285 fl_127 rfl ?_
                refine rn_mul d_285_160  ?_
                refine rn_cge (t := 218) d_285_161 (by decide) (by omega) (by omega) (fun c161 => ?_) (fun c161 => ?_)
                · omega
                · refine rr_nx (pc' := 165) (al' := [some (.ref 146), some (.int (nI j)), some (.int (nI s)), some (.int (nI k)), some (.int (nI (dfN z (wkN m s c k).2 c))), some (.int (nI z)), none]) (st' := [.ref 146]) d_285_164 (fun _ => rfl) ?_
                  refine rr_gf (v := .ref (147 + 26)) d_285_165 mo_285 fl_97 rfl ?_
                  refine rr_nx (pc' := 170) (al' := [some (.ref 146), some (.int (nI j)), some (.int (nI s)), some (.int (nI k)), some (.int (nI (dfN z (wkN m s c k).2 c))), some (.int (nI z)), none]) (st' := [.int (nI z), .ref (147 + 26)]) d_285_168 (fun _ => rfl) ?_
                  refine rr_nx (pc' := 171) (al' := [some (.ref 146), some (.int (nI j)), some (.int (nI s)), some (.int (nI k)), some (.int (nI (dfN z (wkN m s c k).2 c))), some (.int (nI z)), none]) (st' := [.ref 146, .int (nI z), .ref (147 + 26)]) d_285_170 (fun _ => rfl) ?_
                  refine rr_gf (v := .ref (147 + 4)) d_285_171 mo_285 fl_23 rfl ?_
                  refine rr_nx (pc' := 176) (al' := [some (.ref 146), some (.int (nI j)), some (.int (nI s)), some (.int (nI k)), some (.int (nI (dfN z (wkN m s c k).2 c))), some (.int (nI z)), none]) (st' := [.int (nI z), .ref (147 + 4), .int (nI z), .ref (147 + 26)]) d_285_174 (fun _ => rfl) ?_
                  refine rr_ia (j := 4) (v := (nI ((wkN m s c k).2 z))) d_285_176 (by decide) rfl (by decide) (show z < 36 by omega) ((congrFun ((rf_u_n (by decide)).trans rf_u_s) z).trans (pi z hz)) ?_
                  refine rr_iS (j := 26) (A1 := (rf_u (rf_u A 4 w_) 26 (upd v_ z (nI ((wkN m s c k).2 z))))) d_285_177 (by decide) rfl (by decide) (show z < 36 by omega) rf_uw ?_
                  refine rr_nx (pc' := 180) (al' := [some (.ref 146), some (.int (nI j)), some (.int (nI s)), some (.int (nI k)), some (.int (nI (dfN z (wkN m s c k).2 c))), some (.int (nI z)), none]) (st' := [.int (nI (dfN z (wkN m s c k).2 c))]) d_285_178 (fun _ => rfl) ?_
                  refine rr_nx (pc' := 181) (al' := [some (.ref 146), some (.int (nI j)), some (.int (nI s)), some (.int (nI k)), some (.int (nI (dfN z (wkN m s c k).2 c))), some (.int (nI z)), none]) (st' := [.ref 146, .int (nI (dfN z (wkN m s c k).2 c))]) d_285_180 (fun _ => rfl) ?_
                  refine rr_gf (v := .ref (147 + 4)) d_285_181 mo_285 fl_23 rfl ?_
                  refine rr_nx (pc' := 186) (al' := [some (.ref 146), some (.int (nI j)), some (.int (nI s)), some (.int (nI k)), some (.int (nI (dfN z (wkN m s c k).2 c))), some (.int (nI z)), none]) (st' := [.int (nI z), .ref (147 + 4), .int (nI (dfN z (wkN m s c k).2 c))]) d_285_184 (fun _ => rfl) ?_
                  refine rr_ia (j := 4) (v := (nI ((wkN m s c k).2 z))) d_285_186 (by decide) rfl (by decide) (show z < 36 by omega) ((congrFun ((rf_u_n (by decide)).trans rf_u_s) z).trans (pi z hz)) ?_
                  refine rr_nx (pc' := 188) (al' := [some (.ref 146), some (.int (nI j)), some (.int (nI s)), some (.int (nI k)), some (.int (nI (dfN z (wkN m s c k).2 c))), some (.int (nI z)), none]) (st' := [.ref 146, .int (nI ((wkN m s c k).2 z)), .int (nI (dfN z (wkN m s c k).2 c))]) d_285_187 (fun _ => rfl) ?_
                  refine rr_gf (v := .ref (147 + 1)) d_285_188 mo_285 fl_13 rfl ?_
                  refine rn_bp (v := 37) d_285_191 (by decide) ?_
                  refine rr_nx (pc' := 194) (al' := [some (.ref 146), some (.int (nI j)), some (.int (nI s)), some (.int (nI k)), some (.int (nI (dfN z (wkN m s c k).2 c))), some (.int (nI z)), none]) (st' := [.int (nI j), .int (nI 37), .ref (147 + 1), .int (nI ((wkN m s c k).2 z)), .int (nI (dfN z (wkN m s c k).2 c))]) d_285_193 (fun _ => rfl) ?_
                  refine rn_mul d_285_194  ?_
                  refine rn_ic (v := 1) d_285_195 (by decide) ?_
                  refine rn_add d_285_196  ?_
                  refine rr_nx (pc' := 199) (al' := [some (.ref 146), some (.int (nI j)), some (.int (nI s)), some (.int (nI k)), some (.int (nI (dfN z (wkN m s c k).2 c))), some (.int (nI z)), none]) (st' := [.int (nI z), .int (nI ((37 * j) + 1)), .ref (147 + 1), .int (nI ((wkN m s c k).2 z)), .int (nI (dfN z (wkN m s c k).2 c))]) d_285_197 (fun _ => rfl) ?_
                  refine rn_add d_285_199  ?_
                  refine rr_ia (j := 1) (v := (nI (c z))) d_285_200 (by decide) rfl (by decide) (show ((37 * j) + 1) + z < 5720 by omega) ((congrFun ((rf_u_n (by decide)).trans (rf_u_n (by decide))) _).trans (hsh.2 z hz)) ?_
                  refine rn_cne (t := 208) d_285_201 (by decide) (by omega) (by omega) (fun c201 => ?_) (fun c201 => ?_)
                  · refine rn_ic (v := 1) d_285_208 (by decide) ?_
                    refine rn_add d_285_209  ?_
                    refine rr_nx (pc' := 212) (al' := [some (.ref 146), some (.int (nI j)), some (.int (nI s)), some (.int (nI k)), some (.int (nI ((dfN z (wkN m s c k).2 c) + 1))), some (.int (nI z)), none]) (st' := []) d_285_210 (fun _ => rfl) ?_
                    refine rn_inc d_285_212 rfl rfl ?_
                    show RR _ _ 215 [some (.ref 146), some (.int (nI j)), some (.int (nI s)), some (.int (nI k)), some (.int (nI ((dfN z (wkN m s c k).2 c) + 1))), some (.int (nI (z + 1))), none] [] (upd (upd (upd g 6 (nI m)) 57 (nI ((wkN m s c k).1))) 56 (nI m)) (rf_u (rf_u A 4 w_) 26 (upd v_ z (nI ((wkN m s c k).2 z)))) _
                    refine rr_nx (pc' := 150) (al' := [some (.ref 146), some (.int (nI j)), some (.int (nI s)), some (.int (nI k)), some (.int (nI ((dfN z (wkN m s c k).2 c) + 1))), some (.int (nI (z + 1))), none]) (st' := []) d_285_215 (fun _ => rfl) ?_
                    refine rr_al (congrArg (fun z__ : Nat => ([some (.ref 146), some (.int (nI j)), some (.int (nI s)), some (.int (nI k)), some (.int (nI z__)), some (.int (nI (z + 1))), none] : AL)) (show (dfN z (wkN m s c k).2 c) + 1 = dfN (z + 1) (wkN m s c k).2 c by rw [dfN_su, dfF, if_neg c201])) ?_
                    exact ihz (upd v_ z (nI ((wkN m s c k).2 z))) (up_all (f := fun q => nI ((wkN m s c k).2 q)) pz rfl)
                  · refine rn_ic (v := 0) d_285_204 (by decide) ?_
                    refine rr_nx (pc' := 209) (al' := [some (.ref 146), some (.int (nI j)), some (.int (nI s)), some (.int (nI k)), some (.int (nI (dfN z (wkN m s c k).2 c))), some (.int (nI z)), none]) (st' := [.int (nI 0), .int (nI (dfN z (wkN m s c k).2 c))]) d_285_205 (fun _ => rfl) ?_
                    refine rn_add d_285_209  ?_
                    refine rr_nx (pc' := 212) (al' := [some (.ref 146), some (.int (nI j)), some (.int (nI s)), some (.int (nI k)), some (.int (nI ((dfN z (wkN m s c k).2 c) + 0))), some (.int (nI z)), none]) (st' := []) d_285_210 (fun _ => rfl) ?_
                    refine rn_inc d_285_212 rfl rfl ?_
                    show RR _ _ 215 [some (.ref 146), some (.int (nI j)), some (.int (nI s)), some (.int (nI k)), some (.int (nI ((dfN z (wkN m s c k).2 c) + 0))), some (.int (nI (z + 1))), none] [] (upd (upd (upd g 6 (nI m)) 57 (nI ((wkN m s c k).1))) 56 (nI m)) (rf_u (rf_u A 4 w_) 26 (upd v_ z (nI ((wkN m s c k).2 z)))) _
                    refine rr_nx (pc' := 150) (al' := [some (.ref 146), some (.int (nI j)), some (.int (nI s)), some (.int (nI k)), some (.int (nI ((dfN z (wkN m s c k).2 c) + 0))), some (.int (nI (z + 1))), none]) (st' := []) d_285_215 (fun _ => rfl) ?_
                    refine rr_al (congrArg (fun z__ : Nat => ([some (.ref 146), some (.int (nI j)), some (.int (nI s)), some (.int (nI k)), some (.int (nI z__)), some (.int (nI (z + 1))), none] : AL)) (show (dfN z (wkN m s c k).2 c) + 0 = dfN (z + 1) (wkN m s c k).2 c by rw [dfN_su, dfF, if_pos c201])) ?_
                    exact ihz (upd v_ z (nI ((wkN m s c k).2 z))) (up_all (f := fun q => nI ((wkN m s c k).2 q)) pz rfl)
              · show RR _ _ 150 [some (.ref 146), some (.int (nI j)), some (.int (nI s)), some (.int (nI k)), some (.int (nI (dfN (m * m) (wkN m s c k).2 c))), some (.int (nI (m * m))), none] [] (upd (upd (upd g 6 (nI m)) 57 (nI ((wkN m s c k).1))) 56 (nI m)) (rf_u (rf_u A 4 w_) 26 v_) _
                refine rr_nx (pc' := 152) (al' := [some (.ref 146), some (.int (nI j)), some (.int (nI s)), some (.int (nI k)), some (.int (nI (dfN (m * m) (wkN m s c k).2 c))), some (.int (nI (m * m))), none]) (st' := [.int (nI (m * m))]) d_285_150 (fun _ => rfl) ?_
                refine rr_nx (pc' := 153) (al' := [some (.ref 146), some (.int (nI j)), some (.int (nI s)), some (.int (nI k)), some (.int (nI (dfN (m * m) (wkN m s c k).2 c))), some (.int (nI (m * m))), none]) (st' := [.ref 146, .int (nI (m * m))]) d_285_152 (fun _ => rfl) ?_
                refine rr_gf (v := .int (nI m)) d_285_153 mo_285 fl_127 rfl ?_
                refine rr_nx (pc' := 157) (al' := [some (.ref 146), some (.int (nI j)), some (.int (nI s)), some (.int (nI k)), some (.int (nI (dfN (m * m) (wkN m s c k).2 c))), some (.int (nI (m * m))), none]) (st' := [.ref 146, .int (nI m), .int (nI (m * m))]) d_285_156 (fun _ => rfl) ?_
                refine rr_gf (v := .int (nI m)) d_285_157 mo_285 fl_127 rfl ?_
                refine rn_mul d_285_160  ?_
                refine rn_cge (t := 218) d_285_161 (by decide) (by omega) (by omega) (fun c161 => ?_) (fun c161 => ?_)
                · refine rr_nx (pc' := 219) (al' := [some (.ref 146), some (.int (nI j)), some (.int (nI s)), some (.int (nI k)), some (.int (nI (dfN (m * m) (wkN m s c k).2 c))), some (.int (nI (m * m))), none]) (st' := [.ref 146]) d_285_218 (fun _ => rfl) ?_
                  refine rr_nx (pc' := 221) (al' := [some (.ref 146), some (.int (nI j)), some (.int (nI s)), some (.int (nI k)), some (.int (nI (dfN (m * m) (wkN m s c k).2 c))), some (.int (nI (m * m))), none]) (st' := [.int (nI (dfN (m * m) (wkN m s c k).2 c)), .ref 146]) d_285_219 (fun _ => rfl) ?_
                  refine rr_pv (as := [.int (nI (dfN (m * m) (wkN m s c k).2 c))]) (al0 := [some (.ref 146), some (.int (nI (dfN (m * m) (wkN m s c k).2 c)))]) (r := []) d_285_221 mo_285 ml_114 mz_181 rfl rfl rfl (Nat.le_of_ble_eq_true rfl) (s_good _) ?_
                  show RR _ _ 224 [some (.ref 146), some (.int (nI j)), some (.int (nI s)), some (.int (nI k)), some (.int (nI (dfN (m * m) (wkN m s c k).2 c))), some (.int (nI (m * m))), none] [.int (nI (dfN (m * m) (wkN m s c k).2 c))] (upd (upd (upd (upd (upd g 6 (nI m)) 57 (nI ((wkN m s c k).1))) 56 (nI m)) 0 (nI 0)) 1 ((upd (upd (upd g 6 (nI m)) 57 (nI ((wkN m s c k).1))) 56 (nI m)) 1 + nI 1)) (rf_u (rf_u A 4 w_) 26 v_) _
                  exact rr_ri d_285_224 mr_285 rfl ⟨rfl, hW.wk (tb := (m, (wkN m s c k).2)) (by omega) (fun k_ h_ b0_ b1_ b2_ => by rw [pk_un b1_, pk_un b0_, pk_un b2_, pk_un (fun e_ => by rw [e_] at h_; exact absurd h_ (by decide)), pk_un (fun e_ => by rw [e_] at h_; exact absurd h_ (by decide))]) (by rw [pk_un (by decide), pk_us]) (by rw [pk_us, pk_un (by decide), pk_un (by decide), pk_un (by decide)]) (by rw [pk_un (by decide), pk_un (by decide), pk_us]) (fun j_ h_ b_ => by rw [rf_u_n b_, rf_u_n (fun e_ => by rw [e_] at h_; exact absurd h_ (by decide))]) (fun q hq => by rw [rf_u_s]; exact pz q hq)⟩
                · omega
            · omega
        · omega
      · exact absurd hyes c32
    · exact absurd (ia_natI (by decide) hk2) c18
theorem p_walk_a {S : CS} {G : Nat → Nat → Value} {B : Nat → Nat → Int32} {J : Nat → Nat → Int64} {R : Nat → Nat → Option Nat} {n : Nat} {W : WS} (hW : WC n S G B R W) {t : Int32} {x z : Int32} (hx : ¬ (inP x 1000001 ∧ inP z 201)) : CR 80 170 0 [some (.ref 2), some (.int t), some (.int x), some (.int z), none, none, none, none, none, none] [] S G B J R (fun r__ S' G' B' J' R' => r__ = some (.int (-1)) ∧ WC (n + 1) S' G' B' R' (refW W (-1) 1)) := by
  have hS := hW.1.1
  have hF := hW.2.1
  have hO := hW.2.2.2.1
  obtain ⟨ta, ka, la, hH, hLk, hl2, hs3, hbd⟩ := hW.2.2.1
  refine cr_nx (pc' := 1) (al' := [some (.ref 2), some (.int t), some (.int x), some (.int z), none, none, none, none, none, none]) (st' := [.int x]) d_170_0 (fun _ => rfl) ?_
  refine cr_ilt (t := 22) d_170_1 (by decide) (fun c1 => ?_) (fun c1 => ?_)
  · refine cr_nx (pc' := 23) (al' := [some (.ref 2), some (.int t), some (.int x), some (.int z), none, none, none, none, none, none]) (st' := [.ref 2]) d_170_22 (fun _ => rfl) ?_
    refine cr_nx (pc' := 24) (al' := [some (.ref 2), some (.int t), some (.int x), some (.int z), none, none, none, none, none, none]) (st' := [.int (-1), .ref 2]) d_170_23 (fun _ => rfl) ?_
    refine cr_pv (b := 2) (as := [.int (-1)]) (al0 := [some (.ref 2), some (.int (-1))]) (r := []) d_170_24 cw_170 cm_11_104 cz_119 rfl rfl (hS.i (a := 2) (by decide) (by decide)) (by rw [cw_119]; exact (hS.s (a := 2) (by decide) (by decide) rfl)) (by rw [cw_119]; decide) rfl (Nat.le_of_ble_eq_true rfl) (k_refuse (e := 1) hS hF (by decide) (by decide)) ?_
    show CR _ _ 27 [some (.ref 2), some (.int t), some (.int x), some (.int z), none, none, none, none, none, none] [.int (-1)] S (up2 G 2 16 (.int (-1))) (upr B 145 (upd (B 145) 1 (B 145 1 + nI 1))) J R _
    exact cr_ri d_170_27 cx_170 rfl ⟨rfl, (hW.rf (by decide)).mo⟩
  · refine cr_nx (pc' := 5) (al' := [some (.ref 2), some (.int t), some (.int x), some (.int z), none, none, none, none, none, none]) (st' := [.int x]) d_170_4 (fun _ => rfl) ?_
    refine cr_k3 (v := nI 1000000) d_170_5 cw_170 ck_11_365 ?_
    refine cr_cgt (t := 22) d_170_8 (by decide) (fun c8 => ?_) (fun c8 => ?_)
    · refine cr_nx (pc' := 23) (al' := [some (.ref 2), some (.int t), some (.int x), some (.int z), none, none, none, none, none, none]) (st' := [.ref 2]) d_170_22 (fun _ => rfl) ?_
      refine cr_nx (pc' := 24) (al' := [some (.ref 2), some (.int t), some (.int x), some (.int z), none, none, none, none, none, none]) (st' := [.int (-1), .ref 2]) d_170_23 (fun _ => rfl) ?_
      refine cr_pv (b := 2) (as := [.int (-1)]) (al0 := [some (.ref 2), some (.int (-1))]) (r := []) d_170_24 cw_170 cm_11_104 cz_119 rfl rfl (hS.i (a := 2) (by decide) (by decide)) (by rw [cw_119]; exact (hS.s (a := 2) (by decide) (by decide) rfl)) (by rw [cw_119]; decide) rfl (Nat.le_of_ble_eq_true rfl) (k_refuse (e := 1) hS hF (by decide) (by decide)) ?_
      show CR _ _ 27 [some (.ref 2), some (.int t), some (.int x), some (.int z), none, none, none, none, none, none] [.int (-1)] S (up2 G 2 16 (.int (-1))) (upr B 145 (upd (B 145) 1 (B 145 1 + nI 1))) J R _
      exact cr_ri d_170_27 cx_170 rfl ⟨rfl, (hW.rf (by decide)).mo⟩
    · refine cr_nx (pc' := 12) (al' := [some (.ref 2), some (.int t), some (.int x), some (.int z), none, none, none, none, none, none]) (st' := [.int z]) d_170_11 (fun _ => rfl) ?_
      refine cr_ilt (t := 22) d_170_12 (by decide) (fun c12 => ?_) (fun c12 => ?_)
      · refine cr_nx (pc' := 23) (al' := [some (.ref 2), some (.int t), some (.int x), some (.int z), none, none, none, none, none, none]) (st' := [.ref 2]) d_170_22 (fun _ => rfl) ?_
        refine cr_nx (pc' := 24) (al' := [some (.ref 2), some (.int t), some (.int x), some (.int z), none, none, none, none, none, none]) (st' := [.int (-1), .ref 2]) d_170_23 (fun _ => rfl) ?_
        refine cr_pv (b := 2) (as := [.int (-1)]) (al0 := [some (.ref 2), some (.int (-1))]) (r := []) d_170_24 cw_170 cm_11_104 cz_119 rfl rfl (hS.i (a := 2) (by decide) (by decide)) (by rw [cw_119]; exact (hS.s (a := 2) (by decide) (by decide) rfl)) (by rw [cw_119]; decide) rfl (Nat.le_of_ble_eq_true rfl) (k_refuse (e := 1) hS hF (by decide) (by decide)) ?_
        show CR _ _ 27 [some (.ref 2), some (.int t), some (.int x), some (.int z), none, none, none, none, none, none] [.int (-1)] S (up2 G 2 16 (.int (-1))) (upr B 145 (upd (B 145) 1 (B 145 1 + nI 1))) J R _
        exact cr_ri d_170_27 cx_170 rfl ⟨rfl, (hW.rf (by decide)).mo⟩
      · refine cr_nx (pc' := 16) (al' := [some (.ref 2), some (.int t), some (.int x), some (.int z), none, none, none, none, none, none]) (st' := [.int z]) d_170_15 (fun _ => rfl) ?_
        refine cn_sp (v := 200) d_170_16 (by decide) ?_
        refine cr_cle (t := 28) d_170_19 (by decide) (fun c19 => ?_) (fun c19 => ?_)
        · exact absurd ⟨⟨by rw [i_lt0] at c1; omega, by rw [i_Nlt (by decide)] at c8; omega⟩, ⟨by rw [i_lt0] at c12; omega, by rw [i_Nle (by decide)] at c19; omega⟩⟩ hx
        · refine cr_nx (pc' := 23) (al' := [some (.ref 2), some (.int t), some (.int x), some (.int z), none, none, none, none, none, none]) (st' := [.ref 2]) d_170_22 (fun _ => rfl) ?_
          refine cr_nx (pc' := 24) (al' := [some (.ref 2), some (.int t), some (.int x), some (.int z), none, none, none, none, none, none]) (st' := [.int (-1), .ref 2]) d_170_23 (fun _ => rfl) ?_
          refine cr_pv (b := 2) (as := [.int (-1)]) (al0 := [some (.ref 2), some (.int (-1))]) (r := []) d_170_24 cw_170 cm_11_104 cz_119 rfl rfl (hS.i (a := 2) (by decide) (by decide)) (by rw [cw_119]; exact (hS.s (a := 2) (by decide) (by decide) rfl)) (by rw [cw_119]; decide) rfl (Nat.le_of_ble_eq_true rfl) (k_refuse (e := 1) hS hF (by decide) (by decide)) ?_
          show CR _ _ 27 [some (.ref 2), some (.int t), some (.int x), some (.int z), none, none, none, none, none, none] [.int (-1)] S (up2 G 2 16 (.int (-1))) (upr B 145 (upd (B 145) 1 (B 145 1 + nI 1))) J R _
          exact cr_ri d_170_27 cx_170 rfl ⟨rfl, (hW.rf (by decide)).mo⟩
theorem r_walk_a {g : Nat → Int32} {A : Nat → Nat → Int32} {n : Nat} {W : WS} (hW : WR n g A W) (hO : CoOk (wK W)) {t : Int32} {x z : Int32} (hx : ¬ (inP x 1000001 ∧ inP z 201)) : RR 80 285 0 [some (.ref 146), some (.int t), some (.int x), some (.int z), none, none, none] [] g A (fun r__ g' A' => r__ = some (.int (-1)) ∧ WR (n + 1) g' A' (refW W (-1) 1)) := by
  refine rr_nx (pc' := 1) (al' := [some (.ref 146), some (.int t), some (.int x), some (.int z), none, none, none]) (st' := [.int x]) d_285_0 (fun _ => rfl) ?_
  refine rn_ic (v := 0) d_285_1 (by decide) ?_
  refine rr_k2 (v := nI 1000000) d_285_2 mo_285 ck_12_152 ?_
  refine rr_ps (as := [.int x, .int (nI 0), .int (nI 1000000)]) (al0 := [some (.int x), some (.int (nI 0)), some (.int (nI 1000000))]) (r := []) d_285_4 mo_285 ml_106 mz_179 rfl rfl rfl (Nat.le_of_ble_eq_true rfl) (s_lies x (nI 0) (nI 1000000)) ?_
  show RR _ _ 7 [some (.ref 146), some (.int t), some (.int x), some (.int z), none, none, none] [.int (bI ((nI 0) ≤ x ∧ x ≤ (nI 1000000)))] g A _
  refine rr_beq (t := 21) d_285_7 (by decide) (fun c7 => ?_) (fun c7 => ?_)
  · refine rr_nx (pc' := 22) (al' := [some (.ref 146), some (.int t), some (.int x), some (.int z), none, none, none]) (st' := [.ref 146]) d_285_21 (fun _ => rfl) ?_
    refine rr_nx (pc' := 23) (al' := [some (.ref 146), some (.int t), some (.int x), some (.int z), none, none, none]) (st' := [.int (-1), .ref 146]) d_285_22 (fun _ => rfl) ?_
    have hW1 := hW.q (g' := g) (A' := A) Gsm.rf Ksm.rf
    refine rr_pv (as := [.int (-1)]) (al0 := [some (.ref 146), some (.int (-1))]) (r := []) d_285_23 mo_285 ml_110 mz_180 rfl rfl rfl (Nat.le_of_ble_eq_true rfl) (s_refuses (e := 1) (by decide) (by decide)) ?_
    show RR _ _ 26 [some (.ref 146), some (.int t), some (.int x), some (.int z), none, none, none] [.int (-1)] (upd g 0 (-1)) (rf_u A 0 (upd (A 0) 1 (A 0 1 + nI 1))) _
    exact rr_ri d_285_26 mr_285 rfl ⟨rfl, (hW1.rf (by decide)).mo⟩
  · refine rr_nx (pc' := 11) (al' := [some (.ref 146), some (.int t), some (.int x), some (.int z), none, none, none]) (st' := [.int z]) d_285_10 (fun _ => rfl) ?_
    refine rn_ic (v := 0) d_285_11 (by decide) ?_
    refine rn_sp (v := 200) d_285_12 (by decide) ?_
    refine rr_ps (as := [.int z, .int (nI 0), .int (nI 200)]) (al0 := [some (.int z), some (.int (nI 0)), some (.int (nI 200))]) (r := []) d_285_15 mo_285 ml_106 mz_179 rfl rfl rfl (Nat.le_of_ble_eq_true rfl) (s_lies z (nI 0) (nI 200)) ?_
    show RR _ _ 18 [some (.ref 146), some (.int t), some (.int x), some (.int z), none, none, none] [.int (bI ((nI 0) ≤ z ∧ z ≤ (nI 200)))] g A _
    refine rr_bne (t := 27) d_285_18 (by decide) (fun c18 => ?_) (fun c18 => ?_)
    · exact absurd ⟨(in_r (m := 1000000) (by decide)).mp c7, (in_r (m := 200) (by decide)).mp c18⟩ hx
    · refine rr_nx (pc' := 22) (al' := [some (.ref 146), some (.int t), some (.int x), some (.int z), none, none, none]) (st' := [.ref 146]) d_285_21 (fun _ => rfl) ?_
      refine rr_nx (pc' := 23) (al' := [some (.ref 146), some (.int t), some (.int x), some (.int z), none, none, none]) (st' := [.int (-1), .ref 146]) d_285_22 (fun _ => rfl) ?_
      have hW1 := hW.q (g' := g) (A' := A) Gsm.rf Ksm.rf
      refine rr_pv (as := [.int (-1)]) (al0 := [some (.ref 146), some (.int (-1))]) (r := []) d_285_23 mo_285 ml_110 mz_180 rfl rfl rfl (Nat.le_of_ble_eq_true rfl) (s_refuses (e := 1) (by decide) (by decide)) ?_
      show RR _ _ 26 [some (.ref 146), some (.int t), some (.int x), some (.int z), none, none, none] [.int (-1)] (upd g 0 (-1)) (rf_u A 0 (upd (A 0) 1 (A 0 1 + nI 1))) _
      exact rr_ri d_285_26 mr_285 rfl ⟨rfl, (hW1.rf (by decide)).mo⟩
theorem p_walk_b {S : CS} {G : Nat → Nat → Value} {B : Nat → Nat → Int32} {J : Nat → Nat → Int64} {R : Nat → Nat → Option Nat} {n : Nat} {W : WS} (hW : WC n S G B R W) {t : Int32} (hh : ¬ hasP (wK W) t) {s k : Nat} (hs : s ≤ 1000000) (hk2 : k ≤ 200) : CR 80 170 0 [some (.ref 2), some (.int t), some (.int (nI s)), some (.int (nI k)), none, none, none, none, none, none] [] S G B J R (fun r__ S' G' B' J' R' => r__ = some (.int (-2)) ∧ WC (n + 1) S' G' B' R' (refW W (-2) 2)) := by
  have hS := hW.1.1
  have hF := hW.2.1
  have hO := hW.2.2.2.1
  obtain ⟨ta, ka, la, hH, hLk, hl2, hs3, hbd⟩ := hW.2.2.1
  refine cr_nx (pc' := 1) (al' := [some (.ref 2), some (.int t), some (.int (nI s)), some (.int (nI k)), none, none, none, none, none, none]) (st' := [.int (nI s)]) d_170_0 (fun _ => rfl) ?_
  refine cn_zlt (t := 22) d_170_1 (by decide) (by first | omega | assumption | exact cu_36 (by omega) (cu_lt (by omega) (by omega))) (fun c1 => ?_) (fun c1 => ?_)
  · exact c1.elim
  · refine cr_nx (pc' := 5) (al' := [some (.ref 2), some (.int t), some (.int (nI s)), some (.int (nI k)), none, none, none, none, none, none]) (st' := [.int (nI s)]) d_170_4 (fun _ => rfl) ?_
    refine cr_k3 (v := nI 1000000) d_170_5 cw_170 ck_11_365 ?_
    refine cn_cgt (t := 22) d_170_8 (by decide) (by omega) (by decide) (fun c8 => ?_) (fun c8 => ?_)
    · omega
    · refine cr_nx (pc' := 12) (al' := [some (.ref 2), some (.int t), some (.int (nI s)), some (.int (nI k)), none, none, none, none, none, none]) (st' := [.int (nI k)]) d_170_11 (fun _ => rfl) ?_
      refine cn_zlt (t := 22) d_170_12 (by decide) (by first | omega | assumption | exact cu_36 (by omega) (cu_lt (by omega) (by omega))) (fun c12 => ?_) (fun c12 => ?_)
      · exact c12.elim
      · refine cr_nx (pc' := 16) (al' := [some (.ref 2), some (.int t), some (.int (nI s)), some (.int (nI k)), none, none, none, none, none, none]) (st' := [.int (nI k)]) d_170_15 (fun _ => rfl) ?_
        refine cn_sp (v := 200) d_170_16 (by decide) ?_
        refine cn_cle (t := 28) d_170_19 (by decide) (by omega) (by decide) (fun c19 => ?_) (fun c19 => ?_)
        · refine cr_nx (pc' := 29) (al' := [some (.ref 2), some (.int t), some (.int (nI s)), some (.int (nI k)), none, none, none, none, none, none]) (st' := [.ref 2]) d_170_28 (fun _ => rfl) ?_
          refine cr_nx (pc' := 30) (al' := [some (.ref 2), some (.int t), some (.int (nI s)), some (.int (nI k)), none, none, none, none, none, none]) (st' := [.int t, .ref 2]) d_170_29 (fun _ => rfl) ?_
          refine cr_pv (b := 2) (as := [.int t]) (al0 := [some (.ref 2), some (.int t)]) (r := []) d_170_30 cw_170 cm_11_137 cz_126 rfl rfl (hS.i (a := 2) (by decide) (by decide)) (by rw [cw_126]; exact (hS.s (a := 2) (by decide) (by decide) rfl)) (by rw [cw_126]; decide) rfl (Nat.le_of_ble_eq_true rfl) (k_has hS hF hH hO) ?_
          show CR _ _ 33 [some (.ref 2), some (.int t), some (.int (nI s)), some (.int (nI k)), none, none, none, none, none, none] [.int (bI (hasP (wK W) t))] S G B J R _
          refine cr_bne (t := 43) d_170_33 (by decide) (fun c33 => ?_) (fun c33 => ?_)
          · exact absurd c33 hh
          · refine cr_nx (pc' := 37) (al' := [some (.ref 2), some (.int t), some (.int (nI s)), some (.int (nI k)), none, none, none, none, none, none]) (st' := [.ref 2]) d_170_36 (fun _ => rfl) ?_
            refine cr_nx (pc' := 39) (al' := [some (.ref 2), some (.int t), some (.int (nI s)), some (.int (nI k)), none, none, none, none, none, none]) (st' := [.int (-2), .ref 2]) d_170_37 (fun _ => rfl) ?_
            refine cr_pv (b := 2) (as := [.int (-2)]) (al0 := [some (.ref 2), some (.int (-2))]) (r := []) d_170_39 cw_170 cm_11_104 cz_119 rfl rfl (hS.i (a := 2) (by decide) (by decide)) (by rw [cw_119]; exact (hS.s (a := 2) (by decide) (by decide) rfl)) (by rw [cw_119]; decide) rfl (Nat.le_of_ble_eq_true rfl) (k_refuse (e := 2) hS hF (by decide) (by decide)) ?_
            show CR _ _ 42 [some (.ref 2), some (.int t), some (.int (nI s)), some (.int (nI k)), none, none, none, none, none, none] [.int (-2)] S (up2 G 2 16 (.int (-2))) (upr B 145 (upd (B 145) 2 (B 145 2 + nI 1))) J R _
            exact cr_ri d_170_42 cx_170 rfl ⟨rfl, (hW.rf (by decide)).mo⟩
        · omega
theorem r_walk_b {g : Nat → Int32} {A : Nat → Nat → Int32} {n : Nat} {W : WS} (hW : WR n g A W) (hO : CoOk (wK W)) {t : Int32} (hh : ¬ hasP (wK W) t) {s k : Nat} (hs : s ≤ 1000000) (hk2 : k ≤ 200) : RR 80 285 0 [some (.ref 146), some (.int t), some (.int (nI s)), some (.int (nI k)), none, none, none] [] g A (fun r__ g' A' => r__ = some (.int (-2)) ∧ WR (n + 1) g' A' (refW W (-2) 2)) := by
  refine rr_nx (pc' := 1) (al' := [some (.ref 146), some (.int t), some (.int (nI s)), some (.int (nI k)), none, none, none]) (st' := [.int (nI s)]) d_285_0 (fun _ => rfl) ?_
  refine rn_ic (v := 0) d_285_1 (by decide) ?_
  refine rr_k2 (v := nI 1000000) d_285_2 mo_285 ck_12_152 ?_
  refine rr_ps (as := [.int (nI s), .int (nI 0), .int (nI 1000000)]) (al0 := [some (.int (nI s)), some (.int (nI 0)), some (.int (nI 1000000))]) (r := []) d_285_4 mo_285 ml_106 mz_179 rfl rfl rfl (Nat.le_of_ble_eq_true rfl) (s_lies (nI s) (nI 0) (nI 1000000)) ?_
  show RR _ _ 7 [some (.ref 146), some (.int t), some (.int (nI s)), some (.int (nI k)), none, none, none] [.int (bI ((nI 0) ≤ (nI s) ∧ (nI s) ≤ (nI 1000000)))] g A _
  refine rr_beq (t := 21) d_285_7 (by decide) (fun c7 => ?_) (fun c7 => ?_)
  · exact absurd (ia_natI (by decide) hs) c7
  · refine rr_nx (pc' := 11) (al' := [some (.ref 146), some (.int t), some (.int (nI s)), some (.int (nI k)), none, none, none]) (st' := [.int (nI k)]) d_285_10 (fun _ => rfl) ?_
    refine rn_ic (v := 0) d_285_11 (by decide) ?_
    refine rn_sp (v := 200) d_285_12 (by decide) ?_
    refine rr_ps (as := [.int (nI k), .int (nI 0), .int (nI 200)]) (al0 := [some (.int (nI k)), some (.int (nI 0)), some (.int (nI 200))]) (r := []) d_285_15 mo_285 ml_106 mz_179 rfl rfl rfl (Nat.le_of_ble_eq_true rfl) (s_lies (nI k) (nI 0) (nI 200)) ?_
    show RR _ _ 18 [some (.ref 146), some (.int t), some (.int (nI s)), some (.int (nI k)), none, none, none] [.int (bI ((nI 0) ≤ (nI k) ∧ (nI k) ≤ (nI 200)))] g A _
    refine rr_bne (t := 27) d_285_18 (by decide) (fun c18 => ?_) (fun c18 => ?_)
    · refine rr_nx (pc' := 28) (al' := [some (.ref 146), some (.int t), some (.int (nI s)), some (.int (nI k)), none, none, none]) (st' := [.ref 146]) d_285_27 (fun _ => rfl) ?_
      refine rr_nx (pc' := 29) (al' := [some (.ref 146), some (.int t), some (.int (nI s)), some (.int (nI k)), none, none, none]) (st' := [.int t, .ref 146]) d_285_28 (fun _ => rfl) ?_
      refine rr_pv (as := [.int t]) (al0 := [some (.ref 146), some (.int t)]) (r := []) d_285_29 mo_285 ml_124 mz_184 rfl rfl rfl (Nat.le_of_ble_eq_true rfl) (s_isTable t) ?_
      show RR _ _ 32 [some (.ref 146), some (.int t), some (.int (nI s)), some (.int (nI k)), none, none, none] [.int (bI (isT A t))] g A _
      refine rr_bne (t := 42) d_285_32 (by decide) (fun c32 => ?_) (fun c32 => ?_)
      · exact absurd c32 (fun e_ => hh ((has_r hW hO).mp e_))
      · refine rr_nx (pc' := 36) (al' := [some (.ref 146), some (.int t), some (.int (nI s)), some (.int (nI k)), none, none, none]) (st' := [.ref 146]) d_285_35 (fun _ => rfl) ?_
        refine rr_nx (pc' := 38) (al' := [some (.ref 146), some (.int t), some (.int (nI s)), some (.int (nI k)), none, none, none]) (st' := [.int (-2), .ref 146]) d_285_36 (fun _ => rfl) ?_
        have hW1 := hW.q (g' := g) (A' := A) Gsm.rf Ksm.rf
        refine rr_pv (as := [.int (-2)]) (al0 := [some (.ref 146), some (.int (-2))]) (r := []) d_285_38 mo_285 ml_110 mz_180 rfl rfl rfl (Nat.le_of_ble_eq_true rfl) (s_refuses (e := 2) (by decide) (by decide)) ?_
        show RR _ _ 41 [some (.ref 146), some (.int t), some (.int (nI s)), some (.int (nI k)), none, none, none] [.int (-2)] (upd g 0 (-2)) (rf_u A 0 (upd (A 0) 2 (A 0 2 + nI 1))) _
        exact rr_ri d_285_41 mr_285 rfl ⟨rfl, (hW1.rf (by decide)).mo⟩
    · exact absurd (ia_natI (by decide) hk2) c18
theorem p_walk_c {S : CS} {G : Nat → Nat → Value} {B : Nat → Nat → Int32} {J : Nat → Nat → Int64} {R : Nat → Nat → Option Nat} {n : Nat} {W : WS} (hW : WC n S G B R W) {j m : Nat} {c : Nat → Nat} (hj : j < 6) (htb : tbK (wK W) j = (m, c)) (h1 : 1 ≤ m) {s k : Nat} (hs : s ≤ 1000000) (hk2 : k ≤ 200) (hm1 : m = 1) : CR 80 170 0 [some (.ref 2), some (.int (nI j)), some (.int (nI s)), some (.int (nI k)), none, none, none, none, none, none] [] S G B J R (fun r__ S' G' B' J' R' => r__ = some (.int (-3)) ∧ WC (n + 1) S' G' B' R' (refW W (-3) 3)) := by
  have hS := hW.1.1
  have hF := hW.2.1
  have hO := hW.2.2.2.1
  obtain ⟨ta, ka, la, hH, hLk, hl2, hs3, hbd⟩ := hW.2.2.1
  obtain ⟨zt, hzt, ezt⟩ := (hH.2.1 j hj).2
  have ht := hH.ta hj
  have hsh := hH.2.2.2.2.2.2.1 j hj
  rw [show kH (wK W) (kD (wK W)) j = (m, c) from htb] at hsh
  have hok := tb_ok hO hj
  rw [htb] at hok
  have hn : G (ta j) 0 = .int (nI m) := hsh.1
  have hc : TabC B (ta j) m c := hsh.c hok
  have hl : Lat m c := hok.2
  have hm6 : m ≤ 6 := hok.1
  have hyes : hasP (wK W) (nI j) := (has_i hj).mpr (by rw [htb]; exact h1)
  refine cr_nx (pc' := 1) (al' := [some (.ref 2), some (.int (nI j)), some (.int (nI s)), some (.int (nI k)), none, none, none, none, none, none]) (st' := [.int (nI s)]) d_170_0 (fun _ => rfl) ?_
  refine cn_zlt (t := 22) d_170_1 (by decide) (by first | omega | assumption | exact cu_36 (by omega) (cu_lt (by omega) (by omega))) (fun c1 => ?_) (fun c1 => ?_)
  · exact c1.elim
  · refine cr_nx (pc' := 5) (al' := [some (.ref 2), some (.int (nI j)), some (.int (nI s)), some (.int (nI k)), none, none, none, none, none, none]) (st' := [.int (nI s)]) d_170_4 (fun _ => rfl) ?_
    refine cr_k3 (v := nI 1000000) d_170_5 cw_170 ck_11_365 ?_
    refine cn_cgt (t := 22) d_170_8 (by decide) (by omega) (by decide) (fun c8 => ?_) (fun c8 => ?_)
    · omega
    · refine cr_nx (pc' := 12) (al' := [some (.ref 2), some (.int (nI j)), some (.int (nI s)), some (.int (nI k)), none, none, none, none, none, none]) (st' := [.int (nI k)]) d_170_11 (fun _ => rfl) ?_
      refine cn_zlt (t := 22) d_170_12 (by decide) (by first | omega | assumption | exact cu_36 (by omega) (cu_lt (by omega) (by omega))) (fun c12 => ?_) (fun c12 => ?_)
      · exact c12.elim
      · refine cr_nx (pc' := 16) (al' := [some (.ref 2), some (.int (nI j)), some (.int (nI s)), some (.int (nI k)), none, none, none, none, none, none]) (st' := [.int (nI k)]) d_170_15 (fun _ => rfl) ?_
        refine cn_sp (v := 200) d_170_16 (by decide) ?_
        refine cn_cle (t := 28) d_170_19 (by decide) (by omega) (by decide) (fun c19 => ?_) (fun c19 => ?_)
        · refine cr_nx (pc' := 29) (al' := [some (.ref 2), some (.int (nI j)), some (.int (nI s)), some (.int (nI k)), none, none, none, none, none, none]) (st' := [.ref 2]) d_170_28 (fun _ => rfl) ?_
          refine cr_nx (pc' := 30) (al' := [some (.ref 2), some (.int (nI j)), some (.int (nI s)), some (.int (nI k)), none, none, none, none, none, none]) (st' := [.int (nI j), .ref 2]) d_170_29 (fun _ => rfl) ?_
          refine cr_pv (b := 2) (as := [.int (nI j)]) (al0 := [some (.ref 2), some (.int (nI j))]) (r := []) d_170_30 cw_170 cm_11_137 cz_126 rfl rfl (hS.i (a := 2) (by decide) (by decide)) (by rw [cw_126]; exact (hS.s (a := 2) (by decide) (by decide) rfl)) (by rw [cw_126]; decide) rfl (Nat.le_of_ble_eq_true rfl) (k_has hS hF hH hO) ?_
          show CR _ _ 33 [some (.ref 2), some (.int (nI j)), some (.int (nI s)), some (.int (nI k)), none, none, none, none, none, none] [.int (bI (hasP (wK W) (nI j)))] S G B J R _
          refine cr_bne (t := 43) d_170_33 (by decide) (fun c33 => ?_) (fun c33 => ?_)
          · refine cr_nx (pc' := 44) (al' := [some (.ref 2), some (.int (nI j)), some (.int (nI s)), some (.int (nI k)), none, none, none, none, none, none]) (st' := [.ref 2]) d_170_43 (fun _ => rfl) ?_
            refine cr_gf (v := .ref 3) d_170_44 cw_170 cf_11_10 (hS.i (a := 2) (by decide) (by decide)) (hS.s (a := 2) (by decide) (by decide) rfl) (by decide) (fx_2_0 hF) ?_
            refine cr_gf (v := .ref 4) d_170_47 cw_170 cf_11_140 (hS.i (a := 3) (by decide) (by decide)) (hS.s (a := 3) (by decide) (by decide) rfl) (by decide) (fx_3_0 hF) ?_
            refine cr_nx (pc' := 51) (al' := [some (.ref 2), some (.int (nI j)), some (.int (nI s)), some (.int (nI k)), none, none, none, none, none, none]) (st' := [.int (nI j), .ref 4]) d_170_50 (fun _ => rfl) ?_
            refine cr_aa (a := 4) (v := .ref (ta j)) d_170_51 (hS.i (a := 4) (by decide) (by decide)) (by decide) (hS.s (a := 4) (by decide) (by decide) rfl) (by decide) (show j < 6 by first | omega | assumption | exact cu_36 (by omega) (cu_lt (by omega) (by omega))) (show va_rf _ = _ by rw [(hH.2.1 j hj).1]; rfl) ?_
            refine cr_nx (pc' := 54) (al' := [some (.ref 2), some (.int (nI j)), some (.int (nI s)), some (.int (nI k)), some (.ref (ta j)), none, none, none, none, none]) (st' := []) d_170_52 (fun _ => rfl) ?_
            refine cr_nx (pc' := 56) (al' := [some (.ref 2), some (.int (nI j)), some (.int (nI s)), some (.int (nI k)), some (.ref (ta j)), none, none, none, none, none]) (st' := [.ref (ta j)]) d_170_54 (fun _ => rfl) ?_
            refine cr_gf (v := .int (nI m)) d_170_56 cw_170 cf_11_112 ht.1 ht.2.2.1 (by decide) hn ?_
            refine cr_nx (pc' := 61) (al' := [some (.ref 2), some (.int (nI j)), some (.int (nI s)), some (.int (nI k)), some (.ref (ta j)), some (.int (nI m)), none, none, none, none]) (st' := []) d_170_59 (fun _ => rfl) ?_
            refine cr_nx (pc' := 63) (al' := [some (.ref 2), some (.int (nI j)), some (.int (nI s)), some (.int (nI k)), some (.ref (ta j)), some (.int (nI m)), none, none, none, none]) (st' := [.int (nI m)]) d_170_61 (fun _ => rfl) ?_
            refine cn_ic (v := 2) d_170_63 (by decide) ?_
            refine cn_cge (t := 74) d_170_64 (by decide) (by omega) (by decide) (fun c64 => ?_) (fun c64 => ?_)
            · omega
            · refine cr_nx (pc' := 68) (al' := [some (.ref 2), some (.int (nI j)), some (.int (nI s)), some (.int (nI k)), some (.ref (ta j)), some (.int (nI m)), none, none, none, none]) (st' := [.ref 2]) d_170_67 (fun _ => rfl) ?_
              refine cr_nx (pc' := 70) (al' := [some (.ref 2), some (.int (nI j)), some (.int (nI s)), some (.int (nI k)), some (.ref (ta j)), some (.int (nI m)), none, none, none, none]) (st' := [.int (-3), .ref 2]) d_170_68 (fun _ => rfl) ?_
              refine cr_pv (b := 2) (as := [.int (-3)]) (al0 := [some (.ref 2), some (.int (-3))]) (r := []) d_170_70 cw_170 cm_11_104 cz_119 rfl rfl (hS.i (a := 2) (by decide) (by decide)) (by rw [cw_119]; exact (hS.s (a := 2) (by decide) (by decide) rfl)) (by rw [cw_119]; decide) rfl (Nat.le_of_ble_eq_true rfl) (k_refuse (e := 3) hS hF (by decide) (by decide)) ?_
              show CR _ _ 73 [some (.ref 2), some (.int (nI j)), some (.int (nI s)), some (.int (nI k)), some (.ref (ta j)), some (.int (nI m)), none, none, none, none] [.int (-3)] S (up2 G 2 16 (.int (-3))) (upr B 145 (upd (B 145) 3 (B 145 3 + nI 1))) J R _
              exact cr_ri d_170_73 cx_170 rfl ⟨rfl, (hW.rf (by decide)).mo⟩
          · exact absurd hyes c33
        · omega
theorem r_walk_c {g : Nat → Int32} {A : Nat → Nat → Int32} {n : Nat} {W : WS} (hW : WR n g A W) (hO : CoOk (wK W)) {j m : Nat} {c : Nat → Nat} (hj : j < 6) (htb : tbK (wK W) j = (m, c)) (h1 : 1 ≤ m) {s k : Nat} (hs : s ≤ 1000000) (hk2 : k ≤ 200) (hm1 : m = 1) : RR 80 285 0 [some (.ref 146), some (.int (nI j)), some (.int (nI s)), some (.int (nI k)), none, none, none] [] g A (fun r__ g' A' => r__ = some (.int (-3)) ∧ WR (n + 1) g' A' (refW W (-3) 3)) := by
  have hsh := hW.1.1.1 j hj
  rw [show kH (wK W) (kD (wK W)) j = (m, c) from htb] at hsh
  have hok := tb_ok hO hj
  rw [htb] at hok
  have hk : A 1 (37 * j) = nI m := hsh.1
  have hl : Lat m c := hok.2
  have hm6 : m ≤ 6 := hok.1
  have hyes : isT A (nI j) := (has_r hW hO).mpr ((has_i hj).mpr (by rw [htb]; exact h1))
  refine rr_nx (pc' := 1) (al' := [some (.ref 146), some (.int (nI j)), some (.int (nI s)), some (.int (nI k)), none, none, none]) (st' := [.int (nI s)]) d_285_0 (fun _ => rfl) ?_
  refine rn_ic (v := 0) d_285_1 (by decide) ?_
  refine rr_k2 (v := nI 1000000) d_285_2 mo_285 ck_12_152 ?_
  refine rr_ps (as := [.int (nI s), .int (nI 0), .int (nI 1000000)]) (al0 := [some (.int (nI s)), some (.int (nI 0)), some (.int (nI 1000000))]) (r := []) d_285_4 mo_285 ml_106 mz_179 rfl rfl rfl (Nat.le_of_ble_eq_true rfl) (s_lies (nI s) (nI 0) (nI 1000000)) ?_
  show RR _ _ 7 [some (.ref 146), some (.int (nI j)), some (.int (nI s)), some (.int (nI k)), none, none, none] [.int (bI ((nI 0) ≤ (nI s) ∧ (nI s) ≤ (nI 1000000)))] g A _
  refine rr_beq (t := 21) d_285_7 (by decide) (fun c7 => ?_) (fun c7 => ?_)
  · exact absurd (ia_natI (by decide) hs) c7
  · refine rr_nx (pc' := 11) (al' := [some (.ref 146), some (.int (nI j)), some (.int (nI s)), some (.int (nI k)), none, none, none]) (st' := [.int (nI k)]) d_285_10 (fun _ => rfl) ?_
    refine rn_ic (v := 0) d_285_11 (by decide) ?_
    refine rn_sp (v := 200) d_285_12 (by decide) ?_
    refine rr_ps (as := [.int (nI k), .int (nI 0), .int (nI 200)]) (al0 := [some (.int (nI k)), some (.int (nI 0)), some (.int (nI 200))]) (r := []) d_285_15 mo_285 ml_106 mz_179 rfl rfl rfl (Nat.le_of_ble_eq_true rfl) (s_lies (nI k) (nI 0) (nI 200)) ?_
    show RR _ _ 18 [some (.ref 146), some (.int (nI j)), some (.int (nI s)), some (.int (nI k)), none, none, none] [.int (bI ((nI 0) ≤ (nI k) ∧ (nI k) ≤ (nI 200)))] g A _
    refine rr_bne (t := 27) d_285_18 (by decide) (fun c18 => ?_) (fun c18 => ?_)
    · refine rr_nx (pc' := 28) (al' := [some (.ref 146), some (.int (nI j)), some (.int (nI s)), some (.int (nI k)), none, none, none]) (st' := [.ref 146]) d_285_27 (fun _ => rfl) ?_
      refine rr_nx (pc' := 29) (al' := [some (.ref 146), some (.int (nI j)), some (.int (nI s)), some (.int (nI k)), none, none, none]) (st' := [.int (nI j), .ref 146]) d_285_28 (fun _ => rfl) ?_
      refine rr_pv (as := [.int (nI j)]) (al0 := [some (.ref 146), some (.int (nI j))]) (r := []) d_285_29 mo_285 ml_124 mz_184 rfl rfl rfl (Nat.le_of_ble_eq_true rfl) (s_isTable (nI j)) ?_
      show RR _ _ 32 [some (.ref 146), some (.int (nI j)), some (.int (nI s)), some (.int (nI k)), none, none, none] [.int (bI (isT A (nI j)))] g A _
      refine rr_bne (t := 42) d_285_32 (by decide) (fun c32 => ?_) (fun c32 => ?_)
      · refine rr_nx (pc' := 43) (al' := [some (.ref 146), some (.int (nI j)), some (.int (nI s)), some (.int (nI k)), none, none, none]) (st' := [.ref 146]) d_285_42 (fun _ => rfl) ?_
        refine rr_nx (pc' := 44) (al' := [some (.ref 146), some (.int (nI j)), some (.int (nI s)), some (.int (nI k)), none, none, none]) (st' := [.int (nI j), .ref 146]) d_285_43 (fun _ => rfl) ?_
        refine rr_pv (as := [.int (nI j)]) (al0 := [some (.ref 146), some (.int (nI j))]) (r := []) d_285_44 mo_285 ml_121 mz_186 rfl rfl rfl (Nat.le_of_ble_eq_true rfl) (s_ordN hj hk) ?_
        show RR _ _ 47 [some (.ref 146), some (.int (nI j)), some (.int (nI s)), some (.int (nI k)), none, none, none] [.int (nI m)] g A _
        refine rn_ic (v := 1) d_285_47 (by decide) ?_
        refine rn_cne (t := 58) d_285_48 (by decide) (by omega) (by decide) (fun c48 => ?_) (fun c48 => ?_)
        · omega
        · refine rr_nx (pc' := 52) (al' := [some (.ref 146), some (.int (nI j)), some (.int (nI s)), some (.int (nI k)), none, none, none]) (st' := [.ref 146]) d_285_51 (fun _ => rfl) ?_
          refine rr_nx (pc' := 54) (al' := [some (.ref 146), some (.int (nI j)), some (.int (nI s)), some (.int (nI k)), none, none, none]) (st' := [.int (-3), .ref 146]) d_285_52 (fun _ => rfl) ?_
          have hW1 := hW.q (g' := g) (A' := A) Gsm.rf Ksm.rf
          refine rr_pv (as := [.int (-3)]) (al0 := [some (.ref 146), some (.int (-3))]) (r := []) d_285_54 mo_285 ml_110 mz_180 rfl rfl rfl (Nat.le_of_ble_eq_true rfl) (s_refuses (e := 3) (by decide) (by decide)) ?_
          show RR _ _ 57 [some (.ref 146), some (.int (nI j)), some (.int (nI s)), some (.int (nI k)), none, none, none] [.int (-3)] (upd g 0 (-3)) (rf_u A 0 (upd (A 0) 3 (A 0 3 + nI 1))) _
          exact rr_ri d_285_57 mr_285 rfl ⟨rfl, (hW1.rf (by decide)).mo⟩
      · exact absurd hyes c32
    · exact absurd (ia_natI (by decide) hk2) c18
theorem T_walk {S : CS} {G : Nat → Nat → Value} {B : Nat → Nat → Int32} {J : Nat → Nat → Int64} {R : Nat → Nat → Option Nat} {g : Nat → Int32} {A : Nat → Nat → Int32} {n : Nat} {W : WS} (hC : WC n S G B R W) (hR : WR n g A W) (hn : n ≤ 10000) {t : Int32} {x : Int32} {z : Int32} : Tie n 170 285 [some (.ref 2), some (.int t), some (.int x), some (.int z), none, none, none, none, none, none] [some (.ref 146), some (.int t), some (.int x), some (.int z), none, none, none] S G B J R g A W := by
  have hO := hC.2.2.2.1
  by_cases hx : inP x 1000001 ∧ inP z 201
  · obtain ⟨s, hs, e_⟩ := in_n hx.1
    subst e_
    obtain ⟨k, hk2, e_⟩ := in_n hx.2
    subst e_
    by_cases hh : hasP (wK W) t
    · obtain ⟨j, hj, e_, h1⟩ := has_n hh
      subst e_
      obtain ⟨⟨m, c⟩, htb⟩ : ∃ tb, tbK (wK W) j = tb := ⟨_, rfl⟩
      rw [htb] at h1
      by_cases hm1 : m = 1
      · exact ⟨_, _, p_walk_c hC hj htb h1 (by omega) (by omega) hm1, r_walk_c hR hO hj htb h1 (by omega) (by omega) hm1⟩
      · exact ⟨_, _, p_walk_y hC hj htb h1 (by omega) (by omega) (by omega), r_walk_y hR hO hj htb h1 (by omega) (by omega) (by omega) hn⟩
    · exact ⟨_, _, p_walk_b hC hh (by omega) (by omega), r_walk_b hR hO hh (by omega) (by omega)⟩
  · exact ⟨_, _, p_walk_a hC hx, r_walk_a hR hO hx⟩
