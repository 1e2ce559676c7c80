/-! What the calls share; printed by wip/whole/gen_c25.py. -/
/-- a number below m -/
abbrev inP (x : Int32) (m : Nat) : Prop := 0 ≤ x.toInt ∧ x.toInt < m
abbrev szP (x : Int32) : Prop := 1 ≤ x.toInt ∧ x.toInt ≤ 6
theorem in_n {x : Int32} {m : Nat} (h : inP x m) : ∃ j, j < m ∧ x = nI j := by
  refine ⟨x.toInt.toNat, by omega, ?_⟩
  apply Int32.toInt_inj.mp
  rw [nI_toInt (by have := Int32.toInt_lt x; omega)]
  omega
theorem in_i {j m : Nat} (h : j < m) (hm : m ≤ 2 ^ 31) : inP (nI j) m := by
  unfold inP
  rw [nI_toInt (by omega)]
  omega
theorem in_j {j m : Nat} (hj : j < 2 ^ 31) : inP (nI j) m ↔ j < m := by
  unfold inP
  rw [nI_toInt hj]
  omega
theorem sz_n {x : Int32} (h : szP x) : ∃ j, 1 ≤ j ∧ j ≤ 6 ∧ x = nI j := by
  obtain ⟨j, hj, e⟩ := in_n (x := x) (m := 7) ⟨by omega, by omega⟩
  subst e
  unfold szP at h
  rw [nI_toInt (by omega)] at h
  exact ⟨j, by omega, by omega, rfl⟩
theorem i_lt0 {x : Int32} : x < 0 ↔ x.toInt < 0 := Int32.lt_iff_toInt_lt
theorem i_leN {x : Int32} {m : Nat} (hm : m < 2 ^ 31) : nI m ≤ x ↔ (m : Int) ≤ x.toInt := by rw [Int32.le_iff_toInt_le, nI_toInt hm]
theorem i_Nle {x : Int32} {m : Nat} (hm : m < 2 ^ 31) : x ≤ nI m ↔ x.toInt ≤ m := by rw [Int32.le_iff_toInt_le, nI_toInt hm]
theorem i_ltN {x : Int32} {m : Nat} (hm : m < 2 ^ 31) : x < nI m ↔ x.toInt < m := by rw [Int32.lt_iff_toInt_lt, nI_toInt hm]
theorem i_Nlt {x : Int32} {m : Nat} (hm : m < 2 ^ 31) : nI m < x ↔ (m : Int) < x.toInt := by rw [Int32.lt_iff_toInt_lt, nI_toInt hm]
theorem in_r {x : Int32} {m : Nat} (hm : m < 2 ^ 31) : (nI 0 ≤ x ∧ x ≤ nI m) ↔ inP x (m + 1) := by
  rw [i_leN (by decide), i_Nle hm]
  unfold inP
  omega
theorem in_r1 {x : Int32} {m : Nat} (hm : m < 2 ^ 31) : (nI 0 ≤ x ∧ x ≤ nI m - nI 1) ↔ inP x m := by
  have e : (nI m - nI 1).toInt = (m : Int) - 1 := by
    rcases Nat.eq_zero_or_pos m with q | q
    · rw [q]; decide
    · obtain ⟨k, rfl⟩ : ∃ k, m = k + 1 := ⟨m - 1, by omega⟩
      rw [show nI (k + 1) = nI k + nI 1 from (nI_add k 1).symm, Int32.add_sub_cancel, nI_toInt (by omega)]
      omega
  rw [i_leN (by decide), Int32.le_iff_toInt_le, e]
  unfold inP
  omega
theorem sz_r {x : Int32} : (nI 1 ≤ x ∧ x ≤ nI 6) ↔ szP x := by
  rw [i_leN (by decide), i_Nle (by decide)]
  unfold szP
  omega
theorem k_isPlace {S : CS} {G : Nat → Nat → Value} {B : Nat → Nat → Int32} {J : Nat → Nat → Int64} {R : Nat → Nat → Option Nat} {t : Int32} : CR 0 118 0 [some (.int t)] [] S G B J R (cP (some (.int (bI (inP t 6)))) S G B J R) := by
  refine cr_nx (pc' := 1) (al' := [some (.int t)]) (st' := [.int t]) d_118_0 (fun _ => rfl) ?_
  refine cr_ilt (t := 14) d_118_1 (by decide) (fun c1 => ?_) (fun c1 => ?_)
  · rw [i_lt0] at c1
    refine cn_ic (v := 0) d_118_14 (by decide) ?_
    exact cr_ri d_118_15 cx_118 (by decide) ⟨by rw [← bI_f (show ¬ inP t 6 from fun h_ => by obtain ⟨h1_, h2_⟩ := h_; omega)], rfl, rfl, rfl, rfl, rfl⟩
  · rw [i_lt0] at c1
    refine cr_nx (pc' := 5) (al' := [some (.int t)]) (st' := [.int t]) d_118_4 (fun _ => rfl) ?_
    refine cn_bp (v := 6) d_118_5 (by decide) ?_
    refine cr_cge (t := 14) d_118_7 (by decide) (fun c7 => ?_) (fun c7 => ?_)
    · rw [i_leN (by decide)] at c7
      refine cn_ic (v := 0) d_118_14 (by decide) ?_
      exact cr_ri d_118_15 cx_118 (by decide) ⟨by rw [← bI_f (show ¬ inP t 6 from fun h_ => by obtain ⟨h1_, h2_⟩ := h_; omega)], rfl, rfl, rfl, rfl, rfl⟩
    · rw [i_leN (by decide)] at c7
      refine cn_ic (v := 1) d_118_10 (by decide) ?_
      refine cr_nx (pc' := 15) (al' := [some (.int t)]) (st' := [.int (nI 1)]) d_118_11 (fun _ => rfl) ?_
      exact cr_ri d_118_15 cx_118 (by decide) ⟨by rw [← bI_t (show inP t 6 from ⟨by omega, by omega⟩)], rfl, rfl, rfl, rfl, rfl⟩
theorem k_isSize {S : CS} {G : Nat → Nat → Value} {B : Nat → Nat → Int32} {J : Nat → Nat → Int64} {R : Nat → Nat → Option Nat} {t : Int32} : CR 0 121 0 [some (.int t)] [] S G B J R (cP (some (.int (bI (szP t)))) S G B J R) := by
  refine cr_nx (pc' := 1) (al' := [some (.int t)]) (st' := [.int t]) d_121_0 (fun _ => rfl) ?_
  refine cn_ic (v := 1) d_121_1 (by decide) ?_
  refine cr_clt (t := 15) d_121_2 (by decide) (fun c2 => ?_) (fun c2 => ?_)
  · rw [i_ltN (by decide)] at c2
    refine cn_ic (v := 0) d_121_15 (by decide) ?_
    exact cr_ri d_121_16 cx_121 (by decide) ⟨by rw [← bI_f (show ¬ szP t from fun h_ => by obtain ⟨h1_, h2_⟩ := h_; omega)], rfl, rfl, rfl, rfl, rfl⟩
  · rw [i_ltN (by decide)] at c2
    refine cr_nx (pc' := 6) (al' := [some (.int t)]) (st' := [.int t]) d_121_5 (fun _ => rfl) ?_
    refine cn_bp (v := 6) d_121_6 (by decide) ?_
    refine cr_cgt (t := 15) d_121_8 (by decide) (fun c8 => ?_) (fun c8 => ?_)
    · rw [i_Nlt (by decide)] at c8
      refine cn_ic (v := 0) d_121_15 (by decide) ?_
      exact cr_ri d_121_16 cx_121 (by decide) ⟨by rw [← bI_f (show ¬ szP t from fun h_ => by obtain ⟨h1_, h2_⟩ := h_; omega)], rfl, rfl, rfl, rfl, rfl⟩
    · rw [i_Nlt (by decide)] at c8
      refine cn_ic (v := 1) d_121_11 (by decide) ?_
      refine cr_nx (pc' := 16) (al' := [some (.int t)]) (st' := [.int (nI 1)]) d_121_12 (fun _ => rfl) ?_
      exact cr_ri d_121_16 cx_121 (by decide) ⟨by rw [← bI_t (show szP t from ⟨by omega, by omega⟩)], rfl, rfl, rfl, rfl, rfl⟩
theorem k_isLikeness {S : CS} {G : Nat → Nat → Value} {B : Nat → Nat → Int32} {J : Nat → Nat → Int64} {R : Nat → Nat → Option Nat} {t : Int32} : CR 0 156 0 [some (.int t)] [] S G B J R (cP (some (.int (bI (inP t 3)))) S G B J R) := by
  refine cr_nx (pc' := 1) (al' := [some (.int t)]) (st' := [.int t]) d_156_0 (fun _ => rfl) ?_
  refine cr_ilt (t := 13) d_156_1 (by decide) (fun c1 => ?_) (fun c1 => ?_)
  · rw [i_lt0] at c1
    refine cn_ic (v := 0) d_156_13 (by decide) ?_
    exact cr_ri d_156_14 cx_156 (by decide) ⟨by rw [← bI_f (show ¬ inP t 3 from fun h_ => by obtain ⟨h1_, h2_⟩ := h_; omega)], rfl, rfl, rfl, rfl, rfl⟩
  · rw [i_lt0] at c1
    refine cr_nx (pc' := 5) (al' := [some (.int t)]) (st' := [.int t]) d_156_4 (fun _ => rfl) ?_
    refine cn_ic (v := 2) d_156_5 (by decide) ?_
    refine cr_cgt (t := 13) d_156_6 (by decide) (fun c6 => ?_) (fun c6 => ?_)
    · rw [i_Nlt (by decide)] at c6
      refine cn_ic (v := 0) d_156_13 (by decide) ?_
      exact cr_ri d_156_14 cx_156 (by decide) ⟨by rw [← bI_f (show ¬ inP t 3 from fun h_ => by obtain ⟨h1_, h2_⟩ := h_; omega)], rfl, rfl, rfl, rfl, rfl⟩
    · rw [i_Nlt (by decide)] at c6
      refine cn_ic (v := 1) d_156_9 (by decide) ?_
      refine cr_nx (pc' := 14) (al' := [some (.int t)]) (st' := [.int (nI 1)]) d_156_10 (fun _ => rfl) ?_
      exact cr_ri d_156_14 cx_156 (by decide) ⟨by rw [← bI_t (show inP t 3 from ⟨by omega, by omega⟩)], rfl, rfl, rfl, rfl, rfl⟩
theorem k_hasLaw {S : CS} {G : Nat → Nat → Value} {B : Nat → Nat → Int32} {J : Nat → Nat → Int64} {R : Nat → Nat → Option Nat} {t : Int32} {m : Nat} (hS : ShOk S) (hF : FxG G) (h2 : G 3 2 = .int (nI m)) (hm : m ≤ 8) : CR 0 143 0 [some (.ref 2), some (.int t)] [] S G B J R (cP (some (.int (bI (inP t m)))) S G B J R) := by
  refine cr_nx (pc' := 1) (al' := [some (.ref 2), some (.int t)]) (st' := [.int t]) d_143_0 (fun _ => rfl) ?_
  refine cr_ilt (t := 19) d_143_1 (by decide) (fun c1 => ?_) (fun c1 => ?_)
  · rw [i_lt0] at c1
    refine cn_ic (v := 0) d_143_19 (by decide) ?_
    exact cr_ri d_143_20 cx_143 (by decide) ⟨by rw [← bI_f (show ¬ inP t m from fun h_ => by obtain ⟨h1_, h2_⟩ := h_; omega)], rfl, rfl, rfl, rfl, rfl⟩
  · rw [i_lt0] at c1
    refine cr_nx (pc' := 5) (al' := [some (.ref 2), some (.int t)]) (st' := [.int t]) d_143_4 (fun _ => rfl) ?_
    refine cr_nx (pc' := 6) (al' := [some (.ref 2), some (.int t)]) (st' := [.ref 2, .int t]) d_143_5 (fun _ => rfl) ?_
    refine cr_gf (v := .ref 3) d_143_6 cw_143 cf_11_10 (hS.i (a := 2) (by decide) (by decide)) (hS.s (a := 2) (by decide) (by decide) rfl) (by decide) (fx_2_0 hF) ?_
    refine cr_gf (v := .int (nI m)) d_143_9 cw_143 cf_11_231 (hS.i (a := 3) (by decide) (by decide)) (hS.s (a := 3) (by decide) (by decide) rfl) (by decide) h2 ?_
    refine cr_cge (t := 19) d_143_12 (by decide) (fun c12 => ?_) (fun c12 => ?_)
    · rw [i_leN (by omega)] at c12
      refine cn_ic (v := 0) d_143_19 (by decide) ?_
      exact cr_ri d_143_20 cx_143 (by decide) ⟨by rw [← bI_f (show ¬ inP t m from fun h_ => by obtain ⟨h1_, h2_⟩ := h_; omega)], rfl, rfl, rfl, rfl, rfl⟩
    · rw [i_leN (by omega)] at c12
      refine cn_ic (v := 1) d_143_15 (by decide) ?_
      refine cr_nx (pc' := 20) (al' := [some (.ref 2), some (.int t)]) (st' := [.int (nI 1)]) d_143_16 (fun _ => rfl) ?_
      exact cr_ri d_143_20 cx_143 (by decide) ⟨by rw [← bI_t (show inP t m from ⟨by omega, by omega⟩)], rfl, rfl, rfl, rfl, rfl⟩
theorem k_areLaws {S : CS} {G : Nat → Nat → Value} {B : Nat → Nat → Int32} {J : Nat → Nat → Int64} {R : Nat → Nat → Option Nat} {t : Int32} {m : Nat} (hS : ShOk S) (hF : FxG G) (h2 : G 3 2 = .int (nI m)) (hm : m ≤ 8) : CR 0 146 0 [some (.ref 2), some (.int t)] [] S G B J R (cP (some (.int (bI (inP t (1 * 2 ^ m))))) S G B J R) := by
  have h256 : 1 * 2 ^ m < 2 ^ 31 := by rw [Nat.one_mul]; exact Nat.pow_lt_pow_right (by decide) (by omega)
  refine cr_nx (pc' := 1) (al' := [some (.ref 2), some (.int t)]) (st' := [.int t]) d_146_0 (fun _ => rfl) ?_
  refine cr_ilt (t := 21) d_146_1 (by decide) (fun c1 => ?_) (fun c1 => ?_)
  · rw [i_lt0] at c1
    refine cn_ic (v := 0) d_146_21 (by decide) ?_
    exact cr_ri d_146_22 cx_146 (by decide) ⟨by rw [← bI_f (show ¬ inP t (1 * 2 ^ m) from fun h_ => by obtain ⟨h1_, h2_⟩ := h_; omega)], rfl, rfl, rfl, rfl, rfl⟩
  · rw [i_lt0] at c1
    refine cr_nx (pc' := 5) (al' := [some (.ref 2), some (.int t)]) (st' := [.int t]) d_146_4 (fun _ => rfl) ?_
    refine cn_ic (v := 1) d_146_5 (by decide) ?_
    refine cr_nx (pc' := 7) (al' := [some (.ref 2), some (.int t)]) (st' := [.ref 2, .int (nI 1), .int t]) d_146_6 (fun _ => rfl) ?_
    refine cr_gf (v := .ref 3) d_146_7 cw_146 cf_11_10 (hS.i (a := 2) (by decide) (by decide)) (hS.s (a := 2) (by decide) (by decide) rfl) (by decide) (fx_2_0 hF) ?_
    refine cr_gf (v := .int (nI m)) d_146_10 cw_146 cf_11_231 (hS.i (a := 3) (by decide) (by decide)) (hS.s (a := 3) (by decide) (by decide) rfl) (by decide) h2 ?_
    refine cn_shl d_146_13 (by omega) ?_
    refine cr_cge (t := 21) d_146_14 (by decide) (fun c14 => ?_) (fun c14 => ?_)
    · rw [i_leN h256] at c14
      refine cn_ic (v := 0) d_146_21 (by decide) ?_
      exact cr_ri d_146_22 cx_146 (by decide) ⟨by rw [← bI_f (show ¬ inP t (1 * 2 ^ m) from fun h_ => by obtain ⟨h1_, h2_⟩ := h_; omega)], rfl, rfl, rfl, rfl, rfl⟩
    · rw [i_leN h256] at c14
      refine cn_ic (v := 1) d_146_17 (by decide) ?_
      refine cr_nx (pc' := 22) (al' := [some (.ref 2), some (.int t)]) (st' := [.int (nI 1)]) d_146_18 (fun _ => rfl) ?_
      exact cr_ri d_146_22 cx_146 (by decide) ⟨by rw [← bI_t (show inP t (1 * 2 ^ m) from ⟨by omega, by omega⟩)], rfl, rfl, rfl, rfl, rfl⟩
theorem k_isClueCell {S : CS} {G : Nat → Nat → Value} {B : Nat → Nat → Int32} {J : Nat → Nat → Int64} {R : Nat → Nat → Option Nat} {t u : Int32} {m : Nat} (hS : ShOk S) (hF : FxG G) (h3 : G 3 3 = .int (nI m)) (hm : m ≤ 6) : CR 0 166 0 [some (.ref 2), some (.int t), some (.int u)] [] S G B J R (cP (some (.int (bI (inP t m ∧ inP u m)))) S G B J R) := by
  refine cr_nx (pc' := 1) (al' := [some (.ref 2), some (.int t), some (.int u)]) (st' := [.int t]) d_166_0 (fun _ => rfl) ?_
  refine cr_ilt (t := 34) d_166_1 (by decide) (fun c1 => ?_) (fun c1 => ?_)
  · rw [i_lt0] at c1
    refine cn_ic (v := 0) d_166_34 (by decide) ?_
    exact cr_ri d_166_35 cx_166 (by decide) ⟨by rw [← bI_f (show ¬ (inP t m ∧ inP u m) from fun h_ => by obtain ⟨⟨h1_, h2_⟩, h3_, h4_⟩ := h_; omega)], rfl, rfl, rfl, rfl, rfl⟩
  · rw [i_lt0] at c1
    refine cr_nx (pc' := 5) (al' := [some (.ref 2), some (.int t), some (.int u)]) (st' := [.int t]) d_166_4 (fun _ => rfl) ?_
    refine cr_nx (pc' := 6) (al' := [some (.ref 2), some (.int t), some (.int u)]) (st' := [.ref 2, .int t]) d_166_5 (fun _ => rfl) ?_
    refine cr_gf (v := .ref 3) d_166_6 cw_166 cf_11_10 (hS.i (a := 2) (by decide) (by decide)) (hS.s (a := 2) (by decide) (by decide) rfl) (by decide) (fx_2_0 hF) ?_
    refine cr_gf (v := .int (nI m)) d_166_9 cw_166 cf_11_342 (hS.i (a := 3) (by decide) (by decide)) (hS.s (a := 3) (by decide) (by decide) rfl) (by decide) h3 ?_
    refine cr_cge (t := 34) d_166_12 (by decide) (fun c12 => ?_) (fun c12 => ?_)
    · rw [i_leN (by omega)] at c12
      refine cn_ic (v := 0) d_166_34 (by decide) ?_
      exact cr_ri d_166_35 cx_166 (by decide) ⟨by rw [← bI_f (show ¬ (inP t m ∧ inP u m) from fun h_ => by obtain ⟨⟨h1_, h2_⟩, h3_, h4_⟩ := h_; omega)], rfl, rfl, rfl, rfl, rfl⟩
    · rw [i_leN (by omega)] at c12
      refine cr_nx (pc' := 16) (al' := [some (.ref 2), some (.int t), some (.int u)]) (st' := [.int u]) d_166_15 (fun _ => rfl) ?_
      refine cr_ilt (t := 34) d_166_16 (by decide) (fun c16 => ?_) (fun c16 => ?_)
      · rw [i_lt0] at c16
        refine cn_ic (v := 0) d_166_34 (by decide) ?_
        exact cr_ri d_166_35 cx_166 (by decide) ⟨by rw [← bI_f (show ¬ (inP t m ∧ inP u m) from fun h_ => by obtain ⟨⟨h1_, h2_⟩, h3_, h4_⟩ := h_; omega)], rfl, rfl, rfl, rfl, rfl⟩
      · rw [i_lt0] at c16
        refine cr_nx (pc' := 20) (al' := [some (.ref 2), some (.int t), some (.int u)]) (st' := [.int u]) d_166_19 (fun _ => rfl) ?_
        refine cr_nx (pc' := 21) (al' := [some (.ref 2), some (.int t), some (.int u)]) (st' := [.ref 2, .int u]) d_166_20 (fun _ => rfl) ?_
        refine cr_gf (v := .ref 3) d_166_21 cw_166 cf_11_10 (hS.i (a := 2) (by decide) (by decide)) (hS.s (a := 2) (by decide) (by decide) rfl) (by decide) (fx_2_0 hF) ?_
        refine cr_gf (v := .int (nI m)) d_166_24 cw_166 cf_11_342 (hS.i (a := 3) (by decide) (by decide)) (hS.s (a := 3) (by decide) (by decide) rfl) (by decide) h3 ?_
        refine cr_cge (t := 34) d_166_27 (by decide) (fun c27 => ?_) (fun c27 => ?_)
        · rw [i_leN (by omega)] at c27
          refine cn_ic (v := 0) d_166_34 (by decide) ?_
          exact cr_ri d_166_35 cx_166 (by decide) ⟨by rw [← bI_f (show ¬ (inP t m ∧ inP u m) from fun h_ => by obtain ⟨⟨h1_, h2_⟩, h3_, h4_⟩ := h_; omega)], rfl, rfl, rfl, rfl, rfl⟩
        · rw [i_leN (by omega)] at c27
          refine cn_ic (v := 1) d_166_30 (by decide) ?_
          refine cr_nx (pc' := 35) (al' := [some (.ref 2), some (.int t), some (.int u)]) (st' := [.int (nI 1)]) d_166_31 (fun _ => rfl) ?_
          exact cr_ri d_166_35 cx_166 (by decide) ⟨by rw [← bI_t (show inP t m ∧ inP u m from ⟨⟨by omega, by omega⟩, by omega, by omega⟩)], rfl, rfl, rfl, rfl, rfl⟩
theorem k_refuse {S : CS} {G : Nat → Nat → Value} {B : Nat → Nat → Int32} {J : Nat → Nat → Int64} {R : Nat → Nat → Option Nat} (hS : ShOk S) (hF : FxG G) {v : Int32} {e : Nat} (he : e < 7) (hv : -v = nI e) : CR 0 119 0 [some (.ref 2), some (.int v)] [] S G B J R (cP (some (.int v)) S (up2 G 2 16 (.int v)) (upr B 145 (upd (B 145) e (B 145 e + nI 1))) J R) := by
  refine cr_nx (pc' := 1) (al' := [some (.ref 2), some (.int v)]) (st' := [.ref 2]) d_119_0 (fun _ => rfl) ?_
  refine cr_nx (pc' := 2) (al' := [some (.ref 2), some (.int v)]) (st' := [.int v, .ref 2]) d_119_1 (fun _ => rfl) ?_
  refine cp_11_16  d_119_2 cw_119 cf_11_379 (hS.i (a := 2) (by decide) (by decide)) (hS.s (a := 2) (by decide) (by decide) rfl) (by decide) ?_
  refine cr_nx (pc' := 6) (al' := [some (.ref 2), some (.int v)]) (st' := [.ref 2]) d_119_5 (fun _ => rfl) ?_
  refine cr_gf (v := .ref 145) d_119_6 cw_119 cf_11_90 (hS.i (a := 2) (by decide) (by decide)) (hS.s (a := 2) (by decide) (by decide) rfl) (by decide) (by simp [up2]; exact (fx_2_15 hF)) ?_
  refine cr_nx (pc' := 10) (al' := [some (.ref 2), some (.int v)]) (st' := [.int v, .ref 145]) d_119_9 (fun _ => rfl) ?_
  refine cr_nx (pc' := 11) (al' := [some (.ref 2), some (.int v)]) (st' := [.int (-v), .ref 145]) d_119_10 (fun _ => rfl) ?_
  refine cr_tp (z := (nI e)) hv ?_
  refine cr_nx (pc' := 12) (al' := [some (.ref 2), some (.int v)]) (st' := [.int (nI e), .ref 145, .int (nI e), .ref 145]) d_119_11 (fun _ => rfl) ?_
  refine cr_ia (a := 145) (v := (B 145 e)) d_119_12 (hS.i (a := 145) (by decide) (by decide)) (hS.s (a := 145) (by decide) (by decide) rfl) (by first | decide | omega) (show e < 7 by first | omega | assumption | exact cu_36 (by omega) (cu_lt (by omega) (by omega))) rfl ?_
  refine cn_ic (v := 1) d_119_13 (by decide) ?_
  refine cr_nx (pc' := 15) (al' := [some (.ref 2), some (.int v)]) (st' := [.int ((B 145 e) + (nI 1)), .int (nI e), .ref 145]) d_119_14 (fun _ => rfl) ?_
  refine cr_iS (a := 145) (B1 := (upr B 145 (upd (B 145) e ((B 145 e) + (nI 1))))) d_119_15 (hS.i (a := 145) (by decide) (by decide)) (hS.s (a := 145) (by decide) (by decide) rfl) (by first | decide | omega) (show e < 7 by first | omega | assumption | exact cu_36 (by omega) (cu_lt (by omega) (by omega))) rfl ?_
  refine cr_nx (pc' := 17) (al' := [some (.ref 2), some (.int v)]) (st' := [.int v]) d_119_16 (fun _ => rfl) ?_
  exact cr_ri d_119_17 cx_119 rfl ⟨rfl, rfl, rfl, rfl, rfl, rfl⟩
theorem k_accept {S : CS} {G : Nat → Nat → Value} {B : Nat → Nat → Int32} {J : Nat → Nat → Int64} {R : Nat → Nat → Option Nat} (hS : ShOk S) {v : Int32} : CR 0 123 0 [some (.ref 2), some (.int v)] [] S G B J R (cP (some (.int v)) S (up2 G 2 16 (.int (nI 0))) B J R) := by
  refine cr_nx (pc' := 1) (al' := [some (.ref 2), some (.int v)]) (st' := [.ref 2]) d_123_0 (fun _ => rfl) ?_
  refine cn_ic (v := 0) d_123_1 (by decide) ?_
  refine cp_11_16  d_123_2 cw_123 cf_11_379 (hS.i (a := 2) (by decide) (by decide)) (hS.s (a := 2) (by decide) (by decide) rfl) (by decide) ?_
  refine cr_nx (pc' := 6) (al' := [some (.ref 2), some (.int v)]) (st' := [.int v]) d_123_5 (fun _ => rfl) ?_
  exact cr_ri d_123_6 cx_123 rfl ⟨rfl, rfl, rfl, rfl, rfl, rfl⟩
/-- table t of a core -/
abbrev tbK (K : Core) (j : Nat) : Tb := kH K (kD K) j
abbrev hasP (K : Core) (t : Int32) : Prop := inP t 6 ∧ 0 < (tbK K t.toInt.toNat).1
theorem has_n {K : Core} {t : Int32} (h : hasP K t) : ∃ j, j < 6 ∧ t = nI j ∧ 1 ≤ (tbK K j).1 := by
  obtain ⟨j, hj, e⟩ := in_n h.1
  subst e
  refine ⟨j, hj, rfl, ?_⟩
  have := h.2
  rw [nI_toInt (by omega)] at this
  exact this
theorem has_i {K : Core} {j : Nat} (hj : j < 6) : hasP K (nI j) ↔ 1 ≤ (tbK K j).1 := by
  unfold hasP
  rw [in_j (by omega), nI_toInt (by omega)]
  exact ⟨fun h => h.2, fun h => ⟨hj, h⟩⟩
theorem tb_ok {K : Core} (h : CoOk K) {j : Nat} (hj : j < 6) : TbOk (tbK K j) := h.1.2.2.1 (kD K) j h.1.1 hj
/-- the reference's word for it -/
theorem has_r {n : Nat} {g : Nat → Int32} {A : Nat → Nat → Int32} {W : WS} (h : WR n g A W) (ho : CoOk (wK W)) {t : Int32} : isT A t ↔ hasP (wK W) t := by
  unfold isT hasP
  rw [in_r (by decide)]
  constructor
  · rintro ⟨h1, h2⟩
    obtain ⟨j, hj, e⟩ := in_n h1
    subst e
    refine ⟨h1, ?_⟩
    rw [nI_clamp (by omega), (h.1.1.1 j (by omega)).1] at h2
    rw [nI_toInt (by omega)]
    have h6 := (tb_ok ho (show j < 6 by omega)).1
    exact (nI_ltI (a := 0) (b := (tbK (wK W) j).1) (by decide) (by omega)).mp h2
  · rintro ⟨h1, h2⟩
    obtain ⟨j, hj, e⟩ := in_n h1
    subst e
    refine ⟨h1, ?_⟩
    rw [nI_toInt (by omega)] at h2
    rw [nI_clamp (by omega), (h.1.1.1 j (by omega)).1]
    have h6 := (tb_ok ho (show j < 6 by omega)).1
    exact (nI_ltI (a := 0) (b := (tbK (wK W) j).1) (by decide) (by omega)).mpr h2
theorem k_has {S : CS} {G : Nat → Nat → Value} {B : Nat → Nat → Int32} {J : Nat → Nat → Int64} {R : Nat → Nat → Option Nat} (hS : ShOk S) (hF : FxG G) {K : Core} {ta ka : Nat → Nat} (hH : HiC S G B R 3 (kH K) (kC K) (kD K) (kT K) ta ka) (hO : CoOk K) {t : Int32} : CR 1 126 0 [some (.ref 2), some (.int t)] [] S G B J R (cP (some (.int (bI (hasP K t)))) S G B J R) := by
  refine cr_nx (pc' := 1) (al' := [some (.ref 2), some (.int t)]) (st' := [.int t]) d_126_0 (fun _ => rfl) ?_
  refine cr_ps (as := [.int t]) (al0 := [some (.int t)]) (r := []) d_126_1 cw_126 cm_11_100 (by decide) cz_118 rfl rfl rfl (Nat.le_of_ble_eq_true rfl) (k_isPlace) ?_
  show CR _ _ 4 [some (.ref 2), some (.int t)] [.int (bI (inP t 6))] S G B J R _
  refine cr_beq (t := 26) d_126_4 (by decide) (fun c4 => ?_) (fun c4 => ?_)
  · refine cn_ic (v := 0) d_126_26 (by decide) ?_
    exact cr_ri d_126_27 cx_126 (by decide) ⟨by rw [← bI_f (show ¬ hasP K t from fun h_ => c4 h_.1)], rfl, rfl, rfl, rfl, rfl⟩
  · obtain ⟨j, hj, e_⟩ := in_n c4
    subst e_
    have h6 := (tb_ok hO hj).1
    refine cr_nx (pc' := 8) (al' := [some (.ref 2), some (.int (nI j))]) (st' := [.ref 2]) d_126_7 (fun _ => rfl) ?_
    refine cr_gf (v := .ref 3) d_126_8 cw_126 cf_11_10 (hS.i (a := 2) (by decide) (by decide)) (hS.s (a := 2) (by decide) (by decide) rfl) (by decide) (fx_2_0 hF) ?_
    refine cr_gf (v := .ref 4) d_126_11 cw_126 cf_11_140 (hS.i (a := 3) (by decide) (by decide)) (hS.s (a := 3) (by decide) (by decide) rfl) (by decide) (fx_3_0 hF) ?_
    refine cr_nx (pc' := 15) (al' := [some (.ref 2), some (.int (nI j))]) (st' := [.int (nI j), .ref 4]) d_126_14 (fun _ => rfl) ?_
    refine cr_aa (a := 4) (v := .ref (ta j)) d_126_15 (hS.i (a := 4) (by decide) (by decide)) (by decide) (hS.s (a := 4) (by decide) (by decide) rfl) (by decide) (show j < 6 by first | omega | assumption | exact cu_36 (by omega) (cu_lt (by omega) (by omega))) (show va_rf _ = _ by rw [(hH.2.1 j hj).1]; rfl) ?_
    refine cr_gf (v := .int (nI ((tbK K j).1))) d_126_16 cw_126 cf_11_112 (hH.ta hj).1 (hH.ta hj).2.2.1 (by decide) (hH.2.2.2.2.2.2.1 j hj).1 ?_
    refine cn_zle (t := 26) d_126_19 (by decide) (by first | omega | assumption | exact cu_36 (by omega) (cu_lt (by omega) (by omega))) (fun c19 => ?_) (fun c19 => ?_)
    · refine cn_ic (v := 0) d_126_26 (by decide) ?_
      exact cr_ri d_126_27 cx_126 (by decide) ⟨by rw [← bI_f (fun h_ => by have := (has_i hj).mp h_; omega)], rfl, rfl, rfl, rfl, rfl⟩
    · refine cn_ic (v := 1) d_126_22 (by decide) ?_
      refine cr_nx (pc' := 27) (al' := [some (.ref 2), some (.int (nI j))]) (st' := [.int (nI 1)]) d_126_23 (fun _ => rfl) ?_
      exact cr_ri d_126_27 cx_126 (by decide) ⟨by rw [← bI_t ((has_i hj).mpr c19)], rfl, rfl, rfl, rfl, rfl⟩
def chK (K : Core) (j : Nat) (tb : Tb) : Core := (rcH (kH K) (kD K) j tb, rcC (kC K) (kD K) j, rcD (kD K), rcD (kD K), kL K, kW K, kN K, kS K, kB K)
def chW (W : WS) (j : Nat) (tb : Tb) : WS := (chK (wK W) j tb, wI W, wT W, wL W, wF W, nI 0, wR W, wW W)
theorem chK_ok {K : Core} (h : CoOk K) {j : Nat} (hj : j < 6) {tb : Tb} (hb : TbOk tb) : CoOk (chK K j tb) := ⟨h.1.rc hj hb, h.2⟩
theorem WC.ch {n : Nat} {S : CS} {G G' : Nat → Nat → Value} {B B' : Nat → Nat → Int32} {R R' : Nat → Nat → Option Nat} {W : WS} {ta ka : Nat → Nat} {j : Nat} {tb : Tb} (h : WC n S G B R W) (hj : j < 6) (hb : TbOk tb) (hf : StF G B R G' B' R') (hH : HiC S G' B' R' 3 (rcH (kH (wK W)) (kD (wK W)) j tb) (rcC (kC (wK W)) (kD (wK W)) j) (rcD (kD (wK W))) (rcD (kD (wK W))) ta ka) : WC n S (up2 G' 2 16 (.int (nI 0))) B' R' (chW W j tb) := by
  obtain ⟨⟨a1, a2, a3⟩, a4, ⟨ta0, ka0, la, c1, c2, c3, c4, c5⟩, a6, a7, a8, a9, a10, a11, a12, a13, a14⟩ := h
  have big : ∀ b, 81 ≤ b → up2 G' 2 16 (.int (nI 0)) b = G b ∧ B' b = B b ∧ R' b = R b := fun b hb2 => ⟨by rw [up2_g (by omega)]; exact (hf.1 b (by omega)).1, (hf.1 b (by omega)).2.1, (hf.1 b (by omega)).2.2⟩
  have hg3 : ∀ b, b ≠ 2 → up2 G' 2 16 (.int (nI 0)) b = G' b := fun b hb2 => up2_g hb2
  have h3 : ∀ k, k ≠ 7 → k ≠ 8 → up2 G' 2 16 (.int (nI 0)) 3 k = G 3 k := fun k p q => by rw [hg3 3 (by decide)]; exact hf.2.1 k p q
  have h2 : ∀ k, k ≠ 16 → up2 G' 2 16 (.int (nI 0)) 2 k = G 2 k := fun k p => by rw [up2_n (fun e => p e.2), (hf.1 2 (by decide)).1]
  obtain ⟨d0, d1, d2, d3, d4, d5, d6, d7, d8, d9, d10, d11⟩ := hH
  refine ⟨⟨a1, a2, a3.1, a3.2.cg (fun _ hb2 => ⟨hb2, rfl⟩) (fun b hb2 => by rw [up2_g (by omega)]; exact hf.2.2.2.2.2 b) hf.2.2.2.2.1 (fun b hb2 => (hf.1 b (by omega)).2.2)⟩, (hf.fx a4).u2, ⟨ta, ka, la, ⟨fun z hz => ?_, d1, d2, d3, d4, d5, fun i hi => ?_, fun i hi => ?_, fun i hi1 hi2 => ?_, d9, d10, d11⟩, ⟨c2.1, fun l hl => ⟨?_, ?_⟩⟩, by rw [h3 2 (by decide) (by decide)]; exact c3, by rw [h3 3 (by decide) (by decide)]; exact c4, fun q hq => by rw [show (3 + 3 : Nat) = 6 from rfl, hf.2.2.2.1]; exact c5 q hq⟩, chK_ok a6 hj hb, ?_, ?_, ?_, up2_s, ?_, ?_, ?_, ?_⟩
  · obtain ⟨b1, b2, b3, b4, b5⟩ := d0 z hz
    exact ⟨b1, b2, b3, b4, by rw [hg3 _ (by omega)]; exact b5⟩
  · obtain ⟨z, hz, e⟩ := (d1 i hi).2
    exact (d6 i hi).cg (by rw [hg3 _ (by omega)]) rfl
  · have hd : rcD (kD (wK W)) ≤ 30 := (a6.1.rc hj hb).2.1
    have hi : i < rcD (kD (wK W)) := hi
    obtain ⟨z, hz, e⟩ := (d2 i (by omega)).2
    exact (d7 i hi).cg (by rw [hg3 _ (by omega)]) rfl
  · have hi1 : rcD (kD (wK W)) ≤ i := hi1
    have hi2 : i < rcD (kD (wK W)) := hi2
    omega
  · rw [show (3 + 2 : Nat) = 5 from rfl, hf.2.2.2.2.1]
    exact (c2.2 l hl).1
  · have := (c2.2 l hl).2.2.1
    exact (c2.2 l hl).2.cg (big _ (by omega)).1 (big _ (by omega)).2.1
  · obtain ⟨i1, ia, i2, i3⟩ := a7
    refine ⟨fun k hk e => by rw [(big 81 (by decide)).2.2]; exact i1 k hk e, ia, i2, fun k K hk hK => ?_⟩
    obtain ⟨q1, q2, q3, q4, q5, q6⟩ := i3 k K hk hK
    refine ⟨by rw [(big 81 (by decide)).2.2]; exact q1, q2, q3, ?_, q5.cg q6 (fun a ha => ⟨ha, rfl⟩) (fun b hb2 _ => big b (by omega)) (fun b hb2 _ => ⟨fun _ => (big b (by omega)).1, fun _ => (big b (by omega)).2.1⟩), q6⟩
    unfold StG
    rw [(big (ia k) (by omega)).1]
    exact q4
  · rw [h2 3 (by decide), (big 82 (by decide)).2.1]
    exact a8
  · rw [h2 5 (by decide)]
    exact a9
  · rw [(big 145 (by decide)).2.1]
    exact a11
  · exact ⟨a12.1.cg (by rw [(big 88 (by decide)).1]) (big 89 (by decide)).2.1, a12.2⟩
  · exact nm_1 a13 (big _ (by decide)).1 (big _ (by decide)).1 (big _ (by decide)).1 (big _ (by decide)).2.1 (big _ (by decide)).2.1
  · exact nm_2 a14 (big _ (by decide)).1 (big _ (by decide)).1 (big _ (by decide)).1 (big _ (by decide)).2.1 (big _ (by decide)).2.1
theorem WR.ch {n : Nat} {g g' : Nat → Int32} {A : Nat → Nat → Int32} {W : WS} {f' : Nat → Int32} {j : Nat} {tb : Tb} (h : WR n g A W) (hn : n ≤ 100000) (hH : HiR f' (rcH (kH (wK W)) (kD (wK W)) j tb) (rcC (kC (wK W)) (kD (wK W)) j) (rcD (kD (wK W))) (rcD (kD (wK W)))) (hf : RfF (A 1) f') (hg : g' = upd (upd g 0 (nI 0)) 1 (g 1 + nI 1)) (hO : CoOk (wK W)) : WR (n + 1) g' (rf_u A 1 f') (chW W j tb) := by
  obtain ⟨h1, h2, h3, h4, h5, h6, h7, h8, h9, h10⟩ := h
  have hS6 := hO.2.2.2.1
  have h36 := Nat.mul_le_mul hS6 hS6
  subst hg
  refine ⟨?_, ?_, ?_, ?_, ?_, ?_, ?_, ?_, ?_, ?_⟩
  · rw [rf_u_s]
    refine ⟨hH, by rw [hf 2509 (by omega)]; exact h1.2.1, fun l hl => ?_, by rw [hf 222 (by omega)]; exact h1.2.2.2.1, fun q hq => ?_⟩
    · have := h1.2.2.1 l hl
      exact ⟨by rw [hf _ (by omega)]; exact this.1, fun i hi => by rw [hf _ (by omega)]; exact this.2 i hi⟩
    · have hq : q < kS (wK W) * kS (wK W) := hq
      rw [hf _ (by omega)]
      exact h1.2.2.2.2 q hq
  · unfold ImR
    rw [rf_u_n (by decide), rf_u_n (by decide)]
    exact h2
  · rw [rf_u_n (by decide)]
    exact h3
  · rw [rf_u_n (by decide), pk_un (by decide), pk_un (by decide)]
    exact h4
  · rw [pk_un (by decide), pk_un (by decide)]
    exact h5
  · rw [pk_un (by decide), pk_us]
    rfl
  · rw [rf_u_n (by decide)]
    exact h7
  · rw [rf_u_n (by decide), pk_un (by decide), pk_un (by decide)]
    exact h8
  · rw [pk_un (by decide), pk_un (by decide)]
    exact h9
  · exact h10.gd hn pk_us (by rw [pk_un (by decide), pk_un (by decide)])
theorem k_change {S : CS} {G : Nat → Nat → Value} {B : Nat → Nat → Int32} {J : Nat → Nat → Int64} {R : Nat → Nat → Option Nat} {n : Nat} {W : WS} (hW : WC n S G B R W) {j : Nat} (hj : j < 6) {tb : Tb} (hb : TbOk tb) (hg86 : G 86 0 = .int (nI tb.1)) (hm : ∀ q, q < tb.1 * tb.1 → B 87 q = nI (tb.2 q)) {v : Int32} : CR 2 122 0 [some (.ref 2), some (.int (nI j)), some (.int v)] [] S G B J R (fun r S' G' B' J' R' => r = some (.int v) ∧ WC n S' G' B' R' (chW W j tb)) := by
  have hS := hW.1.1
  have hF := hW.2.1
  have hO := hW.2.2.2.1
  obtain ⟨ta, ka, la, hH, _⟩ := hW.2.2.1
  refine cr_nx (pc' := 1) (al' := [some (.ref 2), some (.int (nI j)), some (.int v)]) (st' := [.ref 2]) d_122_0 (fun _ => rfl) ?_
  refine cr_gf (v := .ref 3) d_122_1 cw_122 cf_11_10 (hS.i (a := 2) (by decide) (by decide)) (hS.s (a := 2) (by decide) (by decide) rfl) (by decide) (fx_2_0 hF) ?_
  refine cr_nx (pc' := 5) (al' := [some (.ref 2), some (.int (nI j)), some (.int v)]) (st' := [.int (nI j), .ref 3]) d_122_4 (fun _ => rfl) ?_
  refine cr_nx (pc' := 6) (al' := [some (.ref 2), some (.int (nI j)), some (.int v)]) (st' := [.ref 2, .int (nI j), .ref 3]) d_122_5 (fun _ => rfl) ?_
  refine cr_gf (v := .ref 86) d_122_6 cw_122 cf_11_38 (hS.i (a := 2) (by decide) (by decide)) (hS.s (a := 2) (by decide) (by decide) rfl) (by decide) (fx_2_6 hF) ?_
  refine cr_cv (b := 3) (as := [.int (nI j), .ref 86]) (al0 := [some (.ref 3), some (.int (nI j)), some (.ref 86)]) (r := []) d_122_9 cw_122 cm_11_382 cz_81 rfl rfl (hS.i (a := 3) (by decide) (by decide)) (by rw [cw_81]; exact (hS.s (a := 3) (by decide) (by decide) rfl)) (by rw [cw_81]; decide) rfl (cr_wk (Nat.le_of_ble_eq_true rfl) (k_record hS hF hH hO.1 hj hb hg86 hm)) (fun v1 S1 G1 B1 J1 R1 h1 => ?_)
  obtain ⟨q0_, q1_, q2_, hf1, ta1, ka1, hH1⟩ := h1
  obtain rfl := q0_
  obtain rfl := q1_.symm
  obtain rfl := q2_.symm
  show CR _ _ 12 [some (.ref 2), some (.int (nI j)), some (.int v)] [] S G1 B1 J R1 _
  refine cr_nx (pc' := 13) (al' := [some (.ref 2), some (.int (nI j)), some (.int v)]) (st' := [.ref 2]) d_122_12 (fun _ => rfl) ?_
  refine cr_nx (pc' := 14) (al' := [some (.ref 2), some (.int (nI j)), some (.int v)]) (st' := [.int v, .ref 2]) d_122_13 (fun _ => rfl) ?_
  refine cr_pv (b := 2) (as := [.int v]) (al0 := [some (.ref 2), some (.int v)]) (r := []) d_122_14 cw_122 cm_11_212 cz_123 rfl rfl (hS.i (a := 2) (by decide) (by decide)) (by rw [cw_123]; exact (hS.s (a := 2) (by decide) (by decide) rfl)) (by rw [cw_123]; decide) rfl (Nat.le_of_ble_eq_true rfl) (k_accept hS) ?_
  show CR _ _ 17 [some (.ref 2), some (.int (nI j)), some (.int v)] [.int v] S (up2 G1 2 16 (.int (nI 0))) B1 J R1 _
  exact cr_ri d_122_17 cx_122 rfl ⟨rfl, hW.ch hj hb hf1 hH1⟩
