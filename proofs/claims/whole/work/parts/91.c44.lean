/-! Call: law; printed by wip/whole/gen_c44.py. -/
theorem tk_400 {t : Nat → Nat} {len : Nat} (hb : ∀ i, i < len → t i < 256) (j : Nat) : tkC t len j < 400 := by
  unfold tkC
  split
  · exact cdR_lt (hb _ (by assumption))
  · decide
def ftW (W : WS) (v : Int32) : WS := (wK W, wI W, wT W, wL W, v, wS W, wR W, wW W)
def lwK (K : Core) (cod : Nat → Nat) (N : Nat) : Core := (kH K, kC K, kD K, kT K, kL K + 1, (fun l => if l = kL K then cod else kW K l), (fun l => if l = kL K then N else kN K l), kS K, kB K)
def lwW (W : WS) (cod : Nat → Nat) (N : Nat) : WS := (lwK (wK W) cod N, wI W, wT W, 0, -1, nI 0, wR W, wW W)
theorem lwK_ok {K : Core} {cod : Nat → Nat} {N : Nat} (h : CoOk K) (h8 : kL K < 8) (hN : N ≤ 400) (h0 : cod N = 0) (h4 : ∀ j, cod j < 400) (hr : (lwR cod N 401).1 = true) : CoOk (lwK K cod N) := by
  refine ⟨h.1, h8, fun l hl => ?_, h.2.2.2⟩
  have hl : l < kL K + 1 := hl
  show (if l = kL K then N else kN K l) ≤ 400 ∧ (if l = kL K then cod else kW K l) (if l = kL K then N else kN K l) = 0 ∧ (∀ j, (if l = kL K then cod else kW K l) j < 400) ∧ (lwR (if l = kL K then cod else kW K l) (if l = kL K then N else kN K l) 401).1 = true
  by_cases e : l = kL K
  · rw [if_pos e, if_pos e]
    exact ⟨hN, h0, h4, hr⟩
  · rw [if_neg e, if_neg e]
    exact h.2.2.1 l (by omega)
theorem ImC.cs {S S' : CS} {G G' : Nat → Nat → Value} {B B' : Nat → Nat → Int32} {R R' : Nat → Nat → Option Nat} {im : Nat → Option Core} (h : ImC S G B R im) (hs : ∀ a, cs_in S.1 a → cs_in S'.1 a ∧ S'.2 a = S.2 a) (hg : ∀ b, 174 ≤ b → cs_in S.1 b → G' b = G b ∧ B' b = B b) (hr : ∀ b, 81 ≤ b → R' b = R b) : ImC S' G' B' R' im := by
  obtain ⟨h1, ia, h2, h3⟩ := h
  refine ⟨fun k hk e => by rw [hr 81 (by decide)]; exact h1 k hk e, ia, h2, fun k K hk hK => ?_⟩
  obtain ⟨q1, q2, q3, q4, q5, q6⟩ := h3 k K hk hK
  have hin : ∀ b, ia k ≤ b → b < ia k + 78 → cs_in S.1 b := fun b b1 b2 => by
    have := (q3 (b - ia k) (by omega)).1
    rw [show ia k + (b - ia k) = b by omega] at this
    exact this
  refine ⟨by rw [hr 81 (by decide)]; exact q1, q2, fun j hj => ⟨(hs _ (q3 j hj).1).1, by rw [(hs _ (q3 j hj).1).2]; exact (q3 j hj).2⟩, ?_, q5.cg q6 hs (fun b b1 b2 => ⟨(hg b (by omega) (hin b b1 b2)).1, (hg b (by omega) (hin b b1 b2)).2, hr b (by omega)⟩) (fun b b1 b2 => ⟨fun _ => (hg b b1 b2).1, fun _ => (hg b b1 b2).2⟩), q6⟩
  unfold StG
  rw [(hg (ia k) q2 (hin _ (Nat.le_refl _) (by omega))).1]
  exact q4
theorem ImC.sh {S : CS} {G : Nat → Nat → Value} {B : Nat → Nat → Int32} {R : Nat → Nat → Option Nat} {im : Nat → Option Core} (h : ImC S G B R im) {k b : Nat} (hk : k < 2) (e : R 81 k = some b) : StSh S b := by
  obtain ⟨h1, ia, h2, h3⟩ := h
  cases him : im k with
  | none =>
    rw [h1 k hk him] at e
    cases e
  | some K =>
    obtain ⟨q1, q2, q3, _⟩ := h3 k K hk him
    rw [q1] at e
    cases e
    exact q3
theorem fx_83z {G G' : Nat → Nat → Value} {s : Nat} (hF : FxG G) (hs : 174 ≤ s) (hg : ∀ b, b ≠ 83 → b ≠ s → G' b = G b) (h5 : G' 83 5 = G 83 5) : FxG G' := fun e he => by
  have hc : e.1 < 174 ∧ (e.1 = 83 → e.2.1 = 5) := by
    revert e
    decide
  by_cases q : e.1 = 83
  · have := hF e he
    rw [q, hc.2 q] at this ⊢
    rw [h5]
    exact this
  · rw [hg e.1 q (by omega)]
    exact hF e he
theorem WC.ft {S : CS} {G : Nat → Nat → Value} {B : Nat → Nat → Int32} {R : Nat → Nat → Option Nat} {n : Nat} {W : WS} (h : WC n S G B R W) {v : Int32} : WC n S (up2 G 2 5 (.int v)) B R (ftW W v) := h.u2 h.2.1.u2 (fun b hb => up2_g hb) (fun b _ _ => rfl) rfl rfl rfl (by rw [up2_n (by decide)]; exact h.2.2.2.2.2.1) up2_s (by rw [up2_n (by decide)]; exact h.2.2.2.2.2.2.2.1) (fun e he => h.2.2.2.2.2.2.2.2.1 e he)
/-- a law more -/
theorem WC.lw {S S' : CS} {G G' : Nat → Nat → Value} {B B' : Nat → Nat → Int32} {R R' : Nat → Nat → Option Nat} {n : Nat} {W : WS} {cod : Nat → Nat} {N : Nat} (h : WC n S G B R W) (h8 : kL (wK W) < 8) (hN : N ≤ 400) (h0 : cod N = 0) (h4 : ∀ j, cod j < 400) (hr : (lwR cod N 401).1 = true) (hS' : S' = cs_pu (cs_pu S (100 + 3, 3)) (0, (lwR cod N 401).2.2.1.length)) (hF : FxG G') (hg : ∀ b, b ≠ 83 → b ≠ S.1 → b ≠ 2 → b ≠ 3 → G' b = G b) (hg3 : ∀ k, k ≠ 2 → G' 3 k = G 3 k) (hb : ∀ b, b ≠ 85 → b ≠ S.1 + 1 → B' b = B b) (hR : ∀ b, b ≠ 5 → R' b = R b) (hR5 : R' 5 = va_up (R 5) (kL (wK W)) (some S.1)) (hLA : LawAt S' G' B' S.1 (lwR cod N 401).2.2.1 (lwR cod N 401).2.2.2) (h23 : G' 2 3 = .int (nI 0)) (h25 : G' 2 5 = .int (-1)) (h216 : G' 2 16 = .int (nI 0)) (h32 : G' 3 2 = .int (nI (kL (wK W) + 1))) : WC (n + 1) S' G' B' R' (lwW W cod N) := by
  obtain ⟨⟨a1, a2, a3⟩, a4, ⟨ta, ka, la, ⟨d0, d1, d2, d3, d4, d5, d6, d7, d8, d9, d10, d11⟩, c2, c3, c4, c5⟩, a6, a7, a8, a9, a10, a11, a12, a13, a14⟩ := h
  have h174 := a1.1
  have ht := a6.1.2.1
  have hd := a6.1.1
  have hs : ∀ a, cs_in S.1 a → cs_in S'.1 a ∧ S'.2 a = S.2 a := fun a ha => by
    subst hS'
    exact ⟨cs_pj (cs_pj ha), by rw [cs_pn (cs_pj ha), cs_pn ha]⟩
  have hnew : ∀ a, 174 ≤ a → cs_in S.1 a → G' a = G a ∧ B' a = B a := fun a b1 b2 => ⟨hg a (by omega) (by have := b2.2.2; omega) (by omega) (by omega), hb a (by omega) (by have := b2.2.2; omega)⟩
  have sh : ∀ b tb, 9 ≤ b → b < 81 → ShT G B b tb → ShT G' B' b tb := fun b tb b1 b2 q => q.cg (by rw [hg b (by omega) (by omega) (by omega) (by omega)]) (hb (b + 1) (by omega) (by omega))
  refine ⟨⟨by subst hS'; exact (a1.pu).pu, ?_, ?_, ⟨fun z hz => ?_, fun l hl => ?_⟩, fun k b hk e => ?_⟩, hF, ⟨ta, ka, upN la (kL (wK W)) S.1, ⟨fun z hz => ?_, fun j hj => by rw [hR _ (by decide)]; exact d1 j hj, fun i hi => by rw [hR _ (by decide)]; exact d2 i hi, d3, d4, d5, fun j hj => ?_, fun i hi => ?_, fun i hi1 hi2 => ?_, fun i hi => ?_, by rw [hg3 7 (by decide)]; exact d10, by rw [hg3 8 (by decide)]; exact d11⟩, ⟨h8, fun l hl => ?_⟩, h32, by rw [hg3 3 (by decide)]; exact c4, fun q hq => by rw [hb _ (by decide) (by omega)]; exact c5 q hq⟩, lwK_ok a6 h8 hN h0 h4 hr, a7.cs hs hnew (fun b b1 => hR b (by omega)), ⟨Nat.zero_le _, h23, fun i hi => absurd hi (Nat.not_lt_zero i)⟩, h25, h216, fun e he => by rw [hb 145 (by decide) (by omega)]; exact a11 e he, ⟨a12.1.cg (by rw [hg 88 (by decide) (by omega) (by decide) (by decide)]) (hb 89 (by decide) (by omega)), a12.2⟩, ?_, ?_⟩
  · subst hS'
    show S.1 + 1 + 1 ≤ 174 + 80 * (n + 1)
    omega
  · intro a ha1 ha2
    subst hS'
    have ha2 : a < S.1 + 1 + 1 := ha2
    have hV := lw_v h0 hr
    by_cases e1 : a = S.1 + 1
    · rw [e1]
      show (upr (cs_pu S (100 + 3, 3)).2 (S.1 + 1) (0, _) (S.1 + 1)).2 ≤ 64
      rw [upr_s]
      show (lwR cod N 401).2.2.1.length ≤ 64
      have := hV.2.1
      omega
    · by_cases e2 : a = S.1
      · rw [e2]
        show (upr (upr S.2 S.1 (100 + 3, 3)) (S.1 + 1) _ S.1).2 ≤ 64
        rw [upr_n (by omega), upr_s]
        decide
      · show (upr (upr S.2 S.1 (100 + 3, 3)) (S.1 + 1) _ a).2 ≤ 64
        rw [upr_n e1, upr_n e2]
        exact a3.1 a ha1 (by omega)
  · rw [hg _ (by omega) (by omega) (by omega) (by omega)]
    exact a3.2.1.1 z hz
  · rw [show (3 + 2 : Nat) = 5 from rfl, hR5]
    unfold va_up
    by_cases e : l = kL (wK W)
    · rw [if_pos e]
      exact Or.inr ⟨S.1, rfl, hLA.1, hLA.2.1⟩
    · rw [if_neg e]
      rcases a3.2.1.2 l hl with e | ⟨b, e1, e2, e3⟩
      · exact Or.inl e
      · exact Or.inr ⟨b, e1, (hs b e2).1, by rw [(hs b e2).2]; exact e3⟩
  · rw [hR 81 (by decide)] at e
    obtain ⟨p1, p2⟩ := a3.2.2 k b hk e
    refine ⟨p1, p2.cg hs (fun z hz => ?_) (hR _ (by omega))⟩
    have hlt := ((a7.sh hk e) (6 + 2 * z) (by omega)).1.2.2
    exact Or.inl (by rw [hg _ (by omega) (by omega) (by omega) (by omega)])
  · exact (d0 z hz).cg2 hs (by rw [hg _ (by omega) (by omega) (by omega) (by omega)])
  · obtain ⟨z, hz, e⟩ := (d1 j hj).2
    exact sh _ _ (by omega) (by omega) (d6 j hj)
  · have hi : i < kD (wK W) := hi
    obtain ⟨z, hz, e⟩ := (d2 i (by omega)).2
    exact sh _ _ (by omega) (by omega) (d7 i hi)
  · have hi1 : kD (wK W) ≤ i := hi1
    have hi2 : i < kT (wK W) := hi2
    obtain ⟨z, hz, e⟩ := (d2 i (by omega)).2
    exact sh _ _ (by omega) (by omega) (d8 i hi1 hi2)
  · rw [hb _ (by decide) (by omega)]
    exact d9 i hi
  · have hl : l < kL (wK W) + 1 := hl
    show R' (3 + 2) l = some (upN la (kL (wK W)) S.1 l) ∧ LwS (if l = kL (wK W) then cod else kW (wK W) l) (if l = kL (wK W) then N else kN (wK W) l) (upN la (kL (wK W)) S.1 l) S' G' B'
    rw [show (3 + 2 : Nat) = 5 from rfl, hR5]
    unfold va_up
    by_cases e : l = kL (wK W)
    · rw [if_pos e, if_pos e, if_pos e, e, upN_s]
      exact ⟨rfl, hLA, h174, h0, hr⟩
    · rw [if_neg e, if_neg e, if_neg e, upN_n e]
      obtain ⟨p1, p2⟩ := c2.2 l (by omega)
      refine ⟨p1, p2.cg2 hs (hnew _ p2.2.1 p2.1.1).1 (hnew _ (by have := p2.2.1; omega) p2.1.2.2.1).2⟩
  · exact nm_1 a13 (hg _ (by decide) (by omega) (by decide) (by decide)) (hg _ (by decide) (by omega) (by decide) (by decide)) (hg _ (by decide) (by omega) (by decide) (by decide)) (hb _ (by decide) (by omega)) (hb _ (by decide) (by omega))
  · exact nm_2 a14 (hg _ (by decide) (by omega) (by decide) (by decide)) (hg _ (by decide) (by omega) (by decide) (by decide)) (hg _ (by decide) (by omega) (by decide) (by decide)) (hb _ (by decide) (by omega)) (hb _ (by decide) (by omega))
theorem WR.tf {n : Nat} {g g' : Nat → Int32} {A A' : Nat → Nat → Int32} {W : WS} {t : Nat} {v : Int32} (h : WR n g A W) (hg : ∀ k, kpG k = true → k ≠ 13 → k ≠ 14 → g' k = g k) (h13 : g' 13 = nI t) (ht : t ≤ wL W) (h14 : g' 14 = v) (ha : Ksm A A') : WR n g' A' (ftW (enW W t) v) := by
  obtain ⟨h1, h2, h3, h4, h5, h6, h7, h8, h9, ver, h10, h11, h12⟩ := h
  unfold WR ImR VcR
  rw [ha 1 rfl, ha 2 rfl, ha 3 rfl, ha 6 rfl, ha 7 rfl, ha 0 rfl, ha 26 rfl, h13, h14, hg 0 rfl (by decide) (by decide), hg 56 rfl (by decide) (by decide), hg 48 rfl (by decide) (by decide), hg 1 rfl (by decide) (by decide), hg 50 rfl (by decide) (by decide), hg 51 rfl (by decide) (by decide), hg 52 rfl (by decide) (by decide), hg 53 rfl (by decide) (by decide), hg 54 rfl (by decide) (by decide)]
  exact ⟨h1, h2, h3, ⟨rfl, fun i hi => h4.2 i (Nat.lt_of_lt_of_le hi ht)⟩, rfl, h6, h7, h8, h9, ver, h10, h11, h12⟩
theorem k_rplace {S : CS} {G : Nat → Nat → Value} {B : Nat → Nat → Int32} {J : Nat → Nat → Int64} {R : Nat → Nat → Option Nat} (hS : ShOk S) {v : Int32} (h : G 83 2 = .int v) : CR 0 33 0 [some (.ref 83)] [] S G B J R (cP (some (.int v)) S G B J R) := by
  refine cr_nx (pc' := 1) (al' := [some (.ref 83)]) (st' := [.ref 83]) d_33_0 (fun _ => rfl) ?_
  refine cr_gf (v := .int v) d_33_1 cw_33 cf_4_16 (hS.i (a := 83) (by decide) (by decide)) (hS.s (a := 83) (by decide) (by decide) rfl) (by decide) h ?_
  exact cr_ri d_33_4 cx_33 rfl ⟨rfl, rfl, rfl, rfl, rfl, rfl⟩
theorem p_law_f8 {S : CS} {G : Nat → Nat → Value} {B : Nat → Nat → Int32} {J : Nat → Nat → Int64} {R : Nat → Nat → Option Nat} {n : Nat} {W : WS} (hW : WC n S G B R W) (h8 : kL (wK W) = 8) : CR 80 140 0 [some (.ref 2), none, none] [] S G B J R (fun r S' G' B' J' R' => r = some (.int (-5)) ∧ WC (n + 1) S' G' B' R' (refW (enW W 0) (-5) 5)) := by
  have hS := hW.1.1
  have hF := hW.2.1
  have hO := hW.2.2.2.1
  obtain ⟨ta, ka, la, hH, hLk, hl2, hs3, hbd⟩ := hW.2.2.1
  have h400 := hW.2.2.2.2.2.1.1
  have hT := hW.2.2.2.2.2.1.2.2
  have hTb : ∀ i, i < wL W → wT W i < 256 := fun i hi => (hT i hi).2
  have hN4 := (tkN_f (t := wT W) (len := wL W)).1
  refine cr_nx (pc' := 1) (al' := [some (.ref 2), none, none]) (st' := [.ref 2]) d_140_0 (fun _ => rfl) ?_
  refine cr_gf (v := .int (nI (wL W))) d_140_1 cw_140 cf_11_93 (hS.i (a := 2) (by decide) (by decide)) (hS.s (a := 2) (by decide) (by decide) rfl) (by decide) hW.2.2.2.2.2.1.2.1 ?_
  refine cr_nx (pc' := 5) (al' := [some (.ref 2), some (.int (nI (wL W))), none]) (st' := []) d_140_4 (fun _ => rfl) ?_
  refine cr_nx (pc' := 6) (al' := [some (.ref 2), some (.int (nI (wL W))), none]) (st' := [.ref 2]) d_140_5 (fun _ => rfl) ?_
  refine cn_ic (v := 0) d_140_6 (by decide) ?_
  refine cp_11_3  d_140_7 cw_140 cf_11_93 (hS.i (a := 2) (by decide) (by decide)) (hS.s (a := 2) (by decide) (by decide) rfl) (by decide) ?_
  refine cr_nx (pc' := 11) (al' := [some (.ref 2), some (.int (nI (wL W))), none]) (st' := [.ref 2]) d_140_10 (fun _ => rfl) ?_
  refine cr_gf (v := .ref 3) d_140_11 cw_140 cf_11_10 (hS.i (a := 2) (by decide) (by decide)) (hS.s (a := 2) (by decide) (by decide) rfl) (by decide) (by simp [up2]; exact (fx_2_0 hF)) ?_
  refine cr_gf (v := .int (nI (kL (wK W)))) d_140_14 cw_140 cf_11_231 (hS.i (a := 3) (by decide) (by decide)) (hS.s (a := 3) (by decide) (by decide) rfl) (by decide) (by simp [up2]; exact hl2) ?_
  refine cn_bp (v := 8) d_140_17 (by decide) ?_
  refine cn_clt (t := 29) d_140_19 (by decide) (by first | omega | assumption | exact cu_36 (by omega) (cu_lt (by omega) (by omega))) (by first | omega | assumption | exact cu_36 (by omega) (cu_lt (by omega) (by omega))) (fun c19 => ?_) (fun c19 => ?_)
  · omega
  · refine cr_nx (pc' := 23) (al' := [some (.ref 2), some (.int (nI (wL W))), none]) (st' := [.ref 2]) d_140_22 (fun _ => rfl) ?_
    refine cr_nx (pc' := 25) (al' := [some (.ref 2), some (.int (nI (wL W))), none]) (st' := [.int (-5), .ref 2]) d_140_23 (fun _ => rfl) ?_
    refine cr_pv (b := 2) (as := [.int (-5)]) (al0 := [some (.ref 2), some (.int (-5))]) (r := []) d_140_25 cw_140 cm_11_104 cz_119 rfl rfl (hS.i (a := 2) (by decide) (by decide)) (by rw [cw_119]; exact (hS.s (a := 2) (by decide) (by decide) rfl)) (by rw [cw_119]; decide) rfl (Nat.le_of_ble_eq_true rfl) (k_refuse (e := 5) hS hF.u2 (by decide) (by decide)) ?_
    show CR _ _ 28 [some (.ref 2), some (.int (nI (wL W))), none] [.int (-5)] S (up2 (up2 G 2 3 (.int (nI 0))) 2 16 (.int (-5))) (upr B 145 (upd (B 145) 5 (B 145 5 + nI 1))) J R _
    exact cr_ri d_140_28 cx_140 rfl ⟨rfl, ((hW.en (Nat.zero_le _)).rf (by decide)).mo⟩
theorem p_law_f {S : CS} {G : Nat → Nat → Value} {B : Nat → Nat → Int32} {J : Nat → Nat → Int64} {R : Nat → Nat → Option Nat} {n : Nat} {W : WS} (hW : WC n S G B R W) (h8 : kL (wK W) < 8) (hrd : (lwR (tkC (wT W) (wL W)) (tkN (wT W) (wL W)) 401).1 = false) : CR 80 140 0 [some (.ref 2), none, none] [] S G B J R (fun r S' G' B' J' R' => r = some (.int (-6)) ∧ WC (n + 1) S' G' B' R' (refW (ftW (enW W 0) (nI (tkP (wT W) (wL W) (lwR (tkC (wT W) (wL W)) (tkN (wT W) (wL W)) 401).2.1))) (-6) 6)) := by
  have hS := hW.1.1
  have hF := hW.2.1
  have hO := hW.2.2.2.1
  obtain ⟨ta, ka, la, hH, hLk, hl2, hs3, hbd⟩ := hW.2.2.1
  have h400 := hW.2.2.2.2.2.1.1
  have hT := hW.2.2.2.2.2.1.2.2
  have hTb : ∀ i, i < wL W → wT W i < 256 := fun i hi => (hT i hi).2
  have hN4 := (tkN_f (t := wT W) (len := wL W)).1
  refine cr_nx (pc' := 1) (al' := [some (.ref 2), none, none]) (st' := [.ref 2]) d_140_0 (fun _ => rfl) ?_
  refine cr_gf (v := .int (nI (wL W))) d_140_1 cw_140 cf_11_93 (hS.i (a := 2) (by decide) (by decide)) (hS.s (a := 2) (by decide) (by decide) rfl) (by decide) hW.2.2.2.2.2.1.2.1 ?_
  refine cr_nx (pc' := 5) (al' := [some (.ref 2), some (.int (nI (wL W))), none]) (st' := []) d_140_4 (fun _ => rfl) ?_
  refine cr_nx (pc' := 6) (al' := [some (.ref 2), some (.int (nI (wL W))), none]) (st' := [.ref 2]) d_140_5 (fun _ => rfl) ?_
  refine cn_ic (v := 0) d_140_6 (by decide) ?_
  refine cp_11_3  d_140_7 cw_140 cf_11_93 (hS.i (a := 2) (by decide) (by decide)) (hS.s (a := 2) (by decide) (by decide) rfl) (by decide) ?_
  refine cr_nx (pc' := 11) (al' := [some (.ref 2), some (.int (nI (wL W))), none]) (st' := [.ref 2]) d_140_10 (fun _ => rfl) ?_
  refine cr_gf (v := .ref 3) d_140_11 cw_140 cf_11_10 (hS.i (a := 2) (by decide) (by decide)) (hS.s (a := 2) (by decide) (by decide) rfl) (by decide) (by simp [up2]; exact (fx_2_0 hF)) ?_
  refine cr_gf (v := .int (nI (kL (wK W)))) d_140_14 cw_140 cf_11_231 (hS.i (a := 3) (by decide) (by decide)) (hS.s (a := 3) (by decide) (by decide) rfl) (by decide) (by simp [up2]; exact hl2) ?_
  refine cn_bp (v := 8) d_140_17 (by decide) ?_
  refine cn_clt (t := 29) d_140_19 (by decide) (by first | omega | assumption | exact cu_36 (by omega) (cu_lt (by omega) (by omega))) (by first | omega | assumption | exact cu_36 (by omega) (cu_lt (by omega) (by omega))) (fun c19 => ?_) (fun c19 => ?_)
  · refine cr_nx (pc' := 30) (al' := [some (.ref 2), some (.int (nI (wL W))), none]) (st' := [.ref 2]) d_140_29 (fun _ => rfl) ?_
    refine cr_gf (v := .ref 83) d_140_30 cw_140 cf_11_27 (hS.i (a := 2) (by decide) (by decide)) (hS.s (a := 2) (by decide) (by decide) rfl) (by decide) (by simp [up2]; exact (fx_2_4 hF)) ?_
    refine cr_nx (pc' := 34) (al' := [some (.ref 2), some (.int (nI (wL W))), none]) (st' := [.ref 2, .ref 83]) d_140_33 (fun _ => rfl) ?_
    refine cr_gf (v := .ref 82) d_140_34 cw_140 cf_11_20 (hS.i (a := 2) (by decide) (by decide)) (hS.s (a := 2) (by decide) (by decide) rfl) (by decide) (by simp [up2]; exact (fx_2_2 hF)) ?_
    refine cr_nx (pc' := 38) (al' := [some (.ref 2), some (.int (nI (wL W))), none]) (st' := [.int (nI (wL W)), .ref 82, .ref 83]) d_140_37 (fun _ => rfl) ?_
    refine cr_cv (b := 83) (as := [.ref 82, .int (nI (wL W))]) (al0 := [some (.ref 83), some (.ref 82), some (.int (nI (wL W))), none]) (r := []) d_140_38 cw_140 cm_11_234 cz_25 rfl rfl (hS.i (a := 83) (by decide) (by decide)) (by rw [cw_25]; exact (hS.s (a := 83) (by decide) (by decide) rfl)) (by rw [cw_25]; decide) rfl (cr_wk (Nat.le_of_ble_eq_true rfl) (k_readLawz (t := wT W) (len := wL W) (F := 401) hS ((up2_n (by decide)).trans (fx_83_5 hF)) h400 hT (by omega))) (fun v1 S1 G1 B1 J1 R1 h1x => ?_)
    obtain ⟨q2_, q3_, hy_, hno_⟩ := h1x
    obtain ⟨q0_, q1_, hg1, hb1, h832⟩ := hno_ hrd
    obtain rfl := q0_
    obtain rfl := q1_.symm
    obtain rfl := q2_.symm
    obtain rfl := q3_.symm
    have hF1 : FxG G1 := fx_83z (s := S.1) hF.u2 hS.1 (fun b b1 _ => hg1.1 b (by simpa using b1)) hg1.2
    have hW1 : WC n S G1 B1 R (enW W 0) := (hW.en (Nat.zero_le _)).q hF1 (hg1.1.mo (by decide)) (hb1.mo (by decide))
    show CR _ _ 41 [some (.ref 2), some (.int (nI (wL W))), none] [.null] S G1 B1 J R _
    refine cr_nx (pc' := 42) (al' := [some (.ref 2), some (.int (nI (wL W))), some (.null)]) (st' := []) d_140_41 (fun _ => rfl) ?_
    refine cr_nx (pc' := 43) (al' := [some (.ref 2), some (.int (nI (wL W))), some (.null)]) (st' := [.null]) d_140_42 (fun _ => rfl) ?_
    refine cr_nx (pc' := 46) (al' := [some (.ref 2), some (.int (nI (wL W))), some (.null)]) (st' := []) d_140_43 (fun _ => rfl) ?_
    refine cr_nx (pc' := 47) (al' := [some (.ref 2), some (.int (nI (wL W))), some (.null)]) (st' := [.ref 2]) d_140_46 (fun _ => rfl) ?_
    refine cr_nx (pc' := 48) (al' := [some (.ref 2), some (.int (nI (wL W))), some (.null)]) (st' := [.ref 2, .ref 2]) d_140_47 (fun _ => rfl) ?_
    refine cr_gf (v := .ref 83) d_140_48 cw_140 cf_11_27 (hS.i (a := 2) (by decide) (by decide)) (hS.s (a := 2) (by decide) (by decide) rfl) (by decide) (fx_2_4 hF1) ?_
    refine cr_pv (b := 83) (as := []) (al0 := [some (.ref 83)]) (r := [.ref 2]) d_140_51 cw_140 cm_11_238 cz_33 rfl rfl (hS.i (a := 83) (by decide) (by decide)) (by rw [cw_33]; exact (hS.s (a := 83) (by decide) (by decide) rfl)) (by rw [cw_33]; decide) rfl (Nat.le_of_ble_eq_true rfl) (k_rplace hS h832) ?_
    show CR _ _ 54 [some (.ref 2), some (.int (nI (wL W))), some (.null)] [.int (nI (tkP (wT W) (wL W) (lwR (tkC (wT W) (wL W)) (tkN (wT W) (wL W)) 401).2.1)), .ref 2] S G1 B1 J R _
    refine cp_11_5  d_140_54 cw_140 cf_11_31 (hS.i (a := 2) (by decide) (by decide)) (hS.s (a := 2) (by decide) (by decide) rfl) (by decide) ?_
    refine cr_nx (pc' := 58) (al' := [some (.ref 2), some (.int (nI (wL W))), some (.null)]) (st' := [.ref 2]) d_140_57 (fun _ => rfl) ?_
    refine cr_nx (pc' := 60) (al' := [some (.ref 2), some (.int (nI (wL W))), some (.null)]) (st' := [.int (-6), .ref 2]) d_140_58 (fun _ => rfl) ?_
    refine cr_pv (b := 2) (as := [.int (-6)]) (al0 := [some (.ref 2), some (.int (-6))]) (r := []) d_140_60 cw_140 cm_11_104 cz_119 rfl rfl (hS.i (a := 2) (by decide) (by decide)) (by rw [cw_119]; exact (hS.s (a := 2) (by decide) (by decide) rfl)) (by rw [cw_119]; decide) rfl (Nat.le_of_ble_eq_true rfl) (k_refuse (e := 6) hS hF1.u2 (by decide) (by decide)) ?_
    show CR _ _ 63 [some (.ref 2), some (.int (nI (wL W))), some (.null)] [.int (-6)] S (up2 (up2 G1 2 5 (.int (nI (tkP (wT W) (wL W) (lwR (tkC (wT W) (wL W)) (tkN (wT W) (wL W)) 401).2.1)))) 2 16 (.int (-6))) (upr B1 145 (upd (B1 145) 6 (B1 145 6 + nI 1))) J R _
    exact cr_ri d_140_63 cx_140 rfl ⟨rfl, ((hW1.ft).rf (by decide)).mo⟩
  · omega
theorem LawAt.cgg {S : CS} {G G' : Nat → Nat → Value} {B : Nat → Nat → Int32} {a i : Nat} {w : List Nat} (h : LawAt S G B a w i) (hg : G' a = G a) : LawAt S G' B a w i := h.cg hg rfl
theorem FxG.u32 {G : Nat → Nat → Value} {v : Value} (h : FxG G) : FxG (up2 G 3 2 v) := fun e he => by
  rw [up2_n]
  · exact h e he
  · intro q
    simp only [List.mem_cons, List.mem_nil_iff, or_false, Prod.ext_iff] at he
    omega
theorem p_law_y {S : CS} {G : Nat → Nat → Value} {B : Nat → Nat → Int32} {J : Nat → Nat → Int64} {R : Nat → Nat → Option Nat} {n : Nat} {W : WS} (hW : WC n S G B R W) (h8 : kL (wK W) < 8) (hrd : (lwR (tkC (wT W) (wL W)) (tkN (wT W) (wL W)) 401).1 = true) : CR 80 140 0 [some (.ref 2), none, none] [] S G B J R (fun r S' G' B' J' R' => r = some (.int (nI (kL (wK W)))) ∧ WC (n + 1) S' G' B' R' (lwW W (tkC (wT W) (wL W)) (tkN (wT W) (wL W)))) := by
  have hS := hW.1.1
  have hF := hW.2.1
  have hO := hW.2.2.2.1
  obtain ⟨ta, ka, la, hH, hLk, hl2, hs3, hbd⟩ := hW.2.2.1
  have h400 := hW.2.2.2.2.2.1.1
  have hT := hW.2.2.2.2.2.1.2.2
  have hTb : ∀ i, i < wL W → wT W i < 256 := fun i hi => (hT i hi).2
  have hN4 := (tkN_f (t := wT W) (len := wL W)).1
  refine cr_nx (pc' := 1) (al' := [some (.ref 2), none, none]) (st' := [.ref 2]) d_140_0 (fun _ => rfl) ?_
  refine cr_gf (v := .int (nI (wL W))) d_140_1 cw_140 cf_11_93 (hS.i (a := 2) (by decide) (by decide)) (hS.s (a := 2) (by decide) (by decide) rfl) (by decide) hW.2.2.2.2.2.1.2.1 ?_
  refine cr_nx (pc' := 5) (al' := [some (.ref 2), some (.int (nI (wL W))), none]) (st' := []) d_140_4 (fun _ => rfl) ?_
  refine cr_nx (pc' := 6) (al' := [some (.ref 2), some (.int (nI (wL W))), none]) (st' := [.ref 2]) d_140_5 (fun _ => rfl) ?_
  refine cn_ic (v := 0) d_140_6 (by decide) ?_
  refine cp_11_3  d_140_7 cw_140 cf_11_93 (hS.i (a := 2) (by decide) (by decide)) (hS.s (a := 2) (by decide) (by decide) rfl) (by decide) ?_
  refine cr_nx (pc' := 11) (al' := [some (.ref 2), some (.int (nI (wL W))), none]) (st' := [.ref 2]) d_140_10 (fun _ => rfl) ?_
  refine cr_gf (v := .ref 3) d_140_11 cw_140 cf_11_10 (hS.i (a := 2) (by decide) (by decide)) (hS.s (a := 2) (by decide) (by decide) rfl) (by decide) (by simp [up2]; exact (fx_2_0 hF)) ?_
  refine cr_gf (v := .int (nI (kL (wK W)))) d_140_14 cw_140 cf_11_231 (hS.i (a := 3) (by decide) (by decide)) (hS.s (a := 3) (by decide) (by decide) rfl) (by decide) (by simp [up2]; exact hl2) ?_
  refine cn_bp (v := 8) d_140_17 (by decide) ?_
  refine cn_clt (t := 29) d_140_19 (by decide) (by first | omega | assumption | exact cu_36 (by omega) (cu_lt (by omega) (by omega))) (by first | omega | assumption | exact cu_36 (by omega) (cu_lt (by omega) (by omega))) (fun c19 => ?_) (fun c19 => ?_)
  · refine cr_nx (pc' := 30) (al' := [some (.ref 2), some (.int (nI (wL W))), none]) (st' := [.ref 2]) d_140_29 (fun _ => rfl) ?_
    refine cr_gf (v := .ref 83) d_140_30 cw_140 cf_11_27 (hS.i (a := 2) (by decide) (by decide)) (hS.s (a := 2) (by decide) (by decide) rfl) (by decide) (by simp [up2]; exact (fx_2_4 hF)) ?_
    refine cr_nx (pc' := 34) (al' := [some (.ref 2), some (.int (nI (wL W))), none]) (st' := [.ref 2, .ref 83]) d_140_33 (fun _ => rfl) ?_
    refine cr_gf (v := .ref 82) d_140_34 cw_140 cf_11_20 (hS.i (a := 2) (by decide) (by decide)) (hS.s (a := 2) (by decide) (by decide) rfl) (by decide) (by simp [up2]; exact (fx_2_2 hF)) ?_
    refine cr_nx (pc' := 38) (al' := [some (.ref 2), some (.int (nI (wL W))), none]) (st' := [.int (nI (wL W)), .ref 82, .ref 83]) d_140_37 (fun _ => rfl) ?_
    refine cr_cv (b := 83) (as := [.ref 82, .int (nI (wL W))]) (al0 := [some (.ref 83), some (.ref 82), some (.int (nI (wL W))), none]) (r := []) d_140_38 cw_140 cm_11_234 cz_25 rfl rfl (hS.i (a := 83) (by decide) (by decide)) (by rw [cw_25]; exact (hS.s (a := 83) (by decide) (by decide) rfl)) (by rw [cw_25]; decide) rfl (cr_wk (Nat.le_of_ble_eq_true rfl) (k_readLawz (t := wT W) (len := wL W) (F := 401) hS ((up2_n (by decide)).trans (fx_83_5 hF)) h400 hT (by omega))) (fun v1 S1 G1 B1 J1 R1 h1x => ?_)
    obtain ⟨q2_, q3_, hy_, hno_⟩ := h1x
    obtain ⟨q0_, hS1, hg1, hb1, hLA, h85⟩ := hy_ hrd
    obtain rfl := q0_
    obtain rfl := q2_.symm
    obtain rfl := q3_.symm
    have hF1 : FxG G1 := fx_83z (s := S.1) hF.u2 hS.1 hg1 h85
    have h174 := hS.1
    have hS : ShOk S1 := by rw [hS1]; exact (hS.pu).pu
    have hl2b : G1 3 2 = .int (nI (kL (wK W))) := by rw [hg1 3 (by decide) (by omega), up2_n (by decide)]; exact hl2
    show CR _ _ 41 [some (.ref 2), some (.int (nI (wL W))), none] [.ref S.1] S1 G1 B1 J R _
    refine cr_nx (pc' := 42) (al' := [some (.ref 2), some (.int (nI (wL W))), some (.ref S.1)]) (st' := []) d_140_41 (fun _ => rfl) ?_
    refine cr_nx (pc' := 43) (al' := [some (.ref 2), some (.int (nI (wL W))), some (.ref S.1)]) (st' := [.ref S.1]) d_140_42 (fun _ => rfl) ?_
    refine cr_nx (pc' := 64) (al' := [some (.ref 2), some (.int (nI (wL W))), some (.ref S.1)]) (st' := []) d_140_43 (fun _ => rfl) ?_
    refine cr_nx (pc' := 65) (al' := [some (.ref 2), some (.int (nI (wL W))), some (.ref S.1)]) (st' := [.ref 2]) d_140_64 (fun _ => rfl) ?_
    refine cr_nx (pc' := 66) (al' := [some (.ref 2), some (.int (nI (wL W))), some (.ref S.1)]) (st' := [.int (-1), .ref 2]) d_140_65 (fun _ => rfl) ?_
    refine cp_11_5  d_140_66 cw_140 cf_11_31 (hS.i (a := 2) (by decide) (by decide)) (hS.s (a := 2) (by decide) (by decide) rfl) (by decide) ?_
    refine cr_nx (pc' := 70) (al' := [some (.ref 2), some (.int (nI (wL W))), some (.ref S.1)]) (st' := [.ref 2]) d_140_69 (fun _ => rfl) ?_
    refine cr_gf (v := .ref 3) d_140_70 cw_140 cf_11_10 (hS.i (a := 2) (by decide) (by decide)) (hS.s (a := 2) (by decide) (by decide) rfl) (by decide) (by simp [up2]; exact (fx_2_0 hF1)) ?_
    refine cr_gf (v := .ref 5) d_140_73 cw_140 cf_11_241 (hS.i (a := 3) (by decide) (by decide)) (hS.s (a := 3) (by decide) (by decide) rfl) (by decide) (by simp [up2]; exact (fx_3_1 hF1)) ?_
    refine cr_nx (pc' := 77) (al' := [some (.ref 2), some (.int (nI (wL W))), some (.ref S.1)]) (st' := [.ref 2, .ref 5]) d_140_76 (fun _ => rfl) ?_
    refine cr_gf (v := .ref 3) d_140_77 cw_140 cf_11_10 (hS.i (a := 2) (by decide) (by decide)) (hS.s (a := 2) (by decide) (by decide) rfl) (by decide) (by simp [up2]; exact (fx_2_0 hF1)) ?_
    refine cr_gf (v := .int (nI (kL (wK W)))) d_140_80 cw_140 cf_11_231 (hS.i (a := 3) (by decide) (by decide)) (hS.s (a := 3) (by decide) (by decide) rfl) (by decide) (by simp [up2]; exact hl2b) ?_
    refine cr_nx (pc' := 84) (al' := [some (.ref 2), some (.int (nI (wL W))), some (.ref S.1)]) (st' := [.ref S.1, .int (nI (kL (wK W))), .ref 5]) d_140_83 (fun _ => rfl) ?_
    refine cr_aS (a := 5) (b := S.1) (c := 3) (R1 := (upr R 5 (va_up (R 5) (kL (wK W)) (some S.1)))) d_140_84 (hS.i (a := 5) (by decide) (by decide)) hLA.1 (by decide) (hS.s (a := 5) (by decide) (by decide) rfl) hLA.2.1 (by first | decide | omega) (show kL (wK W) < 8 by omega) rfl ?_
    refine cr_nx (pc' := 86) (al' := [some (.ref 2), some (.int (nI (wL W))), some (.ref S.1)]) (st' := [.ref 2]) d_140_85 (fun _ => rfl) ?_
    refine cr_gf (v := .ref 3) d_140_86 cw_140 cf_11_10 (hS.i (a := 2) (by decide) (by decide)) (hS.s (a := 2) (by decide) (by decide) rfl) (by decide) (by simp [up2]; exact (fx_2_0 hF1)) ?_
    refine cr_nx (pc' := 90) (al' := [some (.ref 2), some (.int (nI (wL W))), some (.ref S.1)]) (st' := [.ref 3, .ref 3]) d_140_89 (fun _ => rfl) ?_
    refine cr_gf (v := .int (nI (kL (wK W)))) d_140_90 cw_140 cf_11_231 (hS.i (a := 3) (by decide) (by decide)) (hS.s (a := 3) (by decide) (by decide) rfl) (by decide) (by simp [up2]; exact hl2b) ?_
    refine cn_ic (v := 1) d_140_93 (by decide) ?_
    refine cn_add d_140_94  ?_
    refine cp_9_2  d_140_95 cw_140 cf_11_231 (hS.i (a := 3) (by decide) (by decide)) (hS.s (a := 3) (by decide) (by decide) rfl) (by decide) ?_
    refine cr_nx (pc' := 99) (al' := [some (.ref 2), some (.int (nI (wL W))), some (.ref S.1)]) (st' := [.ref 2]) d_140_98 (fun _ => rfl) ?_
    refine cr_nx (pc' := 100) (al' := [some (.ref 2), some (.int (nI (wL W))), some (.ref S.1)]) (st' := [.ref 2, .ref 2]) d_140_99 (fun _ => rfl) ?_
    refine cr_gf (v := .ref 3) d_140_100 cw_140 cf_11_10 (hS.i (a := 2) (by decide) (by decide)) (hS.s (a := 2) (by decide) (by decide) rfl) (by decide) (by simp [up2]; exact (fx_2_0 hF1)) ?_
    refine cr_gf (v := .int (nI ((kL (wK W)) + 1))) d_140_103 cw_140 cf_11_231 (hS.i (a := 3) (by decide) (by decide)) (hS.s (a := 3) (by decide) (by decide) rfl) (by decide) (by simp [up2]) ?_
    refine cn_ic (v := 1) d_140_106 (by decide) ?_
    refine cn_sub d_140_107 (by first | omega | assumption | exact cu_36 (by omega) (cu_lt (by omega) (by omega))) ?_
    refine cr_pv (b := 2) (as := [.int (nI (((kL (wK W)) + 1) - 1))]) (al0 := [some (.ref 2), some (.int (nI (((kL (wK W)) + 1) - 1)))]) (r := []) d_140_108 cw_140 cm_11_212 cz_123 rfl rfl (hS.i (a := 2) (by decide) (by decide)) (by rw [cw_123]; exact (hS.s (a := 2) (by decide) (by decide) rfl)) (by rw [cw_123]; decide) rfl (Nat.le_of_ble_eq_true rfl) (k_accept hS) ?_
    show CR _ _ 111 [some (.ref 2), some (.int (nI (wL W))), some (.ref S.1)] [.int (nI (((kL (wK W)) + 1) - 1))] S1 (up2 (up2 (up2 G1 2 5 (.int (-1))) 3 2 (.int (nI ((kL (wK W)) + 1)))) 2 16 (.int (nI 0))) B1 J (upr R 5 (va_up (R 5) (kL (wK W)) (some S.1))) _
    exact cr_ri d_140_111 cx_140 rfl ⟨by rw [Nat.add_sub_cancel], hW.lw h8 (by omega) (tkC_E _ _) (tk_400 hTb) hrd hS1 (((hF1.u2).u32).u2) (fun b b1 b2 b3 b4 => by rw [up2_g b3, up2_g b4, up2_g b3, hg1 b b1 b2, up2_g b3]) (fun k hk => by rw [up2_n (fun e => absurd e.1 (by decide)), up2_n (fun e => hk e.2), up2_n (fun e => absurd e.1 (by decide)), hg1 3 (by decide) (by omega), up2_n (fun e => absurd e.1 (by decide))]) hb1 (fun b b1 => upr_n b1) upr_s (hLA.cgg (by rw [up2_g (by omega), up2_g (by omega), up2_g (by omega)])) (by rw [up2_n (by decide), up2_n (by decide), up2_n (by decide), hg1 2 (by decide) (by omega), up2_s]) (by rw [up2_n (by decide), up2_n (by decide), up2_s]) up2_s (by rw [up2_n (by decide), up2_s])⟩
  · omega
theorem s_l69b {g : Nat → Int32} {A : Nat → Nat → Int32} {Q : Option Value → (Nat → Int32) → (Nat → Nat → Int32) → Prop} (hf : ¬ g 21 = -1) (hk : RR 23 191 91 [some (.ref 146), none, none] [] g A Q) : RR 23 191 69 [some (.ref 146), none, none] [] g A Q := by
  refine rr_nx (pc' := 70) (al' := [some (.ref 146), none, none]) (st' := [.ref 146]) d_191_69 (fun _ => rfl) ?_
  refine rr_pv (as := []) (al0 := [some (.ref 146)]) (r := []) d_191_70 mo_191 ml_156 mz_200 rfl rfl rfl (Nat.le_of_ble_eq_true rfl) (s_fine) ?_
  show RR _ _ 73 [some (.ref 146), none, none] [.int (bI (g 21 = -1))] g A _
  refine rr_beq (t := 91) d_191_73 (by decide) (fun c73 => ?_) (fun c73 => ?_)
  · exact hk
  · exact absurd c73 hf
theorem s_l69e {g : Nat → Int32} {A : Nat → Nat → Int32} {Q : Option Value → (Nat → Int32) → (Nat → Nat → Int32) → Prop} {N : Nat} (hf : g 21 = -1) (h19 : g 19 = nI N) (h18 : g 18 = nI N) (hN : N ≤ 400) (hk : RR 23 191 91 [some (.ref 146), none, none] [] g A Q) : RR 23 191 69 [some (.ref 146), none, none] [] g A Q := by
  refine rr_nx (pc' := 70) (al' := [some (.ref 146), none, none]) (st' := [.ref 146]) d_191_69 (fun _ => rfl) ?_
  refine rr_pv (as := []) (al0 := [some (.ref 146)]) (r := []) d_191_70 mo_191 ml_156 mz_200 rfl rfl rfl (Nat.le_of_ble_eq_true rfl) (s_fine) ?_
  show RR _ _ 73 [some (.ref 146), none, none] [.int (bI (g 21 = -1))] g A _
  refine rr_beq (t := 91) d_191_73 (by decide) (fun c73 => ?_) (fun c73 => ?_)
  · exact absurd hf c73
  · refine rr_nx (pc' := 77) (al' := [some (.ref 146), none, none]) (st' := [.ref 146]) d_191_76 (fun _ => rfl) ?_
    refine rr_gn d_191_77 mo_191 fl_160 rfl h19 ?_
    refine rr_nx (pc' := 81) (al' := [some (.ref 146), none, none]) (st' := [.ref 146, .int (nI N)]) d_191_80 (fun _ => rfl) ?_
    refine rr_gn d_191_81 mo_191 fl_140 rfl h18 ?_
    refine rn_cge (t := 91) d_191_84 (by decide) (by first | omega | assumption | exact cu_36 (by omega) (cu_lt (by omega) (by omega))) (by first | omega | assumption | exact cu_36 (by omega) (cu_lt (by omega) (by omega))) (fun c84 => ?_) (fun c84 => ?_)
    · exact hk
    · omega
theorem s_l69f {g : Nat → Int32} {A : Nat → Nat → Int32} {Q : Option Value → (Nat → Int32) → (Nat → Nat → Int32) → Prop} {N j p : Nat} (hf : g 21 = -1) (h19 : g 19 = nI j) (h18 : g 18 = nI N) (hN : N ≤ 400) (hj : j < N) (hp : A 11 j = nI p) (hk : RR 23 191 91 [some (.ref 146), none, none] [] (upd g 21 (nI p)) A Q) : RR 23 191 69 [some (.ref 146), none, none] [] g A Q := by
  refine rr_nx (pc' := 70) (al' := [some (.ref 146), none, none]) (st' := [.ref 146]) d_191_69 (fun _ => rfl) ?_
  refine rr_pv (as := []) (al0 := [some (.ref 146)]) (r := []) d_191_70 mo_191 ml_156 mz_200 rfl rfl rfl (Nat.le_of_ble_eq_true rfl) (s_fine) ?_
  show RR _ _ 73 [some (.ref 146), none, none] [.int (bI (g 21 = -1))] g A _
  refine rr_beq (t := 91) d_191_73 (by decide) (fun c73 => ?_) (fun c73 => ?_)
  · exact absurd hf c73
  · refine rr_nx (pc' := 77) (al' := [some (.ref 146), none, none]) (st' := [.ref 146]) d_191_76 (fun _ => rfl) ?_
    refine rr_gn d_191_77 mo_191 fl_160 rfl h19 ?_
    refine rr_nx (pc' := 81) (al' := [some (.ref 146), none, none]) (st' := [.ref 146, .int (nI j)]) d_191_80 (fun _ => rfl) ?_
    refine rr_gn d_191_81 mo_191 fl_140 rfl h18 ?_
    refine rn_cge (t := 91) d_191_84 (by decide) (by first | omega | assumption | exact cu_36 (by omega) (cu_lt (by omega) (by omega))) (by first | omega | assumption | exact cu_36 (by omega) (cu_lt (by omega) (by omega))) (fun c84 => ?_) (fun c84 => ?_)
    · omega
    · refine rr_nx (pc' := 88) (al' := [some (.ref 146), none, none]) (st' := [.ref 146]) d_191_87 (fun _ => rfl) ?_
      refine rr_pv (as := []) (al0 := [some (.ref 146)]) (r := []) d_191_88 mo_191 ml_166 mz_202 rfl rfl rfl (Nat.le_of_ble_eq_true rfl) (s_faults_t h19 (by omega) hf hp) ?_
      show RR _ _ 91 [some (.ref 146), none, none] [] (upd g 21 (nI p)) A _
      exact hk
theorem s_l57f {g : Nat → Int32} {A : Nat → Nat → Int32} {Q : Option Value → (Nat → Int32) → (Nat → Nat → Int32) → Prop} (hf : ¬ g 21 = -1) (hk : RR 23 191 69 [some (.ref 146), none, none] [] g A Q) : RR 23 191 57 [some (.ref 146), none, none] [] g A Q := by
  refine rr_nx (pc' := 58) (al' := [some (.ref 146), none, none]) (st' := [.ref 146]) d_191_57 (fun _ => rfl) ?_
  refine rn_ic (v := 5) d_191_58 (by decide) ?_
  refine rr_pv (as := [.int (nI 5)]) (al0 := [some (.ref 146), some (.int (nI 5)), none]) (r := []) d_191_59 mo_191 ml_163 mz_204 rfl rfl rfl (Nat.le_of_ble_eq_true rfl) (s_takes0_f hf) ?_
  show RR _ _ 62 [some (.ref 146), none, none] [.int (nI 0)] g A _
  refine rn_ieq (t := 69) d_191_62 (by decide) (by first | omega | assumption | exact cu_36 (by omega) (cu_lt (by omega) (by omega))) (fun c62 => ?_) (fun c62 => ?_)
  · exact hk
  · omega
theorem s_l57n {g : Nat → Int32} {A : Nat → Nat → Int32} {Q : Option Value → (Nat → Int32) → (Nat → Nat → Int32) → Prop} {j k : Nat} (hf : g 21 = -1) (h19 : g 19 = nI j) (hj : j ≤ 400) (hc : A 9 j = nI k) (hk4 : k < 400) (hk5 : ¬ k = 5) (hk : RR 23 191 69 [some (.ref 146), none, none] [] g A Q) : RR 23 191 57 [some (.ref 146), none, none] [] g A Q := by
  refine rr_nx (pc' := 58) (al' := [some (.ref 146), none, none]) (st' := [.ref 146]) d_191_57 (fun _ => rfl) ?_
  refine rn_ic (v := 5) d_191_58 (by decide) ?_
  refine rr_pv (as := [.int (nI 5)]) (al0 := [some (.ref 146), some (.int (nI 5)), none]) (r := []) d_191_59 mo_191 ml_163 mz_204 rfl rfl rfl (Nat.le_of_ble_eq_true rfl) (s_takes0_n h19 hj hf hc (by omega) (by decide) hk5) ?_
  show RR _ _ 62 [some (.ref 146), none, none] [.int (nI 0)] g A _
  refine rn_ieq (t := 69) d_191_62 (by decide) (by first | omega | assumption | exact cu_36 (by omega) (cu_lt (by omega) (by omega))) (fun c62 => ?_) (fun c62 => ?_)
  · exact hk
  · omega
theorem s_l57t {g : Nat → Int32} {A : Nat → Nat → Int32} {Q : Option Value → (Nat → Int32) → (Nat → Nat → Int32) → Prop} {j k : Nat} {q_ : Option Value → (Nat → Int32) → (Nat → Nat → Int32) → Prop} (hf : g 21 = -1) (h19 : g 19 = nI j) (hj : j ≤ 400) (hc : A 9 j = nI k) (hk5 : k = 5) (ih : RR 22 196 0 [some (.ref 146)] [] (upd g 19 (nI (j + 1))) A q_) (hk : ∀ v g' A', q_ v g' A' → v = none ∧ RR 23 191 69 [some (.ref 146), none, none] [] g' A' Q) : RR 23 191 57 [some (.ref 146), none, none] [] g A Q := by
  refine rr_nx (pc' := 58) (al' := [some (.ref 146), none, none]) (st' := [.ref 146]) d_191_57 (fun _ => rfl) ?_
  refine rn_ic (v := 5) d_191_58 (by decide) ?_
  refine rr_pv (as := [.int (nI 5)]) (al0 := [some (.ref 146), some (.int (nI 5)), none]) (r := []) d_191_59 mo_191 ml_163 mz_204 rfl rfl rfl (Nat.le_of_ble_eq_true rfl) (s_takes0_t h19 hj hf hc (by omega) (by decide) hk5) ?_
  show RR _ _ 62 [some (.ref 146), none, none] [.int (nI 1)] (upd g 19 (nI (j + 1))) A _
  refine rn_ieq (t := 69) d_191_62 (by decide) (by first | omega | assumption | exact cu_36 (by omega) (cu_lt (by omega) (by omega))) (fun c62 => ?_) (fun c62 => ?_)
  · omega
  · refine rr_nx (pc' := 66) (al' := [some (.ref 146), none, none]) (st' := [.ref 146]) d_191_65 (fun _ => rfl) ?_
    refine rr_cv (as := []) (al0 := [some (.ref 146)]) (r := []) d_191_66 mo_191 ml_192 mz_196 rfl rfl rfl (rr_wk (Nat.le_of_ble_eq_true rfl) (ih)) (fun v1 g1 A1 h1x => ?_)
    obtain ⟨q0_, hgo⟩ := hk v1 g1 A1 h1x
    obtain rfl := q0_
    show RR _ _ 69 [some (.ref 146), none, none] [] g1 A1 _
    exact hgo
theorem s_l53 {g : Nat → Int32} {A : Nat → Nat → Int32} {Q : Option Value → (Nat → Int32) → (Nat → Nat → Int32) → Prop} {cod plc : Nat → Nat} {N : Nat} (hT : TkA cod plc N A) (hg : FnG g (0, 0, [])) (h18 : g 18 = nI N) (hk : ∀ g', (∀ k, k ≠ 19 → k ≠ 21 → k ≠ 22 → g' k = g k) → ((lwR cod N 401).1 = true → g' 21 = -1) → ((lwR cod N 401).1 = false → g' 21 = nI (plc (lwR cod N 401).2.1)) → RR 23 191 91 [some (.ref 146), none, none] [] g' A Q) : RR 23 191 53 [some (.ref 146), none, none] [] g A Q := by
  refine rr_nx (pc' := 54) (al' := [some (.ref 146), none, none]) (st' := [.ref 146]) d_191_53 (fun _ => rfl) ?_
  refine rr_cv (as := []) (al0 := [some (.ref 146)]) (r := []) d_191_54 mo_191 ml_192 mz_196 rfl rfl rfl (rr_wk (Nat.le_of_ble_eq_true rfl) (s_readSide (F := 401) (by have := hT.1; omega) hT (s := (0, 0, [])) hg (Nat.zero_le _) (Nat.zero_le _))) (fun v1 g1 A1 h1x => ?_)
  obtain ⟨q0_, h1x⟩ := h1x
  obtain rfl := q0_
  show RR _ _ 57 [some (.ref 146), none, none] [] g1 A1 _
  obtain ⟨q1_, hg1, h19_, hy_, hn_⟩ := h1x
  obtain rfl := q1_.symm
  have hE : CdE cod N := hT.2.1
  obtain ⟨r, hr⟩ : ∃ r, sid cod 401 (0, 0, []) = r := ⟨_, rfl⟩
  obtain ⟨r2, hr2⟩ : ∃ r2, sid cod 401 (r.2.1 + 1, r.2.2.1, r.2.2.2) = r2 := ⟨_, rfl⟩
  rw [hr] at h19_ hy_ hn_
  have hok := sid_ok (F := 401) hE (0, 0, []) (Nat.zero_le _) (Nat.zero_le _)
  rw [hr] at hok
  obtain ⟨o1, o2, o3, o4, o5⟩ := hok
  have hN4 := hT.1
  have h18_ : g1 18 = nI N := (hg1 18 (by decide) (by decide) (by decide)).trans h18
  rw [lwR_w (N := N) hr hr2] at hk
  cases e1 : r.1
  · rw [if_neg (by rw [e1]; decide)] at hk
    have hb := hn_ e1
    have hp4 := (hT.2.2 r.2.1 o2).2.2.2
    have hf : ¬ g1 21 = -1 := fun e_ => nI_n1 (z := plc r.2.1) (by omega) (e_.symm.trans hb)
    exact s_l57f hf (s_l69b hf (hk g1 hg1 (fun e_ => absurd (show false = true from e_) (by decide)) (fun _ => hb)))
  · rw [if_pos e1] at hk
    obtain ⟨hf, h22_⟩ := hy_ e1
    obtain ⟨t1, t2, t3, t4⟩ := hT.2.2 r.2.1 o2
    by_cases e5 : cod r.2.1 = 5
    · rw [if_pos e5] at hk
      have hlt := cd_in hE o2 (by omega)
      refine s_l57t hf h19_ (by omega) t1 e5 (s_readSide (F := 401) (by omega) hT (s := (r.2.1 + 1, r.2.2.1, r.2.2.2)) ⟨by rw [pk_un (by decide)]; exact hf, pk_us, by rw [pk_un (by decide)]; exact h22_⟩ hlt o4) (fun v g2 A2 h2x => ?_)
      obtain ⟨u0, u1, hg2, h19b, hyb, hnb⟩ := h2x
      refine ⟨u0, ?_⟩
      obtain rfl := u1.symm
      rw [hr2] at h19b hyb hnb
      have hgg : ∀ k, k ≠ 19 → k ≠ 21 → k ≠ 22 → g2 k = g k := fun k b1 b2 b3 => ((hg2 k b1 b2 b3).trans (pk_un b1)).trans (hg1 k b1 b2 b3)
      have hok2 := sid_ok (F := 401) hE (r.2.1 + 1, r.2.2.1, r.2.2.2) hlt o4
      rw [hr2] at hok2
      obtain ⟨p1, p2, p3, p4, p5⟩ := hok2
      have h18b : g2 18 = nI N := (hgg 18 (by decide) (by decide) (by decide)).trans h18
      cases e2 : r2.1
      · rw [if_neg (by rw [e2]; decide)] at hk
        have hb := hnb e2
        have hp4 := (hT.2.2 r2.2.1 p2).2.2.2
        have hf2 : ¬ g2 21 = -1 := fun e_ => nI_n1 (z := plc r2.2.1) (by omega) (e_.symm.trans hb)
        exact s_l69b hf2 (hk g2 hgg (fun e_ => absurd (show false = true from e_) (by decide)) (fun _ => hb))
      · rw [if_pos e2] at hk
        obtain ⟨hf2, _⟩ := hyb e2
        by_cases ee : r2.2.1 = N
        · exact s_l69e hf2 (ee ▸ h19b) h18b hN4 (hk g2 hgg (fun _ => hf2) (fun e_ => absurd ee (of_decide_eq_false e_)))
        · refine s_l69f hf2 h19b h18b hN4 (by omega) (hT.2.2 r2.2.1 p2).2.1 (hk _ (fun k b1 b2 b3 => (pk_un b2).trans (hgg k b1 b2 b3)) (fun e_ => absurd (of_decide_eq_true e_) ee) (fun _ => pk_us))
    · rw [if_neg e5] at hk
      refine s_l57n hf h19_ (by omega) t1 t3 e5 ?_
      by_cases ee : r.2.1 = N
      · exact s_l69e hf (ee ▸ h19_) h18_ hN4 (hk g1 hg1 (fun _ => hf) (fun e_ => absurd ee (of_decide_eq_false e_)))
      · refine s_l69f hf h19_ h18_ hN4 (by omega) t2 (hk _ (fun k b1 b2 b3 => (pk_un b2).trans (hg1 k b1 b2 b3)) (fun e_ => absurd (of_decide_eq_true e_) ee) (fun _ => pk_us))
theorem lwR_le {cod : Nat → Nat} {N : Nat} (hE : CdE cod N) : (lwR cod N 401).2.1 ≤ N := by
  obtain ⟨r, hr⟩ : ∃ r, sid cod 401 (0, 0, []) = r := ⟨_, rfl⟩
  obtain ⟨r2, hr2⟩ : ∃ r2, sid cod 401 (r.2.1 + 1, r.2.2.1, r.2.2.2) = r2 := ⟨_, rfl⟩
  rw [lwR_w (N := N) hr hr2]
  have hok := sid_ok (F := 401) hE (0, 0, []) (Nat.zero_le _) (Nat.zero_le _)
  rw [hr] at hok
  obtain ⟨o1, o2, o3, o4, o5⟩ := hok
  split
  · split
    · have hlt := cd_in hE o2 (by omega)
      have hok2 := sid_ok (F := 401) hE (r.2.1 + 1, r.2.2.1, r.2.2.2) hlt o4
      rw [hr2] at hok2
      split
      · exact hok2.2.1
      · exact hok2.2.1
    · exact o2
  · exact o2
theorem WR.lww {n : Nat} {g g' : Nat → Int32} {A : Nat → Nat → Int32} {W W0 : WS} {f' : Nat → Int32} {cod : Nat → Nat} {N : Nat} (h : WR n g A W0) (hn : n ≤ 100000) (h8 : kL (wK W) < 8) (hO : CoOk (wK W)) (hN : N ≤ 400) (hf : ∀ i, i < 2509 ∨ (2509 < i ∧ i < 2512 + kL (wK W)) ∨ (2520 ≤ i ∧ i < 2520 + 400 * kL (wK W)) → f' i = A 1 i) (hk : f' 2509 = nI (kL (wK W) + 1)) (hs : f' (2512 + kL (wK W)) = nI N) (hc : ∀ j, j < N → f' (2520 + (400 * kL (wK W) + j)) = nI (cod j)) (hg : g' = upd (upd g 0 (nI 0)) 1 (g 1 + nI 1)) (hW0 : W0 = ftW (enW W 0) (-1)) : WR (n + 1) g' (rf_u A 1 f') (lwW W cod N) := by
  subst hW0
  have h1 : CoR (A 1) (wK W) := h.1
  have hS6 := hO.2.2.2.1
  have h36 := Nat.mul_le_mul hS6 hS6
  have ht := hO.1.2.1
  have hd := hO.1.1
  refine h.ky hn ⟨⟨fun j hj => (h1.1.1 j hj).cg (fun k hk => hf _ (by omega)) (tb_ok hO hj).1, fun i hi => ?_, by rw [hf _ (by omega)]; exact h1.1.2.2.1, by rw [hf _ (by omega)]; exact h1.1.2.2.2⟩, hk, fun l hl => ?_, by rw [hf _ (by omega)]; exact h1.2.2.2.1, fun q hq => ?_⟩ hg rfl rfl rfl rfl rfl rfl rfl
  · have hi : i < kT (wK W) := hi
    obtain ⟨p1, p2, p3⟩ := h1.1.2.1 i hi
    have hc2 := (hO.1.2.2.2 i hi).1
    exact ⟨by rw [hf _ (by omega)]; exact p1, p2.cg (fun k hk => hf _ (by omega)) (hO.1.2.2.1 i _ (by omega) hc2).1, p3.cg (fun k hk => hf _ (by omega)) (hO.1.2.2.1 (i + 1) _ (by omega) hc2).1⟩
  · have hl : l < kL (wK W) + 1 := hl
    show f' (2512 + l) = nI (if l = kL (wK W) then N else kN (wK W) l) ∧ ∀ j, j < (if l = kL (wK W) then N else kN (wK W) l) → f' (2520 + (400 * l + j)) = nI ((if l = kL (wK W) then cod else kW (wK W) l) j)
    by_cases e : l = kL (wK W)
    · rw [if_pos e, if_pos e, e]
      exact ⟨hs, hc⟩
    · rw [if_neg e, if_neg e]
      have h2 := h1.2.2.1 l (by omega)
      have h3 := (hO.2.2.1 l (by omega)).1
      exact ⟨by rw [hf _ (by omega)]; exact h2.1, fun j hj => by rw [hf _ (by omega)]; exact h2.2 j hj⟩
  · have hq : q < kS (wK W) * kS (wK W) := hq
    rw [hf _ (by omega)]
    exact h1.2.2.2.2 q hq
theorem r_law_f8 {g : Nat → Int32} {A : Nat → Nat → Int32} {n : Nat} {W : WS} (hW : WR n g A W) (hO : CoOk (wK W)) (h8 : kL (wK W) = 8) : RR 80 191 0 [some (.ref 146), none, none] [] g A (fun r g' A' => r = some (.int (-5)) ∧ WR (n + 1) g' A' (refW (enW W 0) (-5) 5)) := by
  refine rr_nx (pc' := 1) (al' := [some (.ref 146), none, none]) (st' := [.ref 146]) d_191_0 (fun _ => rfl) ?_
  refine rr_gf (v := .ref (147 + 1)) d_191_1 mo_191 fl_13 rfl ?_
  refine rn_sp (v := 2509) d_191_4 (by decide) ?_
  refine rr_ia (j := 1) (v := (nI (kL (wK W)))) d_191_7 (by decide) rfl (by decide) (show 2509 < 5720 by first | omega | assumption | exact cu_36 (by omega) (cu_lt (by omega) (by omega))) hW.1.2.1 ?_
  refine rn_bp (v := 8) d_191_8 (by decide) ?_
  refine rn_cne (t := 25) d_191_10 (by decide) (by omega) (by decide) (fun c10 => ?_) (fun c10 => ?_)
  · omega
  · refine rr_nx (pc' := 14) (al' := [some (.ref 146), none, none]) (st' := [.ref 146]) d_191_13 (fun _ => rfl) ?_
    refine rn_ic (v := 0) d_191_14 (by decide) ?_
    refine rp_13 d_191_15 mo_191 fl_137  ?_
    refine rr_nx (pc' := 19) (al' := [some (.ref 146), none, none]) (st' := [.ref 146]) d_191_18 (fun _ => rfl) ?_
    refine rr_nx (pc' := 21) (al' := [some (.ref 146), none, none]) (st' := [.int (-5), .ref 146]) d_191_19 (fun _ => rfl) ?_
    refine rr_pv (as := [.int (-5)]) (al0 := [some (.ref 146), some (.int (-5))]) (r := []) d_191_21 mo_191 ml_110 mz_180 rfl rfl rfl (Nat.le_of_ble_eq_true rfl) (s_refuses (e := 5) (by decide) (by decide)) ?_
    show RR _ _ 24 [some (.ref 146), none, none] [.int (-5)] (upd (upd g 13 (nI 0)) 0 (-5)) (rf_u A 0 (upd (A 0) 5 (A 0 5 + nI 1))) _
    exact rr_ri d_191_24 mr_191 rfl ⟨rfl, ((hW.en (Nat.zero_le _)).rf (by decide)).mo⟩
theorem r_law_f {g : Nat → Int32} {A : Nat → Nat → Int32} {n : Nat} {W : WS} (hW : WR n g A W) (hO : CoOk (wK W)) (h8 : kL (wK W) < 8) (hrd : (lwR (tkC (wT W) (wL W)) (tkN (wT W) (wL W)) 401).1 = false) (hT : wL W ≤ 400 ∧ ∀ i, i < wL W → wT W i < 256) : RR 80 191 0 [some (.ref 146), none, none] [] g A (fun r g' A' => r = some (.int (-6)) ∧ WR (n + 1) g' A' (refW (ftW (enW W 0) (nI (tkP (wT W) (wL W) (lwR (tkC (wT W) (wL W)) (tkN (wT W) (wL W)) 401).2.1))) (-6) 6)) := by
  refine rr_nx (pc' := 1) (al' := [some (.ref 146), none, none]) (st' := [.ref 146]) d_191_0 (fun _ => rfl) ?_
  refine rr_gf (v := .ref (147 + 1)) d_191_1 mo_191 fl_13 rfl ?_
  refine rn_sp (v := 2509) d_191_4 (by decide) ?_
  refine rr_ia (j := 1) (v := (nI (kL (wK W)))) d_191_7 (by decide) rfl (by decide) (show 2509 < 5720 by first | omega | assumption | exact cu_36 (by omega) (cu_lt (by omega) (by omega))) hW.1.2.1 ?_
  refine rn_bp (v := 8) d_191_8 (by decide) ?_
  refine rn_cne (t := 25) d_191_10 (by decide) (by omega) (by decide) (fun c10 => ?_) (fun c10 => ?_)
  · refine rr_nx (pc' := 26) (al' := [some (.ref 146), none, none]) (st' := [.ref 146]) d_191_25 (fun _ => rfl) ?_
    refine rr_nx (pc' := 27) (al' := [some (.ref 146), none, none]) (st' := [.ref 146, .ref 146]) d_191_26 (fun _ => rfl) ?_
    refine rr_gn d_191_27 mo_191 fl_137 rfl hW.2.2.2.1.1 ?_
    refine rr_cv (as := [.int (nI (wL W))]) (al0 := [some (.ref 146), some (.int (nI (wL W))), none, none, none, none]) (r := []) d_191_30 mo_191 ml_189 mz_192 rfl rfl rfl (rr_wk (Nat.le_of_ble_eq_true rfl) (s_splits (t := wT W) hW.2.2.1 hT.1 hW.2.2.2.1.2 hT.2)) (fun v1 g1 A1 h1x => ?_)
    obtain ⟨q0_, hTk, h18, hg1, hA1⟩ := h1x
    obtain rfl := q0_
    have hN4 := hTk.1
    show RR _ _ 33 [some (.ref 146), none, none] [] g1 A1 _
    refine rr_nx (pc' := 34) (al' := [some (.ref 146), none, none]) (st' := [.ref 146]) d_191_33 (fun _ => rfl) ?_
    refine rn_ic (v := 0) d_191_34 (by decide) ?_
    refine rp_13 d_191_35 mo_191 fl_137  ?_
    refine rr_nx (pc' := 39) (al' := [some (.ref 146), none, none]) (st' := [.ref 146]) d_191_38 (fun _ => rfl) ?_
    refine rn_ic (v := 0) d_191_39 (by decide) ?_
    refine rp_19 d_191_40 mo_191 fl_160  ?_
    refine rr_nx (pc' := 44) (al' := [some (.ref 146), none, none]) (st' := [.ref 146]) d_191_43 (fun _ => rfl) ?_
    refine rn_ic (v := 0) d_191_44 (by decide) ?_
    refine rp_22 d_191_45 mo_191 fl_186  ?_
    refine rr_nx (pc' := 49) (al' := [some (.ref 146), none, none]) (st' := [.ref 146]) d_191_48 (fun _ => rfl) ?_
    refine rr_nx (pc' := 50) (al' := [some (.ref 146), none, none]) (st' := [.int (-1), .ref 146]) d_191_49 (fun _ => rfl) ?_
    refine rp_21 d_191_50 mo_191 fl_153  ?_
    refine rr_wk (show 23 ≤ 80 by decide) ?_
    refine s_l53 hTk ⟨pk_us, by rw [pk_un (by decide), pk_un (by decide)]; exact pk_us, by rw [pk_un (by decide)]; exact pk_us⟩ (by rw [pk_un (by decide), pk_un (by decide), pk_un (by decide), pk_un (by decide)]; exact h18) (fun g2 hg2 ht2 hf2 => ?_)
    have hgk : ∀ k, k ≠ 19 → k ≠ 21 → k ≠ 22 → k ≠ 18 → k ≠ 13 → g2 k = g k := fun k b1 b2 b3 b4 b5 => by rw [hg2 k b1 b2 b3, pk_un b2, pk_un b3, pk_un b1, pk_un b5, hg1 k b4]
    have h13 : g2 13 = nI 0 := by rw [hg2 13 (by decide) (by decide) (by decide), pk_un (by decide), pk_un (by decide), pk_un (by decide), pk_us]
    have h18b : g2 18 = nI (tkN (wT W) (wL W)) := by rw [hg2 18 (by decide) (by decide) (by decide), pk_un (by decide), pk_un (by decide), pk_un (by decide), pk_un (by decide), h18]
    have hWz : WR n (upd g2 14 (g2 21)) A1 (ftW (enW W 0) (nI (tkP (wT W) (wL W) (lwR (tkC (wT W) (wL W)) (tkN (wT W) (wL W)) 401).2.1))) := hW.tf (fun k b1 b2 b3 => by rw [pk_un b3]; exact hgk k (fun e_ => by rw [e_] at b1; exact absurd b1 (by decide)) (fun e_ => by rw [e_] at b1; exact absurd b1 (by decide)) (fun e_ => by rw [e_] at b1; exact absurd b1 (by decide)) (fun e_ => by rw [e_] at b1; exact absurd b1 (by decide)) b2) ((pk_un (by decide)).trans h13) (Nat.zero_le _) (pk_us.trans (hf2 hrd)) hA1
    show RR _ _ 91 [some (.ref 146), none, none] [] g2 A1 _
    refine rr_nx (pc' := 92) (al' := [some (.ref 146), none, none]) (st' := [.ref 146]) d_191_91 (fun _ => rfl) ?_
    refine rr_nx (pc' := 93) (al' := [some (.ref 146), none, none]) (st' := [.ref 146, .ref 146]) d_191_92 (fun _ => rfl) ?_
    refine rr_gf (v := .int (g2 21)) d_191_93 mo_191 fl_153 rfl ?_
    refine rp_14 d_191_96 mo_191 fl_39  ?_
    refine rr_nx (pc' := 100) (al' := [some (.ref 146), none, none]) (st' := [.ref 146]) d_191_99 (fun _ => rfl) ?_
    refine rr_pv (as := []) (al0 := [some (.ref 146)]) (r := []) d_191_100 mo_191 ml_156 mz_200 rfl rfl rfl (Nat.le_of_ble_eq_true rfl) (s_fine) ?_
    show RR _ _ 103 [some (.ref 146), none, none] [.int (bI ((upd g2 14 (g2 21)) 21 = -1))] (upd g2 14 (g2 21)) A1 _
    refine rr_bne (t := 113) d_191_103 (by decide) (fun c103 => ?_) (fun c103 => ?_)
    · exact absurd ((pk_un (by decide)).symm.trans c103) (fun e_ => nI_n1 (z := tkP (wT W) (wL W) (lwR (tkC (wT W) (wL W)) (tkN (wT W) (wL W)) 401).2.1) (by have := (hTk.2.2 (lwR (tkC (wT W) (wL W)) (tkN (wT W) (wL W)) 401).2.1 (lwR_le hTk.2.1)).2.2.2; omega) (e_.symm.trans (hf2 hrd)))
    · refine rr_nx (pc' := 107) (al' := [some (.ref 146), none, none]) (st' := [.ref 146]) d_191_106 (fun _ => rfl) ?_
      refine rr_nx (pc' := 109) (al' := [some (.ref 146), none, none]) (st' := [.int (-6), .ref 146]) d_191_107 (fun _ => rfl) ?_
      refine rr_pv (as := [.int (-6)]) (al0 := [some (.ref 146), some (.int (-6))]) (r := []) d_191_109 mo_191 ml_110 mz_180 rfl rfl rfl (Nat.le_of_ble_eq_true rfl) (s_refuses (e := 6) (by decide) (by decide)) ?_
      show RR _ _ 112 [some (.ref 146), none, none] [.int (-6)] (upd (upd g2 14 (g2 21)) 0 (-6)) (rf_u A1 0 (upd (A1 0) 6 (A1 0 6 + nI 1))) _
      exact rr_ri d_191_112 mr_191 rfl ⟨rfl, (hWz.rf (by decide)).mo⟩
  · omega
theorem r_law_y {g : Nat → Int32} {A : Nat → Nat → Int32} {n : Nat} {W : WS} (hW : WR n g A W) (hO : CoOk (wK W)) (h8 : kL (wK W) < 8) (hrd : (lwR (tkC (wT W) (wL W)) (tkN (wT W) (wL W)) 401).1 = true) (hT : wL W ≤ 400 ∧ ∀ i, i < wL W → wT W i < 256) (hn5 : n ≤ 10000) : RR 80 191 0 [some (.ref 146), none, none] [] g A (fun r g' A' => r = some (.int (nI (kL (wK W)))) ∧ WR (n + 1) g' A' (lwW W (tkC (wT W) (wL W)) (tkN (wT W) (wL W)))) := by
  refine rr_nx (pc' := 1) (al' := [some (.ref 146), none, none]) (st' := [.ref 146]) d_191_0 (fun _ => rfl) ?_
  refine rr_gf (v := .ref (147 + 1)) d_191_1 mo_191 fl_13 rfl ?_
  refine rn_sp (v := 2509) d_191_4 (by decide) ?_
  refine rr_ia (j := 1) (v := (nI (kL (wK W)))) d_191_7 (by decide) rfl (by decide) (show 2509 < 5720 by first | omega | assumption | exact cu_36 (by omega) (cu_lt (by omega) (by omega))) hW.1.2.1 ?_
  refine rn_bp (v := 8) d_191_8 (by decide) ?_
  refine rn_cne (t := 25) d_191_10 (by decide) (by omega) (by decide) (fun c10 => ?_) (fun c10 => ?_)
  · refine rr_nx (pc' := 26) (al' := [some (.ref 146), none, none]) (st' := [.ref 146]) d_191_25 (fun _ => rfl) ?_
    refine rr_nx (pc' := 27) (al' := [some (.ref 146), none, none]) (st' := [.ref 146, .ref 146]) d_191_26 (fun _ => rfl) ?_
    refine rr_gn d_191_27 mo_191 fl_137 rfl hW.2.2.2.1.1 ?_
    refine rr_cv (as := [.int (nI (wL W))]) (al0 := [some (.ref 146), some (.int (nI (wL W))), none, none, none, none]) (r := []) d_191_30 mo_191 ml_189 mz_192 rfl rfl rfl (rr_wk (Nat.le_of_ble_eq_true rfl) (s_splits (t := wT W) hW.2.2.1 hT.1 hW.2.2.2.1.2 hT.2)) (fun v1 g1 A1 h1x => ?_)
    obtain ⟨q0_, hTk, h18, hg1, hA1⟩ := h1x
    obtain rfl := q0_
    have hN4 := hTk.1
    show RR _ _ 33 [some (.ref 146), none, none] [] g1 A1 _
    refine rr_nx (pc' := 34) (al' := [some (.ref 146), none, none]) (st' := [.ref 146]) d_191_33 (fun _ => rfl) ?_
    refine rn_ic (v := 0) d_191_34 (by decide) ?_
    refine rp_13 d_191_35 mo_191 fl_137  ?_
    refine rr_nx (pc' := 39) (al' := [some (.ref 146), none, none]) (st' := [.ref 146]) d_191_38 (fun _ => rfl) ?_
    refine rn_ic (v := 0) d_191_39 (by decide) ?_
    refine rp_19 d_191_40 mo_191 fl_160  ?_
    refine rr_nx (pc' := 44) (al' := [some (.ref 146), none, none]) (st' := [.ref 146]) d_191_43 (fun _ => rfl) ?_
    refine rn_ic (v := 0) d_191_44 (by decide) ?_
    refine rp_22 d_191_45 mo_191 fl_186  ?_
    refine rr_nx (pc' := 49) (al' := [some (.ref 146), none, none]) (st' := [.ref 146]) d_191_48 (fun _ => rfl) ?_
    refine rr_nx (pc' := 50) (al' := [some (.ref 146), none, none]) (st' := [.int (-1), .ref 146]) d_191_49 (fun _ => rfl) ?_
    refine rp_21 d_191_50 mo_191 fl_153  ?_
    refine rr_wk (show 23 ≤ 80 by decide) ?_
    refine s_l53 hTk ⟨pk_us, by rw [pk_un (by decide), pk_un (by decide)]; exact pk_us, by rw [pk_un (by decide)]; exact pk_us⟩ (by rw [pk_un (by decide), pk_un (by decide), pk_un (by decide), pk_un (by decide)]; exact h18) (fun g2 hg2 ht2 hf2 => ?_)
    have hgk : ∀ k, k ≠ 19 → k ≠ 21 → k ≠ 22 → k ≠ 18 → k ≠ 13 → g2 k = g k := fun k b1 b2 b3 b4 b5 => by rw [hg2 k b1 b2 b3, pk_un b2, pk_un b3, pk_un b1, pk_un b5, hg1 k b4]
    have h13 : g2 13 = nI 0 := by rw [hg2 13 (by decide) (by decide) (by decide), pk_un (by decide), pk_un (by decide), pk_un (by decide), pk_us]
    have h18b : g2 18 = nI (tkN (wT W) (wL W)) := by rw [hg2 18 (by decide) (by decide) (by decide), pk_un (by decide), pk_un (by decide), pk_un (by decide), pk_un (by decide), h18]
    have hWz : WR n (upd g2 14 (g2 21)) A1 (ftW (enW W 0) (-1)) := hW.tf (fun k b1 b2 b3 => by rw [pk_un b3]; exact hgk k (fun e_ => by rw [e_] at b1; exact absurd b1 (by decide)) (fun e_ => by rw [e_] at b1; exact absurd b1 (by decide)) (fun e_ => by rw [e_] at b1; exact absurd b1 (by decide)) (fun e_ => by rw [e_] at b1; exact absurd b1 (by decide)) b2) ((pk_un (by decide)).trans h13) (Nat.zero_le _) (pk_us.trans (ht2 hrd)) hA1
    show RR _ _ 91 [some (.ref 146), none, none] [] g2 A1 _
    refine rr_nx (pc' := 92) (al' := [some (.ref 146), none, none]) (st' := [.ref 146]) d_191_91 (fun _ => rfl) ?_
    refine rr_nx (pc' := 93) (al' := [some (.ref 146), none, none]) (st' := [.ref 146, .ref 146]) d_191_92 (fun _ => rfl) ?_
    refine rr_gf (v := .int (g2 21)) d_191_93 mo_191 fl_153 rfl ?_
    refine rp_14 d_191_96 mo_191 fl_39  ?_
    refine rr_nx (pc' := 100) (al' := [some (.ref 146), none, none]) (st' := [.ref 146]) d_191_99 (fun _ => rfl) ?_
    refine rr_pv (as := []) (al0 := [some (.ref 146)]) (r := []) d_191_100 mo_191 ml_156 mz_200 rfl rfl rfl (Nat.le_of_ble_eq_true rfl) (s_fine) ?_
    show RR _ _ 103 [some (.ref 146), none, none] [.int (bI ((upd g2 14 (g2 21)) 21 = -1))] (upd g2 14 (g2 21)) A1 _
    refine rr_bne (t := 113) d_191_103 (by decide) (fun c103 => ?_) (fun c103 => ?_)
    · refine rr_nx (pc' := 114) (al' := [some (.ref 146), none, none]) (st' := [.ref 146]) d_191_113 (fun _ => rfl) ?_
      refine rr_gf (v := .ref (147 + 1)) d_191_114 mo_191 fl_13 rfl ?_
      refine rn_sp (v := 2509) d_191_117 (by decide) ?_
      refine rr_ia (j := 1) (v := (nI (kL (wK W)))) d_191_120 (by decide) rfl (by decide) (show 2509 < 5720 by first | omega | assumption | exact cu_36 (by omega) (cu_lt (by omega) (by omega))) ((congrFun (hA1 1 rfl) _).trans hW.1.2.1) ?_
      refine rr_nx (pc' := 122) (al' := [some (.ref 146), some (.int (nI (kL (wK W)))), none]) (st' := []) d_191_121 (fun _ => rfl) ?_
      refine rr_nx (pc' := 123) (al' := [some (.ref 146), some (.int (nI (kL (wK W)))), none]) (st' := [.ref 146]) d_191_122 (fun _ => rfl) ?_
      refine rr_gf (v := .ref (147 + 1)) d_191_123 mo_191 fl_13 rfl ?_
      refine rn_sp (v := 2512) d_191_126 (by decide) ?_
      refine rr_nx (pc' := 130) (al' := [some (.ref 146), some (.int (nI (kL (wK W)))), none]) (st' := [.int (nI (kL (wK W))), .int (nI 2512), .ref (147 + 1)]) d_191_129 (fun _ => rfl) ?_
      refine rn_add d_191_130  ?_
      refine rr_nx (pc' := 132) (al' := [some (.ref 146), some (.int (nI (kL (wK W)))), none]) (st' := [.ref 146, .int (nI (2512 + (kL (wK W)))), .ref (147 + 1)]) d_191_131 (fun _ => rfl) ?_
      refine rr_gf (v := .int (g2 18)) d_191_132 mo_191 fl_140 rfl ?_
      refine rr_tp (z := nI (tkN (wT W) (wL W))) h18b ?_
      refine rr_iS (j := 1) (A1 := (rf_u A1 1 (upd (A1 1) (2512 + (kL (wK W))) (nI (tkN (wT W) (wL W)))))) d_191_135 (by decide) rfl (by decide) (show 2512 + (kL (wK W)) < 5720 by omega) rfl ?_
      refine rn_ic (v := 0) d_191_136 (by decide) ?_
      refine rr_nx (pc' := 138) (al' := [some (.ref 146), some (.int (nI (kL (wK W)))), some (.int (nI 0))]) (st' := []) d_191_137 (fun _ => rfl) ?_
      refine rr_A (show (rf_u A1 1 (upd (A1 1) (2512 + (kL (wK W))) (nI (tkN (wT W) (wL W))))) = (rf_u A1 1 (pasF (upd (A1 1) (2512 + kL (wK W)) (nI (tkN (wT W) (wL W)))) (2520 + 400 * kL (wK W)) (fun q => nI ((tkC (wT W) (wL W)) q)) 0)) by rw [pasF_0]) ?_
      refine rr_up (al := fun i => [some (.ref 146), some (.int (nI (kL (wK W)))), some (.int (nI i))]) (G := fun i => (upd g2 14 (g2 21))) (B := fun i => (rf_u A1 1 (pasF (upd (A1 1) (2512 + kL (wK W)) (nI (tkN (wT W) (wL W)))) (2520 + 400 * kL (wK W)) (fun q => nI ((tkC (wT W) (wL W)) q)) i))) (P := fun i => True) (n := (tkN (wT W) (wL W))) (fun i hi pi ihi => ?_) (fun pi => ?_) 0  (by omega) (trivial)
      · show RR _ _ 138 [some (.ref 146), some (.int (nI (kL (wK W)))), some (.int (nI i))] [] (upd g2 14 (g2 21)) (rf_u A1 1 (pasF (upd (A1 1) (2512 + kL (wK W)) (nI (tkN (wT W) (wL W)))) (2520 + 400 * kL (wK W)) (fun q => nI ((tkC (wT W) (wL W)) q)) i)) _
        refine rr_nx (pc' := 139) (al' := [some (.ref 146), some (.int (nI (kL (wK W)))), some (.int (nI i))]) (st' := [.int (nI i)]) d_191_138 (fun _ => rfl) ?_
        refine rr_nx (pc' := 140) (al' := [some (.ref 146), some (.int (nI (kL (wK W)))), some (.int (nI i))]) (st' := [.ref 146, .int (nI i)]) d_191_139 (fun _ => rfl) ?_
        refine rr_gf (v := .int (g2 18)) d_191_140 mo_191 fl_140 rfl ?_
        refine rr_tp (z := nI (tkN (wT W) (wL W))) h18b ?_
        refine rn_cge (t := 174) d_191_143 (by decide) (by omega) (by omega) (fun c143 => ?_) (fun c143 => ?_)
        · omega
        · refine rr_nx (pc' := 147) (al' := [some (.ref 146), some (.int (nI (kL (wK W)))), some (.int (nI i))]) (st' := [.ref 146]) d_191_146 (fun _ => rfl) ?_
          refine rr_gf (v := .ref (147 + 1)) d_191_147 mo_191 fl_13 rfl ?_
          refine rn_sp (v := 2520) d_191_150 (by decide) ?_
          refine rn_sp (v := 400) d_191_153 (by decide) ?_
          refine rr_nx (pc' := 157) (al' := [some (.ref 146), some (.int (nI (kL (wK W)))), some (.int (nI i))]) (st' := [.int (nI (kL (wK W))), .int (nI 400), .int (nI 2520), .ref (147 + 1)]) d_191_156 (fun _ => rfl) ?_
          refine rn_mul d_191_157  ?_
          refine rn_add d_191_158  ?_
          refine rr_nx (pc' := 160) (al' := [some (.ref 146), some (.int (nI (kL (wK W)))), some (.int (nI i))]) (st' := [.int (nI i), .int (nI (2520 + (400 * (kL (wK W))))), .ref (147 + 1)]) d_191_159 (fun _ => rfl) ?_
          refine rn_add d_191_160  ?_
          refine rr_nx (pc' := 162) (al' := [some (.ref 146), some (.int (nI (kL (wK W)))), some (.int (nI i))]) (st' := [.ref 146, .int (nI ((2520 + (400 * (kL (wK W)))) + i)), .ref (147 + 1)]) d_191_161 (fun _ => rfl) ?_
          refine rr_gf (v := .ref (147 + 9)) d_191_162 mo_191 fl_43 rfl ?_
          refine rr_nx (pc' := 166) (al' := [some (.ref 146), some (.int (nI (kL (wK W)))), some (.int (nI i))]) (st' := [.int (nI i), .ref (147 + 9), .int (nI ((2520 + (400 * (kL (wK W)))) + i)), .ref (147 + 1)]) d_191_165 (fun _ => rfl) ?_
          refine rr_ia (j := 9) (v := (nI ((tkC (wT W) (wL W)) i))) d_191_166 (by decide) rfl (by decide) (show i < 401 by omega) ((congrFun (rf_u_n (by decide)) _).trans (hTk.2.2 i (by omega)).1) ?_
          refine rr_iS (j := 1) (A1 := (rf_u A1 1 (upd (pasF (upd (A1 1) (2512 + kL (wK W)) (nI (tkN (wT W) (wL W)))) (2520 + 400 * kL (wK W)) (fun q => nI ((tkC (wT W) (wL W)) q)) i) ((2520 + (400 * (kL (wK W)))) + i) (nI ((tkC (wT W) (wL W)) i))))) d_191_167 (by decide) rfl (by decide) (show (2520 + (400 * (kL (wK W)))) + i < 5720 by omega) rf_uw ?_
          refine rn_inc d_191_168 rfl rfl ?_
          show RR _ _ 171 [some (.ref 146), some (.int (nI (kL (wK W)))), some (.int (nI (i + 1)))] [] (upd g2 14 (g2 21)) (rf_u A1 1 (upd (pasF (upd (A1 1) (2512 + kL (wK W)) (nI (tkN (wT W) (wL W)))) (2520 + 400 * kL (wK W)) (fun q => nI ((tkC (wT W) (wL W)) q)) i) ((2520 + (400 * (kL (wK W)))) + i) (nI ((tkC (wT W) (wL W)) i)))) _
          refine rr_nx (pc' := 138) (al' := [some (.ref 146), some (.int (nI (kL (wK W)))), some (.int (nI (i + 1)))]) (st' := []) d_191_171 (fun _ => rfl) ?_
          refine rr_A (show (rf_u A1 1 (upd (pasF (upd (A1 1) (2512 + kL (wK W)) (nI (tkN (wT W) (wL W)))) (2520 + 400 * kL (wK W)) (fun q => nI ((tkC (wT W) (wL W)) q)) i) ((2520 + (400 * (kL (wK W)))) + i) (nI ((tkC (wT W) (wL W)) i)))) = (rf_u A1 1 (pasF (upd (A1 1) (2512 + kL (wK W)) (nI (tkN (wT W) (wL W)))) (2520 + 400 * kL (wK W)) (fun q => nI ((tkC (wT W) (wL W)) q)) (i + 1))) by exact congrArg (rf_u A1 1) (pasF_s (v := fun q => nI ((tkC (wT W) (wL W)) q)))) ?_
          exact ihi  (trivial)
      · show RR _ _ 138 [some (.ref 146), some (.int (nI (kL (wK W)))), some (.int (nI (tkN (wT W) (wL W))))] [] (upd g2 14 (g2 21)) (rf_u A1 1 (pasF (upd (A1 1) (2512 + kL (wK W)) (nI (tkN (wT W) (wL W)))) (2520 + 400 * kL (wK W)) (fun q => nI ((tkC (wT W) (wL W)) q)) (tkN (wT W) (wL W)))) _
        refine rr_nx (pc' := 139) (al' := [some (.ref 146), some (.int (nI (kL (wK W)))), some (.int (nI (tkN (wT W) (wL W))))]) (st' := [.int (nI (tkN (wT W) (wL W)))]) d_191_138 (fun _ => rfl) ?_
        refine rr_nx (pc' := 140) (al' := [some (.ref 146), some (.int (nI (kL (wK W)))), some (.int (nI (tkN (wT W) (wL W))))]) (st' := [.ref 146, .int (nI (tkN (wT W) (wL W)))]) d_191_139 (fun _ => rfl) ?_
        refine rr_gf (v := .int (g2 18)) d_191_140 mo_191 fl_140 rfl ?_
        refine rr_tp (z := nI (tkN (wT W) (wL W))) h18b ?_
        refine rn_cge (t := 174) d_191_143 (by decide) (by omega) (by omega) (fun c143 => ?_) (fun c143 => ?_)
        · refine rr_nx (pc' := 175) (al' := [some (.ref 146), some (.int (nI (kL (wK W)))), some (.int (nI (tkN (wT W) (wL W))))]) (st' := [.ref 146]) d_191_174 (fun _ => rfl) ?_
          refine rr_gf (v := .ref (147 + 1)) d_191_175 mo_191 fl_13 rfl ?_
          refine rn_sp (v := 2509) d_191_178 (by decide) ?_
          refine rr_nx (pc' := 182) (al' := [some (.ref 146), some (.int (nI (kL (wK W)))), some (.int (nI (tkN (wT W) (wL W))))]) (st' := [.int (nI 2509), .ref (147 + 1), .int (nI 2509), .ref (147 + 1)]) d_191_181 (fun _ => rfl) ?_
          refine rr_ia (j := 1) (v := (nI (kL (wK W)))) d_191_182 (by decide) rfl (by decide) (show 2509 < 5720 by first | omega | assumption | exact cu_36 (by omega) (cu_lt (by omega) (by omega))) (by rw [rf_u_s, pasF_out (by omega), pk_un (by omega)]; exact (congrFun (hA1 1 rfl) _).trans hW.1.2.1) ?_
          refine rn_ic (v := 1) d_191_183 (by decide) ?_
          refine rn_add d_191_184  ?_
          refine rr_iS (j := 1) (A1 := (rf_u A1 1 (upd (pasF (upd (A1 1) (2512 + kL (wK W)) (nI (tkN (wT W) (wL W)))) (2520 + 400 * kL (wK W)) (fun q => nI ((tkC (wT W) (wL W)) q)) (tkN (wT W) (wL W))) 2509 (nI ((kL (wK W)) + 1))))) d_191_185 (by decide) rfl (by decide) (show 2509 < 5720 by first | omega | assumption | exact cu_36 (by omega) (cu_lt (by omega) (by omega))) rf_uw ?_
          refine rr_nx (pc' := 187) (al' := [some (.ref 146), some (.int (nI (kL (wK W)))), some (.int (nI (tkN (wT W) (wL W))))]) (st' := [.ref 146]) d_191_186 (fun _ => rfl) ?_
          refine rr_nx (pc' := 188) (al' := [some (.ref 146), some (.int (nI (kL (wK W)))), some (.int (nI (tkN (wT W) (wL W))))]) (st' := [.int (nI (kL (wK W))), .ref 146]) d_191_187 (fun _ => rfl) ?_
          refine rr_pv (as := [.int (nI (kL (wK W)))]) (al0 := [some (.ref 146), some (.int (nI (kL (wK W))))]) (r := []) d_191_188 mo_191 ml_114 mz_181 rfl rfl rfl (Nat.le_of_ble_eq_true rfl) (s_good _) ?_
          show RR _ _ 191 [some (.ref 146), some (.int (nI (kL (wK W)))), some (.int (nI (tkN (wT W) (wL W))))] [.int (nI (kL (wK W)))] (upd (upd (upd g2 14 (g2 21)) 0 (nI 0)) 1 ((upd g2 14 (g2 21)) 1 + nI 1)) (rf_u A1 1 (upd (pasF (upd (A1 1) (2512 + kL (wK W)) (nI (tkN (wT W) (wL W)))) (2520 + 400 * kL (wK W)) (fun q => nI ((tkC (wT W) (wL W)) q)) (tkN (wT W) (wL W))) 2509 (nI ((kL (wK W)) + 1)))) _
          exact rr_ri d_191_191 mr_191 rfl ⟨rfl, hWz.lww (by omega) h8 hO hN4 (fun i hi => by rw [pk_un (by omega)]; rcases hi with hi | hi | hi <;> (rw [pasF_out (by omega), pk_un (by omega)])) (by rw [pk_us]) (by rw [pk_un (by omega), pasF_out (by omega), pk_us]) (fun j hj => by rw [pk_un (by omega), show 2520 + (400 * kL (wK W) + j) = 2520 + 400 * kL (wK W) + j by omega, pasF_in hj]) rfl rfl⟩
        · omega
    · exact absurd ((pk_un (by decide)).trans (ht2 hrd)) c103
  · omega
theorem T_law {S : CS} {G : Nat → Nat → Value} {B : Nat → Nat → Int32} {J : Nat → Nat → Int64} {R : Nat → Nat → Option Nat} {g : Nat → Int32} {A : Nat → Nat → Int32} {n : Nat} {W : WS} (hC : WC n S G B R W) (hR : WR n g A W) (hn : n ≤ 10000) : Tie n 140 191 [some (.ref 2), none, none] [some (.ref 146), none, none] S G B J R g A W := by
  have hO := hC.2.2.2.1
  have hT : wL W ≤ 400 ∧ ∀ i, i < wL W → wT W i < 256 := ⟨hC.2.2.2.2.2.1.1, fun i hi => (hC.2.2.2.2.2.1.2.2 i hi).2⟩
  have h88 := hO.2.1
  by_cases h8 : kL (wK W) = 8
  · exact ⟨_, _, p_law_f8 hC h8, r_law_f8 hR hO h8⟩
  · cases hrd : (lwR (tkC (wT W) (wL W)) (tkN (wT W) (wL W)) 401).1 with
    | false => exact ⟨_, _, p_law_f hC (by omega) hrd, r_law_f hR hO (by omega) hrd hT⟩
    | true => exact ⟨_, _, p_law_y hC (by omega) hrd, r_law_y hR hO (by omega) hrd hT hn⟩
