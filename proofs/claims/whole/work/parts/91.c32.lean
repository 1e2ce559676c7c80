/-! Calls: undo, redo, board, clue; printed by wip/whole/gen_c32.py. -/
def hiW (W : WS) (H : Nat → Nat → Tb) (ch : Nat → Nat) (d t : Nat) : WS := ((H, ch, d, t, (wK W).2.2.2.2), wI W, wT W, wL W, wF W, nI 0, wR W, wW W)
def bdW (W : WS) (m : Nat) (bd : Nat → Option Nat) : WS := ((kH (wK W), kC (wK W), kD (wK W), kT (wK W), kL (wK W), kW (wK W), kN (wK W), m, bd), wI W, wT W, wL W, wF W, nI 0, wR W, wW W)
theorem WC.hi {S : CS} {G G' : Nat → Nat → Value} {B B' : Nat → Nat → Int32} {R R' : Nat → Nat → Option Nat} {n : Nat} {W : WS} {ta ka : Nat → Nat} {H : Nat → Nat → Tb} {ch : Nat → Nat} {d t : Nat} (h : WC n S G B R W) (hk : HiOk H ch d t) (hf : StF G B R G' B' R') (hH : HiC S G' B' R' 3 H ch d t ta ka) : WC n S (up2 G' 2 16 (.int (nI 0))) B' R' (hiW W H ch d t) := by
  obtain ⟨⟨a1, a2, a3⟩, a4, ⟨ta0, ka0, la, c1, c2, c3, c4, c5⟩, a6, a7, a8, a9, a10, a11, a12, a13, a14⟩ := h
  have big : ∀ b, 81 ≤ b → up2 G' 2 16 (.int (nI 0)) b = G b ∧ B' b = B b ∧ R' b = R b := fun b hb2 => ⟨by rw [up2_g (by omega)]; exact (hf.1 b (by omega)).1, (hf.1 b (by omega)).2.1, (hf.1 b (by omega)).2.2⟩
  have hg3 : ∀ b, b ≠ 2 → up2 G' 2 16 (.int (nI 0)) b = G' b := fun b hb2 => up2_g hb2
  have h3 : ∀ k, k ≠ 7 → k ≠ 8 → up2 G' 2 16 (.int (nI 0)) 3 k = G 3 k := fun k p q => by rw [hg3 3 (by decide)]; exact hf.2.1 k p q
  have h2 : ∀ k, k ≠ 16 → up2 G' 2 16 (.int (nI 0)) 2 k = G 2 k := fun k p => by rw [up2_n (fun e => p e.2), (hf.1 2 (by decide)).1]
  have hdt := hk.1
  have ht30 := hk.2.1
  obtain ⟨d0, d1, d2, d3, d4, d5, d6, d7, d8, d9, d10, d11⟩ := hH
  refine ⟨⟨a1, a2, a3.1, a3.2.cg (fun _ hb2 => ⟨hb2, rfl⟩) (fun b hb2 => by rw [up2_g (by omega)]; exact hf.2.2.2.2.2 b) hf.2.2.2.2.1 (fun b hb2 => (hf.1 b (by omega)).2.2)⟩, (hf.fx a4).u2, ⟨ta, ka, la, ⟨fun z hz => ?_, d1, d2, d3, d4, d5, fun i hi => ?_, fun i hi => ?_, fun i hi1 hi2 => ?_, d9, d10, d11⟩, ⟨c2.1, fun l hl => ⟨?_, ?_⟩⟩, by rw [h3 2 (by decide) (by decide)]; exact c3, by rw [h3 3 (by decide) (by decide)]; exact c4, fun q hq => by rw [show (3 + 3 : Nat) = 6 from rfl, hf.2.2.2.1]; exact c5 q hq⟩, ⟨hk, a6.2⟩, ?_, ?_, ?_, up2_s, ?_, ?_, ?_, ?_⟩
  · obtain ⟨b1, b2, b3, b4, b5⟩ := d0 z hz
    exact ⟨b1, b2, b3, b4, by rw [hg3 _ (by omega)]; exact b5⟩
  · obtain ⟨z, hz, e⟩ := (d1 i hi).2
    exact (d6 i hi).cg (by rw [hg3 _ (by omega)]) rfl
  · have hi : i < d := hi
    obtain ⟨z, hz, e⟩ := (d2 i (by omega)).2
    exact (d7 i hi).cg (by rw [hg3 _ (by omega)]) rfl
  · have hi1 : d ≤ i := hi1
    have hi2 : i < t := hi2
    obtain ⟨z, hz, e⟩ := (d2 i (by omega)).2
    exact (d8 i hi1 hi2).cg (by rw [hg3 _ (by omega)]) rfl
  · rw [show (3 + 2 : Nat) = 5 from rfl, hf.2.2.2.2.1]
    exact (c2.2 l hl).1
  · have := (c2.2 l hl).2.2.1
    exact (c2.2 l hl).2.cg (big _ (by omega)).1 (big _ (by omega)).2.1
  · obtain ⟨i1, ia, i2, i3⟩ := a7
    refine ⟨fun k hk e => by rw [(big 81 (by decide)).2.2]; exact i1 k hk e, ia, i2, fun k K hk hK => ?_⟩
    obtain ⟨q1, q2, q3, q4, q5, q6⟩ := i3 k K hk hK
    refine ⟨by rw [(big 81 (by decide)).2.2]; exact q1, q2, q3, ?_, q5.cg q6 (fun a ha => ⟨ha, rfl⟩) (fun b hb2 _ => big b (by omega)) (fun b hb2 _ => ⟨fun _ => (big b (by omega)).1, fun _ => (big b (by omega)).2.1⟩), q6⟩
    unfold StG
    rw [(big (ia k) (by omega)).1]
    exact q4
  · rw [h2 3 (by decide), (big 82 (by decide)).2.1]
    exact a8
  · rw [h2 5 (by decide)]
    exact a9
  · rw [(big 145 (by decide)).2.1]
    exact a11
  · exact ⟨a12.1.cg (by rw [(big 88 (by decide)).1]) (big 89 (by decide)).2.1, a12.2⟩
  · exact nm_1 a13 (big _ (by decide)).1 (big _ (by decide)).1 (big _ (by decide)).1 (big _ (by decide)).2.1 (big _ (by decide)).2.1
  · exact nm_2 a14 (big _ (by decide)).1 (big _ (by decide)).1 (big _ (by decide)).1 (big _ (by decide)).2.1 (big _ (by decide)).2.1
theorem WC.bd {S : CS} {G G' : Nat → Nat → Value} {B B' : Nat → Nat → Int32} {R : Nat → Nat → Option Nat} {n : Nat} {W : WS} {m : Nat} {bd : Nat → Option Nat} (h : WC n S G B R W) (hF : FxG G') (hg : ∀ b, b ≠ 2 → b ≠ 3 → G' b = G b) (hg3 : ∀ k, k ≠ 3 → G' 3 k = G 3 k) (h33 : G' 3 3 = .int (nI m)) (hg2 : ∀ k, k ≠ 16 → G' 2 k = G 2 k) (h16 : G' 2 16 = .int (nI 0)) (hB : ∀ b, b ≠ 6 → B' b = B b) (hm : m ≤ 6) (hbd : ∀ q u, bd q = some u → q < m * m ∧ u < m) (h6 : ∀ q, q < m * m → B' 6 q = oI (bd q)) : WC n S G' B' R (bdW W m bd) := by
  obtain ⟨⟨a1, a2, a3⟩, a4, ⟨ta, ka, la, ⟨d0, d1, d2, d3, d4, d5, d6, d7, d8, d9, d10, d11⟩, c2, c3, c4, c5⟩, a6, a7, a8, a9, a10, a11, a12, a13, a14⟩ := h
  have ht := a6.1.2.1
  have hd := a6.1.1
  have sh : ∀ b tb, 9 ≤ b → ShT G B b tb → ShT G' B' b tb := fun b tb hb q => q.cg (by rw [hg b (by omega) (by omega)]) (hB (b + 1) (by omega))
  refine ⟨⟨a1, a2, a3.1, a3.2.cg (fun _ hb2 => ⟨hb2, rfl⟩) (fun b hb2 => Or.inl (by rw [hg b (by omega) (by omega)])) rfl (fun _ _ => rfl)⟩, hF, ⟨ta, ka, la, ⟨fun z hz => ?_, d1, d2, d3, d4, d5, fun i hi => ?_, fun i hi => ?_, fun i hi1 hi2 => ?_, fun i hi => ?_, by rw [hg3 7 (by decide)]; exact d10, by rw [hg3 8 (by decide)]; exact d11⟩, ⟨c2.1, fun l hl => ⟨(c2.2 l hl).1, ?_⟩⟩, by rw [hg3 2 (by decide)]; exact c3, h33, h6⟩, ⟨a6.1, a6.2.1, a6.2.2.1, hm, hbd⟩, a7.cg (fun b hb => ⟨hg b (by omega) (by omega), hB b (by omega)⟩), ?_, ?_, h16, ?_, ?_, ?_, ?_⟩
  · obtain ⟨b1, b2, b3, b4, b5⟩ := d0 z hz
    exact ⟨b1, b2, b3, b4, by rw [hg _ (by omega) (by omega)]; exact b5⟩
  · obtain ⟨z, hz, e⟩ := (d1 i hi).2
    exact sh _ _ (by omega) (d6 i hi)
  · have hi : i < kD (wK W) := hi
    obtain ⟨z, hz, e⟩ := (d2 i (by omega)).2
    exact sh _ _ (by omega) (d7 i hi)
  · have hi1 : kD (wK W) ≤ i := hi1
    have hi2 : i < kT (wK W) := hi2
    obtain ⟨z, hz, e⟩ := (d2 i (by omega)).2
    exact sh _ _ (by omega) (d8 i hi1 hi2)
  · rw [hB (3 + 4) (by decide)]
    exact d9 i hi
  · have := (c2.2 l hl).2.2.1
    exact (c2.2 l hl).2.cg (hg _ (by omega) (by omega)) (hB _ (by omega))
  · rw [hg2 3 (by decide), hB 82 (by decide)]
    exact a8
  · rw [hg2 5 (by decide)]
    exact a9
  · rw [hB 145 (by decide)]
    exact a11
  · exact ⟨a12.1.cg (by rw [hg 88 (by decide) (by decide)]) (hB 89 (by decide)), a12.2⟩
  · exact nm_1 a13 (hg _ (by decide) (by decide)) (hg _ (by decide) (by decide)) (hg _ (by decide) (by decide)) (hB _ (by decide)) (hB _ (by decide))
  · exact nm_2 a14 (hg _ (by decide) (by decide)) (hg _ (by decide) (by decide)) (hg _ (by decide) (by decide)) (hB _ (by decide)) (hB _ (by decide))
theorem WR.ky {n : Nat} {g g' : Nat → Int32} {A : Nat → Nat → Int32} {W W' : WS} {f' : Nat → Int32} (h : WR n g A W) (hn : n ≤ 100000) (hK : CoR f' (wK W')) (hg : g' = upd (upd g 0 (nI 0)) 1 (g 1 + nI 1)) (hI : wI W' = wI W) (hT : wT W' = wT W) (hL : wL W' = wL W) (hFa : wF W' = wF W) (hSt : wS W' = nI 0) (hRf : wR W' = wR W) (hWw : wW W' = wW W) : WR (n + 1) g' (rf_u A 1 f') W' := by
  obtain ⟨h1, h2, h3, h4, h5, h6, h7, h8, h9, h10⟩ := h
  subst hg
  refine ⟨?_, ?_, ?_, ?_, ?_, ?_, ?_, ?_, ?_, ?_⟩
  · rw [rf_u_s]
    exact hK
  · unfold ImR
    rw [rf_u_n (by decide), rf_u_n (by decide), hI]
    exact h2
  · rw [rf_u_n (by decide)]
    exact h3
  · rw [rf_u_n (by decide), pk_un (by decide), pk_un (by decide), hL, hT]
    exact h4
  · rw [pk_un (by decide), pk_un (by decide), hFa]
    exact h5
  · rw [pk_un (by decide), pk_us, hSt]
  · rw [rf_u_n (by decide), hRf]
    exact h7
  · rw [rf_u_n (by decide), pk_un (by decide), pk_un (by decide), hWw]
    exact h8
  · rw [pk_un (by decide), pk_un (by decide)]
    exact h9
  · exact h10.gd hn pk_us (by rw [pk_un (by decide), pk_un (by decide)])
theorem WR.hi {n : Nat} {g g' : Nat → Int32} {A : Nat → Nat → Int32} {W : WS} {f' : Nat → Int32} {H : Nat → Nat → Tb} {ch : Nat → Nat} {d t : Nat} (h : WR n g A W) (hn : n ≤ 100000) (hH : HiR f' H ch d t) (hf : RfF (A 1) f') (hg : g' = upd (upd g 0 (nI 0)) 1 (g 1 + nI 1)) (hO : CoOk (wK W)) : WR (n + 1) g' (rf_u A 1 f') (hiW W H ch d t) := by
  have h1 := h.1
  have hS6 := hO.2.2.2.1
  have h36 := Nat.mul_le_mul hS6 hS6
  refine h.ky hn ⟨hH, by rw [hf 2509 (by omega)]; exact h1.2.1, fun l hl => ?_, by rw [hf 222 (by omega)]; exact h1.2.2.2.1, fun q hq => ?_⟩ hg rfl rfl rfl rfl rfl rfl rfl
  · have := h1.2.2.1 l hl
    exact ⟨by rw [hf _ (by omega)]; exact this.1, fun i hi => by rw [hf _ (by omega)]; exact this.2 i hi⟩
  · have hq : q < kS (wK W) * kS (wK W) := hq
    rw [hf _ (by omega)]
    exact h1.2.2.2.2 q hq
theorem WR.bd {n : Nat} {g g' : Nat → Int32} {A : Nat → Nat → Int32} {W : WS} {f' : Nat → Int32} {m : Nat} {bd : Nat → Option Nat} (h : WR n g A W) (hn : n ≤ 100000) (hf : ∀ i, i < 222 ∨ 259 ≤ i → f' i = A 1 i) (hs : f' 222 = nI m) (hb : ∀ q, q < m * m → f' (223 + q) = oI (bd q)) (hg : g' = upd (upd g 0 (nI 0)) 1 (g 1 + nI 1)) (hO : CoOk (wK W)) : WR (n + 1) g' (rf_u A 1 f') (bdW W m bd) := by
  have h1 := h.1
  have ht := hO.1.2.1
  have hd := hO.1.1
  refine h.ky hn ⟨⟨fun j hj => (h1.1.1 j hj).cg (fun k hk => hf _ (by omega)) (tb_ok hO hj).1, fun i hi => ?_, by rw [hf _ (by omega)]; exact h1.1.2.2.1, by rw [hf _ (by omega)]; exact h1.1.2.2.2⟩, by rw [hf 2509 (by omega)]; exact h1.2.1, fun l hl => ?_, hs, hb⟩ hg rfl rfl rfl rfl rfl rfl rfl
  · have hi : i < kT (wK W) := hi
    obtain ⟨p1, p2, p3⟩ := h1.1.2.1 i hi
    have hc2 := (hO.1.2.2.2 i hi).1
    exact ⟨by rw [hf _ (by omega)]; exact p1, p2.cg (fun k hk => hf _ (by omega)) (hO.1.2.2.1 i _ (by omega) hc2).1, p3.cg (fun k hk => hf _ (by omega)) (hO.1.2.2.1 (i + 1) _ (by omega) hc2).1⟩
  · have := h1.2.2.1 l hl
    exact ⟨by rw [hf _ (by omega)]; exact this.1, fun i hi => by rw [hf _ (by omega)]; exact this.2 i hi⟩
theorem p_undo_y {S : CS} {G : Nat → Nat → Value} {B : Nat → Nat → Int32} {J : Nat → Nat → Int64} {R : Nat → Nat → Option Nat} {n : Nat} {W : WS} (hW : WC n S G B R W) (hd : 1 ≤ kD (wK W)) : CR 80 135 0 [some (.ref 2)] [] S G B J R (fun r__ S' G' B' J' R' => r__ = some (.int (nI (kD (wK W) - 1))) ∧ WC (n + 1) S' G' B' R' (hiW W (kH (wK W)) (kC (wK W)) (kD (wK W) - 1) (kT (wK W)))) := by
  have hS := hW.1.1
  have hF := hW.2.1
  have hO := hW.2.2.2.1
  obtain ⟨ta, ka, la, hH, hLk, hl2, hs3, hbd⟩ := hW.2.2.1
  have hdt := hO.1.1
  have ht30 := hO.1.2.1
  refine cr_nx (pc' := 1) (al' := [some (.ref 2)]) (st' := [.ref 2]) d_135_0 (fun _ => rfl) ?_
  refine cr_gf (v := .ref 3) d_135_1 cw_135 cf_11_10 (hS.i (a := 2) (by decide) (by decide)) (hS.s (a := 2) (by decide) (by decide) rfl) (by decide) (fx_2_0 hF) ?_
  refine cr_gf (v := .int (nI (kD (wK W)))) d_135_4 cw_135 cf_11_206 (hS.i (a := 3) (by decide) (by decide)) (hS.s (a := 3) (by decide) (by decide) rfl) (by decide) hH.2.2.2.2.2.2.2.2.2.2.1 ?_
  refine cn_ine (t := 17) d_135_7 (by decide) (by first | omega | assumption | exact cu_36 (by omega) (cu_lt (by omega) (by omega))) (fun c7 => ?_) (fun c7 => ?_)
  · refine cr_nx (pc' := 18) (al' := [some (.ref 2)]) (st' := [.ref 2]) d_135_17 (fun _ => rfl) ?_
    refine cr_gf (v := .ref 3) d_135_18 cw_135 cf_11_10 (hS.i (a := 2) (by decide) (by decide)) (hS.s (a := 2) (by decide) (by decide) rfl) (by decide) (fx_2_0 hF) ?_
    refine cr_cv (b := 3) (as := []) (al0 := [some (.ref 3)]) (r := []) d_135_21 cw_135 cm_11_209 cz_84 rfl rfl (hS.i (a := 3) (by decide) (by decide)) (by rw [cw_84]; exact (hS.s (a := 3) (by decide) (by decide) rfl)) (by rw [cw_84]; decide) rfl (cr_wk (Nat.le_of_ble_eq_true rfl) (k_stepBack hS hF hH hO.1 hd)) (fun v1 S1 G1 B1 J1 R1 h1 => ?_)
    obtain ⟨q0_, q1_, q2_, hf1, ta1, ka1, hH1⟩ := h1
    obtain rfl := q0_
    obtain rfl := q1_.symm
    obtain rfl := q2_.symm
    show CR _ _ 24 [some (.ref 2)] [] S G1 B1 J R1 _
    refine cr_nx (pc' := 25) (al' := [some (.ref 2)]) (st' := [.ref 2]) d_135_24 (fun _ => rfl) ?_
    refine cr_nx (pc' := 26) (al' := [some (.ref 2)]) (st' := [.ref 2, .ref 2]) d_135_25 (fun _ => rfl) ?_
    refine cr_gf (v := .ref 3) d_135_26 cw_135 cf_11_10 (hS.i (a := 2) (by decide) (by decide)) (hS.s (a := 2) (by decide) (by decide) rfl) (by decide) (fx_2_0 (hf1.fx hF)) ?_
    refine cr_gf (v := .int (nI (kD (wK W) - 1))) d_135_29 cw_135 cf_11_206 (hS.i (a := 3) (by decide) (by decide)) (hS.s (a := 3) (by decide) (by decide) rfl) (by decide) hH1.2.2.2.2.2.2.2.2.2.2.1 ?_
    refine cr_pv (b := 2) (as := [.int (nI (kD (wK W) - 1))]) (al0 := [some (.ref 2), some (.int (nI (kD (wK W) - 1)))]) (r := []) d_135_32 cw_135 cm_11_212 cz_123 rfl rfl (hS.i (a := 2) (by decide) (by decide)) (by rw [cw_123]; exact (hS.s (a := 2) (by decide) (by decide) rfl)) (by rw [cw_123]; decide) rfl (Nat.le_of_ble_eq_true rfl) (k_accept hS) ?_
    show CR _ _ 35 [some (.ref 2)] [.int (nI (kD (wK W) - 1))] S (up2 G1 2 16 (.int (nI 0))) B1 J R1 _
    exact cr_ri d_135_35 cx_135 rfl ⟨rfl, (hW.hi ⟨by omega, hO.1.2.1, hO.1.2.2.1, hO.1.2.2.2⟩ hf1 hH1).mo⟩
  · omega
theorem p_redo_y {S : CS} {G : Nat → Nat → Value} {B : Nat → Nat → Int32} {J : Nat → Nat → Int64} {R : Nat → Nat → Option Nat} {n : Nat} {W : WS} (hW : WC n S G B R W) (hd : kD (wK W) < kT (wK W)) : CR 80 136 0 [some (.ref 2)] [] S G B J R (fun r__ S' G' B' J' R' => r__ = some (.int (nI (kT (wK W) - (kD (wK W) + 1)))) ∧ WC (n + 1) S' G' B' R' (hiW W (kH (wK W)) (kC (wK W)) (kD (wK W) + 1) (kT (wK W)))) := by
  have hS := hW.1.1
  have hF := hW.2.1
  have hO := hW.2.2.2.1
  obtain ⟨ta, ka, la, hH, hLk, hl2, hs3, hbd⟩ := hW.2.2.1
  have hdt := hO.1.1
  have ht30 := hO.1.2.1
  refine cr_nx (pc' := 1) (al' := [some (.ref 2)]) (st' := [.ref 2]) d_136_0 (fun _ => rfl) ?_
  refine cr_gf (v := .ref 3) d_136_1 cw_136 cf_11_10 (hS.i (a := 2) (by decide) (by decide)) (hS.s (a := 2) (by decide) (by decide) rfl) (by decide) (fx_2_0 hF) ?_
  refine cr_gf (v := .int (nI (kT (wK W) - kD (wK W)))) d_136_4 cw_136 cf_11_215 (hS.i (a := 3) (by decide) (by decide)) (hS.s (a := 3) (by decide) (by decide) rfl) (by decide) hH.2.2.2.2.2.2.2.2.2.2.2 ?_
  refine cn_ine (t := 17) d_136_7 (by decide) (by first | omega | assumption | exact cu_36 (by omega) (cu_lt (by omega) (by omega))) (fun c7 => ?_) (fun c7 => ?_)
  · refine cr_nx (pc' := 18) (al' := [some (.ref 2)]) (st' := [.ref 2]) d_136_17 (fun _ => rfl) ?_
    refine cr_gf (v := .ref 3) d_136_18 cw_136 cf_11_10 (hS.i (a := 2) (by decide) (by decide)) (hS.s (a := 2) (by decide) (by decide) rfl) (by decide) (fx_2_0 hF) ?_
    refine cr_cv (b := 3) (as := []) (al0 := [some (.ref 3)]) (r := []) d_136_21 cw_136 cm_11_218 cz_85 rfl rfl (hS.i (a := 3) (by decide) (by decide)) (by rw [cw_85]; exact (hS.s (a := 3) (by decide) (by decide) rfl)) (by rw [cw_85]; decide) rfl (cr_wk (Nat.le_of_ble_eq_true rfl) (k_stepOn hS hF hH hO.1 hd)) (fun v1 S1 G1 B1 J1 R1 h1 => ?_)
    obtain ⟨q0_, q1_, q2_, hf1, ta1, ka1, hH1⟩ := h1
    obtain rfl := q0_
    obtain rfl := q1_.symm
    obtain rfl := q2_.symm
    show CR _ _ 24 [some (.ref 2)] [] S G1 B1 J R1 _
    refine cr_nx (pc' := 25) (al' := [some (.ref 2)]) (st' := [.ref 2]) d_136_24 (fun _ => rfl) ?_
    refine cr_nx (pc' := 26) (al' := [some (.ref 2)]) (st' := [.ref 2, .ref 2]) d_136_25 (fun _ => rfl) ?_
    refine cr_gf (v := .ref 3) d_136_26 cw_136 cf_11_10 (hS.i (a := 2) (by decide) (by decide)) (hS.s (a := 2) (by decide) (by decide) rfl) (by decide) (fx_2_0 (hf1.fx hF)) ?_
    refine cr_gf (v := .int (nI (kT (wK W) - (kD (wK W) + 1)))) d_136_29 cw_136 cf_11_215 (hS.i (a := 3) (by decide) (by decide)) (hS.s (a := 3) (by decide) (by decide) rfl) (by decide) hH1.2.2.2.2.2.2.2.2.2.2.2 ?_
    refine cr_pv (b := 2) (as := [.int (nI (kT (wK W) - (kD (wK W) + 1)))]) (al0 := [some (.ref 2), some (.int (nI (kT (wK W) - (kD (wK W) + 1))))]) (r := []) d_136_32 cw_136 cm_11_212 cz_123 rfl rfl (hS.i (a := 2) (by decide) (by decide)) (by rw [cw_123]; exact (hS.s (a := 2) (by decide) (by decide) rfl)) (by rw [cw_123]; decide) rfl (Nat.le_of_ble_eq_true rfl) (k_accept hS) ?_
    show CR _ _ 35 [some (.ref 2)] [.int (nI (kT (wK W) - (kD (wK W) + 1)))] S (up2 G1 2 16 (.int (nI 0))) B1 J R1 _
    exact cr_ri d_136_35 cx_136 rfl ⟨rfl, (hW.hi ⟨by omega, hO.1.2.1, hO.1.2.2.1, hO.1.2.2.2⟩ hf1 hH1).mo⟩
  · omega
theorem r_undo_y {g : Nat → Int32} {A : Nat → Nat → Int32} {n : Nat} {W : WS} (hW : WR n g A W) (hO : CoOk (wK W)) (hd : 1 ≤ kD (wK W)) (hn5 : n ≤ 10000) : RR 80 187 0 [some (.ref 146), none, none] [] g A (fun r__ g' A' => r__ = some (.int (nI (kD (wK W) - 1))) ∧ WR (n + 1) g' A' (hiW W (kH (wK W)) (kC (wK W)) (kD (wK W) - 1) (kT (wK W)))) := by
  refine rr_cq (rr_wk (by decide) (s_undo_y hW.1.1 hO.1 hd)) ?_
  rintro r_ g_ A_ ⟨rfl, rfl, f1, rfl, h1, h2⟩
  exact ⟨rfl, hW.hi (by omega) h1 h2 rfl hO⟩
theorem r_redo_y {g : Nat → Int32} {A : Nat → Nat → Int32} {n : Nat} {W : WS} (hW : WR n g A W) (hO : CoOk (wK W)) (hd : kD (wK W) < kT (wK W)) (hn5 : n ≤ 10000) : RR 80 188 0 [some (.ref 146), none, none] [] g A (fun r__ g' A' => r__ = some (.int (nI (kT (wK W) - (kD (wK W) + 1)))) ∧ WR (n + 1) g' A' (hiW W (kH (wK W)) (kC (wK W)) (kD (wK W) + 1) (kT (wK W)))) := by
  refine rr_cq (rr_wk (by decide) (s_redo_y hW.1.1 hO.1 hd)) ?_
  rintro r_ g_ A_ ⟨rfl, rfl, f1, rfl, h1, h2⟩
  exact ⟨rfl, hW.hi (by omega) h1 h2 rfl hO⟩
theorem p_undo_n {S : CS} {G : Nat → Nat → Value} {B : Nat → Nat → Int32} {J : Nat → Nat → Int64} {R : Nat → Nat → Option Nat} {n : Nat} {W : WS} (hW : WC n S G B R W) (hd : kD (wK W) = 0) : CR 80 135 0 [some (.ref 2)] [] S G B J R (fun r__ S' G' B' J' R' => r__ = some (.int (-3)) ∧ WC (n + 1) S' G' B' R' (refW W (-3) 3)) := by
  have hS := hW.1.1
  have hF := hW.2.1
  have hO := hW.2.2.2.1
  obtain ⟨ta, ka, la, hH, hLk, hl2, hs3, hbd⟩ := hW.2.2.1
  have hdt := hO.1.1
  have ht30 := hO.1.2.1
  refine cr_nx (pc' := 1) (al' := [some (.ref 2)]) (st' := [.ref 2]) d_135_0 (fun _ => rfl) ?_
  refine cr_gf (v := .ref 3) d_135_1 cw_135 cf_11_10 (hS.i (a := 2) (by decide) (by decide)) (hS.s (a := 2) (by decide) (by decide) rfl) (by decide) (fx_2_0 hF) ?_
  refine cr_gf (v := .int (nI (kD (wK W)))) d_135_4 cw_135 cf_11_206 (hS.i (a := 3) (by decide) (by decide)) (hS.s (a := 3) (by decide) (by decide) rfl) (by decide) hH.2.2.2.2.2.2.2.2.2.2.1 ?_
  refine cn_ine (t := 17) d_135_7 (by decide) (by first | omega | assumption | exact cu_36 (by omega) (cu_lt (by omega) (by omega))) (fun c7 => ?_) (fun c7 => ?_)
  · omega
  · refine cr_nx (pc' := 11) (al' := [some (.ref 2)]) (st' := [.ref 2]) d_135_10 (fun _ => rfl) ?_
    refine cr_nx (pc' := 13) (al' := [some (.ref 2)]) (st' := [.int (-3), .ref 2]) d_135_11 (fun _ => rfl) ?_
    refine cr_pv (b := 2) (as := [.int (-3)]) (al0 := [some (.ref 2), some (.int (-3))]) (r := []) d_135_13 cw_135 cm_11_104 cz_119 rfl rfl (hS.i (a := 2) (by decide) (by decide)) (by rw [cw_119]; exact (hS.s (a := 2) (by decide) (by decide) rfl)) (by rw [cw_119]; decide) rfl (Nat.le_of_ble_eq_true rfl) (k_refuse (e := 3) hS hF (by decide) (by decide)) ?_
    show CR _ _ 16 [some (.ref 2)] [.int (-3)] S (up2 G 2 16 (.int (-3))) (upr B 145 (upd (B 145) 3 (B 145 3 + nI 1))) J R _
    exact cr_ri d_135_16 cx_135 rfl ⟨rfl, (hW.rf (by decide)).mo⟩
theorem r_undo_n {g : Nat → Int32} {A : Nat → Nat → Int32} {n : Nat} {W : WS} (hW : WR n g A W) (hO : CoOk (wK W)) (hd : kD (wK W) = 0) : RR 80 187 0 [some (.ref 146), none, none] [] g A (fun r__ g' A' => r__ = some (.int (-3)) ∧ WR (n + 1) g' A' (refW W (-3) 3)) := by
  have hdt := hO.1.1
  have ht30 := hO.1.2.1
  refine rr_nx (pc' := 1) (al' := [some (.ref 146), none, none]) (st' := [.ref 146]) d_187_0 (fun _ => rfl) ?_
  refine rr_gf (v := .ref (147 + 1)) d_187_1 mo_187 fl_13 rfl ?_
  refine rn_sp (v := 2510) d_187_4 (by decide) ?_
  refine rr_ia (j := 1) (v := (nI (kD (wK W)))) d_187_7 (by decide) rfl (by decide) (show 2510 < 5720 by first | omega | assumption | exact cu_36 (by omega) (cu_lt (by omega) (by omega))) hW.1.1.2.2.1 ?_
  refine rn_ine (t := 18) d_187_8 (by decide) (by first | omega | assumption | exact cu_36 (by omega) (cu_lt (by omega) (by omega))) (fun c8 => ?_) (fun c8 => ?_)
  · omega
  · refine rr_nx (pc' := 12) (al' := [some (.ref 146), none, none]) (st' := [.ref 146]) d_187_11 (fun _ => rfl) ?_
    refine rr_nx (pc' := 14) (al' := [some (.ref 146), none, none]) (st' := [.int (-3), .ref 146]) d_187_12 (fun _ => rfl) ?_
    have hW1 := hW.q (g' := g) (A' := A) Gsm.rf Ksm.rf
    refine rr_pv (as := [.int (-3)]) (al0 := [some (.ref 146), some (.int (-3))]) (r := []) d_187_14 mo_187 ml_110 mz_180 rfl rfl rfl (Nat.le_of_ble_eq_true rfl) (s_refuses (e := 3) (by decide) (by decide)) ?_
    show RR _ _ 17 [some (.ref 146), none, none] [.int (-3)] (upd g 0 (-3)) (rf_u A 0 (upd (A 0) 3 (A 0 3 + nI 1))) _
    exact rr_ri d_187_17 mr_187 rfl ⟨rfl, (hW1.rf (by decide)).mo⟩
theorem p_redo_n {S : CS} {G : Nat → Nat → Value} {B : Nat → Nat → Int32} {J : Nat → Nat → Int64} {R : Nat → Nat → Option Nat} {n : Nat} {W : WS} (hW : WC n S G B R W) (hd : kD (wK W) = kT (wK W)) : CR 80 136 0 [some (.ref 2)] [] S G B J R (fun r__ S' G' B' J' R' => r__ = some (.int (-3)) ∧ WC (n + 1) S' G' B' R' (refW W (-3) 3)) := by
  have hS := hW.1.1
  have hF := hW.2.1
  have hO := hW.2.2.2.1
  obtain ⟨ta, ka, la, hH, hLk, hl2, hs3, hbd⟩ := hW.2.2.1
  have hdt := hO.1.1
  have ht30 := hO.1.2.1
  refine cr_nx (pc' := 1) (al' := [some (.ref 2)]) (st' := [.ref 2]) d_136_0 (fun _ => rfl) ?_
  refine cr_gf (v := .ref 3) d_136_1 cw_136 cf_11_10 (hS.i (a := 2) (by decide) (by decide)) (hS.s (a := 2) (by decide) (by decide) rfl) (by decide) (fx_2_0 hF) ?_
  refine cr_gf (v := .int (nI (kT (wK W) - kD (wK W)))) d_136_4 cw_136 cf_11_215 (hS.i (a := 3) (by decide) (by decide)) (hS.s (a := 3) (by decide) (by decide) rfl) (by decide) hH.2.2.2.2.2.2.2.2.2.2.2 ?_
  refine cn_ine (t := 17) d_136_7 (by decide) (by first | omega | assumption | exact cu_36 (by omega) (cu_lt (by omega) (by omega))) (fun c7 => ?_) (fun c7 => ?_)
  · omega
  · refine cr_nx (pc' := 11) (al' := [some (.ref 2)]) (st' := [.ref 2]) d_136_10 (fun _ => rfl) ?_
    refine cr_nx (pc' := 13) (al' := [some (.ref 2)]) (st' := [.int (-3), .ref 2]) d_136_11 (fun _ => rfl) ?_
    refine cr_pv (b := 2) (as := [.int (-3)]) (al0 := [some (.ref 2), some (.int (-3))]) (r := []) d_136_13 cw_136 cm_11_104 cz_119 rfl rfl (hS.i (a := 2) (by decide) (by decide)) (by rw [cw_119]; exact (hS.s (a := 2) (by decide) (by decide) rfl)) (by rw [cw_119]; decide) rfl (Nat.le_of_ble_eq_true rfl) (k_refuse (e := 3) hS hF (by decide) (by decide)) ?_
    show CR _ _ 16 [some (.ref 2)] [.int (-3)] S (up2 G 2 16 (.int (-3))) (upr B 145 (upd (B 145) 3 (B 145 3 + nI 1))) J R _
    exact cr_ri d_136_16 cx_136 rfl ⟨rfl, (hW.rf (by decide)).mo⟩
theorem r_redo_n {g : Nat → Int32} {A : Nat → Nat → Int32} {n : Nat} {W : WS} (hW : WR n g A W) (hO : CoOk (wK W)) (hd : kD (wK W) = kT (wK W)) : RR 80 188 0 [some (.ref 146), none, none] [] g A (fun r__ g' A' => r__ = some (.int (-3)) ∧ WR (n + 1) g' A' (refW W (-3) 3)) := by
  have hdt := hO.1.1
  have ht30 := hO.1.2.1
  refine rr_nx (pc' := 1) (al' := [some (.ref 146), none, none]) (st' := [.ref 146]) d_188_0 (fun _ => rfl) ?_
  refine rr_gf (v := .ref (147 + 1)) d_188_1 mo_188 fl_13 rfl ?_
  refine rn_sp (v := 2510) d_188_4 (by decide) ?_
  refine rr_ia (j := 1) (v := (nI (kD (wK W)))) d_188_7 (by decide) rfl (by decide) (show 2510 < 5720 by first | omega | assumption | exact cu_36 (by omega) (cu_lt (by omega) (by omega))) hW.1.1.2.2.1 ?_
  refine rr_nx (pc' := 9) (al' := [some (.ref 146), none, none]) (st' := [.ref 146, .int (nI (kD (wK W)))]) d_188_8 (fun _ => rfl) ?_
  refine rr_gf (v := .ref (147 + 1)) d_188_9 mo_188 fl_13 rfl ?_
  refine rn_sp (v := 2511) d_188_12 (by decide) ?_
  refine rr_ia (j := 1) (v := (nI (kT (wK W)))) d_188_15 (by decide) rfl (by decide) (show 2511 < 5720 by first | omega | assumption | exact cu_36 (by omega) (cu_lt (by omega) (by omega))) hW.1.1.2.2.2 ?_
  refine rn_cne (t := 26) d_188_16 (by decide) (by first | omega | assumption | exact cu_36 (by omega) (cu_lt (by omega) (by omega))) (by first | omega | assumption | exact cu_36 (by omega) (cu_lt (by omega) (by omega))) (fun c16 => ?_) (fun c16 => ?_)
  · omega
  · refine rr_nx (pc' := 20) (al' := [some (.ref 146), none, none]) (st' := [.ref 146]) d_188_19 (fun _ => rfl) ?_
    refine rr_nx (pc' := 22) (al' := [some (.ref 146), none, none]) (st' := [.int (-3), .ref 146]) d_188_20 (fun _ => rfl) ?_
    have hW1 := hW.q (g' := g) (A' := A) Gsm.rf Ksm.rf
    refine rr_pv (as := [.int (-3)]) (al0 := [some (.ref 146), some (.int (-3))]) (r := []) d_188_22 mo_188 ml_110 mz_180 rfl rfl rfl (Nat.le_of_ble_eq_true rfl) (s_refuses (e := 3) (by decide) (by decide)) ?_
    show RR _ _ 25 [some (.ref 146), none, none] [.int (-3)] (upd g 0 (-3)) (rf_u A 0 (upd (A 0) 3 (A 0 3 + nI 1))) _
    exact rr_ri d_188_25 mr_188 rfl ⟨rfl, (hW1.rf (by decide)).mo⟩
theorem T_undo {S : CS} {G : Nat → Nat → Value} {B : Nat → Nat → Int32} {J : Nat → Nat → Int64} {R : Nat → Nat → Option Nat} {g : Nat → Int32} {A : Nat → Nat → Int32} {n : Nat} {W : WS} (hC : WC n S G B R W) (hR : WR n g A W) (hn : n ≤ 10000) : Tie n 135 187 [some (.ref 2)] [some (.ref 146), none, none] S G B J R g A W := by
  have hO := hC.2.2.2.1
  by_cases hd : kD (wK W) = 0
  · exact ⟨_, _, p_undo_n hC hd, r_undo_n hR hO hd⟩
  · exact ⟨_, _, p_undo_y hC (by omega), r_undo_y hR hO (by omega) hn⟩
theorem T_redo {S : CS} {G : Nat → Nat → Value} {B : Nat → Nat → Int32} {J : Nat → Nat → Int64} {R : Nat → Nat → Option Nat} {g : Nat → Int32} {A : Nat → Nat → Int32} {n : Nat} {W : WS} (hC : WC n S G B R W) (hR : WR n g A W) (hn : n ≤ 10000) : Tie n 136 188 [some (.ref 2)] [some (.ref 146), none, none] S G B J R g A W := by
  have hO := hC.2.2.2.1
  have hdt := hO.1.1
  by_cases hd : kD (wK W) = kT (wK W)
  · exact ⟨_, _, p_redo_n hC hd, r_redo_n hR hO hd⟩
  · exact ⟨_, _, p_redo_y hC (by omega), r_redo_y hR hO (by omega) hn⟩
theorem FxG.u33 {G : Nat → Nat → Value} {v : Value} (h : FxG G) : FxG (up2 G 3 3 v) := fun e he => by
  rw [up2_n]
  · exact h e he
  · intro q
    simp only [List.mem_cons, List.mem_nil_iff, or_false, Prod.ext_iff] at he
    omega
theorem p_board_y {S : CS} {G : Nat → Nat → Value} {B : Nat → Nat → Int32} {J : Nat → Nat → Int64} {R : Nat → Nat → Option Nat} {n : Nat} {W : WS} (hW : WC n S G B R W) {m : Nat} (h1 : 1 ≤ m) (hm6 : m ≤ 6) : CR 80 164 0 [some (.ref 2), some (.int (nI m))] [] S G B J R (fun r__ S' G' B' J' R' => r__ = some (.int (nI 0)) ∧ WC (n + 1) S' G' B' R' (bdW W m (fun _ => none))) := by
  have hS := hW.1.1
  have hF := hW.2.1
  have hO := hW.2.2.2.1
  obtain ⟨ta, ka, la, hH, hLk, hl2, hs3, hbd⟩ := hW.2.2.1
  refine cr_nx (pc' := 1) (al' := [some (.ref 2), some (.int (nI m))]) (st' := [.int (nI m)]) d_164_0 (fun _ => rfl) ?_
  refine cr_ps (as := [.int (nI m)]) (al0 := [some (.int (nI m))]) (r := []) d_164_1 cw_164 cm_11_119 (by decide) cz_121 rfl rfl rfl (Nat.le_of_ble_eq_true rfl) (k_isSize) ?_
  show CR _ _ 4 [some (.ref 2), some (.int (nI m))] [.int (bI (szP (nI m)))] S G B J R _
  refine cr_bne (t := 13) d_164_4 (by decide) (fun c4 => ?_) (fun c4 => ?_)
  · refine cr_nx (pc' := 14) (al' := [some (.ref 2), some (.int (nI m))]) (st' := [.ref 2]) d_164_13 (fun _ => rfl) ?_
    refine cr_gf (v := .ref 3) d_164_14 cw_164 cf_11_10 (hS.i (a := 2) (by decide) (by decide)) (hS.s (a := 2) (by decide) (by decide) rfl) (by decide) (fx_2_0 hF) ?_
    refine cr_nx (pc' := 18) (al' := [some (.ref 2), some (.int (nI m))]) (st' := [.int (nI m), .ref 3]) d_164_17 (fun _ => rfl) ?_
    refine cp_9_3  d_164_18 cw_164 cf_11_342 (hS.i (a := 3) (by decide) (by decide)) (hS.s (a := 3) (by decide) (by decide) rfl) (by decide) ?_
    refine cr_nx (pc' := 22) (al' := [some (.ref 2), some (.int (nI m))]) (st' := [.ref 2]) d_164_21 (fun _ => rfl) ?_
    refine cr_gf (v := .ref 3) d_164_22 cw_164 cf_11_10 (hS.i (a := 2) (by decide) (by decide)) (hS.s (a := 2) (by decide) (by decide) rfl) (by decide) (by simp [up2]; exact (fx_2_0 hF)) ?_
    refine cr_gf (v := .ref 6) d_164_25 cw_164 cf_11_345 (hS.i (a := 3) (by decide) (by decide)) (hS.s (a := 3) (by decide) (by decide) rfl) (by decide) (by simp [up2]; exact (fx_3_4 hF)) ?_
    refine cr_nx (pc' := 29) (al' := [some (.ref 2), some (.int (nI m))]) (st' := [.int (-1), .ref 6]) d_164_28 (fun _ => rfl) ?_
    refine cr_cs (as := [.ref 6, .int (-1)]) (al0 := [some (.ref 6), some (.int (-1)), none, none]) (r := []) d_164_29 cw_164 cm_11_348 (by decide) cz_293 rfl rfl rfl (cr_wk (Nat.le_of_ble_eq_true rfl) (k_fill (hS.i (a := 6) (by decide) (by decide)) (hS.s (a := 6) (by decide) (by decide) rfl) (by decide) _)) (fun v1 S1 G1 B1 J1 R1 h1x => ?_)
    obtain ⟨q0_, q1_, q2_, q3_, q4_, w6, q9_, hw6⟩ := h1x
    obtain rfl := q0_
    obtain rfl := q1_.symm
    obtain rfl := q2_.symm
    obtain rfl := q3_.symm
    obtain rfl := q4_.symm
    obtain rfl := q9_
    show CR _ _ 32 [some (.ref 2), some (.int (nI m))] [] S (up2 G 3 3 (.int (nI m))) (upr B 6 w6) J R _
    refine cr_nx (pc' := 33) (al' := [some (.ref 2), some (.int (nI m))]) (st' := [.ref 2]) d_164_32 (fun _ => rfl) ?_
    refine cn_ic (v := 0) d_164_33 (by decide) ?_
    refine cr_pv (b := 2) (as := [.int (nI 0)]) (al0 := [some (.ref 2), some (.int (nI 0))]) (r := []) d_164_34 cw_164 cm_11_212 cz_123 rfl rfl (hS.i (a := 2) (by decide) (by decide)) (by rw [cw_123]; exact (hS.s (a := 2) (by decide) (by decide) rfl)) (by rw [cw_123]; decide) rfl (Nat.le_of_ble_eq_true rfl) (k_accept hS) ?_
    show CR _ _ 37 [some (.ref 2), some (.int (nI m))] [.int (nI 0)] S (up2 (up2 G 3 3 (.int (nI m))) 2 16 (.int (nI 0))) (upr B 6 w6) J R _
    exact cr_ri d_164_37 cx_164 rfl ⟨rfl, (hW.bd (FxG.u2 (FxG.u33 hF)) (fun b hb hb3 => by rw [up2_g hb, up2_g hb3]) (fun k hk => by rw [up2_n (fun e => absurd e.1 (by decide)), up2_n (fun e => hk e.2)]) (by rw [up2_n (by decide), up2_s]) (fun k hk => by rw [up2_n (fun e => hk e.2), up2_n (fun e => absurd e.1 (by decide))]) up2_s (fun b hb => upr_n hb) hm6 (fun q u e => by cases e) (fun q hq => by rw [upr_s]; exact hw6 q (by have := Nat.mul_le_mul hm6 hm6; omega))).mo⟩
  · exact absurd (sz_j h1 hm6) c4
theorem r_board_y {g : Nat → Int32} {A : Nat → Nat → Int32} {n : Nat} {W : WS} (hW : WR n g A W) (hO : CoOk (wK W)) {m : Nat} (h1 : 1 ≤ m) (hm6 : m ≤ 6) (hn5 : n ≤ 10000) : RR 80 278 0 [some (.ref 146), some (.int (nI m)), none] [] g A (fun r__ g' A' => r__ = some (.int (nI 0)) ∧ WR (n + 1) g' A' (bdW W m (fun _ => none))) := by
  refine rr_nx (pc' := 1) (al' := [some (.ref 146), some (.int (nI m)), none]) (st' := [.int (nI m)]) d_278_0 (fun _ => rfl) ?_
  refine rn_ic (v := 1) d_278_1 (by decide) ?_
  refine rn_bp (v := 6) d_278_2 (by decide) ?_
  refine rr_ps (as := [.int (nI m), .int (nI 1), .int (nI 6)]) (al0 := [some (.int (nI m)), some (.int (nI 1)), some (.int (nI 6))]) (r := []) d_278_4 mo_278 ml_106 mz_179 rfl rfl rfl (Nat.le_of_ble_eq_true rfl) (s_lies (nI m) (nI 1) (nI 6)) ?_
  show RR _ _ 7 [some (.ref 146), some (.int (nI m)), none] [.int (bI ((nI 1) ≤ (nI m) ∧ (nI m) ≤ (nI 6)))] g A _
  refine rr_bne (t := 16) d_278_7 (by decide) (fun c7 => ?_) (fun c7 => ?_)
  · refine rr_nx (pc' := 17) (al' := [some (.ref 146), some (.int (nI m)), none]) (st' := [.ref 146]) d_278_16 (fun _ => rfl) ?_
    refine rr_gf (v := .ref (147 + 1)) d_278_17 mo_278 fl_13 rfl ?_
    refine rn_sp (v := 222) d_278_20 (by decide) ?_
    refine rr_nx (pc' := 24) (al' := [some (.ref 146), some (.int (nI m)), none]) (st' := [.int (nI m), .int (nI 222), .ref (147 + 1)]) d_278_23 (fun _ => rfl) ?_
    refine rr_iS (j := 1) (A1 := (rf_u A 1 (upd (A 1) 222 (nI m)))) d_278_24 (by decide) rfl (by decide) (show 222 < 5720 by first | omega | assumption | exact cu_36 (by omega) (cu_lt (by omega) (by omega))) rfl ?_
    refine rn_ic (v := 0) d_278_25 (by decide) ?_
    refine rr_nx (pc' := 27) (al' := [some (.ref 146), some (.int (nI m)), some (.int (nI 0))]) (st' := []) d_278_26 (fun _ => rfl) ?_
    refine rr_A (show (rf_u A 1 (upd (A 1) 222 (nI m))) = (rf_u A 1 (pasF (upd (A 1) 222 (nI m)) 223 (fun _ => -1) 0)) by rw [pasF_0]) ?_
    refine rr_up (al := fun i => [some (.ref 146), some (.int (nI m)), some (.int (nI i))]) (G := fun i => g) (B := fun i => (rf_u A 1 (pasF (upd (A 1) 222 (nI m)) 223 (fun _ => -1) i))) (P := fun i => True) (n := 36) (fun i hi pi ihi => ?_) (fun pi => ?_) 0  (by omega) (trivial)
    · show RR _ _ 27 [some (.ref 146), some (.int (nI m)), some (.int (nI i))] [] g (rf_u A 1 (pasF (upd (A 1) 222 (nI m)) 223 (fun _ => -1) i)) _
      refine rr_nx (pc' := 28) (al' := [some (.ref 146), some (.int (nI m)), some (.int (nI i))]) (st' := [.int (nI i)]) d_278_27 (fun _ => rfl) ?_
      refine rn_bp (v := 36) d_278_28 (by decide) ?_
      refine rn_cge (t := 50) d_278_30 (by decide) (by first | omega | assumption | exact cu_36 (by omega) (cu_lt (by omega) (by omega))) (by first | omega | assumption | exact cu_36 (by omega) (cu_lt (by omega) (by omega))) (fun c30 => ?_) (fun c30 => ?_)
      · omega
      · refine rr_nx (pc' := 34) (al' := [some (.ref 146), some (.int (nI m)), some (.int (nI i))]) (st' := [.ref 146]) d_278_33 (fun _ => rfl) ?_
        refine rr_gf (v := .ref (147 + 1)) d_278_34 mo_278 fl_13 rfl ?_
        refine rn_sp (v := 223) d_278_37 (by decide) ?_
        refine rr_nx (pc' := 41) (al' := [some (.ref 146), some (.int (nI m)), some (.int (nI i))]) (st' := [.int (nI i), .int (nI 223), .ref (147 + 1)]) d_278_40 (fun _ => rfl) ?_
        refine rn_add d_278_41  ?_
        refine rr_nx (pc' := 43) (al' := [some (.ref 146), some (.int (nI m)), some (.int (nI i))]) (st' := [.int (-1), .int (nI (223 + i)), .ref (147 + 1)]) d_278_42 (fun _ => rfl) ?_
        refine rr_iS (j := 1) (A1 := (rf_u A 1 (upd (pasF (upd (A 1) 222 (nI m)) 223 (fun _ => -1) i) (223 + i) (-1)))) d_278_43 (by decide) rfl (by decide) (show 223 + i < 5720 by first | omega | assumption | exact cu_36 (by omega) (cu_lt (by omega) (by omega))) rf_uw ?_
        refine rn_inc d_278_44 rfl rfl ?_
        show RR _ _ 47 [some (.ref 146), some (.int (nI m)), some (.int (nI (i + 1)))] [] g (rf_u A 1 (upd (pasF (upd (A 1) 222 (nI m)) 223 (fun _ => -1) i) (223 + i) (-1))) _
        refine rr_nx (pc' := 27) (al' := [some (.ref 146), some (.int (nI m)), some (.int (nI (i + 1)))]) (st' := []) d_278_47 (fun _ => rfl) ?_
        refine rr_A (show (rf_u A 1 (upd (pasF (upd (A 1) 222 (nI m)) 223 (fun _ => -1) i) (223 + i) (-1))) = (rf_u A 1 (pasF (upd (A 1) 222 (nI m)) 223 (fun _ => -1) (i + 1))) by exact congrArg (rf_u A 1) (pasF_s (v := fun _ => -1))) ?_
        exact ihi  (trivial)
    · show RR _ _ 27 [some (.ref 146), some (.int (nI m)), some (.int (nI 36))] [] g (rf_u A 1 (pasF (upd (A 1) 222 (nI m)) 223 (fun _ => -1) 36)) _
      refine rr_nx (pc' := 28) (al' := [some (.ref 146), some (.int (nI m)), some (.int (nI 36))]) (st' := [.int (nI 36)]) d_278_27 (fun _ => rfl) ?_
      refine rn_bp (v := 36) d_278_28 (by decide) ?_
      refine rn_cge (t := 50) d_278_30 (by decide) (by first | omega | assumption | exact cu_36 (by omega) (cu_lt (by omega) (by omega))) (by first | omega | assumption | exact cu_36 (by omega) (cu_lt (by omega) (by omega))) (fun c30 => ?_) (fun c30 => ?_)
      · refine rr_nx (pc' := 51) (al' := [some (.ref 146), some (.int (nI m)), some (.int (nI 36))]) (st' := [.ref 146]) d_278_50 (fun _ => rfl) ?_
        refine rn_ic (v := 0) d_278_51 (by decide) ?_
        refine rr_pv (as := [.int (nI 0)]) (al0 := [some (.ref 146), some (.int (nI 0))]) (r := []) d_278_52 mo_278 ml_114 mz_181 rfl rfl rfl (Nat.le_of_ble_eq_true rfl) (s_good _) ?_
        show RR _ _ 55 [some (.ref 146), some (.int (nI m)), some (.int (nI 36))] [.int (nI 0)] (upd (upd g 0 (nI 0)) 1 (g 1 + nI 1)) (rf_u A 1 (pasF (upd (A 1) 222 (nI m)) 223 (fun _ => -1) 36)) _
        exact rr_ri d_278_55 mr_278 rfl ⟨rfl, hW.bd (by omega) (fun i hi => by rw [pasF_out (by omega), pk_un (by omega)]) (by rw [pasF_out (by omega), pk_us]) (fun q hq => by rw [pasF_in (by have := Nat.mul_le_mul hm6 hm6; omega)]; rfl) rfl hO⟩
      · omega
  · exact absurd (sz_r.mpr (sz_j h1 hm6)) c7
theorem p_board_n {S : CS} {G : Nat → Nat → Value} {B : Nat → Nat → Int32} {J : Nat → Nat → Int64} {R : Nat → Nat → Option Nat} {n : Nat} {W : WS} (hW : WC n S G B R W) {u : Int32} (hu : ¬ szP u) : CR 80 164 0 [some (.ref 2), some (.int u)] [] S G B J R (fun r__ S' G' B' J' R' => r__ = some (.int (-1)) ∧ WC (n + 1) S' G' B' R' (refW W (-1) 1)) := by
  have hS := hW.1.1
  have hF := hW.2.1
  have hO := hW.2.2.2.1
  obtain ⟨ta, ka, la, hH, hLk, hl2, hs3, hbd⟩ := hW.2.2.1
  refine cr_nx (pc' := 1) (al' := [some (.ref 2), some (.int u)]) (st' := [.int u]) d_164_0 (fun _ => rfl) ?_
  refine cr_ps (as := [.int u]) (al0 := [some (.int u)]) (r := []) d_164_1 cw_164 cm_11_119 (by decide) cz_121 rfl rfl rfl (Nat.le_of_ble_eq_true rfl) (k_isSize) ?_
  show CR _ _ 4 [some (.ref 2), some (.int u)] [.int (bI (szP u))] S G B J R _
  refine cr_bne (t := 13) d_164_4 (by decide) (fun c4 => ?_) (fun c4 => ?_)
  · exact absurd c4 hu
  · refine cr_nx (pc' := 8) (al' := [some (.ref 2), some (.int u)]) (st' := [.ref 2]) d_164_7 (fun _ => rfl) ?_
    refine cr_nx (pc' := 9) (al' := [some (.ref 2), some (.int u)]) (st' := [.int (-1), .ref 2]) d_164_8 (fun _ => rfl) ?_
    refine cr_pv (b := 2) (as := [.int (-1)]) (al0 := [some (.ref 2), some (.int (-1))]) (r := []) d_164_9 cw_164 cm_11_104 cz_119 rfl rfl (hS.i (a := 2) (by decide) (by decide)) (by rw [cw_119]; exact (hS.s (a := 2) (by decide) (by decide) rfl)) (by rw [cw_119]; decide) rfl (Nat.le_of_ble_eq_true rfl) (k_refuse (e := 1) hS hF (by decide) (by decide)) ?_
    show CR _ _ 12 [some (.ref 2), some (.int u)] [.int (-1)] S (up2 G 2 16 (.int (-1))) (upr B 145 (upd (B 145) 1 (B 145 1 + nI 1))) J R _
    exact cr_ri d_164_12 cx_164 rfl ⟨rfl, (hW.rf (by decide)).mo⟩
theorem r_board_n {g : Nat → Int32} {A : Nat → Nat → Int32} {n : Nat} {W : WS} (hW : WR n g A W) (hO : CoOk (wK W)) {u : Int32} (hu : ¬ szP u) : RR 80 278 0 [some (.ref 146), some (.int u), none] [] g A (fun r__ g' A' => r__ = some (.int (-1)) ∧ WR (n + 1) g' A' (refW W (-1) 1)) := by
  refine rr_nx (pc' := 1) (al' := [some (.ref 146), some (.int u), none]) (st' := [.int u]) d_278_0 (fun _ => rfl) ?_
  refine rn_ic (v := 1) d_278_1 (by decide) ?_
  refine rn_bp (v := 6) d_278_2 (by decide) ?_
  refine rr_ps (as := [.int u, .int (nI 1), .int (nI 6)]) (al0 := [some (.int u), some (.int (nI 1)), some (.int (nI 6))]) (r := []) d_278_4 mo_278 ml_106 mz_179 rfl rfl rfl (Nat.le_of_ble_eq_true rfl) (s_lies u (nI 1) (nI 6)) ?_
  show RR _ _ 7 [some (.ref 146), some (.int u), none] [.int (bI ((nI 1) ≤ u ∧ u ≤ (nI 6)))] g A _
  refine rr_bne (t := 16) d_278_7 (by decide) (fun c7 => ?_) (fun c7 => ?_)
  · exact absurd c7 (fun e_ => hu (sz_r.mp e_))
  · refine rr_nx (pc' := 11) (al' := [some (.ref 146), some (.int u), none]) (st' := [.ref 146]) d_278_10 (fun _ => rfl) ?_
    refine rr_nx (pc' := 12) (al' := [some (.ref 146), some (.int u), none]) (st' := [.int (-1), .ref 146]) d_278_11 (fun _ => rfl) ?_
    have hW1 := hW.q (g' := g) (A' := A) Gsm.rf Ksm.rf
    refine rr_pv (as := [.int (-1)]) (al0 := [some (.ref 146), some (.int (-1))]) (r := []) d_278_12 mo_278 ml_110 mz_180 rfl rfl rfl (Nat.le_of_ble_eq_true rfl) (s_refuses (e := 1) (by decide) (by decide)) ?_
    show RR _ _ 15 [some (.ref 146), some (.int u), none] [.int (-1)] (upd g 0 (-1)) (rf_u A 0 (upd (A 0) 1 (A 0 1 + nI 1))) _
    exact rr_ri d_278_15 mr_278 rfl ⟨rfl, (hW1.rf (by decide)).mo⟩
theorem T_board {S : CS} {G : Nat → Nat → Value} {B : Nat → Nat → Int32} {J : Nat → Nat → Int64} {R : Nat → Nat → Option Nat} {g : Nat → Int32} {A : Nat → Nat → Int32} {n : Nat} {W : WS} (hC : WC n S G B R W) (hR : WR n g A W) (hn : n ≤ 10000) {u : Int32} : Tie n 164 278 [some (.ref 2), some (.int u)] [some (.ref 146), some (.int u), none] S G B J R g A W := by
  have hO := hC.2.2.2.1
  by_cases hu : szP u
  · obtain ⟨m, h1, hm6, e_⟩ := sz_n hu
    subst e_
    exact ⟨_, _, p_board_y hC h1 hm6, r_board_y hR hO h1 hm6 hn⟩
  · exact ⟨_, _, p_board_n hC hu, r_board_n hR hO hu⟩
abbrev vaP (v : Int32) (m : Nat) : Prop := -1 ≤ v.toInt ∧ v.toInt < m
theorem va_n {v : Int32} {m : Nat} (h : vaP v m) : ∃ u : Option Nat, (∀ x, u = some x → x < m) ∧ v = oI u := by
  by_cases e : v.toInt = -1
  · exact ⟨none, fun x hx => (by cases hx), Int32.toInt_inj.mp (by rw [e]; rfl)⟩
  · obtain ⟨j, hj, e2⟩ := in_n (show inP v m from ⟨by omega, h.2⟩)
    exact ⟨some j, fun x hx => (by cases hx; exact hj), e2⟩
theorem va_o {u : Option Nat} {m : Nat} (hm : m ≤ 6) (h : ∀ x, u = some x → x < m) : vaP (oI u) m := by
  cases u with
  | none => exact ⟨by decide, by show (-1 : Int) < m; omega⟩
  | some x =>
    have := h x rfl
    show -1 ≤ (nI x).toInt ∧ (nI x).toInt < m
    rw [nI_toInt (by omega)]
    omega
theorem m1_i {m : Nat} (hm : m ≤ 6) : (nI m - nI 1).toInt = (m : Int) - 1 := by
  have : m = 0 ∨ m = 1 ∨ m = 2 ∨ m = 3 ∨ m = 4 ∨ m = 5 ∨ m = 6 := by omega
  rcases this with e | e | e | e | e | e | e <;> subst e <;> decide
theorem va_r {v : Int32} {m : Nat} (hm : m ≤ 6) : (-1 ≤ v ∧ v ≤ nI m - nI 1) ↔ vaP v m := by
  rw [Int32.le_iff_toInt_le, Int32.le_iff_toInt_le, m1_i hm, show (-1 : Int32).toInt = -1 from rfl]
  unfold vaP
  omega
theorem on_r {v : Int32} {m : Nat} (hm : m ≤ 6) : (nI 0 ≤ v ∧ v ≤ nI m - nI 1) ↔ inP v m := by
  rw [Int32.le_iff_toInt_le, Int32.le_iff_toInt_le, m1_i hm, show (nI 0).toInt = 0 from rfl]
  unfold inP
  omega
theorem i_ltm {v : Int32} : v < -1 ↔ v.toInt < -1 := Int32.lt_iff_toInt_lt
theorem s_isOnBoard {g : Nat → Int32} {A : Nat → Nat → Int32} {n : Nat} {W : WS} (hW : WR n g A W) (hO : CoOk (wK W)) {t u : Int32} : RR 1 280 0 [some (.ref 146), some (.int t), some (.int u)] [] g A (rP (some (.int (bI (inP t (kS (wK W)) ∧ inP u (kS (wK W)))))) g A) := by
  refine rr_nx (pc' := 1) (al' := [some (.ref 146), some (.int t), some (.int u)]) (st' := [.int t]) d_280_0 (fun _ => rfl) ?_
  refine rn_ic (v := 0) d_280_1 (by decide) ?_
  refine rr_nx (pc' := 3) (al' := [some (.ref 146), some (.int t), some (.int u)]) (st' := [.ref 146, .int (nI 0), .int t]) d_280_2 (fun _ => rfl) ?_
  refine rr_gf (v := .ref (147 + 1)) d_280_3 mo_280 fl_13 rfl ?_
  refine rn_sp (v := 222) d_280_6 (by decide) ?_
  refine rr_ia (j := 1) (v := (nI (kS (wK W)))) d_280_9 (by decide) rfl (by decide) (show 222 < 5720 by first | omega | assumption | exact cu_36 (by omega) (cu_lt (by omega) (by omega))) hW.1.2.2.2.1 ?_
  refine rn_ic (v := 1) d_280_10 (by decide) ?_
  refine rr_nx (pc' := 12) (al' := [some (.ref 146), some (.int t), some (.int u)]) (st' := [.int ((nI (kS (wK W))) - (nI 1)), .int (nI 0), .int t]) d_280_11 (fun _ => rfl) ?_
  refine rr_ps (as := [.int t, .int (nI 0), .int ((nI (kS (wK W))) - (nI 1))]) (al0 := [some (.int t), some (.int (nI 0)), some (.int ((nI (kS (wK W))) - (nI 1)))]) (r := []) d_280_12 mo_280 ml_106 mz_179 rfl rfl rfl (Nat.le_of_ble_eq_true rfl) (s_lies t (nI 0) ((nI (kS (wK W))) - (nI 1))) ?_
  show RR _ _ 15 [some (.ref 146), some (.int t), some (.int u)] [.int (bI ((nI 0) ≤ t ∧ t ≤ ((nI (kS (wK W))) - (nI 1))))] g A _
  refine rr_beq (t := 40) d_280_15 (by decide) (fun c15 => ?_) (fun c15 => ?_)
  · refine rn_ic (v := 0) d_280_40 (by decide) ?_
    exact rr_ri d_280_41 mr_280 (by decide) ⟨by rw [← bI_f (show ¬ (inP t (kS (wK W)) ∧ inP u (kS (wK W))) from fun e_ => by first | exact c33 ((on_r hO.2.2.2.1).mpr e_.2) | exact c15 ((on_r hO.2.2.2.1).mpr e_.1))], rfl, rfl⟩
  · refine rr_nx (pc' := 19) (al' := [some (.ref 146), some (.int t), some (.int u)]) (st' := [.int u]) d_280_18 (fun _ => rfl) ?_
    refine rn_ic (v := 0) d_280_19 (by decide) ?_
    refine rr_nx (pc' := 21) (al' := [some (.ref 146), some (.int t), some (.int u)]) (st' := [.ref 146, .int (nI 0), .int u]) d_280_20 (fun _ => rfl) ?_
    refine rr_gf (v := .ref (147 + 1)) d_280_21 mo_280 fl_13 rfl ?_
    refine rn_sp (v := 222) d_280_24 (by decide) ?_
    refine rr_ia (j := 1) (v := (nI (kS (wK W)))) d_280_27 (by decide) rfl (by decide) (show 222 < 5720 by first | omega | assumption | exact cu_36 (by omega) (cu_lt (by omega) (by omega))) hW.1.2.2.2.1 ?_
    refine rn_ic (v := 1) d_280_28 (by decide) ?_
    refine rr_nx (pc' := 30) (al' := [some (.ref 146), some (.int t), some (.int u)]) (st' := [.int ((nI (kS (wK W))) - (nI 1)), .int (nI 0), .int u]) d_280_29 (fun _ => rfl) ?_
    refine rr_ps (as := [.int u, .int (nI 0), .int ((nI (kS (wK W))) - (nI 1))]) (al0 := [some (.int u), some (.int (nI 0)), some (.int ((nI (kS (wK W))) - (nI 1)))]) (r := []) d_280_30 mo_280 ml_106 mz_179 rfl rfl rfl (Nat.le_of_ble_eq_true rfl) (s_lies u (nI 0) ((nI (kS (wK W))) - (nI 1))) ?_
    show RR _ _ 33 [some (.ref 146), some (.int t), some (.int u)] [.int (bI ((nI 0) ≤ u ∧ u ≤ ((nI (kS (wK W))) - (nI 1))))] g A _
    refine rr_beq (t := 40) d_280_33 (by decide) (fun c33 => ?_) (fun c33 => ?_)
    · refine rn_ic (v := 0) d_280_40 (by decide) ?_
      exact rr_ri d_280_41 mr_280 (by decide) ⟨by rw [← bI_f (show ¬ (inP t (kS (wK W)) ∧ inP u (kS (wK W))) from fun e_ => by first | exact c33 ((on_r hO.2.2.2.1).mpr e_.2) | exact c15 ((on_r hO.2.2.2.1).mpr e_.1))], rfl, rfl⟩
    · refine rn_ic (v := 1) d_280_36 (by decide) ?_
      refine rr_nx (pc' := 41) (al' := [some (.ref 146), some (.int t), some (.int u)]) (st' := [.int (nI 1)]) d_280_37 (fun _ => rfl) ?_
      exact rr_ri d_280_41 mr_280 (by decide) ⟨by rw [← bI_t (show inP t (kS (wK W)) ∧ inP u (kS (wK W)) from ⟨(on_r hO.2.2.2.1).mp c15, (on_r hO.2.2.2.1).mp c33⟩)], rfl, rfl⟩
theorem p_clue_y {S : CS} {G : Nat → Nat → Value} {B : Nat → Nat → Int32} {J : Nat → Nat → Int64} {R : Nat → Nat → Option Nat} {n : Nat} {W : WS} (hW : WC n S G B R W) {p q : Nat} (hp : p < kS (wK W)) (hq : q < kS (wK W)) {u : Option Nat} (hu : ∀ x, u = some x → x < kS (wK W)) : CR 80 165 0 [some (.ref 2), some (.int (nI p)), some (.int (nI q)), some (.int (oI u)), none, none] [] S G B J R (fun r__ S' G' B' J' R' => r__ = some (.int (oI (kB (wK W) (kS (wK W) * p + q)))) ∧ WC (n + 1) S' G' B' R' (bdW W (kS (wK W)) (fun i => if i = kS (wK W) * p + q then u else kB (wK W) i))) := by
  have hS := hW.1.1
  have hF := hW.2.1
  have hO := hW.2.2.2.1
  obtain ⟨ta, ka, la, hH, hLk, hl2, hs3, hbd⟩ := hW.2.2.1
  have hS6 := hO.2.2.2.1
  have h36 := Nat.mul_le_mul hS6 hS6
  have hva := va_o hS6 hu
  have hlt : kS (wK W) * p + q < kS (wK W) * kS (wK W) := cu_lt hp hq
  refine cr_nx (pc' := 1) (al' := [some (.ref 2), some (.int (nI p)), some (.int (nI q)), some (.int (oI u)), none, none]) (st' := [.ref 2]) d_165_0 (fun _ => rfl) ?_
  refine cr_gf (v := .ref 3) d_165_1 cw_165 cf_11_10 (hS.i (a := 2) (by decide) (by decide)) (hS.s (a := 2) (by decide) (by decide) rfl) (by decide) (fx_2_0 hF) ?_
  refine cr_gf (v := .int (nI (kS (wK W)))) d_165_4 cw_165 cf_11_342 (hS.i (a := 3) (by decide) (by decide)) (hS.s (a := 3) (by decide) (by decide) rfl) (by decide) hs3 ?_
  refine cr_nx (pc' := 9) (al' := [some (.ref 2), some (.int (nI p)), some (.int (nI q)), some (.int (oI u)), some (.int (nI (kS (wK W)))), none]) (st' := []) d_165_7 (fun _ => rfl) ?_
  refine cr_nx (pc' := 10) (al' := [some (.ref 2), some (.int (nI p)), some (.int (nI q)), some (.int (oI u)), some (.int (nI (kS (wK W)))), none]) (st' := [.ref 2]) d_165_9 (fun _ => rfl) ?_
  refine cr_nx (pc' := 11) (al' := [some (.ref 2), some (.int (nI p)), some (.int (nI q)), some (.int (oI u)), some (.int (nI (kS (wK W)))), none]) (st' := [.int (nI p), .ref 2]) d_165_10 (fun _ => rfl) ?_
  refine cr_nx (pc' := 12) (al' := [some (.ref 2), some (.int (nI p)), some (.int (nI q)), some (.int (oI u)), some (.int (nI (kS (wK W)))), none]) (st' := [.int (nI q), .int (nI p), .ref 2]) d_165_11 (fun _ => rfl) ?_
  refine cr_pv (b := 2) (as := [.int (nI p), .int (nI q)]) (al0 := [some (.ref 2), some (.int (nI p)), some (.int (nI q))]) (r := []) d_165_12 cw_165 cm_11_354 cz_166 rfl rfl (hS.i (a := 2) (by decide) (by decide)) (by rw [cw_166]; exact (hS.s (a := 2) (by decide) (by decide) rfl)) (by rw [cw_166]; decide) rfl (Nat.le_of_ble_eq_true rfl) (k_isClueCell hS hF hs3 hO.2.2.2.1) ?_
  show CR _ _ 15 [some (.ref 2), some (.int (nI p)), some (.int (nI q)), some (.int (oI u)), some (.int (nI (kS (wK W)))), none] [.int (bI (inP (nI p) (kS (wK W)) ∧ inP (nI q) (kS (wK W))))] S G B J R _
  refine cr_beq (t := 29) d_165_15 (by decide) (fun c15 => ?_) (fun c15 => ?_)
  · exact absurd ⟨(in_j (by omega)).mpr hp, (in_j (by omega)).mpr hq⟩ c15
  · refine cr_nx (pc' := 19) (al' := [some (.ref 2), some (.int (nI p)), some (.int (nI q)), some (.int (oI u)), some (.int (nI (kS (wK W)))), none]) (st' := [.int (oI u)]) d_165_18 (fun _ => rfl) ?_
    refine cr_nx (pc' := 20) (al' := [some (.ref 2), some (.int (nI p)), some (.int (nI q)), some (.int (oI u)), some (.int (nI (kS (wK W)))), none]) (st' := [.int (-1), .int (oI u)]) d_165_19 (fun _ => rfl) ?_
    refine cr_clt (t := 29) d_165_20 (by decide) (fun c20 => ?_) (fun c20 => ?_)
    · exact absurd hva.1 (by rw [i_ltm] at c20; omega)
    · refine cr_nx (pc' := 24) (al' := [some (.ref 2), some (.int (nI p)), some (.int (nI q)), some (.int (oI u)), some (.int (nI (kS (wK W)))), none]) (st' := [.int (oI u)]) d_165_23 (fun _ => rfl) ?_
      refine cr_nx (pc' := 26) (al' := [some (.ref 2), some (.int (nI p)), some (.int (nI q)), some (.int (oI u)), some (.int (nI (kS (wK W)))), none]) (st' := [.int (nI (kS (wK W))), .int (oI u)]) d_165_24 (fun _ => rfl) ?_
      refine cr_clt (t := 35) d_165_26 (by decide) (fun c26 => ?_) (fun c26 => ?_)
      · refine cr_nx (pc' := 36) (al' := [some (.ref 2), some (.int (nI p)), some (.int (nI q)), some (.int (oI u)), some (.int (nI (kS (wK W)))), none]) (st' := [.ref 2]) d_165_35 (fun _ => rfl) ?_
        refine cr_gf (v := .ref 3) d_165_36 cw_165 cf_11_10 (hS.i (a := 2) (by decide) (by decide)) (hS.s (a := 2) (by decide) (by decide) rfl) (by decide) (fx_2_0 hF) ?_
        refine cr_gf (v := .ref 6) d_165_39 cw_165 cf_11_345 (hS.i (a := 3) (by decide) (by decide)) (hS.s (a := 3) (by decide) (by decide) rfl) (by decide) (fx_3_4 hF) ?_
        refine cr_nx (pc' := 44) (al' := [some (.ref 2), some (.int (nI p)), some (.int (nI q)), some (.int (oI u)), some (.int (nI (kS (wK W)))), none]) (st' := [.int (nI (kS (wK W))), .ref 6]) d_165_42 (fun _ => rfl) ?_
        refine cr_nx (pc' := 45) (al' := [some (.ref 2), some (.int (nI p)), some (.int (nI q)), some (.int (oI u)), some (.int (nI (kS (wK W)))), none]) (st' := [.int (nI p), .int (nI (kS (wK W))), .ref 6]) d_165_44 (fun _ => rfl) ?_
        refine cn_mul d_165_45  ?_
        refine cr_nx (pc' := 47) (al' := [some (.ref 2), some (.int (nI p)), some (.int (nI q)), some (.int (oI u)), some (.int (nI (kS (wK W)))), none]) (st' := [.int (nI q), .int (nI ((kS (wK W)) * p)), .ref 6]) d_165_46 (fun _ => rfl) ?_
        refine cn_add d_165_47  ?_
        refine cr_ia (a := 6) (v := (oI (kB (wK W) (kS (wK W) * p + q)))) d_165_48 (hS.i (a := 6) (by decide) (by decide)) (hS.s (a := 6) (by decide) (by decide) rfl) (by first | decide | omega) (show ((kS (wK W)) * p) + q < 36 by omega) (hbd _ hlt) ?_
        refine cr_nx (pc' := 51) (al' := [some (.ref 2), some (.int (nI p)), some (.int (nI q)), some (.int (oI u)), some (.int (nI (kS (wK W)))), some (.int (oI (kB (wK W) (kS (wK W) * p + q))))]) (st' := []) d_165_49 (fun _ => rfl) ?_
        refine cr_nx (pc' := 52) (al' := [some (.ref 2), some (.int (nI p)), some (.int (nI q)), some (.int (oI u)), some (.int (nI (kS (wK W)))), some (.int (oI (kB (wK W) (kS (wK W) * p + q))))]) (st' := [.ref 2]) d_165_51 (fun _ => rfl) ?_
        refine cr_gf (v := .ref 3) d_165_52 cw_165 cf_11_10 (hS.i (a := 2) (by decide) (by decide)) (hS.s (a := 2) (by decide) (by decide) rfl) (by decide) (fx_2_0 hF) ?_
        refine cr_gf (v := .ref 6) d_165_55 cw_165 cf_11_345 (hS.i (a := 3) (by decide) (by decide)) (hS.s (a := 3) (by decide) (by decide) rfl) (by decide) (fx_3_4 hF) ?_
        refine cr_nx (pc' := 60) (al' := [some (.ref 2), some (.int (nI p)), some (.int (nI q)), some (.int (oI u)), some (.int (nI (kS (wK W)))), some (.int (oI (kB (wK W) (kS (wK W) * p + q))))]) (st' := [.int (nI (kS (wK W))), .ref 6]) d_165_58 (fun _ => rfl) ?_
        refine cr_nx (pc' := 61) (al' := [some (.ref 2), some (.int (nI p)), some (.int (nI q)), some (.int (oI u)), some (.int (nI (kS (wK W)))), some (.int (oI (kB (wK W) (kS (wK W) * p + q))))]) (st' := [.int (nI p), .int (nI (kS (wK W))), .ref 6]) d_165_60 (fun _ => rfl) ?_
        refine cn_mul d_165_61  ?_
        refine cr_nx (pc' := 63) (al' := [some (.ref 2), some (.int (nI p)), some (.int (nI q)), some (.int (oI u)), some (.int (nI (kS (wK W)))), some (.int (oI (kB (wK W) (kS (wK W) * p + q))))]) (st' := [.int (nI q), .int (nI ((kS (wK W)) * p)), .ref 6]) d_165_62 (fun _ => rfl) ?_
        refine cn_add d_165_63  ?_
        refine cr_nx (pc' := 65) (al' := [some (.ref 2), some (.int (nI p)), some (.int (nI q)), some (.int (oI u)), some (.int (nI (kS (wK W)))), some (.int (oI (kB (wK W) (kS (wK W) * p + q))))]) (st' := [.int (oI u), .int (nI (((kS (wK W)) * p) + q)), .ref 6]) d_165_64 (fun _ => rfl) ?_
        refine cr_iS (a := 6) (B1 := (upr B 6 (upd (B 6) (((kS (wK W)) * p) + q) (oI u)))) d_165_65 (hS.i (a := 6) (by decide) (by decide)) (hS.s (a := 6) (by decide) (by decide) rfl) (by first | decide | omega) (show ((kS (wK W)) * p) + q < 36 by omega) rfl ?_
        refine cr_nx (pc' := 67) (al' := [some (.ref 2), some (.int (nI p)), some (.int (nI q)), some (.int (oI u)), some (.int (nI (kS (wK W)))), some (.int (oI (kB (wK W) (kS (wK W) * p + q))))]) (st' := [.ref 2]) d_165_66 (fun _ => rfl) ?_
        refine cr_nx (pc' := 69) (al' := [some (.ref 2), some (.int (nI p)), some (.int (nI q)), some (.int (oI u)), some (.int (nI (kS (wK W)))), some (.int (oI (kB (wK W) (kS (wK W) * p + q))))]) (st' := [.int (oI (kB (wK W) (kS (wK W) * p + q))), .ref 2]) d_165_67 (fun _ => rfl) ?_
        refine cr_pv (b := 2) (as := [.int (oI (kB (wK W) (kS (wK W) * p + q)))]) (al0 := [some (.ref 2), some (.int (oI (kB (wK W) (kS (wK W) * p + q))))]) (r := []) d_165_69 cw_165 cm_11_212 cz_123 rfl rfl (hS.i (a := 2) (by decide) (by decide)) (by rw [cw_123]; exact (hS.s (a := 2) (by decide) (by decide) rfl)) (by rw [cw_123]; decide) rfl (Nat.le_of_ble_eq_true rfl) (k_accept hS) ?_
        show CR _ _ 72 [some (.ref 2), some (.int (nI p)), some (.int (nI q)), some (.int (oI u)), some (.int (nI (kS (wK W)))), some (.int (oI (kB (wK W) (kS (wK W) * p + q))))] [.int (oI (kB (wK W) (kS (wK W) * p + q)))] S (up2 G 2 16 (.int (nI 0))) (upr B 6 (upd (B 6) (((kS (wK W)) * p) + q) (oI u))) J R _
        exact cr_ri d_165_72 cx_165 rfl ⟨rfl, (hW.bd hF.u2 (fun b hb hb3 => up2_g hb) (fun k hk => up2_n (fun e => absurd e.1 (by decide))) (by rw [up2_n (by decide)]; exact hs3) (fun k hk => up2_n (fun e => hk e.2)) up2_s (fun b hb => upr_n hb) hS6 (fun i v_ e_ => if ei : i = kS (wK W) * p + q then (by rw [if_pos ei] at e_; exact ⟨by rw [ei]; exact hlt, hu v_ e_⟩) else (by rw [if_neg ei] at e_; exact hO.2.2.2.2 i v_ e_)) (fun i hi => if ei : i = kS (wK W) * p + q then (by rw [upr_s, if_pos ei, ei, pk_us]) else (by rw [upr_s, if_neg ei, pk_un ei]; exact hbd i hi))).mo⟩
      · exact absurd ((i_ltN (by omega)).mpr hva.2) c26
theorem r_clue_y {g : Nat → Int32} {A : Nat → Nat → Int32} {n : Nat} {W : WS} (hW : WR n g A W) (hO : CoOk (wK W)) {p q : Nat} (hp : p < kS (wK W)) (hq : q < kS (wK W)) {u : Option Nat} (hu : ∀ x, u = some x → x < kS (wK W)) (hn5 : n ≤ 10000) : RR 80 279 0 [some (.ref 146), some (.int (nI p)), some (.int (nI q)), some (.int (oI u)), none, none] [] g A (fun r__ g' A' => r__ = some (.int (oI (kB (wK W) (kS (wK W) * p + q)))) ∧ WR (n + 1) g' A' (bdW W (kS (wK W)) (fun i => if i = kS (wK W) * p + q then u else kB (wK W) i))) := by
  have hS6 := hO.2.2.2.1
  have h36 := Nat.mul_le_mul hS6 hS6
  have hva := va_o hS6 hu
  have hlt : kS (wK W) * p + q < kS (wK W) * kS (wK W) := cu_lt hp hq
  refine rr_nx (pc' := 1) (al' := [some (.ref 146), some (.int (nI p)), some (.int (nI q)), some (.int (oI u)), none, none]) (st' := [.ref 146]) d_279_0 (fun _ => rfl) ?_
  refine rr_nx (pc' := 2) (al' := [some (.ref 146), some (.int (nI p)), some (.int (nI q)), some (.int (oI u)), none, none]) (st' := [.int (nI p), .ref 146]) d_279_1 (fun _ => rfl) ?_
  refine rr_nx (pc' := 3) (al' := [some (.ref 146), some (.int (nI p)), some (.int (nI q)), some (.int (oI u)), none, none]) (st' := [.int (nI q), .int (nI p), .ref 146]) d_279_2 (fun _ => rfl) ?_
  refine rr_pv (as := [.int (nI p), .int (nI q)]) (al0 := [some (.ref 146), some (.int (nI p)), some (.int (nI q))]) (r := []) d_279_3 mo_279 ml_380 mz_280 rfl rfl rfl (Nat.le_of_ble_eq_true rfl) (s_isOnBoard hW hO) ?_
  show RR _ _ 6 [some (.ref 146), some (.int (nI p)), some (.int (nI q)), some (.int (oI u)), none, none] [.int (bI (inP (nI p) (kS (wK W)) ∧ inP (nI q) (kS (wK W))))] g A _
  refine rr_beq (t := 27) d_279_6 (by decide) (fun c6 => ?_) (fun c6 => ?_)
  · exact absurd ⟨(in_j (by omega)).mpr hp, (in_j (by omega)).mpr hq⟩ c6
  · refine rr_nx (pc' := 10) (al' := [some (.ref 146), some (.int (nI p)), some (.int (nI q)), some (.int (oI u)), none, none]) (st' := [.int (oI u)]) d_279_9 (fun _ => rfl) ?_
    refine rr_nx (pc' := 11) (al' := [some (.ref 146), some (.int (nI p)), some (.int (nI q)), some (.int (oI u)), none, none]) (st' := [.int (-1), .int (oI u)]) d_279_10 (fun _ => rfl) ?_
    refine rr_nx (pc' := 12) (al' := [some (.ref 146), some (.int (nI p)), some (.int (nI q)), some (.int (oI u)), none, none]) (st' := [.ref 146, .int (-1), .int (oI u)]) d_279_11 (fun _ => rfl) ?_
    refine rr_gf (v := .ref (147 + 1)) d_279_12 mo_279 fl_13 rfl ?_
    refine rn_sp (v := 222) d_279_15 (by decide) ?_
    refine rr_ia (j := 1) (v := (nI (kS (wK W)))) d_279_18 (by decide) rfl (by decide) (show 222 < 5720 by first | omega | assumption | exact cu_36 (by omega) (cu_lt (by omega) (by omega))) hW.1.2.2.2.1 ?_
    refine rn_ic (v := 1) d_279_19 (by decide) ?_
    refine rr_nx (pc' := 21) (al' := [some (.ref 146), some (.int (nI p)), some (.int (nI q)), some (.int (oI u)), none, none]) (st' := [.int ((nI (kS (wK W))) - (nI 1)), .int (-1), .int (oI u)]) d_279_20 (fun _ => rfl) ?_
    refine rr_ps (as := [.int (oI u), .int (-1), .int ((nI (kS (wK W))) - (nI 1))]) (al0 := [some (.int (oI u)), some (.int (-1)), some (.int ((nI (kS (wK W))) - (nI 1)))]) (r := []) d_279_21 mo_279 ml_106 mz_179 rfl rfl rfl (Nat.le_of_ble_eq_true rfl) (s_lies (oI u) (-1) ((nI (kS (wK W))) - (nI 1))) ?_
    show RR _ _ 24 [some (.ref 146), some (.int (nI p)), some (.int (nI q)), some (.int (oI u)), none, none] [.int (bI ((-1) ≤ (oI u) ∧ (oI u) ≤ ((nI (kS (wK W))) - (nI 1))))] g A _
    refine rr_bne (t := 33) d_279_24 (by decide) (fun c24 => ?_) (fun c24 => ?_)
    · refine rn_sp (v := 223) d_279_33 (by decide) ?_
      refine rr_nx (pc' := 37) (al' := [some (.ref 146), some (.int (nI p)), some (.int (nI q)), some (.int (oI u)), none, none]) (st' := [.ref 146, .int (nI 223)]) d_279_36 (fun _ => rfl) ?_
      refine rr_gf (v := .ref (147 + 1)) d_279_37 mo_279 fl_13 rfl ?_
      refine rn_sp (v := 222) d_279_40 (by decide) ?_
      refine rr_ia (j := 1) (v := (nI (kS (wK W)))) d_279_43 (by decide) rfl (by decide) (show 222 < 5720 by first | omega | assumption | exact cu_36 (by omega) (cu_lt (by omega) (by omega))) hW.1.2.2.2.1 ?_
      refine rr_nx (pc' := 45) (al' := [some (.ref 146), some (.int (nI p)), some (.int (nI q)), some (.int (oI u)), none, none]) (st' := [.int (nI p), .int (nI (kS (wK W))), .int (nI 223)]) d_279_44 (fun _ => rfl) ?_
      refine rn_mul d_279_45  ?_
      refine rn_add d_279_46  ?_
      refine rr_nx (pc' := 48) (al' := [some (.ref 146), some (.int (nI p)), some (.int (nI q)), some (.int (oI u)), none, none]) (st' := [.int (nI q), .int (nI (223 + ((kS (wK W)) * p)))]) d_279_47 (fun _ => rfl) ?_
      refine rn_add d_279_48  ?_
      refine rr_nx (pc' := 51) (al' := [some (.ref 146), some (.int (nI p)), some (.int (nI q)), some (.int (oI u)), some (.int (nI ((223 + ((kS (wK W)) * p)) + q))), none]) (st' := []) d_279_49 (fun _ => rfl) ?_
      refine rr_nx (pc' := 52) (al' := [some (.ref 146), some (.int (nI p)), some (.int (nI q)), some (.int (oI u)), some (.int (nI ((223 + ((kS (wK W)) * p)) + q))), none]) (st' := [.ref 146]) d_279_51 (fun _ => rfl) ?_
      refine rr_gf (v := .ref (147 + 1)) d_279_52 mo_279 fl_13 rfl ?_
      refine rr_nx (pc' := 57) (al' := [some (.ref 146), some (.int (nI p)), some (.int (nI q)), some (.int (oI u)), some (.int (nI ((223 + ((kS (wK W)) * p)) + q))), none]) (st' := [.int (nI ((223 + ((kS (wK W)) * p)) + q)), .ref (147 + 1)]) d_279_55 (fun _ => rfl) ?_
      refine rr_ia (j := 1) (v := (oI (kB (wK W) (kS (wK W) * p + q)))) d_279_57 (by decide) rfl (by decide) (show (223 + ((kS (wK W)) * p)) + q < 5720 by omega) (by rw [show 223 + kS (wK W) * p + q = 223 + (kS (wK W) * p + q) by omega]; exact hW.1.2.2.2.2 _ hlt) ?_
      refine rr_nx (pc' := 60) (al' := [some (.ref 146), some (.int (nI p)), some (.int (nI q)), some (.int (oI u)), some (.int (nI ((223 + ((kS (wK W)) * p)) + q))), some (.int (oI (kB (wK W) (kS (wK W) * p + q))))]) (st' := []) d_279_58 (fun _ => rfl) ?_
      refine rr_nx (pc' := 61) (al' := [some (.ref 146), some (.int (nI p)), some (.int (nI q)), some (.int (oI u)), some (.int (nI ((223 + ((kS (wK W)) * p)) + q))), some (.int (oI (kB (wK W) (kS (wK W) * p + q))))]) (st' := [.ref 146]) d_279_60 (fun _ => rfl) ?_
      refine rr_gf (v := .ref (147 + 1)) d_279_61 mo_279 fl_13 rfl ?_
      refine rr_nx (pc' := 66) (al' := [some (.ref 146), some (.int (nI p)), some (.int (nI q)), some (.int (oI u)), some (.int (nI ((223 + ((kS (wK W)) * p)) + q))), some (.int (oI (kB (wK W) (kS (wK W) * p + q))))]) (st' := [.int (nI ((223 + ((kS (wK W)) * p)) + q)), .ref (147 + 1)]) d_279_64 (fun _ => rfl) ?_
      refine rr_nx (pc' := 67) (al' := [some (.ref 146), some (.int (nI p)), some (.int (nI q)), some (.int (oI u)), some (.int (nI ((223 + ((kS (wK W)) * p)) + q))), some (.int (oI (kB (wK W) (kS (wK W) * p + q))))]) (st' := [.int (oI u), .int (nI ((223 + ((kS (wK W)) * p)) + q)), .ref (147 + 1)]) d_279_66 (fun _ => rfl) ?_
      refine rr_iS (j := 1) (A1 := (rf_u A 1 (upd (A 1) ((223 + ((kS (wK W)) * p)) + q) (oI u)))) d_279_67 (by decide) rfl (by decide) (show (223 + ((kS (wK W)) * p)) + q < 5720 by omega) rfl ?_
      refine rr_nx (pc' := 69) (al' := [some (.ref 146), some (.int (nI p)), some (.int (nI q)), some (.int (oI u)), some (.int (nI ((223 + ((kS (wK W)) * p)) + q))), some (.int (oI (kB (wK W) (kS (wK W) * p + q))))]) (st' := [.ref 146]) d_279_68 (fun _ => rfl) ?_
      refine rr_nx (pc' := 71) (al' := [some (.ref 146), some (.int (nI p)), some (.int (nI q)), some (.int (oI u)), some (.int (nI ((223 + ((kS (wK W)) * p)) + q))), some (.int (oI (kB (wK W) (kS (wK W) * p + q))))]) (st' := [.int (oI (kB (wK W) (kS (wK W) * p + q))), .ref 146]) d_279_69 (fun _ => rfl) ?_
      refine rr_pv (as := [.int (oI (kB (wK W) (kS (wK W) * p + q)))]) (al0 := [some (.ref 146), some (.int (oI (kB (wK W) (kS (wK W) * p + q))))]) (r := []) d_279_71 mo_279 ml_114 mz_181 rfl rfl rfl (Nat.le_of_ble_eq_true rfl) (s_good _) ?_
      show RR _ _ 74 [some (.ref 146), some (.int (nI p)), some (.int (nI q)), some (.int (oI u)), some (.int (nI ((223 + ((kS (wK W)) * p)) + q))), some (.int (oI (kB (wK W) (kS (wK W) * p + q))))] [.int (oI (kB (wK W) (kS (wK W) * p + q)))] (upd (upd g 0 (nI 0)) 1 (g 1 + nI 1)) (rf_u A 1 (upd (A 1) ((223 + ((kS (wK W)) * p)) + q) (oI u))) _
      exact rr_ri d_279_74 mr_279 rfl ⟨rfl, hW.bd (by omega) (fun i hi => by rw [pk_un (by omega)]) (by rw [pk_un (by omega)]; exact hW.1.2.2.2.1) (fun i hi => if ei : i = kS (wK W) * p + q then (by rw [if_pos ei, ei, ← Nat.add_assoc, pk_us]) else (by rw [if_neg ei, pk_un (by omega)]; exact hW.1.2.2.2.2 i hi)) rfl hO⟩
    · exact absurd ((va_r hS6).mpr hva) c24
theorem p_clue_n {S : CS} {G : Nat → Nat → Value} {B : Nat → Nat → Int32} {J : Nat → Nat → Int64} {R : Nat → Nat → Option Nat} {n : Nat} {W : WS} (hW : WC n S G B R W) {x z v : Int32} (hx : ¬ ((inP x (kS (wK W)) ∧ inP z (kS (wK W))) ∧ vaP v (kS (wK W)))) : CR 80 165 0 [some (.ref 2), some (.int x), some (.int z), some (.int v), none, none] [] S G B J R (fun r__ S' G' B' J' R' => r__ = some (.int (-1)) ∧ WC (n + 1) S' G' B' R' (refW W (-1) 1)) := by
  have hS := hW.1.1
  have hF := hW.2.1
  have hO := hW.2.2.2.1
  obtain ⟨ta, ka, la, hH, hLk, hl2, hs3, hbd⟩ := hW.2.2.1
  have hS6 := hO.2.2.2.1
  refine cr_nx (pc' := 1) (al' := [some (.ref 2), some (.int x), some (.int z), some (.int v), none, none]) (st' := [.ref 2]) d_165_0 (fun _ => rfl) ?_
  refine cr_gf (v := .ref 3) d_165_1 cw_165 cf_11_10 (hS.i (a := 2) (by decide) (by decide)) (hS.s (a := 2) (by decide) (by decide) rfl) (by decide) (fx_2_0 hF) ?_
  refine cr_gf (v := .int (nI (kS (wK W)))) d_165_4 cw_165 cf_11_342 (hS.i (a := 3) (by decide) (by decide)) (hS.s (a := 3) (by decide) (by decide) rfl) (by decide) hs3 ?_
  refine cr_nx (pc' := 9) (al' := [some (.ref 2), some (.int x), some (.int z), some (.int v), some (.int (nI (kS (wK W)))), none]) (st' := []) d_165_7 (fun _ => rfl) ?_
  refine cr_nx (pc' := 10) (al' := [some (.ref 2), some (.int x), some (.int z), some (.int v), some (.int (nI (kS (wK W)))), none]) (st' := [.ref 2]) d_165_9 (fun _ => rfl) ?_
  refine cr_nx (pc' := 11) (al' := [some (.ref 2), some (.int x), some (.int z), some (.int v), some (.int (nI (kS (wK W)))), none]) (st' := [.int x, .ref 2]) d_165_10 (fun _ => rfl) ?_
  refine cr_nx (pc' := 12) (al' := [some (.ref 2), some (.int x), some (.int z), some (.int v), some (.int (nI (kS (wK W)))), none]) (st' := [.int z, .int x, .ref 2]) d_165_11 (fun _ => rfl) ?_
  refine cr_pv (b := 2) (as := [.int x, .int z]) (al0 := [some (.ref 2), some (.int x), some (.int z)]) (r := []) d_165_12 cw_165 cm_11_354 cz_166 rfl rfl (hS.i (a := 2) (by decide) (by decide)) (by rw [cw_166]; exact (hS.s (a := 2) (by decide) (by decide) rfl)) (by rw [cw_166]; decide) rfl (Nat.le_of_ble_eq_true rfl) (k_isClueCell hS hF hs3 hO.2.2.2.1) ?_
  show CR _ _ 15 [some (.ref 2), some (.int x), some (.int z), some (.int v), some (.int (nI (kS (wK W)))), none] [.int (bI (inP x (kS (wK W)) ∧ inP z (kS (wK W))))] S G B J R _
  refine cr_beq (t := 29) d_165_15 (by decide) (fun c15 => ?_) (fun c15 => ?_)
  · refine cr_nx (pc' := 30) (al' := [some (.ref 2), some (.int x), some (.int z), some (.int v), some (.int (nI (kS (wK W)))), none]) (st' := [.ref 2]) d_165_29 (fun _ => rfl) ?_
    refine cr_nx (pc' := 31) (al' := [some (.ref 2), some (.int x), some (.int z), some (.int v), some (.int (nI (kS (wK W)))), none]) (st' := [.int (-1), .ref 2]) d_165_30 (fun _ => rfl) ?_
    refine cr_pv (b := 2) (as := [.int (-1)]) (al0 := [some (.ref 2), some (.int (-1))]) (r := []) d_165_31 cw_165 cm_11_104 cz_119 rfl rfl (hS.i (a := 2) (by decide) (by decide)) (by rw [cw_119]; exact (hS.s (a := 2) (by decide) (by decide) rfl)) (by rw [cw_119]; decide) rfl (Nat.le_of_ble_eq_true rfl) (k_refuse (e := 1) hS hF (by decide) (by decide)) ?_
    show CR _ _ 34 [some (.ref 2), some (.int x), some (.int z), some (.int v), some (.int (nI (kS (wK W)))), none] [.int (-1)] S (up2 G 2 16 (.int (-1))) (upr B 145 (upd (B 145) 1 (B 145 1 + nI 1))) J R _
    exact cr_ri d_165_34 cx_165 rfl ⟨rfl, (hW.rf (by decide)).mo⟩
  · refine cr_nx (pc' := 19) (al' := [some (.ref 2), some (.int x), some (.int z), some (.int v), some (.int (nI (kS (wK W)))), none]) (st' := [.int v]) d_165_18 (fun _ => rfl) ?_
    refine cr_nx (pc' := 20) (al' := [some (.ref 2), some (.int x), some (.int z), some (.int v), some (.int (nI (kS (wK W)))), none]) (st' := [.int (-1), .int v]) d_165_19 (fun _ => rfl) ?_
    refine cr_clt (t := 29) d_165_20 (by decide) (fun c20 => ?_) (fun c20 => ?_)
    · refine cr_nx (pc' := 30) (al' := [some (.ref 2), some (.int x), some (.int z), some (.int v), some (.int (nI (kS (wK W)))), none]) (st' := [.ref 2]) d_165_29 (fun _ => rfl) ?_
      refine cr_nx (pc' := 31) (al' := [some (.ref 2), some (.int x), some (.int z), some (.int v), some (.int (nI (kS (wK W)))), none]) (st' := [.int (-1), .ref 2]) d_165_30 (fun _ => rfl) ?_
      refine cr_pv (b := 2) (as := [.int (-1)]) (al0 := [some (.ref 2), some (.int (-1))]) (r := []) d_165_31 cw_165 cm_11_104 cz_119 rfl rfl (hS.i (a := 2) (by decide) (by decide)) (by rw [cw_119]; exact (hS.s (a := 2) (by decide) (by decide) rfl)) (by rw [cw_119]; decide) rfl (Nat.le_of_ble_eq_true rfl) (k_refuse (e := 1) hS hF (by decide) (by decide)) ?_
      show CR _ _ 34 [some (.ref 2), some (.int x), some (.int z), some (.int v), some (.int (nI (kS (wK W)))), none] [.int (-1)] S (up2 G 2 16 (.int (-1))) (upr B 145 (upd (B 145) 1 (B 145 1 + nI 1))) J R _
      exact cr_ri d_165_34 cx_165 rfl ⟨rfl, (hW.rf (by decide)).mo⟩
    · refine cr_nx (pc' := 24) (al' := [some (.ref 2), some (.int x), some (.int z), some (.int v), some (.int (nI (kS (wK W)))), none]) (st' := [.int v]) d_165_23 (fun _ => rfl) ?_
      refine cr_nx (pc' := 26) (al' := [some (.ref 2), some (.int x), some (.int z), some (.int v), some (.int (nI (kS (wK W)))), none]) (st' := [.int (nI (kS (wK W))), .int v]) d_165_24 (fun _ => rfl) ?_
      refine cr_clt (t := 35) d_165_26 (by decide) (fun c26 => ?_) (fun c26 => ?_)
      · exact absurd ⟨c15, by rw [i_ltm] at c20; omega, (i_ltN (by omega)).mp c26⟩ hx
      · refine cr_nx (pc' := 30) (al' := [some (.ref 2), some (.int x), some (.int z), some (.int v), some (.int (nI (kS (wK W)))), none]) (st' := [.ref 2]) d_165_29 (fun _ => rfl) ?_
        refine cr_nx (pc' := 31) (al' := [some (.ref 2), some (.int x), some (.int z), some (.int v), some (.int (nI (kS (wK W)))), none]) (st' := [.int (-1), .ref 2]) d_165_30 (fun _ => rfl) ?_
        refine cr_pv (b := 2) (as := [.int (-1)]) (al0 := [some (.ref 2), some (.int (-1))]) (r := []) d_165_31 cw_165 cm_11_104 cz_119 rfl rfl (hS.i (a := 2) (by decide) (by decide)) (by rw [cw_119]; exact (hS.s (a := 2) (by decide) (by decide) rfl)) (by rw [cw_119]; decide) rfl (Nat.le_of_ble_eq_true rfl) (k_refuse (e := 1) hS hF (by decide) (by decide)) ?_
        show CR _ _ 34 [some (.ref 2), some (.int x), some (.int z), some (.int v), some (.int (nI (kS (wK W)))), none] [.int (-1)] S (up2 G 2 16 (.int (-1))) (upr B 145 (upd (B 145) 1 (B 145 1 + nI 1))) J R _
        exact cr_ri d_165_34 cx_165 rfl ⟨rfl, (hW.rf (by decide)).mo⟩
theorem r_clue_n {g : Nat → Int32} {A : Nat → Nat → Int32} {n : Nat} {W : WS} (hW : WR n g A W) (hO : CoOk (wK W)) {x z v : Int32} (hx : ¬ ((inP x (kS (wK W)) ∧ inP z (kS (wK W))) ∧ vaP v (kS (wK W)))) : RR 80 279 0 [some (.ref 146), some (.int x), some (.int z), some (.int v), none, none] [] g A (fun r__ g' A' => r__ = some (.int (-1)) ∧ WR (n + 1) g' A' (refW W (-1) 1)) := by
  have hS6 := hO.2.2.2.1
  refine rr_nx (pc' := 1) (al' := [some (.ref 146), some (.int x), some (.int z), some (.int v), none, none]) (st' := [.ref 146]) d_279_0 (fun _ => rfl) ?_
  refine rr_nx (pc' := 2) (al' := [some (.ref 146), some (.int x), some (.int z), some (.int v), none, none]) (st' := [.int x, .ref 146]) d_279_1 (fun _ => rfl) ?_
  refine rr_nx (pc' := 3) (al' := [some (.ref 146), some (.int x), some (.int z), some (.int v), none, none]) (st' := [.int z, .int x, .ref 146]) d_279_2 (fun _ => rfl) ?_
  refine rr_pv (as := [.int x, .int z]) (al0 := [some (.ref 146), some (.int x), some (.int z)]) (r := []) d_279_3 mo_279 ml_380 mz_280 rfl rfl rfl (Nat.le_of_ble_eq_true rfl) (s_isOnBoard hW hO) ?_
  show RR _ _ 6 [some (.ref 146), some (.int x), some (.int z), some (.int v), none, none] [.int (bI (inP x (kS (wK W)) ∧ inP z (kS (wK W))))] g A _
  refine rr_beq (t := 27) d_279_6 (by decide) (fun c6 => ?_) (fun c6 => ?_)
  · refine rr_nx (pc' := 28) (al' := [some (.ref 146), some (.int x), some (.int z), some (.int v), none, none]) (st' := [.ref 146]) d_279_27 (fun _ => rfl) ?_
    refine rr_nx (pc' := 29) (al' := [some (.ref 146), some (.int x), some (.int z), some (.int v), none, none]) (st' := [.int (-1), .ref 146]) d_279_28 (fun _ => rfl) ?_
    have hW1 := hW.q (g' := g) (A' := A) Gsm.rf Ksm.rf
    refine rr_pv (as := [.int (-1)]) (al0 := [some (.ref 146), some (.int (-1))]) (r := []) d_279_29 mo_279 ml_110 mz_180 rfl rfl rfl (Nat.le_of_ble_eq_true rfl) (s_refuses (e := 1) (by decide) (by decide)) ?_
    show RR _ _ 32 [some (.ref 146), some (.int x), some (.int z), some (.int v), none, none] [.int (-1)] (upd g 0 (-1)) (rf_u A 0 (upd (A 0) 1 (A 0 1 + nI 1))) _
    exact rr_ri d_279_32 mr_279 rfl ⟨rfl, (hW1.rf (by decide)).mo⟩
  · refine rr_nx (pc' := 10) (al' := [some (.ref 146), some (.int x), some (.int z), some (.int v), none, none]) (st' := [.int v]) d_279_9 (fun _ => rfl) ?_
    refine rr_nx (pc' := 11) (al' := [some (.ref 146), some (.int x), some (.int z), some (.int v), none, none]) (st' := [.int (-1), .int v]) d_279_10 (fun _ => rfl) ?_
    refine rr_nx (pc' := 12) (al' := [some (.ref 146), some (.int x), some (.int z), some (.int v), none, none]) (st' := [.ref 146, .int (-1), .int v]) d_279_11 (fun _ => rfl) ?_
    refine rr_gf (v := .ref (147 + 1)) d_279_12 mo_279 fl_13 rfl ?_
    refine rn_sp (v := 222) d_279_15 (by decide) ?_
    refine rr_ia (j := 1) (v := (nI (kS (wK W)))) d_279_18 (by decide) rfl (by decide) (show 222 < 5720 by first | omega | assumption | exact cu_36 (by omega) (cu_lt (by omega) (by omega))) hW.1.2.2.2.1 ?_
    refine rn_ic (v := 1) d_279_19 (by decide) ?_
    refine rr_nx (pc' := 21) (al' := [some (.ref 146), some (.int x), some (.int z), some (.int v), none, none]) (st' := [.int ((nI (kS (wK W))) - (nI 1)), .int (-1), .int v]) d_279_20 (fun _ => rfl) ?_
    refine rr_ps (as := [.int v, .int (-1), .int ((nI (kS (wK W))) - (nI 1))]) (al0 := [some (.int v), some (.int (-1)), some (.int ((nI (kS (wK W))) - (nI 1)))]) (r := []) d_279_21 mo_279 ml_106 mz_179 rfl rfl rfl (Nat.le_of_ble_eq_true rfl) (s_lies v (-1) ((nI (kS (wK W))) - (nI 1))) ?_
    show RR _ _ 24 [some (.ref 146), some (.int x), some (.int z), some (.int v), none, none] [.int (bI ((-1) ≤ v ∧ v ≤ ((nI (kS (wK W))) - (nI 1))))] g A _
    refine rr_bne (t := 33) d_279_24 (by decide) (fun c24 => ?_) (fun c24 => ?_)
    · exact absurd ⟨c6, (va_r hS6).mp c24⟩ hx
    · refine rr_nx (pc' := 28) (al' := [some (.ref 146), some (.int x), some (.int z), some (.int v), none, none]) (st' := [.ref 146]) d_279_27 (fun _ => rfl) ?_
      refine rr_nx (pc' := 29) (al' := [some (.ref 146), some (.int x), some (.int z), some (.int v), none, none]) (st' := [.int (-1), .ref 146]) d_279_28 (fun _ => rfl) ?_
      have hW1 := hW.q (g' := g) (A' := A) Gsm.rf Ksm.rf
      refine rr_pv (as := [.int (-1)]) (al0 := [some (.ref 146), some (.int (-1))]) (r := []) d_279_29 mo_279 ml_110 mz_180 rfl rfl rfl (Nat.le_of_ble_eq_true rfl) (s_refuses (e := 1) (by decide) (by decide)) ?_
      show RR _ _ 32 [some (.ref 146), some (.int x), some (.int z), some (.int v), none, none] [.int (-1)] (upd g 0 (-1)) (rf_u A 0 (upd (A 0) 1 (A 0 1 + nI 1))) _
      exact rr_ri d_279_32 mr_279 rfl ⟨rfl, (hW1.rf (by decide)).mo⟩
theorem T_clue {S : CS} {G : Nat → Nat → Value} {B : Nat → Nat → Int32} {J : Nat → Nat → Int64} {R : Nat → Nat → Option Nat} {g : Nat → Int32} {A : Nat → Nat → Int32} {n : Nat} {W : WS} (hC : WC n S G B R W) (hR : WR n g A W) (hn : n ≤ 10000) {x : Int32} {z : Int32} {v : Int32} : Tie n 165 279 [some (.ref 2), some (.int x), some (.int z), some (.int v), none, none] [some (.ref 146), some (.int x), some (.int z), some (.int v), none, none] S G B J R g A W := by
  have hO := hC.2.2.2.1
  by_cases hx : (inP x (kS (wK W)) ∧ inP z (kS (wK W))) ∧ vaP v (kS (wK W))
  · obtain ⟨p, hp, e_⟩ := in_n hx.1.1
    subst e_
    obtain ⟨q, hq, e_⟩ := in_n hx.1.2
    subst e_
    obtain ⟨u, hu, e_⟩ := va_n hx.2
    subst e_
    exact ⟨_, _, p_clue_y hC hp hq hu, r_clue_y hR hO hp hq hu hn⟩
  · exact ⟨_, _, p_clue_n hC hx, r_clue_n hR hO hx⟩
