/-! What is kept: the class records, undoes, redoes; printed by wip/whole/gen_c21.py. -/
theorem k_exchangeKept {S : CS} {G : Nat → Nat → Value} {B : Nat → Nat → Int32} {J : Nat → Nat → Int64} {R : Nat → Nat → Option Nat} (hS : ShOk S) (hF : FxG G) {c e x y : Nat} (hc : B 7 e = nI c) (hc6 : c < 6) (he : e < 30) (hx : R 4 c = some x) (hy : R 8 e = some y) (htx : TabAt S G x) (hty : TabAt S G y) : CR 0 83 0 [some (.ref 3), some (.int (nI e)), none] [] S G B J R (cP none S G B J (upr (upr R 4 (va_up (R 4) c (some y))) 8 (va_up (R 8) e (some x)))) := by
  refine cr_nx (pc' := 1) (al' := [some (.ref 3), some (.int (nI e)), none]) (st' := [.ref 3]) d_83_0 (fun _ => rfl) ?_
  refine cr_gf (v := .ref 4) d_83_1 cw_83 cf_9_11 (hS.i (a := 3) (by decide) (by decide)) (hS.s (a := 3) (by decide) (by decide) rfl) (by decide) (fx_3_0 hF) ?_
  refine cr_nx (pc' := 5) (al' := [some (.ref 3), some (.int (nI e)), none]) (st' := [.ref 3, .ref 4]) d_83_4 (fun _ => rfl) ?_
  refine cr_gf (v := .ref 7) d_83_5 cw_83 cf_9_27 (hS.i (a := 3) (by decide) (by decide)) (hS.s (a := 3) (by decide) (by decide) rfl) (by decide) (fx_3_5 hF) ?_
  refine cr_nx (pc' := 9) (al' := [some (.ref 3), some (.int (nI e)), none]) (st' := [.int (nI e), .ref 7, .ref 4]) d_83_8 (fun _ => rfl) ?_
  refine cr_ia (a := 7) (v := (nI c)) d_83_9 (hS.i (a := 7) (by decide) (by decide)) (hS.s (a := 7) (by decide) (by decide) rfl) (by first | decide | omega) (show e < 30 by first | omega | assumption | exact cu_36 (by omega) (cu_lt (by omega) (by omega))) hc ?_
  refine cr_aa (a := 4) (v := .ref x) d_83_10 (hS.i (a := 4) (by decide) (by decide)) (by decide) (hS.s (a := 4) (by decide) (by decide) rfl) (by decide) (show c < 6 by first | omega | assumption | exact cu_36 (by omega) (cu_lt (by omega) (by omega))) (show va_rf _ = _ by rw [hx]; rfl) ?_
  refine cr_nx (pc' := 12) (al' := [some (.ref 3), some (.int (nI e)), some (.ref x)]) (st' := []) d_83_11 (fun _ => rfl) ?_
  refine cr_nx (pc' := 13) (al' := [some (.ref 3), some (.int (nI e)), some (.ref x)]) (st' := [.ref 3]) d_83_12 (fun _ => rfl) ?_
  refine cr_gf (v := .ref 4) d_83_13 cw_83 cf_9_11 (hS.i (a := 3) (by decide) (by decide)) (hS.s (a := 3) (by decide) (by decide) rfl) (by decide) (fx_3_0 hF) ?_
  refine cr_nx (pc' := 17) (al' := [some (.ref 3), some (.int (nI e)), some (.ref x)]) (st' := [.ref 3, .ref 4]) d_83_16 (fun _ => rfl) ?_
  refine cr_gf (v := .ref 7) d_83_17 cw_83 cf_9_27 (hS.i (a := 3) (by decide) (by decide)) (hS.s (a := 3) (by decide) (by decide) rfl) (by decide) (fx_3_5 hF) ?_
  refine cr_nx (pc' := 21) (al' := [some (.ref 3), some (.int (nI e)), some (.ref x)]) (st' := [.int (nI e), .ref 7, .ref 4]) d_83_20 (fun _ => rfl) ?_
  refine cr_ia (a := 7) (v := (nI c)) d_83_21 (hS.i (a := 7) (by decide) (by decide)) (hS.s (a := 7) (by decide) (by decide) rfl) (by first | decide | omega) (show e < 30 by first | omega | assumption | exact cu_36 (by omega) (cu_lt (by omega) (by omega))) hc ?_
  refine cr_nx (pc' := 23) (al' := [some (.ref 3), some (.int (nI e)), some (.ref x)]) (st' := [.ref 3, .int (nI c), .ref 4]) d_83_22 (fun _ => rfl) ?_
  refine cr_gf (v := .ref 8) d_83_23 cw_83 cf_9_30 (hS.i (a := 3) (by decide) (by decide)) (hS.s (a := 3) (by decide) (by decide) rfl) (by decide) (fx_3_6 hF) ?_
  refine cr_nx (pc' := 27) (al' := [some (.ref 3), some (.int (nI e)), some (.ref x)]) (st' := [.int (nI e), .ref 8, .int (nI c), .ref 4]) d_83_26 (fun _ => rfl) ?_
  refine cr_aa (a := 8) (v := .ref y) d_83_27 (hS.i (a := 8) (by decide) (by decide)) (by decide) (hS.s (a := 8) (by decide) (by decide) rfl) (by decide) (show e < 30 by first | omega | assumption | exact cu_36 (by omega) (cu_lt (by omega) (by omega))) (show va_rf _ = _ by rw [hy]; rfl) ?_
  refine cr_aS (a := 4) (b := y) (c := 10) (R1 := (upr R 4 (va_up (R 4) c (some y)))) d_83_28 (hS.i (a := 4) (by decide) (by decide)) hty.1 (by decide) (hS.s (a := 4) (by decide) (by decide) rfl) hty.2.2.1 (by first | decide | omega) (show c < 6 by first | omega | assumption | exact cu_36 (by omega) (cu_lt (by omega) (by omega))) rfl ?_
  refine cr_nx (pc' := 30) (al' := [some (.ref 3), some (.int (nI e)), some (.ref x)]) (st' := [.ref 3]) d_83_29 (fun _ => rfl) ?_
  refine cr_gf (v := .ref 8) d_83_30 cw_83 cf_9_30 (hS.i (a := 3) (by decide) (by decide)) (hS.s (a := 3) (by decide) (by decide) rfl) (by decide) (fx_3_6 hF) ?_
  refine cr_nx (pc' := 34) (al' := [some (.ref 3), some (.int (nI e)), some (.ref x)]) (st' := [.int (nI e), .ref 8]) d_83_33 (fun _ => rfl) ?_
  refine cr_nx (pc' := 35) (al' := [some (.ref 3), some (.int (nI e)), some (.ref x)]) (st' := [.ref x, .int (nI e), .ref 8]) d_83_34 (fun _ => rfl) ?_
  refine cr_aS (a := 8) (b := x) (c := 10) (R1 := (upr (upr R 4 (va_up (R 4) c (some y))) 8 (va_up (R 8) e (some x)))) d_83_35 (hS.i (a := 8) (by decide) (by decide)) htx.1 (by decide) (hS.s (a := 8) (by decide) (by decide) rfl) htx.2.2.1 (by first | decide | omega) (show e < 30 by first | omega | assumption | exact cu_36 (by omega) (cu_lt (by omega) (by omega))) (by rw [show (upr R 4 (va_up (R 4) c (some y))) 8 = R 8 from by rw [upr_n (show (8 : Nat) ≠ 4 by decide)]]) ?_
  exact cr_rv d_83_36 cx_83 ⟨rfl, rfl, rfl, rfl, rfl, rfl⟩
theorem StF.g {G : Nat → Nat → Value} {B : Nat → Nat → Int32} {R : Nat → Nat → Option Nat} {G' : Nat → Nat → Value} {B' : Nat → Nat → Int32} {R' : Nat → Nat → Option Nat} {k : Nat} {v : Value} (h : StF G B R G' B' R') (hk : k = 7 ∨ k = 8) : StF G B R (up2 G' 3 k v) B' R' := h.tr ⟨fun b hb => ⟨by funext j; exact up2_n (fun e => by omega), rfl, rfl⟩, fun j a b => up2_n (fun e => by omega), fun b hb j hj => up2_n (fun e => by omega), rfl, rfl, fun b => Or.inl (up2_n (fun e => by omega))⟩
theorem StF.r {G : Nat → Nat → Value} {B : Nat → Nat → Int32} {R : Nat → Nat → Option Nat} {G' : Nat → Nat → Value} {B' : Nat → Nat → Int32} {R' : Nat → Nat → Option Nat} {k : Nat} {f : Nat → Option Nat} (h : StF G B R G' B' R') (hk : k = 4 ∨ k = 8) : StF G B R G' B' (upr R' k f) := h.tr ⟨fun b hb => ⟨rfl, rfl, upr_n (by omega)⟩, fun _ _ _ => rfl, fun _ _ _ _ => rfl, rfl, upr_n (by omega), fun _ => Or.inl rfl⟩
theorem StF.b {G : Nat → Nat → Value} {B : Nat → Nat → Int32} {R : Nat → Nat → Option Nat} {G' : Nat → Nat → Value} {B' : Nat → Nat → Int32} {R' : Nat → Nat → Option Nat} {k : Nat} {f : Nat → Int32} (h : StF G B R G' B' R') (hk : 7 ≤ k ∧ k < 81) : StF G B R G' (upr B' k f) R' := h.tr ⟨fun b hb => ⟨rfl, upr_n (by omega), rfl⟩, fun _ _ _ => rfl, fun _ _ _ _ => rfl, upr_n (by omega), rfl, fun _ => Or.inl rfl⟩
theorem StF.t {G : Nat → Nat → Value} {B : Nat → Nat → Int32} {R : Nat → Nat → Option Nat} {G' : Nat → Nat → Value} {B' : Nat → Nat → Int32} {R' : Nat → Nat → Option Nat} {k : Nat} {v : Int32} (h : StF G B R G' B' R') (hk : 9 ≤ k ∧ k < 81) : StF G B R (up2 G' k 0 (.int v)) B' R' := h.tr ⟨fun b hb => ⟨by funext j; exact up2_n (fun e => by omega), rfl, rfl⟩, fun j a b => up2_n (fun e => by omega), fun b hb j hj => up2_n (fun e => by omega), rfl, rfl, fun b => by
  by_cases e : b = k
  · rw [e]
    exact Or.inr ⟨v, up2_s⟩
  · exact Or.inl (up2_n (fun q => e q.1))⟩
theorem up2_g {G : Nat → Nat → Value} {a k b : Nat} {v : Value} (h : b ≠ a) : up2 G a k v b = G b := by funext j; exact up2_n (fun e => h e.1)
def HsQ (S : CS) (G : Nat → Nat → Value) (B : Nat → Nat → Int32) (J : Nat → Nat → Int64) (R : Nat → Nat → Option Nat) (H : Nat → Nat → Tb) (ch : Nat → Nat) (d t : Nat) : CQ := fun r S' G' B' J' R' => r = none ∧ S' = S ∧ J' = J ∧ StF G B R G' B' R' ∧ ∃ ta ka, HiC S G' B' R' 3 H ch d t ta ka
theorem FxG.u3 {G : Nat → Nat → Value} {k : Nat} {v : Value} (h : FxG G) (hk : k = 7 ∨ k = 8 := by decide) : FxG (up2 G 3 k v) := fun e he => by
  rw [up2_n]
  · exact h e he
  · intro q
    simp only [List.mem_cons, List.mem_nil_iff, or_false, Prod.ext_iff] at he
    omega
theorem TabAt.u3 {S : CS} {G : Nat → Nat → Value} {a k : Nat} {v : Value} (h : TabAt S G a) (hk : k = 7 ∨ k = 8 := by decide) : TabAt S (up2 G 3 k v) a := ⟨h.1, h.2.1, h.2.2.1, h.2.2.2.1, by rw [up2_n (fun e => by omega)]; exact h.2.2.2.2⟩
theorem k_stepBack {S : CS} {G : Nat → Nat → Value} {B : Nat → Nat → Int32} {J : Nat → Nat → Int64} {R : Nat → Nat → Option Nat} (hS : ShOk S) (hF : FxG G) {H : Nat → Nat → Tb} {ch : Nat → Nat} {d t : Nat} {ta ka : Nat → Nat} (hH : HiC S G B R 3 H ch d t ta ka) (hO : HiOk H ch d t) (hd : 1 ≤ d) : CR 1 84 0 [some (.ref 3)] [] S G B J R (HsQ S G B J R H ch (d - 1) t) := by
  have hdt := hO.1
  refine cr_nx (pc' := 1) (al' := [some (.ref 3)]) (st' := [.ref 3]) d_84_0 (fun _ => rfl) ?_
  refine cr_nx (pc' := 2) (al' := [some (.ref 3)]) (st' := [.ref 3, .ref 3]) d_84_1 (fun _ => rfl) ?_
  refine cr_gf (v := .int (nI d)) d_84_2 cw_84 cf_9_51 (hS.i (a := 3) (by decide) (by decide)) (hS.s (a := 3) (by decide) (by decide) rfl) (by decide) hH.2.2.2.2.2.2.2.2.2.2.1 ?_
  refine cn_ic (v := 1) d_84_5 (by decide) ?_
  refine cn_sub d_84_6 (by omega) ?_
  refine cp_9_7  d_84_7 cw_84 cf_9_51 (hS.i (a := 3) (by decide) (by decide)) (hS.s (a := 3) (by decide) (by decide) rfl) (by decide) ?_
  refine cr_nx (pc' := 11) (al' := [some (.ref 3)]) (st' := [.ref 3]) d_84_10 (fun _ => rfl) ?_
  refine cr_nx (pc' := 12) (al' := [some (.ref 3)]) (st' := [.ref 3, .ref 3]) d_84_11 (fun _ => rfl) ?_
  refine cr_gf (v := .int (nI (t - d))) d_84_12 cw_84 cf_9_54 (hS.i (a := 3) (by decide) (by decide)) (hS.s (a := 3) (by decide) (by decide) rfl) (by decide) (by simp [up2]; exact hH.2.2.2.2.2.2.2.2.2.2.2) ?_
  refine cn_ic (v := 1) d_84_15 (by decide) ?_
  refine cn_add d_84_16  ?_
  refine cp_9_8  d_84_17 cw_84 cf_9_54 (hS.i (a := 3) (by decide) (by decide)) (hS.s (a := 3) (by decide) (by decide) rfl) (by decide) ?_
  refine cr_nx (pc' := 21) (al' := [some (.ref 3)]) (st' := [.ref 3]) d_84_20 (fun _ => rfl) ?_
  refine cr_nx (pc' := 22) (al' := [some (.ref 3)]) (st' := [.ref 3, .ref 3]) d_84_21 (fun _ => rfl) ?_
  refine cr_gf (v := .int (nI (d - 1))) d_84_22 cw_84 cf_9_51 (hS.i (a := 3) (by decide) (by decide)) (hS.s (a := 3) (by decide) (by decide) rfl) (by decide) (by simp [up2]) ?_
  refine cr_pv (b := 3) (as := [.int (nI (d - 1))]) (al0 := [some (.ref 3), some (.int (nI (d - 1))), none]) (r := []) d_84_25 cw_84 cm_9_60 cz_83 rfl rfl (hS.i (a := 3) (by decide) (by decide)) (by rw [cw_83]; exact (hS.s (a := 3) (by decide) (by decide) rfl)) (by rw [cw_83]; decide) rfl (Nat.le_of_ble_eq_true rfl) (k_exchangeKept hS (FxG.u3 (FxG.u3 hF)) (hH.2.2.2.2.2.2.2.2.2.1 _ (show d - 1 < t by omega)) (hO.2.2.2 _ (show d - 1 < t by omega)).1 (by have := hO.2.1; omega) (hH.2.1 _ (hO.2.2.2 _ (show d - 1 < t by omega)).1).1 (hH.2.2.1 _ (by have := hO.2.1; omega)).1 (TabAt.u3 (TabAt.u3 (hH.ta (hO.2.2.2 _ (show d - 1 < t by omega)).1))) (TabAt.u3 (TabAt.u3 (hH.ka (by have := hO.2.1; omega))))) ?_
  show CR _ _ 28 [some (.ref 3)] [] S (up2 (up2 G 3 7 (.int (nI (d - 1)))) 3 8 (.int (nI ((t - d) + 1)))) B J (upr (upr R 4 (va_up (R 4) (ch (d - 1)) (some (ka (d - 1))))) 8 (va_up (R 8) (d - 1) (some (ta (ch (d - 1)))))) _
  exact cr_rv d_84_28 cx_84 ⟨rfl, rfl, rfl, (((StF.rf.g (by omega)).g (by omega)).r (by omega)).r (by omega), _, _, hH.ex hO (show d - 1 < t by omega) (Or.inr ⟨by omega, rfl⟩) (fun b hb => by rw [up2_g hb, up2_g hb]) (by rw [up2_n (by omega), up2_s]) (by rw [up2_s, show t - d + 1 = t - (d - 1) by omega])⟩
theorem k_stepOn {S : CS} {G : Nat → Nat → Value} {B : Nat → Nat → Int32} {J : Nat → Nat → Int64} {R : Nat → Nat → Option Nat} (hS : ShOk S) (hF : FxG G) {H : Nat → Nat → Tb} {ch : Nat → Nat} {d t : Nat} {ta ka : Nat → Nat} (hH : HiC S G B R 3 H ch d t ta ka) (hO : HiOk H ch d t) (hd : d < t) : CR 1 85 0 [some (.ref 3)] [] S G B J R (HsQ S G B J R H ch (d + 1) t) := by
  refine cr_nx (pc' := 1) (al' := [some (.ref 3)]) (st' := [.ref 3]) d_85_0 (fun _ => rfl) ?_
  refine cr_nx (pc' := 2) (al' := [some (.ref 3)]) (st' := [.ref 3, .ref 3]) d_85_1 (fun _ => rfl) ?_
  refine cr_gf (v := .int (nI d)) d_85_2 cw_85 cf_9_51 (hS.i (a := 3) (by decide) (by decide)) (hS.s (a := 3) (by decide) (by decide) rfl) (by decide) hH.2.2.2.2.2.2.2.2.2.2.1 ?_
  refine cr_pv (b := 3) (as := [.int (nI d)]) (al0 := [some (.ref 3), some (.int (nI d)), none]) (r := []) d_85_5 cw_85 cm_9_60 cz_83 rfl rfl (hS.i (a := 3) (by decide) (by decide)) (by rw [cw_83]; exact (hS.s (a := 3) (by decide) (by decide) rfl)) (by rw [cw_83]; decide) rfl (Nat.le_of_ble_eq_true rfl) (k_exchangeKept hS hF (hH.2.2.2.2.2.2.2.2.2.1 _ hd) (hO.2.2.2 _ hd).1 (by have := hO.2.1; omega) (hH.2.1 _ (hO.2.2.2 _ hd).1).1 (hH.2.2.1 _ (by have := hO.2.1; omega)).1 (hH.ta (hO.2.2.2 _ hd).1) (hH.ka (by have := hO.2.1; omega))) ?_
  show CR _ _ 8 [some (.ref 3)] [] S G B J (upr (upr R 4 (va_up (R 4) (ch d) (some (ka d)))) 8 (va_up (R 8) d (some (ta (ch d))))) _
  refine cr_nx (pc' := 9) (al' := [some (.ref 3)]) (st' := [.ref 3]) d_85_8 (fun _ => rfl) ?_
  refine cr_nx (pc' := 10) (al' := [some (.ref 3)]) (st' := [.ref 3, .ref 3]) d_85_9 (fun _ => rfl) ?_
  refine cr_gf (v := .int (nI d)) d_85_10 cw_85 cf_9_51 (hS.i (a := 3) (by decide) (by decide)) (hS.s (a := 3) (by decide) (by decide) rfl) (by decide) hH.2.2.2.2.2.2.2.2.2.2.1 ?_
  refine cn_ic (v := 1) d_85_13 (by decide) ?_
  refine cn_add d_85_14  ?_
  refine cp_9_7  d_85_15 cw_85 cf_9_51 (hS.i (a := 3) (by decide) (by decide)) (hS.s (a := 3) (by decide) (by decide) rfl) (by decide) ?_
  refine cr_nx (pc' := 19) (al' := [some (.ref 3)]) (st' := [.ref 3]) d_85_18 (fun _ => rfl) ?_
  refine cr_nx (pc' := 20) (al' := [some (.ref 3)]) (st' := [.ref 3, .ref 3]) d_85_19 (fun _ => rfl) ?_
  refine cr_gf (v := .int (nI (t - d))) d_85_20 cw_85 cf_9_54 (hS.i (a := 3) (by decide) (by decide)) (hS.s (a := 3) (by decide) (by decide) rfl) (by decide) (by simp [up2]; exact hH.2.2.2.2.2.2.2.2.2.2.2) ?_
  refine cn_ic (v := 1) d_85_23 (by decide) ?_
  refine cn_sub d_85_24 (by omega) ?_
  refine cp_9_8  d_85_25 cw_85 cf_9_54 (hS.i (a := 3) (by decide) (by decide)) (hS.s (a := 3) (by decide) (by decide) rfl) (by decide) ?_
  exact cr_rv d_85_28 cx_85 ⟨rfl, rfl, rfl, (((StF.rf.r (by omega)).r (by omega)).g (by omega)).g (by omega), _, _, hH.ex hO hd (Or.inl ⟨rfl, rfl⟩) (fun b hb => by rw [up2_g hb, up2_g hb]) (by rw [up2_n (by omega), up2_s]) (by rw [up2_s, show t - d - 1 = t - (d + 1) by omega])⟩
theorem HiC.sh {S : CS} {G G' : Nat → Nat → Value} {B : Nat → Nat → Int32} {R : Nat → Nat → Option Nat} {H : Nat → Nat → Tb} {ch : Nat → Nat} {d t : Nat} {ta ka : Nat → Nat} {w : Nat → Option Nat} {u : Nat → Int32} (h : HiC S G B R 3 H ch (d + 1) (t + 1) ta ka) (ho : HiOk H ch (d + 1) (t + 1)) (hw : ∀ q, q < 30 → w q = if q < 29 then R 8 (q + 1) else R 8 0) (hu : ∀ q, q < 29 → u q = B 7 (q + 1)) (hg : ∀ b, b ≠ 3 → G' b = G b) (h7 : G' 3 7 = .int (nI d)) (h8 : G' 3 8 = .int (nI (t - d))) : HiC S G' (upr B 7 u) (upr R 8 w) 3 (shH H) (shC ch) d t ta (fun i => if i < 29 then ka (i + 1) else ka 0) := by
  obtain ⟨h0, h1, h2, h3, h4, h5, h6, h7a, h8a, h9, h10, h11⟩ := h
  have ht := ho.2.1
  have hdt := ho.1
  have hsh : ∀ b tb, (∃ z, z < 36 ∧ b = 3 + 6 + 2 * z) → ShT G B b tb → ShT G' (upr B 7 u) b tb := fun b tb ⟨z, hz, eb⟩ q => q.cg (by rw [hg b (by omega)]) (upr_n (by omega))
  have hk : ∀ i, i < 30 → (if i < 29 then i + 1 else 0) < 30 := fun i hi => by split <;> omega
  have hka : ∀ i, (if i < 29 then ka (i + 1) else ka 0) = ka (if i < 29 then i + 1 else 0) := fun i => by split <;> rfl
  refine ⟨fun z hz => ?_, fun j hj => ?_, fun i hi => ?_, h3, fun i j hi hj q => ?_, fun i j hi hj => ?_, fun j hj => hsh _ _ (h1 j hj).2 (h6 j hj), fun i hi => ?_, fun i hi1 hi2 => ?_, fun i hi => ?_, h7, h8⟩
  · obtain ⟨b1, b2, b3, b4, b5⟩ := h0 z hz
    exact ⟨b1, b2, b3, b4, by rw [hg _ (by omega)]; exact b5⟩
  · rw [upr_n (by decide)]
    exact h1 j hj
  · have := h2 _ (hk i hi)
    refine ⟨?_, by dsimp only; rw [hka]; exact this.2⟩
    show upr R 8 w 8 i = _
    rw [upr_s, hw i hi]
    dsimp only
    rw [hka, ← this.1]
    split <;> rfl
  · dsimp only at q
    rw [hka, hka] at q
    have := h4 _ _ (hk i hi) (hk j hj) q
    split at this <;> split at this <;> omega
  · dsimp only
    rw [hka]
    exact h5 i _ hi (hk j hj)
  · dsimp only
    rw [if_pos (by omega)]
    exact hsh _ _ (h2 (i + 1) (by omega)).2 (h7a (i + 1) (by omega))
  · dsimp only
    rw [if_pos (by omega)]
    exact hsh _ _ (h2 (i + 1) (by omega)).2 (h8a (i + 1) (by omega) (by omega))
  · show upr B 7 u 7 i = _
    rw [upr_s, hu i (by omega)]
    exact h9 (i + 1) (by omega)
theorem lg_s {R : Nat → Nat → Option Nat} {w : Nat → Option Nat} {i : Nat} {v : Option Nat} (h : ∀ q, q < 30 → (q + 1 < i → w q = R 8 (q + 1)) ∧ (i ≤ q + 1 → w q = R 8 q)) (hi : i < 30) (h1 : 1 ≤ i) (hv : v = R 8 i) : ∀ q, q < 30 → (q + 1 < i + 1 → va_up w (i - 1) v q = R 8 (q + 1)) ∧ (i + 1 ≤ q + 1 → va_up w (i - 1) v q = R 8 q) := fun q hq => by
  unfold va_up
  constructor
  · intro h2
    by_cases e : q = i - 1
    · rw [if_pos e, hv, e, show i - 1 + 1 = i by omega]
    · rw [if_neg e]
      exact (h q hq).1 (by omega)
  · intro h2
    rw [if_neg (by omega)]
    exact (h q hq).2 (by omega)
theorem lg_u {B : Nat → Nat → Int32} {w : Nat → Int32} {i : Nat} (h : ∀ q, q < 30 → (q + 1 < i → w q = B 7 (q + 1)) ∧ (i ≤ q + 1 → w q = B 7 q)) (hi : i < 30) (h1 : 1 ≤ i) : ∀ q, q < 30 → (q + 1 < i + 1 → upd w (i - 1) (B 7 i) q = B 7 (q + 1)) ∧ (i + 1 ≤ q + 1 → upd w (i - 1) (B 7 i) q = B 7 q) := fun q hq => by
  constructor
  · intro h2
    by_cases e : q = i - 1
    · rw [e, pk_us, show i - 1 + 1 = i by omega]
    · rw [pk_un e]
      exact (h q hq).1 (by omega)
  · intro h2
    rw [pk_un (by omega)]
    exact (h q hq).2 (by omega)
theorem lg_e {R : Nat → Nat → Option Nat} {w : Nat → Option Nat} {k0 : Nat} (h : ∀ q, q < 30 → (q + 1 < 30 → w q = R 8 (q + 1)) ∧ (30 ≤ q + 1 → w q = R 8 q)) (h0 : R 8 0 = some k0) : ∀ q, q < 30 → va_up w 29 (some k0) q = if q < 29 then R 8 (q + 1) else R 8 0 := fun q hq => by
  unfold va_up
  by_cases e : q = 29
  · rw [if_pos e, if_neg (by omega), h0]
  · rw [if_neg e, if_pos (by omega)]
    exact (h q hq).1 (by omega)
theorem k_letOldestGo {S : CS} {G : Nat → Nat → Value} {B : Nat → Nat → Int32} {J : Nat → Nat → Int64} {R : Nat → Nat → Option Nat} (hS : ShOk S) (hF : FxG G) {H : Nat → Nat → Tb} {ch : Nat → Nat} {ta ka : Nat → Nat} (hH : HiC S G B R 3 H ch 30 30 ta ka) (hO : HiOk H ch 30 30) : CR 0 82 0 [some (.ref 3), none, none] [] S G B J R (HsQ S G B J R (shH H) (shC ch) 29 29) := by
  refine cr_nx (pc' := 1) (al' := [some (.ref 3), none, none]) (st' := [.ref 3]) d_82_0 (fun _ => rfl) ?_
  refine cr_gf (v := .ref 8) d_82_1 cw_82 cf_9_30 (hS.i (a := 3) (by decide) (by decide)) (hS.s (a := 3) (by decide) (by decide) rfl) (by decide) (fx_3_6 hF) ?_
  refine cn_ic (v := 0) d_82_4 (by decide) ?_
  refine cr_aa (a := 8) (v := .ref (ka 0)) d_82_5 (hS.i (a := 8) (by decide) (by decide)) (by decide) (hS.s (a := 8) (by decide) (by decide) rfl) (by decide) (show 0 < 30 by first | omega | assumption | exact cu_36 (by omega) (cu_lt (by omega) (by omega))) (show va_rf _ = _ by rw [(hH.2.2.1 0 (by decide)).1]; rfl) ?_
  refine cr_nx (pc' := 7) (al' := [some (.ref 3), some (.ref (ka 0)), none]) (st' := []) d_82_6 (fun _ => rfl) ?_
  refine cn_ic (v := 1) d_82_7 (by decide) ?_
  refine cr_nx (pc' := 9) (al' := [some (.ref 3), some (.ref (ka 0)), some (.int (nI 1))]) (st' := []) d_82_8 (fun _ => rfl) ?_
  refine cr_B (show B = (upr B 7 ((R 8, B 7).2)) by rw [upr_id]) ?_
  refine cr_R (show R = (upr R 8 ((R 8, B 7).1)) by rw [upr_id]) ?_
  refine cr_upw (al := fun i w_ => [some (.ref 3), some (.ref (ka 0)), some (.int (nI i))]) (S := fun i w_ => S) (G := fun i w_ => G) (B := fun i w_ => (upr B 7 w_.2)) (J := fun i w_ => J) (R := fun i w_ => (upr R 8 w_.1)) (P := fun i w_ => ((∀ q, q < 30 → (q + 1 < i → w_.1 q = R 8 (q + 1)) ∧ (i ≤ q + 1 → w_.1 q = R 8 q)) ∧ ∀ q, q < 30 → (q + 1 < i → w_.2 q = B 7 (q + 1)) ∧ (i ≤ q + 1 → w_.2 q = B 7 q)) ∧ 1 ≤ i) (n := 30) (fun i w_ hi pi ihi => ?_) (fun w_ pi => ?_) 1 (R 8, B 7) (by omega) (⟨⟨fun q _ => ⟨fun h_ => by omega, fun _ => rfl⟩, fun q _ => ⟨fun h_ => by omega, fun _ => rfl⟩⟩, by omega⟩)
  · show CR _ _ 9 [some (.ref 3), some (.ref (ka 0)), some (.int (nI i))] [] S G (upr B 7 w_.2) J (upr R 8 w_.1) _
    have hi1 := pi.2
    refine cr_nx (pc' := 10) (al' := [some (.ref 3), some (.ref (ka 0)), some (.int (nI i))]) (st' := [.int (nI i)]) d_82_9 (fun _ => rfl) ?_
    refine cn_bp (v := 30) d_82_10 (by decide) ?_
    refine cn_cge (t := 49) d_82_12 (by decide) (by first | omega | assumption | exact cu_36 (by omega) (cu_lt (by omega) (by omega))) (by first | omega | assumption | exact cu_36 (by omega) (cu_lt (by omega) (by omega))) (fun c12 => ?_) (fun c12 => ?_)
    · omega
    · refine cr_nx (pc' := 16) (al' := [some (.ref 3), some (.ref (ka 0)), some (.int (nI i))]) (st' := [.ref 3]) d_82_15 (fun _ => rfl) ?_
      refine cr_gf (v := .ref 8) d_82_16 cw_82 cf_9_30 (hS.i (a := 3) (by decide) (by decide)) (hS.s (a := 3) (by decide) (by decide) rfl) (by decide) (fx_3_6 hF) ?_
      refine cr_nx (pc' := 20) (al' := [some (.ref 3), some (.ref (ka 0)), some (.int (nI i))]) (st' := [.int (nI i), .ref 8]) d_82_19 (fun _ => rfl) ?_
      refine cn_ic (v := 1) d_82_20 (by decide) ?_
      refine cn_sub d_82_21 (by omega) ?_
      refine cr_nx (pc' := 23) (al' := [some (.ref 3), some (.ref (ka 0)), some (.int (nI i))]) (st' := [.ref 3, .int (nI (i - 1)), .ref 8]) d_82_22 (fun _ => rfl) ?_
      refine cr_gf (v := .ref 8) d_82_23 cw_82 cf_9_30 (hS.i (a := 3) (by decide) (by decide)) (hS.s (a := 3) (by decide) (by decide) rfl) (by decide) (fx_3_6 hF) ?_
      refine cr_nx (pc' := 27) (al' := [some (.ref 3), some (.ref (ka 0)), some (.int (nI i))]) (st' := [.int (nI i), .ref 8, .int (nI (i - 1)), .ref 8]) d_82_26 (fun _ => rfl) ?_
      refine cr_aa (a := 8) (v := .ref (ka i)) d_82_27 (hS.i (a := 8) (by decide) (by decide)) (by decide) (hS.s (a := 8) (by decide) (by decide) rfl) (by decide) (show i < 30 by first | omega | assumption | exact cu_36 (by omega) (cu_lt (by omega) (by omega))) (show va_rf (upr R 8 w_.1 8 i) = _ by rw [upr_s, (pi.1.1 i hi).2 (by omega), (hH.2.2.1 i hi).1]; rfl) ?_
      refine cr_aS (a := 8) (b := (ka i)) (c := 10) (R1 := (upr R 8 (va_up w_.1 (i - 1) (some (ka i))))) d_82_28 (hS.i (a := 8) (by decide) (by decide)) (hH.ka hi).1 (by decide) (hS.s (a := 8) (by decide) (by decide) rfl) (hH.ka hi).2.2.1 (by first | decide | omega) (show i - 1 < 30 by first | omega | assumption | exact cu_36 (by omega) (cu_lt (by omega) (by omega))) (by rw [upr_s, upr_u]) ?_
      refine cr_nx (pc' := 30) (al' := [some (.ref 3), some (.ref (ka 0)), some (.int (nI i))]) (st' := [.ref 3]) d_82_29 (fun _ => rfl) ?_
      refine cr_gf (v := .ref 7) d_82_30 cw_82 cf_9_27 (hS.i (a := 3) (by decide) (by decide)) (hS.s (a := 3) (by decide) (by decide) rfl) (by decide) (fx_3_5 hF) ?_
      refine cr_nx (pc' := 34) (al' := [some (.ref 3), some (.ref (ka 0)), some (.int (nI i))]) (st' := [.int (nI i), .ref 7]) d_82_33 (fun _ => rfl) ?_
      refine cn_ic (v := 1) d_82_34 (by decide) ?_
      refine cn_sub d_82_35 (by omega) ?_
      refine cr_nx (pc' := 37) (al' := [some (.ref 3), some (.ref (ka 0)), some (.int (nI i))]) (st' := [.ref 3, .int (nI (i - 1)), .ref 7]) d_82_36 (fun _ => rfl) ?_
      refine cr_gf (v := .ref 7) d_82_37 cw_82 cf_9_27 (hS.i (a := 3) (by decide) (by decide)) (hS.s (a := 3) (by decide) (by decide) rfl) (by decide) (fx_3_5 hF) ?_
      refine cr_nx (pc' := 41) (al' := [some (.ref 3), some (.ref (ka 0)), some (.int (nI i))]) (st' := [.int (nI i), .ref 7, .int (nI (i - 1)), .ref 7]) d_82_40 (fun _ => rfl) ?_
      refine cr_ia (a := 7) (v := (B 7 i)) d_82_41 (hS.i (a := 7) (by decide) (by decide)) (hS.s (a := 7) (by decide) (by decide) rfl) (by first | decide | omega) (show i < 30 by first | omega | assumption | exact cu_36 (by omega) (cu_lt (by omega) (by omega))) ((congrFun (by rw [upr_s] : (upr B 7 w_.2) 7 = w_.2) _).trans ((pi.1.2 i hi).2 (by omega))) ?_
      refine cr_iS (a := 7) (B1 := (upr B 7 (upd w_.2 (i - 1) (B 7 i)))) d_82_42 (hS.i (a := 7) (by decide) (by decide)) (hS.s (a := 7) (by decide) (by decide) rfl) (by first | decide | omega) (show i - 1 < 30 by first | omega | assumption | exact cu_36 (by omega) (cu_lt (by omega) (by omega))) (by rw [upr_s, upr_u]) ?_
      refine cn_inc d_82_43 rfl rfl ?_
      show CR _ _ 46 [some (.ref 3), some (.ref (ka 0)), some (.int (nI (i + 1)))] [] S G (upr B 7 (upd w_.2 (i - 1) (B 7 i))) J (upr R 8 (va_up w_.1 (i - 1) (some (ka i)))) _
      refine cr_nx (pc' := 9) (al' := [some (.ref 3), some (.ref (ka 0)), some (.int (nI (i + 1)))]) (st' := []) d_82_46 (fun _ => rfl) ?_
      exact ihi ((va_up w_.1 (i - 1) (some (ka i))), (upd w_.2 (i - 1) (B 7 i))) (⟨⟨lg_s pi.1.1 hi hi1 (hH.2.2.1 i hi).1.symm, lg_u pi.1.2 hi hi1⟩, by omega⟩)
  · show CR _ _ 9 [some (.ref 3), some (.ref (ka 0)), some (.int (nI 30))] [] S G (upr B 7 w_.2) J (upr R 8 w_.1) _
    refine cr_nx (pc' := 10) (al' := [some (.ref 3), some (.ref (ka 0)), some (.int (nI 30))]) (st' := [.int (nI 30)]) d_82_9 (fun _ => rfl) ?_
    refine cn_bp (v := 30) d_82_10 (by decide) ?_
    refine cn_cge (t := 49) d_82_12 (by decide) (by first | omega | assumption | exact cu_36 (by omega) (cu_lt (by omega) (by omega))) (by first | omega | assumption | exact cu_36 (by omega) (cu_lt (by omega) (by omega))) (fun c12 => ?_) (fun c12 => ?_)
    · refine cr_nx (pc' := 50) (al' := [some (.ref 3), some (.ref (ka 0)), some (.int (nI 30))]) (st' := [.ref 3]) d_82_49 (fun _ => rfl) ?_
      refine cr_gf (v := .ref 8) d_82_50 cw_82 cf_9_30 (hS.i (a := 3) (by decide) (by decide)) (hS.s (a := 3) (by decide) (by decide) rfl) (by decide) (fx_3_6 hF) ?_
      refine cn_bp (v := 29) d_82_53 (by decide) ?_
      refine cr_nx (pc' := 56) (al' := [some (.ref 3), some (.ref (ka 0)), some (.int (nI 30))]) (st' := [.ref (ka 0), .int (nI 29), .ref 8]) d_82_55 (fun _ => rfl) ?_
      refine cr_aS (a := 8) (b := (ka 0)) (c := 10) (R1 := (upr R 8 (va_up w_.1 29 (some (ka 0))))) d_82_56 (hS.i (a := 8) (by decide) (by decide)) (hH.ka (show 0 < 30 by decide)).1 (by decide) (hS.s (a := 8) (by decide) (by decide) rfl) (hH.ka (show 0 < 30 by decide)).2.2.1 (by first | decide | omega) (show 29 < 30 by first | omega | assumption | exact cu_36 (by omega) (cu_lt (by omega) (by omega))) (by rw [upr_s, upr_u]) ?_
      refine cr_nx (pc' := 58) (al' := [some (.ref 3), some (.ref (ka 0)), some (.int (nI 30))]) (st' := [.ref 3]) d_82_57 (fun _ => rfl) ?_
      refine cr_nx (pc' := 59) (al' := [some (.ref 3), some (.ref (ka 0)), some (.int (nI 30))]) (st' := [.ref 3, .ref 3]) d_82_58 (fun _ => rfl) ?_
      refine cr_gf (v := .int (nI 30)) d_82_59 cw_82 cf_9_51 (hS.i (a := 3) (by decide) (by decide)) (hS.s (a := 3) (by decide) (by decide) rfl) (by decide) hH.2.2.2.2.2.2.2.2.2.2.1 ?_
      refine cn_ic (v := 1) d_82_62 (by decide) ?_
      refine cn_sub d_82_63 (by first | omega | assumption | exact cu_36 (by omega) (cu_lt (by omega) (by omega))) ?_
      refine cp_9_7  d_82_64 cw_82 cf_9_51 (hS.i (a := 3) (by decide) (by decide)) (hS.s (a := 3) (by decide) (by decide) rfl) (by decide) ?_
      exact cr_rv d_82_67 cx_82 ⟨rfl, rfl, rfl, ((StF.rf.b (by decide)).r (by decide)).g (by decide), _, _, hH.sh hO (fun q hq => lg_e pi.1.1 (hH.2.2.1 0 (by decide)).1 q hq) (fun q hq => (pi.1.2 q (by omega)).1 (by omega)) (fun b hb => up2_g hb) up2_s (by rw [up2_n (by decide)]; exact hH.2.2.2.2.2.2.2.2.2.2.2)⟩
    · omega
