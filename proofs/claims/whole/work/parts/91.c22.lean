/-! What is kept: the class records a change; printed by wip/whole/gen_c22.py. -/
theorem HiC.pre {S : CS} {G G0 : Nat → Nat → Value} {B : Nat → Nat → Int32} {R : Nat → Nat → Option Nat} {H : Nat → Nat → Tb} {ch : Nat → Nat} {d t n : Nat} {ta ka : Nat → Nat} {tb : Tb} (h : HiC S G B R 3 H ch d t ta ka) (ho : HiOk H ch d t) (hd : d < 30) (hb6 : tb.1 ≤ 6) (hn : n < 6) (hm : ∀ q, q < tb.1 * tb.1 → B 87 q = nI (tb.2 q)) (hg : ∀ b, b ≠ 3 → G0 b = up2 G (ka d) 0 (.int (nI tb.1)) b) (h7 : G0 3 7 = .int (nI d)) (h8 : G0 3 8 = .int (nI (d + 1 - d))) : HiC S G0 (upr (upr B 7 (upd (B 7) d (nI n))) (ka d + 1) (va_cpy (B 87) (B (ka d + 1)) 0 0 36)) R 3 (pushH H d n tb) (upN ch d n) d (d + 1) ta ka := by
  obtain ⟨h0, h1, h2, h3, h4, h5, h6, h7a, h8a, h9, h10, h11⟩ := h
  have hdt := ho.1
  obtain ⟨zd, hzd, ezd⟩ := (h2 d hd).2
  have hsh : ∀ b tb, (∃ z, z < 36 ∧ b = 3 + 6 + 2 * z) → b ≠ ka d → ShT G B b tb → ShT G0 (upr (upr B 7 (upd (B 7) d (nI n))) (ka d + 1) (va_cpy (B 87) (B (ka d + 1)) 0 0 36)) b tb := fun b tb ⟨z, hz, eb⟩ hne q => q.cg (by rw [hg b (by omega), up2_n (fun e => hne e.1)]) (by rw [upr_n (by omega), upr_n (by omega)])
  refine ⟨fun z hz => ?_, h1, h2, h3, h4, h5, fun j hj => ?_, fun i hi => ?_, fun i hi1 hi2 => ?_, fun i hi => ?_, h7, h8⟩
  · obtain ⟨b1, b2, b3, b4, b5⟩ := h0 z hz
    exact ⟨b1, b2, b3, b4, by rw [hg _ (by omega), up2_n (fun e => by omega)]; exact b5⟩
  · rw [pushH_l (Nat.le_refl _)]
    exact hsh _ _ (h1 j hj).2 (h5 j d hj hd) (h6 j hj)
  · rw [pushH_l (by omega), upN_n (by omega)]
    exact hsh _ _ (h2 i (by omega)).2 (fun e => by have := h4 i d (by omega) hd e; omega) (h7a i hi)
  · have e : i = d := by omega
    subst e
    rw [upN_s, pushH_s]
    have h36 := Nat.mul_le_mul hb6 hb6
    exact ⟨by rw [hg _ (by omega), up2_s], fun q hq => by rw [upr_s, cpy_36 (by omega)]; exact hm q hq⟩
  · show upr (upr B 7 (upd (B 7) d (nI n))) (ka d + 1) _ 7 i = _
    rw [upr_n (by omega), upr_s]
    by_cases e : i = d
    · rw [e, pk_us, upN_s]
    · rw [pk_un e, upN_n e]
      exact h9 i (by omega)
def rcH (H : Nat → Nat → Tb) (d n : Nat) (tb : Tb) : Nat → Nat → Tb := if d = 30 then pushH (shH H) 29 n tb else pushH H d n tb
def rcC (ch : Nat → Nat) (d n : Nat) : Nat → Nat := if d = 30 then upN (shC ch) 29 n else upN ch d n
def rcD (d : Nat) : Nat := if d = 30 then 30 else d + 1
theorem HiOk.rc {H : Nat → Nat → Tb} {ch : Nat → Nat} {d t n : Nat} {tb : Tb} (h : HiOk H ch d t) (hn : n < 6) (hb : TbOk tb) : HiOk (rcH H d n tb) (rcC ch d n) (rcD d) (rcD d) := by
  have := h.1
  have := h.2.1
  unfold rcH rcC rcD
  by_cases e : d = 30
  · rw [if_pos e, if_pos e, if_pos e]
    have ht : t = 30 := by omega
    subst e
    subst ht
    exact (HiOk.sh (d := 29) (t := 29) h).push (by decide) hn hb
  · rw [if_neg e, if_neg e, if_neg e]
    exact h.push (by omega) hn hb
theorem rc_d {H : Nat → Nat → Tb} {d n : Nat} {tb : Tb} : rcH H d n tb (rcD d) n = tb := by
  unfold rcH rcD
  split
  · exact pushH_s
  · exact pushH_s
theorem rc_o {H : Nat → Nat → Tb} {d n j : Nat} {tb : Tb} (h : j ≠ n) : rcH H d n tb (rcD d) j = H d j := by
  unfold rcH rcD
  split
  next e => rw [pushH_o h, e]; rfl
  next e => exact pushH_o h
theorem FxG.ut9 {G : Nat → Nat → Value} {a k : Nat} {v : Value} (ha : 9 ≤ a ∧ a < 81) (h : FxG G) : FxG (up2 G a k v) := fun e he => by
  rw [up2_n]
  · exact h e he
  · intro q
    simp only [List.mem_cons, List.mem_nil_iff, or_false, Prod.ext_iff] at he
    omega
theorem k_rec13 {S : CS} {G : Nat → Nat → Value} {B : Nat → Nat → Int32} {J : Nat → Nat → Int64} {R : Nat → Nat → Option Nat} (hS : ShOk S) (hF : FxG G) {H : Nat → Nat → Tb} {ch : Nat → Nat} {d t : Nat} {ta ka : Nat → Nat} (hH : HiC S G B R 3 H ch d t ta ka) (hO : HiOk H ch d t) {n : Nat} (hn : n < 6) {tb : Tb} (hb : TbOk tb) (hg86 : G 86 0 = .int (nI tb.1)) (hm : ∀ q, q < tb.1 * tb.1 → B 87 q = nI (tb.2 q)) (hd : d < 30) : CR 1 81 13 [some (.ref 3), some (.int (nI n)), some (.ref 86)] [] S G B J R (HsQ S G B J R (pushH H d n tb) (upN ch d n) (d + 1) (d + 1)) := by
  have h7 : G 3 7 = .int (nI d) := hH.2.2.2.2.2.2.2.2.2.2.1
  obtain ⟨zd, hzd, ezd⟩ := (hH.2.2.1 d hd).2
  refine cr_nx (pc' := 14) (al' := [some (.ref 3), some (.int (nI n)), some (.ref 86)]) (st' := [.ref 3]) d_81_13 (fun _ => rfl) ?_
  refine cr_gf (v := .ref 7) d_81_14 cw_81 cf_9_27 (hS.i (a := 3) (by decide) (by decide)) (hS.s (a := 3) (by decide) (by decide) rfl) (by decide) (fx_3_5 hF) ?_
  refine cr_nx (pc' := 18) (al' := [some (.ref 3), some (.int (nI n)), some (.ref 86)]) (st' := [.ref 3, .ref 7]) d_81_17 (fun _ => rfl) ?_
  refine cr_gf (v := .int (nI d)) d_81_18 cw_81 cf_9_51 (hS.i (a := 3) (by decide) (by decide)) (hS.s (a := 3) (by decide) (by decide) rfl) (by decide) h7 ?_
  refine cr_nx (pc' := 22) (al' := [some (.ref 3), some (.int (nI n)), some (.ref 86)]) (st' := [.int (nI n), .int (nI d), .ref 7]) d_81_21 (fun _ => rfl) ?_
  refine cr_iS (a := 7) (B1 := (upr B 7 (upd (B 7) d (nI n)))) d_81_22 (hS.i (a := 7) (by decide) (by decide)) (hS.s (a := 7) (by decide) (by decide) rfl) (by first | decide | omega) (show d < 30 by first | omega | assumption | exact cu_36 (by omega) (cu_lt (by omega) (by omega))) rfl ?_
  refine cr_nx (pc' := 24) (al' := [some (.ref 3), some (.int (nI n)), some (.ref 86)]) (st' := [.ref 3]) d_81_23 (fun _ => rfl) ?_
  refine cr_gf (v := .ref 8) d_81_24 cw_81 cf_9_30 (hS.i (a := 3) (by decide) (by decide)) (hS.s (a := 3) (by decide) (by decide) rfl) (by decide) (fx_3_6 hF) ?_
  refine cr_nx (pc' := 28) (al' := [some (.ref 3), some (.int (nI n)), some (.ref 86)]) (st' := [.ref 3, .ref 8]) d_81_27 (fun _ => rfl) ?_
  refine cr_gf (v := .int (nI d)) d_81_28 cw_81 cf_9_51 (hS.i (a := 3) (by decide) (by decide)) (hS.s (a := 3) (by decide) (by decide) rfl) (by decide) h7 ?_
  refine cr_aa (a := 8) (v := .ref (ka d)) d_81_31 (hS.i (a := 8) (by decide) (by decide)) (by decide) (hS.s (a := 8) (by decide) (by decide) rfl) (by decide) (show d < 30 by first | omega | assumption | exact cu_36 (by omega) (cu_lt (by omega) (by omega))) (show va_rf _ = _ by rw [(hH.2.2.1 d hd).1]; rfl) ?_
  refine cr_nx (pc' := 33) (al' := [some (.ref 3), some (.int (nI n)), some (.ref 86)]) (st' := [.ref 86, .ref (ka d)]) d_81_32 (fun _ => rfl) ?_
  refine cr_pv (b := (ka d)) (as := [.ref 86]) (al0 := [some (.ref (ka d)), some (.ref 86)]) (r := []) d_81_33 cw_81 cm_9_34 cz_93 rfl rfl (hH.ka hd).1 (by rw [cw_93]; exact (hH.ka hd).2.2.1) (by rw [cw_93]; decide) rfl (Nat.le_of_ble_eq_true rfl) (k_become (hH.ka hd) (tb_86 hS hF) (by omega) hg86) ?_
  rw [show (86 + 1 : Nat) = 87 from rfl, upr_n (show (87 : Nat) ≠ 7 by decide), upr_n (show ka d + 1 ≠ 7 by omega)]
  show CR _ _ 36 [some (.ref 3), some (.int (nI n)), some (.ref 86)] [] S (up2 G (ka d) 0 (.int (nI tb.1))) (upr (upr B 7 (upd (B 7) d (nI n))) (ka d + 1) (va_cpy (B 87) (B (ka d + 1)) 0 0 36)) J R _
  refine cr_nx (pc' := 37) (al' := [some (.ref 3), some (.int (nI n)), some (.ref 86)]) (st' := [.ref 3]) d_81_36 (fun _ => rfl) ?_
  refine cr_nx (pc' := 38) (al' := [some (.ref 3), some (.int (nI n)), some (.ref 86)]) (st' := [.ref 3, .ref 3]) d_81_37 (fun _ => rfl) ?_
  refine cr_gf (v := .int (nI d)) d_81_38 cw_81 cf_9_51 (hS.i (a := 3) (by decide) (by decide)) (hS.s (a := 3) (by decide) (by decide) rfl) (by decide) (by simp [up2]; exact h7) ?_
  refine cn_ic (v := 1) d_81_41 (by decide) ?_
  refine cn_add d_81_42  ?_
  refine cp_9_7  d_81_43 cw_81 cf_9_51 (hS.i (a := 3) (by decide) (by decide)) (hS.s (a := 3) (by decide) (by decide) rfl) (by decide) ?_
  refine cr_nx (pc' := 47) (al' := [some (.ref 3), some (.int (nI n)), some (.ref 86)]) (st' := [.ref 3]) d_81_46 (fun _ => rfl) ?_
  refine cn_ic (v := 0) d_81_47 (by decide) ?_
  refine cp_9_8  d_81_48 cw_81 cf_9_54 (hS.i (a := 3) (by decide) (by decide)) (hS.s (a := 3) (by decide) (by decide) rfl) (by decide) ?_
  refine cr_nx (pc' := 52) (al' := [some (.ref 3), some (.int (nI n)), some (.ref 86)]) (st' := [.ref 3]) d_81_51 (fun _ => rfl) ?_
  refine cr_nx (pc' := 53) (al' := [some (.ref 3), some (.int (nI n)), some (.ref 86)]) (st' := [.ref 3, .ref 3]) d_81_52 (fun _ => rfl) ?_
  refine cr_gf (v := .int (nI (d + 1))) d_81_53 cw_81 cf_9_51 (hS.i (a := 3) (by decide) (by decide)) (hS.s (a := 3) (by decide) (by decide) rfl) (by decide) (by simp [up2]) ?_
  refine cn_ic (v := 1) d_81_56 (by decide) ?_
  refine cn_sub d_81_57 (by omega) ?_
  refine cr_pv (b := 3) (as := [.int (nI ((d + 1) - 1))]) (al0 := [some (.ref 3), some (.int (nI ((d + 1) - 1))), none]) (r := []) d_81_58 cw_81 cm_9_60 cz_83 rfl rfl (hS.i (a := 3) (by decide) (by decide)) (by rw [cw_83]; exact (hS.s (a := 3) (by decide) (by decide) rfl)) (by rw [cw_83]; decide) rfl (Nat.le_of_ble_eq_true rfl) (k_exchangeKept (c := n) (e := d + 1 - 1) hS (FxG.u3 (FxG.u3 (FxG.ut9 (by omega) hF))) (by rw [upr_n (by omega), upr_s]; exact pk_us) hn (by omega) (hH.2.1 n hn).1 (hH.2.2.1 d hd).1 (TabAt.u3 (TabAt.u3 (TabAt.up (hH.ta hn)))) (TabAt.u3 (TabAt.u3 (TabAt.up (hH.ka hd))))) ?_
  show CR _ _ 61 [some (.ref 3), some (.int (nI n)), some (.ref 86)] [] S (up2 (up2 (up2 G (ka d) 0 (.int (nI tb.1))) 3 7 (.int (nI (d + 1)))) 3 8 (.int (nI 0))) (upr (upr B 7 (upd (B 7) d (nI n))) (ka d + 1) (va_cpy (B 87) (B (ka d + 1)) 0 0 36)) J (upr (upr R 4 (va_up (R 4) n (some (ka d)))) 8 (va_up (R 8) d (some (ta n)))) _
  exact cr_rv d_81_61 cx_81 ⟨rfl, rfl, rfl, ((((((StF.rf.b (by omega)).b (by omega)).t (by omega)).g (by omega)).g (by omega)).r (by omega)).r (by omega), _, _, by
    have hx := (HiC.pre (n := n) (G0 := up2 (up2 (up2 G (ka d) 0 (.int (nI tb.1))) 3 7 (.int (nI d))) 3 8 (.int (nI (d + 1 - d)))) hH hO hd hb.1 hn hm (fun b hb_ => by rw [up2_g hb_, up2_g hb_]) (by rw [up2_n (by omega), up2_s]) up2_s).ex (e := d) (d' := d + 1) (G' := (up2 (up2 (up2 G (ka d) 0 (.int (nI tb.1))) 3 7 (.int (nI (d + 1)))) 3 8 (.int (nI 0)))) ((hO.push hd hn hb).un (Nat.le_succ d)) (Nat.lt_succ_self d) (Or.inl ⟨rfl, rfl⟩) (fun b hb_ => by rw [up2_g hb_, up2_g hb_, up2_g hb_, up2_g hb_]) (by rw [up2_n (by omega), up2_s]) (by rw [up2_s, Nat.sub_self])
    rw [upN_s] at hx
    exact hx⟩
theorem k_rec_f {S : CS} {G : Nat → Nat → Value} {B : Nat → Nat → Int32} {J : Nat → Nat → Int64} {R : Nat → Nat → Option Nat} {Q : CQ} (hS : ShOk S) (hF : FxG G) {H : Nat → Nat → Tb} {ch : Nat → Nat} {ta ka : Nat → Nat} {n : Nat} (hH : HiC S G B R 3 H ch 30 30 ta ka) (hO : HiOk H ch 30 30) (hk : ∀ G1 B1 R1, StF G B R G1 B1 R1 → ∀ ta1 ka1, HiC S G1 B1 R1 3 (shH H) (shC ch) 29 29 ta1 ka1 → CR 1 81 13 [some (.ref 3), some (.int (nI n)), some (.ref 86)] [] S G1 B1 J R1 Q) : CR 1 81 0 [some (.ref 3), some (.int (nI n)), some (.ref 86)] [] S G B J R Q := by
  refine cr_nx (pc' := 1) (al' := [some (.ref 3), some (.int (nI n)), some (.ref 86)]) (st' := [.ref 3]) d_81_0 (fun _ => rfl) ?_
  refine cr_gf (v := .int (nI 30)) d_81_1 cw_81 cf_9_51 (hS.i (a := 3) (by decide) (by decide)) (hS.s (a := 3) (by decide) (by decide) rfl) (by decide) hH.2.2.2.2.2.2.2.2.2.2.1 ?_
  refine cn_bp (v := 30) d_81_4 (by decide) ?_
  refine cn_cne (t := 13) d_81_6 (by decide) (by first | omega | assumption | exact cu_36 (by omega) (cu_lt (by omega) (by omega))) (by first | omega | assumption | exact cu_36 (by omega) (cu_lt (by omega) (by omega))) (fun c6 => ?_) (fun c6 => ?_)
  · omega
  · refine cr_nx (pc' := 10) (al' := [some (.ref 3), some (.int (nI n)), some (.ref 86)]) (st' := [.ref 3]) d_81_9 (fun _ => rfl) ?_
    refine cr_cv (b := 3) (as := []) (al0 := [some (.ref 3), none, none]) (r := []) d_81_10 cw_81 cm_9_57 cz_82 rfl rfl (hS.i (a := 3) (by decide) (by decide)) (by rw [cw_82]; exact (hS.s (a := 3) (by decide) (by decide) rfl)) (by rw [cw_82]; decide) rfl (cr_wk (Nat.le_of_ble_eq_true rfl) (k_letOldestGo hS hF hH hO)) (fun v1 S1 G1 B1 J1 R1 h1 => ?_)
    obtain ⟨q0_, q1_, q2_, hf1, ta1, ka1, hH1⟩ := h1
    obtain rfl := q0_
    obtain rfl := q1_.symm
    obtain rfl := q2_.symm
    show CR _ _ 13 [some (.ref 3), some (.int (nI n)), some (.ref 86)] [] S G1 B1 J R1 _
    exact hk _ _ _ hf1 _ _ hH1
theorem k_rec_n {S : CS} {G : Nat → Nat → Value} {B : Nat → Nat → Int32} {J : Nat → Nat → Int64} {R : Nat → Nat → Option Nat} {Q : CQ} (hS : ShOk S) {H : Nat → Nat → Tb} {ch : Nat → Nat} {d t n : Nat} {ta ka : Nat → Nat} (hH : HiC S G B R 3 H ch d t ta ka) (hd : d < 30) (hk : CR 1 81 13 [some (.ref 3), some (.int (nI n)), some (.ref 86)] [] S G B J R Q) : CR 1 81 0 [some (.ref 3), some (.int (nI n)), some (.ref 86)] [] S G B J R Q := by
  refine cr_nx (pc' := 1) (al' := [some (.ref 3), some (.int (nI n)), some (.ref 86)]) (st' := [.ref 3]) d_81_0 (fun _ => rfl) ?_
  refine cr_gf (v := .int (nI d)) d_81_1 cw_81 cf_9_51 (hS.i (a := 3) (by decide) (by decide)) (hS.s (a := 3) (by decide) (by decide) rfl) (by decide) hH.2.2.2.2.2.2.2.2.2.2.1 ?_
  refine cn_bp (v := 30) d_81_4 (by decide) ?_
  refine cn_cne (t := 13) d_81_6 (by decide) (by first | omega | assumption | exact cu_36 (by omega) (cu_lt (by omega) (by omega))) (by first | omega | assumption | exact cu_36 (by omega) (cu_lt (by omega) (by omega))) (fun c6 => ?_) (fun c6 => ?_)
  · exact hk
  · omega
theorem k_record {S : CS} {G : Nat → Nat → Value} {B : Nat → Nat → Int32} {J : Nat → Nat → Int64} {R : Nat → Nat → Option Nat} (hS : ShOk S) (hF : FxG G) {H : Nat → Nat → Tb} {ch : Nat → Nat} {d t : Nat} {ta ka : Nat → Nat} (hH : HiC S G B R 3 H ch d t ta ka) (hO : HiOk H ch d t) {n : Nat} (hn : n < 6) {tb : Tb} (hb : TbOk tb) (hg86 : G 86 0 = .int (nI tb.1)) (hm : ∀ q, q < tb.1 * tb.1 → B 87 q = nI (tb.2 q)) : CR 1 81 0 [some (.ref 3), some (.int (nI n)), some (.ref 86)] [] S G B J R (HsQ S G B J R (rcH H d n tb) (rcC ch d n) (rcD d) (rcD d)) := by
  have h1 := hO.1
  have h2 := hO.2.1
  unfold rcH rcC rcD
  by_cases e : d = 30
  · rw [if_pos e, if_pos e, if_pos e]
    have ht : t = 30 := by omega
    subst e
    subst ht
    refine k_rec_f hS hF hH hO (fun G1 B1 R1 hf ta1 ka1 hH1 => ?_)
    refine cr_cq (k_rec13 hS (hf.fx hF) hH1 (HiOk.sh (d := 29) (t := 29) hO) hn hb (by rw [(hf.1 86 (by decide)).1]; exact hg86) (by rw [(hf.1 87 (by decide)).2.1]; exact hm) (by decide)) ?_
    rintro r S' G' B' J' R' ⟨q1, q2, q3, q4, q5⟩
    exact ⟨q1, q2, q3, hf.tr q4, q5⟩
  · rw [if_neg e, if_neg e, if_neg e]
    exact k_rec_n hS hH (by omega) (k_rec13 hS hF hH hO hn hb hg86 hm (by omega))
