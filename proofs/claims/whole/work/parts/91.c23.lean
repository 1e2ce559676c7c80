/-! What is kept: the reference records, undoes, redoes; printed by wip/whole/gen_c23.py. -/
def copF (f : Nat → Int32) (dst src n : Nat) : Nat → Int32 := fun q => if dst ≤ q ∧ q < dst + n then f (src + (q - dst)) else f q
theorem copF_0 {f : Nat → Int32} {dst src : Nat} : copF f dst src 0 = f := by
  funext q
  unfold copF
  rw [if_neg (by omega)]
theorem copF_in {f : Nat → Int32} {dst src n k : Nat} (h : k < n) : copF f dst src n (dst + k) = f (src + k) := by
  unfold copF
  rw [if_pos (by omega), show dst + k - dst = k by omega]
theorem copF_out {f : Nat → Int32} {dst src n q : Nat} (h : q < dst ∨ dst + n ≤ q) : copF f dst src n q = f q := by
  unfold copF
  rw [if_neg (by omega)]
theorem copF_s {f : Nat → Int32} {dst src n : Nat} (h : src + n < dst ∨ dst + n ≤ src + n) : upd (copF f dst src n) (dst + n) (copF f dst src n (src + n)) = copF f dst src (n + 1) := by
  rw [copF_out h]
  funext q
  by_cases e : q = dst + n
  · rw [e, pk_us, copF_in (Nat.lt_succ_self n)]
  · rw [pk_un e]
    unfold copF
    by_cases c : dst ≤ q ∧ q < dst + n
    · rw [if_pos c, if_pos (by omega)]
    · rw [if_neg c, if_neg (by omega)]
def pasF (f : Nat → Int32) (dst : Nat) (v : Nat → Int32) (n : Nat) : Nat → Int32 := fun q => if dst ≤ q ∧ q < dst + n then v (q - dst) else f q
theorem pasF_0 {f : Nat → Int32} {dst : Nat} {v : Nat → Int32} : pasF f dst v 0 = f := by
  funext q
  unfold pasF
  rw [if_neg (by omega)]
theorem pasF_in {f : Nat → Int32} {dst n k : Nat} {v : Nat → Int32} (h : k < n) : pasF f dst v n (dst + k) = v k := by
  unfold pasF
  rw [if_pos (by omega), show dst + k - dst = k by omega]
theorem pasF_out {f : Nat → Int32} {dst n q : Nat} {v : Nat → Int32} (h : q < dst ∨ dst + n ≤ q) : pasF f dst v n q = f q := by
  unfold pasF
  rw [if_neg (by omega)]
theorem pasF_s {f : Nat → Int32} {dst n : Nat} {v : Nat → Int32} : upd (pasF f dst v n) (dst + n) (v n) = pasF f dst v (n + 1) := by
  funext q
  by_cases e : q = dst + n
  · rw [e, pk_us, pasF_in (Nat.lt_succ_self n)]
  · rw [pk_un e]
    unfold pasF
    by_cases c : dst ≤ q ∧ q < dst + n
    · rw [if_pos c, if_pos (by omega)]
    · rw [if_neg c, if_neg (by omega)]
def madV (a : Nat → Int32) (m k : Nat) : Int32 := if k < m * m then a k else nI 0
/-- what changes of history leave alone -/
def RfF (f f' : Nat → Int32) : Prop := ∀ i, (222 ≤ i ∧ i < 259) ∨ i = 2509 ∨ 2512 ≤ i → f' i = f i
theorem ShR.cg {f f' : Nat → Int32} {b b' : Nat} {t : Tb} (h : ShR f b t) (hf : ∀ k, k < 37 → f' (b' + k) = f (b + k)) (ht : t.1 ≤ 6) : ShR f' b' t := by
  have h36 := Nat.mul_le_mul ht ht
  refine ⟨by have := hf 0 (by decide); rw [Nat.add_zero, Nat.add_zero] at this; rw [this]; exact h.1, fun q hq => ?_⟩
  have := hf (1 + q) (by omega)
  rw [Nat.add_assoc, this, ← Nat.add_assoc]
  exact h.2 q hq
/-- one table changes, d moves -/
theorem HiR.tb {f f' : Nat → Int32} {H : Nat → Nat → Tb} {ch : Nat → Nat} {d d' t c : Nat} (h : HiR f H ch d t) (ho : HiOk H ch d t) (hd' : d' ≤ t) (hc : c < 6) (hf : ∀ q, q < 37 * c ∨ 37 * c + 37 ≤ q → q ≠ 2510 → f' q = f q) (hd : f' 2510 = nI d') (hs : ShR f' (37 * c) (H d' c)) (hH : ∀ j, j < 6 → j ≠ c → H d' j = H d j) : HiR f' H ch d' t := by
  have ht := ho.2.1
  refine ⟨fun j hj => ?_, fun i hi => ?_, hd, by rw [hf _ (by omega) (by omega)]; exact h.2.2.2⟩
  · by_cases e : j = c
    · rw [e]; exact hs
    · rw [hH j hj e]
      exact (h.1 j hj).cg (fun k hk => hf _ (by omega) (by omega)) (ho.2.2.1 d j ho.1 hj).1
  · obtain ⟨a1, a2, a3⟩ := h.2.1 i hi
    have hc2 := (ho.2.2.2 i hi).1
    exact ⟨by rw [hf _ (by omega) (by omega)]; exact a1, a2.cg (fun k hk => hf _ (by omega) (by omega)) (ho.2.2.1 i _ (by omega) hc2).1, a3.cg (fun k hk => hf _ (by omega) (by omega)) (ho.2.2.1 (i + 1) _ (by omega) hc2).1⟩
theorem s_undo_y {g : Nat → Int32} {A : Nat → Nat → Int32} {H : Nat → Nat → Tb} {ch : Nat → Nat} {d t : Nat} (hH : HiR (A 1) H ch d t) (hO : HiOk H ch d t) (hd : 1 ≤ d) : RR 1 187 0 [some (.ref 146), none, none] [] g A (fun v_ g' A' => v_ = some (.int (nI (d - 1))) ∧ g' = upd (upd g 0 (nI 0)) 1 (g 1 + nI 1) ∧ ∃ f', A' = rf_u A 1 f' ∧ HiR f' H ch (d - 1) t ∧ RfF (A 1) f') := by
  have hcc := (hO.2.2.2 (d - 1) (by have := hO.1; omega)).1
  have ht30 := hO.2.1
  have hdt := hO.1
  refine rr_nx (pc' := 1) (al' := [some (.ref 146), none, none]) (st' := [.ref 146]) d_187_0 (fun _ => rfl) ?_
  refine rr_gf (v := .ref (147 + 1)) d_187_1 mo_187 fl_13 rfl ?_
  refine rn_sp (v := 2510) d_187_4 (by decide) ?_
  refine rr_ia (j := 1) (v := (nI d)) d_187_7 (by decide) rfl (by decide) (show 2510 < 5720 by first | omega | assumption | exact cu_36 (by omega) (cu_lt (by omega) (by omega))) hH.2.2.1 ?_
  refine rn_ine (t := 18) d_187_8 (by decide) (by first | omega | assumption | exact cu_36 (by omega) (cu_lt (by omega) (by omega))) (fun c8 => ?_) (fun c8 => ?_)
  · refine rr_nx (pc' := 19) (al' := [some (.ref 146), none, none]) (st' := [.ref 146]) d_187_18 (fun _ => rfl) ?_
    refine rr_gf (v := .ref (147 + 1)) d_187_19 mo_187 fl_13 rfl ?_
    refine rn_sp (v := 2510) d_187_22 (by decide) ?_
    refine rr_nx (pc' := 26) (al' := [some (.ref 146), none, none]) (st' := [.int (nI 2510), .ref (147 + 1), .int (nI 2510), .ref (147 + 1)]) d_187_25 (fun _ => rfl) ?_
    refine rr_ia (j := 1) (v := (nI d)) d_187_26 (by decide) rfl (by decide) (show 2510 < 5720 by first | omega | assumption | exact cu_36 (by omega) (cu_lt (by omega) (by omega))) hH.2.2.1 ?_
    refine rn_ic (v := 1) d_187_27 (by decide) ?_
    refine rn_sub d_187_28 (by first | omega | assumption | exact cu_36 (by omega) (cu_lt (by omega) (by omega))) ?_
    refine rr_iS (j := 1) (A1 := (rf_u A 1 (upd (A 1) 2510 (nI (d - 1))))) d_187_29 (by decide) rfl (by decide) (show 2510 < 5720 by first | omega | assumption | exact cu_36 (by omega) (cu_lt (by omega) (by omega))) rfl ?_
    refine rn_sp (v := 259) d_187_30 (by decide) ?_
    refine rn_bp (v := 75) d_187_33 (by decide) ?_
    refine rr_nx (pc' := 36) (al' := [some (.ref 146), none, none]) (st' := [.ref 146, .int (nI 75), .int (nI 259)]) d_187_35 (fun _ => rfl) ?_
    refine rr_gf (v := .ref (147 + 1)) d_187_36 mo_187 fl_13 rfl ?_
    refine rn_sp (v := 2510) d_187_39 (by decide) ?_
    refine rr_ia (j := 1) (v := (nI (d - 1))) d_187_42 (by decide) rfl (by decide) (show 2510 < 5720 by first | omega | assumption | exact cu_36 (by omega) (cu_lt (by omega) (by omega))) (by rw [rf_u_s, pk_us]) ?_
    refine rn_mul d_187_43  ?_
    refine rn_add d_187_44  ?_
    refine rr_nx (pc' := 46) (al' := [some (.ref 146), some (.int (nI (259 + (75 * (d - 1))))), none]) (st' := []) d_187_45 (fun _ => rfl) ?_
    refine rn_ic (v := 0) d_187_46 (by decide) ?_
    refine rr_nx (pc' := 48) (al' := [some (.ref 146), some (.int (nI (259 + (75 * (d - 1))))), some (.int (nI 0))]) (st' := []) d_187_47 (fun _ => rfl) ?_
    refine rr_A (show (rf_u A 1 (upd (A 1) 2510 (nI (d - 1)))) = (rf_u A 1 (copF (upd (A 1) 2510 (nI (d - 1))) (37 * ch (d - 1)) (259 + 75 * (d - 1) + 1) 0)) by rw [copF_0]) ?_
    refine rr_up (al := fun k => [some (.ref 146), some (.int (nI (259 + (75 * (d - 1))))), some (.int (nI k))]) (G := fun k => g) (B := fun k => (rf_u A 1 (copF (upd (A 1) 2510 (nI (d - 1))) (37 * ch (d - 1)) (259 + 75 * (d - 1) + 1) k))) (P := fun k => True) (n := 37) (fun k hk pk ihk => ?_) (fun pk => ?_) 0  (by omega) (trivial)
    · show RR _ _ 48 [some (.ref 146), some (.int (nI (259 + (75 * (d - 1))))), some (.int (nI k))] [] g (rf_u A 1 (copF (upd (A 1) 2510 (nI (d - 1))) (37 * ch (d - 1)) (259 + 75 * (d - 1) + 1) k)) _
      refine rr_nx (pc' := 49) (al' := [some (.ref 146), some (.int (nI (259 + (75 * (d - 1))))), some (.int (nI k))]) (st' := [.int (nI k)]) d_187_48 (fun _ => rfl) ?_
      refine rn_bp (v := 37) d_187_49 (by decide) ?_
      refine rn_cge (t := 86) d_187_51 (by decide) (by first | omega | assumption | exact cu_36 (by omega) (cu_lt (by omega) (by omega))) (by first | omega | assumption | exact cu_36 (by omega) (cu_lt (by omega) (by omega))) (fun c51 => ?_) (fun c51 => ?_)
      · omega
      · refine rr_nx (pc' := 55) (al' := [some (.ref 146), some (.int (nI (259 + (75 * (d - 1))))), some (.int (nI k))]) (st' := [.ref 146]) d_187_54 (fun _ => rfl) ?_
        refine rr_gf (v := .ref (147 + 1)) d_187_55 mo_187 fl_13 rfl ?_
        refine rn_bp (v := 37) d_187_58 (by decide) ?_
        refine rr_nx (pc' := 61) (al' := [some (.ref 146), some (.int (nI (259 + (75 * (d - 1))))), some (.int (nI k))]) (st' := [.ref 146, .int (nI 37), .ref (147 + 1)]) d_187_60 (fun _ => rfl) ?_
        refine rr_gf (v := .ref (147 + 1)) d_187_61 mo_187 fl_13 rfl ?_
        refine rr_nx (pc' := 65) (al' := [some (.ref 146), some (.int (nI (259 + (75 * (d - 1))))), some (.int (nI k))]) (st' := [.int (nI (259 + (75 * (d - 1)))), .ref (147 + 1), .int (nI 37), .ref (147 + 1)]) d_187_64 (fun _ => rfl) ?_
        refine rr_ia (j := 1) (v := (nI (ch (d - 1)))) d_187_65 (by decide) rfl (by decide) (show 259 + (75 * (d - 1)) < 5720 by first | omega | assumption | exact cu_36 (by omega) (cu_lt (by omega) (by omega))) (by rw [rf_u_s, copF_out (by omega), pk_un (by omega)]; exact (hH.2.1 (d - 1) (by omega)).1) ?_
        refine rn_mul d_187_66  ?_
        refine rr_nx (pc' := 68) (al' := [some (.ref 146), some (.int (nI (259 + (75 * (d - 1))))), some (.int (nI k))]) (st' := [.int (nI k), .int (nI (37 * (ch (d - 1)))), .ref (147 + 1)]) d_187_67 (fun _ => rfl) ?_
        refine rn_add d_187_68  ?_
        refine rr_nx (pc' := 70) (al' := [some (.ref 146), some (.int (nI (259 + (75 * (d - 1))))), some (.int (nI k))]) (st' := [.ref 146, .int (nI ((37 * (ch (d - 1))) + k)), .ref (147 + 1)]) d_187_69 (fun _ => rfl) ?_
        refine rr_gf (v := .ref (147 + 1)) d_187_70 mo_187 fl_13 rfl ?_
        refine rr_nx (pc' := 74) (al' := [some (.ref 146), some (.int (nI (259 + (75 * (d - 1))))), some (.int (nI k))]) (st' := [.int (nI (259 + (75 * (d - 1)))), .ref (147 + 1), .int (nI ((37 * (ch (d - 1))) + k)), .ref (147 + 1)]) d_187_73 (fun _ => rfl) ?_
        refine rn_ic (v := 1) d_187_74 (by decide) ?_
        refine rn_add d_187_75  ?_
        refine rr_nx (pc' := 77) (al' := [some (.ref 146), some (.int (nI (259 + (75 * (d - 1))))), some (.int (nI k))]) (st' := [.int (nI k), .int (nI ((259 + (75 * (d - 1))) + 1)), .ref (147 + 1), .int (nI ((37 * (ch (d - 1))) + k)), .ref (147 + 1)]) d_187_76 (fun _ => rfl) ?_
        refine rn_add d_187_77  ?_
        refine rr_ia (j := 1) (v := ((copF (upd (A 1) 2510 (nI (d - 1))) (37 * ch (d - 1)) (259 + 75 * (d - 1) + 1) k) (((259 + (75 * (d - 1))) + 1) + k))) d_187_78 (by decide) rfl (by decide) (show ((259 + (75 * (d - 1))) + 1) + k < 5720 by first | omega | assumption | exact cu_36 (by omega) (cu_lt (by omega) (by omega))) rfl ?_
        refine rr_iS (j := 1) (A1 := (rf_u A 1 (upd (copF (upd (A 1) 2510 (nI (d - 1))) (37 * ch (d - 1)) (259 + 75 * (d - 1) + 1) k) ((37 * (ch (d - 1))) + k) ((copF (upd (A 1) 2510 (nI (d - 1))) (37 * ch (d - 1)) (259 + 75 * (d - 1) + 1) k) (((259 + (75 * (d - 1))) + 1) + k))))) d_187_79 (by decide) rfl (by decide) (show (37 * (ch (d - 1))) + k < 5720 by first | omega | assumption | exact cu_36 (by omega) (cu_lt (by omega) (by omega))) rf_uw ?_
        refine rn_inc d_187_80 rfl rfl ?_
        show RR _ _ 83 [some (.ref 146), some (.int (nI (259 + (75 * (d - 1))))), some (.int (nI (k + 1)))] [] g (rf_u A 1 (upd (copF (upd (A 1) 2510 (nI (d - 1))) (37 * ch (d - 1)) (259 + 75 * (d - 1) + 1) k) ((37 * (ch (d - 1))) + k) ((copF (upd (A 1) 2510 (nI (d - 1))) (37 * ch (d - 1)) (259 + 75 * (d - 1) + 1) k) (((259 + (75 * (d - 1))) + 1) + k)))) _
        refine rr_nx (pc' := 48) (al' := [some (.ref 146), some (.int (nI (259 + (75 * (d - 1))))), some (.int (nI (k + 1)))]) (st' := []) d_187_83 (fun _ => rfl) ?_
        refine rr_A (show (rf_u A 1 (upd (copF (upd (A 1) 2510 (nI (d - 1))) (37 * ch (d - 1)) (259 + 75 * (d - 1) + 1) k) ((37 * (ch (d - 1))) + k) ((copF (upd (A 1) 2510 (nI (d - 1))) (37 * ch (d - 1)) (259 + 75 * (d - 1) + 1) k) (((259 + (75 * (d - 1))) + 1) + k)))) = (rf_u A 1 (copF (upd (A 1) 2510 (nI (d - 1))) (37 * ch (d - 1)) (259 + 75 * (d - 1) + 1) (k + 1))) by rw [copF_s (by omega)]) ?_
        exact ihk  (trivial)
    · show RR _ _ 48 [some (.ref 146), some (.int (nI (259 + (75 * (d - 1))))), some (.int (nI 37))] [] g (rf_u A 1 (copF (upd (A 1) 2510 (nI (d - 1))) (37 * ch (d - 1)) (259 + 75 * (d - 1) + 1) 37)) _
      refine rr_nx (pc' := 49) (al' := [some (.ref 146), some (.int (nI (259 + (75 * (d - 1))))), some (.int (nI 37))]) (st' := [.int (nI 37)]) d_187_48 (fun _ => rfl) ?_
      refine rn_bp (v := 37) d_187_49 (by decide) ?_
      refine rn_cge (t := 86) d_187_51 (by decide) (by first | omega | assumption | exact cu_36 (by omega) (cu_lt (by omega) (by omega))) (by first | omega | assumption | exact cu_36 (by omega) (cu_lt (by omega) (by omega))) (fun c51 => ?_) (fun c51 => ?_)
      · refine rr_nx (pc' := 87) (al' := [some (.ref 146), some (.int (nI (259 + (75 * (d - 1))))), some (.int (nI 37))]) (st' := [.ref 146]) d_187_86 (fun _ => rfl) ?_
        refine rr_nx (pc' := 88) (al' := [some (.ref 146), some (.int (nI (259 + (75 * (d - 1))))), some (.int (nI 37))]) (st' := [.ref 146, .ref 146]) d_187_87 (fun _ => rfl) ?_
        refine rr_gf (v := .ref (147 + 1)) d_187_88 mo_187 fl_13 rfl ?_
        refine rn_sp (v := 2510) d_187_91 (by decide) ?_
        refine rr_ia (j := 1) (v := (nI (d - 1))) d_187_94 (by decide) rfl (by decide) (show 2510 < 5720 by first | omega | assumption | exact cu_36 (by omega) (cu_lt (by omega) (by omega))) (by rw [rf_u_s, copF_out (by omega), pk_us]) ?_
        refine rr_pv (as := [.int (nI (d - 1))]) (al0 := [some (.ref 146), some (.int (nI (d - 1)))]) (r := []) d_187_95 mo_187 ml_114 mz_181 rfl rfl rfl (Nat.le_of_ble_eq_true rfl) (s_good _) ?_
        show RR _ _ 98 [some (.ref 146), some (.int (nI (259 + (75 * (d - 1))))), some (.int (nI 37))] [.int (nI (d - 1))] (upd (upd g 0 (nI 0)) 1 (g 1 + nI 1)) (rf_u A 1 (copF (upd (A 1) 2510 (nI (d - 1))) (37 * ch (d - 1)) (259 + 75 * (d - 1) + 1) 37)) _
        exact rr_ri d_187_98 mr_187 rfl ⟨rfl, rfl, _, rfl, hH.tb hO (by omega) hcc (fun q h1 h2 => by rw [copF_out h1, pk_un h2]) (by rw [copF_out (by omega), pk_us]) ((hH.2.1 (d - 1) (by omega)).2.1.cg (fun k hk => by rw [copF_in hk, pk_un (by omega), show 259 + 75 * (d - 1) + 1 + k = 260 + 75 * (d - 1) + k by omega]) (hO.2.2.1 _ _ (by omega) hcc).1) (fun j hj e => by have := (hO.2.2.2 (d - 1) (by omega)).2 j hj e; rw [show d - 1 + 1 = d by omega] at this; exact this.symm), fun i hi => by rw [copF_out (by omega), pk_un (by omega)]⟩
      · omega
  · omega
theorem s_redo_y {g : Nat → Int32} {A : Nat → Nat → Int32} {H : Nat → Nat → Tb} {ch : Nat → Nat} {d t : Nat} (hH : HiR (A 1) H ch d t) (hO : HiOk H ch d t) (hd : d < t) : RR 1 188 0 [some (.ref 146), none, none] [] g A (fun v_ g' A' => v_ = some (.int (nI (t - (d + 1)))) ∧ g' = upd (upd g 0 (nI 0)) 1 (g 1 + nI 1) ∧ ∃ f', A' = rf_u A 1 f' ∧ HiR f' H ch (d + 1) t ∧ RfF (A 1) f') := by
  have hcc := (hO.2.2.2 d hd).1
  have ht30 := hO.2.1
  refine rr_nx (pc' := 1) (al' := [some (.ref 146), none, none]) (st' := [.ref 146]) d_188_0 (fun _ => rfl) ?_
  refine rr_gf (v := .ref (147 + 1)) d_188_1 mo_188 fl_13 rfl ?_
  refine rn_sp (v := 2510) d_188_4 (by decide) ?_
  refine rr_ia (j := 1) (v := (nI d)) d_188_7 (by decide) rfl (by decide) (show 2510 < 5720 by first | omega | assumption | exact cu_36 (by omega) (cu_lt (by omega) (by omega))) hH.2.2.1 ?_
  refine rr_nx (pc' := 9) (al' := [some (.ref 146), none, none]) (st' := [.ref 146, .int (nI d)]) d_188_8 (fun _ => rfl) ?_
  refine rr_gf (v := .ref (147 + 1)) d_188_9 mo_188 fl_13 rfl ?_
  refine rn_sp (v := 2511) d_188_12 (by decide) ?_
  refine rr_ia (j := 1) (v := (nI t)) d_188_15 (by decide) rfl (by decide) (show 2511 < 5720 by first | omega | assumption | exact cu_36 (by omega) (cu_lt (by omega) (by omega))) hH.2.2.2 ?_
  refine rn_cne (t := 26) d_188_16 (by decide) (by first | omega | assumption | exact cu_36 (by omega) (cu_lt (by omega) (by omega))) (by first | omega | assumption | exact cu_36 (by omega) (cu_lt (by omega) (by omega))) (fun c16 => ?_) (fun c16 => ?_)
  · refine rn_sp (v := 259) d_188_26 (by decide) ?_
    refine rn_bp (v := 75) d_188_29 (by decide) ?_
    refine rr_nx (pc' := 32) (al' := [some (.ref 146), none, none]) (st' := [.ref 146, .int (nI 75), .int (nI 259)]) d_188_31 (fun _ => rfl) ?_
    refine rr_gf (v := .ref (147 + 1)) d_188_32 mo_188 fl_13 rfl ?_
    refine rn_sp (v := 2510) d_188_35 (by decide) ?_
    refine rr_ia (j := 1) (v := (nI d)) d_188_38 (by decide) rfl (by decide) (show 2510 < 5720 by first | omega | assumption | exact cu_36 (by omega) (cu_lt (by omega) (by omega))) hH.2.2.1 ?_
    refine rn_mul d_188_39  ?_
    refine rn_add d_188_40  ?_
    refine rr_nx (pc' := 42) (al' := [some (.ref 146), some (.int (nI (259 + (75 * d)))), none]) (st' := []) d_188_41 (fun _ => rfl) ?_
    refine rn_ic (v := 0) d_188_42 (by decide) ?_
    refine rr_nx (pc' := 44) (al' := [some (.ref 146), some (.int (nI (259 + (75 * d)))), some (.int (nI 0))]) (st' := []) d_188_43 (fun _ => rfl) ?_
    refine rr_A (show A = (rf_u A 1 (copF (A 1) (37 * ch d) (259 + 75 * d + 1 + 37) 0)) by rw [copF_0, rf_u_id]) ?_
    refine rr_up (al := fun k => [some (.ref 146), some (.int (nI (259 + (75 * d)))), some (.int (nI k))]) (G := fun k => g) (B := fun k => (rf_u A 1 (copF (A 1) (37 * ch d) (259 + 75 * d + 1 + 37) k))) (P := fun k => True) (n := 37) (fun k hk pk ihk => ?_) (fun pk => ?_) 0  (by omega) (trivial)
    · show RR _ _ 44 [some (.ref 146), some (.int (nI (259 + (75 * d)))), some (.int (nI k))] [] g (rf_u A 1 (copF (A 1) (37 * ch d) (259 + 75 * d + 1 + 37) k)) _
      refine rr_nx (pc' := 45) (al' := [some (.ref 146), some (.int (nI (259 + (75 * d)))), some (.int (nI k))]) (st' := [.int (nI k)]) d_188_44 (fun _ => rfl) ?_
      refine rn_bp (v := 37) d_188_45 (by decide) ?_
      refine rn_cge (t := 85) d_188_47 (by decide) (by first | omega | assumption | exact cu_36 (by omega) (cu_lt (by omega) (by omega))) (by first | omega | assumption | exact cu_36 (by omega) (cu_lt (by omega) (by omega))) (fun c47 => ?_) (fun c47 => ?_)
      · omega
      · refine rr_nx (pc' := 51) (al' := [some (.ref 146), some (.int (nI (259 + (75 * d)))), some (.int (nI k))]) (st' := [.ref 146]) d_188_50 (fun _ => rfl) ?_
        refine rr_gf (v := .ref (147 + 1)) d_188_51 mo_188 fl_13 rfl ?_
        refine rn_bp (v := 37) d_188_54 (by decide) ?_
        refine rr_nx (pc' := 57) (al' := [some (.ref 146), some (.int (nI (259 + (75 * d)))), some (.int (nI k))]) (st' := [.ref 146, .int (nI 37), .ref (147 + 1)]) d_188_56 (fun _ => rfl) ?_
        refine rr_gf (v := .ref (147 + 1)) d_188_57 mo_188 fl_13 rfl ?_
        refine rr_nx (pc' := 61) (al' := [some (.ref 146), some (.int (nI (259 + (75 * d)))), some (.int (nI k))]) (st' := [.int (nI (259 + (75 * d))), .ref (147 + 1), .int (nI 37), .ref (147 + 1)]) d_188_60 (fun _ => rfl) ?_
        refine rr_ia (j := 1) (v := (nI (ch d))) d_188_61 (by decide) rfl (by decide) (show 259 + (75 * d) < 5720 by first | omega | assumption | exact cu_36 (by omega) (cu_lt (by omega) (by omega))) (by rw [rf_u_s, copF_out (by omega)]; exact (hH.2.1 d hd).1) ?_
        refine rn_mul d_188_62  ?_
        refine rr_nx (pc' := 64) (al' := [some (.ref 146), some (.int (nI (259 + (75 * d)))), some (.int (nI k))]) (st' := [.int (nI k), .int (nI (37 * (ch d))), .ref (147 + 1)]) d_188_63 (fun _ => rfl) ?_
        refine rn_add d_188_64  ?_
        refine rr_nx (pc' := 66) (al' := [some (.ref 146), some (.int (nI (259 + (75 * d)))), some (.int (nI k))]) (st' := [.ref 146, .int (nI ((37 * (ch d)) + k)), .ref (147 + 1)]) d_188_65 (fun _ => rfl) ?_
        refine rr_gf (v := .ref (147 + 1)) d_188_66 mo_188 fl_13 rfl ?_
        refine rr_nx (pc' := 70) (al' := [some (.ref 146), some (.int (nI (259 + (75 * d)))), some (.int (nI k))]) (st' := [.int (nI (259 + (75 * d))), .ref (147 + 1), .int (nI ((37 * (ch d)) + k)), .ref (147 + 1)]) d_188_69 (fun _ => rfl) ?_
        refine rn_ic (v := 1) d_188_70 (by decide) ?_
        refine rn_add d_188_71  ?_
        refine rn_bp (v := 37) d_188_72 (by decide) ?_
        refine rn_add d_188_74  ?_
        refine rr_nx (pc' := 76) (al' := [some (.ref 146), some (.int (nI (259 + (75 * d)))), some (.int (nI k))]) (st' := [.int (nI k), .int (nI (((259 + (75 * d)) + 1) + 37)), .ref (147 + 1), .int (nI ((37 * (ch d)) + k)), .ref (147 + 1)]) d_188_75 (fun _ => rfl) ?_
        refine rn_add d_188_76  ?_
        refine rr_ia (j := 1) (v := ((copF (A 1) (37 * ch d) (259 + 75 * d + 1 + 37) k) ((((259 + (75 * d)) + 1) + 37) + k))) d_188_77 (by decide) rfl (by decide) (show (((259 + (75 * d)) + 1) + 37) + k < 5720 by first | omega | assumption | exact cu_36 (by omega) (cu_lt (by omega) (by omega))) rfl ?_
        refine rr_iS (j := 1) (A1 := (rf_u A 1 (upd (copF (A 1) (37 * ch d) (259 + 75 * d + 1 + 37) k) ((37 * (ch d)) + k) ((copF (A 1) (37 * ch d) (259 + 75 * d + 1 + 37) k) ((((259 + (75 * d)) + 1) + 37) + k))))) d_188_78 (by decide) rfl (by decide) (show (37 * (ch d)) + k < 5720 by first | omega | assumption | exact cu_36 (by omega) (cu_lt (by omega) (by omega))) rf_uw ?_
        refine rn_inc d_188_79 rfl rfl ?_
        show RR _ _ 82 [some (.ref 146), some (.int (nI (259 + (75 * d)))), some (.int (nI (k + 1)))] [] g (rf_u A 1 (upd (copF (A 1) (37 * ch d) (259 + 75 * d + 1 + 37) k) ((37 * (ch d)) + k) ((copF (A 1) (37 * ch d) (259 + 75 * d + 1 + 37) k) ((((259 + (75 * d)) + 1) + 37) + k)))) _
        refine rr_nx (pc' := 44) (al' := [some (.ref 146), some (.int (nI (259 + (75 * d)))), some (.int (nI (k + 1)))]) (st' := []) d_188_82 (fun _ => rfl) ?_
        refine rr_A (show (rf_u A 1 (upd (copF (A 1) (37 * ch d) (259 + 75 * d + 1 + 37) k) ((37 * (ch d)) + k) ((copF (A 1) (37 * ch d) (259 + 75 * d + 1 + 37) k) ((((259 + (75 * d)) + 1) + 37) + k)))) = (rf_u A 1 (copF (A 1) (37 * ch d) (259 + 75 * d + 1 + 37) (k + 1))) by rw [copF_s (by omega)]) ?_
        exact ihk  (trivial)
    · show RR _ _ 44 [some (.ref 146), some (.int (nI (259 + (75 * d)))), some (.int (nI 37))] [] g (rf_u A 1 (copF (A 1) (37 * ch d) (259 + 75 * d + 1 + 37) 37)) _
      refine rr_nx (pc' := 45) (al' := [some (.ref 146), some (.int (nI (259 + (75 * d)))), some (.int (nI 37))]) (st' := [.int (nI 37)]) d_188_44 (fun _ => rfl) ?_
      refine rn_bp (v := 37) d_188_45 (by decide) ?_
      refine rn_cge (t := 85) d_188_47 (by decide) (by first | omega | assumption | exact cu_36 (by omega) (cu_lt (by omega) (by omega))) (by first | omega | assumption | exact cu_36 (by omega) (cu_lt (by omega) (by omega))) (fun c47 => ?_) (fun c47 => ?_)
      · refine rr_nx (pc' := 86) (al' := [some (.ref 146), some (.int (nI (259 + (75 * d)))), some (.int (nI 37))]) (st' := [.ref 146]) d_188_85 (fun _ => rfl) ?_
        refine rr_gf (v := .ref (147 + 1)) d_188_86 mo_188 fl_13 rfl ?_
        refine rn_sp (v := 2510) d_188_89 (by decide) ?_
        refine rr_nx (pc' := 93) (al' := [some (.ref 146), some (.int (nI (259 + (75 * d)))), some (.int (nI 37))]) (st' := [.int (nI 2510), .ref (147 + 1), .int (nI 2510), .ref (147 + 1)]) d_188_92 (fun _ => rfl) ?_
        refine rr_ia (j := 1) (v := (nI d)) d_188_93 (by decide) rfl (by decide) (show 2510 < 5720 by first | omega | assumption | exact cu_36 (by omega) (cu_lt (by omega) (by omega))) (by rw [rf_u_s, copF_out (by omega)]; exact hH.2.2.1) ?_
        refine rn_ic (v := 1) d_188_94 (by decide) ?_
        refine rn_add d_188_95  ?_
        refine rr_iS (j := 1) (A1 := (rf_u A 1 (upd (copF (A 1) (37 * ch d) (259 + 75 * d + 1 + 37) 37) 2510 (nI (d + 1))))) d_188_96 (by decide) rfl (by decide) (show 2510 < 5720 by first | omega | assumption | exact cu_36 (by omega) (cu_lt (by omega) (by omega))) rf_uw ?_
        refine rr_nx (pc' := 98) (al' := [some (.ref 146), some (.int (nI (259 + (75 * d)))), some (.int (nI 37))]) (st' := [.ref 146]) d_188_97 (fun _ => rfl) ?_
        refine rr_nx (pc' := 99) (al' := [some (.ref 146), some (.int (nI (259 + (75 * d)))), some (.int (nI 37))]) (st' := [.ref 146, .ref 146]) d_188_98 (fun _ => rfl) ?_
        refine rr_gf (v := .ref (147 + 1)) d_188_99 mo_188 fl_13 rfl ?_
        refine rn_sp (v := 2511) d_188_102 (by decide) ?_
        refine rr_ia (j := 1) (v := (nI t)) d_188_105 (by decide) rfl (by decide) (show 2511 < 5720 by first | omega | assumption | exact cu_36 (by omega) (cu_lt (by omega) (by omega))) (by rw [rf_u_s, pk_un (by omega), copF_out (by omega)]; exact hH.2.2.2) ?_
        refine rr_nx (pc' := 107) (al' := [some (.ref 146), some (.int (nI (259 + (75 * d)))), some (.int (nI 37))]) (st' := [.ref 146, .int (nI t), .ref 146]) d_188_106 (fun _ => rfl) ?_
        refine rr_gf (v := .ref (147 + 1)) d_188_107 mo_188 fl_13 rfl ?_
        refine rn_sp (v := 2510) d_188_110 (by decide) ?_
        refine rr_ia (j := 1) (v := (nI (d + 1))) d_188_113 (by decide) rfl (by decide) (show 2510 < 5720 by first | omega | assumption | exact cu_36 (by omega) (cu_lt (by omega) (by omega))) (by rw [rf_u_s, pk_us]) ?_
        refine rn_sub d_188_114 (by first | omega | assumption | exact cu_36 (by omega) (cu_lt (by omega) (by omega))) ?_
        refine rr_pv (as := [.int (nI (t - (d + 1)))]) (al0 := [some (.ref 146), some (.int (nI (t - (d + 1))))]) (r := []) d_188_115 mo_188 ml_114 mz_181 rfl rfl rfl (Nat.le_of_ble_eq_true rfl) (s_good _) ?_
        show RR _ _ 118 [some (.ref 146), some (.int (nI (259 + (75 * d)))), some (.int (nI 37))] [.int (nI (t - (d + 1)))] (upd (upd g 0 (nI 0)) 1 (g 1 + nI 1)) (rf_u A 1 (upd (copF (A 1) (37 * ch d) (259 + 75 * d + 1 + 37) 37) 2510 (nI (d + 1)))) _
        exact rr_ri d_188_118 mr_188 rfl ⟨rfl, rfl, _, rfl, hH.tb hO (by omega) hcc (fun q h1 h2 => by rw [pk_un h2, copF_out h1]) pk_us ((hH.2.1 d hd).2.2.cg (fun k hk => by rw [pk_un (by omega), copF_in hk, show 259 + 75 * d + 1 + 37 + k = 297 + 75 * d + k by omega]) (hO.2.2.1 _ _ (by omega) hcc).1) (fun j hj e => (hO.2.2.2 d hd).2 j hj e), fun i hi => by rw [pk_un (by omega), copF_out (by omega)]⟩
      · omega
  · omega
theorem s_bec53 {g : Nat → Int32} {A : Nat → Nat → Int32} {n d m : Nat} (hn : n < 6) (hd : d < 30) (hm6 : m ≤ 6) (h8 : g 8 = nI m) : RR 0 224 53 [some (.ref 146), some (.int (nI n)), some (.int (nI d)), none, none] [] g A (rP none g (rf_u A 1 (upd (upd (copF (pasF (upd (copF (upd (A 1) (259 + 75 * d) (nI n)) (259 + 75 * d + 1) (37 * n) 37) (37 * n) (nI m)) (37 * n + 1) (madV (A 5) m) 36) (259 + 75 * d + 1 + 37) (37 * n) 37) 2510 (nI (d + 1))) 2511 (nI (d + 1))))) := by
  refine rn_sp (v := 259) d_224_53 (by decide) ?_
  refine rn_bp (v := 75) d_224_56 (by decide) ?_
  refine rr_nx (pc' := 59) (al' := [some (.ref 146), some (.int (nI n)), some (.int (nI d)), none, none]) (st' := [.int (nI d), .int (nI 75), .int (nI 259)]) d_224_58 (fun _ => rfl) ?_
  refine rn_mul d_224_59  ?_
  refine rn_add d_224_60  ?_
  refine rr_nx (pc' := 62) (al' := [some (.ref 146), some (.int (nI n)), some (.int (nI d)), some (.int (nI (259 + (75 * d)))), none]) (st' := []) d_224_61 (fun _ => rfl) ?_
  refine rr_nx (pc' := 63) (al' := [some (.ref 146), some (.int (nI n)), some (.int (nI d)), some (.int (nI (259 + (75 * d)))), none]) (st' := [.ref 146]) d_224_62 (fun _ => rfl) ?_
  refine rr_gf (v := .ref (147 + 1)) d_224_63 mo_224 fl_13 rfl ?_
  refine rr_nx (pc' := 67) (al' := [some (.ref 146), some (.int (nI n)), some (.int (nI d)), some (.int (nI (259 + (75 * d)))), none]) (st' := [.int (nI (259 + (75 * d))), .ref (147 + 1)]) d_224_66 (fun _ => rfl) ?_
  refine rr_nx (pc' := 68) (al' := [some (.ref 146), some (.int (nI n)), some (.int (nI d)), some (.int (nI (259 + (75 * d)))), none]) (st' := [.int (nI n), .int (nI (259 + (75 * d))), .ref (147 + 1)]) d_224_67 (fun _ => rfl) ?_
  refine rr_iS (j := 1) (A1 := (rf_u A 1 (upd (A 1) (259 + (75 * d)) (nI n)))) d_224_68 (by decide) rfl (by decide) (show 259 + (75 * d) < 5720 by first | omega | assumption | exact cu_36 (by omega) (cu_lt (by omega) (by omega))) rfl ?_
  refine rn_ic (v := 0) d_224_69 (by decide) ?_
  refine rr_nx (pc' := 72) (al' := [some (.ref 146), some (.int (nI n)), some (.int (nI d)), some (.int (nI (259 + (75 * d)))), some (.int (nI 0))]) (st' := []) d_224_70 (fun _ => rfl) ?_
  refine rr_A (show (rf_u A 1 (upd (A 1) (259 + (75 * d)) (nI n))) = (rf_u A 1 (copF (upd (A 1) (259 + 75 * d) (nI n)) (259 + 75 * d + 1) (37 * n) 0)) by rw [copF_0]) ?_
  refine rr_up (al := fun k => [some (.ref 146), some (.int (nI n)), some (.int (nI d)), some (.int (nI (259 + (75 * d)))), some (.int (nI k))]) (G := fun k => g) (B := fun k => (rf_u A 1 (copF (upd (A 1) (259 + 75 * d) (nI n)) (259 + 75 * d + 1) (37 * n) k))) (P := fun k => True) (n := 37) (fun k hk pk ihk => ?_) (fun pk => ?_) 0  (by omega) (trivial)
  · show RR _ _ 72 [some (.ref 146), some (.int (nI n)), some (.int (nI d)), some (.int (nI (259 + (75 * d)))), some (.int (nI k))] [] g (rf_u A 1 (copF (upd (A 1) (259 + 75 * d) (nI n)) (259 + 75 * d + 1) (37 * n) k)) _
    refine rr_nx (pc' := 74) (al' := [some (.ref 146), some (.int (nI n)), some (.int (nI d)), some (.int (nI (259 + (75 * d)))), some (.int (nI k))]) (st' := [.int (nI k)]) d_224_72 (fun _ => rfl) ?_
    refine rn_bp (v := 37) d_224_74 (by decide) ?_
    refine rn_cge (t := 108) d_224_76 (by decide) (by first | omega | assumption | exact cu_36 (by omega) (cu_lt (by omega) (by omega))) (by first | omega | assumption | exact cu_36 (by omega) (cu_lt (by omega) (by omega))) (fun c76 => ?_) (fun c76 => ?_)
    · omega
    · refine rr_nx (pc' := 80) (al' := [some (.ref 146), some (.int (nI n)), some (.int (nI d)), some (.int (nI (259 + (75 * d)))), some (.int (nI k))]) (st' := [.ref 146]) d_224_79 (fun _ => rfl) ?_
      refine rr_gf (v := .ref (147 + 1)) d_224_80 mo_224 fl_13 rfl ?_
      refine rr_nx (pc' := 84) (al' := [some (.ref 146), some (.int (nI n)), some (.int (nI d)), some (.int (nI (259 + (75 * d)))), some (.int (nI k))]) (st' := [.int (nI (259 + (75 * d))), .ref (147 + 1)]) d_224_83 (fun _ => rfl) ?_
      refine rn_ic (v := 1) d_224_84 (by decide) ?_
      refine rn_add d_224_85  ?_
      refine rr_nx (pc' := 88) (al' := [some (.ref 146), some (.int (nI n)), some (.int (nI d)), some (.int (nI (259 + (75 * d)))), some (.int (nI k))]) (st' := [.int (nI k), .int (nI ((259 + (75 * d)) + 1)), .ref (147 + 1)]) d_224_86 (fun _ => rfl) ?_
      refine rn_add d_224_88  ?_
      refine rr_nx (pc' := 90) (al' := [some (.ref 146), some (.int (nI n)), some (.int (nI d)), some (.int (nI (259 + (75 * d)))), some (.int (nI k))]) (st' := [.ref 146, .int (nI (((259 + (75 * d)) + 1) + k)), .ref (147 + 1)]) d_224_89 (fun _ => rfl) ?_
      refine rr_gf (v := .ref (147 + 1)) d_224_90 mo_224 fl_13 rfl ?_
      refine rn_bp (v := 37) d_224_93 (by decide) ?_
      refine rr_nx (pc' := 96) (al' := [some (.ref 146), some (.int (nI n)), some (.int (nI d)), some (.int (nI (259 + (75 * d)))), some (.int (nI k))]) (st' := [.int (nI n), .int (nI 37), .ref (147 + 1), .int (nI (((259 + (75 * d)) + 1) + k)), .ref (147 + 1)]) d_224_95 (fun _ => rfl) ?_
      refine rn_mul d_224_96  ?_
      refine rr_nx (pc' := 99) (al' := [some (.ref 146), some (.int (nI n)), some (.int (nI d)), some (.int (nI (259 + (75 * d)))), some (.int (nI k))]) (st' := [.int (nI k), .int (nI (37 * n)), .ref (147 + 1), .int (nI (((259 + (75 * d)) + 1) + k)), .ref (147 + 1)]) d_224_97 (fun _ => rfl) ?_
      refine rn_add d_224_99  ?_
      refine rr_ia (j := 1) (v := ((copF (upd (A 1) (259 + 75 * d) (nI n)) (259 + 75 * d + 1) (37 * n) k) ((37 * n) + k))) d_224_100 (by decide) rfl (by decide) (show (37 * n) + k < 5720 by first | omega | assumption | exact cu_36 (by omega) (cu_lt (by omega) (by omega))) rfl ?_
      refine rr_iS (j := 1) (A1 := (rf_u A 1 (upd (copF (upd (A 1) (259 + 75 * d) (nI n)) (259 + 75 * d + 1) (37 * n) k) (((259 + (75 * d)) + 1) + k) ((copF (upd (A 1) (259 + 75 * d) (nI n)) (259 + 75 * d + 1) (37 * n) k) ((37 * n) + k))))) d_224_101 (by decide) rfl (by decide) (show ((259 + (75 * d)) + 1) + k < 5720 by first | omega | assumption | exact cu_36 (by omega) (cu_lt (by omega) (by omega))) rf_uw ?_
      refine rn_inc d_224_102 rfl rfl ?_
      show RR _ _ 105 [some (.ref 146), some (.int (nI n)), some (.int (nI d)), some (.int (nI (259 + (75 * d)))), some (.int (nI (k + 1)))] [] g (rf_u A 1 (upd (copF (upd (A 1) (259 + 75 * d) (nI n)) (259 + 75 * d + 1) (37 * n) k) (((259 + (75 * d)) + 1) + k) ((copF (upd (A 1) (259 + 75 * d) (nI n)) (259 + 75 * d + 1) (37 * n) k) ((37 * n) + k)))) _
      refine rr_nx (pc' := 72) (al' := [some (.ref 146), some (.int (nI n)), some (.int (nI d)), some (.int (nI (259 + (75 * d)))), some (.int (nI (k + 1)))]) (st' := []) d_224_105 (fun _ => rfl) ?_
      refine rr_A (show (rf_u A 1 (upd (copF (upd (A 1) (259 + 75 * d) (nI n)) (259 + 75 * d + 1) (37 * n) k) (((259 + (75 * d)) + 1) + k) ((copF (upd (A 1) (259 + 75 * d) (nI n)) (259 + 75 * d + 1) (37 * n) k) ((37 * n) + k)))) = (rf_u A 1 (copF (upd (A 1) (259 + 75 * d) (nI n)) (259 + 75 * d + 1) (37 * n) (k + 1))) by rw [copF_s (by omega)]) ?_
      exact ihk  (trivial)
  · show RR _ _ 72 [some (.ref 146), some (.int (nI n)), some (.int (nI d)), some (.int (nI (259 + (75 * d)))), some (.int (nI 37))] [] g (rf_u A 1 (copF (upd (A 1) (259 + 75 * d) (nI n)) (259 + 75 * d + 1) (37 * n) 37)) _
    refine rr_nx (pc' := 74) (al' := [some (.ref 146), some (.int (nI n)), some (.int (nI d)), some (.int (nI (259 + (75 * d)))), some (.int (nI 37))]) (st' := [.int (nI 37)]) d_224_72 (fun _ => rfl) ?_
    refine rn_bp (v := 37) d_224_74 (by decide) ?_
    refine rn_cge (t := 108) d_224_76 (by decide) (by first | omega | assumption | exact cu_36 (by omega) (cu_lt (by omega) (by omega))) (by first | omega | assumption | exact cu_36 (by omega) (cu_lt (by omega) (by omega))) (fun c76 => ?_) (fun c76 => ?_)
    · refine rr_nx (pc' := 109) (al' := [some (.ref 146), some (.int (nI n)), some (.int (nI d)), some (.int (nI (259 + (75 * d)))), some (.int (nI 37))]) (st' := [.ref 146]) d_224_108 (fun _ => rfl) ?_
      refine rr_gf (v := .ref (147 + 1)) d_224_109 mo_224 fl_13 rfl ?_
      refine rn_bp (v := 37) d_224_112 (by decide) ?_
      refine rr_nx (pc' := 115) (al' := [some (.ref 146), some (.int (nI n)), some (.int (nI d)), some (.int (nI (259 + (75 * d)))), some (.int (nI 37))]) (st' := [.int (nI n), .int (nI 37), .ref (147 + 1)]) d_224_114 (fun _ => rfl) ?_
      refine rn_mul d_224_115  ?_
      refine rr_nx (pc' := 117) (al' := [some (.ref 146), some (.int (nI n)), some (.int (nI d)), some (.int (nI (259 + (75 * d)))), some (.int (nI 37))]) (st' := [.ref 146, .int (nI (37 * n)), .ref (147 + 1)]) d_224_116 (fun _ => rfl) ?_
      refine rr_gn d_224_117 mo_224 fl_134 rfl h8 ?_
      refine rr_iS (j := 1) (A1 := (rf_u A 1 (upd (copF (upd (A 1) (259 + 75 * d) (nI n)) (259 + 75 * d + 1) (37 * n) 37) (37 * n) (nI m)))) d_224_120 (by decide) rfl (by decide) (show 37 * n < 5720 by first | omega | assumption | exact cu_36 (by omega) (cu_lt (by omega) (by omega))) rf_uw ?_
      refine rn_ic (v := 0) d_224_121 (by decide) ?_
      refine rr_nx (pc' := 124) (al' := [some (.ref 146), some (.int (nI n)), some (.int (nI d)), some (.int (nI (259 + (75 * d)))), some (.int (nI 0))]) (st' := []) d_224_122 (fun _ => rfl) ?_
      refine rr_A (show (rf_u A 1 (upd (copF (upd (A 1) (259 + 75 * d) (nI n)) (259 + 75 * d + 1) (37 * n) 37) (37 * n) (nI m))) = (rf_u A 1 (pasF (upd (copF (upd (A 1) (259 + 75 * d) (nI n)) (259 + 75 * d + 1) (37 * n) 37) (37 * n) (nI m)) (37 * n + 1) (madV (A 5) m) 0)) by rw [pasF_0]) ?_
      refine rr_up (al := fun k2 => [some (.ref 146), some (.int (nI n)), some (.int (nI d)), some (.int (nI (259 + (75 * d)))), some (.int (nI k2))]) (G := fun k2 => g) (B := fun k2 => (rf_u A 1 (pasF (upd (copF (upd (A 1) (259 + 75 * d) (nI n)) (259 + 75 * d + 1) (37 * n) 37) (37 * n) (nI m)) (37 * n + 1) (madV (A 5) m) k2))) (P := fun k2 => True) (n := 36) (fun k2 hk2 pk2 ihk2 => ?_) (fun pk2 => ?_) 0  (by omega) (trivial)
      · show RR _ _ 124 [some (.ref 146), some (.int (nI n)), some (.int (nI d)), some (.int (nI (259 + (75 * d)))), some (.int (nI k2))] [] g (rf_u A 1 (pasF (upd (copF (upd (A 1) (259 + 75 * d) (nI n)) (259 + 75 * d + 1) (37 * n) 37) (37 * n) (nI m)) (37 * n + 1) (madV (A 5) m) k2)) _
        refine rr_nx (pc' := 126) (al' := [some (.ref 146), some (.int (nI n)), some (.int (nI d)), some (.int (nI (259 + (75 * d)))), some (.int (nI k2))]) (st' := [.int (nI k2)]) d_224_124 (fun _ => rfl) ?_
        refine rn_bp (v := 36) d_224_126 (by decide) ?_
        refine rn_cge (t := 176) d_224_128 (by decide) (by first | omega | assumption | exact cu_36 (by omega) (cu_lt (by omega) (by omega))) (by first | omega | assumption | exact cu_36 (by omega) (cu_lt (by omega) (by omega))) (fun c128 => ?_) (fun c128 => ?_)
        · omega
        · refine rr_nx (pc' := 132) (al' := [some (.ref 146), some (.int (nI n)), some (.int (nI d)), some (.int (nI (259 + (75 * d)))), some (.int (nI k2))]) (st' := [.ref 146]) d_224_131 (fun _ => rfl) ?_
          refine rr_gf (v := .ref (147 + 1)) d_224_132 mo_224 fl_13 rfl ?_
          refine rn_bp (v := 37) d_224_135 (by decide) ?_
          refine rr_nx (pc' := 138) (al' := [some (.ref 146), some (.int (nI n)), some (.int (nI d)), some (.int (nI (259 + (75 * d)))), some (.int (nI k2))]) (st' := [.int (nI n), .int (nI 37), .ref (147 + 1)]) d_224_137 (fun _ => rfl) ?_
          refine rn_mul d_224_138  ?_
          refine rn_ic (v := 1) d_224_139 (by decide) ?_
          refine rn_add d_224_140  ?_
          refine rr_nx (pc' := 143) (al' := [some (.ref 146), some (.int (nI n)), some (.int (nI d)), some (.int (nI (259 + (75 * d)))), some (.int (nI k2))]) (st' := [.int (nI k2), .int (nI ((37 * n) + 1)), .ref (147 + 1)]) d_224_141 (fun _ => rfl) ?_
          refine rn_add d_224_143  ?_
          refine rr_nx (pc' := 146) (al' := [some (.ref 146), some (.int (nI n)), some (.int (nI d)), some (.int (nI (259 + (75 * d)))), some (.int (nI k2))]) (st' := [.int (nI k2), .int (nI (((37 * n) + 1) + k2)), .ref (147 + 1)]) d_224_144 (fun _ => rfl) ?_
          refine rr_nx (pc' := 147) (al' := [some (.ref 146), some (.int (nI n)), some (.int (nI d)), some (.int (nI (259 + (75 * d)))), some (.int (nI k2))]) (st' := [.ref 146, .int (nI k2), .int (nI (((37 * n) + 1) + k2)), .ref (147 + 1)]) d_224_146 (fun _ => rfl) ?_
          refine rr_gn d_224_147 mo_224 fl_134 rfl h8 ?_
          refine rr_nx (pc' := 151) (al' := [some (.ref 146), some (.int (nI n)), some (.int (nI d)), some (.int (nI (259 + (75 * d)))), some (.int (nI k2))]) (st' := [.ref 146, .int (nI m), .int (nI k2), .int (nI (((37 * n) + 1) + k2)), .ref (147 + 1)]) d_224_150 (fun _ => rfl) ?_
          refine rr_gn d_224_151 mo_224 fl_134 rfl h8 ?_
          refine rn_mul d_224_154  ?_
          refine rn_cge (t := 168) d_224_155 (by decide) (by omega) (by have := Nat.mul_le_mul hm6 hm6; omega) (fun c155 => ?_) (fun c155 => ?_)
          · refine rn_ic (v := 0) d_224_168 (by decide) ?_
            refine rr_iS (j := 1) (A1 := (rf_u A 1 (upd (pasF (upd (copF (upd (A 1) (259 + 75 * d) (nI n)) (259 + 75 * d + 1) (37 * n) 37) (37 * n) (nI m)) (37 * n + 1) (madV (A 5) m) k2) (((37 * n) + 1) + k2) (nI 0)))) d_224_169 (by decide) rfl (by decide) (show ((37 * n) + 1) + k2 < 5720 by first | omega | assumption | exact cu_36 (by omega) (cu_lt (by omega) (by omega))) rf_uw ?_
            refine rn_inc d_224_170 rfl rfl ?_
            show RR _ _ 173 [some (.ref 146), some (.int (nI n)), some (.int (nI d)), some (.int (nI (259 + (75 * d)))), some (.int (nI (k2 + 1)))] [] g (rf_u A 1 (upd (pasF (upd (copF (upd (A 1) (259 + 75 * d) (nI n)) (259 + 75 * d + 1) (37 * n) 37) (37 * n) (nI m)) (37 * n + 1) (madV (A 5) m) k2) (((37 * n) + 1) + k2) (nI 0))) _
            refine rr_nx (pc' := 124) (al' := [some (.ref 146), some (.int (nI n)), some (.int (nI d)), some (.int (nI (259 + (75 * d)))), some (.int (nI (k2 + 1)))]) (st' := []) d_224_173 (fun _ => rfl) ?_
            refine rr_A (show (rf_u A 1 (upd (pasF (upd (copF (upd (A 1) (259 + 75 * d) (nI n)) (259 + 75 * d + 1) (37 * n) 37) (37 * n) (nI m)) (37 * n + 1) (madV (A 5) m) k2) (((37 * n) + 1) + k2) (nI 0))) = (rf_u A 1 (pasF (upd (copF (upd (A 1) (259 + 75 * d) (nI n)) (259 + 75 * d + 1) (37 * n) 37) (37 * n) (nI m)) (37 * n + 1) (madV (A 5) m) (k2 + 1))) by rw [show nI 0 = madV (A 5) m k2 by rw [madV, if_neg (by omega)], pasF_s]) ?_
            exact ihk2  (trivial)
          · refine rr_nx (pc' := 159) (al' := [some (.ref 146), some (.int (nI n)), some (.int (nI d)), some (.int (nI (259 + (75 * d)))), some (.int (nI k2))]) (st' := [.ref 146, .int (nI (((37 * n) + 1) + k2)), .ref (147 + 1)]) d_224_158 (fun _ => rfl) ?_
            refine rr_gf (v := .ref (147 + 5)) d_224_159 mo_224 fl_26 rfl ?_
            refine rr_nx (pc' := 164) (al' := [some (.ref 146), some (.int (nI n)), some (.int (nI d)), some (.int (nI (259 + (75 * d)))), some (.int (nI k2))]) (st' := [.int (nI k2), .ref (147 + 5), .int (nI (((37 * n) + 1) + k2)), .ref (147 + 1)]) d_224_162 (fun _ => rfl) ?_
            refine rr_ia (j := 5) (v := (A 5 k2)) d_224_164 (by decide) rfl (by decide) (show k2 < 36 by first | omega | assumption | exact cu_36 (by omega) (cu_lt (by omega) (by omega))) rfl ?_
            refine rr_nx (pc' := 169) (al' := [some (.ref 146), some (.int (nI n)), some (.int (nI d)), some (.int (nI (259 + (75 * d)))), some (.int (nI k2))]) (st' := [.int (A 5 k2), .int (nI (((37 * n) + 1) + k2)), .ref (147 + 1)]) d_224_165 (fun _ => rfl) ?_
            refine rr_iS (j := 1) (A1 := (rf_u A 1 (upd (pasF (upd (copF (upd (A 1) (259 + 75 * d) (nI n)) (259 + 75 * d + 1) (37 * n) 37) (37 * n) (nI m)) (37 * n + 1) (madV (A 5) m) k2) (((37 * n) + 1) + k2) (A 5 k2)))) d_224_169 (by decide) rfl (by decide) (show ((37 * n) + 1) + k2 < 5720 by first | omega | assumption | exact cu_36 (by omega) (cu_lt (by omega) (by omega))) rf_uw ?_
            refine rn_inc d_224_170 rfl rfl ?_
            show RR _ _ 173 [some (.ref 146), some (.int (nI n)), some (.int (nI d)), some (.int (nI (259 + (75 * d)))), some (.int (nI (k2 + 1)))] [] g (rf_u A 1 (upd (pasF (upd (copF (upd (A 1) (259 + 75 * d) (nI n)) (259 + 75 * d + 1) (37 * n) 37) (37 * n) (nI m)) (37 * n + 1) (madV (A 5) m) k2) (((37 * n) + 1) + k2) (A 5 k2))) _
            refine rr_nx (pc' := 124) (al' := [some (.ref 146), some (.int (nI n)), some (.int (nI d)), some (.int (nI (259 + (75 * d)))), some (.int (nI (k2 + 1)))]) (st' := []) d_224_173 (fun _ => rfl) ?_
            refine rr_A (show (rf_u A 1 (upd (pasF (upd (copF (upd (A 1) (259 + 75 * d) (nI n)) (259 + 75 * d + 1) (37 * n) 37) (37 * n) (nI m)) (37 * n + 1) (madV (A 5) m) k2) (((37 * n) + 1) + k2) (A 5 k2))) = (rf_u A 1 (pasF (upd (copF (upd (A 1) (259 + 75 * d) (nI n)) (259 + 75 * d + 1) (37 * n) 37) (37 * n) (nI m)) (37 * n + 1) (madV (A 5) m) (k2 + 1))) by rw [show A 5 k2 = madV (A 5) m k2 by rw [madV, if_pos c155], pasF_s]) ?_
            exact ihk2  (trivial)
      · show RR _ _ 124 [some (.ref 146), some (.int (nI n)), some (.int (nI d)), some (.int (nI (259 + (75 * d)))), some (.int (nI 36))] [] g (rf_u A 1 (pasF (upd (copF (upd (A 1) (259 + 75 * d) (nI n)) (259 + 75 * d + 1) (37 * n) 37) (37 * n) (nI m)) (37 * n + 1) (madV (A 5) m) 36)) _
        refine rr_nx (pc' := 126) (al' := [some (.ref 146), some (.int (nI n)), some (.int (nI d)), some (.int (nI (259 + (75 * d)))), some (.int (nI 36))]) (st' := [.int (nI 36)]) d_224_124 (fun _ => rfl) ?_
        refine rn_bp (v := 36) d_224_126 (by decide) ?_
        refine rn_cge (t := 176) d_224_128 (by decide) (by first | omega | assumption | exact cu_36 (by omega) (cu_lt (by omega) (by omega))) (by first | omega | assumption | exact cu_36 (by omega) (cu_lt (by omega) (by omega))) (fun c128 => ?_) (fun c128 => ?_)
        · refine rn_ic (v := 0) d_224_176 (by decide) ?_
          refine rr_nx (pc' := 179) (al' := [some (.ref 146), some (.int (nI n)), some (.int (nI d)), some (.int (nI (259 + (75 * d)))), some (.int (nI 0))]) (st' := []) d_224_177 (fun _ => rfl) ?_
          refine rr_A (show (rf_u A 1 (pasF (upd (copF (upd (A 1) (259 + 75 * d) (nI n)) (259 + 75 * d + 1) (37 * n) 37) (37 * n) (nI m)) (37 * n + 1) (madV (A 5) m) 36)) = (rf_u A 1 (copF (pasF (upd (copF (upd (A 1) (259 + 75 * d) (nI n)) (259 + 75 * d + 1) (37 * n) 37) (37 * n) (nI m)) (37 * n + 1) (madV (A 5) m) 36) (259 + 75 * d + 1 + 37) (37 * n) 0)) by rw [copF_0]) ?_
          refine rr_up (al := fun k3 => [some (.ref 146), some (.int (nI n)), some (.int (nI d)), some (.int (nI (259 + (75 * d)))), some (.int (nI k3))]) (G := fun k3 => g) (B := fun k3 => (rf_u A 1 (copF (pasF (upd (copF (upd (A 1) (259 + 75 * d) (nI n)) (259 + 75 * d + 1) (37 * n) 37) (37 * n) (nI m)) (37 * n + 1) (madV (A 5) m) 36) (259 + 75 * d + 1 + 37) (37 * n) k3))) (P := fun k3 => True) (n := 37) (fun k3 hk3 pk3 ihk3 => ?_) (fun pk3 => ?_) 0  (by omega) (trivial)
          · show RR _ _ 179 [some (.ref 146), some (.int (nI n)), some (.int (nI d)), some (.int (nI (259 + (75 * d)))), some (.int (nI k3))] [] g (rf_u A 1 (copF (pasF (upd (copF (upd (A 1) (259 + 75 * d) (nI n)) (259 + 75 * d + 1) (37 * n) 37) (37 * n) (nI m)) (37 * n + 1) (madV (A 5) m) 36) (259 + 75 * d + 1 + 37) (37 * n) k3)) _
            refine rr_nx (pc' := 181) (al' := [some (.ref 146), some (.int (nI n)), some (.int (nI d)), some (.int (nI (259 + (75 * d)))), some (.int (nI k3))]) (st' := [.int (nI k3)]) d_224_179 (fun _ => rfl) ?_
            refine rn_bp (v := 37) d_224_181 (by decide) ?_
            refine rn_cge (t := 218) d_224_183 (by decide) (by first | omega | assumption | exact cu_36 (by omega) (cu_lt (by omega) (by omega))) (by first | omega | assumption | exact cu_36 (by omega) (cu_lt (by omega) (by omega))) (fun c183 => ?_) (fun c183 => ?_)
            · omega
            · refine rr_nx (pc' := 187) (al' := [some (.ref 146), some (.int (nI n)), some (.int (nI d)), some (.int (nI (259 + (75 * d)))), some (.int (nI k3))]) (st' := [.ref 146]) d_224_186 (fun _ => rfl) ?_
              refine rr_gf (v := .ref (147 + 1)) d_224_187 mo_224 fl_13 rfl ?_
              refine rr_nx (pc' := 191) (al' := [some (.ref 146), some (.int (nI n)), some (.int (nI d)), some (.int (nI (259 + (75 * d)))), some (.int (nI k3))]) (st' := [.int (nI (259 + (75 * d))), .ref (147 + 1)]) d_224_190 (fun _ => rfl) ?_
              refine rn_ic (v := 1) d_224_191 (by decide) ?_
              refine rn_add d_224_192  ?_
              refine rn_bp (v := 37) d_224_193 (by decide) ?_
              refine rn_add d_224_195  ?_
              refine rr_nx (pc' := 198) (al' := [some (.ref 146), some (.int (nI n)), some (.int (nI d)), some (.int (nI (259 + (75 * d)))), some (.int (nI k3))]) (st' := [.int (nI k3), .int (nI (((259 + (75 * d)) + 1) + 37)), .ref (147 + 1)]) d_224_196 (fun _ => rfl) ?_
              refine rn_add d_224_198  ?_
              refine rr_nx (pc' := 200) (al' := [some (.ref 146), some (.int (nI n)), some (.int (nI d)), some (.int (nI (259 + (75 * d)))), some (.int (nI k3))]) (st' := [.ref 146, .int (nI ((((259 + (75 * d)) + 1) + 37) + k3)), .ref (147 + 1)]) d_224_199 (fun _ => rfl) ?_
              refine rr_gf (v := .ref (147 + 1)) d_224_200 mo_224 fl_13 rfl ?_
              refine rn_bp (v := 37) d_224_203 (by decide) ?_
              refine rr_nx (pc' := 206) (al' := [some (.ref 146), some (.int (nI n)), some (.int (nI d)), some (.int (nI (259 + (75 * d)))), some (.int (nI k3))]) (st' := [.int (nI n), .int (nI 37), .ref (147 + 1), .int (nI ((((259 + (75 * d)) + 1) + 37) + k3)), .ref (147 + 1)]) d_224_205 (fun _ => rfl) ?_
              refine rn_mul d_224_206  ?_
              refine rr_nx (pc' := 209) (al' := [some (.ref 146), some (.int (nI n)), some (.int (nI d)), some (.int (nI (259 + (75 * d)))), some (.int (nI k3))]) (st' := [.int (nI k3), .int (nI (37 * n)), .ref (147 + 1), .int (nI ((((259 + (75 * d)) + 1) + 37) + k3)), .ref (147 + 1)]) d_224_207 (fun _ => rfl) ?_
              refine rn_add d_224_209  ?_
              refine rr_ia (j := 1) (v := ((copF (pasF (upd (copF (upd (A 1) (259 + 75 * d) (nI n)) (259 + 75 * d + 1) (37 * n) 37) (37 * n) (nI m)) (37 * n + 1) (madV (A 5) m) 36) (259 + 75 * d + 1 + 37) (37 * n) k3) ((37 * n) + k3))) d_224_210 (by decide) rfl (by decide) (show (37 * n) + k3 < 5720 by first | omega | assumption | exact cu_36 (by omega) (cu_lt (by omega) (by omega))) rfl ?_
              refine rr_iS (j := 1) (A1 := (rf_u A 1 (upd (copF (pasF (upd (copF (upd (A 1) (259 + 75 * d) (nI n)) (259 + 75 * d + 1) (37 * n) 37) (37 * n) (nI m)) (37 * n + 1) (madV (A 5) m) 36) (259 + 75 * d + 1 + 37) (37 * n) k3) ((((259 + (75 * d)) + 1) + 37) + k3) ((copF (pasF (upd (copF (upd (A 1) (259 + 75 * d) (nI n)) (259 + 75 * d + 1) (37 * n) 37) (37 * n) (nI m)) (37 * n + 1) (madV (A 5) m) 36) (259 + 75 * d + 1 + 37) (37 * n) k3) ((37 * n) + k3))))) d_224_211 (by decide) rfl (by decide) (show (((259 + (75 * d)) + 1) + 37) + k3 < 5720 by first | omega | assumption | exact cu_36 (by omega) (cu_lt (by omega) (by omega))) rf_uw ?_
              refine rn_inc d_224_212 rfl rfl ?_
              show RR _ _ 215 [some (.ref 146), some (.int (nI n)), some (.int (nI d)), some (.int (nI (259 + (75 * d)))), some (.int (nI (k3 + 1)))] [] g (rf_u A 1 (upd (copF (pasF (upd (copF (upd (A 1) (259 + 75 * d) (nI n)) (259 + 75 * d + 1) (37 * n) 37) (37 * n) (nI m)) (37 * n + 1) (madV (A 5) m) 36) (259 + 75 * d + 1 + 37) (37 * n) k3) ((((259 + (75 * d)) + 1) + 37) + k3) ((copF (pasF (upd (copF (upd (A 1) (259 + 75 * d) (nI n)) (259 + 75 * d + 1) (37 * n) 37) (37 * n) (nI m)) (37 * n + 1) (madV (A 5) m) 36) (259 + 75 * d + 1 + 37) (37 * n) k3) ((37 * n) + k3)))) _
              refine rr_nx (pc' := 179) (al' := [some (.ref 146), some (.int (nI n)), some (.int (nI d)), some (.int (nI (259 + (75 * d)))), some (.int (nI (k3 + 1)))]) (st' := []) d_224_215 (fun _ => rfl) ?_
              refine rr_A (show (rf_u A 1 (upd (copF (pasF (upd (copF (upd (A 1) (259 + 75 * d) (nI n)) (259 + 75 * d + 1) (37 * n) 37) (37 * n) (nI m)) (37 * n + 1) (madV (A 5) m) 36) (259 + 75 * d + 1 + 37) (37 * n) k3) ((((259 + (75 * d)) + 1) + 37) + k3) ((copF (pasF (upd (copF (upd (A 1) (259 + 75 * d) (nI n)) (259 + 75 * d + 1) (37 * n) 37) (37 * n) (nI m)) (37 * n + 1) (madV (A 5) m) 36) (259 + 75 * d + 1 + 37) (37 * n) k3) ((37 * n) + k3)))) = (rf_u A 1 (copF (pasF (upd (copF (upd (A 1) (259 + 75 * d) (nI n)) (259 + 75 * d + 1) (37 * n) 37) (37 * n) (nI m)) (37 * n + 1) (madV (A 5) m) 36) (259 + 75 * d + 1 + 37) (37 * n) (k3 + 1))) by rw [copF_s (by omega)]) ?_
              exact ihk3  (trivial)
          · show RR _ _ 179 [some (.ref 146), some (.int (nI n)), some (.int (nI d)), some (.int (nI (259 + (75 * d)))), some (.int (nI 37))] [] g (rf_u A 1 (copF (pasF (upd (copF (upd (A 1) (259 + 75 * d) (nI n)) (259 + 75 * d + 1) (37 * n) 37) (37 * n) (nI m)) (37 * n + 1) (madV (A 5) m) 36) (259 + 75 * d + 1 + 37) (37 * n) 37)) _
            refine rr_nx (pc' := 181) (al' := [some (.ref 146), some (.int (nI n)), some (.int (nI d)), some (.int (nI (259 + (75 * d)))), some (.int (nI 37))]) (st' := [.int (nI 37)]) d_224_179 (fun _ => rfl) ?_
            refine rn_bp (v := 37) d_224_181 (by decide) ?_
            refine rn_cge (t := 218) d_224_183 (by decide) (by first | omega | assumption | exact cu_36 (by omega) (cu_lt (by omega) (by omega))) (by first | omega | assumption | exact cu_36 (by omega) (cu_lt (by omega) (by omega))) (fun c183 => ?_) (fun c183 => ?_)
            · refine rr_nx (pc' := 219) (al' := [some (.ref 146), some (.int (nI n)), some (.int (nI d)), some (.int (nI (259 + (75 * d)))), some (.int (nI 37))]) (st' := [.ref 146]) d_224_218 (fun _ => rfl) ?_
              refine rr_gf (v := .ref (147 + 1)) d_224_219 mo_224 fl_13 rfl ?_
              refine rn_sp (v := 2510) d_224_222 (by decide) ?_
              refine rr_nx (pc' := 226) (al' := [some (.ref 146), some (.int (nI n)), some (.int (nI d)), some (.int (nI (259 + (75 * d)))), some (.int (nI 37))]) (st' := [.int (nI d), .int (nI 2510), .ref (147 + 1)]) d_224_225 (fun _ => rfl) ?_
              refine rn_ic (v := 1) d_224_226 (by decide) ?_
              refine rn_add d_224_227  ?_
              refine rr_iS (j := 1) (A1 := (rf_u A 1 (upd (copF (pasF (upd (copF (upd (A 1) (259 + 75 * d) (nI n)) (259 + 75 * d + 1) (37 * n) 37) (37 * n) (nI m)) (37 * n + 1) (madV (A 5) m) 36) (259 + 75 * d + 1 + 37) (37 * n) 37) 2510 (nI (d + 1))))) d_224_228 (by decide) rfl (by decide) (show 2510 < 5720 by first | omega | assumption | exact cu_36 (by omega) (cu_lt (by omega) (by omega))) rf_uw ?_
              refine rr_nx (pc' := 230) (al' := [some (.ref 146), some (.int (nI n)), some (.int (nI d)), some (.int (nI (259 + (75 * d)))), some (.int (nI 37))]) (st' := [.ref 146]) d_224_229 (fun _ => rfl) ?_
              refine rr_gf (v := .ref (147 + 1)) d_224_230 mo_224 fl_13 rfl ?_
              refine rn_sp (v := 2511) d_224_233 (by decide) ?_
              refine rr_nx (pc' := 237) (al' := [some (.ref 146), some (.int (nI n)), some (.int (nI d)), some (.int (nI (259 + (75 * d)))), some (.int (nI 37))]) (st' := [.int (nI d), .int (nI 2511), .ref (147 + 1)]) d_224_236 (fun _ => rfl) ?_
              refine rn_ic (v := 1) d_224_237 (by decide) ?_
              refine rn_add d_224_238  ?_
              refine rr_iS (j := 1) (A1 := (rf_u A 1 (upd (upd (copF (pasF (upd (copF (upd (A 1) (259 + 75 * d) (nI n)) (259 + 75 * d + 1) (37 * n) 37) (37 * n) (nI m)) (37 * n + 1) (madV (A 5) m) 36) (259 + 75 * d + 1 + 37) (37 * n) 37) 2510 (nI (d + 1))) 2511 (nI (d + 1))))) d_224_239 (by decide) rfl (by decide) (show 2511 < 5720 by first | omega | assumption | exact cu_36 (by omega) (cu_lt (by omega) (by omega))) rf_uw ?_
              exact rr_rv d_224_240 mr_224 ⟨rfl, rfl, rfl⟩
            · omega
        · omega
    · omega
theorem HiR.push {f : Nat → Int32} {a5 : Nat → Int32} {H : Nat → Nat → Tb} {ch : Nat → Nat} {d t n m : Nat} {c : Nat → Nat} (h : HiR f H ch d t) (ho : HiOk H ch d t) (hd : d < 30) (hn : n < 6) (hm6 : m ≤ 6) (hm : ∀ q, q < m * m → a5 q = nI (c q)) : HiR (upd (upd (copF (pasF (upd (copF (upd (f) (259 + 75 * d) (nI n)) (259 + 75 * d + 1) (37 * n) 37) (37 * n) (nI m)) (37 * n + 1) (madV (a5) m) 36) (259 + 75 * d + 1 + 37) (37 * n) 37) 2510 (nI (d + 1))) 2511 (nI (d + 1))) (pushH H d n (m, c)) (upN ch d n) (d + 1) (d + 1) ∧ RfF f (upd (upd (copF (pasF (upd (copF (upd (f) (259 + 75 * d) (nI n)) (259 + 75 * d + 1) (37 * n) 37) (37 * n) (nI m)) (37 * n + 1) (madV (a5) m) 36) (259 + 75 * d + 1 + 37) (37 * n) 37) 2510 (nI (d + 1))) 2511 (nI (d + 1))) := by
  have hdt := ho.1
  have ht := ho.2.1
  have h36 := Nat.mul_le_mul hm6 hm6
  have out : ∀ q, q ≠ 2510 → q ≠ 2511 → (q < 37 * n ∨ 37 * n + 37 ≤ q) → (q < 259 + 75 * d ∨ 259 + 75 * d + 75 ≤ q) → (upd (upd (copF (pasF (upd (copF (upd (f) (259 + 75 * d) (nI n)) (259 + 75 * d + 1) (37 * n) 37) (37 * n) (nI m)) (37 * n + 1) (madV (a5) m) 36) (259 + 75 * d + 1 + 37) (37 * n) 37) 2510 (nI (d + 1))) 2511 (nI (d + 1))) q = f q := fun q a b e1 e2 => by
    rw [pk_un b, pk_un a, copF_out (by omega), pasF_out (by omega), pk_un (by omega), copF_out (by omega), pk_un (by omega)]
  have tab0 : (upd (upd (copF (pasF (upd (copF (upd (f) (259 + 75 * d) (nI n)) (259 + 75 * d + 1) (37 * n) 37) (37 * n) (nI m)) (37 * n + 1) (madV (a5) m) 36) (259 + 75 * d + 1 + 37) (37 * n) 37) 2510 (nI (d + 1))) 2511 (nI (d + 1))) (37 * n) = nI m := by
    rw [pk_un (by omega), pk_un (by omega), copF_out (by omega), pasF_out (by omega), pk_us]
  have tabq : ∀ q, q < m * m → (upd (upd (copF (pasF (upd (copF (upd (f) (259 + 75 * d) (nI n)) (259 + 75 * d + 1) (37 * n) 37) (37 * n) (nI m)) (37 * n + 1) (madV (a5) m) 36) (259 + 75 * d + 1 + 37) (37 * n) 37) 2510 (nI (d + 1))) 2511 (nI (d + 1))) (37 * n + 1 + q) = nI (c q) := fun q hq => by
    rw [pk_un (by omega), pk_un (by omega), copF_out (by omega), pasF_in (by omega), madV, if_pos hq]
    exact hm q hq
  refine ⟨⟨fun j hj => ?_, fun i hi => ?_, by rw [pk_un (by decide), pk_us], pk_us⟩, fun i hi => out i (by omega) (by omega) (by omega) (by omega)⟩
  · by_cases e : j = n
    · rw [e, pushH_s]
      exact ⟨tab0, tabq⟩
    · rw [pushH_o e]
      exact (h.1 j hj).cg (fun k hk => out _ (by omega) (by omega) (by omega) (by omega)) (ho.2.2.1 d j ho.1 hj).1
  · by_cases e : i = d
    · subst e
      rw [upN_s, pushH_l (Nat.le_refl _), pushH_s]
      refine ⟨?_, (h.1 n hn).cg (fun k hk => ?_) (ho.2.2.1 i n ho.1 hn).1, ?_, fun q hq => ?_⟩
      · rw [pk_un (by omega), pk_un (by omega), copF_out (by omega), pasF_out (by omega), pk_un (by omega), copF_out (by omega), pk_us]
      · rw [pk_un (by omega), pk_un (by omega), copF_out (by omega), pasF_out (by omega), pk_un (by omega), show 260 + 75 * i + k = 259 + 75 * i + 1 + k by omega, copF_in hk, pk_un (by omega)]
      · rw [pk_un (by omega), pk_un (by omega), show 297 + 75 * i = 259 + 75 * i + 1 + 37 + 0 by omega, copF_in (by decide), pasF_out (by omega)]; exact pk_us
      · dsimp only at hq
        rw [pk_un (by omega), pk_un (by omega), show 297 + 75 * i + 1 + q = 259 + 75 * i + 1 + 37 + (1 + q) by omega, copF_in (by omega), show 37 * n + (1 + q) = 37 * n + 1 + q by omega, pasF_in (by omega), madV, if_pos hq]
        exact hm q hq
    · obtain ⟨a1, a2, a3⟩ := h.2.1 i (by omega)
      have hc2 := (ho.2.2.2 i (by omega)).1
      rw [upN_n e, pushH_l (by omega), pushH_l (by omega)]
      exact ⟨by rw [out _ (by omega) (by omega) (by omega) (by omega)]; exact a1, a2.cg (fun k hk => out _ (by omega) (by omega) (by omega) (by omega)) (ho.2.2.1 i _ (by omega) hc2).1, a3.cg (fun k hk => out _ (by omega) (by omega) (by omega) (by omega)) (ho.2.2.1 (i + 1) _ (by omega) hc2).1⟩
theorem HiR.sh {f : Nat → Int32} {H : Nat → Nat → Tb} {ch : Nat → Nat} (h : HiR f H ch 30 30) (ho : HiOk H ch 30 30) {f' : Nat → Int32} (hf : f' = copF f 259 334 2175) : (∀ j, j < 6 → ShR f' (37 * j) (shH H 29 j)) ∧ (∀ i, i < 29 → f' (259 + 75 * i) = nI (shC ch i) ∧ ShR f' (260 + 75 * i) (shH H i (shC ch i)) ∧ ShR f' (297 + 75 * i) (shH H (i + 1) (shC ch i))) := by
  subst hf
  refine ⟨fun j hj => (h.1 j hj).cg (fun k hk => copF_out (by omega)) (ho.2.2.1 30 j (Nat.le_refl _) hj).1, fun i hi => ?_⟩
  obtain ⟨a1, a2, a3⟩ := h.2.1 (i + 1) (by omega)
  have hc2 := (ho.2.2.2 (i + 1) (by omega)).1
  refine ⟨?_, a2.cg (fun k hk => ?_) (ho.2.2.1 (i + 1) _ (by omega) hc2).1, a3.cg (fun k hk => ?_) (ho.2.2.1 (i + 1 + 1) _ (by omega) hc2).1⟩
  · rw [copF_in (k := 75 * i) (by omega), show 334 + 75 * i = 259 + 75 * (i + 1) by omega]
    exact a1
  · rw [show 260 + 75 * i + k = 259 + (75 * i + 1 + k) by omega, copF_in (by omega), show 334 + (75 * i + 1 + k) = 260 + 75 * (i + 1) + k by omega]
  · rw [show 297 + 75 * i + k = 259 + (75 * i + 38 + k) by omega, copF_in (by omega), show 334 + (75 * i + 38 + k) = 297 + 75 * (i + 1) + k by omega]
theorem s_bec_n {g : Nat → Int32} {A : Nat → Nat → Int32} {Q : Option Value → (Nat → Int32) → (Nat → Nat → Int32) → Prop} {n : Nat} {H : Nat → Nat → Tb} {ch : Nat → Nat} {d t : Nat} (hH : HiR (A 1) H ch d t) (hO : HiOk H ch d t) (hd : d < 30) (hk : RR 0 224 53 [some (.ref 146), some (.int (nI n)), some (.int (nI d)), none, none] [] g A Q) : RR 0 224 0 [some (.ref 146), some (.int (nI n)), none, none, none] [] g A Q := by
  refine rr_nx (pc' := 1) (al' := [some (.ref 146), some (.int (nI n)), none, none, none]) (st' := [.ref 146]) d_224_0 (fun _ => rfl) ?_
  refine rr_gf (v := .ref (147 + 1)) d_224_1 mo_224 fl_13 rfl ?_
  refine rn_sp (v := 2510) d_224_4 (by decide) ?_
  refine rr_ia (j := 1) (v := (nI d)) d_224_7 (by decide) rfl (by decide) (show 2510 < 5720 by first | omega | assumption | exact cu_36 (by omega) (cu_lt (by omega) (by omega))) hH.2.2.1 ?_
  refine rr_nx (pc' := 9) (al' := [some (.ref 146), some (.int (nI n)), some (.int (nI d)), none, none]) (st' := []) d_224_8 (fun _ => rfl) ?_
  refine rr_nx (pc' := 10) (al' := [some (.ref 146), some (.int (nI n)), some (.int (nI d)), none, none]) (st' := [.int (nI d)]) d_224_9 (fun _ => rfl) ?_
  refine rn_bp (v := 30) d_224_10 (by decide) ?_
  refine rn_cne (t := 53) d_224_12 (by decide) (by first | omega | assumption | exact cu_36 (by omega) (cu_lt (by omega) (by omega))) (by first | omega | assumption | exact cu_36 (by omega) (cu_lt (by omega) (by omega))) (fun c12 => ?_) (fun c12 => ?_)
  · exact hk
  · omega
theorem s_bec_f {g : Nat → Int32} {A : Nat → Nat → Int32} {Q : Option Value → (Nat → Int32) → (Nat → Nat → Int32) → Prop} {n : Nat} {H : Nat → Nat → Tb} {ch : Nat → Nat} (hH : HiR (A 1) H ch 30 30) (hk : RR 0 224 53 [some (.ref 146), some (.int (nI n)), some (.int (nI 29)), none, none] [] g (rf_u A 1 (copF (A 1) 259 334 2175)) Q) : RR 0 224 0 [some (.ref 146), some (.int (nI n)), none, none, none] [] g A Q := by
  refine rr_nx (pc' := 1) (al' := [some (.ref 146), some (.int (nI n)), none, none, none]) (st' := [.ref 146]) d_224_0 (fun _ => rfl) ?_
  refine rr_gf (v := .ref (147 + 1)) d_224_1 mo_224 fl_13 rfl ?_
  refine rn_sp (v := 2510) d_224_4 (by decide) ?_
  refine rr_ia (j := 1) (v := (nI 30)) d_224_7 (by decide) rfl (by decide) (show 2510 < 5720 by first | omega | assumption | exact cu_36 (by omega) (cu_lt (by omega) (by omega))) hH.2.2.1 ?_
  refine rr_nx (pc' := 9) (al' := [some (.ref 146), some (.int (nI n)), some (.int (nI 30)), none, none]) (st' := []) d_224_8 (fun _ => rfl) ?_
  refine rr_nx (pc' := 10) (al' := [some (.ref 146), some (.int (nI n)), some (.int (nI 30)), none, none]) (st' := [.int (nI 30)]) d_224_9 (fun _ => rfl) ?_
  refine rn_bp (v := 30) d_224_10 (by decide) ?_
  refine rn_cne (t := 53) d_224_12 (by decide) (by first | omega | assumption | exact cu_36 (by omega) (cu_lt (by omega) (by omega))) (by first | omega | assumption | exact cu_36 (by omega) (cu_lt (by omega) (by omega))) (fun c12 => ?_) (fun c12 => ?_)
  · omega
  · refine rn_ic (v := 0) d_224_15 (by decide) ?_
    refine rr_nx (pc' := 17) (al' := [some (.ref 146), some (.int (nI n)), some (.int (nI 30)), some (.int (nI 0)), none]) (st' := []) d_224_16 (fun _ => rfl) ?_
    refine rr_A (show A = (rf_u A 1 (copF (A 1) 259 334 0)) by rw [copF_0, rf_u_id]) ?_
    refine rr_up (al := fun k => [some (.ref 146), some (.int (nI n)), some (.int (nI 30)), some (.int (nI k)), none]) (G := fun k => g) (B := fun k => (rf_u A 1 (copF (A 1) 259 334 k))) (P := fun k => True) (n := 2175) (fun k hk pk ihk => ?_) (fun pk => ?_) 0  (by omega) (trivial)
    · show RR _ _ 17 [some (.ref 146), some (.int (nI n)), some (.int (nI 30)), some (.int (nI k)), none] [] g (rf_u A 1 (copF (A 1) 259 334 k)) _
      refine rr_nx (pc' := 18) (al' := [some (.ref 146), some (.int (nI n)), some (.int (nI 30)), some (.int (nI k)), none]) (st' := [.int (nI k)]) d_224_17 (fun _ => rfl) ?_
      refine rn_sp (v := 2175) d_224_18 (by decide) ?_
      refine rn_cge (t := 50) d_224_21 (by decide) (by first | omega | assumption | exact cu_36 (by omega) (cu_lt (by omega) (by omega))) (by first | omega | assumption | exact cu_36 (by omega) (cu_lt (by omega) (by omega))) (fun c21 => ?_) (fun c21 => ?_)
      · omega
      · refine rr_nx (pc' := 25) (al' := [some (.ref 146), some (.int (nI n)), some (.int (nI 30)), some (.int (nI k)), none]) (st' := [.ref 146]) d_224_24 (fun _ => rfl) ?_
        refine rr_gf (v := .ref (147 + 1)) d_224_25 mo_224 fl_13 rfl ?_
        refine rn_sp (v := 259) d_224_28 (by decide) ?_
        refine rr_nx (pc' := 32) (al' := [some (.ref 146), some (.int (nI n)), some (.int (nI 30)), some (.int (nI k)), none]) (st' := [.int (nI k), .int (nI 259), .ref (147 + 1)]) d_224_31 (fun _ => rfl) ?_
        refine rn_add d_224_32  ?_
        refine rr_nx (pc' := 34) (al' := [some (.ref 146), some (.int (nI n)), some (.int (nI 30)), some (.int (nI k)), none]) (st' := [.ref 146, .int (nI (259 + k)), .ref (147 + 1)]) d_224_33 (fun _ => rfl) ?_
        refine rr_gf (v := .ref (147 + 1)) d_224_34 mo_224 fl_13 rfl ?_
        refine rn_sp (v := 334) d_224_37 (by decide) ?_
        refine rr_nx (pc' := 41) (al' := [some (.ref 146), some (.int (nI n)), some (.int (nI 30)), some (.int (nI k)), none]) (st' := [.int (nI k), .int (nI 334), .ref (147 + 1), .int (nI (259 + k)), .ref (147 + 1)]) d_224_40 (fun _ => rfl) ?_
        refine rn_add d_224_41  ?_
        refine rr_ia (j := 1) (v := ((copF (A 1) 259 334 k) (334 + k))) d_224_42 (by decide) rfl (by decide) (show 334 + k < 5720 by first | omega | assumption | exact cu_36 (by omega) (cu_lt (by omega) (by omega))) rfl ?_
        refine rr_iS (j := 1) (A1 := (rf_u A 1 (upd (copF (A 1) 259 334 k) (259 + k) ((copF (A 1) 259 334 k) (334 + k))))) d_224_43 (by decide) rfl (by decide) (show 259 + k < 5720 by first | omega | assumption | exact cu_36 (by omega) (cu_lt (by omega) (by omega))) rf_uw ?_
        refine rn_inc d_224_44 rfl rfl ?_
        show RR _ _ 47 [some (.ref 146), some (.int (nI n)), some (.int (nI 30)), some (.int (nI (k + 1))), none] [] g (rf_u A 1 (upd (copF (A 1) 259 334 k) (259 + k) ((copF (A 1) 259 334 k) (334 + k)))) _
        refine rr_nx (pc' := 17) (al' := [some (.ref 146), some (.int (nI n)), some (.int (nI 30)), some (.int (nI (k + 1))), none]) (st' := []) d_224_47 (fun _ => rfl) ?_
        refine rr_A (show (rf_u A 1 (upd (copF (A 1) 259 334 k) (259 + k) ((copF (A 1) 259 334 k) (334 + k)))) = (rf_u A 1 (copF (A 1) 259 334 (k + 1))) by rw [copF_s (by omega)]) ?_
        exact ihk  (trivial)
    · show RR _ _ 17 [some (.ref 146), some (.int (nI n)), some (.int (nI 30)), some (.int (nI 2175)), none] [] g (rf_u A 1 (copF (A 1) 259 334 2175)) _
      refine rr_nx (pc' := 18) (al' := [some (.ref 146), some (.int (nI n)), some (.int (nI 30)), some (.int (nI 2175)), none]) (st' := [.int (nI 2175)]) d_224_17 (fun _ => rfl) ?_
      refine rn_sp (v := 2175) d_224_18 (by decide) ?_
      refine rn_cge (t := 50) d_224_21 (by decide) (by first | omega | assumption | exact cu_36 (by omega) (cu_lt (by omega) (by omega))) (by first | omega | assumption | exact cu_36 (by omega) (cu_lt (by omega) (by omega))) (fun c21 => ?_) (fun c21 => ?_)
      · refine rr_nx (pc' := 53) (al' := [some (.ref 146), some (.int (nI n)), some (.int (nI (30 - 1))), some (.int (nI 2175)), none]) (st' := []) d_224_50 (fun _ => by rw [show nI (30 - 1) = nI 30 + (-1) from nI_pr (by omega)]; rfl) ?_
        refine rr_dr (al1 := [some (.ref 146), some (.int (nI n)), some (.int (nI (30 - 1))), none, none]) (le_s (le_s (le_s (le_d rfl (le_s (le_n)))))) ?_
        exact hk
      · omega
theorem HiR.eq2 {f f' : Nat → Int32} {H : Nat → Nat → Tb} {ch : Nat → Nat} {d t : Nat} (h : HiR f H ch d t) (e : ∀ q, f' q = f q) : HiR f' H ch d t := by
  rw [show f' = f from funext e]
  exact h
theorem bec_eq {f a5 : Nat → Int32} {n m : Nat} (hn : n < 6) (q : Nat) : (upd (upd (copF (pasF (upd (copF (upd (f) (259 + 75 * 29) (nI n)) (259 + 75 * 29 + 1) (37 * n) 37) (37 * n) (nI m)) (37 * n + 1) (madV (a5) m) 36) (259 + 75 * 29 + 1 + 37) (37 * n) 37) 2510 (nI (29 + 1))) 2511 (nI (29 + 1))) q = (upd (upd (copF (pasF (upd (copF (upd ((upd (upd f 2510 (nI 29)) 2511 (nI 29))) (259 + 75 * 29) (nI n)) (259 + 75 * 29 + 1) (37 * n) 37) (37 * n) (nI m)) (37 * n + 1) (madV (a5) m) 36) (259 + 75 * 29 + 1 + 37) (37 * n) 37) 2510 (nI (29 + 1))) 2511 (nI (29 + 1))) q := by
  by_cases e1 : q = 2511
  · rw [e1, pk_us, pk_us]
  · rw [pk_un e1, pk_un e1]
    by_cases e2 : q = 2510
    · rw [e2, pk_us, pk_us]
    · rw [pk_un e2, pk_un e2]
      unfold copF pasF
      by_cases c1 : 259 + 75 * 29 + 1 + 37 ≤ q ∧ q < 259 + 75 * 29 + 1 + 37 + 37
      · rw [if_pos c1, if_pos c1]
        by_cases c2 : 37 * n + 1 ≤ 37 * n + (q - (259 + 75 * 29 + 1 + 37)) ∧ 37 * n + (q - (259 + 75 * 29 + 1 + 37)) < 37 * n + 1 + 36
        · rw [if_pos c2, if_pos c2]
        · rw [if_neg c2, if_neg c2]
          have e3 : 37 * n + (q - (259 + 75 * 29 + 1 + 37)) = 37 * n := by omega
          rw [e3, pk_us, pk_us]
      · rw [if_neg c1, if_neg c1]
        by_cases c2 : 37 * n + 1 ≤ q ∧ q < 37 * n + 1 + 36
        · rw [if_pos c2, if_pos c2]
        · rw [if_neg c2, if_neg c2]
          by_cases e3 : q = 37 * n
          · rw [e3, pk_us, pk_us]
          · rw [pk_un e3, pk_un e3]
            by_cases c3 : 259 + 75 * 29 + 1 ≤ q ∧ q < 259 + 75 * 29 + 1 + 37
            · rw [if_pos c3, if_pos c3, pk_un (by omega), pk_un (by omega), pk_un (by omega), pk_un (by omega)]
            · rw [if_neg c3, if_neg c3]
              by_cases e4 : q = 259 + 75 * 29
              · rw [e4, pk_us, pk_us]
              · rw [pk_un e4, pk_un e4, pk_un e1, pk_un e2]
theorem s_becomes {g : Nat → Int32} {A : Nat → Nat → Int32} {n : Nat} {H : Nat → Nat → Tb} {ch : Nat → Nat} {d t : Nat} (hH : HiR (A 1) H ch d t) (hO : HiOk H ch d t) (hn : n < 6) {m : Nat} {c : Nat → Nat} (hm6 : m ≤ 6) (h8 : g 8 = nI m) (hm : ∀ q, q < m * m → A 5 q = nI (c q)) : RR 0 224 0 [some (.ref 146), some (.int (nI n)), none, none, none] [] g A (fun v_ g' A' => v_ = none ∧ g' = g ∧ ∃ f', A' = rf_u A 1 f' ∧ HiR f' (rcH H d n (m, c)) (rcC ch d n) (rcD d) (rcD d) ∧ RfF (A 1) f') := by
  have h1 := hO.1
  have h2 := hO.2.1
  unfold rcH rcC rcD
  by_cases e : d = 30
  · rw [if_pos e, if_pos e, if_pos e]
    have ht : t = 30 := by omega
    subst e
    subst ht
    refine s_bec_f hH (rr_cq (s_bec53 hn (by decide) hm6 h8) ?_)
    rintro v g' A' ⟨rfl, rfl, rfl⟩
    rw [rf_u_s, rf_u_n (show (5 : Nat) ≠ 1 by decide), rf_u_u]
    have hs := hH.sh hO rfl
    have hx : HiR (upd (upd (copF (A 1) 259 334 2175) 2510 (nI 29)) 2511 (nI 29)) (shH H) (shC ch) 29 29 := by
      refine ⟨fun j hj => (hs.1 j hj).cg (fun k hk => by rw [pk_un (by omega), pk_un (by omega)]) (hO.2.2.1 30 j (Nat.le_refl _) hj).1, fun i hi => ?_, by rw [pk_un (by decide), pk_us], pk_us⟩
      obtain ⟨a1, a2, a3⟩ := hs.2 i hi
      have hc2 := (hO.2.2.2 (i + 1) (by omega)).1
      exact ⟨by rw [pk_un (by omega), pk_un (by omega)]; exact a1, a2.cg (fun k hk => by rw [pk_un (by omega), pk_un (by omega)]) (hO.2.2.1 (i + 1) _ (by omega) hc2).1, a3.cg (fun k hk => by rw [pk_un (by omega), pk_un (by omega)]) (hO.2.2.1 (i + 1 + 1) _ (by omega) hc2).1⟩
    have hp := hx.push (a5 := A 5) (c := c) (HiOk.sh (d := 29) (t := 29) hO) (by decide) hn hm6 hm
    refine ⟨rfl, rfl, _, rfl, ?_, ?_⟩
    · refine HiR.eq2 hp.1 (fun q => ?_)
      exact bec_eq hn q
    · intro i hi
      rw [bec_eq hn i, hp.2 i hi, pk_un (by omega), pk_un (by omega), copF_out (by omega)]
  · rw [if_neg e, if_neg e, if_neg e]
    refine s_bec_n hH hO (by omega) (rr_cq (s_bec53 hn (by omega) hm6 h8) ?_)
    rintro v g' A' ⟨rfl, rfl, rfl⟩
    have hp := hH.push (a5 := A 5) (c := c) hO (by omega) hn hm6 hm
    exact ⟨rfl, rfl, _, rfl, hp.1, hp.2⟩
