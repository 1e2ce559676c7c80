/-! Laws: the class reckons a stretch of code; printed by wip/whole/gen_c01.py. -/
/-- what the rows of a checker at a hold: values of letters, the three tables -/
def CkB (B : Nat → Nat → Int32) (a m n : Nat) (vl : Nat → Nat) (jn : Nat → Nat → Nat → Nat) (w : List Nat) : Prop := (∀ k, k ≤ 3 → k ∈ w → B (a + 4) k = nI (vl k) ∧ vl k < n) ∧ ∀ p q, p < n → q < n → B m (n * p + q) = nI (jn 4 p q) ∧ (5 ∈ w → B (a + 2) (n * p + q) = nI (jn 5 p q)) ∧ (6 ∈ w → B (a + 3) (n * p + q) = nI (jn 6 p q)) ∧ ∀ k, jn k p q < n
theorem CkB.u {B : Nat → Nat → Int32} {a m n : Nat} {vl : Nat → Nat} {jn : Nat → Nat → Nat → Nat} {w : List Nat} {f : Nat → Int32} (hm : m ≠ a + 5) (h : CkB B a m n vl jn w) : CkB (upr B (a + 5) f) a m n vl jn w := by
  unfold CkB
  rw [upr_n (show a + 4 ≠ a + 5 by omega), upr_n hm, upr_n (show a + 2 ≠ a + 5 by omega), upr_n (show a + 3 ≠ a + 5 by omega)]
  exact h
theorem CkB.mo {B : Nat → Nat → Int32} {a m n : Nat} {vl : Nat → Nat} {jn : Nat → Nat → Nat → Nat} {w v : List Nat} (h : CkB B a m n vl jn w) (hv : ∀ k, k ∈ v → k ∈ w) : CkB B a m n vl jn v :=
  ⟨fun k h3 hk => h.1 k h3 (hv k hk), fun p q hp hq => ⟨(h.2 p q hp hq).1, fun e => (h.2 p q hp hq).2.1 (hv _ e), fun e => (h.2 p q hp hq).2.2.1 (hv _ e), (h.2 p q hp hq).2.2.2⟩⟩
def AsQ (a : Nat) (S : CS) (G : Nat → Nat → Value) (B : Nat → Nat → Int32) (J : Nat → Nat → Int64) (R : Nat → Nat → Option Nat) (p : Bool) : CQ := fun r S' G' B' J' R' => r = some (.int (bI (p = true))) ∧ S' = S ∧ G' = G ∧ J' = J ∧ R' = R ∧ ∃ x, B' = upr B (a + 5) x
theorem AsQ.u {a : Nat} {S : CS} {G : Nat → Nat → Value} {B : Nat → Nat → Int32} {J : Nat → Nat → Int64} {R : Nat → Nat → Option Nat} {p : Bool} {f : Nat → Int32} {r : Option Value} {S' : CS} {G' : Nat → Nat → Value} {B' : Nat → Nat → Int32} {J' : Nat → Nat → Int64} {R' : Nat → Nat → Option Nat} (h : AsQ a S G (upr B (a + 5) f) J R p r S' G' B' J' R') : AsQ a S G B J R p r S' G' B' J' R' := by
  obtain ⟨h1, h2, h3, h4, h5, x, h6⟩ := h
  exact ⟨h1, h2, h3, h4, h5, x, by rw [h6, upr_u]⟩
theorem ck_top {B : Nat → Nat → Int32} {a d v : Nat} {st : List Nat} (hd : d = st.length) (hs : ∀ q, q < st.length → B (a + 5) q = nI (st.getD (st.length - 1 - q) 0)) : ∀ q, q < (v :: st).length → upr B (a + 5) (upd (B (a + 5)) d (nI v)) (a + 5) q = nI ((v :: st).getD ((v :: st).length - 1 - q) 0) := by
  intro q hq
  rw [upr_s]
  rw [List.length_cons] at hq ⊢
  by_cases e : q = d
  · rw [e, pk_us, hd, show st.length + 1 - 1 - st.length = 0 by omega]
    rfl
  · rw [pk_un e, hs q (by omega), show st.length + 1 - 1 - q = (st.length - 1 - q) + 1 by omega]
    rfl
theorem k_as {S : CS} {G : Nat → Nat → Value} {J : Nat → Nat → Int64} {R : Nat → Nat → Option Nat} {a m n : Nat} (hC : CkAt S G a) (hn : G a 0 = .int (nI n)) (hm1 : G a 1 = .ref m) (hm : cs_in S.1 m ∧ S.2 m = (0, 36)) (hn6 : n ≤ 6) {b L f t : Nat} (hb : cs_in S.1 b ∧ S.2 b = (0, L)) (hL : L ≤ 100000) (ht : t ≤ L) (hbn : b ≠ a + 5) (hmn : m ≠ a + 5) {vl : Nat → Nat} {jn : Nat → Nat → Nat → Nat} : ∀ (w : List Nat) (B : Nat → Nat → Int32) (st : List Nat) (i : Nat), i + w.length = t → (∀ q, q < w.length → B b (i + q) = nI (w.getD q 0)) → CkB B a m n vl jn w → (∀ q, q < st.length → B (a + 5) q = nI (st.getD (st.length - 1 - q) 0)) → (∀ x, x ∈ st → x < n) → st.length + lcC w ≤ 32 → wfC w st.length = true → CR 1 6 6 [some (.ref a), some (.ref b), some (.int (nI f)), some (.int (nI t)), some (.int (nI st.length - 1)), some (.int (nI i)), none] [] S G B J R (AsQ a S G B J R (rnC vl jn w st))
  | [], B, st, i, hi, hw, hB, hs, hx, hl, hf => by
    refine cr_cq (k_as_z (by simpa using hi) (by omega)) ?_
    rintro r S' G' B' J' R' ⟨rfl, rfl, rfl, rfl, rfl, rfl⟩
    exact ⟨bI_tt, rfl, rfl, rfl, rfl, _, upr_id.symm⟩
  | k :: w, B, st, i, hi, hw, hB, hs, hx, hl, hf => by
    rw [List.length_cons] at hi
    have hk : B b i = nI k := hw 0 (by simp)
    have hw' : ∀ B' : Nat → Nat → Int32, B' b = B b → ∀ q, q < w.length → B' b (i + 1 + q) = nI (w.getD q 0) := fun B' e q hq => by
      rw [e, show i + 1 + q = i + (q + 1) by omega, hw (q + 1) (by rw [List.length_cons]; omega)]
      rfl
    have hB' := hB.mo (v := w) (fun k hk => List.mem_cons_of_mem _ hk)
    by_cases h3 : k ≤ 3
    · rw [rnC_l h3]
      rw [wfC_l h3] at hf
      have hlc : lcC (k :: w) = lcC w + 1 := by unfold lcC; rw [List.countP_cons, if_pos (by simpa using h3)]
      obtain ⟨hv, hvn⟩ := hB.1 k h3 (List.mem_cons_self ..)
      refine k_as_l hC hn hm1 hm hn6 hb hL ht (by omega) hk h3 (by omega) hv ?_
      refine cr_cq (k_as hC hn hm1 hm hn6 hb hL ht hbn hmn w _ (vl k :: st) (i + 1) (by omega) (hw' _ (upr_n hbn)) (hB'.u hmn) (ck_top rfl hs) (fun x hxx => ?_) (by rw [List.length_cons]; omega) hf) (fun _ _ _ _ _ _ => AsQ.u)
      rcases List.mem_cons.mp hxx with rfl | e
      · exact hvn
      · exact hx x e
    · have hlc : lcC (k :: w) = lcC w := by unfold lcC; rw [List.countP_cons, if_neg (by simpa using h3)]; rfl
      match st, hs, hx, hl, hf with
      | [], _, _, _, hf => exfalso; unfold wfC at hf; rw [if_neg h3, if_pos (by simp)] at hf; cases hf
      | [y], _, _, _, hf => exfalso; unfold wfC at hf; rw [if_neg h3, if_pos (by simp)] at hf; cases hf
      | q :: p :: st, hs, hx, hl, hf =>
        have hp : B (a + 5) st.length = nI p := by
          have := hs st.length (by simp only [List.length_cons]; omega)
          rw [this]
          simp only [List.length_cons]
          rw [show st.length + 1 + 1 - 1 - st.length = 1 by omega]
          rfl
        have hq : B (a + 5) (st.length + 1) = nI q := by
          have := hs (st.length + 1) (by simp only [List.length_cons]; omega)
          rw [this]
          simp only [List.length_cons]
          rw [show st.length + 1 + 1 - 1 - (st.length + 1) = 0 by omega]
          rfl
        have hp6 : p < n := hx p (by simp)
        have hq6 : q < n := hx q (by simp)
        simp only [List.length_cons] at hl hf ⊢
        have hs' : ∀ z, z < st.length → B (a + 5) z = nI (st.getD (st.length - 1 - z) 0) := fun z hz => by
          rw [hs z (by simp only [List.length_cons]; omega)]
          simp only [List.length_cons]
          rw [show st.length + 1 + 1 - 1 - z = (st.length - 1 - z) + 1 + 1 by omega]
          rfl
        have hx' : ∀ x, x ∈ st → x < n := fun x e => hx x (List.mem_cons_of_mem _ (List.mem_cons_of_mem _ e))
        by_cases h7 : k = 7
        · subst h7
          rw [rnC_e]
          rw [wfC_e] at hf
          by_cases he : p = q
          · rw [if_pos he]
            exact k_as_e hC hn hm1 hm hn6 hb hL ht (by omega) hk (by omega) hp hq hp6 hq6 rfl he (k_as hC hn hm1 hm hn6 hb hL ht hbn hmn w B st (i + 1) (by omega) (hw' _ rfl) hB' hs' hx' (by omega) hf)
          · rw [if_neg he]
            refine cr_cq (k_as_f hC hn hm1 hm hn6 hb hL ht (by omega) hk (by omega) hp hq hp6 hq6 rfl he) ?_
            rintro r S' G' B' J' R' ⟨rfl, rfl, rfl, rfl, rfl, rfl⟩
            exact ⟨bI_ff, rfl, rfl, rfl, rfl, _, upr_id.symm⟩
        · have h6 : k ≤ 6 := by
            refine Nat.le_of_not_lt fun e => ?_
            unfold wfC at hf
            rw [if_neg h3, if_neg (by omega), if_neg h7, if_neg (by omega)] at hf
            cases hf
          rw [rnC_o (by omega) h6]
          rw [wfC_o (by omega) h6] at hf
          have hj := hB.2 p q hp6 hq6
          refine k_as_o (v := jn k p q) hC hn hm1 hm hn6 hb hL ht (by omega) hk (by omega) hp hq hp6 hq6 ⟨by omega, h6⟩ (fun e => by rw [e]; exact hj.1) (fun e => by rw [e]; exact hj.2.1 (by rw [e]; exact List.mem_cons_self ..)) (fun e => by rw [e]; exact hj.2.2.1 (by rw [e]; exact List.mem_cons_self ..)) ?_
          refine cr_cq (k_as hC hn hm1 hm hn6 hb hL ht hbn hmn w _ (jn k p q :: st) (i + 1) (by omega) (hw' _ (upr_n hbn)) (hB'.u hmn) (ck_top rfl hs') (fun x hxx => ?_) (by rw [List.length_cons]; omega) hf) (fun _ _ _ _ _ _ => AsQ.u)
          rcases List.mem_cons.mp hxx with rfl | e
          · exact hj.2.2.2 k
          · exact hx' x e
theorem k_areSo {S : CS} {G : Nat → Nat → Value} {B : Nat → Nat → Int32} {J : Nat → Nat → Int64} {R : Nat → Nat → Option Nat} {a m n : Nat} (hC : CkAt S G a) (hn : G a 0 = .int (nI n)) (hm1 : G a 1 = .ref m) (hm : cs_in S.1 m ∧ S.2 m = (0, 36)) (hn6 : n ≤ 6) {b L f t : Nat} (hb : cs_in S.1 b ∧ S.2 b = (0, L)) (hL : L ≤ 100000) (ht : t ≤ L) (hbn : b ≠ a + 5) (hmn : m ≠ a + 5) {vl : Nat → Nat} {jn : Nat → Nat → Nat → Nat} {w : List Nat} (hi : f + w.length = t) (hw : ∀ q, q < w.length → B b (f + q) = nI (w.getD q 0)) (hB : CkB B a m n vl jn w) (hl : lcC w ≤ 32) (hf : wfC w 0 = true) : CR 1 6 0 [some (.ref a), some (.ref b), some (.int (nI f)), some (.int (nI t)), none, none, none] [] S G B J R (AsQ a S G B J R (rnC vl jn w [])) := by
  refine cr_nx (pc' := 1) (al' := [some (.ref a), some (.ref b), some (.int (nI f)), some (.int (nI t)), none, none, none]) (st' := [.int (-1)]) d_6_0 (fun _ => rfl) ?_
  refine cr_nx (pc' := 3) (al' := [some (.ref a), some (.ref b), some (.int (nI f)), some (.int (nI t)), some (.int (-1)), none, none]) (st' := []) d_6_1 (fun _ => rfl) ?_
  refine cr_nx (pc' := 4) (al' := [some (.ref a), some (.ref b), some (.int (nI f)), some (.int (nI t)), some (.int (-1)), none, none]) (st' := [.int (nI f)]) d_6_3 (fun _ => rfl) ?_
  refine cr_nx (pc' := 6) (al' := [some (.ref a), some (.ref b), some (.int (nI f)), some (.int (nI t)), some (.int (-1)), some (.int (nI f)), none]) (st' := []) d_6_4 (fun _ => rfl) ?_
  refine cr_al (congrArg (fun z__ : Int32 => ([some (.ref a), some (.ref b), some (.int (nI f)), some (.int (nI t)), some (.int z__), some (.int (nI f)), none] : AL)) (show (-1 : Int32) = nI ([] : List Nat).length - 1 by decide)) ?_
  exact k_as hC hn hm1 hm hn6 hb hL ht hbn hmn w B [] f hi hw hB (fun q h => absurd h (Nat.not_lt_zero q)) (fun x h => absurd h (List.not_mem_nil)) (by rw [List.length_nil]; omega) hf
theorem gd_take {w : List Nat} {i q : Nat} (h : q < i) : (w.take i).getD q 0 = w.getD q 0 := by
  rw [List.getD_eq_getElem?_getD, List.getD_eq_getElem?_getD, List.getElem?_take, if_pos h]
theorem gd_drop {w : List Nat} {i q : Nat} : (w.drop i).getD q 0 = w.getD (i + q) 0 := by
  rw [List.getD_eq_getElem?_getD, List.getD_eq_getElem?_getD, List.getElem?_drop]
theorem lc_tk {w : List Nat} {i : Nat} : lcC (w.take i) + lcC (w.drop i) = lcC w := by rw [← lc_app, List.take_append_drop]
theorem isb_t {p q : Bool} (h : p = true) (h2 : ¬ q = true) : some (Value.int (nI 1)) = some (.int (bI ((p && !q) = true))) := by rw [← bI_t (by rw [h, Bool.eq_false_iff.mpr h2]; rfl)]
theorem isb_f {p q : Bool} (h : ¬ (p = true ∧ ¬ q = true)) : some (Value.int (nI 0)) = some (.int (bI ((p && !q) = true))) := by rw [← bI_f (by cases p <;> cases q <;> simp_all)]
theorem k_isBroken {S : CS} {G : Nat → Nat → Value} {B : Nat → Nat → Int32} {J : Nat → Nat → Int64} {R : Nat → Nat → Option Nat} {a m n : Nat} (hC : CkAt S G a) (hn : G a 0 = .int (nI n)) (hm1 : G a 1 = .ref m) (hm : cs_in S.1 m ∧ S.2 m = (0, 36)) (hn6 : n ≤ 6) {l i : Nat} {w : List Nat} (hLw : LawAt S G B l w i) (hln : l + 1 ≠ a + 5) (hmn : m ≠ a + 5) (hi : i ≤ w.length) (hw64 : w.length < 64) (hf1 : wfC (w.take i) 0 = true) (hf2 : wfC (w.drop i) 0 = true) (hlc : lcC w ≤ 32) {vl : Nat → Nat} {jn : Nat → Nat → Nat → Nat} (hB : CkB B a m n vl jn w) : CR 2 5 0 [some (.ref a), some (.ref l)] [] S G B J R (AsQ a S G B J R (rnC vl jn (w.drop i) [] && !rnC vl jn (w.take i) [])) := by
  have hlt := lc_tk (w := w) (i := i)
  refine cr_nx (pc' := 1) (al' := [some (.ref a), some (.ref l)]) (st' := [.ref a]) d_5_0 (fun _ => rfl) ?_
  refine cr_nx (pc' := 2) (al' := [some (.ref a), some (.ref l)]) (st' := [.ref l, .ref a]) d_5_1 (fun _ => rfl) ?_
  refine cr_gf (v := .ref (l + 1)) d_5_2 cw_5 cf_0_67 hLw.1 hLw.2.1 (by decide) hLw.2.2.2.2.1 ?_
  refine cr_nx (pc' := 6) (al' := [some (.ref a), some (.ref l)]) (st' := [.ref l, .ref (l + 1), .ref a]) d_5_5 (fun _ => rfl) ?_
  refine cr_gf (v := .int (nI i)) d_5_6 cw_5 cf_0_70 hLw.1 hLw.2.1 (by decide) hLw.2.2.2.2.2.1 ?_
  refine cr_nx (pc' := 10) (al' := [some (.ref a), some (.ref l)]) (st' := [.ref l, .int (nI i), .ref (l + 1), .ref a]) d_5_9 (fun _ => rfl) ?_
  refine cr_gf (v := .ref (l + 1)) d_5_10 cw_5 cf_0_67 hLw.1 hLw.2.1 (by decide) hLw.2.2.2.2.1 ?_
  refine cr_le d_5_13 hLw.2.2.1 (by decide) (by decide) hLw.2.2.2.1 ?_
  refine cr_cv (b := a) (as := [.ref (l + 1), .int (nI i), .int (nI w.length)]) (al0 := [some (.ref a), some (.ref (l + 1)), some (.int (nI i)), some (.int (nI w.length)), none, none, none]) (r := []) d_5_14 cw_5 cm_0_73 cz_6 rfl rfl hC.1.1 (by rw [cw_6]; exact hC.1.2) (by rw [cw_6]; decide) rfl (cr_wk (Nat.le_of_ble_eq_true rfl) (k_areSo (w := w.drop i) (vl := vl) (jn := jn) hC hn hm1 hm hn6 ⟨hLw.2.2.1, hLw.2.2.2.1⟩ (by omega) (by omega) hln hmn (by rw [List.length_drop]; omega) (fun q hq => by rw [gd_drop]; exact hLw.2.2.2.2.2.2.2 _ (by rw [List.length_drop] at hq; omega)) (hB.mo (fun k hk => List.mem_of_mem_drop hk)) (by omega) hf2)) (fun v1 S1 G1 B1 J1 R1 h1 => ?_)
  obtain ⟨q0_, q1_, q2_, q3_, q4_, w14, q9_⟩ := h1
  obtain rfl := q0_
  obtain rfl := q1_.symm
  obtain rfl := q2_.symm
  obtain rfl := q3_.symm
  obtain rfl := q4_.symm
  obtain rfl := q9_
  show CR _ _ 17 [some (.ref a), some (.ref l)] [.int (bI (rnC vl jn (w.drop i) [] = true))] S G (upr B (a + 5) w14) J R _
  refine cr_beq (t := 40) d_5_17 (by decide) (fun c17 => ?_) (fun c17 => ?_)
  · refine cn_ic (v := 0) d_5_40 (by decide) ?_
    exact cr_ri d_5_41 cx_5 (by decide) ⟨isb_f (fun h_ => c17 h_.1), rfl, rfl, rfl, rfl, _, rfl⟩
  · refine cr_nx (pc' := 21) (al' := [some (.ref a), some (.ref l)]) (st' := [.ref a]) d_5_20 (fun _ => rfl) ?_
    refine cr_nx (pc' := 22) (al' := [some (.ref a), some (.ref l)]) (st' := [.ref l, .ref a]) d_5_21 (fun _ => rfl) ?_
    refine cr_gf (v := .ref (l + 1)) d_5_22 cw_5 cf_0_67 hLw.1 hLw.2.1 (by decide) hLw.2.2.2.2.1 ?_
    refine cn_ic (v := 0) d_5_25 (by decide) ?_
    refine cr_nx (pc' := 27) (al' := [some (.ref a), some (.ref l)]) (st' := [.ref l, .int (nI 0), .ref (l + 1), .ref a]) d_5_26 (fun _ => rfl) ?_
    refine cr_gf (v := .int (nI i)) d_5_27 cw_5 cf_0_70 hLw.1 hLw.2.1 (by decide) hLw.2.2.2.2.2.1 ?_
    refine cr_cv (b := a) (as := [.ref (l + 1), .int (nI 0), .int (nI i)]) (al0 := [some (.ref a), some (.ref (l + 1)), some (.int (nI 0)), some (.int (nI i)), none, none, none]) (r := []) d_5_30 cw_5 cm_0_73 cz_6 rfl rfl hC.1.1 (by rw [cw_6]; exact hC.1.2) (by rw [cw_6]; decide) rfl (cr_wk (Nat.le_of_ble_eq_true rfl) (k_areSo (w := w.take i) (vl := vl) (jn := jn) hC hn hm1 hm hn6 ⟨hLw.2.2.1, hLw.2.2.2.1⟩ (by omega) (by omega) hln hmn (by rw [List.length_take]; omega) (fun q hq => by rw [upr_n hln, Nat.zero_add, gd_take (by rw [List.length_take] at hq; omega)]; exact hLw.2.2.2.2.2.2.2 _ (by rw [List.length_take] at hq; omega)) ((hB.mo (fun k hk => List.mem_of_mem_take hk)).u hmn) (by omega) hf1)) (fun v1 S1 G1 B1 J1 R1 h1 => ?_)
    obtain ⟨q0_, q1_, q2_, q3_, q4_, w30, q9_⟩ := h1
    obtain rfl := q0_
    obtain rfl := q1_.symm
    obtain rfl := q2_.symm
    obtain rfl := q3_.symm
    obtain rfl := q4_.symm
    obtain rfl := q9_
    rw [upr_u]
    show CR _ _ 33 [some (.ref a), some (.ref l)] [.int (bI (rnC vl jn (w.take i) [] = true))] S G (upr B (a + 5) w30) J R _
    refine cr_bne (t := 40) d_5_33 (by decide) (fun c33 => ?_) (fun c33 => ?_)
    · refine cn_ic (v := 0) d_5_40 (by decide) ?_
      exact cr_ri d_5_41 cx_5 (by decide) ⟨isb_f (fun h_ => h_.2 c33), rfl, rfl, rfl, rfl, _, rfl⟩
    · refine cn_ic (v := 1) d_5_36 (by decide) ?_
      refine cr_nx (pc' := 41) (al' := [some (.ref a), some (.ref l)]) (st' := [.int (nI 1)]) d_5_37 (fun _ => rfl) ?_
      exact cr_ri d_5_41 cx_5 (by decide) ⟨isb_t c17 c33, rfl, rfl, rfl, rfl, _, rfl⟩
