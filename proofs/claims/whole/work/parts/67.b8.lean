/-! Groups of multiplication, the class; printed by wip/whole/gen_b8.py. -/
theorem k_fill {S : CS} {G : Nat → Nat → Value} {B : Nat → Nat → Int32} {J : Nat → Nat → Int64} {R : Nat → Nat → Option Nat} {a m : Nat} (hA : cs_in S.1 a) (hs : S.2 a = (0, m)) (hm : m ≤ 100000) (v : Int32) : CR 0 293 0 [some (.ref a), some (.int v), none, none] [] S G B J R (rwC a S G B J R m (fun _ => v)) := by
  refine cn_ic (v := 0) d_293_0 (by decide) ?_
  refine cr_nx (pc' := 2) (al' := [some (.ref a), some (.int v), some (.int (nI 0)), none]) (st' := []) d_293_1 (fun _ => rfl) ?_
  refine cr_nx (pc' := 3) (al' := [some (.ref a), some (.int v), some (.int (nI 0)), none]) (st' := [.ref a]) d_293_2 (fun _ => rfl) ?_
  refine cr_le d_293_3 hA (by decide) (by decide) hs ?_
  refine cr_nx (pc' := 5) (al' := [some (.ref a), some (.int v), some (.int (nI 0)), some (.int (nI m))]) (st' := []) d_293_4 (fun _ => rfl) ?_
  refine cr_B (show B = (upr B a (B a)) by rw [upr_id]) ?_
  refine cr_upw (al := fun i w_ => [some (.ref a), some (.int v), some (.int (nI i)), some (.int (nI m))]) (S := fun i w_ => S) (G := fun i w_ => G) (B := fun i w_ => (upr B a w_)) (J := fun i w_ => J) (R := fun i w_ => R) (P := fun i w_ => ∀ q, q < i → w_ q = v) (n := m) (fun i w_ hi pi ihi => ?_) (fun w_ pi => ?_) 0 (B a) (by omega) (all_0)
  · show CR _ _ 5 [some (.ref a), some (.int v), some (.int (nI i)), some (.int (nI m))] [] S G (upr B a w_) J R _
    refine cr_nx (pc' := 6) (al' := [some (.ref a), some (.int v), some (.int (nI i)), some (.int (nI m))]) (st' := [.int (nI i)]) d_293_5 (fun _ => rfl) ?_
    refine cr_nx (pc' := 7) (al' := [some (.ref a), some (.int v), some (.int (nI i)), some (.int (nI m))]) (st' := [.int (nI m), .int (nI i)]) d_293_6 (fun _ => rfl) ?_
    refine cn_cge (t := 20) d_293_7 (by decide) (by first | omega | assumption | exact cu_36 (by omega) (cu_lt (by omega) (by omega))) (by first | omega | assumption | exact cu_36 (by omega) (cu_lt (by omega) (by omega))) (fun c7 => ?_) (fun c7 => ?_)
    · omega
    · refine cr_nx (pc' := 11) (al' := [some (.ref a), some (.int v), some (.int (nI i)), some (.int (nI m))]) (st' := [.ref a]) d_293_10 (fun _ => rfl) ?_
      refine cr_nx (pc' := 12) (al' := [some (.ref a), some (.int v), some (.int (nI i)), some (.int (nI m))]) (st' := [.int (nI i), .ref a]) d_293_11 (fun _ => rfl) ?_
      refine cr_nx (pc' := 13) (al' := [some (.ref a), some (.int v), some (.int (nI i)), some (.int (nI m))]) (st' := [.int v, .int (nI i), .ref a]) d_293_12 (fun _ => rfl) ?_
      refine cr_iS (a := a) (B1 := (upr B a (upd w_ i v))) d_293_13 hA hs (by first | decide | omega) (show i < m by first | omega | assumption | exact cu_36 (by omega) (cu_lt (by omega) (by omega))) (by rw [upr_s, upr_u]) ?_
      refine cn_inc d_293_14 rfl rfl ?_
      show CR _ _ 17 [some (.ref a), some (.int v), some (.int (nI (i + 1))), some (.int (nI m))] [] S G (upr B a (upd w_ i v)) J R _
      refine cr_nx (pc' := 5) (al' := [some (.ref a), some (.int v), some (.int (nI (i + 1))), some (.int (nI m))]) (st' := []) d_293_17 (fun _ => rfl) ?_
      exact ihi (upd w_ i v) (up_all (f := fun _ => v) pi rfl)
  · show CR _ _ 5 [some (.ref a), some (.int v), some (.int (nI m)), some (.int (nI m))] [] S G (upr B a w_) J R _
    refine cr_nx (pc' := 6) (al' := [some (.ref a), some (.int v), some (.int (nI m)), some (.int (nI m))]) (st' := [.int (nI m)]) d_293_5 (fun _ => rfl) ?_
    refine cr_nx (pc' := 7) (al' := [some (.ref a), some (.int v), some (.int (nI m)), some (.int (nI m))]) (st' := [.int (nI m), .int (nI m)]) d_293_6 (fun _ => rfl) ?_
    refine cn_cge (t := 20) d_293_7 (by decide) (by first | omega | assumption | exact cu_36 (by omega) (cu_lt (by omega) (by omega))) (by first | omega | assumption | exact cu_36 (by omega) (cu_lt (by omega) (by omega))) (fun c7 => ?_) (fun c7 => ?_)
    · exact cr_rv d_293_20 cx_293 ⟨rfl, rfl, rfl, rfl, rfl, w_, rfl, pi⟩
    · omega
theorem k_joinRow {S : CS} {G : Nat → Nat → Value} {B : Nat → Nat → Int32} {J : Nat → Nat → Int64} {R : Nat → Nat → Option Nat} (hS : ShOk S) (hF : FxG G) {a n : Nat} (ht : TabAt S G a) (hn : G a 0 = .int (nI n)) {c : Nat → Nat} (hc : TabC B a n c) (hap : a + 1 ≠ 137) {k : Nat} (hk : k < n) {p : Nat → Nat} (hP : Per n p) (hp : ∀ x, x < n → B 136 x = nI (p x)) : CR 1 72 0 [some (.ref 133), some (.ref a), some (.int (nI k)), none] [] S G B J R (rwC 137 S G B J R n (fun x => nI (mkG n c (k) (p x)))) := by
  have hn6 := hc.1
  refine cn_ic (v := 0) d_72_0 (by decide) ?_
  refine cr_nx (pc' := 2) (al' := [some (.ref 133), some (.ref a), some (.int (nI k)), some (.int (nI 0))]) (st' := []) d_72_1 (fun _ => rfl) ?_
  refine cr_B (show B = (upr B 137 (B 137)) by rw [upr_id]) ?_
  refine cr_upw (al := fun x w_ => [some (.ref 133), some (.ref a), some (.int (nI k)), some (.int (nI x))]) (S := fun x w_ => S) (G := fun x w_ => G) (B := fun x w_ => (upr B 137 w_)) (J := fun x w_ => J) (R := fun x w_ => R) (P := fun x w_ => ∀ q, q < x → w_ q = nI (mkG n c (k) (p q))) (n := n) (fun x w_ hx px ihx => ?_) (fun w_ px => ?_) 0 (B 137) (by omega) (all_0)
  · show CR _ _ 2 [some (.ref 133), some (.ref a), some (.int (nI k)), some (.int (nI x))] [] S G (upr B 137 w_) J R _
    have hpx := hP.1 x hx
    refine cr_nx (pc' := 3) (al' := [some (.ref 133), some (.ref a), some (.int (nI k)), some (.int (nI x))]) (st' := [.int (nI x)]) d_72_2 (fun _ => rfl) ?_
    refine cr_nx (pc' := 4) (al' := [some (.ref 133), some (.ref a), some (.int (nI k)), some (.int (nI x))]) (st' := [.ref a, .int (nI x)]) d_72_3 (fun _ => rfl) ?_
    refine cr_gf (v := .int (nI n)) d_72_4 cw_72 cf_8_34 ht.1 ht.2.2.1 (by decide) hn ?_
    refine cn_cge (t := 33) d_72_7 (by decide) (by first | omega | assumption | exact cu_36 (by omega) (cu_lt (by omega) (by omega))) (by first | omega | assumption | exact cu_36 (by omega) (cu_lt (by omega) (by omega))) (fun c7 => ?_) (fun c7 => ?_)
    · omega
    · refine cr_nx (pc' := 11) (al' := [some (.ref 133), some (.ref a), some (.int (nI k)), some (.int (nI x))]) (st' := [.ref 133]) d_72_10 (fun _ => rfl) ?_
      refine cr_gf (v := .ref 137) d_72_11 cw_72 cf_8_22 (hS.i (a := 133) (by decide) (by decide)) (hS.s (a := 133) (by decide) (by decide) rfl) (by decide) (fx_133_4 hF) ?_
      refine cr_nx (pc' := 15) (al' := [some (.ref 133), some (.ref a), some (.int (nI k)), some (.int (nI x))]) (st' := [.int (nI x), .ref 137]) d_72_14 (fun _ => rfl) ?_
      refine cr_nx (pc' := 16) (al' := [some (.ref 133), some (.ref a), some (.int (nI k)), some (.int (nI x))]) (st' := [.ref a, .int (nI x), .ref 137]) d_72_15 (fun _ => rfl) ?_
      refine cr_nx (pc' := 17) (al' := [some (.ref 133), some (.ref a), some (.int (nI k)), some (.int (nI x))]) (st' := [.int (nI k), .ref a, .int (nI x), .ref 137]) d_72_16 (fun _ => rfl) ?_
      refine cr_nx (pc' := 18) (al' := [some (.ref 133), some (.ref a), some (.int (nI k)), some (.int (nI x))]) (st' := [.ref 133, .int (nI k), .ref a, .int (nI x), .ref 137]) d_72_17 (fun _ => rfl) ?_
      refine cr_gf (v := .ref 136) d_72_18 cw_72 cf_8_18 (hS.i (a := 133) (by decide) (by decide)) (hS.s (a := 133) (by decide) (by decide) rfl) (by decide) (fx_133_3 hF) ?_
      refine cr_nx (pc' := 22) (al' := [some (.ref 133), some (.ref a), some (.int (nI k)), some (.int (nI x))]) (st' := [.int (nI x), .ref 136, .int (nI k), .ref a, .int (nI x), .ref 137]) d_72_21 (fun _ => rfl) ?_
      refine cr_ia (a := 136) (v := (nI (p x))) d_72_22 (hS.i (a := 136) (by decide) (by decide)) (hS.s (a := 136) (by decide) (by decide) rfl) (by first | decide | omega) (show x < 6 by first | omega | assumption | exact cu_36 (by omega) (cu_lt (by omega) (by omega))) ((congrFun (by rw [upr_n (show (136 : Nat) ≠ 137 by decide)] : (upr B 137 w_) 136 = B 136) _).trans (hp x hx)) ?_
      refine cr_pv (b := a) (as := [.int (nI k), .int (nI (p x))]) (al0 := [some (.ref a), some (.int (nI k)), some (.int (nI (p x)))]) (r := [.int (nI x), .ref 137]) d_72_23 cw_72 cm_8_42 cz_91 rfl rfl ht.1 (by rw [cw_91]; exact ht.2.2.1) (by rw [cw_91]; decide) rfl (Nat.le_of_ble_eq_true rfl) (k_times ht hn (TabC.u1 (by omega) hc) (by omega) (by omega)) ?_
      show CR _ _ 26 [some (.ref 133), some (.ref a), some (.int (nI k)), some (.int (nI x))] [.int (nI (c (n * k + (p x)))), .int (nI x), .ref 137] S G (upr B 137 w_) J R _
      have b23 : c (n * k + (p x)) < n := (hc.2 _ (cu_lt (by omega) (by omega))).2
      refine cr_iS (a := 137) (B1 := (upr B 137 (upd w_ x (nI (c (n * k + (p x))))))) d_72_26 (hS.i (a := 137) (by decide) (by decide)) (hS.s (a := 137) (by decide) (by decide) rfl) (by first | decide | omega) (show x < 6 by first | omega | assumption | exact cu_36 (by omega) (cu_lt (by omega) (by omega))) (by rw [upr_s, upr_u]) ?_
      refine cn_inc d_72_27 rfl rfl ?_
      show CR _ _ 30 [some (.ref 133), some (.ref a), some (.int (nI k)), some (.int (nI (x + 1)))] [] S G (upr B 137 (upd w_ x (nI (c (n * k + (p x)))))) J R _
      refine cr_nx (pc' := 2) (al' := [some (.ref 133), some (.ref a), some (.int (nI k)), some (.int (nI (x + 1)))]) (st' := []) d_72_30 (fun _ => rfl) ?_
      exact ihx (upd w_ x (nI (c (n * k + (p x))))) (up_all (f := fun x => nI (mkG n c (k) (p x))) px (by unfold mkG; rw [if_pos hk]))
  · show CR _ _ 2 [some (.ref 133), some (.ref a), some (.int (nI k)), some (.int (nI n))] [] S G (upr B 137 w_) J R _
    refine cr_nx (pc' := 3) (al' := [some (.ref 133), some (.ref a), some (.int (nI k)), some (.int (nI n))]) (st' := [.int (nI n)]) d_72_2 (fun _ => rfl) ?_
    refine cr_nx (pc' := 4) (al' := [some (.ref 133), some (.ref a), some (.int (nI k)), some (.int (nI n))]) (st' := [.ref a, .int (nI n)]) d_72_3 (fun _ => rfl) ?_
    refine cr_gf (v := .int (nI n)) d_72_4 cw_72 cf_8_34 ht.1 ht.2.2.1 (by decide) hn ?_
    refine cn_cge (t := 33) d_72_7 (by decide) (by first | omega | assumption | exact cu_36 (by omega) (cu_lt (by omega) (by omega))) (by first | omega | assumption | exact cu_36 (by omega) (cu_lt (by omega) (by omega))) (fun c7 => ?_) (fun c7 => ?_)
    · exact cr_rv d_72_33 cx_72 ⟨rfl, rfl, rfl, rfl, rfl, w_, rfl, px⟩
    · omega
theorem k_joinColumn {S : CS} {G : Nat → Nat → Value} {B : Nat → Nat → Int32} {J : Nat → Nat → Int64} {R : Nat → Nat → Option Nat} (hS : ShOk S) (hF : FxG G) {a n : Nat} (ht : TabAt S G a) (hn : G a 0 = .int (nI n)) {c : Nat → Nat} (hc : TabC B a n c) (hap : a + 1 ≠ 137) {k : Nat} (hk : k < n) {p : Nat → Nat} (hP : Per n p) (hp : ∀ x, x < n → B 136 x = nI (p x)) : CR 1 73 0 [some (.ref 133), some (.ref a), some (.int (nI k)), none] [] S G B J R (rwC 137 S G B J R n (fun x => nI (mkG n c (n + k) (p x)))) := by
  have hn6 := hc.1
  refine cn_ic (v := 0) d_73_0 (by decide) ?_
  refine cr_nx (pc' := 2) (al' := [some (.ref 133), some (.ref a), some (.int (nI k)), some (.int (nI 0))]) (st' := []) d_73_1 (fun _ => rfl) ?_
  refine cr_B (show B = (upr B 137 (B 137)) by rw [upr_id]) ?_
  refine cr_upw (al := fun x w_ => [some (.ref 133), some (.ref a), some (.int (nI k)), some (.int (nI x))]) (S := fun x w_ => S) (G := fun x w_ => G) (B := fun x w_ => (upr B 137 w_)) (J := fun x w_ => J) (R := fun x w_ => R) (P := fun x w_ => ∀ q, q < x → w_ q = nI (mkG n c (n + k) (p q))) (n := n) (fun x w_ hx px ihx => ?_) (fun w_ px => ?_) 0 (B 137) (by omega) (all_0)
  · show CR _ _ 2 [some (.ref 133), some (.ref a), some (.int (nI k)), some (.int (nI x))] [] S G (upr B 137 w_) J R _
    have hpx := hP.1 x hx
    refine cr_nx (pc' := 3) (al' := [some (.ref 133), some (.ref a), some (.int (nI k)), some (.int (nI x))]) (st' := [.int (nI x)]) d_73_2 (fun _ => rfl) ?_
    refine cr_nx (pc' := 4) (al' := [some (.ref 133), some (.ref a), some (.int (nI k)), some (.int (nI x))]) (st' := [.ref a, .int (nI x)]) d_73_3 (fun _ => rfl) ?_
    refine cr_gf (v := .int (nI n)) d_73_4 cw_73 cf_8_34 ht.1 ht.2.2.1 (by decide) hn ?_
    refine cn_cge (t := 33) d_73_7 (by decide) (by first | omega | assumption | exact cu_36 (by omega) (cu_lt (by omega) (by omega))) (by first | omega | assumption | exact cu_36 (by omega) (cu_lt (by omega) (by omega))) (fun c7 => ?_) (fun c7 => ?_)
    · omega
    · refine cr_nx (pc' := 11) (al' := [some (.ref 133), some (.ref a), some (.int (nI k)), some (.int (nI x))]) (st' := [.ref 133]) d_73_10 (fun _ => rfl) ?_
      refine cr_gf (v := .ref 137) d_73_11 cw_73 cf_8_22 (hS.i (a := 133) (by decide) (by decide)) (hS.s (a := 133) (by decide) (by decide) rfl) (by decide) (fx_133_4 hF) ?_
      refine cr_nx (pc' := 15) (al' := [some (.ref 133), some (.ref a), some (.int (nI k)), some (.int (nI x))]) (st' := [.int (nI x), .ref 137]) d_73_14 (fun _ => rfl) ?_
      refine cr_nx (pc' := 16) (al' := [some (.ref 133), some (.ref a), some (.int (nI k)), some (.int (nI x))]) (st' := [.ref a, .int (nI x), .ref 137]) d_73_15 (fun _ => rfl) ?_
      refine cr_nx (pc' := 17) (al' := [some (.ref 133), some (.ref a), some (.int (nI k)), some (.int (nI x))]) (st' := [.ref 133, .ref a, .int (nI x), .ref 137]) d_73_16 (fun _ => rfl) ?_
      refine cr_gf (v := .ref 136) d_73_17 cw_73 cf_8_18 (hS.i (a := 133) (by decide) (by decide)) (hS.s (a := 133) (by decide) (by decide) rfl) (by decide) (fx_133_3 hF) ?_
      refine cr_nx (pc' := 21) (al' := [some (.ref 133), some (.ref a), some (.int (nI k)), some (.int (nI x))]) (st' := [.int (nI x), .ref 136, .ref a, .int (nI x), .ref 137]) d_73_20 (fun _ => rfl) ?_
      refine cr_ia (a := 136) (v := (nI (p x))) d_73_21 (hS.i (a := 136) (by decide) (by decide)) (hS.s (a := 136) (by decide) (by decide) rfl) (by first | decide | omega) (show x < 6 by first | omega | assumption | exact cu_36 (by omega) (cu_lt (by omega) (by omega))) ((congrFun (by rw [upr_n (show (136 : Nat) ≠ 137 by decide)] : (upr B 137 w_) 136 = B 136) _).trans (hp x hx)) ?_
      refine cr_nx (pc' := 23) (al' := [some (.ref 133), some (.ref a), some (.int (nI k)), some (.int (nI x))]) (st' := [.int (nI k), .int (nI (p x)), .ref a, .int (nI x), .ref 137]) d_73_22 (fun _ => rfl) ?_
      refine cr_pv (b := a) (as := [.int (nI (p x)), .int (nI k)]) (al0 := [some (.ref a), some (.int (nI (p x))), some (.int (nI k))]) (r := [.int (nI x), .ref 137]) d_73_23 cw_73 cm_8_42 cz_91 rfl rfl ht.1 (by rw [cw_91]; exact ht.2.2.1) (by rw [cw_91]; decide) rfl (Nat.le_of_ble_eq_true rfl) (k_times ht hn (TabC.u1 (by omega) hc) (by omega) (by omega)) ?_
      show CR _ _ 26 [some (.ref 133), some (.ref a), some (.int (nI k)), some (.int (nI x))] [.int (nI (c (n * (p x) + k))), .int (nI x), .ref 137] S G (upr B 137 w_) J R _
      have b23 : c (n * (p x) + k) < n := (hc.2 _ (cu_lt (by omega) (by omega))).2
      refine cr_iS (a := 137) (B1 := (upr B 137 (upd w_ x (nI (c (n * (p x) + k)))))) d_73_26 (hS.i (a := 137) (by decide) (by decide)) (hS.s (a := 137) (by decide) (by decide) rfl) (by first | decide | omega) (show x < 6 by first | omega | assumption | exact cu_36 (by omega) (cu_lt (by omega) (by omega))) (by rw [upr_s, upr_u]) ?_
      refine cn_inc d_73_27 rfl rfl ?_
      show CR _ _ 30 [some (.ref 133), some (.ref a), some (.int (nI k)), some (.int (nI (x + 1)))] [] S G (upr B 137 (upd w_ x (nI (c (n * (p x) + k))))) J R _
      refine cr_nx (pc' := 2) (al' := [some (.ref 133), some (.ref a), some (.int (nI k)), some (.int (nI (x + 1)))]) (st' := []) d_73_30 (fun _ => rfl) ?_
      exact ihx (upd w_ x (nI (c (n * (p x) + k)))) (up_all (f := fun x => nI (mkG n c (n + k) (p x))) px (by unfold mkG; rw [if_neg (by omega), Nat.add_sub_cancel_left]))
  · show CR _ _ 2 [some (.ref 133), some (.ref a), some (.int (nI k)), some (.int (nI n))] [] S G (upr B 137 w_) J R _
    refine cr_nx (pc' := 3) (al' := [some (.ref 133), some (.ref a), some (.int (nI k)), some (.int (nI n))]) (st' := [.int (nI n)]) d_73_2 (fun _ => rfl) ?_
    refine cr_nx (pc' := 4) (al' := [some (.ref 133), some (.ref a), some (.int (nI k)), some (.int (nI n))]) (st' := [.ref a, .int (nI n)]) d_73_3 (fun _ => rfl) ?_
    refine cr_gf (v := .int (nI n)) d_73_4 cw_73 cf_8_34 ht.1 ht.2.2.1 (by decide) hn ?_
    refine cn_cge (t := 33) d_73_7 (by decide) (by first | omega | assumption | exact cu_36 (by omega) (cu_lt (by omega) (by omega))) (by first | omega | assumption | exact cu_36 (by omega) (cu_lt (by omega) (by omega))) (fun c7 => ?_) (fun c7 => ?_)
    · exact cr_rv d_73_33 cx_73 ⟨rfl, rfl, rfl, rfl, rfl, w_, rfl, px⟩
    · omega
def GrC (G : Nat → Nat → Value) (B : Nat → Nat → Int32) (l : List Nat) : Prop := G 133 8 = .int (nI l.length) ∧ (∀ j, j < l.length → B 140 j = nI (l.getD j 0)) ∧ ∀ r, r < 720 → B 139 r = nI (if r ∈ l then 1 else 0)
def adL (l : List Nat) (v : Nat) : List Nat := if v ∈ l then l else l ++ [v]
theorem GrC.ad {G G' : Nat → Nat → Value} {B B' : Nat → Nat → Int32} {l : List Nat} {v : Nat} (h : GrC G B l) (hv : v ∉ l) (hG : G' 133 8 = .int (nI (l.length + 1))) (h16 : B' 140 = upd (B 140) l.length (nI v)) (h15 : B' 139 = upd (B 139) v (nI 1)) : GrC G' B' (adL l v) := by
  unfold adL
  rw [if_neg hv]
  refine ⟨by rw [hG, List.length_append]; rfl, fun j hj => ?_, fun r hr => ?_⟩
  · rw [h16]
    rw [List.length_append] at hj
    by_cases e : j = l.length
    · subst e
      rw [pk_us, gD_end]
    · rw [pk_un e, gD_app (by simp at hj; omega)]
      exact h.2.1 j (by simp at hj; omega)
  · rw [h15]
    by_cases e : r = v
    · subst e
      rw [pk_us, if_pos (by simp)]
    · rw [pk_un e, h.2.2 r hr]
      by_cases h2 : r ∈ l
      · rw [if_pos h2, if_pos (by simp [h2])]
      · rw [if_neg h2, if_neg (by simp [h2, e])]
theorem GrC.cg {G G' : Nat → Nat → Value} {B B' : Nat → Nat → Int32} {l : List Nat} (h : GrC G B l) (hG : G' 133 8 = G 133 8) (h16 : B' 140 = B 140) (h15 : B' 139 = B 139) : GrC G' B' l := ⟨by rw [hG]; exact h.1, fun j hj => by rw [h16]; exact h.2.1 j hj, fun r hr => by rw [h15]; exact h.2.2 r hr⟩
theorem k_reach {S : CS} {G : Nat → Nat → Value} {B : Nat → Nat → Int32} {J : Nat → Nat → Int64} {R : Nat → Nat → Option Nat} (hS : ShOk S) (hF : FxG G) {n : Nat} {p : Nat → Nat} {l : List Nat} (hn6 : n ≤ 6) (hp : ∀ k, k < n → B 137 k = nI (p k)) (hP : Per n p) (hG : GrC G B l) (hb : l.length < 720 ∨ rkN n p ∈ l) : CR 2 70 0 [some (.ref 133), some (.int (nI n)), none] [] S G B J R (fun r_ S' G' B' J' R' => r_ = none ∧ S' = S ∧ J' = J ∧ R' = R ∧ FxG G' ∧ Gfr [133] G G' ∧ Bfr [139, 140] B B' ∧ GrC G' B' (adL l (rkN n p))) := by
  have hok := rk_ok hn6 hP
  have h720 := FA_720 hn6
  have hlt := hok.1
  refine cr_nx (pc' := 1) (al' := [some (.ref 133), some (.int (nI n)), none]) (st' := [.ref 133]) d_70_0 (fun _ => rfl) ?_
  refine cr_nx (pc' := 2) (al' := [some (.ref 133), some (.int (nI n)), none]) (st' := [.int (nI n), .ref 133]) d_70_1 (fun _ => rfl) ?_
  refine cr_pv (b := 133) (as := [.int (nI n)]) (al0 := [some (.ref 133), some (.int (nI n)), none, none, none, none, none]) (r := []) d_70_2 cw_70 cm_8_117 cz_71 rfl rfl (hS.i (a := 133) (by decide) (by decide)) (by rw [cw_71]; exact (hS.s (a := 133) (by decide) (by decide) rfl)) (by rw [cw_71]; decide) rfl (Nat.le_of_ble_eq_true rfl) (k_numberOfJoined hS hF hn6 hp hok hP) ?_
  show CR _ _ 5 [some (.ref 133), some (.int (nI n)), none] [.int (nI (rkN n p))] S G B J R _
  refine cr_nx (pc' := 6) (al' := [some (.ref 133), some (.int (nI n)), some (.int (nI (rkN n p)))]) (st' := []) d_70_5 (fun _ => rfl) ?_
  refine cr_nx (pc' := 7) (al' := [some (.ref 133), some (.int (nI n)), some (.int (nI (rkN n p)))]) (st' := [.ref 133]) d_70_6 (fun _ => rfl) ?_
  refine cr_gf (v := .ref 139) d_70_7 cw_70 cf_8_28 (hS.i (a := 133) (by decide) (by decide)) (hS.s (a := 133) (by decide) (by decide) rfl) (by decide) (fx_133_6 hF) ?_
  refine cr_nx (pc' := 11) (al' := [some (.ref 133), some (.int (nI n)), some (.int (nI (rkN n p)))]) (st' := [.int (nI (rkN n p)), .ref 139]) d_70_10 (fun _ => rfl) ?_
  refine cr_ia (a := 139) (v := (nI (if rkN n p ∈ l then 1 else 0))) d_70_11 (hS.i (a := 139) (by decide) (by decide)) (hS.s (a := 139) (by decide) (by decide) rfl) (by first | decide | omega) (show rkN n p < 720 by first | omega | assumption | exact cu_36 (by omega) (cu_lt (by omega) (by omega))) (hG.2.2 _ (by omega)) ?_
  refine cn_ine (t := 54) d_70_12 (by decide) (by split <;> decide) (fun c12 => ?_) (fun c12 => ?_)
  · have hin : rkN n p ∈ l := by
      by_cases e : rkN n p ∈ l
      · exact e
      · rw [if_neg e] at c12; cases c12
    exact cr_rv d_70_54 cx_70 ⟨rfl, rfl, rfl, rfl, hF, Gfr.rf, Bfr.rf, by rw [show adL l (rkN n p) = l from if_pos (by first | exact hin | exact hb.resolve_left (by omega))]; exact hG⟩
  · have hno : rkN n p ∉ l := fun e => by rw [if_pos e] at c12; cases c12
    have hll := hb.resolve_right hno
    refine cr_nx (pc' := 16) (al' := [some (.ref 133), some (.int (nI n)), some (.int (nI (rkN n p)))]) (st' := [.ref 133]) d_70_15 (fun _ => rfl) ?_
    refine cr_gf (v := .int (nI l.length)) d_70_16 cw_70 cf_8_104 (hS.i (a := 133) (by decide) (by decide)) (hS.s (a := 133) (by decide) (by decide) rfl) (by decide) hG.1 ?_
    refine cr_nx (pc' := 20) (al' := [some (.ref 133), some (.int (nI n)), some (.int (nI (rkN n p)))]) (st' := [.ref 133, .int (nI l.length)]) d_70_19 (fun _ => rfl) ?_
    refine cr_gf (v := .ref 140) d_70_20 cw_70 cf_8_31 (hS.i (a := 133) (by decide) (by decide)) (hS.s (a := 133) (by decide) (by decide) rfl) (by decide) (fx_133_7 hF) ?_
    refine cr_le d_70_23 (hS.i (a := 140) (by decide) (by decide)) (by decide) (by decide) (hS.s (a := 140) (by decide) (by decide) rfl) ?_
    refine cn_cge (t := 54) d_70_24 (by decide) (by omega) (by omega) (fun c24 => ?_) (fun c24 => ?_)
    · exact absurd c24 (by omega)
    · refine cr_nx (pc' := 28) (al' := [some (.ref 133), some (.int (nI n)), some (.int (nI (rkN n p)))]) (st' := [.ref 133]) d_70_27 (fun _ => rfl) ?_
      refine cr_gf (v := .ref 139) d_70_28 cw_70 cf_8_28 (hS.i (a := 133) (by decide) (by decide)) (hS.s (a := 133) (by decide) (by decide) rfl) (by decide) (fx_133_6 hF) ?_
      refine cr_nx (pc' := 32) (al' := [some (.ref 133), some (.int (nI n)), some (.int (nI (rkN n p)))]) (st' := [.int (nI (rkN n p)), .ref 139]) d_70_31 (fun _ => rfl) ?_
      refine cn_ic (v := 1) d_70_32 (by decide) ?_
      refine cr_iS (a := 139) (B1 := (upr B 139 (upd (B 139) (rkN n p) (nI 1)))) d_70_33 (hS.i (a := 139) (by decide) (by decide)) (hS.s (a := 139) (by decide) (by decide) rfl) (by first | decide | omega) (show rkN n p < 720 by first | omega | assumption | exact cu_36 (by omega) (cu_lt (by omega) (by omega))) rfl ?_
      refine cr_nx (pc' := 35) (al' := [some (.ref 133), some (.int (nI n)), some (.int (nI (rkN n p)))]) (st' := [.ref 133]) d_70_34 (fun _ => rfl) ?_
      refine cr_gf (v := .ref 140) d_70_35 cw_70 cf_8_31 (hS.i (a := 133) (by decide) (by decide)) (hS.s (a := 133) (by decide) (by decide) rfl) (by decide) (fx_133_7 hF) ?_
      refine cr_nx (pc' := 39) (al' := [some (.ref 133), some (.int (nI n)), some (.int (nI (rkN n p)))]) (st' := [.ref 133, .ref 140]) d_70_38 (fun _ => rfl) ?_
      refine cr_gf (v := .int (nI l.length)) d_70_39 cw_70 cf_8_104 (hS.i (a := 133) (by decide) (by decide)) (hS.s (a := 133) (by decide) (by decide) rfl) (by decide) hG.1 ?_
      refine cr_nx (pc' := 43) (al' := [some (.ref 133), some (.int (nI n)), some (.int (nI (rkN n p)))]) (st' := [.int (nI (rkN n p)), .int (nI l.length), .ref 140]) d_70_42 (fun _ => rfl) ?_
      refine cr_iS (a := 140) (B1 := (upr (upr B 139 (upd (B 139) (rkN n p) (nI 1))) 140 (upd (B 140) l.length (nI (rkN n p))))) d_70_43 (hS.i (a := 140) (by decide) (by decide)) (hS.s (a := 140) (by decide) (by decide) rfl) (by first | decide | omega) (show l.length < 720 by first | omega | assumption | exact cu_36 (by omega) (cu_lt (by omega) (by omega))) (by rw [show (upr B 139 (upd (B 139) (rkN n p) (nI 1))) 140 = B 140 from by rw [upr_n (show (140 : Nat) ≠ 139 by decide)]]) ?_
      refine cr_nx (pc' := 45) (al' := [some (.ref 133), some (.int (nI n)), some (.int (nI (rkN n p)))]) (st' := [.ref 133]) d_70_44 (fun _ => rfl) ?_
      refine cr_nx (pc' := 46) (al' := [some (.ref 133), some (.int (nI n)), some (.int (nI (rkN n p)))]) (st' := [.ref 133, .ref 133]) d_70_45 (fun _ => rfl) ?_
      refine cr_gf (v := .int (nI l.length)) d_70_46 cw_70 cf_8_104 (hS.i (a := 133) (by decide) (by decide)) (hS.s (a := 133) (by decide) (by decide) rfl) (by decide) hG.1 ?_
      refine cn_ic (v := 1) d_70_49 (by decide) ?_
      refine cn_add d_70_50  ?_
      refine cp_8_8  d_70_51 cw_70 cf_8_104 (hS.i (a := 133) (by decide) (by decide)) (hS.s (a := 133) (by decide) (by decide) rfl) (by decide) ?_
      exact cr_rv d_70_54 cx_70 ⟨rfl, rfl, rfl, rfl, hF.up (by decide +kernel), Gfr.rf.u (by decide), (Bfr.rf.u (by decide)).u (by decide), hG.ad hno up2_s upr_s (by rw [upr_n (by decide), upr_s])⟩
theorem Bf_ad {n : Nat} {c : Nat → Nat} {lo hi i k : Nat} {l : List Nat} (hn : n ≤ 6) (hl : Lat n c) (h : BfI n c lo hi i l) (hil : i < l.length) (hk1 : lo ≤ k) (hk2 : k < hi) (hk3 : k < 2 * n) : BfI n c lo hi i (adL l (scN n c (l.getD i 0) k)) ∧ (adL l (scN n c (l.getD i 0) k)).getD i 0 = l.getD i 0 ∧ i < (adL l (scN n c (l.getD i 0) k)).length ∧ (∀ v, v ∈ l → v ∈ adL l (scN n c (l.getD i 0) k)) ∧ scN n c (l.getD i 0) k ∈ adL l (scN n c (l.getD i 0) k) := by
  unfold adL
  by_cases hv : scN n c (l.getD i 0) k ∈ l
  · rw [if_pos hv]
    exact ⟨h, rfl, hil, fun v e => e, hv⟩
  · rw [if_neg hv]
    exact ⟨Bf_add hn hl h hil hk1 hk2 hk3 rfl hv, gD_app hil, by rw [List.length_append]; omega, fun v e => List.mem_append_left _ e, List.mem_append_right _ (List.mem_singleton.mpr rfl)⟩
theorem Bf_720 {n : Nat} {c : Nat → Nat} {lo hi i v : Nat} {l : List Nat} (hn : n ≤ 6) (h : BfI n c lo hi i l) (hv : v < FA n) : l.length < 720 ∨ v ∈ l := by
  by_cases e : v ∈ l
  · exact Or.inr e
  · left
    have h1 : (l ++ [v]).Nodup := by
      rw [List.nodup_append]
      exact ⟨h.1, List.nodup_cons.mpr ⟨List.not_mem_nil, List.nodup_nil⟩, fun x hx y hy q => by
        rw [List.mem_singleton.mp hy] at q
        exact e (q ▸ hx)⟩
    have := List.Nodup.length_le_of_subset h1 (l₂ := List.range (FA n)) (fun w hw => by
      rcases List.mem_append.mp hw with q | q
      · exact List.mem_range.mpr (h.2.1 w q)
      · rw [List.mem_singleton.mp q]
        exact List.mem_range.mpr hv)
    rw [List.length_range, List.length_append] at this
    have := FA_720 hn
    simp at *
    omega
theorem rk_id {n : Nat} (hn : n ≤ 6) : rkN n (fun x => x) = 0 := by
  have : ∀ n, n < 7 → rkN n (fun x => x) = 0 := by decide +kernel
  exact this n (by omega)
theorem k_madeBy0 {S : CS} {G : Nat → Nat → Value} {B : Nat → Nat → Int32} {J : Nat → Nat → Int64} {R : Nat → Nat → Option Nat} (hS : ShOk S) (hF : FxG G) {a n : Nat} (ht : TabAt S G a) (hn : G a 0 = .int (nI n)) {c : Nat → Nat} (hc : TabC B a n c) (hl : Lat n c) (hn1 : 1 ≤ n) (hap : a < 133 ∨ 140 ≤ a) : CR 3 69 0 [some (.ref 133), some (.ref a), some (.int (nI 1)), some (.int (nI 0)), none, none, none] [] S G B J R (fun r_ S' G' B' J' R' => S' = S ∧ J' = J ∧ R' = R ∧ FxG G' ∧ Gfr [133] G G' ∧ Bfr [136, 137, 139, 140] B B' ∧ ∃ l i, BfI n c 0 (n) i l ∧ l.length ≤ i ∧ r_ = some (.int (nI l.length))) := by
  have hn6 := hc.1
  have h720 := FA_720 hn6
  refine cr_nx (pc' := 1) (al' := [some (.ref 133), some (.ref a), some (.int (nI 1)), some (.int (nI 0)), none, none, none]) (st' := [.ref a]) d_69_0 (fun _ => rfl) ?_
  refine cr_gf (v := .int (nI n)) d_69_1 cw_69 cf_8_34 ht.1 ht.2.2.1 (by decide) hn ?_
  refine cr_nx (pc' := 6) (al' := [some (.ref 133), some (.ref a), some (.int (nI 1)), some (.int (nI 0)), some (.int (nI n)), none, none]) (st' := []) d_69_4 (fun _ => rfl) ?_
  refine cr_nx (pc' := 7) (al' := [some (.ref 133), some (.ref a), some (.int (nI 1)), some (.int (nI 0)), some (.int (nI n)), none, none]) (st' := [.ref 133]) d_69_6 (fun _ => rfl) ?_
  refine cr_gf (v := .ref 139) d_69_7 cw_69 cf_8_28 (hS.i (a := 133) (by decide) (by decide)) (hS.s (a := 133) (by decide) (by decide) rfl) (by decide) (fx_133_6 hF) ?_
  refine cn_ic (v := 0) d_69_10 (by decide) ?_
  refine cr_cs (as := [.ref 139, .int (nI 0)]) (al0 := [some (.ref 139), some (.int (nI 0)), none, none]) (r := []) d_69_11 cw_69 cm_8_98 (by decide) cz_293 rfl rfl rfl (cr_wk (Nat.le_of_ble_eq_true rfl) (k_fill (hS.i (a := 139) (by decide) (by decide)) (hS.s (a := 139) (by decide) (by decide) rfl) (by decide) _)) (fun v1 S1 G1 B1 J1 R1 h1 => ?_)
  obtain ⟨q0_, q1_, q2_, q3_, q4_, w11, q9_, hw11⟩ := h1
  obtain rfl := q0_
  obtain rfl := q1_.symm
  obtain rfl := q2_.symm
  obtain rfl := q3_.symm
  obtain rfl := q4_.symm
  obtain rfl := q9_
  show CR _ _ 14 [some (.ref 133), some (.ref a), some (.int (nI 1)), some (.int (nI 0)), some (.int (nI n)), none, none] [] S G (upr B 139 w11) J R _
  refine cr_nx (pc' := 15) (al' := [some (.ref 133), some (.ref a), some (.int (nI 1)), some (.int (nI 0)), some (.int (nI n)), none, none]) (st' := [.ref 133]) d_69_14 (fun _ => rfl) ?_
  refine cn_ic (v := 0) d_69_15 (by decide) ?_
  refine cp_8_8  d_69_16 cw_69 cf_8_104 (hS.i (a := 133) (by decide) (by decide)) (hS.s (a := 133) (by decide) (by decide) rfl) (by decide) ?_
  refine cr_nx (pc' := 20) (al' := [some (.ref 133), some (.ref a), some (.int (nI 1)), some (.int (nI 0)), some (.int (nI n)), none, none]) (st' := [.ref 133]) d_69_19 (fun _ => rfl) ?_
  refine cr_gf (v := .ref 137) d_69_20 cw_69 cf_8_22 (hS.i (a := 133) (by decide) (by decide)) (hS.s (a := 133) (by decide) (by decide) rfl) (by decide) (by simp [up2]; exact (fx_133_4 hF)) ?_
  refine cr_cs (as := [.ref 137]) (al0 := [some (.ref 137), none]) (r := []) d_69_23 cw_69 cm_8_50 (by decide) cz_154 rfl rfl rfl (cr_wk (Nat.le_of_ble_eq_true rfl) (k_startPermutation (hS.i (a := 137) (by decide) (by decide)) (hS.s (a := 137) (by decide) (by decide) rfl) (by decide))) (fun v1 S1 G1 B1 J1 R1 h1 => ?_)
  obtain ⟨q0_, q1_, q2_, q3_, q4_, w23, q9_, hw23⟩ := h1
  obtain rfl := q0_
  obtain rfl := q1_.symm
  obtain rfl := q2_.symm
  obtain rfl := q3_.symm
  obtain rfl := q4_.symm
  obtain rfl := q9_
  show CR _ _ 26 [some (.ref 133), some (.ref a), some (.int (nI 1)), some (.int (nI 0)), some (.int (nI n)), none, none] [] S (up2 G 133 8 (.int (nI 0))) (upr (upr B 139 w11) 137 w23) J R _
  refine cr_nx (pc' := 27) (al' := [some (.ref 133), some (.ref a), some (.int (nI 1)), some (.int (nI 0)), some (.int (nI n)), none, none]) (st' := [.ref 133]) d_69_26 (fun _ => rfl) ?_
  refine cr_nx (pc' := 29) (al' := [some (.ref 133), some (.ref a), some (.int (nI 1)), some (.int (nI 0)), some (.int (nI n)), none, none]) (st' := [.int (nI n), .ref 133]) d_69_27 (fun _ => rfl) ?_
  refine cr_cv (b := 133) (as := [.int (nI n)]) (al0 := [some (.ref 133), some (.int (nI n)), none]) (r := []) d_69_29 cw_69 cm_8_107 cz_70 rfl rfl (hS.i (a := 133) (by decide) (by decide)) (by rw [cw_70]; exact (hS.s (a := 133) (by decide) (by decide) rfl)) (by rw [cw_70]; decide) rfl (cr_wk (Nat.le_of_ble_eq_true rfl) (k_reach (l := []) (p := fun x => x) hS (hF.up (by decide +kernel)) hn6 (fun k hk => by rw [upr_s]; exact hw23 k (by omega)) ⟨fun k hk => hk, fun i j _ _ e => e⟩ ⟨up2_s, fun j hj => absurd hj (Nat.not_lt_zero j), fun r hr => by rw [upr_n (by decide), upr_s]; exact hw11 r hr⟩ (Or.inl (by decide)))) (fun v1 S1 G29 B29 J1 R1 h1 => ?_)
  obtain ⟨q0_, q1_, q2_, q3_, fx29, gf29, bf29, gr29⟩ := h1
  obtain rfl := q0_
  obtain rfl := q1_.symm
  obtain rfl := q2_.symm
  obtain rfl := q3_.symm
  rw [show adL [] (rkN n (fun x => x)) = [0] by rw [show rkN n (fun x => x) = 0 from rk_id hn6]; rfl] at gr29
  show CR _ _ 32 [some (.ref 133), some (.ref a), some (.int (nI 1)), some (.int (nI 0)), some (.int (nI n)), none, none] [] S G29 B29 J R _
  refine cn_ic (v := 0) d_69_32 (by decide) ?_
  refine cr_nx (pc' := 35) (al' := [some (.ref 133), some (.ref a), some (.int (nI 1)), some (.int (nI 0)), some (.int (nI n)), some (.int (nI 0)), none]) (st' := []) d_69_33 (fun _ => rfl) ?_
  refine cr_upw (al := fun i w_ => [some (.ref 133), some (.ref a), some (.int (nI 1)), some (.int (nI 0)), some (.int (nI n)), some (.int (nI i)), none]) (S := fun i w_ => S) (G := fun i w_ => w_.2.1) (B := fun i w_ => w_.2.2) (J := fun i w_ => J) (R := fun i w_ => R) (P := fun i w_ => BfI n c 0 (n) i w_.1 ∧ FxG w_.2.1 ∧ Gfr [133] G w_.2.1 ∧ Bfr [136, 137, 139, 140] B w_.2.2 ∧ GrC w_.2.1 w_.2.2 w_.1) (n := FA n) (fun i w_ hi pi ihi => ?_) (fun w_ pi => ?_) 0 ([0], G29, B29) (by omega) (⟨Bf_0, fx29, (Gfr.rf.u (by decide)).tr gf29, ((Bfr.rf.u (by decide)).u (by decide)).tr (bf29.mo (by decide)), gr29⟩)
  · show CR _ _ 35 [some (.ref 133), some (.ref a), some (.int (nI 1)), some (.int (nI 0)), some (.int (nI n)), some (.int (nI i)), none] [] S w_.2.1 w_.2.2 J R _
    have hlen := Bf_len pi.1
    refine cr_nx (pc' := 37) (al' := [some (.ref 133), some (.ref a), some (.int (nI 1)), some (.int (nI 0)), some (.int (nI n)), some (.int (nI i)), none]) (st' := [.int (nI i)]) d_69_35 (fun _ => rfl) ?_
    refine cr_nx (pc' := 38) (al' := [some (.ref 133), some (.ref a), some (.int (nI 1)), some (.int (nI 0)), some (.int (nI n)), some (.int (nI i)), none]) (st' := [.ref 133, .int (nI i)]) d_69_37 (fun _ => rfl) ?_
    refine cr_gf (v := .ref 140) d_69_38 cw_69 cf_8_31 (hS.i (a := 133) (by decide) (by decide)) (hS.s (a := 133) (by decide) (by decide) rfl) (by decide) (fx_133_7 pi.2.1) ?_
    refine cr_le d_69_41 (hS.i (a := 140) (by decide) (by decide)) (by decide) (by decide) (hS.s (a := 140) (by decide) (by decide) rfl) ?_
    refine cn_cge (t := 123) d_69_42 (by decide) (by first | omega | assumption | exact cu_36 (by omega) (cu_lt (by omega) (by omega))) (by first | omega | assumption | exact cu_36 (by omega) (cu_lt (by omega) (by omega))) (fun c42 => ?_) (fun c42 => ?_)
    · exact absurd c42 (by omega)
    · refine cr_nx (pc' := 47) (al' := [some (.ref 133), some (.ref a), some (.int (nI 1)), some (.int (nI 0)), some (.int (nI n)), some (.int (nI i)), none]) (st' := [.int (nI i)]) d_69_45 (fun _ => rfl) ?_
      refine cr_nx (pc' := 48) (al' := [some (.ref 133), some (.ref a), some (.int (nI 1)), some (.int (nI 0)), some (.int (nI n)), some (.int (nI i)), none]) (st' := [.ref 133, .int (nI i)]) d_69_47 (fun _ => rfl) ?_
      refine cr_gf (v := .int (nI w_.1.length)) d_69_48 cw_69 cf_8_104 (hS.i (a := 133) (by decide) (by decide)) (hS.s (a := 133) (by decide) (by decide) rfl) (by decide) pi.2.2.2.2.1 ?_
      refine cn_cge (t := 123) d_69_51 (by decide) (by first | omega | assumption | exact cu_36 (by omega) (cu_lt (by omega) (by omega))) (by first | omega | assumption | exact cu_36 (by omega) (cu_lt (by omega) (by omega))) (fun c51 => ?_) (fun c51 => ?_)
      · refine cr_nx (pc' := 124) (al' := [some (.ref 133), some (.ref a), some (.int (nI 1)), some (.int (nI 0)), some (.int (nI n)), some (.int (nI i)), none]) (st' := [.ref 133]) d_69_123 (fun _ => rfl) ?_
        refine cr_gf (v := .int (nI w_.1.length)) d_69_124 cw_69 cf_8_104 (hS.i (a := 133) (by decide) (by decide)) (hS.s (a := 133) (by decide) (by decide) rfl) (by decide) pi.2.2.2.2.1 ?_
        exact cr_ri d_69_127 cx_69 rfl ⟨rfl, rfl, rfl, pi.2.1, pi.2.2.1, pi.2.2.2.1, w_.1, i, pi.1, by omega, rfl⟩
      · obtain ⟨r, hr⟩ : ∃ r, w_.1.getD i 0 = r := ⟨_, rfl⟩
        have hrF : r < FA n := by rw [← hr]; exact pi.1.2.1 _ (gD_mem c51)
        refine cr_nx (pc' := 55) (al' := [some (.ref 133), some (.ref a), some (.int (nI 1)), some (.int (nI 0)), some (.int (nI n)), some (.int (nI i)), none]) (st' := [.ref 133]) d_69_54 (fun _ => rfl) ?_
        refine cr_nx (pc' := 56) (al' := [some (.ref 133), some (.ref a), some (.int (nI 1)), some (.int (nI 0)), some (.int (nI n)), some (.int (nI i)), none]) (st' := [.ref 133, .ref 133]) d_69_55 (fun _ => rfl) ?_
        refine cr_gf (v := .ref 140) d_69_56 cw_69 cf_8_31 (hS.i (a := 133) (by decide) (by decide)) (hS.s (a := 133) (by decide) (by decide) rfl) (by decide) (fx_133_7 pi.2.1) ?_
        refine cr_nx (pc' := 61) (al' := [some (.ref 133), some (.ref a), some (.int (nI 1)), some (.int (nI 0)), some (.int (nI n)), some (.int (nI i)), none]) (st' := [.int (nI i), .ref 140, .ref 133]) d_69_59 (fun _ => rfl) ?_
        refine cr_ia (a := 140) (v := (nI r)) d_69_61 (hS.i (a := 140) (by decide) (by decide)) (hS.s (a := 140) (by decide) (by decide) rfl) (by first | decide | omega) (show i < 720 by first | omega | assumption | exact cu_36 (by omega) (cu_lt (by omega) (by omega))) (by rw [pi.2.2.2.2.2.1 i c51, hr]) ?_
        refine cr_nx (pc' := 64) (al' := [some (.ref 133), some (.ref a), some (.int (nI 1)), some (.int (nI 0)), some (.int (nI n)), some (.int (nI i)), none]) (st' := [.int (nI n), .int (nI r), .ref 133]) d_69_62 (fun _ => rfl) ?_
        refine cr_cv (b := 133) (as := [.int (nI r), .int (nI n)]) (al0 := [some (.ref 133), some (.int (nI r)), some (.int (nI n)), none, none, none]) (r := []) d_69_64 cw_69 cm_8_38 cz_68 rfl rfl (hS.i (a := 133) (by decide) (by decide)) (by rw [cw_68]; exact (hS.s (a := 133) (by decide) (by decide) rfl)) (by rw [cw_68]; decide) rfl (cr_wk (Nat.le_of_ble_eq_true rfl) (k_setNumbered hS pi.2.1 (by omega) hn6 hrF)) (fun v1 S1 G1 B1 J1 R1 h1 => ?_)
        obtain ⟨q0_, q1_, q2_, q3_, q4_, w64, q9_, hw64⟩ := h1
        obtain rfl := q0_
        obtain rfl := q1_.symm
        obtain rfl := q2_.symm
        obtain rfl := q3_.symm
        obtain rfl := q4_.symm
        obtain rfl := q9_
        show CR _ _ 67 [some (.ref 133), some (.ref a), some (.int (nI 1)), some (.int (nI 0)), some (.int (nI n)), some (.int (nI i)), none] [] S w_.2.1 (upr w_.2.2 136 w64) J R _
        refine cn_ic (v := 0) d_69_67 (by decide) ?_
        refine cr_nx (pc' := 70) (al' := [some (.ref 133), some (.ref a), some (.int (nI 1)), some (.int (nI 0)), some (.int (nI n)), some (.int (nI i)), some (.int (nI 0))]) (st' := []) d_69_68 (fun _ => rfl) ?_
        refine cr_upw (al := fun k w2 => [some (.ref 133), some (.ref a), some (.int (nI 1)), some (.int (nI 0)), some (.int (nI n)), some (.int (nI i)), some (.int (nI k))]) (S := fun k w2 => S) (G := fun k w2 => w2.2.1) (B := fun k w2 => w2.2.2) (J := fun k w2 => J) (R := fun k w2 => R) (P := fun k w2 => BfI n c 0 (n) i w2.1 ∧ FxG w2.2.1 ∧ Gfr [133] G w2.2.1 ∧ Bfr [136, 137, 139, 140] B w2.2.2 ∧ GrC w2.2.1 w2.2.2 w2.1 ∧ i < w2.1.length ∧ w2.1.getD i 0 = r ∧ (∀ q, q < n → w2.2.2 136 q = nI (pmE n r q)) ∧ (∀ z, z < k → scN n c r z ∈ w2.1)) (n := n) (fun k w2 hk pk ihk => ?_) (fun w2 pk => ?_) 0 (w_.1, w_.2.1, (upr w_.2.2 136 w64)) (by omega) (⟨pi.1, pi.2.1, pi.2.2.1, pi.2.2.2.1.u (by decide), pi.2.2.2.2.cg rfl rfl rfl, c51, hr, fun q hq => by dsimp only; rw [upr_s]; exact hw64 q hq, all_0⟩)
        · show CR _ _ 70 [some (.ref 133), some (.ref a), some (.int (nI 1)), some (.int (nI 0)), some (.int (nI n)), some (.int (nI i)), some (.int (nI k))] [] S w2.2.1 w2.2.2 J R _
          have hlen := Bf_len pk.1
          have h2n : k < 2 * n ∧ n + k < 2 * n := by omega
          refine cr_nx (pc' := 72) (al' := [some (.ref 133), some (.ref a), some (.int (nI 1)), some (.int (nI 0)), some (.int (nI n)), some (.int (nI i)), some (.int (nI k))]) (st' := [.int (nI k)]) d_69_70 (fun _ => rfl) ?_
          refine cr_nx (pc' := 74) (al' := [some (.ref 133), some (.ref a), some (.int (nI 1)), some (.int (nI 0)), some (.int (nI n)), some (.int (nI i)), some (.int (nI k))]) (st' := [.int (nI n), .int (nI k)]) d_69_72 (fun _ => rfl) ?_
          refine cn_cge (t := 117) d_69_74 (by decide) (by first | omega | assumption | exact cu_36 (by omega) (cu_lt (by omega) (by omega))) (by first | omega | assumption | exact cu_36 (by omega) (cu_lt (by omega) (by omega))) (fun c74 => ?_) (fun c74 => ?_)
          · omega
          · refine cr_nx (pc' := 78) (al' := [some (.ref 133), some (.ref a), some (.int (nI 1)), some (.int (nI 0)), some (.int (nI n)), some (.int (nI i)), some (.int (nI k))]) (st' := [.int (nI 1)]) d_69_77 (fun _ => rfl) ?_
            refine cn_ieq (t := 94) d_69_78 (by decide) (by first | omega | assumption | exact cu_36 (by omega) (cu_lt (by omega) (by omega))) (fun c78 => ?_) (fun c78 => ?_)
            · omega
            · refine cr_nx (pc' := 82) (al' := [some (.ref 133), some (.ref a), some (.int (nI 1)), some (.int (nI 0)), some (.int (nI n)), some (.int (nI i)), some (.int (nI k))]) (st' := [.ref 133]) d_69_81 (fun _ => rfl) ?_
              refine cr_nx (pc' := 83) (al' := [some (.ref 133), some (.ref a), some (.int (nI 1)), some (.int (nI 0)), some (.int (nI n)), some (.int (nI i)), some (.int (nI k))]) (st' := [.ref a, .ref 133]) d_69_82 (fun _ => rfl) ?_
              refine cr_nx (pc' := 85) (al' := [some (.ref 133), some (.ref a), some (.int (nI 1)), some (.int (nI 0)), some (.int (nI n)), some (.int (nI i)), some (.int (nI k))]) (st' := [.int (nI k), .ref a, .ref 133]) d_69_83 (fun _ => rfl) ?_
              refine cr_cv (b := 133) (as := [.ref a, .int (nI k)]) (al0 := [some (.ref 133), some (.ref a), some (.int (nI k)), none]) (r := []) d_69_85 cw_69 cm_8_110 cz_72 rfl rfl (hS.i (a := 133) (by decide) (by decide)) (by rw [cw_72]; exact (hS.s (a := 133) (by decide) (by decide) rfl)) (by rw [cw_72]; decide) rfl (cr_wk (Nat.le_of_ble_eq_true rfl) (k_joinRow hS pk.2.1 (by first | exact ht | exact pi.2.2.1.t (by simp; omega) ht | exact pk.2.2.1.t (by simp; omega) ht | exact (pk.2.2.1.tr gf91).t (by simp; omega) ht) (by first | exact hn | (rw [pk.2.2.1 a (by simp; omega)]; exact hn) | (rw [gf91 a (by simp; omega), pk.2.2.1 a (by simp; omega)]; exact hn)) (by first | exact hc | exact pk.2.2.2.1.c (by simp; omega) hc | exact ((pk.2.2.2.1.u (by decide)).tr (bf91.mo (by decide))).c (by simp; omega) hc) (by omega) (by omega) (pm_per hn6 hrF) pk.2.2.2.2.2.2.2.1)) (fun v1 S1 G1 B1 J1 R1 h1 => ?_)
              obtain ⟨q0_, q1_, q2_, q3_, q4_, w85, q9_, hw85⟩ := h1
              obtain rfl := q0_
              obtain rfl := q1_.symm
              obtain rfl := q2_.symm
              obtain rfl := q3_.symm
              obtain rfl := q4_.symm
              obtain rfl := q9_
              show CR _ _ 88 [some (.ref 133), some (.ref a), some (.int (nI 1)), some (.int (nI 0)), some (.int (nI n)), some (.int (nI i)), some (.int (nI k))] [] S w2.2.1 (upr w2.2.2 137 w85) J R _
              refine cr_nx (pc' := 89) (al' := [some (.ref 133), some (.ref a), some (.int (nI 1)), some (.int (nI 0)), some (.int (nI n)), some (.int (nI i)), some (.int (nI k))]) (st' := [.ref 133]) d_69_88 (fun _ => rfl) ?_
              refine cr_nx (pc' := 91) (al' := [some (.ref 133), some (.ref a), some (.int (nI 1)), some (.int (nI 0)), some (.int (nI n)), some (.int (nI i)), some (.int (nI k))]) (st' := [.int (nI n), .ref 133]) d_69_89 (fun _ => rfl) ?_
              have hsc91 := sc_ok (k := k) hn6 hl hrF (by omega)
              refine cr_cv (b := 133) (as := [.int (nI n)]) (al0 := [some (.ref 133), some (.int (nI n)), none]) (r := []) d_69_91 cw_69 cm_8_107 cz_70 rfl rfl (hS.i (a := 133) (by decide) (by decide)) (by rw [cw_70]; exact (hS.s (a := 133) (by decide) (by decide) rfl)) (by rw [cw_70]; decide) rfl (cr_wk (Nat.le_of_ble_eq_true rfl) (k_reach (l := w2.1) (p := fun x => mkG n c k (pmE n r x)) hS pk.2.1 hn6 (fun q hq => by rw [upr_s]; exact hw85 q hq) (sc_per hn6 hl hrF (by omega)) (GrC.cg pk.2.2.2.2.1 rfl rfl rfl) (Bf_720 hn6 pk.1 hsc91.1))) (fun v1 S1 G91 B91 J1 R1 h1 => ?_)
              obtain ⟨q0_, q1_, q2_, q3_, fx91, gf91, bf91, gr91⟩ := h1
              obtain rfl := q0_
              obtain rfl := q1_.symm
              obtain rfl := q2_.symm
              obtain rfl := q3_.symm
              have hb91b := Bf_ad (k := k) hn6 hl pk.1 pk.2.2.2.2.2.1 (by omega) (by omega) (by omega)
              rw [pk.2.2.2.2.2.2.1] at hb91b
              have hb91 := hb91b.1
              have hr91 := hb91b.2.1
              show CR _ _ 94 [some (.ref 133), some (.ref a), some (.int (nI 1)), some (.int (nI 0)), some (.int (nI n)), some (.int (nI i)), some (.int (nI k))] [] S G91 B91 J R _
              refine cr_nx (pc' := 95) (al' := [some (.ref 133), some (.ref a), some (.int (nI 1)), some (.int (nI 0)), some (.int (nI n)), some (.int (nI i)), some (.int (nI k))]) (st' := [.int (nI 0)]) d_69_94 (fun _ => rfl) ?_
              refine cn_ieq (t := 111) d_69_95 (by decide) (by first | omega | assumption | exact cu_36 (by omega) (cu_lt (by omega) (by omega))) (fun c95 => ?_) (fun c95 => ?_)
              · refine cn_inc d_69_111 rfl rfl ?_
                show CR _ _ 114 [some (.ref 133), some (.ref a), some (.int (nI 1)), some (.int (nI 0)), some (.int (nI n)), some (.int (nI i)), some (.int (nI (k + 1)))] [] S G91 B91 J R _
                refine cr_nx (pc' := 70) (al' := [some (.ref 133), some (.ref a), some (.int (nI 1)), some (.int (nI 0)), some (.int (nI n)), some (.int (nI i)), some (.int (nI (k + 1)))]) (st' := []) d_69_114 (fun _ => rfl) ?_
                exact ihk ((adL w2.1 (scN n c r k)), G91, B91) (⟨hb91, fx91, pk.2.2.1.tr gf91, (pk.2.2.2.1.u (by decide)).tr (bf91.mo (by decide)), gr91, hb91b.2.2.1, hr91, fun q hq => by dsimp only; rw [bf91 136 (by decide), upr_n (by decide)]; exact pk.2.2.2.2.2.2.2.1 q hq, fun z hz => (Nat.lt_succ_iff_lt_or_eq.mp hz).elim (fun e => hb91b.2.2.2.1 _ (pk.2.2.2.2.2.2.2.2 z e)) (fun e => by rw [e]; exact hb91b.2.2.2.2)⟩)
              · omega
        · show CR _ _ 70 [some (.ref 133), some (.ref a), some (.int (nI 1)), some (.int (nI 0)), some (.int (nI n)), some (.int (nI i)), some (.int (nI n))] [] S w2.2.1 w2.2.2 J R _
          refine cr_nx (pc' := 72) (al' := [some (.ref 133), some (.ref a), some (.int (nI 1)), some (.int (nI 0)), some (.int (nI n)), some (.int (nI i)), some (.int (nI n))]) (st' := [.int (nI n)]) d_69_70 (fun _ => rfl) ?_
          refine cr_nx (pc' := 74) (al' := [some (.ref 133), some (.ref a), some (.int (nI 1)), some (.int (nI 0)), some (.int (nI n)), some (.int (nI i)), some (.int (nI n))]) (st' := [.int (nI n), .int (nI n)]) d_69_72 (fun _ => rfl) ?_
          refine cn_cge (t := 117) d_69_74 (by decide) (by first | omega | assumption | exact cu_36 (by omega) (cu_lt (by omega) (by omega))) (by first | omega | assumption | exact cu_36 (by omega) (cu_lt (by omega) (by omega))) (fun c74 => ?_) (fun c74 => ?_)
          · refine cn_inc d_69_117 rfl rfl ?_
            show CR _ _ 120 [some (.ref 133), some (.ref a), some (.int (nI 1)), some (.int (nI 0)), some (.int (nI n)), some (.int (nI (i + 1))), some (.int (nI n))] [] S w2.2.1 w2.2.2 J R _
            refine cr_nx (pc' := 35) (al' := [some (.ref 133), some (.ref a), some (.int (nI 1)), some (.int (nI 0)), some (.int (nI n)), some (.int (nI (i + 1))), some (.int (nI n))]) (st' := []) d_69_120 (fun _ => rfl) ?_
            refine cr_dr (al1 := [some (.ref 133), some (.ref a), some (.int (nI 1)), some (.int (nI 0)), some (.int (nI n)), some (.int (nI (i + 1))), none]) (le_s (le_s (le_s (le_s (le_s (le_s (le_d rfl (le_n)))))))) ?_
            exact ihi w2 (⟨Bf_nx pk.1 pk.2.2.2.2.2.1 (by rw [pk.2.2.2.2.2.2.1]; exact fun k h1 h2 => pk.2.2.2.2.2.2.2.2 k h2), pk.2.1, pk.2.2.1, pk.2.2.2.1, pk.2.2.2.2.1⟩)
          · omega
  · show CR _ _ 35 [some (.ref 133), some (.ref a), some (.int (nI 1)), some (.int (nI 0)), some (.int (nI n)), some (.int (nI (FA n))), none] [] S w_.2.1 w_.2.2 J R _
    have hlen := Bf_len pi.1
    refine cr_nx (pc' := 37) (al' := [some (.ref 133), some (.ref a), some (.int (nI 1)), some (.int (nI 0)), some (.int (nI n)), some (.int (nI (FA n))), none]) (st' := [.int (nI (FA n))]) d_69_35 (fun _ => rfl) ?_
    refine cr_nx (pc' := 38) (al' := [some (.ref 133), some (.ref a), some (.int (nI 1)), some (.int (nI 0)), some (.int (nI n)), some (.int (nI (FA n))), none]) (st' := [.ref 133, .int (nI (FA n))]) d_69_37 (fun _ => rfl) ?_
    refine cr_gf (v := .ref 140) d_69_38 cw_69 cf_8_31 (hS.i (a := 133) (by decide) (by decide)) (hS.s (a := 133) (by decide) (by decide) rfl) (by decide) (fx_133_7 pi.2.1) ?_
    refine cr_le d_69_41 (hS.i (a := 140) (by decide) (by decide)) (by decide) (by decide) (hS.s (a := 140) (by decide) (by decide) rfl) ?_
    refine cn_cge (t := 123) d_69_42 (by decide) (by first | omega | assumption | exact cu_36 (by omega) (cu_lt (by omega) (by omega))) (by first | omega | assumption | exact cu_36 (by omega) (cu_lt (by omega) (by omega))) (fun c42 => ?_) (fun c42 => ?_)
    · refine cr_nx (pc' := 124) (al' := [some (.ref 133), some (.ref a), some (.int (nI 1)), some (.int (nI 0)), some (.int (nI n)), some (.int (nI (FA n))), none]) (st' := [.ref 133]) d_69_123 (fun _ => rfl) ?_
      refine cr_gf (v := .int (nI w_.1.length)) d_69_124 cw_69 cf_8_104 (hS.i (a := 133) (by decide) (by decide)) (hS.s (a := 133) (by decide) (by decide) rfl) (by decide) pi.2.2.2.2.1 ?_
      exact cr_ri d_69_127 cx_69 rfl ⟨rfl, rfl, rfl, pi.2.1, pi.2.2.1, pi.2.2.2.1, w_.1, FA n, pi.1, by omega, rfl⟩
    · refine cr_nx (pc' := 47) (al' := [some (.ref 133), some (.ref a), some (.int (nI 1)), some (.int (nI 0)), some (.int (nI n)), some (.int (nI (FA n))), none]) (st' := [.int (nI (FA n))]) d_69_45 (fun _ => rfl) ?_
      refine cr_nx (pc' := 48) (al' := [some (.ref 133), some (.ref a), some (.int (nI 1)), some (.int (nI 0)), some (.int (nI n)), some (.int (nI (FA n))), none]) (st' := [.ref 133, .int (nI (FA n))]) d_69_47 (fun _ => rfl) ?_
      refine cr_gf (v := .int (nI w_.1.length)) d_69_48 cw_69 cf_8_104 (hS.i (a := 133) (by decide) (by decide)) (hS.s (a := 133) (by decide) (by decide) rfl) (by decide) pi.2.2.2.2.1 ?_
      refine cn_cge (t := 123) d_69_51 (by decide) (by first | omega | assumption | exact cu_36 (by omega) (cu_lt (by omega) (by omega))) (by first | omega | assumption | exact cu_36 (by omega) (cu_lt (by omega) (by omega))) (fun c51 => ?_) (fun c51 => ?_)
      · refine cr_nx (pc' := 124) (al' := [some (.ref 133), some (.ref a), some (.int (nI 1)), some (.int (nI 0)), some (.int (nI n)), some (.int (nI (FA n))), none]) (st' := [.ref 133]) d_69_123 (fun _ => rfl) ?_
        refine cr_gf (v := .int (nI w_.1.length)) d_69_124 cw_69 cf_8_104 (hS.i (a := 133) (by decide) (by decide)) (hS.s (a := 133) (by decide) (by decide) rfl) (by decide) pi.2.2.2.2.1 ?_
        exact cr_ri d_69_127 cx_69 rfl ⟨rfl, rfl, rfl, pi.2.1, pi.2.2.1, pi.2.2.2.1, w_.1, FA n, pi.1, by omega, rfl⟩
      · omega
theorem k_madeBy1 {S : CS} {G : Nat → Nat → Value} {B : Nat → Nat → Int32} {J : Nat → Nat → Int64} {R : Nat → Nat → Option Nat} (hS : ShOk S) (hF : FxG G) {a n : Nat} (ht : TabAt S G a) (hn : G a 0 = .int (nI n)) {c : Nat → Nat} (hc : TabC B a n c) (hl : Lat n c) (hn1 : 1 ≤ n) (hap : a < 133 ∨ 140 ≤ a) : CR 3 69 0 [some (.ref 133), some (.ref a), some (.int (nI 0)), some (.int (nI 1)), none, none, none] [] S G B J R (fun r_ S' G' B' J' R' => S' = S ∧ J' = J ∧ R' = R ∧ FxG G' ∧ Gfr [133] G G' ∧ Bfr [136, 137, 139, 140] B B' ∧ ∃ l i, BfI n c n (2 * n) i l ∧ l.length ≤ i ∧ r_ = some (.int (nI l.length))) := by
  have hn6 := hc.1
  have h720 := FA_720 hn6
  refine cr_nx (pc' := 1) (al' := [some (.ref 133), some (.ref a), some (.int (nI 0)), some (.int (nI 1)), none, none, none]) (st' := [.ref a]) d_69_0 (fun _ => rfl) ?_
  refine cr_gf (v := .int (nI n)) d_69_1 cw_69 cf_8_34 ht.1 ht.2.2.1 (by decide) hn ?_
  refine cr_nx (pc' := 6) (al' := [some (.ref 133), some (.ref a), some (.int (nI 0)), some (.int (nI 1)), some (.int (nI n)), none, none]) (st' := []) d_69_4 (fun _ => rfl) ?_
  refine cr_nx (pc' := 7) (al' := [some (.ref 133), some (.ref a), some (.int (nI 0)), some (.int (nI 1)), some (.int (nI n)), none, none]) (st' := [.ref 133]) d_69_6 (fun _ => rfl) ?_
  refine cr_gf (v := .ref 139) d_69_7 cw_69 cf_8_28 (hS.i (a := 133) (by decide) (by decide)) (hS.s (a := 133) (by decide) (by decide) rfl) (by decide) (fx_133_6 hF) ?_
  refine cn_ic (v := 0) d_69_10 (by decide) ?_
  refine cr_cs (as := [.ref 139, .int (nI 0)]) (al0 := [some (.ref 139), some (.int (nI 0)), none, none]) (r := []) d_69_11 cw_69 cm_8_98 (by decide) cz_293 rfl rfl rfl (cr_wk (Nat.le_of_ble_eq_true rfl) (k_fill (hS.i (a := 139) (by decide) (by decide)) (hS.s (a := 139) (by decide) (by decide) rfl) (by decide) _)) (fun v1 S1 G1 B1 J1 R1 h1 => ?_)
  obtain ⟨q0_, q1_, q2_, q3_, q4_, w11, q9_, hw11⟩ := h1
  obtain rfl := q0_
  obtain rfl := q1_.symm
  obtain rfl := q2_.symm
  obtain rfl := q3_.symm
  obtain rfl := q4_.symm
  obtain rfl := q9_
  show CR _ _ 14 [some (.ref 133), some (.ref a), some (.int (nI 0)), some (.int (nI 1)), some (.int (nI n)), none, none] [] S G (upr B 139 w11) J R _
  refine cr_nx (pc' := 15) (al' := [some (.ref 133), some (.ref a), some (.int (nI 0)), some (.int (nI 1)), some (.int (nI n)), none, none]) (st' := [.ref 133]) d_69_14 (fun _ => rfl) ?_
  refine cn_ic (v := 0) d_69_15 (by decide) ?_
  refine cp_8_8  d_69_16 cw_69 cf_8_104 (hS.i (a := 133) (by decide) (by decide)) (hS.s (a := 133) (by decide) (by decide) rfl) (by decide) ?_
  refine cr_nx (pc' := 20) (al' := [some (.ref 133), some (.ref a), some (.int (nI 0)), some (.int (nI 1)), some (.int (nI n)), none, none]) (st' := [.ref 133]) d_69_19 (fun _ => rfl) ?_
  refine cr_gf (v := .ref 137) d_69_20 cw_69 cf_8_22 (hS.i (a := 133) (by decide) (by decide)) (hS.s (a := 133) (by decide) (by decide) rfl) (by decide) (by simp [up2]; exact (fx_133_4 hF)) ?_
  refine cr_cs (as := [.ref 137]) (al0 := [some (.ref 137), none]) (r := []) d_69_23 cw_69 cm_8_50 (by decide) cz_154 rfl rfl rfl (cr_wk (Nat.le_of_ble_eq_true rfl) (k_startPermutation (hS.i (a := 137) (by decide) (by decide)) (hS.s (a := 137) (by decide) (by decide) rfl) (by decide))) (fun v1 S1 G1 B1 J1 R1 h1 => ?_)
  obtain ⟨q0_, q1_, q2_, q3_, q4_, w23, q9_, hw23⟩ := h1
  obtain rfl := q0_
  obtain rfl := q1_.symm
  obtain rfl := q2_.symm
  obtain rfl := q3_.symm
  obtain rfl := q4_.symm
  obtain rfl := q9_
  show CR _ _ 26 [some (.ref 133), some (.ref a), some (.int (nI 0)), some (.int (nI 1)), some (.int (nI n)), none, none] [] S (up2 G 133 8 (.int (nI 0))) (upr (upr B 139 w11) 137 w23) J R _
  refine cr_nx (pc' := 27) (al' := [some (.ref 133), some (.ref a), some (.int (nI 0)), some (.int (nI 1)), some (.int (nI n)), none, none]) (st' := [.ref 133]) d_69_26 (fun _ => rfl) ?_
  refine cr_nx (pc' := 29) (al' := [some (.ref 133), some (.ref a), some (.int (nI 0)), some (.int (nI 1)), some (.int (nI n)), none, none]) (st' := [.int (nI n), .ref 133]) d_69_27 (fun _ => rfl) ?_
  refine cr_cv (b := 133) (as := [.int (nI n)]) (al0 := [some (.ref 133), some (.int (nI n)), none]) (r := []) d_69_29 cw_69 cm_8_107 cz_70 rfl rfl (hS.i (a := 133) (by decide) (by decide)) (by rw [cw_70]; exact (hS.s (a := 133) (by decide) (by decide) rfl)) (by rw [cw_70]; decide) rfl (cr_wk (Nat.le_of_ble_eq_true rfl) (k_reach (l := []) (p := fun x => x) hS (hF.up (by decide +kernel)) hn6 (fun k hk => by rw [upr_s]; exact hw23 k (by omega)) ⟨fun k hk => hk, fun i j _ _ e => e⟩ ⟨up2_s, fun j hj => absurd hj (Nat.not_lt_zero j), fun r hr => by rw [upr_n (by decide), upr_s]; exact hw11 r hr⟩ (Or.inl (by decide)))) (fun v1 S1 G29 B29 J1 R1 h1 => ?_)
  obtain ⟨q0_, q1_, q2_, q3_, fx29, gf29, bf29, gr29⟩ := h1
  obtain rfl := q0_
  obtain rfl := q1_.symm
  obtain rfl := q2_.symm
  obtain rfl := q3_.symm
  rw [show adL [] (rkN n (fun x => x)) = [0] by rw [show rkN n (fun x => x) = 0 from rk_id hn6]; rfl] at gr29
  show CR _ _ 32 [some (.ref 133), some (.ref a), some (.int (nI 0)), some (.int (nI 1)), some (.int (nI n)), none, none] [] S G29 B29 J R _
  refine cn_ic (v := 0) d_69_32 (by decide) ?_
  refine cr_nx (pc' := 35) (al' := [some (.ref 133), some (.ref a), some (.int (nI 0)), some (.int (nI 1)), some (.int (nI n)), some (.int (nI 0)), none]) (st' := []) d_69_33 (fun _ => rfl) ?_
  refine cr_upw (al := fun i w_ => [some (.ref 133), some (.ref a), some (.int (nI 0)), some (.int (nI 1)), some (.int (nI n)), some (.int (nI i)), none]) (S := fun i w_ => S) (G := fun i w_ => w_.2.1) (B := fun i w_ => w_.2.2) (J := fun i w_ => J) (R := fun i w_ => R) (P := fun i w_ => BfI n c n (2 * n) i w_.1 ∧ FxG w_.2.1 ∧ Gfr [133] G w_.2.1 ∧ Bfr [136, 137, 139, 140] B w_.2.2 ∧ GrC w_.2.1 w_.2.2 w_.1) (n := FA n) (fun i w_ hi pi ihi => ?_) (fun w_ pi => ?_) 0 ([0], G29, B29) (by omega) (⟨Bf_0, fx29, (Gfr.rf.u (by decide)).tr gf29, ((Bfr.rf.u (by decide)).u (by decide)).tr (bf29.mo (by decide)), gr29⟩)
  · show CR _ _ 35 [some (.ref 133), some (.ref a), some (.int (nI 0)), some (.int (nI 1)), some (.int (nI n)), some (.int (nI i)), none] [] S w_.2.1 w_.2.2 J R _
    have hlen := Bf_len pi.1
    refine cr_nx (pc' := 37) (al' := [some (.ref 133), some (.ref a), some (.int (nI 0)), some (.int (nI 1)), some (.int (nI n)), some (.int (nI i)), none]) (st' := [.int (nI i)]) d_69_35 (fun _ => rfl) ?_
    refine cr_nx (pc' := 38) (al' := [some (.ref 133), some (.ref a), some (.int (nI 0)), some (.int (nI 1)), some (.int (nI n)), some (.int (nI i)), none]) (st' := [.ref 133, .int (nI i)]) d_69_37 (fun _ => rfl) ?_
    refine cr_gf (v := .ref 140) d_69_38 cw_69 cf_8_31 (hS.i (a := 133) (by decide) (by decide)) (hS.s (a := 133) (by decide) (by decide) rfl) (by decide) (fx_133_7 pi.2.1) ?_
    refine cr_le d_69_41 (hS.i (a := 140) (by decide) (by decide)) (by decide) (by decide) (hS.s (a := 140) (by decide) (by decide) rfl) ?_
    refine cn_cge (t := 123) d_69_42 (by decide) (by first | omega | assumption | exact cu_36 (by omega) (cu_lt (by omega) (by omega))) (by first | omega | assumption | exact cu_36 (by omega) (cu_lt (by omega) (by omega))) (fun c42 => ?_) (fun c42 => ?_)
    · exact absurd c42 (by omega)
    · refine cr_nx (pc' := 47) (al' := [some (.ref 133), some (.ref a), some (.int (nI 0)), some (.int (nI 1)), some (.int (nI n)), some (.int (nI i)), none]) (st' := [.int (nI i)]) d_69_45 (fun _ => rfl) ?_
      refine cr_nx (pc' := 48) (al' := [some (.ref 133), some (.ref a), some (.int (nI 0)), some (.int (nI 1)), some (.int (nI n)), some (.int (nI i)), none]) (st' := [.ref 133, .int (nI i)]) d_69_47 (fun _ => rfl) ?_
      refine cr_gf (v := .int (nI w_.1.length)) d_69_48 cw_69 cf_8_104 (hS.i (a := 133) (by decide) (by decide)) (hS.s (a := 133) (by decide) (by decide) rfl) (by decide) pi.2.2.2.2.1 ?_
      refine cn_cge (t := 123) d_69_51 (by decide) (by first | omega | assumption | exact cu_36 (by omega) (cu_lt (by omega) (by omega))) (by first | omega | assumption | exact cu_36 (by omega) (cu_lt (by omega) (by omega))) (fun c51 => ?_) (fun c51 => ?_)
      · refine cr_nx (pc' := 124) (al' := [some (.ref 133), some (.ref a), some (.int (nI 0)), some (.int (nI 1)), some (.int (nI n)), some (.int (nI i)), none]) (st' := [.ref 133]) d_69_123 (fun _ => rfl) ?_
        refine cr_gf (v := .int (nI w_.1.length)) d_69_124 cw_69 cf_8_104 (hS.i (a := 133) (by decide) (by decide)) (hS.s (a := 133) (by decide) (by decide) rfl) (by decide) pi.2.2.2.2.1 ?_
        exact cr_ri d_69_127 cx_69 rfl ⟨rfl, rfl, rfl, pi.2.1, pi.2.2.1, pi.2.2.2.1, w_.1, i, pi.1, by omega, rfl⟩
      · obtain ⟨r, hr⟩ : ∃ r, w_.1.getD i 0 = r := ⟨_, rfl⟩
        have hrF : r < FA n := by rw [← hr]; exact pi.1.2.1 _ (gD_mem c51)
        refine cr_nx (pc' := 55) (al' := [some (.ref 133), some (.ref a), some (.int (nI 0)), some (.int (nI 1)), some (.int (nI n)), some (.int (nI i)), none]) (st' := [.ref 133]) d_69_54 (fun _ => rfl) ?_
        refine cr_nx (pc' := 56) (al' := [some (.ref 133), some (.ref a), some (.int (nI 0)), some (.int (nI 1)), some (.int (nI n)), some (.int (nI i)), none]) (st' := [.ref 133, .ref 133]) d_69_55 (fun _ => rfl) ?_
        refine cr_gf (v := .ref 140) d_69_56 cw_69 cf_8_31 (hS.i (a := 133) (by decide) (by decide)) (hS.s (a := 133) (by decide) (by decide) rfl) (by decide) (fx_133_7 pi.2.1) ?_
        refine cr_nx (pc' := 61) (al' := [some (.ref 133), some (.ref a), some (.int (nI 0)), some (.int (nI 1)), some (.int (nI n)), some (.int (nI i)), none]) (st' := [.int (nI i), .ref 140, .ref 133]) d_69_59 (fun _ => rfl) ?_
        refine cr_ia (a := 140) (v := (nI r)) d_69_61 (hS.i (a := 140) (by decide) (by decide)) (hS.s (a := 140) (by decide) (by decide) rfl) (by first | decide | omega) (show i < 720 by first | omega | assumption | exact cu_36 (by omega) (cu_lt (by omega) (by omega))) (by rw [pi.2.2.2.2.2.1 i c51, hr]) ?_
        refine cr_nx (pc' := 64) (al' := [some (.ref 133), some (.ref a), some (.int (nI 0)), some (.int (nI 1)), some (.int (nI n)), some (.int (nI i)), none]) (st' := [.int (nI n), .int (nI r), .ref 133]) d_69_62 (fun _ => rfl) ?_
        refine cr_cv (b := 133) (as := [.int (nI r), .int (nI n)]) (al0 := [some (.ref 133), some (.int (nI r)), some (.int (nI n)), none, none, none]) (r := []) d_69_64 cw_69 cm_8_38 cz_68 rfl rfl (hS.i (a := 133) (by decide) (by decide)) (by rw [cw_68]; exact (hS.s (a := 133) (by decide) (by decide) rfl)) (by rw [cw_68]; decide) rfl (cr_wk (Nat.le_of_ble_eq_true rfl) (k_setNumbered hS pi.2.1 (by omega) hn6 hrF)) (fun v1 S1 G1 B1 J1 R1 h1 => ?_)
        obtain ⟨q0_, q1_, q2_, q3_, q4_, w64, q9_, hw64⟩ := h1
        obtain rfl := q0_
        obtain rfl := q1_.symm
        obtain rfl := q2_.symm
        obtain rfl := q3_.symm
        obtain rfl := q4_.symm
        obtain rfl := q9_
        show CR _ _ 67 [some (.ref 133), some (.ref a), some (.int (nI 0)), some (.int (nI 1)), some (.int (nI n)), some (.int (nI i)), none] [] S w_.2.1 (upr w_.2.2 136 w64) J R _
        refine cn_ic (v := 0) d_69_67 (by decide) ?_
        refine cr_nx (pc' := 70) (al' := [some (.ref 133), some (.ref a), some (.int (nI 0)), some (.int (nI 1)), some (.int (nI n)), some (.int (nI i)), some (.int (nI 0))]) (st' := []) d_69_68 (fun _ => rfl) ?_
        refine cr_upw (al := fun k w2 => [some (.ref 133), some (.ref a), some (.int (nI 0)), some (.int (nI 1)), some (.int (nI n)), some (.int (nI i)), some (.int (nI k))]) (S := fun k w2 => S) (G := fun k w2 => w2.2.1) (B := fun k w2 => w2.2.2) (J := fun k w2 => J) (R := fun k w2 => R) (P := fun k w2 => BfI n c n (2 * n) i w2.1 ∧ FxG w2.2.1 ∧ Gfr [133] G w2.2.1 ∧ Bfr [136, 137, 139, 140] B w2.2.2 ∧ GrC w2.2.1 w2.2.2 w2.1 ∧ i < w2.1.length ∧ w2.1.getD i 0 = r ∧ (∀ q, q < n → w2.2.2 136 q = nI (pmE n r q)) ∧ (∀ z, z < k → scN n c r (n + z) ∈ w2.1)) (n := n) (fun k w2 hk pk ihk => ?_) (fun w2 pk => ?_) 0 (w_.1, w_.2.1, (upr w_.2.2 136 w64)) (by omega) (⟨pi.1, pi.2.1, pi.2.2.1, pi.2.2.2.1.u (by decide), pi.2.2.2.2.cg rfl rfl rfl, c51, hr, fun q hq => by dsimp only; rw [upr_s]; exact hw64 q hq, all_0⟩)
        · show CR _ _ 70 [some (.ref 133), some (.ref a), some (.int (nI 0)), some (.int (nI 1)), some (.int (nI n)), some (.int (nI i)), some (.int (nI k))] [] S w2.2.1 w2.2.2 J R _
          have hlen := Bf_len pk.1
          have h2n : k < 2 * n ∧ n + k < 2 * n := by omega
          refine cr_nx (pc' := 72) (al' := [some (.ref 133), some (.ref a), some (.int (nI 0)), some (.int (nI 1)), some (.int (nI n)), some (.int (nI i)), some (.int (nI k))]) (st' := [.int (nI k)]) d_69_70 (fun _ => rfl) ?_
          refine cr_nx (pc' := 74) (al' := [some (.ref 133), some (.ref a), some (.int (nI 0)), some (.int (nI 1)), some (.int (nI n)), some (.int (nI i)), some (.int (nI k))]) (st' := [.int (nI n), .int (nI k)]) d_69_72 (fun _ => rfl) ?_
          refine cn_cge (t := 117) d_69_74 (by decide) (by first | omega | assumption | exact cu_36 (by omega) (cu_lt (by omega) (by omega))) (by first | omega | assumption | exact cu_36 (by omega) (cu_lt (by omega) (by omega))) (fun c74 => ?_) (fun c74 => ?_)
          · omega
          · refine cr_nx (pc' := 78) (al' := [some (.ref 133), some (.ref a), some (.int (nI 0)), some (.int (nI 1)), some (.int (nI n)), some (.int (nI i)), some (.int (nI k))]) (st' := [.int (nI 0)]) d_69_77 (fun _ => rfl) ?_
            refine cn_ieq (t := 94) d_69_78 (by decide) (by first | omega | assumption | exact cu_36 (by omega) (cu_lt (by omega) (by omega))) (fun c78 => ?_) (fun c78 => ?_)
            · refine cr_nx (pc' := 95) (al' := [some (.ref 133), some (.ref a), some (.int (nI 0)), some (.int (nI 1)), some (.int (nI n)), some (.int (nI i)), some (.int (nI k))]) (st' := [.int (nI 1)]) d_69_94 (fun _ => rfl) ?_
              refine cn_ieq (t := 111) d_69_95 (by decide) (by first | omega | assumption | exact cu_36 (by omega) (cu_lt (by omega) (by omega))) (fun c95 => ?_) (fun c95 => ?_)
              · omega
              · refine cr_nx (pc' := 99) (al' := [some (.ref 133), some (.ref a), some (.int (nI 0)), some (.int (nI 1)), some (.int (nI n)), some (.int (nI i)), some (.int (nI k))]) (st' := [.ref 133]) d_69_98 (fun _ => rfl) ?_
                refine cr_nx (pc' := 100) (al' := [some (.ref 133), some (.ref a), some (.int (nI 0)), some (.int (nI 1)), some (.int (nI n)), some (.int (nI i)), some (.int (nI k))]) (st' := [.ref a, .ref 133]) d_69_99 (fun _ => rfl) ?_
                refine cr_nx (pc' := 102) (al' := [some (.ref 133), some (.ref a), some (.int (nI 0)), some (.int (nI 1)), some (.int (nI n)), some (.int (nI i)), some (.int (nI k))]) (st' := [.int (nI k), .ref a, .ref 133]) d_69_100 (fun _ => rfl) ?_
                refine cr_cv (b := 133) (as := [.ref a, .int (nI k)]) (al0 := [some (.ref 133), some (.ref a), some (.int (nI k)), none]) (r := []) d_69_102 cw_69 cm_8_114 cz_73 rfl rfl (hS.i (a := 133) (by decide) (by decide)) (by rw [cw_73]; exact (hS.s (a := 133) (by decide) (by decide) rfl)) (by rw [cw_73]; decide) rfl (cr_wk (Nat.le_of_ble_eq_true rfl) (k_joinColumn hS pk.2.1 (by first | exact ht | exact pi.2.2.1.t (by simp; omega) ht | exact pk.2.2.1.t (by simp; omega) ht | exact (pk.2.2.1.tr gf91).t (by simp; omega) ht) (by first | exact hn | (rw [pk.2.2.1 a (by simp; omega)]; exact hn) | (rw [gf91 a (by simp; omega), pk.2.2.1 a (by simp; omega)]; exact hn)) (by first | exact hc | exact pk.2.2.2.1.c (by simp; omega) hc | exact ((pk.2.2.2.1.u (by decide)).tr (bf91.mo (by decide))).c (by simp; omega) hc) (by omega) (by omega) (pm_per hn6 hrF) pk.2.2.2.2.2.2.2.1)) (fun v1 S1 G1 B1 J1 R1 h1 => ?_)
                obtain ⟨q0_, q1_, q2_, q3_, q4_, w102, q9_, hw102⟩ := h1
                obtain rfl := q0_
                obtain rfl := q1_.symm
                obtain rfl := q2_.symm
                obtain rfl := q3_.symm
                obtain rfl := q4_.symm
                obtain rfl := q9_
                show CR _ _ 105 [some (.ref 133), some (.ref a), some (.int (nI 0)), some (.int (nI 1)), some (.int (nI n)), some (.int (nI i)), some (.int (nI k))] [] S w2.2.1 (upr w2.2.2 137 w102) J R _
                refine cr_nx (pc' := 106) (al' := [some (.ref 133), some (.ref a), some (.int (nI 0)), some (.int (nI 1)), some (.int (nI n)), some (.int (nI i)), some (.int (nI k))]) (st' := [.ref 133]) d_69_105 (fun _ => rfl) ?_
                refine cr_nx (pc' := 108) (al' := [some (.ref 133), some (.ref a), some (.int (nI 0)), some (.int (nI 1)), some (.int (nI n)), some (.int (nI i)), some (.int (nI k))]) (st' := [.int (nI n), .ref 133]) d_69_106 (fun _ => rfl) ?_
                have hsc108 := sc_ok (k := (n + k)) hn6 hl hrF (by omega)
                refine cr_cv (b := 133) (as := [.int (nI n)]) (al0 := [some (.ref 133), some (.int (nI n)), none]) (r := []) d_69_108 cw_69 cm_8_107 cz_70 rfl rfl (hS.i (a := 133) (by decide) (by decide)) (by rw [cw_70]; exact (hS.s (a := 133) (by decide) (by decide) rfl)) (by rw [cw_70]; decide) rfl (cr_wk (Nat.le_of_ble_eq_true rfl) (k_reach (l := w2.1) (p := fun x => mkG n c (n + k) (pmE n r x)) hS pk.2.1 hn6 (fun q hq => by rw [upr_s]; exact hw102 q hq) (sc_per hn6 hl hrF (by omega)) (GrC.cg pk.2.2.2.2.1 rfl rfl rfl) (Bf_720 hn6 pk.1 hsc108.1))) (fun v1 S1 G108 B108 J1 R1 h1 => ?_)
                obtain ⟨q0_, q1_, q2_, q3_, fx108, gf108, bf108, gr108⟩ := h1
                obtain rfl := q0_
                obtain rfl := q1_.symm
                obtain rfl := q2_.symm
                obtain rfl := q3_.symm
                have hb108b := Bf_ad (k := (n + k)) hn6 hl pk.1 pk.2.2.2.2.2.1 (by omega) (by omega) (by omega)
                rw [pk.2.2.2.2.2.2.1] at hb108b
                have hb108 := hb108b.1
                have hr108 := hb108b.2.1
                show CR _ _ 111 [some (.ref 133), some (.ref a), some (.int (nI 0)), some (.int (nI 1)), some (.int (nI n)), some (.int (nI i)), some (.int (nI k))] [] S G108 B108 J R _
                refine cn_inc d_69_111 rfl rfl ?_
                show CR _ _ 114 [some (.ref 133), some (.ref a), some (.int (nI 0)), some (.int (nI 1)), some (.int (nI n)), some (.int (nI i)), some (.int (nI (k + 1)))] [] S G108 B108 J R _
                refine cr_nx (pc' := 70) (al' := [some (.ref 133), some (.ref a), some (.int (nI 0)), some (.int (nI 1)), some (.int (nI n)), some (.int (nI i)), some (.int (nI (k + 1)))]) (st' := []) d_69_114 (fun _ => rfl) ?_
                exact ihk ((adL w2.1 (scN n c r (n + k))), G108, B108) (⟨hb108, fx108, pk.2.2.1.tr gf108, (pk.2.2.2.1.u (by decide)).tr (bf108.mo (by decide)), gr108, hb108b.2.2.1, hr108, fun q hq => by dsimp only; rw [bf108 136 (by decide), upr_n (by decide)]; exact pk.2.2.2.2.2.2.2.1 q hq, fun z hz => (Nat.lt_succ_iff_lt_or_eq.mp hz).elim (fun e => hb108b.2.2.2.1 _ (pk.2.2.2.2.2.2.2.2 z e)) (fun e => by rw [e]; exact hb108b.2.2.2.2)⟩)
            · omega
        · show CR _ _ 70 [some (.ref 133), some (.ref a), some (.int (nI 0)), some (.int (nI 1)), some (.int (nI n)), some (.int (nI i)), some (.int (nI n))] [] S w2.2.1 w2.2.2 J R _
          refine cr_nx (pc' := 72) (al' := [some (.ref 133), some (.ref a), some (.int (nI 0)), some (.int (nI 1)), some (.int (nI n)), some (.int (nI i)), some (.int (nI n))]) (st' := [.int (nI n)]) d_69_70 (fun _ => rfl) ?_
          refine cr_nx (pc' := 74) (al' := [some (.ref 133), some (.ref a), some (.int (nI 0)), some (.int (nI 1)), some (.int (nI n)), some (.int (nI i)), some (.int (nI n))]) (st' := [.int (nI n), .int (nI n)]) d_69_72 (fun _ => rfl) ?_
          refine cn_cge (t := 117) d_69_74 (by decide) (by first | omega | assumption | exact cu_36 (by omega) (cu_lt (by omega) (by omega))) (by first | omega | assumption | exact cu_36 (by omega) (cu_lt (by omega) (by omega))) (fun c74 => ?_) (fun c74 => ?_)
          · refine cn_inc d_69_117 rfl rfl ?_
            show CR _ _ 120 [some (.ref 133), some (.ref a), some (.int (nI 0)), some (.int (nI 1)), some (.int (nI n)), some (.int (nI (i + 1))), some (.int (nI n))] [] S w2.2.1 w2.2.2 J R _
            refine cr_nx (pc' := 35) (al' := [some (.ref 133), some (.ref a), some (.int (nI 0)), some (.int (nI 1)), some (.int (nI n)), some (.int (nI (i + 1))), some (.int (nI n))]) (st' := []) d_69_120 (fun _ => rfl) ?_
            refine cr_dr (al1 := [some (.ref 133), some (.ref a), some (.int (nI 0)), some (.int (nI 1)), some (.int (nI n)), some (.int (nI (i + 1))), none]) (le_s (le_s (le_s (le_s (le_s (le_s (le_d rfl (le_n)))))))) ?_
            exact ihi w2 (⟨Bf_nx pk.1 pk.2.2.2.2.2.1 (by rw [pk.2.2.2.2.2.2.1]; exact fun k h1 h2 => by have := pk.2.2.2.2.2.2.2.2 (k - n) (by omega); rw [show n + (k - n) = k by omega] at this; exact this), pk.2.1, pk.2.2.1, pk.2.2.2.1, pk.2.2.2.2.1⟩)
          · omega
  · show CR _ _ 35 [some (.ref 133), some (.ref a), some (.int (nI 0)), some (.int (nI 1)), some (.int (nI n)), some (.int (nI (FA n))), none] [] S w_.2.1 w_.2.2 J R _
    have hlen := Bf_len pi.1
    refine cr_nx (pc' := 37) (al' := [some (.ref 133), some (.ref a), some (.int (nI 0)), some (.int (nI 1)), some (.int (nI n)), some (.int (nI (FA n))), none]) (st' := [.int (nI (FA n))]) d_69_35 (fun _ => rfl) ?_
    refine cr_nx (pc' := 38) (al' := [some (.ref 133), some (.ref a), some (.int (nI 0)), some (.int (nI 1)), some (.int (nI n)), some (.int (nI (FA n))), none]) (st' := [.ref 133, .int (nI (FA n))]) d_69_37 (fun _ => rfl) ?_
    refine cr_gf (v := .ref 140) d_69_38 cw_69 cf_8_31 (hS.i (a := 133) (by decide) (by decide)) (hS.s (a := 133) (by decide) (by decide) rfl) (by decide) (fx_133_7 pi.2.1) ?_
    refine cr_le d_69_41 (hS.i (a := 140) (by decide) (by decide)) (by decide) (by decide) (hS.s (a := 140) (by decide) (by decide) rfl) ?_
    refine cn_cge (t := 123) d_69_42 (by decide) (by first | omega | assumption | exact cu_36 (by omega) (cu_lt (by omega) (by omega))) (by first | omega | assumption | exact cu_36 (by omega) (cu_lt (by omega) (by omega))) (fun c42 => ?_) (fun c42 => ?_)
    · refine cr_nx (pc' := 124) (al' := [some (.ref 133), some (.ref a), some (.int (nI 0)), some (.int (nI 1)), some (.int (nI n)), some (.int (nI (FA n))), none]) (st' := [.ref 133]) d_69_123 (fun _ => rfl) ?_
      refine cr_gf (v := .int (nI w_.1.length)) d_69_124 cw_69 cf_8_104 (hS.i (a := 133) (by decide) (by decide)) (hS.s (a := 133) (by decide) (by decide) rfl) (by decide) pi.2.2.2.2.1 ?_
      exact cr_ri d_69_127 cx_69 rfl ⟨rfl, rfl, rfl, pi.2.1, pi.2.2.1, pi.2.2.2.1, w_.1, FA n, pi.1, by omega, rfl⟩
    · refine cr_nx (pc' := 47) (al' := [some (.ref 133), some (.ref a), some (.int (nI 0)), some (.int (nI 1)), some (.int (nI n)), some (.int (nI (FA n))), none]) (st' := [.int (nI (FA n))]) d_69_45 (fun _ => rfl) ?_
      refine cr_nx (pc' := 48) (al' := [some (.ref 133), some (.ref a), some (.int (nI 0)), some (.int (nI 1)), some (.int (nI n)), some (.int (nI (FA n))), none]) (st' := [.ref 133, .int (nI (FA n))]) d_69_47 (fun _ => rfl) ?_
      refine cr_gf (v := .int (nI w_.1.length)) d_69_48 cw_69 cf_8_104 (hS.i (a := 133) (by decide) (by decide)) (hS.s (a := 133) (by decide) (by decide) rfl) (by decide) pi.2.2.2.2.1 ?_
      refine cn_cge (t := 123) d_69_51 (by decide) (by first | omega | assumption | exact cu_36 (by omega) (cu_lt (by omega) (by omega))) (by first | omega | assumption | exact cu_36 (by omega) (cu_lt (by omega) (by omega))) (fun c51 => ?_) (fun c51 => ?_)
      · refine cr_nx (pc' := 124) (al' := [some (.ref 133), some (.ref a), some (.int (nI 0)), some (.int (nI 1)), some (.int (nI n)), some (.int (nI (FA n))), none]) (st' := [.ref 133]) d_69_123 (fun _ => rfl) ?_
        refine cr_gf (v := .int (nI w_.1.length)) d_69_124 cw_69 cf_8_104 (hS.i (a := 133) (by decide) (by decide)) (hS.s (a := 133) (by decide) (by decide) rfl) (by decide) pi.2.2.2.2.1 ?_
        exact cr_ri d_69_127 cx_69 rfl ⟨rfl, rfl, rfl, pi.2.1, pi.2.2.1, pi.2.2.2.1, w_.1, FA n, pi.1, by omega, rfl⟩
      · omega
theorem k_madeBy2 {S : CS} {G : Nat → Nat → Value} {B : Nat → Nat → Int32} {J : Nat → Nat → Int64} {R : Nat → Nat → Option Nat} (hS : ShOk S) (hF : FxG G) {a n : Nat} (ht : TabAt S G a) (hn : G a 0 = .int (nI n)) {c : Nat → Nat} (hc : TabC B a n c) (hl : Lat n c) (hn1 : 1 ≤ n) (hap : a < 133 ∨ 140 ≤ a) : CR 3 69 0 [some (.ref 133), some (.ref a), some (.int (nI 1)), some (.int (nI 1)), none, none, none] [] S G B J R (fun r_ S' G' B' J' R' => S' = S ∧ J' = J ∧ R' = R ∧ FxG G' ∧ Gfr [133] G G' ∧ Bfr [136, 137, 139, 140] B B' ∧ ∃ l i, BfI n c 0 (2 * n) i l ∧ l.length ≤ i ∧ r_ = some (.int (nI l.length))) := by
  have hn6 := hc.1
  have h720 := FA_720 hn6
  refine cr_nx (pc' := 1) (al' := [some (.ref 133), some (.ref a), some (.int (nI 1)), some (.int (nI 1)), none, none, none]) (st' := [.ref a]) d_69_0 (fun _ => rfl) ?_
  refine cr_gf (v := .int (nI n)) d_69_1 cw_69 cf_8_34 ht.1 ht.2.2.1 (by decide) hn ?_
  refine cr_nx (pc' := 6) (al' := [some (.ref 133), some (.ref a), some (.int (nI 1)), some (.int (nI 1)), some (.int (nI n)), none, none]) (st' := []) d_69_4 (fun _ => rfl) ?_
  refine cr_nx (pc' := 7) (al' := [some (.ref 133), some (.ref a), some (.int (nI 1)), some (.int (nI 1)), some (.int (nI n)), none, none]) (st' := [.ref 133]) d_69_6 (fun _ => rfl) ?_
  refine cr_gf (v := .ref 139) d_69_7 cw_69 cf_8_28 (hS.i (a := 133) (by decide) (by decide)) (hS.s (a := 133) (by decide) (by decide) rfl) (by decide) (fx_133_6 hF) ?_
  refine cn_ic (v := 0) d_69_10 (by decide) ?_
  refine cr_cs (as := [.ref 139, .int (nI 0)]) (al0 := [some (.ref 139), some (.int (nI 0)), none, none]) (r := []) d_69_11 cw_69 cm_8_98 (by decide) cz_293 rfl rfl rfl (cr_wk (Nat.le_of_ble_eq_true rfl) (k_fill (hS.i (a := 139) (by decide) (by decide)) (hS.s (a := 139) (by decide) (by decide) rfl) (by decide) _)) (fun v1 S1 G1 B1 J1 R1 h1 => ?_)
  obtain ⟨q0_, q1_, q2_, q3_, q4_, w11, q9_, hw11⟩ := h1
  obtain rfl := q0_
  obtain rfl := q1_.symm
  obtain rfl := q2_.symm
  obtain rfl := q3_.symm
  obtain rfl := q4_.symm
  obtain rfl := q9_
  show CR _ _ 14 [some (.ref 133), some (.ref a), some (.int (nI 1)), some (.int (nI 1)), some (.int (nI n)), none, none] [] S G (upr B 139 w11) J R _
  refine cr_nx (pc' := 15) (al' := [some (.ref 133), some (.ref a), some (.int (nI 1)), some (.int (nI 1)), some (.int (nI n)), none, none]) (st' := [.ref 133]) d_69_14 (fun _ => rfl) ?_
  refine cn_ic (v := 0) d_69_15 (by decide) ?_
  refine cp_8_8  d_69_16 cw_69 cf_8_104 (hS.i (a := 133) (by decide) (by decide)) (hS.s (a := 133) (by decide) (by decide) rfl) (by decide) ?_
  refine cr_nx (pc' := 20) (al' := [some (.ref 133), some (.ref a), some (.int (nI 1)), some (.int (nI 1)), some (.int (nI n)), none, none]) (st' := [.ref 133]) d_69_19 (fun _ => rfl) ?_
  refine cr_gf (v := .ref 137) d_69_20 cw_69 cf_8_22 (hS.i (a := 133) (by decide) (by decide)) (hS.s (a := 133) (by decide) (by decide) rfl) (by decide) (by simp [up2]; exact (fx_133_4 hF)) ?_
  refine cr_cs (as := [.ref 137]) (al0 := [some (.ref 137), none]) (r := []) d_69_23 cw_69 cm_8_50 (by decide) cz_154 rfl rfl rfl (cr_wk (Nat.le_of_ble_eq_true rfl) (k_startPermutation (hS.i (a := 137) (by decide) (by decide)) (hS.s (a := 137) (by decide) (by decide) rfl) (by decide))) (fun v1 S1 G1 B1 J1 R1 h1 => ?_)
  obtain ⟨q0_, q1_, q2_, q3_, q4_, w23, q9_, hw23⟩ := h1
  obtain rfl := q0_
  obtain rfl := q1_.symm
  obtain rfl := q2_.symm
  obtain rfl := q3_.symm
  obtain rfl := q4_.symm
  obtain rfl := q9_
  show CR _ _ 26 [some (.ref 133), some (.ref a), some (.int (nI 1)), some (.int (nI 1)), some (.int (nI n)), none, none] [] S (up2 G 133 8 (.int (nI 0))) (upr (upr B 139 w11) 137 w23) J R _
  refine cr_nx (pc' := 27) (al' := [some (.ref 133), some (.ref a), some (.int (nI 1)), some (.int (nI 1)), some (.int (nI n)), none, none]) (st' := [.ref 133]) d_69_26 (fun _ => rfl) ?_
  refine cr_nx (pc' := 29) (al' := [some (.ref 133), some (.ref a), some (.int (nI 1)), some (.int (nI 1)), some (.int (nI n)), none, none]) (st' := [.int (nI n), .ref 133]) d_69_27 (fun _ => rfl) ?_
  refine cr_cv (b := 133) (as := [.int (nI n)]) (al0 := [some (.ref 133), some (.int (nI n)), none]) (r := []) d_69_29 cw_69 cm_8_107 cz_70 rfl rfl (hS.i (a := 133) (by decide) (by decide)) (by rw [cw_70]; exact (hS.s (a := 133) (by decide) (by decide) rfl)) (by rw [cw_70]; decide) rfl (cr_wk (Nat.le_of_ble_eq_true rfl) (k_reach (l := []) (p := fun x => x) hS (hF.up (by decide +kernel)) hn6 (fun k hk => by rw [upr_s]; exact hw23 k (by omega)) ⟨fun k hk => hk, fun i j _ _ e => e⟩ ⟨up2_s, fun j hj => absurd hj (Nat.not_lt_zero j), fun r hr => by rw [upr_n (by decide), upr_s]; exact hw11 r hr⟩ (Or.inl (by decide)))) (fun v1 S1 G29 B29 J1 R1 h1 => ?_)
  obtain ⟨q0_, q1_, q2_, q3_, fx29, gf29, bf29, gr29⟩ := h1
  obtain rfl := q0_
  obtain rfl := q1_.symm
  obtain rfl := q2_.symm
  obtain rfl := q3_.symm
  rw [show adL [] (rkN n (fun x => x)) = [0] by rw [show rkN n (fun x => x) = 0 from rk_id hn6]; rfl] at gr29
  show CR _ _ 32 [some (.ref 133), some (.ref a), some (.int (nI 1)), some (.int (nI 1)), some (.int (nI n)), none, none] [] S G29 B29 J R _
  refine cn_ic (v := 0) d_69_32 (by decide) ?_
  refine cr_nx (pc' := 35) (al' := [some (.ref 133), some (.ref a), some (.int (nI 1)), some (.int (nI 1)), some (.int (nI n)), some (.int (nI 0)), none]) (st' := []) d_69_33 (fun _ => rfl) ?_
  refine cr_upw (al := fun i w_ => [some (.ref 133), some (.ref a), some (.int (nI 1)), some (.int (nI 1)), some (.int (nI n)), some (.int (nI i)), none]) (S := fun i w_ => S) (G := fun i w_ => w_.2.1) (B := fun i w_ => w_.2.2) (J := fun i w_ => J) (R := fun i w_ => R) (P := fun i w_ => BfI n c 0 (2 * n) i w_.1 ∧ FxG w_.2.1 ∧ Gfr [133] G w_.2.1 ∧ Bfr [136, 137, 139, 140] B w_.2.2 ∧ GrC w_.2.1 w_.2.2 w_.1) (n := FA n) (fun i w_ hi pi ihi => ?_) (fun w_ pi => ?_) 0 ([0], G29, B29) (by omega) (⟨Bf_0, fx29, (Gfr.rf.u (by decide)).tr gf29, ((Bfr.rf.u (by decide)).u (by decide)).tr (bf29.mo (by decide)), gr29⟩)
  · show CR _ _ 35 [some (.ref 133), some (.ref a), some (.int (nI 1)), some (.int (nI 1)), some (.int (nI n)), some (.int (nI i)), none] [] S w_.2.1 w_.2.2 J R _
    have hlen := Bf_len pi.1
    refine cr_nx (pc' := 37) (al' := [some (.ref 133), some (.ref a), some (.int (nI 1)), some (.int (nI 1)), some (.int (nI n)), some (.int (nI i)), none]) (st' := [.int (nI i)]) d_69_35 (fun _ => rfl) ?_
    refine cr_nx (pc' := 38) (al' := [some (.ref 133), some (.ref a), some (.int (nI 1)), some (.int (nI 1)), some (.int (nI n)), some (.int (nI i)), none]) (st' := [.ref 133, .int (nI i)]) d_69_37 (fun _ => rfl) ?_
    refine cr_gf (v := .ref 140) d_69_38 cw_69 cf_8_31 (hS.i (a := 133) (by decide) (by decide)) (hS.s (a := 133) (by decide) (by decide) rfl) (by decide) (fx_133_7 pi.2.1) ?_
    refine cr_le d_69_41 (hS.i (a := 140) (by decide) (by decide)) (by decide) (by decide) (hS.s (a := 140) (by decide) (by decide) rfl) ?_
    refine cn_cge (t := 123) d_69_42 (by decide) (by first | omega | assumption | exact cu_36 (by omega) (cu_lt (by omega) (by omega))) (by first | omega | assumption | exact cu_36 (by omega) (cu_lt (by omega) (by omega))) (fun c42 => ?_) (fun c42 => ?_)
    · exact absurd c42 (by omega)
    · refine cr_nx (pc' := 47) (al' := [some (.ref 133), some (.ref a), some (.int (nI 1)), some (.int (nI 1)), some (.int (nI n)), some (.int (nI i)), none]) (st' := [.int (nI i)]) d_69_45 (fun _ => rfl) ?_
      refine cr_nx (pc' := 48) (al' := [some (.ref 133), some (.ref a), some (.int (nI 1)), some (.int (nI 1)), some (.int (nI n)), some (.int (nI i)), none]) (st' := [.ref 133, .int (nI i)]) d_69_47 (fun _ => rfl) ?_
      refine cr_gf (v := .int (nI w_.1.length)) d_69_48 cw_69 cf_8_104 (hS.i (a := 133) (by decide) (by decide)) (hS.s (a := 133) (by decide) (by decide) rfl) (by decide) pi.2.2.2.2.1 ?_
      refine cn_cge (t := 123) d_69_51 (by decide) (by first | omega | assumption | exact cu_36 (by omega) (cu_lt (by omega) (by omega))) (by first | omega | assumption | exact cu_36 (by omega) (cu_lt (by omega) (by omega))) (fun c51 => ?_) (fun c51 => ?_)
      · refine cr_nx (pc' := 124) (al' := [some (.ref 133), some (.ref a), some (.int (nI 1)), some (.int (nI 1)), some (.int (nI n)), some (.int (nI i)), none]) (st' := [.ref 133]) d_69_123 (fun _ => rfl) ?_
        refine cr_gf (v := .int (nI w_.1.length)) d_69_124 cw_69 cf_8_104 (hS.i (a := 133) (by decide) (by decide)) (hS.s (a := 133) (by decide) (by decide) rfl) (by decide) pi.2.2.2.2.1 ?_
        exact cr_ri d_69_127 cx_69 rfl ⟨rfl, rfl, rfl, pi.2.1, pi.2.2.1, pi.2.2.2.1, w_.1, i, pi.1, by omega, rfl⟩
      · obtain ⟨r, hr⟩ : ∃ r, w_.1.getD i 0 = r := ⟨_, rfl⟩
        have hrF : r < FA n := by rw [← hr]; exact pi.1.2.1 _ (gD_mem c51)
        refine cr_nx (pc' := 55) (al' := [some (.ref 133), some (.ref a), some (.int (nI 1)), some (.int (nI 1)), some (.int (nI n)), some (.int (nI i)), none]) (st' := [.ref 133]) d_69_54 (fun _ => rfl) ?_
        refine cr_nx (pc' := 56) (al' := [some (.ref 133), some (.ref a), some (.int (nI 1)), some (.int (nI 1)), some (.int (nI n)), some (.int (nI i)), none]) (st' := [.ref 133, .ref 133]) d_69_55 (fun _ => rfl) ?_
        refine cr_gf (v := .ref 140) d_69_56 cw_69 cf_8_31 (hS.i (a := 133) (by decide) (by decide)) (hS.s (a := 133) (by decide) (by decide) rfl) (by decide) (fx_133_7 pi.2.1) ?_
        refine cr_nx (pc' := 61) (al' := [some (.ref 133), some (.ref a), some (.int (nI 1)), some (.int (nI 1)), some (.int (nI n)), some (.int (nI i)), none]) (st' := [.int (nI i), .ref 140, .ref 133]) d_69_59 (fun _ => rfl) ?_
        refine cr_ia (a := 140) (v := (nI r)) d_69_61 (hS.i (a := 140) (by decide) (by decide)) (hS.s (a := 140) (by decide) (by decide) rfl) (by first | decide | omega) (show i < 720 by first | omega | assumption | exact cu_36 (by omega) (cu_lt (by omega) (by omega))) (by rw [pi.2.2.2.2.2.1 i c51, hr]) ?_
        refine cr_nx (pc' := 64) (al' := [some (.ref 133), some (.ref a), some (.int (nI 1)), some (.int (nI 1)), some (.int (nI n)), some (.int (nI i)), none]) (st' := [.int (nI n), .int (nI r), .ref 133]) d_69_62 (fun _ => rfl) ?_
        refine cr_cv (b := 133) (as := [.int (nI r), .int (nI n)]) (al0 := [some (.ref 133), some (.int (nI r)), some (.int (nI n)), none, none, none]) (r := []) d_69_64 cw_69 cm_8_38 cz_68 rfl rfl (hS.i (a := 133) (by decide) (by decide)) (by rw [cw_68]; exact (hS.s (a := 133) (by decide) (by decide) rfl)) (by rw [cw_68]; decide) rfl (cr_wk (Nat.le_of_ble_eq_true rfl) (k_setNumbered hS pi.2.1 (by omega) hn6 hrF)) (fun v1 S1 G1 B1 J1 R1 h1 => ?_)
        obtain ⟨q0_, q1_, q2_, q3_, q4_, w64, q9_, hw64⟩ := h1
        obtain rfl := q0_
        obtain rfl := q1_.symm
        obtain rfl := q2_.symm
        obtain rfl := q3_.symm
        obtain rfl := q4_.symm
        obtain rfl := q9_
        show CR _ _ 67 [some (.ref 133), some (.ref a), some (.int (nI 1)), some (.int (nI 1)), some (.int (nI n)), some (.int (nI i)), none] [] S w_.2.1 (upr w_.2.2 136 w64) J R _
        refine cn_ic (v := 0) d_69_67 (by decide) ?_
        refine cr_nx (pc' := 70) (al' := [some (.ref 133), some (.ref a), some (.int (nI 1)), some (.int (nI 1)), some (.int (nI n)), some (.int (nI i)), some (.int (nI 0))]) (st' := []) d_69_68 (fun _ => rfl) ?_
        refine cr_upw (al := fun k w2 => [some (.ref 133), some (.ref a), some (.int (nI 1)), some (.int (nI 1)), some (.int (nI n)), some (.int (nI i)), some (.int (nI k))]) (S := fun k w2 => S) (G := fun k w2 => w2.2.1) (B := fun k w2 => w2.2.2) (J := fun k w2 => J) (R := fun k w2 => R) (P := fun k w2 => BfI n c 0 (2 * n) i w2.1 ∧ FxG w2.2.1 ∧ Gfr [133] G w2.2.1 ∧ Bfr [136, 137, 139, 140] B w2.2.2 ∧ GrC w2.2.1 w2.2.2 w2.1 ∧ i < w2.1.length ∧ w2.1.getD i 0 = r ∧ (∀ q, q < n → w2.2.2 136 q = nI (pmE n r q)) ∧ (∀ z, z < k → scN n c r z ∈ w2.1) ∧ (∀ z, z < k → scN n c r (n + z) ∈ w2.1)) (n := n) (fun k w2 hk pk ihk => ?_) (fun w2 pk => ?_) 0 (w_.1, w_.2.1, (upr w_.2.2 136 w64)) (by omega) (⟨pi.1, pi.2.1, pi.2.2.1, pi.2.2.2.1.u (by decide), pi.2.2.2.2.cg rfl rfl rfl, c51, hr, fun q hq => by dsimp only; rw [upr_s]; exact hw64 q hq, all_0, all_0⟩)
        · show CR _ _ 70 [some (.ref 133), some (.ref a), some (.int (nI 1)), some (.int (nI 1)), some (.int (nI n)), some (.int (nI i)), some (.int (nI k))] [] S w2.2.1 w2.2.2 J R _
          have hlen := Bf_len pk.1
          have h2n : k < 2 * n ∧ n + k < 2 * n := by omega
          refine cr_nx (pc' := 72) (al' := [some (.ref 133), some (.ref a), some (.int (nI 1)), some (.int (nI 1)), some (.int (nI n)), some (.int (nI i)), some (.int (nI k))]) (st' := [.int (nI k)]) d_69_70 (fun _ => rfl) ?_
          refine cr_nx (pc' := 74) (al' := [some (.ref 133), some (.ref a), some (.int (nI 1)), some (.int (nI 1)), some (.int (nI n)), some (.int (nI i)), some (.int (nI k))]) (st' := [.int (nI n), .int (nI k)]) d_69_72 (fun _ => rfl) ?_
          refine cn_cge (t := 117) d_69_74 (by decide) (by first | omega | assumption | exact cu_36 (by omega) (cu_lt (by omega) (by omega))) (by first | omega | assumption | exact cu_36 (by omega) (cu_lt (by omega) (by omega))) (fun c74 => ?_) (fun c74 => ?_)
          · omega
          · refine cr_nx (pc' := 78) (al' := [some (.ref 133), some (.ref a), some (.int (nI 1)), some (.int (nI 1)), some (.int (nI n)), some (.int (nI i)), some (.int (nI k))]) (st' := [.int (nI 1)]) d_69_77 (fun _ => rfl) ?_
            refine cn_ieq (t := 94) d_69_78 (by decide) (by first | omega | assumption | exact cu_36 (by omega) (cu_lt (by omega) (by omega))) (fun c78 => ?_) (fun c78 => ?_)
            · omega
            · refine cr_nx (pc' := 82) (al' := [some (.ref 133), some (.ref a), some (.int (nI 1)), some (.int (nI 1)), some (.int (nI n)), some (.int (nI i)), some (.int (nI k))]) (st' := [.ref 133]) d_69_81 (fun _ => rfl) ?_
              refine cr_nx (pc' := 83) (al' := [some (.ref 133), some (.ref a), some (.int (nI 1)), some (.int (nI 1)), some (.int (nI n)), some (.int (nI i)), some (.int (nI k))]) (st' := [.ref a, .ref 133]) d_69_82 (fun _ => rfl) ?_
              refine cr_nx (pc' := 85) (al' := [some (.ref 133), some (.ref a), some (.int (nI 1)), some (.int (nI 1)), some (.int (nI n)), some (.int (nI i)), some (.int (nI k))]) (st' := [.int (nI k), .ref a, .ref 133]) d_69_83 (fun _ => rfl) ?_
              refine cr_cv (b := 133) (as := [.ref a, .int (nI k)]) (al0 := [some (.ref 133), some (.ref a), some (.int (nI k)), none]) (r := []) d_69_85 cw_69 cm_8_110 cz_72 rfl rfl (hS.i (a := 133) (by decide) (by decide)) (by rw [cw_72]; exact (hS.s (a := 133) (by decide) (by decide) rfl)) (by rw [cw_72]; decide) rfl (cr_wk (Nat.le_of_ble_eq_true rfl) (k_joinRow hS pk.2.1 (by first | exact ht | exact pi.2.2.1.t (by simp; omega) ht | exact pk.2.2.1.t (by simp; omega) ht | exact (pk.2.2.1.tr gf91).t (by simp; omega) ht) (by first | exact hn | (rw [pk.2.2.1 a (by simp; omega)]; exact hn) | (rw [gf91 a (by simp; omega), pk.2.2.1 a (by simp; omega)]; exact hn)) (by first | exact hc | exact pk.2.2.2.1.c (by simp; omega) hc | exact ((pk.2.2.2.1.u (by decide)).tr (bf91.mo (by decide))).c (by simp; omega) hc) (by omega) (by omega) (pm_per hn6 hrF) pk.2.2.2.2.2.2.2.1)) (fun v1 S1 G1 B1 J1 R1 h1 => ?_)
              obtain ⟨q0_, q1_, q2_, q3_, q4_, w85, q9_, hw85⟩ := h1
              obtain rfl := q0_
              obtain rfl := q1_.symm
              obtain rfl := q2_.symm
              obtain rfl := q3_.symm
              obtain rfl := q4_.symm
              obtain rfl := q9_
              show CR _ _ 88 [some (.ref 133), some (.ref a), some (.int (nI 1)), some (.int (nI 1)), some (.int (nI n)), some (.int (nI i)), some (.int (nI k))] [] S w2.2.1 (upr w2.2.2 137 w85) J R _
              refine cr_nx (pc' := 89) (al' := [some (.ref 133), some (.ref a), some (.int (nI 1)), some (.int (nI 1)), some (.int (nI n)), some (.int (nI i)), some (.int (nI k))]) (st' := [.ref 133]) d_69_88 (fun _ => rfl) ?_
              refine cr_nx (pc' := 91) (al' := [some (.ref 133), some (.ref a), some (.int (nI 1)), some (.int (nI 1)), some (.int (nI n)), some (.int (nI i)), some (.int (nI k))]) (st' := [.int (nI n), .ref 133]) d_69_89 (fun _ => rfl) ?_
              have hsc91 := sc_ok (k := k) hn6 hl hrF (by omega)
              refine cr_cv (b := 133) (as := [.int (nI n)]) (al0 := [some (.ref 133), some (.int (nI n)), none]) (r := []) d_69_91 cw_69 cm_8_107 cz_70 rfl rfl (hS.i (a := 133) (by decide) (by decide)) (by rw [cw_70]; exact (hS.s (a := 133) (by decide) (by decide) rfl)) (by rw [cw_70]; decide) rfl (cr_wk (Nat.le_of_ble_eq_true rfl) (k_reach (l := w2.1) (p := fun x => mkG n c k (pmE n r x)) hS pk.2.1 hn6 (fun q hq => by rw [upr_s]; exact hw85 q hq) (sc_per hn6 hl hrF (by omega)) (GrC.cg pk.2.2.2.2.1 rfl rfl rfl) (Bf_720 hn6 pk.1 hsc91.1))) (fun v1 S1 G91 B91 J1 R1 h1 => ?_)
              obtain ⟨q0_, q1_, q2_, q3_, fx91, gf91, bf91, gr91⟩ := h1
              obtain rfl := q0_
              obtain rfl := q1_.symm
              obtain rfl := q2_.symm
              obtain rfl := q3_.symm
              have hb91b := Bf_ad (k := k) hn6 hl pk.1 pk.2.2.2.2.2.1 (by omega) (by omega) (by omega)
              rw [pk.2.2.2.2.2.2.1] at hb91b
              have hb91 := hb91b.1
              have hr91 := hb91b.2.1
              show CR _ _ 94 [some (.ref 133), some (.ref a), some (.int (nI 1)), some (.int (nI 1)), some (.int (nI n)), some (.int (nI i)), some (.int (nI k))] [] S G91 B91 J R _
              refine cr_nx (pc' := 95) (al' := [some (.ref 133), some (.ref a), some (.int (nI 1)), some (.int (nI 1)), some (.int (nI n)), some (.int (nI i)), some (.int (nI k))]) (st' := [.int (nI 1)]) d_69_94 (fun _ => rfl) ?_
              refine cn_ieq (t := 111) d_69_95 (by decide) (by first | omega | assumption | exact cu_36 (by omega) (cu_lt (by omega) (by omega))) (fun c95 => ?_) (fun c95 => ?_)
              · omega
              · refine cr_nx (pc' := 99) (al' := [some (.ref 133), some (.ref a), some (.int (nI 1)), some (.int (nI 1)), some (.int (nI n)), some (.int (nI i)), some (.int (nI k))]) (st' := [.ref 133]) d_69_98 (fun _ => rfl) ?_
                refine cr_nx (pc' := 100) (al' := [some (.ref 133), some (.ref a), some (.int (nI 1)), some (.int (nI 1)), some (.int (nI n)), some (.int (nI i)), some (.int (nI k))]) (st' := [.ref a, .ref 133]) d_69_99 (fun _ => rfl) ?_
                refine cr_nx (pc' := 102) (al' := [some (.ref 133), some (.ref a), some (.int (nI 1)), some (.int (nI 1)), some (.int (nI n)), some (.int (nI i)), some (.int (nI k))]) (st' := [.int (nI k), .ref a, .ref 133]) d_69_100 (fun _ => rfl) ?_
                refine cr_cv (b := 133) (as := [.ref a, .int (nI k)]) (al0 := [some (.ref 133), some (.ref a), some (.int (nI k)), none]) (r := []) d_69_102 cw_69 cm_8_114 cz_73 rfl rfl (hS.i (a := 133) (by decide) (by decide)) (by rw [cw_73]; exact (hS.s (a := 133) (by decide) (by decide) rfl)) (by rw [cw_73]; decide) rfl (cr_wk (Nat.le_of_ble_eq_true rfl) (k_joinColumn hS fx91 (by first | exact ht | exact pi.2.2.1.t (by simp; omega) ht | exact pk.2.2.1.t (by simp; omega) ht | exact (pk.2.2.1.tr gf91).t (by simp; omega) ht) (by first | exact hn | (rw [pk.2.2.1 a (by simp; omega)]; exact hn) | (rw [gf91 a (by simp; omega), pk.2.2.1 a (by simp; omega)]; exact hn)) (by first | exact hc | exact pk.2.2.2.1.c (by simp; omega) hc | exact ((pk.2.2.2.1.u (by decide)).tr (bf91.mo (by decide))).c (by simp; omega) hc) (by omega) (by omega) (pm_per hn6 hrF) (fun q hq => by rw [bf91 136 (by decide), upr_n (by decide)]; exact pk.2.2.2.2.2.2.2.1 q hq))) (fun v1 S1 G1 B1 J1 R1 h1 => ?_)
                obtain ⟨q0_, q1_, q2_, q3_, q4_, w102, q9_, hw102⟩ := h1
                obtain rfl := q0_
                obtain rfl := q1_.symm
                obtain rfl := q2_.symm
                obtain rfl := q3_.symm
                obtain rfl := q4_.symm
                obtain rfl := q9_
                show CR _ _ 105 [some (.ref 133), some (.ref a), some (.int (nI 1)), some (.int (nI 1)), some (.int (nI n)), some (.int (nI i)), some (.int (nI k))] [] S G91 (upr B91 137 w102) J R _
                refine cr_nx (pc' := 106) (al' := [some (.ref 133), some (.ref a), some (.int (nI 1)), some (.int (nI 1)), some (.int (nI n)), some (.int (nI i)), some (.int (nI k))]) (st' := [.ref 133]) d_69_105 (fun _ => rfl) ?_
                refine cr_nx (pc' := 108) (al' := [some (.ref 133), some (.ref a), some (.int (nI 1)), some (.int (nI 1)), some (.int (nI n)), some (.int (nI i)), some (.int (nI k))]) (st' := [.int (nI n), .ref 133]) d_69_106 (fun _ => rfl) ?_
                have hsc108 := sc_ok (k := (n + k)) hn6 hl hrF (by omega)
                refine cr_cv (b := 133) (as := [.int (nI n)]) (al0 := [some (.ref 133), some (.int (nI n)), none]) (r := []) d_69_108 cw_69 cm_8_107 cz_70 rfl rfl (hS.i (a := 133) (by decide) (by decide)) (by rw [cw_70]; exact (hS.s (a := 133) (by decide) (by decide) rfl)) (by rw [cw_70]; decide) rfl (cr_wk (Nat.le_of_ble_eq_true rfl) (k_reach (l := (adL w2.1 (scN n c r k))) (p := fun x => mkG n c (n + k) (pmE n r x)) hS fx91 hn6 (fun q hq => by rw [upr_s]; exact hw102 q hq) (sc_per hn6 hl hrF (by omega)) (GrC.cg gr91 rfl rfl rfl) (Bf_720 hn6 hb91 hsc108.1))) (fun v1 S1 G108 B108 J1 R1 h1 => ?_)
                obtain ⟨q0_, q1_, q2_, q3_, fx108, gf108, bf108, gr108⟩ := h1
                obtain rfl := q0_
                obtain rfl := q1_.symm
                obtain rfl := q2_.symm
                obtain rfl := q3_.symm
                have hb108b := Bf_ad (k := (n + k)) hn6 hl hb91 hb91b.2.2.1 (by omega) (by omega) (by omega)
                rw [hr91] at hb108b
                have hb108 := hb108b.1
                have hr108 := hb108b.2.1
                show CR _ _ 111 [some (.ref 133), some (.ref a), some (.int (nI 1)), some (.int (nI 1)), some (.int (nI n)), some (.int (nI i)), some (.int (nI k))] [] S G108 B108 J R _
                refine cn_inc d_69_111 rfl rfl ?_
                show CR _ _ 114 [some (.ref 133), some (.ref a), some (.int (nI 1)), some (.int (nI 1)), some (.int (nI n)), some (.int (nI i)), some (.int (nI (k + 1)))] [] S G108 B108 J R _
                refine cr_nx (pc' := 70) (al' := [some (.ref 133), some (.ref a), some (.int (nI 1)), some (.int (nI 1)), some (.int (nI n)), some (.int (nI i)), some (.int (nI (k + 1)))]) (st' := []) d_69_114 (fun _ => rfl) ?_
                exact ihk ((adL (adL w2.1 (scN n c r k)) (scN n c r (n + k))), G108, B108) (⟨hb108, fx108, (pk.2.2.1.tr gf91).tr gf108, (((pk.2.2.2.1.u (by decide)).tr (bf91.mo (by decide))).u (by decide)).tr (bf108.mo (by decide)), gr108, hb108b.2.2.1, hr108, fun q hq => by dsimp only; rw [bf108 136 (by decide), upr_n (by decide), bf91 136 (by decide), upr_n (by decide)]; exact pk.2.2.2.2.2.2.2.1 q hq, fun z hz => (Nat.lt_succ_iff_lt_or_eq.mp hz).elim (fun e => hb108b.2.2.2.1 _ (hb91b.2.2.2.1 _ (pk.2.2.2.2.2.2.2.2.1 z e))) (fun e => by rw [e]; exact hb108b.2.2.2.1 _ (hb91b.2.2.2.2)), fun z hz => (Nat.lt_succ_iff_lt_or_eq.mp hz).elim (fun e => hb108b.2.2.2.1 _ (hb91b.2.2.2.1 _ (pk.2.2.2.2.2.2.2.2.2 z e))) (fun e => by rw [e]; exact hb108b.2.2.2.2)⟩)
        · show CR _ _ 70 [some (.ref 133), some (.ref a), some (.int (nI 1)), some (.int (nI 1)), some (.int (nI n)), some (.int (nI i)), some (.int (nI n))] [] S w2.2.1 w2.2.2 J R _
          refine cr_nx (pc' := 72) (al' := [some (.ref 133), some (.ref a), some (.int (nI 1)), some (.int (nI 1)), some (.int (nI n)), some (.int (nI i)), some (.int (nI n))]) (st' := [.int (nI n)]) d_69_70 (fun _ => rfl) ?_
          refine cr_nx (pc' := 74) (al' := [some (.ref 133), some (.ref a), some (.int (nI 1)), some (.int (nI 1)), some (.int (nI n)), some (.int (nI i)), some (.int (nI n))]) (st' := [.int (nI n), .int (nI n)]) d_69_72 (fun _ => rfl) ?_
          refine cn_cge (t := 117) d_69_74 (by decide) (by first | omega | assumption | exact cu_36 (by omega) (cu_lt (by omega) (by omega))) (by first | omega | assumption | exact cu_36 (by omega) (cu_lt (by omega) (by omega))) (fun c74 => ?_) (fun c74 => ?_)
          · refine cn_inc d_69_117 rfl rfl ?_
            show CR _ _ 120 [some (.ref 133), some (.ref a), some (.int (nI 1)), some (.int (nI 1)), some (.int (nI n)), some (.int (nI (i + 1))), some (.int (nI n))] [] S w2.2.1 w2.2.2 J R _
            refine cr_nx (pc' := 35) (al' := [some (.ref 133), some (.ref a), some (.int (nI 1)), some (.int (nI 1)), some (.int (nI n)), some (.int (nI (i + 1))), some (.int (nI n))]) (st' := []) d_69_120 (fun _ => rfl) ?_
            refine cr_dr (al1 := [some (.ref 133), some (.ref a), some (.int (nI 1)), some (.int (nI 1)), some (.int (nI n)), some (.int (nI (i + 1))), none]) (le_s (le_s (le_s (le_s (le_s (le_s (le_d rfl (le_n)))))))) ?_
            exact ihi w2 (⟨Bf_nx pk.1 pk.2.2.2.2.2.1 (by rw [pk.2.2.2.2.2.2.1]; exact fun k h1 h2 => (Nat.lt_or_ge k n).elim (fun e => pk.2.2.2.2.2.2.2.2.1 k e) (fun e => by have := pk.2.2.2.2.2.2.2.2.2 (k - n) (by omega); rw [show n + (k - n) = k by omega] at this; exact this)), pk.2.1, pk.2.2.1, pk.2.2.2.1, pk.2.2.2.2.1⟩)
          · omega
  · show CR _ _ 35 [some (.ref 133), some (.ref a), some (.int (nI 1)), some (.int (nI 1)), some (.int (nI n)), some (.int (nI (FA n))), none] [] S w_.2.1 w_.2.2 J R _
    have hlen := Bf_len pi.1
    refine cr_nx (pc' := 37) (al' := [some (.ref 133), some (.ref a), some (.int (nI 1)), some (.int (nI 1)), some (.int (nI n)), some (.int (nI (FA n))), none]) (st' := [.int (nI (FA n))]) d_69_35 (fun _ => rfl) ?_
    refine cr_nx (pc' := 38) (al' := [some (.ref 133), some (.ref a), some (.int (nI 1)), some (.int (nI 1)), some (.int (nI n)), some (.int (nI (FA n))), none]) (st' := [.ref 133, .int (nI (FA n))]) d_69_37 (fun _ => rfl) ?_
    refine cr_gf (v := .ref 140) d_69_38 cw_69 cf_8_31 (hS.i (a := 133) (by decide) (by decide)) (hS.s (a := 133) (by decide) (by decide) rfl) (by decide) (fx_133_7 pi.2.1) ?_
    refine cr_le d_69_41 (hS.i (a := 140) (by decide) (by decide)) (by decide) (by decide) (hS.s (a := 140) (by decide) (by decide) rfl) ?_
    refine cn_cge (t := 123) d_69_42 (by decide) (by first | omega | assumption | exact cu_36 (by omega) (cu_lt (by omega) (by omega))) (by first | omega | assumption | exact cu_36 (by omega) (cu_lt (by omega) (by omega))) (fun c42 => ?_) (fun c42 => ?_)
    · refine cr_nx (pc' := 124) (al' := [some (.ref 133), some (.ref a), some (.int (nI 1)), some (.int (nI 1)), some (.int (nI n)), some (.int (nI (FA n))), none]) (st' := [.ref 133]) d_69_123 (fun _ => rfl) ?_
      refine cr_gf (v := .int (nI w_.1.length)) d_69_124 cw_69 cf_8_104 (hS.i (a := 133) (by decide) (by decide)) (hS.s (a := 133) (by decide) (by decide) rfl) (by decide) pi.2.2.2.2.1 ?_
      exact cr_ri d_69_127 cx_69 rfl ⟨rfl, rfl, rfl, pi.2.1, pi.2.2.1, pi.2.2.2.1, w_.1, FA n, pi.1, by omega, rfl⟩
    · refine cr_nx (pc' := 47) (al' := [some (.ref 133), some (.ref a), some (.int (nI 1)), some (.int (nI 1)), some (.int (nI n)), some (.int (nI (FA n))), none]) (st' := [.int (nI (FA n))]) d_69_45 (fun _ => rfl) ?_
      refine cr_nx (pc' := 48) (al' := [some (.ref 133), some (.ref a), some (.int (nI 1)), some (.int (nI 1)), some (.int (nI n)), some (.int (nI (FA n))), none]) (st' := [.ref 133, .int (nI (FA n))]) d_69_47 (fun _ => rfl) ?_
      refine cr_gf (v := .int (nI w_.1.length)) d_69_48 cw_69 cf_8_104 (hS.i (a := 133) (by decide) (by decide)) (hS.s (a := 133) (by decide) (by decide) rfl) (by decide) pi.2.2.2.2.1 ?_
      refine cn_cge (t := 123) d_69_51 (by decide) (by first | omega | assumption | exact cu_36 (by omega) (cu_lt (by omega) (by omega))) (by first | omega | assumption | exact cu_36 (by omega) (cu_lt (by omega) (by omega))) (fun c51 => ?_) (fun c51 => ?_)
      · refine cr_nx (pc' := 124) (al' := [some (.ref 133), some (.ref a), some (.int (nI 1)), some (.int (nI 1)), some (.int (nI n)), some (.int (nI (FA n))), none]) (st' := [.ref 133]) d_69_123 (fun _ => rfl) ?_
        refine cr_gf (v := .int (nI w_.1.length)) d_69_124 cw_69 cf_8_104 (hS.i (a := 133) (by decide) (by decide)) (hS.s (a := 133) (by decide) (by decide) rfl) (by decide) pi.2.2.2.2.1 ?_
        exact cr_ri d_69_127 cx_69 rfl ⟨rfl, rfl, rfl, pi.2.1, pi.2.2.1, pi.2.2.2.1, w_.1, FA n, pi.1, by omega, rfl⟩
      · omega
