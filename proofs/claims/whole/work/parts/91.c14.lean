/-! Told cells: the first filling; printed by wip/whole/gen_c14.py. -/
def mixT (h : Nat → Nat) (T : Nat → Option Nat) (k : Nat) : Nat → Option Nat := fun q => if q < k then some (h q) else T q
def mixC (h : Nat → Nat) (k : Nat) : Nat → Nat := fun q => if q < k then h q else c00 q
theorem mixC_0 {h : Nat → Nat} : mixC h 0 = c00 := by
  funext q
  unfold mixC
  rw [if_neg (by omega)]
theorem mixC_s {h : Nat → Nat} {k : Nat} : upN (mixC h k) k (h k) = mixC h (k + 1) := by
  funext q
  unfold mixC
  by_cases e : q = k
  · rw [e, upN_s, if_pos (by omega)]
  · rw [upN_n e]
    by_cases e2 : q < k
    · rw [if_pos e2, if_pos (by omega)]
    · rw [if_neg e2, if_neg (by omega)]
theorem mixC_l {h : Nat → Nat} {k q : Nat} (hq : q < k) : mixC h k q = h q := if_pos hq
/-- over told cells there is one way -/
theorem fl_pre {n : Nat} {h : Nat → Nat} (hn : 0 < n) {U : Nat → Option Nat} : ∀ (k f : Nat), k + f = n * n → PLat n h k → (∀ q, q < k → U q = some (h q)) → nF n U (n * n) 0 c00 = nF n U f k (mixC h k)
  | 0, f, e, _, _ => by
    rw [mixC_0, show f = n * n by omega]
  | k + 1, f, e, hl, hU => by
    rw [fl_pre hn k (f + 1) (by omega) (hl.mo (by omega)) (fun q hq => hU q (by omega))]
    conv => lhs; unfold nF
    have hk := hU k (by omega)
    rw [SM_one (a := h k) (hl.1 k (by omega)) (fun v _ hv => if_neg (fun e => ?_))]
    · rw [(td_s hk).mpr rfl, fr_cg (d := h) (fun q hq => mixC_l hq), hl.fr hn, Bool.true_and, if_pos rfl, mixC_s]
    · rw [Bool.and_eq_true] at e
      exact hv ((td_s hk).mp e.1).symm
theorem hd_fm {α : Type} {g : Nat → List α} {h : α} : ∀ {n : Nat}, ((List.range n).flatMap g).head? = some h → ∃ v, v < n ∧ (g v).head? = some h ∧ ∀ u, u < v → g u = []
  | 0, e => by cases e
  | n + 1, e => by
    rw [List.range_succ, List.flatMap_append, List.head?_append] at e
    cases e2 : ((List.range n).flatMap g).head? with
    | some x =>
      rw [e2] at e
      have : x = h := Option.some.inj e
      subst this
      obtain ⟨v, hv, h1, h2⟩ := hd_fm e2
      exact ⟨v, by omega, h1, h2⟩
    | none =>
      rw [e2] at e
      refine ⟨n, by omega, by simpa using e, fun u hu => ?_⟩
      rw [List.head?_eq_none_iff] at e2
      have := List.flatMap_eq_nil_iff.mp e2 u (List.mem_range.mpr hu)
      exact this
theorem hd_mem {α : Type} {l : List α} {h : α} (e : l.head? = some h) : h ∈ l := List.mem_of_mem_head? e
/-- the head, cell by cell -/
theorem hd_st {n : Nat} {T : Nat → Option Nat} {h : Nat → Nat} (hh : Lat n h ∧ ∀ q u, q < n * n → T q = some u → h q = u) (hp : PLat n h (n * n)) {k f : Nat} (e : k + (f + 1) = n * n) (hd : (flL n T (f + 1) k (mixC h k)).head? = some h) : h k < n ∧ frB n (mixC h k) k (h k) = true ∧ (flL n T f (k + 1) (mixC h (k + 1))).head? = some h ∧ ∀ u, u < h k → tdB T k u = true → frB n (mixC h k) k u = true → flL n T f (k + 1) (upN (mixC h k) k u) = [] := by
  obtain ⟨v, hv, h1, h2⟩ := hd_fm hd
  by_cases c : (tdB T k v && frB n (mixC h k) k v) = true
  · rw [if_pos c] at h1
    rw [Bool.and_eq_true] at c
    have hpk : PLat n (mixC h k) k := (hp.mo (show k ≤ n * n by omega)).cg (fun q hq => mixC_l hq)
    have hm := fl_mem f (k + 1) _ h (by omega) (hpk.s (by omega) hv c.2) (fun q u hq hq2 => by
      by_cases e2 : q = k
      · rw [e2, upN_s]
        rw [e2] at hq2
        exact ((td_s hq2).mp c.1).symm
      · rw [upN_n e2, mixC_l (by omega)]
        exact hh.2 q u (by omega) hq2) (hd_mem h1)
    have hk : h k = v := by rw [hm.2.2 k (by omega), upN_s]
    subst hk
    rw [mixC_s] at h1
    refine ⟨hv, c.2, h1, fun u hu t1 t2 => ?_⟩
    have := h2 u hu
    rw [if_pos (by rw [t1, t2]; rfl)] at this
    exact this
  · rw [if_neg c] at h1
    cases h1
theorem lat_p {n : Nat} {h : Nat → Nat} (hl : Lat n h) : PLat n h (n * n) := by
  refine ⟨hl.1, fun x y z hy hz a b e => ?_, fun x y z hz a b e => ?_⟩
  · have hx : x < n := by
      refine Nat.lt_of_not_le fun q => ?_
      have : n * n ≤ n * x := Nat.mul_le_mul_left n q
      omega
    exact hl.2.1 x y z hx hy hz e
  · have hx : x < n := by
      refine Nat.lt_of_not_le fun q => ?_
      have : n * n ≤ n * x := Nat.mul_le_mul_left n q
      omega
    have hy : y < n := by
      refine Nat.lt_of_not_le fun q => ?_
      have : n * n ≤ n * y := Nat.mul_le_mul_left n q
      omega
    exact hl.2.2 x y z hx hy hz e
theorem hd_in {n : Nat} {T : Nat → Option Nat} {h : Nat → Nat} (hd : (flA n T).head? = some h) : ∀ (k f : Nat), k + f = n * n → (flL n T f k (mixC h k)).head? = some h
  | 0, f, e => by
    rw [mixC_0, show f = n * n by omega]
    exact hd
  | k + 1, f, e => by
    have hm := flA_m (hd_mem hd)
    exact (hd_st hm (lat_p hm.1) (show k + (f + 1) = n * n by omega) (hd_in hd k (f + 1) (by omega))).2.2.1
/-- the lowest that can be filled up -/
theorem hd_low {n : Nat} {T : Nat → Option Nat} {h : Nat → Nat} (hn : 0 < n) (hd : (flA n T).head? = some h) {k : Nat} (hk : k < n * n) (ht : T k = none) : h k < n ∧ 0 < nB n (seT (mixT h T k) k (h k)) ∧ ∀ u, u < h k → nB n (seT (mixT h T k) k u) = 0 := by
  have hm := flA_m (hd_mem hd)
  have hp := lat_p hm.1
  obtain ⟨f, hf⟩ : ∃ f, k + (f + 1) = n * n := ⟨n * n - k - 1, by omega⟩
  obtain ⟨a1, a2, a3, a4⟩ := hd_st hm hp hf (hd_in hd k (f + 1) hf)
  have key : ∀ u, u < n → nB n (seT (mixT h T k) k u) = if frB n (mixC h k) k u = true then nF n T f (k + 1) (upN (mixC h k) k u) else 0 := by
    intro u hu
    unfold nB
    rw [show (fun _ => 0 : Nat → Nat) = c00 from rfl, fl_pre hn (U := seT (mixT h T k) k u) k (f + 1) hf (hp.mo (by omega)) (fun q hq => by rw [seT_n (by omega)]; exact if_pos hq)]
    conv => lhs; unfold nF
    rw [SM_one (a := u) hu (fun v _ hv => if_neg (fun e => ?_))]
    · rw [(td_s seT_s).mpr rfl, Bool.true_and]
      by_cases c : frB n (mixC h k) k u = true
      · rw [if_pos c, if_pos c]
        exact nF_T f _ _ (fun q hq => by rw [seT_n (by omega)]; exact if_neg (by omega))
      · rw [if_neg c, if_neg c]
    · rw [Bool.and_eq_true] at e
      exact hv ((td_s seT_s).mp e.1).symm
  refine ⟨a1, ?_, fun u hu => ?_⟩
  · rw [key _ a1, if_pos a2, mixC_s, ← fl_len]
    exact List.length_pos_of_mem (hd_mem a3)
  · rw [key u (by omega)]
    by_cases c : frB n (mixC h k) k u = true
    · rw [if_pos c, ← fl_len, a4 u hu (td_n ht) c]
      rfl
    · rw [if_neg c]
theorem mixT_k {h : Nat → Nat} {T : Nat → Option Nat} {k : Nat} : mixT h T k k = T k := if_neg (Nat.lt_irrefl k)
theorem mixT_s {h : Nat → Nat} {T : Nat → Option Nat} {k q : Nat} (hq : q ≠ k) : mixT h T (k + 1) q = mixT h T k q := by
  unfold mixT
  by_cases e : q < k
  · rw [if_pos e, if_pos (by omega)]
  · rw [if_neg e, if_neg (by omega)]
theorem mixT_e {h : Nat → Nat} {T : Nat → Option Nat} {k : Nat} : mixT h T (k + 1) k = some (h k) := if_pos (Nat.lt_succ_self k)
theorem k_putLowest {S : CS} {G : Nat → Nat → Value} {B : Nat → Nat → Int32} {J : Nat → Nat → Int64} {R : Nat → Nat → Option Nat} (hS : ShOk S) (hF : FxG G) {n k p : Nat} {U : Nat → Option Nat} (hn6 : n ≤ 6) (hn : 0 < n) (hk : k < n * n) (hn86 : G 86 0 = .int (nI n)) (hU : ∀ q u, q < n * n → U q = some u → u < n) (hB : ∀ q, q < n * n → q ≠ k → B 87 q = oI (U q)) (hp : p < n) (hpos : 0 < nB n (seT U k p)) (hlow : ∀ u, u < p → nB n (seT U k u) = 0) : CR 40 22 0 [some (.ref 107), some (.ref 86), some (.int (nI k)), none] [] S G B J R (fun r S' G' B' J' R' => r = none ∧ (S' = S ∧ J' = J ∧ R' = R) ∧ Gfr [107] G G' ∧ FxG G' ∧ Bfr [87, 108, 109, 110] B B' ∧ B' 87 k = nI p ∧ ∀ q, q < n * n → q ≠ k → B' 87 q = oI (U q)) := by
  refine cn_ic (v := 0) d_22_0 (by decide) ?_
  refine cr_nx (pc' := 2) (al' := [some (.ref 107), some (.ref 86), some (.int (nI k)), some (.int (nI 0))]) (st' := []) d_22_1 (fun _ => rfl) ?_
  refine cr_upw (al := fun v w_ => [some (.ref 107), some (.ref 86), some (.int (nI k)), some (.int (nI v))]) (S := fun v w_ => S) (G := fun v w_ => w_.1) (B := fun v w_ => w_.2) (J := fun v w_ => J) (R := fun v w_ => R) (P := fun v w_ => Gfr [107] G w_.1 ∧ FxG w_.1 ∧ Bfr [87, 108, 109, 110] B w_.2 ∧ ∀ q, q < n * n → q ≠ k → w_.2 87 q = oI (U q)) (n := p) (fun v w_ hv pv ihv => ?_) (fun w_ pv => ?_) 0 (G, B) (by omega) (⟨Gfr.rf, hF, Bfr.rf, hB⟩)
  · show CR _ _ 2 [some (.ref 107), some (.ref 86), some (.int (nI k)), some (.int (nI v))] [] S w_.1 w_.2 J R _
    have hz := hlow v hv
    refine cr_nx (pc' := 3) (al' := [some (.ref 107), some (.ref 86), some (.int (nI k)), some (.int (nI v))]) (st' := [.int (nI v)]) d_22_2 (fun _ => rfl) ?_
    refine cr_nx (pc' := 4) (al' := [some (.ref 107), some (.ref 86), some (.int (nI k)), some (.int (nI v))]) (st' := [.ref 86, .int (nI v)]) d_22_3 (fun _ => rfl) ?_
    refine cr_gf (v := .int (nI n)) d_22_4 cw_22 cf_2_43 (hS.i (a := 86) (by decide) (by decide)) (hS.s (a := 86) (by decide) (by decide) rfl) (by decide) ((congrFun (pv.1 86 (by decide)) 0).trans hn86) ?_
    refine cn_cge (t := 40) d_22_7 (by decide) (by omega) (by omega) (fun c7 => ?_) (fun c7 => ?_)
    · omega
    · refine cr_nx (pc' := 11) (al' := [some (.ref 107), some (.ref 86), some (.int (nI k)), some (.int (nI v))]) (st' := [.ref 86]) d_22_10 (fun _ => rfl) ?_
      refine cr_gf (v := .ref 87) d_22_11 cw_22 cf_2_48 (hS.i (a := 86) (by decide) (by decide)) (hS.s (a := 86) (by decide) (by decide) rfl) (by decide) (fx_86_1 pv.2.1) ?_
      refine cr_nx (pc' := 15) (al' := [some (.ref 107), some (.ref 86), some (.int (nI k)), some (.int (nI v))]) (st' := [.int (nI k), .ref 87]) d_22_14 (fun _ => rfl) ?_
      refine cr_nx (pc' := 16) (al' := [some (.ref 107), some (.ref 86), some (.int (nI k)), some (.int (nI v))]) (st' := [.int (nI v), .int (nI k), .ref 87]) d_22_15 (fun _ => rfl) ?_
      refine cr_iS (a := 87) (B1 := (upr w_.2 87 (upd (w_.2 87) k (nI v)))) d_22_16 (hS.i (a := 87) (by decide) (by decide)) (hS.s (a := 87) (by decide) (by decide) rfl) (by first | decide | omega) (show k < 36 by have := Nat.mul_le_mul hn6 hn6; omega) rfl ?_
      refine cr_nx (pc' := 18) (al' := [some (.ref 107), some (.ref 86), some (.int (nI k)), some (.int (nI v))]) (st' := [.ref 107]) d_22_17 (fun _ => rfl) ?_
      refine cr_nx (pc' := 19) (al' := [some (.ref 107), some (.ref 86), some (.int (nI k)), some (.int (nI v))]) (st' := [.ref 86, .ref 107]) d_22_18 (fun _ => rfl) ?_
      refine cr_gf (v := .int (nI n)) d_22_19 cw_22 cf_2_43 (hS.i (a := 86) (by decide) (by decide)) (hS.s (a := 86) (by decide) (by decide) rfl) (by decide) ((congrFun (pv.1 86 (by decide)) 0).trans hn86) ?_
      refine cr_nx (pc' := 23) (al' := [some (.ref 107), some (.ref 86), some (.int (nI k)), some (.int (nI v))]) (st' := [.ref 86, .int (nI n), .ref 107]) d_22_22 (fun _ => rfl) ?_
      refine cr_gf (v := .ref 87) d_22_23 cw_22 cf_2_48 (hS.i (a := 86) (by decide) (by decide)) (hS.s (a := 86) (by decide) (by decide) rfl) (by decide) (fx_86_1 pv.2.1) ?_
      refine cn_ic (v := 1) d_22_26 (by decide) ?_
      refine cr_cv (b := 107) (as := [.int (nI n), .ref 87, .int (nI 1)]) (al0 := [some (.ref 107), some (.int (nI n)), some (.ref 87), some (.int (nI 1))]) (r := []) d_22_27 cw_22 cm_2_39 cz_17 rfl rfl (hS.i (a := 107) (by decide) (by decide)) (by rw [cw_17]; exact (hS.s (a := 107) (by decide) (by decide) rfl)) (by rw [cw_17]; decide) rfl (cr_wk (Nat.le_of_ble_eq_true rfl) (k_tally (b := 87) (T := seT U k v) hS pv.2.1 hn6 hn ⟨hS.i (by decide) (by decide), hS.s (by decide) (by decide) rfl, by decide⟩ (fun q u hq e_ => by by_cases e2 : q = k; (rw [e2, seT_s] at e_; cases e_; omega); (rw [seT_n e2] at e_; exact hU q u hq e_)) (fun q hq => by rw [upr_s]; by_cases e2 : q = k; (rw [e2, pk_us, seT_s]; rfl); (rw [pk_un e2, seT_n e2]; exact pv.2.2.2 q hq e2)) (by decide) (by decide))) (fun v1 S1 G1 B1 J1 R1 h1 => ?_)
      obtain ⟨q0_, ⟨q1_, q2_, q3_⟩, hg1, hf1, hb1⟩ := h1
      obtain rfl := q0_
      obtain rfl := q1_.symm
      obtain rfl := q2_.symm
      obtain rfl := q3_.symm
      show CR _ _ 30 [some (.ref 107), some (.ref 86), some (.int (nI k)), some (.int (nI v))] [.int (nI (min 1 (nB n (seT U k v))))] S G1 B1 J R _
      refine cn_zle (t := 34) d_22_30 (by decide) (by omega) (fun c30 => ?_) (fun c30 => ?_)
      · refine cn_inc d_22_34 rfl rfl ?_
        show CR _ _ 37 [some (.ref 107), some (.ref 86), some (.int (nI k)), some (.int (nI (v + 1)))] [] S G1 B1 J R _
        refine cr_nx (pc' := 2) (al' := [some (.ref 107), some (.ref 86), some (.int (nI k)), some (.int (nI (v + 1)))]) (st' := []) d_22_37 (fun _ => rfl) ?_
        exact ihv (G1, B1) (⟨pv.1.tr hg1, hf1, (pv.2.2.1.u (by simp)).tr (hb1.mo (by simp)), fun q hq e_ => by dsimp only; rw [hb1 87 (by decide), upr_s, pk_un e_]; exact pv.2.2.2 q hq e_⟩)
      · omega
  · show CR _ _ 2 [some (.ref 107), some (.ref 86), some (.int (nI k)), some (.int (nI p))] [] S w_.1 w_.2 J R _
    refine cr_nx (pc' := 3) (al' := [some (.ref 107), some (.ref 86), some (.int (nI k)), some (.int (nI p))]) (st' := [.int (nI p)]) d_22_2 (fun _ => rfl) ?_
    refine cr_nx (pc' := 4) (al' := [some (.ref 107), some (.ref 86), some (.int (nI k)), some (.int (nI p))]) (st' := [.ref 86, .int (nI p)]) d_22_3 (fun _ => rfl) ?_
    refine cr_gf (v := .int (nI n)) d_22_4 cw_22 cf_2_43 (hS.i (a := 86) (by decide) (by decide)) (hS.s (a := 86) (by decide) (by decide) rfl) (by decide) ((congrFun (pv.1 86 (by decide)) 0).trans hn86) ?_
    refine cn_cge (t := 40) d_22_7 (by decide) (by omega) (by omega) (fun c7 => ?_) (fun c7 => ?_)
    · omega
    · refine cr_nx (pc' := 11) (al' := [some (.ref 107), some (.ref 86), some (.int (nI k)), some (.int (nI p))]) (st' := [.ref 86]) d_22_10 (fun _ => rfl) ?_
      refine cr_gf (v := .ref 87) d_22_11 cw_22 cf_2_48 (hS.i (a := 86) (by decide) (by decide)) (hS.s (a := 86) (by decide) (by decide) rfl) (by decide) (fx_86_1 pv.2.1) ?_
      refine cr_nx (pc' := 15) (al' := [some (.ref 107), some (.ref 86), some (.int (nI k)), some (.int (nI p))]) (st' := [.int (nI k), .ref 87]) d_22_14 (fun _ => rfl) ?_
      refine cr_nx (pc' := 16) (al' := [some (.ref 107), some (.ref 86), some (.int (nI k)), some (.int (nI p))]) (st' := [.int (nI p), .int (nI k), .ref 87]) d_22_15 (fun _ => rfl) ?_
      refine cr_iS (a := 87) (B1 := (upr w_.2 87 (upd (w_.2 87) k (nI p)))) d_22_16 (hS.i (a := 87) (by decide) (by decide)) (hS.s (a := 87) (by decide) (by decide) rfl) (by first | decide | omega) (show k < 36 by have := Nat.mul_le_mul hn6 hn6; omega) rfl ?_
      refine cr_nx (pc' := 18) (al' := [some (.ref 107), some (.ref 86), some (.int (nI k)), some (.int (nI p))]) (st' := [.ref 107]) d_22_17 (fun _ => rfl) ?_
      refine cr_nx (pc' := 19) (al' := [some (.ref 107), some (.ref 86), some (.int (nI k)), some (.int (nI p))]) (st' := [.ref 86, .ref 107]) d_22_18 (fun _ => rfl) ?_
      refine cr_gf (v := .int (nI n)) d_22_19 cw_22 cf_2_43 (hS.i (a := 86) (by decide) (by decide)) (hS.s (a := 86) (by decide) (by decide) rfl) (by decide) ((congrFun (pv.1 86 (by decide)) 0).trans hn86) ?_
      refine cr_nx (pc' := 23) (al' := [some (.ref 107), some (.ref 86), some (.int (nI k)), some (.int (nI p))]) (st' := [.ref 86, .int (nI n), .ref 107]) d_22_22 (fun _ => rfl) ?_
      refine cr_gf (v := .ref 87) d_22_23 cw_22 cf_2_48 (hS.i (a := 86) (by decide) (by decide)) (hS.s (a := 86) (by decide) (by decide) rfl) (by decide) (fx_86_1 pv.2.1) ?_
      refine cn_ic (v := 1) d_22_26 (by decide) ?_
      refine cr_cv (b := 107) (as := [.int (nI n), .ref 87, .int (nI 1)]) (al0 := [some (.ref 107), some (.int (nI n)), some (.ref 87), some (.int (nI 1))]) (r := []) d_22_27 cw_22 cm_2_39 cz_17 rfl rfl (hS.i (a := 107) (by decide) (by decide)) (by rw [cw_17]; exact (hS.s (a := 107) (by decide) (by decide) rfl)) (by rw [cw_17]; decide) rfl (cr_wk (Nat.le_of_ble_eq_true rfl) (k_tally (b := 87) (T := seT U k p) hS pv.2.1 hn6 hn ⟨hS.i (by decide) (by decide), hS.s (by decide) (by decide) rfl, by decide⟩ (fun q u hq e_ => by by_cases e2 : q = k; (rw [e2, seT_s] at e_; cases e_; omega); (rw [seT_n e2] at e_; exact hU q u hq e_)) (fun q hq => by rw [upr_s]; by_cases e2 : q = k; (rw [e2, pk_us, seT_s]; rfl); (rw [pk_un e2, seT_n e2]; exact pv.2.2.2 q hq e2)) (by decide) (by decide))) (fun v1 S1 G1 B1 J1 R1 h1 => ?_)
      obtain ⟨q0_, ⟨q1_, q2_, q3_⟩, hg1, hf1, hb1⟩ := h1
      obtain rfl := q0_
      obtain rfl := q1_.symm
      obtain rfl := q2_.symm
      obtain rfl := q3_.symm
      show CR _ _ 30 [some (.ref 107), some (.ref 86), some (.int (nI k)), some (.int (nI p))] [.int (nI (min 1 (nB n (seT U k p))))] S G1 B1 J R _
      refine cn_zle (t := 34) d_22_30 (by decide) (by omega) (fun c30 => ?_) (fun c30 => ?_)
      · omega
      · exact cr_rv d_22_33 cx_22 ⟨rfl, ⟨rfl, rfl, rfl⟩, pv.1.tr hg1, hf1, (pv.2.2.1.u (by simp)).tr (hb1.mo (by simp)), by rw [hb1 87 (by decide), upr_s, pk_us], fun q hq e_ => by rw [hb1 87 (by decide), upr_s, pk_un e_]; exact pv.2.2.2 q hq e_⟩
theorem k_mkF_n {S : CS} {G : Nat → Nat → Value} {B : Nat → Nat → Int32} {J : Nat → Nat → Int64} {R : Nat → Nat → Option Nat} (hS : ShOk S) (hF : FxG G) {n : Nat} {T : Nat → Option Nat} (hn6 : n ≤ 6) (hn : 0 < n) (hT : ∀ q u, q < n * n → T q = some u → u < n) (hB : ∀ q, q < n * n → B 6 q = oI (T q)) (h0 : nB n T = 0) : CR 41 21 0 [some (.ref 107), some (.ref 86), some (.int (nI n)), some (.ref 6), none] [] S G B J R (fun r S' G' B' J' R' => r = some (.int (nI 0)) ∧ (S' = S ∧ J' = J ∧ R' = R) ∧ Gfr [107] G G' ∧ FxG G' ∧ Bfr [108, 109, 110] B B') := by
  refine cr_nx (pc' := 1) (al' := [some (.ref 107), some (.ref 86), some (.int (nI n)), some (.ref 6), none]) (st' := [.ref 107]) d_21_0 (fun _ => rfl) ?_
  refine cr_nx (pc' := 2) (al' := [some (.ref 107), some (.ref 86), some (.int (nI n)), some (.ref 6), none]) (st' := [.int (nI n), .ref 107]) d_21_1 (fun _ => rfl) ?_
  refine cr_nx (pc' := 3) (al' := [some (.ref 107), some (.ref 86), some (.int (nI n)), some (.ref 6), none]) (st' := [.ref 6, .int (nI n), .ref 107]) d_21_2 (fun _ => rfl) ?_
  refine cn_ic (v := 1) d_21_3 (by decide) ?_
  refine cr_cv (b := 107) (as := [.int (nI n), .ref 6, .int (nI 1)]) (al0 := [some (.ref 107), some (.int (nI n)), some (.ref 6), some (.int (nI 1))]) (r := []) d_21_4 cw_21 cm_2_39 cz_17 rfl rfl (hS.i (a := 107) (by decide) (by decide)) (by rw [cw_17]; exact (hS.s (a := 107) (by decide) (by decide) rfl)) (by rw [cw_17]; decide) rfl (cr_wk (Nat.le_of_ble_eq_true rfl) (k_tally (b := 6) (T := T) hS hF hn6 hn ⟨hS.i (by decide) (by decide), hS.s (by decide) (by decide) rfl, by decide⟩ hT hB (by decide) (by decide))) (fun v1 S1 G1 B1 J1 R1 h1 => ?_)
  obtain ⟨q0_, ⟨q1_, q2_, q3_⟩, hg1, hf1, hb1⟩ := h1
  obtain rfl := q0_
  obtain rfl := q1_.symm
  obtain rfl := q2_.symm
  obtain rfl := q3_.symm
  show CR _ _ 7 [some (.ref 107), some (.ref 86), some (.int (nI n)), some (.ref 6), none] [.int (nI (min 1 (nB n T)))] S G1 B1 J R _
  refine cn_ine (t := 12) d_21_7 (by decide) (by omega) (fun c7 => ?_) (fun c7 => ?_)
  · omega
  · refine cn_ic (v := 0) d_21_10 (by decide) ?_
    exact cr_ri d_21_11 cx_21 (by decide) ⟨rfl, ⟨rfl, rfl, rfl⟩, hg1, hf1, hb1⟩
theorem k_mkF_0 {S : CS} {G : Nat → Nat → Value} {B : Nat → Nat → Int32} {J : Nat → Nat → Int64} {R : Nat → Nat → Option Nat} (hS : ShOk S) (hF : FxG G) : CR 41 21 0 [some (.ref 107), some (.ref 86), some (.int (nI 0)), some (.ref 6), none] [] S G B J R (fun r S' G' B' J' R' => r = some (.int (nI 0)) ∧ (S' = S ∧ J' = J ∧ R' = R) ∧ Gfr [107] G G' ∧ FxG G' ∧ Bfr [108, 109, 110] B B') := by
  refine cr_nx (pc' := 1) (al' := [some (.ref 107), some (.ref 86), some (.int (nI 0)), some (.ref 6), none]) (st' := [.ref 107]) d_21_0 (fun _ => rfl) ?_
  refine cr_nx (pc' := 2) (al' := [some (.ref 107), some (.ref 86), some (.int (nI 0)), some (.ref 6), none]) (st' := [.int (nI 0), .ref 107]) d_21_1 (fun _ => rfl) ?_
  refine cr_nx (pc' := 3) (al' := [some (.ref 107), some (.ref 86), some (.int (nI 0)), some (.ref 6), none]) (st' := [.ref 6, .int (nI 0), .ref 107]) d_21_2 (fun _ => rfl) ?_
  refine cn_ic (v := 1) d_21_3 (by decide) ?_
  refine cr_cv (b := 107) (as := [.int (nI 0), .ref 6, .int (nI 1)]) (al0 := [some (.ref 107), some (.int (nI 0)), some (.ref 6), some (.int (nI 1))]) (r := []) d_21_4 cw_21 cm_2_39 cz_17 rfl rfl (hS.i (a := 107) (by decide) (by decide)) (by rw [cw_17]; exact (hS.s (a := 107) (by decide) (by decide) rfl)) (by rw [cw_17]; decide) rfl (cr_wk (Nat.le_of_ble_eq_true rfl) (k_tally0 hS hF)) (fun v1 S1 G1 B1 J1 R1 h1 => ?_)
  obtain ⟨q0_, ⟨q1_, q2_, q3_⟩, hg1, hf1, hb1⟩ := h1
  obtain rfl := q0_
  obtain rfl := q1_.symm
  obtain rfl := q2_.symm
  obtain rfl := q3_.symm
  show CR _ _ 7 [some (.ref 107), some (.ref 86), some (.int (nI 0)), some (.ref 6), none] [.int (nI 0)] S G1 B1 J R _
  refine cn_ine (t := 12) d_21_7 (by decide) (by first | omega | assumption | exact cu_36 (by omega) (cu_lt (by omega) (by omega))) (fun c7 => ?_) (fun c7 => ?_)
  · omega
  · refine cn_ic (v := 0) d_21_10 (by decide) ?_
    exact cr_ri d_21_11 cx_21 (by decide) ⟨rfl, ⟨rfl, rfl, rfl⟩, hg1, hf1, hb1⟩
theorem FxG.ut {G : Nat → Nat → Value} {v : Value} (h : FxG G) : FxG (up2 G 86 0 v) := fun e he => by
  rw [up2_n]
  · exact h e he
  · intro q
    simp only [List.mem_cons, List.mem_nil_iff, or_false, Prod.ext_iff] at he
    omega
theorem k_mkF_y {S : CS} {G : Nat → Nat → Value} {B : Nat → Nat → Int32} {J : Nat → Nat → Int64} {R : Nat → Nat → Option Nat} (hS : ShOk S) (hF : FxG G) {n : Nat} {T : Nat → Option Nat} (hn6 : n ≤ 6) (hn : 0 < n) (hT : ∀ q u, q < n * n → T q = some u → u < n) (hB : ∀ q, q < n * n → B 6 q = oI (T q)) {h : Nat → Nat} (hd : (flA n T).head? = some h) : CR 41 21 0 [some (.ref 107), some (.ref 86), some (.int (nI n)), some (.ref 6), none] [] S G B J R (fun r S' G' B' J' R' => r = some (.int (nI 1)) ∧ (S' = S ∧ J' = J ∧ R' = R) ∧ Gfr [86, 107] G G' ∧ FxG G' ∧ G' 86 0 = .int (nI n) ∧ Bfr [87, 108, 109, 110] B B' ∧ ∀ q, q < n * n → B' 87 q = nI (h q)) := by
  have hm := flA_m (hd_mem hd)
  have hpos : 0 < nB n T := by rw [← flA_n]; exact List.length_pos_of_mem (hd_mem hd)
  refine cr_nx (pc' := 1) (al' := [some (.ref 107), some (.ref 86), some (.int (nI n)), some (.ref 6), none]) (st' := [.ref 107]) d_21_0 (fun _ => rfl) ?_
  refine cr_nx (pc' := 2) (al' := [some (.ref 107), some (.ref 86), some (.int (nI n)), some (.ref 6), none]) (st' := [.int (nI n), .ref 107]) d_21_1 (fun _ => rfl) ?_
  refine cr_nx (pc' := 3) (al' := [some (.ref 107), some (.ref 86), some (.int (nI n)), some (.ref 6), none]) (st' := [.ref 6, .int (nI n), .ref 107]) d_21_2 (fun _ => rfl) ?_
  refine cn_ic (v := 1) d_21_3 (by decide) ?_
  refine cr_cv (b := 107) (as := [.int (nI n), .ref 6, .int (nI 1)]) (al0 := [some (.ref 107), some (.int (nI n)), some (.ref 6), some (.int (nI 1))]) (r := []) d_21_4 cw_21 cm_2_39 cz_17 rfl rfl (hS.i (a := 107) (by decide) (by decide)) (by rw [cw_17]; exact (hS.s (a := 107) (by decide) (by decide) rfl)) (by rw [cw_17]; decide) rfl (cr_wk (Nat.le_of_ble_eq_true rfl) (k_tally (b := 6) (T := T) hS hF hn6 hn ⟨hS.i (by decide) (by decide), hS.s (by decide) (by decide) rfl, by decide⟩ hT hB (by decide) (by decide))) (fun v1 S1 G1 B1 J1 R1 h1 => ?_)
  obtain ⟨q0_, ⟨q1_, q2_, q3_⟩, hg1, hf1, hb1⟩ := h1
  obtain rfl := q0_
  obtain rfl := q1_.symm
  obtain rfl := q2_.symm
  obtain rfl := q3_.symm
  show CR _ _ 7 [some (.ref 107), some (.ref 86), some (.int (nI n)), some (.ref 6), none] [.int (nI (min 1 (nB n T)))] S G1 B1 J R _
  refine cn_ine (t := 12) d_21_7 (by decide) (by omega) (fun c7 => ?_) (fun c7 => ?_)
  · refine cr_nx (pc' := 13) (al' := [some (.ref 107), some (.ref 86), some (.int (nI n)), some (.ref 6), none]) (st' := [.ref 86]) d_21_12 (fun _ => rfl) ?_
    refine cr_nx (pc' := 14) (al' := [some (.ref 107), some (.ref 86), some (.int (nI n)), some (.ref 6), none]) (st' := [.int (nI n), .ref 86]) d_21_13 (fun _ => rfl) ?_
    refine cp_10_0  d_21_14 cw_21 cf_2_43 (hS.i (a := 86) (by decide) (by decide)) (hS.s (a := 86) (by decide) (by decide) rfl) (by decide) ?_
    refine cr_nx (pc' := 18) (al' := [some (.ref 107), some (.ref 86), some (.int (nI n)), some (.ref 6), none]) (st' := [.ref 6]) d_21_17 (fun _ => rfl) ?_
    refine cn_ic (v := 0) d_21_18 (by decide) ?_
    refine cr_nx (pc' := 20) (al' := [some (.ref 107), some (.ref 86), some (.int (nI n)), some (.ref 6), none]) (st' := [.ref 86, .int (nI 0), .ref 6]) d_21_19 (fun _ => rfl) ?_
    refine cr_gf (v := .ref 87) d_21_20 cw_21 cf_2_48 (hS.i (a := 86) (by decide) (by decide)) (hS.s (a := 86) (by decide) (by decide) rfl) (by decide) (by simp [up2]; exact (fx_86_1 hf1)) ?_
    refine cn_ic (v := 0) d_21_23 (by decide) ?_
    refine cn_bp (v := 36) d_21_24 (by decide) ?_
    refine cr_cy (a := 87) (a0 := 6) (B1 := (upr B1 87 (va_cpy (B1 6) (B1 87) 0 0 36))) d_21_26 cw_21 cm_2_51 (hS.i (a := 87) (by decide) (by decide)) (hS.i (a := 6) (by decide) (by decide)) (hS.s (a := 87) (by decide) (by decide) rfl) (hS.s (a := 6) (by decide) (by decide) rfl) (by omega) (by omega) (by decide) (by decide) rfl rfl ?_
    refine cn_ic (v := 0) d_21_29 (by decide) ?_
    refine cr_nx (pc' := 32) (al' := [some (.ref 107), some (.ref 86), some (.int (nI n)), some (.ref 6), some (.int (nI 0))]) (st' := []) d_21_30 (fun _ => rfl) ?_
    refine cr_upw (al := fun k w_ => [some (.ref 107), some (.ref 86), some (.int (nI n)), some (.ref 6), some (.int (nI k))]) (S := fun k w_ => S) (G := fun k w_ => w_.1) (B := fun k w_ => w_.2) (J := fun k w_ => J) (R := fun k w_ => R) (P := fun k w_ => Gfr [86, 107] G w_.1 ∧ FxG w_.1 ∧ w_.1 86 0 = .int (nI n) ∧ Bfr [87, 108, 109, 110] B w_.2 ∧ ∀ q, q < n * n → w_.2 87 q = oI (mixT h T k q)) (n := n * n) (fun k w_ hk pk ihk => ?_) (fun w_ pk => ?_) 0 ((up2 G1 86 0 (.int (nI n))), (upr B1 87 (va_cpy (B1 6) (B1 87) 0 0 36))) (by omega) (⟨((hg1.mo (by simp)).u (by simp)), FxG.ut hf1, by dsimp only; rw [up2_s], ((hb1.mo (by simp)).u (by simp)), fun q hq => by dsimp only; rw [upr_s, cpy_36 (by have := Nat.mul_le_mul hn6 hn6; omega), hb1 6 (by decide)]; exact hB q hq⟩)
    · show CR _ _ 32 [some (.ref 107), some (.ref 86), some (.int (nI n)), some (.ref 6), some (.int (nI k))] [] S w_.1 w_.2 J R _
      refine cr_nx (pc' := 34) (al' := [some (.ref 107), some (.ref 86), some (.int (nI n)), some (.ref 6), some (.int (nI k))]) (st' := [.int (nI k)]) d_21_32 (fun _ => rfl) ?_
      refine cr_nx (pc' := 35) (al' := [some (.ref 107), some (.ref 86), some (.int (nI n)), some (.ref 6), some (.int (nI k))]) (st' := [.int (nI n), .int (nI k)]) d_21_34 (fun _ => rfl) ?_
      refine cr_nx (pc' := 36) (al' := [some (.ref 107), some (.ref 86), some (.int (nI n)), some (.ref 6), some (.int (nI k))]) (st' := [.int (nI n), .int (nI n), .int (nI k)]) d_21_35 (fun _ => rfl) ?_
      refine cn_mul d_21_36  ?_
      refine cn_cge (t := 64) d_21_37 (by decide) (by have := Nat.mul_le_mul hn6 hn6; omega) (by have := Nat.mul_le_mul hn6 hn6; omega) (fun c37 => ?_) (fun c37 => ?_)
      · omega
      · refine cr_nx (pc' := 41) (al' := [some (.ref 107), some (.ref 86), some (.int (nI n)), some (.ref 6), some (.int (nI k))]) (st' := [.ref 86]) d_21_40 (fun _ => rfl) ?_
        refine cr_gf (v := .ref 87) d_21_41 cw_21 cf_2_48 (hS.i (a := 86) (by decide) (by decide)) (hS.s (a := 86) (by decide) (by decide) rfl) (by decide) (fx_86_1 pk.2.1) ?_
        refine cr_nx (pc' := 46) (al' := [some (.ref 107), some (.ref 86), some (.int (nI n)), some (.ref 6), some (.int (nI k))]) (st' := [.int (nI k), .ref 87]) d_21_44 (fun _ => rfl) ?_
        refine cr_ia (a := 87) (v := (oI (T k))) d_21_46 (hS.i (a := 87) (by decide) (by decide)) (hS.s (a := 87) (by decide) (by decide) rfl) (by first | decide | omega) (show k < 36 by have := Nat.mul_le_mul hn6 hn6; omega) ((pk.2.2.2.2 k hk).trans (by rw [mixT_k])) ?_
        refine cr_nx (pc' := 48) (al' := [some (.ref 107), some (.ref 86), some (.int (nI n)), some (.ref 6), some (.int (nI k))]) (st' := [.int (-1), .int (oI (T k))]) d_21_47 (fun _ => rfl) ?_
        refine cr_cne (t := 58) d_21_48 (by decide) (fun c48 => ?_) (fun c48 => ?_)
        · obtain ⟨v, hv⟩ : ∃ v, T k = some v := by
            cases e_ : T k with
            | none => exact absurd (by rw [e_]; rfl) c48
            | some v => exact ⟨v, rfl⟩
          refine cn_inc d_21_58 rfl rfl ?_
          show CR _ _ 61 [some (.ref 107), some (.ref 86), some (.int (nI n)), some (.ref 6), some (.int (nI (k + 1)))] [] S w_.1 w_.2 J R _
          refine cr_nx (pc' := 32) (al' := [some (.ref 107), some (.ref 86), some (.int (nI n)), some (.ref 6), some (.int (nI (k + 1)))]) (st' := []) d_21_61 (fun _ => rfl) ?_
          exact ihk (w_.1, w_.2) (⟨pk.1, pk.2.1, pk.2.2.1, pk.2.2.2.1, fun q hq => by by_cases e_ : q = k; (rw [e_, mixT_e, pk.2.2.2.2 k hk, mixT_k, hv, hm.2 k v hk hv]); (rw [mixT_s e_]; exact pk.2.2.2.2 q hq)⟩)
        · have hTk := (oI_n (fun u e_ => by have := hT _ u hk e_; omega)).mp c48
          obtain ⟨hl1, hl2, hl3⟩ := hd_low hn hd hk hTk
          refine cr_nx (pc' := 52) (al' := [some (.ref 107), some (.ref 86), some (.int (nI n)), some (.ref 6), some (.int (nI k))]) (st' := [.ref 107]) d_21_51 (fun _ => rfl) ?_
          refine cr_nx (pc' := 53) (al' := [some (.ref 107), some (.ref 86), some (.int (nI n)), some (.ref 6), some (.int (nI k))]) (st' := [.ref 86, .ref 107]) d_21_52 (fun _ => rfl) ?_
          refine cr_nx (pc' := 55) (al' := [some (.ref 107), some (.ref 86), some (.int (nI n)), some (.ref 6), some (.int (nI k))]) (st' := [.int (nI k), .ref 86, .ref 107]) d_21_53 (fun _ => rfl) ?_
          refine cr_cv (b := 107) (as := [.ref 86, .int (nI k)]) (al0 := [some (.ref 107), some (.ref 86), some (.int (nI k)), none]) (r := []) d_21_55 cw_21 cm_2_57 cz_22 rfl rfl (hS.i (a := 107) (by decide) (by decide)) (by rw [cw_22]; exact (hS.s (a := 107) (by decide) (by decide) rfl)) (by rw [cw_22]; decide) rfl (cr_wk (Nat.le_of_ble_eq_true rfl) (k_putLowest (U := mixT h T k) hS pk.2.1 hn6 hn hk pk.2.2.1 (fun q u hq e_ => by unfold mixT at e_; split at e_; (cases e_; exact hm.1.1 q hq); exact hT q u hq e_) (fun q hq _ => pk.2.2.2.2 q hq) hl1 hl2 hl3)) (fun v1 S1 G2 B2 J1 R1 h1 => ?_)
          obtain ⟨q0_, ⟨q1_, q2_, q3_⟩, hg2, hf2, hb2, hb3, hb4⟩ := h1
          obtain rfl := q0_
          obtain rfl := q1_.symm
          obtain rfl := q2_.symm
          obtain rfl := q3_.symm
          show CR _ _ 58 [some (.ref 107), some (.ref 86), some (.int (nI n)), some (.ref 6), some (.int (nI k))] [] S G2 B2 J R _
          refine cn_inc d_21_58 rfl rfl ?_
          show CR _ _ 61 [some (.ref 107), some (.ref 86), some (.int (nI n)), some (.ref 6), some (.int (nI (k + 1)))] [] S G2 B2 J R _
          refine cr_nx (pc' := 32) (al' := [some (.ref 107), some (.ref 86), some (.int (nI n)), some (.ref 6), some (.int (nI (k + 1)))]) (st' := []) d_21_61 (fun _ => rfl) ?_
          exact ihk (G2, B2) (⟨pk.1.tr (hg2.mo (by simp)), hf2, by dsimp only; rw [hg2 86 (by decide)]; exact pk.2.2.1, pk.2.2.2.1.tr (hb2.mo (by simp)), fun q hq => by by_cases e_ : q = k; (rw [e_, mixT_e]; exact hb3); (rw [mixT_s e_]; exact hb4 q hq e_)⟩)
    · show CR _ _ 32 [some (.ref 107), some (.ref 86), some (.int (nI n)), some (.ref 6), some (.int (nI (n * n)))] [] S w_.1 w_.2 J R _
      refine cr_nx (pc' := 34) (al' := [some (.ref 107), some (.ref 86), some (.int (nI n)), some (.ref 6), some (.int (nI (n * n)))]) (st' := [.int (nI (n * n))]) d_21_32 (fun _ => rfl) ?_
      refine cr_nx (pc' := 35) (al' := [some (.ref 107), some (.ref 86), some (.int (nI n)), some (.ref 6), some (.int (nI (n * n)))]) (st' := [.int (nI n), .int (nI (n * n))]) d_21_34 (fun _ => rfl) ?_
      refine cr_nx (pc' := 36) (al' := [some (.ref 107), some (.ref 86), some (.int (nI n)), some (.ref 6), some (.int (nI (n * n)))]) (st' := [.int (nI n), .int (nI n), .int (nI (n * n))]) d_21_35 (fun _ => rfl) ?_
      refine cn_mul d_21_36  ?_
      refine cn_cge (t := 64) d_21_37 (by decide) (by have := Nat.mul_le_mul hn6 hn6; omega) (by have := Nat.mul_le_mul hn6 hn6; omega) (fun c37 => ?_) (fun c37 => ?_)
      · refine cn_ic (v := 1) d_21_64 (by decide) ?_
        exact cr_ri d_21_65 cx_21 (by decide) ⟨rfl, ⟨rfl, rfl, rfl⟩, pk.1, pk.2.1, pk.2.2.1, pk.2.2.2.1, fun q hq => (pk.2.2.2.2 q hq).trans (by rw [show mixT h T (n * n) q = some (h q) from if_pos hq]; rfl)⟩
      · omega
  · omega
