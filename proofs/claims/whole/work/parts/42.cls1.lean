/-! The class: tables; printed by wip/whole/gen_cls1.py. -/
/-- a table's cells: order n, cells c -/
def TabC (B : Nat → Nat → Int32) (a n : Nat) (c : Nat → Nat) : Prop := n ≤ 6 ∧ ∀ q, q < n * n → B (a + 1) q = nI (c q) ∧ c q < n
theorem bJ_t {p : Prop} [Decidable p] {S : CS} {G : Nat → Nat → Value} {B : Nat → Nat → Int32} {J : Nat → Nat → Int64} {R : Nat → Nat → Option Nat} (h : p) : cP (some (.int (bI p))) S G B J R (some (.int (nI 1))) S G B J R := ⟨by rw [bI_t h], rfl, rfl, rfl, rfl, rfl⟩
theorem bJ_f {p : Prop} [Decidable p] {S : CS} {G : Nat → Nat → Value} {B : Nat → Nat → Int32} {J : Nat → Nat → Int64} {R : Nat → Nat → Option Nat} (h : ¬ p) : cP (some (.int (bI p))) S G B J R (some (.int (nI 0))) S G B J R := ⟨by rw [bI_f h], rfl, rfl, rfl, rfl, rfl⟩
section CR
variable {k y pc : Nat} {al : AL} {r : List Value} {S : CS} {G : Nat → Nat → Value} {B : Nat → Nat → Int32} {J : Nat → Nat → Int64} {R : Nat → Nat → Option Nat} {Q : CQ}
theorem cr_beq {p : Prop} [Decidable p] {off : Int} {t : Nat} (hd : decode (am_b y) pc = .ok (.ifCond .eq off, 3)) (ht : am_tg pc off = some t) (kt : ¬ p → CR k y t al r S G B J R Q) (kf : p → CR k y (pc + 3) al r S G B J R Q) : CR k y pc al (.int (bI p) :: r) S G B J R Q := cr_ieq hd ht (fun q => kt (bI_0.mp q)) (fun q => kf (Decidable.byContradiction fun e => q (bI_0.mpr e)))
theorem cr_bne {p : Prop} [Decidable p] {off : Int} {t : Nat} (hd : decode (am_b y) pc = .ok (.ifCond .ne off, 3)) (ht : am_tg pc off = some t) (kt : p → CR k y t al r S G B J R Q) (kf : ¬ p → CR k y (pc + 3) al r S G B J R Q) : CR k y pc al (.int (bI p) :: r) S G B J R Q := cr_ine hd ht (fun q => kt (Decidable.byContradiction fun e => q (bI_0.mpr e))) (fun q => kf (bI_0.mp q))
end CR
theorem k_times {S : CS} {G : Nat → Nat → Value} {B : Nat → Nat → Int32} {J : Nat → Nat → Int64} {R : Nat → Nat → Option Nat} {a n : Nat} (ht : TabAt S G a) (hn : G a 0 = .int (nI n)) {c : Nat → Nat} (hc : TabC B a n c) {x z : Nat} (hx : x < n) (hz : z < n) : CR 0 91 0 [some (.ref a), some (.int (nI x)), some (.int (nI z))] [] S G B J R (cP (some (.int (nI (c (n * x + z))))) S G B J R) := by
  refine cr_nx (pc' := 1) (al' := [some (.ref a), some (.int (nI x)), some (.int (nI z))]) (st' := [.ref a]) d_91_0 (fun _ => rfl) ?_
  refine cr_gf (v := .ref (a + 1)) d_91_1 cw_91 cf_10_9 ht.1 ht.2.2.1 (by decide) ht.2.2.2.2 ?_
  refine cr_nx (pc' := 5) (al' := [some (.ref a), some (.int (nI x)), some (.int (nI z))]) (st' := [.ref a, .ref (a + 1)]) d_91_4 (fun _ => rfl) ?_
  refine cr_gf (v := .int (nI n)) d_91_5 cw_91 cf_10_15 ht.1 ht.2.2.1 (by decide) hn ?_
  refine cr_nx (pc' := 9) (al' := [some (.ref a), some (.int (nI x)), some (.int (nI z))]) (st' := [.int (nI x), .int (nI n), .ref (a + 1)]) d_91_8 (fun _ => rfl) ?_
  refine cn_mul d_91_9  ?_
  refine cr_nx (pc' := 11) (al' := [some (.ref a), some (.int (nI x)), some (.int (nI z))]) (st' := [.int (nI z), .int (nI (n * x)), .ref (a + 1)]) d_91_10 (fun _ => rfl) ?_
  refine cn_add d_91_11  ?_
  refine cr_ia (a := (a + 1)) (v := (nI (c (n * x + z)))) d_91_12 ht.2.1 ht.2.2.2.1 (by decide) (show (n * x) + z < 36 by exact cu_36 hc.1 (cu_lt hx hz)) (hc.2 _ (cu_lt hx hz)).1 ?_
  exact cr_ri d_91_13 cx_91 rfl ⟨rfl, rfl, rfl, rfl, rfl, rfl⟩
theorem k_put {S : CS} {G : Nat → Nat → Value} {B : Nat → Nat → Int32} {J : Nat → Nat → Int64} {R : Nat → Nat → Option Nat} {a n : Nat} (ht : TabAt S G a) (hn : G a 0 = .int (nI n)) {x z : Nat} (v : Int32) (hx : n * x + z < 36) : CR 0 95 0 [some (.ref a), some (.int (nI x)), some (.int (nI z)), some (.int v)] [] S G B J R (cP none S G (upr B (a + 1) (upd (B (a + 1)) (n * x + z) v)) J R) := by
  refine cr_nx (pc' := 1) (al' := [some (.ref a), some (.int (nI x)), some (.int (nI z)), some (.int v)]) (st' := [.ref a]) d_95_0 (fun _ => rfl) ?_
  refine cr_gf (v := .ref (a + 1)) d_95_1 cw_95 cf_10_9 ht.1 ht.2.2.1 (by decide) ht.2.2.2.2 ?_
  refine cr_nx (pc' := 5) (al' := [some (.ref a), some (.int (nI x)), some (.int (nI z)), some (.int v)]) (st' := [.ref a, .ref (a + 1)]) d_95_4 (fun _ => rfl) ?_
  refine cr_gf (v := .int (nI n)) d_95_5 cw_95 cf_10_15 ht.1 ht.2.2.1 (by decide) hn ?_
  refine cr_nx (pc' := 9) (al' := [some (.ref a), some (.int (nI x)), some (.int (nI z)), some (.int v)]) (st' := [.int (nI x), .int (nI n), .ref (a + 1)]) d_95_8 (fun _ => rfl) ?_
  refine cn_mul d_95_9  ?_
  refine cr_nx (pc' := 11) (al' := [some (.ref a), some (.int (nI x)), some (.int (nI z)), some (.int v)]) (st' := [.int (nI z), .int (nI (n * x)), .ref (a + 1)]) d_95_10 (fun _ => rfl) ?_
  refine cn_add d_95_11  ?_
  refine cr_nx (pc' := 13) (al' := [some (.ref a), some (.int (nI x)), some (.int (nI z)), some (.int v)]) (st' := [.int v, .int (nI ((n * x) + z)), .ref (a + 1)]) d_95_12 (fun _ => rfl) ?_
  refine cr_iS (a := (a + 1)) (B1 := (upr B (a + 1) (upd (B (a + 1)) ((n * x) + z) v))) d_95_13 ht.2.1 ht.2.2.2.1 (by decide) (show (n * x) + z < 36 by omega) rfl ?_
  exact cr_rv d_95_14 cx_95 ⟨rfl, rfl, rfl, rfl, rfl, rfl⟩
theorem k_hasElement {S : CS} {G : Nat → Nat → Value} {B : Nat → Nat → Int32} {J : Nat → Nat → Int64} {R : Nat → Nat → Option Nat} {a n : Nat} (ht : TabAt S G a) (hn : G a 0 = .int (nI n)) (x : Int32) : CR 0 92 0 [some (.ref a), some (.int x)] [] S G B J R (cP (some (.int (bI (0 ≤ x ∧ x < nI n)))) S G B J R) := by
  refine cr_nx (pc' := 1) (al' := [some (.ref a), some (.int x)]) (st' := [.int x]) d_92_0 (fun _ => rfl) ?_
  refine cr_ilt (t := 16) d_92_1 (by decide) (fun c1 => ?_) (fun c1 => ?_)
  · refine cn_ic (v := 0) d_92_16 (by decide) ?_
    exact cr_ri d_92_17 cx_92 (by decide) (bJ_f (fun e => by first | exact absurd e.2 (by assumption) | exact ia_no (by assumption) e.2 | exact absurd e.1 (Int32.not_le.mpr (by assumption))))
  · refine cr_nx (pc' := 5) (al' := [some (.ref a), some (.int x)]) (st' := [.int x]) d_92_4 (fun _ => rfl) ?_
    refine cr_nx (pc' := 6) (al' := [some (.ref a), some (.int x)]) (st' := [.ref a, .int x]) d_92_5 (fun _ => rfl) ?_
    refine cr_gf (v := .int (nI n)) d_92_6 cw_92 cf_10_15 ht.1 ht.2.2.1 (by decide) hn ?_
    refine cr_cge (t := 16) d_92_9 (by decide) (fun c9 => ?_) (fun c9 => ?_)
    · refine cn_ic (v := 0) d_92_16 (by decide) ?_
      exact cr_ri d_92_17 cx_92 (by decide) (bJ_f (fun e => by first | exact absurd e.2 (by assumption) | exact ia_no (by assumption) e.2 | exact absurd e.1 (Int32.not_le.mpr (by assumption))))
    · refine cn_ic (v := 1) d_92_12 (by decide) ?_
      refine cr_nx (pc' := 17) (al' := [some (.ref a), some (.int x)]) (st' := [.int (nI 1)]) d_92_13 (fun _ => rfl) ?_
      exact cr_ri d_92_17 cx_92 (by decide) (bJ_t ⟨by first | assumption | exact ia_ge (by assumption), by first | assumption | exact Int32.not_le.mp (by assumption)⟩)
theorem k_become {S : CS} {G : Nat → Nat → Value} {B : Nat → Nat → Int32} {J : Nat → Nat → Int64} {R : Nat → Nat → Option Nat} {a b n : Nat} (ht : TabAt S G a) (hu : TabAt S G b) (hab : b ≠ a) (hn : G b 0 = .int (nI n)) : CR 0 93 0 [some (.ref a), some (.ref b)] [] S G B J R (cP none S (up2 G a 0 (.int (nI n))) (upr B (a + 1) (va_cpy (B (b + 1)) (B (a + 1)) 0 0 36)) J R) := by
  refine cr_nx (pc' := 1) (al' := [some (.ref a), some (.ref b)]) (st' := [.ref a]) d_93_0 (fun _ => rfl) ?_
  refine cr_nx (pc' := 2) (al' := [some (.ref a), some (.ref b)]) (st' := [.ref b, .ref a]) d_93_1 (fun _ => rfl) ?_
  refine cr_gf (v := .int (nI n)) d_93_2 cw_93 cf_10_15 hu.1 hu.2.2.1 (by decide) hn ?_
  refine cp_10_0  d_93_5 cw_93 cf_10_15 ht.1 ht.2.2.1 (by decide) ?_
  refine cr_nx (pc' := 9) (al' := [some (.ref a), some (.ref b)]) (st' := [.ref b]) d_93_8 (fun _ => rfl) ?_
  refine cr_gf (v := .ref (b + 1)) d_93_9 cw_93 cf_10_9 hu.1 hu.2.2.1 (by decide) (by simp [up2, hab]; exact hu.2.2.2.2) ?_
  refine cn_ic (v := 0) d_93_12 (by decide) ?_
  refine cr_nx (pc' := 14) (al' := [some (.ref a), some (.ref b)]) (st' := [.ref a, .int (nI 0), .ref (b + 1)]) d_93_13 (fun _ => rfl) ?_
  refine cr_gf (v := .ref (a + 1)) d_93_14 cw_93 cf_10_9 ht.1 ht.2.2.1 (by decide) (by simp [up2]; exact ht.2.2.2.2) ?_
  refine cn_ic (v := 0) d_93_17 (by decide) ?_
  refine cn_bp (v := 36) d_93_18 (by decide) ?_
  refine cr_cy (a := (a + 1)) (a0 := (b + 1)) (B1 := (upr B (a + 1) (va_cpy (B (b + 1)) (B (a + 1)) 0 0 36))) d_93_20 cw_93 cm_10_27 ht.2.1 hu.2.1 ht.2.2.2.1 hu.2.2.2.1 (by decide) (by decide) (by decide) (by decide) rfl rfl ?_
  exact cr_rv d_93_23 cx_93 ⟨rfl, rfl, rfl, rfl, rfl, rfl⟩
