/-! The class: divisions, units, counts; printed by wip/whole/gen_cls2.py. -/
theorem ct_b {B : Nat → Nat → Int32} {a n : Nat} {c : Nat → Nat} (hc : TabC B a n c) {x z : Nat} (hx : x < n) (hz : z < n) : c (n * x + z) < 2 ^ 31 := by
  have := (hc.2 _ (cu_lt hx hz)).2
  have := hc.1
  omega
def undI (n : Nat) (c : Nat → Nat) (x v : Nat) : Nat := FX (fun z => decide (c (n * x + z) = v)) n
def ovrI (n : Nat) (c : Nat → Nat) (v x : Nat) : Nat := FX (fun z => decide (c (n * z + x) = v)) n
/-- a place that was sought, or -1 -/
def fxV (d n : Nat) : Int32 := if d < n then nI d else -1
theorem fxV_t {d n : Nat} (h : d < n) : nI d = fxV d n := (if_pos h).symm
theorem fxV_f {d n : Nat} (h : n ≤ d) : -1 = fxV d n := (if_neg (Nat.not_lt.mpr h)).symm
theorem k_under {S : CS} {G : Nat → Nat → Value} {B : Nat → Nat → Int32} {J : Nat → Nat → Int64} {R : Nat → Nat → Option Nat} {a n : Nat} (ht : TabAt S G a) (hn : G a 0 = .int (nI n)) {c : Nat → Nat} (hc : TabC B a n c) {x v : Nat} (hx : x < n) (hv : v < 2 ^ 31) : CR 1 102 0 [some (.ref a), some (.int (nI x)), some (.int (nI v)), none] [] S G B J R (cP (some (.int (fxV (undI n c x v) n))) S G B J R) := by
  have hn6 := hc.1
  obtain ⟨d, hd⟩ : ∃ d, d = undI n c x v := ⟨_, rfl⟩
  have hdn : d ≤ n := by rw [hd]; exact FX_le _ n
  have hu : ∀ z, z < d → ¬ c (n * x + z) = v := fun z he => of_decide_eq_false (FX_no _ n z (by rw [hd] at he; exact he))
  have hy : d < n → c (n * x + d) = v := fun h => by rw [hd] at h ⊢; exact of_decide_eq_true (FX_yes _ n h)
  refine cn_ic (v := 0) d_102_0 (by decide) ?_
  refine cr_nx (pc' := 2) (al' := [some (.ref a), some (.int (nI x)), some (.int (nI v)), some (.int (nI 0))]) (st' := []) d_102_1 (fun _ => rfl) ?_
  refine cr_up (al := fun z => [some (.ref a), some (.int (nI x)), some (.int (nI v)), some (.int (nI z))]) (S := fun _ => S) (G := fun z => G) (B := fun z => B) (J := fun z => J) (R := fun z => R) (P := fun z => True) (n := d) (fun z hz pz ihz => ?_) (fun pz => ?_) 0 (by omega) (trivial)
  · show CR _ _ 2 [some (.ref a), some (.int (nI x)), some (.int (nI v)), some (.int (nI z))] [] S G B J R _
    refine cr_nx (pc' := 3) (al' := [some (.ref a), some (.int (nI x)), some (.int (nI v)), some (.int (nI z))]) (st' := [.int (nI z)]) d_102_2 (fun _ => rfl) ?_
    refine cr_nx (pc' := 4) (al' := [some (.ref a), some (.int (nI x)), some (.int (nI v)), some (.int (nI z))]) (st' := [.ref a, .int (nI z)]) d_102_3 (fun _ => rfl) ?_
    refine cr_gf (v := .int (nI n)) d_102_4 cw_102 cf_10_15 ht.1 ht.2.2.1 (by decide) hn ?_
    refine cn_cge (t := 28) d_102_7 (by decide) (by omega) (by omega) (fun c7 => ?_) (fun c7 => ?_)
    · omega
    · refine cr_nx (pc' := 11) (al' := [some (.ref a), some (.int (nI x)), some (.int (nI v)), some (.int (nI z))]) (st' := [.ref a]) d_102_10 (fun _ => rfl) ?_
      refine cr_nx (pc' := 12) (al' := [some (.ref a), some (.int (nI x)), some (.int (nI v)), some (.int (nI z))]) (st' := [.int (nI x), .ref a]) d_102_11 (fun _ => rfl) ?_
      refine cr_nx (pc' := 13) (al' := [some (.ref a), some (.int (nI x)), some (.int (nI v)), some (.int (nI z))]) (st' := [.int (nI z), .int (nI x), .ref a]) d_102_12 (fun _ => rfl) ?_
      refine cr_pv (b := a) (as := [.int (nI x), .int (nI z)]) (al0 := [some (.ref a), some (.int (nI x)), some (.int (nI z))]) (r := []) d_102_13 cw_102 cm_10_23 cz_91 rfl rfl ht.1 (by rw [cw_91]; exact ht.2.2.1) (by rw [cw_91]; decide) rfl (by decide) (k_times ht hn hc hx (by omega)) ?_
      show CR _ _ 16 [some (.ref a), some (.int (nI x)), some (.int (nI v)), some (.int (nI z))] [.int (nI (c (n * x + z)))] S G B J R _
      refine cr_nx (pc' := 17) (al' := [some (.ref a), some (.int (nI x)), some (.int (nI v)), some (.int (nI z))]) (st' := [.int (nI v), .int (nI (c (n * x + z)))]) d_102_16 (fun _ => rfl) ?_
      refine cn_cne (t := 22) d_102_17 (by decide) (ct_b hc hx (by omega)) hv (fun c17 => ?_) (fun c17 => ?_)
      · refine cn_inc d_102_22 rfl rfl ?_
        show CR _ _ _ [some (.ref a), some (.int (nI x)), some (.int (nI v)), some (.int (nI (z + 1)))] _ _ _ _ _ _ _
        refine cr_nx (pc' := 2) (al' := [some (.ref a), some (.int (nI x)), some (.int (nI v)), some (.int (nI (z + 1)))]) (st' := []) d_102_25 (fun _ => rfl) ?_
        exact ihz (trivial)
      · exact absurd c17 (hu z hz)
  · show CR _ _ 2 [some (.ref a), some (.int (nI x)), some (.int (nI v)), some (.int (nI d))] [] S G B J R _
    refine cr_nx (pc' := 3) (al' := [some (.ref a), some (.int (nI x)), some (.int (nI v)), some (.int (nI d))]) (st' := [.int (nI d)]) d_102_2 (fun _ => rfl) ?_
    refine cr_nx (pc' := 4) (al' := [some (.ref a), some (.int (nI x)), some (.int (nI v)), some (.int (nI d))]) (st' := [.ref a, .int (nI d)]) d_102_3 (fun _ => rfl) ?_
    refine cr_gf (v := .int (nI n)) d_102_4 cw_102 cf_10_15 ht.1 ht.2.2.1 (by decide) hn ?_
    refine cn_cge (t := 28) d_102_7 (by decide) (by omega) (by omega) (fun c7 => ?_) (fun c7 => ?_)
    · refine cr_nx (pc' := 29) (al' := [some (.ref a), some (.int (nI x)), some (.int (nI v)), some (.int (nI d))]) (st' := [.int (-1)]) d_102_28 (fun _ => rfl) ?_
      exact cr_ri d_102_29 cx_102 rfl ⟨by rw [fxV_f c7, hd], rfl, rfl, rfl, rfl, rfl⟩
    · refine cr_nx (pc' := 11) (al' := [some (.ref a), some (.int (nI x)), some (.int (nI v)), some (.int (nI d))]) (st' := [.ref a]) d_102_10 (fun _ => rfl) ?_
      refine cr_nx (pc' := 12) (al' := [some (.ref a), some (.int (nI x)), some (.int (nI v)), some (.int (nI d))]) (st' := [.int (nI x), .ref a]) d_102_11 (fun _ => rfl) ?_
      refine cr_nx (pc' := 13) (al' := [some (.ref a), some (.int (nI x)), some (.int (nI v)), some (.int (nI d))]) (st' := [.int (nI d), .int (nI x), .ref a]) d_102_12 (fun _ => rfl) ?_
      refine cr_pv (b := a) (as := [.int (nI x), .int (nI d)]) (al0 := [some (.ref a), some (.int (nI x)), some (.int (nI d))]) (r := []) d_102_13 cw_102 cm_10_23 cz_91 rfl rfl ht.1 (by rw [cw_91]; exact ht.2.2.1) (by rw [cw_91]; decide) rfl (by decide) (k_times ht hn hc hx (by omega)) ?_
      show CR _ _ 16 [some (.ref a), some (.int (nI x)), some (.int (nI v)), some (.int (nI d))] [.int (nI (c (n * x + d)))] S G B J R _
      refine cr_nx (pc' := 17) (al' := [some (.ref a), some (.int (nI x)), some (.int (nI v)), some (.int (nI d))]) (st' := [.int (nI v), .int (nI (c (n * x + d)))]) d_102_16 (fun _ => rfl) ?_
      refine cn_cne (t := 22) d_102_17 (by decide) (ct_b hc hx (by omega)) hv (fun c17 => ?_) (fun c17 => ?_)
      · exact absurd (hy c7) c17
      · refine cr_nx (pc' := 21) (al' := [some (.ref a), some (.int (nI x)), some (.int (nI v)), some (.int (nI d))]) (st' := [.int (nI d)]) d_102_20 (fun _ => rfl) ?_
        exact cr_ri d_102_21 cx_102 rfl ⟨by rw [fxV_t c7, hd], rfl, rfl, rfl, rfl, rfl⟩
theorem k_over {S : CS} {G : Nat → Nat → Value} {B : Nat → Nat → Int32} {J : Nat → Nat → Int64} {R : Nat → Nat → Option Nat} {a n : Nat} (ht : TabAt S G a) (hn : G a 0 = .int (nI n)) {c : Nat → Nat} (hc : TabC B a n c) {x v : Nat} (hx : x < n) (hv : v < 2 ^ 31) : CR 1 97 0 [some (.ref a), some (.int (nI v)), some (.int (nI x)), none] [] S G B J R (cP (some (.int (fxV (ovrI n c v x) n))) S G B J R) := by
  have hn6 := hc.1
  obtain ⟨d, hd⟩ : ∃ d, d = ovrI n c v x := ⟨_, rfl⟩
  have hdn : d ≤ n := by rw [hd]; exact FX_le _ n
  have hu : ∀ z, z < d → ¬ c (n * z + x) = v := fun z he => of_decide_eq_false (FX_no _ n z (by rw [hd] at he; exact he))
  have hy : d < n → c (n * d + x) = v := fun h => by rw [hd] at h ⊢; exact of_decide_eq_true (FX_yes _ n h)
  refine cn_ic (v := 0) d_97_0 (by decide) ?_
  refine cr_nx (pc' := 2) (al' := [some (.ref a), some (.int (nI v)), some (.int (nI x)), some (.int (nI 0))]) (st' := []) d_97_1 (fun _ => rfl) ?_
  refine cr_up (al := fun z => [some (.ref a), some (.int (nI v)), some (.int (nI x)), some (.int (nI z))]) (S := fun _ => S) (G := fun z => G) (B := fun z => B) (J := fun z => J) (R := fun z => R) (P := fun z => True) (n := d) (fun z hz pz ihz => ?_) (fun pz => ?_) 0 (by omega) (trivial)
  · show CR _ _ 2 [some (.ref a), some (.int (nI v)), some (.int (nI x)), some (.int (nI z))] [] S G B J R _
    refine cr_nx (pc' := 3) (al' := [some (.ref a), some (.int (nI v)), some (.int (nI x)), some (.int (nI z))]) (st' := [.int (nI z)]) d_97_2 (fun _ => rfl) ?_
    refine cr_nx (pc' := 4) (al' := [some (.ref a), some (.int (nI v)), some (.int (nI x)), some (.int (nI z))]) (st' := [.ref a, .int (nI z)]) d_97_3 (fun _ => rfl) ?_
    refine cr_gf (v := .int (nI n)) d_97_4 cw_97 cf_10_15 ht.1 ht.2.2.1 (by decide) hn ?_
    refine cn_cge (t := 28) d_97_7 (by decide) (by omega) (by omega) (fun c7 => ?_) (fun c7 => ?_)
    · omega
    · refine cr_nx (pc' := 11) (al' := [some (.ref a), some (.int (nI v)), some (.int (nI x)), some (.int (nI z))]) (st' := [.ref a]) d_97_10 (fun _ => rfl) ?_
      refine cr_nx (pc' := 12) (al' := [some (.ref a), some (.int (nI v)), some (.int (nI x)), some (.int (nI z))]) (st' := [.int (nI z), .ref a]) d_97_11 (fun _ => rfl) ?_
      refine cr_nx (pc' := 13) (al' := [some (.ref a), some (.int (nI v)), some (.int (nI x)), some (.int (nI z))]) (st' := [.int (nI x), .int (nI z), .ref a]) d_97_12 (fun _ => rfl) ?_
      refine cr_pv (b := a) (as := [.int (nI z), .int (nI x)]) (al0 := [some (.ref a), some (.int (nI z)), some (.int (nI x))]) (r := []) d_97_13 cw_97 cm_10_23 cz_91 rfl rfl ht.1 (by rw [cw_91]; exact ht.2.2.1) (by rw [cw_91]; decide) rfl (by decide) (k_times ht hn hc (by omega) hx) ?_
      show CR _ _ 16 [some (.ref a), some (.int (nI v)), some (.int (nI x)), some (.int (nI z))] [.int (nI (c (n * z + x)))] S G B J R _
      refine cr_nx (pc' := 17) (al' := [some (.ref a), some (.int (nI v)), some (.int (nI x)), some (.int (nI z))]) (st' := [.int (nI v), .int (nI (c (n * z + x)))]) d_97_16 (fun _ => rfl) ?_
      refine cn_cne (t := 22) d_97_17 (by decide) (ct_b hc (by omega) hx) hv (fun c17 => ?_) (fun c17 => ?_)
      · refine cn_inc d_97_22 rfl rfl ?_
        show CR _ _ _ [some (.ref a), some (.int (nI v)), some (.int (nI x)), some (.int (nI (z + 1)))] _ _ _ _ _ _ _
        refine cr_nx (pc' := 2) (al' := [some (.ref a), some (.int (nI v)), some (.int (nI x)), some (.int (nI (z + 1)))]) (st' := []) d_97_25 (fun _ => rfl) ?_
        exact ihz (trivial)
      · exact absurd c17 (hu z hz)
  · show CR _ _ 2 [some (.ref a), some (.int (nI v)), some (.int (nI x)), some (.int (nI d))] [] S G B J R _
    refine cr_nx (pc' := 3) (al' := [some (.ref a), some (.int (nI v)), some (.int (nI x)), some (.int (nI d))]) (st' := [.int (nI d)]) d_97_2 (fun _ => rfl) ?_
    refine cr_nx (pc' := 4) (al' := [some (.ref a), some (.int (nI v)), some (.int (nI x)), some (.int (nI d))]) (st' := [.ref a, .int (nI d)]) d_97_3 (fun _ => rfl) ?_
    refine cr_gf (v := .int (nI n)) d_97_4 cw_97 cf_10_15 ht.1 ht.2.2.1 (by decide) hn ?_
    refine cn_cge (t := 28) d_97_7 (by decide) (by omega) (by omega) (fun c7 => ?_) (fun c7 => ?_)
    · refine cr_nx (pc' := 29) (al' := [some (.ref a), some (.int (nI v)), some (.int (nI x)), some (.int (nI d))]) (st' := [.int (-1)]) d_97_28 (fun _ => rfl) ?_
      exact cr_ri d_97_29 cx_97 rfl ⟨by rw [fxV_f c7, hd], rfl, rfl, rfl, rfl, rfl⟩
    · refine cr_nx (pc' := 11) (al' := [some (.ref a), some (.int (nI v)), some (.int (nI x)), some (.int (nI d))]) (st' := [.ref a]) d_97_10 (fun _ => rfl) ?_
      refine cr_nx (pc' := 12) (al' := [some (.ref a), some (.int (nI v)), some (.int (nI x)), some (.int (nI d))]) (st' := [.int (nI d), .ref a]) d_97_11 (fun _ => rfl) ?_
      refine cr_nx (pc' := 13) (al' := [some (.ref a), some (.int (nI v)), some (.int (nI x)), some (.int (nI d))]) (st' := [.int (nI x), .int (nI d), .ref a]) d_97_12 (fun _ => rfl) ?_
      refine cr_pv (b := a) (as := [.int (nI d), .int (nI x)]) (al0 := [some (.ref a), some (.int (nI d)), some (.int (nI x))]) (r := []) d_97_13 cw_97 cm_10_23 cz_91 rfl rfl ht.1 (by rw [cw_91]; exact ht.2.2.1) (by rw [cw_91]; decide) rfl (by decide) (k_times ht hn hc (by omega) hx) ?_
      show CR _ _ 16 [some (.ref a), some (.int (nI v)), some (.int (nI x)), some (.int (nI d))] [.int (nI (c (n * d + x)))] S G B J R _
      refine cr_nx (pc' := 17) (al' := [some (.ref a), some (.int (nI v)), some (.int (nI x)), some (.int (nI d))]) (st' := [.int (nI v), .int (nI (c (n * d + x)))]) d_97_16 (fun _ => rfl) ?_
      refine cn_cne (t := 22) d_97_17 (by decide) (ct_b hc (by omega) hx) hv (fun c17 => ?_) (fun c17 => ?_)
      · exact absurd (hy c7) c17
      · refine cr_nx (pc' := 21) (al' := [some (.ref a), some (.int (nI v)), some (.int (nI x)), some (.int (nI d))]) (st' := [.int (nI d)]) d_97_20 (fun _ => rfl) ?_
        exact cr_ri d_97_21 cx_97 rfl ⟨by rw [fxV_t c7, hd], rfl, rfl, rfl, rfl, rfl⟩
theorem k_joins {S : CS} {G : Nat → Nat → Value} {B : Nat → Nat → Int32} {J : Nat → Nat → Int64} {R : Nat → Nat → Option Nat} {a n : Nat} (ht : TabAt S G a) (hn : G a 0 = .int (nI n)) {c : Nat → Nat} (hc : TabC B a n c) {x y z : Nat} (hx : x < n) (hy : y < n) (hz : z < n) : CR 1 58 0 [some (.ref a), some (.int (nI x)), some (.int (nI y)), some (.int (nI z))] [] S G B J R (cP (some (.int (bI (c (n * x + c (n * y + z)) = c (n * c (n * x + y) + z))))) S G B J R) := by
  refine cr_nx (pc' := 1) (al' := [some (.ref a), some (.int (nI x)), some (.int (nI y)), some (.int (nI z))]) (st' := [.ref a]) d_58_0 (fun _ => rfl) ?_
  refine cr_nx (pc' := 2) (al' := [some (.ref a), some (.int (nI x)), some (.int (nI y)), some (.int (nI z))]) (st' := [.int (nI x), .ref a]) d_58_1 (fun _ => rfl) ?_
  refine cr_nx (pc' := 3) (al' := [some (.ref a), some (.int (nI x)), some (.int (nI y)), some (.int (nI z))]) (st' := [.ref a, .int (nI x), .ref a]) d_58_2 (fun _ => rfl) ?_
  refine cr_nx (pc' := 4) (al' := [some (.ref a), some (.int (nI x)), some (.int (nI y)), some (.int (nI z))]) (st' := [.int (nI y), .ref a, .int (nI x), .ref a]) d_58_3 (fun _ => rfl) ?_
  refine cr_nx (pc' := 5) (al' := [some (.ref a), some (.int (nI x)), some (.int (nI y)), some (.int (nI z))]) (st' := [.int (nI z), .int (nI y), .ref a, .int (nI x), .ref a]) d_58_4 (fun _ => rfl) ?_
  refine cr_pv (b := a) (as := [.int (nI y), .int (nI z)]) (al0 := [some (.ref a), some (.int (nI y)), some (.int (nI z))]) (r := [.int (nI x), .ref a]) d_58_5 cw_58 cm_7_29 cz_91 rfl rfl ht.1 (by rw [cw_91]; exact ht.2.2.1) (by rw [cw_91]; decide) rfl (by decide) (k_times ht hn hc hy hz) ?_
  show CR _ _ 8 [some (.ref a), some (.int (nI x)), some (.int (nI y)), some (.int (nI z))] [.int (nI (c (n * y + z))), .int (nI x), .ref a] S G B J R _
  refine cr_pv (b := a) (as := [.int (nI x), .int (nI (c (n * y + z)))]) (al0 := [some (.ref a), some (.int (nI x)), some (.int (nI (c (n * y + z))))]) (r := []) d_58_8 cw_58 cm_7_29 cz_91 rfl rfl ht.1 (by rw [cw_91]; exact ht.2.2.1) (by rw [cw_91]; decide) rfl (by decide) (k_times ht hn hc hx (hc.2 _ (cu_lt hy hz)).2) ?_
  show CR _ _ 11 [some (.ref a), some (.int (nI x)), some (.int (nI y)), some (.int (nI z))] [.int (nI (c (n * x + (c (n * y + z)))))] S G B J R _
  refine cr_nx (pc' := 12) (al' := [some (.ref a), some (.int (nI x)), some (.int (nI y)), some (.int (nI z))]) (st' := [.ref a, .int (nI (c (n * x + (c (n * y + z)))))]) d_58_11 (fun _ => rfl) ?_
  refine cr_nx (pc' := 13) (al' := [some (.ref a), some (.int (nI x)), some (.int (nI y)), some (.int (nI z))]) (st' := [.ref a, .ref a, .int (nI (c (n * x + (c (n * y + z)))))]) d_58_12 (fun _ => rfl) ?_
  refine cr_nx (pc' := 14) (al' := [some (.ref a), some (.int (nI x)), some (.int (nI y)), some (.int (nI z))]) (st' := [.int (nI x), .ref a, .ref a, .int (nI (c (n * x + (c (n * y + z)))))]) d_58_13 (fun _ => rfl) ?_
  refine cr_nx (pc' := 15) (al' := [some (.ref a), some (.int (nI x)), some (.int (nI y)), some (.int (nI z))]) (st' := [.int (nI y), .int (nI x), .ref a, .ref a, .int (nI (c (n * x + (c (n * y + z)))))]) d_58_14 (fun _ => rfl) ?_
  refine cr_pv (b := a) (as := [.int (nI x), .int (nI y)]) (al0 := [some (.ref a), some (.int (nI x)), some (.int (nI y))]) (r := [.ref a, .int (nI (c (n * x + (c (n * y + z)))))]) d_58_15 cw_58 cm_7_29 cz_91 rfl rfl ht.1 (by rw [cw_91]; exact ht.2.2.1) (by rw [cw_91]; decide) rfl (by decide) (k_times ht hn hc hx hy) ?_
  show CR _ _ 18 [some (.ref a), some (.int (nI x)), some (.int (nI y)), some (.int (nI z))] [.int (nI (c (n * x + y))), .ref a, .int (nI (c (n * x + (c (n * y + z)))))] S G B J R _
  refine cr_nx (pc' := 19) (al' := [some (.ref a), some (.int (nI x)), some (.int (nI y)), some (.int (nI z))]) (st' := [.int (nI z), .int (nI (c (n * x + y))), .ref a, .int (nI (c (n * x + (c (n * y + z)))))]) d_58_18 (fun _ => rfl) ?_
  refine cr_pv (b := a) (as := [.int (nI (c (n * x + y))), .int (nI z)]) (al0 := [some (.ref a), some (.int (nI (c (n * x + y)))), some (.int (nI z))]) (r := [.int (nI (c (n * x + (c (n * y + z)))))]) d_58_19 cw_58 cm_7_29 cz_91 rfl rfl ht.1 (by rw [cw_91]; exact ht.2.2.1) (by rw [cw_91]; decide) rfl (by decide) (k_times ht hn hc (hc.2 _ (cu_lt hx hy)).2 hz) ?_
  show CR _ _ 22 [some (.ref a), some (.int (nI x)), some (.int (nI y)), some (.int (nI z))] [.int (nI (c (n * (c (n * x + y)) + z))), .int (nI (c (n * x + (c (n * y + z)))))] S G B J R _
  refine cn_cne (t := 29) d_58_22 (by decide) (ct_b hc hx (hc.2 _ (cu_lt hy hz)).2) (ct_b hc (hc.2 _ (cu_lt hx hy)).2 hz) (fun c22 => ?_) (fun c22 => ?_)
  · refine cn_ic (v := 0) d_58_29 (by decide) ?_
    exact cr_ri d_58_30 cx_58 (by decide) (bJ_f c22)
  · refine cn_ic (v := 1) d_58_25 (by decide) ?_
    refine cr_nx (pc' := 30) (al' := [some (.ref a), some (.int (nI x)), some (.int (nI y)), some (.int (nI z))]) (st' := [.int (nI 1)]) d_58_26 (fun _ => rfl) ?_
    exact cr_ri d_58_30 cx_58 (by decide) (bJ_t c22)
theorem cr_al {k y pc : Nat} {al al1 : AL} {st : List Value} {S : CS} {G : Nat → Nat → Value} {B : Nat → Nat → Int32} {J : Nat → Nat → Int64} {R : Nat → Nat → Option Nat} {Q : CQ} (e : al = al1) (kk : CR k y pc al1 st S G B J R Q) : CR k y pc al st S G B J R Q := by
  rw [e]
  exact kk
theorem k_joinedAlike {S : CS} {G : Nat → Nat → Value} {B : Nat → Nat → Int32} {J : Nat → Nat → Int64} {R : Nat → Nat → Option Nat} {a n : Nat} (ht : TabAt S G a) (hn : G a 0 = .int (nI n)) {c : Nat → Nat} (hc : TabC B a n c) : CR 2 61 0 [some (.ref a), none, none, none, none] [] S G B J R (cP (some (.int (nI (asN n c)))) S G B J R) := by
  have hn6 := hc.1
  refine cn_ic (v := 0) d_61_0 (by decide) ?_
  refine cr_nx (pc' := 2) (al' := [some (.ref a), some (.int (nI 0)), none, none, none]) (st' := []) d_61_1 (fun _ => rfl) ?_
  refine cn_ic (v := 0) d_61_2 (by decide) ?_
  refine cr_nx (pc' := 4) (al' := [some (.ref a), some (.int (nI 0)), some (.int (nI 0)), none, none]) (st' := []) d_61_3 (fun _ => rfl) ?_
  refine cr_up (al := fun x => [some (.ref a), some (.int (nI (SM (fun x => SM (fun y => SM (fun z => if c (n * x + c (n * y + z)) = c (n * c (n * x + y) + z) then 1 else 0) n) n) x))), some (.int (nI x)), none, none]) (S := fun _ => S) (G := fun x => G) (B := fun x => B) (J := fun x => J) (R := fun x => R) (P := fun x => True) (n := n) (fun x hx px ihx => ?_) (fun px => ?_) 0 (by omega) (trivial)
  · show CR _ _ 4 [some (.ref a), some (.int (nI (SM (fun x => SM (fun y => SM (fun z => if c (n * x + c (n * y + z)) = c (n * c (n * x + y) + z) then 1 else 0) n) n) x))), some (.int (nI x)), none, none] [] S G B J R _
    refine cr_nx (pc' := 5) (al' := [some (.ref a), some (.int (nI (SM (fun x => SM (fun y => SM (fun z => if c (n * x + c (n * y + z)) = c (n * c (n * x + y) + z) then 1 else 0) n) n) x))), some (.int (nI x)), none, none]) (st' := [.int (nI x)]) d_61_4 (fun _ => rfl) ?_
    refine cr_nx (pc' := 6) (al' := [some (.ref a), some (.int (nI (SM (fun x => SM (fun y => SM (fun z => if c (n * x + c (n * y + z)) = c (n * c (n * x + y) + z) then 1 else 0) n) n) x))), some (.int (nI x)), none, none]) (st' := [.ref a, .int (nI x)]) d_61_5 (fun _ => rfl) ?_
    refine cr_gf (v := .int (nI n)) d_61_6 cw_61 cf_7_21 ht.1 ht.2.2.1 (by decide) hn ?_
    refine cn_cge (t := 66) d_61_9 (by decide) (by omega) (by omega) (fun c9 => ?_) (fun c9 => ?_)
    · omega
    · refine cn_ic (v := 0) d_61_12 (by decide) ?_
      refine cr_nx (pc' := 14) (al' := [some (.ref a), some (.int (nI (SM (fun x => SM (fun y => SM (fun z => if c (n * x + c (n * y + z)) = c (n * c (n * x + y) + z) then 1 else 0) n) n) x))), some (.int (nI x)), some (.int (nI 0)), none]) (st' := []) d_61_13 (fun _ => rfl) ?_
      refine cr_up (al := fun y => [some (.ref a), some (.int (nI (SM (fun x => SM (fun y => SM (fun z => if c (n * x + c (n * y + z)) = c (n * c (n * x + y) + z) then 1 else 0) n) n) x + SM (fun y => SM (fun z => if c (n * x + c (n * y + z)) = c (n * c (n * x + y) + z) then 1 else 0) n) y))), some (.int (nI x)), some (.int (nI y)), none]) (S := fun _ => S) (G := fun y => G) (B := fun y => B) (J := fun y => J) (R := fun y => R) (P := fun y => True) (n := n) (fun y hy py ihy => ?_) (fun py => ?_) 0 (by omega) (trivial)
      · show CR _ _ 14 [some (.ref a), some (.int (nI (SM (fun x => SM (fun y => SM (fun z => if c (n * x + c (n * y + z)) = c (n * c (n * x + y) + z) then 1 else 0) n) n) x + SM (fun y => SM (fun z => if c (n * x + c (n * y + z)) = c (n * c (n * x + y) + z) then 1 else 0) n) y))), some (.int (nI x)), some (.int (nI y)), none] [] S G B J R _
        refine cr_nx (pc' := 15) (al' := [some (.ref a), some (.int (nI (SM (fun x => SM (fun y => SM (fun z => if c (n * x + c (n * y + z)) = c (n * c (n * x + y) + z) then 1 else 0) n) n) x + SM (fun y => SM (fun z => if c (n * x + c (n * y + z)) = c (n * c (n * x + y) + z) then 1 else 0) n) y))), some (.int (nI x)), some (.int (nI y)), none]) (st' := [.int (nI y)]) d_61_14 (fun _ => rfl) ?_
        refine cr_nx (pc' := 16) (al' := [some (.ref a), some (.int (nI (SM (fun x => SM (fun y => SM (fun z => if c (n * x + c (n * y + z)) = c (n * c (n * x + y) + z) then 1 else 0) n) n) x + SM (fun y => SM (fun z => if c (n * x + c (n * y + z)) = c (n * c (n * x + y) + z) then 1 else 0) n) y))), some (.int (nI x)), some (.int (nI y)), none]) (st' := [.ref a, .int (nI y)]) d_61_15 (fun _ => rfl) ?_
        refine cr_gf (v := .int (nI n)) d_61_16 cw_61 cf_7_21 ht.1 ht.2.2.1 (by decide) hn ?_
        refine cn_cge (t := 60) d_61_19 (by decide) (by omega) (by omega) (fun c19 => ?_) (fun c19 => ?_)
        · omega
        · refine cn_ic (v := 0) d_61_22 (by decide) ?_
          refine cr_nx (pc' := 25) (al' := [some (.ref a), some (.int (nI (SM (fun x => SM (fun y => SM (fun z => if c (n * x + c (n * y + z)) = c (n * c (n * x + y) + z) then 1 else 0) n) n) x + SM (fun y => SM (fun z => if c (n * x + c (n * y + z)) = c (n * c (n * x + y) + z) then 1 else 0) n) y))), some (.int (nI x)), some (.int (nI y)), some (.int (nI 0))]) (st' := []) d_61_23 (fun _ => rfl) ?_
          refine cr_up (al := fun z => [some (.ref a), some (.int (nI (SM (fun x => SM (fun y => SM (fun z => if c (n * x + c (n * y + z)) = c (n * c (n * x + y) + z) then 1 else 0) n) n) x + SM (fun y => SM (fun z => if c (n * x + c (n * y + z)) = c (n * c (n * x + y) + z) then 1 else 0) n) y + SM (fun z => if c (n * x + c (n * y + z)) = c (n * c (n * x + y) + z) then 1 else 0) z))), some (.int (nI x)), some (.int (nI y)), some (.int (nI z))]) (S := fun _ => S) (G := fun z => G) (B := fun z => B) (J := fun z => J) (R := fun z => R) (P := fun z => True) (n := n) (fun z hz pz ihz => ?_) (fun pz => ?_) 0 (by omega) (trivial)
          · show CR _ _ 25 [some (.ref a), some (.int (nI (SM (fun x => SM (fun y => SM (fun z => if c (n * x + c (n * y + z)) = c (n * c (n * x + y) + z) then 1 else 0) n) n) x + SM (fun y => SM (fun z => if c (n * x + c (n * y + z)) = c (n * c (n * x + y) + z) then 1 else 0) n) y + SM (fun z => if c (n * x + c (n * y + z)) = c (n * c (n * x + y) + z) then 1 else 0) z))), some (.int (nI x)), some (.int (nI y)), some (.int (nI z))] [] S G B J R _
            refine cr_nx (pc' := 27) (al' := [some (.ref a), some (.int (nI (SM (fun x => SM (fun y => SM (fun z => if c (n * x + c (n * y + z)) = c (n * c (n * x + y) + z) then 1 else 0) n) n) x + SM (fun y => SM (fun z => if c (n * x + c (n * y + z)) = c (n * c (n * x + y) + z) then 1 else 0) n) y + SM (fun z => if c (n * x + c (n * y + z)) = c (n * c (n * x + y) + z) then 1 else 0) z))), some (.int (nI x)), some (.int (nI y)), some (.int (nI z))]) (st' := [.int (nI z)]) d_61_25 (fun _ => rfl) ?_
            refine cr_nx (pc' := 28) (al' := [some (.ref a), some (.int (nI (SM (fun x => SM (fun y => SM (fun z => if c (n * x + c (n * y + z)) = c (n * c (n * x + y) + z) then 1 else 0) n) n) x + SM (fun y => SM (fun z => if c (n * x + c (n * y + z)) = c (n * c (n * x + y) + z) then 1 else 0) n) y + SM (fun z => if c (n * x + c (n * y + z)) = c (n * c (n * x + y) + z) then 1 else 0) z))), some (.int (nI x)), some (.int (nI y)), some (.int (nI z))]) (st' := [.ref a, .int (nI z)]) d_61_27 (fun _ => rfl) ?_
            refine cr_gf (v := .int (nI n)) d_61_28 cw_61 cf_7_21 ht.1 ht.2.2.1 (by decide) hn ?_
            refine cn_cge (t := 54) d_61_31 (by decide) (by omega) (by omega) (fun c31 => ?_) (fun c31 => ?_)
            · omega
            · refine cr_nx (pc' := 35) (al' := [some (.ref a), some (.int (nI (SM (fun x => SM (fun y => SM (fun z => if c (n * x + c (n * y + z)) = c (n * c (n * x + y) + z) then 1 else 0) n) n) x + SM (fun y => SM (fun z => if c (n * x + c (n * y + z)) = c (n * c (n * x + y) + z) then 1 else 0) n) y + SM (fun z => if c (n * x + c (n * y + z)) = c (n * c (n * x + y) + z) then 1 else 0) z))), some (.int (nI x)), some (.int (nI y)), some (.int (nI z))]) (st' := [.ref a]) d_61_34 (fun _ => rfl) ?_
              refine cr_nx (pc' := 36) (al' := [some (.ref a), some (.int (nI (SM (fun x => SM (fun y => SM (fun z => if c (n * x + c (n * y + z)) = c (n * c (n * x + y) + z) then 1 else 0) n) n) x + SM (fun y => SM (fun z => if c (n * x + c (n * y + z)) = c (n * c (n * x + y) + z) then 1 else 0) n) y + SM (fun z => if c (n * x + c (n * y + z)) = c (n * c (n * x + y) + z) then 1 else 0) z))), some (.int (nI x)), some (.int (nI y)), some (.int (nI z))]) (st' := [.int (nI x), .ref a]) d_61_35 (fun _ => rfl) ?_
              refine cr_nx (pc' := 37) (al' := [some (.ref a), some (.int (nI (SM (fun x => SM (fun y => SM (fun z => if c (n * x + c (n * y + z)) = c (n * c (n * x + y) + z) then 1 else 0) n) n) x + SM (fun y => SM (fun z => if c (n * x + c (n * y + z)) = c (n * c (n * x + y) + z) then 1 else 0) n) y + SM (fun z => if c (n * x + c (n * y + z)) = c (n * c (n * x + y) + z) then 1 else 0) z))), some (.int (nI x)), some (.int (nI y)), some (.int (nI z))]) (st' := [.int (nI y), .int (nI x), .ref a]) d_61_36 (fun _ => rfl) ?_
              refine cr_nx (pc' := 39) (al' := [some (.ref a), some (.int (nI (SM (fun x => SM (fun y => SM (fun z => if c (n * x + c (n * y + z)) = c (n * c (n * x + y) + z) then 1 else 0) n) n) x + SM (fun y => SM (fun z => if c (n * x + c (n * y + z)) = c (n * c (n * x + y) + z) then 1 else 0) n) y + SM (fun z => if c (n * x + c (n * y + z)) = c (n * c (n * x + y) + z) then 1 else 0) z))), some (.int (nI x)), some (.int (nI y)), some (.int (nI z))]) (st' := [.int (nI z), .int (nI y), .int (nI x), .ref a]) d_61_37 (fun _ => rfl) ?_
              refine cr_ps (as := [.ref a, .int (nI x), .int (nI y), .int (nI z)]) (al0 := [some (.ref a), some (.int (nI x)), some (.int (nI y)), some (.int (nI z))]) (r := []) d_61_39 cw_61 cm_7_83 (by decide) cz_58 rfl rfl rfl (by decide) (k_joins ht hn hc (by omega) (by omega) (by omega)) ?_
              show CR _ _ 42 [some (.ref a), some (.int (nI (SM (fun x => SM (fun y => SM (fun z => if c (n * x + c (n * y + z)) = c (n * c (n * x + y) + z) then 1 else 0) n) n) x + SM (fun y => SM (fun z => if c (n * x + c (n * y + z)) = c (n * c (n * x + y) + z) then 1 else 0) n) y + SM (fun z => if c (n * x + c (n * y + z)) = c (n * c (n * x + y) + z) then 1 else 0) z))), some (.int (nI x)), some (.int (nI y)), some (.int (nI z))] [.int (bI (c (n * x + c (n * y + z)) = c (n * c (n * x + y) + z)))] S G B J R _
              refine cr_beq (t := 48) d_61_42 (by decide) (fun c42 => ?_) (fun c42 => ?_)
              · refine cn_inc d_61_48 rfl rfl ?_
                show CR _ _ _ [some (.ref a), some (.int (nI (SM (fun x => SM (fun y => SM (fun z => if c (n * x + c (n * y + z)) = c (n * c (n * x + y) + z) then 1 else 0) n) n) x + SM (fun y => SM (fun z => if c (n * x + c (n * y + z)) = c (n * c (n * x + y) + z) then 1 else 0) n) y + SM (fun z => if c (n * x + c (n * y + z)) = c (n * c (n * x + y) + z) then 1 else 0) z))), some (.int (nI x)), some (.int (nI y)), some (.int (nI (z + 1)))] _ _ _ _ _ _ _
                refine cr_nx (pc' := 25) (al' := [some (.ref a), some (.int (nI (SM (fun x => SM (fun y => SM (fun z => if c (n * x + c (n * y + z)) = c (n * c (n * x + y) + z) then 1 else 0) n) n) x + SM (fun y => SM (fun z => if c (n * x + c (n * y + z)) = c (n * c (n * x + y) + z) then 1 else 0) n) y + SM (fun z => if c (n * x + c (n * y + z)) = c (n * c (n * x + y) + z) then 1 else 0) z))), some (.int (nI x)), some (.int (nI y)), some (.int (nI (z + 1)))]) (st' := []) d_61_51 (fun _ => rfl) ?_
                refine cr_al (al1 := [some (.ref a), some (.int (nI (SM (fun x => SM (fun y => SM (fun z => if c (n * x + c (n * y + z)) = c (n * c (n * x + y) + z) then 1 else 0) n) n) x + SM (fun y => SM (fun z => if c (n * x + c (n * y + z)) = c (n * c (n * x + y) + z) then 1 else 0) n) y + SM (fun z => if c (n * x + c (n * y + z)) = c (n * c (n * x + y) + z) then 1 else 0) (z + 1)))), some (.int (nI x)), some (.int (nI y)), some (.int (nI (z + 1)))]) (by rw [show SM (fun x => SM (fun y => SM (fun z => if c (n * x + c (n * y + z)) = c (n * c (n * x + y) + z) then 1 else 0) n) n) x + SM (fun y => SM (fun z => if c (n * x + c (n * y + z)) = c (n * c (n * x + y) + z) then 1 else 0) n) y + SM (fun z => if c (n * x + c (n * y + z)) = c (n * c (n * x + y) + z) then 1 else 0) z = SM (fun x => SM (fun y => SM (fun z => if c (n * x + c (n * y + z)) = c (n * c (n * x + y) + z) then 1 else 0) n) n) x + SM (fun y => SM (fun z => if c (n * x + c (n * y + z)) = c (n * c (n * x + y) + z) then 1 else 0) n) y + SM (fun z => if c (n * x + c (n * y + z)) = c (n * c (n * x + y) + z) then 1 else 0) (z + 1) by rw [SM_s]; simp only [c42, if_true, if_false]; omega]) ?_
                exact ihz (trivial)
              · refine cn_inc d_61_45 rfl rfl ?_
                show CR _ _ _ [some (.ref a), some (.int (nI ((SM (fun x => SM (fun y => SM (fun z => if c (n * x + c (n * y + z)) = c (n * c (n * x + y) + z) then 1 else 0) n) n) x + SM (fun y => SM (fun z => if c (n * x + c (n * y + z)) = c (n * c (n * x + y) + z) then 1 else 0) n) y + SM (fun z => if c (n * x + c (n * y + z)) = c (n * c (n * x + y) + z) then 1 else 0) z) + 1))), some (.int (nI x)), some (.int (nI y)), some (.int (nI z))] _ _ _ _ _ _ _
                refine cn_inc d_61_48 rfl rfl ?_
                show CR _ _ _ [some (.ref a), some (.int (nI ((SM (fun x => SM (fun y => SM (fun z => if c (n * x + c (n * y + z)) = c (n * c (n * x + y) + z) then 1 else 0) n) n) x + SM (fun y => SM (fun z => if c (n * x + c (n * y + z)) = c (n * c (n * x + y) + z) then 1 else 0) n) y + SM (fun z => if c (n * x + c (n * y + z)) = c (n * c (n * x + y) + z) then 1 else 0) z) + 1))), some (.int (nI x)), some (.int (nI y)), some (.int (nI (z + 1)))] _ _ _ _ _ _ _
                refine cr_nx (pc' := 25) (al' := [some (.ref a), some (.int (nI ((SM (fun x => SM (fun y => SM (fun z => if c (n * x + c (n * y + z)) = c (n * c (n * x + y) + z) then 1 else 0) n) n) x + SM (fun y => SM (fun z => if c (n * x + c (n * y + z)) = c (n * c (n * x + y) + z) then 1 else 0) n) y + SM (fun z => if c (n * x + c (n * y + z)) = c (n * c (n * x + y) + z) then 1 else 0) z) + 1))), some (.int (nI x)), some (.int (nI y)), some (.int (nI (z + 1)))]) (st' := []) d_61_51 (fun _ => rfl) ?_
                refine cr_al (al1 := [some (.ref a), some (.int (nI (SM (fun x => SM (fun y => SM (fun z => if c (n * x + c (n * y + z)) = c (n * c (n * x + y) + z) then 1 else 0) n) n) x + SM (fun y => SM (fun z => if c (n * x + c (n * y + z)) = c (n * c (n * x + y) + z) then 1 else 0) n) y + SM (fun z => if c (n * x + c (n * y + z)) = c (n * c (n * x + y) + z) then 1 else 0) (z + 1)))), some (.int (nI x)), some (.int (nI y)), some (.int (nI (z + 1)))]) (by rw [show (SM (fun x => SM (fun y => SM (fun z => if c (n * x + c (n * y + z)) = c (n * c (n * x + y) + z) then 1 else 0) n) n) x + SM (fun y => SM (fun z => if c (n * x + c (n * y + z)) = c (n * c (n * x + y) + z) then 1 else 0) n) y + SM (fun z => if c (n * x + c (n * y + z)) = c (n * c (n * x + y) + z) then 1 else 0) z) + 1 = SM (fun x => SM (fun y => SM (fun z => if c (n * x + c (n * y + z)) = c (n * c (n * x + y) + z) then 1 else 0) n) n) x + SM (fun y => SM (fun z => if c (n * x + c (n * y + z)) = c (n * c (n * x + y) + z) then 1 else 0) n) y + SM (fun z => if c (n * x + c (n * y + z)) = c (n * c (n * x + y) + z) then 1 else 0) (z + 1) by rw [SM_s]; simp only [c42, if_true, if_false]; omega]) ?_
                exact ihz (trivial)
          · show CR _ _ 25 [some (.ref a), some (.int (nI (SM (fun x => SM (fun y => SM (fun z => if c (n * x + c (n * y + z)) = c (n * c (n * x + y) + z) then 1 else 0) n) n) x + SM (fun y => SM (fun z => if c (n * x + c (n * y + z)) = c (n * c (n * x + y) + z) then 1 else 0) n) y + SM (fun z => if c (n * x + c (n * y + z)) = c (n * c (n * x + y) + z) then 1 else 0) n))), some (.int (nI x)), some (.int (nI y)), some (.int (nI n))] [] S G B J R _
            refine cr_nx (pc' := 27) (al' := [some (.ref a), some (.int (nI (SM (fun x => SM (fun y => SM (fun z => if c (n * x + c (n * y + z)) = c (n * c (n * x + y) + z) then 1 else 0) n) n) x + SM (fun y => SM (fun z => if c (n * x + c (n * y + z)) = c (n * c (n * x + y) + z) then 1 else 0) n) y + SM (fun z => if c (n * x + c (n * y + z)) = c (n * c (n * x + y) + z) then 1 else 0) n))), some (.int (nI x)), some (.int (nI y)), some (.int (nI n))]) (st' := [.int (nI n)]) d_61_25 (fun _ => rfl) ?_
            refine cr_nx (pc' := 28) (al' := [some (.ref a), some (.int (nI (SM (fun x => SM (fun y => SM (fun z => if c (n * x + c (n * y + z)) = c (n * c (n * x + y) + z) then 1 else 0) n) n) x + SM (fun y => SM (fun z => if c (n * x + c (n * y + z)) = c (n * c (n * x + y) + z) then 1 else 0) n) y + SM (fun z => if c (n * x + c (n * y + z)) = c (n * c (n * x + y) + z) then 1 else 0) n))), some (.int (nI x)), some (.int (nI y)), some (.int (nI n))]) (st' := [.ref a, .int (nI n)]) d_61_27 (fun _ => rfl) ?_
            refine cr_gf (v := .int (nI n)) d_61_28 cw_61 cf_7_21 ht.1 ht.2.2.1 (by decide) hn ?_
            refine cn_cge (t := 54) d_61_31 (by decide) (by omega) (by omega) (fun c31 => ?_) (fun c31 => ?_)
            · refine cn_inc d_61_54 rfl rfl ?_
              show CR _ _ _ [some (.ref a), some (.int (nI (SM (fun x => SM (fun y => SM (fun z => if c (n * x + c (n * y + z)) = c (n * c (n * x + y) + z) then 1 else 0) n) n) x + SM (fun y => SM (fun z => if c (n * x + c (n * y + z)) = c (n * c (n * x + y) + z) then 1 else 0) n) y + SM (fun z => if c (n * x + c (n * y + z)) = c (n * c (n * x + y) + z) then 1 else 0) n))), some (.int (nI x)), some (.int (nI (y + 1))), some (.int (nI n))] _ _ _ _ _ _ _
              refine cr_nx (pc' := 14) (al' := [some (.ref a), some (.int (nI (SM (fun x => SM (fun y => SM (fun z => if c (n * x + c (n * y + z)) = c (n * c (n * x + y) + z) then 1 else 0) n) n) x + SM (fun y => SM (fun z => if c (n * x + c (n * y + z)) = c (n * c (n * x + y) + z) then 1 else 0) n) y + SM (fun z => if c (n * x + c (n * y + z)) = c (n * c (n * x + y) + z) then 1 else 0) n))), some (.int (nI x)), some (.int (nI (y + 1))), some (.int (nI n))]) (st' := []) d_61_57 (fun _ => rfl) ?_
              refine cr_al (al1 := [some (.ref a), some (.int (nI (SM (fun x => SM (fun y => SM (fun z => if c (n * x + c (n * y + z)) = c (n * c (n * x + y) + z) then 1 else 0) n) n) x + SM (fun y => SM (fun z => if c (n * x + c (n * y + z)) = c (n * c (n * x + y) + z) then 1 else 0) n) (y + 1)))), some (.int (nI x)), some (.int (nI (y + 1))), some (.int (nI n))]) (by rw [show SM (fun x => SM (fun y => SM (fun z => if c (n * x + c (n * y + z)) = c (n * c (n * x + y) + z) then 1 else 0) n) n) x + SM (fun y => SM (fun z => if c (n * x + c (n * y + z)) = c (n * c (n * x + y) + z) then 1 else 0) n) y + SM (fun z => if c (n * x + c (n * y + z)) = c (n * c (n * x + y) + z) then 1 else 0) n = SM (fun x => SM (fun y => SM (fun z => if c (n * x + c (n * y + z)) = c (n * c (n * x + y) + z) then 1 else 0) n) n) x + SM (fun y => SM (fun z => if c (n * x + c (n * y + z)) = c (n * c (n * x + y) + z) then 1 else 0) n) (y + 1) by rw [SM_s (fun y => SM (fun z => if c (n * x + c (n * y + z)) = c (n * c (n * x + y) + z) then 1 else 0) n) y]; omega]) ?_
              refine cr_dr (al1 := [some (.ref a), some (.int (nI (SM (fun x => SM (fun y => SM (fun z => if c (n * x + c (n * y + z)) = c (n * c (n * x + y) + z) then 1 else 0) n) n) x + SM (fun y => SM (fun z => if c (n * x + c (n * y + z)) = c (n * c (n * x + y) + z) then 1 else 0) n) (y + 1)))), some (.int (nI x)), some (.int (nI (y + 1))), none]) (le_s (le_s (le_s (le_s (le_d rfl (le_n)))))) ?_
              exact ihy (trivial)
            · omega
      · show CR _ _ 14 [some (.ref a), some (.int (nI (SM (fun x => SM (fun y => SM (fun z => if c (n * x + c (n * y + z)) = c (n * c (n * x + y) + z) then 1 else 0) n) n) x + SM (fun y => SM (fun z => if c (n * x + c (n * y + z)) = c (n * c (n * x + y) + z) then 1 else 0) n) n))), some (.int (nI x)), some (.int (nI n)), none] [] S G B J R _
        refine cr_nx (pc' := 15) (al' := [some (.ref a), some (.int (nI (SM (fun x => SM (fun y => SM (fun z => if c (n * x + c (n * y + z)) = c (n * c (n * x + y) + z) then 1 else 0) n) n) x + SM (fun y => SM (fun z => if c (n * x + c (n * y + z)) = c (n * c (n * x + y) + z) then 1 else 0) n) n))), some (.int (nI x)), some (.int (nI n)), none]) (st' := [.int (nI n)]) d_61_14 (fun _ => rfl) ?_
        refine cr_nx (pc' := 16) (al' := [some (.ref a), some (.int (nI (SM (fun x => SM (fun y => SM (fun z => if c (n * x + c (n * y + z)) = c (n * c (n * x + y) + z) then 1 else 0) n) n) x + SM (fun y => SM (fun z => if c (n * x + c (n * y + z)) = c (n * c (n * x + y) + z) then 1 else 0) n) n))), some (.int (nI x)), some (.int (nI n)), none]) (st' := [.ref a, .int (nI n)]) d_61_15 (fun _ => rfl) ?_
        refine cr_gf (v := .int (nI n)) d_61_16 cw_61 cf_7_21 ht.1 ht.2.2.1 (by decide) hn ?_
        refine cn_cge (t := 60) d_61_19 (by decide) (by omega) (by omega) (fun c19 => ?_) (fun c19 => ?_)
        · refine cn_inc d_61_60 rfl rfl ?_
          show CR _ _ _ [some (.ref a), some (.int (nI (SM (fun x => SM (fun y => SM (fun z => if c (n * x + c (n * y + z)) = c (n * c (n * x + y) + z) then 1 else 0) n) n) x + SM (fun y => SM (fun z => if c (n * x + c (n * y + z)) = c (n * c (n * x + y) + z) then 1 else 0) n) n))), some (.int (nI (x + 1))), some (.int (nI n)), none] _ _ _ _ _ _ _
          refine cr_nx (pc' := 4) (al' := [some (.ref a), some (.int (nI (SM (fun x => SM (fun y => SM (fun z => if c (n * x + c (n * y + z)) = c (n * c (n * x + y) + z) then 1 else 0) n) n) x + SM (fun y => SM (fun z => if c (n * x + c (n * y + z)) = c (n * c (n * x + y) + z) then 1 else 0) n) n))), some (.int (nI (x + 1))), some (.int (nI n)), none]) (st' := []) d_61_63 (fun _ => rfl) ?_
          refine cr_al (al1 := [some (.ref a), some (.int (nI (SM (fun x => SM (fun y => SM (fun z => if c (n * x + c (n * y + z)) = c (n * c (n * x + y) + z) then 1 else 0) n) n) (x + 1)))), some (.int (nI (x + 1))), some (.int (nI n)), none]) (by rw [show SM (fun x => SM (fun y => SM (fun z => if c (n * x + c (n * y + z)) = c (n * c (n * x + y) + z) then 1 else 0) n) n) x + SM (fun y => SM (fun z => if c (n * x + c (n * y + z)) = c (n * c (n * x + y) + z) then 1 else 0) n) n = SM (fun x => SM (fun y => SM (fun z => if c (n * x + c (n * y + z)) = c (n * c (n * x + y) + z) then 1 else 0) n) n) (x + 1) by rw [SM_s (fun x => SM (fun y => SM (fun z => if c (n * x + c (n * y + z)) = c (n * c (n * x + y) + z) then 1 else 0) n) n) x]]) ?_
          refine cr_dr (al1 := [some (.ref a), some (.int (nI (SM (fun x => SM (fun y => SM (fun z => if c (n * x + c (n * y + z)) = c (n * c (n * x + y) + z) then 1 else 0) n) n) (x + 1)))), some (.int (nI (x + 1))), none, none]) (le_s (le_s (le_s (le_d rfl (le_s (le_n)))))) ?_
          exact ihx (trivial)
        · omega
  · show CR _ _ 4 [some (.ref a), some (.int (nI (SM (fun x => SM (fun y => SM (fun z => if c (n * x + c (n * y + z)) = c (n * c (n * x + y) + z) then 1 else 0) n) n) n))), some (.int (nI n)), none, none] [] S G B J R _
    refine cr_nx (pc' := 5) (al' := [some (.ref a), some (.int (nI (SM (fun x => SM (fun y => SM (fun z => if c (n * x + c (n * y + z)) = c (n * c (n * x + y) + z) then 1 else 0) n) n) n))), some (.int (nI n)), none, none]) (st' := [.int (nI n)]) d_61_4 (fun _ => rfl) ?_
    refine cr_nx (pc' := 6) (al' := [some (.ref a), some (.int (nI (SM (fun x => SM (fun y => SM (fun z => if c (n * x + c (n * y + z)) = c (n * c (n * x + y) + z) then 1 else 0) n) n) n))), some (.int (nI n)), none, none]) (st' := [.ref a, .int (nI n)]) d_61_5 (fun _ => rfl) ?_
    refine cr_gf (v := .int (nI n)) d_61_6 cw_61 cf_7_21 ht.1 ht.2.2.1 (by decide) hn ?_
    refine cn_cge (t := 66) d_61_9 (by decide) (by omega) (by omega) (fun c9 => ?_) (fun c9 => ?_)
    · refine cr_nx (pc' := 67) (al' := [some (.ref a), some (.int (nI (SM (fun x => SM (fun y => SM (fun z => if c (n * x + c (n * y + z)) = c (n * c (n * x + y) + z) then 1 else 0) n) n) n))), some (.int (nI n)), none, none]) (st' := [.int (nI (SM (fun x => SM (fun y => SM (fun z => if c (n * x + c (n * y + z)) = c (n * c (n * x + y) + z) then 1 else 0) n) n) n))]) d_61_66 (fun _ => rfl) ?_
      exact cr_ri d_61_67 cx_61 rfl ⟨rfl, rfl, rfl, rfl, rfl, rfl⟩
    · omega
