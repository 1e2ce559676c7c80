/-! Products, extensions, groups: both; printed by wip/whole/gen_a6.py. -/
/-- filled by blocks -/
def ScQ (f : Nat → Int32) (D : Nat → Nat → Nat → Prop) (n x y : Nat) (w : Nat → Int32) : Prop := (∀ u v q, u < x → v < n → D u v q → w q = f q) ∧ ∀ v q, v < y → D x v q → w q = f q
theorem sq_0 {f : Nat → Int32} {D : Nat → Nat → Nat → Prop} {n : Nat} {w : Nat → Int32} : ScQ f D n 0 0 w := ⟨fun u _ _ h => absurd h (Nat.not_lt_zero u), fun v _ h => absurd h (Nat.not_lt_zero v)⟩
theorem sq_k {f : Nat → Int32} {D : Nat → Nat → Nat → Prop} {n x y k : Nat} {w : Nat → Int32} {z : Int32} (e : z = f k) (h : ScQ f D n x y w) : ScQ f D n x y (upd w k z) := ⟨fun u v q hu hv hq => sc_k e (h.1 u v q hu hv hq), fun v q hv hq => sc_k e (h.2 v q hv hq)⟩
theorem sq_in {f : Nat → Int32} {D : Nat → Nat → Nat → Prop} {n x y : Nat} {w : Nat → Int32} (h : ScQ f D n x y w) (hd : ∀ q, D x y q → w q = f q) : ScQ f D n x (y + 1) w := ⟨h.1, fun v q hv hq => by
  rcases Nat.lt_succ_iff_lt_or_eq.mp hv with e | e
  · exact h.2 v q e hq
  · subst e
    exact hd q hq⟩
theorem sq_out {f : Nat → Int32} {D : Nat → Nat → Nat → Prop} {n x : Nat} {w : Nat → Int32} (h : ScQ f D n x n w) : ScQ f D n (x + 1) 0 w := ⟨fun u v q hu hv hq => by
  rcases Nat.lt_succ_iff_lt_or_eq.mp hu with e | e
  · exact h.1 u v q e hv hq
  · subst e
    exact h.2 v q hv hq, fun v _ hv => absurd hv (Nat.not_lt_zero v)⟩
theorem sp_k {f : Nat → Int32} {I : Nat → Nat → Nat} {n x y k : Nat} {w : Nat → Int32} {z : Int32} (e : z = f k) (h : ScP f I n x y w) : ScP f I n x y (upd w k z) := ⟨fun u v hu hv => sc_k e (h.1 u v hu hv), fun v hv => sc_k e (h.2 v hv)⟩
theorem mk_lt {p m i k : Nat} (hi : i < p) (hk : k < m) : m * i + k < p * m := by
  have : m * i + m ≤ m * p := by rw [← Nat.mul_succ]; exact Nat.mul_le_mul_left m hi
  rw [Nat.mul_comm p m]
  omega
theorem mk_le {p m : Nat} (h : p * m ≤ 6) (hp : 1 ≤ p) (hm : 1 ≤ m) : p ≤ 6 ∧ m ≤ 6 := by
  have h1 : p * 1 ≤ p * m := Nat.mul_le_mul_left p hm
  have h2 : 1 * m ≤ p * m := Nat.mul_le_mul_right m hp
  omega
/-- the product of two tables -/
def prN (p m : Nat) (c e : Nat → Nat) (q : Nat) : Nat := m * c (p * (q / (p * m) / m) + q % (p * m) / m) + e (m * (q / (p * m) % m) + q % (p * m) % m)
theorem pr_at {p m : Nat} {c e : Nat → Nat} {x y : Nat} (hy : y < p * m) : prN p m c e (p * m * x + y) = m * c (p * (x / m) + y / m) + e (m * (x % m) + y % m) := by
  unfold prN
  rw [dm_d hy, dm_m hy]
theorem pr_at4 {p m : Nat} {c e : Nat → Nat} {i j k l : Nat} (hj : j < p) (hk : k < m) (hl : l < m) : prN p m c e (p * m * (m * i + k) + (m * j + l)) = m * c (p * i + j) + e (m * k + l) := by
  rw [pr_at (mk_lt hj hl), dm_d hk, dm_m hk, dm_d hl, dm_m hl]
theorem pr_lat {p m : Nat} {c e : Nat → Nat} (hc : Lat p c) (he : Lat m e) : Lat (p * m) (prN p m c e) := by
  have dd : ∀ x, x < p * m → x / m < p ∧ x % m < m := fun x hx => ⟨Nat.div_lt_of_lt_mul (by rw [Nat.mul_comm]; exact hx), Nat.mod_lt _ (by
    rcases Nat.eq_zero_or_pos m with h0 | h0
    · subst h0
      omega
    · exact h0)⟩
  apply Lat.mk'
  · intro q hq
    have h1 := dd _ (dm_dl hq)
    have h2 := dd _ (dm_ml hq)
    exact mk_lt (hc.b h1.1 h2.1) (he.b h1.2 h2.2)
  · intro x v hx hv
    have h1 := dd x hx
    have h2 := dd v hv
    have u1 := hc.u h1.1 h2.1
    have u2 := he.u h1.2 h2.2
    refine ⟨m * undI p c (x / m) (v / m) + undI m e (x % m) (v % m), mk_lt u1.1 u2.1, ?_⟩
    rw [pr_at (mk_lt u1.1 u2.1), dm_d u2.1, dm_m u2.1, u1.2, u2.2]
    exact dm_q
  · intro y v hy hv
    have h1 := dd y hy
    have h2 := dd v hv
    have u1 := hc.o h1.1 h2.1
    have u2 := he.o h1.2 h2.2
    refine ⟨m * ovrI p c (v / m) (y / m) + ovrI m e (v % m) (y % m), mk_lt u1.1 u2.1, ?_⟩
    rw [pr_at hy, dm_d u2.1, dm_m u2.1, u1.2, u2.2]
    exact dm_q
/-- an extension by bits -/
def exB (n b x y : Nat) : Nat := b / 2 ^ (n * x + y) &&& 1
def exN (n : Nat) (c : Nat → Nat) (b q : Nat) : Nat := 2 * c (n * (q / (2 * n) / 2) + q % (2 * n) / 2) + (q / (2 * n) % 2 + q % (2 * n) % 2 + exB n b (q / (2 * n) / 2) (q % (2 * n) / 2)) % 2
theorem ex_at {n : Nat} {c : Nat → Nat} {b x y : Nat} (hy : y < 2 * n) : exN n c b (2 * n * x + y) = 2 * c (n * (x / 2) + y / 2) + (x % 2 + y % 2 + exB n b (x / 2) (y / 2)) % 2 := by
  unfold exN
  rw [dm_d hy, dm_m hy]
theorem exB_2 (n b x y : Nat) : exB n b x y < 2 := bt_lt _ _
theorem ex_lat {n : Nat} {c : Nat → Nat} {b : Nat} (hc : Lat n c) : Lat (2 * n) (exN n c b) := by
  apply Lat.mk'
  · intro q hq
    have := hc.b (x := q / (2 * n) / 2) (y := q % (2 * n) / 2) (by have := dm_dl hq; omega) (by have := dm_ml hq; omega)
    unfold exN
    omega
  · intro x v hx hv
    have h1 := hc.u (x := x / 2) (v := v / 2) (by omega) (by omega)
    have h2 := exB_2 n b (x / 2) (undI n c (x / 2) (v / 2))
    obtain ⟨r, hr, e⟩ : ∃ r, r < 2 ∧ (x % 2 + r + exB n b (x / 2) (undI n c (x / 2) (v / 2))) % 2 = v % 2 := by
      rcases Nat.lt_or_ge ((x % 2 + exB n b (x / 2) (undI n c (x / 2) (v / 2)) + v % 2) % 2) 1 with h | h
      · exact ⟨0, by omega, by omega⟩
      · exact ⟨1, by omega, by omega⟩
    refine ⟨2 * undI n c (x / 2) (v / 2) + r, by omega, ?_⟩
    rw [ex_at (by omega), show (2 * undI n c (x / 2) (v / 2) + r) / 2 = undI n c (x / 2) (v / 2) by omega, show (2 * undI n c (x / 2) (v / 2) + r) % 2 = r by omega, h1.2, e]
    omega
  · intro y v hy hv
    have h1 := hc.o (x := y / 2) (v := v / 2) (by omega) (by omega)
    have h2 := exB_2 n b (ovrI n c (v / 2) (y / 2)) (y / 2)
    obtain ⟨r, hr, e⟩ : ∃ r, r < 2 ∧ (r + y % 2 + exB n b (ovrI n c (v / 2) (y / 2)) (y / 2)) % 2 = v % 2 := by
      rcases Nat.lt_or_ge ((y % 2 + exB n b (ovrI n c (v / 2) (y / 2)) (y / 2) + v % 2) % 2) 1 with h | h
      · exact ⟨0, by omega, by omega⟩
      · exact ⟨1, by omega, by omega⟩
    refine ⟨2 * ovrI n c (v / 2) (y / 2) + r, by omega, ?_⟩
    rw [ex_at hy, show (2 * ovrI n c (v / 2) (y / 2) + r) / 2 = ovrI n c (v / 2) (y / 2) by omega, show (2 * ovrI n c (v / 2) (y / 2) + r) % 2 = r by omega, h1.2, e]
    omega
theorem s_product_79 {g : Nat → Int32} {A : Nat → Nat → Int32} {Q : Option Value → (Nat → Int32) → (Nat → Nat → Int32) → Prop} {t i j p m : Nat} {c e : Nat → Nat} (hi : i < 6) (hj : j < 6) (hp1 : 1 ≤ p) (hm1 : 1 ≤ m) (hpm : p * m ≤ 6) (h8 : g 8 = nI (p * m)) (hcc : ∀ q, q < p * p → A 1 (37 * i + 1 + q) = nI (c q)) (hee : ∀ q, q < m * m → A 1 (37 * j + 1 + q) = nI (e q)) (hk : ∀ w, (∀ q, q < p * m * (p * m) → w q = nI (prN p m c e q)) → RR 20 238 183 [some (.ref 146), some (.int (nI t)), some (.int (nI i)), some (.int (nI j)), some (.int (nI p)), some (.int (nI m)), some (.int (nI (p * m))), none] [] g (rf_u A 5 w) Q) : RR 20 238 79 [some (.ref 146), some (.int (nI t)), some (.int (nI i)), some (.int (nI j)), some (.int (nI p)), some (.int (nI m)), some (.int (nI 0)), none] [] g A Q := by
  obtain ⟨hp6, hm6⟩ := mk_le hpm hp1 hm1
  refine rr_A (show A = (rf_u A 5 (A 5)) by rw [rf_u_id]) ?_
  refine rr_upw (al := fun x w_ => [some (.ref 146), some (.int (nI t)), some (.int (nI i)), some (.int (nI j)), some (.int (nI p)), some (.int (nI m)), some (.int (nI x)), none]) (G := fun x w_ => g) (B := fun x w_ => (rf_u A 5 w_)) (P := fun x w_ => ScP (fun q => nI (prN p m c e q)) (fun x y => p * m * x + y) (p * m) x 0 w_) (n := p * m) (fun x w_ hx px ihx => ?_) (fun w_ px => ?_) 0 (A 5) (by omega) (sc_0)
  · show RR _ _ 79 [some (.ref 146), some (.int (nI t)), some (.int (nI i)), some (.int (nI j)), some (.int (nI p)), some (.int (nI m)), some (.int (nI x)), none] [] g (rf_u A 5 w_) _
    have hxd : x / m < p := Nat.div_lt_of_lt_mul (by rw [Nat.mul_comm]; exact hx)
    have hxm : x % m < m := Nat.mod_lt _ hm1
    refine rr_nx (pc' := 81) (al' := [some (.ref 146), some (.int (nI t)), some (.int (nI i)), some (.int (nI j)), some (.int (nI p)), some (.int (nI m)), some (.int (nI x)), none]) (st' := [.int (nI x)]) d_238_79 (fun _ => rfl) ?_
    refine rr_nx (pc' := 82) (al' := [some (.ref 146), some (.int (nI t)), some (.int (nI i)), some (.int (nI j)), some (.int (nI p)), some (.int (nI m)), some (.int (nI x)), none]) (st' := [.ref 146, .int (nI x)]) d_238_81 (fun _ => rfl) ?_
    refine rr_gn d_238_82 mo_238 fl_134 rfl h8 ?_
    refine rn_cge (t := 183) d_238_85 (by decide) (by first | omega | assumption | exact cu_36 (by omega) (cu_lt (by omega) (by omega))) (by first | omega | assumption | exact cu_36 (by omega) (cu_lt (by omega) (by omega))) (fun c85 => ?_) (fun c85 => ?_)
    · omega
    · refine rn_ic (v := 0) d_238_88 (by decide) ?_
      refine rr_nx (pc' := 91) (al' := [some (.ref 146), some (.int (nI t)), some (.int (nI i)), some (.int (nI j)), some (.int (nI p)), some (.int (nI m)), some (.int (nI x)), some (.int (nI 0))]) (st' := []) d_238_89 (fun _ => rfl) ?_
      refine rr_upw (al := fun y w_ => [some (.ref 146), some (.int (nI t)), some (.int (nI i)), some (.int (nI j)), some (.int (nI p)), some (.int (nI m)), some (.int (nI x)), some (.int (nI y))]) (G := fun y w_ => g) (B := fun y w_ => (rf_u A 5 w_)) (P := fun y w_ => ScP (fun q => nI (prN p m c e q)) (fun x y => p * m * x + y) (p * m) x y w_) (n := p * m) (fun y w_ hy py ihy => ?_) (fun w_ py => ?_) 0 w_ (by omega) (px)
      · show RR _ _ 91 [some (.ref 146), some (.int (nI t)), some (.int (nI i)), some (.int (nI j)), some (.int (nI p)), some (.int (nI m)), some (.int (nI x)), some (.int (nI y))] [] g (rf_u A 5 w_) _
        have hyd : y / m < p := Nat.div_lt_of_lt_mul (by rw [Nat.mul_comm]; exact hy)
        have hym : y % m < m := Nat.mod_lt _ hm1
        have b1 : p * (x / m) + y / m < 36 := cu_36 hp6 (cu_lt hxd hyd)
        have b2 : m * (x % m) + y % m < 36 := cu_36 hm6 (cu_lt hxm hym)
        refine rr_nx (pc' := 93) (al' := [some (.ref 146), some (.int (nI t)), some (.int (nI i)), some (.int (nI j)), some (.int (nI p)), some (.int (nI m)), some (.int (nI x)), some (.int (nI y))]) (st' := [.int (nI y)]) d_238_91 (fun _ => rfl) ?_
        refine rr_nx (pc' := 94) (al' := [some (.ref 146), some (.int (nI t)), some (.int (nI i)), some (.int (nI j)), some (.int (nI p)), some (.int (nI m)), some (.int (nI x)), some (.int (nI y))]) (st' := [.ref 146, .int (nI y)]) d_238_93 (fun _ => rfl) ?_
        refine rr_gn d_238_94 mo_238 fl_134 rfl h8 ?_
        refine rn_cge (t := 177) d_238_97 (by decide) (by first | omega | assumption | exact cu_36 (by omega) (cu_lt (by omega) (by omega))) (by first | omega | assumption | exact cu_36 (by omega) (cu_lt (by omega) (by omega))) (fun c97 => ?_) (fun c97 => ?_)
        · omega
        · refine rr_nx (pc' := 101) (al' := [some (.ref 146), some (.int (nI t)), some (.int (nI i)), some (.int (nI j)), some (.int (nI p)), some (.int (nI m)), some (.int (nI x)), some (.int (nI y))]) (st' := [.ref 146]) d_238_100 (fun _ => rfl) ?_
          refine rr_gf (v := .ref (147 + 5)) d_238_101 mo_238 fl_26 rfl ?_
          refine rr_nx (pc' := 105) (al' := [some (.ref 146), some (.int (nI t)), some (.int (nI i)), some (.int (nI j)), some (.int (nI p)), some (.int (nI m)), some (.int (nI x)), some (.int (nI y))]) (st' := [.ref 146, .ref (147 + 5)]) d_238_104 (fun _ => rfl) ?_
          refine rr_gn d_238_105 mo_238 fl_134 rfl h8 ?_
          refine rr_nx (pc' := 110) (al' := [some (.ref 146), some (.int (nI t)), some (.int (nI i)), some (.int (nI j)), some (.int (nI p)), some (.int (nI m)), some (.int (nI x)), some (.int (nI y))]) (st' := [.int (nI x), .int (nI (p * m)), .ref (147 + 5)]) d_238_108 (fun _ => rfl) ?_
          refine rn_mul d_238_110  ?_
          refine rr_nx (pc' := 113) (al' := [some (.ref 146), some (.int (nI t)), some (.int (nI i)), some (.int (nI j)), some (.int (nI p)), some (.int (nI m)), some (.int (nI x)), some (.int (nI y))]) (st' := [.int (nI y), .int (nI ((p * m) * x)), .ref (147 + 5)]) d_238_111 (fun _ => rfl) ?_
          refine rn_add d_238_113  ?_
          refine rr_nx (pc' := 116) (al' := [some (.ref 146), some (.int (nI t)), some (.int (nI i)), some (.int (nI j)), some (.int (nI p)), some (.int (nI m)), some (.int (nI x)), some (.int (nI y))]) (st' := [.int (nI m), .int (nI (((p * m) * x) + y)), .ref (147 + 5)]) d_238_114 (fun _ => rfl) ?_
          refine rr_nx (pc' := 117) (al' := [some (.ref 146), some (.int (nI t)), some (.int (nI i)), some (.int (nI j)), some (.int (nI p)), some (.int (nI m)), some (.int (nI x)), some (.int (nI y))]) (st' := [.ref 146, .int (nI m), .int (nI (((p * m) * x) + y)), .ref (147 + 5)]) d_238_116 (fun _ => rfl) ?_
          refine rr_gf (v := .ref (147 + 1)) d_238_117 mo_238 fl_13 rfl ?_
          refine rn_bp (v := 37) d_238_120 (by decide) ?_
          refine rr_nx (pc' := 123) (al' := [some (.ref 146), some (.int (nI t)), some (.int (nI i)), some (.int (nI j)), some (.int (nI p)), some (.int (nI m)), some (.int (nI x)), some (.int (nI y))]) (st' := [.int (nI i), .int (nI 37), .ref (147 + 1), .int (nI m), .int (nI (((p * m) * x) + y)), .ref (147 + 5)]) d_238_122 (fun _ => rfl) ?_
          refine rn_mul d_238_123  ?_
          refine rn_ic (v := 1) d_238_124 (by decide) ?_
          refine rn_add d_238_125  ?_
          refine rr_nx (pc' := 128) (al' := [some (.ref 146), some (.int (nI t)), some (.int (nI i)), some (.int (nI j)), some (.int (nI p)), some (.int (nI m)), some (.int (nI x)), some (.int (nI y))]) (st' := [.int (nI p), .int (nI ((37 * i) + 1)), .ref (147 + 1), .int (nI m), .int (nI (((p * m) * x) + y)), .ref (147 + 5)]) d_238_126 (fun _ => rfl) ?_
          refine rr_nx (pc' := 130) (al' := [some (.ref 146), some (.int (nI t)), some (.int (nI i)), some (.int (nI j)), some (.int (nI p)), some (.int (nI m)), some (.int (nI x)), some (.int (nI y))]) (st' := [.int (nI x), .int (nI p), .int (nI ((37 * i) + 1)), .ref (147 + 1), .int (nI m), .int (nI (((p * m) * x) + y)), .ref (147 + 5)]) d_238_128 (fun _ => rfl) ?_
          refine rr_nx (pc' := 132) (al' := [some (.ref 146), some (.int (nI t)), some (.int (nI i)), some (.int (nI j)), some (.int (nI p)), some (.int (nI m)), some (.int (nI x)), some (.int (nI y))]) (st' := [.int (nI m), .int (nI x), .int (nI p), .int (nI ((37 * i) + 1)), .ref (147 + 1), .int (nI m), .int (nI (((p * m) * x) + y)), .ref (147 + 5)]) d_238_130 (fun _ => rfl) ?_
          refine rn_div d_238_132 (by first | omega | assumption | exact cu_36 (by omega) (cu_lt (by omega) (by omega))) (by first | omega | assumption | exact cu_36 (by omega) (cu_lt (by omega) (by omega))) (by first | omega | assumption | exact cu_36 (by omega) (cu_lt (by omega) (by omega))) ?_
          refine rn_mul d_238_133  ?_
          refine rn_add d_238_134  ?_
          refine rr_nx (pc' := 137) (al' := [some (.ref 146), some (.int (nI t)), some (.int (nI i)), some (.int (nI j)), some (.int (nI p)), some (.int (nI m)), some (.int (nI x)), some (.int (nI y))]) (st' := [.int (nI y), .int (nI (((37 * i) + 1) + (p * (x / m)))), .ref (147 + 1), .int (nI m), .int (nI (((p * m) * x) + y)), .ref (147 + 5)]) d_238_135 (fun _ => rfl) ?_
          refine rr_nx (pc' := 139) (al' := [some (.ref 146), some (.int (nI t)), some (.int (nI i)), some (.int (nI j)), some (.int (nI p)), some (.int (nI m)), some (.int (nI x)), some (.int (nI y))]) (st' := [.int (nI m), .int (nI y), .int (nI (((37 * i) + 1) + (p * (x / m)))), .ref (147 + 1), .int (nI m), .int (nI (((p * m) * x) + y)), .ref (147 + 5)]) d_238_137 (fun _ => rfl) ?_
          refine rn_div d_238_139 (by first | omega | assumption | exact cu_36 (by omega) (cu_lt (by omega) (by omega))) (by first | omega | assumption | exact cu_36 (by omega) (cu_lt (by omega) (by omega))) (by first | omega | assumption | exact cu_36 (by omega) (cu_lt (by omega) (by omega))) ?_
          refine rn_add d_238_140  ?_
          refine rr_ia (j := 1) (v := (nI (c (p * (x / m) + y / m)))) d_238_141 (by decide) rfl (by decide) (show (((37 * i) + 1) + (p * (x / m))) + (y / m) < 5720 by first | omega | assumption | exact cu_36 (by omega) (cu_lt (by omega) (by omega))) (show A 1 _ = _ by rw [Nat.add_assoc]; exact hcc _ (cu_lt hxd hyd)) ?_
          refine rn_mul d_238_142  ?_
          refine rr_nx (pc' := 144) (al' := [some (.ref 146), some (.int (nI t)), some (.int (nI i)), some (.int (nI j)), some (.int (nI p)), some (.int (nI m)), some (.int (nI x)), some (.int (nI y))]) (st' := [.ref 146, .int (nI (m * (c (p * (x / m) + y / m)))), .int (nI (((p * m) * x) + y)), .ref (147 + 5)]) d_238_143 (fun _ => rfl) ?_
          refine rr_gf (v := .ref (147 + 1)) d_238_144 mo_238 fl_13 rfl ?_
          refine rn_bp (v := 37) d_238_147 (by decide) ?_
          refine rr_nx (pc' := 150) (al' := [some (.ref 146), some (.int (nI t)), some (.int (nI i)), some (.int (nI j)), some (.int (nI p)), some (.int (nI m)), some (.int (nI x)), some (.int (nI y))]) (st' := [.int (nI j), .int (nI 37), .ref (147 + 1), .int (nI (m * (c (p * (x / m) + y / m)))), .int (nI (((p * m) * x) + y)), .ref (147 + 5)]) d_238_149 (fun _ => rfl) ?_
          refine rn_mul d_238_150  ?_
          refine rn_ic (v := 1) d_238_151 (by decide) ?_
          refine rn_add d_238_152  ?_
          refine rr_nx (pc' := 155) (al' := [some (.ref 146), some (.int (nI t)), some (.int (nI i)), some (.int (nI j)), some (.int (nI p)), some (.int (nI m)), some (.int (nI x)), some (.int (nI y))]) (st' := [.int (nI m), .int (nI ((37 * j) + 1)), .ref (147 + 1), .int (nI (m * (c (p * (x / m) + y / m)))), .int (nI (((p * m) * x) + y)), .ref (147 + 5)]) d_238_153 (fun _ => rfl) ?_
          refine rr_nx (pc' := 157) (al' := [some (.ref 146), some (.int (nI t)), some (.int (nI i)), some (.int (nI j)), some (.int (nI p)), some (.int (nI m)), some (.int (nI x)), some (.int (nI y))]) (st' := [.int (nI x), .int (nI m), .int (nI ((37 * j) + 1)), .ref (147 + 1), .int (nI (m * (c (p * (x / m) + y / m)))), .int (nI (((p * m) * x) + y)), .ref (147 + 5)]) d_238_155 (fun _ => rfl) ?_
          refine rr_nx (pc' := 159) (al' := [some (.ref 146), some (.int (nI t)), some (.int (nI i)), some (.int (nI j)), some (.int (nI p)), some (.int (nI m)), some (.int (nI x)), some (.int (nI y))]) (st' := [.int (nI m), .int (nI x), .int (nI m), .int (nI ((37 * j) + 1)), .ref (147 + 1), .int (nI (m * (c (p * (x / m) + y / m)))), .int (nI (((p * m) * x) + y)), .ref (147 + 5)]) d_238_157 (fun _ => rfl) ?_
          refine rn_rem d_238_159 (by first | omega | assumption | exact cu_36 (by omega) (cu_lt (by omega) (by omega))) (by first | omega | assumption | exact cu_36 (by omega) (cu_lt (by omega) (by omega))) (by first | omega | assumption | exact cu_36 (by omega) (cu_lt (by omega) (by omega))) ?_
          refine rn_mul d_238_160  ?_
          refine rn_add d_238_161  ?_
          refine rr_nx (pc' := 164) (al' := [some (.ref 146), some (.int (nI t)), some (.int (nI i)), some (.int (nI j)), some (.int (nI p)), some (.int (nI m)), some (.int (nI x)), some (.int (nI y))]) (st' := [.int (nI y), .int (nI (((37 * j) + 1) + (m * (x % m)))), .ref (147 + 1), .int (nI (m * (c (p * (x / m) + y / m)))), .int (nI (((p * m) * x) + y)), .ref (147 + 5)]) d_238_162 (fun _ => rfl) ?_
          refine rr_nx (pc' := 166) (al' := [some (.ref 146), some (.int (nI t)), some (.int (nI i)), some (.int (nI j)), some (.int (nI p)), some (.int (nI m)), some (.int (nI x)), some (.int (nI y))]) (st' := [.int (nI m), .int (nI y), .int (nI (((37 * j) + 1) + (m * (x % m)))), .ref (147 + 1), .int (nI (m * (c (p * (x / m) + y / m)))), .int (nI (((p * m) * x) + y)), .ref (147 + 5)]) d_238_164 (fun _ => rfl) ?_
          refine rn_rem d_238_166 (by first | omega | assumption | exact cu_36 (by omega) (cu_lt (by omega) (by omega))) (by first | omega | assumption | exact cu_36 (by omega) (cu_lt (by omega) (by omega))) (by first | omega | assumption | exact cu_36 (by omega) (cu_lt (by omega) (by omega))) ?_
          refine rn_add d_238_167  ?_
          refine rr_ia (j := 1) (v := (nI (e (m * (x % m) + y % m)))) d_238_168 (by decide) rfl (by decide) (show (((37 * j) + 1) + (m * (x % m))) + (y % m) < 5720 by first | omega | assumption | exact cu_36 (by omega) (cu_lt (by omega) (by omega))) (show A 1 _ = _ by rw [Nat.add_assoc]; exact hee _ (cu_lt hxm hym)) ?_
          refine rn_add d_238_169  ?_
          refine rr_iS (j := 5) (A1 := (rf_u A 5 (upd w_ (((p * m) * x) + y) (nI ((m * (c (p * (x / m) + y / m))) + (e (m * (x % m) + y % m))))))) d_238_170 (by decide) rfl (by decide) (show ((p * m) * x) + y < 36 by first | omega | assumption | exact cu_36 (by omega) (cu_lt (by omega) (by omega))) rf_uw ?_
          refine rn_inc d_238_171 rfl rfl ?_
          show RR _ _ 174 [some (.ref 146), some (.int (nI t)), some (.int (nI i)), some (.int (nI j)), some (.int (nI p)), some (.int (nI m)), some (.int (nI x)), some (.int (nI (y + 1)))] [] g (rf_u A 5 (upd w_ (((p * m) * x) + y) (nI ((m * (c (p * (x / m) + y / m))) + (e (m * (x % m) + y % m)))))) _
          refine rr_nx (pc' := 91) (al' := [some (.ref 146), some (.int (nI t)), some (.int (nI i)), some (.int (nI j)), some (.int (nI p)), some (.int (nI m)), some (.int (nI x)), some (.int (nI (y + 1)))]) (st' := []) d_238_174 (fun _ => rfl) ?_
          exact ihy (upd w_ (((p * m) * x) + y) (nI ((m * (c (p * (x / m) + y / m))) + (e (m * (x % m) + y % m))))) (sc_in py rfl (by rw [pr_at hy]))
      · show RR _ _ 91 [some (.ref 146), some (.int (nI t)), some (.int (nI i)), some (.int (nI j)), some (.int (nI p)), some (.int (nI m)), some (.int (nI x)), some (.int (nI (p * m)))] [] g (rf_u A 5 w_) _
        refine rr_nx (pc' := 93) (al' := [some (.ref 146), some (.int (nI t)), some (.int (nI i)), some (.int (nI j)), some (.int (nI p)), some (.int (nI m)), some (.int (nI x)), some (.int (nI (p * m)))]) (st' := [.int (nI (p * m))]) d_238_91 (fun _ => rfl) ?_
        refine rr_nx (pc' := 94) (al' := [some (.ref 146), some (.int (nI t)), some (.int (nI i)), some (.int (nI j)), some (.int (nI p)), some (.int (nI m)), some (.int (nI x)), some (.int (nI (p * m)))]) (st' := [.ref 146, .int (nI (p * m))]) d_238_93 (fun _ => rfl) ?_
        refine rr_gn d_238_94 mo_238 fl_134 rfl h8 ?_
        refine rn_cge (t := 177) d_238_97 (by decide) (by first | omega | assumption | exact cu_36 (by omega) (cu_lt (by omega) (by omega))) (by first | omega | assumption | exact cu_36 (by omega) (cu_lt (by omega) (by omega))) (fun c97 => ?_) (fun c97 => ?_)
        · refine rn_inc d_238_177 rfl rfl ?_
          show RR _ _ 180 [some (.ref 146), some (.int (nI t)), some (.int (nI i)), some (.int (nI j)), some (.int (nI p)), some (.int (nI m)), some (.int (nI (x + 1))), some (.int (nI (p * m)))] [] g (rf_u A 5 w_) _
          refine rr_nx (pc' := 79) (al' := [some (.ref 146), some (.int (nI t)), some (.int (nI i)), some (.int (nI j)), some (.int (nI p)), some (.int (nI m)), some (.int (nI (x + 1))), some (.int (nI (p * m)))]) (st' := []) d_238_180 (fun _ => rfl) ?_
          refine rr_dr (al1 := [some (.ref 146), some (.int (nI t)), some (.int (nI i)), some (.int (nI j)), some (.int (nI p)), some (.int (nI m)), some (.int (nI (x + 1))), none]) (le_s (le_s (le_s (le_s (le_s (le_s (le_s (le_d rfl (le_n))))))))) ?_
          exact ihx w_ (sc_out py)
        · omega
  · show RR _ _ 79 [some (.ref 146), some (.int (nI t)), some (.int (nI i)), some (.int (nI j)), some (.int (nI p)), some (.int (nI m)), some (.int (nI (p * m))), none] [] g (rf_u A 5 w_) _
    refine rr_nx (pc' := 81) (al' := [some (.ref 146), some (.int (nI t)), some (.int (nI i)), some (.int (nI j)), some (.int (nI p)), some (.int (nI m)), some (.int (nI (p * m))), none]) (st' := [.int (nI (p * m))]) d_238_79 (fun _ => rfl) ?_
    refine rr_nx (pc' := 82) (al' := [some (.ref 146), some (.int (nI t)), some (.int (nI i)), some (.int (nI j)), some (.int (nI p)), some (.int (nI m)), some (.int (nI (p * m))), none]) (st' := [.ref 146, .int (nI (p * m))]) d_238_81 (fun _ => rfl) ?_
    refine rr_gn d_238_82 mo_238 fl_134 rfl h8 ?_
    refine rn_cge (t := 183) d_238_85 (by decide) (by first | omega | assumption | exact cu_36 (by omega) (cu_lt (by omega) (by omega))) (by first | omega | assumption | exact cu_36 (by omega) (cu_lt (by omega) (by omega))) (fun c85 => ?_) (fun c85 => ?_)
    · exact hk w_ (sc_all px (sc_rm))
    · omega
theorem s_extend_72 {g : Nat → Int32} {A : Nat → Nat → Int32} {Q : Option Value → (Nat → Int32) → (Nat → Nat → Int32) → Prop} {t i b : Nat} {n : Nat} {c : Nat → Nat} (hc : Cur g A n c) (hn3 : n ≤ 3) (hb : b < 512) (h8 : g 8 = nI (2 * n)) (hk : ∀ w, (∀ q, q < 2 * n * (2 * n) → w q = nI (exN n c b q)) → RR 20 239 165 [some (.ref 146), some (.int (nI t)), some (.int (nI i)), some (.int (nI b)), some (.int (nI (2 * n))), none] [] g (rf_u A 5 w) Q) : RR 20 239 72 [some (.ref 146), some (.int (nI t)), some (.int (nI i)), some (.int (nI b)), some (.int (nI 0)), none] [] g A Q := by
  refine rr_A (show A = (rf_u A 5 (A 5)) by rw [rf_u_id]) ?_
  refine rr_upw (al := fun x w_ => [some (.ref 146), some (.int (nI t)), some (.int (nI i)), some (.int (nI b)), some (.int (nI x)), none]) (G := fun x w_ => g) (B := fun x w_ => (rf_u A 5 w_)) (P := fun x w_ => ScP (fun q => nI (exN n c b q)) (fun x y => 2 * n * x + y) (2 * n) x 0 w_) (n := 2 * n) (fun x w_ hx px ihx => ?_) (fun w_ px => ?_) 0 (A 5) (by omega) (sc_0)
  · show RR _ _ 72 [some (.ref 146), some (.int (nI t)), some (.int (nI i)), some (.int (nI b)), some (.int (nI x)), none] [] g (rf_u A 5 w_) _
    refine rr_nx (pc' := 74) (al' := [some (.ref 146), some (.int (nI t)), some (.int (nI i)), some (.int (nI b)), some (.int (nI x)), none]) (st' := [.int (nI x)]) d_239_72 (fun _ => rfl) ?_
    refine rr_nx (pc' := 75) (al' := [some (.ref 146), some (.int (nI t)), some (.int (nI i)), some (.int (nI b)), some (.int (nI x)), none]) (st' := [.ref 146, .int (nI x)]) d_239_74 (fun _ => rfl) ?_
    refine rr_gn d_239_75 mo_239 fl_134 rfl h8 ?_
    refine rn_cge (t := 165) d_239_78 (by decide) (by first | omega | assumption | exact cu_36 (by omega) (cu_lt (by omega) (by omega))) (by first | omega | assumption | exact cu_36 (by omega) (cu_lt (by omega) (by omega))) (fun c78 => ?_) (fun c78 => ?_)
    · omega
    · refine rn_ic (v := 0) d_239_81 (by decide) ?_
      refine rr_nx (pc' := 84) (al' := [some (.ref 146), some (.int (nI t)), some (.int (nI i)), some (.int (nI b)), some (.int (nI x)), some (.int (nI 0))]) (st' := []) d_239_82 (fun _ => rfl) ?_
      refine rr_upw (al := fun y w_ => [some (.ref 146), some (.int (nI t)), some (.int (nI i)), some (.int (nI b)), some (.int (nI x)), some (.int (nI y))]) (G := fun y w_ => g) (B := fun y w_ => (rf_u A 5 w_)) (P := fun y w_ => ScP (fun q => nI (exN n c b q)) (fun x y => 2 * n * x + y) (2 * n) x y w_) (n := 2 * n) (fun y w_ hy py ihy => ?_) (fun w_ py => ?_) 0 w_ (by omega) (px)
      · show RR _ _ 84 [some (.ref 146), some (.int (nI t)), some (.int (nI i)), some (.int (nI b)), some (.int (nI x)), some (.int (nI y))] [] g (rf_u A 5 w_) _
        have b0 : n * (x / 2) + y / 2 < n * n := cu_lt (by omega) (by omega)
        have b00 : n * n ≤ 9 := Nat.mul_le_mul hn3 hn3
        have b3 := bt_lt b (n * (x / 2) + y / 2)
        refine rr_nx (pc' := 86) (al' := [some (.ref 146), some (.int (nI t)), some (.int (nI i)), some (.int (nI b)), some (.int (nI x)), some (.int (nI y))]) (st' := [.int (nI y)]) d_239_84 (fun _ => rfl) ?_
        refine rr_nx (pc' := 87) (al' := [some (.ref 146), some (.int (nI t)), some (.int (nI i)), some (.int (nI b)), some (.int (nI x)), some (.int (nI y))]) (st' := [.ref 146, .int (nI y)]) d_239_86 (fun _ => rfl) ?_
        refine rr_gn d_239_87 mo_239 fl_134 rfl h8 ?_
        refine rn_cge (t := 159) d_239_90 (by decide) (by first | omega | assumption | exact cu_36 (by omega) (cu_lt (by omega) (by omega))) (by first | omega | assumption | exact cu_36 (by omega) (cu_lt (by omega) (by omega))) (fun c90 => ?_) (fun c90 => ?_)
        · omega
        · refine rr_nx (pc' := 94) (al' := [some (.ref 146), some (.int (nI t)), some (.int (nI i)), some (.int (nI b)), some (.int (nI x)), some (.int (nI y))]) (st' := [.ref 146]) d_239_93 (fun _ => rfl) ?_
          refine rr_gf (v := .ref (147 + 5)) d_239_94 mo_239 fl_26 rfl ?_
          refine rr_nx (pc' := 98) (al' := [some (.ref 146), some (.int (nI t)), some (.int (nI i)), some (.int (nI b)), some (.int (nI x)), some (.int (nI y))]) (st' := [.ref 146, .ref (147 + 5)]) d_239_97 (fun _ => rfl) ?_
          refine rr_gn d_239_98 mo_239 fl_134 rfl h8 ?_
          refine rr_nx (pc' := 103) (al' := [some (.ref 146), some (.int (nI t)), some (.int (nI i)), some (.int (nI b)), some (.int (nI x)), some (.int (nI y))]) (st' := [.int (nI x), .int (nI (2 * n)), .ref (147 + 5)]) d_239_101 (fun _ => rfl) ?_
          refine rn_mul d_239_103  ?_
          refine rr_nx (pc' := 106) (al' := [some (.ref 146), some (.int (nI t)), some (.int (nI i)), some (.int (nI b)), some (.int (nI x)), some (.int (nI y))]) (st' := [.int (nI y), .int (nI ((2 * n) * x)), .ref (147 + 5)]) d_239_104 (fun _ => rfl) ?_
          refine rn_add d_239_106  ?_
          refine rn_ic (v := 2) d_239_107 (by decide) ?_
          refine rr_nx (pc' := 109) (al' := [some (.ref 146), some (.int (nI t)), some (.int (nI i)), some (.int (nI b)), some (.int (nI x)), some (.int (nI y))]) (st' := [.ref 146, .int (nI 2), .int (nI (((2 * n) * x) + y)), .ref (147 + 5)]) d_239_108 (fun _ => rfl) ?_
          refine rr_nx (pc' := 111) (al' := [some (.ref 146), some (.int (nI t)), some (.int (nI i)), some (.int (nI b)), some (.int (nI x)), some (.int (nI y))]) (st' := [.int (nI x), .ref 146, .int (nI 2), .int (nI (((2 * n) * x) + y)), .ref (147 + 5)]) d_239_109 (fun _ => rfl) ?_
          refine rn_ic (v := 2) d_239_111 (by decide) ?_
          refine rn_div d_239_112 (by first | omega | assumption | exact cu_36 (by omega) (cu_lt (by omega) (by omega))) (by first | omega | assumption | exact cu_36 (by omega) (cu_lt (by omega) (by omega))) (by first | omega | assumption | exact cu_36 (by omega) (cu_lt (by omega) (by omega))) ?_
          refine rr_nx (pc' := 115) (al' := [some (.ref 146), some (.int (nI t)), some (.int (nI i)), some (.int (nI b)), some (.int (nI x)), some (.int (nI y))]) (st' := [.int (nI y), .int (nI (x / 2)), .ref 146, .int (nI 2), .int (nI (((2 * n) * x) + y)), .ref (147 + 5)]) d_239_113 (fun _ => rfl) ?_
          refine rn_ic (v := 2) d_239_115 (by decide) ?_
          refine rn_div d_239_116 (by first | omega | assumption | exact cu_36 (by omega) (cu_lt (by omega) (by omega))) (by first | omega | assumption | exact cu_36 (by omega) (cu_lt (by omega) (by omega))) (by first | omega | assumption | exact cu_36 (by omega) (cu_lt (by omega) (by omega))) ?_
          refine rr_pv (as := [.int (nI (x / 2)), .int (nI (y / 2))]) (al0 := [some (.ref 146), some (.int (nI (x / 2))), some (.int (nI (y / 2)))]) (r := [.int (nI 2), .int (nI (((2 * n) * x) + y)), .ref (147 + 5)]) d_239_117 mo_239 ml_130 mz_213 rfl rfl rfl (Nat.le_of_ble_eq_true rfl) (s_times (hc.up (by decide)) (by omega) (by omega)) ?_
          show RR _ _ 120 [some (.ref 146), some (.int (nI t)), some (.int (nI i)), some (.int (nI b)), some (.int (nI x)), some (.int (nI y))] [.int (nI (c (n * (x / 2) + (y / 2)))), .int (nI 2), .int (nI (((2 * n) * x) + y)), .ref (147 + 5)] g (rf_u A 5 w_) _
          have b117 : c (n * (x / 2) + (y / 2)) < n := (hc.2.2 _ (cu_lt (by omega) (by omega))).2
          refine rn_mul d_239_120  ?_
          refine rr_nx (pc' := 123) (al' := [some (.ref 146), some (.int (nI t)), some (.int (nI i)), some (.int (nI b)), some (.int (nI x)), some (.int (nI y))]) (st' := [.int (nI x), .int (nI (2 * (c (n * (x / 2) + (y / 2))))), .int (nI (((2 * n) * x) + y)), .ref (147 + 5)]) d_239_121 (fun _ => rfl) ?_
          refine rn_ic (v := 2) d_239_123 (by decide) ?_
          refine rn_rem d_239_124 (by first | omega | assumption | exact cu_36 (by omega) (cu_lt (by omega) (by omega))) (by first | omega | assumption | exact cu_36 (by omega) (cu_lt (by omega) (by omega))) (by first | omega | assumption | exact cu_36 (by omega) (cu_lt (by omega) (by omega))) ?_
          refine rr_nx (pc' := 127) (al' := [some (.ref 146), some (.int (nI t)), some (.int (nI i)), some (.int (nI b)), some (.int (nI x)), some (.int (nI y))]) (st' := [.int (nI y), .int (nI (x % 2)), .int (nI (2 * (c (n * (x / 2) + (y / 2))))), .int (nI (((2 * n) * x) + y)), .ref (147 + 5)]) d_239_125 (fun _ => rfl) ?_
          refine rn_ic (v := 2) d_239_127 (by decide) ?_
          refine rn_rem d_239_128 (by first | omega | assumption | exact cu_36 (by omega) (cu_lt (by omega) (by omega))) (by first | omega | assumption | exact cu_36 (by omega) (cu_lt (by omega) (by omega))) (by first | omega | assumption | exact cu_36 (by omega) (cu_lt (by omega) (by omega))) ?_
          refine rn_add d_239_129  ?_
          refine rr_nx (pc' := 131) (al' := [some (.ref 146), some (.int (nI t)), some (.int (nI i)), some (.int (nI b)), some (.int (nI x)), some (.int (nI y))]) (st' := [.int (nI b), .int (nI ((x % 2) + (y % 2))), .int (nI (2 * (c (n * (x / 2) + (y / 2))))), .int (nI (((2 * n) * x) + y)), .ref (147 + 5)]) d_239_130 (fun _ => rfl) ?_
          refine rr_nx (pc' := 132) (al' := [some (.ref 146), some (.int (nI t)), some (.int (nI i)), some (.int (nI b)), some (.int (nI x)), some (.int (nI y))]) (st' := [.ref 146, .int (nI b), .int (nI ((x % 2) + (y % 2))), .int (nI (2 * (c (n * (x / 2) + (y / 2))))), .int (nI (((2 * n) * x) + y)), .ref (147 + 5)]) d_239_131 (fun _ => rfl) ?_
          refine rr_gn d_239_132 mo_239 fl_127 rfl hc.1 ?_
          refine rr_nx (pc' := 137) (al' := [some (.ref 146), some (.int (nI t)), some (.int (nI i)), some (.int (nI b)), some (.int (nI x)), some (.int (nI y))]) (st' := [.int (nI x), .int (nI n), .int (nI b), .int (nI ((x % 2) + (y % 2))), .int (nI (2 * (c (n * (x / 2) + (y / 2))))), .int (nI (((2 * n) * x) + y)), .ref (147 + 5)]) d_239_135 (fun _ => rfl) ?_
          refine rn_ic (v := 2) d_239_137 (by decide) ?_
          refine rn_div d_239_138 (by first | omega | assumption | exact cu_36 (by omega) (cu_lt (by omega) (by omega))) (by first | omega | assumption | exact cu_36 (by omega) (cu_lt (by omega) (by omega))) (by first | omega | assumption | exact cu_36 (by omega) (cu_lt (by omega) (by omega))) ?_
          refine rn_mul d_239_139  ?_
          refine rr_nx (pc' := 142) (al' := [some (.ref 146), some (.int (nI t)), some (.int (nI i)), some (.int (nI b)), some (.int (nI x)), some (.int (nI y))]) (st' := [.int (nI y), .int (nI (n * (x / 2))), .int (nI b), .int (nI ((x % 2) + (y % 2))), .int (nI (2 * (c (n * (x / 2) + (y / 2))))), .int (nI (((2 * n) * x) + y)), .ref (147 + 5)]) d_239_140 (fun _ => rfl) ?_
          refine rn_ic (v := 2) d_239_142 (by decide) ?_
          refine rn_div d_239_143 (by first | omega | assumption | exact cu_36 (by omega) (cu_lt (by omega) (by omega))) (by first | omega | assumption | exact cu_36 (by omega) (cu_lt (by omega) (by omega))) (by first | omega | assumption | exact cu_36 (by omega) (cu_lt (by omega) (by omega))) ?_
          refine rn_add d_239_144  ?_
          refine rn_shr d_239_145 (by first | omega | assumption | exact cu_36 (by omega) (cu_lt (by omega) (by omega))) (by first | omega | assumption | exact cu_36 (by omega) (cu_lt (by omega) (by omega))) ?_
          refine rn_ic (v := 1) d_239_146 (by decide) ?_
          refine rn_and d_239_147 ?_
          refine rn_add d_239_148  ?_
          refine rn_ic (v := 2) d_239_149 (by decide) ?_
          refine rn_rem d_239_150 (by first | omega | assumption | exact cu_36 (by omega) (cu_lt (by omega) (by omega))) (by first | omega | assumption | exact cu_36 (by omega) (cu_lt (by omega) (by omega))) (by first | omega | assumption | exact cu_36 (by omega) (cu_lt (by omega) (by omega))) ?_
          refine rn_add d_239_151  ?_
          refine rr_iS (j := 5) (A1 := (rf_u A 5 (upd w_ (((2 * n) * x) + y) (nI ((2 * (c (n * (x / 2) + (y / 2)))) + ((((x % 2) + (y % 2)) + ((b / 2 ^ ((n * (x / 2)) + (y / 2))) &&& 1)) % 2)))))) d_239_152 (by decide) rfl (by decide) (show ((2 * n) * x) + y < 36 by first | omega | assumption | exact cu_36 (by omega) (cu_lt (by omega) (by omega))) rf_uw ?_
          refine rn_inc d_239_153 rfl rfl ?_
          show RR _ _ 156 [some (.ref 146), some (.int (nI t)), some (.int (nI i)), some (.int (nI b)), some (.int (nI x)), some (.int (nI (y + 1)))] [] g (rf_u A 5 (upd w_ (((2 * n) * x) + y) (nI ((2 * (c (n * (x / 2) + (y / 2)))) + ((((x % 2) + (y % 2)) + ((b / 2 ^ ((n * (x / 2)) + (y / 2))) &&& 1)) % 2))))) _
          refine rr_nx (pc' := 84) (al' := [some (.ref 146), some (.int (nI t)), some (.int (nI i)), some (.int (nI b)), some (.int (nI x)), some (.int (nI (y + 1)))]) (st' := []) d_239_156 (fun _ => rfl) ?_
          exact ihy (upd w_ (((2 * n) * x) + y) (nI ((2 * (c (n * (x / 2) + (y / 2)))) + ((((x % 2) + (y % 2)) + ((b / 2 ^ ((n * (x / 2)) + (y / 2))) &&& 1)) % 2)))) (sc_in py rfl (by rw [ex_at hy]; rfl))
      · show RR _ _ 84 [some (.ref 146), some (.int (nI t)), some (.int (nI i)), some (.int (nI b)), some (.int (nI x)), some (.int (nI (2 * n)))] [] g (rf_u A 5 w_) _
        refine rr_nx (pc' := 86) (al' := [some (.ref 146), some (.int (nI t)), some (.int (nI i)), some (.int (nI b)), some (.int (nI x)), some (.int (nI (2 * n)))]) (st' := [.int (nI (2 * n))]) d_239_84 (fun _ => rfl) ?_
        refine rr_nx (pc' := 87) (al' := [some (.ref 146), some (.int (nI t)), some (.int (nI i)), some (.int (nI b)), some (.int (nI x)), some (.int (nI (2 * n)))]) (st' := [.ref 146, .int (nI (2 * n))]) d_239_86 (fun _ => rfl) ?_
        refine rr_gn d_239_87 mo_239 fl_134 rfl h8 ?_
        refine rn_cge (t := 159) d_239_90 (by decide) (by first | omega | assumption | exact cu_36 (by omega) (cu_lt (by omega) (by omega))) (by first | omega | assumption | exact cu_36 (by omega) (cu_lt (by omega) (by omega))) (fun c90 => ?_) (fun c90 => ?_)
        · refine rn_inc d_239_159 rfl rfl ?_
          show RR _ _ 162 [some (.ref 146), some (.int (nI t)), some (.int (nI i)), some (.int (nI b)), some (.int (nI (x + 1))), some (.int (nI (2 * n)))] [] g (rf_u A 5 w_) _
          refine rr_nx (pc' := 72) (al' := [some (.ref 146), some (.int (nI t)), some (.int (nI i)), some (.int (nI b)), some (.int (nI (x + 1))), some (.int (nI (2 * n)))]) (st' := []) d_239_162 (fun _ => rfl) ?_
          refine rr_dr (al1 := [some (.ref 146), some (.int (nI t)), some (.int (nI i)), some (.int (nI b)), some (.int (nI (x + 1))), none]) (le_s (le_s (le_s (le_s (le_s (le_d rfl (le_n))))))) ?_
          exact ihx w_ (sc_out py)
        · omega
  · show RR _ _ 72 [some (.ref 146), some (.int (nI t)), some (.int (nI i)), some (.int (nI b)), some (.int (nI (2 * n))), none] [] g (rf_u A 5 w_) _
    refine rr_nx (pc' := 74) (al' := [some (.ref 146), some (.int (nI t)), some (.int (nI i)), some (.int (nI b)), some (.int (nI (2 * n))), none]) (st' := [.int (nI (2 * n))]) d_239_72 (fun _ => rfl) ?_
    refine rr_nx (pc' := 75) (al' := [some (.ref 146), some (.int (nI t)), some (.int (nI i)), some (.int (nI b)), some (.int (nI (2 * n))), none]) (st' := [.ref 146, .int (nI (2 * n))]) d_239_74 (fun _ => rfl) ?_
    refine rr_gn d_239_75 mo_239 fl_134 rfl h8 ?_
    refine rn_cge (t := 165) d_239_78 (by decide) (by first | omega | assumption | exact cu_36 (by omega) (cu_lt (by omega) (by omega))) (by first | omega | assumption | exact cu_36 (by omega) (cu_lt (by omega) (by omega))) (fun c78 => ?_) (fun c78 => ?_)
    · exact hk w_ (sc_all px (sc_rm))
    · omega
theorem k_makeProduct {S : CS} {G : Nat → Nat → Value} {B : Nat → Nat → Int32} {J : Nat → Nat → Int64} {R : Nat → Nat → Option Nat} {a b d p m : Nat} (ht : TabAt S G a) (hn : G a 0 = .int (nI p)) {c : Nat → Nat} (hc : TabC B a p c) (hu : TabAt S G b) (hm : G b 0 = .int (nI m)) {e : Nat → Nat} (he : TabC B b m e) (hd : TabAt S G d) (hne : a ≠ d) (hbe : b ≠ d) (hpm : p * m ≤ 6) : CR 1 104 0 [some (.ref d), some (.ref a), some (.ref b), none, none, none, none, none] [] S G B J R (mkC d S G B J R (p * m) (prN p m c e)) := by
  have hp6 := hc.1
  have hm6 := he.1
  have ht' : TabAt S (up2 G d 0 (.int (nI (p * m)))) a := ht.up
  have hu' : TabAt S (up2 G d 0 (.int (nI (p * m)))) b := hu.up
  have hd' : TabAt S (up2 G d 0 (.int (nI (p * m)))) d := hd.up
  have hn' : up2 G d 0 (.int (nI (p * m))) a 0 = .int (nI p) := up2_0 hne hn
  have hm' : up2 G d 0 (.int (nI (p * m))) b 0 = .int (nI m) := up2_0 hbe hm
  have hdn' : up2 G d 0 (.int (nI (p * m))) d 0 = .int (nI (p * m)) := up2_s
  refine cr_nx (pc' := 1) (al' := [some (.ref d), some (.ref a), some (.ref b), none, none, none, none, none]) (st' := [.ref b]) d_104_0 (fun _ => rfl) ?_
  refine cr_gf (v := .int (nI m)) d_104_1 cw_104 cf_10_15 hu.1 hu.2.2.1 (by decide) hm ?_
  refine cr_nx (pc' := 5) (al' := [some (.ref d), some (.ref a), some (.ref b), some (.int (nI m)), none, none, none, none]) (st' := []) d_104_4 (fun _ => rfl) ?_
  refine cr_nx (pc' := 6) (al' := [some (.ref d), some (.ref a), some (.ref b), some (.int (nI m)), none, none, none, none]) (st' := [.ref d]) d_104_5 (fun _ => rfl) ?_
  refine cr_nx (pc' := 7) (al' := [some (.ref d), some (.ref a), some (.ref b), some (.int (nI m)), none, none, none, none]) (st' := [.ref a, .ref d]) d_104_6 (fun _ => rfl) ?_
  refine cr_gf (v := .int (nI p)) d_104_7 cw_104 cf_10_15 ht.1 ht.2.2.1 (by decide) hn ?_
  refine cr_nx (pc' := 11) (al' := [some (.ref d), some (.ref a), some (.ref b), some (.int (nI m)), none, none, none, none]) (st' := [.int (nI m), .int (nI p), .ref d]) d_104_10 (fun _ => rfl) ?_
  refine cn_mul d_104_11  ?_
  refine cp_10_0  d_104_12 cw_104 cf_10_15 hd.1 hd.2.2.1 (by decide) ?_
  refine cn_ic (v := 0) d_104_15 (by decide) ?_
  refine cr_nx (pc' := 18) (al' := [some (.ref d), some (.ref a), some (.ref b), some (.int (nI m)), some (.int (nI 0)), none, none, none]) (st' := []) d_104_16 (fun _ => rfl) ?_
  refine cr_B (show B = (upr B (d + 1) (B (d + 1))) by rw [upr_id]) ?_
  refine cr_upw (al := fun i w_ => [some (.ref d), some (.ref a), some (.ref b), some (.int (nI m)), some (.int (nI i)), none, none, none]) (S := fun i w_ => S) (G := fun i w_ => (up2 G d 0 (.int (nI (p * m))))) (B := fun i w_ => (upr B (d + 1) w_)) (J := fun i w_ => J) (R := fun i w_ => R) (P := fun i w_ => ScQ (fun q => nI (prN p m c e q)) (fun i j q => ∃ k l, k < m ∧ l < m ∧ q = p * m * (m * i + k) + (m * j + l)) p i 0 w_) (n := p) (fun i w_ hi pi ihi => ?_) (fun w_ pi => ?_) 0 (B (d + 1)) (by omega) (sq_0)
  · show CR _ _ 18 [some (.ref d), some (.ref a), some (.ref b), some (.int (nI m)), some (.int (nI i)), none, none, none] [] S (up2 G d 0 (.int (nI (p * m)))) (upr B (d + 1) w_) J R _
    refine cr_nx (pc' := 20) (al' := [some (.ref d), some (.ref a), some (.ref b), some (.int (nI m)), some (.int (nI i)), none, none, none]) (st' := [.int (nI i)]) d_104_18 (fun _ => rfl) ?_
    refine cr_nx (pc' := 21) (al' := [some (.ref d), some (.ref a), some (.ref b), some (.int (nI m)), some (.int (nI i)), none, none, none]) (st' := [.ref a, .int (nI i)]) d_104_20 (fun _ => rfl) ?_
    refine cr_gf (v := .int (nI p)) d_104_21 cw_104 cf_10_15 ht.1 ht.2.2.1 (by decide) (by simp [up2, hne, hbe]; exact hn) ?_
    refine cn_cge (t := 118) d_104_24 (by decide) (by first | omega | assumption | exact cu_36 (by omega) (cu_lt (by omega) (by omega))) (by first | omega | assumption | exact cu_36 (by omega) (cu_lt (by omega) (by omega))) (fun c24 => ?_) (fun c24 => ?_)
    · omega
    · refine cn_ic (v := 0) d_104_27 (by decide) ?_
      refine cr_nx (pc' := 30) (al' := [some (.ref d), some (.ref a), some (.ref b), some (.int (nI m)), some (.int (nI i)), some (.int (nI 0)), none, none]) (st' := []) d_104_28 (fun _ => rfl) ?_
      refine cr_upw (al := fun j w_ => [some (.ref d), some (.ref a), some (.ref b), some (.int (nI m)), some (.int (nI i)), some (.int (nI j)), none, none]) (S := fun j w_ => S) (G := fun j w_ => (up2 G d 0 (.int (nI (p * m))))) (B := fun j w_ => (upr B (d + 1) w_)) (J := fun j w_ => J) (R := fun j w_ => R) (P := fun j w_ => ScQ (fun q => nI (prN p m c e q)) (fun i j q => ∃ k l, k < m ∧ l < m ∧ q = p * m * (m * i + k) + (m * j + l)) p i j w_) (n := p) (fun j w_ hj pj ihj => ?_) (fun w_ pj => ?_) 0 w_ (by omega) (pi)
      · show CR _ _ 30 [some (.ref d), some (.ref a), some (.ref b), some (.int (nI m)), some (.int (nI i)), some (.int (nI j)), none, none] [] S (up2 G d 0 (.int (nI (p * m)))) (upr B (d + 1) w_) J R _
        refine cr_nx (pc' := 32) (al' := [some (.ref d), some (.ref a), some (.ref b), some (.int (nI m)), some (.int (nI i)), some (.int (nI j)), none, none]) (st' := [.int (nI j)]) d_104_30 (fun _ => rfl) ?_
        refine cr_nx (pc' := 33) (al' := [some (.ref d), some (.ref a), some (.ref b), some (.int (nI m)), some (.int (nI i)), some (.int (nI j)), none, none]) (st' := [.ref a, .int (nI j)]) d_104_32 (fun _ => rfl) ?_
        refine cr_gf (v := .int (nI p)) d_104_33 cw_104 cf_10_15 ht.1 ht.2.2.1 (by decide) (by simp [up2, hne, hbe]; exact hn) ?_
        refine cn_cge (t := 112) d_104_36 (by decide) (by first | omega | assumption | exact cu_36 (by omega) (cu_lt (by omega) (by omega))) (by first | omega | assumption | exact cu_36 (by omega) (cu_lt (by omega) (by omega))) (fun c36 => ?_) (fun c36 => ?_)
        · omega
        · refine cn_ic (v := 0) d_104_39 (by decide) ?_
          refine cr_nx (pc' := 42) (al' := [some (.ref d), some (.ref a), some (.ref b), some (.int (nI m)), some (.int (nI i)), some (.int (nI j)), some (.int (nI 0)), none]) (st' := []) d_104_40 (fun _ => rfl) ?_
          refine cr_upw (al := fun k w_ => [some (.ref d), some (.ref a), some (.ref b), some (.int (nI m)), some (.int (nI i)), some (.int (nI j)), some (.int (nI k)), none]) (S := fun k w_ => S) (G := fun k w_ => (up2 G d 0 (.int (nI (p * m))))) (B := fun k w_ => (upr B (d + 1) w_)) (J := fun k w_ => J) (R := fun k w_ => R) (P := fun k w_ => ScQ (fun q => nI (prN p m c e q)) (fun i j q => ∃ k l, k < m ∧ l < m ∧ q = p * m * (m * i + k) + (m * j + l)) p i j w_ ∧ ScP (fun q => nI (prN p m c e q)) (fun k l => p * m * (m * i + k) + (m * j + l)) m k 0 w_) (n := m) (fun k w_ hk pk ihk => ?_) (fun w_ pk => ?_) 0 w_ (by omega) (⟨pj, sc_0⟩)
          · show CR _ _ 42 [some (.ref d), some (.ref a), some (.ref b), some (.int (nI m)), some (.int (nI i)), some (.int (nI j)), some (.int (nI k)), none] [] S (up2 G d 0 (.int (nI (p * m)))) (upr B (d + 1) w_) J R _
            refine cr_nx (pc' := 44) (al' := [some (.ref d), some (.ref a), some (.ref b), some (.int (nI m)), some (.int (nI i)), some (.int (nI j)), some (.int (nI k)), none]) (st' := [.int (nI k)]) d_104_42 (fun _ => rfl) ?_
            refine cr_nx (pc' := 45) (al' := [some (.ref d), some (.ref a), some (.ref b), some (.int (nI m)), some (.int (nI i)), some (.int (nI j)), some (.int (nI k)), none]) (st' := [.int (nI m), .int (nI k)]) d_104_44 (fun _ => rfl) ?_
            refine cn_cge (t := 106) d_104_45 (by decide) (by first | omega | assumption | exact cu_36 (by omega) (cu_lt (by omega) (by omega))) (by first | omega | assumption | exact cu_36 (by omega) (cu_lt (by omega) (by omega))) (fun c45 => ?_) (fun c45 => ?_)
            · omega
            · refine cn_ic (v := 0) d_104_48 (by decide) ?_
              refine cr_nx (pc' := 51) (al' := [some (.ref d), some (.ref a), some (.ref b), some (.int (nI m)), some (.int (nI i)), some (.int (nI j)), some (.int (nI k)), some (.int (nI 0))]) (st' := []) d_104_49 (fun _ => rfl) ?_
              refine cr_upw (al := fun l w_ => [some (.ref d), some (.ref a), some (.ref b), some (.int (nI m)), some (.int (nI i)), some (.int (nI j)), some (.int (nI k)), some (.int (nI l))]) (S := fun l w_ => S) (G := fun l w_ => (up2 G d 0 (.int (nI (p * m))))) (B := fun l w_ => (upr B (d + 1) w_)) (J := fun l w_ => J) (R := fun l w_ => R) (P := fun l w_ => ScQ (fun q => nI (prN p m c e q)) (fun i j q => ∃ k l, k < m ∧ l < m ∧ q = p * m * (m * i + k) + (m * j + l)) p i j w_ ∧ ScP (fun q => nI (prN p m c e q)) (fun k l => p * m * (m * i + k) + (m * j + l)) m k l w_) (n := m) (fun l w_ hl pl ihl => ?_) (fun w_ pl => ?_) 0 w_ (by omega) (⟨pk.1, pk.2⟩)
              · show CR _ _ 51 [some (.ref d), some (.ref a), some (.ref b), some (.int (nI m)), some (.int (nI i)), some (.int (nI j)), some (.int (nI k)), some (.int (nI l))] [] S (up2 G d 0 (.int (nI (p * m)))) (upr B (d + 1) w_) J R _
                refine cr_nx (pc' := 53) (al' := [some (.ref d), some (.ref a), some (.ref b), some (.int (nI m)), some (.int (nI i)), some (.int (nI j)), some (.int (nI k)), some (.int (nI l))]) (st' := [.int (nI l)]) d_104_51 (fun _ => rfl) ?_
                refine cr_nx (pc' := 54) (al' := [some (.ref d), some (.ref a), some (.ref b), some (.int (nI m)), some (.int (nI i)), some (.int (nI j)), some (.int (nI k)), some (.int (nI l))]) (st' := [.int (nI m), .int (nI l)]) d_104_53 (fun _ => rfl) ?_
                refine cn_cge (t := 100) d_104_54 (by decide) (by first | omega | assumption | exact cu_36 (by omega) (cu_lt (by omega) (by omega))) (by first | omega | assumption | exact cu_36 (by omega) (cu_lt (by omega) (by omega))) (fun c54 => ?_) (fun c54 => ?_)
                · omega
                · refine cr_nx (pc' := 58) (al' := [some (.ref d), some (.ref a), some (.ref b), some (.int (nI m)), some (.int (nI i)), some (.int (nI j)), some (.int (nI k)), some (.int (nI l))]) (st' := [.ref d]) d_104_57 (fun _ => rfl) ?_
                  refine cr_nx (pc' := 59) (al' := [some (.ref d), some (.ref a), some (.ref b), some (.int (nI m)), some (.int (nI i)), some (.int (nI j)), some (.int (nI k)), some (.int (nI l))]) (st' := [.int (nI m), .ref d]) d_104_58 (fun _ => rfl) ?_
                  refine cr_nx (pc' := 61) (al' := [some (.ref d), some (.ref a), some (.ref b), some (.int (nI m)), some (.int (nI i)), some (.int (nI j)), some (.int (nI k)), some (.int (nI l))]) (st' := [.int (nI i), .int (nI m), .ref d]) d_104_59 (fun _ => rfl) ?_
                  refine cn_mul d_104_61  ?_
                  refine cr_nx (pc' := 64) (al' := [some (.ref d), some (.ref a), some (.ref b), some (.int (nI m)), some (.int (nI i)), some (.int (nI j)), some (.int (nI k)), some (.int (nI l))]) (st' := [.int (nI k), .int (nI (m * i)), .ref d]) d_104_62 (fun _ => rfl) ?_
                  refine cn_add d_104_64  ?_
                  refine cr_nx (pc' := 66) (al' := [some (.ref d), some (.ref a), some (.ref b), some (.int (nI m)), some (.int (nI i)), some (.int (nI j)), some (.int (nI k)), some (.int (nI l))]) (st' := [.int (nI m), .int (nI ((m * i) + k)), .ref d]) d_104_65 (fun _ => rfl) ?_
                  refine cr_nx (pc' := 68) (al' := [some (.ref d), some (.ref a), some (.ref b), some (.int (nI m)), some (.int (nI i)), some (.int (nI j)), some (.int (nI k)), some (.int (nI l))]) (st' := [.int (nI j), .int (nI m), .int (nI ((m * i) + k)), .ref d]) d_104_66 (fun _ => rfl) ?_
                  refine cn_mul d_104_68  ?_
                  refine cr_nx (pc' := 71) (al' := [some (.ref d), some (.ref a), some (.ref b), some (.int (nI m)), some (.int (nI i)), some (.int (nI j)), some (.int (nI k)), some (.int (nI l))]) (st' := [.int (nI l), .int (nI (m * j)), .int (nI ((m * i) + k)), .ref d]) d_104_69 (fun _ => rfl) ?_
                  refine cn_add d_104_71  ?_
                  refine cr_nx (pc' := 73) (al' := [some (.ref d), some (.ref a), some (.ref b), some (.int (nI m)), some (.int (nI i)), some (.int (nI j)), some (.int (nI k)), some (.int (nI l))]) (st' := [.int (nI m), .int (nI ((m * j) + l)), .int (nI ((m * i) + k)), .ref d]) d_104_72 (fun _ => rfl) ?_
                  refine cr_nx (pc' := 74) (al' := [some (.ref d), some (.ref a), some (.ref b), some (.int (nI m)), some (.int (nI i)), some (.int (nI j)), some (.int (nI k)), some (.int (nI l))]) (st' := [.ref a, .int (nI m), .int (nI ((m * j) + l)), .int (nI ((m * i) + k)), .ref d]) d_104_73 (fun _ => rfl) ?_
                  refine cr_nx (pc' := 76) (al' := [some (.ref d), some (.ref a), some (.ref b), some (.int (nI m)), some (.int (nI i)), some (.int (nI j)), some (.int (nI k)), some (.int (nI l))]) (st' := [.int (nI i), .ref a, .int (nI m), .int (nI ((m * j) + l)), .int (nI ((m * i) + k)), .ref d]) d_104_74 (fun _ => rfl) ?_
                  refine cr_nx (pc' := 78) (al' := [some (.ref d), some (.ref a), some (.ref b), some (.int (nI m)), some (.int (nI i)), some (.int (nI j)), some (.int (nI k)), some (.int (nI l))]) (st' := [.int (nI j), .int (nI i), .ref a, .int (nI m), .int (nI ((m * j) + l)), .int (nI ((m * i) + k)), .ref d]) d_104_76 (fun _ => rfl) ?_
                  refine cr_pv (b := a) (as := [.int (nI i), .int (nI j)]) (al0 := [some (.ref a), some (.int (nI i)), some (.int (nI j))]) (r := [.int (nI m), .int (nI ((m * j) + l)), .int (nI ((m * i) + k)), .ref d]) d_104_78 cw_104 cm_10_23 cz_91 rfl rfl ht.1 (by rw [cw_91]; exact ht.2.2.1) (by rw [cw_91]; decide) rfl (Nat.le_of_ble_eq_true rfl) (k_times ht' hn' (TabC.up hne hc) (by omega) (by omega)) ?_
                  show CR _ _ 81 [some (.ref d), some (.ref a), some (.ref b), some (.int (nI m)), some (.int (nI i)), some (.int (nI j)), some (.int (nI k)), some (.int (nI l))] [.int (nI (c (p * i + j))), .int (nI m), .int (nI ((m * j) + l)), .int (nI ((m * i) + k)), .ref d] S (up2 G d 0 (.int (nI (p * m)))) (upr B (d + 1) w_) J R _
                  have b78 : c (p * i + j) < p := (hc.2 _ (cu_lt (by omega) (by omega))).2
                  refine cn_mul d_104_81  ?_
                  refine cr_nx (pc' := 83) (al' := [some (.ref d), some (.ref a), some (.ref b), some (.int (nI m)), some (.int (nI i)), some (.int (nI j)), some (.int (nI k)), some (.int (nI l))]) (st' := [.ref b, .int (nI (m * (c (p * i + j)))), .int (nI ((m * j) + l)), .int (nI ((m * i) + k)), .ref d]) d_104_82 (fun _ => rfl) ?_
                  refine cr_nx (pc' := 85) (al' := [some (.ref d), some (.ref a), some (.ref b), some (.int (nI m)), some (.int (nI i)), some (.int (nI j)), some (.int (nI k)), some (.int (nI l))]) (st' := [.int (nI k), .ref b, .int (nI (m * (c (p * i + j)))), .int (nI ((m * j) + l)), .int (nI ((m * i) + k)), .ref d]) d_104_83 (fun _ => rfl) ?_
                  refine cr_nx (pc' := 87) (al' := [some (.ref d), some (.ref a), some (.ref b), some (.int (nI m)), some (.int (nI i)), some (.int (nI j)), some (.int (nI k)), some (.int (nI l))]) (st' := [.int (nI l), .int (nI k), .ref b, .int (nI (m * (c (p * i + j)))), .int (nI ((m * j) + l)), .int (nI ((m * i) + k)), .ref d]) d_104_85 (fun _ => rfl) ?_
                  refine cr_pv (b := b) (as := [.int (nI k), .int (nI l)]) (al0 := [some (.ref b), some (.int (nI k)), some (.int (nI l))]) (r := [.int (nI (m * (c (p * i + j)))), .int (nI ((m * j) + l)), .int (nI ((m * i) + k)), .ref d]) d_104_87 cw_104 cm_10_23 cz_91 rfl rfl hu.1 (by rw [cw_91]; exact hu.2.2.1) (by rw [cw_91]; decide) rfl (Nat.le_of_ble_eq_true rfl) (k_times hu' hm' (TabC.up hbe he) (by omega) (by omega)) ?_
                  show CR _ _ 90 [some (.ref d), some (.ref a), some (.ref b), some (.int (nI m)), some (.int (nI i)), some (.int (nI j)), some (.int (nI k)), some (.int (nI l))] [.int (nI (e (m * k + l))), .int (nI (m * (c (p * i + j)))), .int (nI ((m * j) + l)), .int (nI ((m * i) + k)), .ref d] S (up2 G d 0 (.int (nI (p * m)))) (upr B (d + 1) w_) J R _
                  have b87 : e (m * k + l) < m := (he.2 _ (cu_lt (by omega) (by omega))).2
                  refine cn_add d_104_90  ?_
                  refine cr_pv (b := d) (as := [.int (nI ((m * i) + k)), .int (nI ((m * j) + l)), .int (nI ((m * (c (p * i + j))) + (e (m * k + l))))]) (al0 := [some (.ref d), some (.int (nI ((m * i) + k))), some (.int (nI ((m * j) + l))), some (.int (nI ((m * (c (p * i + j))) + (e (m * k + l)))))]) (r := []) d_104_91 cw_104 cm_10_33 cz_95 rfl rfl hd.1 (by rw [cw_95]; exact hd.2.2.1) (by rw [cw_95]; decide) rfl (Nat.le_of_ble_eq_true rfl) (k_put hd' hdn' (nI ((m * (c (p * i + j))) + (e (m * k + l)))) (cu_36 hpm (cu_lt (mk_lt hi hk) (mk_lt hj hl)))) ?_
                  rw [upr_s, upr_u]
                  show CR _ _ 94 [some (.ref d), some (.ref a), some (.ref b), some (.int (nI m)), some (.int (nI i)), some (.int (nI j)), some (.int (nI k)), some (.int (nI l))] [] S (up2 G d 0 (.int (nI (p * m)))) (upr B (d + 1) (upd w_ ((p * m) * ((m * i) + k) + ((m * j) + l)) (nI ((m * (c (p * i + j))) + (e (m * k + l)))))) J R _
                  refine cn_inc d_104_94 rfl rfl ?_
                  show CR _ _ 97 [some (.ref d), some (.ref a), some (.ref b), some (.int (nI m)), some (.int (nI i)), some (.int (nI j)), some (.int (nI k)), some (.int (nI (l + 1)))] [] S (up2 G d 0 (.int (nI (p * m)))) (upr B (d + 1) (upd w_ ((p * m) * ((m * i) + k) + ((m * j) + l)) (nI ((m * (c (p * i + j))) + (e (m * k + l)))))) J R _
                  refine cr_nx (pc' := 51) (al' := [some (.ref d), some (.ref a), some (.ref b), some (.int (nI m)), some (.int (nI i)), some (.int (nI j)), some (.int (nI k)), some (.int (nI (l + 1)))]) (st' := []) d_104_97 (fun _ => rfl) ?_
                  exact ihl (upd w_ ((p * m) * ((m * i) + k) + ((m * j) + l)) (nI ((m * (c (p * i + j))) + (e (m * k + l))))) (⟨sq_k (by rw [pr_at4 hj hk hl]) pl.1, sc_in pl.2 rfl (by rw [pr_at4 hj hk hl])⟩)
              · show CR _ _ 51 [some (.ref d), some (.ref a), some (.ref b), some (.int (nI m)), some (.int (nI i)), some (.int (nI j)), some (.int (nI k)), some (.int (nI m))] [] S (up2 G d 0 (.int (nI (p * m)))) (upr B (d + 1) w_) J R _
                refine cr_nx (pc' := 53) (al' := [some (.ref d), some (.ref a), some (.ref b), some (.int (nI m)), some (.int (nI i)), some (.int (nI j)), some (.int (nI k)), some (.int (nI m))]) (st' := [.int (nI m)]) d_104_51 (fun _ => rfl) ?_
                refine cr_nx (pc' := 54) (al' := [some (.ref d), some (.ref a), some (.ref b), some (.int (nI m)), some (.int (nI i)), some (.int (nI j)), some (.int (nI k)), some (.int (nI m))]) (st' := [.int (nI m), .int (nI m)]) d_104_53 (fun _ => rfl) ?_
                refine cn_cge (t := 100) d_104_54 (by decide) (by first | omega | assumption | exact cu_36 (by omega) (cu_lt (by omega) (by omega))) (by first | omega | assumption | exact cu_36 (by omega) (cu_lt (by omega) (by omega))) (fun c54 => ?_) (fun c54 => ?_)
                · refine cn_inc d_104_100 rfl rfl ?_
                  show CR _ _ 103 [some (.ref d), some (.ref a), some (.ref b), some (.int (nI m)), some (.int (nI i)), some (.int (nI j)), some (.int (nI (k + 1))), some (.int (nI m))] [] S (up2 G d 0 (.int (nI (p * m)))) (upr B (d + 1) w_) J R _
                  refine cr_nx (pc' := 42) (al' := [some (.ref d), some (.ref a), some (.ref b), some (.int (nI m)), some (.int (nI i)), some (.int (nI j)), some (.int (nI (k + 1))), some (.int (nI m))]) (st' := []) d_104_103 (fun _ => rfl) ?_
                  refine cr_dr (al1 := [some (.ref d), some (.ref a), some (.ref b), some (.int (nI m)), some (.int (nI i)), some (.int (nI j)), some (.int (nI (k + 1))), none]) (le_s (le_s (le_s (le_s (le_s (le_s (le_s (le_d rfl (le_n))))))))) ?_
                  exact ihk w_ (⟨pl.1, sc_out pl.2⟩)
                · omega
          · show CR _ _ 42 [some (.ref d), some (.ref a), some (.ref b), some (.int (nI m)), some (.int (nI i)), some (.int (nI j)), some (.int (nI m)), none] [] S (up2 G d 0 (.int (nI (p * m)))) (upr B (d + 1) w_) J R _
            refine cr_nx (pc' := 44) (al' := [some (.ref d), some (.ref a), some (.ref b), some (.int (nI m)), some (.int (nI i)), some (.int (nI j)), some (.int (nI m)), none]) (st' := [.int (nI m)]) d_104_42 (fun _ => rfl) ?_
            refine cr_nx (pc' := 45) (al' := [some (.ref d), some (.ref a), some (.ref b), some (.int (nI m)), some (.int (nI i)), some (.int (nI j)), some (.int (nI m)), none]) (st' := [.int (nI m), .int (nI m)]) d_104_44 (fun _ => rfl) ?_
            refine cn_cge (t := 106) d_104_45 (by decide) (by first | omega | assumption | exact cu_36 (by omega) (cu_lt (by omega) (by omega))) (by first | omega | assumption | exact cu_36 (by omega) (cu_lt (by omega) (by omega))) (fun c45 => ?_) (fun c45 => ?_)
            · refine cn_inc d_104_106 rfl rfl ?_
              show CR _ _ 109 [some (.ref d), some (.ref a), some (.ref b), some (.int (nI m)), some (.int (nI i)), some (.int (nI (j + 1))), some (.int (nI m)), none] [] S (up2 G d 0 (.int (nI (p * m)))) (upr B (d + 1) w_) J R _
              refine cr_nx (pc' := 30) (al' := [some (.ref d), some (.ref a), some (.ref b), some (.int (nI m)), some (.int (nI i)), some (.int (nI (j + 1))), some (.int (nI m)), none]) (st' := []) d_104_109 (fun _ => rfl) ?_
              refine cr_dr (al1 := [some (.ref d), some (.ref a), some (.ref b), some (.int (nI m)), some (.int (nI i)), some (.int (nI (j + 1))), none, none]) (le_s (le_s (le_s (le_s (le_s (le_s (le_d rfl (le_s (le_n))))))))) ?_
              exact ihj w_ (sq_in pk.1 (fun q ⟨k, l, hk, hl, e⟩ => by rw [e]; exact pk.2.1 k l hk hl))
            · omega
      · show CR _ _ 30 [some (.ref d), some (.ref a), some (.ref b), some (.int (nI m)), some (.int (nI i)), some (.int (nI p)), none, none] [] S (up2 G d 0 (.int (nI (p * m)))) (upr B (d + 1) w_) J R _
        refine cr_nx (pc' := 32) (al' := [some (.ref d), some (.ref a), some (.ref b), some (.int (nI m)), some (.int (nI i)), some (.int (nI p)), none, none]) (st' := [.int (nI p)]) d_104_30 (fun _ => rfl) ?_
        refine cr_nx (pc' := 33) (al' := [some (.ref d), some (.ref a), some (.ref b), some (.int (nI m)), some (.int (nI i)), some (.int (nI p)), none, none]) (st' := [.ref a, .int (nI p)]) d_104_32 (fun _ => rfl) ?_
        refine cr_gf (v := .int (nI p)) d_104_33 cw_104 cf_10_15 ht.1 ht.2.2.1 (by decide) (by simp [up2, hne, hbe]; exact hn) ?_
        refine cn_cge (t := 112) d_104_36 (by decide) (by first | omega | assumption | exact cu_36 (by omega) (cu_lt (by omega) (by omega))) (by first | omega | assumption | exact cu_36 (by omega) (cu_lt (by omega) (by omega))) (fun c36 => ?_) (fun c36 => ?_)
        · refine cn_inc d_104_112 rfl rfl ?_
          show CR _ _ 115 [some (.ref d), some (.ref a), some (.ref b), some (.int (nI m)), some (.int (nI (i + 1))), some (.int (nI p)), none, none] [] S (up2 G d 0 (.int (nI (p * m)))) (upr B (d + 1) w_) J R _
          refine cr_nx (pc' := 18) (al' := [some (.ref d), some (.ref a), some (.ref b), some (.int (nI m)), some (.int (nI (i + 1))), some (.int (nI p)), none, none]) (st' := []) d_104_115 (fun _ => rfl) ?_
          refine cr_dr (al1 := [some (.ref d), some (.ref a), some (.ref b), some (.int (nI m)), some (.int (nI (i + 1))), none, none, none]) (le_s (le_s (le_s (le_s (le_s (le_d rfl (le_s (le_s (le_n))))))))) ?_
          exact ihi w_ (sq_out pj)
        · omega
  · show CR _ _ 18 [some (.ref d), some (.ref a), some (.ref b), some (.int (nI m)), some (.int (nI p)), none, none, none] [] S (up2 G d 0 (.int (nI (p * m)))) (upr B (d + 1) w_) J R _
    refine cr_nx (pc' := 20) (al' := [some (.ref d), some (.ref a), some (.ref b), some (.int (nI m)), some (.int (nI p)), none, none, none]) (st' := [.int (nI p)]) d_104_18 (fun _ => rfl) ?_
    refine cr_nx (pc' := 21) (al' := [some (.ref d), some (.ref a), some (.ref b), some (.int (nI m)), some (.int (nI p)), none, none, none]) (st' := [.ref a, .int (nI p)]) d_104_20 (fun _ => rfl) ?_
    refine cr_gf (v := .int (nI p)) d_104_21 cw_104 cf_10_15 ht.1 ht.2.2.1 (by decide) (by simp [up2, hne, hbe]; exact hn) ?_
    refine cn_cge (t := 118) d_104_24 (by decide) (by first | omega | assumption | exact cu_36 (by omega) (cu_lt (by omega) (by omega))) (by first | omega | assumption | exact cu_36 (by omega) (cu_lt (by omega) (by omega))) (fun c24 => ?_) (fun c24 => ?_)
    · exact cr_rv d_104_118 cx_104 ⟨rfl, rfl, rfl, rfl, rfl, w_, rfl, fun q hq => by
          have hx := dm_dl hq
          have hy := dm_ml hq
          have hm0 : 0 < m := by
            rcases Nat.eq_zero_or_pos m with h0 | h0
            · subst h0
              simp at hx
            · exact h0
          have d1 : q / (p * m) / m < p := Nat.div_lt_of_lt_mul (by rw [Nat.mul_comm m p]; exact hx)
          have d2 : q % (p * m) / m < p := Nat.div_lt_of_lt_mul (by rw [Nat.mul_comm m p]; exact hy)
          exact pi.1 _ _ q d1 d2 ⟨q / (p * m) % m, q % (p * m) % m, Nat.mod_lt _ hm0, Nat.mod_lt _ hm0, by rw [Nat.div_add_mod (q / (p * m)) m, Nat.div_add_mod (q % (p * m)) m]; exact dm_q.symm⟩⟩
    · omega
def exF (n : Nat) (c : Nat → Nat) (b q : Nat) : Int32 := nI (exN n c b q)
theorem k_makeExtended {S : CS} {G : Nat → Nat → Value} {B : Nat → Nat → Int32} {J : Nat → Nat → Int64} {R : Nat → Nat → Option Nat} {a d n : Nat} (ht : TabAt S G a) (hn : G a 0 = .int (nI n)) {c : Nat → Nat} (hc : TabC B a n c) (hd : TabAt S G d) (hne : a ≠ d) {b : Nat} (hn3 : n ≤ 3) (hb : b < 512) : CR 1 105 0 [some (.ref d), some (.ref a), some (.int (nI b)), none, none, none, none, none] [] S G B J R (mkC d S G B J R (2 * n) (exN n c b)) := by
  have hn6 := hc.1
  have ht' : TabAt S (up2 G d 0 (.int (nI (2 * n)))) a := ht.up
  have hd' : TabAt S (up2 G d 0 (.int (nI (2 * n)))) d := hd.up
  have hn' : up2 G d 0 (.int (nI (2 * n))) a 0 = .int (nI n) := up2_0 hne hn
  have hdn' : up2 G d 0 (.int (nI (2 * n))) d 0 = .int (nI (2 * n)) := up2_s
  refine cr_nx (pc' := 1) (al' := [some (.ref d), some (.ref a), some (.int (nI b)), none, none, none, none, none]) (st' := [.ref a]) d_105_0 (fun _ => rfl) ?_
  refine cr_gf (v := .int (nI n)) d_105_1 cw_105 cf_10_15 ht.1 ht.2.2.1 (by decide) hn ?_
  refine cr_nx (pc' := 5) (al' := [some (.ref d), some (.ref a), some (.int (nI b)), some (.int (nI n)), none, none, none, none]) (st' := []) d_105_4 (fun _ => rfl) ?_
  refine cr_nx (pc' := 6) (al' := [some (.ref d), some (.ref a), some (.int (nI b)), some (.int (nI n)), none, none, none, none]) (st' := [.ref d]) d_105_5 (fun _ => rfl) ?_
  refine cn_ic (v := 2) d_105_6 (by decide) ?_
  refine cr_nx (pc' := 8) (al' := [some (.ref d), some (.ref a), some (.int (nI b)), some (.int (nI n)), none, none, none, none]) (st' := [.int (nI n), .int (nI 2), .ref d]) d_105_7 (fun _ => rfl) ?_
  refine cn_mul d_105_8  ?_
  refine cp_10_0  d_105_9 cw_105 cf_10_15 hd.1 hd.2.2.1 (by decide) ?_
  refine cn_ic (v := 0) d_105_12 (by decide) ?_
  refine cr_nx (pc' := 15) (al' := [some (.ref d), some (.ref a), some (.int (nI b)), some (.int (nI n)), some (.int (nI 0)), none, none, none]) (st' := []) d_105_13 (fun _ => rfl) ?_
  refine cr_B (show B = (upr B (d + 1) (B (d + 1))) by rw [upr_id]) ?_
  refine cr_upw (al := fun x w_ => [some (.ref d), some (.ref a), some (.int (nI b)), some (.int (nI n)), some (.int (nI x)), none, none, none]) (S := fun x w_ => S) (G := fun x w_ => (up2 G d 0 (.int (nI (2 * n))))) (B := fun x w_ => (upr B (d + 1) w_)) (J := fun x w_ => J) (R := fun x w_ => R) (P := fun x w_ => ScQ (exF n c b) (fun x y q => q = 2 * n * (2 * x) + 2 * y ∨ q = 2 * n * (2 * x + 1) + (2 * y + 1) ∨ q = 2 * n * (2 * x) + (2 * y + 1) ∨ q = 2 * n * (2 * x + 1) + 2 * y) n x 0 w_) (n := n) (fun x w_ hx px ihx => ?_) (fun w_ px => ?_) 0 (B (d + 1)) (by omega) (sq_0)
  · show CR _ _ 15 [some (.ref d), some (.ref a), some (.int (nI b)), some (.int (nI n)), some (.int (nI x)), none, none, none] [] S (up2 G d 0 (.int (nI (2 * n)))) (upr B (d + 1) w_) J R _
    refine cr_nx (pc' := 17) (al' := [some (.ref d), some (.ref a), some (.int (nI b)), some (.int (nI n)), some (.int (nI x)), none, none, none]) (st' := [.int (nI x)]) d_105_15 (fun _ => rfl) ?_
    refine cr_nx (pc' := 18) (al' := [some (.ref d), some (.ref a), some (.int (nI b)), some (.int (nI n)), some (.int (nI x)), none, none, none]) (st' := [.int (nI n), .int (nI x)]) d_105_17 (fun _ => rfl) ?_
    refine cn_cge (t := 147) d_105_18 (by decide) (by first | omega | assumption | exact cu_36 (by omega) (cu_lt (by omega) (by omega))) (by first | omega | assumption | exact cu_36 (by omega) (cu_lt (by omega) (by omega))) (fun c18 => ?_) (fun c18 => ?_)
    · omega
    · refine cn_ic (v := 0) d_105_21 (by decide) ?_
      refine cr_nx (pc' := 24) (al' := [some (.ref d), some (.ref a), some (.int (nI b)), some (.int (nI n)), some (.int (nI x)), some (.int (nI 0)), none, none]) (st' := []) d_105_22 (fun _ => rfl) ?_
      refine cr_upw (al := fun y w_ => [some (.ref d), some (.ref a), some (.int (nI b)), some (.int (nI n)), some (.int (nI x)), some (.int (nI y)), none, none]) (S := fun y w_ => S) (G := fun y w_ => (up2 G d 0 (.int (nI (2 * n))))) (B := fun y w_ => (upr B (d + 1) w_)) (J := fun y w_ => J) (R := fun y w_ => R) (P := fun y w_ => ScQ (exF n c b) (fun x y q => q = 2 * n * (2 * x) + 2 * y ∨ q = 2 * n * (2 * x + 1) + (2 * y + 1) ∨ q = 2 * n * (2 * x) + (2 * y + 1) ∨ q = 2 * n * (2 * x + 1) + 2 * y) n x y w_) (n := n) (fun y w_ hy py ihy => ?_) (fun w_ py => ?_) 0 w_ (by omega) (px)
      · show CR _ _ 24 [some (.ref d), some (.ref a), some (.int (nI b)), some (.int (nI n)), some (.int (nI x)), some (.int (nI y)), none, none] [] S (up2 G d 0 (.int (nI (2 * n)))) (upr B (d + 1) w_) J R _
        have b0 : n * x + y < n * n := cu_lt hx hy
        have b00 : n * n ≤ 9 := Nat.mul_le_mul hn3 hn3
        have b3 := bt_lt b (n * x + y)
        have E1 : nI (2 * c (n * x + y) + (b / 2 ^ (n * x + y) &&& 1)) = exF n c b (2 * n * (2 * x) + (2 * y)) := congrArg nI (by rw [ex_at (by omega), show (2 * x) / 2 = x by omega, show (2 * y) / 2 = y by omega, show (2 * x) % 2 = 0 by omega, show (2 * y) % 2 = 0 by omega, exB]; omega)
        have E2 : nI (2 * c (n * x + y) + (b / 2 ^ (n * x + y) &&& 1)) = exF n c b (2 * n * (2 * x + 1) + (2 * y + 1)) := congrArg nI (by rw [ex_at (by omega), show (2 * x + 1) / 2 = x by omega, show (2 * y + 1) / 2 = y by omega, show (2 * x + 1) % 2 = 1 by omega, show (2 * y + 1) % 2 = 1 by omega, exB]; omega)
        have E3 : nI (2 * c (n * x + y) + 1 - (b / 2 ^ (n * x + y) &&& 1)) = exF n c b (2 * n * (2 * x) + (2 * y + 1)) := congrArg nI (by rw [ex_at (by omega), show (2 * x) / 2 = x by omega, show (2 * y + 1) / 2 = y by omega, show (2 * x) % 2 = 0 by omega, show (2 * y + 1) % 2 = 1 by omega, exB]; omega)
        have E4 : nI (2 * c (n * x + y) + 1 - (b / 2 ^ (n * x + y) &&& 1)) = exF n c b (2 * n * (2 * x + 1) + (2 * y)) := congrArg nI (by rw [ex_at (by omega), show (2 * x + 1) / 2 = x by omega, show (2 * y) / 2 = y by omega, show (2 * x + 1) % 2 = 1 by omega, show (2 * y) % 2 = 0 by omega, exB]; omega)
        refine cr_nx (pc' := 26) (al' := [some (.ref d), some (.ref a), some (.int (nI b)), some (.int (nI n)), some (.int (nI x)), some (.int (nI y)), none, none]) (st' := [.int (nI y)]) d_105_24 (fun _ => rfl) ?_
        refine cr_nx (pc' := 27) (al' := [some (.ref d), some (.ref a), some (.int (nI b)), some (.int (nI n)), some (.int (nI x)), some (.int (nI y)), none, none]) (st' := [.int (nI n), .int (nI y)]) d_105_26 (fun _ => rfl) ?_
        refine cn_cge (t := 141) d_105_27 (by decide) (by first | omega | assumption | exact cu_36 (by omega) (cu_lt (by omega) (by omega))) (by first | omega | assumption | exact cu_36 (by omega) (cu_lt (by omega) (by omega))) (fun c27 => ?_) (fun c27 => ?_)
        · omega
        · refine cn_ic (v := 2) d_105_30 (by decide) ?_
          refine cr_nx (pc' := 32) (al' := [some (.ref d), some (.ref a), some (.int (nI b)), some (.int (nI n)), some (.int (nI x)), some (.int (nI y)), none, none]) (st' := [.ref a, .int (nI 2)]) d_105_31 (fun _ => rfl) ?_
          refine cr_nx (pc' := 34) (al' := [some (.ref d), some (.ref a), some (.int (nI b)), some (.int (nI n)), some (.int (nI x)), some (.int (nI y)), none, none]) (st' := [.int (nI x), .ref a, .int (nI 2)]) d_105_32 (fun _ => rfl) ?_
          refine cr_nx (pc' := 36) (al' := [some (.ref d), some (.ref a), some (.int (nI b)), some (.int (nI n)), some (.int (nI x)), some (.int (nI y)), none, none]) (st' := [.int (nI y), .int (nI x), .ref a, .int (nI 2)]) d_105_34 (fun _ => rfl) ?_
          refine cr_pv (b := a) (as := [.int (nI x), .int (nI y)]) (al0 := [some (.ref a), some (.int (nI x)), some (.int (nI y))]) (r := [.int (nI 2)]) d_105_36 cw_105 cm_10_23 cz_91 rfl rfl ht.1 (by rw [cw_91]; exact ht.2.2.1) (by rw [cw_91]; decide) rfl (Nat.le_of_ble_eq_true rfl) (k_times ht' hn' (TabC.up hne hc) (by omega) (by omega)) ?_
          show CR _ _ 39 [some (.ref d), some (.ref a), some (.int (nI b)), some (.int (nI n)), some (.int (nI x)), some (.int (nI y)), none, none] [.int (nI (c (n * x + y))), .int (nI 2)] S (up2 G d 0 (.int (nI (2 * n)))) (upr B (d + 1) w_) J R _
          have b36 : c (n * x + y) < n := (hc.2 _ (cu_lt (by omega) (by omega))).2
          refine cn_mul d_105_39  ?_
          refine cr_nx (pc' := 42) (al' := [some (.ref d), some (.ref a), some (.int (nI b)), some (.int (nI n)), some (.int (nI x)), some (.int (nI y)), some (.int (nI (2 * (c (n * x + y))))), none]) (st' := []) d_105_40 (fun _ => rfl) ?_
          refine cr_nx (pc' := 43) (al' := [some (.ref d), some (.ref a), some (.int (nI b)), some (.int (nI n)), some (.int (nI x)), some (.int (nI y)), some (.int (nI (2 * (c (n * x + y))))), none]) (st' := [.int (nI b)]) d_105_42 (fun _ => rfl) ?_
          refine cr_nx (pc' := 44) (al' := [some (.ref d), some (.ref a), some (.int (nI b)), some (.int (nI n)), some (.int (nI x)), some (.int (nI y)), some (.int (nI (2 * (c (n * x + y))))), none]) (st' := [.int (nI n), .int (nI b)]) d_105_43 (fun _ => rfl) ?_
          refine cr_nx (pc' := 46) (al' := [some (.ref d), some (.ref a), some (.int (nI b)), some (.int (nI n)), some (.int (nI x)), some (.int (nI y)), some (.int (nI (2 * (c (n * x + y))))), none]) (st' := [.int (nI x), .int (nI n), .int (nI b)]) d_105_44 (fun _ => rfl) ?_
          refine cn_mul d_105_46  ?_
          refine cr_nx (pc' := 49) (al' := [some (.ref d), some (.ref a), some (.int (nI b)), some (.int (nI n)), some (.int (nI x)), some (.int (nI y)), some (.int (nI (2 * (c (n * x + y))))), none]) (st' := [.int (nI y), .int (nI (n * x)), .int (nI b)]) d_105_47 (fun _ => rfl) ?_
          refine cn_add d_105_49  ?_
          refine cn_shr d_105_50 (by first | omega | assumption | exact cu_36 (by omega) (cu_lt (by omega) (by omega))) (by first | omega | assumption | exact cu_36 (by omega) (cu_lt (by omega) (by omega))) ?_
          refine cn_ic (v := 1) d_105_51 (by decide) ?_
          refine cn_and d_105_52 ?_
          refine cr_nx (pc' := 55) (al' := [some (.ref d), some (.ref a), some (.int (nI b)), some (.int (nI n)), some (.int (nI x)), some (.int (nI y)), some (.int (nI (2 * (c (n * x + y))))), some (.int (nI ((b / 2 ^ ((n * x) + y)) &&& 1)))]) (st' := []) d_105_53 (fun _ => rfl) ?_
          refine cr_nx (pc' := 56) (al' := [some (.ref d), some (.ref a), some (.int (nI b)), some (.int (nI n)), some (.int (nI x)), some (.int (nI y)), some (.int (nI (2 * (c (n * x + y))))), some (.int (nI ((b / 2 ^ ((n * x) + y)) &&& 1)))]) (st' := [.ref d]) d_105_55 (fun _ => rfl) ?_
          refine cn_ic (v := 2) d_105_56 (by decide) ?_
          refine cr_nx (pc' := 59) (al' := [some (.ref d), some (.ref a), some (.int (nI b)), some (.int (nI n)), some (.int (nI x)), some (.int (nI y)), some (.int (nI (2 * (c (n * x + y))))), some (.int (nI ((b / 2 ^ ((n * x) + y)) &&& 1)))]) (st' := [.int (nI x), .int (nI 2), .ref d]) d_105_57 (fun _ => rfl) ?_
          refine cn_mul d_105_59  ?_
          refine cn_ic (v := 2) d_105_60 (by decide) ?_
          refine cr_nx (pc' := 63) (al' := [some (.ref d), some (.ref a), some (.int (nI b)), some (.int (nI n)), some (.int (nI x)), some (.int (nI y)), some (.int (nI (2 * (c (n * x + y))))), some (.int (nI ((b / 2 ^ ((n * x) + y)) &&& 1)))]) (st' := [.int (nI y), .int (nI 2), .int (nI (2 * x)), .ref d]) d_105_61 (fun _ => rfl) ?_
          refine cn_mul d_105_63  ?_
          refine cr_nx (pc' := 66) (al' := [some (.ref d), some (.ref a), some (.int (nI b)), some (.int (nI n)), some (.int (nI x)), some (.int (nI y)), some (.int (nI (2 * (c (n * x + y))))), some (.int (nI ((b / 2 ^ ((n * x) + y)) &&& 1)))]) (st' := [.int (nI (2 * (c (n * x + y)))), .int (nI (2 * y)), .int (nI (2 * x)), .ref d]) d_105_64 (fun _ => rfl) ?_
          refine cr_nx (pc' := 68) (al' := [some (.ref d), some (.ref a), some (.int (nI b)), some (.int (nI n)), some (.int (nI x)), some (.int (nI y)), some (.int (nI (2 * (c (n * x + y))))), some (.int (nI ((b / 2 ^ ((n * x) + y)) &&& 1)))]) (st' := [.int (nI ((b / 2 ^ ((n * x) + y)) &&& 1)), .int (nI (2 * (c (n * x + y)))), .int (nI (2 * y)), .int (nI (2 * x)), .ref d]) d_105_66 (fun _ => rfl) ?_
          refine cn_add d_105_68  ?_
          refine cr_pv (b := d) (as := [.int (nI (2 * x)), .int (nI (2 * y)), .int (nI ((2 * (c (n * x + y))) + ((b / 2 ^ ((n * x) + y)) &&& 1)))]) (al0 := [some (.ref d), some (.int (nI (2 * x))), some (.int (nI (2 * y))), some (.int (nI ((2 * (c (n * x + y))) + ((b / 2 ^ ((n * x) + y)) &&& 1))))]) (r := []) d_105_69 cw_105 cm_10_33 cz_95 rfl rfl hd.1 (by rw [cw_95]; exact hd.2.2.1) (by rw [cw_95]; decide) rfl (Nat.le_of_ble_eq_true rfl) (k_put hd' hdn' (nI ((2 * (c (n * x + y))) + ((b / 2 ^ ((n * x) + y)) &&& 1))) (cu_36 (by omega) (cu_lt (by omega) (by omega)))) ?_
          rw [upr_s, upr_u]
          show CR _ _ 72 [some (.ref d), some (.ref a), some (.int (nI b)), some (.int (nI n)), some (.int (nI x)), some (.int (nI y)), some (.int (nI (2 * (c (n * x + y))))), some (.int (nI ((b / 2 ^ ((n * x) + y)) &&& 1)))] [] S (up2 G d 0 (.int (nI (2 * n)))) (upr B (d + 1) (upd w_ ((2 * n) * (2 * x) + (2 * y)) (nI ((2 * (c (n * x + y))) + ((b / 2 ^ ((n * x) + y)) &&& 1))))) J R _
          refine cr_nx (pc' := 73) (al' := [some (.ref d), some (.ref a), some (.int (nI b)), some (.int (nI n)), some (.int (nI x)), some (.int (nI y)), some (.int (nI (2 * (c (n * x + y))))), some (.int (nI ((b / 2 ^ ((n * x) + y)) &&& 1)))]) (st' := [.ref d]) d_105_72 (fun _ => rfl) ?_
          refine cn_ic (v := 2) d_105_73 (by decide) ?_
          refine cr_nx (pc' := 76) (al' := [some (.ref d), some (.ref a), some (.int (nI b)), some (.int (nI n)), some (.int (nI x)), some (.int (nI y)), some (.int (nI (2 * (c (n * x + y))))), some (.int (nI ((b / 2 ^ ((n * x) + y)) &&& 1)))]) (st' := [.int (nI x), .int (nI 2), .ref d]) d_105_74 (fun _ => rfl) ?_
          refine cn_mul d_105_76  ?_
          refine cn_ic (v := 1) d_105_77 (by decide) ?_
          refine cn_add d_105_78  ?_
          refine cn_ic (v := 2) d_105_79 (by decide) ?_
          refine cr_nx (pc' := 82) (al' := [some (.ref d), some (.ref a), some (.int (nI b)), some (.int (nI n)), some (.int (nI x)), some (.int (nI y)), some (.int (nI (2 * (c (n * x + y))))), some (.int (nI ((b / 2 ^ ((n * x) + y)) &&& 1)))]) (st' := [.int (nI y), .int (nI 2), .int (nI ((2 * x) + 1)), .ref d]) d_105_80 (fun _ => rfl) ?_
          refine cn_mul d_105_82  ?_
          refine cn_ic (v := 1) d_105_83 (by decide) ?_
          refine cn_add d_105_84  ?_
          refine cr_nx (pc' := 87) (al' := [some (.ref d), some (.ref a), some (.int (nI b)), some (.int (nI n)), some (.int (nI x)), some (.int (nI y)), some (.int (nI (2 * (c (n * x + y))))), some (.int (nI ((b / 2 ^ ((n * x) + y)) &&& 1)))]) (st' := [.int (nI (2 * (c (n * x + y)))), .int (nI ((2 * y) + 1)), .int (nI ((2 * x) + 1)), .ref d]) d_105_85 (fun _ => rfl) ?_
          refine cr_nx (pc' := 89) (al' := [some (.ref d), some (.ref a), some (.int (nI b)), some (.int (nI n)), some (.int (nI x)), some (.int (nI y)), some (.int (nI (2 * (c (n * x + y))))), some (.int (nI ((b / 2 ^ ((n * x) + y)) &&& 1)))]) (st' := [.int (nI ((b / 2 ^ ((n * x) + y)) &&& 1)), .int (nI (2 * (c (n * x + y)))), .int (nI ((2 * y) + 1)), .int (nI ((2 * x) + 1)), .ref d]) d_105_87 (fun _ => rfl) ?_
          refine cn_add d_105_89  ?_
          refine cr_pv (b := d) (as := [.int (nI ((2 * x) + 1)), .int (nI ((2 * y) + 1)), .int (nI ((2 * (c (n * x + y))) + ((b / 2 ^ ((n * x) + y)) &&& 1)))]) (al0 := [some (.ref d), some (.int (nI ((2 * x) + 1))), some (.int (nI ((2 * y) + 1))), some (.int (nI ((2 * (c (n * x + y))) + ((b / 2 ^ ((n * x) + y)) &&& 1))))]) (r := []) d_105_90 cw_105 cm_10_33 cz_95 rfl rfl hd.1 (by rw [cw_95]; exact hd.2.2.1) (by rw [cw_95]; decide) rfl (Nat.le_of_ble_eq_true rfl) (k_put hd' hdn' (nI ((2 * (c (n * x + y))) + ((b / 2 ^ ((n * x) + y)) &&& 1))) (cu_36 (by omega) (cu_lt (by omega) (by omega)))) ?_
          rw [upr_s, upr_u]
          show CR _ _ 93 [some (.ref d), some (.ref a), some (.int (nI b)), some (.int (nI n)), some (.int (nI x)), some (.int (nI y)), some (.int (nI (2 * (c (n * x + y))))), some (.int (nI ((b / 2 ^ ((n * x) + y)) &&& 1)))] [] S (up2 G d 0 (.int (nI (2 * n)))) (upr B (d + 1) (upd (upd w_ ((2 * n) * (2 * x) + (2 * y)) (nI ((2 * (c (n * x + y))) + ((b / 2 ^ ((n * x) + y)) &&& 1)))) ((2 * n) * ((2 * x) + 1) + ((2 * y) + 1)) (nI ((2 * (c (n * x + y))) + ((b / 2 ^ ((n * x) + y)) &&& 1))))) J R _
          refine cr_nx (pc' := 94) (al' := [some (.ref d), some (.ref a), some (.int (nI b)), some (.int (nI n)), some (.int (nI x)), some (.int (nI y)), some (.int (nI (2 * (c (n * x + y))))), some (.int (nI ((b / 2 ^ ((n * x) + y)) &&& 1)))]) (st' := [.ref d]) d_105_93 (fun _ => rfl) ?_
          refine cn_ic (v := 2) d_105_94 (by decide) ?_
          refine cr_nx (pc' := 97) (al' := [some (.ref d), some (.ref a), some (.int (nI b)), some (.int (nI n)), some (.int (nI x)), some (.int (nI y)), some (.int (nI (2 * (c (n * x + y))))), some (.int (nI ((b / 2 ^ ((n * x) + y)) &&& 1)))]) (st' := [.int (nI x), .int (nI 2), .ref d]) d_105_95 (fun _ => rfl) ?_
          refine cn_mul d_105_97  ?_
          refine cn_ic (v := 2) d_105_98 (by decide) ?_
          refine cr_nx (pc' := 101) (al' := [some (.ref d), some (.ref a), some (.int (nI b)), some (.int (nI n)), some (.int (nI x)), some (.int (nI y)), some (.int (nI (2 * (c (n * x + y))))), some (.int (nI ((b / 2 ^ ((n * x) + y)) &&& 1)))]) (st' := [.int (nI y), .int (nI 2), .int (nI (2 * x)), .ref d]) d_105_99 (fun _ => rfl) ?_
          refine cn_mul d_105_101  ?_
          refine cn_ic (v := 1) d_105_102 (by decide) ?_
          refine cn_add d_105_103  ?_
          refine cr_nx (pc' := 106) (al' := [some (.ref d), some (.ref a), some (.int (nI b)), some (.int (nI n)), some (.int (nI x)), some (.int (nI y)), some (.int (nI (2 * (c (n * x + y))))), some (.int (nI ((b / 2 ^ ((n * x) + y)) &&& 1)))]) (st' := [.int (nI (2 * (c (n * x + y)))), .int (nI ((2 * y) + 1)), .int (nI (2 * x)), .ref d]) d_105_104 (fun _ => rfl) ?_
          refine cn_ic (v := 1) d_105_106 (by decide) ?_
          refine cn_add d_105_107  ?_
          refine cr_nx (pc' := 110) (al' := [some (.ref d), some (.ref a), some (.int (nI b)), some (.int (nI n)), some (.int (nI x)), some (.int (nI y)), some (.int (nI (2 * (c (n * x + y))))), some (.int (nI ((b / 2 ^ ((n * x) + y)) &&& 1)))]) (st' := [.int (nI ((b / 2 ^ ((n * x) + y)) &&& 1)), .int (nI ((2 * (c (n * x + y))) + 1)), .int (nI ((2 * y) + 1)), .int (nI (2 * x)), .ref d]) d_105_108 (fun _ => rfl) ?_
          refine cn_sub d_105_110 (by first | omega | assumption | exact cu_36 (by omega) (cu_lt (by omega) (by omega))) ?_
          refine cr_pv (b := d) (as := [.int (nI (2 * x)), .int (nI ((2 * y) + 1)), .int (nI (((2 * (c (n * x + y))) + 1) - ((b / 2 ^ ((n * x) + y)) &&& 1)))]) (al0 := [some (.ref d), some (.int (nI (2 * x))), some (.int (nI ((2 * y) + 1))), some (.int (nI (((2 * (c (n * x + y))) + 1) - ((b / 2 ^ ((n * x) + y)) &&& 1))))]) (r := []) d_105_111 cw_105 cm_10_33 cz_95 rfl rfl hd.1 (by rw [cw_95]; exact hd.2.2.1) (by rw [cw_95]; decide) rfl (Nat.le_of_ble_eq_true rfl) (k_put hd' hdn' (nI (((2 * (c (n * x + y))) + 1) - ((b / 2 ^ ((n * x) + y)) &&& 1))) (cu_36 (by omega) (cu_lt (by omega) (by omega)))) ?_
          rw [upr_s, upr_u]
          show CR _ _ 114 [some (.ref d), some (.ref a), some (.int (nI b)), some (.int (nI n)), some (.int (nI x)), some (.int (nI y)), some (.int (nI (2 * (c (n * x + y))))), some (.int (nI ((b / 2 ^ ((n * x) + y)) &&& 1)))] [] S (up2 G d 0 (.int (nI (2 * n)))) (upr B (d + 1) (upd (upd (upd w_ ((2 * n) * (2 * x) + (2 * y)) (nI ((2 * (c (n * x + y))) + ((b / 2 ^ ((n * x) + y)) &&& 1)))) ((2 * n) * ((2 * x) + 1) + ((2 * y) + 1)) (nI ((2 * (c (n * x + y))) + ((b / 2 ^ ((n * x) + y)) &&& 1)))) ((2 * n) * (2 * x) + ((2 * y) + 1)) (nI (((2 * (c (n * x + y))) + 1) - ((b / 2 ^ ((n * x) + y)) &&& 1))))) J R _
          refine cr_nx (pc' := 115) (al' := [some (.ref d), some (.ref a), some (.int (nI b)), some (.int (nI n)), some (.int (nI x)), some (.int (nI y)), some (.int (nI (2 * (c (n * x + y))))), some (.int (nI ((b / 2 ^ ((n * x) + y)) &&& 1)))]) (st' := [.ref d]) d_105_114 (fun _ => rfl) ?_
          refine cn_ic (v := 2) d_105_115 (by decide) ?_
          refine cr_nx (pc' := 118) (al' := [some (.ref d), some (.ref a), some (.int (nI b)), some (.int (nI n)), some (.int (nI x)), some (.int (nI y)), some (.int (nI (2 * (c (n * x + y))))), some (.int (nI ((b / 2 ^ ((n * x) + y)) &&& 1)))]) (st' := [.int (nI x), .int (nI 2), .ref d]) d_105_116 (fun _ => rfl) ?_
          refine cn_mul d_105_118  ?_
          refine cn_ic (v := 1) d_105_119 (by decide) ?_
          refine cn_add d_105_120  ?_
          refine cn_ic (v := 2) d_105_121 (by decide) ?_
          refine cr_nx (pc' := 124) (al' := [some (.ref d), some (.ref a), some (.int (nI b)), some (.int (nI n)), some (.int (nI x)), some (.int (nI y)), some (.int (nI (2 * (c (n * x + y))))), some (.int (nI ((b / 2 ^ ((n * x) + y)) &&& 1)))]) (st' := [.int (nI y), .int (nI 2), .int (nI ((2 * x) + 1)), .ref d]) d_105_122 (fun _ => rfl) ?_
          refine cn_mul d_105_124  ?_
          refine cr_nx (pc' := 127) (al' := [some (.ref d), some (.ref a), some (.int (nI b)), some (.int (nI n)), some (.int (nI x)), some (.int (nI y)), some (.int (nI (2 * (c (n * x + y))))), some (.int (nI ((b / 2 ^ ((n * x) + y)) &&& 1)))]) (st' := [.int (nI (2 * (c (n * x + y)))), .int (nI (2 * y)), .int (nI ((2 * x) + 1)), .ref d]) d_105_125 (fun _ => rfl) ?_
          refine cn_ic (v := 1) d_105_127 (by decide) ?_
          refine cn_add d_105_128  ?_
          refine cr_nx (pc' := 131) (al' := [some (.ref d), some (.ref a), some (.int (nI b)), some (.int (nI n)), some (.int (nI x)), some (.int (nI y)), some (.int (nI (2 * (c (n * x + y))))), some (.int (nI ((b / 2 ^ ((n * x) + y)) &&& 1)))]) (st' := [.int (nI ((b / 2 ^ ((n * x) + y)) &&& 1)), .int (nI ((2 * (c (n * x + y))) + 1)), .int (nI (2 * y)), .int (nI ((2 * x) + 1)), .ref d]) d_105_129 (fun _ => rfl) ?_
          refine cn_sub d_105_131 (by first | omega | assumption | exact cu_36 (by omega) (cu_lt (by omega) (by omega))) ?_
          refine cr_pv (b := d) (as := [.int (nI ((2 * x) + 1)), .int (nI (2 * y)), .int (nI (((2 * (c (n * x + y))) + 1) - ((b / 2 ^ ((n * x) + y)) &&& 1)))]) (al0 := [some (.ref d), some (.int (nI ((2 * x) + 1))), some (.int (nI (2 * y))), some (.int (nI (((2 * (c (n * x + y))) + 1) - ((b / 2 ^ ((n * x) + y)) &&& 1))))]) (r := []) d_105_132 cw_105 cm_10_33 cz_95 rfl rfl hd.1 (by rw [cw_95]; exact hd.2.2.1) (by rw [cw_95]; decide) rfl (Nat.le_of_ble_eq_true rfl) (k_put hd' hdn' (nI (((2 * (c (n * x + y))) + 1) - ((b / 2 ^ ((n * x) + y)) &&& 1))) (cu_36 (by omega) (cu_lt (by omega) (by omega)))) ?_
          rw [upr_s, upr_u]
          show CR _ _ 135 [some (.ref d), some (.ref a), some (.int (nI b)), some (.int (nI n)), some (.int (nI x)), some (.int (nI y)), some (.int (nI (2 * (c (n * x + y))))), some (.int (nI ((b / 2 ^ ((n * x) + y)) &&& 1)))] [] S (up2 G d 0 (.int (nI (2 * n)))) (upr B (d + 1) (upd (upd (upd (upd w_ ((2 * n) * (2 * x) + (2 * y)) (nI ((2 * (c (n * x + y))) + ((b / 2 ^ ((n * x) + y)) &&& 1)))) ((2 * n) * ((2 * x) + 1) + ((2 * y) + 1)) (nI ((2 * (c (n * x + y))) + ((b / 2 ^ ((n * x) + y)) &&& 1)))) ((2 * n) * (2 * x) + ((2 * y) + 1)) (nI (((2 * (c (n * x + y))) + 1) - ((b / 2 ^ ((n * x) + y)) &&& 1)))) ((2 * n) * ((2 * x) + 1) + (2 * y)) (nI (((2 * (c (n * x + y))) + 1) - ((b / 2 ^ ((n * x) + y)) &&& 1))))) J R _
          refine cn_inc d_105_135 rfl rfl ?_
          show CR _ _ 138 [some (.ref d), some (.ref a), some (.int (nI b)), some (.int (nI n)), some (.int (nI x)), some (.int (nI (y + 1))), some (.int (nI (2 * (c (n * x + y))))), some (.int (nI ((b / 2 ^ ((n * x) + y)) &&& 1)))] [] S (up2 G d 0 (.int (nI (2 * n)))) (upr B (d + 1) (upd (upd (upd (upd w_ ((2 * n) * (2 * x) + (2 * y)) (nI ((2 * (c (n * x + y))) + ((b / 2 ^ ((n * x) + y)) &&& 1)))) ((2 * n) * ((2 * x) + 1) + ((2 * y) + 1)) (nI ((2 * (c (n * x + y))) + ((b / 2 ^ ((n * x) + y)) &&& 1)))) ((2 * n) * (2 * x) + ((2 * y) + 1)) (nI (((2 * (c (n * x + y))) + 1) - ((b / 2 ^ ((n * x) + y)) &&& 1)))) ((2 * n) * ((2 * x) + 1) + (2 * y)) (nI (((2 * (c (n * x + y))) + 1) - ((b / 2 ^ ((n * x) + y)) &&& 1))))) J R _
          refine cr_nx (pc' := 24) (al' := [some (.ref d), some (.ref a), some (.int (nI b)), some (.int (nI n)), some (.int (nI x)), some (.int (nI (y + 1))), some (.int (nI (2 * (c (n * x + y))))), some (.int (nI ((b / 2 ^ ((n * x) + y)) &&& 1)))]) (st' := []) d_105_138 (fun _ => rfl) ?_
          refine cr_dr (al1 := [some (.ref d), some (.ref a), some (.int (nI b)), some (.int (nI n)), some (.int (nI x)), some (.int (nI (y + 1))), none, none]) (le_s (le_s (le_s (le_s (le_s (le_s (le_d rfl (le_d rfl (le_n))))))))) ?_
          exact ihy (upd (upd (upd (upd w_ ((2 * n) * (2 * x) + (2 * y)) (nI ((2 * (c (n * x + y))) + ((b / 2 ^ ((n * x) + y)) &&& 1)))) ((2 * n) * ((2 * x) + 1) + ((2 * y) + 1)) (nI ((2 * (c (n * x + y))) + ((b / 2 ^ ((n * x) + y)) &&& 1)))) ((2 * n) * (2 * x) + ((2 * y) + 1)) (nI (((2 * (c (n * x + y))) + 1) - ((b / 2 ^ ((n * x) + y)) &&& 1)))) ((2 * n) * ((2 * x) + 1) + (2 * y)) (nI (((2 * (c (n * x + y))) + 1) - ((b / 2 ^ ((n * x) + y)) &&& 1)))) (sq_in (sq_k (f := (exF n c b)) E4 (sq_k E3 (sq_k E2 (sq_k E1 py)))) (fun q hq => hq.elim (fun h => by subst h; exact sc_k (f := (exF n c b)) E4 (sc_k E3 (sc_k E2 (sc_n E1)))) (fun hq => hq.elim (fun h => by subst h; exact sc_k (f := (exF n c b)) E4 (sc_k E3 (sc_n E2))) (fun hq => hq.elim (fun h => by subst h; exact sc_k (f := (exF n c b)) E4 (sc_n E3)) (fun h => by subst h; exact sc_n (f := (exF n c b)) E4)))))
      · show CR _ _ 24 [some (.ref d), some (.ref a), some (.int (nI b)), some (.int (nI n)), some (.int (nI x)), some (.int (nI n)), none, none] [] S (up2 G d 0 (.int (nI (2 * n)))) (upr B (d + 1) w_) J R _
        refine cr_nx (pc' := 26) (al' := [some (.ref d), some (.ref a), some (.int (nI b)), some (.int (nI n)), some (.int (nI x)), some (.int (nI n)), none, none]) (st' := [.int (nI n)]) d_105_24 (fun _ => rfl) ?_
        refine cr_nx (pc' := 27) (al' := [some (.ref d), some (.ref a), some (.int (nI b)), some (.int (nI n)), some (.int (nI x)), some (.int (nI n)), none, none]) (st' := [.int (nI n), .int (nI n)]) d_105_26 (fun _ => rfl) ?_
        refine cn_cge (t := 141) d_105_27 (by decide) (by first | omega | assumption | exact cu_36 (by omega) (cu_lt (by omega) (by omega))) (by first | omega | assumption | exact cu_36 (by omega) (cu_lt (by omega) (by omega))) (fun c27 => ?_) (fun c27 => ?_)
        · refine cn_inc d_105_141 rfl rfl ?_
          show CR _ _ 144 [some (.ref d), some (.ref a), some (.int (nI b)), some (.int (nI n)), some (.int (nI (x + 1))), some (.int (nI n)), none, none] [] S (up2 G d 0 (.int (nI (2 * n)))) (upr B (d + 1) w_) J R _
          refine cr_nx (pc' := 15) (al' := [some (.ref d), some (.ref a), some (.int (nI b)), some (.int (nI n)), some (.int (nI (x + 1))), some (.int (nI n)), none, none]) (st' := []) d_105_144 (fun _ => rfl) ?_
          refine cr_dr (al1 := [some (.ref d), some (.ref a), some (.int (nI b)), some (.int (nI n)), some (.int (nI (x + 1))), none, none, none]) (le_s (le_s (le_s (le_s (le_s (le_d rfl (le_s (le_s (le_n))))))))) ?_
          exact ihx w_ (sq_out py)
        · omega
  · show CR _ _ 15 [some (.ref d), some (.ref a), some (.int (nI b)), some (.int (nI n)), some (.int (nI n)), none, none, none] [] S (up2 G d 0 (.int (nI (2 * n)))) (upr B (d + 1) w_) J R _
    refine cr_nx (pc' := 17) (al' := [some (.ref d), some (.ref a), some (.int (nI b)), some (.int (nI n)), some (.int (nI n)), none, none, none]) (st' := [.int (nI n)]) d_105_15 (fun _ => rfl) ?_
    refine cr_nx (pc' := 18) (al' := [some (.ref d), some (.ref a), some (.int (nI b)), some (.int (nI n)), some (.int (nI n)), none, none, none]) (st' := [.int (nI n), .int (nI n)]) d_105_17 (fun _ => rfl) ?_
    refine cn_cge (t := 147) d_105_18 (by decide) (by first | omega | assumption | exact cu_36 (by omega) (cu_lt (by omega) (by omega))) (by first | omega | assumption | exact cu_36 (by omega) (cu_lt (by omega) (by omega))) (fun c18 => ?_) (fun c18 => ?_)
    · exact cr_rv d_105_147 cx_105 ⟨rfl, rfl, rfl, rfl, rfl, w_, rfl, fun q hq => by
          have hx := dm_dl hq
          have hy := dm_ml hq
          have e : 2 * n * (q / (2 * n)) + q % (2 * n) = q := dm_q
          refine px.1 (q / (2 * n) / 2) (q % (2 * n) / 2) q (by omega) (by omega) ?_
          rcases Nat.mod_two_eq_zero_or_one (q / (2 * n)) with h1 | h1 <;> rcases Nat.mod_two_eq_zero_or_one (q % (2 * n)) with h2 | h2
          · exact Or.inl (by rw [show 2 * (q / (2 * n) / 2) = q / (2 * n) by omega, show 2 * (q % (2 * n) / 2) = q % (2 * n) by omega]; exact e.symm)
          · exact Or.inr (Or.inr (Or.inl (by rw [show 2 * (q / (2 * n) / 2) = q / (2 * n) by omega, show 2 * (q % (2 * n) / 2) + 1 = q % (2 * n) by omega]; exact e.symm)))
          · exact Or.inr (Or.inr (Or.inr (by rw [show 2 * (q / (2 * n) / 2) + 1 = q / (2 * n) by omega, show 2 * (q % (2 * n) / 2) = q % (2 * n) by omega]; exact e.symm)))
          · exact Or.inr (Or.inl (by rw [show 2 * (q / (2 * n) / 2) + 1 = q / (2 * n) by omega, show 2 * (q % (2 * n) / 2) + 1 = q % (2 * n) by omega]; exact e.symm))⟩
    · omega
