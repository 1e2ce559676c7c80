/-! The reference, small methods; printed by wip/whole/gen_ref1.py. -/
def bI (p : Prop) [Decidable p] : Int32 := if p then 1 else 0
theorem bI_nar (p : Prop) [Decidable p] : narrow .boolean (.int (bI p)) = .int (bI p) := by
  unfold bI
  by_cases h : p <;> simp only [h, if_true, if_false] <;> rfl
theorem bI_t {p : Prop} [Decidable p] (h : p) : nI 1 = bI p := by rw [bI, if_pos h]; rfl
theorem bI_f {p : Prop} [Decidable p] (h : ¬ p) : nI 0 = bI p := by rw [bI, if_neg h]; rfl
theorem bI_0 {p : Prop} [Decidable p] : bI p = 0 ↔ ¬ p := by
  unfold bI
  by_cases h : p <;> simp [h]
theorem bI_c {p q : Prop} [Decidable p] [Decidable q] (h : p ↔ q) : bI p = bI q := by
  unfold bI
  by_cases hq : q
  · rw [if_pos (h.mpr hq), if_pos hq]
  · rw [if_neg (fun e => hq (h.mp e)), if_neg hq]
theorem rq_t {p : Prop} [Decidable p] {g : Nat → Int32} {A : Nat → Nat → Int32} (h : p) : rP (some (.int (bI p))) g A (some (.int (nI 1))) g A := ⟨by rw [bI_t h], rfl, rfl⟩
theorem rq_f {p : Prop} [Decidable p] {g : Nat → Int32} {A : Nat → Nat → Int32} (h : ¬ p) : rP (some (.int (bI p))) g A (some (.int (nI 0))) g A := ⟨by rw [bI_f h], rfl, rfl⟩
theorem rr_beq {p : Prop} [Decidable p] {k y pc : Nat} {al : AL} {r : List Value} {g : Nat → Int32} {A : Nat → Nat → Int32} {Q : Option Value → (Nat → Int32) → (Nat → Nat → Int32) → Prop} {off : Int} {t : Nat} (hd : decode (am_b y) pc = .ok (.ifCond .eq off, 3)) (ht : am_tg pc off = some t) (kt : ¬ p → RR k y t al r g A Q) (kf : p → RR k y (pc + 3) al r g A Q) : RR k y pc al (.int (bI p) :: r) g A Q := rr_ieq hd ht (fun q => kt (bI_0.mp q)) (fun q => kf (Decidable.byContradiction fun e => q (bI_0.mpr e)))
theorem rr_bne {p : Prop} [Decidable p] {k y pc : Nat} {al : AL} {r : List Value} {g : Nat → Int32} {A : Nat → Nat → Int32} {Q : Option Value → (Nat → Int32) → (Nat → Nat → Int32) → Prop} {off : Int} {t : Nat} (hd : decode (am_b y) pc = .ok (.ifCond .ne off, 3)) (ht : am_tg pc off = some t) (kt : p → RR k y t al r g A Q) (kf : ¬ p → RR k y (pc + 3) al r g A Q) : RR k y pc al (.int (bI p) :: r) g A Q := rr_ine hd ht (fun q => kt (Decidable.byContradiction fun e => q (bI_0.mpr e))) (fun q => kf (bI_0.mp q))
theorem ia_ge {a b : Int32} (h : ¬ a < b) : b ≤ a := Int32.not_lt.mp h
theorem ia_no {a b : Int32} (h : a ≤ b) (h2 : b < a) : False := absurd h2 (Int32.not_lt.mpr h)
/-- a number within 0 .. m is a natural one -/
theorem ia_nat {t : Int32} {m : Nat} (hm : m < 2 ^ 31) (h : nI 0 ≤ t ∧ t ≤ nI m) : ∃ j : Nat, j ≤ m ∧ t = nI j := nI_of2 (M := nI m) (nI_toInt hm) (by rw [← nI_0]; exact fun q => ia_no h.1 q) h.2
theorem ia_natI {j m : Nat} (hm : m < 2 ^ 31) (h : j ≤ m) : nI 0 ≤ nI j ∧ nI j ≤ nI m := ⟨nI_le (Nat.zero_le _) (by omega), nI_le h hm⟩
/-- the first i of f, the rest of e -/
def rf_f (f e : Nat → Int32) (i : Nat) : Nat → Int32 := fun q => if q < i then f q else e q
theorem rf_f_0 (f e : Nat → Int32) : rf_f f e 0 = e := by funext q; simp [rf_f]
theorem rf_f_s (f e : Nat → Int32) (i : Nat) : upd (rf_f f e i) i (f i) = rf_f f e (i + 1) := by
  funext q
  unfold upd rf_f
  by_cases h : q = i
  · subst h
    simp
  · by_cases h2 : q < i
    · rw [if_neg h, if_pos h2, if_pos (by omega)]
    · rw [if_neg h, if_neg h2, if_neg (by omega)]
theorem rf_f_in {f e : Nat → Int32} {i q : Nat} (h : q < i) : rf_f f e i q = f q := if_pos h
theorem rf_f_out {f e : Nat → Int32} {i q : Nat} (h : i ≤ q) : rf_f f e i q = e q := if_neg (by omega)
/-- the table that lies in cells: its order n, its cells c -/
def Cur (g : Nat → Int32) (A : Nat → Nat → Int32) (n : Nat) (c : Nat → Nat) : Prop := g 6 = nI n ∧ n ≤ 6 ∧ ∀ q, q < n * n → A 4 q = nI (c q) ∧ c q < n
theorem cu_lt {n x z : Nat} (hx : x < n) (hz : z < n) : n * x + z < n * n := by
  have : n * x + n ≤ n * n := by rw [← Nat.mul_succ]; exact Nat.mul_le_mul_left n hx
  omega
theorem cu_36 {n q : Nat} (hn : n ≤ 6) (h : q < n * n) : q < 36 := Nat.lt_of_lt_of_le h (Nat.mul_le_mul hn hn)
theorem rr_up {k y pc n : Nat} {al : Nat → AL} {G : Nat → Nat → Int32} {B : Nat → Nat → Nat → Int32} {P : Nat → Prop} {Q : Option Value → (Nat → Int32) → (Nat → Nat → Int32) → Prop}
    (hs : ∀ i, i < n → P i → (P (i + 1) → RR k y pc (al (i + 1)) [] (G (i + 1)) (B (i + 1)) Q) → RR k y pc (al i) [] (G i) (B i) Q) (he : P n → RR k y pc (al n) [] (G n) (B n) Q) : ∀ i, i ≤ n → P i → RR k y pc (al i) [] (G i) (B i) Q := by
  have key : ∀ m i, i + m = n → P i → RR k y pc (al i) [] (G i) (B i) Q := by
    intro m
    induction m with
    | zero =>
      intro i hi hp
      have : i = n := by omega
      subst this
      exact he hp
    | succ m ih =>
      intro i hi hp
      exact hs i (by omega) hp (fun hp1 => ih (i + 1) (by omega) hp1)
  intro i hi hp
  exact key (n - i) i (by omega) hp
theorem rr_A {k y pc : Nat} {al : AL} {st : List Value} {g : Nat → Int32} {A A1 : Nat → Nat → Int32} {Q : Option Value → (Nat → Int32) → (Nat → Nat → Int32) → Prop} (e : A = A1) (kk : RR k y pc al st g A1 Q) : RR k y pc al st g A Q := by
  rw [e]
  exact kk
theorem rr_G {k y pc : Nat} {al : AL} {st : List Value} {g g1 : Nat → Int32} {A : Nat → Nat → Int32} {Q : Option Value → (Nat → Int32) → (Nat → Nat → Int32) → Prop} (e : g = g1) (kk : RR k y pc al st g1 A Q) : RR k y pc al st g A Q := by
  rw [e]
  exact kk
theorem rf_u_id {A : Nat → Nat → Int32} {j : Nat} : rf_u A j (A j) = A := by
  funext i
  unfold rf_u
  by_cases h : i = j <;> simp [h]
theorem s_lies {g : Nat → Int32} {A : Nat → Nat → Int32} (v lo hi : Int32) : RR 0 179 0 [some (.int v), some (.int lo), some (.int hi)] [] g A (rP (some (.int (bI (lo ≤ v ∧ v ≤ hi)))) g A) := by
  refine rr_nx (pc' := 1) (al' := [some (.int v), some (.int lo), some (.int hi)]) (st' := [.int v]) d_179_0 (fun _ => rfl) ?_
  refine rr_nx (pc' := 2) (al' := [some (.int v), some (.int lo), some (.int hi)]) (st' := [.int lo, .int v]) d_179_1 (fun _ => rfl) ?_
  refine rr_clt (t := 14) d_179_2 (by decide) (fun c2 => ?_) (fun c2 => ?_)
  · refine rn_ic (v := 0) d_179_14 (by decide) ?_
    exact rr_ri d_179_15 mr_179 (by decide) (rq_f (fun e => by first | exact ia_no e.1 (by assumption) | exact ia_no e.2 (by assumption)))
  · refine rr_nx (pc' := 6) (al' := [some (.int v), some (.int lo), some (.int hi)]) (st' := [.int v]) d_179_5 (fun _ => rfl) ?_
    refine rr_nx (pc' := 7) (al' := [some (.int v), some (.int lo), some (.int hi)]) (st' := [.int hi, .int v]) d_179_6 (fun _ => rfl) ?_
    refine rr_cgt (t := 14) d_179_7 (by decide) (fun c7 => ?_) (fun c7 => ?_)
    · refine rn_ic (v := 0) d_179_14 (by decide) ?_
      exact rr_ri d_179_15 mr_179 (by decide) (rq_f (fun e => by first | exact ia_no e.1 (by assumption) | exact ia_no e.2 (by assumption)))
    · refine rn_ic (v := 1) d_179_10 (by decide) ?_
      refine rr_nx (pc' := 15) (al' := [some (.int v), some (.int lo), some (.int hi)]) (st' := [.int (nI 1)]) d_179_11 (fun _ => rfl) ?_
      exact rr_ri d_179_15 mr_179 (by decide) (rq_t ⟨ia_ge (by assumption), ia_ge (by assumption)⟩)
theorem s_isSlot {g : Nat → Int32} {A : Nat → Nat → Int32} (t : Int32) : RR 1 185 0 [some (.int t)] [] g A (rP (some (.int (bI (nI 0 ≤ t ∧ t ≤ nI 5)))) g A) := by
  refine rr_nx (pc' := 1) (al' := [some (.int t)]) (st' := [.int t]) d_185_0 (fun _ => rfl) ?_
  refine rn_ic (v := 0) d_185_1 (by decide) ?_
  refine rn_ic (v := 5) d_185_2 (by decide) ?_
  refine rr_ps (as := [.int t, .int (nI 0), .int (nI 5)]) (al0 := [some (.int t), some (.int (nI 0)), some (.int (nI 5))]) (r := []) d_185_3 mo_185 ml_106 mz_179 rfl rfl rfl (by decide) (s_lies t ((nI 0)) ((nI 5))) ?_
  show RR _ _ 6 [some (.int t)] [.int (bI ((nI 0) ≤ t ∧ t ≤ (nI 5)))] g A _
  exact rr_ri d_185_6 mr_185 (bI_nar _) ⟨rfl, rfl, rfl⟩
theorem s_orderOf {g : Nat → Int32} {A : Nat → Nat → Int32} {t : Nat} (ht : t < 6) : RR 0 186 0 [some (.ref 146), some (.int (nI t))] [] g A (rP (some (.int (A 1 (37 * t)))) g A) := by
  refine rr_nx (pc' := 1) (al' := [some (.ref 146), some (.int (nI t))]) (st' := [.ref 146]) d_186_0 (fun _ => rfl) ?_
  refine rr_gf (v := .ref (147 + 1)) d_186_1 mo_186 fl_13 rfl ?_
  refine rn_bp (v := 37) d_186_4 (by decide) ?_
  refine rr_nx (pc' := 7) (al' := [some (.ref 146), some (.int (nI t))]) (st' := [.int (nI t), .int (nI 37), .ref (147 + 1)]) d_186_6 (fun _ => rfl) ?_
  refine rn_mul d_186_7  ?_
  refine rr_ia (j := 1) (v := (A 1 (37 * t))) d_186_8 (by decide) rfl (by decide) (show 37 * t < 5720 by omega) rfl ?_
  exact rr_ri d_186_9 mr_186 rfl ⟨rfl, rfl, rfl⟩
abbrev isT (A : Nat → Nat → Int32) (t : Int32) : Prop := (nI 0 ≤ t ∧ t ≤ nI 5) ∧ 0 < A 1 (37 * t.toNatClampNeg)
theorem isT_n {A : Nat → Nat → Int32} {t : Int32} (h : isT A t) : ∃ j : Nat, j < 6 ∧ t = nI j ∧ 0 < A 1 (37 * j) := by
  obtain ⟨j, hj, rfl⟩ := ia_nat (by decide) h.1
  refine ⟨j, by omega, rfl, ?_⟩
  have := h.2
  rwa [nI_clamp (by omega)] at this
theorem s_isTable {g : Nat → Int32} {A : Nat → Nat → Int32} (t : Int32) : RR 2 184 0 [some (.ref 146), some (.int t)] [] g A (rP (some (.int (bI (isT A t)))) g A) := by
  refine rr_nx (pc' := 1) (al' := [some (.ref 146), some (.int t)]) (st' := [.int t]) d_184_0 (fun _ => rfl) ?_
  refine rr_ps (as := [.int t]) (al0 := [some (.int t)]) (r := []) d_184_1 mo_184 ml_117 mz_185 rfl rfl rfl (by decide) (s_isSlot t) ?_
  show RR _ _ 4 [some (.ref 146), some (.int t)] [.int (bI (nI 0 ≤ t ∧ t ≤ nI 5))] g A _
  refine rr_beq (t := 19) d_184_4 (by decide) (fun c4 => ?_) (fun c4 => ?_)
  · refine rn_ic (v := 0) d_184_19 (by decide) ?_
    exact rr_ri d_184_20 mr_184 (by decide) (rq_f (fun e => c4 e.1))
  · obtain ⟨j, hj, rfl⟩ := ia_nat (by decide) c4
    refine rr_nx (pc' := 8) (al' := [some (.ref 146), some (.int (nI j))]) (st' := [.ref 146]) d_184_7 (fun _ => rfl) ?_
    refine rr_nx (pc' := 9) (al' := [some (.ref 146), some (.int (nI j))]) (st' := [.int (nI j), .ref 146]) d_184_8 (fun _ => rfl) ?_
    refine rr_pv (as := [.int (nI j)]) (al0 := [some (.ref 146), some (.int (nI j))]) (r := []) d_184_9 mo_184 ml_121 mz_186 rfl rfl rfl (by decide) (s_orderOf (by omega)) ?_
    show RR _ _ 12 [some (.ref 146), some (.int (nI j))] [.int (A 1 (37 * j))] g A _
    refine rr_ile (t := 19) d_184_12 (by decide) (fun c12 => ?_) (fun c12 => ?_)
    · refine rn_ic (v := 0) d_184_19 (by decide) ?_
      exact rr_ri d_184_20 mr_184 (by decide) (rq_f (fun e => by have := e.2; rw [nI_clamp (by omega)] at this; first | exact ia_no c12 this | exact c12 this))
    · refine rn_ic (v := 1) d_184_15 (by decide) ?_
      refine rr_nx (pc' := 20) (al' := [some (.ref 146), some (.int (nI j))]) (st' := [.int (nI 1)]) d_184_16 (fun _ => rfl) ?_
      exact rr_ri d_184_20 mr_184 (by decide) (rq_t ⟨c4, by rw [nI_clamp (by omega)]; first | exact c12 | exact Int32.not_le.mp c12⟩)
theorem s_times {g : Nat → Int32} {A : Nat → Nat → Int32} {n : Nat} {c : Nat → Nat} (hc : Cur g A n c) {x z : Nat} (hx : x < n) (hz : z < n) : RR 0 213 0 [some (.ref 146), some (.int (nI x)), some (.int (nI z))] [] g A (rP (some (.int (nI (c (n * x + z))))) g A) := by
  refine rr_nx (pc' := 1) (al' := [some (.ref 146), some (.int (nI x)), some (.int (nI z))]) (st' := [.ref 146]) d_213_0 (fun _ => rfl) ?_
  refine rr_gf (v := .ref (147 + 4)) d_213_1 mo_213 fl_23 rfl ?_
  refine rr_nx (pc' := 5) (al' := [some (.ref 146), some (.int (nI x)), some (.int (nI z))]) (st' := [.ref 146, .ref (147 + 4)]) d_213_4 (fun _ => rfl) ?_
  refine rr_gn d_213_5 mo_213 fl_127 rfl hc.1 ?_
  refine rr_nx (pc' := 9) (al' := [some (.ref 146), some (.int (nI x)), some (.int (nI z))]) (st' := [.int (nI x), .int (nI n), .ref (147 + 4)]) d_213_8 (fun _ => rfl) ?_
  refine rn_mul d_213_9  ?_
  refine rr_nx (pc' := 11) (al' := [some (.ref 146), some (.int (nI x)), some (.int (nI z))]) (st' := [.int (nI z), .int (nI (n * x)), .ref (147 + 4)]) d_213_10 (fun _ => rfl) ?_
  refine rn_add d_213_11  ?_
  refine rr_ia (j := 4) (v := (nI (c (n * x + z)))) d_213_12 (by decide) rfl (by decide) (show (n * x) + z < 36 by exact cu_36 hc.2.1 (cu_lt hx hz)) (hc.2.2 _ (cu_lt hx hz)).1 ?_
  exact rr_ri d_213_13 mr_213 rfl ⟨rfl, rfl, rfl⟩
theorem s_lays {g : Nat → Int32} {A : Nat → Nat → Int32} {t n : Nat} (ht : t < 6) (hn6 : n ≤ 6) (hk : A 1 (37 * t) = nI n) : RR 1 208 0 [some (.ref 146), some (.int (nI t)), none] [] g A (rP none (upd g 6 (nI n)) (rf_u A 4 (rf_f (fun q => A 1 (37 * t + 1 + q)) (A 4) (n * n)))) := by
  have hnn : n * n ≤ 36 := Nat.mul_le_mul hn6 hn6
  refine rr_nx (pc' := 1) (al' := [some (.ref 146), some (.int (nI t)), none]) (st' := [.ref 146]) d_208_0 (fun _ => rfl) ?_
  refine rr_nx (pc' := 2) (al' := [some (.ref 146), some (.int (nI t)), none]) (st' := [.ref 146, .ref 146]) d_208_1 (fun _ => rfl) ?_
  refine rr_nx (pc' := 3) (al' := [some (.ref 146), some (.int (nI t)), none]) (st' := [.int (nI t), .ref 146, .ref 146]) d_208_2 (fun _ => rfl) ?_
  refine rr_pv (as := [.int (nI t)]) (al0 := [some (.ref 146), some (.int (nI t))]) (r := [.ref 146]) d_208_3 mo_208 ml_121 mz_186 rfl rfl rfl (by decide) (s_orderOf ht) ?_
  show RR _ _ 6 [some (.ref 146), some (.int (nI t)), none] [.int (A 1 (37 * t)), .ref 146] g A _
  rw [hk]
  refine rp_6 d_208_6 mo_208 fl_127  ?_
  refine rr_A (A1 := rf_u A 4 (rf_f (fun q => A 1 (37 * t + 1 + q)) (A 4) 0)) (by rw [rf_f_0, rf_u_id]) ?_
  refine rn_ic (v := 0) d_208_9 (by decide) ?_
  refine rr_nx (pc' := 11) (al' := [some (.ref 146), some (.int (nI t)), some (.int (nI 0))]) (st' := []) d_208_10 (fun _ => rfl) ?_
  refine rr_up (al := fun q => [some (.ref 146), some (.int (nI t)), some (.int (nI q))]) (G := fun q => (upd g 6 ((nI n)))) (B := fun q => (rf_u A 4 (rf_f (fun q => A 1 (37 * t + 1 + q)) (A 4) q))) (P := fun q => True) (n := n * n) (fun q hq pq ihq => ?_) (fun pq => ?_) 0 (by omega) (trivial)
  · show RR _ _ 11 [some (.ref 146), some (.int (nI t)), some (.int (nI q))] [] (upd g 6 ((nI n))) (rf_u A 4 (rf_f (fun q => A 1 (37 * t + 1 + q)) (A 4) q)) _
    
    refine rr_nx (pc' := 12) (al' := [some (.ref 146), some (.int (nI t)), some (.int (nI q))]) (st' := [.int (nI q)]) d_208_11 (fun _ => rfl) ?_
    refine rr_nx (pc' := 13) (al' := [some (.ref 146), some (.int (nI t)), some (.int (nI q))]) (st' := [.ref 146, .int (nI q)]) d_208_12 (fun _ => rfl) ?_
    refine rr_gf (v := .int (nI n)) d_208_13 mo_208 fl_127 rfl ?_
    refine rr_nx (pc' := 17) (al' := [some (.ref 146), some (.int (nI t)), some (.int (nI q))]) (st' := [.ref 146, .int (nI n), .int (nI q)]) d_208_16 (fun _ => rfl) ?_
    refine rr_gf (v := .int (nI n)) d_208_17 mo_208 fl_127 rfl ?_
    refine rn_mul d_208_20  ?_
    refine rn_cge (t := 49) d_208_21 (by decide) (by omega) (by omega) (fun c21 => ?_) (fun c21 => ?_)
    · omega
    · refine rr_nx (pc' := 25) (al' := [some (.ref 146), some (.int (nI t)), some (.int (nI q))]) (st' := [.ref 146]) d_208_24 (fun _ => rfl) ?_
      refine rr_gf (v := .ref (147 + 4)) d_208_25 mo_208 fl_23 rfl ?_
      refine rr_nx (pc' := 29) (al' := [some (.ref 146), some (.int (nI t)), some (.int (nI q))]) (st' := [.int (nI q), .ref (147 + 4)]) d_208_28 (fun _ => rfl) ?_
      refine rr_nx (pc' := 30) (al' := [some (.ref 146), some (.int (nI t)), some (.int (nI q))]) (st' := [.ref 146, .int (nI q), .ref (147 + 4)]) d_208_29 (fun _ => rfl) ?_
      refine rr_gf (v := .ref (147 + 1)) d_208_30 mo_208 fl_13 rfl ?_
      refine rn_bp (v := 37) d_208_33 (by decide) ?_
      refine rr_nx (pc' := 36) (al' := [some (.ref 146), some (.int (nI t)), some (.int (nI q))]) (st' := [.int (nI t), .int (nI 37), .ref (147 + 1), .int (nI q), .ref (147 + 4)]) d_208_35 (fun _ => rfl) ?_
      refine rn_mul d_208_36  ?_
      refine rn_ic (v := 1) d_208_37 (by decide) ?_
      refine rn_add d_208_38  ?_
      refine rr_nx (pc' := 40) (al' := [some (.ref 146), some (.int (nI t)), some (.int (nI q))]) (st' := [.int (nI q), .int (nI ((37 * t) + 1)), .ref (147 + 1), .int (nI q), .ref (147 + 4)]) d_208_39 (fun _ => rfl) ?_
      refine rn_add d_208_40  ?_
      refine rr_ia (j := 1) (v := (A 1 (((37 * t) + 1) + q))) d_208_41 (by decide) rfl (by decide) (show ((37 * t) + 1) + q < 5720 by omega) rfl ?_
      refine rr_iS (j := 4) (A1 := (rf_u A 4 (upd ((rf_f (fun q => A 1 (37 * t + 1 + q)) (A 4) q)) q (((A 1 (((37 * t) + 1) + q))))))) d_208_42 (by decide) rfl (by decide) (show q < 36 by omega) rf_uw ?_
      refine rn_inc d_208_43 rfl rfl ?_
      show RR _ _ _ [some (.ref 146), some (.int (nI t)), some (.int (nI (q + 1)))] _ _ _ _
      refine rr_nx (pc' := 11) (al' := [some (.ref 146), some (.int (nI t)), some (.int (nI (q + 1)))]) (st' := []) d_208_46 (fun _ => rfl) ?_
      rw [show upd (rf_f (fun q => A 1 (37 * t + 1 + q)) (A 4) q) q (A 1 (37 * t + 1 + q)) = rf_f (fun q => A 1 (37 * t + 1 + q)) (A 4) (q + 1) from rf_f_s _ _ _]
      exact ihq (trivial)
  · show RR _ _ 11 [some (.ref 146), some (.int (nI t)), some (.int (nI (n * n)))] [] (upd g 6 ((nI n))) (rf_u A 4 (rf_f (fun q => A 1 (37 * t + 1 + q)) (A 4) (n * n))) _
    
    refine rr_nx (pc' := 12) (al' := [some (.ref 146), some (.int (nI t)), some (.int (nI (n * n)))]) (st' := [.int (nI (n * n))]) d_208_11 (fun _ => rfl) ?_
    refine rr_nx (pc' := 13) (al' := [some (.ref 146), some (.int (nI t)), some (.int (nI (n * n)))]) (st' := [.ref 146, .int (nI (n * n))]) d_208_12 (fun _ => rfl) ?_
    refine rr_gf (v := .int (nI n)) d_208_13 mo_208 fl_127 rfl ?_
    refine rr_nx (pc' := 17) (al' := [some (.ref 146), some (.int (nI t)), some (.int (nI (n * n)))]) (st' := [.ref 146, .int (nI n), .int (nI (n * n))]) d_208_16 (fun _ => rfl) ?_
    refine rr_gf (v := .int (nI n)) d_208_17 mo_208 fl_127 rfl ?_
    refine rn_mul d_208_20  ?_
    refine rn_cge (t := 49) d_208_21 (by decide) (by omega) (by omega) (fun c21 => ?_) (fun c21 => ?_)
    · exact rr_rv d_208_49 mr_208 ⟨rfl, rfl, rfl⟩
    · omega
