/-! Names: the lowest of many tables; theory and the reference; printed by wip/whole/gen_b9.py. -/
/-- lower, in the order of the cells -/
def lxL (m : Nat) (t b : Nat → Nat) : Prop := ∃ k, k < m ∧ (∀ j, j < k → t j = b j) ∧ t k < b k
theorem lx_tr {m : Nat} {a b c : Nat → Nat} (h1 : lxL m a b) (h2 : lxL m b c) : lxL m a c := by
  obtain ⟨k, hk, e, l⟩ := h1
  obtain ⟨k2, hk2, e2, l2⟩ := h2
  rcases Nat.lt_trichotomy k k2 with h | h | h
  · exact ⟨k, hk, fun j hj => (e j hj).trans (e2 j (by omega)), by rw [← e2 k h]; exact l⟩
  · subst h
    exact ⟨k, hk, fun j hj => (e j hj).trans (e2 j hj), by omega⟩
  · exact ⟨k2, hk2, fun j hj => (e j (by omega)).trans (e2 j hj), by rw [e k2 h]; exact l2⟩
theorem lx_eq {m : Nat} {a b : Nat → Nat} (h : ∀ q, q < m → a q = b q) : ¬ lxL m a b := by
  rintro ⟨k, hk, _, l⟩
  rw [h k hk] at l
  omega
theorem lx_cg {m : Nat} {a b c : Nat → Nat} (h : ∀ q, q < m → b q = c q) (hl : lxL m a b) : lxL m a c := by
  obtain ⟨k, hk, e, l⟩ := hl
  exact ⟨k, hk, fun j hj => by rw [e j hj, h j (by omega)], by rw [← h k hk]; exact l⟩
theorem lx_cl {m : Nat} {a b c : Nat → Nat} (h : ∀ q, q < m → a q = b q) (hl : lxL m b c) : lxL m a c := by
  obtain ⟨k, hk, e, l⟩ := hl
  exact ⟨k, hk, fun j hj => by rw [h j (by omega), e j hj], by rw [h k hk]; exact l⟩
theorem lx_tri {m : Nat} {a b : Nat → Nat} (h1 : ¬ lxL m a b) (h2 : ¬ lxL m b a) : ∀ q, q < m → a q = b q := by
  have key : ∀ q, q ≤ m → ∀ j, j < q → a j = b j := by
    intro q
    induction q with
    | zero => exact fun _ j hj => absurd hj (Nat.not_lt_zero j)
    | succ q ih =>
      intro hq
      have h := ih (by omega)
      refine all_s h ?_
      rcases Nat.lt_trichotomy (a q) (b q) with l | l | l
      · exact absurd ⟨q, by omega, h, l⟩ h1
      · exact l
      · exact absurd ⟨q, by omega, fun j hj => (h j hj).symm, l⟩ h2
  exact key m (Nat.le_refl m)
/-- the state of a search for the lowest: h: one is there -/
def MinS (m : Nat) (F : (Nat → Nat) → Prop) (h : Nat) (b : Nat → Nat) : Prop := (h = 0 ∧ ∀ t, ¬ F t) ∨ (h = 1 ∧ (∃ t, F t ∧ ∀ q, q < m → b q = t q) ∧ ∀ t, F t → ¬ lxL m t b)
def StpN (m h : Nat) (b t b' : Nat → Nat) : Prop := (h = 1 ∧ ¬ lxL m t b ∧ ∀ q, q < m → b' q = b q) ∨ ((h = 0 ∨ lxL m t b) ∧ ∀ q, q < m → b' q = t q)
theorem Min_st {m : Nat} {F : (Nat → Nat) → Prop} {h : Nat} {b t b' : Nat → Nat} (hm : MinS m F h b) (hs : StpN m h b t b') : MinS m (fun u => F u ∨ ∀ q, q < m → u q = t q) 1 b' := by
  refine Or.inr ⟨rfl, ?_⟩
  rcases hs with ⟨h1, hn, e⟩ | ⟨hc, e⟩
  · rcases hm with ⟨h0, _⟩ | ⟨_, ⟨w, hw, we⟩, hl⟩
    · omega
    · refine ⟨⟨w, Or.inl hw, fun q hq => (e q hq).trans (we q hq)⟩, fun u hu hlx => ?_⟩
      have hlx := lx_cg e hlx
      rcases hu with hu | hu
      · exact hl u hu hlx
      · exact hn (lx_cl (fun q hq => (hu q hq).symm) hlx)
  · refine ⟨⟨t, Or.inr (fun _ _ => rfl), e⟩, fun u hu hlx => ?_⟩
    have hlx := lx_cg e hlx
    rcases hu with hu | hu
    · rcases hm with ⟨_, hno⟩ | ⟨h1, _, hl⟩
      · exact hno u hu
      · rcases hc with hc | hc
        · omega
        · exact hl u hu (lx_tr hlx hc)
    · exact lx_eq hu hlx
theorem Min_iff {m : Nat} {F F' : (Nat → Nat) → Prop} {h : Nat} {b : Nat → Nat} (hm : MinS m F h b) (e : ∀ t, F t ↔ F' t) : MinS m F' h b := by
  rcases hm with ⟨h0, hno⟩ | ⟨h1, ⟨w, hw, we⟩, hl⟩
  · exact Or.inl ⟨h0, fun t ht => hno t ((e t).mpr ht)⟩
  · exact Or.inr ⟨h1, ⟨w, (e w).mp hw, we⟩, fun t ht => hl t ((e t).mpr ht)⟩
theorem Min_eq {m : Nat} {F : (Nat → Nat) → Prop} {h h' : Nat} {b b' : Nat → Nat} (hm : MinS m F h b) (hm' : MinS m F h' b') (hex : ∃ t, F t) : ∀ q, q < m → b q = b' q := by
  obtain ⟨t, ht⟩ := hex
  rcases hm with ⟨_, hno⟩ | ⟨_, ⟨w, hw, we⟩, hl⟩
  · exact absurd ht (hno t)
  · rcases hm' with ⟨_, hno⟩ | ⟨_, ⟨w', hw', we'⟩, hl'⟩
    · exact absurd ht (hno t)
    · exact lx_tri (fun e => hl' w hw (lx_cl (fun q hq => (we q hq).symm) e)) (fun e => hl w' hw' (lx_cl (fun q hq => (we' q hq).symm) e))
/-- the renamings of a table that bring z, if any, to 0 -/
def zcP (z : Option Nat) (p : Nat → Nat) : Prop := match z with
  | none => True
  | some z => p z = 0
def FRr (n : Nat) (c : Nat → Nat) (z : Option Nat) (r : Nat) (t : Nat → Nat) : Prop := ∃ s, s < r ∧ zcP z (pmE n s) ∧ ∀ q, q < n * n → t q = rnN n c (pmE n s) q
def FR (n : Nat) (c : Nat → Nat) (z : Option Nat) (t : Nat → Nat) : Prop := ∃ p, Per n p ∧ zcP z p ∧ ∀ q, q < n * n → t q = rnN n c p q
theorem piv_cg {n : Nat} {p p' : Nat → Nat} (e : ∀ k, k < n → p k = p' k) (v : Nat) : piv n p v = piv n p' v := by
  have key : ∀ m, m ≤ n → FX (fun z => decide (p z = v)) m = FX (fun z => decide (p' z = v)) m := by
    intro m hm
    rcases Nat.lt_trichotomy (FX (fun z => decide (p z = v)) m) (FX (fun z => decide (p' z = v)) m) with h | h | h
    · have h1 := FX_le (fun z => decide (p' z = v)) m
      have h2 := FX_yes (fun z => decide (p z = v)) m (by omega)
      have h3 := FX_no (fun z => decide (p' z = v)) m _ h
      rw [e _ (by omega)] at h2
      rw [h2] at h3
      cases h3
    · exact h
    · have h1 := FX_le (fun z => decide (p z = v)) m
      have h2 := FX_yes (fun z => decide (p' z = v)) m (by omega)
      have h3 := FX_no (fun z => decide (p z = v)) m _ h
      rw [e _ (by omega), h2] at h3
      cases h3
  exact key n (Nat.le_refl n)
theorem rn_cg {n : Nat} {c p p' : Nat → Nat} (hl : Lat n c) (hP : Per n p) (e : ∀ k, k < n → p k = p' k) {q : Nat} (hq : q < n * n) : rnN n c p q = rnN n c p' q := by
  unfold rnN
  have a := (hP.v (dm_dl hq)).1
  have b := (hP.v (dm_ml hq)).1
  rw [← piv_cg e, ← piv_cg e]
  exact e _ (hl.b a b)
theorem FR_all {n : Nat} {c : Nat → Nat} {z : Option Nat} (hn : n ≤ 6) (hl : Lat n c) (hz : ∀ k, z = some k → k < n) (t : Nat → Nat) : FRr n c z (FA n) t ↔ FR n c z t := by
  constructor
  · rintro ⟨s, hs, h1, h2⟩
    exact ⟨pmE n s, pm_per hn hs, h1, h2⟩
  · rintro ⟨p, hP, h1, h2⟩
    obtain ⟨r, hr⟩ := per_num hn hP
    refine ⟨r, hr.1, ?_, fun q hq => ?_⟩
    · cases z with
      | none => trivial
      | some k =>
        show pmE n r k = 0
        rw [(hr.2.2.2 k (hz k rfl)).1]
        exact h1
    · rw [h2 q hq]
      exact rn_cg hl hP (fun k hk => ((hr.2.2.2 k hk).1).symm) hq
theorem FRr_s {n : Nat} {c : Nat → Nat} {z : Option Nat} {r : Nat} {F : (Nat → Nat) → Prop} (h : zcP z (pmE n r)) (t : Nat → Nat) : ((F t ∨ FRr n c z r t) ∨ ∀ q, q < n * n → t q = rnN n c (pmE n r) q) ↔ (F t ∨ FRr n c z (r + 1) t) := by
  constructor
  · rintro ((h1 | ⟨s, hs, a, b⟩) | h1)
    · exact Or.inl h1
    · exact Or.inr ⟨s, by omega, a, b⟩
    · exact Or.inr ⟨r, by omega, h, h1⟩
  · rintro (h1 | ⟨s, hs, a, b⟩)
    · exact Or.inl (Or.inl h1)
    · rcases Nat.lt_succ_iff_lt_or_eq.mp hs with e | e
      · exact Or.inl (Or.inr ⟨s, e, a, b⟩)
      · subst e
        exact Or.inr b
theorem FRr_n {n : Nat} {c : Nat → Nat} {z : Option Nat} {r : Nat} {F : (Nat → Nat) → Prop} (h : ¬ zcP z (pmE n r)) (t : Nat → Nat) : (F t ∨ FRr n c z r t) ↔ (F t ∨ FRr n c z (r + 1) t) := by
  constructor
  · rintro (h1 | ⟨s, hs, a, b⟩)
    · exact Or.inl h1
    · exact Or.inr ⟨s, by omega, a, b⟩
  · rintro (h1 | ⟨s, hs, a, b⟩)
    · exact Or.inl h1
    · rcases Nat.lt_succ_iff_lt_or_eq.mp hs with e | e
      · exact Or.inr ⟨s, e, a, b⟩
      · subst e
        exact absurd a h
theorem FRr_0 {n : Nat} {c : Nat → Nat} {z : Option Nat} {F : (Nat → Nat) → Prop} (t : Nat → Nat) : F t ↔ (F t ∨ FRr n c z 0 t) := ⟨Or.inl, fun h => h.elim id (fun ⟨s, hs, _⟩ => absurd hs (Nat.not_lt_zero s))⟩
theorem df_s : ∀ a, a < 6 → ∀ b, b < 6 → (nI a - nI b < 0 ↔ a < b) ∧ (nI a - nI b = 0 ↔ a = b) := by decide
/-- how far two tables were compared -/
def CmP (t b : Nat → Nat) (q : Nat) (v : Int32) : Prop := (v = 0 ∧ ∀ j, j < q → t j = b j) ∨ ∃ k, k < q ∧ (∀ j, j < k → t j = b j) ∧ ¬ t k = b k ∧ v = nI (t k) - nI (b k)
theorem Cm_lt {t b : Nat → Nat} {m q : Nat} {v : Int32} (hq : q ≤ m) (ht : ∀ j, j < m → t j < 6) (hb : ∀ j, j < m → b j < 6) (h : CmP t b q v) (he : q = m ∨ ¬ v = 0) : v < 0 ↔ lxL m t b := by
  rcases h with ⟨h1, h2⟩ | ⟨k, hk, h1, h2, h3⟩
  · constructor
    · intro h
      rw [h1] at h
      exact absurd h (by decide)
    · intro h
      rcases he with he | he
      · subst he
        exact absurd h (lx_eq h2)
      · exact absurd h1 he
  · rw [h3, (df_s _ (ht k (by omega)) _ (hb k (by omega))).1]
    constructor
    · exact fun h => ⟨k, by omega, h1, h⟩
    · rintro ⟨k2, hk2, e, l⟩
      rcases Nat.lt_trichotomy k k2 with h | h | h
      · exact absurd (e k h) h2
      · subst h
        exact l
      · have := h1 k2 h
        omega
theorem s_ren_100 {g : Nat → Int32} {A : Nat → Nat → Int32} {Q : Option Value → (Nat → Int32) → (Nat → Nat → Int32) → Prop} {n h r : Nat} {z v : Int32} {t b : Nat → Nat} (hn6 : n ≤ 6) (h6 : g 6 = nI n) (h38 : g 38 = nI h) (hh : h ≤ 1) (h5 : ∀ q, q < n * n → A 5 q = nI (t q) ∧ t q < n) (h19 : h = 1 → ∀ q, q < n * n → A 19 q = nI (b q) ∧ b q < n) (hv : h = 1 → (v < 0 ↔ lxL (n * n) t b)) (hk : ∀ g' A', g' 6 = nI n → g' 38 = nI 1 → Gsm g g' → Ksm A A' → A' 4 = A 4 → ∀ b' : Nat → Nat, (∀ q, q < n * n → A' 19 q = nI (b' q) ∧ b' q < n) → StpN (n * n) h b t b' → RR 20 260 157 [some (.ref 146), some (.int z), some (.int (nI (FA n))), some (.int (nI r)), none, none] [] g' A' Q) : RR 20 260 100 [some (.ref 146), some (.int z), some (.int (nI (FA n))), some (.int (nI r)), some (.int v), none] [] g A Q := by
  have hnn : n * n ≤ 36 := Nat.mul_le_mul hn6 hn6
  refine rr_nx (pc' := 101) (al' := [some (.ref 146), some (.int z), some (.int (nI (FA n))), some (.int (nI r)), some (.int v), none]) (st' := [.ref 146]) d_260_100 (fun _ => rfl) ?_
  refine rr_gn d_260_101 mo_260 fl_312 rfl h38 ?_
  refine rn_ieq (t := 115) d_260_104 (by decide) (by first | omega | assumption | exact cu_36 (by omega) (cu_lt (by omega) (by omega))) (fun c104 => ?_) (fun c104 => ?_)
  · refine rr_nx (pc' := 116) (al' := [some (.ref 146), some (.int z), some (.int (nI (FA n))), some (.int (nI r)), some (.int v), none]) (st' := [.ref 146]) d_260_115 (fun _ => rfl) ?_
    refine rn_ic (v := 1) d_260_116 (by decide) ?_
    refine rp_38 d_260_117 mo_260 fl_312 (Or.inr rfl) ?_
    refine rn_ic (v := 0) d_260_120 (by decide) ?_
    refine rr_nx (pc' := 123) (al' := [some (.ref 146), some (.int z), some (.int (nI (FA n))), some (.int (nI r)), some (.int v), some (.int (nI 0))]) (st' := []) d_260_121 (fun _ => rfl) ?_
    refine rr_A (show A = (rf_u A 19 (A 19)) by rw [rf_u_id]) ?_
    refine rr_upw (al := fun q w_ => [some (.ref 146), some (.int z), some (.int (nI (FA n))), some (.int (nI r)), some (.int v), some (.int (nI q))]) (G := fun q w_ => (upd g 38 (nI 1))) (B := fun q w_ => (rf_u A 19 w_)) (P := fun q w_ => ∀ j, j < q → w_ j = nI (t j)) (n := n * n) (fun q w_ hq pq ihq => ?_) (fun w_ pq => ?_) 0 (A 19) (by omega) (all_0)
    · show RR _ _ 123 [some (.ref 146), some (.int z), some (.int (nI (FA n))), some (.int (nI r)), some (.int v), some (.int (nI q))] [] (upd g 38 (nI 1)) (rf_u A 19 w_) _
      refine rr_nx (pc' := 125) (al' := [some (.ref 146), some (.int z), some (.int (nI (FA n))), some (.int (nI r)), some (.int v), some (.int (nI q))]) (st' := [.int (nI q)]) d_260_123 (fun _ => rfl) ?_
      refine rr_nx (pc' := 126) (al' := [some (.ref 146), some (.int z), some (.int (nI (FA n))), some (.int (nI r)), some (.int v), some (.int (nI q))]) (st' := [.ref 146, .int (nI q)]) d_260_125 (fun _ => rfl) ?_
      refine rr_gf (v := .int (g 6)) d_260_126 mo_260 fl_127 rfl ?_
      refine rr_tp (z := nI n) h6 ?_
      refine rr_nx (pc' := 130) (al' := [some (.ref 146), some (.int z), some (.int (nI (FA n))), some (.int (nI r)), some (.int v), some (.int (nI q))]) (st' := [.ref 146, .int (nI n), .int (nI q)]) d_260_129 (fun _ => rfl) ?_
      refine rr_gf (v := .int (g 6)) d_260_130 mo_260 fl_127 rfl ?_
      refine rr_tp (z := nI n) h6 ?_
      refine rn_mul d_260_133  ?_
      refine rn_cge (t := 157) d_260_134 (by decide) (by first | omega | assumption | exact cu_36 (by omega) (cu_lt (by omega) (by omega))) (by first | omega | assumption | exact cu_36 (by omega) (cu_lt (by omega) (by omega))) (fun c134 => ?_) (fun c134 => ?_)
      · omega
      · refine rr_nx (pc' := 138) (al' := [some (.ref 146), some (.int z), some (.int (nI (FA n))), some (.int (nI r)), some (.int v), some (.int (nI q))]) (st' := [.ref 146]) d_260_137 (fun _ => rfl) ?_
        refine rr_gf (v := .ref (147 + 19)) d_260_138 mo_260 fl_73 rfl ?_
        refine rr_nx (pc' := 143) (al' := [some (.ref 146), some (.int z), some (.int (nI (FA n))), some (.int (nI r)), some (.int v), some (.int (nI q))]) (st' := [.int (nI q), .ref (147 + 19)]) d_260_141 (fun _ => rfl) ?_
        refine rr_nx (pc' := 144) (al' := [some (.ref 146), some (.int z), some (.int (nI (FA n))), some (.int (nI r)), some (.int v), some (.int (nI q))]) (st' := [.ref 146, .int (nI q), .ref (147 + 19)]) d_260_143 (fun _ => rfl) ?_
        refine rr_gf (v := .ref (147 + 5)) d_260_144 mo_260 fl_26 rfl ?_
        refine rr_nx (pc' := 149) (al' := [some (.ref 146), some (.int z), some (.int (nI (FA n))), some (.int (nI r)), some (.int v), some (.int (nI q))]) (st' := [.int (nI q), .ref (147 + 5), .int (nI q), .ref (147 + 19)]) d_260_147 (fun _ => rfl) ?_
        refine rr_ia (j := 5) (v := (nI (t q))) d_260_149 (by decide) rfl (by decide) (show q < 36 by first | omega | assumption | exact cu_36 (by omega) (cu_lt (by omega) (by omega))) (h5 q hq).1 ?_
        refine rr_iS (j := 19) (A1 := (rf_u A 19 (upd w_ q (nI (t q))))) d_260_150 (by decide) rfl (by decide) (show q < 36 by first | omega | assumption | exact cu_36 (by omega) (cu_lt (by omega) (by omega))) rf_uw ?_
        refine rn_inc d_260_151 rfl rfl ?_
        show RR _ _ 154 [some (.ref 146), some (.int z), some (.int (nI (FA n))), some (.int (nI r)), some (.int v), some (.int (nI (q + 1)))] [] (upd g 38 (nI 1)) (rf_u A 19 (upd w_ q (nI (t q)))) _
        refine rr_nx (pc' := 123) (al' := [some (.ref 146), some (.int z), some (.int (nI (FA n))), some (.int (nI r)), some (.int v), some (.int (nI (q + 1)))]) (st' := []) d_260_154 (fun _ => rfl) ?_
        exact ihq (upd w_ q (nI (t q))) (up_all (f := fun j => nI (t j)) pq rfl)
    · show RR _ _ 123 [some (.ref 146), some (.int z), some (.int (nI (FA n))), some (.int (nI r)), some (.int v), some (.int (nI (n * n)))] [] (upd g 38 (nI 1)) (rf_u A 19 w_) _
      refine rr_nx (pc' := 125) (al' := [some (.ref 146), some (.int z), some (.int (nI (FA n))), some (.int (nI r)), some (.int v), some (.int (nI (n * n)))]) (st' := [.int (nI (n * n))]) d_260_123 (fun _ => rfl) ?_
      refine rr_nx (pc' := 126) (al' := [some (.ref 146), some (.int z), some (.int (nI (FA n))), some (.int (nI r)), some (.int v), some (.int (nI (n * n)))]) (st' := [.ref 146, .int (nI (n * n))]) d_260_125 (fun _ => rfl) ?_
      refine rr_gf (v := .int (g 6)) d_260_126 mo_260 fl_127 rfl ?_
      refine rr_tp (z := nI n) h6 ?_
      refine rr_nx (pc' := 130) (al' := [some (.ref 146), some (.int z), some (.int (nI (FA n))), some (.int (nI r)), some (.int v), some (.int (nI (n * n)))]) (st' := [.ref 146, .int (nI n), .int (nI (n * n))]) d_260_129 (fun _ => rfl) ?_
      refine rr_gf (v := .int (g 6)) d_260_130 mo_260 fl_127 rfl ?_
      refine rr_tp (z := nI n) h6 ?_
      refine rn_mul d_260_133  ?_
      refine rn_cge (t := 157) d_260_134 (by decide) (by first | omega | assumption | exact cu_36 (by omega) (cu_lt (by omega) (by omega))) (by first | omega | assumption | exact cu_36 (by omega) (cu_lt (by omega) (by omega))) (fun c134 => ?_) (fun c134 => ?_)
      · refine rr_dr (al1 := [some (.ref 146), some (.int z), some (.int (nI (FA n))), some (.int (nI r)), none, none]) (le_s (le_s (le_s (le_s (le_d rfl (le_d rfl (le_n))))))) ?_
        exact hk (upd g 38 (nI 1)) (rf_u A 19 w_) (by rw [pk_un (by decide)]; exact h6) (by rw [pk_us]) (Gsm.rf.u (by decide)) (Ksm.rf.u (by decide)) (rf_u_n (by decide)) t (fun q hq => ⟨by rw [rf_u_s]; exact pq q hq, (h5 q hq).2⟩) (Or.inr ⟨by first | exact Or.inl c104 | exact Or.inr ((hv h1).mp c109), fun _ _ => rfl⟩)
      · omega
  · have h1 : h = 1 := by omega
    refine rr_nx (pc' := 109) (al' := [some (.ref 146), some (.int z), some (.int (nI (FA n))), some (.int (nI r)), some (.int v), none]) (st' := [.int v]) d_260_107 (fun _ => rfl) ?_
    refine rr_ilt (t := 115) d_260_109 (by decide) (fun c109 => ?_) (fun c109 => ?_)
    · refine rr_nx (pc' := 116) (al' := [some (.ref 146), some (.int z), some (.int (nI (FA n))), some (.int (nI r)), some (.int v), none]) (st' := [.ref 146]) d_260_115 (fun _ => rfl) ?_
      refine rn_ic (v := 1) d_260_116 (by decide) ?_
      refine rp_38 d_260_117 mo_260 fl_312 (Or.inr rfl) ?_
      refine rn_ic (v := 0) d_260_120 (by decide) ?_
      refine rr_nx (pc' := 123) (al' := [some (.ref 146), some (.int z), some (.int (nI (FA n))), some (.int (nI r)), some (.int v), some (.int (nI 0))]) (st' := []) d_260_121 (fun _ => rfl) ?_
      refine rr_A (show A = (rf_u A 19 (A 19)) by rw [rf_u_id]) ?_
      refine rr_upw (al := fun q w_ => [some (.ref 146), some (.int z), some (.int (nI (FA n))), some (.int (nI r)), some (.int v), some (.int (nI q))]) (G := fun q w_ => (upd g 38 (nI 1))) (B := fun q w_ => (rf_u A 19 w_)) (P := fun q w_ => ∀ j, j < q → w_ j = nI (t j)) (n := n * n) (fun q w_ hq pq ihq => ?_) (fun w_ pq => ?_) 0 (A 19) (by omega) (all_0)
      · show RR _ _ 123 [some (.ref 146), some (.int z), some (.int (nI (FA n))), some (.int (nI r)), some (.int v), some (.int (nI q))] [] (upd g 38 (nI 1)) (rf_u A 19 w_) _
        refine rr_nx (pc' := 125) (al' := [some (.ref 146), some (.int z), some (.int (nI (FA n))), some (.int (nI r)), some (.int v), some (.int (nI q))]) (st' := [.int (nI q)]) d_260_123 (fun _ => rfl) ?_
        refine rr_nx (pc' := 126) (al' := [some (.ref 146), some (.int z), some (.int (nI (FA n))), some (.int (nI r)), some (.int v), some (.int (nI q))]) (st' := [.ref 146, .int (nI q)]) d_260_125 (fun _ => rfl) ?_
        refine rr_gf (v := .int (g 6)) d_260_126 mo_260 fl_127 rfl ?_
        refine rr_tp (z := nI n) h6 ?_
        refine rr_nx (pc' := 130) (al' := [some (.ref 146), some (.int z), some (.int (nI (FA n))), some (.int (nI r)), some (.int v), some (.int (nI q))]) (st' := [.ref 146, .int (nI n), .int (nI q)]) d_260_129 (fun _ => rfl) ?_
        refine rr_gf (v := .int (g 6)) d_260_130 mo_260 fl_127 rfl ?_
        refine rr_tp (z := nI n) h6 ?_
        refine rn_mul d_260_133  ?_
        refine rn_cge (t := 157) d_260_134 (by decide) (by first | omega | assumption | exact cu_36 (by omega) (cu_lt (by omega) (by omega))) (by first | omega | assumption | exact cu_36 (by omega) (cu_lt (by omega) (by omega))) (fun c134 => ?_) (fun c134 => ?_)
        · omega
        · refine rr_nx (pc' := 138) (al' := [some (.ref 146), some (.int z), some (.int (nI (FA n))), some (.int (nI r)), some (.int v), some (.int (nI q))]) (st' := [.ref 146]) d_260_137 (fun _ => rfl) ?_
          refine rr_gf (v := .ref (147 + 19)) d_260_138 mo_260 fl_73 rfl ?_
          refine rr_nx (pc' := 143) (al' := [some (.ref 146), some (.int z), some (.int (nI (FA n))), some (.int (nI r)), some (.int v), some (.int (nI q))]) (st' := [.int (nI q), .ref (147 + 19)]) d_260_141 (fun _ => rfl) ?_
          refine rr_nx (pc' := 144) (al' := [some (.ref 146), some (.int z), some (.int (nI (FA n))), some (.int (nI r)), some (.int v), some (.int (nI q))]) (st' := [.ref 146, .int (nI q), .ref (147 + 19)]) d_260_143 (fun _ => rfl) ?_
          refine rr_gf (v := .ref (147 + 5)) d_260_144 mo_260 fl_26 rfl ?_
          refine rr_nx (pc' := 149) (al' := [some (.ref 146), some (.int z), some (.int (nI (FA n))), some (.int (nI r)), some (.int v), some (.int (nI q))]) (st' := [.int (nI q), .ref (147 + 5), .int (nI q), .ref (147 + 19)]) d_260_147 (fun _ => rfl) ?_
          refine rr_ia (j := 5) (v := (nI (t q))) d_260_149 (by decide) rfl (by decide) (show q < 36 by first | omega | assumption | exact cu_36 (by omega) (cu_lt (by omega) (by omega))) (h5 q hq).1 ?_
          refine rr_iS (j := 19) (A1 := (rf_u A 19 (upd w_ q (nI (t q))))) d_260_150 (by decide) rfl (by decide) (show q < 36 by first | omega | assumption | exact cu_36 (by omega) (cu_lt (by omega) (by omega))) rf_uw ?_
          refine rn_inc d_260_151 rfl rfl ?_
          show RR _ _ 154 [some (.ref 146), some (.int z), some (.int (nI (FA n))), some (.int (nI r)), some (.int v), some (.int (nI (q + 1)))] [] (upd g 38 (nI 1)) (rf_u A 19 (upd w_ q (nI (t q)))) _
          refine rr_nx (pc' := 123) (al' := [some (.ref 146), some (.int z), some (.int (nI (FA n))), some (.int (nI r)), some (.int v), some (.int (nI (q + 1)))]) (st' := []) d_260_154 (fun _ => rfl) ?_
          exact ihq (upd w_ q (nI (t q))) (up_all (f := fun j => nI (t j)) pq rfl)
      · show RR _ _ 123 [some (.ref 146), some (.int z), some (.int (nI (FA n))), some (.int (nI r)), some (.int v), some (.int (nI (n * n)))] [] (upd g 38 (nI 1)) (rf_u A 19 w_) _
        refine rr_nx (pc' := 125) (al' := [some (.ref 146), some (.int z), some (.int (nI (FA n))), some (.int (nI r)), some (.int v), some (.int (nI (n * n)))]) (st' := [.int (nI (n * n))]) d_260_123 (fun _ => rfl) ?_
        refine rr_nx (pc' := 126) (al' := [some (.ref 146), some (.int z), some (.int (nI (FA n))), some (.int (nI r)), some (.int v), some (.int (nI (n * n)))]) (st' := [.ref 146, .int (nI (n * n))]) d_260_125 (fun _ => rfl) ?_
        refine rr_gf (v := .int (g 6)) d_260_126 mo_260 fl_127 rfl ?_
        refine rr_tp (z := nI n) h6 ?_
        refine rr_nx (pc' := 130) (al' := [some (.ref 146), some (.int z), some (.int (nI (FA n))), some (.int (nI r)), some (.int v), some (.int (nI (n * n)))]) (st' := [.ref 146, .int (nI n), .int (nI (n * n))]) d_260_129 (fun _ => rfl) ?_
        refine rr_gf (v := .int (g 6)) d_260_130 mo_260 fl_127 rfl ?_
        refine rr_tp (z := nI n) h6 ?_
        refine rn_mul d_260_133  ?_
        refine rn_cge (t := 157) d_260_134 (by decide) (by first | omega | assumption | exact cu_36 (by omega) (cu_lt (by omega) (by omega))) (by first | omega | assumption | exact cu_36 (by omega) (cu_lt (by omega) (by omega))) (fun c134 => ?_) (fun c134 => ?_)
        · refine rr_dr (al1 := [some (.ref 146), some (.int z), some (.int (nI (FA n))), some (.int (nI r)), none, none]) (le_s (le_s (le_s (le_s (le_d rfl (le_d rfl (le_n))))))) ?_
          exact hk (upd g 38 (nI 1)) (rf_u A 19 w_) (by rw [pk_un (by decide)]; exact h6) (by rw [pk_us]) (Gsm.rf.u (by decide)) (Ksm.rf.u (by decide)) (rf_u_n (by decide)) t (fun q hq => ⟨by rw [rf_u_s]; exact pq q hq, (h5 q hq).2⟩) (Or.inr ⟨by first | exact Or.inl c104 | exact Or.inr ((hv h1).mp c109), fun _ _ => rfl⟩)
        · omega
    · refine rr_nx (pc' := 157) (al' := [some (.ref 146), some (.int z), some (.int (nI (FA n))), some (.int (nI r)), some (.int v), none]) (st' := []) d_260_112 (fun _ => rfl) ?_
      refine rr_dr (al1 := [some (.ref 146), some (.int z), some (.int (nI (FA n))), some (.int (nI r)), none, none]) (le_s (le_s (le_s (le_s (le_d rfl (le_s (le_n))))))) ?_
      exact hk g A h6 (by rw [h38, h1]) Gsm.rf Ksm.rf rfl b (fun q hq => h19 h1 q hq) (Or.inl ⟨h1, fun e => c109 ((hv h1).mpr e), fun _ _ => rfl⟩)
theorem ia_ne {z : Nat} (h : z < 6) : ¬ nI z = -1 := by
  have : ∀ z, z < 6 → ¬ nI z = -1 := by decide
  exact this z h
theorem s_renamingsN {g : Nat → Int32} {A : Nat → Nat → Int32} {n : Nat} {c : Nat → Nat} (hc : Cur g A n c) {h : Nat} {b : Nat → Nat} {F : (Nat → Nat) → Prop} (hl : Lat n c) (h38 : g 38 = nI h) (hh : h ≤ 1) (h19 : h = 1 → ∀ q, q < n * n → A 19 q = nI (b q) ∧ b q < n) (hM : MinS (n * n) F h b) : RR 20 260 0 [some (.ref 146), some (.int (-1)), none, none, none, none] [] g A (fun r g' A' => r = none ∧ ∃ h' b', g' 6 = nI n ∧ g' 38 = nI h' ∧ h' ≤ 1 ∧ Gsm g g' ∧ Ksm A A' ∧ A' 4 = A 4 ∧ (h' = 1 → ∀ q, q < n * n → A' 19 q = nI (b' q) ∧ b' q < n) ∧ MinS (n * n) (fun t => F t ∨ FR n c none t) h' b') := by
  have hn6 := hc.2.1
  have hnn : n * n ≤ 36 := Nat.mul_le_mul hn6 hn6
  have h720 := FA_720 hn6
  refine rr_nx (pc' := 1) (al' := [some (.ref 146), some (.int (-1)), none, none, none, none]) (st' := [.ref 146]) d_260_0 (fun _ => rfl) ?_
  refine rr_gn d_260_1 mo_260 fl_127 rfl (by first | exact pr.1 | exact hc.1) ?_
  refine rr_ps (as := [.int (nI n)]) (al0 := [some (.int (nI n)), none, none]) (r := []) d_260_4 mo_260 ml_270 mz_233 rfl rfl rfl (Nat.le_of_ble_eq_true rfl) (s_factorial (by omega)) ?_
  show RR _ _ 7 [some (.ref 146), some (.int (-1)), none, none, none, none] [.int (nI (FA n))] g A _
  refine rr_nx (pc' := 8) (al' := [some (.ref 146), some (.int (-1)), some (.int (nI (FA n))), none, none, none]) (st' := []) d_260_7 (fun _ => rfl) ?_
  refine rn_ic (v := 0) d_260_8 (by decide) ?_
  refine rr_nx (pc' := 10) (al' := [some (.ref 146), some (.int (-1)), some (.int (nI (FA n))), some (.int (nI 0)), none, none]) (st' := []) d_260_9 (fun _ => rfl) ?_
  refine rr_upw (al := fun r w_ => [some (.ref 146), some (.int (-1)), some (.int (nI (FA n))), some (.int (nI r)), none, none]) (G := fun r w_ => w_.2.2.1) (B := fun r w_ => w_.2.2.2) (P := fun r w_ => w_.2.2.1 6 = nI n ∧ w_.2.2.1 38 = nI w_.1 ∧ w_.1 ≤ 1 ∧ Gsm g w_.2.2.1 ∧ Ksm A w_.2.2.2 ∧ w_.2.2.2 4 = A 4 ∧ (w_.1 = 1 → ∀ q, q < n * n → w_.2.2.2 19 q = nI (w_.2.1 q) ∧ w_.2.1 q < n) ∧ MinS (n * n) (fun t => F t ∨ FRr n c none r t) w_.1 w_.2.1) (n := FA n) (fun r w_ hr pr ihr => ?_) (fun w_ pr => ?_) 0 (h, b, g, A) (by omega) (⟨hc.1, h38, hh, Gsm.rf, Ksm.rf, rfl, h19, Min_iff hM FRr_0⟩)
  · show RR _ _ 10 [some (.ref 146), some (.int (-1)), some (.int (nI (FA n))), some (.int (nI r)), none, none] [] w_.2.2.1 w_.2.2.2 _
    have hP := pm_per hn6 hr
    have hT : ∀ q, q < n * n → (rnN n c (pmE n r)) q < n := (rn_lat hl hP).1
    refine rr_nx (pc' := 11) (al' := [some (.ref 146), some (.int (-1)), some (.int (nI (FA n))), some (.int (nI r)), none, none]) (st' := [.int (nI r)]) d_260_10 (fun _ => rfl) ?_
    refine rr_nx (pc' := 12) (al' := [some (.ref 146), some (.int (-1)), some (.int (nI (FA n))), some (.int (nI r)), none, none]) (st' := [.int (nI (FA n)), .int (nI r)]) d_260_11 (fun _ => rfl) ?_
    refine rn_cge (t := 163) d_260_12 (by decide) (by first | omega | assumption | exact cu_36 (by omega) (cu_lt (by omega) (by omega))) (by first | omega | assumption | exact cu_36 (by omega) (cu_lt (by omega) (by omega))) (fun c12 => ?_) (fun c12 => ?_)
    · omega
    · refine rr_nx (pc' := 16) (al' := [some (.ref 146), some (.int (-1)), some (.int (nI (FA n))), some (.int (nI r)), none, none]) (st' := [.ref 146]) d_260_15 (fun _ => rfl) ?_
      refine rr_nx (pc' := 17) (al' := [some (.ref 146), some (.int (-1)), some (.int (nI (FA n))), some (.int (nI r)), none, none]) (st' := [.int (nI r), .ref 146]) d_260_16 (fun _ => rfl) ?_
      refine rr_nx (pc' := 18) (al' := [some (.ref 146), some (.int (-1)), some (.int (nI (FA n))), some (.int (nI r)), none, none]) (st' := [.ref 146, .int (nI r), .ref 146]) d_260_17 (fun _ => rfl) ?_
      refine rr_gn d_260_18 mo_260 fl_127 rfl (by first | exact pr.1 | exact hc.1) ?_
      refine rr_cv (as := [.int (nI r), .int (nI n)]) (al0 := [some (.ref 146), some (.int (nI r)), some (.int (nI n)), none, none, none, none, none, none]) (r := []) d_260_21 mo_260 ml_273 mz_234 rfl rfl rfl (rr_wk (Nat.le_of_ble_eq_true rfl) (s_permutes (n := n) (r := r) (by omega) (by first | omega | assumption | exact cu_36 (by omega) (cu_lt (by omega) (by omega))))) (fun v1 g1 A1 h1 => ?_)
      obtain ⟨q0_, q1_, w21, q9_, hw21⟩ := h1
      obtain rfl := q0_
      obtain rfl := q1_.symm
      obtain rfl := q9_
      show RR _ _ 24 [some (.ref 146), some (.int (-1)), some (.int (nI (FA n))), some (.int (nI r)), none, none] [] w_.2.2.1 (rf_u w_.2.2.2 13 w21) _
      refine rr_nx (pc' := 25) (al' := [some (.ref 146), some (.int (-1)), some (.int (nI (FA n))), some (.int (nI r)), none, none]) (st' := [.int (-1)]) d_260_24 (fun _ => rfl) ?_
      refine rr_nx (pc' := 26) (al' := [some (.ref 146), some (.int (-1)), some (.int (nI (FA n))), some (.int (nI r)), none, none]) (st' := [.int (-1), .int (-1)]) d_260_25 (fun _ => rfl) ?_
      refine rr_ceq (t := 41) d_260_26 (by decide) (fun c26 => ?_) (fun c26 => ?_)
      · refine rr_nx (pc' := 42) (al' := [some (.ref 146), some (.int (-1)), some (.int (nI (FA n))), some (.int (nI r)), none, none]) (st' := [.ref 146]) d_260_41 (fun _ => rfl) ?_
        refine rr_cv (as := []) (al0 := [some (.ref 146), none, none]) (r := []) d_260_42 mo_260 ml_276 mz_235 rfl rfl rfl (rr_wk (Nat.le_of_ble_eq_true rfl) (s_renames ⟨pr.1, hn6, fun q hq => ⟨by rw [rf_u_n (by decide), pr.2.2.2.2.2.1]; exact (hc.2.2 q hq).1, (hc.2.2 q hq).2⟩⟩ (fun k hk => by rw [rf_u_s]; exact hw21 k hk) hP)) (fun v1 g1 A1 h1 => ?_)
        obtain ⟨rfl, rfl, w42, rfl, hw42⟩ := h1
        show RR _ _ 45 [some (.ref 146), some (.int (-1)), some (.int (nI (FA n))), some (.int (nI r)), none, none] [] (upd w_.2.2.1 8 (nI n)) (rf_u (rf_u w_.2.2.2 13 w21) 5 w42) _
        refine rn_ic (v := 0) d_260_45 (by decide) ?_
        refine rr_nx (pc' := 48) (al' := [some (.ref 146), some (.int (-1)), some (.int (nI (FA n))), some (.int (nI r)), some (.int (nI 0)), none]) (st' := []) d_260_46 (fun _ => rfl) ?_
        refine rn_ic (v := 0) d_260_48 (by decide) ?_
        refine rr_nx (pc' := 51) (al' := [some (.ref 146), some (.int (-1)), some (.int (nI (FA n))), some (.int (nI r)), some (.int (nI 0)), some (.int (nI 0))]) (st' := []) d_260_49 (fun _ => rfl) ?_
        refine rr_upw (al := fun q v_ => [some (.ref 146), some (.int (-1)), some (.int (nI (FA n))), some (.int (nI r)), some (.int v_), some (.int (nI q))]) (G := fun q v_ => (upd w_.2.2.1 8 (nI n))) (B := fun q v_ => (rf_u (rf_u w_.2.2.2 13 w21) 5 w42)) (P := fun q v_ => CmP (rnN n c (pmE n r)) w_.2.1 q v_) (n := n * n) (fun q v_ hq pq ihq => ?_) (fun v_ pq => ?_) 0 (nI 0) (by omega) (Or.inl ⟨rfl, all_0⟩)
        · show RR _ _ 51 [some (.ref 146), some (.int (-1)), some (.int (nI (FA n))), some (.int (nI r)), some (.int v_), some (.int (nI q))] [] (upd w_.2.2.1 8 (nI n)) (rf_u (rf_u w_.2.2.2 13 w21) 5 w42) _
          refine rr_nx (pc' := 53) (al' := [some (.ref 146), some (.int (-1)), some (.int (nI (FA n))), some (.int (nI r)), some (.int v_), some (.int (nI q))]) (st' := [.int (nI q)]) d_260_51 (fun _ => rfl) ?_
          refine rr_nx (pc' := 54) (al' := [some (.ref 146), some (.int (-1)), some (.int (nI (FA n))), some (.int (nI r)), some (.int v_), some (.int (nI q))]) (st' := [.ref 146, .int (nI q)]) d_260_53 (fun _ => rfl) ?_
          refine rr_gf (v := .int (w_.2.2.1 6)) d_260_54 mo_260 fl_127 rfl ?_
          refine rr_tp (z := nI n) (by first | exact pr.1 | exact hc.1) ?_
          refine rr_nx (pc' := 58) (al' := [some (.ref 146), some (.int (-1)), some (.int (nI (FA n))), some (.int (nI r)), some (.int v_), some (.int (nI q))]) (st' := [.ref 146, .int (nI n), .int (nI q)]) d_260_57 (fun _ => rfl) ?_
          refine rr_gf (v := .int (w_.2.2.1 6)) d_260_58 mo_260 fl_127 rfl ?_
          refine rr_tp (z := nI n) (by first | exact pr.1 | exact hc.1) ?_
          refine rn_mul d_260_61  ?_
          refine rn_cge (t := 100) d_260_62 (by decide) (by first | omega | assumption | exact cu_36 (by omega) (cu_lt (by omega) (by omega))) (by first | omega | assumption | exact cu_36 (by omega) (cu_lt (by omega) (by omega))) (fun c62 => ?_) (fun c62 => ?_)
          · omega
          · refine rr_nx (pc' := 66) (al' := [some (.ref 146), some (.int (-1)), some (.int (nI (FA n))), some (.int (nI r)), some (.int v_), some (.int (nI q))]) (st' := [.ref 146]) d_260_65 (fun _ => rfl) ?_
            refine rr_gf (v := .int (w_.2.2.1 38)) d_260_66 mo_260 fl_312 rfl ?_
            refine rr_tp (z := nI w_.1) pr.2.1 ?_
            refine rn_ieq (t := 100) d_260_69 (by decide) (by first | omega | assumption | exact cu_36 (by omega) (cu_lt (by omega) (by omega))) (fun c69 => ?_) (fun c69 => ?_)
            · refine rr_dr (al1 := [some (.ref 146), some (.int (-1)), some (.int (nI (FA n))), some (.int (nI r)), some (.int v_), none]) (le_s (le_s (le_s (le_s (le_s (le_d rfl (le_n))))))) ?_
              refine s_ren_100 (n := n) (h := w_.1) (t := (rnN n c (pmE n r))) (b := w_.2.1) hn6 (by rw [pk_un (by decide)]; exact pr.1) (by rw [pk_un (by decide)]; exact pr.2.1) pr.2.2.1 (fun q hq => ⟨by rw [rf_u_s]; exact hw42 q hq, hT q hq⟩) (fun h1 q hq => by rw [rf_u_n (by decide), rf_u_n (by decide)]; exact pr.2.2.2.2.2.2.1 h1 q hq) (fun h1 => Cm_lt (by omega) (fun j hj => by have := hT j hj; omega) (fun j hj => by have := (pr.2.2.2.2.2.2.1 h1 j hj).2; omega) pq (by first | exact Or.inr c74 | (exfalso; omega))) (fun g2 A2 k1 k2 k3 k4 k5 b2 k6 k7 => ?_)
              refine rn_inc d_260_157 rfl rfl ?_
              show RR _ _ 160 [some (.ref 146), some (.int (-1)), some (.int (nI (FA n))), some (.int (nI (r + 1))), none, none] [] g2 A2 _
              refine rr_nx (pc' := 10) (al' := [some (.ref 146), some (.int (-1)), some (.int (nI (FA n))), some (.int (nI (r + 1))), none, none]) (st' := []) d_260_160 (fun _ => rfl) ?_
              exact ihr (1, b2, g2, A2) (⟨k1, k2, Nat.le_refl 1, (pr.2.2.2.1.u (by decide)).tr k3, ((pr.2.2.2.2.1.u (by decide)).u (by decide)).tr k4, by dsimp only; rw [k5, rf_u_n (by decide), rf_u_n (by decide)]; exact pr.2.2.2.2.2.1, fun _ q hq => k6 q hq, Min_iff (Min_st pr.2.2.2.2.2.2.2 k7) (FRr_s trivial)⟩)
            · have hw1 : w_.1 = 1 := by have := pr.2.2.1; omega
              refine rr_nx (pc' := 74) (al' := [some (.ref 146), some (.int (-1)), some (.int (nI (FA n))), some (.int (nI r)), some (.int v_), some (.int (nI q))]) (st' := [.int v_]) d_260_72 (fun _ => rfl) ?_
              refine rr_ine (t := 100) d_260_74 (by decide) (fun c74 => ?_) (fun c74 => ?_)
              · refine rr_dr (al1 := [some (.ref 146), some (.int (-1)), some (.int (nI (FA n))), some (.int (nI r)), some (.int v_), none]) (le_s (le_s (le_s (le_s (le_s (le_d rfl (le_n))))))) ?_
                refine s_ren_100 (n := n) (h := w_.1) (t := (rnN n c (pmE n r))) (b := w_.2.1) hn6 (by rw [pk_un (by decide)]; exact pr.1) (by rw [pk_un (by decide)]; exact pr.2.1) pr.2.2.1 (fun q hq => ⟨by rw [rf_u_s]; exact hw42 q hq, hT q hq⟩) (fun h1 q hq => by rw [rf_u_n (by decide), rf_u_n (by decide)]; exact pr.2.2.2.2.2.2.1 h1 q hq) (fun h1 => Cm_lt (by omega) (fun j hj => by have := hT j hj; omega) (fun j hj => by have := (pr.2.2.2.2.2.2.1 h1 j hj).2; omega) pq (by first | exact Or.inr c74 | (exfalso; omega))) (fun g2 A2 k1 k2 k3 k4 k5 b2 k6 k7 => ?_)
                refine rn_inc d_260_157 rfl rfl ?_
                show RR _ _ 160 [some (.ref 146), some (.int (-1)), some (.int (nI (FA n))), some (.int (nI (r + 1))), none, none] [] g2 A2 _
                refine rr_nx (pc' := 10) (al' := [some (.ref 146), some (.int (-1)), some (.int (nI (FA n))), some (.int (nI (r + 1))), none, none]) (st' := []) d_260_160 (fun _ => rfl) ?_
                exact ihr (1, b2, g2, A2) (⟨k1, k2, Nat.le_refl 1, (pr.2.2.2.1.u (by decide)).tr k3, ((pr.2.2.2.2.1.u (by decide)).u (by decide)).tr k4, by dsimp only; rw [k5, rf_u_n (by decide), rf_u_n (by decide)]; exact pr.2.2.2.2.2.1, fun _ q hq => k6 q hq, Min_iff (Min_st pr.2.2.2.2.2.2.2 k7) (FRr_s trivial)⟩)
              · refine rr_nx (pc' := 78) (al' := [some (.ref 146), some (.int (-1)), some (.int (nI (FA n))), some (.int (nI r)), some (.int v_), some (.int (nI q))]) (st' := [.ref 146]) d_260_77 (fun _ => rfl) ?_
                refine rr_gf (v := .ref (147 + 5)) d_260_78 mo_260 fl_26 rfl ?_
                refine rr_nx (pc' := 83) (al' := [some (.ref 146), some (.int (-1)), some (.int (nI (FA n))), some (.int (nI r)), some (.int v_), some (.int (nI q))]) (st' := [.int (nI q), .ref (147 + 5)]) d_260_81 (fun _ => rfl) ?_
                refine rr_ia (j := 5) (v := (nI ((rnN n c (pmE n r)) q))) d_260_83 (by decide) rfl (by decide) (show q < 36 by first | omega | assumption | exact cu_36 (by omega) (cu_lt (by omega) (by omega))) (hw42 q hq) ?_
                refine rr_nx (pc' := 85) (al' := [some (.ref 146), some (.int (-1)), some (.int (nI (FA n))), some (.int (nI r)), some (.int v_), some (.int (nI q))]) (st' := [.ref 146, .int (nI ((rnN n c (pmE n r)) q))]) d_260_84 (fun _ => rfl) ?_
                refine rr_gf (v := .ref (147 + 19)) d_260_85 mo_260 fl_73 rfl ?_
                refine rr_nx (pc' := 90) (al' := [some (.ref 146), some (.int (-1)), some (.int (nI (FA n))), some (.int (nI r)), some (.int v_), some (.int (nI q))]) (st' := [.int (nI q), .ref (147 + 19), .int (nI ((rnN n c (pmE n r)) q))]) d_260_88 (fun _ => rfl) ?_
                refine rr_ia (j := 19) (v := (nI (w_.2.1 q))) d_260_90 (by decide) rfl (by decide) (show q < 36 by first | omega | assumption | exact cu_36 (by omega) (cu_lt (by omega) (by omega))) (show w_.2.2.2 19 q = _ from (pr.2.2.2.2.2.2.1 hw1 q hq).1) ?_
                refine rr_nx (pc' := 92) (al' := [some (.ref 146), some (.int (-1)), some (.int (nI (FA n))), some (.int (nI r)), some (.int v_), some (.int (nI q))]) (st' := [.int ((nI ((rnN n c (pmE n r)) q)) - (nI (w_.2.1 q)))]) d_260_91 (fun _ => rfl) ?_
                refine rr_nx (pc' := 94) (al' := [some (.ref 146), some (.int (-1)), some (.int (nI (FA n))), some (.int (nI r)), some (.int ((nI ((rnN n c (pmE n r)) q)) - (nI (w_.2.1 q)))), some (.int (nI q))]) (st' := []) d_260_92 (fun _ => rfl) ?_
                refine rn_inc d_260_94 rfl rfl ?_
                show RR _ _ 97 [some (.ref 146), some (.int (-1)), some (.int (nI (FA n))), some (.int (nI r)), some (.int ((nI ((rnN n c (pmE n r)) q)) - (nI (w_.2.1 q)))), some (.int (nI (q + 1)))] [] (upd w_.2.2.1 8 (nI n)) (rf_u (rf_u w_.2.2.2 13 w21) 5 w42) _
                refine rr_nx (pc' := 51) (al' := [some (.ref 146), some (.int (-1)), some (.int (nI (FA n))), some (.int (nI r)), some (.int ((nI ((rnN n c (pmE n r)) q)) - (nI (w_.2.1 q)))), some (.int (nI (q + 1)))]) (st' := []) d_260_97 (fun _ => rfl) ?_
                exact ihq ((nI ((rnN n c (pmE n r)) q)) - (nI (w_.2.1 q))) (by
                    have hb1 := (pr.2.2.2.2.2.2.1 hw1 q hq).2
                    have hd := df_s _ (show (rnN n c (pmE n r)) q < 6 by have := hT q hq; omega) _ (show w_.2.1 q < 6 by omega)
                    rcases pq with ⟨q1, q2⟩ | ⟨k, q1, q2, q3, q4⟩
                    · by_cases e : (rnN n c (pmE n r)) q = w_.2.1 q
                      · exact Or.inl ⟨hd.2.mpr e, all_s q2 e⟩
                      · exact Or.inr ⟨q, by omega, q2, e, rfl⟩
                    · exfalso
                      rw [q4] at c74
                      have hb2 := (pr.2.2.2.2.2.2.1 hw1 k (by omega)).2
                      exact q3 ((df_s _ (show (rnN n c (pmE n r)) k < 6 by have := hT k (by omega); omega) _ (show w_.2.1 k < 6 by omega)).2.mp c74))
        · show RR _ _ 51 [some (.ref 146), some (.int (-1)), some (.int (nI (FA n))), some (.int (nI r)), some (.int v_), some (.int (nI (n * n)))] [] (upd w_.2.2.1 8 (nI n)) (rf_u (rf_u w_.2.2.2 13 w21) 5 w42) _
          refine rr_nx (pc' := 53) (al' := [some (.ref 146), some (.int (-1)), some (.int (nI (FA n))), some (.int (nI r)), some (.int v_), some (.int (nI (n * n)))]) (st' := [.int (nI (n * n))]) d_260_51 (fun _ => rfl) ?_
          refine rr_nx (pc' := 54) (al' := [some (.ref 146), some (.int (-1)), some (.int (nI (FA n))), some (.int (nI r)), some (.int v_), some (.int (nI (n * n)))]) (st' := [.ref 146, .int (nI (n * n))]) d_260_53 (fun _ => rfl) ?_
          refine rr_gf (v := .int (w_.2.2.1 6)) d_260_54 mo_260 fl_127 rfl ?_
          refine rr_tp (z := nI n) (by first | exact pr.1 | exact hc.1) ?_
          refine rr_nx (pc' := 58) (al' := [some (.ref 146), some (.int (-1)), some (.int (nI (FA n))), some (.int (nI r)), some (.int v_), some (.int (nI (n * n)))]) (st' := [.ref 146, .int (nI n), .int (nI (n * n))]) d_260_57 (fun _ => rfl) ?_
          refine rr_gf (v := .int (w_.2.2.1 6)) d_260_58 mo_260 fl_127 rfl ?_
          refine rr_tp (z := nI n) (by first | exact pr.1 | exact hc.1) ?_
          refine rn_mul d_260_61  ?_
          refine rn_cge (t := 100) d_260_62 (by decide) (by first | omega | assumption | exact cu_36 (by omega) (cu_lt (by omega) (by omega))) (by first | omega | assumption | exact cu_36 (by omega) (cu_lt (by omega) (by omega))) (fun c62 => ?_) (fun c62 => ?_)
          · refine rr_dr (al1 := [some (.ref 146), some (.int (-1)), some (.int (nI (FA n))), some (.int (nI r)), some (.int v_), none]) (le_s (le_s (le_s (le_s (le_s (le_d rfl (le_n))))))) ?_
            refine s_ren_100 (n := n) (h := w_.1) (t := (rnN n c (pmE n r))) (b := w_.2.1) hn6 (by rw [pk_un (by decide)]; exact pr.1) (by rw [pk_un (by decide)]; exact pr.2.1) pr.2.2.1 (fun q hq => ⟨by rw [rf_u_s]; exact hw42 q hq, hT q hq⟩) (fun h1 q hq => by rw [rf_u_n (by decide), rf_u_n (by decide)]; exact pr.2.2.2.2.2.2.1 h1 q hq) (fun h1 => Cm_lt (Nat.le_refl _) (fun j hj => by have := hT j hj; omega) (fun j hj => by have := (pr.2.2.2.2.2.2.1 h1 j hj).2; omega) pq (Or.inl rfl)) (fun g2 A2 k1 k2 k3 k4 k5 b2 k6 k7 => ?_)
            refine rn_inc d_260_157 rfl rfl ?_
            show RR _ _ 160 [some (.ref 146), some (.int (-1)), some (.int (nI (FA n))), some (.int (nI (r + 1))), none, none] [] g2 A2 _
            refine rr_nx (pc' := 10) (al' := [some (.ref 146), some (.int (-1)), some (.int (nI (FA n))), some (.int (nI (r + 1))), none, none]) (st' := []) d_260_160 (fun _ => rfl) ?_
            exact ihr (1, b2, g2, A2) (⟨k1, k2, Nat.le_refl 1, (pr.2.2.2.1.u (by decide)).tr k3, ((pr.2.2.2.2.1.u (by decide)).u (by decide)).tr k4, by dsimp only; rw [k5, rf_u_n (by decide), rf_u_n (by decide)]; exact pr.2.2.2.2.2.1, fun _ q hq => k6 q hq, Min_iff (Min_st pr.2.2.2.2.2.2.2 k7) (FRr_s trivial)⟩)
          · omega
      · exact absurd rfl c26
  · show RR _ _ 10 [some (.ref 146), some (.int (-1)), some (.int (nI (FA n))), some (.int (nI (FA n))), none, none] [] w_.2.2.1 w_.2.2.2 _
    refine rr_nx (pc' := 11) (al' := [some (.ref 146), some (.int (-1)), some (.int (nI (FA n))), some (.int (nI (FA n))), none, none]) (st' := [.int (nI (FA n))]) d_260_10 (fun _ => rfl) ?_
    refine rr_nx (pc' := 12) (al' := [some (.ref 146), some (.int (-1)), some (.int (nI (FA n))), some (.int (nI (FA n))), none, none]) (st' := [.int (nI (FA n)), .int (nI (FA n))]) d_260_11 (fun _ => rfl) ?_
    refine rn_cge (t := 163) d_260_12 (by decide) (by first | omega | assumption | exact cu_36 (by omega) (cu_lt (by omega) (by omega))) (by first | omega | assumption | exact cu_36 (by omega) (cu_lt (by omega) (by omega))) (fun c12 => ?_) (fun c12 => ?_)
    · exact rr_rv d_260_163 mr_260 ⟨rfl, w_.1, w_.2.1, pr.1, pr.2.1, pr.2.2.1, pr.2.2.2.1, pr.2.2.2.2.1, pr.2.2.2.2.2.1, pr.2.2.2.2.2.2.1, Min_iff pr.2.2.2.2.2.2.2 (fun t => by rw [FR_all hn6 hl (fun k hk => by cases hk)])⟩
    · omega
theorem s_renamingsZ {g : Nat → Int32} {A : Nat → Nat → Int32} {n : Nat} {c : Nat → Nat} (hc : Cur g A n c) {h z : Nat} {b : Nat → Nat} {F : (Nat → Nat) → Prop} (hl : Lat n c) (hz : z < n) (h38 : g 38 = nI h) (hh : h ≤ 1) (h19 : h = 1 → ∀ q, q < n * n → A 19 q = nI (b q) ∧ b q < n) (hM : MinS (n * n) F h b) : RR 20 260 0 [some (.ref 146), some (.int (nI z)), none, none, none, none] [] g A (fun r g' A' => r = none ∧ ∃ h' b', g' 6 = nI n ∧ g' 38 = nI h' ∧ h' ≤ 1 ∧ Gsm g g' ∧ Ksm A A' ∧ A' 4 = A 4 ∧ (h' = 1 → ∀ q, q < n * n → A' 19 q = nI (b' q) ∧ b' q < n) ∧ MinS (n * n) (fun t => F t ∨ FR n c (some z) t) h' b') := by
  have hn6 := hc.2.1
  have hnn : n * n ≤ 36 := Nat.mul_le_mul hn6 hn6
  have h720 := FA_720 hn6
  have hz6 : z < 6 := by omega
  refine rr_nx (pc' := 1) (al' := [some (.ref 146), some (.int (nI z)), none, none, none, none]) (st' := [.ref 146]) d_260_0 (fun _ => rfl) ?_
  refine rr_gn d_260_1 mo_260 fl_127 rfl (by first | exact pr.1 | exact hc.1) ?_
  refine rr_ps (as := [.int (nI n)]) (al0 := [some (.int (nI n)), none, none]) (r := []) d_260_4 mo_260 ml_270 mz_233 rfl rfl rfl (Nat.le_of_ble_eq_true rfl) (s_factorial (by omega)) ?_
  show RR _ _ 7 [some (.ref 146), some (.int (nI z)), none, none, none, none] [.int (nI (FA n))] g A _
  refine rr_nx (pc' := 8) (al' := [some (.ref 146), some (.int (nI z)), some (.int (nI (FA n))), none, none, none]) (st' := []) d_260_7 (fun _ => rfl) ?_
  refine rn_ic (v := 0) d_260_8 (by decide) ?_
  refine rr_nx (pc' := 10) (al' := [some (.ref 146), some (.int (nI z)), some (.int (nI (FA n))), some (.int (nI 0)), none, none]) (st' := []) d_260_9 (fun _ => rfl) ?_
  refine rr_upw (al := fun r w_ => [some (.ref 146), some (.int (nI z)), some (.int (nI (FA n))), some (.int (nI r)), none, none]) (G := fun r w_ => w_.2.2.1) (B := fun r w_ => w_.2.2.2) (P := fun r w_ => w_.2.2.1 6 = nI n ∧ w_.2.2.1 38 = nI w_.1 ∧ w_.1 ≤ 1 ∧ Gsm g w_.2.2.1 ∧ Ksm A w_.2.2.2 ∧ w_.2.2.2 4 = A 4 ∧ (w_.1 = 1 → ∀ q, q < n * n → w_.2.2.2 19 q = nI (w_.2.1 q) ∧ w_.2.1 q < n) ∧ MinS (n * n) (fun t => F t ∨ FRr n c (some z) r t) w_.1 w_.2.1) (n := FA n) (fun r w_ hr pr ihr => ?_) (fun w_ pr => ?_) 0 (h, b, g, A) (by omega) (⟨hc.1, h38, hh, Gsm.rf, Ksm.rf, rfl, h19, Min_iff hM FRr_0⟩)
  · show RR _ _ 10 [some (.ref 146), some (.int (nI z)), some (.int (nI (FA n))), some (.int (nI r)), none, none] [] w_.2.2.1 w_.2.2.2 _
    have hP := pm_per hn6 hr
    have hT : ∀ q, q < n * n → (rnN n c (pmE n r)) q < n := (rn_lat hl hP).1
    refine rr_nx (pc' := 11) (al' := [some (.ref 146), some (.int (nI z)), some (.int (nI (FA n))), some (.int (nI r)), none, none]) (st' := [.int (nI r)]) d_260_10 (fun _ => rfl) ?_
    refine rr_nx (pc' := 12) (al' := [some (.ref 146), some (.int (nI z)), some (.int (nI (FA n))), some (.int (nI r)), none, none]) (st' := [.int (nI (FA n)), .int (nI r)]) d_260_11 (fun _ => rfl) ?_
    refine rn_cge (t := 163) d_260_12 (by decide) (by first | omega | assumption | exact cu_36 (by omega) (cu_lt (by omega) (by omega))) (by first | omega | assumption | exact cu_36 (by omega) (cu_lt (by omega) (by omega))) (fun c12 => ?_) (fun c12 => ?_)
    · omega
    · refine rr_nx (pc' := 16) (al' := [some (.ref 146), some (.int (nI z)), some (.int (nI (FA n))), some (.int (nI r)), none, none]) (st' := [.ref 146]) d_260_15 (fun _ => rfl) ?_
      refine rr_nx (pc' := 17) (al' := [some (.ref 146), some (.int (nI z)), some (.int (nI (FA n))), some (.int (nI r)), none, none]) (st' := [.int (nI r), .ref 146]) d_260_16 (fun _ => rfl) ?_
      refine rr_nx (pc' := 18) (al' := [some (.ref 146), some (.int (nI z)), some (.int (nI (FA n))), some (.int (nI r)), none, none]) (st' := [.ref 146, .int (nI r), .ref 146]) d_260_17 (fun _ => rfl) ?_
      refine rr_gn d_260_18 mo_260 fl_127 rfl (by first | exact pr.1 | exact hc.1) ?_
      refine rr_cv (as := [.int (nI r), .int (nI n)]) (al0 := [some (.ref 146), some (.int (nI r)), some (.int (nI n)), none, none, none, none, none, none]) (r := []) d_260_21 mo_260 ml_273 mz_234 rfl rfl rfl (rr_wk (Nat.le_of_ble_eq_true rfl) (s_permutes (n := n) (r := r) (by omega) (by first | omega | assumption | exact cu_36 (by omega) (cu_lt (by omega) (by omega))))) (fun v1 g1 A1 h1 => ?_)
      obtain ⟨q0_, q1_, w21, q9_, hw21⟩ := h1
      obtain rfl := q0_
      obtain rfl := q1_.symm
      obtain rfl := q9_
      show RR _ _ 24 [some (.ref 146), some (.int (nI z)), some (.int (nI (FA n))), some (.int (nI r)), none, none] [] w_.2.2.1 (rf_u w_.2.2.2 13 w21) _
      refine rr_nx (pc' := 25) (al' := [some (.ref 146), some (.int (nI z)), some (.int (nI (FA n))), some (.int (nI r)), none, none]) (st' := [.int (nI z)]) d_260_24 (fun _ => rfl) ?_
      refine rr_nx (pc' := 26) (al' := [some (.ref 146), some (.int (nI z)), some (.int (nI (FA n))), some (.int (nI r)), none, none]) (st' := [.int (-1), .int (nI z)]) d_260_25 (fun _ => rfl) ?_
      refine rr_ceq (t := 41) d_260_26 (by decide) (fun c26 => ?_) (fun c26 => ?_)
      · exact absurd c26 (ia_ne hz6)
      · refine rr_nx (pc' := 30) (al' := [some (.ref 146), some (.int (nI z)), some (.int (nI (FA n))), some (.int (nI r)), none, none]) (st' := [.ref 146]) d_260_29 (fun _ => rfl) ?_
        refine rr_gf (v := .ref (147 + 13)) d_260_30 mo_260 fl_55 rfl ?_
        refine rr_nx (pc' := 34) (al' := [some (.ref 146), some (.int (nI z)), some (.int (nI (FA n))), some (.int (nI r)), none, none]) (st' := [.int (nI z), .ref (147 + 13)]) d_260_33 (fun _ => rfl) ?_
        refine rr_ia (j := 13) (v := (nI (pmE n r z))) d_260_34 (by decide) rfl (by decide) (show z < 6 by first | omega | assumption | exact cu_36 (by omega) (cu_lt (by omega) (by omega))) (hw21 z hz) ?_
        refine rn_ieq (t := 41) d_260_35 (by decide) (by have := hP.1 z hz; omega) (fun c35 => ?_) (fun c35 => ?_)
        · refine rr_nx (pc' := 42) (al' := [some (.ref 146), some (.int (nI z)), some (.int (nI (FA n))), some (.int (nI r)), none, none]) (st' := [.ref 146]) d_260_41 (fun _ => rfl) ?_
          refine rr_cv (as := []) (al0 := [some (.ref 146), none, none]) (r := []) d_260_42 mo_260 ml_276 mz_235 rfl rfl rfl (rr_wk (Nat.le_of_ble_eq_true rfl) (s_renames ⟨pr.1, hn6, fun q hq => ⟨by rw [rf_u_n (by decide), pr.2.2.2.2.2.1]; exact (hc.2.2 q hq).1, (hc.2.2 q hq).2⟩⟩ (fun k hk => by rw [rf_u_s]; exact hw21 k hk) hP)) (fun v1 g1 A1 h1 => ?_)
          obtain ⟨rfl, rfl, w42, rfl, hw42⟩ := h1
          show RR _ _ 45 [some (.ref 146), some (.int (nI z)), some (.int (nI (FA n))), some (.int (nI r)), none, none] [] (upd w_.2.2.1 8 (nI n)) (rf_u (rf_u w_.2.2.2 13 w21) 5 w42) _
          refine rn_ic (v := 0) d_260_45 (by decide) ?_
          refine rr_nx (pc' := 48) (al' := [some (.ref 146), some (.int (nI z)), some (.int (nI (FA n))), some (.int (nI r)), some (.int (nI 0)), none]) (st' := []) d_260_46 (fun _ => rfl) ?_
          refine rn_ic (v := 0) d_260_48 (by decide) ?_
          refine rr_nx (pc' := 51) (al' := [some (.ref 146), some (.int (nI z)), some (.int (nI (FA n))), some (.int (nI r)), some (.int (nI 0)), some (.int (nI 0))]) (st' := []) d_260_49 (fun _ => rfl) ?_
          refine rr_upw (al := fun q v_ => [some (.ref 146), some (.int (nI z)), some (.int (nI (FA n))), some (.int (nI r)), some (.int v_), some (.int (nI q))]) (G := fun q v_ => (upd w_.2.2.1 8 (nI n))) (B := fun q v_ => (rf_u (rf_u w_.2.2.2 13 w21) 5 w42)) (P := fun q v_ => CmP (rnN n c (pmE n r)) w_.2.1 q v_) (n := n * n) (fun q v_ hq pq ihq => ?_) (fun v_ pq => ?_) 0 (nI 0) (by omega) (Or.inl ⟨rfl, all_0⟩)
          · show RR _ _ 51 [some (.ref 146), some (.int (nI z)), some (.int (nI (FA n))), some (.int (nI r)), some (.int v_), some (.int (nI q))] [] (upd w_.2.2.1 8 (nI n)) (rf_u (rf_u w_.2.2.2 13 w21) 5 w42) _
            refine rr_nx (pc' := 53) (al' := [some (.ref 146), some (.int (nI z)), some (.int (nI (FA n))), some (.int (nI r)), some (.int v_), some (.int (nI q))]) (st' := [.int (nI q)]) d_260_51 (fun _ => rfl) ?_
            refine rr_nx (pc' := 54) (al' := [some (.ref 146), some (.int (nI z)), some (.int (nI (FA n))), some (.int (nI r)), some (.int v_), some (.int (nI q))]) (st' := [.ref 146, .int (nI q)]) d_260_53 (fun _ => rfl) ?_
            refine rr_gf (v := .int (w_.2.2.1 6)) d_260_54 mo_260 fl_127 rfl ?_
            refine rr_tp (z := nI n) (by first | exact pr.1 | exact hc.1) ?_
            refine rr_nx (pc' := 58) (al' := [some (.ref 146), some (.int (nI z)), some (.int (nI (FA n))), some (.int (nI r)), some (.int v_), some (.int (nI q))]) (st' := [.ref 146, .int (nI n), .int (nI q)]) d_260_57 (fun _ => rfl) ?_
            refine rr_gf (v := .int (w_.2.2.1 6)) d_260_58 mo_260 fl_127 rfl ?_
            refine rr_tp (z := nI n) (by first | exact pr.1 | exact hc.1) ?_
            refine rn_mul d_260_61  ?_
            refine rn_cge (t := 100) d_260_62 (by decide) (by first | omega | assumption | exact cu_36 (by omega) (cu_lt (by omega) (by omega))) (by first | omega | assumption | exact cu_36 (by omega) (cu_lt (by omega) (by omega))) (fun c62 => ?_) (fun c62 => ?_)
            · omega
            · refine rr_nx (pc' := 66) (al' := [some (.ref 146), some (.int (nI z)), some (.int (nI (FA n))), some (.int (nI r)), some (.int v_), some (.int (nI q))]) (st' := [.ref 146]) d_260_65 (fun _ => rfl) ?_
              refine rr_gf (v := .int (w_.2.2.1 38)) d_260_66 mo_260 fl_312 rfl ?_
              refine rr_tp (z := nI w_.1) pr.2.1 ?_
              refine rn_ieq (t := 100) d_260_69 (by decide) (by first | omega | assumption | exact cu_36 (by omega) (cu_lt (by omega) (by omega))) (fun c69 => ?_) (fun c69 => ?_)
              · refine rr_dr (al1 := [some (.ref 146), some (.int (nI z)), some (.int (nI (FA n))), some (.int (nI r)), some (.int v_), none]) (le_s (le_s (le_s (le_s (le_s (le_d rfl (le_n))))))) ?_
                refine s_ren_100 (n := n) (h := w_.1) (t := (rnN n c (pmE n r))) (b := w_.2.1) hn6 (by rw [pk_un (by decide)]; exact pr.1) (by rw [pk_un (by decide)]; exact pr.2.1) pr.2.2.1 (fun q hq => ⟨by rw [rf_u_s]; exact hw42 q hq, hT q hq⟩) (fun h1 q hq => by rw [rf_u_n (by decide), rf_u_n (by decide)]; exact pr.2.2.2.2.2.2.1 h1 q hq) (fun h1 => Cm_lt (by omega) (fun j hj => by have := hT j hj; omega) (fun j hj => by have := (pr.2.2.2.2.2.2.1 h1 j hj).2; omega) pq (by first | exact Or.inr c74 | (exfalso; omega))) (fun g2 A2 k1 k2 k3 k4 k5 b2 k6 k7 => ?_)
                refine rn_inc d_260_157 rfl rfl ?_
                show RR _ _ 160 [some (.ref 146), some (.int (nI z)), some (.int (nI (FA n))), some (.int (nI (r + 1))), none, none] [] g2 A2 _
                refine rr_nx (pc' := 10) (al' := [some (.ref 146), some (.int (nI z)), some (.int (nI (FA n))), some (.int (nI (r + 1))), none, none]) (st' := []) d_260_160 (fun _ => rfl) ?_
                exact ihr (1, b2, g2, A2) (⟨k1, k2, Nat.le_refl 1, (pr.2.2.2.1.u (by decide)).tr k3, ((pr.2.2.2.2.1.u (by decide)).u (by decide)).tr k4, by dsimp only; rw [k5, rf_u_n (by decide), rf_u_n (by decide)]; exact pr.2.2.2.2.2.1, fun _ q hq => k6 q hq, Min_iff (Min_st pr.2.2.2.2.2.2.2 k7) (FRr_s c35)⟩)
              · have hw1 : w_.1 = 1 := by have := pr.2.2.1; omega
                refine rr_nx (pc' := 74) (al' := [some (.ref 146), some (.int (nI z)), some (.int (nI (FA n))), some (.int (nI r)), some (.int v_), some (.int (nI q))]) (st' := [.int v_]) d_260_72 (fun _ => rfl) ?_
                refine rr_ine (t := 100) d_260_74 (by decide) (fun c74 => ?_) (fun c74 => ?_)
                · refine rr_dr (al1 := [some (.ref 146), some (.int (nI z)), some (.int (nI (FA n))), some (.int (nI r)), some (.int v_), none]) (le_s (le_s (le_s (le_s (le_s (le_d rfl (le_n))))))) ?_
                  refine s_ren_100 (n := n) (h := w_.1) (t := (rnN n c (pmE n r))) (b := w_.2.1) hn6 (by rw [pk_un (by decide)]; exact pr.1) (by rw [pk_un (by decide)]; exact pr.2.1) pr.2.2.1 (fun q hq => ⟨by rw [rf_u_s]; exact hw42 q hq, hT q hq⟩) (fun h1 q hq => by rw [rf_u_n (by decide), rf_u_n (by decide)]; exact pr.2.2.2.2.2.2.1 h1 q hq) (fun h1 => Cm_lt (by omega) (fun j hj => by have := hT j hj; omega) (fun j hj => by have := (pr.2.2.2.2.2.2.1 h1 j hj).2; omega) pq (by first | exact Or.inr c74 | (exfalso; omega))) (fun g2 A2 k1 k2 k3 k4 k5 b2 k6 k7 => ?_)
                  refine rn_inc d_260_157 rfl rfl ?_
                  show RR _ _ 160 [some (.ref 146), some (.int (nI z)), some (.int (nI (FA n))), some (.int (nI (r + 1))), none, none] [] g2 A2 _
                  refine rr_nx (pc' := 10) (al' := [some (.ref 146), some (.int (nI z)), some (.int (nI (FA n))), some (.int (nI (r + 1))), none, none]) (st' := []) d_260_160 (fun _ => rfl) ?_
                  exact ihr (1, b2, g2, A2) (⟨k1, k2, Nat.le_refl 1, (pr.2.2.2.1.u (by decide)).tr k3, ((pr.2.2.2.2.1.u (by decide)).u (by decide)).tr k4, by dsimp only; rw [k5, rf_u_n (by decide), rf_u_n (by decide)]; exact pr.2.2.2.2.2.1, fun _ q hq => k6 q hq, Min_iff (Min_st pr.2.2.2.2.2.2.2 k7) (FRr_s c35)⟩)
                · refine rr_nx (pc' := 78) (al' := [some (.ref 146), some (.int (nI z)), some (.int (nI (FA n))), some (.int (nI r)), some (.int v_), some (.int (nI q))]) (st' := [.ref 146]) d_260_77 (fun _ => rfl) ?_
                  refine rr_gf (v := .ref (147 + 5)) d_260_78 mo_260 fl_26 rfl ?_
                  refine rr_nx (pc' := 83) (al' := [some (.ref 146), some (.int (nI z)), some (.int (nI (FA n))), some (.int (nI r)), some (.int v_), some (.int (nI q))]) (st' := [.int (nI q), .ref (147 + 5)]) d_260_81 (fun _ => rfl) ?_
                  refine rr_ia (j := 5) (v := (nI ((rnN n c (pmE n r)) q))) d_260_83 (by decide) rfl (by decide) (show q < 36 by first | omega | assumption | exact cu_36 (by omega) (cu_lt (by omega) (by omega))) (hw42 q hq) ?_
                  refine rr_nx (pc' := 85) (al' := [some (.ref 146), some (.int (nI z)), some (.int (nI (FA n))), some (.int (nI r)), some (.int v_), some (.int (nI q))]) (st' := [.ref 146, .int (nI ((rnN n c (pmE n r)) q))]) d_260_84 (fun _ => rfl) ?_
                  refine rr_gf (v := .ref (147 + 19)) d_260_85 mo_260 fl_73 rfl ?_
                  refine rr_nx (pc' := 90) (al' := [some (.ref 146), some (.int (nI z)), some (.int (nI (FA n))), some (.int (nI r)), some (.int v_), some (.int (nI q))]) (st' := [.int (nI q), .ref (147 + 19), .int (nI ((rnN n c (pmE n r)) q))]) d_260_88 (fun _ => rfl) ?_
                  refine rr_ia (j := 19) (v := (nI (w_.2.1 q))) d_260_90 (by decide) rfl (by decide) (show q < 36 by first | omega | assumption | exact cu_36 (by omega) (cu_lt (by omega) (by omega))) (show w_.2.2.2 19 q = _ from (pr.2.2.2.2.2.2.1 hw1 q hq).1) ?_
                  refine rr_nx (pc' := 92) (al' := [some (.ref 146), some (.int (nI z)), some (.int (nI (FA n))), some (.int (nI r)), some (.int v_), some (.int (nI q))]) (st' := [.int ((nI ((rnN n c (pmE n r)) q)) - (nI (w_.2.1 q)))]) d_260_91 (fun _ => rfl) ?_
                  refine rr_nx (pc' := 94) (al' := [some (.ref 146), some (.int (nI z)), some (.int (nI (FA n))), some (.int (nI r)), some (.int ((nI ((rnN n c (pmE n r)) q)) - (nI (w_.2.1 q)))), some (.int (nI q))]) (st' := []) d_260_92 (fun _ => rfl) ?_
                  refine rn_inc d_260_94 rfl rfl ?_
                  show RR _ _ 97 [some (.ref 146), some (.int (nI z)), some (.int (nI (FA n))), some (.int (nI r)), some (.int ((nI ((rnN n c (pmE n r)) q)) - (nI (w_.2.1 q)))), some (.int (nI (q + 1)))] [] (upd w_.2.2.1 8 (nI n)) (rf_u (rf_u w_.2.2.2 13 w21) 5 w42) _
                  refine rr_nx (pc' := 51) (al' := [some (.ref 146), some (.int (nI z)), some (.int (nI (FA n))), some (.int (nI r)), some (.int ((nI ((rnN n c (pmE n r)) q)) - (nI (w_.2.1 q)))), some (.int (nI (q + 1)))]) (st' := []) d_260_97 (fun _ => rfl) ?_
                  exact ihq ((nI ((rnN n c (pmE n r)) q)) - (nI (w_.2.1 q))) (by
                      have hb1 := (pr.2.2.2.2.2.2.1 hw1 q hq).2
                      have hd := df_s _ (show (rnN n c (pmE n r)) q < 6 by have := hT q hq; omega) _ (show w_.2.1 q < 6 by omega)
                      rcases pq with ⟨q1, q2⟩ | ⟨k, q1, q2, q3, q4⟩
                      · by_cases e : (rnN n c (pmE n r)) q = w_.2.1 q
                        · exact Or.inl ⟨hd.2.mpr e, all_s q2 e⟩
                        · exact Or.inr ⟨q, by omega, q2, e, rfl⟩
                      · exfalso
                        rw [q4] at c74
                        have hb2 := (pr.2.2.2.2.2.2.1 hw1 k (by omega)).2
                        exact q3 ((df_s _ (show (rnN n c (pmE n r)) k < 6 by have := hT k (by omega); omega) _ (show w_.2.1 k < 6 by omega)).2.mp c74))
          · show RR _ _ 51 [some (.ref 146), some (.int (nI z)), some (.int (nI (FA n))), some (.int (nI r)), some (.int v_), some (.int (nI (n * n)))] [] (upd w_.2.2.1 8 (nI n)) (rf_u (rf_u w_.2.2.2 13 w21) 5 w42) _
            refine rr_nx (pc' := 53) (al' := [some (.ref 146), some (.int (nI z)), some (.int (nI (FA n))), some (.int (nI r)), some (.int v_), some (.int (nI (n * n)))]) (st' := [.int (nI (n * n))]) d_260_51 (fun _ => rfl) ?_
            refine rr_nx (pc' := 54) (al' := [some (.ref 146), some (.int (nI z)), some (.int (nI (FA n))), some (.int (nI r)), some (.int v_), some (.int (nI (n * n)))]) (st' := [.ref 146, .int (nI (n * n))]) d_260_53 (fun _ => rfl) ?_
            refine rr_gf (v := .int (w_.2.2.1 6)) d_260_54 mo_260 fl_127 rfl ?_
            refine rr_tp (z := nI n) (by first | exact pr.1 | exact hc.1) ?_
            refine rr_nx (pc' := 58) (al' := [some (.ref 146), some (.int (nI z)), some (.int (nI (FA n))), some (.int (nI r)), some (.int v_), some (.int (nI (n * n)))]) (st' := [.ref 146, .int (nI n), .int (nI (n * n))]) d_260_57 (fun _ => rfl) ?_
            refine rr_gf (v := .int (w_.2.2.1 6)) d_260_58 mo_260 fl_127 rfl ?_
            refine rr_tp (z := nI n) (by first | exact pr.1 | exact hc.1) ?_
            refine rn_mul d_260_61  ?_
            refine rn_cge (t := 100) d_260_62 (by decide) (by first | omega | assumption | exact cu_36 (by omega) (cu_lt (by omega) (by omega))) (by first | omega | assumption | exact cu_36 (by omega) (cu_lt (by omega) (by omega))) (fun c62 => ?_) (fun c62 => ?_)
            · refine rr_dr (al1 := [some (.ref 146), some (.int (nI z)), some (.int (nI (FA n))), some (.int (nI r)), some (.int v_), none]) (le_s (le_s (le_s (le_s (le_s (le_d rfl (le_n))))))) ?_
              refine s_ren_100 (n := n) (h := w_.1) (t := (rnN n c (pmE n r))) (b := w_.2.1) hn6 (by rw [pk_un (by decide)]; exact pr.1) (by rw [pk_un (by decide)]; exact pr.2.1) pr.2.2.1 (fun q hq => ⟨by rw [rf_u_s]; exact hw42 q hq, hT q hq⟩) (fun h1 q hq => by rw [rf_u_n (by decide), rf_u_n (by decide)]; exact pr.2.2.2.2.2.2.1 h1 q hq) (fun h1 => Cm_lt (Nat.le_refl _) (fun j hj => by have := hT j hj; omega) (fun j hj => by have := (pr.2.2.2.2.2.2.1 h1 j hj).2; omega) pq (Or.inl rfl)) (fun g2 A2 k1 k2 k3 k4 k5 b2 k6 k7 => ?_)
              refine rn_inc d_260_157 rfl rfl ?_
              show RR _ _ 160 [some (.ref 146), some (.int (nI z)), some (.int (nI (FA n))), some (.int (nI (r + 1))), none, none] [] g2 A2 _
              refine rr_nx (pc' := 10) (al' := [some (.ref 146), some (.int (nI z)), some (.int (nI (FA n))), some (.int (nI (r + 1))), none, none]) (st' := []) d_260_160 (fun _ => rfl) ?_
              exact ihr (1, b2, g2, A2) (⟨k1, k2, Nat.le_refl 1, (pr.2.2.2.1.u (by decide)).tr k3, ((pr.2.2.2.2.1.u (by decide)).u (by decide)).tr k4, by dsimp only; rw [k5, rf_u_n (by decide), rf_u_n (by decide)]; exact pr.2.2.2.2.2.1, fun _ q hq => k6 q hq, Min_iff (Min_st pr.2.2.2.2.2.2.2 k7) (FRr_s c35)⟩)
            · omega
        · refine rr_nx (pc' := 157) (al' := [some (.ref 146), some (.int (nI z)), some (.int (nI (FA n))), some (.int (nI r)), none, none]) (st' := []) d_260_38 (fun _ => rfl) ?_
          refine rn_inc d_260_157 rfl rfl ?_
          show RR _ _ 160 [some (.ref 146), some (.int (nI z)), some (.int (nI (FA n))), some (.int (nI (r + 1))), none, none] [] w_.2.2.1 (rf_u w_.2.2.2 13 w21) _
          refine rr_nx (pc' := 10) (al' := [some (.ref 146), some (.int (nI z)), some (.int (nI (FA n))), some (.int (nI (r + 1))), none, none]) (st' := []) d_260_160 (fun _ => rfl) ?_
          exact ihr (w_.1, w_.2.1, w_.2.2.1, (rf_u w_.2.2.2 13 w21)) (⟨pr.1, pr.2.1, pr.2.2.1, pr.2.2.2.1, pr.2.2.2.2.1.u (by decide), pr.2.2.2.2.2.1, fun h1 q hq => pr.2.2.2.2.2.2.1 h1 q hq, Min_iff pr.2.2.2.2.2.2.2 (FRr_n (fun e => absurd (show pmE n r z = 0 from e) (by omega)))⟩)
  · show RR _ _ 10 [some (.ref 146), some (.int (nI z)), some (.int (nI (FA n))), some (.int (nI (FA n))), none, none] [] w_.2.2.1 w_.2.2.2 _
    refine rr_nx (pc' := 11) (al' := [some (.ref 146), some (.int (nI z)), some (.int (nI (FA n))), some (.int (nI (FA n))), none, none]) (st' := [.int (nI (FA n))]) d_260_10 (fun _ => rfl) ?_
    refine rr_nx (pc' := 12) (al' := [some (.ref 146), some (.int (nI z)), some (.int (nI (FA n))), some (.int (nI (FA n))), none, none]) (st' := [.int (nI (FA n)), .int (nI (FA n))]) d_260_11 (fun _ => rfl) ?_
    refine rn_cge (t := 163) d_260_12 (by decide) (by first | omega | assumption | exact cu_36 (by omega) (cu_lt (by omega) (by omega))) (by first | omega | assumption | exact cu_36 (by omega) (cu_lt (by omega) (by omega))) (fun c12 => ?_) (fun c12 => ?_)
    · exact rr_rv d_260_163 mr_260 ⟨rfl, w_.1, w_.2.1, pr.1, pr.2.1, pr.2.2.1, pr.2.2.2.1, pr.2.2.2.2.1, pr.2.2.2.2.2.1, pr.2.2.2.2.2.2.1, Min_iff pr.2.2.2.2.2.2.2 (fun t => by rw [FR_all hn6 hl (fun k hk => by cases hk; exact hz)])⟩
    · omega
