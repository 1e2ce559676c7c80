/-! Names, the class; printed by wip/whole/gen_b11.py. -/
theorem tb_86 {S : CS} {G : Nat → Nat → Value} (hS : ShOk S) (hF : FxG G) : TabAt S G 86 := ⟨hS.i (a := 86) (by decide) (by decide), hS.i (a := 86 + 1) (by decide) (by decide), hS.s (a := 86) (by decide) (by decide) rfl, hS.s (a := 86 + 1) (by decide) (by decide) rfl, fx_86_1 hF⟩
theorem tb_88 {S : CS} {G : Nat → Nat → Value} (hS : ShOk S) (hF : FxG G) : TabAt S G 88 := ⟨hS.i (a := 88) (by decide) (by decide), hS.i (a := 88 + 1) (by decide) (by decide), hS.s (a := 88) (by decide) (by decide) rfl, hS.s (a := 88 + 1) (by decide) (by decide) rfl, fx_88_1 hF⟩
theorem tb_97 {S : CS} {G : Nat → Nat → Value} (hS : ShOk S) (hF : FxG G) : TabAt S G 97 := ⟨hS.i (a := 97) (by decide) (by decide), hS.i (a := 97 + 1) (by decide) (by decide), hS.s (a := 97) (by decide) (by decide) rfl, hS.s (a := 97 + 1) (by decide) (by decide) rfl, fx_97_1 hF⟩
theorem tb_112 {S : CS} {G : Nat → Nat → Value} (hS : ShOk S) (hF : FxG G) : TabAt S G 112 := ⟨hS.i (a := 112) (by decide) (by decide), hS.i (a := 112 + 1) (by decide) (by decide), hS.s (a := 112) (by decide) (by decide) rfl, hS.s (a := 112 + 1) (by decide) (by decide) rfl, fx_112_1 hF⟩
theorem tb_114 {S : CS} {G : Nat → Nat → Value} (hS : ShOk S) (hF : FxG G) : TabAt S G 114 := ⟨hS.i (a := 114) (by decide) (by decide), hS.i (a := 114 + 1) (by decide) (by decide), hS.s (a := 114) (by decide) (by decide) rfl, hS.s (a := 114 + 1) (by decide) (by decide) rfl, fx_114_1 hF⟩
theorem tb_116 {S : CS} {G : Nat → Nat → Value} (hS : ShOk S) (hF : FxG G) : TabAt S G 116 := ⟨hS.i (a := 116) (by decide) (by decide), hS.i (a := 116 + 1) (by decide) (by decide), hS.s (a := 116) (by decide) (by decide) rfl, hS.s (a := 116 + 1) (by decide) (by decide) rfl, fx_116_1 hF⟩
theorem tb_118 {S : CS} {G : Nat → Nat → Value} (hS : ShOk S) (hF : FxG G) : TabAt S G 118 := ⟨hS.i (a := 118) (by decide) (by decide), hS.i (a := 118 + 1) (by decide) (by decide), hS.s (a := 118) (by decide) (by decide) rfl, hS.s (a := 118 + 1) (by decide) (by decide) rfl, fx_118_1 hF⟩
theorem tb_123 {S : CS} {G : Nat → Nat → Value} (hS : ShOk S) (hF : FxG G) : TabAt S G 123 := ⟨hS.i (a := 123) (by decide) (by decide), hS.i (a := 123 + 1) (by decide) (by decide), hS.s (a := 123) (by decide) (by decide) rfl, hS.s (a := 123 + 1) (by decide) (by decide) rfl, fx_123_1 hF⟩
theorem tb_125 {S : CS} {G : Nat → Nat → Value} (hS : ShOk S) (hF : FxG G) : TabAt S G 125 := ⟨hS.i (a := 125) (by decide) (by decide), hS.i (a := 125 + 1) (by decide) (by decide), hS.s (a := 125) (by decide) (by decide) rfl, hS.s (a := 125 + 1) (by decide) (by decide) rfl, fx_125_1 hF⟩
theorem tb_127 {S : CS} {G : Nat → Nat → Value} (hS : ShOk S) (hF : FxG G) : TabAt S G 127 := ⟨hS.i (a := 127) (by decide) (by decide), hS.i (a := 127 + 1) (by decide) (by decide), hS.s (a := 127) (by decide) (by decide) rfl, hS.s (a := 127 + 1) (by decide) (by decide) rfl, fx_127_1 hF⟩
theorem tb_129 {S : CS} {G : Nat → Nat → Value} (hS : ShOk S) (hF : FxG G) : TabAt S G 129 := ⟨hS.i (a := 129) (by decide) (by decide), hS.i (a := 129 + 1) (by decide) (by decide), hS.s (a := 129) (by decide) (by decide) rfl, hS.s (a := 129 + 1) (by decide) (by decide) rfl, fx_129_1 hF⟩
theorem tb_134 {S : CS} {G : Nat → Nat → Value} (hS : ShOk S) (hF : FxG G) : TabAt S G 134 := ⟨hS.i (a := 134) (by decide) (by decide), hS.i (a := 134 + 1) (by decide) (by decide), hS.s (a := 134) (by decide) (by decide) rfl, hS.s (a := 134 + 1) (by decide) (by decide) rfl, fx_134_1 hF⟩
theorem tb_142 {S : CS} {G : Nat → Nat → Value} (hS : ShOk S) (hF : FxG G) : TabAt S G 142 := ⟨hS.i (a := 142) (by decide) (by decide), hS.i (a := 142 + 1) (by decide) (by decide), hS.s (a := 142) (by decide) (by decide) rfl, hS.s (a := 142 + 1) (by decide) (by decide) rfl, fx_142_1 hF⟩
/-- a table renamed by the inverse of f -/
def uN (n : Nat) (c f : Nat → Nat) (q : Nat) : Nat := piv n f (c (n * f (q / n) + f (q % n)))
theorem uN_at {n : Nat} {c f : Nat → Nat} {x y : Nat} (hy : y < n) : uN n c f (n * x + y) = piv n f (c (n * f x + f y)) := by unfold uN; rw [dm_d hy, dm_m hy]
theorem Per.pv {n : Nat} {f : Nat → Nat} (h : Per n f) : Per n (piv n f) := ⟨fun k hk => (h.v hk).1, fun i j hi hj e => by rw [← (h.v hi).2, ← (h.v hj).2, e]⟩
theorem piv_piv {n : Nat} {f : Nat → Nat} (h : Per n f) {v : Nat} (hv : v < n) : piv n (piv n f) v = f v := by
  have h1 := h.pv.v hv
  have h2 := (h.v h1.1).2
  rw [h1.2] at h2
  exact h2.symm ▸ rfl
theorem uN_rn {n : Nat} {c f : Nat → Nat} (h : Per n f) {q : Nat} (hq : q < n * n) : uN n c f q = rnN n c (piv n f) q := by
  unfold uN rnN
  rw [piv_piv h (dm_dl hq), piv_piv h (dm_ml hq)]
theorem uN_lt {n : Nat} {c f : Nat → Nat} (hl : Lat n c) (h : Per n f) : ∀ q, q < n * n → uN n c f q < n := fun q hq => (h.v (hl.b (h.1 _ (dm_dl hq)) (h.1 _ (dm_ml hq)))).1
theorem uN_cg {n : Nat} {c f f' : Nat → Nat} (e : ∀ k, k < n → f k = f' k) {q : Nat} (hq : q < n * n) : uN n c f q = uN n c f' q := by
  unfold uN
  rw [piv_cg e, e _ (dm_dl hq), e _ (dm_ml hq)]
theorem pm0_ck : (List.range 7).all (fun n => (List.range (FA n)).all fun r => n == 0 || (pmE n r 0 == r / FA (n - 1))) = true := by decide +kernel
theorem pm0_f {n r : Nat} (hn : n ≤ 6) (h1 : 1 ≤ n) (hr : r < FA n) : pmE n r 0 = r / FA (n - 1) := by
  have h := List.all_eq_true.mp (List.all_eq_true.mp pm0_ck n (List.mem_range.mpr (by omega))) r (List.mem_range.mpr hr)
  simp only [Bool.or_eq_true, beq_iff_eq] at h
  rcases h with h | h
  · omega
  · exact h
theorem FR_u0 {n : Nat} {c : Nat → Nat} (hn : n ≤ 6) (hl : Lat n c) (t : Nat → Nat) : FR n c none t ↔ ∃ s, 0 ≤ s ∧ s < 0 + FA n ∧ ∀ q, q < n * n → t q = uN n c (pmE n s) q := by
  constructor
  · rintro ⟨p, hP, _, e⟩
    obtain ⟨r, hr⟩ := per_num hn hP.pv
    refine ⟨r, Nat.zero_le _, by have := hr.1; omega, fun q hq => ?_⟩
    rw [uN_cg (fun k hk => (hr.2.2.2 k hk).1) hq, uN_rn hP.pv hq, e q hq]
    exact rn_cg hl hP (fun k hk => (piv_piv hP hk).symm) hq
  · rintro ⟨s, _, hs, e⟩
    have hP := pm_per (n := n) (r := s) hn (by omega)
    exact ⟨piv n (pmE n s), hP.pv, trivial, fun q hq => by rw [e q hq, uN_rn hP hq]⟩
theorem FR_u1 {n : Nat} {c : Nat → Nat} (hn : n ≤ 6) (h1 : 1 ≤ n) (hl : Lat n c) {z : Nat} (hz : z < n) (t : Nat → Nat) : FR n c (some z) t ↔ ∃ s, z * FA (n - 1) ≤ s ∧ s < z * FA (n - 1) + FA (n - 1) ∧ ∀ q, q < n * n → t q = uN n c (pmE n s) q := by
  have hF := FA_pos (n - 1)
  have hFn : FA n = n * FA (n - 1) := by
    obtain ⟨m, rfl⟩ : ∃ m, n = m + 1 := ⟨n - 1, by omega⟩
    rfl
  constructor
  · rintro ⟨p, hP, h0, e⟩
    have h0 : p z = 0 := h0
    obtain ⟨r, hr⟩ := per_num hn hP.pv
    have hr0 : r / FA (n - 1) = z := by
      rw [← pm0_f hn h1 hr.1, (hr.2.2.2 0 (by omega)).1, ← h0]
      exact hP.vp hz
    have hdm := Nat.div_add_mod r (FA (n - 1))
    have hml := Nat.mod_lt r hF
    rw [hr0, Nat.mul_comm] at hdm
    refine ⟨r, by omega, by omega, fun q hq => ?_⟩
    rw [uN_cg (fun k hk => (hr.2.2.2 k hk).1) hq, uN_rn hP.pv hq, e q hq]
    exact rn_cg hl hP (fun k hk => (piv_piv hP hk).symm) hq
  · rintro ⟨s, hs1, hs2, e⟩
    have hz2 : z * FA (n - 1) + FA (n - 1) ≤ n * FA (n - 1) := by
      rw [← Nat.succ_mul]
      exact Nat.mul_le_mul_right _ hz
    have hP := pm_per (n := n) (r := s) hn (by omega)
    refine ⟨piv n (pmE n s), hP.pv, ?_, fun q hq => by rw [e q hq, uN_rn hP hq]⟩
    show piv n (pmE n s) z = 0
    have : pmE n s 0 = z := by
      rw [pm0_f hn h1 (by omega)]
      refine Nat.div_eq_of_lt_le hs1 ?_
      rw [Nat.succ_mul]
      exact hs2
    rw [← this]
    exact hP.vp (by omega)
def nx1Ck (n r : Nat) : Bool := (r + 1) % FA (n - 1) == 0 || (List.range n).all fun k => nxP 1 n (pmE n r) k == pmE n (r + 1) k
theorem nx1_ck : (List.range 7).all (fun n => (List.range (FA n)).all fun r => nx1Ck n r) = true := by decide +kernel
theorem nx1_pm {n r k : Nat} (hn : n ≤ 6) (hr : r < FA n) (hm : (r + 1) % FA (n - 1) ≠ 0) (hk : k < n) : nxP 1 n (pmE n r) k = pmE n (r + 1) k := by
  have h := List.all_eq_true.mp (List.all_eq_true.mp nx1_ck n (List.mem_range.mpr (by omega))) r (List.mem_range.mpr hr)
  unfold nx1Ck at h
  simp only [Bool.or_eq_true, beq_iff_eq] at h
  rcases h with h | h
  · exact absurd h hm
  · exact beq_iff_eq.mp (List.all_eq_true.mp h k (List.mem_range.mpr hk))
theorem st_ck : (List.range 7).all (fun n => (List.range n).all fun z => (List.range n).all fun k => pmE n (z * FA (n - 1)) k == (if k = 0 then z else if k ≤ z then k - 1 else k)) = true := by decide +kernel
theorem st_pm {n z k : Nat} (hn : n ≤ 6) (hz : z < n) (hk : k < n) : pmE n (z * FA (n - 1)) k = if k = 0 then z else if k ≤ z then k - 1 else k := beq_iff_eq.mp (List.all_eq_true.mp (List.all_eq_true.mp (List.all_eq_true.mp st_ck n (List.mem_range.mpr (by omega))) z (List.mem_range.mpr hz)) k (List.mem_range.mpr hk))
/-- how far a table was offered -/
def CeI (m h : Nat) (t b : Nat → Nat) (k L : Nat) (w : Nat → Int32) : Prop := L ≤ 1 ∧ (L = 0 → h = 1 ∧ (∀ j, j < k → t j = b j) ∧ ∀ q, q < m → w q = nI (b q)) ∧ (L = 1 → (h = 0 ∨ ∃ i, i < k ∧ (∀ j, j < i → t j = b j) ∧ t i < b i) ∧ ∀ j, j < k → w j = nI (t j))
theorem Ce_1 {m h : Nat} {t b : Nat → Nat} {k L : Nat} {w : Nat → Int32} {z : Int32} (H : CeI m h t b k L w) (hl : L = 1 ∨ t k < b k) (hz : z = nI (t k)) (hkm : k ≤ m) : CeI m h t b (k + 1) 1 (upd w k z) := by
  refine ⟨Nat.le_refl 1, fun e => absurd e (by decide), fun _ => ?_⟩
  have h01 := H.1
  by_cases e : L = 1
  · obtain ⟨a, d⟩ := H.2.2 e
    refine ⟨a.elim Or.inl (fun ⟨i, hi, x, y⟩ => Or.inr ⟨i, by omega, x, y⟩), up_all (f := fun j => nI (t j)) d hz⟩
  · obtain ⟨a, d, f⟩ := H.2.1 (by omega)
    have hlt := hl.resolve_left e
    refine ⟨Or.inr ⟨k, by omega, d, hlt⟩, up_all (f := fun j => nI (t j)) (fun j hj => ?_) hz⟩
    rw [f j (by omega), d j hj]
theorem Ce_e {m h : Nat} {t b : Nat → Nat} {k L : Nat} {w : Nat → Int32} (H : CeI m h t b k L w) (hl : L = 0) (e : t k = b k) : CeI m h t b (k + 1) L w := by
  obtain ⟨a, d, f⟩ := H.2.1 hl
  exact ⟨by omega, fun _ => ⟨a, all_s d e, f⟩, fun q => by omega⟩
theorem Ce_end {m h : Nat} {t b : Nat → Nat} {L : Nat} {w : Nat → Int32} (H : CeI m h t b m L w) : ∃ b', (∀ q, q < m → w q = nI (b' q) ∧ (b' q = b q ∨ b' q = t q)) ∧ (h = 0 → ∀ q, q < m → b' q = t q) ∧ StpN m h b t b' := by
  have h01 := H.1
  by_cases e : L = 1
  · obtain ⟨a, d⟩ := H.2.2 e
    exact ⟨t, fun q hq => ⟨d q hq, Or.inr rfl⟩, fun _ _ _ => rfl, Or.inr ⟨a.elim Or.inl (fun ⟨i, hi, x, y⟩ => Or.inr ⟨i, hi, x, y⟩), fun _ _ => rfl⟩⟩
  · obtain ⟨a, d, f⟩ := H.2.1 (by omega)
    exact ⟨b, fun q hq => ⟨f q hq, Or.inl rfl⟩, fun h0 => by omega, Or.inl ⟨a, lx_eq d, fun _ _ => rfl⟩⟩
theorem Ce_out {m h : Nat} {t b : Nat → Nat} {k L : Nat} {w : Nat → Int32} (H : CeI m h t b k L w) (hl : L = 0) (hgt : b k < t k) : ∃ b', (∀ q, q < m → w q = nI (b' q) ∧ (b' q = b q ∨ b' q = t q)) ∧ (h = 0 → ∀ q, q < m → b' q = t q) ∧ StpN m h b t b' := by
  obtain ⟨a, d, f⟩ := H.2.1 hl
  refine ⟨b, fun q hq => ⟨f q hq, Or.inl rfl⟩, fun h0 => by omega, Or.inl ⟨a, ?_, fun _ _ => rfl⟩⟩
  rintro ⟨k2, hk2, e, l⟩
  rcases Nat.lt_trichotomy k k2 with x | x | x
  · have := e k x
    omega
  · subst x
    omega
  · have := d k2 x
    omega
theorem k_offer46_111 {S : CS} {G : Nat → Nat → Value} {B : Nat → Nat → Int32} {J : Nat → Nat → Int64} {R : Nat → Nat → Option Nat} (hS : ShOk S) (hF : FxG G) {a n h : Nat} {c bb f : Nat → Nat} (ht : TabAt S G a) (hn : G a 0 = .int (nI n)) (hc : TabC B a n c) (hl : Lat n c) (hab : a ≠ 114) (har : a + 1 ∉ [115, 120, 121]) (hP : Per n f) (hf : ∀ k, k < n → B 120 k = nI (f k)) (hh : h ≤ 1) (hbb : h = 1 → ∀ q, q < n * n → bb q < n) (hB : h = 1 → ∀ q, q < n * n → B (114 + 1) q = nI (bb q)) (hto : ∀ v, v < n → B 121 v = nI (piv n f v)) : CR 1 43 46 [some (.ref 111), some (.ref a), some (.int (nI n)), some (.int (nI (1 - h))), none, none, none] [] S G B J R (fun r_ S' G' B' J' R' => r_ = none ∧ S' = S ∧ G' = up2 G 114 0 (.int (nI n)) ∧ J' = J ∧ R' = R ∧ ∃ wb, B' = upr B (114 + 1) wb ∧ ∃ b', (∀ q, q < n * n → wb q = nI (b' q) ∧ (b' q = bb q ∨ b' q = (uN n c f) q)) ∧ (h = 0 → ∀ q, q < n * n → b' q = (uN n c f) q) ∧ StpN (n * n) h bb (uN n c f) b') := by
  have hn6 := hc.1
  have hbt := tb_114 hS hF
  simp only [List.mem_cons, List.not_mem_nil, or_false, not_or] at har
  refine cr_nx (pc' := 47) (al' := [some (.ref 111), some (.ref a), some (.int (nI n)), some (.int (nI (1 - h))), none, none, none]) (st' := [.ref 111]) d_43_46 (fun _ => rfl) ?_
  refine cr_gf (v := .ref 114) d_43_47 cw_43 cf_6_22 (hS.i (a := 111) (by decide) (by decide)) (hS.s (a := 111) (by decide) (by decide) rfl) (by decide) (fx_111_2 hF) ?_
  refine cr_nx (pc' := 51) (al' := [some (.ref 111), some (.ref a), some (.int (nI n)), some (.int (nI (1 - h))), none, none, none]) (st' := [.int (nI n), .ref 114]) d_43_50 (fun _ => rfl) ?_
  refine cp_10_0  d_43_51 cw_43 cf_6_38 hbt.1 hbt.2.2.1 (by decide) ?_
  refine cn_ic (v := 0) d_43_54 (by decide) ?_
  refine cr_nx (pc' := 57) (al' := [some (.ref 111), some (.ref a), some (.int (nI n)), some (.int (nI (1 - h))), some (.int (nI 0)), none, none]) (st' := []) d_43_55 (fun _ => rfl) ?_
  refine cr_al (congrArg (fun z__ : Nat => ([some (.ref 111), some (.ref a), some (.int (nI n)), some (.int (nI z__)), some (.int (nI 0)), none, none] : AL)) (show 1 - h = (1 - h, B (114 + 1)).1 by first | rfl | omega | (simp only [SM_s]; omega) | (simp [SM_s, *]; done) | (simp [SM_s, *]; omega))) ?_
  refine cr_B (show B = (upr B (114 + 1) ((1 - h, B (114 + 1)).2)) by exact upr_id.symm) ?_
  refine cr_upw (al := fun x u_ => [some (.ref 111), some (.ref a), some (.int (nI n)), some (.int (nI u_.1)), some (.int (nI x)), none, none]) (S := fun x u_ => S) (G := fun x u_ => (up2 G 114 0 (.int (nI n)))) (B := fun x u_ => (upr B (114 + 1) u_.2)) (J := fun x u_ => J) (R := fun x u_ => R) (P := fun x u_ => CeI (n * n) h (uN n c f) bb (n * x) u_.1 u_.2) (n := n) (fun x u_ hx px ihx => ?_) (fun u_ px => ?_) 0 (1 - h, B (114 + 1)) (by omega) (⟨by dsimp only; omega, fun e => by dsimp only at e ⊢; exact ⟨by omega, fun j hj => absurd hj (Nat.not_lt_zero j), hB (by omega)⟩, fun e => by dsimp only at e ⊢; exact ⟨Or.inl (by omega), fun j hj => absurd hj (Nat.not_lt_zero j)⟩⟩)
  · show CR _ _ 57 [some (.ref 111), some (.ref a), some (.int (nI n)), some (.int (nI u_.1)), some (.int (nI x)), none, none] [] S (up2 G 114 0 (.int (nI n))) (upr B (114 + 1) u_.2) J R _
    refine cr_nx (pc' := 59) (al' := [some (.ref 111), some (.ref a), some (.int (nI n)), some (.int (nI u_.1)), some (.int (nI x)), none, none]) (st' := [.int (nI x)]) d_43_57 (fun _ => rfl) ?_
    refine cr_nx (pc' := 60) (al' := [some (.ref 111), some (.ref a), some (.int (nI n)), some (.int (nI u_.1)), some (.int (nI x)), none, none]) (st' := [.int (nI n), .int (nI x)]) d_43_59 (fun _ => rfl) ?_
    refine cn_cge (t := 165) d_43_60 (by decide) (by first | omega | assumption | exact cu_36 (by omega) (cu_lt (by omega) (by omega))) (by first | omega | assumption | exact cu_36 (by omega) (cu_lt (by omega) (by omega))) (fun c60 => ?_) (fun c60 => ?_)
    · omega
    · refine cn_ic (v := 0) d_43_63 (by decide) ?_
      refine cr_nx (pc' := 66) (al' := [some (.ref 111), some (.ref a), some (.int (nI n)), some (.int (nI u_.1)), some (.int (nI x)), some (.int (nI 0)), none]) (st' := []) d_43_64 (fun _ => rfl) ?_
      refine cr_upw (al := fun y u_ => [some (.ref 111), some (.ref a), some (.int (nI n)), some (.int (nI u_.1)), some (.int (nI x)), some (.int (nI y)), none]) (S := fun y u_ => S) (G := fun y u_ => (up2 G 114 0 (.int (nI n)))) (B := fun y u_ => (upr B (114 + 1) u_.2)) (J := fun y u_ => J) (R := fun y u_ => R) (P := fun y u_ => CeI (n * n) h (uN n c f) bb (n * x + y) u_.1 u_.2) (n := n) (fun y u_ hy py ihy => ?_) (fun u_ py => ?_) 0 u_ (by omega) (px)
      · show CR _ _ 66 [some (.ref 111), some (.ref a), some (.int (nI n)), some (.int (nI u_.1)), some (.int (nI x)), some (.int (nI y)), none] [] S (up2 G 114 0 (.int (nI n))) (upr B (114 + 1) u_.2) J R _
        have hfx := hP.1 x hx
        have hfy := hP.1 y hy
        have hcc := hl.b hfx hfy
        have htk : (uN n c f) (n * x + y) < n := uN_lt hl hP _ (cu_lt hx hy)
        have hL1 := py.1
        refine cr_nx (pc' := 68) (al' := [some (.ref 111), some (.ref a), some (.int (nI n)), some (.int (nI u_.1)), some (.int (nI x)), some (.int (nI y)), none]) (st' := [.int (nI y)]) d_43_66 (fun _ => rfl) ?_
        refine cr_nx (pc' := 69) (al' := [some (.ref 111), some (.ref a), some (.int (nI n)), some (.int (nI u_.1)), some (.int (nI x)), some (.int (nI y)), none]) (st' := [.int (nI n), .int (nI y)]) d_43_68 (fun _ => rfl) ?_
        refine cn_cge (t := 159) d_43_69 (by decide) (by first | omega | assumption | exact cu_36 (by omega) (cu_lt (by omega) (by omega))) (by first | omega | assumption | exact cu_36 (by omega) (cu_lt (by omega) (by omega))) (fun c69 => ?_) (fun c69 => ?_)
        · omega
        · refine cr_nx (pc' := 73) (al' := [some (.ref 111), some (.ref a), some (.int (nI n)), some (.int (nI u_.1)), some (.int (nI x)), some (.int (nI y)), none]) (st' := [.ref 111]) d_43_72 (fun _ => rfl) ?_
          refine cr_gf (v := .ref 121) d_43_73 cw_43 cf_6_35 (hS.i (a := 111) (by decide) (by decide)) (hS.s (a := 111) (by decide) (by decide) rfl) (by decide) (by simp [up2, (show (121 : Nat) ≠ 114 + 1 by decide), (show (120 : Nat) ≠ 114 + 1 by decide)]; exact (fx_111_6 hF)) ?_
          refine cr_nx (pc' := 77) (al' := [some (.ref 111), some (.ref a), some (.int (nI n)), some (.int (nI u_.1)), some (.int (nI x)), some (.int (nI y)), none]) (st' := [.ref a, .ref 121]) d_43_76 (fun _ => rfl) ?_
          refine cr_nx (pc' := 78) (al' := [some (.ref 111), some (.ref a), some (.int (nI n)), some (.int (nI u_.1)), some (.int (nI x)), some (.int (nI y)), none]) (st' := [.ref 111, .ref a, .ref 121]) d_43_77 (fun _ => rfl) ?_
          refine cr_gf (v := .ref 120) d_43_78 cw_43 cf_6_31 (hS.i (a := 111) (by decide) (by decide)) (hS.s (a := 111) (by decide) (by decide) rfl) (by decide) (by simp [up2, (show (121 : Nat) ≠ 114 + 1 by decide), (show (120 : Nat) ≠ 114 + 1 by decide)]; exact (fx_111_5 hF)) ?_
          refine cr_nx (pc' := 83) (al' := [some (.ref 111), some (.ref a), some (.int (nI n)), some (.int (nI u_.1)), some (.int (nI x)), some (.int (nI y)), none]) (st' := [.int (nI x), .ref 120, .ref a, .ref 121]) d_43_81 (fun _ => rfl) ?_
          refine cr_ia (a := 120) (v := (nI (f x))) d_43_83 (hS.i (a := 120) (by decide) (by decide)) (hS.s (a := 120) (by decide) (by decide) rfl) (by first | decide | omega) (show x < 6 by first | omega | assumption | exact cu_36 (by omega) (cu_lt (by omega) (by omega))) ((congrFun (by rw [upr_n ((show (120 : Nat) ≠ 114 + 1 by decide))] : (upr B (114 + 1) u_.2) 120 = B 120) _).trans (hf x hx)) ?_
          refine cr_nx (pc' := 85) (al' := [some (.ref 111), some (.ref a), some (.int (nI n)), some (.int (nI u_.1)), some (.int (nI x)), some (.int (nI y)), none]) (st' := [.ref 111, .int (nI (f x)), .ref a, .ref 121]) d_43_84 (fun _ => rfl) ?_
          refine cr_gf (v := .ref 120) d_43_85 cw_43 cf_6_31 (hS.i (a := 111) (by decide) (by decide)) (hS.s (a := 111) (by decide) (by decide) rfl) (by decide) (by simp [up2, (show (121 : Nat) ≠ 114 + 1 by decide), (show (120 : Nat) ≠ 114 + 1 by decide)]; exact (fx_111_5 hF)) ?_
          refine cr_nx (pc' := 90) (al' := [some (.ref 111), some (.ref a), some (.int (nI n)), some (.int (nI u_.1)), some (.int (nI x)), some (.int (nI y)), none]) (st' := [.int (nI y), .ref 120, .int (nI (f x)), .ref a, .ref 121]) d_43_88 (fun _ => rfl) ?_
          refine cr_ia (a := 120) (v := (nI (f y))) d_43_90 (hS.i (a := 120) (by decide) (by decide)) (hS.s (a := 120) (by decide) (by decide) rfl) (by first | decide | omega) (show y < 6 by first | omega | assumption | exact cu_36 (by omega) (cu_lt (by omega) (by omega))) ((congrFun (by rw [upr_n ((show (120 : Nat) ≠ 114 + 1 by decide))] : (upr B (114 + 1) u_.2) 120 = B 120) _).trans (hf y hy)) ?_
          refine cr_pv (b := a) (as := [.int (nI (f x)), .int (nI (f y))]) (al0 := [some (.ref a), some (.int (nI (f x))), some (.int (nI (f y)))]) (r := [.ref 121]) d_43_91 cw_43 cm_6_70 cz_91 rfl rfl ht.1 (by rw [cw_91]; exact ht.2.2.1) (by rw [cw_91]; decide) rfl (Nat.le_of_ble_eq_true rfl) (k_times (ht.up (d := 114)) (up2_0 hab hn) (TabC.u1 (by omega) hc) (by omega) (by omega)) ?_
          show CR _ _ 94 [some (.ref 111), some (.ref a), some (.int (nI n)), some (.int (nI u_.1)), some (.int (nI x)), some (.int (nI y)), none] [.int (nI (c (n * (f x) + (f y)))), .ref 121] S (up2 G 114 0 (.int (nI n))) (upr B (114 + 1) u_.2) J R _
          have b91 : c (n * (f x) + (f y)) < n := (hc.2 _ (cu_lt (by omega) (by omega))).2
          refine cr_ia (a := 121) (v := (nI ((uN n c f) (n * x + y)))) d_43_94 (hS.i (a := 121) (by decide) (by decide)) (hS.s (a := 121) (by decide) (by decide) rfl) (by first | decide | omega) (show c (n * (f x) + (f y)) < 6 by omega) ((congrFun (by rw [upr_n ((show (121 : Nat) ≠ 114 + 1 by decide))] : (upr B (114 + 1) u_.2) 121 = B 121) _).trans ((hto _ hcc).trans (congrArg nI (uN_at hy).symm))) ?_
          refine cr_nx (pc' := 97) (al' := [some (.ref 111), some (.ref a), some (.int (nI n)), some (.int (nI u_.1)), some (.int (nI x)), some (.int (nI y)), some (.int (nI ((uN n c f) (n * x + y))))]) (st' := []) d_43_95 (fun _ => rfl) ?_
          refine cr_nx (pc' := 98) (al' := [some (.ref 111), some (.ref a), some (.int (nI n)), some (.int (nI u_.1)), some (.int (nI x)), some (.int (nI y)), some (.int (nI ((uN n c f) (n * x + y))))]) (st' := [.int (nI u_.1)]) d_43_97 (fun _ => rfl) ?_
          refine cn_ine (t := 118) d_43_98 (by decide) (by first | omega | assumption | exact cu_36 (by omega) (cu_lt (by omega) (by omega))) (fun c98 => ?_) (fun c98 => ?_)
          · refine cr_nx (pc' := 119) (al' := [some (.ref 111), some (.ref a), some (.int (nI n)), some (.int (nI u_.1)), some (.int (nI x)), some (.int (nI y)), some (.int (nI ((uN n c f) (n * x + y))))]) (st' := [.int (nI u_.1)]) d_43_118 (fun _ => rfl) ?_
            refine cn_ine (t := 138) d_43_119 (by decide) (by first | omega | assumption | exact cu_36 (by omega) (cu_lt (by omega) (by omega))) (fun c119 => ?_) (fun c119 => ?_)
            · refine cn_ic (v := 1) d_43_138 (by decide) ?_
              refine cr_nx (pc' := 140) (al' := [some (.ref 111), some (.ref a), some (.int (nI n)), some (.int (nI 1)), some (.int (nI x)), some (.int (nI y)), some (.int (nI ((uN n c f) (n * x + y))))]) (st' := []) d_43_139 (fun _ => rfl) ?_
              refine cr_nx (pc' := 141) (al' := [some (.ref 111), some (.ref a), some (.int (nI n)), some (.int (nI 1)), some (.int (nI x)), some (.int (nI y)), some (.int (nI ((uN n c f) (n * x + y))))]) (st' := [.ref 111]) d_43_140 (fun _ => rfl) ?_
              refine cr_gf (v := .ref 114) d_43_141 cw_43 cf_6_22 (hS.i (a := 111) (by decide) (by decide)) (hS.s (a := 111) (by decide) (by decide) rfl) (by decide) (by simp [up2, (show (121 : Nat) ≠ 114 + 1 by decide), (show (120 : Nat) ≠ 114 + 1 by decide)]; exact (fx_111_2 hF)) ?_
              refine cr_nx (pc' := 146) (al' := [some (.ref 111), some (.ref a), some (.int (nI n)), some (.int (nI 1)), some (.int (nI x)), some (.int (nI y)), some (.int (nI ((uN n c f) (n * x + y))))]) (st' := [.int (nI x), .ref 114]) d_43_144 (fun _ => rfl) ?_
              refine cr_nx (pc' := 148) (al' := [some (.ref 111), some (.ref a), some (.int (nI n)), some (.int (nI 1)), some (.int (nI x)), some (.int (nI y)), some (.int (nI ((uN n c f) (n * x + y))))]) (st' := [.int (nI y), .int (nI x), .ref 114]) d_43_146 (fun _ => rfl) ?_
              refine cr_nx (pc' := 150) (al' := [some (.ref 111), some (.ref a), some (.int (nI n)), some (.int (nI 1)), some (.int (nI x)), some (.int (nI y)), some (.int (nI ((uN n c f) (n * x + y))))]) (st' := [.int (nI ((uN n c f) (n * x + y))), .int (nI y), .int (nI x), .ref 114]) d_43_148 (fun _ => rfl) ?_
              refine cr_pv (b := 114) (as := [.int (nI x), .int (nI y), .int (nI ((uN n c f) (n * x + y)))]) (al0 := [some (.ref 114), some (.int (nI x)), some (.int (nI y)), some (.int (nI ((uN n c f) (n * x + y))))]) (r := []) d_43_150 cw_43 cm_6_88 cz_95 rfl rfl hbt.1 (by rw [cw_95]; exact hbt.2.2.1) (by rw [cw_95]; decide) rfl (Nat.le_of_ble_eq_true rfl) (k_put (hbt.up) up2_s (nI ((uN n c f) (n * x + y))) (cu_36 (by omega) (cu_lt (by omega) (by omega)))) ?_
              rw [upr_s, upr_u]
              show CR _ _ 153 [some (.ref 111), some (.ref a), some (.int (nI n)), some (.int (nI 1)), some (.int (nI x)), some (.int (nI y)), some (.int (nI ((uN n c f) (n * x + y))))] [] S (up2 G 114 0 (.int (nI n))) (upr B (114 + 1) (upd u_.2 (n * x + y) (nI ((uN n c f) (n * x + y))))) J R _
              refine cn_inc d_43_153 rfl rfl ?_
              show CR _ _ 156 [some (.ref 111), some (.ref a), some (.int (nI n)), some (.int (nI 1)), some (.int (nI x)), some (.int (nI (y + 1))), some (.int (nI ((uN n c f) (n * x + y))))] [] S (up2 G 114 0 (.int (nI n))) (upr B (114 + 1) (upd u_.2 (n * x + y) (nI ((uN n c f) (n * x + y))))) J R _
              refine cr_nx (pc' := 66) (al' := [some (.ref 111), some (.ref a), some (.int (nI n)), some (.int (nI 1)), some (.int (nI x)), some (.int (nI (y + 1))), some (.int (nI ((uN n c f) (n * x + y))))]) (st' := []) d_43_156 (fun _ => rfl) ?_
              refine cr_al (congrArg (fun z__ : Nat => ([some (.ref 111), some (.ref a), some (.int (nI n)), some (.int (nI z__)), some (.int (nI x)), some (.int (nI (y + 1))), some (.int (nI ((uN n c f) (n * x + y))))] : AL)) (show 1 = (1, (upd u_.2 (n * x + y) (nI ((uN n c f) (n * x + y))))).1 by first | rfl | omega | (simp only [SM_s]; omega) | (simp [SM_s, *]; done) | (simp [SM_s, *]; omega))) ?_
              refine cr_dr (al1 := [some (.ref 111), some (.ref a), some (.int (nI n)), some (.int (nI ((1, (upd u_.2 (n * x + y) (nI ((uN n c f) (n * x + y))))).1))), some (.int (nI x)), some (.int (nI (y + 1))), none]) (le_s (le_s (le_s (le_s (le_s (le_s (le_d rfl (le_n)))))))) ?_
              exact ihy (1, (upd u_.2 (n * x + y) (nI ((uN n c f) (n * x + y))))) (Ce_1 (k := n * x + y) py (Or.inl (by omega)) rfl (by have := cu_lt hx hy; omega))
            · omega
          · have hL0 : u_.1 = 0 := by omega
            refine cr_nx (pc' := 103) (al' := [some (.ref 111), some (.ref a), some (.int (nI n)), some (.int (nI u_.1)), some (.int (nI x)), some (.int (nI y)), some (.int (nI ((uN n c f) (n * x + y))))]) (st' := [.int (nI ((uN n c f) (n * x + y)))]) d_43_101 (fun _ => rfl) ?_
            refine cr_nx (pc' := 104) (al' := [some (.ref 111), some (.ref a), some (.int (nI n)), some (.int (nI u_.1)), some (.int (nI x)), some (.int (nI y)), some (.int (nI ((uN n c f) (n * x + y))))]) (st' := [.ref 111, .int (nI ((uN n c f) (n * x + y)))]) d_43_103 (fun _ => rfl) ?_
            refine cr_gf (v := .ref 114) d_43_104 cw_43 cf_6_22 (hS.i (a := 111) (by decide) (by decide)) (hS.s (a := 111) (by decide) (by decide) rfl) (by decide) (by simp [up2, (show (121 : Nat) ≠ 114 + 1 by decide), (show (120 : Nat) ≠ 114 + 1 by decide)]; exact (fx_111_2 hF)) ?_
            refine cr_nx (pc' := 109) (al' := [some (.ref 111), some (.ref a), some (.int (nI n)), some (.int (nI u_.1)), some (.int (nI x)), some (.int (nI y)), some (.int (nI ((uN n c f) (n * x + y))))]) (st' := [.int (nI x), .ref 114, .int (nI ((uN n c f) (n * x + y)))]) d_43_107 (fun _ => rfl) ?_
            refine cr_nx (pc' := 111) (al' := [some (.ref 111), some (.ref a), some (.int (nI n)), some (.int (nI u_.1)), some (.int (nI x)), some (.int (nI y)), some (.int (nI ((uN n c f) (n * x + y))))]) (st' := [.int (nI y), .int (nI x), .ref 114, .int (nI ((uN n c f) (n * x + y)))]) d_43_109 (fun _ => rfl) ?_
            refine cr_pv (b := 114) (as := [.int (nI x), .int (nI y)]) (al0 := [some (.ref 114), some (.int (nI x)), some (.int (nI y))]) (r := [.int (nI ((uN n c f) (n * x + y)))]) d_43_111 cw_43 cm_6_70 cz_91 rfl rfl hbt.1 (by rw [cw_91]; exact hbt.2.2.1) (by rw [cw_91]; decide) rfl (Nat.le_of_ble_eq_true rfl) (k_times (hbt.up) up2_s ⟨hn6, fun q hq => ⟨by rw [upr_s]; exact (py.2.1 hL0).2.2 q hq, (hbb ((py.2.1 hL0).1) q hq)⟩⟩ hx hy) ?_
            show CR _ _ 114 [some (.ref 111), some (.ref a), some (.int (nI n)), some (.int (nI u_.1)), some (.int (nI x)), some (.int (nI y)), some (.int (nI ((uN n c f) (n * x + y))))] [.int (nI (bb (n * x + y))), .int (nI ((uN n c f) (n * x + y)))] S (up2 G 114 0 (.int (nI n))) (upr B (114 + 1) u_.2) J R _
            have b111 := hbb ((py.2.1 hL0).1) _ (cu_lt hx hy)
            refine cn_cle (t := 118) d_43_114 (by decide) (by first | omega | assumption | exact cu_36 (by omega) (cu_lt (by omega) (by omega))) (by first | omega | assumption | exact cu_36 (by omega) (cu_lt (by omega) (by omega))) (fun c114 => ?_) (fun c114 => ?_)
            · refine cr_nx (pc' := 119) (al' := [some (.ref 111), some (.ref a), some (.int (nI n)), some (.int (nI u_.1)), some (.int (nI x)), some (.int (nI y)), some (.int (nI ((uN n c f) (n * x + y))))]) (st' := [.int (nI u_.1)]) d_43_118 (fun _ => rfl) ?_
              refine cn_ine (t := 138) d_43_119 (by decide) (by first | omega | assumption | exact cu_36 (by omega) (cu_lt (by omega) (by omega))) (fun c119 => ?_) (fun c119 => ?_)
              · omega
              · refine cr_nx (pc' := 124) (al' := [some (.ref 111), some (.ref a), some (.int (nI n)), some (.int (nI u_.1)), some (.int (nI x)), some (.int (nI y)), some (.int (nI ((uN n c f) (n * x + y))))]) (st' := [.int (nI ((uN n c f) (n * x + y)))]) d_43_122 (fun _ => rfl) ?_
                refine cr_nx (pc' := 125) (al' := [some (.ref 111), some (.ref a), some (.int (nI n)), some (.int (nI u_.1)), some (.int (nI x)), some (.int (nI y)), some (.int (nI ((uN n c f) (n * x + y))))]) (st' := [.ref 111, .int (nI ((uN n c f) (n * x + y)))]) d_43_124 (fun _ => rfl) ?_
                refine cr_gf (v := .ref 114) d_43_125 cw_43 cf_6_22 (hS.i (a := 111) (by decide) (by decide)) (hS.s (a := 111) (by decide) (by decide) rfl) (by decide) (by simp [up2, (show (121 : Nat) ≠ 114 + 1 by decide), (show (120 : Nat) ≠ 114 + 1 by decide)]; exact (fx_111_2 hF)) ?_
                refine cr_nx (pc' := 130) (al' := [some (.ref 111), some (.ref a), some (.int (nI n)), some (.int (nI u_.1)), some (.int (nI x)), some (.int (nI y)), some (.int (nI ((uN n c f) (n * x + y))))]) (st' := [.int (nI x), .ref 114, .int (nI ((uN n c f) (n * x + y)))]) d_43_128 (fun _ => rfl) ?_
                refine cr_nx (pc' := 132) (al' := [some (.ref 111), some (.ref a), some (.int (nI n)), some (.int (nI u_.1)), some (.int (nI x)), some (.int (nI y)), some (.int (nI ((uN n c f) (n * x + y))))]) (st' := [.int (nI y), .int (nI x), .ref 114, .int (nI ((uN n c f) (n * x + y)))]) d_43_130 (fun _ => rfl) ?_
                refine cr_pv (b := 114) (as := [.int (nI x), .int (nI y)]) (al0 := [some (.ref 114), some (.int (nI x)), some (.int (nI y))]) (r := [.int (nI ((uN n c f) (n * x + y)))]) d_43_132 cw_43 cm_6_70 cz_91 rfl rfl hbt.1 (by rw [cw_91]; exact hbt.2.2.1) (by rw [cw_91]; decide) rfl (Nat.le_of_ble_eq_true rfl) (k_times (hbt.up) up2_s ⟨hn6, fun q hq => ⟨by rw [upr_s]; exact (py.2.1 hL0).2.2 q hq, (hbb ((py.2.1 hL0).1) q hq)⟩⟩ hx hy) ?_
                show CR _ _ 135 [some (.ref 111), some (.ref a), some (.int (nI n)), some (.int (nI u_.1)), some (.int (nI x)), some (.int (nI y)), some (.int (nI ((uN n c f) (n * x + y))))] [.int (nI (bb (n * x + y))), .int (nI ((uN n c f) (n * x + y)))] S (up2 G 114 0 (.int (nI n))) (upr B (114 + 1) u_.2) J R _
                have b132 := hbb ((py.2.1 hL0).1) _ (cu_lt hx hy)
                refine cn_cge (t := 153) d_43_135 (by decide) (by first | omega | assumption | exact cu_36 (by omega) (cu_lt (by omega) (by omega))) (by first | omega | assumption | exact cu_36 (by omega) (cu_lt (by omega) (by omega))) (fun c135 => ?_) (fun c135 => ?_)
                · refine cn_inc d_43_153 rfl rfl ?_
                  show CR _ _ 156 [some (.ref 111), some (.ref a), some (.int (nI n)), some (.int (nI u_.1)), some (.int (nI x)), some (.int (nI (y + 1))), some (.int (nI ((uN n c f) (n * x + y))))] [] S (up2 G 114 0 (.int (nI n))) (upr B (114 + 1) u_.2) J R _
                  refine cr_nx (pc' := 66) (al' := [some (.ref 111), some (.ref a), some (.int (nI n)), some (.int (nI u_.1)), some (.int (nI x)), some (.int (nI (y + 1))), some (.int (nI ((uN n c f) (n * x + y))))]) (st' := []) d_43_156 (fun _ => rfl) ?_
                  refine cr_dr (al1 := [some (.ref 111), some (.ref a), some (.int (nI n)), some (.int (nI u_.1)), some (.int (nI x)), some (.int (nI (y + 1))), none]) (le_s (le_s (le_s (le_s (le_s (le_s (le_d rfl (le_n)))))))) ?_
                  exact ihy u_ (Ce_e (k := n * x + y) py (by omega) (by omega))
                · refine cn_ic (v := 1) d_43_138 (by decide) ?_
                  refine cr_nx (pc' := 140) (al' := [some (.ref 111), some (.ref a), some (.int (nI n)), some (.int (nI 1)), some (.int (nI x)), some (.int (nI y)), some (.int (nI ((uN n c f) (n * x + y))))]) (st' := []) d_43_139 (fun _ => rfl) ?_
                  refine cr_nx (pc' := 141) (al' := [some (.ref 111), some (.ref a), some (.int (nI n)), some (.int (nI 1)), some (.int (nI x)), some (.int (nI y)), some (.int (nI ((uN n c f) (n * x + y))))]) (st' := [.ref 111]) d_43_140 (fun _ => rfl) ?_
                  refine cr_gf (v := .ref 114) d_43_141 cw_43 cf_6_22 (hS.i (a := 111) (by decide) (by decide)) (hS.s (a := 111) (by decide) (by decide) rfl) (by decide) (by simp [up2, (show (121 : Nat) ≠ 114 + 1 by decide), (show (120 : Nat) ≠ 114 + 1 by decide)]; exact (fx_111_2 hF)) ?_
                  refine cr_nx (pc' := 146) (al' := [some (.ref 111), some (.ref a), some (.int (nI n)), some (.int (nI 1)), some (.int (nI x)), some (.int (nI y)), some (.int (nI ((uN n c f) (n * x + y))))]) (st' := [.int (nI x), .ref 114]) d_43_144 (fun _ => rfl) ?_
                  refine cr_nx (pc' := 148) (al' := [some (.ref 111), some (.ref a), some (.int (nI n)), some (.int (nI 1)), some (.int (nI x)), some (.int (nI y)), some (.int (nI ((uN n c f) (n * x + y))))]) (st' := [.int (nI y), .int (nI x), .ref 114]) d_43_146 (fun _ => rfl) ?_
                  refine cr_nx (pc' := 150) (al' := [some (.ref 111), some (.ref a), some (.int (nI n)), some (.int (nI 1)), some (.int (nI x)), some (.int (nI y)), some (.int (nI ((uN n c f) (n * x + y))))]) (st' := [.int (nI ((uN n c f) (n * x + y))), .int (nI y), .int (nI x), .ref 114]) d_43_148 (fun _ => rfl) ?_
                  refine cr_pv (b := 114) (as := [.int (nI x), .int (nI y), .int (nI ((uN n c f) (n * x + y)))]) (al0 := [some (.ref 114), some (.int (nI x)), some (.int (nI y)), some (.int (nI ((uN n c f) (n * x + y))))]) (r := []) d_43_150 cw_43 cm_6_88 cz_95 rfl rfl hbt.1 (by rw [cw_95]; exact hbt.2.2.1) (by rw [cw_95]; decide) rfl (Nat.le_of_ble_eq_true rfl) (k_put (hbt.up) up2_s (nI ((uN n c f) (n * x + y))) (cu_36 (by omega) (cu_lt (by omega) (by omega)))) ?_
                  rw [upr_s, upr_u]
                  show CR _ _ 153 [some (.ref 111), some (.ref a), some (.int (nI n)), some (.int (nI 1)), some (.int (nI x)), some (.int (nI y)), some (.int (nI ((uN n c f) (n * x + y))))] [] S (up2 G 114 0 (.int (nI n))) (upr B (114 + 1) (upd u_.2 (n * x + y) (nI ((uN n c f) (n * x + y))))) J R _
                  refine cn_inc d_43_153 rfl rfl ?_
                  show CR _ _ 156 [some (.ref 111), some (.ref a), some (.int (nI n)), some (.int (nI 1)), some (.int (nI x)), some (.int (nI (y + 1))), some (.int (nI ((uN n c f) (n * x + y))))] [] S (up2 G 114 0 (.int (nI n))) (upr B (114 + 1) (upd u_.2 (n * x + y) (nI ((uN n c f) (n * x + y))))) J R _
                  refine cr_nx (pc' := 66) (al' := [some (.ref 111), some (.ref a), some (.int (nI n)), some (.int (nI 1)), some (.int (nI x)), some (.int (nI (y + 1))), some (.int (nI ((uN n c f) (n * x + y))))]) (st' := []) d_43_156 (fun _ => rfl) ?_
                  refine cr_al (congrArg (fun z__ : Nat => ([some (.ref 111), some (.ref a), some (.int (nI n)), some (.int (nI z__)), some (.int (nI x)), some (.int (nI (y + 1))), some (.int (nI ((uN n c f) (n * x + y))))] : AL)) (show 1 = (1, (upd u_.2 (n * x + y) (nI ((uN n c f) (n * x + y))))).1 by first | rfl | omega | (simp only [SM_s]; omega) | (simp [SM_s, *]; done) | (simp [SM_s, *]; omega))) ?_
                  refine cr_dr (al1 := [some (.ref 111), some (.ref a), some (.int (nI n)), some (.int (nI ((1, (upd u_.2 (n * x + y) (nI ((uN n c f) (n * x + y))))).1))), some (.int (nI x)), some (.int (nI (y + 1))), none]) (le_s (le_s (le_s (le_s (le_s (le_s (le_d rfl (le_n)))))))) ?_
                  exact ihy (1, (upd u_.2 (n * x + y) (nI ((uN n c f) (n * x + y))))) (Ce_1 (k := n * x + y) py (Or.inr c135) rfl (by have := cu_lt hx hy; omega))
            · exact cr_rv d_43_117 cx_43 ⟨rfl, rfl, rfl, rfl, rfl, u_.2, rfl, Ce_out py hL0 c114⟩
      · show CR _ _ 66 [some (.ref 111), some (.ref a), some (.int (nI n)), some (.int (nI u_.1)), some (.int (nI x)), some (.int (nI n)), none] [] S (up2 G 114 0 (.int (nI n))) (upr B (114 + 1) u_.2) J R _
        refine cr_nx (pc' := 68) (al' := [some (.ref 111), some (.ref a), some (.int (nI n)), some (.int (nI u_.1)), some (.int (nI x)), some (.int (nI n)), none]) (st' := [.int (nI n)]) d_43_66 (fun _ => rfl) ?_
        refine cr_nx (pc' := 69) (al' := [some (.ref 111), some (.ref a), some (.int (nI n)), some (.int (nI u_.1)), some (.int (nI x)), some (.int (nI n)), none]) (st' := [.int (nI n), .int (nI n)]) d_43_68 (fun _ => rfl) ?_
        refine cn_cge (t := 159) d_43_69 (by decide) (by first | omega | assumption | exact cu_36 (by omega) (cu_lt (by omega) (by omega))) (by first | omega | assumption | exact cu_36 (by omega) (cu_lt (by omega) (by omega))) (fun c69 => ?_) (fun c69 => ?_)
        · refine cn_inc d_43_159 rfl rfl ?_
          show CR _ _ 162 [some (.ref 111), some (.ref a), some (.int (nI n)), some (.int (nI u_.1)), some (.int (nI (x + 1))), some (.int (nI n)), none] [] S (up2 G 114 0 (.int (nI n))) (upr B (114 + 1) u_.2) J R _
          refine cr_nx (pc' := 57) (al' := [some (.ref 111), some (.ref a), some (.int (nI n)), some (.int (nI u_.1)), some (.int (nI (x + 1))), some (.int (nI n)), none]) (st' := []) d_43_162 (fun _ => rfl) ?_
          refine cr_dr (al1 := [some (.ref 111), some (.ref a), some (.int (nI n)), some (.int (nI u_.1)), some (.int (nI (x + 1))), none, none]) (le_s (le_s (le_s (le_s (le_s (le_d rfl (le_s (le_n)))))))) ?_
          exact ihx u_ (by rw [Nat.mul_succ]; exact py)
        · omega
  · show CR _ _ 57 [some (.ref 111), some (.ref a), some (.int (nI n)), some (.int (nI u_.1)), some (.int (nI n)), none, none] [] S (up2 G 114 0 (.int (nI n))) (upr B (114 + 1) u_.2) J R _
    refine cr_nx (pc' := 59) (al' := [some (.ref 111), some (.ref a), some (.int (nI n)), some (.int (nI u_.1)), some (.int (nI n)), none, none]) (st' := [.int (nI n)]) d_43_57 (fun _ => rfl) ?_
    refine cr_nx (pc' := 60) (al' := [some (.ref 111), some (.ref a), some (.int (nI n)), some (.int (nI u_.1)), some (.int (nI n)), none, none]) (st' := [.int (nI n), .int (nI n)]) d_43_59 (fun _ => rfl) ?_
    refine cn_cge (t := 165) d_43_60 (by decide) (by first | omega | assumption | exact cu_36 (by omega) (cu_lt (by omega) (by omega))) (by first | omega | assumption | exact cu_36 (by omega) (cu_lt (by omega) (by omega))) (fun c60 => ?_) (fun c60 => ?_)
    · exact cr_rv d_43_165 cx_43 ⟨rfl, rfl, rfl, rfl, rfl, u_.2, rfl, Ce_end px⟩
    · omega
theorem k_offer_111 {S : CS} {G : Nat → Nat → Value} {B : Nat → Nat → Int32} {J : Nat → Nat → Int64} {R : Nat → Nat → Option Nat} (hS : ShOk S) (hF : FxG G) {a n h : Nat} {c bb f : Nat → Nat} (ht : TabAt S G a) (hn : G a 0 = .int (nI n)) (hc : TabC B a n c) (hl : Lat n c) (hab : a ≠ 114) (har : a + 1 ∉ [115, 120, 121]) (hP : Per n f) (hf : ∀ k, k < n → B 120 k = nI (f k)) (hh : h ≤ 1) (hbb : h = 1 → ∀ q, q < n * n → bb q < n) (hB : h = 1 → ∀ q, q < n * n → B (114 + 1) q = nI (bb q)) (hn1 : 1 ≤ n) (hsz : G 114 0 = .int (nI (n * h))) : CR 1 43 0 [some (.ref 111), some (.ref a), none, none, none, none, none] [] S G B J R (fun r_ S' G' B' J' R' => r_ = none ∧ S' = S ∧ G' = up2 G 114 0 (.int (nI n)) ∧ J' = J ∧ R' = R ∧ ∃ wt wb, B' = upr (upr B 121 wt) (114 + 1) wb ∧ ∃ b', (∀ q, q < n * n → wb q = nI (b' q) ∧ b' q < n) ∧ StpN (n * n) h bb (uN n c f) b') := by
  have hn6 := hc.1
  have har0 := har
  simp only [List.mem_cons, List.not_mem_nil, or_false, not_or] at har
  refine cr_nx (pc' := 1) (al' := [some (.ref 111), some (.ref a), none, none, none, none, none]) (st' := [.ref a]) d_43_0 (fun _ => rfl) ?_
  refine cr_gf (v := .int (nI n)) d_43_1 cw_43 cf_6_38 ht.1 ht.2.2.1 (by decide) hn ?_
  refine cr_nx (pc' := 5) (al' := [some (.ref 111), some (.ref a), some (.int (nI n)), none, none, none, none]) (st' := []) d_43_4 (fun _ => rfl) ?_
  refine cn_ic (v := 0) d_43_5 (by decide) ?_
  refine cr_nx (pc' := 7) (al' := [some (.ref 111), some (.ref a), some (.int (nI n)), some (.int (nI 0)), none, none, none]) (st' := []) d_43_6 (fun _ => rfl) ?_
  refine cr_B (show B = (upr B 121 (B 121)) by rw [upr_id]) ?_
  refine cr_upw (al := fun i w_ => [some (.ref 111), some (.ref a), some (.int (nI n)), some (.int (nI i)), none, none, none]) (S := fun i w_ => S) (G := fun i w_ => G) (B := fun i w_ => (upr B 121 w_)) (J := fun i w_ => J) (R := fun i w_ => R) (P := fun i w_ => ∀ k, k < i → w_ (f k) = nI k) (n := n) (fun i w_ hi pi ihi => ?_) (fun w_ pi => ?_) 0 (B 121) (by omega) (all_0)
  · show CR _ _ 7 [some (.ref 111), some (.ref a), some (.int (nI n)), some (.int (nI i)), none, none, none] [] S G (upr B 121 w_) J R _
    have hfi := hP.1 i hi
    refine cr_nx (pc' := 8) (al' := [some (.ref 111), some (.ref a), some (.int (nI n)), some (.int (nI i)), none, none, none]) (st' := [.int (nI i)]) d_43_7 (fun _ => rfl) ?_
    refine cr_nx (pc' := 9) (al' := [some (.ref 111), some (.ref a), some (.int (nI n)), some (.int (nI i)), none, none, none]) (st' := [.int (nI n), .int (nI i)]) d_43_8 (fun _ => rfl) ?_
    refine cn_cge (t := 30) d_43_9 (by decide) (by first | omega | assumption | exact cu_36 (by omega) (cu_lt (by omega) (by omega))) (by first | omega | assumption | exact cu_36 (by omega) (cu_lt (by omega) (by omega))) (fun c9 => ?_) (fun c9 => ?_)
    · omega
    · refine cr_nx (pc' := 13) (al' := [some (.ref 111), some (.ref a), some (.int (nI n)), some (.int (nI i)), none, none, none]) (st' := [.ref 111]) d_43_12 (fun _ => rfl) ?_
      refine cr_gf (v := .ref 121) d_43_13 cw_43 cf_6_35 (hS.i (a := 111) (by decide) (by decide)) (hS.s (a := 111) (by decide) (by decide) rfl) (by decide) (fx_111_6 hF) ?_
      refine cr_nx (pc' := 17) (al' := [some (.ref 111), some (.ref a), some (.int (nI n)), some (.int (nI i)), none, none, none]) (st' := [.ref 111, .ref 121]) d_43_16 (fun _ => rfl) ?_
      refine cr_gf (v := .ref 120) d_43_17 cw_43 cf_6_31 (hS.i (a := 111) (by decide) (by decide)) (hS.s (a := 111) (by decide) (by decide) rfl) (by decide) (fx_111_5 hF) ?_
      refine cr_nx (pc' := 21) (al' := [some (.ref 111), some (.ref a), some (.int (nI n)), some (.int (nI i)), none, none, none]) (st' := [.int (nI i), .ref 120, .ref 121]) d_43_20 (fun _ => rfl) ?_
      refine cr_ia (a := 120) (v := (nI (f i))) d_43_21 (hS.i (a := 120) (by decide) (by decide)) (hS.s (a := 120) (by decide) (by decide) rfl) (by first | decide | omega) (show i < 6 by first | omega | assumption | exact cu_36 (by omega) (cu_lt (by omega) (by omega))) ((congrFun (by rw [upr_n (show (120 : Nat) ≠ 121 by decide)] : (upr B 121 w_) 120 = B 120) _).trans (hf i hi)) ?_
      refine cr_nx (pc' := 23) (al' := [some (.ref 111), some (.ref a), some (.int (nI n)), some (.int (nI i)), none, none, none]) (st' := [.int (nI i), .int (nI (f i)), .ref 121]) d_43_22 (fun _ => rfl) ?_
      refine cr_iS (a := 121) (B1 := (upr B 121 (upd w_ (f i) (nI i)))) d_43_23 (hS.i (a := 121) (by decide) (by decide)) (hS.s (a := 121) (by decide) (by decide) rfl) (by first | decide | omega) (show f i < 6 by first | omega | assumption | exact cu_36 (by omega) (cu_lt (by omega) (by omega))) (by rw [upr_s, upr_u]) ?_
      refine cn_inc d_43_24 rfl rfl ?_
      show CR _ _ 27 [some (.ref 111), some (.ref a), some (.int (nI n)), some (.int (nI (i + 1))), none, none, none] [] S G (upr B 121 (upd w_ (f i) (nI i))) J R _
      refine cr_nx (pc' := 7) (al' := [some (.ref 111), some (.ref a), some (.int (nI n)), some (.int (nI (i + 1))), none, none, none]) (st' := []) d_43_27 (fun _ => rfl) ?_
      exact ihi (upd w_ (f i) (nI i)) (fun k hk => by
          by_cases e : k = i
          · rw [e, pk_us]
          · rw [pk_un (fun q => e (hP.2 _ _ (by omega) hi q))]
            exact pi k (by omega))
  · show CR _ _ 7 [some (.ref 111), some (.ref a), some (.int (nI n)), some (.int (nI n)), none, none, none] [] S G (upr B 121 w_) J R _
    have hto : ∀ v, v < n → upr B 121 w_ 121 v = nI (piv n f v) := fun v hv => by
      have q := pi _ (hP.v hv).1
      rw [(hP.v hv).2] at q
      rw [upr_s]
      exact q
    refine cr_nx (pc' := 8) (al' := [some (.ref 111), some (.ref a), some (.int (nI n)), some (.int (nI n)), none, none, none]) (st' := [.int (nI n)]) d_43_7 (fun _ => rfl) ?_
    refine cr_nx (pc' := 9) (al' := [some (.ref 111), some (.ref a), some (.int (nI n)), some (.int (nI n)), none, none, none]) (st' := [.int (nI n), .int (nI n)]) d_43_8 (fun _ => rfl) ?_
    refine cn_cge (t := 30) d_43_9 (by decide) (by first | omega | assumption | exact cu_36 (by omega) (cu_lt (by omega) (by omega))) (by first | omega | assumption | exact cu_36 (by omega) (cu_lt (by omega) (by omega))) (fun c9 => ?_) (fun c9 => ?_)
    · refine cr_nx (pc' := 31) (al' := [some (.ref 111), some (.ref a), some (.int (nI n)), some (.int (nI n)), none, none, none]) (st' := [.ref 111]) d_43_30 (fun _ => rfl) ?_
      refine cr_gf (v := .ref 114) d_43_31 cw_43 cf_6_22 (hS.i (a := 111) (by decide) (by decide)) (hS.s (a := 111) (by decide) (by decide) rfl) (by decide) (fx_111_2 hF) ?_
      refine cr_gf (v := .int (nI (n * h))) d_43_34 cw_43 cf_6_38 (hS.i (a := 114) (by decide) (by decide)) (hS.s (a := 114) (by decide) (by decide) rfl) (by decide) hsz ?_
      refine cn_ine (t := 44) d_43_37 (by decide) (by have := Nat.mul_le_mul hn6 hh; omega) (fun c37 => ?_) (fun c37 => ?_)
      · have hh1 : h = 1 := by
          rcases Nat.eq_zero_or_pos h with e | e
          · subst e; simp at c37
          · omega
        refine cn_ic (v := 0) d_43_44 (by decide) ?_
        refine cr_nx (pc' := 46) (al' := [some (.ref 111), some (.ref a), some (.int (nI n)), some (.int (nI 0)), none, none, none]) (st' := []) d_43_45 (fun _ => rfl) ?_
        refine cr_dr (al1 := [some (.ref 111), some (.ref a), some (.int (nI n)), some (.int (nI 0)), none, none, none]) (le_s (le_s (le_s (le_s (le_s (le_s (le_s (le_n)))))))) ?_
        refine cr_al (al1 := [some (.ref 111), some (.ref a), some (.int (nI n)), some (.int (nI (1 - h))), none, none, none]) (by rw [hh1]) ?_
        refine cr_cq (k_offer46_111 (h := h) (bb := bb) hS hF ht hn (TabC.u1 (by omega) hc) hl hab har0 hP (fun k hk => by rw [upr_n (by decide)]; exact hf k hk) hh hbb (fun h1 q hq => by rw [upr_n (by decide)]; exact hB h1 q hq) hto) (fun r_ S' G' B' J' R' hq => ?_)
        obtain ⟨z1, z2, z3, z4, z5, wb, z6, b', z7, z8, z9⟩ := hq
        refine ⟨z1, z2, z3, z4, z5, _, wb, z6, b', fun q hq => ⟨(z7 q hq).1, ?_⟩, z9⟩
        have z10 := uN_lt hl hP q hq
        by_cases e : h = 0
        · rw [z8 e q hq]; exact z10
        · rcases (z7 q hq).2 with z | z
          · rw [z]; exact hbb (by omega) q hq
          · rw [z]; exact z10
      · have hh1 : h = 0 := by
          rcases Nat.eq_zero_or_pos h with e | e
          · exact e
          · have : h = 1 := by omega
            subst this
            omega
        refine cn_ic (v := 1) d_43_40 (by decide) ?_
        refine cr_nx (pc' := 45) (al' := [some (.ref 111), some (.ref a), some (.int (nI n)), some (.int (nI n)), none, none, none]) (st' := [.int (nI 1)]) d_43_41 (fun _ => rfl) ?_
        refine cr_nx (pc' := 46) (al' := [some (.ref 111), some (.ref a), some (.int (nI n)), some (.int (nI 1)), none, none, none]) (st' := []) d_43_45 (fun _ => rfl) ?_
        refine cr_dr (al1 := [some (.ref 111), some (.ref a), some (.int (nI n)), some (.int (nI 1)), none, none, none]) (le_s (le_s (le_s (le_s (le_s (le_s (le_s (le_n)))))))) ?_
        refine cr_al (al1 := [some (.ref 111), some (.ref a), some (.int (nI n)), some (.int (nI (1 - h))), none, none, none]) (by rw [hh1]) ?_
        refine cr_cq (k_offer46_111 (h := h) (bb := bb) hS hF ht hn (TabC.u1 (by omega) hc) hl hab har0 hP (fun k hk => by rw [upr_n (by decide)]; exact hf k hk) hh hbb (fun h1 q hq => by rw [upr_n (by decide)]; exact hB h1 q hq) hto) (fun r_ S' G' B' J' R' hq => ?_)
        obtain ⟨z1, z2, z3, z4, z5, wb, z6, b', z7, z8, z9⟩ := hq
        refine ⟨z1, z2, z3, z4, z5, _, wb, z6, b', fun q hq => ⟨(z7 q hq).1, ?_⟩, z9⟩
        have z10 := uN_lt hl hP q hq
        by_cases e : h = 0
        · rw [z8 e q hq]; exact z10
        · rcases (z7 q hq).2 with z | z
          · rw [z]; exact hbb (by omega) q hq
          · rw [z]; exact z10
    · omega
theorem k_offer46_122 {S : CS} {G : Nat → Nat → Value} {B : Nat → Nat → Int32} {J : Nat → Nat → Int64} {R : Nat → Nat → Option Nat} (hS : ShOk S) (hF : FxG G) {a n h : Nat} {c bb f : Nat → Nat} (ht : TabAt S G a) (hn : G a 0 = .int (nI n)) (hc : TabC B a n c) (hl : Lat n c) (hab : a ≠ 125) (har : a + 1 ∉ [126, 131, 132]) (hP : Per n f) (hf : ∀ k, k < n → B 131 k = nI (f k)) (hh : h ≤ 1) (hbb : h = 1 → ∀ q, q < n * n → bb q < n) (hB : h = 1 → ∀ q, q < n * n → B (125 + 1) q = nI (bb q)) (hto : ∀ v, v < n → B 132 v = nI (piv n f v)) : CR 1 43 46 [some (.ref 122), some (.ref a), some (.int (nI n)), some (.int (nI (1 - h))), none, none, none] [] S G B J R (fun r_ S' G' B' J' R' => r_ = none ∧ S' = S ∧ G' = up2 G 125 0 (.int (nI n)) ∧ J' = J ∧ R' = R ∧ ∃ wb, B' = upr B (125 + 1) wb ∧ ∃ b', (∀ q, q < n * n → wb q = nI (b' q) ∧ (b' q = bb q ∨ b' q = (uN n c f) q)) ∧ (h = 0 → ∀ q, q < n * n → b' q = (uN n c f) q) ∧ StpN (n * n) h bb (uN n c f) b') := by
  have hn6 := hc.1
  have hbt := tb_125 hS hF
  simp only [List.mem_cons, List.not_mem_nil, or_false, not_or] at har
  refine cr_nx (pc' := 47) (al' := [some (.ref 122), some (.ref a), some (.int (nI n)), some (.int (nI (1 - h))), none, none, none]) (st' := [.ref 122]) d_43_46 (fun _ => rfl) ?_
  refine cr_gf (v := .ref 125) d_43_47 cw_43 cf_6_22 (hS.i (a := 122) (by decide) (by decide)) (hS.s (a := 122) (by decide) (by decide) rfl) (by decide) (fx_122_2 hF) ?_
  refine cr_nx (pc' := 51) (al' := [some (.ref 122), some (.ref a), some (.int (nI n)), some (.int (nI (1 - h))), none, none, none]) (st' := [.int (nI n), .ref 125]) d_43_50 (fun _ => rfl) ?_
  refine cp_10_0  d_43_51 cw_43 cf_6_38 hbt.1 hbt.2.2.1 (by decide) ?_
  refine cn_ic (v := 0) d_43_54 (by decide) ?_
  refine cr_nx (pc' := 57) (al' := [some (.ref 122), some (.ref a), some (.int (nI n)), some (.int (nI (1 - h))), some (.int (nI 0)), none, none]) (st' := []) d_43_55 (fun _ => rfl) ?_
  refine cr_al (congrArg (fun z__ : Nat => ([some (.ref 122), some (.ref a), some (.int (nI n)), some (.int (nI z__)), some (.int (nI 0)), none, none] : AL)) (show 1 - h = (1 - h, B (125 + 1)).1 by first | rfl | omega | (simp only [SM_s]; omega) | (simp [SM_s, *]; done) | (simp [SM_s, *]; omega))) ?_
  refine cr_B (show B = (upr B (125 + 1) ((1 - h, B (125 + 1)).2)) by exact upr_id.symm) ?_
  refine cr_upw (al := fun x u_ => [some (.ref 122), some (.ref a), some (.int (nI n)), some (.int (nI u_.1)), some (.int (nI x)), none, none]) (S := fun x u_ => S) (G := fun x u_ => (up2 G 125 0 (.int (nI n)))) (B := fun x u_ => (upr B (125 + 1) u_.2)) (J := fun x u_ => J) (R := fun x u_ => R) (P := fun x u_ => CeI (n * n) h (uN n c f) bb (n * x) u_.1 u_.2) (n := n) (fun x u_ hx px ihx => ?_) (fun u_ px => ?_) 0 (1 - h, B (125 + 1)) (by omega) (⟨by dsimp only; omega, fun e => by dsimp only at e ⊢; exact ⟨by omega, fun j hj => absurd hj (Nat.not_lt_zero j), hB (by omega)⟩, fun e => by dsimp only at e ⊢; exact ⟨Or.inl (by omega), fun j hj => absurd hj (Nat.not_lt_zero j)⟩⟩)
  · show CR _ _ 57 [some (.ref 122), some (.ref a), some (.int (nI n)), some (.int (nI u_.1)), some (.int (nI x)), none, none] [] S (up2 G 125 0 (.int (nI n))) (upr B (125 + 1) u_.2) J R _
    refine cr_nx (pc' := 59) (al' := [some (.ref 122), some (.ref a), some (.int (nI n)), some (.int (nI u_.1)), some (.int (nI x)), none, none]) (st' := [.int (nI x)]) d_43_57 (fun _ => rfl) ?_
    refine cr_nx (pc' := 60) (al' := [some (.ref 122), some (.ref a), some (.int (nI n)), some (.int (nI u_.1)), some (.int (nI x)), none, none]) (st' := [.int (nI n), .int (nI x)]) d_43_59 (fun _ => rfl) ?_
    refine cn_cge (t := 165) d_43_60 (by decide) (by first | omega | assumption | exact cu_36 (by omega) (cu_lt (by omega) (by omega))) (by first | omega | assumption | exact cu_36 (by omega) (cu_lt (by omega) (by omega))) (fun c60 => ?_) (fun c60 => ?_)
    · omega
    · refine cn_ic (v := 0) d_43_63 (by decide) ?_
      refine cr_nx (pc' := 66) (al' := [some (.ref 122), some (.ref a), some (.int (nI n)), some (.int (nI u_.1)), some (.int (nI x)), some (.int (nI 0)), none]) (st' := []) d_43_64 (fun _ => rfl) ?_
      refine cr_upw (al := fun y u_ => [some (.ref 122), some (.ref a), some (.int (nI n)), some (.int (nI u_.1)), some (.int (nI x)), some (.int (nI y)), none]) (S := fun y u_ => S) (G := fun y u_ => (up2 G 125 0 (.int (nI n)))) (B := fun y u_ => (upr B (125 + 1) u_.2)) (J := fun y u_ => J) (R := fun y u_ => R) (P := fun y u_ => CeI (n * n) h (uN n c f) bb (n * x + y) u_.1 u_.2) (n := n) (fun y u_ hy py ihy => ?_) (fun u_ py => ?_) 0 u_ (by omega) (px)
      · show CR _ _ 66 [some (.ref 122), some (.ref a), some (.int (nI n)), some (.int (nI u_.1)), some (.int (nI x)), some (.int (nI y)), none] [] S (up2 G 125 0 (.int (nI n))) (upr B (125 + 1) u_.2) J R _
        have hfx := hP.1 x hx
        have hfy := hP.1 y hy
        have hcc := hl.b hfx hfy
        have htk : (uN n c f) (n * x + y) < n := uN_lt hl hP _ (cu_lt hx hy)
        have hL1 := py.1
        refine cr_nx (pc' := 68) (al' := [some (.ref 122), some (.ref a), some (.int (nI n)), some (.int (nI u_.1)), some (.int (nI x)), some (.int (nI y)), none]) (st' := [.int (nI y)]) d_43_66 (fun _ => rfl) ?_
        refine cr_nx (pc' := 69) (al' := [some (.ref 122), some (.ref a), some (.int (nI n)), some (.int (nI u_.1)), some (.int (nI x)), some (.int (nI y)), none]) (st' := [.int (nI n), .int (nI y)]) d_43_68 (fun _ => rfl) ?_
        refine cn_cge (t := 159) d_43_69 (by decide) (by first | omega | assumption | exact cu_36 (by omega) (cu_lt (by omega) (by omega))) (by first | omega | assumption | exact cu_36 (by omega) (cu_lt (by omega) (by omega))) (fun c69 => ?_) (fun c69 => ?_)
        · omega
        · refine cr_nx (pc' := 73) (al' := [some (.ref 122), some (.ref a), some (.int (nI n)), some (.int (nI u_.1)), some (.int (nI x)), some (.int (nI y)), none]) (st' := [.ref 122]) d_43_72 (fun _ => rfl) ?_
          refine cr_gf (v := .ref 132) d_43_73 cw_43 cf_6_35 (hS.i (a := 122) (by decide) (by decide)) (hS.s (a := 122) (by decide) (by decide) rfl) (by decide) (by simp [up2, (show (132 : Nat) ≠ 125 + 1 by decide), (show (131 : Nat) ≠ 125 + 1 by decide)]; exact (fx_122_6 hF)) ?_
          refine cr_nx (pc' := 77) (al' := [some (.ref 122), some (.ref a), some (.int (nI n)), some (.int (nI u_.1)), some (.int (nI x)), some (.int (nI y)), none]) (st' := [.ref a, .ref 132]) d_43_76 (fun _ => rfl) ?_
          refine cr_nx (pc' := 78) (al' := [some (.ref 122), some (.ref a), some (.int (nI n)), some (.int (nI u_.1)), some (.int (nI x)), some (.int (nI y)), none]) (st' := [.ref 122, .ref a, .ref 132]) d_43_77 (fun _ => rfl) ?_
          refine cr_gf (v := .ref 131) d_43_78 cw_43 cf_6_31 (hS.i (a := 122) (by decide) (by decide)) (hS.s (a := 122) (by decide) (by decide) rfl) (by decide) (by simp [up2, (show (132 : Nat) ≠ 125 + 1 by decide), (show (131 : Nat) ≠ 125 + 1 by decide)]; exact (fx_122_5 hF)) ?_
          refine cr_nx (pc' := 83) (al' := [some (.ref 122), some (.ref a), some (.int (nI n)), some (.int (nI u_.1)), some (.int (nI x)), some (.int (nI y)), none]) (st' := [.int (nI x), .ref 131, .ref a, .ref 132]) d_43_81 (fun _ => rfl) ?_
          refine cr_ia (a := 131) (v := (nI (f x))) d_43_83 (hS.i (a := 131) (by decide) (by decide)) (hS.s (a := 131) (by decide) (by decide) rfl) (by first | decide | omega) (show x < 6 by first | omega | assumption | exact cu_36 (by omega) (cu_lt (by omega) (by omega))) ((congrFun (by rw [upr_n ((show (131 : Nat) ≠ 125 + 1 by decide))] : (upr B (125 + 1) u_.2) 131 = B 131) _).trans (hf x hx)) ?_
          refine cr_nx (pc' := 85) (al' := [some (.ref 122), some (.ref a), some (.int (nI n)), some (.int (nI u_.1)), some (.int (nI x)), some (.int (nI y)), none]) (st' := [.ref 122, .int (nI (f x)), .ref a, .ref 132]) d_43_84 (fun _ => rfl) ?_
          refine cr_gf (v := .ref 131) d_43_85 cw_43 cf_6_31 (hS.i (a := 122) (by decide) (by decide)) (hS.s (a := 122) (by decide) (by decide) rfl) (by decide) (by simp [up2, (show (132 : Nat) ≠ 125 + 1 by decide), (show (131 : Nat) ≠ 125 + 1 by decide)]; exact (fx_122_5 hF)) ?_
          refine cr_nx (pc' := 90) (al' := [some (.ref 122), some (.ref a), some (.int (nI n)), some (.int (nI u_.1)), some (.int (nI x)), some (.int (nI y)), none]) (st' := [.int (nI y), .ref 131, .int (nI (f x)), .ref a, .ref 132]) d_43_88 (fun _ => rfl) ?_
          refine cr_ia (a := 131) (v := (nI (f y))) d_43_90 (hS.i (a := 131) (by decide) (by decide)) (hS.s (a := 131) (by decide) (by decide) rfl) (by first | decide | omega) (show y < 6 by first | omega | assumption | exact cu_36 (by omega) (cu_lt (by omega) (by omega))) ((congrFun (by rw [upr_n ((show (131 : Nat) ≠ 125 + 1 by decide))] : (upr B (125 + 1) u_.2) 131 = B 131) _).trans (hf y hy)) ?_
          refine cr_pv (b := a) (as := [.int (nI (f x)), .int (nI (f y))]) (al0 := [some (.ref a), some (.int (nI (f x))), some (.int (nI (f y)))]) (r := [.ref 132]) d_43_91 cw_43 cm_6_70 cz_91 rfl rfl ht.1 (by rw [cw_91]; exact ht.2.2.1) (by rw [cw_91]; decide) rfl (Nat.le_of_ble_eq_true rfl) (k_times (ht.up (d := 125)) (up2_0 hab hn) (TabC.u1 (by omega) hc) (by omega) (by omega)) ?_
          show CR _ _ 94 [some (.ref 122), some (.ref a), some (.int (nI n)), some (.int (nI u_.1)), some (.int (nI x)), some (.int (nI y)), none] [.int (nI (c (n * (f x) + (f y)))), .ref 132] S (up2 G 125 0 (.int (nI n))) (upr B (125 + 1) u_.2) J R _
          have b91 : c (n * (f x) + (f y)) < n := (hc.2 _ (cu_lt (by omega) (by omega))).2
          refine cr_ia (a := 132) (v := (nI ((uN n c f) (n * x + y)))) d_43_94 (hS.i (a := 132) (by decide) (by decide)) (hS.s (a := 132) (by decide) (by decide) rfl) (by first | decide | omega) (show c (n * (f x) + (f y)) < 6 by omega) ((congrFun (by rw [upr_n ((show (132 : Nat) ≠ 125 + 1 by decide))] : (upr B (125 + 1) u_.2) 132 = B 132) _).trans ((hto _ hcc).trans (congrArg nI (uN_at hy).symm))) ?_
          refine cr_nx (pc' := 97) (al' := [some (.ref 122), some (.ref a), some (.int (nI n)), some (.int (nI u_.1)), some (.int (nI x)), some (.int (nI y)), some (.int (nI ((uN n c f) (n * x + y))))]) (st' := []) d_43_95 (fun _ => rfl) ?_
          refine cr_nx (pc' := 98) (al' := [some (.ref 122), some (.ref a), some (.int (nI n)), some (.int (nI u_.1)), some (.int (nI x)), some (.int (nI y)), some (.int (nI ((uN n c f) (n * x + y))))]) (st' := [.int (nI u_.1)]) d_43_97 (fun _ => rfl) ?_
          refine cn_ine (t := 118) d_43_98 (by decide) (by first | omega | assumption | exact cu_36 (by omega) (cu_lt (by omega) (by omega))) (fun c98 => ?_) (fun c98 => ?_)
          · refine cr_nx (pc' := 119) (al' := [some (.ref 122), some (.ref a), some (.int (nI n)), some (.int (nI u_.1)), some (.int (nI x)), some (.int (nI y)), some (.int (nI ((uN n c f) (n * x + y))))]) (st' := [.int (nI u_.1)]) d_43_118 (fun _ => rfl) ?_
            refine cn_ine (t := 138) d_43_119 (by decide) (by first | omega | assumption | exact cu_36 (by omega) (cu_lt (by omega) (by omega))) (fun c119 => ?_) (fun c119 => ?_)
            · refine cn_ic (v := 1) d_43_138 (by decide) ?_
              refine cr_nx (pc' := 140) (al' := [some (.ref 122), some (.ref a), some (.int (nI n)), some (.int (nI 1)), some (.int (nI x)), some (.int (nI y)), some (.int (nI ((uN n c f) (n * x + y))))]) (st' := []) d_43_139 (fun _ => rfl) ?_
              refine cr_nx (pc' := 141) (al' := [some (.ref 122), some (.ref a), some (.int (nI n)), some (.int (nI 1)), some (.int (nI x)), some (.int (nI y)), some (.int (nI ((uN n c f) (n * x + y))))]) (st' := [.ref 122]) d_43_140 (fun _ => rfl) ?_
              refine cr_gf (v := .ref 125) d_43_141 cw_43 cf_6_22 (hS.i (a := 122) (by decide) (by decide)) (hS.s (a := 122) (by decide) (by decide) rfl) (by decide) (by simp [up2, (show (132 : Nat) ≠ 125 + 1 by decide), (show (131 : Nat) ≠ 125 + 1 by decide)]; exact (fx_122_2 hF)) ?_
              refine cr_nx (pc' := 146) (al' := [some (.ref 122), some (.ref a), some (.int (nI n)), some (.int (nI 1)), some (.int (nI x)), some (.int (nI y)), some (.int (nI ((uN n c f) (n * x + y))))]) (st' := [.int (nI x), .ref 125]) d_43_144 (fun _ => rfl) ?_
              refine cr_nx (pc' := 148) (al' := [some (.ref 122), some (.ref a), some (.int (nI n)), some (.int (nI 1)), some (.int (nI x)), some (.int (nI y)), some (.int (nI ((uN n c f) (n * x + y))))]) (st' := [.int (nI y), .int (nI x), .ref 125]) d_43_146 (fun _ => rfl) ?_
              refine cr_nx (pc' := 150) (al' := [some (.ref 122), some (.ref a), some (.int (nI n)), some (.int (nI 1)), some (.int (nI x)), some (.int (nI y)), some (.int (nI ((uN n c f) (n * x + y))))]) (st' := [.int (nI ((uN n c f) (n * x + y))), .int (nI y), .int (nI x), .ref 125]) d_43_148 (fun _ => rfl) ?_
              refine cr_pv (b := 125) (as := [.int (nI x), .int (nI y), .int (nI ((uN n c f) (n * x + y)))]) (al0 := [some (.ref 125), some (.int (nI x)), some (.int (nI y)), some (.int (nI ((uN n c f) (n * x + y))))]) (r := []) d_43_150 cw_43 cm_6_88 cz_95 rfl rfl hbt.1 (by rw [cw_95]; exact hbt.2.2.1) (by rw [cw_95]; decide) rfl (Nat.le_of_ble_eq_true rfl) (k_put (hbt.up) up2_s (nI ((uN n c f) (n * x + y))) (cu_36 (by omega) (cu_lt (by omega) (by omega)))) ?_
              rw [upr_s, upr_u]
              show CR _ _ 153 [some (.ref 122), some (.ref a), some (.int (nI n)), some (.int (nI 1)), some (.int (nI x)), some (.int (nI y)), some (.int (nI ((uN n c f) (n * x + y))))] [] S (up2 G 125 0 (.int (nI n))) (upr B (125 + 1) (upd u_.2 (n * x + y) (nI ((uN n c f) (n * x + y))))) J R _
              refine cn_inc d_43_153 rfl rfl ?_
              show CR _ _ 156 [some (.ref 122), some (.ref a), some (.int (nI n)), some (.int (nI 1)), some (.int (nI x)), some (.int (nI (y + 1))), some (.int (nI ((uN n c f) (n * x + y))))] [] S (up2 G 125 0 (.int (nI n))) (upr B (125 + 1) (upd u_.2 (n * x + y) (nI ((uN n c f) (n * x + y))))) J R _
              refine cr_nx (pc' := 66) (al' := [some (.ref 122), some (.ref a), some (.int (nI n)), some (.int (nI 1)), some (.int (nI x)), some (.int (nI (y + 1))), some (.int (nI ((uN n c f) (n * x + y))))]) (st' := []) d_43_156 (fun _ => rfl) ?_
              refine cr_al (congrArg (fun z__ : Nat => ([some (.ref 122), some (.ref a), some (.int (nI n)), some (.int (nI z__)), some (.int (nI x)), some (.int (nI (y + 1))), some (.int (nI ((uN n c f) (n * x + y))))] : AL)) (show 1 = (1, (upd u_.2 (n * x + y) (nI ((uN n c f) (n * x + y))))).1 by first | rfl | omega | (simp only [SM_s]; omega) | (simp [SM_s, *]; done) | (simp [SM_s, *]; omega))) ?_
              refine cr_dr (al1 := [some (.ref 122), some (.ref a), some (.int (nI n)), some (.int (nI ((1, (upd u_.2 (n * x + y) (nI ((uN n c f) (n * x + y))))).1))), some (.int (nI x)), some (.int (nI (y + 1))), none]) (le_s (le_s (le_s (le_s (le_s (le_s (le_d rfl (le_n)))))))) ?_
              exact ihy (1, (upd u_.2 (n * x + y) (nI ((uN n c f) (n * x + y))))) (Ce_1 (k := n * x + y) py (Or.inl (by omega)) rfl (by have := cu_lt hx hy; omega))
            · omega
          · have hL0 : u_.1 = 0 := by omega
            refine cr_nx (pc' := 103) (al' := [some (.ref 122), some (.ref a), some (.int (nI n)), some (.int (nI u_.1)), some (.int (nI x)), some (.int (nI y)), some (.int (nI ((uN n c f) (n * x + y))))]) (st' := [.int (nI ((uN n c f) (n * x + y)))]) d_43_101 (fun _ => rfl) ?_
            refine cr_nx (pc' := 104) (al' := [some (.ref 122), some (.ref a), some (.int (nI n)), some (.int (nI u_.1)), some (.int (nI x)), some (.int (nI y)), some (.int (nI ((uN n c f) (n * x + y))))]) (st' := [.ref 122, .int (nI ((uN n c f) (n * x + y)))]) d_43_103 (fun _ => rfl) ?_
            refine cr_gf (v := .ref 125) d_43_104 cw_43 cf_6_22 (hS.i (a := 122) (by decide) (by decide)) (hS.s (a := 122) (by decide) (by decide) rfl) (by decide) (by simp [up2, (show (132 : Nat) ≠ 125 + 1 by decide), (show (131 : Nat) ≠ 125 + 1 by decide)]; exact (fx_122_2 hF)) ?_
            refine cr_nx (pc' := 109) (al' := [some (.ref 122), some (.ref a), some (.int (nI n)), some (.int (nI u_.1)), some (.int (nI x)), some (.int (nI y)), some (.int (nI ((uN n c f) (n * x + y))))]) (st' := [.int (nI x), .ref 125, .int (nI ((uN n c f) (n * x + y)))]) d_43_107 (fun _ => rfl) ?_
            refine cr_nx (pc' := 111) (al' := [some (.ref 122), some (.ref a), some (.int (nI n)), some (.int (nI u_.1)), some (.int (nI x)), some (.int (nI y)), some (.int (nI ((uN n c f) (n * x + y))))]) (st' := [.int (nI y), .int (nI x), .ref 125, .int (nI ((uN n c f) (n * x + y)))]) d_43_109 (fun _ => rfl) ?_
            refine cr_pv (b := 125) (as := [.int (nI x), .int (nI y)]) (al0 := [some (.ref 125), some (.int (nI x)), some (.int (nI y))]) (r := [.int (nI ((uN n c f) (n * x + y)))]) d_43_111 cw_43 cm_6_70 cz_91 rfl rfl hbt.1 (by rw [cw_91]; exact hbt.2.2.1) (by rw [cw_91]; decide) rfl (Nat.le_of_ble_eq_true rfl) (k_times (hbt.up) up2_s ⟨hn6, fun q hq => ⟨by rw [upr_s]; exact (py.2.1 hL0).2.2 q hq, (hbb ((py.2.1 hL0).1) q hq)⟩⟩ hx hy) ?_
            show CR _ _ 114 [some (.ref 122), some (.ref a), some (.int (nI n)), some (.int (nI u_.1)), some (.int (nI x)), some (.int (nI y)), some (.int (nI ((uN n c f) (n * x + y))))] [.int (nI (bb (n * x + y))), .int (nI ((uN n c f) (n * x + y)))] S (up2 G 125 0 (.int (nI n))) (upr B (125 + 1) u_.2) J R _
            have b111 := hbb ((py.2.1 hL0).1) _ (cu_lt hx hy)
            refine cn_cle (t := 118) d_43_114 (by decide) (by first | omega | assumption | exact cu_36 (by omega) (cu_lt (by omega) (by omega))) (by first | omega | assumption | exact cu_36 (by omega) (cu_lt (by omega) (by omega))) (fun c114 => ?_) (fun c114 => ?_)
            · refine cr_nx (pc' := 119) (al' := [some (.ref 122), some (.ref a), some (.int (nI n)), some (.int (nI u_.1)), some (.int (nI x)), some (.int (nI y)), some (.int (nI ((uN n c f) (n * x + y))))]) (st' := [.int (nI u_.1)]) d_43_118 (fun _ => rfl) ?_
              refine cn_ine (t := 138) d_43_119 (by decide) (by first | omega | assumption | exact cu_36 (by omega) (cu_lt (by omega) (by omega))) (fun c119 => ?_) (fun c119 => ?_)
              · omega
              · refine cr_nx (pc' := 124) (al' := [some (.ref 122), some (.ref a), some (.int (nI n)), some (.int (nI u_.1)), some (.int (nI x)), some (.int (nI y)), some (.int (nI ((uN n c f) (n * x + y))))]) (st' := [.int (nI ((uN n c f) (n * x + y)))]) d_43_122 (fun _ => rfl) ?_
                refine cr_nx (pc' := 125) (al' := [some (.ref 122), some (.ref a), some (.int (nI n)), some (.int (nI u_.1)), some (.int (nI x)), some (.int (nI y)), some (.int (nI ((uN n c f) (n * x + y))))]) (st' := [.ref 122, .int (nI ((uN n c f) (n * x + y)))]) d_43_124 (fun _ => rfl) ?_
                refine cr_gf (v := .ref 125) d_43_125 cw_43 cf_6_22 (hS.i (a := 122) (by decide) (by decide)) (hS.s (a := 122) (by decide) (by decide) rfl) (by decide) (by simp [up2, (show (132 : Nat) ≠ 125 + 1 by decide), (show (131 : Nat) ≠ 125 + 1 by decide)]; exact (fx_122_2 hF)) ?_
                refine cr_nx (pc' := 130) (al' := [some (.ref 122), some (.ref a), some (.int (nI n)), some (.int (nI u_.1)), some (.int (nI x)), some (.int (nI y)), some (.int (nI ((uN n c f) (n * x + y))))]) (st' := [.int (nI x), .ref 125, .int (nI ((uN n c f) (n * x + y)))]) d_43_128 (fun _ => rfl) ?_
                refine cr_nx (pc' := 132) (al' := [some (.ref 122), some (.ref a), some (.int (nI n)), some (.int (nI u_.1)), some (.int (nI x)), some (.int (nI y)), some (.int (nI ((uN n c f) (n * x + y))))]) (st' := [.int (nI y), .int (nI x), .ref 125, .int (nI ((uN n c f) (n * x + y)))]) d_43_130 (fun _ => rfl) ?_
                refine cr_pv (b := 125) (as := [.int (nI x), .int (nI y)]) (al0 := [some (.ref 125), some (.int (nI x)), some (.int (nI y))]) (r := [.int (nI ((uN n c f) (n * x + y)))]) d_43_132 cw_43 cm_6_70 cz_91 rfl rfl hbt.1 (by rw [cw_91]; exact hbt.2.2.1) (by rw [cw_91]; decide) rfl (Nat.le_of_ble_eq_true rfl) (k_times (hbt.up) up2_s ⟨hn6, fun q hq => ⟨by rw [upr_s]; exact (py.2.1 hL0).2.2 q hq, (hbb ((py.2.1 hL0).1) q hq)⟩⟩ hx hy) ?_
                show CR _ _ 135 [some (.ref 122), some (.ref a), some (.int (nI n)), some (.int (nI u_.1)), some (.int (nI x)), some (.int (nI y)), some (.int (nI ((uN n c f) (n * x + y))))] [.int (nI (bb (n * x + y))), .int (nI ((uN n c f) (n * x + y)))] S (up2 G 125 0 (.int (nI n))) (upr B (125 + 1) u_.2) J R _
                have b132 := hbb ((py.2.1 hL0).1) _ (cu_lt hx hy)
                refine cn_cge (t := 153) d_43_135 (by decide) (by first | omega | assumption | exact cu_36 (by omega) (cu_lt (by omega) (by omega))) (by first | omega | assumption | exact cu_36 (by omega) (cu_lt (by omega) (by omega))) (fun c135 => ?_) (fun c135 => ?_)
                · refine cn_inc d_43_153 rfl rfl ?_
                  show CR _ _ 156 [some (.ref 122), some (.ref a), some (.int (nI n)), some (.int (nI u_.1)), some (.int (nI x)), some (.int (nI (y + 1))), some (.int (nI ((uN n c f) (n * x + y))))] [] S (up2 G 125 0 (.int (nI n))) (upr B (125 + 1) u_.2) J R _
                  refine cr_nx (pc' := 66) (al' := [some (.ref 122), some (.ref a), some (.int (nI n)), some (.int (nI u_.1)), some (.int (nI x)), some (.int (nI (y + 1))), some (.int (nI ((uN n c f) (n * x + y))))]) (st' := []) d_43_156 (fun _ => rfl) ?_
                  refine cr_dr (al1 := [some (.ref 122), some (.ref a), some (.int (nI n)), some (.int (nI u_.1)), some (.int (nI x)), some (.int (nI (y + 1))), none]) (le_s (le_s (le_s (le_s (le_s (le_s (le_d rfl (le_n)))))))) ?_
                  exact ihy u_ (Ce_e (k := n * x + y) py (by omega) (by omega))
                · refine cn_ic (v := 1) d_43_138 (by decide) ?_
                  refine cr_nx (pc' := 140) (al' := [some (.ref 122), some (.ref a), some (.int (nI n)), some (.int (nI 1)), some (.int (nI x)), some (.int (nI y)), some (.int (nI ((uN n c f) (n * x + y))))]) (st' := []) d_43_139 (fun _ => rfl) ?_
                  refine cr_nx (pc' := 141) (al' := [some (.ref 122), some (.ref a), some (.int (nI n)), some (.int (nI 1)), some (.int (nI x)), some (.int (nI y)), some (.int (nI ((uN n c f) (n * x + y))))]) (st' := [.ref 122]) d_43_140 (fun _ => rfl) ?_
                  refine cr_gf (v := .ref 125) d_43_141 cw_43 cf_6_22 (hS.i (a := 122) (by decide) (by decide)) (hS.s (a := 122) (by decide) (by decide) rfl) (by decide) (by simp [up2, (show (132 : Nat) ≠ 125 + 1 by decide), (show (131 : Nat) ≠ 125 + 1 by decide)]; exact (fx_122_2 hF)) ?_
                  refine cr_nx (pc' := 146) (al' := [some (.ref 122), some (.ref a), some (.int (nI n)), some (.int (nI 1)), some (.int (nI x)), some (.int (nI y)), some (.int (nI ((uN n c f) (n * x + y))))]) (st' := [.int (nI x), .ref 125]) d_43_144 (fun _ => rfl) ?_
                  refine cr_nx (pc' := 148) (al' := [some (.ref 122), some (.ref a), some (.int (nI n)), some (.int (nI 1)), some (.int (nI x)), some (.int (nI y)), some (.int (nI ((uN n c f) (n * x + y))))]) (st' := [.int (nI y), .int (nI x), .ref 125]) d_43_146 (fun _ => rfl) ?_
                  refine cr_nx (pc' := 150) (al' := [some (.ref 122), some (.ref a), some (.int (nI n)), some (.int (nI 1)), some (.int (nI x)), some (.int (nI y)), some (.int (nI ((uN n c f) (n * x + y))))]) (st' := [.int (nI ((uN n c f) (n * x + y))), .int (nI y), .int (nI x), .ref 125]) d_43_148 (fun _ => rfl) ?_
                  refine cr_pv (b := 125) (as := [.int (nI x), .int (nI y), .int (nI ((uN n c f) (n * x + y)))]) (al0 := [some (.ref 125), some (.int (nI x)), some (.int (nI y)), some (.int (nI ((uN n c f) (n * x + y))))]) (r := []) d_43_150 cw_43 cm_6_88 cz_95 rfl rfl hbt.1 (by rw [cw_95]; exact hbt.2.2.1) (by rw [cw_95]; decide) rfl (Nat.le_of_ble_eq_true rfl) (k_put (hbt.up) up2_s (nI ((uN n c f) (n * x + y))) (cu_36 (by omega) (cu_lt (by omega) (by omega)))) ?_
                  rw [upr_s, upr_u]
                  show CR _ _ 153 [some (.ref 122), some (.ref a), some (.int (nI n)), some (.int (nI 1)), some (.int (nI x)), some (.int (nI y)), some (.int (nI ((uN n c f) (n * x + y))))] [] S (up2 G 125 0 (.int (nI n))) (upr B (125 + 1) (upd u_.2 (n * x + y) (nI ((uN n c f) (n * x + y))))) J R _
                  refine cn_inc d_43_153 rfl rfl ?_
                  show CR _ _ 156 [some (.ref 122), some (.ref a), some (.int (nI n)), some (.int (nI 1)), some (.int (nI x)), some (.int (nI (y + 1))), some (.int (nI ((uN n c f) (n * x + y))))] [] S (up2 G 125 0 (.int (nI n))) (upr B (125 + 1) (upd u_.2 (n * x + y) (nI ((uN n c f) (n * x + y))))) J R _
                  refine cr_nx (pc' := 66) (al' := [some (.ref 122), some (.ref a), some (.int (nI n)), some (.int (nI 1)), some (.int (nI x)), some (.int (nI (y + 1))), some (.int (nI ((uN n c f) (n * x + y))))]) (st' := []) d_43_156 (fun _ => rfl) ?_
                  refine cr_al (congrArg (fun z__ : Nat => ([some (.ref 122), some (.ref a), some (.int (nI n)), some (.int (nI z__)), some (.int (nI x)), some (.int (nI (y + 1))), some (.int (nI ((uN n c f) (n * x + y))))] : AL)) (show 1 = (1, (upd u_.2 (n * x + y) (nI ((uN n c f) (n * x + y))))).1 by first | rfl | omega | (simp only [SM_s]; omega) | (simp [SM_s, *]; done) | (simp [SM_s, *]; omega))) ?_
                  refine cr_dr (al1 := [some (.ref 122), some (.ref a), some (.int (nI n)), some (.int (nI ((1, (upd u_.2 (n * x + y) (nI ((uN n c f) (n * x + y))))).1))), some (.int (nI x)), some (.int (nI (y + 1))), none]) (le_s (le_s (le_s (le_s (le_s (le_s (le_d rfl (le_n)))))))) ?_
                  exact ihy (1, (upd u_.2 (n * x + y) (nI ((uN n c f) (n * x + y))))) (Ce_1 (k := n * x + y) py (Or.inr c135) rfl (by have := cu_lt hx hy; omega))
            · exact cr_rv d_43_117 cx_43 ⟨rfl, rfl, rfl, rfl, rfl, u_.2, rfl, Ce_out py hL0 c114⟩
      · show CR _ _ 66 [some (.ref 122), some (.ref a), some (.int (nI n)), some (.int (nI u_.1)), some (.int (nI x)), some (.int (nI n)), none] [] S (up2 G 125 0 (.int (nI n))) (upr B (125 + 1) u_.2) J R _
        refine cr_nx (pc' := 68) (al' := [some (.ref 122), some (.ref a), some (.int (nI n)), some (.int (nI u_.1)), some (.int (nI x)), some (.int (nI n)), none]) (st' := [.int (nI n)]) d_43_66 (fun _ => rfl) ?_
        refine cr_nx (pc' := 69) (al' := [some (.ref 122), some (.ref a), some (.int (nI n)), some (.int (nI u_.1)), some (.int (nI x)), some (.int (nI n)), none]) (st' := [.int (nI n), .int (nI n)]) d_43_68 (fun _ => rfl) ?_
        refine cn_cge (t := 159) d_43_69 (by decide) (by first | omega | assumption | exact cu_36 (by omega) (cu_lt (by omega) (by omega))) (by first | omega | assumption | exact cu_36 (by omega) (cu_lt (by omega) (by omega))) (fun c69 => ?_) (fun c69 => ?_)
        · refine cn_inc d_43_159 rfl rfl ?_
          show CR _ _ 162 [some (.ref 122), some (.ref a), some (.int (nI n)), some (.int (nI u_.1)), some (.int (nI (x + 1))), some (.int (nI n)), none] [] S (up2 G 125 0 (.int (nI n))) (upr B (125 + 1) u_.2) J R _
          refine cr_nx (pc' := 57) (al' := [some (.ref 122), some (.ref a), some (.int (nI n)), some (.int (nI u_.1)), some (.int (nI (x + 1))), some (.int (nI n)), none]) (st' := []) d_43_162 (fun _ => rfl) ?_
          refine cr_dr (al1 := [some (.ref 122), some (.ref a), some (.int (nI n)), some (.int (nI u_.1)), some (.int (nI (x + 1))), none, none]) (le_s (le_s (le_s (le_s (le_s (le_d rfl (le_s (le_n)))))))) ?_
          exact ihx u_ (by rw [Nat.mul_succ]; exact py)
        · omega
  · show CR _ _ 57 [some (.ref 122), some (.ref a), some (.int (nI n)), some (.int (nI u_.1)), some (.int (nI n)), none, none] [] S (up2 G 125 0 (.int (nI n))) (upr B (125 + 1) u_.2) J R _
    refine cr_nx (pc' := 59) (al' := [some (.ref 122), some (.ref a), some (.int (nI n)), some (.int (nI u_.1)), some (.int (nI n)), none, none]) (st' := [.int (nI n)]) d_43_57 (fun _ => rfl) ?_
    refine cr_nx (pc' := 60) (al' := [some (.ref 122), some (.ref a), some (.int (nI n)), some (.int (nI u_.1)), some (.int (nI n)), none, none]) (st' := [.int (nI n), .int (nI n)]) d_43_59 (fun _ => rfl) ?_
    refine cn_cge (t := 165) d_43_60 (by decide) (by first | omega | assumption | exact cu_36 (by omega) (cu_lt (by omega) (by omega))) (by first | omega | assumption | exact cu_36 (by omega) (cu_lt (by omega) (by omega))) (fun c60 => ?_) (fun c60 => ?_)
    · exact cr_rv d_43_165 cx_43 ⟨rfl, rfl, rfl, rfl, rfl, u_.2, rfl, Ce_end px⟩
    · omega
theorem k_offer_122 {S : CS} {G : Nat → Nat → Value} {B : Nat → Nat → Int32} {J : Nat → Nat → Int64} {R : Nat → Nat → Option Nat} (hS : ShOk S) (hF : FxG G) {a n h : Nat} {c bb f : Nat → Nat} (ht : TabAt S G a) (hn : G a 0 = .int (nI n)) (hc : TabC B a n c) (hl : Lat n c) (hab : a ≠ 125) (har : a + 1 ∉ [126, 131, 132]) (hP : Per n f) (hf : ∀ k, k < n → B 131 k = nI (f k)) (hh : h ≤ 1) (hbb : h = 1 → ∀ q, q < n * n → bb q < n) (hB : h = 1 → ∀ q, q < n * n → B (125 + 1) q = nI (bb q)) (hn1 : 1 ≤ n) (hsz : G 125 0 = .int (nI (n * h))) : CR 1 43 0 [some (.ref 122), some (.ref a), none, none, none, none, none] [] S G B J R (fun r_ S' G' B' J' R' => r_ = none ∧ S' = S ∧ G' = up2 G 125 0 (.int (nI n)) ∧ J' = J ∧ R' = R ∧ ∃ wt wb, B' = upr (upr B 132 wt) (125 + 1) wb ∧ ∃ b', (∀ q, q < n * n → wb q = nI (b' q) ∧ b' q < n) ∧ StpN (n * n) h bb (uN n c f) b') := by
  have hn6 := hc.1
  have har0 := har
  simp only [List.mem_cons, List.not_mem_nil, or_false, not_or] at har
  refine cr_nx (pc' := 1) (al' := [some (.ref 122), some (.ref a), none, none, none, none, none]) (st' := [.ref a]) d_43_0 (fun _ => rfl) ?_
  refine cr_gf (v := .int (nI n)) d_43_1 cw_43 cf_6_38 ht.1 ht.2.2.1 (by decide) hn ?_
  refine cr_nx (pc' := 5) (al' := [some (.ref 122), some (.ref a), some (.int (nI n)), none, none, none, none]) (st' := []) d_43_4 (fun _ => rfl) ?_
  refine cn_ic (v := 0) d_43_5 (by decide) ?_
  refine cr_nx (pc' := 7) (al' := [some (.ref 122), some (.ref a), some (.int (nI n)), some (.int (nI 0)), none, none, none]) (st' := []) d_43_6 (fun _ => rfl) ?_
  refine cr_B (show B = (upr B 132 (B 132)) by rw [upr_id]) ?_
  refine cr_upw (al := fun i w_ => [some (.ref 122), some (.ref a), some (.int (nI n)), some (.int (nI i)), none, none, none]) (S := fun i w_ => S) (G := fun i w_ => G) (B := fun i w_ => (upr B 132 w_)) (J := fun i w_ => J) (R := fun i w_ => R) (P := fun i w_ => ∀ k, k < i → w_ (f k) = nI k) (n := n) (fun i w_ hi pi ihi => ?_) (fun w_ pi => ?_) 0 (B 132) (by omega) (all_0)
  · show CR _ _ 7 [some (.ref 122), some (.ref a), some (.int (nI n)), some (.int (nI i)), none, none, none] [] S G (upr B 132 w_) J R _
    have hfi := hP.1 i hi
    refine cr_nx (pc' := 8) (al' := [some (.ref 122), some (.ref a), some (.int (nI n)), some (.int (nI i)), none, none, none]) (st' := [.int (nI i)]) d_43_7 (fun _ => rfl) ?_
    refine cr_nx (pc' := 9) (al' := [some (.ref 122), some (.ref a), some (.int (nI n)), some (.int (nI i)), none, none, none]) (st' := [.int (nI n), .int (nI i)]) d_43_8 (fun _ => rfl) ?_
    refine cn_cge (t := 30) d_43_9 (by decide) (by first | omega | assumption | exact cu_36 (by omega) (cu_lt (by omega) (by omega))) (by first | omega | assumption | exact cu_36 (by omega) (cu_lt (by omega) (by omega))) (fun c9 => ?_) (fun c9 => ?_)
    · omega
    · refine cr_nx (pc' := 13) (al' := [some (.ref 122), some (.ref a), some (.int (nI n)), some (.int (nI i)), none, none, none]) (st' := [.ref 122]) d_43_12 (fun _ => rfl) ?_
      refine cr_gf (v := .ref 132) d_43_13 cw_43 cf_6_35 (hS.i (a := 122) (by decide) (by decide)) (hS.s (a := 122) (by decide) (by decide) rfl) (by decide) (fx_122_6 hF) ?_
      refine cr_nx (pc' := 17) (al' := [some (.ref 122), some (.ref a), some (.int (nI n)), some (.int (nI i)), none, none, none]) (st' := [.ref 122, .ref 132]) d_43_16 (fun _ => rfl) ?_
      refine cr_gf (v := .ref 131) d_43_17 cw_43 cf_6_31 (hS.i (a := 122) (by decide) (by decide)) (hS.s (a := 122) (by decide) (by decide) rfl) (by decide) (fx_122_5 hF) ?_
      refine cr_nx (pc' := 21) (al' := [some (.ref 122), some (.ref a), some (.int (nI n)), some (.int (nI i)), none, none, none]) (st' := [.int (nI i), .ref 131, .ref 132]) d_43_20 (fun _ => rfl) ?_
      refine cr_ia (a := 131) (v := (nI (f i))) d_43_21 (hS.i (a := 131) (by decide) (by decide)) (hS.s (a := 131) (by decide) (by decide) rfl) (by first | decide | omega) (show i < 6 by first | omega | assumption | exact cu_36 (by omega) (cu_lt (by omega) (by omega))) ((congrFun (by rw [upr_n (show (131 : Nat) ≠ 132 by decide)] : (upr B 132 w_) 131 = B 131) _).trans (hf i hi)) ?_
      refine cr_nx (pc' := 23) (al' := [some (.ref 122), some (.ref a), some (.int (nI n)), some (.int (nI i)), none, none, none]) (st' := [.int (nI i), .int (nI (f i)), .ref 132]) d_43_22 (fun _ => rfl) ?_
      refine cr_iS (a := 132) (B1 := (upr B 132 (upd w_ (f i) (nI i)))) d_43_23 (hS.i (a := 132) (by decide) (by decide)) (hS.s (a := 132) (by decide) (by decide) rfl) (by first | decide | omega) (show f i < 6 by first | omega | assumption | exact cu_36 (by omega) (cu_lt (by omega) (by omega))) (by rw [upr_s, upr_u]) ?_
      refine cn_inc d_43_24 rfl rfl ?_
      show CR _ _ 27 [some (.ref 122), some (.ref a), some (.int (nI n)), some (.int (nI (i + 1))), none, none, none] [] S G (upr B 132 (upd w_ (f i) (nI i))) J R _
      refine cr_nx (pc' := 7) (al' := [some (.ref 122), some (.ref a), some (.int (nI n)), some (.int (nI (i + 1))), none, none, none]) (st' := []) d_43_27 (fun _ => rfl) ?_
      exact ihi (upd w_ (f i) (nI i)) (fun k hk => by
          by_cases e : k = i
          · rw [e, pk_us]
          · rw [pk_un (fun q => e (hP.2 _ _ (by omega) hi q))]
            exact pi k (by omega))
  · show CR _ _ 7 [some (.ref 122), some (.ref a), some (.int (nI n)), some (.int (nI n)), none, none, none] [] S G (upr B 132 w_) J R _
    have hto : ∀ v, v < n → upr B 132 w_ 132 v = nI (piv n f v) := fun v hv => by
      have q := pi _ (hP.v hv).1
      rw [(hP.v hv).2] at q
      rw [upr_s]
      exact q
    refine cr_nx (pc' := 8) (al' := [some (.ref 122), some (.ref a), some (.int (nI n)), some (.int (nI n)), none, none, none]) (st' := [.int (nI n)]) d_43_7 (fun _ => rfl) ?_
    refine cr_nx (pc' := 9) (al' := [some (.ref 122), some (.ref a), some (.int (nI n)), some (.int (nI n)), none, none, none]) (st' := [.int (nI n), .int (nI n)]) d_43_8 (fun _ => rfl) ?_
    refine cn_cge (t := 30) d_43_9 (by decide) (by first | omega | assumption | exact cu_36 (by omega) (cu_lt (by omega) (by omega))) (by first | omega | assumption | exact cu_36 (by omega) (cu_lt (by omega) (by omega))) (fun c9 => ?_) (fun c9 => ?_)
    · refine cr_nx (pc' := 31) (al' := [some (.ref 122), some (.ref a), some (.int (nI n)), some (.int (nI n)), none, none, none]) (st' := [.ref 122]) d_43_30 (fun _ => rfl) ?_
      refine cr_gf (v := .ref 125) d_43_31 cw_43 cf_6_22 (hS.i (a := 122) (by decide) (by decide)) (hS.s (a := 122) (by decide) (by decide) rfl) (by decide) (fx_122_2 hF) ?_
      refine cr_gf (v := .int (nI (n * h))) d_43_34 cw_43 cf_6_38 (hS.i (a := 125) (by decide) (by decide)) (hS.s (a := 125) (by decide) (by decide) rfl) (by decide) hsz ?_
      refine cn_ine (t := 44) d_43_37 (by decide) (by have := Nat.mul_le_mul hn6 hh; omega) (fun c37 => ?_) (fun c37 => ?_)
      · have hh1 : h = 1 := by
          rcases Nat.eq_zero_or_pos h with e | e
          · subst e; simp at c37
          · omega
        refine cn_ic (v := 0) d_43_44 (by decide) ?_
        refine cr_nx (pc' := 46) (al' := [some (.ref 122), some (.ref a), some (.int (nI n)), some (.int (nI 0)), none, none, none]) (st' := []) d_43_45 (fun _ => rfl) ?_
        refine cr_dr (al1 := [some (.ref 122), some (.ref a), some (.int (nI n)), some (.int (nI 0)), none, none, none]) (le_s (le_s (le_s (le_s (le_s (le_s (le_s (le_n)))))))) ?_
        refine cr_al (al1 := [some (.ref 122), some (.ref a), some (.int (nI n)), some (.int (nI (1 - h))), none, none, none]) (by rw [hh1]) ?_
        refine cr_cq (k_offer46_122 (h := h) (bb := bb) hS hF ht hn (TabC.u1 (by omega) hc) hl hab har0 hP (fun k hk => by rw [upr_n (by decide)]; exact hf k hk) hh hbb (fun h1 q hq => by rw [upr_n (by decide)]; exact hB h1 q hq) hto) (fun r_ S' G' B' J' R' hq => ?_)
        obtain ⟨z1, z2, z3, z4, z5, wb, z6, b', z7, z8, z9⟩ := hq
        refine ⟨z1, z2, z3, z4, z5, _, wb, z6, b', fun q hq => ⟨(z7 q hq).1, ?_⟩, z9⟩
        have z10 := uN_lt hl hP q hq
        by_cases e : h = 0
        · rw [z8 e q hq]; exact z10
        · rcases (z7 q hq).2 with z | z
          · rw [z]; exact hbb (by omega) q hq
          · rw [z]; exact z10
      · have hh1 : h = 0 := by
          rcases Nat.eq_zero_or_pos h with e | e
          · exact e
          · have : h = 1 := by omega
            subst this
            omega
        refine cn_ic (v := 1) d_43_40 (by decide) ?_
        refine cr_nx (pc' := 45) (al' := [some (.ref 122), some (.ref a), some (.int (nI n)), some (.int (nI n)), none, none, none]) (st' := [.int (nI 1)]) d_43_41 (fun _ => rfl) ?_
        refine cr_nx (pc' := 46) (al' := [some (.ref 122), some (.ref a), some (.int (nI n)), some (.int (nI 1)), none, none, none]) (st' := []) d_43_45 (fun _ => rfl) ?_
        refine cr_dr (al1 := [some (.ref 122), some (.ref a), some (.int (nI n)), some (.int (nI 1)), none, none, none]) (le_s (le_s (le_s (le_s (le_s (le_s (le_s (le_n)))))))) ?_
        refine cr_al (al1 := [some (.ref 122), some (.ref a), some (.int (nI n)), some (.int (nI (1 - h))), none, none, none]) (by rw [hh1]) ?_
        refine cr_cq (k_offer46_122 (h := h) (bb := bb) hS hF ht hn (TabC.u1 (by omega) hc) hl hab har0 hP (fun k hk => by rw [upr_n (by decide)]; exact hf k hk) hh hbb (fun h1 q hq => by rw [upr_n (by decide)]; exact hB h1 q hq) hto) (fun r_ S' G' B' J' R' hq => ?_)
        obtain ⟨z1, z2, z3, z4, z5, wb, z6, b', z7, z8, z9⟩ := hq
        refine ⟨z1, z2, z3, z4, z5, _, wb, z6, b', fun q hq => ⟨(z7 q hq).1, ?_⟩, z9⟩
        have z10 := uN_lt hl hP q hq
        by_cases e : h = 0
        · rw [z8 e q hq]; exact z10
        · rcases (z7 q hq).2 with z | z
          · rw [z]; exact hbb (by omega) q hq
          · rw [z]; exact z10
    · omega
