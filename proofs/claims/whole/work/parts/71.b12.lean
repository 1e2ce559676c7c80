/-! Names, the class: all offers; printed by wip/whole/gen_b12.py. -/
theorem FX_cg {p p' : Nat → Bool} {n : Nat} (e : ∀ k, k < n → p k = p' k) : FX p n = FX p' n := by
  rcases Nat.lt_trichotomy (FX p n) (FX p' n) with h | h | h
  · have h1 := FX_le p' n
    have h2 := FX_yes p n (by omega)
    have h3 := FX_no p' n _ h
    rw [e _ (by omega), h3] at h2
    cases h2
  · exact h
  · have h1 := FX_le p n
    have h2 := FX_yes p' n (by omega)
    have h3 := FX_no p n _ h
    rw [e _ (by omega), h2] at h3
    cases h3
theorem undI_cg {n : Nat} {c d : Nat → Nat} (e : ∀ q, q < n * n → c q = d q) {x : Nat} (hx : x < n) (v : Nat) : undI n c x v = undI n d x v := FX_cg fun k hk => by rw [e _ (cu_lt hx hk)]
theorem ovrI_cg {n : Nat} {c d : Nat → Nat} (e : ∀ q, q < n * n → c q = d q) {x : Nat} (hx : x < n) (v : Nat) : ovrI n c v x = ovrI n d v x := FX_cg fun k hk => by rw [e _ (cu_lt hk hx)]
theorem isN_cg {n : Nat} {c d : Nat → Nat} (hl : Lat n c) (e : ∀ q, q < n * n → c q = d q) {a b : Nat} (ha : a < n) (hb : b < n) : ∀ q, q < n * n → isN n c a b q = isN n d a b q := fun q hq => by
  unfold isN
  rw [← ovrI_cg e hb, ← undI_cg e ha]
  exact e _ (cu_lt (hl.o hb (dm_dl hq)).1 (hl.u ha (dm_ml hq)).1)
theorem cjN_cg {n : Nat} {c d : Nat → Nat} (hl : Lat n c) (e : ∀ q, q < n * n → c q = d q) (w : Nat) : ∀ q, q < n * n → cjN w n c q = cjN w n d q := fun q hq => by
  have h1 := dm_dl hq
  have h2 := dm_ml hq
  unfold cjN
  split
  · exact e q hq
  · exact e _ (cu_lt h2 h1)
  · exact undI_cg e h1 _
  · exact undI_cg e h2 _
  · exact ovrI_cg e h1 _
  · exact ovrI_cg e h2 _
theorem FR_cg {n : Nat} {c d : Nat → Nat} (hl : Lat n c) (e : ∀ q, q < n * n → c q = d q) {z : Option Nat} {t : Nat → Nat} (h : FR n c z t) : FR n d z t := by
  obtain ⟨p, hP, h1, h2⟩ := h
  refine ⟨p, hP, h1, fun q hq => ?_⟩
  rw [h2 q hq]
  unfold rnN
  rw [e _ (cu_lt (hP.v (dm_dl hq)).1 (hP.v (dm_ml hq)).1)]
theorem NmF_c1 {l n : Nat} {c d : Nat → Nat} (hl : Lat n c) (e : ∀ q, q < n * n → c q = d q) {t : Nat → Nat} (h : NmF l n c t) : NmF l n d t := by
  have key : ∀ W, NmK n c W t → NmK n d W t := by
    rintro W ⟨w, hw, k, hk, h⟩
    refine ⟨w, hw, k, hk, ?_⟩
    unfold FK at h ⊢
    rw [← cjN_cg hl e w k hk]
    exact FR_cg (isN_lat (cj_lat hl) (dm_dl hk) (dm_ml hk)) (isN_cg (cj_lat hl) (cjN_cg hl e w) (dm_dl hk) (dm_ml hk)) h
  match l with
  | 0 => exact FR_cg hl e h
  | 1 => exact key 1 h
  | l + 2 => exact key 6 h
theorem NmF_cg {l n : Nat} {c d : Nat → Nat} (hl : Lat n c) (e : ∀ q, q < n * n → c q = d q) (t : Nat → Nat) : NmF l n c t ↔ NmF l n d t := ⟨NmF_c1 hl e, NmF_c1 (hl.cg (fun q hq => (e q hq).symm)) (fun q hq => (e q hq).symm)⟩
def UF (n : Nat) (c : Nat → Nat) (r i : Nat) (t : Nat → Nat) : Prop := ∃ s, r ≤ s ∧ s < r + i ∧ ∀ q, q < n * n → t q = uN n c (pmE n s) q
theorem UF_0 {n : Nat} {c : Nat → Nat} {r : Nat} {F : (Nat → Nat) → Prop} (t : Nat → Nat) : F t ↔ (F t ∨ UF n c r 0 t) := ⟨Or.inl, fun h => h.elim id (fun ⟨s, h1, h2, _⟩ => by omega)⟩
theorem UF_s {n : Nat} {c : Nat → Nat} {r i : Nat} {F : (Nat → Nat) → Prop} (t : Nat → Nat) : ((F t ∨ UF n c r i t) ∨ ∀ q, q < n * n → t q = uN n c (pmE n (r + i)) q) ↔ (F t ∨ UF n c r (i + 1) t) := by
  constructor
  · rintro ((h | ⟨s, h1, h2, h3⟩) | h)
    · exact Or.inl h
    · exact Or.inr ⟨s, h1, by omega, h3⟩
    · exact Or.inr ⟨r + i, by omega, by omega, h⟩
  · rintro (h | ⟨s, h1, h2, h3⟩)
    · exact Or.inl (Or.inl h)
    · by_cases e : s = r + i
      · subst e
        exact Or.inr h3
      · exact Or.inl (Or.inr ⟨s, h1, by omega, h3⟩)
theorem z_blk {n z i : Nat} (h1 : 1 ≤ n) (hz : z < n) (hi : i < FA (n - 1)) : z * FA (n - 1) + i < FA n := by
  have hFn : FA n = n * FA (n - 1) := by
    obtain ⟨m, rfl⟩ : ∃ m, n = m + 1 := ⟨n - 1, by omega⟩
    rfl
  have : z * FA (n - 1) + FA (n - 1) ≤ n * FA (n - 1) := by
    rw [← Nat.succ_mul]
    exact Nat.mul_le_mul_right _ hz
  omega
theorem z_mod {n z i : Nat} (hi : i + 1 < FA (n - 1)) : (z * FA (n - 1) + i + 1) % FA (n - 1) ≠ 0 := by
  rw [Nat.add_assoc, Nat.mul_comm, Nat.mul_add_mod, Nat.mod_eq_of_lt hi]
  omega
/-- what a namer's best is -/
def NmB (be : Nat) (G : Nat → Nat → Value) (B : Nat → Nat → Int32) (n h : Nat) (bb : Nat → Nat) : Prop := G be 0 = .int (nI (n * h)) ∧ h ≤ 1 ∧ (h = 1 → ∀ q, q < n * n → B (be + 1) q = nI (bb q) ∧ bb q < n)
theorem NmB.cg {be : Nat} {G G' : Nat → Nat → Value} {B B' : Nat → Nat → Int32} {n h : Nat} {bb : Nat → Nat} (H : NmB be G B n h bb) (hG : G' be 0 = G be 0) (hB : B' (be + 1) = B (be + 1)) : NmB be G' B' n h bb := ⟨by rw [hG]; exact H.1, H.2.1, fun e q hq => by rw [hB]; exact H.2.2 e q hq⟩
theorem Fx_u {G : Nat → Nat → Value} {a : Nat} {v : Value} (h : FxG G) (ha : a ∉ [2, 3, 96, 111, 122]) : FxG (up2 G a 0 v) := h.u0 ha
theorem FK_s {n : Nat} {e : Nat → Nat} {F : (Nat → Nat) → Prop} {i : Nat} (t : Nat → Nat) : ((F t ∨ ∃ k, k < i ∧ FR n (isN n e (k / n) (k % n)) (some (e k)) t) ∨ FR n (isN n e (i / n) (i % n)) (some (e i)) t) ↔ (F t ∨ ∃ k, k < i + 1 ∧ FR n (isN n e (k / n) (k % n)) (some (e k)) t) := by
  constructor
  · rintro ((h | ⟨k, hk, h⟩) | h)
    · exact Or.inl h
    · exact Or.inr ⟨k, by omega, h⟩
    · exact Or.inr ⟨i, by omega, h⟩
  · rintro (h | ⟨k, hk, h⟩)
    · exact Or.inl (Or.inl h)
    · rcases Nat.lt_succ_iff_lt_or_eq.mp hk with e | e
      · exact Or.inl (Or.inr ⟨k, e, h⟩)
      · subst e
        exact Or.inr h
theorem k_startFrom_111 {S : CS} {G : Nat → Nat → Value} {B : Nat → Nat → Int32} {J : Nat → Nat → Int64} {R : Nat → Nat → Option Nat} (hS : ShOk S) (hF : FxG G) {z : Nat} (hz : z < 6) : CR 0 45 0 [some (.ref 111), some (.int (nI z)), none] [] S G B J R (rwC 120 S G B J R 6 (fun k => nI (if k = 0 then z else if k ≤ z then k - 1 else k))) := by
  refine cr_nx (pc' := 1) (al' := [some (.ref 111), some (.int (nI z)), none]) (st' := [.ref 111]) d_45_0 (fun _ => rfl) ?_
  refine cr_gf (v := .ref 120) d_45_1 cw_45 cf_6_31 (hS.i (a := 111) (by decide) (by decide)) (hS.s (a := 111) (by decide) (by decide) rfl) (by decide) (fx_111_5 hF) ?_
  refine cn_ic (v := 0) d_45_4 (by decide) ?_
  refine cr_nx (pc' := 6) (al' := [some (.ref 111), some (.int (nI z)), none]) (st' := [.int (nI z), .int (nI 0), .ref 120]) d_45_5 (fun _ => rfl) ?_
  refine cr_iS (a := 120) (B1 := (upr B 120 (upd (B 120) 0 (nI z)))) d_45_6 (hS.i (a := 120) (by decide) (by decide)) (hS.s (a := 120) (by decide) (by decide) rfl) (by first | decide | omega) (show 0 < 6 by first | omega | assumption | exact cu_36 (by omega) (cu_lt (by omega) (by omega))) rfl ?_
  refine cn_ic (v := 1) d_45_7 (by decide) ?_
  refine cr_nx (pc' := 9) (al' := [some (.ref 111), some (.int (nI z)), some (.int (nI 1))]) (st' := []) d_45_8 (fun _ => rfl) ?_
  refine cr_upw (al := fun i w_ => [some (.ref 111), some (.int (nI z)), some (.int (nI i))]) (S := fun i w_ => S) (G := fun i w_ => G) (B := fun i w_ => (upr B 120 w_)) (J := fun i w_ => J) (R := fun i w_ => R) (P := fun i w_ => 1 ≤ i ∧ ∀ k, k < i → w_ k = nI (if k = 0 then z else if k ≤ z then k - 1 else k)) (n := 6) (fun i w_ hi pi ihi => ?_) (fun w_ pi => ?_) 1 (upd (B 120) 0 (nI z)) (by omega) (⟨by omega, fun k hk => by rw [show k = 0 by omega, pk_us, if_pos rfl]⟩)
  · show CR _ _ 9 [some (.ref 111), some (.int (nI z)), some (.int (nI i))] [] S G (upr B 120 w_) J R _
    refine cr_nx (pc' := 10) (al' := [some (.ref 111), some (.int (nI z)), some (.int (nI i))]) (st' := [.int (nI i)]) d_45_9 (fun _ => rfl) ?_
    refine cn_bp (v := 6) d_45_10 (by decide) ?_
    refine cn_cge (t := 39) d_45_12 (by decide) (by first | omega | assumption | exact cu_36 (by omega) (cu_lt (by omega) (by omega))) (by first | omega | assumption | exact cu_36 (by omega) (cu_lt (by omega) (by omega))) (fun c12 => ?_) (fun c12 => ?_)
    · omega
    · refine cr_nx (pc' := 16) (al' := [some (.ref 111), some (.int (nI z)), some (.int (nI i))]) (st' := [.ref 111]) d_45_15 (fun _ => rfl) ?_
      refine cr_gf (v := .ref 120) d_45_16 cw_45 cf_6_31 (hS.i (a := 111) (by decide) (by decide)) (hS.s (a := 111) (by decide) (by decide) rfl) (by decide) (fx_111_5 hF) ?_
      refine cr_nx (pc' := 20) (al' := [some (.ref 111), some (.int (nI z)), some (.int (nI i))]) (st' := [.int (nI i), .ref 120]) d_45_19 (fun _ => rfl) ?_
      refine cr_nx (pc' := 21) (al' := [some (.ref 111), some (.int (nI z)), some (.int (nI i))]) (st' := [.int (nI i), .int (nI i), .ref 120]) d_45_20 (fun _ => rfl) ?_
      refine cr_nx (pc' := 22) (al' := [some (.ref 111), some (.int (nI z)), some (.int (nI i))]) (st' := [.int (nI z), .int (nI i), .int (nI i), .ref 120]) d_45_21 (fun _ => rfl) ?_
      refine cn_cgt (t := 31) d_45_22 (by decide) (by first | omega | assumption | exact cu_36 (by omega) (cu_lt (by omega) (by omega))) (by first | omega | assumption | exact cu_36 (by omega) (cu_lt (by omega) (by omega))) (fun c22 => ?_) (fun c22 => ?_)
      · refine cr_nx (pc' := 32) (al' := [some (.ref 111), some (.int (nI z)), some (.int (nI i))]) (st' := [.int (nI i), .int (nI i), .ref 120]) d_45_31 (fun _ => rfl) ?_
        refine cr_iS (a := 120) (B1 := (upr B 120 (upd w_ i (nI i)))) d_45_32 (hS.i (a := 120) (by decide) (by decide)) (hS.s (a := 120) (by decide) (by decide) rfl) (by first | decide | omega) (show i < 6 by first | omega | assumption | exact cu_36 (by omega) (cu_lt (by omega) (by omega))) (by rw [upr_s, upr_u]) ?_
        refine cn_inc d_45_33 rfl rfl ?_
        show CR _ _ 36 [some (.ref 111), some (.int (nI z)), some (.int (nI (i + 1)))] [] S G (upr B 120 (upd w_ i (nI i))) J R _
        refine cr_nx (pc' := 9) (al' := [some (.ref 111), some (.int (nI z)), some (.int (nI (i + 1)))]) (st' := []) d_45_36 (fun _ => rfl) ?_
        exact ihi (upd w_ i (nI i)) (⟨by omega, up_all (f := fun k => nI (if k = 0 then z else if k ≤ z then k - 1 else k)) pi.2 (by (try dsimp only); rw [if_neg (show ¬ i = 0 by have := pi.1; omega)]; first | rw [if_pos c22] | rw [if_neg (Nat.not_le.mpr c22)])⟩)
      · refine cr_nx (pc' := 26) (al' := [some (.ref 111), some (.int (nI z)), some (.int (nI i))]) (st' := [.int (nI i), .int (nI i), .ref 120]) d_45_25 (fun _ => rfl) ?_
        refine cn_ic (v := 1) d_45_26 (by decide) ?_
        refine cn_sub d_45_27 (by have := pi.1; omega) ?_
        refine cr_nx (pc' := 32) (al' := [some (.ref 111), some (.int (nI z)), some (.int (nI i))]) (st' := [.int (nI (i - 1)), .int (nI i), .ref 120]) d_45_28 (fun _ => rfl) ?_
        refine cr_iS (a := 120) (B1 := (upr B 120 (upd w_ i (nI (i - 1))))) d_45_32 (hS.i (a := 120) (by decide) (by decide)) (hS.s (a := 120) (by decide) (by decide) rfl) (by first | decide | omega) (show i < 6 by first | omega | assumption | exact cu_36 (by omega) (cu_lt (by omega) (by omega))) (by rw [upr_s, upr_u]) ?_
        refine cn_inc d_45_33 rfl rfl ?_
        show CR _ _ 36 [some (.ref 111), some (.int (nI z)), some (.int (nI (i + 1)))] [] S G (upr B 120 (upd w_ i (nI (i - 1)))) J R _
        refine cr_nx (pc' := 9) (al' := [some (.ref 111), some (.int (nI z)), some (.int (nI (i + 1)))]) (st' := []) d_45_36 (fun _ => rfl) ?_
        exact ihi (upd w_ i (nI (i - 1))) (⟨by omega, up_all (f := fun k => nI (if k = 0 then z else if k ≤ z then k - 1 else k)) pi.2 (by (try dsimp only); rw [if_neg (show ¬ i = 0 by have := pi.1; omega)]; first | rw [if_pos c22] | rw [if_neg (Nat.not_le.mpr c22)])⟩)
  · show CR _ _ 9 [some (.ref 111), some (.int (nI z)), some (.int (nI 6))] [] S G (upr B 120 w_) J R _
    refine cr_nx (pc' := 10) (al' := [some (.ref 111), some (.int (nI z)), some (.int (nI 6))]) (st' := [.int (nI 6)]) d_45_9 (fun _ => rfl) ?_
    refine cn_bp (v := 6) d_45_10 (by decide) ?_
    refine cn_cge (t := 39) d_45_12 (by decide) (by first | omega | assumption | exact cu_36 (by omega) (cu_lt (by omega) (by omega))) (by first | omega | assumption | exact cu_36 (by omega) (cu_lt (by omega) (by omega))) (fun c12 => ?_) (fun c12 => ?_)
    · exact cr_rv d_45_39 cx_45 ⟨rfl, rfl, rfl, rfl, rfl, w_, rfl, pi.2⟩
    · omega
theorem k_offerFrom0_111 {S : CS} {G : Nat → Nat → Value} {B : Nat → Nat → Int32} {J : Nat → Nat → Int64} {R : Nat → Nat → Option Nat} (hS : ShOk S) (hF : FxG G) {a n h : Nat} {c bb : Nat → Nat} {F : (Nat → Nat) → Prop} (ht : TabAt S G a) (hn : G a 0 = .int (nI n)) (hc : TabC B a n c) (hl : Lat n c) (hn1 : 1 ≤ n) (hab : a ≠ 114) (har : a + 1 ∉ [115, 120, 121]) (hf : ∀ k, k < n → B 120 k = nI (pmE n (0) k)) (hB : NmB 114 G B n h bb) (hM : MinS (n * n) F h bb) : CR 2 42 0 [some (.ref 111), some (.ref a), some (.int (nI 0)), none, none] [] S G B J R (fun r_ S' G' B' J' R' => r_ = none ∧ S' = S ∧ J' = J ∧ R' = R ∧ FxG G' ∧ Gfr [114] G G' ∧ Bfr [115, 120, 121] B B' ∧ ∃ h' bb', NmB 114 G' B' n h' bb' ∧ MinS (n * n) (fun t => F t ∨ FR n c none t) h' bb') := by
  have hn6 := hc.1
  have h720 := FA_720 (n := n - 0) (by omega)
  refine cr_gs d_42_0 cw_42 cq_6_78 ?_
  refine cr_nx (pc' := 4) (al' := [some (.ref 111), some (.ref a), some (.int (nI 0)), none, none]) (st' := [.ref a, .ref 0]) d_42_3 (fun _ => rfl) ?_
  refine cr_gf (v := .int (nI n)) d_42_4 cw_42 cf_6_38 ht.1 ht.2.2.1 (by decide) (by first | exact hn | (rw [pi.2.1 a (by simp; omega)]; exact hn)) ?_
  refine cr_nx (pc' := 8) (al' := [some (.ref 111), some (.ref a), some (.int (nI 0)), none, none]) (st' := [.int (nI 0), .int (nI n), .ref 0]) d_42_7 (fun _ => rfl) ?_
  refine cn_sub d_42_8 (by first | omega | assumption | exact cu_36 (by omega) (cu_lt (by omega) (by omega))) ?_
  refine cr_fa (v := (nI (FA (n - 0)))) d_42_9 (show n - 0 < 7 by omega) (am_fcN (by omega)) ?_
  refine cr_nx (pc' := 11) (al' := [some (.ref 111), some (.ref a), some (.int (nI 0)), some (.int (nI (FA (n - 0)))), none]) (st' := []) d_42_10 (fun _ => rfl) ?_
  refine cn_ic (v := 0) d_42_11 (by decide) ?_
  refine cr_nx (pc' := 14) (al' := [some (.ref 111), some (.ref a), some (.int (nI 0)), some (.int (nI (FA (n - 0)))), some (.int (nI 0))]) (st' := []) d_42_12 (fun _ => rfl) ?_
  refine cr_upw (al := fun i u_ => [some (.ref 111), some (.ref a), some (.int (nI 0)), some (.int (nI (FA (n - 0)))), some (.int (nI i))]) (S := fun i u_ => S) (G := fun i u_ => u_.2.2.1) (B := fun i u_ => u_.2.2.2) (J := fun i u_ => J) (R := fun i u_ => R) (P := fun i u_ => FxG u_.2.2.1 ∧ Gfr [114] G u_.2.2.1 ∧ Bfr [115, 120, 121] B u_.2.2.2 ∧ NmB 114 u_.2.2.1 u_.2.2.2 n u_.1 u_.2.1 ∧ MinS (n * n) (fun t => F t ∨ UF n c (0) i t) u_.1 u_.2.1 ∧ (i < FA (n - 0) → ∀ k, k < n → u_.2.2.2 120 k = nI (pmE n (0 + i) k))) (n := FA (n - 0)) (fun i u_ hi pi ihi => ?_) (fun u_ pi => ?_) 0 (h, bb, G, B) (by omega) (⟨hF, Gfr.rf, Bfr.rf, hB, Min_iff hM UF_0, fun _ => hf⟩)
  · show CR _ _ 14 [some (.ref 111), some (.ref a), some (.int (nI 0)), some (.int (nI (FA (n - 0)))), some (.int (nI i))] [] S u_.2.2.1 u_.2.2.2 J R _
    have hP := pm_per (n := n) (r := 0 + i) hn6 (by rw [Nat.zero_add]; exact hi)
    refine cr_nx (pc' := 16) (al' := [some (.ref 111), some (.ref a), some (.int (nI 0)), some (.int (nI (FA (n - 0)))), some (.int (nI i))]) (st' := [.int (nI i)]) d_42_14 (fun _ => rfl) ?_
    refine cr_nx (pc' := 17) (al' := [some (.ref 111), some (.ref a), some (.int (nI 0)), some (.int (nI (FA (n - 0)))), some (.int (nI i))]) (st' := [.int (nI (FA (n - 0))), .int (nI i)]) d_42_16 (fun _ => rfl) ?_
    refine cn_cge (t := 43) d_42_17 (by decide) (by first | omega | assumption | exact cu_36 (by omega) (cu_lt (by omega) (by omega))) (by first | omega | assumption | exact cu_36 (by omega) (cu_lt (by omega) (by omega))) (fun c17 => ?_) (fun c17 => ?_)
    · omega
    · refine cr_nx (pc' := 21) (al' := [some (.ref 111), some (.ref a), some (.int (nI 0)), some (.int (nI (FA (n - 0)))), some (.int (nI i))]) (st' := [.ref 111]) d_42_20 (fun _ => rfl) ?_
      refine cr_nx (pc' := 22) (al' := [some (.ref 111), some (.ref a), some (.int (nI 0)), some (.int (nI (FA (n - 0)))), some (.int (nI i))]) (st' := [.ref a, .ref 111]) d_42_21 (fun _ => rfl) ?_
      refine cr_cv (b := 111) (as := [.ref a]) (al0 := [some (.ref 111), some (.ref a), none, none, none, none, none]) (r := []) d_42_22 cw_42 cm_6_81 cz_43 rfl rfl (hS.i (a := 111) (by decide) (by decide)) (by rw [cw_43]; exact (hS.s (a := 111) (by decide) (by decide) rfl)) (by rw [cw_43]; decide) rfl (cr_wk (Nat.le_of_ble_eq_true rfl) (k_offer_111 (h := u_.1) (bb := u_.2.1) (f := pmE n (0 + i)) hS pi.1 (pi.2.1.t (by simp; omega) ht) (by rw [pi.2.1 a (by simp; omega)]; exact hn) (pi.2.2.1.c har hc) hl hab har hP (pi.2.2.2.2.2 hi) pi.2.2.2.1.2.1 (fun e q hq => (pi.2.2.2.1.2.2 e q hq).2) (fun e q hq => (pi.2.2.2.1.2.2 e q hq).1) hn1 pi.2.2.2.1.1)) (fun v1 S1 G1 B1 J1 R1 h1 => ?_)
      obtain ⟨q0_, q1_, q2_, q3_, q4_, wt, wb, q5_, b2, hb2, hs2⟩ := h1
      obtain rfl := q0_
      obtain rfl := q1_.symm
      obtain rfl := q2_
      obtain rfl := q3_.symm
      obtain rfl := q4_.symm
      obtain rfl := q5_
      show CR _ _ 25 [some (.ref 111), some (.ref a), some (.int (nI 0)), some (.int (nI (FA (n - 0)))), some (.int (nI i))] [] S (up2 u_.2.2.1 114 0 (.int (nI n))) (upr (upr u_.2.2.2 121 wt) (114 + 1) wb) J R _
      refine cr_nx (pc' := 26) (al' := [some (.ref 111), some (.ref a), some (.int (nI 0)), some (.int (nI (FA (n - 0)))), some (.int (nI i))]) (st' := [.ref 111]) d_42_25 (fun _ => rfl) ?_
      refine cr_gf (v := .ref 120) d_42_26 cw_42 cf_6_31 (hS.i (a := 111) (by decide) (by decide)) (hS.s (a := 111) (by decide) (by decide) rfl) (by decide) (by simp [up2, hab]; exact (fx_111_5 pi.1)) ?_
      refine cr_nx (pc' := 30) (al' := [some (.ref 111), some (.ref a), some (.int (nI 0)), some (.int (nI (FA (n - 0)))), some (.int (nI i))]) (st' := [.int (nI 0), .ref 120]) d_42_29 (fun _ => rfl) ?_
      refine cr_nx (pc' := 31) (al' := [some (.ref 111), some (.ref a), some (.int (nI 0)), some (.int (nI (FA (n - 0)))), some (.int (nI i))]) (st' := [.ref a, .int (nI 0), .ref 120]) d_42_30 (fun _ => rfl) ?_
      refine cr_gf (v := .int (nI n)) d_42_31 cw_42 cf_6_38 ht.1 ht.2.2.1 (by decide) (by simp [up2, hab]; exact (by first | exact hn | (rw [pi.2.1 a (by simp; omega)]; exact hn))) ?_
      refine cr_cs (as := [.ref 120, .int (nI 0), .int (nI n)]) (al0 := [some (.ref 120), some (.int (nI 0)), some (.int (nI n)), none, none, none]) (r := []) d_42_34 cw_42 cm_6_84 (by decide) cz_157 rfl rfl rfl (cr_wk (Nat.le_of_ble_eq_true rfl) (k_permuteOn (f := pmE n (0 + i)) (hS.i (a := 120) (by decide) (by decide)) (hS.s (a := 120) (by decide) (by decide) rfl) (by decide) (by omega) (by omega) (by omega) (pm_31 hn6 (by rw [Nat.zero_add]; exact hi)) (fun q hq => by rw [upr_n (by decide), upr_n (by decide)]; exact pi.2.2.2.2.2 hi q hq))) (fun v1 S1 G1 B1 J1 R1 h1 => ?_)
      obtain ⟨q0_, q1_, q2_, q3_, q4_, w34, q9_, hw34⟩ := h1
      obtain rfl := q0_
      obtain rfl := q1_.symm
      obtain rfl := q2_.symm
      obtain rfl := q3_.symm
      obtain rfl := q4_.symm
      obtain rfl := q9_
      show CR _ _ 37 [some (.ref 111), some (.ref a), some (.int (nI 0)), some (.int (nI (FA (n - 0)))), some (.int (nI i))] [] S (up2 u_.2.2.1 114 0 (.int (nI n))) (upr (upr (upr u_.2.2.2 121 wt) (114 + 1) wb) 120 w34) J R _
      refine cn_inc d_42_37 rfl rfl ?_
      show CR _ _ 40 [some (.ref 111), some (.ref a), some (.int (nI 0)), some (.int (nI (FA (n - 0)))), some (.int (nI (i + 1)))] [] S (up2 u_.2.2.1 114 0 (.int (nI n))) (upr (upr (upr u_.2.2.2 121 wt) (114 + 1) wb) 120 w34) J R _
      refine cr_nx (pc' := 14) (al' := [some (.ref 111), some (.ref a), some (.int (nI 0)), some (.int (nI (FA (n - 0)))), some (.int (nI (i + 1)))]) (st' := []) d_42_40 (fun _ => rfl) ?_
      exact ihi (1, b2, (up2 u_.2.2.1 114 0 (.int (nI n))), (upr (upr (upr u_.2.2.2 121 wt) (114 + 1) wb) 120 w34)) (⟨pi.1.u0 (by decide), pi.2.1.u (by decide), ((pi.2.2.1.u (by decide)).u (by decide)).u (by decide), ⟨by dsimp only; rw [up2_s, Nat.mul_one], Nat.le_refl 1, fun _ q hq => by dsimp only; rw [upr_n (by decide), upr_s]; exact hb2 q hq⟩, Min_iff (Min_st pi.2.2.2.2.1 hs2) UF_s, fun hr q hq => by dsimp only; rw [upr_s, hw34 q hq]; exact congrArg nI (by rw [Nat.zero_add, Nat.zero_add]; exact nx_pm hn6 hr hq)⟩)
  · show CR _ _ 14 [some (.ref 111), some (.ref a), some (.int (nI 0)), some (.int (nI (FA (n - 0)))), some (.int (nI (FA (n - 0))))] [] S u_.2.2.1 u_.2.2.2 J R _
    refine cr_nx (pc' := 16) (al' := [some (.ref 111), some (.ref a), some (.int (nI 0)), some (.int (nI (FA (n - 0)))), some (.int (nI (FA (n - 0))))]) (st' := [.int (nI (FA (n - 0)))]) d_42_14 (fun _ => rfl) ?_
    refine cr_nx (pc' := 17) (al' := [some (.ref 111), some (.ref a), some (.int (nI 0)), some (.int (nI (FA (n - 0)))), some (.int (nI (FA (n - 0))))]) (st' := [.int (nI (FA (n - 0))), .int (nI (FA (n - 0)))]) d_42_16 (fun _ => rfl) ?_
    refine cn_cge (t := 43) d_42_17 (by decide) (by first | omega | assumption | exact cu_36 (by omega) (cu_lt (by omega) (by omega))) (by first | omega | assumption | exact cu_36 (by omega) (cu_lt (by omega) (by omega))) (fun c17 => ?_) (fun c17 => ?_)
    · exact cr_rv d_42_43 cx_42 ⟨rfl, rfl, rfl, rfl, pi.1, pi.2.1, pi.2.2.1, u_.1, u_.2.1, pi.2.2.2.1, Min_iff pi.2.2.2.2.1 (fun t => or_congr Iff.rfl (FR_u0 hn6 hl t).symm)⟩
    · omega
theorem k_offerFrom1_111 {S : CS} {G : Nat → Nat → Value} {B : Nat → Nat → Int32} {J : Nat → Nat → Int64} {R : Nat → Nat → Option Nat} (hS : ShOk S) (hF : FxG G) {a n h : Nat} {c bb : Nat → Nat} {F : (Nat → Nat) → Prop} {z : Nat} (hz : z < n) (ht : TabAt S G a) (hn : G a 0 = .int (nI n)) (hc : TabC B a n c) (hl : Lat n c) (hn1 : 1 ≤ n) (hab : a ≠ 114) (har : a + 1 ∉ [115, 120, 121]) (hf : ∀ k, k < n → B 120 k = nI (pmE n (z * FA (n - 1)) k)) (hB : NmB 114 G B n h bb) (hM : MinS (n * n) F h bb) : CR 2 42 0 [some (.ref 111), some (.ref a), some (.int (nI 1)), none, none] [] S G B J R (fun r_ S' G' B' J' R' => r_ = none ∧ S' = S ∧ J' = J ∧ R' = R ∧ FxG G' ∧ Gfr [114] G G' ∧ Bfr [115, 120, 121] B B' ∧ ∃ h' bb', NmB 114 G' B' n h' bb' ∧ MinS (n * n) (fun t => F t ∨ FR n c (some z) t) h' bb') := by
  have hn6 := hc.1
  have h720 := FA_720 (n := n - 1) (by omega)
  refine cr_gs d_42_0 cw_42 cq_6_78 ?_
  refine cr_nx (pc' := 4) (al' := [some (.ref 111), some (.ref a), some (.int (nI 1)), none, none]) (st' := [.ref a, .ref 0]) d_42_3 (fun _ => rfl) ?_
  refine cr_gf (v := .int (nI n)) d_42_4 cw_42 cf_6_38 ht.1 ht.2.2.1 (by decide) (by first | exact hn | (rw [pi.2.1 a (by simp; omega)]; exact hn)) ?_
  refine cr_nx (pc' := 8) (al' := [some (.ref 111), some (.ref a), some (.int (nI 1)), none, none]) (st' := [.int (nI 1), .int (nI n), .ref 0]) d_42_7 (fun _ => rfl) ?_
  refine cn_sub d_42_8 (by first | omega | assumption | exact cu_36 (by omega) (cu_lt (by omega) (by omega))) ?_
  refine cr_fa (v := (nI (FA (n - 1)))) d_42_9 (show n - 1 < 7 by omega) (am_fcN (by omega)) ?_
  refine cr_nx (pc' := 11) (al' := [some (.ref 111), some (.ref a), some (.int (nI 1)), some (.int (nI (FA (n - 1)))), none]) (st' := []) d_42_10 (fun _ => rfl) ?_
  refine cn_ic (v := 0) d_42_11 (by decide) ?_
  refine cr_nx (pc' := 14) (al' := [some (.ref 111), some (.ref a), some (.int (nI 1)), some (.int (nI (FA (n - 1)))), some (.int (nI 0))]) (st' := []) d_42_12 (fun _ => rfl) ?_
  refine cr_upw (al := fun i u_ => [some (.ref 111), some (.ref a), some (.int (nI 1)), some (.int (nI (FA (n - 1)))), some (.int (nI i))]) (S := fun i u_ => S) (G := fun i u_ => u_.2.2.1) (B := fun i u_ => u_.2.2.2) (J := fun i u_ => J) (R := fun i u_ => R) (P := fun i u_ => FxG u_.2.2.1 ∧ Gfr [114] G u_.2.2.1 ∧ Bfr [115, 120, 121] B u_.2.2.2 ∧ NmB 114 u_.2.2.1 u_.2.2.2 n u_.1 u_.2.1 ∧ MinS (n * n) (fun t => F t ∨ UF n c (z * FA (n - 1)) i t) u_.1 u_.2.1 ∧ (i < FA (n - 1) → ∀ k, k < n → u_.2.2.2 120 k = nI (pmE n (z * FA (n - 1) + i) k))) (n := FA (n - 1)) (fun i u_ hi pi ihi => ?_) (fun u_ pi => ?_) 0 (h, bb, G, B) (by omega) (⟨hF, Gfr.rf, Bfr.rf, hB, Min_iff hM UF_0, fun _ => hf⟩)
  · show CR _ _ 14 [some (.ref 111), some (.ref a), some (.int (nI 1)), some (.int (nI (FA (n - 1)))), some (.int (nI i))] [] S u_.2.2.1 u_.2.2.2 J R _
    have hP := pm_per (n := n) (r := z * FA (n - 1) + i) hn6 (z_blk hn1 hz hi)
    refine cr_nx (pc' := 16) (al' := [some (.ref 111), some (.ref a), some (.int (nI 1)), some (.int (nI (FA (n - 1)))), some (.int (nI i))]) (st' := [.int (nI i)]) d_42_14 (fun _ => rfl) ?_
    refine cr_nx (pc' := 17) (al' := [some (.ref 111), some (.ref a), some (.int (nI 1)), some (.int (nI (FA (n - 1)))), some (.int (nI i))]) (st' := [.int (nI (FA (n - 1))), .int (nI i)]) d_42_16 (fun _ => rfl) ?_
    refine cn_cge (t := 43) d_42_17 (by decide) (by first | omega | assumption | exact cu_36 (by omega) (cu_lt (by omega) (by omega))) (by first | omega | assumption | exact cu_36 (by omega) (cu_lt (by omega) (by omega))) (fun c17 => ?_) (fun c17 => ?_)
    · omega
    · refine cr_nx (pc' := 21) (al' := [some (.ref 111), some (.ref a), some (.int (nI 1)), some (.int (nI (FA (n - 1)))), some (.int (nI i))]) (st' := [.ref 111]) d_42_20 (fun _ => rfl) ?_
      refine cr_nx (pc' := 22) (al' := [some (.ref 111), some (.ref a), some (.int (nI 1)), some (.int (nI (FA (n - 1)))), some (.int (nI i))]) (st' := [.ref a, .ref 111]) d_42_21 (fun _ => rfl) ?_
      refine cr_cv (b := 111) (as := [.ref a]) (al0 := [some (.ref 111), some (.ref a), none, none, none, none, none]) (r := []) d_42_22 cw_42 cm_6_81 cz_43 rfl rfl (hS.i (a := 111) (by decide) (by decide)) (by rw [cw_43]; exact (hS.s (a := 111) (by decide) (by decide) rfl)) (by rw [cw_43]; decide) rfl (cr_wk (Nat.le_of_ble_eq_true rfl) (k_offer_111 (h := u_.1) (bb := u_.2.1) (f := pmE n (z * FA (n - 1) + i)) hS pi.1 (pi.2.1.t (by simp; omega) ht) (by rw [pi.2.1 a (by simp; omega)]; exact hn) (pi.2.2.1.c har hc) hl hab har hP (pi.2.2.2.2.2 hi) pi.2.2.2.1.2.1 (fun e q hq => (pi.2.2.2.1.2.2 e q hq).2) (fun e q hq => (pi.2.2.2.1.2.2 e q hq).1) hn1 pi.2.2.2.1.1)) (fun v1 S1 G1 B1 J1 R1 h1 => ?_)
      obtain ⟨q0_, q1_, q2_, q3_, q4_, wt, wb, q5_, b2, hb2, hs2⟩ := h1
      obtain rfl := q0_
      obtain rfl := q1_.symm
      obtain rfl := q2_
      obtain rfl := q3_.symm
      obtain rfl := q4_.symm
      obtain rfl := q5_
      show CR _ _ 25 [some (.ref 111), some (.ref a), some (.int (nI 1)), some (.int (nI (FA (n - 1)))), some (.int (nI i))] [] S (up2 u_.2.2.1 114 0 (.int (nI n))) (upr (upr u_.2.2.2 121 wt) (114 + 1) wb) J R _
      refine cr_nx (pc' := 26) (al' := [some (.ref 111), some (.ref a), some (.int (nI 1)), some (.int (nI (FA (n - 1)))), some (.int (nI i))]) (st' := [.ref 111]) d_42_25 (fun _ => rfl) ?_
      refine cr_gf (v := .ref 120) d_42_26 cw_42 cf_6_31 (hS.i (a := 111) (by decide) (by decide)) (hS.s (a := 111) (by decide) (by decide) rfl) (by decide) (by simp [up2, hab]; exact (fx_111_5 pi.1)) ?_
      refine cr_nx (pc' := 30) (al' := [some (.ref 111), some (.ref a), some (.int (nI 1)), some (.int (nI (FA (n - 1)))), some (.int (nI i))]) (st' := [.int (nI 1), .ref 120]) d_42_29 (fun _ => rfl) ?_
      refine cr_nx (pc' := 31) (al' := [some (.ref 111), some (.ref a), some (.int (nI 1)), some (.int (nI (FA (n - 1)))), some (.int (nI i))]) (st' := [.ref a, .int (nI 1), .ref 120]) d_42_30 (fun _ => rfl) ?_
      refine cr_gf (v := .int (nI n)) d_42_31 cw_42 cf_6_38 ht.1 ht.2.2.1 (by decide) (by simp [up2, hab]; exact (by first | exact hn | (rw [pi.2.1 a (by simp; omega)]; exact hn))) ?_
      refine cr_cs (as := [.ref 120, .int (nI 1), .int (nI n)]) (al0 := [some (.ref 120), some (.int (nI 1)), some (.int (nI n)), none, none, none]) (r := []) d_42_34 cw_42 cm_6_84 (by decide) cz_157 rfl rfl rfl (cr_wk (Nat.le_of_ble_eq_true rfl) (k_permuteOn (f := pmE n (z * FA (n - 1) + i)) (hS.i (a := 120) (by decide) (by decide)) (hS.s (a := 120) (by decide) (by decide) rfl) (by decide) (by omega) (by omega) (by omega) (pm_31 hn6 (z_blk hn1 hz hi)) (fun q hq => by rw [upr_n (by decide), upr_n (by decide)]; exact pi.2.2.2.2.2 hi q hq))) (fun v1 S1 G1 B1 J1 R1 h1 => ?_)
      obtain ⟨q0_, q1_, q2_, q3_, q4_, w34, q9_, hw34⟩ := h1
      obtain rfl := q0_
      obtain rfl := q1_.symm
      obtain rfl := q2_.symm
      obtain rfl := q3_.symm
      obtain rfl := q4_.symm
      obtain rfl := q9_
      show CR _ _ 37 [some (.ref 111), some (.ref a), some (.int (nI 1)), some (.int (nI (FA (n - 1)))), some (.int (nI i))] [] S (up2 u_.2.2.1 114 0 (.int (nI n))) (upr (upr (upr u_.2.2.2 121 wt) (114 + 1) wb) 120 w34) J R _
      refine cn_inc d_42_37 rfl rfl ?_
      show CR _ _ 40 [some (.ref 111), some (.ref a), some (.int (nI 1)), some (.int (nI (FA (n - 1)))), some (.int (nI (i + 1)))] [] S (up2 u_.2.2.1 114 0 (.int (nI n))) (upr (upr (upr u_.2.2.2 121 wt) (114 + 1) wb) 120 w34) J R _
      refine cr_nx (pc' := 14) (al' := [some (.ref 111), some (.ref a), some (.int (nI 1)), some (.int (nI (FA (n - 1)))), some (.int (nI (i + 1)))]) (st' := []) d_42_40 (fun _ => rfl) ?_
      exact ihi (1, b2, (up2 u_.2.2.1 114 0 (.int (nI n))), (upr (upr (upr u_.2.2.2 121 wt) (114 + 1) wb) 120 w34)) (⟨pi.1.u0 (by decide), pi.2.1.u (by decide), ((pi.2.2.1.u (by decide)).u (by decide)).u (by decide), ⟨by dsimp only; rw [up2_s, Nat.mul_one], Nat.le_refl 1, fun _ q hq => by dsimp only; rw [upr_n (by decide), upr_s]; exact hb2 q hq⟩, Min_iff (Min_st pi.2.2.2.2.1 hs2) UF_s, fun hr q hq => by dsimp only; rw [upr_s, hw34 q hq]; exact congrArg nI (nx1_pm hn6 (z_blk hn1 hz hi) (z_mod hr) hq)⟩)
  · show CR _ _ 14 [some (.ref 111), some (.ref a), some (.int (nI 1)), some (.int (nI (FA (n - 1)))), some (.int (nI (FA (n - 1))))] [] S u_.2.2.1 u_.2.2.2 J R _
    refine cr_nx (pc' := 16) (al' := [some (.ref 111), some (.ref a), some (.int (nI 1)), some (.int (nI (FA (n - 1)))), some (.int (nI (FA (n - 1))))]) (st' := [.int (nI (FA (n - 1)))]) d_42_14 (fun _ => rfl) ?_
    refine cr_nx (pc' := 17) (al' := [some (.ref 111), some (.ref a), some (.int (nI 1)), some (.int (nI (FA (n - 1)))), some (.int (nI (FA (n - 1))))]) (st' := [.int (nI (FA (n - 1))), .int (nI (FA (n - 1)))]) d_42_16 (fun _ => rfl) ?_
    refine cn_cge (t := 43) d_42_17 (by decide) (by first | omega | assumption | exact cu_36 (by omega) (cu_lt (by omega) (by omega))) (by first | omega | assumption | exact cu_36 (by omega) (cu_lt (by omega) (by omega))) (fun c17 => ?_) (fun c17 => ?_)
    · exact cr_rv d_42_43 cx_42 ⟨rfl, rfl, rfl, rfl, pi.1, pi.2.1, pi.2.2.1, u_.1, u_.2.1, pi.2.2.2.1, Min_iff pi.2.2.2.2.1 (fun t => or_congr Iff.rfl (FR_u1 hn6 hn1 hl hz t).symm)⟩
    · omega
theorem k_offerIsotopes_111 {S : CS} {G : Nat → Nat → Value} {B : Nat → Nat → Int32} {J : Nat → Nat → Int64} {R : Nat → Nat → Option Nat} (hS : ShOk S) (hF : FxG G) {n h : Nat} {e bb : Nat → Nat} {F : (Nat → Nat) → Prop} (hn : G 116 0 = .int (nI n)) (hc : TabC B 116 n e) (hl : Lat n e) (hn1 : 1 ≤ n) (hB : NmB 114 G B n h bb) (hM : MinS (n * n) F h bb) : CR 3 44 0 [some (.ref 111), none, none, none] [] S G B J R (fun r_ S' G' B' J' R' => r_ = none ∧ S' = S ∧ J' = J ∧ R' = R ∧ FxG G' ∧ Gfr [114, 118] G G' ∧ Bfr [115, 119, 120, 121] B B' ∧ ∃ h' bb', NmB 114 G' B' n h' bb' ∧ MinS (n * n) (fun t => F t ∨ ∃ k, k < n * n ∧ FR n (isN n e (k / n) (k % n)) (some (e k)) t) h' bb') := by
  have hn6 := hc.1
  have hcj := tb_116 hS hF
  refine cr_nx (pc' := 1) (al' := [some (.ref 111), none, none, none]) (st' := [.ref 111]) d_44_0 (fun _ => rfl) ?_
  refine cr_gf (v := .ref 116) d_44_1 cw_44 cf_6_25 (hS.i (a := 111) (by decide) (by decide)) (hS.s (a := 111) (by decide) (by decide) rfl) (by decide) (fx_111_3 hF) ?_
  refine cr_gf (v := .int (nI n)) d_44_4 cw_44 cf_6_38 hcj.1 hcj.2.2.1 (by decide) hn ?_
  refine cr_nx (pc' := 8) (al' := [some (.ref 111), some (.int (nI n)), none, none]) (st' := []) d_44_7 (fun _ => rfl) ?_
  refine cn_ic (v := 0) d_44_8 (by decide) ?_
  refine cr_nx (pc' := 10) (al' := [some (.ref 111), some (.int (nI n)), some (.int (nI 0)), none]) (st' := []) d_44_9 (fun _ => rfl) ?_
  refine cr_upw (al := fun a u_ => [some (.ref 111), some (.int (nI n)), some (.int (nI a)), none]) (S := fun a u_ => S) (G := fun a u_ => u_.2.2.1) (B := fun a u_ => u_.2.2.2) (J := fun a u_ => J) (R := fun a u_ => R) (P := fun a u_ => FxG u_.2.2.1 ∧ Gfr [114, 118] G u_.2.2.1 ∧ Bfr [115, 119, 120, 121] B u_.2.2.2 ∧ NmB 114 u_.2.2.1 u_.2.2.2 n u_.1 u_.2.1 ∧ MinS (n * n) (fun t => F t ∨ ∃ k, k < n * a ∧ FR n (isN n e (k / n) (k % n)) (some (e k)) t) u_.1 u_.2.1) (n := n) (fun a u_ ha pa iha => ?_) (fun u_ pa => ?_) 0 (h, bb, G, B) (by omega) (⟨hF, Gfr.rf, Bfr.rf, hB, Min_iff hM (fun t => ⟨Or.inl, fun h => h.elim id (fun ⟨k, hk, _⟩ => absurd hk (Nat.not_lt_zero k))⟩)⟩)
  · show CR _ _ 10 [some (.ref 111), some (.int (nI n)), some (.int (nI a)), none] [] S u_.2.2.1 u_.2.2.2 J R _
    refine cr_nx (pc' := 11) (al' := [some (.ref 111), some (.int (nI n)), some (.int (nI a)), none]) (st' := [.int (nI a)]) d_44_10 (fun _ => rfl) ?_
    refine cr_nx (pc' := 12) (al' := [some (.ref 111), some (.int (nI n)), some (.int (nI a)), none]) (st' := [.int (nI n), .int (nI a)]) d_44_11 (fun _ => rfl) ?_
    refine cn_cge (t := 69) d_44_12 (by decide) (by first | omega | assumption | exact cu_36 (by omega) (cu_lt (by omega) (by omega))) (by first | omega | assumption | exact cu_36 (by omega) (cu_lt (by omega) (by omega))) (fun c12 => ?_) (fun c12 => ?_)
    · omega
    · refine cn_ic (v := 0) d_44_15 (by decide) ?_
      refine cr_nx (pc' := 17) (al' := [some (.ref 111), some (.int (nI n)), some (.int (nI a)), some (.int (nI 0))]) (st' := []) d_44_16 (fun _ => rfl) ?_
      refine cr_upw (al := fun b u_ => [some (.ref 111), some (.int (nI n)), some (.int (nI a)), some (.int (nI b))]) (S := fun b u_ => S) (G := fun b u_ => u_.2.2.1) (B := fun b u_ => u_.2.2.2) (J := fun b u_ => J) (R := fun b u_ => R) (P := fun b u_ => FxG u_.2.2.1 ∧ Gfr [114, 118] G u_.2.2.1 ∧ Bfr [115, 119, 120, 121] B u_.2.2.2 ∧ NmB 114 u_.2.2.1 u_.2.2.2 n u_.1 u_.2.1 ∧ MinS (n * n) (fun t => F t ∨ ∃ k, k < n * a + b ∧ FR n (isN n e (k / n) (k % n)) (some (e k)) t) u_.1 u_.2.1) (n := n) (fun b u_ hb pb ihb => ?_) (fun u_ pb => ?_) 0 u_ (by omega) (pa)
      · show CR _ _ 17 [some (.ref 111), some (.int (nI n)), some (.int (nI a)), some (.int (nI b))] [] S u_.2.2.1 u_.2.2.2 J R _
        have hz : e (n * a + b) < n := hl.b ha hb
        have hlI : Lat n (isN n e a b) := isN_lat hl ha hb
        refine cr_nx (pc' := 18) (al' := [some (.ref 111), some (.int (nI n)), some (.int (nI a)), some (.int (nI b))]) (st' := [.int (nI b)]) d_44_17 (fun _ => rfl) ?_
        refine cr_nx (pc' := 19) (al' := [some (.ref 111), some (.int (nI n)), some (.int (nI a)), some (.int (nI b))]) (st' := [.int (nI n), .int (nI b)]) d_44_18 (fun _ => rfl) ?_
        refine cn_cge (t := 63) d_44_19 (by decide) (by first | omega | assumption | exact cu_36 (by omega) (cu_lt (by omega) (by omega))) (by first | omega | assumption | exact cu_36 (by omega) (cu_lt (by omega) (by omega))) (fun c19 => ?_) (fun c19 => ?_)
        · omega
        · refine cr_nx (pc' := 23) (al' := [some (.ref 111), some (.int (nI n)), some (.int (nI a)), some (.int (nI b))]) (st' := [.ref 111]) d_44_22 (fun _ => rfl) ?_
          refine cr_gf (v := .ref 118) d_44_23 cw_44 cf_6_28 (hS.i (a := 111) (by decide) (by decide)) (hS.s (a := 111) (by decide) (by decide) rfl) (by decide) (fx_111_4 pb.1) ?_
          refine cr_nx (pc' := 27) (al' := [some (.ref 111), some (.int (nI n)), some (.int (nI a)), some (.int (nI b))]) (st' := [.ref 111, .ref 118]) d_44_26 (fun _ => rfl) ?_
          refine cr_gf (v := .ref 116) d_44_27 cw_44 cf_6_25 (hS.i (a := 111) (by decide) (by decide)) (hS.s (a := 111) (by decide) (by decide) rfl) (by decide) (fx_111_3 pb.1) ?_
          refine cr_nx (pc' := 31) (al' := [some (.ref 111), some (.int (nI n)), some (.int (nI a)), some (.int (nI b))]) (st' := [.int (nI a), .ref 116, .ref 118]) d_44_30 (fun _ => rfl) ?_
          refine cr_nx (pc' := 32) (al' := [some (.ref 111), some (.int (nI n)), some (.int (nI a)), some (.int (nI b))]) (st' := [.int (nI b), .int (nI a), .ref 116, .ref 118]) d_44_31 (fun _ => rfl) ?_
          refine cr_cv (b := 118) (as := [.ref 116, .int (nI a), .int (nI b)]) (al0 := [some (.ref 118), some (.ref 116), some (.int (nI a)), some (.int (nI b)), none, none, none]) (r := []) d_44_32 cw_44 cm_6_66 cz_96 rfl rfl (hS.i (a := 118) (by decide) (by decide)) (by rw [cw_96]; exact (hS.s (a := 118) (by decide) (by decide) rfl)) (by rw [cw_96]; decide) rfl (cr_wk (Nat.le_of_ble_eq_true rfl) (k_makeIsotope (tb_116 hS pb.1) (by rw [pb.2.1 116 (by decide)]; exact hn) (pb.2.2.1.c (by decide) hc) (tb_118 hS pb.1) (by decide) hl ha hb)) (fun v1 S1 G1 B1 J1 R1 h1 => ?_)
          obtain ⟨q0_, q1_, q2_, q3_, q4_, wi, q5_, hwi⟩ := h1
          obtain rfl := q0_
          obtain rfl := q1_.symm
          obtain rfl := q2_
          obtain rfl := q3_.symm
          obtain rfl := q4_.symm
          obtain rfl := q5_
          show CR _ _ 35 [some (.ref 111), some (.int (nI n)), some (.int (nI a)), some (.int (nI b))] [] S (up2 u_.2.2.1 118 0 (.int (nI n))) (upr u_.2.2.2 (118 + 1) wi) J R _
          refine cr_nx (pc' := 36) (al' := [some (.ref 111), some (.int (nI n)), some (.int (nI a)), some (.int (nI b))]) (st' := [.ref 111]) d_44_35 (fun _ => rfl) ?_
          refine cr_nx (pc' := 37) (al' := [some (.ref 111), some (.int (nI n)), some (.int (nI a)), some (.int (nI b))]) (st' := [.ref 111, .ref 111]) d_44_36 (fun _ => rfl) ?_
          refine cr_gf (v := .ref 116) d_44_37 cw_44 cf_6_25 (hS.i (a := 111) (by decide) (by decide)) (hS.s (a := 111) (by decide) (by decide) rfl) (by decide) (by simp [up2]; exact (fx_111_3 pb.1)) ?_
          refine cr_nx (pc' := 41) (al' := [some (.ref 111), some (.int (nI n)), some (.int (nI a)), some (.int (nI b))]) (st' := [.int (nI a), .ref 116, .ref 111]) d_44_40 (fun _ => rfl) ?_
          refine cr_nx (pc' := 42) (al' := [some (.ref 111), some (.int (nI n)), some (.int (nI a)), some (.int (nI b))]) (st' := [.int (nI b), .int (nI a), .ref 116, .ref 111]) d_44_41 (fun _ => rfl) ?_
          refine cr_pv (b := 116) (as := [.int (nI a), .int (nI b)]) (al0 := [some (.ref 116), some (.int (nI a)), some (.int (nI b))]) (r := [.ref 111]) d_44_42 cw_44 cm_6_70 cz_91 rfl rfl hcj.1 (by rw [cw_91]; exact hcj.2.2.1) (by rw [cw_91]; decide) rfl (Nat.le_of_ble_eq_true rfl) (k_times (tb_116 hS (pb.1.u0 (by decide))) (by rw [up2_n (by decide), pb.2.1 116 (by decide)]; exact hn) (TabC.u1 (by decide) (pb.2.2.1.c (by decide) hc)) (by omega) (by omega)) ?_
          show CR _ _ 45 [some (.ref 111), some (.int (nI n)), some (.int (nI a)), some (.int (nI b))] [.int (nI (e (n * a + b))), .ref 111] S (up2 u_.2.2.1 118 0 (.int (nI n))) (upr u_.2.2.2 (118 + 1) wi) J R _
          have b42 : e (n * a + b) < n := (hc.2 _ (cu_lt (by omega) (by omega))).2
          refine cr_cv (b := 111) (as := [.int (nI (e (n * a + b)))]) (al0 := [some (.ref 111), some (.int (nI (e (n * a + b)))), none]) (r := []) d_44_45 cw_44 cm_6_74 cz_45 rfl rfl (hS.i (a := 111) (by decide) (by decide)) (by rw [cw_45]; exact (hS.s (a := 111) (by decide) (by decide) rfl)) (by rw [cw_45]; decide) rfl (cr_wk (Nat.le_of_ble_eq_true rfl) (k_startFrom_111 hS (pb.1.u0 (by decide)) (by omega))) (fun v1 S1 G1 B1 J1 R1 h1 => ?_)
          obtain ⟨q0_, q1_, q2_, q3_, q4_, wf, q9_, hwf⟩ := h1
          obtain rfl := q0_
          obtain rfl := q1_.symm
          obtain rfl := q2_.symm
          obtain rfl := q3_.symm
          obtain rfl := q4_.symm
          obtain rfl := q9_
          show CR _ _ 48 [some (.ref 111), some (.int (nI n)), some (.int (nI a)), some (.int (nI b))] [] S (up2 u_.2.2.1 118 0 (.int (nI n))) (upr (upr u_.2.2.2 (118 + 1) wi) 120 wf) J R _
          refine cr_nx (pc' := 49) (al' := [some (.ref 111), some (.int (nI n)), some (.int (nI a)), some (.int (nI b))]) (st' := [.ref 111]) d_44_48 (fun _ => rfl) ?_
          refine cr_nx (pc' := 50) (al' := [some (.ref 111), some (.int (nI n)), some (.int (nI a)), some (.int (nI b))]) (st' := [.ref 111, .ref 111]) d_44_49 (fun _ => rfl) ?_
          refine cr_gf (v := .ref 118) d_44_50 cw_44 cf_6_28 (hS.i (a := 111) (by decide) (by decide)) (hS.s (a := 111) (by decide) (by decide) rfl) (by decide) (by simp [up2]; exact (fx_111_4 pb.1)) ?_
          refine cn_ic (v := 1) d_44_53 (by decide) ?_
          refine cr_cv (b := 111) (as := [.ref 118, .int (nI 1)]) (al0 := [some (.ref 111), some (.ref 118), some (.int (nI 1)), none, none]) (r := []) d_44_54 cw_44 cm_6_56 cz_42 rfl rfl (hS.i (a := 111) (by decide) (by decide)) (by rw [cw_42]; exact (hS.s (a := 111) (by decide) (by decide) rfl)) (by rw [cw_42]; decide) rfl (cr_wk (Nat.le_of_ble_eq_true rfl) (k_offerFrom1_111 (h := u_.1) (bb := u_.2.1) (z := e (n * a + b)) (c := isN n e a b) hS (pb.1.u0 (by decide)) hz (tb_118 hS (pb.1.u0 (by decide))) up2_s ⟨hn6, fun q hq => ⟨by rw [upr_n (by decide), upr_s]; exact hwi q hq, hlI.1 q hq⟩⟩ hlI hn1 (by decide) (by decide) (fun k hk => by rw [upr_s, hwf k (by omega)]; exact congrArg nI (st_pm hn6 hz hk).symm) (pb.2.2.2.1.cg (by rw [up2_n (by decide)]) (by rw [upr_n (by decide), upr_n (by decide)])) pb.2.2.2.2)) (fun v1 S1 G2 B2 J1 R1 h1 => ?_)
          obtain ⟨q0_, q1_, q2_, q3_, fx2, gf2, bf2, h2, b2, nb2, mi2⟩ := h1
          obtain rfl := q0_
          obtain rfl := q1_.symm
          obtain rfl := q2_.symm
          obtain rfl := q3_.symm
          show CR _ _ 57 [some (.ref 111), some (.int (nI n)), some (.int (nI a)), some (.int (nI b))] [] S G2 B2 J R _
          refine cn_inc d_44_57 rfl rfl ?_
          show CR _ _ 60 [some (.ref 111), some (.int (nI n)), some (.int (nI a)), some (.int (nI (b + 1)))] [] S G2 B2 J R _
          refine cr_nx (pc' := 17) (al' := [some (.ref 111), some (.int (nI n)), some (.int (nI a)), some (.int (nI (b + 1)))]) (st' := []) d_44_60 (fun _ => rfl) ?_
          exact ihb (h2, b2, G2, B2) (⟨fx2, (pb.2.1.u (by decide)).tr (gf2.mo (by decide)), ((pb.2.2.1.u (by decide)).u (by decide)).tr (bf2.mo (by decide)), nb2, Min_iff mi2 (fun t => by have := FK_s (n := n) (e := e) (F := F) (i := n * a + b) t; rw [dm_d hb, dm_m hb] at this; exact this)⟩)
      · show CR _ _ 17 [some (.ref 111), some (.int (nI n)), some (.int (nI a)), some (.int (nI n))] [] S u_.2.2.1 u_.2.2.2 J R _
        refine cr_nx (pc' := 18) (al' := [some (.ref 111), some (.int (nI n)), some (.int (nI a)), some (.int (nI n))]) (st' := [.int (nI n)]) d_44_17 (fun _ => rfl) ?_
        refine cr_nx (pc' := 19) (al' := [some (.ref 111), some (.int (nI n)), some (.int (nI a)), some (.int (nI n))]) (st' := [.int (nI n), .int (nI n)]) d_44_18 (fun _ => rfl) ?_
        refine cn_cge (t := 63) d_44_19 (by decide) (by first | omega | assumption | exact cu_36 (by omega) (cu_lt (by omega) (by omega))) (by first | omega | assumption | exact cu_36 (by omega) (cu_lt (by omega) (by omega))) (fun c19 => ?_) (fun c19 => ?_)
        · refine cn_inc d_44_63 rfl rfl ?_
          show CR _ _ 66 [some (.ref 111), some (.int (nI n)), some (.int (nI (a + 1))), some (.int (nI n))] [] S u_.2.2.1 u_.2.2.2 J R _
          refine cr_nx (pc' := 10) (al' := [some (.ref 111), some (.int (nI n)), some (.int (nI (a + 1))), some (.int (nI n))]) (st' := []) d_44_66 (fun _ => rfl) ?_
          refine cr_dr (al1 := [some (.ref 111), some (.int (nI n)), some (.int (nI (a + 1))), none]) (le_s (le_s (le_s (le_d rfl (le_n))))) ?_
          exact iha u_ (by rw [Nat.mul_succ]; exact pb)
        · omega
  · show CR _ _ 10 [some (.ref 111), some (.int (nI n)), some (.int (nI n)), none] [] S u_.2.2.1 u_.2.2.2 J R _
    refine cr_nx (pc' := 11) (al' := [some (.ref 111), some (.int (nI n)), some (.int (nI n)), none]) (st' := [.int (nI n)]) d_44_10 (fun _ => rfl) ?_
    refine cr_nx (pc' := 12) (al' := [some (.ref 111), some (.int (nI n)), some (.int (nI n)), none]) (st' := [.int (nI n), .int (nI n)]) d_44_11 (fun _ => rfl) ?_
    refine cn_cge (t := 69) d_44_12 (by decide) (by first | omega | assumption | exact cu_36 (by omega) (cu_lt (by omega) (by omega))) (by first | omega | assumption | exact cu_36 (by omega) (cu_lt (by omega) (by omega))) (fun c12 => ?_) (fun c12 => ?_)
    · exact cr_rv d_44_69 cx_44 ⟨rfl, rfl, rfl, rfl, pa.1, pa.2.1, pa.2.2.1, u_.1, u_.2.1, pa.2.2.2.1, pa.2.2.2.2⟩
    · omega
theorem k_offerAll0_111 {S : CS} {G : Nat → Nat → Value} {B : Nat → Nat → Int32} {J : Nat → Nat → Int64} {R : Nat → Nat → Option Nat} (hS : ShOk S) (hF : FxG G) {n : Nat} {c : Nat → Nat} (hn : G 112 0 = .int (nI n)) (hc : TabC B 112 n c) (hl : Lat n c) (hn1 : 1 ≤ n) (hz : G 114 0 = .int (nI 0)) (hby : G 111 1 = .int (nI 0)) : CR 3 41 0 [some (.ref 111), none, none] [] S G B J R (fun r_ S' G' B' J' R' => r_ = none ∧ S' = S ∧ J' = J ∧ R' = R ∧ FxG G' ∧ Gfr [114, 116, 118] G G' ∧ Bfr [115, 117, 119, 120, 121] B B' ∧ G' 114 0 = .int (nI n) ∧ ∃ bb', (∀ q, q < n * n → B' (114 + 1) q = nI (bb' q) ∧ bb' q < n) ∧ MinS (n * n) (NmF 0 n c) 1 bb') := by
  have hn6 := hc.1
  refine cr_nx (pc' := 1) (al' := [some (.ref 111), none, none]) (st' := [.ref 111]) d_41_0 (fun _ => rfl) ?_
  refine cr_gf (v := .int (nI 0)) d_41_1 cw_41 cf_6_18 (hS.i (a := 111) (by decide) (by decide)) (hS.s (a := 111) (by decide) (by decide) rfl) (by decide) hby ?_
  refine cn_ine (t := 24) d_41_4 (by decide) (by first | omega | assumption | exact cu_36 (by omega) (cu_lt (by omega) (by omega))) (fun c4 => ?_) (fun c4 => ?_)
  · omega
  · refine cr_nx (pc' := 8) (al' := [some (.ref 111), none, none]) (st' := [.ref 111]) d_41_7 (fun _ => rfl) ?_
    refine cr_gf (v := .ref 120) d_41_8 cw_41 cf_6_31 (hS.i (a := 111) (by decide) (by decide)) (hS.s (a := 111) (by decide) (by decide) rfl) (by decide) (fx_111_5 hF) ?_
    refine cr_cs (as := [.ref 120]) (al0 := [some (.ref 120), none]) (r := []) d_41_11 cw_41 cm_6_52 (by decide) cz_154 rfl rfl rfl (cr_wk (Nat.le_of_ble_eq_true rfl) (k_startPermutation (hS.i (a := 120) (by decide) (by decide)) (hS.s (a := 120) (by decide) (by decide) rfl) (by decide))) (fun v1 S1 G1 B1 J1 R1 h1 => ?_)
    obtain ⟨q0_, q1_, q2_, q3_, q4_, w11, q9_, hw11⟩ := h1
    obtain rfl := q0_
    obtain rfl := q1_.symm
    obtain rfl := q2_.symm
    obtain rfl := q3_.symm
    obtain rfl := q4_.symm
    obtain rfl := q9_
    show CR _ _ 14 [some (.ref 111), none, none] [] S G (upr B 120 w11) J R _
    refine cr_nx (pc' := 15) (al' := [some (.ref 111), none, none]) (st' := [.ref 111]) d_41_14 (fun _ => rfl) ?_
    refine cr_nx (pc' := 16) (al' := [some (.ref 111), none, none]) (st' := [.ref 111, .ref 111]) d_41_15 (fun _ => rfl) ?_
    refine cr_gf (v := .ref 112) d_41_16 cw_41 cf_6_12 (hS.i (a := 111) (by decide) (by decide)) (hS.s (a := 111) (by decide) (by decide) rfl) (by decide) (fx_111_0 hF) ?_
    refine cn_ic (v := 0) d_41_19 (by decide) ?_
    refine cr_cv (b := 111) (as := [.ref 112, .int (nI 0)]) (al0 := [some (.ref 111), some (.ref 112), some (.int (nI 0)), none, none]) (r := []) d_41_20 cw_41 cm_6_56 cz_42 rfl rfl (hS.i (a := 111) (by decide) (by decide)) (by rw [cw_42]; exact (hS.s (a := 111) (by decide) (by decide) rfl)) (by rw [cw_42]; decide) rfl (cr_wk (Nat.le_of_ble_eq_true rfl) (k_offerFrom0_111 (h := 0) (bb := fun _ => 0) (F := fun _ => False) hS hF (tb_112 hS hF) hn (TabC.u1 (by decide) hc) hl hn1 (by decide) (by decide) (fun k hk => by rw [upr_s, hw11 k (by omega), pm_id hn6 hk]) ⟨by rw [Nat.mul_zero]; exact hz, Nat.zero_le 1, fun e => absurd e (by decide)⟩ (Or.inl ⟨rfl, fun _ e => e⟩))) (fun v1 S1 G2 B2 J1 R1 h1 => ?_)
    obtain ⟨q0_, q1_, q2_, q3_, fx2, gf2, bf2, h2, b2, nb2, mi2⟩ := h1
    obtain rfl := q0_
    obtain rfl := q1_.symm
    obtain rfl := q2_.symm
    obtain rfl := q3_.symm
    obtain ⟨z1, z2⟩ : h2 = 1 ∧ MinS (n * n) (NmF 0 n c) 1 b2 := Min_1 (Min_iff mi2 (fun t => ⟨fun h => h.elim False.elim id, Or.inr⟩)) (Nm_ex (l := 0) hl hn1)
    obtain rfl := z1
    show CR _ _ 23 [some (.ref 111), none, none] [] S G2 B2 J R _
    exact cr_rv d_41_23 cx_41 ⟨rfl, rfl, rfl, rfl, fx2, gf2.mo (by decide), (Bfr.rf.u (by decide)).tr (bf2.mo (by decide)), by rw [nb2.1, Nat.mul_one], b2, nb2.2.2 rfl, z2⟩
theorem k_offerAll1_111 {S : CS} {G : Nat → Nat → Value} {B : Nat → Nat → Int32} {J : Nat → Nat → Int64} {R : Nat → Nat → Option Nat} (hS : ShOk S) (hF : FxG G) {n : Nat} {c : Nat → Nat} (hn : G 112 0 = .int (nI n)) (hc : TabC B 112 n c) (hl : Lat n c) (hn1 : 1 ≤ n) (hz : G 114 0 = .int (nI 0)) (hby : G 111 1 = .int (nI 1)) : CR 4 41 0 [some (.ref 111), none, none] [] S G B J R (fun r_ S' G' B' J' R' => r_ = none ∧ S' = S ∧ J' = J ∧ R' = R ∧ FxG G' ∧ Gfr [114, 116, 118] G G' ∧ Bfr [115, 117, 119, 120, 121] B B' ∧ G' 114 0 = .int (nI n) ∧ ∃ bb', (∀ q, q < n * n → B' (114 + 1) q = nI (bb' q) ∧ bb' q < n) ∧ MinS (n * n) (NmF 1 n c) 1 bb') := by
  have hn6 := hc.1
  refine cr_nx (pc' := 1) (al' := [some (.ref 111), none, none]) (st' := [.ref 111]) d_41_0 (fun _ => rfl) ?_
  refine cr_gf (v := .int (nI 1)) d_41_1 cw_41 cf_6_18 (hS.i (a := 111) (by decide) (by decide)) (hS.s (a := 111) (by decide) (by decide) rfl) (by decide) hby ?_
  refine cn_ine (t := 24) d_41_4 (by decide) (by first | omega | assumption | exact cu_36 (by omega) (cu_lt (by omega) (by omega))) (fun c4 => ?_) (fun c4 => ?_)
  · refine cr_nx (pc' := 25) (al' := [some (.ref 111), none, none]) (st' := [.ref 111]) d_41_24 (fun _ => rfl) ?_
    refine cr_gf (v := .int (nI 1)) d_41_25 cw_41 cf_6_18 (hS.i (a := 111) (by decide) (by decide)) (hS.s (a := 111) (by decide) (by decide) rfl) (by decide) hby ?_
    refine cn_ic (v := 1) d_41_28 (by decide) ?_
    refine cn_cne (t := 36) d_41_29 (by decide) (by first | omega | assumption | exact cu_36 (by omega) (cu_lt (by omega) (by omega))) (by first | omega | assumption | exact cu_36 (by omega) (cu_lt (by omega) (by omega))) (fun c29 => ?_) (fun c29 => ?_)
    · omega
    · refine cn_ic (v := 1) d_41_32 (by decide) ?_
      refine cr_nx (pc' := 38) (al' := [some (.ref 111), none, none]) (st' := [.int (nI 1)]) d_41_33 (fun _ => rfl) ?_
      refine cr_nx (pc' := 39) (al' := [some (.ref 111), some (.int (nI 1)), none]) (st' := []) d_41_38 (fun _ => rfl) ?_
      refine cn_ic (v := 0) d_41_39 (by decide) ?_
      refine cr_nx (pc' := 41) (al' := [some (.ref 111), some (.int (nI 1)), some (.int (nI 0))]) (st' := []) d_41_40 (fun _ => rfl) ?_
      refine cr_upw (al := fun w u_ => [some (.ref 111), some (.int (nI 1)), some (.int (nI w))]) (S := fun w u_ => S) (G := fun w u_ => u_.2.2.1) (B := fun w u_ => u_.2.2.2) (J := fun w u_ => J) (R := fun w u_ => R) (P := fun w u_ => FxG u_.2.2.1 ∧ Gfr [114, 116, 118] G u_.2.2.1 ∧ Bfr [115, 117, 119, 120, 121] B u_.2.2.2 ∧ NmB 114 u_.2.2.1 u_.2.2.2 n u_.1 u_.2.1 ∧ MinS (n * n) (NmK n c w) u_.1 u_.2.1) (n := 1) (fun w u_ hw pw ihw => ?_) (fun u_ pw => ?_) 0 (0, (fun _ => 0), G, B) (by omega) (⟨hF, Gfr.rf, Bfr.rf, ⟨by dsimp only; rw [Nat.mul_zero]; exact hz, Nat.zero_le 1, fun e => absurd (show (0 : Nat) = 1 from e) (by decide)⟩, Or.inl ⟨rfl, fun t ht => ht.elim (fun w hw => absurd hw.1 (Nat.not_lt_zero w))⟩⟩)
      · show CR _ _ 41 [some (.ref 111), some (.int (nI 1)), some (.int (nI w))] [] S u_.2.2.1 u_.2.2.2 J R _
        refine cr_nx (pc' := 42) (al' := [some (.ref 111), some (.int (nI 1)), some (.int (nI w))]) (st' := [.int (nI w)]) d_41_41 (fun _ => rfl) ?_
        refine cr_nx (pc' := 43) (al' := [some (.ref 111), some (.int (nI 1)), some (.int (nI w))]) (st' := [.int (nI 1), .int (nI w)]) d_41_42 (fun _ => rfl) ?_
        refine cn_cge (t := 68) d_41_43 (by decide) (by first | omega | assumption | exact cu_36 (by omega) (cu_lt (by omega) (by omega))) (by first | omega | assumption | exact cu_36 (by omega) (cu_lt (by omega) (by omega))) (fun c43 => ?_) (fun c43 => ?_)
        · omega
        · refine cr_nx (pc' := 47) (al' := [some (.ref 111), some (.int (nI 1)), some (.int (nI w))]) (st' := [.ref 111]) d_41_46 (fun _ => rfl) ?_
          refine cr_gf (v := .ref 116) d_41_47 cw_41 cf_6_25 (hS.i (a := 111) (by decide) (by decide)) (hS.s (a := 111) (by decide) (by decide) rfl) (by decide) (fx_111_3 pw.1) ?_
          refine cr_nx (pc' := 51) (al' := [some (.ref 111), some (.int (nI 1)), some (.int (nI w))]) (st' := [.ref 111, .ref 116]) d_41_50 (fun _ => rfl) ?_
          refine cr_gf (v := .ref 112) d_41_51 cw_41 cf_6_12 (hS.i (a := 111) (by decide) (by decide)) (hS.s (a := 111) (by decide) (by decide) rfl) (by decide) (fx_111_0 pw.1) ?_
          refine cr_nx (pc' := 55) (al' := [some (.ref 111), some (.int (nI 1)), some (.int (nI w))]) (st' := [.int (nI w), .ref 112, .ref 116]) d_41_54 (fun _ => rfl) ?_
          refine cr_cv (b := 116) (as := [.ref 112, .int (nI w)]) (al0 := [some (.ref 116), some (.ref 112), some (.int (nI w)), none, none]) (r := []) d_41_55 cw_41 cm_6_60 cz_98 rfl rfl (hS.i (a := 116) (by decide) (by decide)) (by rw [cw_98]; exact (hS.s (a := 116) (by decide) (by decide) rfl)) (by rw [cw_98]; decide) rfl (cr_wk (Nat.le_of_ble_eq_true rfl) (k_makeConjugate (tb_112 hS pw.1) (by rw [pw.2.1 112 (by decide)]; exact hn) (pw.2.2.1.c (by decide) hc) (tb_116 hS pw.1) (by decide) hl (by omega))) (fun v1 S1 G1 B1 J1 R1 h1 => ?_)
          obtain ⟨q0_, q1_, q2_, q3_, q4_, wc, q5_, hwc⟩ := h1
          obtain rfl := q0_
          obtain rfl := q1_.symm
          obtain rfl := q2_
          obtain rfl := q3_.symm
          obtain rfl := q4_.symm
          obtain rfl := q5_
          show CR _ _ 58 [some (.ref 111), some (.int (nI 1)), some (.int (nI w))] [] S (up2 u_.2.2.1 116 0 (.int (nI n))) (upr u_.2.2.2 (116 + 1) wc) J R _
          refine cr_nx (pc' := 59) (al' := [some (.ref 111), some (.int (nI 1)), some (.int (nI w))]) (st' := [.ref 111]) d_41_58 (fun _ => rfl) ?_
          refine cr_cv (b := 111) (as := []) (al0 := [some (.ref 111), none, none, none]) (r := []) d_41_59 cw_41 cm_6_63 cz_44 rfl rfl (hS.i (a := 111) (by decide) (by decide)) (by rw [cw_44]; exact (hS.s (a := 111) (by decide) (by decide) rfl)) (by rw [cw_44]; decide) rfl (cr_wk (Nat.le_of_ble_eq_true rfl) (k_offerIsotopes_111 (h := u_.1) (bb := u_.2.1) (e := cjN w n c) (F := NmK n c w) hS (pw.1.u0 (by decide)) up2_s ⟨hn6, fun q hq => ⟨by rw [upr_s]; exact hwc q hq, (cj_lat hl).1 q hq⟩⟩ (cj_lat hl) hn1 (pw.2.2.2.1.cg (by rw [up2_n (by decide)]) (by rw [upr_n (by decide)])) pw.2.2.2.2)) (fun v1 S1 G2 B2 J1 R1 h1 => ?_)
          obtain ⟨q0_, q1_, q2_, q3_, fx2, gf2, bf2, h2, b2, nb2, mi2⟩ := h1
          obtain rfl := q0_
          obtain rfl := q1_.symm
          obtain rfl := q2_.symm
          obtain rfl := q3_.symm
          show CR _ _ 62 [some (.ref 111), some (.int (nI 1)), some (.int (nI w))] [] S G2 B2 J R _
          refine cn_inc d_41_62 rfl rfl ?_
          show CR _ _ 65 [some (.ref 111), some (.int (nI 1)), some (.int (nI (w + 1)))] [] S G2 B2 J R _
          refine cr_nx (pc' := 41) (al' := [some (.ref 111), some (.int (nI 1)), some (.int (nI (w + 1)))]) (st' := []) d_41_65 (fun _ => rfl) ?_
          exact ihw (h2, b2, G2, B2) (⟨fx2, (pw.2.1.u (by decide)).tr (gf2.mo (by decide)), (pw.2.2.1.u (by decide)).tr (bf2.mo (by decide)), nb2, Min_iff mi2 Nm_w⟩)
      · show CR _ _ 41 [some (.ref 111), some (.int (nI 1)), some (.int (nI 1))] [] S u_.2.2.1 u_.2.2.2 J R _
        refine cr_nx (pc' := 42) (al' := [some (.ref 111), some (.int (nI 1)), some (.int (nI 1))]) (st' := [.int (nI 1)]) d_41_41 (fun _ => rfl) ?_
        refine cr_nx (pc' := 43) (al' := [some (.ref 111), some (.int (nI 1)), some (.int (nI 1))]) (st' := [.int (nI 1), .int (nI 1)]) d_41_42 (fun _ => rfl) ?_
        refine cn_cge (t := 68) d_41_43 (by decide) (by first | omega | assumption | exact cu_36 (by omega) (cu_lt (by omega) (by omega))) (by first | omega | assumption | exact cu_36 (by omega) (cu_lt (by omega) (by omega))) (fun c43 => ?_) (fun c43 => ?_)
        · exact cr_rv d_41_68 cx_41 (by
              obtain ⟨z1, z2⟩ : u_.1 = 1 ∧ MinS (n * n) (NmF 1 n c) 1 u_.2.1 := Min_1 pw.2.2.2.2 (Nm_ex (l := 1) hl hn1)
              exact ⟨rfl, rfl, rfl, rfl, pw.1, pw.2.1, pw.2.2.1, by rw [pw.2.2.2.1.1, z1, Nat.mul_one], u_.2.1, pw.2.2.2.1.2.2 z1, z2⟩)
        · omega
  · omega
theorem k_offerAll2_111 {S : CS} {G : Nat → Nat → Value} {B : Nat → Nat → Int32} {J : Nat → Nat → Int64} {R : Nat → Nat → Option Nat} (hS : ShOk S) (hF : FxG G) {n : Nat} {c : Nat → Nat} (hn : G 112 0 = .int (nI n)) (hc : TabC B 112 n c) (hl : Lat n c) (hn1 : 1 ≤ n) (hz : G 114 0 = .int (nI 0)) (hby : G 111 1 = .int (nI 2)) : CR 4 41 0 [some (.ref 111), none, none] [] S G B J R (fun r_ S' G' B' J' R' => r_ = none ∧ S' = S ∧ J' = J ∧ R' = R ∧ FxG G' ∧ Gfr [114, 116, 118] G G' ∧ Bfr [115, 117, 119, 120, 121] B B' ∧ G' 114 0 = .int (nI n) ∧ ∃ bb', (∀ q, q < n * n → B' (114 + 1) q = nI (bb' q) ∧ bb' q < n) ∧ MinS (n * n) (NmF 2 n c) 1 bb') := by
  have hn6 := hc.1
  refine cr_nx (pc' := 1) (al' := [some (.ref 111), none, none]) (st' := [.ref 111]) d_41_0 (fun _ => rfl) ?_
  refine cr_gf (v := .int (nI 2)) d_41_1 cw_41 cf_6_18 (hS.i (a := 111) (by decide) (by decide)) (hS.s (a := 111) (by decide) (by decide) rfl) (by decide) hby ?_
  refine cn_ine (t := 24) d_41_4 (by decide) (by first | omega | assumption | exact cu_36 (by omega) (cu_lt (by omega) (by omega))) (fun c4 => ?_) (fun c4 => ?_)
  · refine cr_nx (pc' := 25) (al' := [some (.ref 111), none, none]) (st' := [.ref 111]) d_41_24 (fun _ => rfl) ?_
    refine cr_gf (v := .int (nI 2)) d_41_25 cw_41 cf_6_18 (hS.i (a := 111) (by decide) (by decide)) (hS.s (a := 111) (by decide) (by decide) rfl) (by decide) hby ?_
    refine cn_ic (v := 1) d_41_28 (by decide) ?_
    refine cn_cne (t := 36) d_41_29 (by decide) (by first | omega | assumption | exact cu_36 (by omega) (cu_lt (by omega) (by omega))) (by first | omega | assumption | exact cu_36 (by omega) (cu_lt (by omega) (by omega))) (fun c29 => ?_) (fun c29 => ?_)
    · refine cn_bp (v := 6) d_41_36 (by decide) ?_
      refine cr_nx (pc' := 39) (al' := [some (.ref 111), some (.int (nI 6)), none]) (st' := []) d_41_38 (fun _ => rfl) ?_
      refine cn_ic (v := 0) d_41_39 (by decide) ?_
      refine cr_nx (pc' := 41) (al' := [some (.ref 111), some (.int (nI 6)), some (.int (nI 0))]) (st' := []) d_41_40 (fun _ => rfl) ?_
      refine cr_upw (al := fun w u_ => [some (.ref 111), some (.int (nI 6)), some (.int (nI w))]) (S := fun w u_ => S) (G := fun w u_ => u_.2.2.1) (B := fun w u_ => u_.2.2.2) (J := fun w u_ => J) (R := fun w u_ => R) (P := fun w u_ => FxG u_.2.2.1 ∧ Gfr [114, 116, 118] G u_.2.2.1 ∧ Bfr [115, 117, 119, 120, 121] B u_.2.2.2 ∧ NmB 114 u_.2.2.1 u_.2.2.2 n u_.1 u_.2.1 ∧ MinS (n * n) (NmK n c w) u_.1 u_.2.1) (n := 6) (fun w u_ hw pw ihw => ?_) (fun u_ pw => ?_) 0 (0, (fun _ => 0), G, B) (by omega) (⟨hF, Gfr.rf, Bfr.rf, ⟨by dsimp only; rw [Nat.mul_zero]; exact hz, Nat.zero_le 1, fun e => absurd (show (0 : Nat) = 1 from e) (by decide)⟩, Or.inl ⟨rfl, fun t ht => ht.elim (fun w hw => absurd hw.1 (Nat.not_lt_zero w))⟩⟩)
      · show CR _ _ 41 [some (.ref 111), some (.int (nI 6)), some (.int (nI w))] [] S u_.2.2.1 u_.2.2.2 J R _
        refine cr_nx (pc' := 42) (al' := [some (.ref 111), some (.int (nI 6)), some (.int (nI w))]) (st' := [.int (nI w)]) d_41_41 (fun _ => rfl) ?_
        refine cr_nx (pc' := 43) (al' := [some (.ref 111), some (.int (nI 6)), some (.int (nI w))]) (st' := [.int (nI 6), .int (nI w)]) d_41_42 (fun _ => rfl) ?_
        refine cn_cge (t := 68) d_41_43 (by decide) (by first | omega | assumption | exact cu_36 (by omega) (cu_lt (by omega) (by omega))) (by first | omega | assumption | exact cu_36 (by omega) (cu_lt (by omega) (by omega))) (fun c43 => ?_) (fun c43 => ?_)
        · omega
        · refine cr_nx (pc' := 47) (al' := [some (.ref 111), some (.int (nI 6)), some (.int (nI w))]) (st' := [.ref 111]) d_41_46 (fun _ => rfl) ?_
          refine cr_gf (v := .ref 116) d_41_47 cw_41 cf_6_25 (hS.i (a := 111) (by decide) (by decide)) (hS.s (a := 111) (by decide) (by decide) rfl) (by decide) (fx_111_3 pw.1) ?_
          refine cr_nx (pc' := 51) (al' := [some (.ref 111), some (.int (nI 6)), some (.int (nI w))]) (st' := [.ref 111, .ref 116]) d_41_50 (fun _ => rfl) ?_
          refine cr_gf (v := .ref 112) d_41_51 cw_41 cf_6_12 (hS.i (a := 111) (by decide) (by decide)) (hS.s (a := 111) (by decide) (by decide) rfl) (by decide) (fx_111_0 pw.1) ?_
          refine cr_nx (pc' := 55) (al' := [some (.ref 111), some (.int (nI 6)), some (.int (nI w))]) (st' := [.int (nI w), .ref 112, .ref 116]) d_41_54 (fun _ => rfl) ?_
          refine cr_cv (b := 116) (as := [.ref 112, .int (nI w)]) (al0 := [some (.ref 116), some (.ref 112), some (.int (nI w)), none, none]) (r := []) d_41_55 cw_41 cm_6_60 cz_98 rfl rfl (hS.i (a := 116) (by decide) (by decide)) (by rw [cw_98]; exact (hS.s (a := 116) (by decide) (by decide) rfl)) (by rw [cw_98]; decide) rfl (cr_wk (Nat.le_of_ble_eq_true rfl) (k_makeConjugate (tb_112 hS pw.1) (by rw [pw.2.1 112 (by decide)]; exact hn) (pw.2.2.1.c (by decide) hc) (tb_116 hS pw.1) (by decide) hl (by omega))) (fun v1 S1 G1 B1 J1 R1 h1 => ?_)
          obtain ⟨q0_, q1_, q2_, q3_, q4_, wc, q5_, hwc⟩ := h1
          obtain rfl := q0_
          obtain rfl := q1_.symm
          obtain rfl := q2_
          obtain rfl := q3_.symm
          obtain rfl := q4_.symm
          obtain rfl := q5_
          show CR _ _ 58 [some (.ref 111), some (.int (nI 6)), some (.int (nI w))] [] S (up2 u_.2.2.1 116 0 (.int (nI n))) (upr u_.2.2.2 (116 + 1) wc) J R _
          refine cr_nx (pc' := 59) (al' := [some (.ref 111), some (.int (nI 6)), some (.int (nI w))]) (st' := [.ref 111]) d_41_58 (fun _ => rfl) ?_
          refine cr_cv (b := 111) (as := []) (al0 := [some (.ref 111), none, none, none]) (r := []) d_41_59 cw_41 cm_6_63 cz_44 rfl rfl (hS.i (a := 111) (by decide) (by decide)) (by rw [cw_44]; exact (hS.s (a := 111) (by decide) (by decide) rfl)) (by rw [cw_44]; decide) rfl (cr_wk (Nat.le_of_ble_eq_true rfl) (k_offerIsotopes_111 (h := u_.1) (bb := u_.2.1) (e := cjN w n c) (F := NmK n c w) hS (pw.1.u0 (by decide)) up2_s ⟨hn6, fun q hq => ⟨by rw [upr_s]; exact hwc q hq, (cj_lat hl).1 q hq⟩⟩ (cj_lat hl) hn1 (pw.2.2.2.1.cg (by rw [up2_n (by decide)]) (by rw [upr_n (by decide)])) pw.2.2.2.2)) (fun v1 S1 G2 B2 J1 R1 h1 => ?_)
          obtain ⟨q0_, q1_, q2_, q3_, fx2, gf2, bf2, h2, b2, nb2, mi2⟩ := h1
          obtain rfl := q0_
          obtain rfl := q1_.symm
          obtain rfl := q2_.symm
          obtain rfl := q3_.symm
          show CR _ _ 62 [some (.ref 111), some (.int (nI 6)), some (.int (nI w))] [] S G2 B2 J R _
          refine cn_inc d_41_62 rfl rfl ?_
          show CR _ _ 65 [some (.ref 111), some (.int (nI 6)), some (.int (nI (w + 1)))] [] S G2 B2 J R _
          refine cr_nx (pc' := 41) (al' := [some (.ref 111), some (.int (nI 6)), some (.int (nI (w + 1)))]) (st' := []) d_41_65 (fun _ => rfl) ?_
          exact ihw (h2, b2, G2, B2) (⟨fx2, (pw.2.1.u (by decide)).tr (gf2.mo (by decide)), (pw.2.2.1.u (by decide)).tr (bf2.mo (by decide)), nb2, Min_iff mi2 Nm_w⟩)
      · show CR _ _ 41 [some (.ref 111), some (.int (nI 6)), some (.int (nI 6))] [] S u_.2.2.1 u_.2.2.2 J R _
        refine cr_nx (pc' := 42) (al' := [some (.ref 111), some (.int (nI 6)), some (.int (nI 6))]) (st' := [.int (nI 6)]) d_41_41 (fun _ => rfl) ?_
        refine cr_nx (pc' := 43) (al' := [some (.ref 111), some (.int (nI 6)), some (.int (nI 6))]) (st' := [.int (nI 6), .int (nI 6)]) d_41_42 (fun _ => rfl) ?_
        refine cn_cge (t := 68) d_41_43 (by decide) (by first | omega | assumption | exact cu_36 (by omega) (cu_lt (by omega) (by omega))) (by first | omega | assumption | exact cu_36 (by omega) (cu_lt (by omega) (by omega))) (fun c43 => ?_) (fun c43 => ?_)
        · exact cr_rv d_41_68 cx_41 (by
              obtain ⟨z1, z2⟩ : u_.1 = 1 ∧ MinS (n * n) (NmF 2 n c) 1 u_.2.1 := Min_1 pw.2.2.2.2 (Nm_ex (l := 2) hl hn1)
              exact ⟨rfl, rfl, rfl, rfl, pw.1, pw.2.1, pw.2.2.1, by rw [pw.2.2.2.1.1, z1, Nat.mul_one], u_.2.1, pw.2.2.2.1.2.2 z1, z2⟩)
        · omega
    · omega
  · omega
theorem k_startFrom_122 {S : CS} {G : Nat → Nat → Value} {B : Nat → Nat → Int32} {J : Nat → Nat → Int64} {R : Nat → Nat → Option Nat} (hS : ShOk S) (hF : FxG G) {z : Nat} (hz : z < 6) : CR 0 45 0 [some (.ref 122), some (.int (nI z)), none] [] S G B J R (rwC 131 S G B J R 6 (fun k => nI (if k = 0 then z else if k ≤ z then k - 1 else k))) := by
  refine cr_nx (pc' := 1) (al' := [some (.ref 122), some (.int (nI z)), none]) (st' := [.ref 122]) d_45_0 (fun _ => rfl) ?_
  refine cr_gf (v := .ref 131) d_45_1 cw_45 cf_6_31 (hS.i (a := 122) (by decide) (by decide)) (hS.s (a := 122) (by decide) (by decide) rfl) (by decide) (fx_122_5 hF) ?_
  refine cn_ic (v := 0) d_45_4 (by decide) ?_
  refine cr_nx (pc' := 6) (al' := [some (.ref 122), some (.int (nI z)), none]) (st' := [.int (nI z), .int (nI 0), .ref 131]) d_45_5 (fun _ => rfl) ?_
  refine cr_iS (a := 131) (B1 := (upr B 131 (upd (B 131) 0 (nI z)))) d_45_6 (hS.i (a := 131) (by decide) (by decide)) (hS.s (a := 131) (by decide) (by decide) rfl) (by first | decide | omega) (show 0 < 6 by first | omega | assumption | exact cu_36 (by omega) (cu_lt (by omega) (by omega))) rfl ?_
  refine cn_ic (v := 1) d_45_7 (by decide) ?_
  refine cr_nx (pc' := 9) (al' := [some (.ref 122), some (.int (nI z)), some (.int (nI 1))]) (st' := []) d_45_8 (fun _ => rfl) ?_
  refine cr_upw (al := fun i w_ => [some (.ref 122), some (.int (nI z)), some (.int (nI i))]) (S := fun i w_ => S) (G := fun i w_ => G) (B := fun i w_ => (upr B 131 w_)) (J := fun i w_ => J) (R := fun i w_ => R) (P := fun i w_ => 1 ≤ i ∧ ∀ k, k < i → w_ k = nI (if k = 0 then z else if k ≤ z then k - 1 else k)) (n := 6) (fun i w_ hi pi ihi => ?_) (fun w_ pi => ?_) 1 (upd (B 131) 0 (nI z)) (by omega) (⟨by omega, fun k hk => by rw [show k = 0 by omega, pk_us, if_pos rfl]⟩)
  · show CR _ _ 9 [some (.ref 122), some (.int (nI z)), some (.int (nI i))] [] S G (upr B 131 w_) J R _
    refine cr_nx (pc' := 10) (al' := [some (.ref 122), some (.int (nI z)), some (.int (nI i))]) (st' := [.int (nI i)]) d_45_9 (fun _ => rfl) ?_
    refine cn_bp (v := 6) d_45_10 (by decide) ?_
    refine cn_cge (t := 39) d_45_12 (by decide) (by first | omega | assumption | exact cu_36 (by omega) (cu_lt (by omega) (by omega))) (by first | omega | assumption | exact cu_36 (by omega) (cu_lt (by omega) (by omega))) (fun c12 => ?_) (fun c12 => ?_)
    · omega
    · refine cr_nx (pc' := 16) (al' := [some (.ref 122), some (.int (nI z)), some (.int (nI i))]) (st' := [.ref 122]) d_45_15 (fun _ => rfl) ?_
      refine cr_gf (v := .ref 131) d_45_16 cw_45 cf_6_31 (hS.i (a := 122) (by decide) (by decide)) (hS.s (a := 122) (by decide) (by decide) rfl) (by decide) (fx_122_5 hF) ?_
      refine cr_nx (pc' := 20) (al' := [some (.ref 122), some (.int (nI z)), some (.int (nI i))]) (st' := [.int (nI i), .ref 131]) d_45_19 (fun _ => rfl) ?_
      refine cr_nx (pc' := 21) (al' := [some (.ref 122), some (.int (nI z)), some (.int (nI i))]) (st' := [.int (nI i), .int (nI i), .ref 131]) d_45_20 (fun _ => rfl) ?_
      refine cr_nx (pc' := 22) (al' := [some (.ref 122), some (.int (nI z)), some (.int (nI i))]) (st' := [.int (nI z), .int (nI i), .int (nI i), .ref 131]) d_45_21 (fun _ => rfl) ?_
      refine cn_cgt (t := 31) d_45_22 (by decide) (by first | omega | assumption | exact cu_36 (by omega) (cu_lt (by omega) (by omega))) (by first | omega | assumption | exact cu_36 (by omega) (cu_lt (by omega) (by omega))) (fun c22 => ?_) (fun c22 => ?_)
      · refine cr_nx (pc' := 32) (al' := [some (.ref 122), some (.int (nI z)), some (.int (nI i))]) (st' := [.int (nI i), .int (nI i), .ref 131]) d_45_31 (fun _ => rfl) ?_
        refine cr_iS (a := 131) (B1 := (upr B 131 (upd w_ i (nI i)))) d_45_32 (hS.i (a := 131) (by decide) (by decide)) (hS.s (a := 131) (by decide) (by decide) rfl) (by first | decide | omega) (show i < 6 by first | omega | assumption | exact cu_36 (by omega) (cu_lt (by omega) (by omega))) (by rw [upr_s, upr_u]) ?_
        refine cn_inc d_45_33 rfl rfl ?_
        show CR _ _ 36 [some (.ref 122), some (.int (nI z)), some (.int (nI (i + 1)))] [] S G (upr B 131 (upd w_ i (nI i))) J R _
        refine cr_nx (pc' := 9) (al' := [some (.ref 122), some (.int (nI z)), some (.int (nI (i + 1)))]) (st' := []) d_45_36 (fun _ => rfl) ?_
        exact ihi (upd w_ i (nI i)) (⟨by omega, up_all (f := fun k => nI (if k = 0 then z else if k ≤ z then k - 1 else k)) pi.2 (by (try dsimp only); rw [if_neg (show ¬ i = 0 by have := pi.1; omega)]; first | rw [if_pos c22] | rw [if_neg (Nat.not_le.mpr c22)])⟩)
      · refine cr_nx (pc' := 26) (al' := [some (.ref 122), some (.int (nI z)), some (.int (nI i))]) (st' := [.int (nI i), .int (nI i), .ref 131]) d_45_25 (fun _ => rfl) ?_
        refine cn_ic (v := 1) d_45_26 (by decide) ?_
        refine cn_sub d_45_27 (by have := pi.1; omega) ?_
        refine cr_nx (pc' := 32) (al' := [some (.ref 122), some (.int (nI z)), some (.int (nI i))]) (st' := [.int (nI (i - 1)), .int (nI i), .ref 131]) d_45_28 (fun _ => rfl) ?_
        refine cr_iS (a := 131) (B1 := (upr B 131 (upd w_ i (nI (i - 1))))) d_45_32 (hS.i (a := 131) (by decide) (by decide)) (hS.s (a := 131) (by decide) (by decide) rfl) (by first | decide | omega) (show i < 6 by first | omega | assumption | exact cu_36 (by omega) (cu_lt (by omega) (by omega))) (by rw [upr_s, upr_u]) ?_
        refine cn_inc d_45_33 rfl rfl ?_
        show CR _ _ 36 [some (.ref 122), some (.int (nI z)), some (.int (nI (i + 1)))] [] S G (upr B 131 (upd w_ i (nI (i - 1)))) J R _
        refine cr_nx (pc' := 9) (al' := [some (.ref 122), some (.int (nI z)), some (.int (nI (i + 1)))]) (st' := []) d_45_36 (fun _ => rfl) ?_
        exact ihi (upd w_ i (nI (i - 1))) (⟨by omega, up_all (f := fun k => nI (if k = 0 then z else if k ≤ z then k - 1 else k)) pi.2 (by (try dsimp only); rw [if_neg (show ¬ i = 0 by have := pi.1; omega)]; first | rw [if_pos c22] | rw [if_neg (Nat.not_le.mpr c22)])⟩)
  · show CR _ _ 9 [some (.ref 122), some (.int (nI z)), some (.int (nI 6))] [] S G (upr B 131 w_) J R _
    refine cr_nx (pc' := 10) (al' := [some (.ref 122), some (.int (nI z)), some (.int (nI 6))]) (st' := [.int (nI 6)]) d_45_9 (fun _ => rfl) ?_
    refine cn_bp (v := 6) d_45_10 (by decide) ?_
    refine cn_cge (t := 39) d_45_12 (by decide) (by first | omega | assumption | exact cu_36 (by omega) (cu_lt (by omega) (by omega))) (by first | omega | assumption | exact cu_36 (by omega) (cu_lt (by omega) (by omega))) (fun c12 => ?_) (fun c12 => ?_)
    · exact cr_rv d_45_39 cx_45 ⟨rfl, rfl, rfl, rfl, rfl, w_, rfl, pi.2⟩
    · omega
theorem k_offerFrom0_122 {S : CS} {G : Nat → Nat → Value} {B : Nat → Nat → Int32} {J : Nat → Nat → Int64} {R : Nat → Nat → Option Nat} (hS : ShOk S) (hF : FxG G) {a n h : Nat} {c bb : Nat → Nat} {F : (Nat → Nat) → Prop} (ht : TabAt S G a) (hn : G a 0 = .int (nI n)) (hc : TabC B a n c) (hl : Lat n c) (hn1 : 1 ≤ n) (hab : a ≠ 125) (har : a + 1 ∉ [126, 131, 132]) (hf : ∀ k, k < n → B 131 k = nI (pmE n (0) k)) (hB : NmB 125 G B n h bb) (hM : MinS (n * n) F h bb) : CR 2 42 0 [some (.ref 122), some (.ref a), some (.int (nI 0)), none, none] [] S G B J R (fun r_ S' G' B' J' R' => r_ = none ∧ S' = S ∧ J' = J ∧ R' = R ∧ FxG G' ∧ Gfr [125] G G' ∧ Bfr [126, 131, 132] B B' ∧ ∃ h' bb', NmB 125 G' B' n h' bb' ∧ MinS (n * n) (fun t => F t ∨ FR n c none t) h' bb') := by
  have hn6 := hc.1
  have h720 := FA_720 (n := n - 0) (by omega)
  refine cr_gs d_42_0 cw_42 cq_6_78 ?_
  refine cr_nx (pc' := 4) (al' := [some (.ref 122), some (.ref a), some (.int (nI 0)), none, none]) (st' := [.ref a, .ref 0]) d_42_3 (fun _ => rfl) ?_
  refine cr_gf (v := .int (nI n)) d_42_4 cw_42 cf_6_38 ht.1 ht.2.2.1 (by decide) (by first | exact hn | (rw [pi.2.1 a (by simp; omega)]; exact hn)) ?_
  refine cr_nx (pc' := 8) (al' := [some (.ref 122), some (.ref a), some (.int (nI 0)), none, none]) (st' := [.int (nI 0), .int (nI n), .ref 0]) d_42_7 (fun _ => rfl) ?_
  refine cn_sub d_42_8 (by first | omega | assumption | exact cu_36 (by omega) (cu_lt (by omega) (by omega))) ?_
  refine cr_fa (v := (nI (FA (n - 0)))) d_42_9 (show n - 0 < 7 by omega) (am_fcN (by omega)) ?_
  refine cr_nx (pc' := 11) (al' := [some (.ref 122), some (.ref a), some (.int (nI 0)), some (.int (nI (FA (n - 0)))), none]) (st' := []) d_42_10 (fun _ => rfl) ?_
  refine cn_ic (v := 0) d_42_11 (by decide) ?_
  refine cr_nx (pc' := 14) (al' := [some (.ref 122), some (.ref a), some (.int (nI 0)), some (.int (nI (FA (n - 0)))), some (.int (nI 0))]) (st' := []) d_42_12 (fun _ => rfl) ?_
  refine cr_upw (al := fun i u_ => [some (.ref 122), some (.ref a), some (.int (nI 0)), some (.int (nI (FA (n - 0)))), some (.int (nI i))]) (S := fun i u_ => S) (G := fun i u_ => u_.2.2.1) (B := fun i u_ => u_.2.2.2) (J := fun i u_ => J) (R := fun i u_ => R) (P := fun i u_ => FxG u_.2.2.1 ∧ Gfr [125] G u_.2.2.1 ∧ Bfr [126, 131, 132] B u_.2.2.2 ∧ NmB 125 u_.2.2.1 u_.2.2.2 n u_.1 u_.2.1 ∧ MinS (n * n) (fun t => F t ∨ UF n c (0) i t) u_.1 u_.2.1 ∧ (i < FA (n - 0) → ∀ k, k < n → u_.2.2.2 131 k = nI (pmE n (0 + i) k))) (n := FA (n - 0)) (fun i u_ hi pi ihi => ?_) (fun u_ pi => ?_) 0 (h, bb, G, B) (by omega) (⟨hF, Gfr.rf, Bfr.rf, hB, Min_iff hM UF_0, fun _ => hf⟩)
  · show CR _ _ 14 [some (.ref 122), some (.ref a), some (.int (nI 0)), some (.int (nI (FA (n - 0)))), some (.int (nI i))] [] S u_.2.2.1 u_.2.2.2 J R _
    have hP := pm_per (n := n) (r := 0 + i) hn6 (by rw [Nat.zero_add]; exact hi)
    refine cr_nx (pc' := 16) (al' := [some (.ref 122), some (.ref a), some (.int (nI 0)), some (.int (nI (FA (n - 0)))), some (.int (nI i))]) (st' := [.int (nI i)]) d_42_14 (fun _ => rfl) ?_
    refine cr_nx (pc' := 17) (al' := [some (.ref 122), some (.ref a), some (.int (nI 0)), some (.int (nI (FA (n - 0)))), some (.int (nI i))]) (st' := [.int (nI (FA (n - 0))), .int (nI i)]) d_42_16 (fun _ => rfl) ?_
    refine cn_cge (t := 43) d_42_17 (by decide) (by first | omega | assumption | exact cu_36 (by omega) (cu_lt (by omega) (by omega))) (by first | omega | assumption | exact cu_36 (by omega) (cu_lt (by omega) (by omega))) (fun c17 => ?_) (fun c17 => ?_)
    · omega
    · refine cr_nx (pc' := 21) (al' := [some (.ref 122), some (.ref a), some (.int (nI 0)), some (.int (nI (FA (n - 0)))), some (.int (nI i))]) (st' := [.ref 122]) d_42_20 (fun _ => rfl) ?_
      refine cr_nx (pc' := 22) (al' := [some (.ref 122), some (.ref a), some (.int (nI 0)), some (.int (nI (FA (n - 0)))), some (.int (nI i))]) (st' := [.ref a, .ref 122]) d_42_21 (fun _ => rfl) ?_
      refine cr_cv (b := 122) (as := [.ref a]) (al0 := [some (.ref 122), some (.ref a), none, none, none, none, none]) (r := []) d_42_22 cw_42 cm_6_81 cz_43 rfl rfl (hS.i (a := 122) (by decide) (by decide)) (by rw [cw_43]; exact (hS.s (a := 122) (by decide) (by decide) rfl)) (by rw [cw_43]; decide) rfl (cr_wk (Nat.le_of_ble_eq_true rfl) (k_offer_122 (h := u_.1) (bb := u_.2.1) (f := pmE n (0 + i)) hS pi.1 (pi.2.1.t (by simp; omega) ht) (by rw [pi.2.1 a (by simp; omega)]; exact hn) (pi.2.2.1.c har hc) hl hab har hP (pi.2.2.2.2.2 hi) pi.2.2.2.1.2.1 (fun e q hq => (pi.2.2.2.1.2.2 e q hq).2) (fun e q hq => (pi.2.2.2.1.2.2 e q hq).1) hn1 pi.2.2.2.1.1)) (fun v1 S1 G1 B1 J1 R1 h1 => ?_)
      obtain ⟨q0_, q1_, q2_, q3_, q4_, wt, wb, q5_, b2, hb2, hs2⟩ := h1
      obtain rfl := q0_
      obtain rfl := q1_.symm
      obtain rfl := q2_
      obtain rfl := q3_.symm
      obtain rfl := q4_.symm
      obtain rfl := q5_
      show CR _ _ 25 [some (.ref 122), some (.ref a), some (.int (nI 0)), some (.int (nI (FA (n - 0)))), some (.int (nI i))] [] S (up2 u_.2.2.1 125 0 (.int (nI n))) (upr (upr u_.2.2.2 132 wt) (125 + 1) wb) J R _
      refine cr_nx (pc' := 26) (al' := [some (.ref 122), some (.ref a), some (.int (nI 0)), some (.int (nI (FA (n - 0)))), some (.int (nI i))]) (st' := [.ref 122]) d_42_25 (fun _ => rfl) ?_
      refine cr_gf (v := .ref 131) d_42_26 cw_42 cf_6_31 (hS.i (a := 122) (by decide) (by decide)) (hS.s (a := 122) (by decide) (by decide) rfl) (by decide) (by simp [up2, hab]; exact (fx_122_5 pi.1)) ?_
      refine cr_nx (pc' := 30) (al' := [some (.ref 122), some (.ref a), some (.int (nI 0)), some (.int (nI (FA (n - 0)))), some (.int (nI i))]) (st' := [.int (nI 0), .ref 131]) d_42_29 (fun _ => rfl) ?_
      refine cr_nx (pc' := 31) (al' := [some (.ref 122), some (.ref a), some (.int (nI 0)), some (.int (nI (FA (n - 0)))), some (.int (nI i))]) (st' := [.ref a, .int (nI 0), .ref 131]) d_42_30 (fun _ => rfl) ?_
      refine cr_gf (v := .int (nI n)) d_42_31 cw_42 cf_6_38 ht.1 ht.2.2.1 (by decide) (by simp [up2, hab]; exact (by first | exact hn | (rw [pi.2.1 a (by simp; omega)]; exact hn))) ?_
      refine cr_cs (as := [.ref 131, .int (nI 0), .int (nI n)]) (al0 := [some (.ref 131), some (.int (nI 0)), some (.int (nI n)), none, none, none]) (r := []) d_42_34 cw_42 cm_6_84 (by decide) cz_157 rfl rfl rfl (cr_wk (Nat.le_of_ble_eq_true rfl) (k_permuteOn (f := pmE n (0 + i)) (hS.i (a := 131) (by decide) (by decide)) (hS.s (a := 131) (by decide) (by decide) rfl) (by decide) (by omega) (by omega) (by omega) (pm_31 hn6 (by rw [Nat.zero_add]; exact hi)) (fun q hq => by rw [upr_n (by decide), upr_n (by decide)]; exact pi.2.2.2.2.2 hi q hq))) (fun v1 S1 G1 B1 J1 R1 h1 => ?_)
      obtain ⟨q0_, q1_, q2_, q3_, q4_, w34, q9_, hw34⟩ := h1
      obtain rfl := q0_
      obtain rfl := q1_.symm
      obtain rfl := q2_.symm
      obtain rfl := q3_.symm
      obtain rfl := q4_.symm
      obtain rfl := q9_
      show CR _ _ 37 [some (.ref 122), some (.ref a), some (.int (nI 0)), some (.int (nI (FA (n - 0)))), some (.int (nI i))] [] S (up2 u_.2.2.1 125 0 (.int (nI n))) (upr (upr (upr u_.2.2.2 132 wt) (125 + 1) wb) 131 w34) J R _
      refine cn_inc d_42_37 rfl rfl ?_
      show CR _ _ 40 [some (.ref 122), some (.ref a), some (.int (nI 0)), some (.int (nI (FA (n - 0)))), some (.int (nI (i + 1)))] [] S (up2 u_.2.2.1 125 0 (.int (nI n))) (upr (upr (upr u_.2.2.2 132 wt) (125 + 1) wb) 131 w34) J R _
      refine cr_nx (pc' := 14) (al' := [some (.ref 122), some (.ref a), some (.int (nI 0)), some (.int (nI (FA (n - 0)))), some (.int (nI (i + 1)))]) (st' := []) d_42_40 (fun _ => rfl) ?_
      exact ihi (1, b2, (up2 u_.2.2.1 125 0 (.int (nI n))), (upr (upr (upr u_.2.2.2 132 wt) (125 + 1) wb) 131 w34)) (⟨pi.1.u0 (by decide), pi.2.1.u (by decide), ((pi.2.2.1.u (by decide)).u (by decide)).u (by decide), ⟨by dsimp only; rw [up2_s, Nat.mul_one], Nat.le_refl 1, fun _ q hq => by dsimp only; rw [upr_n (by decide), upr_s]; exact hb2 q hq⟩, Min_iff (Min_st pi.2.2.2.2.1 hs2) UF_s, fun hr q hq => by dsimp only; rw [upr_s, hw34 q hq]; exact congrArg nI (by rw [Nat.zero_add, Nat.zero_add]; exact nx_pm hn6 hr hq)⟩)
  · show CR _ _ 14 [some (.ref 122), some (.ref a), some (.int (nI 0)), some (.int (nI (FA (n - 0)))), some (.int (nI (FA (n - 0))))] [] S u_.2.2.1 u_.2.2.2 J R _
    refine cr_nx (pc' := 16) (al' := [some (.ref 122), some (.ref a), some (.int (nI 0)), some (.int (nI (FA (n - 0)))), some (.int (nI (FA (n - 0))))]) (st' := [.int (nI (FA (n - 0)))]) d_42_14 (fun _ => rfl) ?_
    refine cr_nx (pc' := 17) (al' := [some (.ref 122), some (.ref a), some (.int (nI 0)), some (.int (nI (FA (n - 0)))), some (.int (nI (FA (n - 0))))]) (st' := [.int (nI (FA (n - 0))), .int (nI (FA (n - 0)))]) d_42_16 (fun _ => rfl) ?_
    refine cn_cge (t := 43) d_42_17 (by decide) (by first | omega | assumption | exact cu_36 (by omega) (cu_lt (by omega) (by omega))) (by first | omega | assumption | exact cu_36 (by omega) (cu_lt (by omega) (by omega))) (fun c17 => ?_) (fun c17 => ?_)
    · exact cr_rv d_42_43 cx_42 ⟨rfl, rfl, rfl, rfl, pi.1, pi.2.1, pi.2.2.1, u_.1, u_.2.1, pi.2.2.2.1, Min_iff pi.2.2.2.2.1 (fun t => or_congr Iff.rfl (FR_u0 hn6 hl t).symm)⟩
    · omega
theorem k_offerFrom1_122 {S : CS} {G : Nat → Nat → Value} {B : Nat → Nat → Int32} {J : Nat → Nat → Int64} {R : Nat → Nat → Option Nat} (hS : ShOk S) (hF : FxG G) {a n h : Nat} {c bb : Nat → Nat} {F : (Nat → Nat) → Prop} {z : Nat} (hz : z < n) (ht : TabAt S G a) (hn : G a 0 = .int (nI n)) (hc : TabC B a n c) (hl : Lat n c) (hn1 : 1 ≤ n) (hab : a ≠ 125) (har : a + 1 ∉ [126, 131, 132]) (hf : ∀ k, k < n → B 131 k = nI (pmE n (z * FA (n - 1)) k)) (hB : NmB 125 G B n h bb) (hM : MinS (n * n) F h bb) : CR 2 42 0 [some (.ref 122), some (.ref a), some (.int (nI 1)), none, none] [] S G B J R (fun r_ S' G' B' J' R' => r_ = none ∧ S' = S ∧ J' = J ∧ R' = R ∧ FxG G' ∧ Gfr [125] G G' ∧ Bfr [126, 131, 132] B B' ∧ ∃ h' bb', NmB 125 G' B' n h' bb' ∧ MinS (n * n) (fun t => F t ∨ FR n c (some z) t) h' bb') := by
  have hn6 := hc.1
  have h720 := FA_720 (n := n - 1) (by omega)
  refine cr_gs d_42_0 cw_42 cq_6_78 ?_
  refine cr_nx (pc' := 4) (al' := [some (.ref 122), some (.ref a), some (.int (nI 1)), none, none]) (st' := [.ref a, .ref 0]) d_42_3 (fun _ => rfl) ?_
  refine cr_gf (v := .int (nI n)) d_42_4 cw_42 cf_6_38 ht.1 ht.2.2.1 (by decide) (by first | exact hn | (rw [pi.2.1 a (by simp; omega)]; exact hn)) ?_
  refine cr_nx (pc' := 8) (al' := [some (.ref 122), some (.ref a), some (.int (nI 1)), none, none]) (st' := [.int (nI 1), .int (nI n), .ref 0]) d_42_7 (fun _ => rfl) ?_
  refine cn_sub d_42_8 (by first | omega | assumption | exact cu_36 (by omega) (cu_lt (by omega) (by omega))) ?_
  refine cr_fa (v := (nI (FA (n - 1)))) d_42_9 (show n - 1 < 7 by omega) (am_fcN (by omega)) ?_
  refine cr_nx (pc' := 11) (al' := [some (.ref 122), some (.ref a), some (.int (nI 1)), some (.int (nI (FA (n - 1)))), none]) (st' := []) d_42_10 (fun _ => rfl) ?_
  refine cn_ic (v := 0) d_42_11 (by decide) ?_
  refine cr_nx (pc' := 14) (al' := [some (.ref 122), some (.ref a), some (.int (nI 1)), some (.int (nI (FA (n - 1)))), some (.int (nI 0))]) (st' := []) d_42_12 (fun _ => rfl) ?_
  refine cr_upw (al := fun i u_ => [some (.ref 122), some (.ref a), some (.int (nI 1)), some (.int (nI (FA (n - 1)))), some (.int (nI i))]) (S := fun i u_ => S) (G := fun i u_ => u_.2.2.1) (B := fun i u_ => u_.2.2.2) (J := fun i u_ => J) (R := fun i u_ => R) (P := fun i u_ => FxG u_.2.2.1 ∧ Gfr [125] G u_.2.2.1 ∧ Bfr [126, 131, 132] B u_.2.2.2 ∧ NmB 125 u_.2.2.1 u_.2.2.2 n u_.1 u_.2.1 ∧ MinS (n * n) (fun t => F t ∨ UF n c (z * FA (n - 1)) i t) u_.1 u_.2.1 ∧ (i < FA (n - 1) → ∀ k, k < n → u_.2.2.2 131 k = nI (pmE n (z * FA (n - 1) + i) k))) (n := FA (n - 1)) (fun i u_ hi pi ihi => ?_) (fun u_ pi => ?_) 0 (h, bb, G, B) (by omega) (⟨hF, Gfr.rf, Bfr.rf, hB, Min_iff hM UF_0, fun _ => hf⟩)
  · show CR _ _ 14 [some (.ref 122), some (.ref a), some (.int (nI 1)), some (.int (nI (FA (n - 1)))), some (.int (nI i))] [] S u_.2.2.1 u_.2.2.2 J R _
    have hP := pm_per (n := n) (r := z * FA (n - 1) + i) hn6 (z_blk hn1 hz hi)
    refine cr_nx (pc' := 16) (al' := [some (.ref 122), some (.ref a), some (.int (nI 1)), some (.int (nI (FA (n - 1)))), some (.int (nI i))]) (st' := [.int (nI i)]) d_42_14 (fun _ => rfl) ?_
    refine cr_nx (pc' := 17) (al' := [some (.ref 122), some (.ref a), some (.int (nI 1)), some (.int (nI (FA (n - 1)))), some (.int (nI i))]) (st' := [.int (nI (FA (n - 1))), .int (nI i)]) d_42_16 (fun _ => rfl) ?_
    refine cn_cge (t := 43) d_42_17 (by decide) (by first | omega | assumption | exact cu_36 (by omega) (cu_lt (by omega) (by omega))) (by first | omega | assumption | exact cu_36 (by omega) (cu_lt (by omega) (by omega))) (fun c17 => ?_) (fun c17 => ?_)
    · omega
    · refine cr_nx (pc' := 21) (al' := [some (.ref 122), some (.ref a), some (.int (nI 1)), some (.int (nI (FA (n - 1)))), some (.int (nI i))]) (st' := [.ref 122]) d_42_20 (fun _ => rfl) ?_
      refine cr_nx (pc' := 22) (al' := [some (.ref 122), some (.ref a), some (.int (nI 1)), some (.int (nI (FA (n - 1)))), some (.int (nI i))]) (st' := [.ref a, .ref 122]) d_42_21 (fun _ => rfl) ?_
      refine cr_cv (b := 122) (as := [.ref a]) (al0 := [some (.ref 122), some (.ref a), none, none, none, none, none]) (r := []) d_42_22 cw_42 cm_6_81 cz_43 rfl rfl (hS.i (a := 122) (by decide) (by decide)) (by rw [cw_43]; exact (hS.s (a := 122) (by decide) (by decide) rfl)) (by rw [cw_43]; decide) rfl (cr_wk (Nat.le_of_ble_eq_true rfl) (k_offer_122 (h := u_.1) (bb := u_.2.1) (f := pmE n (z * FA (n - 1) + i)) hS pi.1 (pi.2.1.t (by simp; omega) ht) (by rw [pi.2.1 a (by simp; omega)]; exact hn) (pi.2.2.1.c har hc) hl hab har hP (pi.2.2.2.2.2 hi) pi.2.2.2.1.2.1 (fun e q hq => (pi.2.2.2.1.2.2 e q hq).2) (fun e q hq => (pi.2.2.2.1.2.2 e q hq).1) hn1 pi.2.2.2.1.1)) (fun v1 S1 G1 B1 J1 R1 h1 => ?_)
      obtain ⟨q0_, q1_, q2_, q3_, q4_, wt, wb, q5_, b2, hb2, hs2⟩ := h1
      obtain rfl := q0_
      obtain rfl := q1_.symm
      obtain rfl := q2_
      obtain rfl := q3_.symm
      obtain rfl := q4_.symm
      obtain rfl := q5_
      show CR _ _ 25 [some (.ref 122), some (.ref a), some (.int (nI 1)), some (.int (nI (FA (n - 1)))), some (.int (nI i))] [] S (up2 u_.2.2.1 125 0 (.int (nI n))) (upr (upr u_.2.2.2 132 wt) (125 + 1) wb) J R _
      refine cr_nx (pc' := 26) (al' := [some (.ref 122), some (.ref a), some (.int (nI 1)), some (.int (nI (FA (n - 1)))), some (.int (nI i))]) (st' := [.ref 122]) d_42_25 (fun _ => rfl) ?_
      refine cr_gf (v := .ref 131) d_42_26 cw_42 cf_6_31 (hS.i (a := 122) (by decide) (by decide)) (hS.s (a := 122) (by decide) (by decide) rfl) (by decide) (by simp [up2, hab]; exact (fx_122_5 pi.1)) ?_
      refine cr_nx (pc' := 30) (al' := [some (.ref 122), some (.ref a), some (.int (nI 1)), some (.int (nI (FA (n - 1)))), some (.int (nI i))]) (st' := [.int (nI 1), .ref 131]) d_42_29 (fun _ => rfl) ?_
      refine cr_nx (pc' := 31) (al' := [some (.ref 122), some (.ref a), some (.int (nI 1)), some (.int (nI (FA (n - 1)))), some (.int (nI i))]) (st' := [.ref a, .int (nI 1), .ref 131]) d_42_30 (fun _ => rfl) ?_
      refine cr_gf (v := .int (nI n)) d_42_31 cw_42 cf_6_38 ht.1 ht.2.2.1 (by decide) (by simp [up2, hab]; exact (by first | exact hn | (rw [pi.2.1 a (by simp; omega)]; exact hn))) ?_
      refine cr_cs (as := [.ref 131, .int (nI 1), .int (nI n)]) (al0 := [some (.ref 131), some (.int (nI 1)), some (.int (nI n)), none, none, none]) (r := []) d_42_34 cw_42 cm_6_84 (by decide) cz_157 rfl rfl rfl (cr_wk (Nat.le_of_ble_eq_true rfl) (k_permuteOn (f := pmE n (z * FA (n - 1) + i)) (hS.i (a := 131) (by decide) (by decide)) (hS.s (a := 131) (by decide) (by decide) rfl) (by decide) (by omega) (by omega) (by omega) (pm_31 hn6 (z_blk hn1 hz hi)) (fun q hq => by rw [upr_n (by decide), upr_n (by decide)]; exact pi.2.2.2.2.2 hi q hq))) (fun v1 S1 G1 B1 J1 R1 h1 => ?_)
      obtain ⟨q0_, q1_, q2_, q3_, q4_, w34, q9_, hw34⟩ := h1
      obtain rfl := q0_
      obtain rfl := q1_.symm
      obtain rfl := q2_.symm
      obtain rfl := q3_.symm
      obtain rfl := q4_.symm
      obtain rfl := q9_
      show CR _ _ 37 [some (.ref 122), some (.ref a), some (.int (nI 1)), some (.int (nI (FA (n - 1)))), some (.int (nI i))] [] S (up2 u_.2.2.1 125 0 (.int (nI n))) (upr (upr (upr u_.2.2.2 132 wt) (125 + 1) wb) 131 w34) J R _
      refine cn_inc d_42_37 rfl rfl ?_
      show CR _ _ 40 [some (.ref 122), some (.ref a), some (.int (nI 1)), some (.int (nI (FA (n - 1)))), some (.int (nI (i + 1)))] [] S (up2 u_.2.2.1 125 0 (.int (nI n))) (upr (upr (upr u_.2.2.2 132 wt) (125 + 1) wb) 131 w34) J R _
      refine cr_nx (pc' := 14) (al' := [some (.ref 122), some (.ref a), some (.int (nI 1)), some (.int (nI (FA (n - 1)))), some (.int (nI (i + 1)))]) (st' := []) d_42_40 (fun _ => rfl) ?_
      exact ihi (1, b2, (up2 u_.2.2.1 125 0 (.int (nI n))), (upr (upr (upr u_.2.2.2 132 wt) (125 + 1) wb) 131 w34)) (⟨pi.1.u0 (by decide), pi.2.1.u (by decide), ((pi.2.2.1.u (by decide)).u (by decide)).u (by decide), ⟨by dsimp only; rw [up2_s, Nat.mul_one], Nat.le_refl 1, fun _ q hq => by dsimp only; rw [upr_n (by decide), upr_s]; exact hb2 q hq⟩, Min_iff (Min_st pi.2.2.2.2.1 hs2) UF_s, fun hr q hq => by dsimp only; rw [upr_s, hw34 q hq]; exact congrArg nI (nx1_pm hn6 (z_blk hn1 hz hi) (z_mod hr) hq)⟩)
  · show CR _ _ 14 [some (.ref 122), some (.ref a), some (.int (nI 1)), some (.int (nI (FA (n - 1)))), some (.int (nI (FA (n - 1))))] [] S u_.2.2.1 u_.2.2.2 J R _
    refine cr_nx (pc' := 16) (al' := [some (.ref 122), some (.ref a), some (.int (nI 1)), some (.int (nI (FA (n - 1)))), some (.int (nI (FA (n - 1))))]) (st' := [.int (nI (FA (n - 1)))]) d_42_14 (fun _ => rfl) ?_
    refine cr_nx (pc' := 17) (al' := [some (.ref 122), some (.ref a), some (.int (nI 1)), some (.int (nI (FA (n - 1)))), some (.int (nI (FA (n - 1))))]) (st' := [.int (nI (FA (n - 1))), .int (nI (FA (n - 1)))]) d_42_16 (fun _ => rfl) ?_
    refine cn_cge (t := 43) d_42_17 (by decide) (by first | omega | assumption | exact cu_36 (by omega) (cu_lt (by omega) (by omega))) (by first | omega | assumption | exact cu_36 (by omega) (cu_lt (by omega) (by omega))) (fun c17 => ?_) (fun c17 => ?_)
    · exact cr_rv d_42_43 cx_42 ⟨rfl, rfl, rfl, rfl, pi.1, pi.2.1, pi.2.2.1, u_.1, u_.2.1, pi.2.2.2.1, Min_iff pi.2.2.2.2.1 (fun t => or_congr Iff.rfl (FR_u1 hn6 hn1 hl hz t).symm)⟩
    · omega
theorem k_offerIsotopes_122 {S : CS} {G : Nat → Nat → Value} {B : Nat → Nat → Int32} {J : Nat → Nat → Int64} {R : Nat → Nat → Option Nat} (hS : ShOk S) (hF : FxG G) {n h : Nat} {e bb : Nat → Nat} {F : (Nat → Nat) → Prop} (hn : G 127 0 = .int (nI n)) (hc : TabC B 127 n e) (hl : Lat n e) (hn1 : 1 ≤ n) (hB : NmB 125 G B n h bb) (hM : MinS (n * n) F h bb) : CR 3 44 0 [some (.ref 122), none, none, none] [] S G B J R (fun r_ S' G' B' J' R' => r_ = none ∧ S' = S ∧ J' = J ∧ R' = R ∧ FxG G' ∧ Gfr [125, 129] G G' ∧ Bfr [126, 130, 131, 132] B B' ∧ ∃ h' bb', NmB 125 G' B' n h' bb' ∧ MinS (n * n) (fun t => F t ∨ ∃ k, k < n * n ∧ FR n (isN n e (k / n) (k % n)) (some (e k)) t) h' bb') := by
  have hn6 := hc.1
  have hcj := tb_127 hS hF
  refine cr_nx (pc' := 1) (al' := [some (.ref 122), none, none, none]) (st' := [.ref 122]) d_44_0 (fun _ => rfl) ?_
  refine cr_gf (v := .ref 127) d_44_1 cw_44 cf_6_25 (hS.i (a := 122) (by decide) (by decide)) (hS.s (a := 122) (by decide) (by decide) rfl) (by decide) (fx_122_3 hF) ?_
  refine cr_gf (v := .int (nI n)) d_44_4 cw_44 cf_6_38 hcj.1 hcj.2.2.1 (by decide) hn ?_
  refine cr_nx (pc' := 8) (al' := [some (.ref 122), some (.int (nI n)), none, none]) (st' := []) d_44_7 (fun _ => rfl) ?_
  refine cn_ic (v := 0) d_44_8 (by decide) ?_
  refine cr_nx (pc' := 10) (al' := [some (.ref 122), some (.int (nI n)), some (.int (nI 0)), none]) (st' := []) d_44_9 (fun _ => rfl) ?_
  refine cr_upw (al := fun a u_ => [some (.ref 122), some (.int (nI n)), some (.int (nI a)), none]) (S := fun a u_ => S) (G := fun a u_ => u_.2.2.1) (B := fun a u_ => u_.2.2.2) (J := fun a u_ => J) (R := fun a u_ => R) (P := fun a u_ => FxG u_.2.2.1 ∧ Gfr [125, 129] G u_.2.2.1 ∧ Bfr [126, 130, 131, 132] B u_.2.2.2 ∧ NmB 125 u_.2.2.1 u_.2.2.2 n u_.1 u_.2.1 ∧ MinS (n * n) (fun t => F t ∨ ∃ k, k < n * a ∧ FR n (isN n e (k / n) (k % n)) (some (e k)) t) u_.1 u_.2.1) (n := n) (fun a u_ ha pa iha => ?_) (fun u_ pa => ?_) 0 (h, bb, G, B) (by omega) (⟨hF, Gfr.rf, Bfr.rf, hB, Min_iff hM (fun t => ⟨Or.inl, fun h => h.elim id (fun ⟨k, hk, _⟩ => absurd hk (Nat.not_lt_zero k))⟩)⟩)
  · show CR _ _ 10 [some (.ref 122), some (.int (nI n)), some (.int (nI a)), none] [] S u_.2.2.1 u_.2.2.2 J R _
    refine cr_nx (pc' := 11) (al' := [some (.ref 122), some (.int (nI n)), some (.int (nI a)), none]) (st' := [.int (nI a)]) d_44_10 (fun _ => rfl) ?_
    refine cr_nx (pc' := 12) (al' := [some (.ref 122), some (.int (nI n)), some (.int (nI a)), none]) (st' := [.int (nI n), .int (nI a)]) d_44_11 (fun _ => rfl) ?_
    refine cn_cge (t := 69) d_44_12 (by decide) (by first | omega | assumption | exact cu_36 (by omega) (cu_lt (by omega) (by omega))) (by first | omega | assumption | exact cu_36 (by omega) (cu_lt (by omega) (by omega))) (fun c12 => ?_) (fun c12 => ?_)
    · omega
    · refine cn_ic (v := 0) d_44_15 (by decide) ?_
      refine cr_nx (pc' := 17) (al' := [some (.ref 122), some (.int (nI n)), some (.int (nI a)), some (.int (nI 0))]) (st' := []) d_44_16 (fun _ => rfl) ?_
      refine cr_upw (al := fun b u_ => [some (.ref 122), some (.int (nI n)), some (.int (nI a)), some (.int (nI b))]) (S := fun b u_ => S) (G := fun b u_ => u_.2.2.1) (B := fun b u_ => u_.2.2.2) (J := fun b u_ => J) (R := fun b u_ => R) (P := fun b u_ => FxG u_.2.2.1 ∧ Gfr [125, 129] G u_.2.2.1 ∧ Bfr [126, 130, 131, 132] B u_.2.2.2 ∧ NmB 125 u_.2.2.1 u_.2.2.2 n u_.1 u_.2.1 ∧ MinS (n * n) (fun t => F t ∨ ∃ k, k < n * a + b ∧ FR n (isN n e (k / n) (k % n)) (some (e k)) t) u_.1 u_.2.1) (n := n) (fun b u_ hb pb ihb => ?_) (fun u_ pb => ?_) 0 u_ (by omega) (pa)
      · show CR _ _ 17 [some (.ref 122), some (.int (nI n)), some (.int (nI a)), some (.int (nI b))] [] S u_.2.2.1 u_.2.2.2 J R _
        have hz : e (n * a + b) < n := hl.b ha hb
        have hlI : Lat n (isN n e a b) := isN_lat hl ha hb
        refine cr_nx (pc' := 18) (al' := [some (.ref 122), some (.int (nI n)), some (.int (nI a)), some (.int (nI b))]) (st' := [.int (nI b)]) d_44_17 (fun _ => rfl) ?_
        refine cr_nx (pc' := 19) (al' := [some (.ref 122), some (.int (nI n)), some (.int (nI a)), some (.int (nI b))]) (st' := [.int (nI n), .int (nI b)]) d_44_18 (fun _ => rfl) ?_
        refine cn_cge (t := 63) d_44_19 (by decide) (by first | omega | assumption | exact cu_36 (by omega) (cu_lt (by omega) (by omega))) (by first | omega | assumption | exact cu_36 (by omega) (cu_lt (by omega) (by omega))) (fun c19 => ?_) (fun c19 => ?_)
        · omega
        · refine cr_nx (pc' := 23) (al' := [some (.ref 122), some (.int (nI n)), some (.int (nI a)), some (.int (nI b))]) (st' := [.ref 122]) d_44_22 (fun _ => rfl) ?_
          refine cr_gf (v := .ref 129) d_44_23 cw_44 cf_6_28 (hS.i (a := 122) (by decide) (by decide)) (hS.s (a := 122) (by decide) (by decide) rfl) (by decide) (fx_122_4 pb.1) ?_
          refine cr_nx (pc' := 27) (al' := [some (.ref 122), some (.int (nI n)), some (.int (nI a)), some (.int (nI b))]) (st' := [.ref 122, .ref 129]) d_44_26 (fun _ => rfl) ?_
          refine cr_gf (v := .ref 127) d_44_27 cw_44 cf_6_25 (hS.i (a := 122) (by decide) (by decide)) (hS.s (a := 122) (by decide) (by decide) rfl) (by decide) (fx_122_3 pb.1) ?_
          refine cr_nx (pc' := 31) (al' := [some (.ref 122), some (.int (nI n)), some (.int (nI a)), some (.int (nI b))]) (st' := [.int (nI a), .ref 127, .ref 129]) d_44_30 (fun _ => rfl) ?_
          refine cr_nx (pc' := 32) (al' := [some (.ref 122), some (.int (nI n)), some (.int (nI a)), some (.int (nI b))]) (st' := [.int (nI b), .int (nI a), .ref 127, .ref 129]) d_44_31 (fun _ => rfl) ?_
          refine cr_cv (b := 129) (as := [.ref 127, .int (nI a), .int (nI b)]) (al0 := [some (.ref 129), some (.ref 127), some (.int (nI a)), some (.int (nI b)), none, none, none]) (r := []) d_44_32 cw_44 cm_6_66 cz_96 rfl rfl (hS.i (a := 129) (by decide) (by decide)) (by rw [cw_96]; exact (hS.s (a := 129) (by decide) (by decide) rfl)) (by rw [cw_96]; decide) rfl (cr_wk (Nat.le_of_ble_eq_true rfl) (k_makeIsotope (tb_127 hS pb.1) (by rw [pb.2.1 127 (by decide)]; exact hn) (pb.2.2.1.c (by decide) hc) (tb_129 hS pb.1) (by decide) hl ha hb)) (fun v1 S1 G1 B1 J1 R1 h1 => ?_)
          obtain ⟨q0_, q1_, q2_, q3_, q4_, wi, q5_, hwi⟩ := h1
          obtain rfl := q0_
          obtain rfl := q1_.symm
          obtain rfl := q2_
          obtain rfl := q3_.symm
          obtain rfl := q4_.symm
          obtain rfl := q5_
          show CR _ _ 35 [some (.ref 122), some (.int (nI n)), some (.int (nI a)), some (.int (nI b))] [] S (up2 u_.2.2.1 129 0 (.int (nI n))) (upr u_.2.2.2 (129 + 1) wi) J R _
          refine cr_nx (pc' := 36) (al' := [some (.ref 122), some (.int (nI n)), some (.int (nI a)), some (.int (nI b))]) (st' := [.ref 122]) d_44_35 (fun _ => rfl) ?_
          refine cr_nx (pc' := 37) (al' := [some (.ref 122), some (.int (nI n)), some (.int (nI a)), some (.int (nI b))]) (st' := [.ref 122, .ref 122]) d_44_36 (fun _ => rfl) ?_
          refine cr_gf (v := .ref 127) d_44_37 cw_44 cf_6_25 (hS.i (a := 122) (by decide) (by decide)) (hS.s (a := 122) (by decide) (by decide) rfl) (by decide) (by simp [up2]; exact (fx_122_3 pb.1)) ?_
          refine cr_nx (pc' := 41) (al' := [some (.ref 122), some (.int (nI n)), some (.int (nI a)), some (.int (nI b))]) (st' := [.int (nI a), .ref 127, .ref 122]) d_44_40 (fun _ => rfl) ?_
          refine cr_nx (pc' := 42) (al' := [some (.ref 122), some (.int (nI n)), some (.int (nI a)), some (.int (nI b))]) (st' := [.int (nI b), .int (nI a), .ref 127, .ref 122]) d_44_41 (fun _ => rfl) ?_
          refine cr_pv (b := 127) (as := [.int (nI a), .int (nI b)]) (al0 := [some (.ref 127), some (.int (nI a)), some (.int (nI b))]) (r := [.ref 122]) d_44_42 cw_44 cm_6_70 cz_91 rfl rfl hcj.1 (by rw [cw_91]; exact hcj.2.2.1) (by rw [cw_91]; decide) rfl (Nat.le_of_ble_eq_true rfl) (k_times (tb_127 hS (pb.1.u0 (by decide))) (by rw [up2_n (by decide), pb.2.1 127 (by decide)]; exact hn) (TabC.u1 (by decide) (pb.2.2.1.c (by decide) hc)) (by omega) (by omega)) ?_
          show CR _ _ 45 [some (.ref 122), some (.int (nI n)), some (.int (nI a)), some (.int (nI b))] [.int (nI (e (n * a + b))), .ref 122] S (up2 u_.2.2.1 129 0 (.int (nI n))) (upr u_.2.2.2 (129 + 1) wi) J R _
          have b42 : e (n * a + b) < n := (hc.2 _ (cu_lt (by omega) (by omega))).2
          refine cr_cv (b := 122) (as := [.int (nI (e (n * a + b)))]) (al0 := [some (.ref 122), some (.int (nI (e (n * a + b)))), none]) (r := []) d_44_45 cw_44 cm_6_74 cz_45 rfl rfl (hS.i (a := 122) (by decide) (by decide)) (by rw [cw_45]; exact (hS.s (a := 122) (by decide) (by decide) rfl)) (by rw [cw_45]; decide) rfl (cr_wk (Nat.le_of_ble_eq_true rfl) (k_startFrom_122 hS (pb.1.u0 (by decide)) (by omega))) (fun v1 S1 G1 B1 J1 R1 h1 => ?_)
          obtain ⟨q0_, q1_, q2_, q3_, q4_, wf, q9_, hwf⟩ := h1
          obtain rfl := q0_
          obtain rfl := q1_.symm
          obtain rfl := q2_.symm
          obtain rfl := q3_.symm
          obtain rfl := q4_.symm
          obtain rfl := q9_
          show CR _ _ 48 [some (.ref 122), some (.int (nI n)), some (.int (nI a)), some (.int (nI b))] [] S (up2 u_.2.2.1 129 0 (.int (nI n))) (upr (upr u_.2.2.2 (129 + 1) wi) 131 wf) J R _
          refine cr_nx (pc' := 49) (al' := [some (.ref 122), some (.int (nI n)), some (.int (nI a)), some (.int (nI b))]) (st' := [.ref 122]) d_44_48 (fun _ => rfl) ?_
          refine cr_nx (pc' := 50) (al' := [some (.ref 122), some (.int (nI n)), some (.int (nI a)), some (.int (nI b))]) (st' := [.ref 122, .ref 122]) d_44_49 (fun _ => rfl) ?_
          refine cr_gf (v := .ref 129) d_44_50 cw_44 cf_6_28 (hS.i (a := 122) (by decide) (by decide)) (hS.s (a := 122) (by decide) (by decide) rfl) (by decide) (by simp [up2]; exact (fx_122_4 pb.1)) ?_
          refine cn_ic (v := 1) d_44_53 (by decide) ?_
          refine cr_cv (b := 122) (as := [.ref 129, .int (nI 1)]) (al0 := [some (.ref 122), some (.ref 129), some (.int (nI 1)), none, none]) (r := []) d_44_54 cw_44 cm_6_56 cz_42 rfl rfl (hS.i (a := 122) (by decide) (by decide)) (by rw [cw_42]; exact (hS.s (a := 122) (by decide) (by decide) rfl)) (by rw [cw_42]; decide) rfl (cr_wk (Nat.le_of_ble_eq_true rfl) (k_offerFrom1_122 (h := u_.1) (bb := u_.2.1) (z := e (n * a + b)) (c := isN n e a b) hS (pb.1.u0 (by decide)) hz (tb_129 hS (pb.1.u0 (by decide))) up2_s ⟨hn6, fun q hq => ⟨by rw [upr_n (by decide), upr_s]; exact hwi q hq, hlI.1 q hq⟩⟩ hlI hn1 (by decide) (by decide) (fun k hk => by rw [upr_s, hwf k (by omega)]; exact congrArg nI (st_pm hn6 hz hk).symm) (pb.2.2.2.1.cg (by rw [up2_n (by decide)]) (by rw [upr_n (by decide), upr_n (by decide)])) pb.2.2.2.2)) (fun v1 S1 G2 B2 J1 R1 h1 => ?_)
          obtain ⟨q0_, q1_, q2_, q3_, fx2, gf2, bf2, h2, b2, nb2, mi2⟩ := h1
          obtain rfl := q0_
          obtain rfl := q1_.symm
          obtain rfl := q2_.symm
          obtain rfl := q3_.symm
          show CR _ _ 57 [some (.ref 122), some (.int (nI n)), some (.int (nI a)), some (.int (nI b))] [] S G2 B2 J R _
          refine cn_inc d_44_57 rfl rfl ?_
          show CR _ _ 60 [some (.ref 122), some (.int (nI n)), some (.int (nI a)), some (.int (nI (b + 1)))] [] S G2 B2 J R _
          refine cr_nx (pc' := 17) (al' := [some (.ref 122), some (.int (nI n)), some (.int (nI a)), some (.int (nI (b + 1)))]) (st' := []) d_44_60 (fun _ => rfl) ?_
          exact ihb (h2, b2, G2, B2) (⟨fx2, (pb.2.1.u (by decide)).tr (gf2.mo (by decide)), ((pb.2.2.1.u (by decide)).u (by decide)).tr (bf2.mo (by decide)), nb2, Min_iff mi2 (fun t => by have := FK_s (n := n) (e := e) (F := F) (i := n * a + b) t; rw [dm_d hb, dm_m hb] at this; exact this)⟩)
      · show CR _ _ 17 [some (.ref 122), some (.int (nI n)), some (.int (nI a)), some (.int (nI n))] [] S u_.2.2.1 u_.2.2.2 J R _
        refine cr_nx (pc' := 18) (al' := [some (.ref 122), some (.int (nI n)), some (.int (nI a)), some (.int (nI n))]) (st' := [.int (nI n)]) d_44_17 (fun _ => rfl) ?_
        refine cr_nx (pc' := 19) (al' := [some (.ref 122), some (.int (nI n)), some (.int (nI a)), some (.int (nI n))]) (st' := [.int (nI n), .int (nI n)]) d_44_18 (fun _ => rfl) ?_
        refine cn_cge (t := 63) d_44_19 (by decide) (by first | omega | assumption | exact cu_36 (by omega) (cu_lt (by omega) (by omega))) (by first | omega | assumption | exact cu_36 (by omega) (cu_lt (by omega) (by omega))) (fun c19 => ?_) (fun c19 => ?_)
        · refine cn_inc d_44_63 rfl rfl ?_
          show CR _ _ 66 [some (.ref 122), some (.int (nI n)), some (.int (nI (a + 1))), some (.int (nI n))] [] S u_.2.2.1 u_.2.2.2 J R _
          refine cr_nx (pc' := 10) (al' := [some (.ref 122), some (.int (nI n)), some (.int (nI (a + 1))), some (.int (nI n))]) (st' := []) d_44_66 (fun _ => rfl) ?_
          refine cr_dr (al1 := [some (.ref 122), some (.int (nI n)), some (.int (nI (a + 1))), none]) (le_s (le_s (le_s (le_d rfl (le_n))))) ?_
          exact iha u_ (by rw [Nat.mul_succ]; exact pb)
        · omega
  · show CR _ _ 10 [some (.ref 122), some (.int (nI n)), some (.int (nI n)), none] [] S u_.2.2.1 u_.2.2.2 J R _
    refine cr_nx (pc' := 11) (al' := [some (.ref 122), some (.int (nI n)), some (.int (nI n)), none]) (st' := [.int (nI n)]) d_44_10 (fun _ => rfl) ?_
    refine cr_nx (pc' := 12) (al' := [some (.ref 122), some (.int (nI n)), some (.int (nI n)), none]) (st' := [.int (nI n), .int (nI n)]) d_44_11 (fun _ => rfl) ?_
    refine cn_cge (t := 69) d_44_12 (by decide) (by first | omega | assumption | exact cu_36 (by omega) (cu_lt (by omega) (by omega))) (by first | omega | assumption | exact cu_36 (by omega) (cu_lt (by omega) (by omega))) (fun c12 => ?_) (fun c12 => ?_)
    · exact cr_rv d_44_69 cx_44 ⟨rfl, rfl, rfl, rfl, pa.1, pa.2.1, pa.2.2.1, u_.1, u_.2.1, pa.2.2.2.1, pa.2.2.2.2⟩
    · omega
theorem k_offerAll0_122 {S : CS} {G : Nat → Nat → Value} {B : Nat → Nat → Int32} {J : Nat → Nat → Int64} {R : Nat → Nat → Option Nat} (hS : ShOk S) (hF : FxG G) {n : Nat} {c : Nat → Nat} (hn : G 123 0 = .int (nI n)) (hc : TabC B 123 n c) (hl : Lat n c) (hn1 : 1 ≤ n) (hz : G 125 0 = .int (nI 0)) (hby : G 122 1 = .int (nI 0)) : CR 3 41 0 [some (.ref 122), none, none] [] S G B J R (fun r_ S' G' B' J' R' => r_ = none ∧ S' = S ∧ J' = J ∧ R' = R ∧ FxG G' ∧ Gfr [125, 127, 129] G G' ∧ Bfr [126, 128, 130, 131, 132] B B' ∧ G' 125 0 = .int (nI n) ∧ ∃ bb', (∀ q, q < n * n → B' (125 + 1) q = nI (bb' q) ∧ bb' q < n) ∧ MinS (n * n) (NmF 0 n c) 1 bb') := by
  have hn6 := hc.1
  refine cr_nx (pc' := 1) (al' := [some (.ref 122), none, none]) (st' := [.ref 122]) d_41_0 (fun _ => rfl) ?_
  refine cr_gf (v := .int (nI 0)) d_41_1 cw_41 cf_6_18 (hS.i (a := 122) (by decide) (by decide)) (hS.s (a := 122) (by decide) (by decide) rfl) (by decide) hby ?_
  refine cn_ine (t := 24) d_41_4 (by decide) (by first | omega | assumption | exact cu_36 (by omega) (cu_lt (by omega) (by omega))) (fun c4 => ?_) (fun c4 => ?_)
  · omega
  · refine cr_nx (pc' := 8) (al' := [some (.ref 122), none, none]) (st' := [.ref 122]) d_41_7 (fun _ => rfl) ?_
    refine cr_gf (v := .ref 131) d_41_8 cw_41 cf_6_31 (hS.i (a := 122) (by decide) (by decide)) (hS.s (a := 122) (by decide) (by decide) rfl) (by decide) (fx_122_5 hF) ?_
    refine cr_cs (as := [.ref 131]) (al0 := [some (.ref 131), none]) (r := []) d_41_11 cw_41 cm_6_52 (by decide) cz_154 rfl rfl rfl (cr_wk (Nat.le_of_ble_eq_true rfl) (k_startPermutation (hS.i (a := 131) (by decide) (by decide)) (hS.s (a := 131) (by decide) (by decide) rfl) (by decide))) (fun v1 S1 G1 B1 J1 R1 h1 => ?_)
    obtain ⟨q0_, q1_, q2_, q3_, q4_, w11, q9_, hw11⟩ := h1
    obtain rfl := q0_
    obtain rfl := q1_.symm
    obtain rfl := q2_.symm
    obtain rfl := q3_.symm
    obtain rfl := q4_.symm
    obtain rfl := q9_
    show CR _ _ 14 [some (.ref 122), none, none] [] S G (upr B 131 w11) J R _
    refine cr_nx (pc' := 15) (al' := [some (.ref 122), none, none]) (st' := [.ref 122]) d_41_14 (fun _ => rfl) ?_
    refine cr_nx (pc' := 16) (al' := [some (.ref 122), none, none]) (st' := [.ref 122, .ref 122]) d_41_15 (fun _ => rfl) ?_
    refine cr_gf (v := .ref 123) d_41_16 cw_41 cf_6_12 (hS.i (a := 122) (by decide) (by decide)) (hS.s (a := 122) (by decide) (by decide) rfl) (by decide) (fx_122_0 hF) ?_
    refine cn_ic (v := 0) d_41_19 (by decide) ?_
    refine cr_cv (b := 122) (as := [.ref 123, .int (nI 0)]) (al0 := [some (.ref 122), some (.ref 123), some (.int (nI 0)), none, none]) (r := []) d_41_20 cw_41 cm_6_56 cz_42 rfl rfl (hS.i (a := 122) (by decide) (by decide)) (by rw [cw_42]; exact (hS.s (a := 122) (by decide) (by decide) rfl)) (by rw [cw_42]; decide) rfl (cr_wk (Nat.le_of_ble_eq_true rfl) (k_offerFrom0_122 (h := 0) (bb := fun _ => 0) (F := fun _ => False) hS hF (tb_123 hS hF) hn (TabC.u1 (by decide) hc) hl hn1 (by decide) (by decide) (fun k hk => by rw [upr_s, hw11 k (by omega), pm_id hn6 hk]) ⟨by rw [Nat.mul_zero]; exact hz, Nat.zero_le 1, fun e => absurd e (by decide)⟩ (Or.inl ⟨rfl, fun _ e => e⟩))) (fun v1 S1 G2 B2 J1 R1 h1 => ?_)
    obtain ⟨q0_, q1_, q2_, q3_, fx2, gf2, bf2, h2, b2, nb2, mi2⟩ := h1
    obtain rfl := q0_
    obtain rfl := q1_.symm
    obtain rfl := q2_.symm
    obtain rfl := q3_.symm
    obtain ⟨z1, z2⟩ : h2 = 1 ∧ MinS (n * n) (NmF 0 n c) 1 b2 := Min_1 (Min_iff mi2 (fun t => ⟨fun h => h.elim False.elim id, Or.inr⟩)) (Nm_ex (l := 0) hl hn1)
    obtain rfl := z1
    show CR _ _ 23 [some (.ref 122), none, none] [] S G2 B2 J R _
    exact cr_rv d_41_23 cx_41 ⟨rfl, rfl, rfl, rfl, fx2, gf2.mo (by decide), (Bfr.rf.u (by decide)).tr (bf2.mo (by decide)), by rw [nb2.1, Nat.mul_one], b2, nb2.2.2 rfl, z2⟩
theorem k_offerAll1_122 {S : CS} {G : Nat → Nat → Value} {B : Nat → Nat → Int32} {J : Nat → Nat → Int64} {R : Nat → Nat → Option Nat} (hS : ShOk S) (hF : FxG G) {n : Nat} {c : Nat → Nat} (hn : G 123 0 = .int (nI n)) (hc : TabC B 123 n c) (hl : Lat n c) (hn1 : 1 ≤ n) (hz : G 125 0 = .int (nI 0)) (hby : G 122 1 = .int (nI 1)) : CR 4 41 0 [some (.ref 122), none, none] [] S G B J R (fun r_ S' G' B' J' R' => r_ = none ∧ S' = S ∧ J' = J ∧ R' = R ∧ FxG G' ∧ Gfr [125, 127, 129] G G' ∧ Bfr [126, 128, 130, 131, 132] B B' ∧ G' 125 0 = .int (nI n) ∧ ∃ bb', (∀ q, q < n * n → B' (125 + 1) q = nI (bb' q) ∧ bb' q < n) ∧ MinS (n * n) (NmF 1 n c) 1 bb') := by
  have hn6 := hc.1
  refine cr_nx (pc' := 1) (al' := [some (.ref 122), none, none]) (st' := [.ref 122]) d_41_0 (fun _ => rfl) ?_
  refine cr_gf (v := .int (nI 1)) d_41_1 cw_41 cf_6_18 (hS.i (a := 122) (by decide) (by decide)) (hS.s (a := 122) (by decide) (by decide) rfl) (by decide) hby ?_
  refine cn_ine (t := 24) d_41_4 (by decide) (by first | omega | assumption | exact cu_36 (by omega) (cu_lt (by omega) (by omega))) (fun c4 => ?_) (fun c4 => ?_)
  · refine cr_nx (pc' := 25) (al' := [some (.ref 122), none, none]) (st' := [.ref 122]) d_41_24 (fun _ => rfl) ?_
    refine cr_gf (v := .int (nI 1)) d_41_25 cw_41 cf_6_18 (hS.i (a := 122) (by decide) (by decide)) (hS.s (a := 122) (by decide) (by decide) rfl) (by decide) hby ?_
    refine cn_ic (v := 1) d_41_28 (by decide) ?_
    refine cn_cne (t := 36) d_41_29 (by decide) (by first | omega | assumption | exact cu_36 (by omega) (cu_lt (by omega) (by omega))) (by first | omega | assumption | exact cu_36 (by omega) (cu_lt (by omega) (by omega))) (fun c29 => ?_) (fun c29 => ?_)
    · omega
    · refine cn_ic (v := 1) d_41_32 (by decide) ?_
      refine cr_nx (pc' := 38) (al' := [some (.ref 122), none, none]) (st' := [.int (nI 1)]) d_41_33 (fun _ => rfl) ?_
      refine cr_nx (pc' := 39) (al' := [some (.ref 122), some (.int (nI 1)), none]) (st' := []) d_41_38 (fun _ => rfl) ?_
      refine cn_ic (v := 0) d_41_39 (by decide) ?_
      refine cr_nx (pc' := 41) (al' := [some (.ref 122), some (.int (nI 1)), some (.int (nI 0))]) (st' := []) d_41_40 (fun _ => rfl) ?_
      refine cr_upw (al := fun w u_ => [some (.ref 122), some (.int (nI 1)), some (.int (nI w))]) (S := fun w u_ => S) (G := fun w u_ => u_.2.2.1) (B := fun w u_ => u_.2.2.2) (J := fun w u_ => J) (R := fun w u_ => R) (P := fun w u_ => FxG u_.2.2.1 ∧ Gfr [125, 127, 129] G u_.2.2.1 ∧ Bfr [126, 128, 130, 131, 132] B u_.2.2.2 ∧ NmB 125 u_.2.2.1 u_.2.2.2 n u_.1 u_.2.1 ∧ MinS (n * n) (NmK n c w) u_.1 u_.2.1) (n := 1) (fun w u_ hw pw ihw => ?_) (fun u_ pw => ?_) 0 (0, (fun _ => 0), G, B) (by omega) (⟨hF, Gfr.rf, Bfr.rf, ⟨by dsimp only; rw [Nat.mul_zero]; exact hz, Nat.zero_le 1, fun e => absurd (show (0 : Nat) = 1 from e) (by decide)⟩, Or.inl ⟨rfl, fun t ht => ht.elim (fun w hw => absurd hw.1 (Nat.not_lt_zero w))⟩⟩)
      · show CR _ _ 41 [some (.ref 122), some (.int (nI 1)), some (.int (nI w))] [] S u_.2.2.1 u_.2.2.2 J R _
        refine cr_nx (pc' := 42) (al' := [some (.ref 122), some (.int (nI 1)), some (.int (nI w))]) (st' := [.int (nI w)]) d_41_41 (fun _ => rfl) ?_
        refine cr_nx (pc' := 43) (al' := [some (.ref 122), some (.int (nI 1)), some (.int (nI w))]) (st' := [.int (nI 1), .int (nI w)]) d_41_42 (fun _ => rfl) ?_
        refine cn_cge (t := 68) d_41_43 (by decide) (by first | omega | assumption | exact cu_36 (by omega) (cu_lt (by omega) (by omega))) (by first | omega | assumption | exact cu_36 (by omega) (cu_lt (by omega) (by omega))) (fun c43 => ?_) (fun c43 => ?_)
        · omega
        · refine cr_nx (pc' := 47) (al' := [some (.ref 122), some (.int (nI 1)), some (.int (nI w))]) (st' := [.ref 122]) d_41_46 (fun _ => rfl) ?_
          refine cr_gf (v := .ref 127) d_41_47 cw_41 cf_6_25 (hS.i (a := 122) (by decide) (by decide)) (hS.s (a := 122) (by decide) (by decide) rfl) (by decide) (fx_122_3 pw.1) ?_
          refine cr_nx (pc' := 51) (al' := [some (.ref 122), some (.int (nI 1)), some (.int (nI w))]) (st' := [.ref 122, .ref 127]) d_41_50 (fun _ => rfl) ?_
          refine cr_gf (v := .ref 123) d_41_51 cw_41 cf_6_12 (hS.i (a := 122) (by decide) (by decide)) (hS.s (a := 122) (by decide) (by decide) rfl) (by decide) (fx_122_0 pw.1) ?_
          refine cr_nx (pc' := 55) (al' := [some (.ref 122), some (.int (nI 1)), some (.int (nI w))]) (st' := [.int (nI w), .ref 123, .ref 127]) d_41_54 (fun _ => rfl) ?_
          refine cr_cv (b := 127) (as := [.ref 123, .int (nI w)]) (al0 := [some (.ref 127), some (.ref 123), some (.int (nI w)), none, none]) (r := []) d_41_55 cw_41 cm_6_60 cz_98 rfl rfl (hS.i (a := 127) (by decide) (by decide)) (by rw [cw_98]; exact (hS.s (a := 127) (by decide) (by decide) rfl)) (by rw [cw_98]; decide) rfl (cr_wk (Nat.le_of_ble_eq_true rfl) (k_makeConjugate (tb_123 hS pw.1) (by rw [pw.2.1 123 (by decide)]; exact hn) (pw.2.2.1.c (by decide) hc) (tb_127 hS pw.1) (by decide) hl (by omega))) (fun v1 S1 G1 B1 J1 R1 h1 => ?_)
          obtain ⟨q0_, q1_, q2_, q3_, q4_, wc, q5_, hwc⟩ := h1
          obtain rfl := q0_
          obtain rfl := q1_.symm
          obtain rfl := q2_
          obtain rfl := q3_.symm
          obtain rfl := q4_.symm
          obtain rfl := q5_
          show CR _ _ 58 [some (.ref 122), some (.int (nI 1)), some (.int (nI w))] [] S (up2 u_.2.2.1 127 0 (.int (nI n))) (upr u_.2.2.2 (127 + 1) wc) J R _
          refine cr_nx (pc' := 59) (al' := [some (.ref 122), some (.int (nI 1)), some (.int (nI w))]) (st' := [.ref 122]) d_41_58 (fun _ => rfl) ?_
          refine cr_cv (b := 122) (as := []) (al0 := [some (.ref 122), none, none, none]) (r := []) d_41_59 cw_41 cm_6_63 cz_44 rfl rfl (hS.i (a := 122) (by decide) (by decide)) (by rw [cw_44]; exact (hS.s (a := 122) (by decide) (by decide) rfl)) (by rw [cw_44]; decide) rfl (cr_wk (Nat.le_of_ble_eq_true rfl) (k_offerIsotopes_122 (h := u_.1) (bb := u_.2.1) (e := cjN w n c) (F := NmK n c w) hS (pw.1.u0 (by decide)) up2_s ⟨hn6, fun q hq => ⟨by rw [upr_s]; exact hwc q hq, (cj_lat hl).1 q hq⟩⟩ (cj_lat hl) hn1 (pw.2.2.2.1.cg (by rw [up2_n (by decide)]) (by rw [upr_n (by decide)])) pw.2.2.2.2)) (fun v1 S1 G2 B2 J1 R1 h1 => ?_)
          obtain ⟨q0_, q1_, q2_, q3_, fx2, gf2, bf2, h2, b2, nb2, mi2⟩ := h1
          obtain rfl := q0_
          obtain rfl := q1_.symm
          obtain rfl := q2_.symm
          obtain rfl := q3_.symm
          show CR _ _ 62 [some (.ref 122), some (.int (nI 1)), some (.int (nI w))] [] S G2 B2 J R _
          refine cn_inc d_41_62 rfl rfl ?_
          show CR _ _ 65 [some (.ref 122), some (.int (nI 1)), some (.int (nI (w + 1)))] [] S G2 B2 J R _
          refine cr_nx (pc' := 41) (al' := [some (.ref 122), some (.int (nI 1)), some (.int (nI (w + 1)))]) (st' := []) d_41_65 (fun _ => rfl) ?_
          exact ihw (h2, b2, G2, B2) (⟨fx2, (pw.2.1.u (by decide)).tr (gf2.mo (by decide)), (pw.2.2.1.u (by decide)).tr (bf2.mo (by decide)), nb2, Min_iff mi2 Nm_w⟩)
      · show CR _ _ 41 [some (.ref 122), some (.int (nI 1)), some (.int (nI 1))] [] S u_.2.2.1 u_.2.2.2 J R _
        refine cr_nx (pc' := 42) (al' := [some (.ref 122), some (.int (nI 1)), some (.int (nI 1))]) (st' := [.int (nI 1)]) d_41_41 (fun _ => rfl) ?_
        refine cr_nx (pc' := 43) (al' := [some (.ref 122), some (.int (nI 1)), some (.int (nI 1))]) (st' := [.int (nI 1), .int (nI 1)]) d_41_42 (fun _ => rfl) ?_
        refine cn_cge (t := 68) d_41_43 (by decide) (by first | omega | assumption | exact cu_36 (by omega) (cu_lt (by omega) (by omega))) (by first | omega | assumption | exact cu_36 (by omega) (cu_lt (by omega) (by omega))) (fun c43 => ?_) (fun c43 => ?_)
        · exact cr_rv d_41_68 cx_41 (by
              obtain ⟨z1, z2⟩ : u_.1 = 1 ∧ MinS (n * n) (NmF 1 n c) 1 u_.2.1 := Min_1 pw.2.2.2.2 (Nm_ex (l := 1) hl hn1)
              exact ⟨rfl, rfl, rfl, rfl, pw.1, pw.2.1, pw.2.2.1, by rw [pw.2.2.2.1.1, z1, Nat.mul_one], u_.2.1, pw.2.2.2.1.2.2 z1, z2⟩)
        · omega
  · omega
theorem k_offerAll2_122 {S : CS} {G : Nat → Nat → Value} {B : Nat → Nat → Int32} {J : Nat → Nat → Int64} {R : Nat → Nat → Option Nat} (hS : ShOk S) (hF : FxG G) {n : Nat} {c : Nat → Nat} (hn : G 123 0 = .int (nI n)) (hc : TabC B 123 n c) (hl : Lat n c) (hn1 : 1 ≤ n) (hz : G 125 0 = .int (nI 0)) (hby : G 122 1 = .int (nI 2)) : CR 4 41 0 [some (.ref 122), none, none] [] S G B J R (fun r_ S' G' B' J' R' => r_ = none ∧ S' = S ∧ J' = J ∧ R' = R ∧ FxG G' ∧ Gfr [125, 127, 129] G G' ∧ Bfr [126, 128, 130, 131, 132] B B' ∧ G' 125 0 = .int (nI n) ∧ ∃ bb', (∀ q, q < n * n → B' (125 + 1) q = nI (bb' q) ∧ bb' q < n) ∧ MinS (n * n) (NmF 2 n c) 1 bb') := by
  have hn6 := hc.1
  refine cr_nx (pc' := 1) (al' := [some (.ref 122), none, none]) (st' := [.ref 122]) d_41_0 (fun _ => rfl) ?_
  refine cr_gf (v := .int (nI 2)) d_41_1 cw_41 cf_6_18 (hS.i (a := 122) (by decide) (by decide)) (hS.s (a := 122) (by decide) (by decide) rfl) (by decide) hby ?_
  refine cn_ine (t := 24) d_41_4 (by decide) (by first | omega | assumption | exact cu_36 (by omega) (cu_lt (by omega) (by omega))) (fun c4 => ?_) (fun c4 => ?_)
  · refine cr_nx (pc' := 25) (al' := [some (.ref 122), none, none]) (st' := [.ref 122]) d_41_24 (fun _ => rfl) ?_
    refine cr_gf (v := .int (nI 2)) d_41_25 cw_41 cf_6_18 (hS.i (a := 122) (by decide) (by decide)) (hS.s (a := 122) (by decide) (by decide) rfl) (by decide) hby ?_
    refine cn_ic (v := 1) d_41_28 (by decide) ?_
    refine cn_cne (t := 36) d_41_29 (by decide) (by first | omega | assumption | exact cu_36 (by omega) (cu_lt (by omega) (by omega))) (by first | omega | assumption | exact cu_36 (by omega) (cu_lt (by omega) (by omega))) (fun c29 => ?_) (fun c29 => ?_)
    · refine cn_bp (v := 6) d_41_36 (by decide) ?_
      refine cr_nx (pc' := 39) (al' := [some (.ref 122), some (.int (nI 6)), none]) (st' := []) d_41_38 (fun _ => rfl) ?_
      refine cn_ic (v := 0) d_41_39 (by decide) ?_
      refine cr_nx (pc' := 41) (al' := [some (.ref 122), some (.int (nI 6)), some (.int (nI 0))]) (st' := []) d_41_40 (fun _ => rfl) ?_
      refine cr_upw (al := fun w u_ => [some (.ref 122), some (.int (nI 6)), some (.int (nI w))]) (S := fun w u_ => S) (G := fun w u_ => u_.2.2.1) (B := fun w u_ => u_.2.2.2) (J := fun w u_ => J) (R := fun w u_ => R) (P := fun w u_ => FxG u_.2.2.1 ∧ Gfr [125, 127, 129] G u_.2.2.1 ∧ Bfr [126, 128, 130, 131, 132] B u_.2.2.2 ∧ NmB 125 u_.2.2.1 u_.2.2.2 n u_.1 u_.2.1 ∧ MinS (n * n) (NmK n c w) u_.1 u_.2.1) (n := 6) (fun w u_ hw pw ihw => ?_) (fun u_ pw => ?_) 0 (0, (fun _ => 0), G, B) (by omega) (⟨hF, Gfr.rf, Bfr.rf, ⟨by dsimp only; rw [Nat.mul_zero]; exact hz, Nat.zero_le 1, fun e => absurd (show (0 : Nat) = 1 from e) (by decide)⟩, Or.inl ⟨rfl, fun t ht => ht.elim (fun w hw => absurd hw.1 (Nat.not_lt_zero w))⟩⟩)
      · show CR _ _ 41 [some (.ref 122), some (.int (nI 6)), some (.int (nI w))] [] S u_.2.2.1 u_.2.2.2 J R _
        refine cr_nx (pc' := 42) (al' := [some (.ref 122), some (.int (nI 6)), some (.int (nI w))]) (st' := [.int (nI w)]) d_41_41 (fun _ => rfl) ?_
        refine cr_nx (pc' := 43) (al' := [some (.ref 122), some (.int (nI 6)), some (.int (nI w))]) (st' := [.int (nI 6), .int (nI w)]) d_41_42 (fun _ => rfl) ?_
        refine cn_cge (t := 68) d_41_43 (by decide) (by first | omega | assumption | exact cu_36 (by omega) (cu_lt (by omega) (by omega))) (by first | omega | assumption | exact cu_36 (by omega) (cu_lt (by omega) (by omega))) (fun c43 => ?_) (fun c43 => ?_)
        · omega
        · refine cr_nx (pc' := 47) (al' := [some (.ref 122), some (.int (nI 6)), some (.int (nI w))]) (st' := [.ref 122]) d_41_46 (fun _ => rfl) ?_
          refine cr_gf (v := .ref 127) d_41_47 cw_41 cf_6_25 (hS.i (a := 122) (by decide) (by decide)) (hS.s (a := 122) (by decide) (by decide) rfl) (by decide) (fx_122_3 pw.1) ?_
          refine cr_nx (pc' := 51) (al' := [some (.ref 122), some (.int (nI 6)), some (.int (nI w))]) (st' := [.ref 122, .ref 127]) d_41_50 (fun _ => rfl) ?_
          refine cr_gf (v := .ref 123) d_41_51 cw_41 cf_6_12 (hS.i (a := 122) (by decide) (by decide)) (hS.s (a := 122) (by decide) (by decide) rfl) (by decide) (fx_122_0 pw.1) ?_
          refine cr_nx (pc' := 55) (al' := [some (.ref 122), some (.int (nI 6)), some (.int (nI w))]) (st' := [.int (nI w), .ref 123, .ref 127]) d_41_54 (fun _ => rfl) ?_
          refine cr_cv (b := 127) (as := [.ref 123, .int (nI w)]) (al0 := [some (.ref 127), some (.ref 123), some (.int (nI w)), none, none]) (r := []) d_41_55 cw_41 cm_6_60 cz_98 rfl rfl (hS.i (a := 127) (by decide) (by decide)) (by rw [cw_98]; exact (hS.s (a := 127) (by decide) (by decide) rfl)) (by rw [cw_98]; decide) rfl (cr_wk (Nat.le_of_ble_eq_true rfl) (k_makeConjugate (tb_123 hS pw.1) (by rw [pw.2.1 123 (by decide)]; exact hn) (pw.2.2.1.c (by decide) hc) (tb_127 hS pw.1) (by decide) hl (by omega))) (fun v1 S1 G1 B1 J1 R1 h1 => ?_)
          obtain ⟨q0_, q1_, q2_, q3_, q4_, wc, q5_, hwc⟩ := h1
          obtain rfl := q0_
          obtain rfl := q1_.symm
          obtain rfl := q2_
          obtain rfl := q3_.symm
          obtain rfl := q4_.symm
          obtain rfl := q5_
          show CR _ _ 58 [some (.ref 122), some (.int (nI 6)), some (.int (nI w))] [] S (up2 u_.2.2.1 127 0 (.int (nI n))) (upr u_.2.2.2 (127 + 1) wc) J R _
          refine cr_nx (pc' := 59) (al' := [some (.ref 122), some (.int (nI 6)), some (.int (nI w))]) (st' := [.ref 122]) d_41_58 (fun _ => rfl) ?_
          refine cr_cv (b := 122) (as := []) (al0 := [some (.ref 122), none, none, none]) (r := []) d_41_59 cw_41 cm_6_63 cz_44 rfl rfl (hS.i (a := 122) (by decide) (by decide)) (by rw [cw_44]; exact (hS.s (a := 122) (by decide) (by decide) rfl)) (by rw [cw_44]; decide) rfl (cr_wk (Nat.le_of_ble_eq_true rfl) (k_offerIsotopes_122 (h := u_.1) (bb := u_.2.1) (e := cjN w n c) (F := NmK n c w) hS (pw.1.u0 (by decide)) up2_s ⟨hn6, fun q hq => ⟨by rw [upr_s]; exact hwc q hq, (cj_lat hl).1 q hq⟩⟩ (cj_lat hl) hn1 (pw.2.2.2.1.cg (by rw [up2_n (by decide)]) (by rw [upr_n (by decide)])) pw.2.2.2.2)) (fun v1 S1 G2 B2 J1 R1 h1 => ?_)
          obtain ⟨q0_, q1_, q2_, q3_, fx2, gf2, bf2, h2, b2, nb2, mi2⟩ := h1
          obtain rfl := q0_
          obtain rfl := q1_.symm
          obtain rfl := q2_.symm
          obtain rfl := q3_.symm
          show CR _ _ 62 [some (.ref 122), some (.int (nI 6)), some (.int (nI w))] [] S G2 B2 J R _
          refine cn_inc d_41_62 rfl rfl ?_
          show CR _ _ 65 [some (.ref 122), some (.int (nI 6)), some (.int (nI (w + 1)))] [] S G2 B2 J R _
          refine cr_nx (pc' := 41) (al' := [some (.ref 122), some (.int (nI 6)), some (.int (nI (w + 1)))]) (st' := []) d_41_65 (fun _ => rfl) ?_
          exact ihw (h2, b2, G2, B2) (⟨fx2, (pw.2.1.u (by decide)).tr (gf2.mo (by decide)), (pw.2.2.1.u (by decide)).tr (bf2.mo (by decide)), nb2, Min_iff mi2 Nm_w⟩)
      · show CR _ _ 41 [some (.ref 122), some (.int (nI 6)), some (.int (nI 6))] [] S u_.2.2.1 u_.2.2.2 J R _
        refine cr_nx (pc' := 42) (al' := [some (.ref 122), some (.int (nI 6)), some (.int (nI 6))]) (st' := [.int (nI 6)]) d_41_41 (fun _ => rfl) ?_
        refine cr_nx (pc' := 43) (al' := [some (.ref 122), some (.int (nI 6)), some (.int (nI 6))]) (st' := [.int (nI 6), .int (nI 6)]) d_41_42 (fun _ => rfl) ?_
        refine cn_cge (t := 68) d_41_43 (by decide) (by first | omega | assumption | exact cu_36 (by omega) (cu_lt (by omega) (by omega))) (by first | omega | assumption | exact cu_36 (by omega) (cu_lt (by omega) (by omega))) (fun c43 => ?_) (fun c43 => ?_)
        · exact cr_rv d_41_68 cx_41 (by
              obtain ⟨z1, z2⟩ : u_.1 = 1 ∧ MinS (n * n) (NmF 2 n c) 1 u_.2.1 := Min_1 pw.2.2.2.2 (Nm_ex (l := 2) hl hn1)
              exact ⟨rfl, rfl, rfl, rfl, pw.1, pw.2.1, pw.2.2.1, by rw [pw.2.2.2.1.1, z1, Nat.mul_one], u_.2.1, pw.2.2.2.1.2.2 z1, z2⟩)
        · omega
    · omega
  · omega
