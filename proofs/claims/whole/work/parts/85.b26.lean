/-! Laws: the class reads parts and terms; printed by wip/whole/gen_b26.py. -/
theorem bI_tt : some (Value.int (nI 1)) = some (.int (bI (true = true))) := by decide
theorem bI_ff : some (Value.int (nI 0)) = some (.int (bI (false = true))) := by decide
theorem kdC_all (c : Nat) : (kdC c ≤ 3 ↔ isLt c = true) ∧ (isLt c = true → kdC c = c - 1) ∧ (kdC c = 10 ↔ c = 140) ∧ (kdC c = 11 ↔ c = 141) ∧ ((4 ≤ kdC c ∧ kdC c ≤ 6) ↔ isOp c = true) ∧ (isOp c = true → kdC c = opN c) ∧ (kdC c = 7 ↔ c = 161) ∧ (kdC c = 8 ↔ c = 144) ∧ (kdC c = 9 ↔ c = 5) ∧ ¬ kdC c = 12 ∧ kdC c ≤ 13 := by
  by_cases a0 : c = 1
  · subst a0
    decide
  by_cases a1 : c = 2
  · subst a1
    decide
  by_cases a2 : c = 3
  · subst a2
    decide
  by_cases a3 : c = 4
  · subst a3
    decide
  by_cases a4 : c = 5
  · subst a4
    decide
  by_cases a5 : c = 142
  · subst a5
    decide
  by_cases a6 : c = 147
  · subst a6
    decide
  by_cases a7 : c = 192
  · subst a7
    decide
  by_cases a8 : c = 161
  · subst a8
    decide
  by_cases a9 : c = 144
  · subst a9
    decide
  by_cases a10 : c = 140
  · subst a10
    decide
  by_cases a11 : c = 141
  · subst a11
    decide
  have e : kdC c = 13 := by unfold kdC; rw [if_neg a0, if_neg a1, if_neg a2, if_neg a3, if_neg a4, if_neg a5, if_neg a6, if_neg a7, if_neg a8, if_neg a9, if_neg a10, if_neg a11]
  have l : ¬ isLt c = true := fun q => by have := of_decide_eq_true q; omega
  have p : ¬ isOp c = true := fun q => by have := op_0 q; omega
  rw [e]
  exact ⟨⟨fun q => by omega, fun q => absurd q l⟩, fun q => absurd q l, by omega, by omega, ⟨fun q => by omega, fun q => absurd q p⟩, fun q => absurd q p, by omega, by omega, by omega, by omega, by omega⟩
/-- the kind of the j-th token -/
def kjN (t : Nat → Nat) (len j : Nat) : Nat := kdT t len (tkP t len j)
theorem kj_all (t : Nat → Nat) (len j : Nat) : (kjN t len j ≤ 3 ↔ isLt (tkC t len j) = true) ∧ (isLt (tkC t len j) = true → kjN t len j = tkC t len j - 1) ∧ (kjN t len j = 10 ↔ tkC t len j = 140) ∧ (kjN t len j = 11 ↔ tkC t len j = 141) ∧ ((4 ≤ kjN t len j ∧ kjN t len j ≤ 6) ↔ isOp (tkC t len j) = true) ∧ (isOp (tkC t len j) = true → kjN t len j = opN (tkC t len j)) ∧ (kjN t len j = 7 ↔ tkC t len j = 161) ∧ (kjN t len j = 8 ↔ tkC t len j = 144) ∧ (kjN t len j = 9 ↔ tkC t len j = 5) ∧ (kjN t len j = 12 ↔ tkP t len j = len) ∧ kjN t len j ≤ 13 := by
  rcases Nat.lt_or_ge (tkP t len j) len with q | q
  · have e : kjN t len j = kdC (tkC t len j) := by
      unfold kjN tkC
      rw [kd_cd q, if_pos q]
    rw [e]
    obtain ⟨a1, a2, a3, a4, a5, a6, a7, a8, a9, a10, a11⟩ := kdC_all (tkC t len j)
    exact ⟨a1, a2, a3, a4, a5, a6, a7, a8, a9, ⟨fun h => absurd h a10, fun h => by omega⟩, a11⟩
  · have e : kjN t len j = 12 := by
      unfold kjN kdT
      rw [if_neg (by omega)]
    have e2 : tkC t len j = 0 := by
      unfold tkC
      rw [if_neg (by omega)]
    rw [e, e2]
    have e3 : tkP t len j = len := by have := tkP_le (t := t) (len := len) j; omega
    exact ⟨by decide, by decide, by decide, by decide, by decide, by decide, by decide, by decide, by decide, ⟨fun _ => e3, fun _ => rfl⟩, by decide⟩
def usN (w : List Nat) : Nat := w.foldl (fun u k => u ||| (1 * 2 ^ k)) 0
theorem usN_s (w : List Nat) (k : Nat) : usN (w ++ [k]) = usN w ||| (1 * 2 ^ k) := by unfold usN; rw [List.foldl_append]; rfl
/-- the reader stands at token s.1, with s.2.1 letters and the code s.2.2 -/
def RdS (t : Nat → Nat) (len : Nat) (G : Nat → Nat → Value) (B : Nat → Nat → Int32) (s : LSt) : Prop := RdT t len G B ∧ G 83 2 = .int (nI (tkP t len s.1)) ∧ G 83 3 = .int (nI (enC t len (tkP t len s.1))) ∧ G 83 4 = .int (nI (kjN t len s.1)) ∧ G 83 6 = .int (nI s.2.2.length) ∧ G 83 7 = .int (nI s.2.1) ∧ G 83 8 = .int (nI (usN s.2.2)) ∧ ∀ i, i < s.2.2.length → B 85 i = nI (s.2.2.getD i 0)
def RdP (S : CS) (G : Nat → Nat → Value) (B : Nat → Nat → Int32) (J : Nat → Nat → Int64) (R : Nat → Nat → Option Nat) (v : Option Value) (P : (Nat → Nat → Value) → (Nat → Nat → Int32) → Prop) : CQ := fun r S' G' B' J' R' => r = v ∧ S' = S ∧ J' = J ∧ R' = R ∧ Gfr [83] G G' ∧ Bfr [85] B B' ∧ P G' B'
theorem RdP.tr {S : CS} {G G1 : Nat → Nat → Value} {B B1 : Nat → Nat → Int32} {J : Nat → Nat → Int64} {R : Nat → Nat → Option Nat} {v r : Option Value} {P : (Nat → Nat → Value) → (Nat → Nat → Int32) → Prop} {S' : CS} {G' : Nat → Nat → Value} {B' : Nat → Nat → Int32} {J' : Nat → Nat → Int64} {R' : Nat → Nat → Option Nat} (hg : Gfr [83] G G1) (hb : Bfr [85] B B1) (h : RdP S G1 B1 J R v P r S' G' B' J' R') : RdP S G B J R v P r S' G' B' J' R' := ⟨h.1, h.2.1, h.2.2.1, h.2.2.2.1, hg.tr h.2.2.2.2.1, hb.tr h.2.2.2.2.2.1, h.2.2.2.2.2.2⟩
def RdK (t : Nat → Nat) (len : Nat) (S : CS) (G : Nat → Nat → Value) (B : Nat → Nat → Int32) (J : Nat → Nat → Int64) (R : Nat → Nat → Option Nat) (r : Bool × LSt) : CQ := RdP S G B J R (some (.int (bI (r.1 = true)))) (fun G' B' => (r.1 = true → RdS t len G' B' r.2) ∧ (r.1 = false → G' 83 2 = .int (nI (tkP t len r.2.1))))
theorem k_emitS {S : CS} {G : Nat → Nat → Value} {B : Nat → Nat → Int32} {J : Nat → Nat → Int64} {R : Nat → Nat → Option Nat} (hS : ShOk S) {t : Nat → Nat} {len k : Nat} {s : LSt} (hs : RdS t len G B s) (hl : s.2.2.length < 64) (hk : k < 8) : CR 0 32 0 [some (.ref 83), some (.int (nI k))] [] S G B J R (RdP S G B J R none (fun G' B' => RdS t len G' B' (s.1, s.2.1, s.2.2 ++ [k]))) := by
  obtain ⟨a1, a2, a3, a4, a5, a6, a7, a8⟩ := hs
  refine cr_cq (k_emit hS a1.2.2.1 a5 a7 hl hk) ?_
  rintro r S' G' B' J' R' ⟨rfl, rfl, rfl, rfl, rfl, rfl⟩
  refine ⟨rfl, rfl, rfl, rfl, (Gfr.rf.u (by decide)).u (by decide), Bfr.rf.u (by decide), ⟨⟨?_, ?_, ?_, a1.2.2.2.1, ?_⟩, ?_, ?_, ?_, ?_, ?_, ?_, ?_⟩⟩
  · rw [up2_n (by decide), up2_n (by decide)]; exact a1.1
  · rw [up2_n (by decide), up2_n (by decide)]; exact a1.2.1
  · rw [up2_n (by decide), up2_n (by decide)]; exact a1.2.2.1
  · intro i hi
    rw [upr_n (by decide)]
    exact a1.2.2.2.2 i hi
  · rw [up2_n (by decide), up2_n (by decide)]; exact a2
  · rw [up2_n (by decide), up2_n (by decide)]; exact a3
  · rw [up2_n (by decide), up2_n (by decide)]; exact a4
  · rw [up2_n (by decide), up2_s, List.length_append]; rfl
  · rw [up2_n (by decide), up2_n (by decide)]; exact a6
  · rw [up2_s, usN_s]
  · intro i hi
    rw [upr_s]
    rw [List.length_append] at hi
    simp only [List.length_singleton] at hi
    rcases Nat.lt_or_ge i s.2.2.length with q | q
    · rw [pk_un (by omega), a8 i q, List.getD_eq_getElem?_getD, List.getD_eq_getElem?_getD, List.getElem?_append_left q]
    · have e : i = s.2.2.length := by omega
      subst e
      rw [pk_us, List.getD_eq_getElem?_getD, List.getElem?_append_right (Nat.le_refl _), Nat.sub_self]
      rfl
theorem k_goOnS {S : CS} {G : Nat → Nat → Value} {B : Nat → Nat → Int32} {J : Nat → Nat → Int64} {R : Nat → Nat → Option Nat} (hS : ShOk S) {t : Nat → Nat} {len : Nat} {s : LSt} (hs : RdS t len G B s) (h0 : ¬ tkC t len s.1 = 0) (h9 : ¬ tkC t len s.1 = 90) : CR 1 26 0 [some (.ref 83), none] [] S G B J R (RdP S G B J R none (fun G' B' => RdS t len G' B' (s.1 + 1, s.2.1, s.2.2))) := by
  obtain ⟨a1, a2, a3, a4, a5, a6, a7, a8⟩ := hs
  have hle := tkP_le (t := t) (len := len) s.1
  have hp : tkP t len s.1 < len := by
    rcases Nat.lt_or_ge (tkP t len s.1) len with q | q
    · exact q
    · exfalso
      apply h0
      unfold tkC
      rw [if_neg (by omega)]
  have hen : enC t len (tkP t len s.1) = enR t len (tkP t len s.1) := en_eq (fun e => h9 (by unfold tkC; rw [if_pos hp]; exact e))
  have hq : skp t len (enC t len (tkP t len s.1)) = tkP t len (s.1 + 1) := by rw [hen]; rfl
  refine cr_cq (k_goOn hS a1 a3 (enC_f hle).2.1) ?_
  rintro r S' G' B' J' R' ⟨rfl, rfl, rfl, rfl, rfl, rfl⟩
  rw [hq]
  refine ⟨rfl, rfl, rfl, rfl, ((Gfr.rf.u (by decide)).u (by decide)).u (by decide), Bfr.rf, ⟨⟨?_, ?_, ?_, a1.2.2.2.1, a1.2.2.2.2⟩, ?_, ?_, ?_, ?_, ?_, ?_, a8⟩⟩
  · rw [up2_n (by decide), up2_n (by decide), up2_n (by decide)]; exact a1.1
  · rw [up2_n (by decide), up2_n (by decide), up2_n (by decide)]; exact a1.2.1
  · rw [up2_n (by decide), up2_n (by decide), up2_n (by decide)]; exact a1.2.2.1
  · rw [up2_n (by decide), up2_n (by decide), up2_s]
  · rw [up2_n (by decide), up2_s]
  · rw [up2_s]; rfl
  · rw [up2_n (by decide), up2_n (by decide), up2_n (by decide)]; exact a5
  · rw [up2_n (by decide), up2_n (by decide), up2_n (by decide)]; exact a6
  · rw [up2_n (by decide), up2_n (by decide), up2_n (by decide)]; exact a7
theorem RdS.lt {t : Nat → Nat} {len : Nat} {G : Nat → Nat → Value} {B : Nat → Nat → Int32} {s : LSt} {l : Nat} (h : RdS t len G B s) : RdS t len (up2 G 83 7 (.int (nI l))) B (s.1, l, s.2.2) := by
  obtain ⟨a1, a2, a3, a4, a5, a6, a7, a8⟩ := h
  refine ⟨⟨?_, ?_, ?_, a1.2.2.2.1, a1.2.2.2.2⟩, ?_, ?_, ?_, ?_, ?_, ?_, a8⟩
  · rw [up2_n (by decide)]; exact a1.1
  · rw [up2_n (by decide)]; exact a1.2.1
  · rw [up2_n (by decide)]; exact a1.2.2.1
  · rw [up2_n (by decide)]; exact a2
  · rw [up2_n (by decide)]; exact a3
  · rw [up2_n (by decide)]; exact a4
  · rw [up2_n (by decide)]; exact a5
  · rw [up2_s]
  · rw [up2_n (by decide)]; exact a7
theorem RdS.k {t : Nat → Nat} {len : Nat} {G : Nat → Nat → Value} {B : Nat → Nat → Int32} {s : LSt} (h : RdS t len G B s) : G 83 4 = .int (nI (kjN t len s.1)) := h.2.2.2.1
theorem RdS.p {t : Nat → Nat} {len : Nat} {G : Nat → Nat → Value} {B : Nat → Nat → Int32} {s : LSt} (h : RdS t len G B s) : G 83 2 = .int (nI (tkP t len s.1)) := h.2.1
theorem RdS.c {t : Nat → Nat} {len : Nat} {G : Nat → Nat → Value} {B : Nat → Nat → Int32} {s : LSt} (h : RdS t len G B s) : G 83 7 = .int (nI s.2.1) := h.2.2.2.2.2.1
theorem RdS.n {t : Nat → Nat} {len : Nat} {G : Nat → Nat → Value} {B : Nat → Nat → Int32} {s : LSt} (h : RdS t len G B s) : G 83 1 = .int (nI len) := h.1.2.1
theorem RdS.m {t : Nat → Nat} {len : Nat} {G : Nat → Nat → Value} {B : Nat → Nat → Int32} {s : LSt} (h : RdS t len G B s) : len ≤ 400 := h.1.2.2.2.1
theorem tkC_E (t : Nat → Nat) (len : Nat) : CdE (tkC t len) (tkN t len) := by
  unfold CdE tkC
  rw [if_neg (by have := (tkN_f (t := t) (len := len)).2.2; omega)]
def PtK (t : Nat → Nat) (len F e : Nat) : Prop := ∀ {S : CS} {G : Nat → Nat → Value} {B : Nat → Nat → Int32} {J : Nat → Nat → Int64} {R : Nat → Nat → Option Nat} {s : LSt}, ShOk S → RdS t len G B s → s.1 ≤ tkN t len → s.2.1 ≤ 32 → s.2.2.length ≤ 2 * s.2.1 → CR (2 * e + 3) 31 0 [some (.ref 83), some (.int (nI (8 - e)))] [] S G B J R (RdK t len S G B J R (prt (tkC t len) F e s))
def TmK (t : Nat → Nat) (len F e : Nat) : Prop := ∀ {S : CS} {G : Nat → Nat → Value} {B : Nat → Nat → Int32} {J : Nat → Nat → Int64} {R : Nat → Nat → Option Nat} {s : LSt}, ShOk S → RdS t len G B s → s.1 ≤ tkN t len → s.2.1 ≤ 32 → s.2.2.length ≤ 2 * s.2.1 → CR (2 * e + 4) 30 0 [some (.ref 83), some (.int (nI (8 - e))), none, none] [] S G B J R (RdK t len S G B J R (trm (tkC t len) F (prt (tkC t len) F e) s))
theorem k_rp_lt {S : CS} {G : Nat → Nat → Value} {B : Nat → Nat → Int32} {J : Nat → Nat → Int64} {R : Nat → Nat → Option Nat} (hS : ShOk S) {t : Nat → Nat} {len : Nat} {s : LSt} (hs : RdS t len G B s) {d : Nat} (ha : isLt (tkC t len s.1) = true) (hb : s.2.1 < 32) (hl : s.2.2.length ≤ 2 * s.2.1) : CR 2 31 0 [some (.ref 83), some (.int (nI d))] [] S G B J R (RdK t len S G B J R (true, s.1 + 1, s.2.1 + 1, s.2.2 ++ [tkC t len s.1 - 1])) := by
  obtain ⟨j1, j2, j3, j4, j5, j6, j7, j8, j9, j10, j11⟩ := kj_all t len s.1
  have hl : s.2.2.length < 64 := by omega
  have h9 : ¬ tkC t len s.1 = 90 := fun q => by have := of_decide_eq_true ha; omega
  have h0 : ¬ tkC t len s.1 = 0 := fun q => by have := of_decide_eq_true ha; omega
  refine cr_nx (pc' := 1) (al' := [some (.ref 83), some (.int (nI d))]) (st' := [.ref 83]) d_31_0 (fun _ => rfl) ?_
  refine cr_gf (v := .int (nI (kjN t len s.1))) d_31_1 cw_31 cf_4_48 (hS.i (a := 83) (by decide) (by decide)) (hS.s (a := 83) (by decide) (by decide) rfl) (by decide) hs.k ?_
  refine cn_ic (v := 3) d_31_4 (by decide) ?_
  refine cn_cgt (t := 41) d_31_5 (by decide) (by first | omega | assumption | exact cu_36 (by omega) (cu_lt (by omega) (by omega))) (by first | omega | assumption | exact cu_36 (by omega) (cu_lt (by omega) (by omega))) (fun c5 => ?_) (fun c5 => ?_)
  · exact absurd (j1.mpr ha) (by omega)
  · refine cr_nx (pc' := 9) (al' := [some (.ref 83), some (.int (nI d))]) (st' := [.ref 83]) d_31_8 (fun _ => rfl) ?_
    refine cr_gf (v := .int (nI s.2.1)) d_31_9 cw_31 cf_4_35 (hS.i (a := 83) (by decide) (by decide)) (hS.s (a := 83) (by decide) (by decide) rfl) (by decide) hs.c ?_
    refine cn_bp (v := 32) d_31_12 (by decide) ?_
    refine cn_cge (t := 41) d_31_14 (by decide) (by first | omega | assumption | exact cu_36 (by omega) (cu_lt (by omega) (by omega))) (by first | omega | assumption | exact cu_36 (by omega) (cu_lt (by omega) (by omega))) (fun c14 => ?_) (fun c14 => ?_)
    · omega
    · refine cr_nx (pc' := 18) (al' := [some (.ref 83), some (.int (nI d))]) (st' := [.ref 83]) d_31_17 (fun _ => rfl) ?_
      refine cr_nx (pc' := 19) (al' := [some (.ref 83), some (.int (nI d))]) (st' := [.ref 83, .ref 83]) d_31_18 (fun _ => rfl) ?_
      refine cr_gf (v := .int (nI s.2.1)) d_31_19 cw_31 cf_4_35 (hS.i (a := 83) (by decide) (by decide)) (hS.s (a := 83) (by decide) (by decide) rfl) (by decide) hs.c ?_
      refine cn_ic (v := 1) d_31_22 (by decide) ?_
      refine cn_add d_31_23  ?_
      refine cp_4_7  d_31_24 cw_31 cf_4_35 (hS.i (a := 83) (by decide) (by decide)) (hS.s (a := 83) (by decide) (by decide) rfl) (by decide) ?_
      refine cr_nx (pc' := 28) (al' := [some (.ref 83), some (.int (nI d))]) (st' := [.ref 83]) d_31_27 (fun _ => rfl) ?_
      refine cr_nx (pc' := 29) (al' := [some (.ref 83), some (.int (nI d))]) (st' := [.ref 83, .ref 83]) d_31_28 (fun _ => rfl) ?_
      refine cr_gf (v := .int (nI (kjN t len s.1))) d_31_29 cw_31 cf_4_48 (hS.i (a := 83) (by decide) (by decide)) (hS.s (a := 83) (by decide) (by decide) rfl) (by decide) (by simp [up2]; exact hs.k) ?_
      refine cr_cv (b := 83) (as := [.int (nI (kjN t len s.1))]) (al0 := [some (.ref 83), some (.int (nI (kjN t len s.1)))]) (r := []) d_31_32 cw_31 cm_4_69 cz_32 rfl rfl (hS.i (a := 83) (by decide) (by decide)) (by rw [cw_32]; exact (hS.s (a := 83) (by decide) (by decide) rfl)) (by rw [cw_32]; decide) rfl (cr_wk (by omega) (k_emitS hS hs.lt hl (by have := j1.mpr ha; omega))) (fun v1 S1 G32 B32 J1 R1 h1 => ?_)
      obtain ⟨q0_, q1_, q2_, q3_, gf32, bf32, hs32⟩ := h1
      obtain rfl := q0_
      obtain rfl := q1_.symm
      obtain rfl := q2_.symm
      obtain rfl := q3_.symm
      show CR _ _ 35 [some (.ref 83), some (.int (nI d))] [] S G32 B32 J R _
      refine cr_nx (pc' := 36) (al' := [some (.ref 83), some (.int (nI d))]) (st' := [.ref 83]) d_31_35 (fun _ => rfl) ?_
      refine cr_cv (b := 83) (as := []) (al0 := [some (.ref 83), none]) (r := []) d_31_36 cw_31 cm_4_41 cz_26 rfl rfl (hS.i (a := 83) (by decide) (by decide)) (by rw [cw_26]; exact (hS.s (a := 83) (by decide) (by decide) rfl)) (by rw [cw_26]; decide) rfl (cr_wk (by omega) (k_goOnS hS hs32 h0 h9)) (fun v1 S1 G36 B36 J1 R1 h1 => ?_)
      obtain ⟨q0_, q1_, q2_, q3_, gf36, bf36, hs36⟩ := h1
      obtain rfl := q0_
      obtain rfl := q1_.symm
      obtain rfl := q2_.symm
      obtain rfl := q3_.symm
      show CR _ _ 39 [some (.ref 83), some (.int (nI d))] [] S G36 B36 J R _
      refine cn_ic (v := 1) d_31_39 (by decide) ?_
      exact cr_ri d_31_40 cx_31 (by decide) ⟨bI_tt, rfl, rfl, rfl, ((Gfr.rf.u (by decide)).tr gf32).tr gf36, bf32.tr bf36, fun _ => by have h := hs36; rw [j2 ha] at h; exact h, fun q => absurd (show true = false from q) (by decide)⟩
theorem k_rp_no {S : CS} {G : Nat → Nat → Value} {B : Nat → Nat → Int32} {J : Nat → Nat → Int64} {R : Nat → Nat → Option Nat} (hS : ShOk S) {t : Nat → Nat} {len : Nat} {s : LSt} (hs : RdS t len G B s) {d : Nat} (hd : d ≤ 8) (hm : s.2.1 ≤ 32) (ha : ¬ (isLt (tkC t len s.1) = true ∧ s.2.1 < 32)) (hb : ¬ tkC t len s.1 = 140 ∨ d = 8) : CR 0 31 0 [some (.ref 83), some (.int (nI d))] [] S G B J R (RdK t len S G B J R (false, s)) := by
  obtain ⟨j1, j2, j3, j4, j5, j6, j7, j8, j9, j10, j11⟩ := kj_all t len s.1
  refine cr_nx (pc' := 1) (al' := [some (.ref 83), some (.int (nI d))]) (st' := [.ref 83]) d_31_0 (fun _ => rfl) ?_
  refine cr_gf (v := .int (nI (kjN t len s.1))) d_31_1 cw_31 cf_4_48 (hS.i (a := 83) (by decide) (by decide)) (hS.s (a := 83) (by decide) (by decide) rfl) (by decide) hs.k ?_
  refine cn_ic (v := 3) d_31_4 (by decide) ?_
  refine cn_cgt (t := 41) d_31_5 (by decide) (by first | omega | assumption | exact cu_36 (by omega) (cu_lt (by omega) (by omega))) (by first | omega | assumption | exact cu_36 (by omega) (cu_lt (by omega) (by omega))) (fun c5 => ?_) (fun c5 => ?_)
  · refine cr_nx (pc' := 42) (al' := [some (.ref 83), some (.int (nI d))]) (st' := [.ref 83]) d_31_41 (fun _ => rfl) ?_
    refine cr_gf (v := .int (nI (kjN t len s.1))) d_31_42 cw_31 cf_4_48 (hS.i (a := 83) (by decide) (by decide)) (hS.s (a := 83) (by decide) (by decide) rfl) (by decide) hs.k ?_
    refine cn_bp (v := 10) d_31_45 (by decide) ?_
    refine cn_cne (t := 56) d_31_47 (by decide) (by first | omega | assumption | exact cu_36 (by omega) (cu_lt (by omega) (by omega))) (by first | omega | assumption | exact cu_36 (by omega) (cu_lt (by omega) (by omega))) (fun c47 => ?_) (fun c47 => ?_)
    · refine cn_ic (v := 0) d_31_56 (by decide) ?_
      exact cr_ri d_31_57 cx_31 (by decide) ⟨bI_ff, rfl, rfl, rfl, Gfr.rf, Bfr.rf, fun q => absurd (show false = true from q) (by decide), fun _ => hs.p⟩
    · refine cr_nx (pc' := 51) (al' := [some (.ref 83), some (.int (nI d))]) (st' := [.int (nI d)]) d_31_50 (fun _ => rfl) ?_
      refine cn_bp (v := 8) d_31_51 (by decide) ?_
      refine cn_clt (t := 58) d_31_53 (by decide) (by first | omega | assumption | exact cu_36 (by omega) (cu_lt (by omega) (by omega))) (by first | omega | assumption | exact cu_36 (by omega) (cu_lt (by omega) (by omega))) (fun c53 => ?_) (fun c53 => ?_)
      · omega
      · refine cn_ic (v := 0) d_31_56 (by decide) ?_
        exact cr_ri d_31_57 cx_31 (by decide) ⟨bI_ff, rfl, rfl, rfl, Gfr.rf, Bfr.rf, fun q => absurd (show false = true from q) (by decide), fun _ => hs.p⟩
  · refine cr_nx (pc' := 9) (al' := [some (.ref 83), some (.int (nI d))]) (st' := [.ref 83]) d_31_8 (fun _ => rfl) ?_
    refine cr_gf (v := .int (nI s.2.1)) d_31_9 cw_31 cf_4_35 (hS.i (a := 83) (by decide) (by decide)) (hS.s (a := 83) (by decide) (by decide) rfl) (by decide) hs.c ?_
    refine cn_bp (v := 32) d_31_12 (by decide) ?_
    refine cn_cge (t := 41) d_31_14 (by decide) (by first | omega | assumption | exact cu_36 (by omega) (cu_lt (by omega) (by omega))) (by first | omega | assumption | exact cu_36 (by omega) (cu_lt (by omega) (by omega))) (fun c14 => ?_) (fun c14 => ?_)
    · refine cr_nx (pc' := 42) (al' := [some (.ref 83), some (.int (nI d))]) (st' := [.ref 83]) d_31_41 (fun _ => rfl) ?_
      refine cr_gf (v := .int (nI (kjN t len s.1))) d_31_42 cw_31 cf_4_48 (hS.i (a := 83) (by decide) (by decide)) (hS.s (a := 83) (by decide) (by decide) rfl) (by decide) hs.k ?_
      refine cn_bp (v := 10) d_31_45 (by decide) ?_
      refine cn_cne (t := 56) d_31_47 (by decide) (by first | omega | assumption | exact cu_36 (by omega) (cu_lt (by omega) (by omega))) (by first | omega | assumption | exact cu_36 (by omega) (cu_lt (by omega) (by omega))) (fun c47 => ?_) (fun c47 => ?_)
      · refine cn_ic (v := 0) d_31_56 (by decide) ?_
        exact cr_ri d_31_57 cx_31 (by decide) ⟨bI_ff, rfl, rfl, rfl, Gfr.rf, Bfr.rf, fun q => absurd (show false = true from q) (by decide), fun _ => hs.p⟩
      · refine cr_nx (pc' := 51) (al' := [some (.ref 83), some (.int (nI d))]) (st' := [.int (nI d)]) d_31_50 (fun _ => rfl) ?_
        refine cn_bp (v := 8) d_31_51 (by decide) ?_
        refine cn_clt (t := 58) d_31_53 (by decide) (by first | omega | assumption | exact cu_36 (by omega) (cu_lt (by omega) (by omega))) (by first | omega | assumption | exact cu_36 (by omega) (cu_lt (by omega) (by omega))) (fun c53 => ?_) (fun c53 => ?_)
        · omega
        · refine cn_ic (v := 0) d_31_56 (by decide) ?_
          exact cr_ri d_31_57 cx_31 (by decide) ⟨bI_ff, rfl, rfl, rfl, Gfr.rf, Bfr.rf, fun q => absurd (show false = true from q) (by decide), fun _ => hs.p⟩
    · exact absurd ⟨j1.mp (by omega), c14⟩ ha
theorem pt_br {cod : Nat → Nat} {F e : Nat} {s : LSt} {r : Bool × LSt} (ha : ¬ (isLt (cod s.1) = true ∧ s.2.1 < 32)) (hb : cod s.1 = 140) (hr : trm cod F (prt cod F e) (s.1 + 1, s.2.1, s.2.2) = r) : prt cod F (e + 1) s = if r.1 = true ∧ cod r.2.1 = 141 then (true, r.2.1 + 1, r.2.2.1, r.2.2.2) else (false, r.2) := by
  conv => lhs; unfold prt
  rw [if_neg ha, if_pos hb, hr]
  rcases r with ⟨b, u⟩
  cases b
  · rw [if_neg (by simp)]
  · dsimp only
    by_cases h : cod u.1 = 141
    · rw [if_pos h, if_pos ⟨rfl, h⟩]
    · rw [if_neg h, if_neg (fun q => h q.2)]
theorem k_rp_br {S : CS} {G : Nat → Nat → Value} {B : Nat → Nat → Int32} {J : Nat → Nat → Int64} {R : Nat → Nat → Option Nat} (hS : ShOk S) {t : Nat → Nat} {len : Nat} {s : LSt} (hs : RdS t len G B s) {d k : Nat} {r : Bool × LSt} (hd : d < 8) (hb : tkC t len s.1 = 140) (ihx : ∀ G1 B1, RdS t len G1 B1 (s.1 + 1, s.2.1, s.2.2) → CR (k + 1) 30 0 [some (.ref 83), some (.int (nI (d + 1))), none, none] [] S G1 B1 J R (RdK t len S G1 B1 J R r)) (hm : s.2.1 ≤ 32) : CR (k + 1 + 1) 31 0 [some (.ref 83), some (.int (nI d))] [] S G B J R (RdK t len S G B J R (if r.1 = true ∧ tkC t len r.2.1 = 141 then (true, r.2.1 + 1, r.2.2.1, r.2.2.2) else (false, r.2))) := by
  obtain ⟨j1, j2, j3, j4, j5, j6, j7, j8, j9, j10, j11⟩ := kj_all t len s.1
  refine cr_nx (pc' := 1) (al' := [some (.ref 83), some (.int (nI d))]) (st' := [.ref 83]) d_31_0 (fun _ => rfl) ?_
  refine cr_gf (v := .int (nI (kjN t len s.1))) d_31_1 cw_31 cf_4_48 (hS.i (a := 83) (by decide) (by decide)) (hS.s (a := 83) (by decide) (by decide) rfl) (by decide) hs.k ?_
  refine cn_ic (v := 3) d_31_4 (by decide) ?_
  refine cn_cgt (t := 41) d_31_5 (by decide) (by first | omega | assumption | exact cu_36 (by omega) (cu_lt (by omega) (by omega))) (by first | omega | assumption | exact cu_36 (by omega) (cu_lt (by omega) (by omega))) (fun c5 => ?_) (fun c5 => ?_)
  · refine cr_nx (pc' := 42) (al' := [some (.ref 83), some (.int (nI d))]) (st' := [.ref 83]) d_31_41 (fun _ => rfl) ?_
    refine cr_gf (v := .int (nI (kjN t len s.1))) d_31_42 cw_31 cf_4_48 (hS.i (a := 83) (by decide) (by decide)) (hS.s (a := 83) (by decide) (by decide) rfl) (by decide) hs.k ?_
    refine cn_bp (v := 10) d_31_45 (by decide) ?_
    refine cn_cne (t := 56) d_31_47 (by decide) (by first | omega | assumption | exact cu_36 (by omega) (cu_lt (by omega) (by omega))) (by first | omega | assumption | exact cu_36 (by omega) (cu_lt (by omega) (by omega))) (fun c47 => ?_) (fun c47 => ?_)
    · exact absurd (j3.mpr hb) c47
    · refine cr_nx (pc' := 51) (al' := [some (.ref 83), some (.int (nI d))]) (st' := [.int (nI d)]) d_31_50 (fun _ => rfl) ?_
      refine cn_bp (v := 8) d_31_51 (by decide) ?_
      refine cn_clt (t := 58) d_31_53 (by decide) (by first | omega | assumption | exact cu_36 (by omega) (cu_lt (by omega) (by omega))) (by first | omega | assumption | exact cu_36 (by omega) (cu_lt (by omega) (by omega))) (fun c53 => ?_) (fun c53 => ?_)
      · refine cr_nx (pc' := 59) (al' := [some (.ref 83), some (.int (nI d))]) (st' := [.ref 83]) d_31_58 (fun _ => rfl) ?_
        refine cr_cv (b := 83) (as := []) (al0 := [some (.ref 83), none]) (r := []) d_31_59 cw_31 cm_4_41 cz_26 rfl rfl (hS.i (a := 83) (by decide) (by decide)) (by rw [cw_26]; exact (hS.s (a := 83) (by decide) (by decide) rfl)) (by rw [cw_26]; decide) rfl (cr_wk (by omega) (k_goOnS hS hs (by omega) (by omega))) (fun v1 S1 G59 B59 J1 R1 h1 => ?_)
        obtain ⟨q0_, q1_, q2_, q3_, gf59, bf59, hs59⟩ := h1
        obtain rfl := q0_
        obtain rfl := q1_.symm
        obtain rfl := q2_.symm
        obtain rfl := q3_.symm
        show CR _ _ 62 [some (.ref 83), some (.int (nI d))] [] S G59 B59 J R _
        refine cr_nx (pc' := 63) (al' := [some (.ref 83), some (.int (nI d))]) (st' := [.ref 83]) d_31_62 (fun _ => rfl) ?_
        refine cr_nx (pc' := 64) (al' := [some (.ref 83), some (.int (nI d))]) (st' := [.int (nI d), .ref 83]) d_31_63 (fun _ => rfl) ?_
        refine cn_ic (v := 1) d_31_64 (by decide) ?_
        refine cn_add d_31_65  ?_
        refine cr_cv (b := 83) (as := [.int (nI (d + 1))]) (al0 := [some (.ref 83), some (.int (nI (d + 1))), none, none]) (r := []) d_31_66 cw_31 cm_4_65 cz_30 rfl rfl (hS.i (a := 83) (by decide) (by decide)) (by rw [cw_30]; exact (hS.s (a := 83) (by decide) (by decide) rfl)) (by rw [cw_30]; decide) rfl (cr_wk (Nat.le_refl _) (ihx G59 B59 hs59)) (fun v1 S1 G66 B66 J1 R1 h1 => ?_)
        obtain ⟨q0_, q1_, q2_, q3_, gf66, bf66, hs66⟩ := h1
        obtain rfl := q0_
        obtain rfl := q1_.symm
        obtain rfl := q2_.symm
        obtain rfl := q3_.symm
        show CR _ _ 69 [some (.ref 83), some (.int (nI d))] [.int (bI (r.1 = true))] S G66 B66 J R _
        refine cr_beq (t := 81) d_31_69 (by decide) (fun c69 => ?_) (fun c69 => ?_)
        · refine cn_ic (v := 0) d_31_81 (by decide) ?_
          exact cr_ri d_31_82 cx_31 (by decide) (by rw [if_neg (fun q => c69 q.1)]; exact ⟨bI_ff, rfl, rfl, rfl, gf59.tr gf66, bf59.tr bf66, fun q => absurd (show false = true from q) (by decide), fun _ => hs66.2 (by simpa using c69)⟩)
        · refine cr_nx (pc' := 73) (al' := [some (.ref 83), some (.int (nI d))]) (st' := [.ref 83]) d_31_72 (fun _ => rfl) ?_
          refine cr_gf (v := .int (nI (kjN t len r.2.1))) d_31_73 cw_31 cf_4_48 (hS.i (a := 83) (by decide) (by decide)) (hS.s (a := 83) (by decide) (by decide) rfl) (by decide) (hs66.1 c69).k ?_
          refine cn_bp (v := 11) d_31_76 (by decide) ?_
          refine cn_ceq (t := 83) d_31_78 (by decide) (by have := (kj_all t len r.2.1).2.2.2.2.2.2.2.2.2.2; omega) (by omega) (fun c78 => ?_) (fun c78 => ?_)
          · refine cr_nx (pc' := 84) (al' := [some (.ref 83), some (.int (nI d))]) (st' := [.ref 83]) d_31_83 (fun _ => rfl) ?_
            refine cr_cv (b := 83) (as := []) (al0 := [some (.ref 83), none]) (r := []) d_31_84 cw_31 cm_4_41 cz_26 rfl rfl (hS.i (a := 83) (by decide) (by decide)) (by rw [cw_26]; exact (hS.s (a := 83) (by decide) (by decide) rfl)) (by rw [cw_26]; decide) rfl (cr_wk (by omega) (k_goOnS hS (hs66.1 c69) (by have := (kj_all t len r.2.1).2.2.2.1.mp c78; omega) (by have := (kj_all t len r.2.1).2.2.2.1.mp c78; omega))) (fun v1 S1 G84 B84 J1 R1 h1 => ?_)
            obtain ⟨q0_, q1_, q2_, q3_, gf84, bf84, hs84⟩ := h1
            obtain rfl := q0_
            obtain rfl := q1_.symm
            obtain rfl := q2_.symm
            obtain rfl := q3_.symm
            show CR _ _ 87 [some (.ref 83), some (.int (nI d))] [] S G84 B84 J R _
            refine cn_ic (v := 1) d_31_87 (by decide) ?_
            exact cr_ri d_31_88 cx_31 (by decide) (by rw [if_pos ⟨c69, (kj_all t len r.2.1).2.2.2.1.mp c78⟩]; exact ⟨bI_tt, rfl, rfl, rfl, (gf59.tr gf66).tr gf84, (bf59.tr bf66).tr bf84, fun _ => hs84, fun q => absurd (show true = false from q) (by decide)⟩)
          · refine cn_ic (v := 0) d_31_81 (by decide) ?_
            exact cr_ri d_31_82 cx_31 (by decide) (by rw [if_neg (fun q => c78 ((kj_all t len r.2.1).2.2.2.1.mpr q.2))]; exact ⟨bI_ff, rfl, rfl, rfl, gf59.tr gf66, bf59.tr bf66, fun q => absurd (show false = true from q) (by decide), fun _ => (hs66.1 c69).p⟩)
      · omega
  · exact absurd (j3.mpr hb) (by omega)
theorem k_readPart_s {t : Nat → Nat} {len F e : Nat} (he : e < 8) (ih : TmK t len F e) : PtK t len F (e + 1) := by
  intro S G B J R s hS hs h1 h2 h3
  have hE := tkC_E t len
  by_cases ha : isLt (tkC t len s.1) = true ∧ s.2.1 < 32
  · rw [pt_lt ha]
    exact cr_wk (by omega) (k_rp_lt hS hs ha.1 ha.2 h3)
  · by_cases hb : tkC t len s.1 = 140
    · obtain ⟨r, hr⟩ : ∃ r, trm (tkC t len) F (prt (tkC t len) F e) (s.1 + 1, s.2.1, s.2.2) = r := ⟨_, rfl⟩
      rw [pt_br ha hb hr]
      have hlt := cd_in hE h1 (by omega)
      refine cr_wk (show 2 * e + 3 + 1 + 1 ≤ 2 * (e + 1) + 3 by omega) (k_rp_br hS hs (by omega) hb (fun G1 B1 h => ?_) h2)
      rw [← hr, show 8 - (e + 1) + 1 = 8 - e by omega]
      exact ih hS h (by show s.1 + 1 ≤ _; omega) h2 h3
    · rw [pt_no ha hb]
      exact cr_wk (by omega) (k_rp_no hS hs (by omega) h2 ha (Or.inl hb))
theorem k_readPart_0 {t : Nat → Nat} {len F : Nat} : PtK t len F 0 := by
  intro S G B J R s hS hs h1 h2 h3
  by_cases ha : isLt (tkC t len s.1) = true ∧ s.2.1 < 32
  · rw [pt_lt ha]
    exact cr_wk (by omega) (k_rp_lt hS hs ha.1 ha.2 h3)
  · have hpz : prt (tkC t len) F 0 s = (false, s) := by unfold prt; rw [if_neg ha]
    rw [hpz]
    exact cr_wk (by omega) (k_rp_no hS hs (by omega) h2 ha (Or.inr rfl))
