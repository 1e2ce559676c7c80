/-! The reader once more: its own row stays; printed by wip/whole/gen_c43.py out of parts 85 .. 88. -/
/-- only the reader changes, but for the reference to its row -/
def Gf83 (G G' : Nat → Nat → Value) : Prop := Gfr [83] G G' ∧ G' 83 5 = G 83 5
theorem Gf83.rf {G : Nat → Nat → Value} : Gf83 G G := ⟨Gfr.rf, rfl⟩
theorem Gf83.u {G G' : Nat → Nat → Value} {k : Nat} {v : Value} (h : Gf83 G G') (hk : k ≠ 5) : Gf83 G (up2 G' 83 k v) := ⟨h.1.u (by decide), (up2_n (fun e => hk e.2.symm)).trans h.2⟩
theorem Gf83.tr {G H K : Nat → Nat → Value} (h : Gf83 G H) (k : Gf83 H K) : Gf83 G K := ⟨h.1.tr k.1, k.2.trans h.2⟩
def RdPz (S : CS) (G : Nat → Nat → Value) (B : Nat → Nat → Int32) (J : Nat → Nat → Int64) (R : Nat → Nat → Option Nat) (v : Option Value) (P : (Nat → Nat → Value) → (Nat → Nat → Int32) → Prop) : CQ := fun r S' G' B' J' R' => r = v ∧ S' = S ∧ J' = J ∧ R' = R ∧ Gf83 G G' ∧ Bfr [85] B B' ∧ P G' B'
theorem RdPz.tr {S : CS} {G G1 : Nat → Nat → Value} {B B1 : Nat → Nat → Int32} {J : Nat → Nat → Int64} {R : Nat → Nat → Option Nat} {v r : Option Value} {P : (Nat → Nat → Value) → (Nat → Nat → Int32) → Prop} {S' : CS} {G' : Nat → Nat → Value} {B' : Nat → Nat → Int32} {J' : Nat → Nat → Int64} {R' : Nat → Nat → Option Nat} (hg : Gf83 G G1) (hb : Bfr [85] B B1) (h : RdPz S G1 B1 J R v P r S' G' B' J' R') : RdPz S G B J R v P r S' G' B' J' R' := ⟨h.1, h.2.1, h.2.2.1, h.2.2.2.1, hg.tr h.2.2.2.2.1, hb.tr h.2.2.2.2.2.1, h.2.2.2.2.2.2⟩
def RdKz (t : Nat → Nat) (len : Nat) (S : CS) (G : Nat → Nat → Value) (B : Nat → Nat → Int32) (J : Nat → Nat → Int64) (R : Nat → Nat → Option Nat) (r : Bool × LSt) : CQ := RdPz S G B J R (some (.int (bI (r.1 = true)))) (fun G' B' => (r.1 = true → RdS t len G' B' r.2) ∧ (r.1 = false → G' 83 2 = .int (nI (tkP t len r.2.1))))
theorem k_emitSz {S : CS} {G : Nat → Nat → Value} {B : Nat → Nat → Int32} {J : Nat → Nat → Int64} {R : Nat → Nat → Option Nat} (hS : ShOk S) {t : Nat → Nat} {len k : Nat} {s : LSt} (hs : RdS t len G B s) (hl : s.2.2.length < 64) (hk : k < 8) : CR 0 32 0 [some (.ref 83), some (.int (nI k))] [] S G B J R (RdPz S G B J R none (fun G' B' => RdS t len G' B' (s.1, s.2.1, s.2.2 ++ [k]))) := by
  obtain ⟨a1, a2, a3, a4, a5, a6, a7, a8⟩ := hs
  refine cr_cq (k_emit hS a1.2.2.1 a5 a7 hl hk) ?_
  rintro r S' G' B' J' R' ⟨rfl, rfl, rfl, rfl, rfl, rfl⟩
  refine ⟨rfl, rfl, rfl, rfl, (Gf83.rf.u (by decide)).u (by decide), Bfr.rf.u (by decide), ⟨⟨?_, ?_, ?_, a1.2.2.2.1, ?_⟩, ?_, ?_, ?_, ?_, ?_, ?_, ?_⟩⟩
  · rw [up2_n (by decide), up2_n (by decide)]; exact a1.1
  · rw [up2_n (by decide), up2_n (by decide)]; exact a1.2.1
  · rw [up2_n (by decide), up2_n (by decide)]; exact a1.2.2.1
  · intro i hi
    rw [upr_n (by decide)]
    exact a1.2.2.2.2 i hi
  · rw [up2_n (by decide), up2_n (by decide)]; exact a2
  · rw [up2_n (by decide), up2_n (by decide)]; exact a3
  · rw [up2_n (by decide), up2_n (by decide)]; exact a4
  · rw [up2_n (by decide), up2_s, List.length_append]; rfl
  · rw [up2_n (by decide), up2_n (by decide)]; exact a6
  · rw [up2_s, usN_s]
  · intro i hi
    rw [upr_s]
    rw [List.length_append] at hi
    simp only [List.length_singleton] at hi
    rcases Nat.lt_or_ge i s.2.2.length with q | q
    · rw [pk_un (by omega), a8 i q, List.getD_eq_getElem?_getD, List.getD_eq_getElem?_getD, List.getElem?_append_left q]
    · have e : i = s.2.2.length := by omega
      subst e
      rw [pk_us, List.getD_eq_getElem?_getD, List.getElem?_append_right (Nat.le_refl _), Nat.sub_self]
      rfl
theorem k_goOnSz {S : CS} {G : Nat → Nat → Value} {B : Nat → Nat → Int32} {J : Nat → Nat → Int64} {R : Nat → Nat → Option Nat} (hS : ShOk S) {t : Nat → Nat} {len : Nat} {s : LSt} (hs : RdS t len G B s) (h0 : ¬ tkC t len s.1 = 0) (h9 : ¬ tkC t len s.1 = 90) : CR 1 26 0 [some (.ref 83), none] [] S G B J R (RdPz S G B J R none (fun G' B' => RdS t len G' B' (s.1 + 1, s.2.1, s.2.2))) := by
  obtain ⟨a1, a2, a3, a4, a5, a6, a7, a8⟩ := hs
  have hle := tkP_le (t := t) (len := len) s.1
  have hp : tkP t len s.1 < len := by
    rcases Nat.lt_or_ge (tkP t len s.1) len with q | q
    · exact q
    · exfalso
      apply h0
      unfold tkC
      rw [if_neg (by omega)]
  have hen : enC t len (tkP t len s.1) = enR t len (tkP t len s.1) := en_eq (fun e => h9 (by unfold tkC; rw [if_pos hp]; exact e))
  have hq : skp t len (enC t len (tkP t len s.1)) = tkP t len (s.1 + 1) := by rw [hen]; rfl
  refine cr_cq (k_goOn hS a1 a3 (enC_f hle).2.1) ?_
  rintro r S' G' B' J' R' ⟨rfl, rfl, rfl, rfl, rfl, rfl⟩
  rw [hq]
  refine ⟨rfl, rfl, rfl, rfl, ((Gf83.rf.u (by decide)).u (by decide)).u (by decide), Bfr.rf, ⟨⟨?_, ?_, ?_, a1.2.2.2.1, a1.2.2.2.2⟩, ?_, ?_, ?_, ?_, ?_, ?_, a8⟩⟩
  · rw [up2_n (by decide), up2_n (by decide), up2_n (by decide)]; exact a1.1
  · rw [up2_n (by decide), up2_n (by decide), up2_n (by decide)]; exact a1.2.1
  · rw [up2_n (by decide), up2_n (by decide), up2_n (by decide)]; exact a1.2.2.1
  · rw [up2_n (by decide), up2_n (by decide), up2_s]
  · rw [up2_n (by decide), up2_s]
  · rw [up2_s]; rfl
  · rw [up2_n (by decide), up2_n (by decide), up2_n (by decide)]; exact a5
  · rw [up2_n (by decide), up2_n (by decide), up2_n (by decide)]; exact a6
  · rw [up2_n (by decide), up2_n (by decide), up2_n (by decide)]; exact a7
def PtKz (t : Nat → Nat) (len F e : Nat) : Prop := ∀ {S : CS} {G : Nat → Nat → Value} {B : Nat → Nat → Int32} {J : Nat → Nat → Int64} {R : Nat → Nat → Option Nat} {s : LSt}, ShOk S → RdS t len G B s → s.1 ≤ tkN t len → s.2.1 ≤ 32 → s.2.2.length ≤ 2 * s.2.1 → CR (2 * e + 3) 31 0 [some (.ref 83), some (.int (nI (8 - e)))] [] S G B J R (RdKz t len S G B J R (prt (tkC t len) F e s))
def TmKz (t : Nat → Nat) (len F e : Nat) : Prop := ∀ {S : CS} {G : Nat → Nat → Value} {B : Nat → Nat → Int32} {J : Nat → Nat → Int64} {R : Nat → Nat → Option Nat} {s : LSt}, ShOk S → RdS t len G B s → s.1 ≤ tkN t len → s.2.1 ≤ 32 → s.2.2.length ≤ 2 * s.2.1 → CR (2 * e + 4) 30 0 [some (.ref 83), some (.int (nI (8 - e))), none, none] [] S G B J R (RdKz t len S G B J R (trm (tkC t len) F (prt (tkC t len) F e) s))
theorem k_rp_ltz {S : CS} {G : Nat → Nat → Value} {B : Nat → Nat → Int32} {J : Nat → Nat → Int64} {R : Nat → Nat → Option Nat} (hS : ShOk S) {t : Nat → Nat} {len : Nat} {s : LSt} (hs : RdS t len G B s) {d : Nat} (ha : isLt (tkC t len s.1) = true) (hb : s.2.1 < 32) (hl : s.2.2.length ≤ 2 * s.2.1) : CR 2 31 0 [some (.ref 83), some (.int (nI d))] [] S G B J R (RdKz t len S G B J R (true, s.1 + 1, s.2.1 + 1, s.2.2 ++ [tkC t len s.1 - 1])) := by
  obtain ⟨j1, j2, j3, j4, j5, j6, j7, j8, j9, j10, j11⟩ := kj_all t len s.1
  have hl : s.2.2.length < 64 := by omega
  have h9 : ¬ tkC t len s.1 = 90 := fun q => by have := of_decide_eq_true ha; omega
  have h0 : ¬ tkC t len s.1 = 0 := fun q => by have := of_decide_eq_true ha; omega
  refine cr_nx (pc' := 1) (al' := [some (.ref 83), some (.int (nI d))]) (st' := [.ref 83]) d_31_0 (fun _ => rfl) ?_
  refine cr_gf (v := .int (nI (kjN t len s.1))) d_31_1 cw_31 cf_4_48 (hS.i (a := 83) (by decide) (by decide)) (hS.s (a := 83) (by decide) (by decide) rfl) (by decide) hs.k ?_
  refine cn_ic (v := 3) d_31_4 (by decide) ?_
  refine cn_cgt (t := 41) d_31_5 (by decide) (by first | omega | assumption | exact cu_36 (by omega) (cu_lt (by omega) (by omega))) (by first | omega | assumption | exact cu_36 (by omega) (cu_lt (by omega) (by omega))) (fun c5 => ?_) (fun c5 => ?_)
  · exact absurd (j1.mpr ha) (by omega)
  · refine cr_nx (pc' := 9) (al' := [some (.ref 83), some (.int (nI d))]) (st' := [.ref 83]) d_31_8 (fun _ => rfl) ?_
    refine cr_gf (v := .int (nI s.2.1)) d_31_9 cw_31 cf_4_35 (hS.i (a := 83) (by decide) (by decide)) (hS.s (a := 83) (by decide) (by decide) rfl) (by decide) hs.c ?_
    refine cn_bp (v := 32) d_31_12 (by decide) ?_
    refine cn_cge (t := 41) d_31_14 (by decide) (by first | omega | assumption | exact cu_36 (by omega) (cu_lt (by omega) (by omega))) (by first | omega | assumption | exact cu_36 (by omega) (cu_lt (by omega) (by omega))) (fun c14 => ?_) (fun c14 => ?_)
    · omega
    · refine cr_nx (pc' := 18) (al' := [some (.ref 83), some (.int (nI d))]) (st' := [.ref 83]) d_31_17 (fun _ => rfl) ?_
      refine cr_nx (pc' := 19) (al' := [some (.ref 83), some (.int (nI d))]) (st' := [.ref 83, .ref 83]) d_31_18 (fun _ => rfl) ?_
      refine cr_gf (v := .int (nI s.2.1)) d_31_19 cw_31 cf_4_35 (hS.i (a := 83) (by decide) (by decide)) (hS.s (a := 83) (by decide) (by decide) rfl) (by decide) hs.c ?_
      refine cn_ic (v := 1) d_31_22 (by decide) ?_
      refine cn_add d_31_23  ?_
      refine cp_4_7  d_31_24 cw_31 cf_4_35 (hS.i (a := 83) (by decide) (by decide)) (hS.s (a := 83) (by decide) (by decide) rfl) (by decide) ?_
      refine cr_nx (pc' := 28) (al' := [some (.ref 83), some (.int (nI d))]) (st' := [.ref 83]) d_31_27 (fun _ => rfl) ?_
      refine cr_nx (pc' := 29) (al' := [some (.ref 83), some (.int (nI d))]) (st' := [.ref 83, .ref 83]) d_31_28 (fun _ => rfl) ?_
      refine cr_gf (v := .int (nI (kjN t len s.1))) d_31_29 cw_31 cf_4_48 (hS.i (a := 83) (by decide) (by decide)) (hS.s (a := 83) (by decide) (by decide) rfl) (by decide) (by simp [up2]; exact hs.k) ?_
      refine cr_cv (b := 83) (as := [.int (nI (kjN t len s.1))]) (al0 := [some (.ref 83), some (.int (nI (kjN t len s.1)))]) (r := []) d_31_32 cw_31 cm_4_69 cz_32 rfl rfl (hS.i (a := 83) (by decide) (by decide)) (by rw [cw_32]; exact (hS.s (a := 83) (by decide) (by decide) rfl)) (by rw [cw_32]; decide) rfl (cr_wk (by omega) (k_emitSz hS hs.lt hl (by have := j1.mpr ha; omega))) (fun v1 S1 G32 B32 J1 R1 h1 => ?_)
      obtain ⟨q0_, q1_, q2_, q3_, gf32, bf32, hs32⟩ := h1
      obtain rfl := q0_
      obtain rfl := q1_.symm
      obtain rfl := q2_.symm
      obtain rfl := q3_.symm
      show CR _ _ 35 [some (.ref 83), some (.int (nI d))] [] S G32 B32 J R _
      refine cr_nx (pc' := 36) (al' := [some (.ref 83), some (.int (nI d))]) (st' := [.ref 83]) d_31_35 (fun _ => rfl) ?_
      refine cr_cv (b := 83) (as := []) (al0 := [some (.ref 83), none]) (r := []) d_31_36 cw_31 cm_4_41 cz_26 rfl rfl (hS.i (a := 83) (by decide) (by decide)) (by rw [cw_26]; exact (hS.s (a := 83) (by decide) (by decide) rfl)) (by rw [cw_26]; decide) rfl (cr_wk (by omega) (k_goOnSz hS hs32 h0 h9)) (fun v1 S1 G36 B36 J1 R1 h1 => ?_)
      obtain ⟨q0_, q1_, q2_, q3_, gf36, bf36, hs36⟩ := h1
      obtain rfl := q0_
      obtain rfl := q1_.symm
      obtain rfl := q2_.symm
      obtain rfl := q3_.symm
      show CR _ _ 39 [some (.ref 83), some (.int (nI d))] [] S G36 B36 J R _
      refine cn_ic (v := 1) d_31_39 (by decide) ?_
      exact cr_ri d_31_40 cx_31 (by decide) ⟨bI_tt, rfl, rfl, rfl, ((Gf83.rf.u (by decide)).tr gf32).tr gf36, bf32.tr bf36, fun _ => by have h := hs36; rw [j2 ha] at h; exact h, fun q => absurd (show true = false from q) (by decide)⟩
theorem k_rp_noz {S : CS} {G : Nat → Nat → Value} {B : Nat → Nat → Int32} {J : Nat → Nat → Int64} {R : Nat → Nat → Option Nat} (hS : ShOk S) {t : Nat → Nat} {len : Nat} {s : LSt} (hs : RdS t len G B s) {d : Nat} (hd : d ≤ 8) (hm : s.2.1 ≤ 32) (ha : ¬ (isLt (tkC t len s.1) = true ∧ s.2.1 < 32)) (hb : ¬ tkC t len s.1 = 140 ∨ d = 8) : CR 0 31 0 [some (.ref 83), some (.int (nI d))] [] S G B J R (RdKz t len S G B J R (false, s)) := by
  obtain ⟨j1, j2, j3, j4, j5, j6, j7, j8, j9, j10, j11⟩ := kj_all t len s.1
  refine cr_nx (pc' := 1) (al' := [some (.ref 83), some (.int (nI d))]) (st' := [.ref 83]) d_31_0 (fun _ => rfl) ?_
  refine cr_gf (v := .int (nI (kjN t len s.1))) d_31_1 cw_31 cf_4_48 (hS.i (a := 83) (by decide) (by decide)) (hS.s (a := 83) (by decide) (by decide) rfl) (by decide) hs.k ?_
  refine cn_ic (v := 3) d_31_4 (by decide) ?_
  refine cn_cgt (t := 41) d_31_5 (by decide) (by first | omega | assumption | exact cu_36 (by omega) (cu_lt (by omega) (by omega))) (by first | omega | assumption | exact cu_36 (by omega) (cu_lt (by omega) (by omega))) (fun c5 => ?_) (fun c5 => ?_)
  · refine cr_nx (pc' := 42) (al' := [some (.ref 83), some (.int (nI d))]) (st' := [.ref 83]) d_31_41 (fun _ => rfl) ?_
    refine cr_gf (v := .int (nI (kjN t len s.1))) d_31_42 cw_31 cf_4_48 (hS.i (a := 83) (by decide) (by decide)) (hS.s (a := 83) (by decide) (by decide) rfl) (by decide) hs.k ?_
    refine cn_bp (v := 10) d_31_45 (by decide) ?_
    refine cn_cne (t := 56) d_31_47 (by decide) (by first | omega | assumption | exact cu_36 (by omega) (cu_lt (by omega) (by omega))) (by first | omega | assumption | exact cu_36 (by omega) (cu_lt (by omega) (by omega))) (fun c47 => ?_) (fun c47 => ?_)
    · refine cn_ic (v := 0) d_31_56 (by decide) ?_
      exact cr_ri d_31_57 cx_31 (by decide) ⟨bI_ff, rfl, rfl, rfl, Gf83.rf, Bfr.rf, fun q => absurd (show false = true from q) (by decide), fun _ => hs.p⟩
    · refine cr_nx (pc' := 51) (al' := [some (.ref 83), some (.int (nI d))]) (st' := [.int (nI d)]) d_31_50 (fun _ => rfl) ?_
      refine cn_bp (v := 8) d_31_51 (by decide) ?_
      refine cn_clt (t := 58) d_31_53 (by decide) (by first | omega | assumption | exact cu_36 (by omega) (cu_lt (by omega) (by omega))) (by first | omega | assumption | exact cu_36 (by omega) (cu_lt (by omega) (by omega))) (fun c53 => ?_) (fun c53 => ?_)
      · omega
      · refine cn_ic (v := 0) d_31_56 (by decide) ?_
        exact cr_ri d_31_57 cx_31 (by decide) ⟨bI_ff, rfl, rfl, rfl, Gf83.rf, Bfr.rf, fun q => absurd (show false = true from q) (by decide), fun _ => hs.p⟩
  · refine cr_nx (pc' := 9) (al' := [some (.ref 83), some (.int (nI d))]) (st' := [.ref 83]) d_31_8 (fun _ => rfl) ?_
    refine cr_gf (v := .int (nI s.2.1)) d_31_9 cw_31 cf_4_35 (hS.i (a := 83) (by decide) (by decide)) (hS.s (a := 83) (by decide) (by decide) rfl) (by decide) hs.c ?_
    refine cn_bp (v := 32) d_31_12 (by decide) ?_
    refine cn_cge (t := 41) d_31_14 (by decide) (by first | omega | assumption | exact cu_36 (by omega) (cu_lt (by omega) (by omega))) (by first | omega | assumption | exact cu_36 (by omega) (cu_lt (by omega) (by omega))) (fun c14 => ?_) (fun c14 => ?_)
    · refine cr_nx (pc' := 42) (al' := [some (.ref 83), some (.int (nI d))]) (st' := [.ref 83]) d_31_41 (fun _ => rfl) ?_
      refine cr_gf (v := .int (nI (kjN t len s.1))) d_31_42 cw_31 cf_4_48 (hS.i (a := 83) (by decide) (by decide)) (hS.s (a := 83) (by decide) (by decide) rfl) (by decide) hs.k ?_
      refine cn_bp (v := 10) d_31_45 (by decide) ?_
      refine cn_cne (t := 56) d_31_47 (by decide) (by first | omega | assumption | exact cu_36 (by omega) (cu_lt (by omega) (by omega))) (by first | omega | assumption | exact cu_36 (by omega) (cu_lt (by omega) (by omega))) (fun c47 => ?_) (fun c47 => ?_)
      · refine cn_ic (v := 0) d_31_56 (by decide) ?_
        exact cr_ri d_31_57 cx_31 (by decide) ⟨bI_ff, rfl, rfl, rfl, Gf83.rf, Bfr.rf, fun q => absurd (show false = true from q) (by decide), fun _ => hs.p⟩
      · refine cr_nx (pc' := 51) (al' := [some (.ref 83), some (.int (nI d))]) (st' := [.int (nI d)]) d_31_50 (fun _ => rfl) ?_
        refine cn_bp (v := 8) d_31_51 (by decide) ?_
        refine cn_clt (t := 58) d_31_53 (by decide) (by first | omega | assumption | exact cu_36 (by omega) (cu_lt (by omega) (by omega))) (by first | omega | assumption | exact cu_36 (by omega) (cu_lt (by omega) (by omega))) (fun c53 => ?_) (fun c53 => ?_)
        · omega
        · refine cn_ic (v := 0) d_31_56 (by decide) ?_
          exact cr_ri d_31_57 cx_31 (by decide) ⟨bI_ff, rfl, rfl, rfl, Gf83.rf, Bfr.rf, fun q => absurd (show false = true from q) (by decide), fun _ => hs.p⟩
    · exact absurd ⟨j1.mp (by omega), c14⟩ ha
theorem k_rp_brz {S : CS} {G : Nat → Nat → Value} {B : Nat → Nat → Int32} {J : Nat → Nat → Int64} {R : Nat → Nat → Option Nat} (hS : ShOk S) {t : Nat → Nat} {len : Nat} {s : LSt} (hs : RdS t len G B s) {d k : Nat} {r : Bool × LSt} (hd : d < 8) (hb : tkC t len s.1 = 140) (ihx : ∀ G1 B1, RdS t len G1 B1 (s.1 + 1, s.2.1, s.2.2) → CR (k + 1) 30 0 [some (.ref 83), some (.int (nI (d + 1))), none, none] [] S G1 B1 J R (RdKz t len S G1 B1 J R r)) (hm : s.2.1 ≤ 32) : CR (k + 1 + 1) 31 0 [some (.ref 83), some (.int (nI d))] [] S G B J R (RdKz t len S G B J R (if r.1 = true ∧ tkC t len r.2.1 = 141 then (true, r.2.1 + 1, r.2.2.1, r.2.2.2) else (false, r.2))) := by
  obtain ⟨j1, j2, j3, j4, j5, j6, j7, j8, j9, j10, j11⟩ := kj_all t len s.1
  refine cr_nx (pc' := 1) (al' := [some (.ref 83), some (.int (nI d))]) (st' := [.ref 83]) d_31_0 (fun _ => rfl) ?_
  refine cr_gf (v := .int (nI (kjN t len s.1))) d_31_1 cw_31 cf_4_48 (hS.i (a := 83) (by decide) (by decide)) (hS.s (a := 83) (by decide) (by decide) rfl) (by decide) hs.k ?_
  refine cn_ic (v := 3) d_31_4 (by decide) ?_
  refine cn_cgt (t := 41) d_31_5 (by decide) (by first | omega | assumption | exact cu_36 (by omega) (cu_lt (by omega) (by omega))) (by first | omega | assumption | exact cu_36 (by omega) (cu_lt (by omega) (by omega))) (fun c5 => ?_) (fun c5 => ?_)
  · refine cr_nx (pc' := 42) (al' := [some (.ref 83), some (.int (nI d))]) (st' := [.ref 83]) d_31_41 (fun _ => rfl) ?_
    refine cr_gf (v := .int (nI (kjN t len s.1))) d_31_42 cw_31 cf_4_48 (hS.i (a := 83) (by decide) (by decide)) (hS.s (a := 83) (by decide) (by decide) rfl) (by decide) hs.k ?_
    refine cn_bp (v := 10) d_31_45 (by decide) ?_
    refine cn_cne (t := 56) d_31_47 (by decide) (by first | omega | assumption | exact cu_36 (by omega) (cu_lt (by omega) (by omega))) (by first | omega | assumption | exact cu_36 (by omega) (cu_lt (by omega) (by omega))) (fun c47 => ?_) (fun c47 => ?_)
    · exact absurd (j3.mpr hb) c47
    · refine cr_nx (pc' := 51) (al' := [some (.ref 83), some (.int (nI d))]) (st' := [.int (nI d)]) d_31_50 (fun _ => rfl) ?_
      refine cn_bp (v := 8) d_31_51 (by decide) ?_
      refine cn_clt (t := 58) d_31_53 (by decide) (by first | omega | assumption | exact cu_36 (by omega) (cu_lt (by omega) (by omega))) (by first | omega | assumption | exact cu_36 (by omega) (cu_lt (by omega) (by omega))) (fun c53 => ?_) (fun c53 => ?_)
      · refine cr_nx (pc' := 59) (al' := [some (.ref 83), some (.int (nI d))]) (st' := [.ref 83]) d_31_58 (fun _ => rfl) ?_
        refine cr_cv (b := 83) (as := []) (al0 := [some (.ref 83), none]) (r := []) d_31_59 cw_31 cm_4_41 cz_26 rfl rfl (hS.i (a := 83) (by decide) (by decide)) (by rw [cw_26]; exact (hS.s (a := 83) (by decide) (by decide) rfl)) (by rw [cw_26]; decide) rfl (cr_wk (by omega) (k_goOnSz hS hs (by omega) (by omega))) (fun v1 S1 G59 B59 J1 R1 h1 => ?_)
        obtain ⟨q0_, q1_, q2_, q3_, gf59, bf59, hs59⟩ := h1
        obtain rfl := q0_
        obtain rfl := q1_.symm
        obtain rfl := q2_.symm
        obtain rfl := q3_.symm
        show CR _ _ 62 [some (.ref 83), some (.int (nI d))] [] S G59 B59 J R _
        refine cr_nx (pc' := 63) (al' := [some (.ref 83), some (.int (nI d))]) (st' := [.ref 83]) d_31_62 (fun _ => rfl) ?_
        refine cr_nx (pc' := 64) (al' := [some (.ref 83), some (.int (nI d))]) (st' := [.int (nI d), .ref 83]) d_31_63 (fun _ => rfl) ?_
        refine cn_ic (v := 1) d_31_64 (by decide) ?_
        refine cn_add d_31_65  ?_
        refine cr_cv (b := 83) (as := [.int (nI (d + 1))]) (al0 := [some (.ref 83), some (.int (nI (d + 1))), none, none]) (r := []) d_31_66 cw_31 cm_4_65 cz_30 rfl rfl (hS.i (a := 83) (by decide) (by decide)) (by rw [cw_30]; exact (hS.s (a := 83) (by decide) (by decide) rfl)) (by rw [cw_30]; decide) rfl (cr_wk (Nat.le_refl _) (ihx G59 B59 hs59)) (fun v1 S1 G66 B66 J1 R1 h1 => ?_)
        obtain ⟨q0_, q1_, q2_, q3_, gf66, bf66, hs66⟩ := h1
        obtain rfl := q0_
        obtain rfl := q1_.symm
        obtain rfl := q2_.symm
        obtain rfl := q3_.symm
        show CR _ _ 69 [some (.ref 83), some (.int (nI d))] [.int (bI (r.1 = true))] S G66 B66 J R _
        refine cr_beq (t := 81) d_31_69 (by decide) (fun c69 => ?_) (fun c69 => ?_)
        · refine cn_ic (v := 0) d_31_81 (by decide) ?_
          exact cr_ri d_31_82 cx_31 (by decide) (by rw [if_neg (fun q => c69 q.1)]; exact ⟨bI_ff, rfl, rfl, rfl, gf59.tr gf66, bf59.tr bf66, fun q => absurd (show false = true from q) (by decide), fun _ => hs66.2 (by simpa using c69)⟩)
        · refine cr_nx (pc' := 73) (al' := [some (.ref 83), some (.int (nI d))]) (st' := [.ref 83]) d_31_72 (fun _ => rfl) ?_
          refine cr_gf (v := .int (nI (kjN t len r.2.1))) d_31_73 cw_31 cf_4_48 (hS.i (a := 83) (by decide) (by decide)) (hS.s (a := 83) (by decide) (by decide) rfl) (by decide) (hs66.1 c69).k ?_
          refine cn_bp (v := 11) d_31_76 (by decide) ?_
          refine cn_ceq (t := 83) d_31_78 (by decide) (by have := (kj_all t len r.2.1).2.2.2.2.2.2.2.2.2.2; omega) (by omega) (fun c78 => ?_) (fun c78 => ?_)
          · refine cr_nx (pc' := 84) (al' := [some (.ref 83), some (.int (nI d))]) (st' := [.ref 83]) d_31_83 (fun _ => rfl) ?_
            refine cr_cv (b := 83) (as := []) (al0 := [some (.ref 83), none]) (r := []) d_31_84 cw_31 cm_4_41 cz_26 rfl rfl (hS.i (a := 83) (by decide) (by decide)) (by rw [cw_26]; exact (hS.s (a := 83) (by decide) (by decide) rfl)) (by rw [cw_26]; decide) rfl (cr_wk (by omega) (k_goOnSz hS (hs66.1 c69) (by have := (kj_all t len r.2.1).2.2.2.1.mp c78; omega) (by have := (kj_all t len r.2.1).2.2.2.1.mp c78; omega))) (fun v1 S1 G84 B84 J1 R1 h1 => ?_)
            obtain ⟨q0_, q1_, q2_, q3_, gf84, bf84, hs84⟩ := h1
            obtain rfl := q0_
            obtain rfl := q1_.symm
            obtain rfl := q2_.symm
            obtain rfl := q3_.symm
            show CR _ _ 87 [some (.ref 83), some (.int (nI d))] [] S G84 B84 J R _
            refine cn_ic (v := 1) d_31_87 (by decide) ?_
            exact cr_ri d_31_88 cx_31 (by decide) (by rw [if_pos ⟨c69, (kj_all t len r.2.1).2.2.2.1.mp c78⟩]; exact ⟨bI_tt, rfl, rfl, rfl, (gf59.tr gf66).tr gf84, (bf59.tr bf66).tr bf84, fun _ => hs84, fun q => absurd (show true = false from q) (by decide)⟩)
          · refine cn_ic (v := 0) d_31_81 (by decide) ?_
            exact cr_ri d_31_82 cx_31 (by decide) (by rw [if_neg (fun q => c78 ((kj_all t len r.2.1).2.2.2.1.mpr q.2))]; exact ⟨bI_ff, rfl, rfl, rfl, gf59.tr gf66, bf59.tr bf66, fun q => absurd (show false = true from q) (by decide), fun _ => (hs66.1 c69).p⟩)
      · omega
  · exact absurd (j3.mpr hb) (by omega)
theorem k_readPart_sz {t : Nat → Nat} {len F e : Nat} (he : e < 8) (ih : TmKz t len F e) : PtKz t len F (e + 1) := by
  intro S G B J R s hS hs h1 h2 h3
  have hE := tkC_E t len
  by_cases ha : isLt (tkC t len s.1) = true ∧ s.2.1 < 32
  · rw [pt_lt ha]
    exact cr_wk (by omega) (k_rp_ltz hS hs ha.1 ha.2 h3)
  · by_cases hb : tkC t len s.1 = 140
    · obtain ⟨r, hr⟩ : ∃ r, trm (tkC t len) F (prt (tkC t len) F e) (s.1 + 1, s.2.1, s.2.2) = r := ⟨_, rfl⟩
      rw [pt_br ha hb hr]
      have hlt := cd_in hE h1 (by omega)
      refine cr_wk (show 2 * e + 3 + 1 + 1 ≤ 2 * (e + 1) + 3 by omega) (k_rp_brz hS hs (by omega) hb (fun G1 B1 h => ?_) h2)
      rw [← hr, show 8 - (e + 1) + 1 = 8 - e by omega]
      exact ih hS h (by show s.1 + 1 ≤ _; omega) h2 h3
    · rw [pt_no ha hb]
      exact cr_wk (by omega) (k_rp_noz hS hs (by omega) h2 ha (Or.inl hb))
theorem k_readPart_0z {t : Nat → Nat} {len F : Nat} : PtKz t len F 0 := by
  intro S G B J R s hS hs h1 h2 h3
  by_cases ha : isLt (tkC t len s.1) = true ∧ s.2.1 < 32
  · rw [pt_lt ha]
    exact cr_wk (by omega) (k_rp_ltz hS hs ha.1 ha.2 h3)
  · have hpz : prt (tkC t len) F 0 s = (false, s) := by unfold prt; rw [if_neg ha]
    rw [hpz]
    exact cr_wk (by omega) (k_rp_noz hS hs (by omega) h2 ha (Or.inr rfl))
theorem k_rt_0z {S : CS} {G : Nat → Nat → Value} {B : Nat → Nat → Int32} {J : Nat → Nat → Int64} {R : Nat → Nat → Option Nat} {Q : CQ} (hS : ShOk S) {t : Nat → Nat} {len : Nat} {s : LSt} (hs : RdS t len G B s) {k : Nat} {r : Bool × LSt} {d : Nat} (ihx : CR (k + 1) 31 0 [some (.ref 83), some (.int (nI d))] [] S G B J R (RdKz t len S G B J R r)) (hk : r.1 = true → ∀ G1 B1, Gf83 G G1 → Bfr [85] B B1 → RdS t len G1 B1 r.2 → CR (k + 1 + 1) 30 12 [some (.ref 83), some (.int (nI d)), some (.int (nI 0)), none] [] S G1 B1 J R Q) (hf : r.1 = false → ∀ G1 B1, Gf83 G G1 → Bfr [85] B B1 → G1 83 2 = .int (nI (tkP t len r.2.1)) → Q (some (.int (nI 0))) S G1 B1 J R) : CR (k + 1 + 1) 30 0 [some (.ref 83), some (.int (nI d)), none, none] [] S G B J R Q := by
  obtain ⟨j1, j2, j3, j4, j5, j6, j7, j8, j9, j10, j11⟩ := kj_all t len s.1
  have hm4 := hs.m
  refine cr_nx (pc' := 1) (al' := [some (.ref 83), some (.int (nI d)), none, none]) (st' := [.ref 83]) d_30_0 (fun _ => rfl) ?_
  refine cr_nx (pc' := 2) (al' := [some (.ref 83), some (.int (nI d)), none, none]) (st' := [.int (nI d), .ref 83]) d_30_1 (fun _ => rfl) ?_
  refine cr_cv (b := 83) (as := [.int (nI d)]) (al0 := [some (.ref 83), some (.int (nI d))]) (r := []) d_30_2 cw_30 cm_4_73 cz_31 rfl rfl (hS.i (a := 83) (by decide) (by decide)) (by rw [cw_31]; exact (hS.s (a := 83) (by decide) (by decide) rfl)) (by rw [cw_31]; decide) rfl (cr_wk (Nat.le_refl _) (ihx)) (fun v1 S1 G2 B2 J1 R1 h1 => ?_)
  obtain ⟨q0_, q1_, q2_, q3_, gf2, bf2, hs2⟩ := h1
  obtain rfl := q0_
  obtain rfl := q1_.symm
  obtain rfl := q2_.symm
  obtain rfl := q3_.symm
  show CR _ _ 5 [some (.ref 83), some (.int (nI d)), none, none] [.int (bI (r.1 = true))] S G2 B2 J R _
  refine cr_bne (t := 10) d_30_5 (by decide) (fun c5 => ?_) (fun c5 => ?_)
  · refine cn_ic (v := 0) d_30_10 (by decide) ?_
    refine cr_nx (pc' := 12) (al' := [some (.ref 83), some (.int (nI d)), some (.int (nI 0)), none]) (st' := []) d_30_11 (fun _ => rfl) ?_
    exact hk c5 G2 B2 gf2 bf2 (hs2.1 c5)
  · refine cn_ic (v := 0) d_30_8 (by decide) ?_
    exact cr_ri d_30_9 cx_30 (by decide) (hf (by simpa using c5) G2 B2 gf2 bf2 (hs2.2 (by simpa using c5)))
theorem k_rt12_nz {S : CS} {G : Nat → Nat → Value} {B : Nat → Nat → Int32} {J : Nat → Nat → Int64} {R : Nat → Nat → Option Nat} (hS : ShOk S) {t : Nat → Nat} {len : Nat} {s : LSt} (hs : RdS t len G B s) {d i : Nat} (hi : i ≤ len) (hop : ¬ isOp (tkC t len s.1) = true) : CR (0) 30 12 [some (.ref 83), some (.int (nI d)), some (.int (nI i)), none] [] S G B J R (RdKz t len S G B J R (true, s)) := by
  obtain ⟨j1, j2, j3, j4, j5, j6, j7, j8, j9, j10, j11⟩ := kj_all t len s.1
  have hm4 := hs.m
  refine cr_nx (pc' := 13) (al' := [some (.ref 83), some (.int (nI d)), some (.int (nI i)), none]) (st' := [.int (nI i)]) d_30_12 (fun _ => rfl) ?_
  refine cr_nx (pc' := 14) (al' := [some (.ref 83), some (.int (nI d)), some (.int (nI i)), none]) (st' := [.ref 83, .int (nI i)]) d_30_13 (fun _ => rfl) ?_
  refine cr_gf (v := .int (nI len)) d_30_14 cw_30 cf_4_26 (hS.i (a := 83) (by decide) (by decide)) (hS.s (a := 83) (by decide) (by decide) rfl) (by decide) hs.n ?_
  refine cn_cgt (t := 67) d_30_17 (by decide) (by first | omega | assumption | exact cu_36 (by omega) (cu_lt (by omega) (by omega))) (by first | omega | assumption | exact cu_36 (by omega) (cu_lt (by omega) (by omega))) (fun c17 => ?_) (fun c17 => ?_)
  · omega
  · refine cr_nx (pc' := 21) (al' := [some (.ref 83), some (.int (nI d)), some (.int (nI i)), none]) (st' := [.ref 83]) d_30_20 (fun _ => rfl) ?_
    refine cr_gf (v := .int (nI (kjN t len s.1))) d_30_21 cw_30 cf_4_48 (hS.i (a := 83) (by decide) (by decide)) (hS.s (a := 83) (by decide) (by decide) rfl) (by decide) hs.k ?_
    refine cn_ic (v := 4) d_30_24 (by decide) ?_
    refine cn_clt (t := 67) d_30_25 (by decide) (by first | omega | assumption | exact cu_36 (by omega) (cu_lt (by omega) (by omega))) (by first | omega | assumption | exact cu_36 (by omega) (cu_lt (by omega) (by omega))) (fun c25 => ?_) (fun c25 => ?_)
    · refine cn_ic (v := 1) d_30_67 (by decide) ?_
      exact cr_ri d_30_68 cx_30 (by decide) ⟨bI_tt, rfl, rfl, rfl, Gf83.rf, Bfr.rf, fun _ => hs, fun q => absurd (show true = false from q) (by decide)⟩
    · refine cr_nx (pc' := 29) (al' := [some (.ref 83), some (.int (nI d)), some (.int (nI i)), none]) (st' := [.ref 83]) d_30_28 (fun _ => rfl) ?_
      refine cr_gf (v := .int (nI (kjN t len s.1))) d_30_29 cw_30 cf_4_48 (hS.i (a := 83) (by decide) (by decide)) (hS.s (a := 83) (by decide) (by decide) rfl) (by decide) hs.k ?_
      refine cn_bp (v := 6) d_30_32 (by decide) ?_
      refine cn_cgt (t := 67) d_30_34 (by decide) (by first | omega | assumption | exact cu_36 (by omega) (cu_lt (by omega) (by omega))) (by first | omega | assumption | exact cu_36 (by omega) (cu_lt (by omega) (by omega))) (fun c34 => ?_) (fun c34 => ?_)
      · refine cn_ic (v := 1) d_30_67 (by decide) ?_
        exact cr_ri d_30_68 cx_30 (by decide) ⟨bI_tt, rfl, rfl, rfl, Gf83.rf, Bfr.rf, fun _ => hs, fun q => absurd (show true = false from q) (by decide)⟩
      · exact absurd (j5.mp (by omega)) hop
theorem k_rt12_oz {S : CS} {G : Nat → Nat → Value} {B : Nat → Nat → Int32} {J : Nat → Nat → Int64} {R : Nat → Nat → Option Nat} {Q : CQ} (hS : ShOk S) {t : Nat → Nat} {len : Nat} {s : LSt} (hs : RdS t len G B s) {k : Nat} {r : Bool × LSt} {d i : Nat} (hi : i ≤ len) (hop : isOp (tkC t len s.1) = true) (ihx : ∀ G1 B1, RdS t len G1 B1 (s.1 + 1, s.2.1, s.2.2) → CR (k + 1) 31 0 [some (.ref 83), some (.int (nI d))] [] S G1 B1 J R (RdKz t len S G1 B1 J R r)) (hl : r.1 = true → r.2.2.2.length < 64) (hk : r.1 = true → ∀ G1 B1, Gf83 G G1 → Bfr [85] B B1 → RdS t len G1 B1 (r.2.1, r.2.2.1, r.2.2.2 ++ [opN (tkC t len s.1)]) → CR (k + 1 + 1) 30 12 [some (.ref 83), some (.int (nI d)), some (.int (nI (i + 1))), none] [] S G1 B1 J R Q) (hf : r.1 = false → ∀ G1 B1, Gf83 G G1 → Bfr [85] B B1 → G1 83 2 = .int (nI (tkP t len r.2.1)) → Q (some (.int (nI 0))) S G1 B1 J R) : CR (k + 1 + 1) 30 12 [some (.ref 83), some (.int (nI d)), some (.int (nI i)), none] [] S G B J R Q := by
  obtain ⟨j1, j2, j3, j4, j5, j6, j7, j8, j9, j10, j11⟩ := kj_all t len s.1
  have hm4 := hs.m
  refine cr_nx (pc' := 13) (al' := [some (.ref 83), some (.int (nI d)), some (.int (nI i)), none]) (st' := [.int (nI i)]) d_30_12 (fun _ => rfl) ?_
  refine cr_nx (pc' := 14) (al' := [some (.ref 83), some (.int (nI d)), some (.int (nI i)), none]) (st' := [.ref 83, .int (nI i)]) d_30_13 (fun _ => rfl) ?_
  refine cr_gf (v := .int (nI len)) d_30_14 cw_30 cf_4_26 (hS.i (a := 83) (by decide) (by decide)) (hS.s (a := 83) (by decide) (by decide) rfl) (by decide) hs.n ?_
  refine cn_cgt (t := 67) d_30_17 (by decide) (by first | omega | assumption | exact cu_36 (by omega) (cu_lt (by omega) (by omega))) (by first | omega | assumption | exact cu_36 (by omega) (cu_lt (by omega) (by omega))) (fun c17 => ?_) (fun c17 => ?_)
  · omega
  · refine cr_nx (pc' := 21) (al' := [some (.ref 83), some (.int (nI d)), some (.int (nI i)), none]) (st' := [.ref 83]) d_30_20 (fun _ => rfl) ?_
    refine cr_gf (v := .int (nI (kjN t len s.1))) d_30_21 cw_30 cf_4_48 (hS.i (a := 83) (by decide) (by decide)) (hS.s (a := 83) (by decide) (by decide) rfl) (by decide) hs.k ?_
    refine cn_ic (v := 4) d_30_24 (by decide) ?_
    refine cn_clt (t := 67) d_30_25 (by decide) (by first | omega | assumption | exact cu_36 (by omega) (cu_lt (by omega) (by omega))) (by first | omega | assumption | exact cu_36 (by omega) (cu_lt (by omega) (by omega))) (fun c25 => ?_) (fun c25 => ?_)
    · exact absurd (j5.mpr hop) (by omega)
    · refine cr_nx (pc' := 29) (al' := [some (.ref 83), some (.int (nI d)), some (.int (nI i)), none]) (st' := [.ref 83]) d_30_28 (fun _ => rfl) ?_
      refine cr_gf (v := .int (nI (kjN t len s.1))) d_30_29 cw_30 cf_4_48 (hS.i (a := 83) (by decide) (by decide)) (hS.s (a := 83) (by decide) (by decide) rfl) (by decide) hs.k ?_
      refine cn_bp (v := 6) d_30_32 (by decide) ?_
      refine cn_cgt (t := 67) d_30_34 (by decide) (by first | omega | assumption | exact cu_36 (by omega) (cu_lt (by omega) (by omega))) (by first | omega | assumption | exact cu_36 (by omega) (cu_lt (by omega) (by omega))) (fun c34 => ?_) (fun c34 => ?_)
      · exact absurd (j5.mpr hop) (by omega)
      · refine cr_nx (pc' := 38) (al' := [some (.ref 83), some (.int (nI d)), some (.int (nI i)), none]) (st' := [.ref 83]) d_30_37 (fun _ => rfl) ?_
        refine cr_gf (v := .int (nI (kjN t len s.1))) d_30_38 cw_30 cf_4_48 (hS.i (a := 83) (by decide) (by decide)) (hS.s (a := 83) (by decide) (by decide) rfl) (by decide) hs.k ?_
        refine cr_nx (pc' := 42) (al' := [some (.ref 83), some (.int (nI d)), some (.int (nI i)), some (.int (nI (kjN t len s.1)))]) (st' := []) d_30_41 (fun _ => rfl) ?_
        refine cr_nx (pc' := 43) (al' := [some (.ref 83), some (.int (nI d)), some (.int (nI i)), some (.int (nI (kjN t len s.1)))]) (st' := [.ref 83]) d_30_42 (fun _ => rfl) ?_
        refine cr_cv (b := 83) (as := []) (al0 := [some (.ref 83), none]) (r := []) d_30_43 cw_30 cm_4_41 cz_26 rfl rfl (hS.i (a := 83) (by decide) (by decide)) (by rw [cw_26]; exact (hS.s (a := 83) (by decide) (by decide) rfl)) (by rw [cw_26]; decide) rfl (cr_wk (by omega) (k_goOnSz hS hs (by have := op_0 hop; omega) (by have := op_0 hop; omega))) (fun v1 S1 G43 B43 J1 R1 h1 => ?_)
        obtain ⟨q0_, q1_, q2_, q3_, gf43, bf43, hs43⟩ := h1
        obtain rfl := q0_
        obtain rfl := q1_.symm
        obtain rfl := q2_.symm
        obtain rfl := q3_.symm
        show CR _ _ 46 [some (.ref 83), some (.int (nI d)), some (.int (nI i)), some (.int (nI (kjN t len s.1)))] [] S G43 B43 J R _
        refine cr_nx (pc' := 47) (al' := [some (.ref 83), some (.int (nI d)), some (.int (nI i)), some (.int (nI (kjN t len s.1)))]) (st' := [.ref 83]) d_30_46 (fun _ => rfl) ?_
        refine cr_nx (pc' := 48) (al' := [some (.ref 83), some (.int (nI d)), some (.int (nI i)), some (.int (nI (kjN t len s.1)))]) (st' := [.int (nI d), .ref 83]) d_30_47 (fun _ => rfl) ?_
        refine cr_cv (b := 83) (as := [.int (nI d)]) (al0 := [some (.ref 83), some (.int (nI d))]) (r := []) d_30_48 cw_30 cm_4_73 cz_31 rfl rfl (hS.i (a := 83) (by decide) (by decide)) (by rw [cw_31]; exact (hS.s (a := 83) (by decide) (by decide) rfl)) (by rw [cw_31]; decide) rfl (cr_wk (Nat.le_refl _) (ihx G43 B43 hs43)) (fun v1 S1 G48 B48 J1 R1 h1 => ?_)
        obtain ⟨q0_, q1_, q2_, q3_, gf48, bf48, hs48⟩ := h1
        obtain rfl := q0_
        obtain rfl := q1_.symm
        obtain rfl := q2_.symm
        obtain rfl := q3_.symm
        show CR _ _ 51 [some (.ref 83), some (.int (nI d)), some (.int (nI i)), some (.int (nI (kjN t len s.1)))] [.int (bI (r.1 = true))] S G48 B48 J R _
        refine cr_bne (t := 56) d_30_51 (by decide) (fun c51 => ?_) (fun c51 => ?_)
        · refine cr_nx (pc' := 57) (al' := [some (.ref 83), some (.int (nI d)), some (.int (nI i)), some (.int (nI (kjN t len s.1)))]) (st' := [.ref 83]) d_30_56 (fun _ => rfl) ?_
          refine cr_nx (pc' := 58) (al' := [some (.ref 83), some (.int (nI d)), some (.int (nI i)), some (.int (nI (kjN t len s.1)))]) (st' := [.int (nI (kjN t len s.1)), .ref 83]) d_30_57 (fun _ => rfl) ?_
          refine cr_cv (b := 83) (as := [.int (nI (kjN t len s.1))]) (al0 := [some (.ref 83), some (.int (nI (kjN t len s.1)))]) (r := []) d_30_58 cw_30 cm_4_69 cz_32 rfl rfl (hS.i (a := 83) (by decide) (by decide)) (by rw [cw_32]; exact (hS.s (a := 83) (by decide) (by decide) rfl)) (by rw [cw_32]; decide) rfl (cr_wk (by omega) (k_emitSz hS (hs48.1 c51) (hl c51) (by have := j5.mpr hop; omega))) (fun v1 S1 G58 B58 J1 R1 h1 => ?_)
          obtain ⟨q0_, q1_, q2_, q3_, gf58, bf58, hs58⟩ := h1
          obtain rfl := q0_
          obtain rfl := q1_.symm
          obtain rfl := q2_.symm
          obtain rfl := q3_.symm
          show CR _ _ 61 [some (.ref 83), some (.int (nI d)), some (.int (nI i)), some (.int (nI (kjN t len s.1)))] [] S G58 B58 J R _
          refine cn_inc d_30_61 rfl rfl ?_
          show CR _ _ 64 [some (.ref 83), some (.int (nI d)), some (.int (nI (i + 1))), some (.int (nI (kjN t len s.1)))] [] S G58 B58 J R _
          refine cr_nx (pc' := 12) (al' := [some (.ref 83), some (.int (nI d)), some (.int (nI (i + 1))), some (.int (nI (kjN t len s.1)))]) (st' := []) d_30_64 (fun _ => rfl) ?_
          refine cr_dr (al1 := [some (.ref 83), some (.int (nI d)), some (.int (nI (i + 1))), none]) (le_s (le_s (le_s (le_d rfl (le_n))))) ?_
          rw [j6 hop] at hs58
          exact hk c51 G58 B58 ((gf43.tr gf48).tr gf58) ((bf43.tr bf48).tr bf58) hs58
        · refine cn_ic (v := 0) d_30_54 (by decide) ?_
          exact cr_ri d_30_55 cx_30 (by decide) (hf (by simpa using c51) G48 B48 (gf43.tr gf48) (bf43.tr bf48) (hs48.2 (by simpa using c51)))
theorem k_rt_loopz {t : Nat → Nat} {len F e : Nat} (hP : PtKz t len F e) : ∀ (f i : Nat) {S : CS} {G : Nat → Nat → Value} {B : Nat → Nat → Int32} {J : Nat → Nat → Int64} {R : Nat → Nat → Option Nat} {s : LSt}, ShOk S → RdS t len G B s → s.1 ≤ tkN t len → s.2.1 ≤ 32 → s.2.2.length ≤ 2 * s.2.1 → tkN t len < s.1 + f → i ≤ s.1 → CR (2 * e + 4) 30 12 [some (.ref 83), some (.int (nI (8 - e))), some (.int (nI i)), none] [] S G B J R (RdKz t len S G B J R (rst (tkC t len) (prt (tkC t len) F e) f s))
  | 0, i, S, G, B, J, R, s, hS, hs, h1, h2, hw, h3, hi => by omega
  | f + 1, i, S, G, B, J, R, s, hS, hs, h1, h2, hw, h3, hi => by
    have hE := tkC_E t len
    have hN := (tkN_f (t := t) (len := len)).1
    by_cases hop : isOp (tkC t len s.1) = true
    · have hlt := cd_in hE h1 (by have := op_0 hop; omega)
      rw [rst_s hop]
      have hok := prt_ok (F := F) hE e (s.1 + 1, s.2.1, s.2.2) (by show s.1 + 1 ≤ _; omega) h2
      rcases hr : prt (tkC t len) F e (s.1 + 1, s.2.1, s.2.2) with ⟨b, u⟩
      rw [hr] at hok
      obtain ⟨o1, o2, o3, o4, o5, o6⟩ := hok
      dsimp only at o1 o2 o3 o4 o5 o6
      refine k_rt12_oz (k := 2 * e + 2) (r := (b, u)) hS hs (by omega) hop (fun G1 B1 h => ?_) (fun q => ?_) (fun q G1 B1 hg hb h => ?_) (fun q G1 B1 hg hb h => ?_)
      · rw [← hr]
        exact hP hS h (by show s.1 + 1 ≤ _; omega) h2 hw
      · have := o6 q
        dsimp only
        omega
      · have q : b = true := q
        subst q
        have o3 := o3 rfl
        have o6 := o6 rfl
        exact cr_cq (k_rt_loopz hP f (i + 1) (s := (u.1, u.2.1, u.2.2 ++ [opN (tkC t len s.1)])) hS h o2 o5 (by dsimp only; rw [List.length_append]; simp only [List.length_singleton]; omega) (by dsimp only; omega) (by dsimp only; omega)) (fun r S' G' B' J' R' h => RdPz.tr hg hb h)
      · have q : b = false := q
        subst q
        exact ⟨bI_ff, rfl, rfl, rfl, hg, hb, fun q => absurd (show false = true from q) (by decide), fun _ => h⟩
    · rw [rst_n hop]
      exact cr_wk (Nat.zero_le _) (k_rt12_nz hS hs (by omega) hop)
theorem k_readTermz {t : Nat → Nat} {len F e : Nat} (hF : tkN t len < F) (hP : PtKz t len F e) : TmKz t len F e := by
  intro S G B J R s hS hs h1 h2 hw
  have hE := tkC_E t len
  have hok := prt_ok (F := F) hE e s h1 h2
  have hrun := hP (J := J) (R := R) hS hs h1 h2 hw
  unfold trm
  rcases hr : prt (tkC t len) F e s with ⟨b, u⟩
  rw [hr] at hok hrun
  obtain ⟨o1, o2, o3, o4, o5, o6⟩ := hok
  dsimp only at o1 o2 o3 o4 o5 o6
  refine k_rt_0z (k := 2 * e + 2) (r := (b, u)) hS hs hrun (fun q G1 B1 hg hb h => ?_) (fun q G1 B1 hg hb h => ?_)
  · have q : b = true := q
    subst q
    have o6 := o6 rfl
    exact cr_cq (k_rt_loopz hP F 0 (s := u) hS h o2 o5 (by omega) (by omega) (Nat.zero_le _)) (fun r S' G' B' J' R' h => RdPz.tr hg hb h)
  · have q : b = false := q
    subst q
    exact ⟨bI_ff, rfl, rfl, rfl, hg, hb, fun q => absurd (show false = true from q) (by decide), fun _ => h⟩
theorem k_readsz {t : Nat → Nat} {len F : Nat} (hF : tkN t len < F) : ∀ e, e ≤ 8 → PtKz t len F e ∧ TmKz t len F e
  | 0, _ => ⟨k_readPart_0z, k_readTermz hF k_readPart_0z⟩
  | e + 1, he => by
    have h : PtKz t len F (e + 1) := k_readPart_sz (show e < 8 by omega) (k_readsz hF e (by omega)).2
    exact ⟨h, k_readTermz hF h⟩
theorem k_eqwz {S : CS} {G : Nat → Nat → Value} {B : Nat → Nat → Int32} {J : Nat → Nat → Int64} {R : Nat → Nat → Option Nat} (hS : ShOk S) {t : Nat → Nat} {len : Nat} {s : LSt} (hs : RdS t len G B s) {k : Nat} {r r2 : Bool × LSt} (ihx : CR (k + 1) 30 0 [some (.ref 83), some (.int (nI 0)), none, none] [] S G B J R (RdKz t len S G B J R r)) (ihy : r.1 = true → tkC t len r.2.1 = 161 → ∀ G1 B1, RdS t len G1 B1 (r.2.1 + 1, r.2.2.1, r.2.2.2) → CR (k + 1) 30 0 [some (.ref 83), some (.int (nI 0)), none, none] [] S G1 B1 J R (RdKz t len S G1 B1 J R r2)) (hl : r.1 = true → tkC t len r.2.1 = 161 → r2.1 = true → r2.2.2.2.length < 64) : CR (k + 1 + 1) 29 0 [some (.ref 83)] [] S G B J R (RdKz t len S G B J R (if r.1 = true ∧ tkC t len r.2.1 = 161 then (if r2.1 = true then (true, r2.2.1, r2.2.2.1, r2.2.2.2 ++ [7]) else (false, r2.2)) else (false, r.2))) := by
  obtain ⟨j1, j2, j3, j4, j5, j6, j7, j8, j9, j10, j11⟩ := kj_all t len s.1
  have hm4 := hs.m
  refine cr_nx (pc' := 1) (al' := [some (.ref 83)]) (st' := [.ref 83]) d_29_0 (fun _ => rfl) ?_
  refine cn_ic (v := 0) d_29_1 (by decide) ?_
  refine cr_cv (b := 83) (as := [.int (nI 0)]) (al0 := [some (.ref 83), some (.int (nI 0)), none, none]) (r := []) d_29_2 cw_29 cm_4_65 cz_30 rfl rfl (hS.i (a := 83) (by decide) (by decide)) (by rw [cw_30]; exact (hS.s (a := 83) (by decide) (by decide) rfl)) (by rw [cw_30]; decide) rfl (cr_wk (Nat.le_refl _) (ihx)) (fun v1 S1 G2 B2 J1 R1 h1 => ?_)
  obtain ⟨q0_, q1_, q2_, q3_, gf2, bf2, hs2⟩ := h1
  obtain rfl := q0_
  obtain rfl := q1_.symm
  obtain rfl := q2_.symm
  obtain rfl := q3_.symm
  show CR _ _ 5 [some (.ref 83)] [.int (bI (r.1 = true))] S G2 B2 J R _
  refine cr_beq (t := 17) d_29_5 (by decide) (fun c5 => ?_) (fun c5 => ?_)
  · refine cn_ic (v := 0) d_29_17 (by decide) ?_
    exact cr_ri d_29_18 cx_29 (by decide) (by rw [if_neg (fun q => c5 q.1)]; exact ⟨bI_ff, rfl, rfl, rfl, gf2, bf2, fun q => absurd (show false = true from q) (by decide), fun _ => hs2.2 (by simpa using c5)⟩)
  · refine cr_nx (pc' := 9) (al' := [some (.ref 83)]) (st' := [.ref 83]) d_29_8 (fun _ => rfl) ?_
    refine cr_gf (v := .int (nI (kjN t len r.2.1))) d_29_9 cw_29 cf_4_48 (hS.i (a := 83) (by decide) (by decide)) (hS.s (a := 83) (by decide) (by decide) rfl) (by decide) (hs2.1 c5).k ?_
    refine cn_bp (v := 7) d_29_12 (by decide) ?_
    refine cn_ceq (t := 19) d_29_14 (by decide) (by have := (kj_all t len r.2.1).2.2.2.2.2.2.2.2.2.2; omega) (by omega) (fun c14 => ?_) (fun c14 => ?_)
    · refine cr_nx (pc' := 20) (al' := [some (.ref 83)]) (st' := [.ref 83]) d_29_19 (fun _ => rfl) ?_
      refine cr_cv (b := 83) (as := []) (al0 := [some (.ref 83), none]) (r := []) d_29_20 cw_29 cm_4_41 cz_26 rfl rfl (hS.i (a := 83) (by decide) (by decide)) (by rw [cw_26]; exact (hS.s (a := 83) (by decide) (by decide) rfl)) (by rw [cw_26]; decide) rfl (cr_wk (by omega) (k_goOnSz hS (hs2.1 c5) (by have := (kj_all t len r.2.1).2.2.2.2.2.2.1.mp c14; omega) (by have := (kj_all t len r.2.1).2.2.2.2.2.2.1.mp c14; omega))) (fun v1 S1 G20 B20 J1 R1 h1 => ?_)
      obtain ⟨q0_, q1_, q2_, q3_, gf20, bf20, hs20⟩ := h1
      obtain rfl := q0_
      obtain rfl := q1_.symm
      obtain rfl := q2_.symm
      obtain rfl := q3_.symm
      show CR _ _ 23 [some (.ref 83)] [] S G20 B20 J R _
      refine cr_nx (pc' := 24) (al' := [some (.ref 83)]) (st' := [.ref 83]) d_29_23 (fun _ => rfl) ?_
      refine cn_ic (v := 0) d_29_24 (by decide) ?_
      refine cr_cv (b := 83) (as := [.int (nI 0)]) (al0 := [some (.ref 83), some (.int (nI 0)), none, none]) (r := []) d_29_25 cw_29 cm_4_65 cz_30 rfl rfl (hS.i (a := 83) (by decide) (by decide)) (by rw [cw_30]; exact (hS.s (a := 83) (by decide) (by decide) rfl)) (by rw [cw_30]; decide) rfl (cr_wk (Nat.le_refl _) (ihy c5 ((kj_all t len r.2.1).2.2.2.2.2.2.1.mp c14) G20 B20 hs20)) (fun v1 S1 G25 B25 J1 R1 h1 => ?_)
      obtain ⟨q0_, q1_, q2_, q3_, gf25, bf25, hs25⟩ := h1
      obtain rfl := q0_
      obtain rfl := q1_.symm
      obtain rfl := q2_.symm
      obtain rfl := q3_.symm
      show CR _ _ 28 [some (.ref 83)] [.int (bI (r2.1 = true))] S G25 B25 J R _
      refine cr_bne (t := 33) d_29_28 (by decide) (fun c28 => ?_) (fun c28 => ?_)
      · refine cr_nx (pc' := 34) (al' := [some (.ref 83)]) (st' := [.ref 83]) d_29_33 (fun _ => rfl) ?_
        refine cn_bp (v := 7) d_29_34 (by decide) ?_
        refine cr_cv (b := 83) (as := [.int (nI 7)]) (al0 := [some (.ref 83), some (.int (nI 7))]) (r := []) d_29_36 cw_29 cm_4_69 cz_32 rfl rfl (hS.i (a := 83) (by decide) (by decide)) (by rw [cw_32]; exact (hS.s (a := 83) (by decide) (by decide) rfl)) (by rw [cw_32]; decide) rfl (cr_wk (by omega) (k_emitSz hS (hs25.1 c28) (hl c5 ((kj_all t len r.2.1).2.2.2.2.2.2.1.mp c14) c28) (by decide))) (fun v1 S1 G36 B36 J1 R1 h1 => ?_)
        obtain ⟨q0_, q1_, q2_, q3_, gf36, bf36, hs36⟩ := h1
        obtain rfl := q0_
        obtain rfl := q1_.symm
        obtain rfl := q2_.symm
        obtain rfl := q3_.symm
        show CR _ _ 39 [some (.ref 83)] [] S G36 B36 J R _
        refine cn_ic (v := 1) d_29_39 (by decide) ?_
        exact cr_ri d_29_40 cx_29 (by decide) (by rw [if_pos ⟨c5, (kj_all t len r.2.1).2.2.2.2.2.2.1.mp c14⟩, if_pos c28]; exact ⟨bI_tt, rfl, rfl, rfl, ((gf2.tr gf20).tr gf25).tr gf36, ((bf2.tr bf20).tr bf25).tr bf36, fun _ => hs36, fun q => absurd (show true = false from q) (by decide)⟩)
      · refine cn_ic (v := 0) d_29_31 (by decide) ?_
        exact cr_ri d_29_32 cx_29 (by decide) (by rw [if_pos ⟨c5, (kj_all t len r.2.1).2.2.2.2.2.2.1.mp c14⟩, if_neg c28]; exact ⟨bI_ff, rfl, rfl, rfl, (gf2.tr gf20).tr gf25, (bf2.tr bf20).tr bf25, fun q => absurd (show false = true from q) (by decide), fun _ => hs25.2 (by simpa using c28)⟩)
    · refine cn_ic (v := 0) d_29_17 (by decide) ?_
      exact cr_ri d_29_18 cx_29 (by decide) (by rw [if_neg (fun q => c14 ((kj_all t len r.2.1).2.2.2.2.2.2.1.mpr q.2))]; exact ⟨bI_ff, rfl, rfl, rfl, gf2, bf2, fun q => absurd (show false = true from q) (by decide), fun _ => (hs2.1 c5).p⟩)
def EqKz (t : Nat → Nat) (len F : Nat) : Prop := ∀ {S : CS} {G : Nat → Nat → Value} {B : Nat → Nat → Int32} {J : Nat → Nat → Int64} {R : Nat → Nat → Option Nat} {s : LSt}, ShOk S → RdS t len G B s → s.1 ≤ tkN t len → s.2.1 ≤ 32 → s.2.2.length ≤ 2 * s.2.1 → CR 21 29 0 [some (.ref 83)] [] S G B J R (RdKz t len S G B J R (eqn (tkC t len) F s))
theorem k_readEquationz {t : Nat → Nat} {len F : Nat} (hF : tkN t len < F) : EqKz t len F := by
  intro S G B J R s hS hs h1 h2 hw
  have hE := tkC_E t len
  have hT : TmKz t len F 8 := (k_readsz hF 8 (Nat.le_refl 8)).2
  have hok := tr8_ok (F := F) (e := 8) hE s h1 h2
  have hrun := hT (J := J) (R := R) hS hs h1 h2 hw
  obtain ⟨r, hr⟩ : ∃ r, trm (tkC t len) F (prt (tkC t len) F 8) s = r := ⟨_, rfl⟩
  obtain ⟨r2, hr2⟩ : ∃ r2, trm (tkC t len) F (prt (tkC t len) F 8) (r.2.1 + 1, r.2.2.1, r.2.2.2) = r2 := ⟨_, rfl⟩
  rw [eqn_w hr hr2]
  rw [hr] at hok hrun
  obtain ⟨o1, o2, o3, o4, o5, o6⟩ := hok
  refine k_eqwz (k := 19) hS hs hrun (fun q c G1 B1 h => ?_) (fun q c q2 => ?_)
  · have hlt := cd_in hE o2 (by omega)
    have o6 := o6 q
    rw [← hr2]
    exact hT hS h (by show r.2.1 + 1 ≤ _; omega) o5 (by dsimp only; omega)
  · have hlt := cd_in hE o2 (by omega)
    have o6 := o6 q
    have hok2 := tr8_ok (F := F) (e := 8) hE (r.2.1 + 1, r.2.2.1, r.2.2.2) (by show r.2.1 + 1 ≤ _; omega) o5
    rw [hr2] at hok2
    obtain ⟨p1, p2, p3, p4, p5, p6⟩ := hok2
    have p6 := p6 q2
    dsimp only at p6
    omega
theorem k_sd2z {S : CS} {G : Nat → Nat → Value} {B : Nat → Nat → Int32} {J : Nat → Nat → Int64} {R : Nat → Nat → Option Nat} {Q : CQ} (hS : ShOk S) {t : Nat → Nat} {len : Nat} {s : LSt} (hs : RdS t len G B s) {k : Nat} {r : Bool × LSt} {i : Nat} (hi : i ≤ len) (ihx : CR (k + 1) 29 0 [some (.ref 83)] [] S G B J R (RdKz t len S G B J R r)) (hk : r.1 = true → tkC t len r.2.1 = 144 → ∀ G1 B1, Gf83 G G1 → Bfr [85] B B1 → RdS t len G1 B1 (r.2.1 + 1, r.2.2.1, r.2.2.2) → CR (k + 1 + 1) 28 2 [some (.ref 83), some (.int (nI (i + 1)))] [] S G1 B1 J R Q) (hn : r.1 = true → ¬ tkC t len r.2.1 = 144 → ∀ G1 B1, Gf83 G G1 → Bfr [85] B B1 → RdS t len G1 B1 r.2 → Q (some (.int (nI 1))) S G1 B1 J R) (hf : r.1 = false → ∀ G1 B1, Gf83 G G1 → Bfr [85] B B1 → G1 83 2 = .int (nI (tkP t len r.2.1)) → Q (some (.int (nI 0))) S G1 B1 J R) : CR (k + 1 + 1) 28 2 [some (.ref 83), some (.int (nI i))] [] S G B J R Q := by
  obtain ⟨j1, j2, j3, j4, j5, j6, j7, j8, j9, j10, j11⟩ := kj_all t len s.1
  have hm4 := hs.m
  refine cr_nx (pc' := 3) (al' := [some (.ref 83), some (.int (nI i))]) (st' := [.int (nI i)]) d_28_2 (fun _ => rfl) ?_
  refine cr_nx (pc' := 4) (al' := [some (.ref 83), some (.int (nI i))]) (st' := [.ref 83, .int (nI i)]) d_28_3 (fun _ => rfl) ?_
  refine cr_gf (v := .int (nI len)) d_28_4 cw_28 cf_4_26 (hS.i (a := 83) (by decide) (by decide)) (hS.s (a := 83) (by decide) (by decide) rfl) (by decide) hs.n ?_
  refine cn_cgt (t := 40) d_28_7 (by decide) (by first | omega | assumption | exact cu_36 (by omega) (cu_lt (by omega) (by omega))) (by first | omega | assumption | exact cu_36 (by omega) (cu_lt (by omega) (by omega))) (fun c7 => ?_) (fun c7 => ?_)
  · omega
  · refine cr_nx (pc' := 11) (al' := [some (.ref 83), some (.int (nI i))]) (st' := [.ref 83]) d_28_10 (fun _ => rfl) ?_
    refine cr_cv (b := 83) (as := []) (al0 := [some (.ref 83)]) (r := []) d_28_11 cw_28 cm_4_62 cz_29 rfl rfl (hS.i (a := 83) (by decide) (by decide)) (by rw [cw_29]; exact (hS.s (a := 83) (by decide) (by decide) rfl)) (by rw [cw_29]; decide) rfl (cr_wk (Nat.le_refl _) (ihx)) (fun v1 S1 G11 B11 J1 R1 h1 => ?_)
    obtain ⟨q0_, q1_, q2_, q3_, gf11, bf11, hs11⟩ := h1
    obtain rfl := q0_
    obtain rfl := q1_.symm
    obtain rfl := q2_.symm
    obtain rfl := q3_.symm
    show CR _ _ 14 [some (.ref 83), some (.int (nI i))] [.int (bI (r.1 = true))] S G11 B11 J R _
    refine cr_bne (t := 19) d_28_14 (by decide) (fun c14 => ?_) (fun c14 => ?_)
    · refine cr_nx (pc' := 20) (al' := [some (.ref 83), some (.int (nI i))]) (st' := [.ref 83]) d_28_19 (fun _ => rfl) ?_
      refine cr_gf (v := .int (nI (kjN t len r.2.1))) d_28_20 cw_28 cf_4_48 (hS.i (a := 83) (by decide) (by decide)) (hS.s (a := 83) (by decide) (by decide) rfl) (by decide) (hs11.1 c14).k ?_
      refine cn_bp (v := 8) d_28_23 (by decide) ?_
      refine cn_ceq (t := 30) d_28_25 (by decide) (by have := (kj_all t len r.2.1).2.2.2.2.2.2.2.2.2.2; omega) (by omega) (fun c25 => ?_) (fun c25 => ?_)
      · refine cr_nx (pc' := 31) (al' := [some (.ref 83), some (.int (nI i))]) (st' := [.ref 83]) d_28_30 (fun _ => rfl) ?_
        refine cr_cv (b := 83) (as := []) (al0 := [some (.ref 83), none]) (r := []) d_28_31 cw_28 cm_4_41 cz_26 rfl rfl (hS.i (a := 83) (by decide) (by decide)) (by rw [cw_26]; exact (hS.s (a := 83) (by decide) (by decide) rfl)) (by rw [cw_26]; decide) rfl (cr_wk (by omega) (k_goOnSz hS (hs11.1 c14) (by have := (kj_all t len r.2.1).2.2.2.2.2.2.2.1.mp c25; omega) (by have := (kj_all t len r.2.1).2.2.2.2.2.2.2.1.mp c25; omega))) (fun v1 S1 G31 B31 J1 R1 h1 => ?_)
        obtain ⟨q0_, q1_, q2_, q3_, gf31, bf31, hs31⟩ := h1
        obtain rfl := q0_
        obtain rfl := q1_.symm
        obtain rfl := q2_.symm
        obtain rfl := q3_.symm
        show CR _ _ 34 [some (.ref 83), some (.int (nI i))] [] S G31 B31 J R _
        refine cn_inc d_28_34 rfl rfl ?_
        show CR _ _ 37 [some (.ref 83), some (.int (nI (i + 1)))] [] S G31 B31 J R _
        refine cr_nx (pc' := 2) (al' := [some (.ref 83), some (.int (nI (i + 1)))]) (st' := []) d_28_37 (fun _ => rfl) ?_
        exact hk c14 ((kj_all t len r.2.1).2.2.2.2.2.2.2.1.mp c25) G31 B31 (gf11.tr gf31) (bf11.tr bf31) hs31
      · refine cn_ic (v := 1) d_28_28 (by decide) ?_
        exact cr_ri d_28_29 cx_28 (by decide) (hn c14 (fun q => c25 ((kj_all t len r.2.1).2.2.2.2.2.2.2.1.mpr q)) G11 B11 gf11 bf11 (hs11.1 c14))
    · refine cn_ic (v := 0) d_28_17 (by decide) ?_
      exact cr_ri d_28_18 cx_28 (by decide) (hf (by simpa using c14) G11 B11 gf11 bf11 (hs11.2 (by simpa using c14)))
theorem k_sd_loopz {t : Nat → Nat} {len F : Nat} (hP : EqKz t len F) : ∀ (f i : Nat) {S : CS} {G : Nat → Nat → Value} {B : Nat → Nat → Int32} {J : Nat → Nat → Int64} {R : Nat → Nat → Option Nat} {s : LSt}, ShOk S → RdS t len G B s → s.1 ≤ tkN t len → s.2.1 ≤ 32 → s.2.2.length ≤ 2 * s.2.1 → tkN t len < s.1 + f → i ≤ s.1 → CR 22 28 2 [some (.ref 83), some (.int (nI i))] [] S G B J R (RdKz t len S G B J R (match eqn (tkC t len) F s with
    | (true, u) => sdR (tkC t len) F f u
    | (false, u) => (false, u)))
  | 0, i, S, G, B, J, R, s, hS, hs, h1, h2, hw, h3, hi => by omega
  | f + 1, i, S, G, B, J, R, s, hS, hs, h1, h2, hw, h3, hi => by
    have hE := tkC_E t len
    have hN := (tkN_f (t := t) (len := len)).1
    have hok := eqn_ok (F := F) hE s h1 h2
    have hrun := hP (J := J) (R := R) hS hs h1 h2 hw
    rcases hr : eqn (tkC t len) F s with ⟨b, u⟩
    rw [hr] at hok hrun
    obtain ⟨o1, o2, o3, o4, o5, o6⟩ := hok
    dsimp only at o1 o2 o3 o4 o5 o6
    refine k_sd2z (k := 20) (r := (b, u)) hS hs (by omega) hrun (fun q c G1 B1 hg hb h => ?_) (fun q c G1 B1 hg hb h => ?_) (fun q G1 B1 hg hb h => ?_)
    · have q : b = true := q
      subst q
      have c : tkC t len u.1 = 144 := c
      have hlt := cd_in hE o2 (by omega)
      have o6 := o6 rfl
      have o3 := o3 rfl
      dsimp only
      rw [sdR_s c]
      exact cr_cq (k_sd_loopz hP f (i + 1) (s := (u.1 + 1, u.2.1, u.2.2)) hS h (by show u.1 + 1 ≤ _; omega) o5 (by dsimp only; omega) (by dsimp only; omega) (by dsimp only; omega)) (fun r S' G' B' J' R' h => RdPz.tr hg hb h)
    · have q : b = true := q
      subst q
      dsimp only
      rw [sdR_n c]
      exact ⟨bI_tt, rfl, rfl, rfl, hg, hb, fun _ => h, fun q => absurd (show true = false from q) (by decide)⟩
    · have q : b = false := q
      subst q
      exact ⟨bI_ff, rfl, rfl, rfl, hg, hb, fun q => absurd (show false = true from q) (by decide), fun _ => h⟩
theorem k_sd0z {S : CS} {G : Nat → Nat → Value} {B : Nat → Nat → Int32} {J : Nat → Nat → Int64} {R : Nat → Nat → Option Nat} {Q : CQ} {K : Nat} (hk : CR K 28 2 [some (.ref 83), some (.int (nI 0))] [] S G B J R Q) : CR K 28 0 [some (.ref 83), none] [] S G B J R Q := by
  refine cn_ic (v := 0) d_28_0 (by decide) ?_
  refine cr_nx (pc' := 2) (al' := [some (.ref 83), some (.int (nI 0))]) (st' := []) d_28_1 (fun _ => rfl) ?_
  exact hk
theorem k_readSidez {t : Nat → Nat} {len F : Nat} (hF : tkN t len < F) {S : CS} {G : Nat → Nat → Value} {B : Nat → Nat → Int32} {J : Nat → Nat → Int64} {R : Nat → Nat → Option Nat} {s : LSt} (hS : ShOk S) (hs : RdS t len G B s) (h1 : s.1 ≤ tkN t len) (h2 : s.2.1 ≤ 32) (hw : s.2.2.length ≤ 2 * s.2.1) : CR 22 28 0 [some (.ref 83), none] [] S G B J R (RdKz t len S G B J R (sid (tkC t len) F s)) := k_sd0z (k_sd_loopz (k_readEquationz hF) F 0 hS hs h1 h2 hw (by omega) (Nat.zero_le _))
theorem k_rl0z {S : CS} {G : Nat → Nat → Value} {B : Nat → Nat → Int32} {J : Nat → Nat → Int64} {R : Nat → Nat → Option Nat} {Q : CQ} {t : Nat → Nat} {len K : Nat} (hS : ShOk S) (h5 : G 83 5 = .ref 85) (hl4 : len ≤ 400) (hB : ∀ i, i < len → B 82 i = nI (t i) ∧ t i < 256) (hk : ∀ G1, Gf83 G G1 → RdS t len G1 B (0, 0, []) → CR (K + 1 + 1) 25 39 [some (.ref 83), some (.ref 82), some (.int (nI len)), none] [] S G1 B J R Q) : CR (K + 1 + 1) 25 0 [some (.ref 83), some (.ref 82), some (.int (nI len)), none] [] S G B J R Q := by
  refine cr_nx (pc' := 1) (al' := [some (.ref 83), some (.ref 82), some (.int (nI len)), none]) (st' := [.ref 83]) d_25_0 (fun _ => rfl) ?_
  refine cr_nx (pc' := 2) (al' := [some (.ref 83), some (.ref 82), some (.int (nI len)), none]) (st' := [.ref 82, .ref 83]) d_25_1 (fun _ => rfl) ?_
  refine cp_4_0  d_25_2 cw_25 cf_4_7 (hS.i (a := 83) (by decide) (by decide)) (hS.s (a := 83) (by decide) (by decide) rfl) (by decide) ?_
  refine cr_nx (pc' := 6) (al' := [some (.ref 83), some (.ref 82), some (.int (nI len)), none]) (st' := [.ref 83]) d_25_5 (fun _ => rfl) ?_
  refine cr_nx (pc' := 7) (al' := [some (.ref 83), some (.ref 82), some (.int (nI len)), none]) (st' := [.int (nI len), .ref 83]) d_25_6 (fun _ => rfl) ?_
  refine cr_nx (pc' := 8) (al' := [some (.ref 83), some (.ref 82), some (.int (nI len)), none]) (st' := [.ref 82, .int (nI len), .ref 83]) d_25_7 (fun _ => rfl) ?_
  refine cr_le d_25_8 (hS.i (a := 82) (by decide) (by decide)) (by decide) (by decide) (hS.s (a := 82) (by decide) (by decide) rfl) ?_
  refine cr_mn d_25_9 cw_25 cm_4_20 rfl ?_
  refine cr_tp (z := (nI len)) (if_neg (fun q => by have := (nI_ltI (by decide) (by omega)).mp q; omega)) ?_
  refine cp_4_1  d_25_12 cw_25 cf_4_26 (hS.i (a := 83) (by decide) (by decide)) (hS.s (a := 83) (by decide) (by decide) rfl) (by decide) ?_
  refine cr_nx (pc' := 16) (al' := [some (.ref 83), some (.ref 82), some (.int (nI len)), none]) (st' := [.ref 83]) d_25_15 (fun _ => rfl) ?_
  refine cn_ic (v := 0) d_25_16 (by decide) ?_
  refine cp_4_3  d_25_17 cw_25 cf_4_29 (hS.i (a := 83) (by decide) (by decide)) (hS.s (a := 83) (by decide) (by decide) rfl) (by decide) ?_
  refine cr_nx (pc' := 21) (al' := [some (.ref 83), some (.ref 82), some (.int (nI len)), none]) (st' := [.ref 83]) d_25_20 (fun _ => rfl) ?_
  refine cn_ic (v := 0) d_25_21 (by decide) ?_
  refine cp_4_6  d_25_22 cw_25 cf_4_32 (hS.i (a := 83) (by decide) (by decide)) (hS.s (a := 83) (by decide) (by decide) rfl) (by decide) ?_
  refine cr_nx (pc' := 26) (al' := [some (.ref 83), some (.ref 82), some (.int (nI len)), none]) (st' := [.ref 83]) d_25_25 (fun _ => rfl) ?_
  refine cn_ic (v := 0) d_25_26 (by decide) ?_
  refine cp_4_7  d_25_27 cw_25 cf_4_35 (hS.i (a := 83) (by decide) (by decide)) (hS.s (a := 83) (by decide) (by decide) rfl) (by decide) ?_
  refine cr_nx (pc' := 31) (al' := [some (.ref 83), some (.ref 82), some (.int (nI len)), none]) (st' := [.ref 83]) d_25_30 (fun _ => rfl) ?_
  refine cn_ic (v := 0) d_25_31 (by decide) ?_
  refine cp_4_8  d_25_32 cw_25 cf_4_38 (hS.i (a := 83) (by decide) (by decide)) (hS.s (a := 83) (by decide) (by decide) rfl) (by decide) ?_
  refine cr_nx (pc' := 36) (al' := [some (.ref 83), some (.ref 82), some (.int (nI len)), none]) (st' := [.ref 83]) d_25_35 (fun _ => rfl) ?_
  refine cr_pv (b := 83) (as := []) (al0 := [some (.ref 83), none]) (r := []) d_25_36 cw_25 cm_4_41 cz_26 rfl rfl (hS.i (a := 83) (by decide) (by decide)) (by rw [cw_26]; exact (hS.s (a := 83) (by decide) (by decide) rfl)) (by rw [cw_26]; decide) rfl (by omega) (k_goOn hS ⟨by simp [up2], by simp [up2], by simp [up2]; exact h5, hl4, hB⟩ (q := 0) (by simp [up2]) (Nat.zero_le _)) ?_
  show CR _ _ 39 [some (.ref 83), some (.ref 82), some (.int (nI len)), none] [] S (up2 (up2 (up2 (up2 (up2 (up2 (up2 (up2 (up2 G 83 0 (.ref 82)) 83 1 (.int (nI len))) 83 3 (.int (nI 0))) 83 6 (.int (nI 0))) 83 7 (.int (nI 0))) 83 8 (.int (nI 0))) 83 2 (.int (nI (skp t len 0)))) 83 3 (.int (nI (enC t len (skp t len 0))))) 83 4 (.int (nI (kdT t len (skp t len 0))))) B J R _
  refine hk _ ⟨fun b hb => by (have hb3 : b ≠ 83 := (by simpa using hb)); (funext k_); (simp [up2, hb3]), by simp [up2]⟩ ⟨⟨by simp [up2], by simp [up2], by simp [up2]; exact h5, hl4, hB⟩, ?_, ?_, ?_, ?_, ?_, ?_, fun i hi => absurd hi (Nat.not_lt_zero _)⟩
  all_goals simp [up2, tkP, kjN, usN]
theorem k_rl39z {S : CS} {G : Nat → Nat → Value} {B : Nat → Nat → Int32} {J : Nat → Nat → Int64} {R : Nat → Nat → Option Nat} {Q : CQ} {t : Nat → Nat} {len k : Nat} {r r2 : Bool × LSt} (hS : ShOk S) (ihx : CR (k + 1) 28 0 [some (.ref 83), none] [] S G B J R (RdKz t len S G B J R r)) (ihy : r.1 = true → tkC t len r.2.1 = 5 → ∀ G1 B1, RdS t len G1 B1 (r.2.1 + 1, r.2.2.1, r.2.2.2) → CR (k + 1) 28 0 [some (.ref 83), none] [] S G1 B1 J R (RdKz t len S G1 B1 J R r2)) (hkA : r.1 = true → ¬ tkC t len r.2.1 = 5 → ∀ G1 B1, Gf83 G G1 → Bfr [85] B B1 → RdS t len G1 B1 r.2 → CR (k + 1 + 1) 25 75 [some (.ref 83), some (.ref 82), some (.int (nI len)), some (.int (nI r.2.2.2.length))] [] S G1 B1 J R Q) (hkB : r.1 = true → tkC t len r.2.1 = 5 → r2.1 = true → ∀ G1 B1, Gf83 G G1 → Bfr [85] B B1 → RdS t len G1 B1 r2.2 → CR (k + 1 + 1) 25 75 [some (.ref 83), some (.ref 82), some (.int (nI len)), some (.int (nI r.2.2.2.length))] [] S G1 B1 J R Q) (hf1 : r.1 = false → ∀ G1 B1, Gf83 G G1 → Bfr [85] B B1 → G1 83 2 = .int (nI (tkP t len r.2.1)) → Q (some .null) S G1 B1 J R) (hf2 : r.1 = true → tkC t len r.2.1 = 5 → r2.1 = false → ∀ G1 B1, Gf83 G G1 → Bfr [85] B B1 → G1 83 2 = .int (nI (tkP t len r2.2.1)) → Q (some .null) S G1 B1 J R) : CR (k + 1 + 1) 25 39 [some (.ref 83), some (.ref 82), some (.int (nI len)), none] [] S G B J R Q := by
  refine cr_nx (pc' := 40) (al' := [some (.ref 83), some (.ref 82), some (.int (nI len)), none]) (st' := [.ref 83]) d_25_39 (fun _ => rfl) ?_
  refine cr_cv (b := 83) (as := []) (al0 := [some (.ref 83), none]) (r := []) d_25_40 cw_25 cm_4_44 cz_28 rfl rfl (hS.i (a := 83) (by decide) (by decide)) (by rw [cw_28]; exact (hS.s (a := 83) (by decide) (by decide) rfl)) (by rw [cw_28]; decide) rfl (cr_wk (Nat.le_refl _) (ihx)) (fun v1 S1 G40 B40 J1 R1 h1 => ?_)
  obtain ⟨q0_, q1_, q2_, q3_, gf40, bf40, hs40⟩ := h1
  obtain rfl := q0_
  obtain rfl := q1_.symm
  obtain rfl := q2_.symm
  obtain rfl := q3_.symm
  show CR _ _ 43 [some (.ref 83), some (.ref 82), some (.int (nI len)), none] [.int (bI (r.1 = true))] S G40 B40 J R _
  refine cr_bne (t := 48) d_25_43 (by decide) (fun c43 => ?_) (fun c43 => ?_)
  · refine cr_nx (pc' := 49) (al' := [some (.ref 83), some (.ref 82), some (.int (nI len)), none]) (st' := [.ref 83]) d_25_48 (fun _ => rfl) ?_
    refine cr_gf (v := .int (nI r.2.2.2.length)) d_25_49 cw_25 cf_4_32 (hS.i (a := 83) (by decide) (by decide)) (hS.s (a := 83) (by decide) (by decide) rfl) (by decide) (hs40.1 c43).z ?_
    refine cr_nx (pc' := 53) (al' := [some (.ref 83), some (.ref 82), some (.int (nI len)), some (.int (nI r.2.2.2.length))]) (st' := []) d_25_52 (fun _ => rfl) ?_
    refine cr_nx (pc' := 54) (al' := [some (.ref 83), some (.ref 82), some (.int (nI len)), some (.int (nI r.2.2.2.length))]) (st' := [.ref 83]) d_25_53 (fun _ => rfl) ?_
    refine cr_gf (v := .int (nI (kjN t len r.2.1))) d_25_54 cw_25 cf_4_48 (hS.i (a := 83) (by decide) (by decide)) (hS.s (a := 83) (by decide) (by decide) rfl) (by decide) (hs40.1 c43).k ?_
    refine cn_bp (v := 9) d_25_57 (by decide) ?_
    refine cn_cne (t := 75) d_25_59 (by decide) (by have := (kj_all t len r.2.1).2.2.2.2.2.2.2.2.2.2; omega) (by omega) (fun c59 => ?_) (fun c59 => ?_)
    · exact hkA c43 (fun q => c59 ((kj_all t len r.2.1).2.2.2.2.2.2.2.2.1.mpr q)) G40 B40 gf40 bf40 (hs40.1 c43)
    · refine cr_nx (pc' := 63) (al' := [some (.ref 83), some (.ref 82), some (.int (nI len)), some (.int (nI r.2.2.2.length))]) (st' := [.ref 83]) d_25_62 (fun _ => rfl) ?_
      refine cr_cv (b := 83) (as := []) (al0 := [some (.ref 83), none]) (r := []) d_25_63 cw_25 cm_4_41 cz_26 rfl rfl (hS.i (a := 83) (by decide) (by decide)) (by rw [cw_26]; exact (hS.s (a := 83) (by decide) (by decide) rfl)) (by rw [cw_26]; decide) rfl (cr_wk (by omega) (k_goOnSz hS (hs40.1 c43) (by have := (kj_all t len r.2.1).2.2.2.2.2.2.2.2.1.mp c59; omega) (by have := (kj_all t len r.2.1).2.2.2.2.2.2.2.2.1.mp c59; omega))) (fun v1 S1 G63 B63 J1 R1 h1 => ?_)
      obtain ⟨q0_, q1_, q2_, q3_, gf63, bf63, hs63⟩ := h1
      obtain rfl := q0_
      obtain rfl := q1_.symm
      obtain rfl := q2_.symm
      obtain rfl := q3_.symm
      show CR _ _ 66 [some (.ref 83), some (.ref 82), some (.int (nI len)), some (.int (nI r.2.2.2.length))] [] S G63 B63 J R _
      refine cr_nx (pc' := 67) (al' := [some (.ref 83), some (.ref 82), some (.int (nI len)), some (.int (nI r.2.2.2.length))]) (st' := [.ref 83]) d_25_66 (fun _ => rfl) ?_
      refine cr_cv (b := 83) (as := []) (al0 := [some (.ref 83), none]) (r := []) d_25_67 cw_25 cm_4_44 cz_28 rfl rfl (hS.i (a := 83) (by decide) (by decide)) (by rw [cw_28]; exact (hS.s (a := 83) (by decide) (by decide) rfl)) (by rw [cw_28]; decide) rfl (cr_wk (Nat.le_refl _) (ihy c43 ((kj_all t len r.2.1).2.2.2.2.2.2.2.2.1.mp c59) G63 B63 hs63)) (fun v1 S1 G67 B67 J1 R1 h1 => ?_)
      obtain ⟨q0_, q1_, q2_, q3_, gf67, bf67, hs67⟩ := h1
      obtain rfl := q0_
      obtain rfl := q1_.symm
      obtain rfl := q2_.symm
      obtain rfl := q3_.symm
      show CR _ _ 70 [some (.ref 83), some (.ref 82), some (.int (nI len)), some (.int (nI r.2.2.2.length))] [.int (bI (r2.1 = true))] S G67 B67 J R _
      refine cr_bne (t := 75) d_25_70 (by decide) (fun c70 => ?_) (fun c70 => ?_)
      · exact hkB c43 ((kj_all t len r.2.1).2.2.2.2.2.2.2.2.1.mp c59) c70 G67 B67 ((gf40.tr gf63).tr gf67) ((bf40.tr bf63).tr bf67) (hs67.1 c70)
      · refine cr_nx (pc' := 74) (al' := [some (.ref 83), some (.ref 82), some (.int (nI len)), some (.int (nI r.2.2.2.length))]) (st' := [.null]) d_25_73 (fun _ => rfl) ?_
        exact cr_rN d_25_74 cx_25 (by first | exact Or.inl ⟨_, rfl⟩ | exact Or.inr ⟨_, rfl⟩) (hf2 c43 ((kj_all t len r.2.1).2.2.2.2.2.2.2.2.1.mp c59) (by simpa using c70) G67 B67 ((gf40.tr gf63).tr gf67) ((bf40.tr bf63).tr bf67) (hs67.2 (by simpa using c70)))
  · refine cr_nx (pc' := 47) (al' := [some (.ref 83), some (.ref 82), some (.int (nI len)), none]) (st' := [.null]) d_25_46 (fun _ => rfl) ?_
    exact cr_rN d_25_47 cx_25 (by first | exact Or.inl ⟨_, rfl⟩ | exact Or.inr ⟨_, rfl⟩) (hf1 (by simpa using c43) G40 B40 gf40 bf40 (hs40.2 (by simpa using c43)))
def LwQz (t : Nat → Nat) (len : Nat) (S : CS) (G : Nat → Nat → Value) (B : Nat → Nat → Int32) (J : Nat → Nat → Int64) (R : Nat → Nat → Option Nat) (L : Bool × Nat × List Nat × Nat) : CQ := fun v S' G' B' J' R' => J' = J ∧ R' = R ∧ (L.1 = true → v = some (.ref S.1) ∧ S' = cs_pu (cs_pu S (100 + 3, 3)) (0, L.2.2.1.length) ∧ (∀ b, b ≠ 83 → b ≠ S.1 → G' b = G b) ∧ (∀ b, b ≠ 85 → b ≠ S.1 + 1 → B' b = B b) ∧ LawAt S' G' B' S.1 L.2.2.1 L.2.2.2 ∧ G' 83 5 = G 83 5) ∧ (L.1 = false → v = some .null ∧ S' = S ∧ Gf83 G G' ∧ Bfr [85] B B' ∧ G' 83 2 = .int (nI (tkP t len L.2.1)))
theorem lwq_75z {t : Nat → Nat} {len n0 i K : Nat} {S : CS} {G G0 : Nat → Nat → Value} {B B0 : Nat → Nat → Int32} {J : Nat → Nat → Int64} {R : Nat → Nat → Option Nat} {s : LSt} (hS : ShOk S) (hs : RdS t len G B s) (h1 : s.1 ≤ tkN t len) (hl : s.2.2.length < 64) (hg : Gf83 G0 G) (hb : Bfr [85] B0 B) (hK : 1 ≤ K) : CR K 25 75 [some (.ref 83), some (.ref 82), some (.int (nI n0)), some (.int (nI i))] [] S G B J R (LwQz t len S G0 B0 J R (decide (s.1 = tkN t len), s.1, s.2.2, i)) := by
  refine cr_wk hK (k_rl75 hS hs h1 hl (fun q G' B' a1 a2 a3 => ?_) (fun q => ?_))
  · refine ⟨rfl, rfl, fun _ => ⟨rfl, rfl, fun b b1 b2 => (a1 b b2).trans (hg.1 b (by simpa using b1)), fun b b1 b2 => (a2 b b2).trans (hb b (by simpa using b1)), a3, (congrFun (a1 83 (by have := hS.1; omega)) 5).trans hg.2⟩, fun e => ?_⟩
    exact absurd q (of_decide_eq_false e)
  · exact ⟨rfl, rfl, fun e => absurd (of_decide_eq_true e) q, fun _ => ⟨rfl, rfl, hg, hb, hs.p⟩⟩
theorem k_readLawz {t : Nat → Nat} {len F : Nat} {S : CS} {G : Nat → Nat → Value} {B : Nat → Nat → Int32} {J : Nat → Nat → Int64} {R : Nat → Nat → Option Nat} (hS : ShOk S) (h5 : G 83 5 = .ref 85) (hl4 : len ≤ 400) (hB : ∀ i, i < len → B 82 i = nI (t i) ∧ t i < 256) (hF : tkN t len < F) : CR 23 25 0 [some (.ref 83), some (.ref 82), some (.int (nI len)), none] [] S G B J R (LwQz t len S G B J R (lwR (tkC t len) (tkN t len) F)) := by
  have hE := tkC_E t len
  refine k_rl0z (K := 21) hS h5 hl4 hB (fun G1 hg hs => ?_)
  obtain ⟨r, hr⟩ : ∃ r, sid (tkC t len) F (0, 0, []) = r := ⟨_, rfl⟩
  obtain ⟨r2, hr2⟩ : ∃ r2, sid (tkC t len) F (r.2.1 + 1, r.2.2.1, r.2.2.2) = r2 := ⟨_, rfl⟩
  rw [lwR_w hr hr2]
  have hok := sid_ok (F := F) hE (0, 0, []) (Nat.zero_le _) (Nat.zero_le _)
  rw [hr] at hok
  obtain ⟨o1, o2, o3, o4, o5⟩ := hok
  have e0 : r.1 = true → r.2.2.2.length + 1 ≤ 2 * r.2.2.1 := fun q => by have := o5 q; simp only [List.length_nil] at this; omega
  refine k_rl39z (t := t) (len := len) (k := 21) (r := r) (r2 := r2) hS ?_ (fun q c G2 B2 h => ?_) (fun q c G2 B2 g2 b2 h => ?_) (fun q c q2 G2 B2 g2 b2 h => ?_) (fun q G2 B2 g2 b2 h => ?_) (fun q c q2 G2 B2 g2 b2 h => ?_)
  · rw [← hr]
    exact k_readSidez hF hS hs (Nat.zero_le _) (Nat.zero_le _) (Nat.zero_le _)
  · have hlt := cd_in hE o2 (by omega)
    have := e0 q
    rw [← hr2]
    exact k_readSidez hF hS h (by show r.2.1 + 1 ≤ _; omega) o4 (by show r.2.2.2.length ≤ 2 * r.2.2.1; omega)
  · rw [if_pos q, if_neg c]
    have := e0 q
    exact lwq_75z hS h o2 (by omega) (hg.tr g2) b2 (by omega)
  · have hlt := cd_in hE o2 (by omega)
    have := e0 q
    rw [if_pos q, if_pos c, if_pos q2]
    have hok2 := sid_ok (F := F) hE (r.2.1 + 1, r.2.2.1, r.2.2.2) (by show r.2.1 + 1 ≤ _; omega) o4
    rw [hr2] at hok2
    obtain ⟨p1, p2, p3, p4, p5⟩ := hok2
    have p5 := p5 q2
    dsimp only at p5
    exact lwq_75z hS h p2 (by omega) (hg.tr g2) b2 (by omega)
  · rw [if_neg (by rw [q]; decide)]
    exact ⟨rfl, rfl, fun e => absurd (show false = true from e) (by decide), fun _ => ⟨rfl, rfl, hg.tr g2, b2, h⟩⟩
  · rw [if_pos q, if_pos c, if_neg (by rw [q2]; decide)]
    exact ⟨rfl, rfl, fun e => absurd (show false = true from e) (by decide), fun _ => ⟨rfl, rfl, hg.tr g2, b2, h⟩⟩
