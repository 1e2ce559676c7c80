/-! Listed loops: the class holds laws against one; printed by wip/whole/gen_c15.py. -/
/-- laws of the class -/
def LwS (cod : Nat → Nat) (N l : Nat) (S : CS) (G : Nat → Nat → Value) (B : Nat → Nat → Int32) : Prop := LawAt S G B l (lwR cod N 401).2.2.1 (lwR cod N 401).2.2.2 ∧ 174 ≤ l ∧ cod N = 0 ∧ (lwR cod N 401).1 = true
theorem LwS.v {cod : Nat → Nat} {N l : Nat} {S : CS} {G : Nat → Nat → Value} {B : Nat → Nat → Int32} (h : LwS cod N l S G B) : LwV cod N 401 (lwR cod N 401).2.2.1 (lwR cod N 401).2.2.2 := lw_v h.2.2.1 h.2.2.2
theorem LwS.ok {cod : Nat → Nat} {N l : Nat} {S : CS} {G : Nat → Nat → Value} {B : Nat → Nat → Int32} (h : LwS cod N l S G B) : CdOk (lwR cod N 401).2.2.1 (lwR cod N 401).2.2.2 := ⟨h.v.1, h.v.2.1, h.v.2.2.1, h.v.2.2.2.1, h.v.2.2.2.2.1⟩
theorem LwS.cg {cod : Nat → Nat} {N l : Nat} {S : CS} {G G' : Nat → Nat → Value} {B B' : Nat → Nat → Int32} (h : LwS cod N l S G B) (hg : G' l = G l) (hb : B' (l + 1) = B (l + 1)) : LwS cod N l S G' B' := ⟨h.1.cg hg hb, h.2⟩
theorem LwS.br {cod : Nat → Nat} {N l : Nat} {S : CS} {G : Nat → Nat → Value} {B : Nat → Nat → Int32} (h : LwS cod N l S G B) {n e : Nat} {c : Nat → Nat} : lbT (lwR cod N 401).2.2.1 (lwR cod N 401).2.2.2 n c e = fun x y z => lwB cod (vlF x y z e) (jnW n c) 401 := by
  funext x y z
  exact (h.v.2.2.2.2.2.2 _ _).symm
theorem fx_99 {G G' : Nat → Nat → Value} {S : CS} (hF : FxG G) (hg : Gfr [99] G G') (hC : CkAt S G' 99) : FxG G' := fun e he => by
  by_cases h : e.1 = 99
  · have : e = (99, 3, 101) ∨ e = (99, 4, 102) ∨ e = (99, 5, 103) ∨ e = (99, 6, 104) := by
      revert h
      revert e
      decide
    obtain ⟨_, _, _, _, _, c3, c4, c5, c6⟩ := hC
    rcases this with rfl | rfl | rfl | rfl
    · exact c3
    · exact c4
    · exact c5
    · exact c6
  · rw [hg e.1 (by simpa using h)]
    exact hF e he
theorem fx_90c {G G' : Nat → Nat → Value} {S : CS} (hF : FxG G) (hg : Gfr [90] G G') (hC : CkAt S G' 90) : FxG G' := fun e he => by
  by_cases h : e.1 = 90
  · have : e = (90, 3, 92) ∨ e = (90, 4, 93) ∨ e = (90, 5, 94) ∨ e = (90, 6, 95) := by
      revert h
      revert e
      decide
    obtain ⟨_, _, _, _, _, c3, c4, c5, c6⟩ := hC
    rcases this with rfl | rfl | rfl | rfl
    · exact c3
    · exact c4
    · exact c5
    · exact c6
  · rw [hg e.1 (by simpa using h)]
    exact hF e he
theorem ck_99 {S : CS} {G : Nat → Nat → Value} (hS : ShOk S) (hF : FxG G) : CkAt S G 99 := ⟨⟨hS.i (by decide) (by decide), hS.s (by decide) (by decide) rfl⟩, ⟨hS.i (by decide) (by decide), hS.s (by decide) (by decide) rfl⟩, ⟨hS.i (by decide) (by decide), hS.s (by decide) (by decide) rfl⟩, ⟨hS.i (by decide) (by decide), hS.s (by decide) (by decide) rfl⟩, ⟨hS.i (by decide) (by decide), hS.s (by decide) (by decide) rfl⟩, fx_99_3 hF, fx_99_4 hF, fx_99_5 hF, fx_99_6 hF⟩
theorem ck_90 {S : CS} {G : Nat → Nat → Value} (hS : ShOk S) (hF : FxG G) : CkAt S G 90 := ⟨⟨hS.i (by decide) (by decide), hS.s (by decide) (by decide) rfl⟩, ⟨hS.i (by decide) (by decide), hS.s (by decide) (by decide) rfl⟩, ⟨hS.i (by decide) (by decide), hS.s (by decide) (by decide) rfl⟩, ⟨hS.i (by decide) (by decide), hS.s (by decide) (by decide) rfl⟩, ⟨hS.i (by decide) (by decide), hS.s (by decide) (by decide) rfl⟩, fx_90_3 hF, fx_90_4 hF, fx_90_5 hF, fx_90_6 hF⟩
/-- the laws of a row -/
def LkC (K : Nat) (cds : Nat → Nat → Nat) (Ns la : Nat → Nat) (S : CS) (G : Nat → Nat → Value) (B : Nat → Nat → Int32) (R : Nat → Nat → Option Nat) (row : Nat) : Prop := K ≤ 8 ∧ ∀ l, l < K → R row l = some (la l) ∧ LwS (cds l) (Ns l) (la l) S G B
theorem LkC.cg {K : Nat} {cds : Nat → Nat → Nat} {Ns la : Nat → Nat} {S : CS} {G G' : Nat → Nat → Value} {B B' : Nat → Nat → Int32} {R : Nat → Nat → Option Nat} {row : Nat} (h : LkC K cds Ns la S G B R row) (hg : ∀ a, 174 ≤ a → G' a = G a) (hb : ∀ a, 174 ≤ a → B' a = B a) : LkC K cds Ns la S G' B' R row := ⟨h.1, fun l hl => ⟨(h.2 l hl).1, (h.2 l hl).2.cg (hg _ (h.2 l hl).2.2.1) (hb _ (by have := (h.2 l hl).2.2.1; omega))⟩⟩
theorem or_0 {a b : Nat} (h : a ||| b = 0) : a = 0 ∧ b = 0 := by
  constructor
  · apply Nat.eq_of_testBit_eq
    intro i
    have : (a ||| b).testBit i = false := by rw [h]; exact Nat.zero_testBit i
    rw [Nat.testBit_or, Bool.or_eq_false_iff] at this
    rw [this.1, Nat.zero_testBit]
  · apply Nat.eq_of_testBit_eq
    intro i
    have : (a ||| b).testBit i = false := by rw [h]; exact Nat.zero_testBit i
    rw [Nat.testBit_or, Bool.or_eq_false_iff] at this
    rw [this.2, Nat.zero_testBit]
theorem k_isListed {S : CS} {G : Nat → Nat → Value} {B : Nat → Nat → Int32} {J : Nat → Nat → Int64} {R : Nat → Nat → Option Nat} (hS : ShOk S) (hF : FxG G) {K n hold no : Nat} {cds : Nat → Nat → Nat} {Ns la : Nat → Nat} {c : Nat → Nat} (hK : LkC K cds Ns la S G B R 5) (hn6 : n ≤ 6) (hn : 0 < n) (hn97 : G 97 0 = .int (nI n)) (hc : TabC B 97 n c) (hla2 : Lat n c) (h4 : G 96 4 = .ref 5) (h5 : G 96 5 = .int (nI hold)) (h6 : G 96 6 = .int (nI no)) (hh : hold < 256) (hn2 : no < 256) (hbK : ∀ l, hold.testBit l = true → l < K) (nbK : ∀ l, no.testBit l = true → l < K) : CR 4 38 0 [some (.ref 96), none, none, none, none] [] S G B J R (fun r S' G' B' J' R' => r = some (.int (bI (lsB K cds Ns hold no n c = true))) ∧ (S' = S ∧ J' = J ∧ R' = R) ∧ Gfr [99] G G' ∧ FxG G' ∧ Bfr [101, 102, 103, 104] B B') := by
  refine cr_nx (pc' := 1) (al' := [some (.ref 96), none, none, none, none]) (st' := [.ref 96]) d_38_0 (fun _ => rfl) ?_
  refine cr_gf (v := .int (nI hold)) d_38_1 cw_38 cf_5_35 (hS.i (a := 96) (by decide) (by decide)) (hS.s (a := 96) (by decide) (by decide) rfl) (by decide) h5 ?_
  refine cr_nx (pc' := 5) (al' := [some (.ref 96), none, none, none, none]) (st' := [.ref 96, .int (nI hold)]) d_38_4 (fun _ => rfl) ?_
  refine cr_gf (v := .int (nI no)) d_38_5 cw_38 cf_5_39 (hS.i (a := 96) (by decide) (by decide)) (hS.s (a := 96) (by decide) (by decide) rfl) (by decide) h6 ?_
  refine cn_or d_38_8 ?_
  refine cn_ine (t := 14) d_38_9 (by decide) (Nat.lt_of_lt_of_le (Nat.or_lt_two_pow (n := 8) hh hn2) (by decide)) (fun c9 => ?_) (fun c9 => ?_)
  · refine cr_nx (pc' := 15) (al' := [some (.ref 96), none, none, none, none]) (st' := [.ref 96]) d_38_14 (fun _ => rfl) ?_
    refine cr_gf (v := .ref 99) d_38_15 cw_38 cf_5_21 (hS.i (a := 96) (by decide) (by decide)) (hS.s (a := 96) (by decide) (by decide) rfl) (by decide) (fx_96_2 hF) ?_
    refine cr_nx (pc' := 19) (al' := [some (.ref 96), none, none, none, none]) (st' := [.ref 96, .ref 99]) d_38_18 (fun _ => rfl) ?_
    refine cr_gf (v := .ref 97) d_38_19 cw_38 cf_5_12 (hS.i (a := 96) (by decide) (by decide)) (hS.s (a := 96) (by decide) (by decide) rfl) (by decide) (fx_96_0 hF) ?_
    refine cn_ic (v := 0) d_38_22 (by decide) ?_
    refine cr_pv (b := 99) (as := [.ref 97, .int (nI 0)]) (al0 := [some (.ref 99), some (.ref 97), some (.int (nI 0))]) (r := []) d_38_23 cw_38 cm_5_63 cz_1 rfl rfl (hS.i (a := 99) (by decide) (by decide)) (by rw [cw_1]; exact (hS.s (a := 99) (by decide) (by decide) rfl)) (by rw [cw_1]; decide) rfl (Nat.le_of_ble_eq_true rfl) (k_look (a := 99) (t := 97) (e := 0) (ck_99 hS hF) (tb_97 hS hF) hn97 (by decide) (by decide)) ?_
    show CR _ _ 26 [some (.ref 96), none, none, none, none] [] S (up2 (up2 (up2 G 99 0 (.int (nI n))) 99 1 (.ref 98)) 99 2 (.int (nI 0))) (upr B (99 + 4) (upd (B (99 + 4)) 3 (nI 0))) J R _
    refine cn_ic (v := 0) d_38_26 (by decide) ?_
    refine cr_nx (pc' := 28) (al' := [some (.ref 96), some (.int (nI 0)), none, none, none]) (st' := []) d_38_27 (fun _ => rfl) ?_
    refine cr_upw (al := fun l w_ => [some (.ref 96), some (.int (nI l)), none, none, none]) (S := fun l w_ => S) (G := fun l w_ => w_.1) (B := fun l w_ => w_.2) (J := fun l w_ => J) (R := fun l w_ => R) (P := fun l w_ => Gfr [99] G w_.1 ∧ Bfr [101, 102, 103, 104] B w_.2 ∧ CkL S w_.1 w_.2 99 98 n c 0 ∧ ∀ p, p < l → (hold.testBit p = true → lwC n c 0 (cds p) (Ns p) = 0) ∧ (no.testBit p = true → ¬ lwC n c 0 (cds p) (Ns p) = 0)) (n := 8) (fun l w_ hl pl ihl => ?_) (fun w_ pl => ?_) 0 ((up2 (up2 (up2 G 99 0 (.int (nI n))) 99 1 (.ref 98)) 99 2 (.int (nI 0))), (upr B (99 + 4) (upd (B (99 + 4)) 3 (nI 0)))) (by omega) (⟨((Gfr.rf.u (by simp)).u (by simp)).u (by simp), Bfr.rf.u (by simp), CkL.mk (J := J) (R := R) (ck_99 hS hF) (tb_97 hS hF) hc (by decide), fun p h_ => absurd h_ (Nat.not_lt_zero p)⟩)
    · show CR _ _ 28 [some (.ref 96), some (.int (nI l)), none, none, none] [] S w_.1 w_.2 J R _
      have h4 : w_.1 96 4 = .ref 5 := by rw [pl.1 96 (by decide)]; exact h4
      have h5 : w_.1 96 5 = .int (nI hold) := by rw [pl.1 96 (by decide)]; exact h5
      have h6 : w_.1 96 6 = .int (nI no) := by rw [pl.1 96 (by decide)]; exact h6
      have hFw := fx_99 hF pl.1 pl.2.2.1.1
      refine cr_nx (pc' := 29) (al' := [some (.ref 96), some (.int (nI l)), none, none, none]) (st' := [.int (nI l)]) d_38_28 (fun _ => rfl) ?_
      refine cr_nx (pc' := 30) (al' := [some (.ref 96), some (.int (nI l)), none, none, none]) (st' := [.ref 96, .int (nI l)]) d_38_29 (fun _ => rfl) ?_
      refine cr_gf (v := .ref 5) d_38_30 cw_38 cf_5_31 (hS.i (a := 96) (by decide) (by decide)) (hS.s (a := 96) (by decide) (by decide) rfl) (by decide) h4 ?_
      refine cr_le d_38_33 (hS.i (a := 5) (by decide) (by decide)) (by decide) (by decide) (hS.s (a := 5) (by decide) (by decide) rfl) ?_
      refine cn_cge (t := 136) d_38_34 (by decide) (by omega) (by decide) (fun c34 => ?_) (fun c34 => ?_)
      · omega
      · refine cr_nx (pc' := 38) (al' := [some (.ref 96), some (.int (nI l)), none, none, none]) (st' := [.ref 96]) d_38_37 (fun _ => rfl) ?_
        refine cr_gf (v := .int (nI hold)) d_38_38 cw_38 cf_5_35 (hS.i (a := 96) (by decide) (by decide)) (hS.s (a := 96) (by decide) (by decide) rfl) (by decide) h5 ?_
        refine cr_nx (pc' := 42) (al' := [some (.ref 96), some (.int (nI l)), none, none, none]) (st' := [.int (nI l), .int (nI hold)]) d_38_41 (fun _ => rfl) ?_
        refine cn_shr d_38_42 (by omega) (by omega) ?_
        refine cn_ic (v := 1) d_38_43 (by decide) ?_
        refine cn_and d_38_44 ?_
        refine cn_ieq (t := 52) d_38_45 (by decide) (by have := bt_lt hold l; omega) (fun c45 => ?_) (fun c45 => ?_)
        · refine cn_ic (v := 0) d_38_52 (by decide) ?_
          refine cr_nx (pc' := 54) (al' := [some (.ref 96), some (.int (nI l)), some (.int (nI 0)), none, none]) (st' := []) d_38_53 (fun _ => rfl) ?_
          refine cr_nx (pc' := 55) (al' := [some (.ref 96), some (.int (nI l)), some (.int (nI 0)), none, none]) (st' := [.ref 96]) d_38_54 (fun _ => rfl) ?_
          refine cr_gf (v := .int (nI no)) d_38_55 cw_38 cf_5_39 (hS.i (a := 96) (by decide) (by decide)) (hS.s (a := 96) (by decide) (by decide) rfl) (by decide) h6 ?_
          refine cr_nx (pc' := 59) (al' := [some (.ref 96), some (.int (nI l)), some (.int (nI 0)), none, none]) (st' := [.int (nI l), .int (nI no)]) d_38_58 (fun _ => rfl) ?_
          refine cn_shr d_38_59 (by omega) (by omega) ?_
          refine cn_ic (v := 1) d_38_60 (by decide) ?_
          refine cn_and d_38_61 ?_
          refine cn_ieq (t := 69) d_38_62 (by decide) (by have := bt_lt no l; omega) (fun c62 => ?_) (fun c62 => ?_)
          · refine cn_ic (v := 0) d_38_69 (by decide) ?_
            refine cr_nx (pc' := 71) (al' := [some (.ref 96), some (.int (nI l)), some (.int (nI 0)), some (.int (nI 0)), none]) (st' := []) d_38_70 (fun _ => rfl) ?_
            refine cr_nx (pc' := 72) (al' := [some (.ref 96), some (.int (nI l)), some (.int (nI 0)), some (.int (nI 0)), none]) (st' := [.int (nI 0)]) d_38_71 (fun _ => rfl) ?_
            refine cn_ine (t := 79) d_38_72 (by decide) (by first | omega | assumption | exact cu_36 (by omega) (cu_lt (by omega) (by omega))) (fun c72 => ?_) (fun c72 => ?_)
            · omega
            · refine cr_nx (pc' := 76) (al' := [some (.ref 96), some (.int (nI l)), some (.int (nI 0)), some (.int (nI 0)), none]) (st' := [.int (nI 0)]) d_38_75 (fun _ => rfl) ?_
              refine cn_ieq (t := 130) d_38_76 (by decide) (by first | omega | assumption | exact cu_36 (by omega) (cu_lt (by omega) (by omega))) (fun c76 => ?_) (fun c76 => ?_)
              · refine cn_inc d_38_130 rfl rfl ?_
                show CR _ _ 133 [some (.ref 96), some (.int (nI (l + 1))), some (.int (nI 0)), some (.int (nI 0)), none] [] S w_.1 w_.2 J R _
                refine cr_nx (pc' := 28) (al' := [some (.ref 96), some (.int (nI (l + 1))), some (.int (nI 0)), some (.int (nI 0)), none]) (st' := []) d_38_133 (fun _ => rfl) ?_
                refine cr_dr (al1 := [some (.ref 96), some (.int (nI (l + 1))), none, none, none]) (le_s (le_s (le_d rfl (le_d rfl (le_s (le_n)))))) ?_
                exact ihl w_ (⟨pl.1, pl.2.1, pl.2.2.1, all_s (p := fun p => (hold.testBit p = true → lwC n c 0 (cds p) (Ns p) = 0) ∧ (no.testBit p = true → ¬ lwC n c 0 (cds p) (Ns p) = 0)) pl.2.2.2 ⟨fun h_ => absurd h_ (by rw [bt_e0.mp c45]; exact Bool.false_ne_true), fun h_ => absurd h_ (by rw [bt_e0.mp c62]; exact Bool.false_ne_true)⟩⟩)
              · omega
          · refine cn_ic (v := 1) d_38_65 (by decide) ?_
            refine cr_nx (pc' := 70) (al' := [some (.ref 96), some (.int (nI l)), some (.int (nI 0)), none, none]) (st' := [.int (nI 1)]) d_38_66 (fun _ => rfl) ?_
            refine cr_nx (pc' := 71) (al' := [some (.ref 96), some (.int (nI l)), some (.int (nI 0)), some (.int (nI 1)), none]) (st' := []) d_38_70 (fun _ => rfl) ?_
            refine cr_nx (pc' := 72) (al' := [some (.ref 96), some (.int (nI l)), some (.int (nI 0)), some (.int (nI 1)), none]) (st' := [.int (nI 0)]) d_38_71 (fun _ => rfl) ?_
            refine cn_ine (t := 79) d_38_72 (by decide) (by first | omega | assumption | exact cu_36 (by omega) (cu_lt (by omega) (by omega))) (fun c72 => ?_) (fun c72 => ?_)
            · omega
            · refine cr_nx (pc' := 76) (al' := [some (.ref 96), some (.int (nI l)), some (.int (nI 0)), some (.int (nI 1)), none]) (st' := [.int (nI 1)]) d_38_75 (fun _ => rfl) ?_
              refine cn_ieq (t := 130) d_38_76 (by decide) (by first | omega | assumption | exact cu_36 (by omega) (cu_lt (by omega) (by omega))) (fun c76 => ?_) (fun c76 => ?_)
              · omega
              · have hlK : l < K := nbK l (bt_p0.mp c62)
                have hLs0 := (hK.2 l hlK).2
                have hLs := hLs0.cg (pl.1 _ (by have := hLs0.2.1; simp; omega)) (pl.2.1 _ (by have := hLs0.2.1; simp; omega))
                have hla := hLs0.2.1
                refine cr_nx (pc' := 80) (al' := [some (.ref 96), some (.int (nI l)), some (.int (nI 0)), some (.int (nI 1)), none]) (st' := [.ref 96]) d_38_79 (fun _ => rfl) ?_
                refine cr_gf (v := .ref 5) d_38_80 cw_38 cf_5_31 (hS.i (a := 96) (by decide) (by decide)) (hS.s (a := 96) (by decide) (by decide) rfl) (by decide) h4 ?_
                refine cr_nx (pc' := 84) (al' := [some (.ref 96), some (.int (nI l)), some (.int (nI 0)), some (.int (nI 1)), none]) (st' := [.int (nI l), .ref 5]) d_38_83 (fun _ => rfl) ?_
                refine cr_aa (a := 5) (v := .ref (la l)) d_38_84 (hS.i (a := 5) (by decide) (by decide)) (by decide) (hS.s (a := 5) (by decide) (by decide) rfl) (by decide) (show l < 8 by first | omega | assumption | exact cu_36 (by omega) (cu_lt (by omega) (by omega))) (show va_rf (R 5 l) = _ by rw [(hK.2 l hlK).1]; rfl) ?_
                refine cr_nx (pc' := 88) (al' := [some (.ref 96), some (.int (nI l)), some (.int (nI 0)), some (.int (nI 1)), none]) (st' := []) d_38_85 (fun _ => rfl) ?_
                refine cr_nx (pc' := 89) (al' := [some (.ref 96), some (.int (nI l)), some (.int (nI 0)), some (.int (nI 1)), none]) (st' := [.ref 96]) d_38_88 (fun _ => rfl) ?_
                refine cr_gf (v := .ref 99) d_38_89 cw_38 cf_5_21 (hS.i (a := 96) (by decide) (by decide)) (hS.s (a := 96) (by decide) (by decide) rfl) (by decide) (fx_96_2 hFw) ?_
                refine cr_nx (pc' := 93) (al' := [some (.ref 96), some (.int (nI l)), some (.int (nI 0)), some (.int (nI 1)), none]) (st' := [.ref 96, .ref 99]) d_38_92 (fun _ => rfl) ?_
                refine cr_gf (v := .ref 5) d_38_93 cw_38 cf_5_31 (hS.i (a := 96) (by decide) (by decide)) (hS.s (a := 96) (by decide) (by decide) rfl) (by decide) h4 ?_
                refine cr_nx (pc' := 97) (al' := [some (.ref 96), some (.int (nI l)), some (.int (nI 0)), some (.int (nI 1)), none]) (st' := [.int (nI l), .ref 5, .ref 99]) d_38_96 (fun _ => rfl) ?_
                refine cr_aa (a := 5) (v := .ref (la l)) d_38_97 (hS.i (a := 5) (by decide) (by decide)) (by decide) (hS.s (a := 5) (by decide) (by decide) rfl) (by decide) (show l < 8 by first | omega | assumption | exact cu_36 (by omega) (cu_lt (by omega) (by omega))) (show va_rf (R 5 l) = _ by rw [(hK.2 l hlK).1]; rfl) ?_
                refine cn_ic (v := 1) d_38_98 (by decide) ?_
                refine cr_cv (b := 99) (as := [.ref (la l), .int (nI 1)]) (al0 := [some (.ref 99), some (.ref (la l)), some (.int (nI 1)), none, none, none, none, none, none, none]) (r := []) d_38_99 cw_38 cm_5_67 cz_2 rfl rfl (hS.i (a := 99) (by decide) (by decide)) (by rw [cw_2]; exact (hS.s (a := 99) (by decide) (by decide) rfl)) (by rw [cw_2]; decide) rfl (cr_wk (Nat.le_of_ble_eq_true rfl) (k_failures1 (a := 99) (m := 98) (l := la l) hn6 hn hla2 hn (by omega) ⟨by omega, by omega, by omega, by omega⟩ ⟨by decide, by decide, by decide, by decide⟩ hLs.ok pl.2.2.1 hLs.1)) (fun v1 S1 G1 B1 J1 R1 h1 => ?_)
                obtain ⟨⟨q1_, q2_, q3_⟩, hg1, hb1, hk1, hor⟩ := h1
                obtain rfl := q1_.symm
                obtain rfl := q2_.symm
                obtain rfl := q3_.symm
                rw [hLs.br] at hor
                obtain ⟨z, hz, hzz⟩ : ∃ z, v1 = some (.int (nI z)) ∧ z ≤ 1 ∧ (z = 0 ↔ lwC n c 0 (cds l) (Ns l) = 0) := hor.elim (fun h_ => ⟨0, h_.1, by omega, fun _ => f3_0.mpr h_.2, fun _ => rfl⟩) (fun h_ => ⟨1, h_.1, by omega, fun e_ => absurd e_ (by decide), fun e_ => by obtain ⟨_, _, _, h2_, _⟩ := h_.2; exact absurd (f3_0.mp e_) h2_.no⟩)
                obtain rfl := hz
                show CR _ _ 102 [some (.ref 96), some (.int (nI l)), some (.int (nI 0)), some (.int (nI 1)), none] [.int (nI z)] S G1 B1 J R _
                refine cn_ine (t := 109) d_38_102 (by decide) (by omega) (fun c102 => ?_) (fun c102 => ?_)
                · refine cn_ic (v := 0) d_38_109 (by decide) ?_
                  refine cr_nx (pc' := 112) (al' := [some (.ref 96), some (.int (nI l)), some (.int (nI 0)), some (.int (nI 1)), some (.int (nI 0))]) (st' := []) d_38_110 (fun _ => rfl) ?_
                  refine cr_nx (pc' := 114) (al' := [some (.ref 96), some (.int (nI l)), some (.int (nI 0)), some (.int (nI 1)), some (.int (nI 0))]) (st' := [.int (nI 0)]) d_38_112 (fun _ => rfl) ?_
                  refine cn_ieq (t := 124) d_38_114 (by decide) (by first | omega | assumption | exact cu_36 (by omega) (cu_lt (by omega) (by omega))) (fun c114 => ?_) (fun c114 => ?_)
                  · refine cr_nx (pc' := 125) (al' := [some (.ref 96), some (.int (nI l)), some (.int (nI 0)), some (.int (nI 1)), some (.int (nI 0))]) (st' := [.int (nI 0)]) d_38_124 (fun _ => rfl) ?_
                    refine cn_ieq (t := 130) d_38_125 (by decide) (by first | omega | assumption | exact cu_36 (by omega) (cu_lt (by omega) (by omega))) (fun c125 => ?_) (fun c125 => ?_)
                    · refine cn_inc d_38_130 rfl rfl ?_
                      show CR _ _ 133 [some (.ref 96), some (.int (nI (l + 1))), some (.int (nI 0)), some (.int (nI 1)), some (.int (nI 0))] [] S G1 B1 J R _
                      refine cr_nx (pc' := 28) (al' := [some (.ref 96), some (.int (nI (l + 1))), some (.int (nI 0)), some (.int (nI 1)), some (.int (nI 0))]) (st' := []) d_38_133 (fun _ => rfl) ?_
                      refine cr_dr (al1 := [some (.ref 96), some (.int (nI (l + 1))), none, none, none]) (le_s (le_s (le_d rfl (le_d rfl (le_d rfl (le_n)))))) ?_
                      exact ihl (G1, B1) (⟨pl.1.tr hg1, pl.2.1.tr hb1, hk1, all_s (p := fun p => (hold.testBit p = true → lwC n c 0 (cds p) (Ns p) = 0) ∧ (no.testBit p = true → ¬ lwC n c 0 (cds p) (Ns p) = 0)) pl.2.2.2 ⟨fun h_ => absurd h_ (by rw [bt_e0.mp c45]; exact Bool.false_ne_true), fun _ e_ => absurd (hzz.2.mpr e_) (by omega)⟩⟩)
                    · omega
                  · omega
                · refine cn_ic (v := 1) d_38_105 (by decide) ?_
                  refine cr_nx (pc' := 110) (al' := [some (.ref 96), some (.int (nI l)), some (.int (nI 0)), some (.int (nI 1)), none]) (st' := [.int (nI 1)]) d_38_106 (fun _ => rfl) ?_
                  refine cr_nx (pc' := 112) (al' := [some (.ref 96), some (.int (nI l)), some (.int (nI 0)), some (.int (nI 1)), some (.int (nI 1))]) (st' := []) d_38_110 (fun _ => rfl) ?_
                  refine cr_nx (pc' := 114) (al' := [some (.ref 96), some (.int (nI l)), some (.int (nI 0)), some (.int (nI 1)), some (.int (nI 1))]) (st' := [.int (nI 1)]) d_38_112 (fun _ => rfl) ?_
                  refine cn_ieq (t := 124) d_38_114 (by decide) (by first | omega | assumption | exact cu_36 (by omega) (cu_lt (by omega) (by omega))) (fun c114 => ?_) (fun c114 => ?_)
                  · omega
                  · refine cr_nx (pc' := 118) (al' := [some (.ref 96), some (.int (nI l)), some (.int (nI 0)), some (.int (nI 1)), some (.int (nI 1))]) (st' := [.int (nI 1)]) d_38_117 (fun _ => rfl) ?_
                    refine cn_ieq (t := 130) d_38_118 (by decide) (by first | omega | assumption | exact cu_36 (by omega) (cu_lt (by omega) (by omega))) (fun c118 => ?_) (fun c118 => ?_)
                    · omega
                    · refine cr_nx (pc' := 128) (al' := [some (.ref 96), some (.int (nI l)), some (.int (nI 0)), some (.int (nI 1)), some (.int (nI 1))]) (st' := []) d_38_121 (fun _ => rfl) ?_
                      refine cn_ic (v := 0) d_38_128 (by decide) ?_
                      exact cr_ri d_38_129 cx_38 (by decide) ⟨by rw [← bI_f (fun e_ => (fun h_ => (h_ l hlK).2 (bt_p0.mp c62) (hzz.2.mp c102)) (ls_iff.mp e_))], ⟨rfl, rfl, rfl⟩, pl.1.tr hg1, fx_99 hF (pl.1.tr hg1) hk1.1, pl.2.1.tr hb1⟩
        · refine cn_ic (v := 1) d_38_48 (by decide) ?_
          refine cr_nx (pc' := 53) (al' := [some (.ref 96), some (.int (nI l)), none, none, none]) (st' := [.int (nI 1)]) d_38_49 (fun _ => rfl) ?_
          refine cr_nx (pc' := 54) (al' := [some (.ref 96), some (.int (nI l)), some (.int (nI 1)), none, none]) (st' := []) d_38_53 (fun _ => rfl) ?_
          refine cr_nx (pc' := 55) (al' := [some (.ref 96), some (.int (nI l)), some (.int (nI 1)), none, none]) (st' := [.ref 96]) d_38_54 (fun _ => rfl) ?_
          refine cr_gf (v := .int (nI no)) d_38_55 cw_38 cf_5_39 (hS.i (a := 96) (by decide) (by decide)) (hS.s (a := 96) (by decide) (by decide) rfl) (by decide) h6 ?_
          refine cr_nx (pc' := 59) (al' := [some (.ref 96), some (.int (nI l)), some (.int (nI 1)), none, none]) (st' := [.int (nI l), .int (nI no)]) d_38_58 (fun _ => rfl) ?_
          refine cn_shr d_38_59 (by omega) (by omega) ?_
          refine cn_ic (v := 1) d_38_60 (by decide) ?_
          refine cn_and d_38_61 ?_
          refine cn_ieq (t := 69) d_38_62 (by decide) (by have := bt_lt no l; omega) (fun c62 => ?_) (fun c62 => ?_)
          · refine cn_ic (v := 0) d_38_69 (by decide) ?_
            refine cr_nx (pc' := 71) (al' := [some (.ref 96), some (.int (nI l)), some (.int (nI 1)), some (.int (nI 0)), none]) (st' := []) d_38_70 (fun _ => rfl) ?_
            refine cr_nx (pc' := 72) (al' := [some (.ref 96), some (.int (nI l)), some (.int (nI 1)), some (.int (nI 0)), none]) (st' := [.int (nI 1)]) d_38_71 (fun _ => rfl) ?_
            refine cn_ine (t := 79) d_38_72 (by decide) (by first | omega | assumption | exact cu_36 (by omega) (cu_lt (by omega) (by omega))) (fun c72 => ?_) (fun c72 => ?_)
            · have hlK : l < K := hbK l (bt_p0.mp c45)
              have hLs0 := (hK.2 l hlK).2
              have hLs := hLs0.cg (pl.1 _ (by have := hLs0.2.1; simp; omega)) (pl.2.1 _ (by have := hLs0.2.1; simp; omega))
              have hla := hLs0.2.1
              refine cr_nx (pc' := 80) (al' := [some (.ref 96), some (.int (nI l)), some (.int (nI 1)), some (.int (nI 0)), none]) (st' := [.ref 96]) d_38_79 (fun _ => rfl) ?_
              refine cr_gf (v := .ref 5) d_38_80 cw_38 cf_5_31 (hS.i (a := 96) (by decide) (by decide)) (hS.s (a := 96) (by decide) (by decide) rfl) (by decide) h4 ?_
              refine cr_nx (pc' := 84) (al' := [some (.ref 96), some (.int (nI l)), some (.int (nI 1)), some (.int (nI 0)), none]) (st' := [.int (nI l), .ref 5]) d_38_83 (fun _ => rfl) ?_
              refine cr_aa (a := 5) (v := .ref (la l)) d_38_84 (hS.i (a := 5) (by decide) (by decide)) (by decide) (hS.s (a := 5) (by decide) (by decide) rfl) (by decide) (show l < 8 by first | omega | assumption | exact cu_36 (by omega) (cu_lt (by omega) (by omega))) (show va_rf (R 5 l) = _ by rw [(hK.2 l hlK).1]; rfl) ?_
              refine cr_nx (pc' := 88) (al' := [some (.ref 96), some (.int (nI l)), some (.int (nI 1)), some (.int (nI 0)), none]) (st' := []) d_38_85 (fun _ => rfl) ?_
              refine cr_nx (pc' := 89) (al' := [some (.ref 96), some (.int (nI l)), some (.int (nI 1)), some (.int (nI 0)), none]) (st' := [.ref 96]) d_38_88 (fun _ => rfl) ?_
              refine cr_gf (v := .ref 99) d_38_89 cw_38 cf_5_21 (hS.i (a := 96) (by decide) (by decide)) (hS.s (a := 96) (by decide) (by decide) rfl) (by decide) (fx_96_2 hFw) ?_
              refine cr_nx (pc' := 93) (al' := [some (.ref 96), some (.int (nI l)), some (.int (nI 1)), some (.int (nI 0)), none]) (st' := [.ref 96, .ref 99]) d_38_92 (fun _ => rfl) ?_
              refine cr_gf (v := .ref 5) d_38_93 cw_38 cf_5_31 (hS.i (a := 96) (by decide) (by decide)) (hS.s (a := 96) (by decide) (by decide) rfl) (by decide) h4 ?_
              refine cr_nx (pc' := 97) (al' := [some (.ref 96), some (.int (nI l)), some (.int (nI 1)), some (.int (nI 0)), none]) (st' := [.int (nI l), .ref 5, .ref 99]) d_38_96 (fun _ => rfl) ?_
              refine cr_aa (a := 5) (v := .ref (la l)) d_38_97 (hS.i (a := 5) (by decide) (by decide)) (by decide) (hS.s (a := 5) (by decide) (by decide) rfl) (by decide) (show l < 8 by first | omega | assumption | exact cu_36 (by omega) (cu_lt (by omega) (by omega))) (show va_rf (R 5 l) = _ by rw [(hK.2 l hlK).1]; rfl) ?_
              refine cn_ic (v := 1) d_38_98 (by decide) ?_
              refine cr_cv (b := 99) (as := [.ref (la l), .int (nI 1)]) (al0 := [some (.ref 99), some (.ref (la l)), some (.int (nI 1)), none, none, none, none, none, none, none]) (r := []) d_38_99 cw_38 cm_5_67 cz_2 rfl rfl (hS.i (a := 99) (by decide) (by decide)) (by rw [cw_2]; exact (hS.s (a := 99) (by decide) (by decide) rfl)) (by rw [cw_2]; decide) rfl (cr_wk (Nat.le_of_ble_eq_true rfl) (k_failures1 (a := 99) (m := 98) (l := la l) hn6 hn hla2 hn (by omega) ⟨by omega, by omega, by omega, by omega⟩ ⟨by decide, by decide, by decide, by decide⟩ hLs.ok pl.2.2.1 hLs.1)) (fun v1 S1 G1 B1 J1 R1 h1 => ?_)
              obtain ⟨⟨q1_, q2_, q3_⟩, hg1, hb1, hk1, hor⟩ := h1
              obtain rfl := q1_.symm
              obtain rfl := q2_.symm
              obtain rfl := q3_.symm
              rw [hLs.br] at hor
              obtain ⟨z, hz, hzz⟩ : ∃ z, v1 = some (.int (nI z)) ∧ z ≤ 1 ∧ (z = 0 ↔ lwC n c 0 (cds l) (Ns l) = 0) := hor.elim (fun h_ => ⟨0, h_.1, by omega, fun _ => f3_0.mpr h_.2, fun _ => rfl⟩) (fun h_ => ⟨1, h_.1, by omega, fun e_ => absurd e_ (by decide), fun e_ => by obtain ⟨_, _, _, h2_, _⟩ := h_.2; exact absurd (f3_0.mp e_) h2_.no⟩)
              obtain rfl := hz
              show CR _ _ 102 [some (.ref 96), some (.int (nI l)), some (.int (nI 1)), some (.int (nI 0)), none] [.int (nI z)] S G1 B1 J R _
              refine cn_ine (t := 109) d_38_102 (by decide) (by omega) (fun c102 => ?_) (fun c102 => ?_)
              · refine cn_ic (v := 0) d_38_109 (by decide) ?_
                refine cr_nx (pc' := 112) (al' := [some (.ref 96), some (.int (nI l)), some (.int (nI 1)), some (.int (nI 0)), some (.int (nI 0))]) (st' := []) d_38_110 (fun _ => rfl) ?_
                refine cr_nx (pc' := 114) (al' := [some (.ref 96), some (.int (nI l)), some (.int (nI 1)), some (.int (nI 0)), some (.int (nI 0))]) (st' := [.int (nI 0)]) d_38_112 (fun _ => rfl) ?_
                refine cn_ieq (t := 124) d_38_114 (by decide) (by first | omega | assumption | exact cu_36 (by omega) (cu_lt (by omega) (by omega))) (fun c114 => ?_) (fun c114 => ?_)
                · refine cr_nx (pc' := 125) (al' := [some (.ref 96), some (.int (nI l)), some (.int (nI 1)), some (.int (nI 0)), some (.int (nI 0))]) (st' := [.int (nI 1)]) d_38_124 (fun _ => rfl) ?_
                  refine cn_ieq (t := 130) d_38_125 (by decide) (by first | omega | assumption | exact cu_36 (by omega) (cu_lt (by omega) (by omega))) (fun c125 => ?_) (fun c125 => ?_)
                  · omega
                  · refine cn_ic (v := 0) d_38_128 (by decide) ?_
                    exact cr_ri d_38_129 cx_38 (by decide) ⟨by rw [← bI_f (fun e_ => (fun h_ => absurd (hzz.2.mpr ((h_ l hlK).1 (bt_p0.mp c45))) (by omega)) (ls_iff.mp e_))], ⟨rfl, rfl, rfl⟩, pl.1.tr hg1, fx_99 hF (pl.1.tr hg1) hk1.1, pl.2.1.tr hb1⟩
                · omega
              · refine cn_ic (v := 1) d_38_105 (by decide) ?_
                refine cr_nx (pc' := 110) (al' := [some (.ref 96), some (.int (nI l)), some (.int (nI 1)), some (.int (nI 0)), none]) (st' := [.int (nI 1)]) d_38_106 (fun _ => rfl) ?_
                refine cr_nx (pc' := 112) (al' := [some (.ref 96), some (.int (nI l)), some (.int (nI 1)), some (.int (nI 0)), some (.int (nI 1))]) (st' := []) d_38_110 (fun _ => rfl) ?_
                refine cr_nx (pc' := 114) (al' := [some (.ref 96), some (.int (nI l)), some (.int (nI 1)), some (.int (nI 0)), some (.int (nI 1))]) (st' := [.int (nI 1)]) d_38_112 (fun _ => rfl) ?_
                refine cn_ieq (t := 124) d_38_114 (by decide) (by first | omega | assumption | exact cu_36 (by omega) (cu_lt (by omega) (by omega))) (fun c114 => ?_) (fun c114 => ?_)
                · omega
                · refine cr_nx (pc' := 118) (al' := [some (.ref 96), some (.int (nI l)), some (.int (nI 1)), some (.int (nI 0)), some (.int (nI 1))]) (st' := [.int (nI 0)]) d_38_117 (fun _ => rfl) ?_
                  refine cn_ieq (t := 130) d_38_118 (by decide) (by first | omega | assumption | exact cu_36 (by omega) (cu_lt (by omega) (by omega))) (fun c118 => ?_) (fun c118 => ?_)
                  · refine cn_inc d_38_130 rfl rfl ?_
                    show CR _ _ 133 [some (.ref 96), some (.int (nI (l + 1))), some (.int (nI 1)), some (.int (nI 0)), some (.int (nI 1))] [] S G1 B1 J R _
                    refine cr_nx (pc' := 28) (al' := [some (.ref 96), some (.int (nI (l + 1))), some (.int (nI 1)), some (.int (nI 0)), some (.int (nI 1))]) (st' := []) d_38_133 (fun _ => rfl) ?_
                    refine cr_dr (al1 := [some (.ref 96), some (.int (nI (l + 1))), none, none, none]) (le_s (le_s (le_d rfl (le_d rfl (le_d rfl (le_n)))))) ?_
                    exact ihl (G1, B1) (⟨pl.1.tr hg1, pl.2.1.tr hb1, hk1, all_s (p := fun p => (hold.testBit p = true → lwC n c 0 (cds p) (Ns p) = 0) ∧ (no.testBit p = true → ¬ lwC n c 0 (cds p) (Ns p) = 0)) pl.2.2.2 ⟨fun _ => hzz.2.mp c102, fun h_ => absurd h_ (by rw [bt_e0.mp c62]; exact Bool.false_ne_true)⟩⟩)
                  · omega
            · omega
          · refine cn_ic (v := 1) d_38_65 (by decide) ?_
            refine cr_nx (pc' := 70) (al' := [some (.ref 96), some (.int (nI l)), some (.int (nI 1)), none, none]) (st' := [.int (nI 1)]) d_38_66 (fun _ => rfl) ?_
            refine cr_nx (pc' := 71) (al' := [some (.ref 96), some (.int (nI l)), some (.int (nI 1)), some (.int (nI 1)), none]) (st' := []) d_38_70 (fun _ => rfl) ?_
            refine cr_nx (pc' := 72) (al' := [some (.ref 96), some (.int (nI l)), some (.int (nI 1)), some (.int (nI 1)), none]) (st' := [.int (nI 1)]) d_38_71 (fun _ => rfl) ?_
            refine cn_ine (t := 79) d_38_72 (by decide) (by first | omega | assumption | exact cu_36 (by omega) (cu_lt (by omega) (by omega))) (fun c72 => ?_) (fun c72 => ?_)
            · have hlK : l < K := hbK l (bt_p0.mp c45)
              have hLs0 := (hK.2 l hlK).2
              have hLs := hLs0.cg (pl.1 _ (by have := hLs0.2.1; simp; omega)) (pl.2.1 _ (by have := hLs0.2.1; simp; omega))
              have hla := hLs0.2.1
              refine cr_nx (pc' := 80) (al' := [some (.ref 96), some (.int (nI l)), some (.int (nI 1)), some (.int (nI 1)), none]) (st' := [.ref 96]) d_38_79 (fun _ => rfl) ?_
              refine cr_gf (v := .ref 5) d_38_80 cw_38 cf_5_31 (hS.i (a := 96) (by decide) (by decide)) (hS.s (a := 96) (by decide) (by decide) rfl) (by decide) h4 ?_
              refine cr_nx (pc' := 84) (al' := [some (.ref 96), some (.int (nI l)), some (.int (nI 1)), some (.int (nI 1)), none]) (st' := [.int (nI l), .ref 5]) d_38_83 (fun _ => rfl) ?_
              refine cr_aa (a := 5) (v := .ref (la l)) d_38_84 (hS.i (a := 5) (by decide) (by decide)) (by decide) (hS.s (a := 5) (by decide) (by decide) rfl) (by decide) (show l < 8 by first | omega | assumption | exact cu_36 (by omega) (cu_lt (by omega) (by omega))) (show va_rf (R 5 l) = _ by rw [(hK.2 l hlK).1]; rfl) ?_
              refine cr_nx (pc' := 88) (al' := [some (.ref 96), some (.int (nI l)), some (.int (nI 1)), some (.int (nI 1)), none]) (st' := []) d_38_85 (fun _ => rfl) ?_
              refine cr_nx (pc' := 89) (al' := [some (.ref 96), some (.int (nI l)), some (.int (nI 1)), some (.int (nI 1)), none]) (st' := [.ref 96]) d_38_88 (fun _ => rfl) ?_
              refine cr_gf (v := .ref 99) d_38_89 cw_38 cf_5_21 (hS.i (a := 96) (by decide) (by decide)) (hS.s (a := 96) (by decide) (by decide) rfl) (by decide) (fx_96_2 hFw) ?_
              refine cr_nx (pc' := 93) (al' := [some (.ref 96), some (.int (nI l)), some (.int (nI 1)), some (.int (nI 1)), none]) (st' := [.ref 96, .ref 99]) d_38_92 (fun _ => rfl) ?_
              refine cr_gf (v := .ref 5) d_38_93 cw_38 cf_5_31 (hS.i (a := 96) (by decide) (by decide)) (hS.s (a := 96) (by decide) (by decide) rfl) (by decide) h4 ?_
              refine cr_nx (pc' := 97) (al' := [some (.ref 96), some (.int (nI l)), some (.int (nI 1)), some (.int (nI 1)), none]) (st' := [.int (nI l), .ref 5, .ref 99]) d_38_96 (fun _ => rfl) ?_
              refine cr_aa (a := 5) (v := .ref (la l)) d_38_97 (hS.i (a := 5) (by decide) (by decide)) (by decide) (hS.s (a := 5) (by decide) (by decide) rfl) (by decide) (show l < 8 by first | omega | assumption | exact cu_36 (by omega) (cu_lt (by omega) (by omega))) (show va_rf (R 5 l) = _ by rw [(hK.2 l hlK).1]; rfl) ?_
              refine cn_ic (v := 1) d_38_98 (by decide) ?_
              refine cr_cv (b := 99) (as := [.ref (la l), .int (nI 1)]) (al0 := [some (.ref 99), some (.ref (la l)), some (.int (nI 1)), none, none, none, none, none, none, none]) (r := []) d_38_99 cw_38 cm_5_67 cz_2 rfl rfl (hS.i (a := 99) (by decide) (by decide)) (by rw [cw_2]; exact (hS.s (a := 99) (by decide) (by decide) rfl)) (by rw [cw_2]; decide) rfl (cr_wk (Nat.le_of_ble_eq_true rfl) (k_failures1 (a := 99) (m := 98) (l := la l) hn6 hn hla2 hn (by omega) ⟨by omega, by omega, by omega, by omega⟩ ⟨by decide, by decide, by decide, by decide⟩ hLs.ok pl.2.2.1 hLs.1)) (fun v1 S1 G1 B1 J1 R1 h1 => ?_)
              obtain ⟨⟨q1_, q2_, q3_⟩, hg1, hb1, hk1, hor⟩ := h1
              obtain rfl := q1_.symm
              obtain rfl := q2_.symm
              obtain rfl := q3_.symm
              rw [hLs.br] at hor
              obtain ⟨z, hz, hzz⟩ : ∃ z, v1 = some (.int (nI z)) ∧ z ≤ 1 ∧ (z = 0 ↔ lwC n c 0 (cds l) (Ns l) = 0) := hor.elim (fun h_ => ⟨0, h_.1, by omega, fun _ => f3_0.mpr h_.2, fun _ => rfl⟩) (fun h_ => ⟨1, h_.1, by omega, fun e_ => absurd e_ (by decide), fun e_ => by obtain ⟨_, _, _, h2_, _⟩ := h_.2; exact absurd (f3_0.mp e_) h2_.no⟩)
              obtain rfl := hz
              show CR _ _ 102 [some (.ref 96), some (.int (nI l)), some (.int (nI 1)), some (.int (nI 1)), none] [.int (nI z)] S G1 B1 J R _
              refine cn_ine (t := 109) d_38_102 (by decide) (by omega) (fun c102 => ?_) (fun c102 => ?_)
              · refine cn_ic (v := 0) d_38_109 (by decide) ?_
                refine cr_nx (pc' := 112) (al' := [some (.ref 96), some (.int (nI l)), some (.int (nI 1)), some (.int (nI 1)), some (.int (nI 0))]) (st' := []) d_38_110 (fun _ => rfl) ?_
                refine cr_nx (pc' := 114) (al' := [some (.ref 96), some (.int (nI l)), some (.int (nI 1)), some (.int (nI 1)), some (.int (nI 0))]) (st' := [.int (nI 0)]) d_38_112 (fun _ => rfl) ?_
                refine cn_ieq (t := 124) d_38_114 (by decide) (by first | omega | assumption | exact cu_36 (by omega) (cu_lt (by omega) (by omega))) (fun c114 => ?_) (fun c114 => ?_)
                · refine cr_nx (pc' := 125) (al' := [some (.ref 96), some (.int (nI l)), some (.int (nI 1)), some (.int (nI 1)), some (.int (nI 0))]) (st' := [.int (nI 1)]) d_38_124 (fun _ => rfl) ?_
                  refine cn_ieq (t := 130) d_38_125 (by decide) (by first | omega | assumption | exact cu_36 (by omega) (cu_lt (by omega) (by omega))) (fun c125 => ?_) (fun c125 => ?_)
                  · omega
                  · refine cn_ic (v := 0) d_38_128 (by decide) ?_
                    exact cr_ri d_38_129 cx_38 (by decide) ⟨by rw [← bI_f (fun e_ => (fun h_ => absurd (hzz.2.mpr ((h_ l hlK).1 (bt_p0.mp c45))) (by omega)) (ls_iff.mp e_))], ⟨rfl, rfl, rfl⟩, pl.1.tr hg1, fx_99 hF (pl.1.tr hg1) hk1.1, pl.2.1.tr hb1⟩
                · omega
              · refine cn_ic (v := 1) d_38_105 (by decide) ?_
                refine cr_nx (pc' := 110) (al' := [some (.ref 96), some (.int (nI l)), some (.int (nI 1)), some (.int (nI 1)), none]) (st' := [.int (nI 1)]) d_38_106 (fun _ => rfl) ?_
                refine cr_nx (pc' := 112) (al' := [some (.ref 96), some (.int (nI l)), some (.int (nI 1)), some (.int (nI 1)), some (.int (nI 1))]) (st' := []) d_38_110 (fun _ => rfl) ?_
                refine cr_nx (pc' := 114) (al' := [some (.ref 96), some (.int (nI l)), some (.int (nI 1)), some (.int (nI 1)), some (.int (nI 1))]) (st' := [.int (nI 1)]) d_38_112 (fun _ => rfl) ?_
                refine cn_ieq (t := 124) d_38_114 (by decide) (by first | omega | assumption | exact cu_36 (by omega) (cu_lt (by omega) (by omega))) (fun c114 => ?_) (fun c114 => ?_)
                · omega
                · refine cr_nx (pc' := 118) (al' := [some (.ref 96), some (.int (nI l)), some (.int (nI 1)), some (.int (nI 1)), some (.int (nI 1))]) (st' := [.int (nI 1)]) d_38_117 (fun _ => rfl) ?_
                  refine cn_ieq (t := 130) d_38_118 (by decide) (by first | omega | assumption | exact cu_36 (by omega) (cu_lt (by omega) (by omega))) (fun c118 => ?_) (fun c118 => ?_)
                  · omega
                  · refine cr_nx (pc' := 128) (al' := [some (.ref 96), some (.int (nI l)), some (.int (nI 1)), some (.int (nI 1)), some (.int (nI 1))]) (st' := []) d_38_121 (fun _ => rfl) ?_
                    refine cn_ic (v := 0) d_38_128 (by decide) ?_
                    exact cr_ri d_38_129 cx_38 (by decide) ⟨by rw [← bI_f (fun e_ => (fun h_ => (h_ l hlK).2 (bt_p0.mp c62) (hzz.2.mp c102)) (ls_iff.mp e_))], ⟨rfl, rfl, rfl⟩, pl.1.tr hg1, fx_99 hF (pl.1.tr hg1) hk1.1, pl.2.1.tr hb1⟩
            · omega
    · show CR _ _ 28 [some (.ref 96), some (.int (nI 8)), none, none, none] [] S w_.1 w_.2 J R _
      have h4 : w_.1 96 4 = .ref 5 := by rw [pl.1 96 (by decide)]; exact h4
      have h5 : w_.1 96 5 = .int (nI hold) := by rw [pl.1 96 (by decide)]; exact h5
      have h6 : w_.1 96 6 = .int (nI no) := by rw [pl.1 96 (by decide)]; exact h6
      have hFw := fx_99 hF pl.1 pl.2.2.1.1
      refine cr_nx (pc' := 29) (al' := [some (.ref 96), some (.int (nI 8)), none, none, none]) (st' := [.int (nI 8)]) d_38_28 (fun _ => rfl) ?_
      refine cr_nx (pc' := 30) (al' := [some (.ref 96), some (.int (nI 8)), none, none, none]) (st' := [.ref 96, .int (nI 8)]) d_38_29 (fun _ => rfl) ?_
      refine cr_gf (v := .ref 5) d_38_30 cw_38 cf_5_31 (hS.i (a := 96) (by decide) (by decide)) (hS.s (a := 96) (by decide) (by decide) rfl) (by decide) h4 ?_
      refine cr_le d_38_33 (hS.i (a := 5) (by decide) (by decide)) (by decide) (by decide) (hS.s (a := 5) (by decide) (by decide) rfl) ?_
      refine cn_cge (t := 136) d_38_34 (by decide) (by omega) (by decide) (fun c34 => ?_) (fun c34 => ?_)
      · refine cn_ic (v := 1) d_38_136 (by decide) ?_
        exact cr_ri d_38_137 cx_38 (by decide) ⟨by rw [← bI_t (ls_iff.mpr (fun l_ hl_ => pl.2.2.2 l_ (by have := hK.1; omega)))], ⟨rfl, rfl, rfl⟩, pl.1, hFw, pl.2.1⟩
      · omega
  · refine cn_ic (v := 1) d_38_12 (by decide) ?_
    exact cr_ri d_38_13 cx_38 (by decide) ⟨by rw [← bI_t (ls_iff.mpr (fun l_ _ => ⟨fun e_ => absurd e_ (by rw [(or_0 c9).1, Nat.zero_testBit]; exact Bool.false_ne_true), fun e_ => absurd e_ (by rw [(or_0 c9).2, Nat.zero_testBit]; exact Bool.false_ne_true)⟩))], ⟨rfl, rfl, rfl⟩, Gfr.rf, hF, Bfr.rf⟩
