/-! Calls: feed, row; printed by wip/whole/gen_c42.py. -/
theorem z_255 (z : Int32) : 0 ≤ (z &&& nI 255).toInt ∧ (z &&& nI 255).toInt < 256 := by
  have h2 : (z.toBitVec &&& 255#32).toNat < 256 := by
    rw [BitVec.toNat_and]
    exact Nat.lt_of_le_of_lt Nat.and_le_right (by decide)
  have h3 : (z &&& nI 255).toInt = (z.toBitVec &&& 255#32).toInt := rfl
  rw [h3, BitVec.toInt_eq_toNat_of_lt (by omega)]
  omega
theorem z_i8 (z : Int32) : (z &&& nI 255).toInt8 = z.toInt8 := by
  rw [Int32.toInt8_and]
  exact Int8.and_neg_one
/-- byte k of a word -/
def fdB (w : Int32) (k : Nat) : Nat := (w >>> (nI (24 - 8 * k) &&& 31) &&& nI 255).toInt.toNat
theorem fd_l (w : Int32) (k : Nat) : fdB w k < 256 := by
  have := z_255 (w >>> (nI (24 - 8 * k) &&& 31))
  unfold fdB
  omega
theorem fd_n (w : Int32) (k : Nat) : nI (fdB w k) = w >>> (nI (24 - 8 * k) &&& 31) &&& nI 255 := by
  have h := z_255 (w >>> (nI (24 - 8 * k) &&& 31))
  apply Int32.toInt_inj.mp
  rw [nI_toInt (by have := fd_l w k; omega)]
  unfold fdB
  omega
theorem fd_8 (w : Int32) (k : Nat) : bI8 (fdB w k) = (w >>> (nI (24 - 8 * k) &&& 31)).toInt8.toInt32 := by
  unfold bI8
  rw [vp_nar_byte, fd_n, z_i8]
def fdT (T : Nat → Nat) (L : Nat) (a b c d e : Int32) (i : Nat) : Nat := if L + 16 ≤ i then fdB e (i - (L + 16)) else if L + 12 ≤ i then fdB d (i - (L + 12)) else if L + 8 ≤ i then fdB c (i - (L + 8)) else if L + 4 ≤ i then fdB b (i - (L + 4)) else if L ≤ i then fdB a (i - L) else T i
def fdW (a b c d e : Int32) (k : Nat) : Int32 := if k = 0 then a else if k = 1 then b else if k = 2 then c else if k = 3 then d else e
theorem fd_at {T : Nat → Nat} {L : Nat} {a b c d e : Int32} {i : Nat} (hi : i < 20) : fdT T L a b c d e (L + i) = fdB (fdW a b c d e (i / 4)) (i % 4) := by
  have h : i / 4 = 0 ∨ i / 4 = 1 ∨ i / 4 = 2 ∨ i / 4 = 3 ∨ i / 4 = 4 := by omega
  unfold fdT fdW
  rcases h with h | h | h | h | h
  · rw [h, if_neg (by omega), if_neg (by omega), if_neg (by omega), if_neg (by omega), if_pos (by omega), if_pos rfl, show L + i - L = i % 4 by omega]
  · rw [h, if_neg (by omega), if_neg (by omega), if_neg (by omega), if_pos (by omega), if_neg (by decide), if_pos rfl, show L + i - (L + 4) = i % 4 by omega]
  · rw [h, if_neg (by omega), if_neg (by omega), if_pos (by omega), if_neg (by decide), if_neg (by decide), if_pos rfl, show L + i - (L + 8) = i % 4 by omega]
  · rw [h, if_neg (by omega), if_pos (by omega), if_neg (by decide), if_neg (by decide), if_neg (by decide), if_pos rfl, show L + i - (L + 12) = i % 4 by omega]
  · rw [h, if_pos (by omega), if_neg (by decide), if_neg (by decide), if_neg (by decide), if_neg (by decide), show L + i - (L + 16) = i % 4 by omega]
theorem fd_lo {T : Nat → Nat} {L : Nat} {a b c d e : Int32} {i : Nat} (hi : i < L) : fdT T L a b c d e i = T i := by
  unfold fdT
  rw [if_neg (by omega), if_neg (by omega), if_neg (by omega), if_neg (by omega), if_neg (by omega)]
theorem fd_256 {T : Nat → Nat} {L : Nat} {a b c d e : Int32} {i : Nat} (hT : i < L → T i < 256) : fdT T L a b c d e i < 256 := by
  by_cases h : i < L
  · rw [fd_lo h]
    exact hT h
  · unfold fdT
    split
    · exact fd_l _ _
    · split
      · exact fd_l _ _
      · split
        · exact fd_l _ _
        · split
          · exact fd_l _ _
          · rw [if_pos (by omega)]
            exact fd_l _ _
theorem fd_w5 {f : Nat → Int32} {a b c d e : Int32} {k : Nat} (hk : k ≤ 4) : upd (upd (upd (upd (upd f 0 a) 1 b) 2 c) 3 d) 4 e k = fdW a b c d e k := by
  have h : k = 0 ∨ k = 1 ∨ k = 2 ∨ k = 3 ∨ k = 4 := by omega
  rcases h with h | h | h | h | h <;> subst h <;> rfl
def fdS (W : WS) (a b c d e : Int32) : WS := (wK W, wI W, fdT (wT W) (wL W) a b c d e, wL W + 20, wF W, wS W, wR W, wW W)
theorem k_putWord {S : CS} {G : Nat → Nat → Value} {B : Nat → Nat → Int32} {J : Nat → Nat → Int64} {R : Nat → Nat → Option Nat} (hS : ShOk S) (hF : FxG G) {w : Int32} {L : Nat} (hL : L + 4 ≤ 400) (h3 : G 2 3 = .int (nI L)) : CR 0 115 0 [some (.ref 2), some (.int w), none] [] S G B J R (fun r S' G' B' J' R' => r = none ∧ S' = S ∧ J' = J ∧ R' = R ∧ G' = up2 G 2 3 (.int (nI (L + 4))) ∧ ∃ f, B' = upr B 82 f ∧ ∀ i, f i = if L ≤ i ∧ i < L + 4 then nI (fdB w (i - L)) else B 82 i) := by
  refine cn_bp (v := 24) d_115_0 (by decide) ?_
  refine cr_nx (pc' := 3) (al' := [some (.ref 2), some (.int w), some (.int (nI 24))]) (st' := []) d_115_2 (fun _ => rfl) ?_
  refine cr_nx (pc' := 4) (al' := [some (.ref 2), some (.int w), some (.int (nI 24))]) (st' := [.int (nI 24)]) d_115_3 (fun _ => rfl) ?_
  refine cn_zlt (t := 49) d_115_4 (by decide) (by first | omega | assumption | exact cu_36 (by omega) (cu_lt (by omega) (by omega))) (fun c4 => ?_) (fun c4 => ?_)
  · exact c4.elim
  · refine cr_nx (pc' := 8) (al' := [some (.ref 2), some (.int w), some (.int (nI 24))]) (st' := [.ref 2]) d_115_7 (fun _ => rfl) ?_
    refine cr_gf (v := .int (nI L)) d_115_8 cw_115 cf_11_93 (hS.i (a := 2) (by decide) (by decide)) (hS.s (a := 2) (by decide) (by decide) rfl) (by decide) h3 ?_
    refine cn_sp (v := 400) d_115_11 (by decide) ?_
    refine cn_cge (t := 43) d_115_14 (by decide) (by first | omega | assumption | exact cu_36 (by omega) (cu_lt (by omega) (by omega))) (by first | omega | assumption | exact cu_36 (by omega) (cu_lt (by omega) (by omega))) (fun c14 => ?_) (fun c14 => ?_)
    · omega
    · refine cr_nx (pc' := 18) (al' := [some (.ref 2), some (.int w), some (.int (nI 24))]) (st' := [.ref 2]) d_115_17 (fun _ => rfl) ?_
      refine cr_gf (v := .ref 82) d_115_18 cw_115 cf_11_20 (hS.i (a := 2) (by decide) (by decide)) (hS.s (a := 2) (by decide) (by decide) rfl) (by decide) (fx_2_2 hF) ?_
      refine cr_nx (pc' := 22) (al' := [some (.ref 2), some (.int w), some (.int (nI 24))]) (st' := [.ref 2, .ref 82]) d_115_21 (fun _ => rfl) ?_
      refine cr_gf (v := .int (nI L)) d_115_22 cw_115 cf_11_93 (hS.i (a := 2) (by decide) (by decide)) (hS.s (a := 2) (by decide) (by decide) rfl) (by decide) h3 ?_
      refine cr_nx (pc' := 26) (al' := [some (.ref 2), some (.int w), some (.int (nI 24))]) (st' := [.int w, .int (nI L), .ref 82]) d_115_25 (fun _ => rfl) ?_
      refine cr_nx (pc' := 27) (al' := [some (.ref 2), some (.int w), some (.int (nI 24))]) (st' := [.int (nI 24), .int w, .int (nI L), .ref 82]) d_115_26 (fun _ => rfl) ?_
      refine cr_nx (pc' := 28) (al' := [some (.ref 2), some (.int w), some (.int (nI 24))]) (st' := [.int (w >>> ((nI 24) &&& 31)), .int (nI L), .ref 82]) d_115_27 (fun _ => rfl) ?_
      refine cn_sp (v := 255) d_115_28 (by decide) ?_
      refine cr_nx (pc' := 32) (al' := [some (.ref 2), some (.int w), some (.int (nI 24))]) (st' := [.int ((w >>> ((nI 24) &&& 31)) &&& (nI 255)), .int (nI L), .ref 82]) d_115_31 (fun _ => rfl) ?_
      refine cr_iS (a := 82) (B1 := (upr B 82 (upd (B 82) L ((w >>> ((nI 24) &&& 31)) &&& (nI 255))))) d_115_32 (hS.i (a := 82) (by decide) (by decide)) (hS.s (a := 82) (by decide) (by decide) rfl) (by first | decide | omega) (show L < 400 by first | omega | assumption | exact cu_36 (by omega) (cu_lt (by omega) (by omega))) rfl ?_
      refine cr_nx (pc' := 34) (al' := [some (.ref 2), some (.int w), some (.int (nI 24))]) (st' := [.ref 2]) d_115_33 (fun _ => rfl) ?_
      refine cr_nx (pc' := 35) (al' := [some (.ref 2), some (.int w), some (.int (nI 24))]) (st' := [.ref 2, .ref 2]) d_115_34 (fun _ => rfl) ?_
      refine cr_gf (v := .int (nI L)) d_115_35 cw_115 cf_11_93 (hS.i (a := 2) (by decide) (by decide)) (hS.s (a := 2) (by decide) (by decide) rfl) (by decide) h3 ?_
      refine cn_ic (v := 1) d_115_38 (by decide) ?_
      refine cn_add d_115_39  ?_
      refine cp_11_3  d_115_40 cw_115 cf_11_93 (hS.i (a := 2) (by decide) (by decide)) (hS.s (a := 2) (by decide) (by decide) rfl) (by decide) ?_
      refine cr_nx (pc' := 46) (al' := [some (.ref 2), some (.int w), some (.int (nI 16))]) (st' := []) d_115_43 (fun _ => rfl) ?_
      refine cr_nx (pc' := 3) (al' := [some (.ref 2), some (.int w), some (.int (nI 16))]) (st' := []) d_115_46 (fun _ => rfl) ?_
      refine cr_nx (pc' := 4) (al' := [some (.ref 2), some (.int w), some (.int (nI 16))]) (st' := [.int (nI 16)]) d_115_3 (fun _ => rfl) ?_
      refine cn_zlt (t := 49) d_115_4 (by decide) (by first | omega | assumption | exact cu_36 (by omega) (cu_lt (by omega) (by omega))) (fun c4 => ?_) (fun c4 => ?_)
      · exact c4.elim
      · refine cr_nx (pc' := 8) (al' := [some (.ref 2), some (.int w), some (.int (nI 16))]) (st' := [.ref 2]) d_115_7 (fun _ => rfl) ?_
        refine cr_gf (v := .int (nI (L + 1))) d_115_8 cw_115 cf_11_93 (hS.i (a := 2) (by decide) (by decide)) (hS.s (a := 2) (by decide) (by decide) rfl) (by decide) (by simp [up2]) ?_
        refine cn_sp (v := 400) d_115_11 (by decide) ?_
        refine cn_cge (t := 43) d_115_14 (by decide) (by first | omega | assumption | exact cu_36 (by omega) (cu_lt (by omega) (by omega))) (by first | omega | assumption | exact cu_36 (by omega) (cu_lt (by omega) (by omega))) (fun c14 => ?_) (fun c14 => ?_)
        · omega
        · refine cr_nx (pc' := 18) (al' := [some (.ref 2), some (.int w), some (.int (nI 16))]) (st' := [.ref 2]) d_115_17 (fun _ => rfl) ?_
          refine cr_gf (v := .ref 82) d_115_18 cw_115 cf_11_20 (hS.i (a := 2) (by decide) (by decide)) (hS.s (a := 2) (by decide) (by decide) rfl) (by decide) (by simp [up2]; exact (fx_2_2 hF)) ?_
          refine cr_nx (pc' := 22) (al' := [some (.ref 2), some (.int w), some (.int (nI 16))]) (st' := [.ref 2, .ref 82]) d_115_21 (fun _ => rfl) ?_
          refine cr_gf (v := .int (nI (L + 1))) d_115_22 cw_115 cf_11_93 (hS.i (a := 2) (by decide) (by decide)) (hS.s (a := 2) (by decide) (by decide) rfl) (by decide) (by simp [up2]) ?_
          refine cr_nx (pc' := 26) (al' := [some (.ref 2), some (.int w), some (.int (nI 16))]) (st' := [.int w, .int (nI (L + 1)), .ref 82]) d_115_25 (fun _ => rfl) ?_
          refine cr_nx (pc' := 27) (al' := [some (.ref 2), some (.int w), some (.int (nI 16))]) (st' := [.int (nI 16), .int w, .int (nI (L + 1)), .ref 82]) d_115_26 (fun _ => rfl) ?_
          refine cr_nx (pc' := 28) (al' := [some (.ref 2), some (.int w), some (.int (nI 16))]) (st' := [.int (w >>> ((nI 16) &&& 31)), .int (nI (L + 1)), .ref 82]) d_115_27 (fun _ => rfl) ?_
          refine cn_sp (v := 255) d_115_28 (by decide) ?_
          refine cr_nx (pc' := 32) (al' := [some (.ref 2), some (.int w), some (.int (nI 16))]) (st' := [.int ((w >>> ((nI 16) &&& 31)) &&& (nI 255)), .int (nI (L + 1)), .ref 82]) d_115_31 (fun _ => rfl) ?_
          refine cr_iS (a := 82) (B1 := (upr B 82 (upd (upd (B 82) L ((w >>> ((nI 24) &&& 31)) &&& (nI 255))) (L + 1) ((w >>> ((nI 16) &&& 31)) &&& (nI 255))))) d_115_32 (hS.i (a := 82) (by decide) (by decide)) (hS.s (a := 82) (by decide) (by decide) rfl) (by first | decide | omega) (show L + 1 < 400 by first | omega | assumption | exact cu_36 (by omega) (cu_lt (by omega) (by omega))) (by rw [upr_s, upr_u]) ?_
          refine cr_nx (pc' := 34) (al' := [some (.ref 2), some (.int w), some (.int (nI 16))]) (st' := [.ref 2]) d_115_33 (fun _ => rfl) ?_
          refine cr_nx (pc' := 35) (al' := [some (.ref 2), some (.int w), some (.int (nI 16))]) (st' := [.ref 2, .ref 2]) d_115_34 (fun _ => rfl) ?_
          refine cr_gf (v := .int (nI (L + 1))) d_115_35 cw_115 cf_11_93 (hS.i (a := 2) (by decide) (by decide)) (hS.s (a := 2) (by decide) (by decide) rfl) (by decide) (by simp [up2]) ?_
          refine cn_ic (v := 1) d_115_38 (by decide) ?_
          refine cn_add d_115_39  ?_
          refine cp_11_3  d_115_40 cw_115 cf_11_93 (hS.i (a := 2) (by decide) (by decide)) (hS.s (a := 2) (by decide) (by decide) rfl) (by decide) ?_
          refine cr_G up2_u ?_
          refine cr_nx (pc' := 46) (al' := [some (.ref 2), some (.int w), some (.int (nI 8))]) (st' := []) d_115_43 (fun _ => rfl) ?_
          refine cr_nx (pc' := 3) (al' := [some (.ref 2), some (.int w), some (.int (nI 8))]) (st' := []) d_115_46 (fun _ => rfl) ?_
          refine cr_nx (pc' := 4) (al' := [some (.ref 2), some (.int w), some (.int (nI 8))]) (st' := [.int (nI 8)]) d_115_3 (fun _ => rfl) ?_
          refine cn_zlt (t := 49) d_115_4 (by decide) (by first | omega | assumption | exact cu_36 (by omega) (cu_lt (by omega) (by omega))) (fun c4 => ?_) (fun c4 => ?_)
          · exact c4.elim
          · refine cr_nx (pc' := 8) (al' := [some (.ref 2), some (.int w), some (.int (nI 8))]) (st' := [.ref 2]) d_115_7 (fun _ => rfl) ?_
            refine cr_gf (v := .int (nI ((L + 1) + 1))) d_115_8 cw_115 cf_11_93 (hS.i (a := 2) (by decide) (by decide)) (hS.s (a := 2) (by decide) (by decide) rfl) (by decide) (by simp [up2]) ?_
            refine cn_sp (v := 400) d_115_11 (by decide) ?_
            refine cn_cge (t := 43) d_115_14 (by decide) (by first | omega | assumption | exact cu_36 (by omega) (cu_lt (by omega) (by omega))) (by first | omega | assumption | exact cu_36 (by omega) (cu_lt (by omega) (by omega))) (fun c14 => ?_) (fun c14 => ?_)
            · omega
            · refine cr_nx (pc' := 18) (al' := [some (.ref 2), some (.int w), some (.int (nI 8))]) (st' := [.ref 2]) d_115_17 (fun _ => rfl) ?_
              refine cr_gf (v := .ref 82) d_115_18 cw_115 cf_11_20 (hS.i (a := 2) (by decide) (by decide)) (hS.s (a := 2) (by decide) (by decide) rfl) (by decide) (by simp [up2]; exact (fx_2_2 hF)) ?_
              refine cr_nx (pc' := 22) (al' := [some (.ref 2), some (.int w), some (.int (nI 8))]) (st' := [.ref 2, .ref 82]) d_115_21 (fun _ => rfl) ?_
              refine cr_gf (v := .int (nI ((L + 1) + 1))) d_115_22 cw_115 cf_11_93 (hS.i (a := 2) (by decide) (by decide)) (hS.s (a := 2) (by decide) (by decide) rfl) (by decide) (by simp [up2]) ?_
              refine cr_nx (pc' := 26) (al' := [some (.ref 2), some (.int w), some (.int (nI 8))]) (st' := [.int w, .int (nI ((L + 1) + 1)), .ref 82]) d_115_25 (fun _ => rfl) ?_
              refine cr_nx (pc' := 27) (al' := [some (.ref 2), some (.int w), some (.int (nI 8))]) (st' := [.int (nI 8), .int w, .int (nI ((L + 1) + 1)), .ref 82]) d_115_26 (fun _ => rfl) ?_
              refine cr_nx (pc' := 28) (al' := [some (.ref 2), some (.int w), some (.int (nI 8))]) (st' := [.int (w >>> ((nI 8) &&& 31)), .int (nI ((L + 1) + 1)), .ref 82]) d_115_27 (fun _ => rfl) ?_
              refine cn_sp (v := 255) d_115_28 (by decide) ?_
              refine cr_nx (pc' := 32) (al' := [some (.ref 2), some (.int w), some (.int (nI 8))]) (st' := [.int ((w >>> ((nI 8) &&& 31)) &&& (nI 255)), .int (nI ((L + 1) + 1)), .ref 82]) d_115_31 (fun _ => rfl) ?_
              refine cr_iS (a := 82) (B1 := (upr B 82 (upd (upd (upd (B 82) L ((w >>> ((nI 24) &&& 31)) &&& (nI 255))) (L + 1) ((w >>> ((nI 16) &&& 31)) &&& (nI 255))) ((L + 1) + 1) ((w >>> ((nI 8) &&& 31)) &&& (nI 255))))) d_115_32 (hS.i (a := 82) (by decide) (by decide)) (hS.s (a := 82) (by decide) (by decide) rfl) (by first | decide | omega) (show (L + 1) + 1 < 400 by first | omega | assumption | exact cu_36 (by omega) (cu_lt (by omega) (by omega))) (by rw [upr_s, upr_u]) ?_
              refine cr_nx (pc' := 34) (al' := [some (.ref 2), some (.int w), some (.int (nI 8))]) (st' := [.ref 2]) d_115_33 (fun _ => rfl) ?_
              refine cr_nx (pc' := 35) (al' := [some (.ref 2), some (.int w), some (.int (nI 8))]) (st' := [.ref 2, .ref 2]) d_115_34 (fun _ => rfl) ?_
              refine cr_gf (v := .int (nI ((L + 1) + 1))) d_115_35 cw_115 cf_11_93 (hS.i (a := 2) (by decide) (by decide)) (hS.s (a := 2) (by decide) (by decide) rfl) (by decide) (by simp [up2]) ?_
              refine cn_ic (v := 1) d_115_38 (by decide) ?_
              refine cn_add d_115_39  ?_
              refine cp_11_3  d_115_40 cw_115 cf_11_93 (hS.i (a := 2) (by decide) (by decide)) (hS.s (a := 2) (by decide) (by decide) rfl) (by decide) ?_
              refine cr_G up2_u ?_
              refine cr_nx (pc' := 46) (al' := [some (.ref 2), some (.int w), some (.int (nI 0))]) (st' := []) d_115_43 (fun _ => rfl) ?_
              refine cr_nx (pc' := 3) (al' := [some (.ref 2), some (.int w), some (.int (nI 0))]) (st' := []) d_115_46 (fun _ => rfl) ?_
              refine cr_nx (pc' := 4) (al' := [some (.ref 2), some (.int w), some (.int (nI 0))]) (st' := [.int (nI 0)]) d_115_3 (fun _ => rfl) ?_
              refine cn_zlt (t := 49) d_115_4 (by decide) (by first | omega | assumption | exact cu_36 (by omega) (cu_lt (by omega) (by omega))) (fun c4 => ?_) (fun c4 => ?_)
              · exact c4.elim
              · refine cr_nx (pc' := 8) (al' := [some (.ref 2), some (.int w), some (.int (nI 0))]) (st' := [.ref 2]) d_115_7 (fun _ => rfl) ?_
                refine cr_gf (v := .int (nI (((L + 1) + 1) + 1))) d_115_8 cw_115 cf_11_93 (hS.i (a := 2) (by decide) (by decide)) (hS.s (a := 2) (by decide) (by decide) rfl) (by decide) (by simp [up2]) ?_
                refine cn_sp (v := 400) d_115_11 (by decide) ?_
                refine cn_cge (t := 43) d_115_14 (by decide) (by first | omega | assumption | exact cu_36 (by omega) (cu_lt (by omega) (by omega))) (by first | omega | assumption | exact cu_36 (by omega) (cu_lt (by omega) (by omega))) (fun c14 => ?_) (fun c14 => ?_)
                · omega
                · refine cr_nx (pc' := 18) (al' := [some (.ref 2), some (.int w), some (.int (nI 0))]) (st' := [.ref 2]) d_115_17 (fun _ => rfl) ?_
                  refine cr_gf (v := .ref 82) d_115_18 cw_115 cf_11_20 (hS.i (a := 2) (by decide) (by decide)) (hS.s (a := 2) (by decide) (by decide) rfl) (by decide) (by simp [up2]; exact (fx_2_2 hF)) ?_
                  refine cr_nx (pc' := 22) (al' := [some (.ref 2), some (.int w), some (.int (nI 0))]) (st' := [.ref 2, .ref 82]) d_115_21 (fun _ => rfl) ?_
                  refine cr_gf (v := .int (nI (((L + 1) + 1) + 1))) d_115_22 cw_115 cf_11_93 (hS.i (a := 2) (by decide) (by decide)) (hS.s (a := 2) (by decide) (by decide) rfl) (by decide) (by simp [up2]) ?_
                  refine cr_nx (pc' := 26) (al' := [some (.ref 2), some (.int w), some (.int (nI 0))]) (st' := [.int w, .int (nI (((L + 1) + 1) + 1)), .ref 82]) d_115_25 (fun _ => rfl) ?_
                  refine cr_nx (pc' := 27) (al' := [some (.ref 2), some (.int w), some (.int (nI 0))]) (st' := [.int (nI 0), .int w, .int (nI (((L + 1) + 1) + 1)), .ref 82]) d_115_26 (fun _ => rfl) ?_
                  refine cr_nx (pc' := 28) (al' := [some (.ref 2), some (.int w), some (.int (nI 0))]) (st' := [.int (w >>> ((nI 0) &&& 31)), .int (nI (((L + 1) + 1) + 1)), .ref 82]) d_115_27 (fun _ => rfl) ?_
                  refine cn_sp (v := 255) d_115_28 (by decide) ?_
                  refine cr_nx (pc' := 32) (al' := [some (.ref 2), some (.int w), some (.int (nI 0))]) (st' := [.int ((w >>> ((nI 0) &&& 31)) &&& (nI 255)), .int (nI (((L + 1) + 1) + 1)), .ref 82]) d_115_31 (fun _ => rfl) ?_
                  refine cr_iS (a := 82) (B1 := (upr B 82 (upd (upd (upd (upd (B 82) L ((w >>> ((nI 24) &&& 31)) &&& (nI 255))) (L + 1) ((w >>> ((nI 16) &&& 31)) &&& (nI 255))) ((L + 1) + 1) ((w >>> ((nI 8) &&& 31)) &&& (nI 255))) (((L + 1) + 1) + 1) ((w >>> ((nI 0) &&& 31)) &&& (nI 255))))) d_115_32 (hS.i (a := 82) (by decide) (by decide)) (hS.s (a := 82) (by decide) (by decide) rfl) (by first | decide | omega) (show ((L + 1) + 1) + 1 < 400 by first | omega | assumption | exact cu_36 (by omega) (cu_lt (by omega) (by omega))) (by rw [upr_s, upr_u]) ?_
                  refine cr_nx (pc' := 34) (al' := [some (.ref 2), some (.int w), some (.int (nI 0))]) (st' := [.ref 2]) d_115_33 (fun _ => rfl) ?_
                  refine cr_nx (pc' := 35) (al' := [some (.ref 2), some (.int w), some (.int (nI 0))]) (st' := [.ref 2, .ref 2]) d_115_34 (fun _ => rfl) ?_
                  refine cr_gf (v := .int (nI (((L + 1) + 1) + 1))) d_115_35 cw_115 cf_11_93 (hS.i (a := 2) (by decide) (by decide)) (hS.s (a := 2) (by decide) (by decide) rfl) (by decide) (by simp [up2]) ?_
                  refine cn_ic (v := 1) d_115_38 (by decide) ?_
                  refine cn_add d_115_39  ?_
                  refine cp_11_3  d_115_40 cw_115 cf_11_93 (hS.i (a := 2) (by decide) (by decide)) (hS.s (a := 2) (by decide) (by decide) rfl) (by decide) ?_
                  refine cr_G up2_u ?_
                  refine cr_nx (pc' := 46) (al' := [some (.ref 2), some (.int w), some (.int (-8))]) (st' := []) d_115_43 (fun _ => rfl) ?_
                  refine cr_nx (pc' := 3) (al' := [some (.ref 2), some (.int w), some (.int (-8))]) (st' := []) d_115_46 (fun _ => rfl) ?_
                  refine cr_nx (pc' := 4) (al' := [some (.ref 2), some (.int w), some (.int (-8))]) (st' := [.int (-8)]) d_115_3 (fun _ => rfl) ?_
                  refine cr_ilt (t := 49) d_115_4 (by decide) (fun c4 => ?_) (fun c4 => ?_)
                  · have hfin : ∀ i, (upd (upd (upd (upd (B 82) L ((w >>> ((nI 24) &&& 31)) &&& (nI 255))) (L + 1) ((w >>> ((nI 16) &&& 31)) &&& (nI 255))) ((L + 1) + 1) ((w >>> ((nI 8) &&& 31)) &&& (nI 255))) (((L + 1) + 1) + 1) ((w >>> ((nI 0) &&& 31)) &&& (nI 255))) i = if L ≤ i ∧ i < L + 4 then nI (fdB w (i - L)) else B 82 i := fun i => by
                        by_cases e3 : i = L + 1 + 1 + 1
                        · rw [e3, pk_us, if_pos (by omega), show L + 1 + 1 + 1 - L = 3 by omega, fd_n]
                        · rw [pk_un e3]
                          by_cases e2 : i = L + 1 + 1
                          · rw [e2, pk_us, if_pos (by omega), show L + 1 + 1 - L = 2 by omega, fd_n]
                          · rw [pk_un e2]
                            by_cases e1 : i = L + 1
                            · rw [e1, pk_us, if_pos (by omega), show L + 1 - L = 1 by omega, fd_n]
                            · rw [pk_un e1]
                              by_cases e0 : i = L
                              · rw [e0, pk_us, if_pos (by omega), show L - L = 0 by omega, fd_n]
                              · rw [pk_un e0, if_neg (by omega)]
                    exact cr_rv d_115_49 cx_115 ⟨rfl, rfl, rfl, rfl, rfl, _, rfl, hfin⟩
                  · exact absurd (by decide) c4
theorem p_feed_y {S : CS} {G : Nat → Nat → Value} {B : Nat → Nat → Int32} {J : Nat → Nat → Int64} {R : Nat → Nat → Option Nat} {n : Nat} {W : WS} (hW : WC n S G B R W) {a b c d e : Int32} (hL : wL W + 20 ≤ 400) : CR 80 114 0 [some (.ref 2), some (.int a), some (.int b), some (.int c), some (.int d), some (.int e)] [] S G B J R (fun r__ S' G' B' J' R' => r__ = some (.int (nI (wL W + 20))) ∧ WC (n + 1) S' G' B' R' (fdS W a b c d e)) := by
  have hS := hW.1.1
  have hF := hW.2.1
  have hO := hW.2.2.2.1
  obtain ⟨ta, ka, la, hH, hLk, hl2, hs3, hbd⟩ := hW.2.2.1
  have h400 := hW.2.2.2.2.2.1.1
  have hT := hW.2.2.2.2.2.1.2.2
  refine cr_nx (pc' := 1) (al' := [some (.ref 2), some (.int a), some (.int b), some (.int c), some (.int d), some (.int e)]) (st' := [.ref 2]) d_114_0 (fun _ => rfl) ?_
  refine cr_gf (v := .int (nI (wL W))) d_114_1 cw_114 cf_11_93 (hS.i (a := 2) (by decide) (by decide)) (hS.s (a := 2) (by decide) (by decide) rfl) (by decide) hW.2.2.2.2.2.1.2.1 ?_
  refine cn_bp (v := 20) d_114_4 (by decide) ?_
  refine cn_add d_114_6  ?_
  refine cn_sp (v := 400) d_114_7 (by decide) ?_
  refine cn_cle (t := 15) d_114_10 (by decide) (by first | omega | assumption | exact cu_36 (by omega) (cu_lt (by omega) (by omega))) (by first | omega | assumption | exact cu_36 (by omega) (cu_lt (by omega) (by omega))) (fun c10 => ?_) (fun c10 => ?_)
  · refine cr_nx (pc' := 16) (al' := [some (.ref 2), some (.int a), some (.int b), some (.int c), some (.int d), some (.int e)]) (st' := [.ref 2]) d_114_15 (fun _ => rfl) ?_
    refine cr_nx (pc' := 17) (al' := [some (.ref 2), some (.int a), some (.int b), some (.int c), some (.int d), some (.int e)]) (st' := [.int a, .ref 2]) d_114_16 (fun _ => rfl) ?_
    refine cr_cv (b := 2) (as := [.int a]) (al0 := [some (.ref 2), some (.int a), none]) (r := []) d_114_17 cw_114 cm_11_96 cz_115 rfl rfl (hS.i (a := 2) (by decide) (by decide)) (by rw [cw_115]; exact (hS.s (a := 2) (by decide) (by decide) rfl)) (by rw [cw_115]; decide) rfl (cr_wk (Nat.le_of_ble_eq_true rfl) (k_putWord (L := wL W) hS hF (by omega) hW.2.2.2.2.2.1.2.1)) (fun v1 S1 G1 B1 J1 R1 h1x => ?_)
    obtain ⟨q0_, q1_, q2_, q3_, q4_, f0, q5_, hf0⟩ := h1x
    obtain rfl := q0_
    obtain rfl := q1_.symm
    obtain rfl := q2_.symm
    obtain rfl := q3_.symm
    obtain rfl := q4_
    obtain rfl := q5_
    show CR _ _ 20 [some (.ref 2), some (.int a), some (.int b), some (.int c), some (.int d), some (.int e)] [] S (up2 G 2 3 (.int (nI (wL W + 4)))) (upr B 82 f0) J R _
    refine cr_nx (pc' := 21) (al' := [some (.ref 2), some (.int a), some (.int b), some (.int c), some (.int d), some (.int e)]) (st' := [.ref 2]) d_114_20 (fun _ => rfl) ?_
    refine cr_nx (pc' := 22) (al' := [some (.ref 2), some (.int a), some (.int b), some (.int c), some (.int d), some (.int e)]) (st' := [.int b, .ref 2]) d_114_21 (fun _ => rfl) ?_
    refine cr_cv (b := 2) (as := [.int b]) (al0 := [some (.ref 2), some (.int b), none]) (r := []) d_114_22 cw_114 cm_11_96 cz_115 rfl rfl (hS.i (a := 2) (by decide) (by decide)) (by rw [cw_115]; exact (hS.s (a := 2) (by decide) (by decide) rfl)) (by rw [cw_115]; decide) rfl (cr_wk (Nat.le_of_ble_eq_true rfl) (k_putWord (L := wL W + 4) hS hF.u2 (by omega) up2_s)) (fun v1 S1 G1 B1 J1 R1 h1x => ?_)
    obtain ⟨q0_, q1_, q2_, q3_, q4_, f1, q5_, hf1⟩ := h1x
    obtain rfl := q0_
    obtain rfl := q1_.symm
    obtain rfl := q2_.symm
    obtain rfl := q3_.symm
    obtain rfl := q4_
    obtain rfl := q5_
    rw [up2_u, upr_u]
    rw [upr_s] at hf1
    show CR _ _ 25 [some (.ref 2), some (.int a), some (.int b), some (.int c), some (.int d), some (.int e)] [] S (up2 G 2 3 (.int (nI (wL W + 8)))) (upr B 82 f1) J R _
    refine cr_nx (pc' := 26) (al' := [some (.ref 2), some (.int a), some (.int b), some (.int c), some (.int d), some (.int e)]) (st' := [.ref 2]) d_114_25 (fun _ => rfl) ?_
    refine cr_nx (pc' := 27) (al' := [some (.ref 2), some (.int a), some (.int b), some (.int c), some (.int d), some (.int e)]) (st' := [.int c, .ref 2]) d_114_26 (fun _ => rfl) ?_
    refine cr_cv (b := 2) (as := [.int c]) (al0 := [some (.ref 2), some (.int c), none]) (r := []) d_114_27 cw_114 cm_11_96 cz_115 rfl rfl (hS.i (a := 2) (by decide) (by decide)) (by rw [cw_115]; exact (hS.s (a := 2) (by decide) (by decide) rfl)) (by rw [cw_115]; decide) rfl (cr_wk (Nat.le_of_ble_eq_true rfl) (k_putWord (L := wL W + 8) hS hF.u2 (by omega) up2_s)) (fun v1 S1 G1 B1 J1 R1 h1x => ?_)
    obtain ⟨q0_, q1_, q2_, q3_, q4_, f2, q5_, hf2⟩ := h1x
    obtain rfl := q0_
    obtain rfl := q1_.symm
    obtain rfl := q2_.symm
    obtain rfl := q3_.symm
    obtain rfl := q4_
    obtain rfl := q5_
    rw [up2_u, upr_u]
    rw [upr_s] at hf2
    show CR _ _ 30 [some (.ref 2), some (.int a), some (.int b), some (.int c), some (.int d), some (.int e)] [] S (up2 G 2 3 (.int (nI (wL W + 12)))) (upr B 82 f2) J R _
    refine cr_nx (pc' := 31) (al' := [some (.ref 2), some (.int a), some (.int b), some (.int c), some (.int d), some (.int e)]) (st' := [.ref 2]) d_114_30 (fun _ => rfl) ?_
    refine cr_nx (pc' := 33) (al' := [some (.ref 2), some (.int a), some (.int b), some (.int c), some (.int d), some (.int e)]) (st' := [.int d, .ref 2]) d_114_31 (fun _ => rfl) ?_
    refine cr_cv (b := 2) (as := [.int d]) (al0 := [some (.ref 2), some (.int d), none]) (r := []) d_114_33 cw_114 cm_11_96 cz_115 rfl rfl (hS.i (a := 2) (by decide) (by decide)) (by rw [cw_115]; exact (hS.s (a := 2) (by decide) (by decide) rfl)) (by rw [cw_115]; decide) rfl (cr_wk (Nat.le_of_ble_eq_true rfl) (k_putWord (L := wL W + 12) hS hF.u2 (by omega) up2_s)) (fun v1 S1 G1 B1 J1 R1 h1x => ?_)
    obtain ⟨q0_, q1_, q2_, q3_, q4_, f3, q5_, hf3⟩ := h1x
    obtain rfl := q0_
    obtain rfl := q1_.symm
    obtain rfl := q2_.symm
    obtain rfl := q3_.symm
    obtain rfl := q4_
    obtain rfl := q5_
    rw [up2_u, upr_u]
    rw [upr_s] at hf3
    show CR _ _ 36 [some (.ref 2), some (.int a), some (.int b), some (.int c), some (.int d), some (.int e)] [] S (up2 G 2 3 (.int (nI (wL W + 16)))) (upr B 82 f3) J R _
    refine cr_nx (pc' := 37) (al' := [some (.ref 2), some (.int a), some (.int b), some (.int c), some (.int d), some (.int e)]) (st' := [.ref 2]) d_114_36 (fun _ => rfl) ?_
    refine cr_nx (pc' := 39) (al' := [some (.ref 2), some (.int a), some (.int b), some (.int c), some (.int d), some (.int e)]) (st' := [.int e, .ref 2]) d_114_37 (fun _ => rfl) ?_
    refine cr_cv (b := 2) (as := [.int e]) (al0 := [some (.ref 2), some (.int e), none]) (r := []) d_114_39 cw_114 cm_11_96 cz_115 rfl rfl (hS.i (a := 2) (by decide) (by decide)) (by rw [cw_115]; exact (hS.s (a := 2) (by decide) (by decide) rfl)) (by rw [cw_115]; decide) rfl (cr_wk (Nat.le_of_ble_eq_true rfl) (k_putWord (L := wL W + 16) hS hF.u2 (by omega) up2_s)) (fun v1 S1 G1 B1 J1 R1 h1x => ?_)
    obtain ⟨q0_, q1_, q2_, q3_, q4_, f4, q5_, hf4⟩ := h1x
    obtain rfl := q0_
    obtain rfl := q1_.symm
    obtain rfl := q2_.symm
    obtain rfl := q3_.symm
    obtain rfl := q4_
    obtain rfl := q5_
    rw [up2_u, upr_u]
    rw [upr_s] at hf4
    show CR _ _ 42 [some (.ref 2), some (.int a), some (.int b), some (.int c), some (.int d), some (.int e)] [] S (up2 G 2 3 (.int (nI (wL W + 20)))) (upr B 82 f4) J R _
    refine cr_nx (pc' := 43) (al' := [some (.ref 2), some (.int a), some (.int b), some (.int c), some (.int d), some (.int e)]) (st' := [.ref 2]) d_114_42 (fun _ => rfl) ?_
    refine cr_gf (v := .int (nI (wL W + 20))) d_114_43 cw_114 cf_11_93 (hS.i (a := 2) (by decide) (by decide)) (hS.s (a := 2) (by decide) (by decide) rfl) (by decide) (by simp [up2]) ?_
    have hfin : WC n S (up2 G 2 3 (.int (nI (wL W + 20)))) (upr B 82 f4) R (fdS W a b c d e) := hW.u2 hF.u2 (fun b_ hb_ => up2_g hb_) (fun b_ _ hb_ => upr_n hb_) rfl rfl rfl ⟨by show wL W + 20 ≤ 400; omega, up2_s, (fun i hi => by
          have hi : i < wL W + 20 := hi
          refine ⟨?_, fd_256 (fun h_ => (hT i h_).2)⟩
          rw [upr_s, hf4 i]
          show _ = nI (fdT (wT W) (wL W) a b c d e i)
          unfold fdT
          by_cases c4 : wL W + 16 ≤ i
          · rw [if_pos ⟨c4, by omega⟩, if_pos c4]
          · rw [if_neg (fun h_ => c4 h_.1), if_neg c4, hf3 i]
            by_cases c3 : wL W + 12 ≤ i
            · rw [if_pos ⟨c3, by omega⟩, if_pos c3]
            · rw [if_neg (fun h_ => c3 h_.1), if_neg c3, hf2 i]
              by_cases c2 : wL W + 8 ≤ i
              · rw [if_pos ⟨c2, by omega⟩, if_pos c2]
              · rw [if_neg (fun h_ => c2 h_.1), if_neg c2, hf1 i]
                by_cases c1 : wL W + 4 ≤ i
                · rw [if_pos ⟨c1, by omega⟩, if_pos c1]
                · rw [if_neg (fun h_ => c1 h_.1), if_neg c1, hf0 i]
                  by_cases c0 : wL W ≤ i
                  · rw [if_pos ⟨c0, by omega⟩, if_pos c0]
                  · rw [if_neg (fun h_ => c0 h_.1), if_neg c0]
                    exact (hT i (by omega)).1)⟩ (by rw [up2_n (by decide)]; exact hW.2.2.2.2.2.2.1) (by rw [up2_n (by decide)]; exact hW.2.2.2.2.2.2.2.1) (fun e_ he_ => by rw [upr_n (by decide)]; exact hW.2.2.2.2.2.2.2.2.1 e_ he_)
    exact cr_ri d_114_46 cx_114 rfl ⟨rfl, hfin.mo⟩
  · omega
theorem p_feed_n {S : CS} {G : Nat → Nat → Value} {B : Nat → Nat → Int32} {J : Nat → Nat → Int64} {R : Nat → Nat → Option Nat} {n : Nat} {W : WS} (hW : WC n S G B R W) {a b c d e : Int32} (hL : ¬ wL W + 20 ≤ 400) : CR 80 114 0 [some (.ref 2), some (.int a), some (.int b), some (.int c), some (.int d), some (.int e)] [] S G B J R (fun r__ S' G' B' J' R' => r__ = some (.int (-1)) ∧ WC (n + 1) S' G' B' R' W) := by
  have hS := hW.1.1
  have hF := hW.2.1
  have hO := hW.2.2.2.1
  obtain ⟨ta, ka, la, hH, hLk, hl2, hs3, hbd⟩ := hW.2.2.1
  have h400 := hW.2.2.2.2.2.1.1
  have hT := hW.2.2.2.2.2.1.2.2
  refine cr_nx (pc' := 1) (al' := [some (.ref 2), some (.int a), some (.int b), some (.int c), some (.int d), some (.int e)]) (st' := [.ref 2]) d_114_0 (fun _ => rfl) ?_
  refine cr_gf (v := .int (nI (wL W))) d_114_1 cw_114 cf_11_93 (hS.i (a := 2) (by decide) (by decide)) (hS.s (a := 2) (by decide) (by decide) rfl) (by decide) hW.2.2.2.2.2.1.2.1 ?_
  refine cn_bp (v := 20) d_114_4 (by decide) ?_
  refine cn_add d_114_6  ?_
  refine cn_sp (v := 400) d_114_7 (by decide) ?_
  refine cn_cle (t := 15) d_114_10 (by decide) (by first | omega | assumption | exact cu_36 (by omega) (cu_lt (by omega) (by omega))) (by first | omega | assumption | exact cu_36 (by omega) (cu_lt (by omega) (by omega))) (fun c10 => ?_) (fun c10 => ?_)
  · omega
  · refine cr_nx (pc' := 14) (al' := [some (.ref 2), some (.int a), some (.int b), some (.int c), some (.int d), some (.int e)]) (st' := [.int (-1)]) d_114_13 (fun _ => rfl) ?_
    exact cr_ri d_114_14 cx_114 rfl ⟨rfl, hW.mo⟩
theorem WR.fd {n : Nat} {g : Nat → Int32} {A : Nat → Nat → Int32} {W : WS} {a b c d e : Int32} {f5 f7 : Nat → Int32} (h : WR n g A W) (hf : ∀ i, i < wL W + 20 → f7 i = bI8 (fdT (wT W) (wL W) a b c d e i)) : WR n (upd g 13 (nI (wL W + 20))) (rf_u (rf_u A 8 f5) 7 f7) (fdS W a b c d e) := by
  obtain ⟨h1, h2, h3, h4, h5, h6, h7, h8, h9, ver, h10, h11, h12⟩ := h
  unfold WR VcR ImR
  rw [pk_us, rf_u_s, rf_u_n (show (1 : Nat) ≠ 7 by decide), rf_u_n (show (2 : Nat) ≠ 7 by decide), rf_u_n (show (3 : Nat) ≠ 7 by decide), rf_u_n (show (6 : Nat) ≠ 7 by decide), rf_u_n (show (0 : Nat) ≠ 7 by decide), rf_u_n (show (26 : Nat) ≠ 7 by decide), rf_u_n (show (1 : Nat) ≠ 8 by decide), rf_u_n (show (2 : Nat) ≠ 8 by decide), rf_u_n (show (3 : Nat) ≠ 8 by decide), rf_u_n (show (6 : Nat) ≠ 8 by decide), rf_u_n (show (0 : Nat) ≠ 8 by decide), rf_u_n (show (26 : Nat) ≠ 8 by decide)]
  simp only [pk_un (show (14 : Nat) ≠ 13 by decide), pk_un (show (0 : Nat) ≠ 13 by decide), pk_un (show (56 : Nat) ≠ 13 by decide), pk_un (show (48 : Nat) ≠ 13 by decide), pk_un (show (1 : Nat) ≠ 13 by decide), pk_un (show (50 : Nat) ≠ 13 by decide), pk_un (show (51 : Nat) ≠ 13 by decide), pk_un (show (52 : Nat) ≠ 13 by decide), pk_un (show (53 : Nat) ≠ 13 by decide), pk_un (show (54 : Nat) ≠ 13 by decide)]
  exact ⟨h1, h2, h3, ⟨rfl, hf⟩, h5, h6, h7, h8, h9, ver, h10, h11, h12⟩
theorem r_feed_y {g : Nat → Int32} {A : Nat → Nat → Int32} {n : Nat} {W : WS} (hW : WR n g A W) (hO : CoOk (wK W)) {a b c d e : Int32} (hL : wL W + 20 ≤ 400) : RR 80 189 0 [some (.ref 146), some (.int a), some (.int b), some (.int c), some (.int d), some (.int e), none] [] g A (fun r__ g' A' => r__ = some (.int (nI (wL W + 20))) ∧ WR (n + 1) g' A' (fdS W a b c d e)) := by
  refine rr_nx (pc' := 1) (al' := [some (.ref 146), some (.int a), some (.int b), some (.int c), some (.int d), some (.int e), none]) (st' := [.ref 146]) d_189_0 (fun _ => rfl) ?_
  refine rr_gn d_189_1 mo_189 fl_137 rfl hW.2.2.2.1.1 ?_
  refine rn_bp (v := 20) d_189_4 (by decide) ?_
  refine rn_add d_189_6  ?_
  refine rn_sp (v := 400) d_189_7 (by decide) ?_
  refine rn_cle (t := 15) d_189_10 (by decide) (by first | omega | assumption | exact cu_36 (by omega) (cu_lt (by omega) (by omega))) (by first | omega | assumption | exact cu_36 (by omega) (cu_lt (by omega) (by omega))) (fun c10 => ?_) (fun c10 => ?_)
  · refine rr_nx (pc' := 16) (al' := [some (.ref 146), some (.int a), some (.int b), some (.int c), some (.int d), some (.int e), none]) (st' := [.ref 146]) d_189_15 (fun _ => rfl) ?_
    refine rr_gf (v := .ref (147 + 8)) d_189_16 mo_189 fl_36 rfl ?_
    refine rn_ic (v := 0) d_189_19 (by decide) ?_
    refine rr_nx (pc' := 21) (al' := [some (.ref 146), some (.int a), some (.int b), some (.int c), some (.int d), some (.int e), none]) (st' := [.int a, .int (nI 0), .ref (147 + 8)]) d_189_20 (fun _ => rfl) ?_
    refine rr_iS (j := 8) (A1 := (rf_u A 8 (upd (A 8) 0 a))) d_189_21 (by decide) rfl (by decide) (show 0 < 5 by first | omega | assumption | exact cu_36 (by omega) (cu_lt (by omega) (by omega))) rfl ?_
    refine rr_nx (pc' := 23) (al' := [some (.ref 146), some (.int a), some (.int b), some (.int c), some (.int d), some (.int e), none]) (st' := [.ref 146]) d_189_22 (fun _ => rfl) ?_
    refine rr_gf (v := .ref (147 + 8)) d_189_23 mo_189 fl_36 rfl ?_
    refine rn_ic (v := 1) d_189_26 (by decide) ?_
    refine rr_nx (pc' := 28) (al' := [some (.ref 146), some (.int a), some (.int b), some (.int c), some (.int d), some (.int e), none]) (st' := [.int b, .int (nI 1), .ref (147 + 8)]) d_189_27 (fun _ => rfl) ?_
    refine rr_iS (j := 8) (A1 := (rf_u A 8 (upd (upd (A 8) 0 a) 1 b))) d_189_28 (by decide) rfl (by decide) (show 1 < 5 by first | omega | assumption | exact cu_36 (by omega) (cu_lt (by omega) (by omega))) rf_uw ?_
    refine rr_nx (pc' := 30) (al' := [some (.ref 146), some (.int a), some (.int b), some (.int c), some (.int d), some (.int e), none]) (st' := [.ref 146]) d_189_29 (fun _ => rfl) ?_
    refine rr_gf (v := .ref (147 + 8)) d_189_30 mo_189 fl_36 rfl ?_
    refine rn_ic (v := 2) d_189_33 (by decide) ?_
    refine rr_nx (pc' := 35) (al' := [some (.ref 146), some (.int a), some (.int b), some (.int c), some (.int d), some (.int e), none]) (st' := [.int c, .int (nI 2), .ref (147 + 8)]) d_189_34 (fun _ => rfl) ?_
    refine rr_iS (j := 8) (A1 := (rf_u A 8 (upd (upd (upd (A 8) 0 a) 1 b) 2 c))) d_189_35 (by decide) rfl (by decide) (show 2 < 5 by first | omega | assumption | exact cu_36 (by omega) (cu_lt (by omega) (by omega))) rf_uw ?_
    refine rr_nx (pc' := 37) (al' := [some (.ref 146), some (.int a), some (.int b), some (.int c), some (.int d), some (.int e), none]) (st' := [.ref 146]) d_189_36 (fun _ => rfl) ?_
    refine rr_gf (v := .ref (147 + 8)) d_189_37 mo_189 fl_36 rfl ?_
    refine rn_ic (v := 3) d_189_40 (by decide) ?_
    refine rr_nx (pc' := 43) (al' := [some (.ref 146), some (.int a), some (.int b), some (.int c), some (.int d), some (.int e), none]) (st' := [.int d, .int (nI 3), .ref (147 + 8)]) d_189_41 (fun _ => rfl) ?_
    refine rr_iS (j := 8) (A1 := (rf_u A 8 (upd (upd (upd (upd (A 8) 0 a) 1 b) 2 c) 3 d))) d_189_43 (by decide) rfl (by decide) (show 3 < 5 by first | omega | assumption | exact cu_36 (by omega) (cu_lt (by omega) (by omega))) rf_uw ?_
    refine rr_nx (pc' := 45) (al' := [some (.ref 146), some (.int a), some (.int b), some (.int c), some (.int d), some (.int e), none]) (st' := [.ref 146]) d_189_44 (fun _ => rfl) ?_
    refine rr_gf (v := .ref (147 + 8)) d_189_45 mo_189 fl_36 rfl ?_
    refine rn_ic (v := 4) d_189_48 (by decide) ?_
    refine rr_nx (pc' := 51) (al' := [some (.ref 146), some (.int a), some (.int b), some (.int c), some (.int d), some (.int e), none]) (st' := [.int e, .int (nI 4), .ref (147 + 8)]) d_189_49 (fun _ => rfl) ?_
    refine rr_iS (j := 8) (A1 := (rf_u A 8 (upd (upd (upd (upd (upd (A 8) 0 a) 1 b) 2 c) 3 d) 4 e))) d_189_51 (by decide) rfl (by decide) (show 4 < 5 by first | omega | assumption | exact cu_36 (by omega) (cu_lt (by omega) (by omega))) rf_uw ?_
    refine rn_ic (v := 0) d_189_52 (by decide) ?_
    refine rr_nx (pc' := 55) (al' := [some (.ref 146), some (.int a), some (.int b), some (.int c), some (.int d), some (.int e), some (.int (nI 0))]) (st' := []) d_189_53 (fun _ => rfl) ?_
    refine rr_A (show (rf_u A 8 (upd (upd (upd (upd (upd (A 8) 0 a) 1 b) 2 c) 3 d) 4 e)) = (rf_u (rf_u A 8 (upd (upd (upd (upd (upd (A 8) 0 a) 1 b) 2 c) 3 d) 4 e)) 7 (A 7)) by rw [show A 7 = rf_u A 8 (upd (upd (upd (upd (upd (A 8) 0 a) 1 b) 2 c) 3 d) 4 e) 7 by rw [rf_u_n (by decide)], rf_u_id]) ?_
    refine rr_upw (al := fun i w_ => [some (.ref 146), some (.int a), some (.int b), some (.int c), some (.int d), some (.int e), some (.int (nI i))]) (G := fun i w_ => g) (B := fun i w_ => (rf_u (rf_u A 8 (upd (upd (upd (upd (upd (A 8) 0 a) 1 b) 2 c) 3 d) 4 e)) 7 w_)) (P := fun i w_ => (∀ q, q < i → w_ (wL W + q) = bI8 (fdT (wT W) (wL W) a b c d e (wL W + q))) ∧ ∀ q, q < wL W → w_ q = A 7 q) (n := 20) (fun i w_ hi pi ihi => ?_) (fun w_ pi => ?_) 0 (A 7) (by omega) (⟨all_0, fun _ _ => rfl⟩)
    · show RR _ _ 55 [some (.ref 146), some (.int a), some (.int b), some (.int c), some (.int d), some (.int e), some (.int (nI i))] [] g (rf_u (rf_u A 8 (upd (upd (upd (upd (upd (A 8) 0 a) 1 b) 2 c) 3 d) 4 e)) 7 w_) _
      refine rr_nx (pc' := 57) (al' := [some (.ref 146), some (.int a), some (.int b), some (.int c), some (.int d), some (.int e), some (.int (nI i))]) (st' := [.int (nI i)]) d_189_55 (fun _ => rfl) ?_
      refine rn_bp (v := 20) d_189_57 (by decide) ?_
      refine rn_cge (t := 101) d_189_59 (by decide) (by omega) (by decide) (fun c59 => ?_) (fun c59 => ?_)
      · omega
      · refine rr_nx (pc' := 63) (al' := [some (.ref 146), some (.int a), some (.int b), some (.int c), some (.int d), some (.int e), some (.int (nI i))]) (st' := [.ref 146]) d_189_62 (fun _ => rfl) ?_
        refine rr_gf (v := .ref (147 + 7)) d_189_63 mo_189 fl_33 rfl ?_
        refine rr_nx (pc' := 67) (al' := [some (.ref 146), some (.int a), some (.int b), some (.int c), some (.int d), some (.int e), some (.int (nI i))]) (st' := [.ref 146, .ref (147 + 7)]) d_189_66 (fun _ => rfl) ?_
        refine rr_gn d_189_67 mo_189 fl_137 rfl hW.2.2.2.1.1 ?_
        refine rr_nx (pc' := 72) (al' := [some (.ref 146), some (.int a), some (.int b), some (.int c), some (.int d), some (.int e), some (.int (nI i))]) (st' := [.int (nI i), .int (nI (wL W)), .ref (147 + 7)]) d_189_70 (fun _ => rfl) ?_
        refine rn_add d_189_72  ?_
        refine rr_nx (pc' := 74) (al' := [some (.ref 146), some (.int a), some (.int b), some (.int c), some (.int d), some (.int e), some (.int (nI i))]) (st' := [.ref 146, .int (nI ((wL W) + i)), .ref (147 + 7)]) d_189_73 (fun _ => rfl) ?_
        refine rr_gf (v := .ref (147 + 8)) d_189_74 mo_189 fl_36 rfl ?_
        refine rr_nx (pc' := 79) (al' := [some (.ref 146), some (.int a), some (.int b), some (.int c), some (.int d), some (.int e), some (.int (nI i))]) (st' := [.int (nI i), .ref (147 + 8), .int (nI ((wL W) + i)), .ref (147 + 7)]) d_189_77 (fun _ => rfl) ?_
        refine rn_ic (v := 4) d_189_79 (by decide) ?_
        refine rn_div d_189_80 (by omega) (by omega) (by omega) ?_
        refine rr_ia (j := 8) (v := (fdW a b c d e (i / 4))) d_189_81 (by decide) rfl (by decide) (show i / 4 < 5 by omega) (by rw [rf_u_n (by decide), rf_u_s]; exact fd_w5 (by omega)) ?_
        refine rn_bp (v := 24) d_189_82 (by decide) ?_
        refine rn_bp (v := 8) d_189_84 (by decide) ?_
        refine rr_nx (pc' := 88) (al' := [some (.ref 146), some (.int a), some (.int b), some (.int c), some (.int d), some (.int e), some (.int (nI i))]) (st' := [.int (nI i), .int (nI 8), .int (nI 24), .int (fdW a b c d e (i / 4)), .int (nI ((wL W) + i)), .ref (147 + 7)]) d_189_86 (fun _ => rfl) ?_
        refine rn_ic (v := 4) d_189_88 (by decide) ?_
        refine rn_rem d_189_89 (by omega) (by omega) (by omega) ?_
        refine rn_mul d_189_90  ?_
        refine rn_sub d_189_91 (by omega) ?_
        refine rr_nx (pc' := 93) (al' := [some (.ref 146), some (.int a), some (.int b), some (.int c), some (.int d), some (.int e), some (.int (nI i))]) (st' := [.int ((fdW a b c d e (i / 4)) >>> ((nI (24 - (8 * (i % 4)))) &&& 31)), .int (nI ((wL W) + i)), .ref (147 + 7)]) d_189_92 (fun _ => rfl) ?_
        refine rr_nx (pc' := 94) (al' := [some (.ref 146), some (.int a), some (.int b), some (.int c), some (.int d), some (.int e), some (.int (nI i))]) (st' := [.int (((fdW a b c d e (i / 4)) >>> ((nI (24 - (8 * (i % 4)))) &&& 31)).toInt8.toInt32), .int (nI ((wL W) + i)), .ref (147 + 7)]) d_189_93 (fun _ => rfl) ?_
        refine rr_bS (j := 7) (A1 := (rf_u (rf_u A 8 (upd (upd (upd (upd (upd (A 8) 0 a) 1 b) 2 c) 3 d) 4 e)) 7 (upd w_ ((wL W) + i) (vp_nar .byte (((fdW a b c d e (i / 4)) >>> ((nI (24 - (8 * (i % 4)))) &&& 31)).toInt8.toInt32))))) d_189_94 (by decide) rfl (by decide) (show (wL W) + i < 400 by omega) rf_uw ?_
        refine rn_inc d_189_95 rfl rfl ?_
        show RR _ _ 98 [some (.ref 146), some (.int a), some (.int b), some (.int c), some (.int d), some (.int e), some (.int (nI (i + 1)))] [] g (rf_u (rf_u A 8 (upd (upd (upd (upd (upd (A 8) 0 a) 1 b) 2 c) 3 d) 4 e)) 7 (upd w_ ((wL W) + i) (vp_nar .byte (((fdW a b c d e (i / 4)) >>> ((nI (24 - (8 * (i % 4)))) &&& 31)).toInt8.toInt32)))) _
        refine rr_nx (pc' := 55) (al' := [some (.ref 146), some (.int a), some (.int b), some (.int c), some (.int d), some (.int e), some (.int (nI (i + 1)))]) (st' := []) d_189_98 (fun _ => rfl) ?_
        exact ihi (upd w_ ((wL W) + i) (vp_nar .byte (((fdW a b c d e (i / 4)) >>> ((nI (24 - (8 * (i % 4)))) &&& 31)).toInt8.toInt32))) (⟨fun q hq => by
            by_cases e_ : q = i
            · rw [e_, pk_us, fd_at hi, fd_8, pk_vb]
            · rw [pk_un (by omega)]
              exact pi.1 q (by omega), fun q hq => by rw [pk_un (by omega)]; exact pi.2 q hq⟩)
    · show RR _ _ 55 [some (.ref 146), some (.int a), some (.int b), some (.int c), some (.int d), some (.int e), some (.int (nI 20))] [] g (rf_u (rf_u A 8 (upd (upd (upd (upd (upd (A 8) 0 a) 1 b) 2 c) 3 d) 4 e)) 7 w_) _
      refine rr_nx (pc' := 57) (al' := [some (.ref 146), some (.int a), some (.int b), some (.int c), some (.int d), some (.int e), some (.int (nI 20))]) (st' := [.int (nI 20)]) d_189_55 (fun _ => rfl) ?_
      refine rn_bp (v := 20) d_189_57 (by decide) ?_
      refine rn_cge (t := 101) d_189_59 (by decide) (by omega) (by decide) (fun c59 => ?_) (fun c59 => ?_)
      · refine rr_nx (pc' := 102) (al' := [some (.ref 146), some (.int a), some (.int b), some (.int c), some (.int d), some (.int e), some (.int (nI 20))]) (st' := [.ref 146]) d_189_101 (fun _ => rfl) ?_
        refine rr_nx (pc' := 103) (al' := [some (.ref 146), some (.int a), some (.int b), some (.int c), some (.int d), some (.int e), some (.int (nI 20))]) (st' := [.ref 146, .ref 146]) d_189_102 (fun _ => rfl) ?_
        refine rr_gn d_189_103 mo_189 fl_137 rfl hW.2.2.2.1.1 ?_
        refine rn_bp (v := 20) d_189_106 (by decide) ?_
        refine rn_add d_189_108  ?_
        refine rp_13 d_189_109 mo_189 fl_137  ?_
        refine rr_nx (pc' := 113) (al' := [some (.ref 146), some (.int a), some (.int b), some (.int c), some (.int d), some (.int e), some (.int (nI 20))]) (st' := [.ref 146]) d_189_112 (fun _ => rfl) ?_
        refine rr_gf (v := .int (nI ((wL W) + 20))) d_189_113 mo_189 fl_137 rfl ?_
        exact rr_ri d_189_116 mr_189 rfl ⟨rfl, (hW.fd (fun i_ hi_ => if h_ : i_ < wL W then (by rw [pi.2 i_ h_, fd_lo h_]; exact hW.2.2.2.1.2 i_ h_) else (by have := pi.1 (i_ - wL W) (by omega); rw [show wL W + (i_ - wL W) = i_ by omega] at this; exact this))).mo⟩
      · omega
  · omega
theorem r_feed_n {g : Nat → Int32} {A : Nat → Nat → Int32} {n : Nat} {W : WS} (hW : WR n g A W) (hO : CoOk (wK W)) {a b c d e : Int32} (hL : ¬ wL W + 20 ≤ 400) (hL4 : wL W ≤ 400) : RR 80 189 0 [some (.ref 146), some (.int a), some (.int b), some (.int c), some (.int d), some (.int e), none] [] g A (fun r__ g' A' => r__ = some (.int (-1)) ∧ WR (n + 1) g' A' W) := by
  refine rr_nx (pc' := 1) (al' := [some (.ref 146), some (.int a), some (.int b), some (.int c), some (.int d), some (.int e), none]) (st' := [.ref 146]) d_189_0 (fun _ => rfl) ?_
  refine rr_gn d_189_1 mo_189 fl_137 rfl hW.2.2.2.1.1 ?_
  refine rn_bp (v := 20) d_189_4 (by decide) ?_
  refine rn_add d_189_6  ?_
  refine rn_sp (v := 400) d_189_7 (by decide) ?_
  refine rn_cle (t := 15) d_189_10 (by decide) (by first | omega | assumption | exact cu_36 (by omega) (cu_lt (by omega) (by omega))) (by first | omega | assumption | exact cu_36 (by omega) (cu_lt (by omega) (by omega))) (fun c10 => ?_) (fun c10 => ?_)
  · omega
  · refine rr_nx (pc' := 14) (al' := [some (.ref 146), some (.int a), some (.int b), some (.int c), some (.int d), some (.int e), none]) (st' := [.int (-1)]) d_189_13 (fun _ => rfl) ?_
    exact rr_ri d_189_14 mr_189 rfl ⟨rfl, hW.mo⟩
theorem T_feed {S : CS} {G : Nat → Nat → Value} {B : Nat → Nat → Int32} {J : Nat → Nat → Int64} {R : Nat → Nat → Option Nat} {g : Nat → Int32} {A : Nat → Nat → Int32} {n : Nat} {W : WS} (hC : WC n S G B R W) (hR : WR n g A W) (hn : n ≤ 10000) {a : Int32} {b : Int32} {c : Int32} {d : Int32} {e : Int32} : Tie n 114 189 [some (.ref 2), some (.int a), some (.int b), some (.int c), some (.int d), some (.int e)] [some (.ref 146), some (.int a), some (.int b), some (.int c), some (.int d), some (.int e), none] S G B J R g A W := by
  have hO := hC.2.2.2.1
  by_cases hL : wL W + 20 ≤ 400
  · exact ⟨_, _, p_feed_y hC hL, r_feed_y hR hO hL⟩
  · exact ⟨_, W, p_feed_n hC hL, r_feed_n hR hO hL hC.2.2.2.2.2.1.1⟩
theorem b8_sz : ∀ v, v < 256 → ((nI 1 ≤ bI8 v ∧ bI8 v ≤ nI 6) ↔ 1 ≤ v ∧ v ≤ 6) := by decide +kernel
theorem b8_6 : ∀ m, m ≤ 6 → ∀ v, v < 256 → ((nI 0 ≤ bI8 v ∧ bI8 v ≤ nI (m - 1)) ↔ (nI 0 ≤ nI v ∧ nI v ≤ nI (m - 1))) ∧ ((nI 0 ≤ nI v ∧ nI v ≤ nI (m - 1)) → bI8 v = nI v) := by decide +kernel
theorem LatR.cg {m : Nat} {f f' : Nat → Int32} (h : LatR m f) (hf : ∀ q, q < m * m → inR m f q → f' q = f q) : LatR m f' := by
  have e : ∀ x y, x < m → y < m → f' (m * x + y) = f (m * x + y) := fun x y hx hy => hf _ (cu_lt hx hy) (h.1 x y hx hy)
  refine ⟨fun x y hx hy => ?_, fun x hx => ?_⟩
  · unfold inR
    rw [e x y hx hy]
    exact h.1 x y hx hy
  · have := h.2 x hx
    refine ⟨?_, ?_⟩
    · rw [← this.1]
      exact ORs_c (fun y hy => by unfold laR; rw [e x y hx hy])
    · rw [← this.2]
      exact ORs_c (fun y hy => by unfold laC; rw [e y x hy hx])
theorem la_8 {m : Nat} (hm : m ≤ 6) {T : Nat → Nat} (hT : ∀ q, q < m * m → T q < 256) : LatR m (fun q => bI8 (T q)) ↔ LatR m (fun q => nI (T q)) := by
  constructor
  · intro h
    refine h.cg (fun q hq hi => ?_)
    have := b8_6 m hm (T q) (hT q hq)
    exact (this.2 (this.1.mp hi)).symm
  · intro h
    refine h.cg (fun q hq hi => ?_)
    have := b8_6 m hm (T q) (hT q hq)
    exact this.2 hi
theorem la_t {m : Nat} (hm : m ≤ 6) {T : Nat → Nat} (hT : ∀ q, q < m * m → T q < 256) (h : LatR m (fun q => nI (T q))) : Lat m T := by
  refine (h.lat hm).1.cg (fun q hq => ?_)
  exact (nI_clamp (by have := hT q hq; omega)).symm
theorem k_isLatin_y {S : CS} {G : Nat → Nat → Value} {B : Nat → Nat → Int32} {J : Nat → Nat → Int64} {R : Nat → Nat → Option Nat} {a n : Nat} (ht : TabAt S G a) (hn : G a 0 = .int (nI n)) (hn6 : n ≤ 6) (h1 : 1 ≤ n) (h : LatR n (B (a + 1))) : CR 1 90 0 [some (.ref a), none, none, none, none, none] [] S G B J R (cP (some (.int (nI 1))) S G B J R) := by
  have inst_ : Decidable (LatR n (B (a + 1))) := Classical.propDecidable _
  have := k_isLatin (B := B) (J := J) (R := R) ht hn hn6 h1
  rw [← bI_t h] at this
  exact this
theorem k_isLatin_n {S : CS} {G : Nat → Nat → Value} {B : Nat → Nat → Int32} {J : Nat → Nat → Int64} {R : Nat → Nat → Option Nat} {a n : Nat} (ht : TabAt S G a) (hn : G a 0 = .int (nI n)) (hn6 : n ≤ 6) (h1 : 1 ≤ n) (h : ¬ LatR n (B (a + 1))) : CR 1 90 0 [some (.ref a), none, none, none, none, none] [] S G B J R (cP (some (.int (nI 0))) S G B J R) := by
  have inst_ : Decidable (LatR n (B (a + 1))) := Classical.propDecidable _
  have := k_isLatin (B := B) (J := J) (R := R) ht hn hn6 h1
  rw [← bI_f h] at this
  exact this
theorem s_isMade_y {g : Nat → Int32} {A : Nat → Nat → Int32} {m : Nat} (hm : g 8 = nI m) (hm6 : m ≤ 6) (h1 : 1 ≤ m) (h : LatR m (A 5)) : RR 1 223 0 [some (.ref 146), none, none, none, none] [] g A (rP (some (.int (nI 1))) g A) := by
  have inst_ : Decidable (LatR m (A 5)) := Classical.propDecidable _
  have := s_isMade (A := A) hm hm6 h1
  rw [← bI_t h] at this
  exact this
theorem s_isMade_n {g : Nat → Int32} {A : Nat → Nat → Int32} {m : Nat} (hm : g 8 = nI m) (hm6 : m ≤ 6) (h1 : 1 ≤ m) (h : ¬ LatR m (A 5)) : RR 1 223 0 [some (.ref 146), none, none, none, none] [] g A (rP (some (.int (nI 0))) g A) := by
  have inst_ : Decidable (LatR m (A 5)) := Classical.propDecidable _
  have := s_isMade (A := A) hm hm6 h1
  rw [← bI_f h] at this
  exact this
theorem k_rr_n {S : CS} {G : Nat → Nat → Value} {B : Nat → Nat → Int32} {J : Nat → Nat → Int64} {R : Nat → Nat → Option Nat} {n : Nat} {W : WS} (hW : WC n S G B R W) (hx : ¬ ∃ m, 1 ≤ m ∧ m ≤ 6 ∧ wL W = 1 + m * m ∧ wT W 0 = m) : CR 3 120 0 [some (.ref 2), none] [] S G B J R (fun r S' G' B' J' R' => r = some (.int (nI 0)) ∧ (S' = S ∧ J' = J ∧ R' = R) ∧ Gfr [86] G G' ∧ FxG G' ∧ Bfr [87] B B') := by
  have h400 := hW.2.2.2.2.2.1.1
  have hT := hW.2.2.2.2.2.1.2.2
  have hS := hW.1.1
  have hF := hW.2.1
  refine cr_nx (pc' := 1) (al' := [some (.ref 2), none]) (st' := [.ref 2]) d_120_0 (fun _ => rfl) ?_
  refine cr_gf (v := .int (nI (wL W))) d_120_1 cw_120 cf_11_93 (hS.i (a := 2) (by decide) (by decide)) (hS.s (a := 2) (by decide) (by decide) rfl) (by decide) hW.2.2.2.2.2.1.2.1 ?_
  refine cn_zle (t := 16) d_120_4 (by decide) (by first | omega | assumption | exact cu_36 (by omega) (cu_lt (by omega) (by omega))) (fun c4 => ?_) (fun c4 => ?_)
  · refine cn_ic (v := 0) d_120_16 (by decide) ?_
    refine cr_nx (pc' := 18) (al' := [some (.ref 2), some (.int (nI 0))]) (st' := []) d_120_17 (fun _ => rfl) ?_
    refine cr_nx (pc' := 19) (al' := [some (.ref 2), some (.int (nI 0))]) (st' := [.int (nI 0)]) d_120_18 (fun _ => rfl) ?_
    refine cr_ps (as := [.int (nI 0)]) (al0 := [some (.int (nI 0))]) (r := []) d_120_19 cw_120 cm_11_119 (by decide) cz_121 rfl rfl rfl (Nat.le_of_ble_eq_true rfl) (k_isSize) ?_
    show CR _ _ 22 [some (.ref 2), some (.int (nI 0))] [.int (bI (szP (nI 0)))] S G B J R _
    refine cr_beq (t := 37) d_120_22 (by decide) (fun c22 => ?_) (fun c22 => ?_)
    · refine cn_ic (v := 0) d_120_37 (by decide) ?_
      exact cr_ri d_120_38 cx_120 (by decide) ⟨rfl, ⟨rfl, rfl, rfl⟩, Gfr.rf, hF, Bfr.rf⟩
    · exact absurd c22 (by decide)
  · have hT0 := hT 0 (by omega)
    have hT1 := hT0.2
    refine cr_nx (pc' := 8) (al' := [some (.ref 2), none]) (st' := [.ref 2]) d_120_7 (fun _ => rfl) ?_
    refine cr_gf (v := .ref 82) d_120_8 cw_120 cf_11_20 (hS.i (a := 2) (by decide) (by decide)) (hS.s (a := 2) (by decide) (by decide) rfl) (by decide) (fx_2_2 hF) ?_
    refine cn_ic (v := 0) d_120_11 (by decide) ?_
    refine cr_ia (a := 82) (v := (nI (wT W 0))) d_120_12 (hS.i (a := 82) (by decide) (by decide)) (hS.s (a := 82) (by decide) (by decide) rfl) (by first | decide | omega) (show 0 < 400 by omega) (hT 0 (by omega)).1 ?_
    refine cr_nx (pc' := 17) (al' := [some (.ref 2), none]) (st' := [.int (nI (wT W 0))]) d_120_13 (fun _ => rfl) ?_
    refine cr_nx (pc' := 18) (al' := [some (.ref 2), some (.int (nI (wT W 0)))]) (st' := []) d_120_17 (fun _ => rfl) ?_
    refine cr_nx (pc' := 19) (al' := [some (.ref 2), some (.int (nI (wT W 0)))]) (st' := [.int (nI (wT W 0))]) d_120_18 (fun _ => rfl) ?_
    refine cr_ps (as := [.int (nI (wT W 0))]) (al0 := [some (.int (nI (wT W 0)))]) (r := []) d_120_19 cw_120 cm_11_119 (by decide) cz_121 rfl rfl rfl (Nat.le_of_ble_eq_true rfl) (k_isSize) ?_
    show CR _ _ 22 [some (.ref 2), some (.int (nI (wT W 0)))] [.int (bI (szP (nI (wT W 0))))] S G B J R _
    refine cr_beq (t := 37) d_120_22 (by decide) (fun c22 => ?_) (fun c22 => ?_)
    · refine cn_ic (v := 0) d_120_37 (by decide) ?_
      exact cr_ri d_120_38 cx_120 (by decide) ⟨rfl, ⟨rfl, rfl, rfl⟩, Gfr.rf, hF, Bfr.rf⟩
    · have h16 : 1 ≤ wT W 0 ∧ wT W 0 ≤ 6 := by have h_ := c22; unfold szP at h_; rw [nI_toInt (by omega)] at h_; omega
      have h36 := Nat.mul_le_mul h16.2 h16.2
      refine cr_nx (pc' := 26) (al' := [some (.ref 2), some (.int (nI (wT W 0)))]) (st' := [.ref 2]) d_120_25 (fun _ => rfl) ?_
      refine cr_gf (v := .int (nI (wL W))) d_120_26 cw_120 cf_11_93 (hS.i (a := 2) (by decide) (by decide)) (hS.s (a := 2) (by decide) (by decide) rfl) (by decide) hW.2.2.2.2.2.1.2.1 ?_
      refine cn_ic (v := 1) d_120_29 (by decide) ?_
      refine cr_nx (pc' := 31) (al' := [some (.ref 2), some (.int (nI (wT W 0)))]) (st' := [.int (nI (wT W 0)), .int (nI 1), .int (nI (wL W))]) d_120_30 (fun _ => rfl) ?_
      refine cr_nx (pc' := 32) (al' := [some (.ref 2), some (.int (nI (wT W 0)))]) (st' := [.int (nI (wT W 0)), .int (nI (wT W 0)), .int (nI 1), .int (nI (wL W))]) d_120_31 (fun _ => rfl) ?_
      refine cn_mul d_120_32  ?_
      refine cn_add d_120_33  ?_
      refine cn_ceq (t := 39) d_120_34 (by decide) (by first | omega | assumption | exact cu_36 (by omega) (cu_lt (by omega) (by omega))) (by first | omega | assumption | exact cu_36 (by omega) (cu_lt (by omega) (by omega))) (fun c34 => ?_) (fun c34 => ?_)
      · exact absurd ⟨wT W 0, h16.1, h16.2, c34, rfl⟩ hx
      · refine cn_ic (v := 0) d_120_37 (by decide) ?_
        exact cr_ri d_120_38 cx_120 (by decide) ⟨rfl, ⟨rfl, rfl, rfl⟩, Gfr.rf, hF, Bfr.rf⟩
theorem k_rr_l {S : CS} {G : Nat → Nat → Value} {B : Nat → Nat → Int32} {J : Nat → Nat → Int64} {R : Nat → Nat → Option Nat} {n : Nat} {W : WS} (hW : WC n S G B R W) {m : Nat} (h1 : 1 ≤ m) (hm6 : m ≤ 6) (hL : wL W = 1 + m * m) (h0 : wT W 0 = m) (hla : ¬ LatR m (fun q => nI (wT W (1 + q)))) : CR 3 120 0 [some (.ref 2), none] [] S G B J R (fun r S' G' B' J' R' => r = some (.int (nI 0)) ∧ (S' = S ∧ J' = J ∧ R' = R) ∧ Gfr [86] G G' ∧ FxG G' ∧ Bfr [87] B B') := by
  have h400 := hW.2.2.2.2.2.1.1
  have hT := hW.2.2.2.2.2.1.2.2
  have hS := hW.1.1
  have hF := hW.2.1
  have h36 := Nat.mul_le_mul hm6 hm6
  have hcp : ∀ q, q < m * m → va_cpy (B 82) (B 87) 1 0 (m * m) q = nI (wT W (1 + q)) := fun q hq => (if_pos ⟨Nat.zero_le _, by omega⟩ : va_cpy (B 82) (B 87) 1 0 (m * m) q = _).trans (by rw [Nat.sub_zero]; exact (hT (1 + q) (by omega)).1)
  refine cr_nx (pc' := 1) (al' := [some (.ref 2), none]) (st' := [.ref 2]) d_120_0 (fun _ => rfl) ?_
  refine cr_gf (v := .int (nI (wL W))) d_120_1 cw_120 cf_11_93 (hS.i (a := 2) (by decide) (by decide)) (hS.s (a := 2) (by decide) (by decide) rfl) (by decide) hW.2.2.2.2.2.1.2.1 ?_
  refine cn_zle (t := 16) d_120_4 (by decide) (by first | omega | assumption | exact cu_36 (by omega) (cu_lt (by omega) (by omega))) (fun c4 => ?_) (fun c4 => ?_)
  · omega
  · refine cr_nx (pc' := 8) (al' := [some (.ref 2), none]) (st' := [.ref 2]) d_120_7 (fun _ => rfl) ?_
    refine cr_gf (v := .ref 82) d_120_8 cw_120 cf_11_20 (hS.i (a := 2) (by decide) (by decide)) (hS.s (a := 2) (by decide) (by decide) rfl) (by decide) (fx_2_2 hF) ?_
    refine cn_ic (v := 0) d_120_11 (by decide) ?_
    refine cr_ia (a := 82) (v := (nI m)) d_120_12 (hS.i (a := 82) (by decide) (by decide)) (hS.s (a := 82) (by decide) (by decide) rfl) (by first | decide | omega) (show 0 < 400 by omega) ((hT 0 (by omega)).1.trans (by rw [h0])) ?_
    refine cr_nx (pc' := 17) (al' := [some (.ref 2), none]) (st' := [.int (nI m)]) d_120_13 (fun _ => rfl) ?_
    refine cr_nx (pc' := 18) (al' := [some (.ref 2), some (.int (nI m))]) (st' := []) d_120_17 (fun _ => rfl) ?_
    refine cr_nx (pc' := 19) (al' := [some (.ref 2), some (.int (nI m))]) (st' := [.int (nI m)]) d_120_18 (fun _ => rfl) ?_
    refine cr_ps (as := [.int (nI m)]) (al0 := [some (.int (nI m))]) (r := []) d_120_19 cw_120 cm_11_119 (by decide) cz_121 rfl rfl rfl (Nat.le_of_ble_eq_true rfl) (k_isSize) ?_
    show CR _ _ 22 [some (.ref 2), some (.int (nI m))] [.int (bI (szP (nI m)))] S G B J R _
    refine cr_beq (t := 37) d_120_22 (by decide) (fun c22 => ?_) (fun c22 => ?_)
    · exact absurd (sz_j h1 hm6) c22
    · refine cr_nx (pc' := 26) (al' := [some (.ref 2), some (.int (nI m))]) (st' := [.ref 2]) d_120_25 (fun _ => rfl) ?_
      refine cr_gf (v := .int (nI (wL W))) d_120_26 cw_120 cf_11_93 (hS.i (a := 2) (by decide) (by decide)) (hS.s (a := 2) (by decide) (by decide) rfl) (by decide) hW.2.2.2.2.2.1.2.1 ?_
      refine cn_ic (v := 1) d_120_29 (by decide) ?_
      refine cr_nx (pc' := 31) (al' := [some (.ref 2), some (.int (nI m))]) (st' := [.int (nI m), .int (nI 1), .int (nI (wL W))]) d_120_30 (fun _ => rfl) ?_
      refine cr_nx (pc' := 32) (al' := [some (.ref 2), some (.int (nI m))]) (st' := [.int (nI m), .int (nI m), .int (nI 1), .int (nI (wL W))]) d_120_31 (fun _ => rfl) ?_
      refine cn_mul d_120_32  ?_
      refine cn_add d_120_33  ?_
      refine cn_ceq (t := 39) d_120_34 (by decide) (by omega) (by omega) (fun c34 => ?_) (fun c34 => ?_)
      · refine cr_nx (pc' := 40) (al' := [some (.ref 2), some (.int (nI m))]) (st' := [.ref 2]) d_120_39 (fun _ => rfl) ?_
        refine cr_gf (v := .ref 86) d_120_40 cw_120 cf_11_38 (hS.i (a := 2) (by decide) (by decide)) (hS.s (a := 2) (by decide) (by decide) rfl) (by decide) (fx_2_6 hF) ?_
        refine cr_nx (pc' := 44) (al' := [some (.ref 2), some (.int (nI m))]) (st' := [.int (nI m), .ref 86]) d_120_43 (fun _ => rfl) ?_
        refine cp_10_0  d_120_44 cw_120 cf_11_112 (hS.i (a := 86) (by decide) (by decide)) (hS.s (a := 86) (by decide) (by decide) rfl) (by decide) ?_
        refine cr_nx (pc' := 48) (al' := [some (.ref 2), some (.int (nI m))]) (st' := [.ref 2]) d_120_47 (fun _ => rfl) ?_
        refine cr_gf (v := .ref 82) d_120_48 cw_120 cf_11_20 (hS.i (a := 2) (by decide) (by decide)) (hS.s (a := 2) (by decide) (by decide) rfl) (by decide) (by simp [up2]; exact (fx_2_2 hF)) ?_
        refine cn_ic (v := 1) d_120_51 (by decide) ?_
        refine cr_nx (pc' := 53) (al' := [some (.ref 2), some (.int (nI m))]) (st' := [.ref 2, .int (nI 1), .ref 82]) d_120_52 (fun _ => rfl) ?_
        refine cr_gf (v := .ref 86) d_120_53 cw_120 cf_11_38 (hS.i (a := 2) (by decide) (by decide)) (hS.s (a := 2) (by decide) (by decide) rfl) (by decide) (by simp [up2]; exact (fx_2_6 hF)) ?_
        refine cr_gf (v := .ref 87) d_120_56 cw_120 cf_11_122 (hS.i (a := 86) (by decide) (by decide)) (hS.s (a := 86) (by decide) (by decide) rfl) (by decide) (by simp [up2]; exact (fx_86_1 hF)) ?_
        refine cn_ic (v := 0) d_120_59 (by decide) ?_
        refine cr_nx (pc' := 61) (al' := [some (.ref 2), some (.int (nI m))]) (st' := [.int (nI m), .int (nI 0), .ref 87, .int (nI 1), .ref 82]) d_120_60 (fun _ => rfl) ?_
        refine cr_nx (pc' := 62) (al' := [some (.ref 2), some (.int (nI m))]) (st' := [.int (nI m), .int (nI m), .int (nI 0), .ref 87, .int (nI 1), .ref 82]) d_120_61 (fun _ => rfl) ?_
        refine cn_mul d_120_62  ?_
        refine cr_cy (a := 87) (a0 := 82) (B1 := (upr B 87 (va_cpy (B 82) (B 87) 1 0 (m * m)))) d_120_63 cw_120 cm_11_125 (hS.i (a := 87) (by decide) (by decide)) (hS.i (a := 82) (by decide) (by decide)) (hS.s (a := 87) (by decide) (by decide) rfl) (hS.s (a := 82) (by decide) (by decide) rfl) (by omega) (by omega) (by decide) (by decide) rfl rfl ?_
        refine cr_nx (pc' := 67) (al' := [some (.ref 2), some (.int (nI m))]) (st' := [.ref 2]) d_120_66 (fun _ => rfl) ?_
        refine cr_gf (v := .ref 86) d_120_67 cw_120 cf_11_38 (hS.i (a := 2) (by decide) (by decide)) (hS.s (a := 2) (by decide) (by decide) rfl) (by decide) (by simp [up2]; exact (fx_2_6 hF)) ?_
        have hlr : ¬ LatR m (upr B 87 (va_cpy (B 82) (B 87) 1 0 (m * m)) (86 + 1)) := fun h_ => hla (by rw [show (86 + 1 : Nat) = 87 from rfl, upr_s] at h_; exact h_.cg (fun q hq _ => (hcp q hq).symm))
        refine cr_pv (b := 86) (as := []) (al0 := [some (.ref 86), none, none, none, none, none]) (r := []) d_120_70 cw_120 cm_11_131 cz_90 rfl rfl (hS.i (a := 86) (by decide) (by decide)) (by rw [cw_90]; exact (hS.s (a := 86) (by decide) (by decide) rfl)) (by rw [cw_90]; decide) rfl (Nat.le_of_ble_eq_true rfl) (k_isLatin_n (tb_86 hS (FxG.ut hF)) up2_s hm6 h1 hlr) ?_
        show CR _ _ 73 [some (.ref 2), some (.int (nI m))] [.int (nI 0)] S (up2 G 86 0 (.int (nI m))) (upr B 87 (va_cpy (B 82) (B 87) 1 0 (m * m))) J R _
        exact cr_ri d_120_73 cx_120 (by decide) ⟨rfl, ⟨rfl, rfl, rfl⟩, (Gfr.rf.u (by decide)), FxG.ut hF, Bfr.rf.u (by decide)⟩
      · omega
theorem k_rr_y {S : CS} {G : Nat → Nat → Value} {B : Nat → Nat → Int32} {J : Nat → Nat → Int64} {R : Nat → Nat → Option Nat} {n : Nat} {W : WS} (hW : WC n S G B R W) {m : Nat} (h1 : 1 ≤ m) (hm6 : m ≤ 6) (hL : wL W = 1 + m * m) (h0 : wT W 0 = m) (hla : LatR m (fun q => nI (wT W (1 + q)))) : CR 3 120 0 [some (.ref 2), none] [] S G B J R (fun r S' G' B' J' R' => r = some (.int (nI 1)) ∧ (S' = S ∧ J' = J ∧ R' = R) ∧ Gfr [86] G G' ∧ FxG G' ∧ Bfr [87] B B' ∧ G' 86 0 = .int (nI m) ∧ ∀ q, q < m * m → B' 87 q = nI (wT W (1 + q))) := by
  have h400 := hW.2.2.2.2.2.1.1
  have hT := hW.2.2.2.2.2.1.2.2
  have hS := hW.1.1
  have hF := hW.2.1
  have h36 := Nat.mul_le_mul hm6 hm6
  have hcp : ∀ q, q < m * m → va_cpy (B 82) (B 87) 1 0 (m * m) q = nI (wT W (1 + q)) := fun q hq => (if_pos ⟨Nat.zero_le _, by omega⟩ : va_cpy (B 82) (B 87) 1 0 (m * m) q = _).trans (by rw [Nat.sub_zero]; exact (hT (1 + q) (by omega)).1)
  refine cr_nx (pc' := 1) (al' := [some (.ref 2), none]) (st' := [.ref 2]) d_120_0 (fun _ => rfl) ?_
  refine cr_gf (v := .int (nI (wL W))) d_120_1 cw_120 cf_11_93 (hS.i (a := 2) (by decide) (by decide)) (hS.s (a := 2) (by decide) (by decide) rfl) (by decide) hW.2.2.2.2.2.1.2.1 ?_
  refine cn_zle (t := 16) d_120_4 (by decide) (by first | omega | assumption | exact cu_36 (by omega) (cu_lt (by omega) (by omega))) (fun c4 => ?_) (fun c4 => ?_)
  · omega
  · refine cr_nx (pc' := 8) (al' := [some (.ref 2), none]) (st' := [.ref 2]) d_120_7 (fun _ => rfl) ?_
    refine cr_gf (v := .ref 82) d_120_8 cw_120 cf_11_20 (hS.i (a := 2) (by decide) (by decide)) (hS.s (a := 2) (by decide) (by decide) rfl) (by decide) (fx_2_2 hF) ?_
    refine cn_ic (v := 0) d_120_11 (by decide) ?_
    refine cr_ia (a := 82) (v := (nI m)) d_120_12 (hS.i (a := 82) (by decide) (by decide)) (hS.s (a := 82) (by decide) (by decide) rfl) (by first | decide | omega) (show 0 < 400 by omega) ((hT 0 (by omega)).1.trans (by rw [h0])) ?_
    refine cr_nx (pc' := 17) (al' := [some (.ref 2), none]) (st' := [.int (nI m)]) d_120_13 (fun _ => rfl) ?_
    refine cr_nx (pc' := 18) (al' := [some (.ref 2), some (.int (nI m))]) (st' := []) d_120_17 (fun _ => rfl) ?_
    refine cr_nx (pc' := 19) (al' := [some (.ref 2), some (.int (nI m))]) (st' := [.int (nI m)]) d_120_18 (fun _ => rfl) ?_
    refine cr_ps (as := [.int (nI m)]) (al0 := [some (.int (nI m))]) (r := []) d_120_19 cw_120 cm_11_119 (by decide) cz_121 rfl rfl rfl (Nat.le_of_ble_eq_true rfl) (k_isSize) ?_
    show CR _ _ 22 [some (.ref 2), some (.int (nI m))] [.int (bI (szP (nI m)))] S G B J R _
    refine cr_beq (t := 37) d_120_22 (by decide) (fun c22 => ?_) (fun c22 => ?_)
    · exact absurd (sz_j h1 hm6) c22
    · refine cr_nx (pc' := 26) (al' := [some (.ref 2), some (.int (nI m))]) (st' := [.ref 2]) d_120_25 (fun _ => rfl) ?_
      refine cr_gf (v := .int (nI (wL W))) d_120_26 cw_120 cf_11_93 (hS.i (a := 2) (by decide) (by decide)) (hS.s (a := 2) (by decide) (by decide) rfl) (by decide) hW.2.2.2.2.2.1.2.1 ?_
      refine cn_ic (v := 1) d_120_29 (by decide) ?_
      refine cr_nx (pc' := 31) (al' := [some (.ref 2), some (.int (nI m))]) (st' := [.int (nI m), .int (nI 1), .int (nI (wL W))]) d_120_30 (fun _ => rfl) ?_
      refine cr_nx (pc' := 32) (al' := [some (.ref 2), some (.int (nI m))]) (st' := [.int (nI m), .int (nI m), .int (nI 1), .int (nI (wL W))]) d_120_31 (fun _ => rfl) ?_
      refine cn_mul d_120_32  ?_
      refine cn_add d_120_33  ?_
      refine cn_ceq (t := 39) d_120_34 (by decide) (by omega) (by omega) (fun c34 => ?_) (fun c34 => ?_)
      · refine cr_nx (pc' := 40) (al' := [some (.ref 2), some (.int (nI m))]) (st' := [.ref 2]) d_120_39 (fun _ => rfl) ?_
        refine cr_gf (v := .ref 86) d_120_40 cw_120 cf_11_38 (hS.i (a := 2) (by decide) (by decide)) (hS.s (a := 2) (by decide) (by decide) rfl) (by decide) (fx_2_6 hF) ?_
        refine cr_nx (pc' := 44) (al' := [some (.ref 2), some (.int (nI m))]) (st' := [.int (nI m), .ref 86]) d_120_43 (fun _ => rfl) ?_
        refine cp_10_0  d_120_44 cw_120 cf_11_112 (hS.i (a := 86) (by decide) (by decide)) (hS.s (a := 86) (by decide) (by decide) rfl) (by decide) ?_
        refine cr_nx (pc' := 48) (al' := [some (.ref 2), some (.int (nI m))]) (st' := [.ref 2]) d_120_47 (fun _ => rfl) ?_
        refine cr_gf (v := .ref 82) d_120_48 cw_120 cf_11_20 (hS.i (a := 2) (by decide) (by decide)) (hS.s (a := 2) (by decide) (by decide) rfl) (by decide) (by simp [up2]; exact (fx_2_2 hF)) ?_
        refine cn_ic (v := 1) d_120_51 (by decide) ?_
        refine cr_nx (pc' := 53) (al' := [some (.ref 2), some (.int (nI m))]) (st' := [.ref 2, .int (nI 1), .ref 82]) d_120_52 (fun _ => rfl) ?_
        refine cr_gf (v := .ref 86) d_120_53 cw_120 cf_11_38 (hS.i (a := 2) (by decide) (by decide)) (hS.s (a := 2) (by decide) (by decide) rfl) (by decide) (by simp [up2]; exact (fx_2_6 hF)) ?_
        refine cr_gf (v := .ref 87) d_120_56 cw_120 cf_11_122 (hS.i (a := 86) (by decide) (by decide)) (hS.s (a := 86) (by decide) (by decide) rfl) (by decide) (by simp [up2]; exact (fx_86_1 hF)) ?_
        refine cn_ic (v := 0) d_120_59 (by decide) ?_
        refine cr_nx (pc' := 61) (al' := [some (.ref 2), some (.int (nI m))]) (st' := [.int (nI m), .int (nI 0), .ref 87, .int (nI 1), .ref 82]) d_120_60 (fun _ => rfl) ?_
        refine cr_nx (pc' := 62) (al' := [some (.ref 2), some (.int (nI m))]) (st' := [.int (nI m), .int (nI m), .int (nI 0), .ref 87, .int (nI 1), .ref 82]) d_120_61 (fun _ => rfl) ?_
        refine cn_mul d_120_62  ?_
        refine cr_cy (a := 87) (a0 := 82) (B1 := (upr B 87 (va_cpy (B 82) (B 87) 1 0 (m * m)))) d_120_63 cw_120 cm_11_125 (hS.i (a := 87) (by decide) (by decide)) (hS.i (a := 82) (by decide) (by decide)) (hS.s (a := 87) (by decide) (by decide) rfl) (hS.s (a := 82) (by decide) (by decide) rfl) (by omega) (by omega) (by decide) (by decide) rfl rfl ?_
        refine cr_nx (pc' := 67) (al' := [some (.ref 2), some (.int (nI m))]) (st' := [.ref 2]) d_120_66 (fun _ => rfl) ?_
        refine cr_gf (v := .ref 86) d_120_67 cw_120 cf_11_38 (hS.i (a := 2) (by decide) (by decide)) (hS.s (a := 2) (by decide) (by decide) rfl) (by decide) (by simp [up2]; exact (fx_2_6 hF)) ?_
        have hlr : LatR m (upr B 87 (va_cpy (B 82) (B 87) 1 0 (m * m)) (86 + 1)) := by rw [show (86 + 1 : Nat) = 87 from rfl, upr_s]; exact hla.cg (fun q hq _ => hcp q hq)
        refine cr_pv (b := 86) (as := []) (al0 := [some (.ref 86), none, none, none, none, none]) (r := []) d_120_70 cw_120 cm_11_131 cz_90 rfl rfl (hS.i (a := 86) (by decide) (by decide)) (by rw [cw_90]; exact (hS.s (a := 86) (by decide) (by decide) rfl)) (by rw [cw_90]; decide) rfl (Nat.le_of_ble_eq_true rfl) (k_isLatin_y (tb_86 hS (FxG.ut hF)) up2_s hm6 h1 hlr) ?_
        show CR _ _ 73 [some (.ref 2), some (.int (nI m))] [.int (nI 1)] S (up2 G 86 0 (.int (nI m))) (upr B 87 (va_cpy (B 82) (B 87) 1 0 (m * m))) J R _
        exact cr_ri d_120_73 cx_120 (by decide) ⟨rfl, ⟨rfl, rfl, rfl⟩, (Gfr.rf.u (by decide)), FxG.ut hF, Bfr.rf.u (by decide), up2_s, fun q hq => by rw [upr_s]; exact hcp q hq⟩
      · omega
theorem p_row_h {S : CS} {G : Nat → Nat → Value} {B : Nat → Nat → Int32} {J : Nat → Nat → Int64} {R : Nat → Nat → Option Nat} {n : Nat} {W : WS} (hW : WC n S G B R W) {k : Nat} (hk6 : k < 6) (hx : ¬ ∃ m, 1 ≤ m ∧ m ≤ 6 ∧ wL W = 1 + m * m ∧ wT W 0 = m) : CR 80 117 0 [some (.ref 2), some (.int (nI k)), none] [] S G B J R (fun r__ S' G' B' J' R' => r__ = some (.int (-6)) ∧ WC (n + 1) S' G' B' R' (refW (enW W 0) (-6) 6)) := by
  have hS := hW.1.1
  have hF := hW.2.1
  have hO := hW.2.2.2.1
  obtain ⟨ta, ka, la, hH, hLk, hl2, hs3, hbd⟩ := hW.2.2.1
  refine cr_nx (pc' := 1) (al' := [some (.ref 2), some (.int (nI k)), none]) (st' := [.int (nI k)]) d_117_0 (fun _ => rfl) ?_
  refine cr_ps (as := [.int (nI k)]) (al0 := [some (.int (nI k))]) (r := []) d_117_1 cw_117 cm_11_100 (by decide) cz_118 rfl rfl rfl (Nat.le_of_ble_eq_true rfl) (k_isPlace) ?_
  show CR _ _ 4 [some (.ref 2), some (.int (nI k)), none] [.int (bI (inP (nI k) 6))] S G B J R _
  refine cr_bne (t := 13) d_117_4 (by decide) (fun c4 => ?_) (fun c4 => ?_)
  · refine cr_nx (pc' := 14) (al' := [some (.ref 2), some (.int (nI k)), none]) (st' := [.ref 2]) d_117_13 (fun _ => rfl) ?_
    refine cr_cv (b := 2) (as := []) (al0 := [some (.ref 2), none]) (r := []) d_117_14 cw_117 cm_11_108 cz_120 rfl rfl (hS.i (a := 2) (by decide) (by decide)) (by rw [cw_120]; exact (hS.s (a := 2) (by decide) (by decide) rfl)) (by rw [cw_120]; decide) rfl (cr_wk (Nat.le_of_ble_eq_true rfl) (k_rr_n hW hx)) (fun v1 S1 G1 B1 J1 R1 h1x => ?_)
    obtain ⟨q0_, ⟨q1_, q2_, q3_⟩, hg1, hF1, hb1⟩ := h1x
    obtain rfl := q0_
    obtain rfl := q1_.symm
    obtain rfl := q2_.symm
    obtain rfl := q3_.symm
    have hW1 : WC n S (up2 G1 2 3 (.int (nI 0))) B1 R (enW W 0) := (hW.q hF1 (hg1.mo (by decide)) (hb1.mo (by decide))).en (Nat.zero_le _)
    show CR _ _ 17 [some (.ref 2), some (.int (nI k)), none] [.int (nI 0)] S G1 B1 J R _
    refine cr_nx (pc' := 18) (al' := [some (.ref 2), some (.int (nI k)), some (.int (nI 0))]) (st' := []) d_117_17 (fun _ => rfl) ?_
    refine cr_nx (pc' := 19) (al' := [some (.ref 2), some (.int (nI k)), some (.int (nI 0))]) (st' := [.ref 2]) d_117_18 (fun _ => rfl) ?_
    refine cn_ic (v := 0) d_117_19 (by decide) ?_
    refine cp_11_3  d_117_20 cw_117 cf_11_93 (hS.i (a := 2) (by decide) (by decide)) (hS.s (a := 2) (by decide) (by decide) rfl) (by decide) ?_
    refine cr_nx (pc' := 24) (al' := [some (.ref 2), some (.int (nI k)), some (.int (nI 0))]) (st' := [.int (nI 0)]) d_117_23 (fun _ => rfl) ?_
    refine cn_ieq (t := 42) d_117_24 (by decide) (by first | omega | assumption | exact cu_36 (by omega) (cu_lt (by omega) (by omega))) (fun c24 => ?_) (fun c24 => ?_)
    · refine cr_nx (pc' := 43) (al' := [some (.ref 2), some (.int (nI k)), some (.int (nI 0))]) (st' := [.ref 2]) d_117_42 (fun _ => rfl) ?_
      refine cr_nx (pc' := 45) (al' := [some (.ref 2), some (.int (nI k)), some (.int (nI 0))]) (st' := [.int (-6), .ref 2]) d_117_43 (fun _ => rfl) ?_
      refine cr_pv (b := 2) (as := [.int (-6)]) (al0 := [some (.ref 2), some (.int (-6))]) (r := []) d_117_45 cw_117 cm_11_104 cz_119 rfl rfl (hS.i (a := 2) (by decide) (by decide)) (by rw [cw_119]; exact (hS.s (a := 2) (by decide) (by decide) rfl)) (by rw [cw_119]; decide) rfl (Nat.le_of_ble_eq_true rfl) (k_refuse (e := 6) hS hF1.u2 (by decide) (by decide)) ?_
      show CR _ _ 48 [some (.ref 2), some (.int (nI k)), some (.int (nI 0))] [.int (-6)] S (up2 (up2 G1 2 3 (.int (nI 0))) 2 16 (.int (-6))) (upr B1 145 (upd (B1 145) 6 (B1 145 6 + nI 1))) J R _
      exact cr_ri d_117_48 cx_117 rfl ⟨rfl, (hW1.rf (by decide)).mo⟩
    · omega
  · exact absurd ((in_j (by omega)).mpr hk6) c4
theorem p_row_l {S : CS} {G : Nat → Nat → Value} {B : Nat → Nat → Int32} {J : Nat → Nat → Int64} {R : Nat → Nat → Option Nat} {n : Nat} {W : WS} (hW : WC n S G B R W) {k : Nat} (hk6 : k < 6) {m : Nat} (h1 : 1 ≤ m) (hm6 : m ≤ 6) (hL : wL W = 1 + m * m) (h0 : wT W 0 = m) (hla : ¬ LatR m (fun q => nI (wT W (1 + q)))) : CR 80 117 0 [some (.ref 2), some (.int (nI k)), none] [] S G B J R (fun r__ S' G' B' J' R' => r__ = some (.int (-6)) ∧ WC (n + 1) S' G' B' R' (refW (enW W 0) (-6) 6)) := by
  have hS := hW.1.1
  have hF := hW.2.1
  have hO := hW.2.2.2.1
  obtain ⟨ta, ka, la, hH, hLk, hl2, hs3, hbd⟩ := hW.2.2.1
  refine cr_nx (pc' := 1) (al' := [some (.ref 2), some (.int (nI k)), none]) (st' := [.int (nI k)]) d_117_0 (fun _ => rfl) ?_
  refine cr_ps (as := [.int (nI k)]) (al0 := [some (.int (nI k))]) (r := []) d_117_1 cw_117 cm_11_100 (by decide) cz_118 rfl rfl rfl (Nat.le_of_ble_eq_true rfl) (k_isPlace) ?_
  show CR _ _ 4 [some (.ref 2), some (.int (nI k)), none] [.int (bI (inP (nI k) 6))] S G B J R _
  refine cr_bne (t := 13) d_117_4 (by decide) (fun c4 => ?_) (fun c4 => ?_)
  · refine cr_nx (pc' := 14) (al' := [some (.ref 2), some (.int (nI k)), none]) (st' := [.ref 2]) d_117_13 (fun _ => rfl) ?_
    refine cr_cv (b := 2) (as := []) (al0 := [some (.ref 2), none]) (r := []) d_117_14 cw_117 cm_11_108 cz_120 rfl rfl (hS.i (a := 2) (by decide) (by decide)) (by rw [cw_120]; exact (hS.s (a := 2) (by decide) (by decide) rfl)) (by rw [cw_120]; decide) rfl (cr_wk (Nat.le_of_ble_eq_true rfl) (k_rr_l hW h1 hm6 hL h0 hla)) (fun v1 S1 G1 B1 J1 R1 h1x => ?_)
    obtain ⟨q0_, ⟨q1_, q2_, q3_⟩, hg1, hF1, hb1⟩ := h1x
    obtain rfl := q0_
    obtain rfl := q1_.symm
    obtain rfl := q2_.symm
    obtain rfl := q3_.symm
    have hW1 : WC n S (up2 G1 2 3 (.int (nI 0))) B1 R (enW W 0) := (hW.q hF1 (hg1.mo (by decide)) (hb1.mo (by decide))).en (Nat.zero_le _)
    show CR _ _ 17 [some (.ref 2), some (.int (nI k)), none] [.int (nI 0)] S G1 B1 J R _
    refine cr_nx (pc' := 18) (al' := [some (.ref 2), some (.int (nI k)), some (.int (nI 0))]) (st' := []) d_117_17 (fun _ => rfl) ?_
    refine cr_nx (pc' := 19) (al' := [some (.ref 2), some (.int (nI k)), some (.int (nI 0))]) (st' := [.ref 2]) d_117_18 (fun _ => rfl) ?_
    refine cn_ic (v := 0) d_117_19 (by decide) ?_
    refine cp_11_3  d_117_20 cw_117 cf_11_93 (hS.i (a := 2) (by decide) (by decide)) (hS.s (a := 2) (by decide) (by decide) rfl) (by decide) ?_
    refine cr_nx (pc' := 24) (al' := [some (.ref 2), some (.int (nI k)), some (.int (nI 0))]) (st' := [.int (nI 0)]) d_117_23 (fun _ => rfl) ?_
    refine cn_ieq (t := 42) d_117_24 (by decide) (by first | omega | assumption | exact cu_36 (by omega) (cu_lt (by omega) (by omega))) (fun c24 => ?_) (fun c24 => ?_)
    · refine cr_nx (pc' := 43) (al' := [some (.ref 2), some (.int (nI k)), some (.int (nI 0))]) (st' := [.ref 2]) d_117_42 (fun _ => rfl) ?_
      refine cr_nx (pc' := 45) (al' := [some (.ref 2), some (.int (nI k)), some (.int (nI 0))]) (st' := [.int (-6), .ref 2]) d_117_43 (fun _ => rfl) ?_
      refine cr_pv (b := 2) (as := [.int (-6)]) (al0 := [some (.ref 2), some (.int (-6))]) (r := []) d_117_45 cw_117 cm_11_104 cz_119 rfl rfl (hS.i (a := 2) (by decide) (by decide)) (by rw [cw_119]; exact (hS.s (a := 2) (by decide) (by decide) rfl)) (by rw [cw_119]; decide) rfl (Nat.le_of_ble_eq_true rfl) (k_refuse (e := 6) hS hF1.u2 (by decide) (by decide)) ?_
      show CR _ _ 48 [some (.ref 2), some (.int (nI k)), some (.int (nI 0))] [.int (-6)] S (up2 (up2 G1 2 3 (.int (nI 0))) 2 16 (.int (-6))) (upr B1 145 (upd (B1 145) 6 (B1 145 6 + nI 1))) J R _
      exact cr_ri d_117_48 cx_117 rfl ⟨rfl, (hW1.rf (by decide)).mo⟩
    · omega
  · exact absurd ((in_j (by omega)).mpr hk6) c4
theorem p_row_y {S : CS} {G : Nat → Nat → Value} {B : Nat → Nat → Int32} {J : Nat → Nat → Int64} {R : Nat → Nat → Option Nat} {n : Nat} {W : WS} (hW : WC n S G B R W) {k : Nat} (hk6 : k < 6) {m : Nat} (h1 : 1 ≤ m) (hm6 : m ≤ 6) (hL : wL W = 1 + m * m) (h0 : wT W 0 = m) (hla : LatR m (fun q => nI (wT W (1 + q)))) : CR 80 117 0 [some (.ref 2), some (.int (nI k)), none] [] S G B J R (fun r__ S' G' B' J' R' => r__ = some (.int (nI m)) ∧ WC (n + 1) S' G' B' R' (chW (enW W 0) k (m, fun q => wT W (1 + q)))) := by
  have hS := hW.1.1
  have hF := hW.2.1
  have hO := hW.2.2.2.1
  obtain ⟨ta, ka, la, hH, hLk, hl2, hs3, hbd⟩ := hW.2.2.1
  refine cr_nx (pc' := 1) (al' := [some (.ref 2), some (.int (nI k)), none]) (st' := [.int (nI k)]) d_117_0 (fun _ => rfl) ?_
  refine cr_ps (as := [.int (nI k)]) (al0 := [some (.int (nI k))]) (r := []) d_117_1 cw_117 cm_11_100 (by decide) cz_118 rfl rfl rfl (Nat.le_of_ble_eq_true rfl) (k_isPlace) ?_
  show CR _ _ 4 [some (.ref 2), some (.int (nI k)), none] [.int (bI (inP (nI k) 6))] S G B J R _
  refine cr_bne (t := 13) d_117_4 (by decide) (fun c4 => ?_) (fun c4 => ?_)
  · refine cr_nx (pc' := 14) (al' := [some (.ref 2), some (.int (nI k)), none]) (st' := [.ref 2]) d_117_13 (fun _ => rfl) ?_
    refine cr_cv (b := 2) (as := []) (al0 := [some (.ref 2), none]) (r := []) d_117_14 cw_117 cm_11_108 cz_120 rfl rfl (hS.i (a := 2) (by decide) (by decide)) (by rw [cw_120]; exact (hS.s (a := 2) (by decide) (by decide) rfl)) (by rw [cw_120]; decide) rfl (cr_wk (Nat.le_of_ble_eq_true rfl) (k_rr_y hW h1 hm6 hL h0 hla)) (fun v1 S1 G1 B1 J1 R1 h1x => ?_)
    obtain ⟨q0_, ⟨q1_, q2_, q3_⟩, hg1, hF1, hb1, h86_, hm_⟩ := h1x
    obtain rfl := q0_
    obtain rfl := q1_.symm
    obtain rfl := q2_.symm
    obtain rfl := q3_.symm
    have hW1 : WC n S (up2 G1 2 3 (.int (nI 0))) B1 R (enW W 0) := (hW.q hF1 (hg1.mo (by decide)) (hb1.mo (by decide))).en (Nat.zero_le _)
    show CR _ _ 17 [some (.ref 2), some (.int (nI k)), none] [.int (nI 1)] S G1 B1 J R _
    refine cr_nx (pc' := 18) (al' := [some (.ref 2), some (.int (nI k)), some (.int (nI 1))]) (st' := []) d_117_17 (fun _ => rfl) ?_
    refine cr_nx (pc' := 19) (al' := [some (.ref 2), some (.int (nI k)), some (.int (nI 1))]) (st' := [.ref 2]) d_117_18 (fun _ => rfl) ?_
    refine cn_ic (v := 0) d_117_19 (by decide) ?_
    refine cp_11_3  d_117_20 cw_117 cf_11_93 (hS.i (a := 2) (by decide) (by decide)) (hS.s (a := 2) (by decide) (by decide) rfl) (by decide) ?_
    refine cr_nx (pc' := 24) (al' := [some (.ref 2), some (.int (nI k)), some (.int (nI 1))]) (st' := [.int (nI 1)]) d_117_23 (fun _ => rfl) ?_
    refine cn_ieq (t := 42) d_117_24 (by decide) (by first | omega | assumption | exact cu_36 (by omega) (cu_lt (by omega) (by omega))) (fun c24 => ?_) (fun c24 => ?_)
    · omega
    · refine cr_nx (pc' := 28) (al' := [some (.ref 2), some (.int (nI k)), some (.int (nI 1))]) (st' := [.ref 2]) d_117_27 (fun _ => rfl) ?_
      refine cr_nx (pc' := 29) (al' := [some (.ref 2), some (.int (nI k)), some (.int (nI 1))]) (st' := [.int (nI k), .ref 2]) d_117_28 (fun _ => rfl) ?_
      refine cr_nx (pc' := 30) (al' := [some (.ref 2), some (.int (nI k)), some (.int (nI 1))]) (st' := [.ref 2, .int (nI k), .ref 2]) d_117_29 (fun _ => rfl) ?_
      refine cr_gf (v := .ref 86) d_117_30 cw_117 cf_11_38 (hS.i (a := 2) (by decide) (by decide)) (hS.s (a := 2) (by decide) (by decide) rfl) (by decide) (by simp [up2]; exact (fx_2_6 hF1)) ?_
      refine cr_gf (v := .int (nI m)) d_117_33 cw_117 cf_11_112 (hS.i (a := 86) (by decide) (by decide)) (hS.s (a := 86) (by decide) (by decide) rfl) (by decide) (by simp [up2]; exact h86_) ?_
      refine cr_cv (b := 2) (as := [.int (nI k), .int (nI m)]) (al0 := [some (.ref 2), some (.int (nI k)), some (.int (nI m))]) (r := []) d_117_36 cw_117 cm_11_115 cz_122 rfl rfl (hS.i (a := 2) (by decide) (by decide)) (by rw [cw_122]; exact (hS.s (a := 2) (by decide) (by decide) rfl)) (by rw [cw_122]; decide) rfl (cr_wk (Nat.le_of_ble_eq_true rfl) (k_change (tb := (m, fun q => wT W (1 + q))) hW1 hk6 ⟨hm6, la_t hm6 (fun q hq => (hW.2.2.2.2.2.1.2.2 (1 + q) (by omega)).2) hla⟩ (by rw [up2_n (by decide)]; exact h86_) hm_)) (fun v2 S2 G2 B2 J2 R2 h2x => ?_)
      obtain ⟨q0_, hW2⟩ := h2x
      obtain rfl := q0_
      show CR _ _ 39 [some (.ref 2), some (.int (nI k)), some (.int (nI 1))] [.int (nI m)] S2 G2 B2 J2 R2 _
      refine cr_nx (pc' := 48) (al' := [some (.ref 2), some (.int (nI k)), some (.int (nI 1))]) (st' := [.int (nI m)]) d_117_39 (fun _ => rfl) ?_
      exact cr_ri d_117_48 cx_117 rfl ⟨rfl, hW2.mo⟩
  · exact absurd ((in_j (by omega)).mpr hk6) c4
theorem p_row_a {S : CS} {G : Nat → Nat → Value} {B : Nat → Nat → Int32} {J : Nat → Nat → Int64} {R : Nat → Nat → Option Nat} {n : Nat} {W : WS} (hW : WC n S G B R W) {t : Int32} (hp6 : ¬ inP t 6) : CR 80 117 0 [some (.ref 2), some (.int t), none] [] S G B J R (fun r__ S' G' B' J' R' => r__ = some (.int (-1)) ∧ WC (n + 1) S' G' B' R' (refW W (-1) 1)) := by
  have hS := hW.1.1
  have hF := hW.2.1
  have hO := hW.2.2.2.1
  obtain ⟨ta, ka, la, hH, hLk, hl2, hs3, hbd⟩ := hW.2.2.1
  refine cr_nx (pc' := 1) (al' := [some (.ref 2), some (.int t), none]) (st' := [.int t]) d_117_0 (fun _ => rfl) ?_
  refine cr_ps (as := [.int t]) (al0 := [some (.int t)]) (r := []) d_117_1 cw_117 cm_11_100 (by decide) cz_118 rfl rfl rfl (Nat.le_of_ble_eq_true rfl) (k_isPlace) ?_
  show CR _ _ 4 [some (.ref 2), some (.int t), none] [.int (bI (inP t 6))] S G B J R _
  refine cr_bne (t := 13) d_117_4 (by decide) (fun c4 => ?_) (fun c4 => ?_)
  · exact absurd c4 hp6
  · refine cr_nx (pc' := 8) (al' := [some (.ref 2), some (.int t), none]) (st' := [.ref 2]) d_117_7 (fun _ => rfl) ?_
    refine cr_nx (pc' := 9) (al' := [some (.ref 2), some (.int t), none]) (st' := [.int (-1), .ref 2]) d_117_8 (fun _ => rfl) ?_
    refine cr_pv (b := 2) (as := [.int (-1)]) (al0 := [some (.ref 2), some (.int (-1))]) (r := []) d_117_9 cw_117 cm_11_104 cz_119 rfl rfl (hS.i (a := 2) (by decide) (by decide)) (by rw [cw_119]; exact (hS.s (a := 2) (by decide) (by decide) rfl)) (by rw [cw_119]; decide) rfl (Nat.le_of_ble_eq_true rfl) (k_refuse (e := 1) hS hF (by decide) (by decide)) ?_
    show CR _ _ 12 [some (.ref 2), some (.int t), none] [.int (-1)] S (up2 G 2 16 (.int (-1))) (upr B 145 (upd (B 145) 1 (B 145 1 + nI 1))) J R _
    exact cr_ri d_117_12 cx_117 rfl ⟨rfl, (hW.rf (by decide)).mo⟩
theorem r_row_a {g : Nat → Int32} {A : Nat → Nat → Int32} {n : Nat} {W : WS} (hW : WR n g A W) (hO : CoOk (wK W)) {t : Int32} (hp6 : ¬ inP t 6) : RR 80 222 0 [some (.ref 146), some (.int t), none, none] [] g A (fun r__ g' A' => r__ = some (.int (-1)) ∧ WR (n + 1) g' A' (refW W (-1) 1)) := by
  refine rr_nx (pc' := 1) (al' := [some (.ref 146), some (.int t), none, none]) (st' := [.int t]) d_222_0 (fun _ => rfl) ?_
  refine rr_ps (as := [.int t]) (al0 := [some (.int t)]) (r := []) d_222_1 mo_222 ml_117 mz_185 rfl rfl rfl (Nat.le_of_ble_eq_true rfl) (s_isSlot t) ?_
  show RR _ _ 4 [some (.ref 146), some (.int t), none, none] [.int (bI (nI 0 ≤ t ∧ t ≤ nI 5))] g A _
  refine rr_bne (t := 13) d_222_4 (by decide) (fun c4 => ?_) (fun c4 => ?_)
  · exact absurd c4 (fun e_ => hp6 ((in_r (m := 5) (by decide)).mp e_))
  · refine rr_nx (pc' := 8) (al' := [some (.ref 146), some (.int t), none, none]) (st' := [.ref 146]) d_222_7 (fun _ => rfl) ?_
    refine rr_nx (pc' := 9) (al' := [some (.ref 146), some (.int t), none, none]) (st' := [.int (-1), .ref 146]) d_222_8 (fun _ => rfl) ?_
    have hW1 := hW.q (g' := g) (A' := A) Gsm.rf Ksm.rf
    refine rr_pv (as := [.int (-1)]) (al0 := [some (.ref 146), some (.int (-1))]) (r := []) d_222_9 mo_222 ml_110 mz_180 rfl rfl rfl (Nat.le_of_ble_eq_true rfl) (s_refuses (e := 1) (by decide) (by decide)) ?_
    show RR _ _ 12 [some (.ref 146), some (.int t), none, none] [.int (-1)] (upd g 0 (-1)) (rf_u A 0 (upd (A 0) 1 (A 0 1 + nI 1))) _
    exact rr_ri d_222_12 mr_222 rfl ⟨rfl, (hW1.rf (by decide)).mo⟩
theorem b8_e : ∀ v, v < 128 → bI8 v = nI v := by decide +kernel
theorem r_row_h {g : Nat → Int32} {A : Nat → Nat → Int32} {n : Nat} {W : WS} (hW : WR n g A W) (hO : CoOk (wK W)) {k : Nat} (hk6 : k < 6) (hx : ¬ ∃ m, 1 ≤ m ∧ m ≤ 6 ∧ wL W = 1 + m * m ∧ wT W 0 = m) (hT : wL W ≤ 400 ∧ ∀ i, i < wL W → wT W i < 256) : RR 80 222 0 [some (.ref 146), some (.int (nI k)), none, none] [] g A (fun r__ g' A' => r__ = some (.int (-6)) ∧ WR (n + 1) g' A' (refW (enW W 0) (-6) 6)) := by
  have hd66 : (nI 1 ≤ bI8 (wT W 0) ∧ bI8 (wT W 0) ≤ nI 6) → nI (wL W) = nI 1 + bI8 (wT W 0) * bI8 (wT W 0) → 0 < wL W → ∃ m, 1 ≤ m ∧ m ≤ 6 ∧ wL W = 1 + m * m ∧ wT W 0 = m := fun c51 c66 h0_ => by
    have hv := hT.2 0 h0_
    have h6_ := (b8_sz _ hv).mp c51
    have e_ : bI8 (wT W 0) = nI (wT W 0) := b8_e _ (by omega)
    rw [e_, pk_mul, nI_add] at c66
    have h36 := Nat.mul_le_mul h6_.2 h6_.2
    exact ⟨wT W 0, h6_.1, h6_.2, (nI_eq (by have := hT.1; omega) (by omega)).mp c66, rfl⟩
  refine rr_nx (pc' := 1) (al' := [some (.ref 146), some (.int (nI k)), none, none]) (st' := [.int (nI k)]) d_222_0 (fun _ => rfl) ?_
  refine rr_ps (as := [.int (nI k)]) (al0 := [some (.int (nI k))]) (r := []) d_222_1 mo_222 ml_117 mz_185 rfl rfl rfl (Nat.le_of_ble_eq_true rfl) (s_isSlot (nI k)) ?_
  show RR _ _ 4 [some (.ref 146), some (.int (nI k)), none, none] [.int (bI (nI 0 ≤ (nI k) ∧ (nI k) ≤ nI 5))] g A _
  refine rr_bne (t := 13) d_222_4 (by decide) (fun c4 => ?_) (fun c4 => ?_)
  · refine rr_nx (pc' := 14) (al' := [some (.ref 146), some (.int (nI k)), none, none]) (st' := [.ref 146]) d_222_13 (fun _ => rfl) ?_
    refine rr_gn d_222_14 mo_222 fl_137 rfl hW.2.2.2.1.1 ?_
    refine rr_nx (pc' := 18) (al' := [some (.ref 146), some (.int (nI k)), some (.int (nI (wL W))), none]) (st' := []) d_222_17 (fun _ => rfl) ?_
    refine rr_nx (pc' := 19) (al' := [some (.ref 146), some (.int (nI k)), some (.int (nI (wL W))), none]) (st' := [.ref 146]) d_222_18 (fun _ => rfl) ?_
    refine rn_ic (v := 0) d_222_19 (by decide) ?_
    refine rp_13 d_222_20 mo_222 fl_137  ?_
    refine rr_nx (pc' := 24) (al' := [some (.ref 146), some (.int (nI k)), some (.int (nI (wL W))), none]) (st' := [.ref 146]) d_222_23 (fun _ => rfl) ?_
    refine rr_nx (pc' := 25) (al' := [some (.ref 146), some (.int (nI k)), some (.int (nI (wL W))), none]) (st' := [.int (nI (wL W)), .ref 146]) d_222_24 (fun _ => rfl) ?_
    refine rn_ine (t := 32) d_222_25 (by decide) (by have := hT.1; omega) (fun c25 => ?_) (fun c25 => ?_)
    · refine rr_nx (pc' := 33) (al' := [some (.ref 146), some (.int (nI k)), some (.int (nI (wL W))), none]) (st' := [.ref 146, .ref 146]) d_222_32 (fun _ => rfl) ?_
      refine rr_gf (v := .ref (147 + 7)) d_222_33 mo_222 fl_33 rfl ?_
      refine rn_ic (v := 0) d_222_36 (by decide) ?_
      refine rr_ba (j := 7) (v := (bI8 (wT W 0))) d_222_37 (by decide) (by decide) (by decide) (show 0 < 400 by first | omega | assumption | exact cu_36 (by omega) (cu_lt (by omega) (by omega))) (hW.2.2.2.1.2 0 (by omega)) ?_
      refine rp_8 d_222_38 mo_222 fl_134  ?_
      refine rr_nx (pc' := 42) (al' := [some (.ref 146), some (.int (nI k)), some (.int (nI (wL W))), none]) (st' := [.ref 146]) d_222_41 (fun _ => rfl) ?_
      refine rr_gf (v := .int (bI8 (wT W 0))) d_222_42 mo_222 fl_134 rfl ?_
      refine rn_ic (v := 1) d_222_45 (by decide) ?_
      refine rn_bp (v := 6) d_222_46 (by decide) ?_
      refine rr_ps (as := [.int (bI8 (wT W 0)), .int (nI 1), .int (nI 6)]) (al0 := [some (.int (bI8 (wT W 0))), some (.int (nI 1)), some (.int (nI 6))]) (r := []) d_222_48 mo_222 ml_106 mz_179 rfl rfl rfl (Nat.le_of_ble_eq_true rfl) (s_lies (bI8 (wT W 0)) (nI 1) (nI 6)) ?_
      show RR _ _ 51 [some (.ref 146), some (.int (nI k)), some (.int (nI (wL W))), none] [.int (bI ((nI 1) ≤ (bI8 (wT W 0)) ∧ (bI8 (wT W 0)) ≤ (nI 6)))] (upd (upd g 13 (nI 0)) 8 (bI8 (wT W 0))) A _
      refine rr_beq (t := 69) d_222_51 (by decide) (fun c51 => ?_) (fun c51 => ?_)
      · refine rr_nx (pc' := 70) (al' := [some (.ref 146), some (.int (nI k)), some (.int (nI (wL W))), none]) (st' := [.ref 146]) d_222_69 (fun _ => rfl) ?_
        refine rr_nx (pc' := 72) (al' := [some (.ref 146), some (.int (nI k)), some (.int (nI (wL W))), none]) (st' := [.int (-6), .ref 146]) d_222_70 (fun _ => rfl) ?_
        have hW1 := (hW.en (t := 0) (Nat.zero_le _)).q (g' := (upd (upd g 13 (nI 0)) 8 (bI8 (wT W 0)))) (A' := A) (Gsm.rf.u rfl) Ksm.rf
        refine rr_pv (as := [.int (-6)]) (al0 := [some (.ref 146), some (.int (-6))]) (r := []) d_222_72 mo_222 ml_110 mz_180 rfl rfl rfl (Nat.le_of_ble_eq_true rfl) (s_refuses (e := 6) (by decide) (by decide)) ?_
        show RR _ _ 75 [some (.ref 146), some (.int (nI k)), some (.int (nI (wL W))), none] [.int (-6)] (upd (upd (upd g 13 (nI 0)) 8 (bI8 (wT W 0))) 0 (-6)) (rf_u A 0 (upd (A 0) 6 (A 0 6 + nI 1))) _
        exact rr_ri d_222_75 mr_222 rfl ⟨rfl, (hW1.rf (by decide)).mo⟩
      · refine rr_nx (pc' := 55) (al' := [some (.ref 146), some (.int (nI k)), some (.int (nI (wL W))), none]) (st' := [.int (nI (wL W))]) d_222_54 (fun _ => rfl) ?_
        refine rn_ic (v := 1) d_222_55 (by decide) ?_
        refine rr_nx (pc' := 57) (al' := [some (.ref 146), some (.int (nI k)), some (.int (nI (wL W))), none]) (st' := [.ref 146, .int (nI 1), .int (nI (wL W))]) d_222_56 (fun _ => rfl) ?_
        refine rr_gf (v := .int (bI8 (wT W 0))) d_222_57 mo_222 fl_134 rfl ?_
        refine rr_nx (pc' := 61) (al' := [some (.ref 146), some (.int (nI k)), some (.int (nI (wL W))), none]) (st' := [.ref 146, .int (bI8 (wT W 0)), .int (nI 1), .int (nI (wL W))]) d_222_60 (fun _ => rfl) ?_
        refine rr_gf (v := .int (bI8 (wT W 0))) d_222_61 mo_222 fl_134 rfl ?_
        refine rr_nx (pc' := 65) (al' := [some (.ref 146), some (.int (nI k)), some (.int (nI (wL W))), none]) (st' := [.int ((bI8 (wT W 0)) * (bI8 (wT W 0))), .int (nI 1), .int (nI (wL W))]) d_222_64 (fun _ => rfl) ?_
        refine rr_nx (pc' := 66) (al' := [some (.ref 146), some (.int (nI k)), some (.int (nI (wL W))), none]) (st' := [.int ((nI 1) + ((bI8 (wT W 0)) * (bI8 (wT W 0)))), .int (nI (wL W))]) d_222_65 (fun _ => rfl) ?_
        refine rr_ceq (t := 76) d_222_66 (by decide) (fun c66 => ?_) (fun c66 => ?_)
        · exact absurd (hd66 c51 c66 (by omega)) hx
        · refine rr_nx (pc' := 70) (al' := [some (.ref 146), some (.int (nI k)), some (.int (nI (wL W))), none]) (st' := [.ref 146]) d_222_69 (fun _ => rfl) ?_
          refine rr_nx (pc' := 72) (al' := [some (.ref 146), some (.int (nI k)), some (.int (nI (wL W))), none]) (st' := [.int (-6), .ref 146]) d_222_70 (fun _ => rfl) ?_
          have hW1 := (hW.en (t := 0) (Nat.zero_le _)).q (g' := (upd (upd g 13 (nI 0)) 8 (bI8 (wT W 0)))) (A' := A) (Gsm.rf.u rfl) Ksm.rf
          refine rr_pv (as := [.int (-6)]) (al0 := [some (.ref 146), some (.int (-6))]) (r := []) d_222_72 mo_222 ml_110 mz_180 rfl rfl rfl (Nat.le_of_ble_eq_true rfl) (s_refuses (e := 6) (by decide) (by decide)) ?_
          show RR _ _ 75 [some (.ref 146), some (.int (nI k)), some (.int (nI (wL W))), none] [.int (-6)] (upd (upd (upd g 13 (nI 0)) 8 (bI8 (wT W 0))) 0 (-6)) (rf_u A 0 (upd (A 0) 6 (A 0 6 + nI 1))) _
          exact rr_ri d_222_75 mr_222 rfl ⟨rfl, (hW1.rf (by decide)).mo⟩
    · refine rn_ic (v := 0) d_222_28 (by decide) ?_
      refine rr_nx (pc' := 38) (al' := [some (.ref 146), some (.int (nI k)), some (.int (nI (wL W))), none]) (st' := [.int (nI 0), .ref 146]) d_222_29 (fun _ => rfl) ?_
      refine rp_8 d_222_38 mo_222 fl_134  ?_
      refine rr_nx (pc' := 42) (al' := [some (.ref 146), some (.int (nI k)), some (.int (nI (wL W))), none]) (st' := [.ref 146]) d_222_41 (fun _ => rfl) ?_
      refine rr_gf (v := .int (nI 0)) d_222_42 mo_222 fl_134 rfl ?_
      refine rn_ic (v := 1) d_222_45 (by decide) ?_
      refine rn_bp (v := 6) d_222_46 (by decide) ?_
      refine rr_ps (as := [.int (nI 0), .int (nI 1), .int (nI 6)]) (al0 := [some (.int (nI 0)), some (.int (nI 1)), some (.int (nI 6))]) (r := []) d_222_48 mo_222 ml_106 mz_179 rfl rfl rfl (Nat.le_of_ble_eq_true rfl) (s_lies (nI 0) (nI 1) (nI 6)) ?_
      show RR _ _ 51 [some (.ref 146), some (.int (nI k)), some (.int (nI (wL W))), none] [.int (bI ((nI 1) ≤ (nI 0) ∧ (nI 0) ≤ (nI 6)))] (upd (upd g 13 (nI 0)) 8 (nI 0)) A _
      refine rr_beq (t := 69) d_222_51 (by decide) (fun c51 => ?_) (fun c51 => ?_)
      · refine rr_nx (pc' := 70) (al' := [some (.ref 146), some (.int (nI k)), some (.int (nI (wL W))), none]) (st' := [.ref 146]) d_222_69 (fun _ => rfl) ?_
        refine rr_nx (pc' := 72) (al' := [some (.ref 146), some (.int (nI k)), some (.int (nI (wL W))), none]) (st' := [.int (-6), .ref 146]) d_222_70 (fun _ => rfl) ?_
        have hW1 := (hW.en (t := 0) (Nat.zero_le _)).q (g' := (upd (upd g 13 (nI 0)) 8 (nI 0))) (A' := A) (Gsm.rf.u rfl) Ksm.rf
        refine rr_pv (as := [.int (-6)]) (al0 := [some (.ref 146), some (.int (-6))]) (r := []) d_222_72 mo_222 ml_110 mz_180 rfl rfl rfl (Nat.le_of_ble_eq_true rfl) (s_refuses (e := 6) (by decide) (by decide)) ?_
        show RR _ _ 75 [some (.ref 146), some (.int (nI k)), some (.int (nI (wL W))), none] [.int (-6)] (upd (upd (upd g 13 (nI 0)) 8 (nI 0)) 0 (-6)) (rf_u A 0 (upd (A 0) 6 (A 0 6 + nI 1))) _
        exact rr_ri d_222_75 mr_222 rfl ⟨rfl, (hW1.rf (by decide)).mo⟩
      · exact absurd c51 (by decide)
  · exact absurd ((in_r (m := 5) (by decide)).mpr ((in_j (by omega)).mpr hk6)) c4
theorem r_row_l {g : Nat → Int32} {A : Nat → Nat → Int32} {n : Nat} {W : WS} (hW : WR n g A W) (hO : CoOk (wK W)) {k : Nat} (hk6 : k < 6) {m : Nat} (h1 : 1 ≤ m) (hm6 : m ≤ 6) (hL : wL W = 1 + m * m) (h0 : wT W 0 = m) (hla : ¬ LatR m (fun q => nI (wT W (1 + q)))) (hT : wL W ≤ 400 ∧ ∀ i, i < wL W → wT W i < 256) : RR 80 222 0 [some (.ref 146), some (.int (nI k)), none, none] [] g A (fun r__ g' A' => r__ = some (.int (-6)) ∧ WR (n + 1) g' A' (refW (enW W 0) (-6) 6)) := by
  have h36 := Nat.mul_le_mul hm6 hm6
  have hB0 : A 7 0 = nI m := (hW.2.2.2.1.2 0 (by omega)).trans (by rw [h0]; exact b8_e m (by omega))
  refine rr_nx (pc' := 1) (al' := [some (.ref 146), some (.int (nI k)), none, none]) (st' := [.int (nI k)]) d_222_0 (fun _ => rfl) ?_
  refine rr_ps (as := [.int (nI k)]) (al0 := [some (.int (nI k))]) (r := []) d_222_1 mo_222 ml_117 mz_185 rfl rfl rfl (Nat.le_of_ble_eq_true rfl) (s_isSlot (nI k)) ?_
  show RR _ _ 4 [some (.ref 146), some (.int (nI k)), none, none] [.int (bI (nI 0 ≤ (nI k) ∧ (nI k) ≤ nI 5))] g A _
  refine rr_bne (t := 13) d_222_4 (by decide) (fun c4 => ?_) (fun c4 => ?_)
  · refine rr_nx (pc' := 14) (al' := [some (.ref 146), some (.int (nI k)), none, none]) (st' := [.ref 146]) d_222_13 (fun _ => rfl) ?_
    refine rr_gn d_222_14 mo_222 fl_137 rfl hW.2.2.2.1.1 ?_
    refine rr_nx (pc' := 18) (al' := [some (.ref 146), some (.int (nI k)), some (.int (nI (wL W))), none]) (st' := []) d_222_17 (fun _ => rfl) ?_
    refine rr_nx (pc' := 19) (al' := [some (.ref 146), some (.int (nI k)), some (.int (nI (wL W))), none]) (st' := [.ref 146]) d_222_18 (fun _ => rfl) ?_
    refine rn_ic (v := 0) d_222_19 (by decide) ?_
    refine rp_13 d_222_20 mo_222 fl_137  ?_
    refine rr_nx (pc' := 24) (al' := [some (.ref 146), some (.int (nI k)), some (.int (nI (wL W))), none]) (st' := [.ref 146]) d_222_23 (fun _ => rfl) ?_
    refine rr_nx (pc' := 25) (al' := [some (.ref 146), some (.int (nI k)), some (.int (nI (wL W))), none]) (st' := [.int (nI (wL W)), .ref 146]) d_222_24 (fun _ => rfl) ?_
    refine rn_ine (t := 32) d_222_25 (by decide) (by omega) (fun c25 => ?_) (fun c25 => ?_)
    · refine rr_nx (pc' := 33) (al' := [some (.ref 146), some (.int (nI k)), some (.int (nI (wL W))), none]) (st' := [.ref 146, .ref 146]) d_222_32 (fun _ => rfl) ?_
      refine rr_gf (v := .ref (147 + 7)) d_222_33 mo_222 fl_33 rfl ?_
      refine rn_ic (v := 0) d_222_36 (by decide) ?_
      refine rr_ba (j := 7) (v := (nI m)) d_222_37 (by decide) (by decide) (by decide) (show 0 < 400 by first | omega | assumption | exact cu_36 (by omega) (cu_lt (by omega) (by omega))) hB0 ?_
      refine rp_8 d_222_38 mo_222 fl_134  ?_
      refine rr_nx (pc' := 42) (al' := [some (.ref 146), some (.int (nI k)), some (.int (nI (wL W))), none]) (st' := [.ref 146]) d_222_41 (fun _ => rfl) ?_
      refine rr_gf (v := .int (nI m)) d_222_42 mo_222 fl_134 rfl ?_
      refine rn_ic (v := 1) d_222_45 (by decide) ?_
      refine rn_bp (v := 6) d_222_46 (by decide) ?_
      refine rr_ps (as := [.int (nI m), .int (nI 1), .int (nI 6)]) (al0 := [some (.int (nI m)), some (.int (nI 1)), some (.int (nI 6))]) (r := []) d_222_48 mo_222 ml_106 mz_179 rfl rfl rfl (Nat.le_of_ble_eq_true rfl) (s_lies (nI m) (nI 1) (nI 6)) ?_
      show RR _ _ 51 [some (.ref 146), some (.int (nI k)), some (.int (nI (wL W))), none] [.int (bI ((nI 1) ≤ (nI m) ∧ (nI m) ≤ (nI 6)))] (upd (upd g 13 (nI 0)) 8 (nI m)) A _
      refine rr_beq (t := 69) d_222_51 (by decide) (fun c51 => ?_) (fun c51 => ?_)
      · exact absurd (sz_r.mpr (sz_j h1 hm6)) c51
      · refine rr_nx (pc' := 55) (al' := [some (.ref 146), some (.int (nI k)), some (.int (nI (wL W))), none]) (st' := [.int (nI (wL W))]) d_222_54 (fun _ => rfl) ?_
        refine rn_ic (v := 1) d_222_55 (by decide) ?_
        refine rr_nx (pc' := 57) (al' := [some (.ref 146), some (.int (nI k)), some (.int (nI (wL W))), none]) (st' := [.ref 146, .int (nI 1), .int (nI (wL W))]) d_222_56 (fun _ => rfl) ?_
        refine rr_gf (v := .int (nI m)) d_222_57 mo_222 fl_134 rfl ?_
        refine rr_nx (pc' := 61) (al' := [some (.ref 146), some (.int (nI k)), some (.int (nI (wL W))), none]) (st' := [.ref 146, .int (nI m), .int (nI 1), .int (nI (wL W))]) d_222_60 (fun _ => rfl) ?_
        refine rr_gf (v := .int (nI m)) d_222_61 mo_222 fl_134 rfl ?_
        refine rn_mul d_222_64  ?_
        refine rn_add d_222_65  ?_
        refine rn_ceq (t := 76) d_222_66 (by decide) (by omega) (by omega) (fun c66 => ?_) (fun c66 => ?_)
        · refine rn_ic (v := 0) d_222_76 (by decide) ?_
          refine rr_nx (pc' := 78) (al' := [some (.ref 146), some (.int (nI k)), some (.int (nI (wL W))), some (.int (nI 0))]) (st' := []) d_222_77 (fun _ => rfl) ?_
          refine rr_A (show A = (rf_u A 5 (A 5)) by rw [rf_u_id]) ?_
          refine rr_upw (al := fun i w_ => [some (.ref 146), some (.int (nI k)), some (.int (nI (wL W))), some (.int (nI i))]) (G := fun i w_ => (upd (upd g 13 (nI 0)) 8 (nI m))) (B := fun i w_ => (rf_u A 5 w_)) (P := fun i w_ => ∀ q, q < i → w_ q = bI8 (wT W (1 + q))) (n := m * m) (fun i w_ hi pi ihi => ?_) (fun w_ pi => ?_) 0 (A 5) (by omega) (all_0)
          · show RR _ _ 78 [some (.ref 146), some (.int (nI k)), some (.int (nI (wL W))), some (.int (nI i))] [] (upd (upd g 13 (nI 0)) 8 (nI m)) (rf_u A 5 w_) _
            refine rr_nx (pc' := 79) (al' := [some (.ref 146), some (.int (nI k)), some (.int (nI (wL W))), some (.int (nI i))]) (st' := [.int (nI i)]) d_222_78 (fun _ => rfl) ?_
            refine rr_nx (pc' := 80) (al' := [some (.ref 146), some (.int (nI k)), some (.int (nI (wL W))), some (.int (nI i))]) (st' := [.ref 146, .int (nI i)]) d_222_79 (fun _ => rfl) ?_
            refine rr_gf (v := .int (nI m)) d_222_80 mo_222 fl_134 rfl ?_
            refine rr_nx (pc' := 84) (al' := [some (.ref 146), some (.int (nI k)), some (.int (nI (wL W))), some (.int (nI i))]) (st' := [.ref 146, .int (nI m), .int (nI i)]) d_222_83 (fun _ => rfl) ?_
            refine rr_gf (v := .int (nI m)) d_222_84 mo_222 fl_134 rfl ?_
            refine rn_mul d_222_87  ?_
            refine rn_cge (t := 111) d_222_88 (by decide) (by omega) (by omega) (fun c88 => ?_) (fun c88 => ?_)
            · omega
            · refine rr_nx (pc' := 92) (al' := [some (.ref 146), some (.int (nI k)), some (.int (nI (wL W))), some (.int (nI i))]) (st' := [.ref 146]) d_222_91 (fun _ => rfl) ?_
              refine rr_gf (v := .ref (147 + 5)) d_222_92 mo_222 fl_26 rfl ?_
              refine rr_nx (pc' := 96) (al' := [some (.ref 146), some (.int (nI k)), some (.int (nI (wL W))), some (.int (nI i))]) (st' := [.int (nI i), .ref (147 + 5)]) d_222_95 (fun _ => rfl) ?_
              refine rr_nx (pc' := 97) (al' := [some (.ref 146), some (.int (nI k)), some (.int (nI (wL W))), some (.int (nI i))]) (st' := [.ref 146, .int (nI i), .ref (147 + 5)]) d_222_96 (fun _ => rfl) ?_
              refine rr_gf (v := .ref (147 + 7)) d_222_97 mo_222 fl_33 rfl ?_
              refine rn_ic (v := 1) d_222_100 (by decide) ?_
              refine rr_nx (pc' := 102) (al' := [some (.ref 146), some (.int (nI k)), some (.int (nI (wL W))), some (.int (nI i))]) (st' := [.int (nI i), .int (nI 1), .ref (147 + 7), .int (nI i), .ref (147 + 5)]) d_222_101 (fun _ => rfl) ?_
              refine rn_add d_222_102  ?_
              refine rr_ba (j := 7) (v := (bI8 (wT W (1 + i)))) d_222_103 (by decide) (by decide) (by decide) (show 1 + i < 400 by omega) ((congrFun (rf_u_n (by decide)) _).trans (hW.2.2.2.1.2 (1 + i) (by omega))) ?_
              refine rr_iS (j := 5) (A1 := (rf_u A 5 (upd w_ i (bI8 (wT W (1 + i)))))) d_222_104 (by decide) rfl (by decide) (show i < 36 by omega) rf_uw ?_
              refine rn_inc d_222_105 rfl rfl ?_
              show RR _ _ 108 [some (.ref 146), some (.int (nI k)), some (.int (nI (wL W))), some (.int (nI (i + 1)))] [] (upd (upd g 13 (nI 0)) 8 (nI m)) (rf_u A 5 (upd w_ i (bI8 (wT W (1 + i))))) _
              refine rr_nx (pc' := 78) (al' := [some (.ref 146), some (.int (nI k)), some (.int (nI (wL W))), some (.int (nI (i + 1)))]) (st' := []) d_222_108 (fun _ => rfl) ?_
              exact ihi (upd w_ i (bI8 (wT W (1 + i)))) (up_all (f := fun q => bI8 (wT W (1 + q))) pi rfl)
          · show RR _ _ 78 [some (.ref 146), some (.int (nI k)), some (.int (nI (wL W))), some (.int (nI (m * m)))] [] (upd (upd g 13 (nI 0)) 8 (nI m)) (rf_u A 5 w_) _
            refine rr_nx (pc' := 79) (al' := [some (.ref 146), some (.int (nI k)), some (.int (nI (wL W))), some (.int (nI (m * m)))]) (st' := [.int (nI (m * m))]) d_222_78 (fun _ => rfl) ?_
            refine rr_nx (pc' := 80) (al' := [some (.ref 146), some (.int (nI k)), some (.int (nI (wL W))), some (.int (nI (m * m)))]) (st' := [.ref 146, .int (nI (m * m))]) d_222_79 (fun _ => rfl) ?_
            refine rr_gf (v := .int (nI m)) d_222_80 mo_222 fl_134 rfl ?_
            refine rr_nx (pc' := 84) (al' := [some (.ref 146), some (.int (nI k)), some (.int (nI (wL W))), some (.int (nI (m * m)))]) (st' := [.ref 146, .int (nI m), .int (nI (m * m))]) d_222_83 (fun _ => rfl) ?_
            refine rr_gf (v := .int (nI m)) d_222_84 mo_222 fl_134 rfl ?_
            refine rn_mul d_222_87  ?_
            refine rn_cge (t := 111) d_222_88 (by decide) (by omega) (by omega) (fun c88 => ?_) (fun c88 => ?_)
            · refine rr_nx (pc' := 112) (al' := [some (.ref 146), some (.int (nI k)), some (.int (nI (wL W))), some (.int (nI (m * m)))]) (st' := [.ref 146]) d_222_111 (fun _ => rfl) ?_
              have hlm : ¬ LatR m (rf_u A 5 w_ 5) := fun h_ => hla ((la_8 hm6 (fun q hq => hT.2 (1 + q) (by omega))).mp (by rw [rf_u_s] at h_; exact h_.cg (fun q hq _ => (pi q hq).symm)))
              refine rr_pv (as := []) (al0 := [some (.ref 146), none, none, none, none]) (r := []) d_222_112 mo_222 ml_254 mz_223 rfl rfl rfl (Nat.le_of_ble_eq_true rfl) (s_isMade_n pk_us hm6 h1 hlm) ?_
              show RR _ _ 115 [some (.ref 146), some (.int (nI k)), some (.int (nI (wL W))), some (.int (nI (m * m)))] [.int (nI 0)] (upd (upd g 13 (nI 0)) 8 (nI m)) (rf_u A 5 w_) _
              refine rn_ine (t := 125) d_222_115 (by decide) (by first | omega | assumption | exact cu_36 (by omega) (cu_lt (by omega) (by omega))) (fun c115 => ?_) (fun c115 => ?_)
              · omega
              · refine rr_nx (pc' := 119) (al' := [some (.ref 146), some (.int (nI k)), some (.int (nI (wL W))), some (.int (nI (m * m)))]) (st' := [.ref 146]) d_222_118 (fun _ => rfl) ?_
                refine rr_nx (pc' := 121) (al' := [some (.ref 146), some (.int (nI k)), some (.int (nI (wL W))), some (.int (nI (m * m)))]) (st' := [.int (-6), .ref 146]) d_222_119 (fun _ => rfl) ?_
                have hW1 := (hW.en (t := 0) (Nat.zero_le _)).q (g' := (upd (upd g 13 (nI 0)) 8 (nI m))) (A' := (rf_u A 5 w_)) (Gsm.rf.u rfl) (Ksm.rf.u rfl)
                refine rr_pv (as := [.int (-6)]) (al0 := [some (.ref 146), some (.int (-6))]) (r := []) d_222_121 mo_222 ml_110 mz_180 rfl rfl rfl (Nat.le_of_ble_eq_true rfl) (s_refuses (e := 6) (by decide) (by decide)) ?_
                show RR _ _ 124 [some (.ref 146), some (.int (nI k)), some (.int (nI (wL W))), some (.int (nI (m * m)))] [.int (-6)] (upd (upd (upd g 13 (nI 0)) 8 (nI m)) 0 (-6)) (rf_u (rf_u A 5 w_) 0 (upd ((rf_u A 5 w_) 0) 6 ((rf_u A 5 w_) 0 6 + nI 1))) _
                exact rr_ri d_222_124 mr_222 rfl ⟨rfl, (hW1.rf (by decide)).mo⟩
            · omega
        · omega
    · omega
  · exact absurd ((in_r (m := 5) (by decide)).mpr ((in_j (by omega)).mpr hk6)) c4
theorem lat_in {m : Nat} {f : Nat → Int32} (h : LatR m f) (q : Nat) (hq : q < m * m) : nI 0 ≤ f q ∧ f q ≤ nI (m - 1) := by
  have := h.1 (q / m) (q % m) (dm_dl hq) (dm_ml hq)
  rw [Nat.div_add_mod] at this
  exact this
theorem r_row_y {g : Nat → Int32} {A : Nat → Nat → Int32} {n : Nat} {W : WS} (hW : WR n g A W) (hO : CoOk (wK W)) {k : Nat} (hk6 : k < 6) {m : Nat} (h1 : 1 ≤ m) (hm6 : m ≤ 6) (hL : wL W = 1 + m * m) (h0 : wT W 0 = m) (hla : LatR m (fun q => nI (wT W (1 + q)))) (hT : wL W ≤ 400 ∧ ∀ i, i < wL W → wT W i < 256) (hn5 : n ≤ 10000) : RR 80 222 0 [some (.ref 146), some (.int (nI k)), none, none] [] g A (fun r__ g' A' => r__ = some (.int (nI m)) ∧ WR (n + 1) g' A' (chW (enW W 0) k (m, fun q => wT W (1 + q)))) := by
  have h36 := Nat.mul_le_mul hm6 hm6
  have hB0 : A 7 0 = nI m := (hW.2.2.2.1.2 0 (by omega)).trans (by rw [h0]; exact b8_e m (by omega))
  refine rr_nx (pc' := 1) (al' := [some (.ref 146), some (.int (nI k)), none, none]) (st' := [.int (nI k)]) d_222_0 (fun _ => rfl) ?_
  refine rr_ps (as := [.int (nI k)]) (al0 := [some (.int (nI k))]) (r := []) d_222_1 mo_222 ml_117 mz_185 rfl rfl rfl (Nat.le_of_ble_eq_true rfl) (s_isSlot (nI k)) ?_
  show RR _ _ 4 [some (.ref 146), some (.int (nI k)), none, none] [.int (bI (nI 0 ≤ (nI k) ∧ (nI k) ≤ nI 5))] g A _
  refine rr_bne (t := 13) d_222_4 (by decide) (fun c4 => ?_) (fun c4 => ?_)
  · refine rr_nx (pc' := 14) (al' := [some (.ref 146), some (.int (nI k)), none, none]) (st' := [.ref 146]) d_222_13 (fun _ => rfl) ?_
    refine rr_gn d_222_14 mo_222 fl_137 rfl hW.2.2.2.1.1 ?_
    refine rr_nx (pc' := 18) (al' := [some (.ref 146), some (.int (nI k)), some (.int (nI (wL W))), none]) (st' := []) d_222_17 (fun _ => rfl) ?_
    refine rr_nx (pc' := 19) (al' := [some (.ref 146), some (.int (nI k)), some (.int (nI (wL W))), none]) (st' := [.ref 146]) d_222_18 (fun _ => rfl) ?_
    refine rn_ic (v := 0) d_222_19 (by decide) ?_
    refine rp_13 d_222_20 mo_222 fl_137  ?_
    refine rr_nx (pc' := 24) (al' := [some (.ref 146), some (.int (nI k)), some (.int (nI (wL W))), none]) (st' := [.ref 146]) d_222_23 (fun _ => rfl) ?_
    refine rr_nx (pc' := 25) (al' := [some (.ref 146), some (.int (nI k)), some (.int (nI (wL W))), none]) (st' := [.int (nI (wL W)), .ref 146]) d_222_24 (fun _ => rfl) ?_
    refine rn_ine (t := 32) d_222_25 (by decide) (by omega) (fun c25 => ?_) (fun c25 => ?_)
    · refine rr_nx (pc' := 33) (al' := [some (.ref 146), some (.int (nI k)), some (.int (nI (wL W))), none]) (st' := [.ref 146, .ref 146]) d_222_32 (fun _ => rfl) ?_
      refine rr_gf (v := .ref (147 + 7)) d_222_33 mo_222 fl_33 rfl ?_
      refine rn_ic (v := 0) d_222_36 (by decide) ?_
      refine rr_ba (j := 7) (v := (nI m)) d_222_37 (by decide) (by decide) (by decide) (show 0 < 400 by first | omega | assumption | exact cu_36 (by omega) (cu_lt (by omega) (by omega))) hB0 ?_
      refine rp_8 d_222_38 mo_222 fl_134  ?_
      refine rr_nx (pc' := 42) (al' := [some (.ref 146), some (.int (nI k)), some (.int (nI (wL W))), none]) (st' := [.ref 146]) d_222_41 (fun _ => rfl) ?_
      refine rr_gf (v := .int (nI m)) d_222_42 mo_222 fl_134 rfl ?_
      refine rn_ic (v := 1) d_222_45 (by decide) ?_
      refine rn_bp (v := 6) d_222_46 (by decide) ?_
      refine rr_ps (as := [.int (nI m), .int (nI 1), .int (nI 6)]) (al0 := [some (.int (nI m)), some (.int (nI 1)), some (.int (nI 6))]) (r := []) d_222_48 mo_222 ml_106 mz_179 rfl rfl rfl (Nat.le_of_ble_eq_true rfl) (s_lies (nI m) (nI 1) (nI 6)) ?_
      show RR _ _ 51 [some (.ref 146), some (.int (nI k)), some (.int (nI (wL W))), none] [.int (bI ((nI 1) ≤ (nI m) ∧ (nI m) ≤ (nI 6)))] (upd (upd g 13 (nI 0)) 8 (nI m)) A _
      refine rr_beq (t := 69) d_222_51 (by decide) (fun c51 => ?_) (fun c51 => ?_)
      · exact absurd (sz_r.mpr (sz_j h1 hm6)) c51
      · refine rr_nx (pc' := 55) (al' := [some (.ref 146), some (.int (nI k)), some (.int (nI (wL W))), none]) (st' := [.int (nI (wL W))]) d_222_54 (fun _ => rfl) ?_
        refine rn_ic (v := 1) d_222_55 (by decide) ?_
        refine rr_nx (pc' := 57) (al' := [some (.ref 146), some (.int (nI k)), some (.int (nI (wL W))), none]) (st' := [.ref 146, .int (nI 1), .int (nI (wL W))]) d_222_56 (fun _ => rfl) ?_
        refine rr_gf (v := .int (nI m)) d_222_57 mo_222 fl_134 rfl ?_
        refine rr_nx (pc' := 61) (al' := [some (.ref 146), some (.int (nI k)), some (.int (nI (wL W))), none]) (st' := [.ref 146, .int (nI m), .int (nI 1), .int (nI (wL W))]) d_222_60 (fun _ => rfl) ?_
        refine rr_gf (v := .int (nI m)) d_222_61 mo_222 fl_134 rfl ?_
        refine rn_mul d_222_64  ?_
        refine rn_add d_222_65  ?_
        refine rn_ceq (t := 76) d_222_66 (by decide) (by omega) (by omega) (fun c66 => ?_) (fun c66 => ?_)
        · refine rn_ic (v := 0) d_222_76 (by decide) ?_
          refine rr_nx (pc' := 78) (al' := [some (.ref 146), some (.int (nI k)), some (.int (nI (wL W))), some (.int (nI 0))]) (st' := []) d_222_77 (fun _ => rfl) ?_
          refine rr_A (show A = (rf_u A 5 (A 5)) by rw [rf_u_id]) ?_
          refine rr_upw (al := fun i w_ => [some (.ref 146), some (.int (nI k)), some (.int (nI (wL W))), some (.int (nI i))]) (G := fun i w_ => (upd (upd g 13 (nI 0)) 8 (nI m))) (B := fun i w_ => (rf_u A 5 w_)) (P := fun i w_ => ∀ q, q < i → w_ q = bI8 (wT W (1 + q))) (n := m * m) (fun i w_ hi pi ihi => ?_) (fun w_ pi => ?_) 0 (A 5) (by omega) (all_0)
          · show RR _ _ 78 [some (.ref 146), some (.int (nI k)), some (.int (nI (wL W))), some (.int (nI i))] [] (upd (upd g 13 (nI 0)) 8 (nI m)) (rf_u A 5 w_) _
            refine rr_nx (pc' := 79) (al' := [some (.ref 146), some (.int (nI k)), some (.int (nI (wL W))), some (.int (nI i))]) (st' := [.int (nI i)]) d_222_78 (fun _ => rfl) ?_
            refine rr_nx (pc' := 80) (al' := [some (.ref 146), some (.int (nI k)), some (.int (nI (wL W))), some (.int (nI i))]) (st' := [.ref 146, .int (nI i)]) d_222_79 (fun _ => rfl) ?_
            refine rr_gf (v := .int (nI m)) d_222_80 mo_222 fl_134 rfl ?_
            refine rr_nx (pc' := 84) (al' := [some (.ref 146), some (.int (nI k)), some (.int (nI (wL W))), some (.int (nI i))]) (st' := [.ref 146, .int (nI m), .int (nI i)]) d_222_83 (fun _ => rfl) ?_
            refine rr_gf (v := .int (nI m)) d_222_84 mo_222 fl_134 rfl ?_
            refine rn_mul d_222_87  ?_
            refine rn_cge (t := 111) d_222_88 (by decide) (by omega) (by omega) (fun c88 => ?_) (fun c88 => ?_)
            · omega
            · refine rr_nx (pc' := 92) (al' := [some (.ref 146), some (.int (nI k)), some (.int (nI (wL W))), some (.int (nI i))]) (st' := [.ref 146]) d_222_91 (fun _ => rfl) ?_
              refine rr_gf (v := .ref (147 + 5)) d_222_92 mo_222 fl_26 rfl ?_
              refine rr_nx (pc' := 96) (al' := [some (.ref 146), some (.int (nI k)), some (.int (nI (wL W))), some (.int (nI i))]) (st' := [.int (nI i), .ref (147 + 5)]) d_222_95 (fun _ => rfl) ?_
              refine rr_nx (pc' := 97) (al' := [some (.ref 146), some (.int (nI k)), some (.int (nI (wL W))), some (.int (nI i))]) (st' := [.ref 146, .int (nI i), .ref (147 + 5)]) d_222_96 (fun _ => rfl) ?_
              refine rr_gf (v := .ref (147 + 7)) d_222_97 mo_222 fl_33 rfl ?_
              refine rn_ic (v := 1) d_222_100 (by decide) ?_
              refine rr_nx (pc' := 102) (al' := [some (.ref 146), some (.int (nI k)), some (.int (nI (wL W))), some (.int (nI i))]) (st' := [.int (nI i), .int (nI 1), .ref (147 + 7), .int (nI i), .ref (147 + 5)]) d_222_101 (fun _ => rfl) ?_
              refine rn_add d_222_102  ?_
              refine rr_ba (j := 7) (v := (bI8 (wT W (1 + i)))) d_222_103 (by decide) (by decide) (by decide) (show 1 + i < 400 by omega) ((congrFun (rf_u_n (by decide)) _).trans (hW.2.2.2.1.2 (1 + i) (by omega))) ?_
              refine rr_iS (j := 5) (A1 := (rf_u A 5 (upd w_ i (bI8 (wT W (1 + i)))))) d_222_104 (by decide) rfl (by decide) (show i < 36 by omega) rf_uw ?_
              refine rn_inc d_222_105 rfl rfl ?_
              show RR _ _ 108 [some (.ref 146), some (.int (nI k)), some (.int (nI (wL W))), some (.int (nI (i + 1)))] [] (upd (upd g 13 (nI 0)) 8 (nI m)) (rf_u A 5 (upd w_ i (bI8 (wT W (1 + i))))) _
              refine rr_nx (pc' := 78) (al' := [some (.ref 146), some (.int (nI k)), some (.int (nI (wL W))), some (.int (nI (i + 1)))]) (st' := []) d_222_108 (fun _ => rfl) ?_
              exact ihi (upd w_ i (bI8 (wT W (1 + i)))) (up_all (f := fun q => bI8 (wT W (1 + q))) pi rfl)
          · show RR _ _ 78 [some (.ref 146), some (.int (nI k)), some (.int (nI (wL W))), some (.int (nI (m * m)))] [] (upd (upd g 13 (nI 0)) 8 (nI m)) (rf_u A 5 w_) _
            refine rr_nx (pc' := 79) (al' := [some (.ref 146), some (.int (nI k)), some (.int (nI (wL W))), some (.int (nI (m * m)))]) (st' := [.int (nI (m * m))]) d_222_78 (fun _ => rfl) ?_
            refine rr_nx (pc' := 80) (al' := [some (.ref 146), some (.int (nI k)), some (.int (nI (wL W))), some (.int (nI (m * m)))]) (st' := [.ref 146, .int (nI (m * m))]) d_222_79 (fun _ => rfl) ?_
            refine rr_gf (v := .int (nI m)) d_222_80 mo_222 fl_134 rfl ?_
            refine rr_nx (pc' := 84) (al' := [some (.ref 146), some (.int (nI k)), some (.int (nI (wL W))), some (.int (nI (m * m)))]) (st' := [.ref 146, .int (nI m), .int (nI (m * m))]) d_222_83 (fun _ => rfl) ?_
            refine rr_gf (v := .int (nI m)) d_222_84 mo_222 fl_134 rfl ?_
            refine rn_mul d_222_87  ?_
            refine rn_cge (t := 111) d_222_88 (by decide) (by omega) (by omega) (fun c88 => ?_) (fun c88 => ?_)
            · refine rr_nx (pc' := 112) (al' := [some (.ref 146), some (.int (nI k)), some (.int (nI (wL W))), some (.int (nI (m * m)))]) (st' := [.ref 146]) d_222_111 (fun _ => rfl) ?_
              have hlm : LatR m (rf_u A 5 w_ 5) := by rw [rf_u_s]; exact ((la_8 hm6 (fun q hq => hT.2 (1 + q) (by omega))).mpr hla).cg (fun q hq _ => pi q hq)
              refine rr_pv (as := []) (al0 := [some (.ref 146), none, none, none, none]) (r := []) d_222_112 mo_222 ml_254 mz_223 rfl rfl rfl (Nat.le_of_ble_eq_true rfl) (s_isMade_y pk_us hm6 h1 hlm) ?_
              show RR _ _ 115 [some (.ref 146), some (.int (nI k)), some (.int (nI (wL W))), some (.int (nI (m * m)))] [.int (nI 1)] (upd (upd g 13 (nI 0)) 8 (nI m)) (rf_u A 5 w_) _
              refine rn_ine (t := 125) d_222_115 (by decide) (by first | omega | assumption | exact cu_36 (by omega) (cu_lt (by omega) (by omega))) (fun c115 => ?_) (fun c115 => ?_)
              · refine rr_nx (pc' := 126) (al' := [some (.ref 146), some (.int (nI k)), some (.int (nI (wL W))), some (.int (nI (m * m)))]) (st' := [.ref 146]) d_222_125 (fun _ => rfl) ?_
                refine rr_nx (pc' := 127) (al' := [some (.ref 146), some (.int (nI k)), some (.int (nI (wL W))), some (.int (nI (m * m)))]) (st' := [.int (nI k), .ref 146]) d_222_126 (fun _ => rfl) ?_
                have hW1 := (hW.en (t := 0) (Nat.zero_le _)).q (g' := (upd (upd g 13 (nI 0)) 8 (nI m))) (A' := (rf_u A 5 w_)) (Gsm.rf.u rfl) (Ksm.rf.u rfl)
                refine rr_cv (as := [.int (nI k)]) (al0 := [some (.ref 146), some (.int (nI k)), none, none, none]) (r := []) d_222_127 mo_222 ml_257 mz_224 rfl rfl rfl (rr_wk (Nat.le_of_ble_eq_true rfl) (s_becomes (m := m) (c := fun q => wT W (1 + q)) hW1.1.1 hO.1 hk6 hm6 pk_us (fun q hq => by rw [rf_u_s, pi q hq]; exact ((b8_6 m hm6 _ (hT.2 (1 + q) (by omega))).2 (lat_in hla q hq))))) (fun v1 g1 A1 h1x => ?_)
                obtain ⟨q0_, q1_, f1, q2_, hH1, hf1⟩ := h1x
                obtain rfl := q0_
                obtain rfl := q1_
                obtain rfl := q2_
                show RR _ _ 130 [some (.ref 146), some (.int (nI k)), some (.int (nI (wL W))), some (.int (nI (m * m)))] [] (upd (upd g 13 (nI 0)) 8 (nI m)) (rf_u (rf_u A 5 w_) 1 f1) _
                refine rr_nx (pc' := 131) (al' := [some (.ref 146), some (.int (nI k)), some (.int (nI (wL W))), some (.int (nI (m * m)))]) (st' := [.ref 146]) d_222_130 (fun _ => rfl) ?_
                refine rr_nx (pc' := 132) (al' := [some (.ref 146), some (.int (nI k)), some (.int (nI (wL W))), some (.int (nI (m * m)))]) (st' := [.ref 146, .ref 146]) d_222_131 (fun _ => rfl) ?_
                refine rr_gf (v := .int (nI m)) d_222_132 mo_222 fl_134 rfl ?_
                refine rr_pv (as := [.int (nI m)]) (al0 := [some (.ref 146), some (.int (nI m))]) (r := []) d_222_135 mo_222 ml_114 mz_181 rfl rfl rfl (Nat.le_of_ble_eq_true rfl) (s_good _) ?_
                show RR _ _ 138 [some (.ref 146), some (.int (nI k)), some (.int (nI (wL W))), some (.int (nI (m * m)))] [.int (nI m)] (upd (upd (upd (upd g 13 (nI 0)) 8 (nI m)) 0 (nI 0)) 1 ((upd (upd g 13 (nI 0)) 8 (nI m)) 1 + nI 1)) (rf_u (rf_u A 5 w_) 1 f1) _
                exact rr_ri d_222_138 mr_222 rfl ⟨rfl, hW1.ch (by omega) hH1 hf1 rfl hO⟩
              · omega
            · omega
        · omega
    · omega
  · exact absurd ((in_r (m := 5) (by decide)).mpr ((in_j (by omega)).mpr hk6)) c4
theorem T_row {S : CS} {G : Nat → Nat → Value} {B : Nat → Nat → Int32} {J : Nat → Nat → Int64} {R : Nat → Nat → Option Nat} {g : Nat → Int32} {A : Nat → Nat → Int32} {n : Nat} {W : WS} (hC : WC n S G B R W) (hR : WR n g A W) (hn : n ≤ 10000) {t : Int32} : Tie n 117 222 [some (.ref 2), some (.int t), none] [some (.ref 146), some (.int t), none, none] S G B J R g A W := by
  have hO := hC.2.2.2.1
  have hT : wL W ≤ 400 ∧ ∀ i, i < wL W → wT W i < 256 := ⟨hC.2.2.2.2.2.1.1, fun i hi => (hC.2.2.2.2.2.1.2.2 i hi).2⟩
  by_cases hp6 : inP t 6
  · obtain ⟨k, hk6, e_⟩ := in_n hp6
    subst e_
    by_cases hx : ∃ m, 1 ≤ m ∧ m ≤ 6 ∧ wL W = 1 + m * m ∧ wT W 0 = m
    · obtain ⟨m, h1, hm6, hL, h0⟩ := hx
      by_cases hla : LatR m (fun q => nI (wT W (1 + q)))
      · exact ⟨_, _, p_row_y hC hk6 h1 hm6 hL h0 hla, r_row_y hR hO hk6 h1 hm6 hL h0 hla hT hn⟩
      · exact ⟨_, _, p_row_l hC hk6 h1 hm6 hL h0 hla, r_row_l hR hO hk6 h1 hm6 hL h0 hla hT⟩
    · exact ⟨_, _, p_row_h hC hk6 hx, r_row_h hR hO hk6 hx hT⟩
  · exact ⟨_, _, p_row_a hC hp6, r_row_a hR hO hp6⟩
