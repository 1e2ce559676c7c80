/-! Laws: the reference splits the tape; printed by wip/whole/gen_b24.py. -/
theorem rr_le {k y pc j : Nat} {al : AL} {r : List Value} {g : Nat → Int32} {A : Nat → Nat → Int32} {Q : Option Value → (Nat → Int32) → (Nat → Nat → Int32) → Prop} (hd : decode (am_b y) pc = .ok (.arraylength, 1)) (hj : j < 27) (hk : (am_tix (rf_k.getD j 0)).isSome = true) (kk : RR k y (pc + 1) al (.int (nI (rf_n.getD j 0)) :: r) g A Q) : RR k y pc al (.ref (147 + j) :: r) g A Q := by
  intro h hr
  refine rn_nx hd ?_ (kk h hr)
  show (if 1 = 1 then am_le pc al (.ref (147 + j) :: r) h else none) = _
  rw [if_pos rfl]
  simp only [am_le, hr.2 j hj, rf_c]
  rw [if_pos ⟨Nat.le_trans (by decide : 1 ≤ 147) (Nat.le_add_right 147 j), hk⟩]
  rfl
/-- a byte -/
def bI8 (v : Nat) : Int32 := vp_nar .byte (nI v)
theorem b8_32 : ∀ v, v < 256 → (bI8 v = nI 32 ↔ v = 32) := by decide +kernel
theorem b8_S : ∀ v, v < 256 → ((nI 97 ≤ bI8 v ∧ bI8 v ≤ nI 122) ↔ isS v = true) := by decide +kernel
theorem b8_D : ∀ v, v < 256 → ((nI 48 ≤ bI8 v ∧ bI8 v ≤ nI 57) ↔ isDg v = true) := by decide +kernel
theorem b8_255 : ∀ v, v < 256 → bI8 v &&& nI 255 = nI v := by decide +kernel
theorem b8_120 : ∀ v, v < 256 → (nI 120 = bI8 v ↔ v = 120) := by decide +kernel
theorem b8_121 : ∀ v, v < 256 → (nI 121 = bI8 v ↔ v = 121) := by decide +kernel
theorem b8_122 : ∀ v, v < 256 → (nI 122 = bI8 v ↔ v = 122) := by decide +kernel
theorem b8_101 : ∀ v, v < 256 → (nI 101 = bI8 v ↔ v = 101) := by decide +kernel
theorem b8_105 : ∀ v, v < 256 → (nI 105 = bI8 v ↔ v = 105) := by decide +kernel
theorem b8_102 : ∀ v, v < 256 → (nI 102 = bI8 v ↔ v = 102) := by decide +kernel
theorem s_isSmall {g : Nat → Int32} {A : Nat → Nat → Int32} (b : Int32) : RR 0 193 0 [some (.int b)] [] g A (rP (some (.int (bI (nI 97 ≤ b ∧ b ≤ nI 122)))) g A) := by
  refine rr_nx (pc' := 1) (al' := [some (.int b)]) (st' := [.int b]) d_193_0 (fun _ => rfl) ?_
  refine rn_bp (v := 97) d_193_1 (by decide) ?_
  refine rr_clt (t := 16) d_193_3 (by decide) (fun c3 => ?_) (fun c3 => ?_)
  · refine rn_ic (v := 0) d_193_16 (by decide) ?_
    exact rr_ri d_193_17 mr_193 (by decide) (rq_f (fun e => by first | exact absurd e.2 (Int32.not_le.mpr c9) | exact absurd e.1 (Int32.not_le.mpr c3)))
  · refine rr_nx (pc' := 7) (al' := [some (.int b)]) (st' := [.int b]) d_193_6 (fun _ => rfl) ?_
    refine rn_bp (v := 122) d_193_7 (by decide) ?_
    refine rr_cgt (t := 16) d_193_9 (by decide) (fun c9 => ?_) (fun c9 => ?_)
    · refine rn_ic (v := 0) d_193_16 (by decide) ?_
      exact rr_ri d_193_17 mr_193 (by decide) (rq_f (fun e => by first | exact absurd e.2 (Int32.not_le.mpr c9) | exact absurd e.1 (Int32.not_le.mpr c3)))
    · refine rn_ic (v := 1) d_193_12 (by decide) ?_
      refine rr_nx (pc' := 17) (al' := [some (.int b)]) (st' := [.int (nI 1)]) d_193_13 (fun _ => rfl) ?_
      exact rr_ri d_193_17 mr_193 (by decide) (rq_t ⟨Int32.not_lt.mp c3, Int32.not_lt.mp c9⟩)
theorem s_isDigit {g : Nat → Int32} {A : Nat → Nat → Int32} (b : Int32) : RR 0 194 0 [some (.int b)] [] g A (rP (some (.int (bI (nI 48 ≤ b ∧ b ≤ nI 57)))) g A) := by
  refine rr_nx (pc' := 1) (al' := [some (.int b)]) (st' := [.int b]) d_194_0 (fun _ => rfl) ?_
  refine rn_bp (v := 48) d_194_1 (by decide) ?_
  refine rr_clt (t := 16) d_194_3 (by decide) (fun c3 => ?_) (fun c3 => ?_)
  · refine rn_ic (v := 0) d_194_16 (by decide) ?_
    exact rr_ri d_194_17 mr_194 (by decide) (rq_f (fun e => by first | exact absurd e.2 (Int32.not_le.mpr c9) | exact absurd e.1 (Int32.not_le.mpr c3)))
  · refine rr_nx (pc' := 7) (al' := [some (.int b)]) (st' := [.int b]) d_194_6 (fun _ => rfl) ?_
    refine rn_bp (v := 57) d_194_7 (by decide) ?_
    refine rr_cgt (t := 16) d_194_9 (by decide) (fun c9 => ?_) (fun c9 => ?_)
    · refine rn_ic (v := 0) d_194_16 (by decide) ?_
      exact rr_ri d_194_17 mr_194 (by decide) (rq_f (fun e => by first | exact absurd e.2 (Int32.not_le.mpr c9) | exact absurd e.1 (Int32.not_le.mpr c3)))
    · refine rn_ic (v := 1) d_194_12 (by decide) ?_
      refine rr_nx (pc' := 17) (al' := [some (.int b)]) (st' := [.int (nI 1)]) d_194_13 (fun _ => rfl) ?_
      exact rr_ri d_194_17 mr_194 (by decide) (rq_t ⟨Int32.not_lt.mp c3, Int32.not_lt.mp c9⟩)
def wrd (i : Nat) : Int32 := nI ([120, 32, 121, 32, 122, 32, 101, 32, 105, 102, 32].getD i 0)
theorem s_wordOf1 {g : Nat → Int32} {A : Nat → Nat → Int32} {t : Nat → Nat} {p len : Nat} (hW : ∀ i, i < 11 → A 6 i = wrd i) (hlen : len ≤ 400) (hB : ∀ i, i < len → A 7 i = bI8 (t i)) (hb : ∀ i, i < len → t i < 256)  (hel : p + 1 ≤ len) : RR 0 195 0 [some (.ref 146), some (.int (nI p)), some (.int (nI (p + 1))), none, none, none, none, none] [] g A (rP (some (.int (nI (wdN t p (p + 1))))) g A) := by
  refine rn_ic (v := 1) d_195_0 (by decide) ?_
  refine rr_nx (pc' := 2) (al' := [some (.ref 146), some (.int (nI p)), some (.int (nI (p + 1))), some (.int (nI 1)), none, none, none, none]) (st' := []) d_195_1 (fun _ => rfl) ?_
  refine rn_ic (v := 0) d_195_2 (by decide) ?_
  refine rr_nx (pc' := 5) (al' := [some (.ref 146), some (.int (nI p)), some (.int (nI (p + 1))), some (.int (nI 1)), some (.int (nI 0)), none, none, none]) (st' := []) d_195_3 (fun _ => rfl) ?_
  refine rr_nx (pc' := 7) (al' := [some (.ref 146), some (.int (nI p)), some (.int (nI (p + 1))), some (.int (nI 1)), some (.int (nI 0)), none, none, none]) (st' := [.int (nI 0)]) d_195_5 (fun _ => rfl) ?_
  refine rr_nx (pc' := 8) (al' := [some (.ref 146), some (.int (nI p)), some (.int (nI (p + 1))), some (.int (nI 1)), some (.int (nI 0)), none, none, none]) (st' := [.ref 146, .int (nI 0)]) d_195_7 (fun _ => rfl) ?_
  refine rr_gf (v := .ref (147 + 6)) d_195_8 mo_195 fl_29 rfl ?_
  refine rr_le (j := 6) d_195_11 (by decide) (by decide) ?_
  show RR _ _ 12 [some (.ref 146), some (.int (nI p)), some (.int (nI (p + 1))), some (.int (nI 1)), some (.int (nI 0)), none, none, none] [.int (nI 11), .int (nI 0)] g A _
  refine rn_cge (t := 126) d_195_12 (by decide) (by first | omega | assumption | exact cu_36 (by omega) (cu_lt (by omega) (by omega))) (by first | omega | assumption | exact cu_36 (by omega) (cu_lt (by omega) (by omega))) (fun c12 => ?_) (fun c12 => ?_)
  · omega
  · refine rn_ic (v := 0) d_195_15 (by decide) ?_
    refine rr_nx (pc' := 18) (al' := [some (.ref 146), some (.int (nI p)), some (.int (nI (p + 1))), some (.int (nI 1)), some (.int (nI 0)), some (.int (nI 0)), none, none]) (st' := []) d_195_16 (fun _ => rfl) ?_
    refine rr_nx (pc' := 19) (al' := [some (.ref 146), some (.int (nI p)), some (.int (nI (p + 1))), some (.int (nI 1)), some (.int (nI 0)), some (.int (nI 0)), none, none]) (st' := [.ref 146]) d_195_18 (fun _ => rfl) ?_
    refine rr_gf (v := .ref (147 + 6)) d_195_19 mo_195 fl_29 rfl ?_
    refine rr_nx (pc' := 24) (al' := [some (.ref 146), some (.int (nI p)), some (.int (nI (p + 1))), some (.int (nI 1)), some (.int (nI 0)), some (.int (nI 0)), none, none]) (st' := [.int (nI 0), .ref (147 + 6)]) d_195_22 (fun _ => rfl) ?_
    refine rr_nx (pc' := 26) (al' := [some (.ref 146), some (.int (nI p)), some (.int (nI (p + 1))), some (.int (nI 1)), some (.int (nI 0)), some (.int (nI 0)), none, none]) (st' := [.int (nI 0), .int (nI 0), .ref (147 + 6)]) d_195_24 (fun _ => rfl) ?_
    refine rn_add d_195_26  ?_
    refine rr_ba (j := 6) (v := (nI 120)) d_195_27 (by decide) (by decide) (by decide) (show 0 < 11 by first | omega | assumption | exact cu_36 (by omega) (cu_lt (by omega) (by omega))) (hW 0 (by decide)) ?_
    refine rn_bp (v := 32) d_195_28 (by decide) ?_
    refine rn_ceq (t := 39) d_195_30 (by decide) (by first | omega | assumption | exact cu_36 (by omega) (cu_lt (by omega) (by omega))) (by first | omega | assumption | exact cu_36 (by omega) (cu_lt (by omega) (by omega))) (fun c30 => ?_) (fun c30 => ?_)
    · omega
    · refine rn_inc d_195_33 rfl rfl ?_
      show RR _ _ 36 [some (.ref 146), some (.int (nI p)), some (.int (nI (p + 1))), some (.int (nI 1)), some (.int (nI 0)), some (.int (nI 1)), none, none] [] g A _
      refine rr_nx (pc' := 18) (al' := [some (.ref 146), some (.int (nI p)), some (.int (nI (p + 1))), some (.int (nI 1)), some (.int (nI 0)), some (.int (nI 1)), none, none]) (st' := []) d_195_36 (fun _ => rfl) ?_
      refine rr_nx (pc' := 19) (al' := [some (.ref 146), some (.int (nI p)), some (.int (nI (p + 1))), some (.int (nI 1)), some (.int (nI 0)), some (.int (nI 1)), none, none]) (st' := [.ref 146]) d_195_18 (fun _ => rfl) ?_
      refine rr_gf (v := .ref (147 + 6)) d_195_19 mo_195 fl_29 rfl ?_
      refine rr_nx (pc' := 24) (al' := [some (.ref 146), some (.int (nI p)), some (.int (nI (p + 1))), some (.int (nI 1)), some (.int (nI 0)), some (.int (nI 1)), none, none]) (st' := [.int (nI 0), .ref (147 + 6)]) d_195_22 (fun _ => rfl) ?_
      refine rr_nx (pc' := 26) (al' := [some (.ref 146), some (.int (nI p)), some (.int (nI (p + 1))), some (.int (nI 1)), some (.int (nI 0)), some (.int (nI 1)), none, none]) (st' := [.int (nI 1), .int (nI 0), .ref (147 + 6)]) d_195_24 (fun _ => rfl) ?_
      refine rn_add d_195_26  ?_
      refine rr_ba (j := 6) (v := (nI 32)) d_195_27 (by decide) (by decide) (by decide) (show 1 < 11 by first | omega | assumption | exact cu_36 (by omega) (cu_lt (by omega) (by omega))) (hW 1 (by decide)) ?_
      refine rn_bp (v := 32) d_195_28 (by decide) ?_
      refine rn_ceq (t := 39) d_195_30 (by decide) (by first | omega | assumption | exact cu_36 (by omega) (cu_lt (by omega) (by omega))) (by first | omega | assumption | exact cu_36 (by omega) (cu_lt (by omega) (by omega))) (fun c30 => ?_) (fun c30 => ?_)
      · refine rr_nx (pc' := 41) (al' := [some (.ref 146), some (.int (nI p)), some (.int (nI (p + 1))), some (.int (nI 1)), some (.int (nI 0)), some (.int (nI 1)), none, none]) (st' := [.int (nI 1)]) d_195_39 (fun _ => rfl) ?_
        refine rr_nx (pc' := 42) (al' := [some (.ref 146), some (.int (nI p)), some (.int (nI (p + 1))), some (.int (nI 1)), some (.int (nI 0)), some (.int (nI 1)), none, none]) (st' := [.int (nI (p + 1)), .int (nI 1)]) d_195_41 (fun _ => rfl) ?_
        refine rr_nx (pc' := 43) (al' := [some (.ref 146), some (.int (nI p)), some (.int (nI (p + 1))), some (.int (nI 1)), some (.int (nI 0)), some (.int (nI 1)), none, none]) (st' := [.int (nI p), .int (nI (p + 1)), .int (nI 1)]) d_195_42 (fun _ => rfl) ?_
        refine rn_sub d_195_43 (by omega) ?_
        refine rn_cne (t := 51) d_195_44 (by decide) (by first | omega | assumption | exact cu_36 (by omega) (cu_lt (by omega) (by omega))) (by first | omega | assumption | exact cu_36 (by omega) (cu_lt (by omega) (by omega))) (fun c44 => ?_) (fun c44 => ?_)
        · omega
        · refine rn_ic (v := 1) d_195_47 (by decide) ?_
          refine rr_nx (pc' := 52) (al' := [some (.ref 146), some (.int (nI p)), some (.int (nI (p + 1))), some (.int (nI 1)), some (.int (nI 0)), some (.int (nI 1)), none, none]) (st' := [.int (nI 1)]) d_195_48 (fun _ => rfl) ?_
          refine rr_nx (pc' := 54) (al' := [some (.ref 146), some (.int (nI p)), some (.int (nI (p + 1))), some (.int (nI 1)), some (.int (nI 0)), some (.int (nI 1)), some (.int (nI 1)), none]) (st' := []) d_195_52 (fun _ => rfl) ?_
          refine rn_ic (v := 0) d_195_54 (by decide) ?_
          refine rr_nx (pc' := 57) (al' := [some (.ref 146), some (.int (nI p)), some (.int (nI (p + 1))), some (.int (nI 1)), some (.int (nI 0)), some (.int (nI 1)), some (.int (nI 1)), some (.int (nI 0))]) (st' := []) d_195_55 (fun _ => rfl) ?_
          refine rr_nx (pc' := 59) (al' := [some (.ref 146), some (.int (nI p)), some (.int (nI (p + 1))), some (.int (nI 1)), some (.int (nI 0)), some (.int (nI 1)), some (.int (nI 1)), some (.int (nI 0))]) (st' := [.int (nI 0)]) d_195_57 (fun _ => rfl) ?_
          refine rr_nx (pc' := 61) (al' := [some (.ref 146), some (.int (nI p)), some (.int (nI (p + 1))), some (.int (nI 1)), some (.int (nI 0)), some (.int (nI 1)), some (.int (nI 1)), some (.int (nI 0))]) (st' := [.int (nI 1), .int (nI 0)]) d_195_59 (fun _ => rfl) ?_
          refine rn_cge (t := 104) d_195_61 (by decide) (by first | omega | assumption | exact cu_36 (by omega) (cu_lt (by omega) (by omega))) (by first | omega | assumption | exact cu_36 (by omega) (cu_lt (by omega) (by omega))) (fun c61 => ?_) (fun c61 => ?_)
          · omega
          · refine rr_nx (pc' := 66) (al' := [some (.ref 146), some (.int (nI p)), some (.int (nI (p + 1))), some (.int (nI 1)), some (.int (nI 0)), some (.int (nI 1)), some (.int (nI 1)), some (.int (nI 0))]) (st' := [.int (nI 1)]) d_195_64 (fun _ => rfl) ?_
            refine rn_ieq (t := 104) d_195_66 (by decide) (by first | omega | assumption | exact cu_36 (by omega) (cu_lt (by omega) (by omega))) (fun c66 => ?_) (fun c66 => ?_)
            · omega
            · refine rr_nx (pc' := 70) (al' := [some (.ref 146), some (.int (nI p)), some (.int (nI (p + 1))), some (.int (nI 1)), some (.int (nI 0)), some (.int (nI 1)), some (.int (nI 1)), some (.int (nI 0))]) (st' := [.ref 146]) d_195_69 (fun _ => rfl) ?_
              refine rr_gf (v := .ref (147 + 6)) d_195_70 mo_195 fl_29 rfl ?_
              refine rr_nx (pc' := 75) (al' := [some (.ref 146), some (.int (nI p)), some (.int (nI (p + 1))), some (.int (nI 1)), some (.int (nI 0)), some (.int (nI 1)), some (.int (nI 1)), some (.int (nI 0))]) (st' := [.int (nI 0), .ref (147 + 6)]) d_195_73 (fun _ => rfl) ?_
              refine rr_nx (pc' := 77) (al' := [some (.ref 146), some (.int (nI p)), some (.int (nI (p + 1))), some (.int (nI 1)), some (.int (nI 0)), some (.int (nI 1)), some (.int (nI 1)), some (.int (nI 0))]) (st' := [.int (nI 0), .int (nI 0), .ref (147 + 6)]) d_195_75 (fun _ => rfl) ?_
              refine rn_add d_195_77  ?_
              refine rr_ba (j := 6) (v := (nI 120)) d_195_78 (by decide) (by decide) (by decide) (show 0 < 11 by first | omega | assumption | exact cu_36 (by omega) (cu_lt (by omega) (by omega))) (hW 0 (by decide)) ?_
              refine rr_nx (pc' := 80) (al' := [some (.ref 146), some (.int (nI p)), some (.int (nI (p + 1))), some (.int (nI 1)), some (.int (nI 0)), some (.int (nI 1)), some (.int (nI 1)), some (.int (nI 0))]) (st' := [.ref 146, .int (nI 120)]) d_195_79 (fun _ => rfl) ?_
              refine rr_gf (v := .ref (147 + 7)) d_195_80 mo_195 fl_33 rfl ?_
              refine rr_nx (pc' := 84) (al' := [some (.ref 146), some (.int (nI p)), some (.int (nI (p + 1))), some (.int (nI 1)), some (.int (nI 0)), some (.int (nI 1)), some (.int (nI 1)), some (.int (nI 0))]) (st' := [.int (nI p), .ref (147 + 7), .int (nI 120)]) d_195_83 (fun _ => rfl) ?_
              refine rr_nx (pc' := 86) (al' := [some (.ref 146), some (.int (nI p)), some (.int (nI (p + 1))), some (.int (nI 1)), some (.int (nI 0)), some (.int (nI 1)), some (.int (nI 1)), some (.int (nI 0))]) (st' := [.int (nI 0), .int (nI p), .ref (147 + 7), .int (nI 120)]) d_195_84 (fun _ => rfl) ?_
              refine rn_add d_195_86  ?_
              refine rr_ba (j := 7) (v := (bI8 (t p))) d_195_87 (by decide) (by decide) (by decide) (show p + 0 < 400 by omega) (hB p (by omega)) ?_
              refine rr_cne (t := 95) d_195_88 (by decide) (fun c88 => ?_) (fun c88 => ?_)
              · have n120 : ¬ t (p) = 120 := fun q => c88 ((b8_120 _ (hb (p) (by omega))).mpr q)
                refine rn_ic (v := 0) d_195_95 (by decide) ?_
                refine rr_nx (pc' := 98) (al' := [some (.ref 146), some (.int (nI p)), some (.int (nI (p + 1))), some (.int (nI 1)), some (.int (nI 0)), some (.int (nI 1)), some (.int (nI 0)), some (.int (nI 0))]) (st' := []) d_195_96 (fun _ => rfl) ?_
                refine rn_inc d_195_98 rfl rfl ?_
                show RR _ _ 101 [some (.ref 146), some (.int (nI p)), some (.int (nI (p + 1))), some (.int (nI 1)), some (.int (nI 0)), some (.int (nI 1)), some (.int (nI 0)), some (.int (nI 1))] [] g A _
                refine rr_nx (pc' := 57) (al' := [some (.ref 146), some (.int (nI p)), some (.int (nI (p + 1))), some (.int (nI 1)), some (.int (nI 0)), some (.int (nI 1)), some (.int (nI 0)), some (.int (nI 1))]) (st' := []) d_195_101 (fun _ => rfl) ?_
                refine rr_nx (pc' := 59) (al' := [some (.ref 146), some (.int (nI p)), some (.int (nI (p + 1))), some (.int (nI 1)), some (.int (nI 0)), some (.int (nI 1)), some (.int (nI 0)), some (.int (nI 1))]) (st' := [.int (nI 1)]) d_195_57 (fun _ => rfl) ?_
                refine rr_nx (pc' := 61) (al' := [some (.ref 146), some (.int (nI p)), some (.int (nI (p + 1))), some (.int (nI 1)), some (.int (nI 0)), some (.int (nI 1)), some (.int (nI 0)), some (.int (nI 1))]) (st' := [.int (nI 1), .int (nI 1)]) d_195_59 (fun _ => rfl) ?_
                refine rn_cge (t := 104) d_195_61 (by decide) (by first | omega | assumption | exact cu_36 (by omega) (cu_lt (by omega) (by omega))) (by first | omega | assumption | exact cu_36 (by omega) (cu_lt (by omega) (by omega))) (fun c61 => ?_) (fun c61 => ?_)
                · refine rr_nx (pc' := 106) (al' := [some (.ref 146), some (.int (nI p)), some (.int (nI (p + 1))), some (.int (nI 1)), some (.int (nI 0)), some (.int (nI 1)), some (.int (nI 0)), some (.int (nI 1))]) (st' := [.int (nI 0)]) d_195_104 (fun _ => rfl) ?_
                  refine rn_ieq (t := 111) d_195_106 (by decide) (by first | omega | assumption | exact cu_36 (by omega) (cu_lt (by omega) (by omega))) (fun c106 => ?_) (fun c106 => ?_)
                  · refine rr_nx (pc' := 113) (al' := [some (.ref 146), some (.int (nI p)), some (.int (nI (p + 1))), some (.int (nI 1)), some (.int (nI 0)), some (.int (nI 1)), some (.int (nI 0)), some (.int (nI 1))]) (st' := [.int (nI 0)]) d_195_111 (fun _ => rfl) ?_
                    refine rr_nx (pc' := 115) (al' := [some (.ref 146), some (.int (nI p)), some (.int (nI (p + 1))), some (.int (nI 1)), some (.int (nI 0)), some (.int (nI 1)), some (.int (nI 0)), some (.int (nI 1))]) (st' := [.int (nI 1), .int (nI 0)]) d_195_113 (fun _ => rfl) ?_
                    refine rn_ic (v := 1) d_195_115 (by decide) ?_
                    refine rn_add d_195_116  ?_
                    refine rn_add d_195_117  ?_
                    refine rr_nx (pc' := 120) (al' := [some (.ref 146), some (.int (nI p)), some (.int (nI (p + 1))), some (.int (nI 1)), some (.int (nI 2)), some (.int (nI 1)), some (.int (nI 0)), some (.int (nI 1))]) (st' := []) d_195_118 (fun _ => rfl) ?_
                    refine rn_inc d_195_120 rfl rfl ?_
                    show RR _ _ 123 [some (.ref 146), some (.int (nI p)), some (.int (nI (p + 1))), some (.int (nI 2)), some (.int (nI 2)), some (.int (nI 1)), some (.int (nI 0)), some (.int (nI 1))] [] g A _
                    refine rr_nx (pc' := 5) (al' := [some (.ref 146), some (.int (nI p)), some (.int (nI (p + 1))), some (.int (nI 2)), some (.int (nI 2)), some (.int (nI 1)), some (.int (nI 0)), some (.int (nI 1))]) (st' := []) d_195_123 (fun _ => rfl) ?_
                    refine rr_nx (pc' := 7) (al' := [some (.ref 146), some (.int (nI p)), some (.int (nI (p + 1))), some (.int (nI 2)), some (.int (nI 2)), some (.int (nI 1)), some (.int (nI 0)), some (.int (nI 1))]) (st' := [.int (nI 2)]) d_195_5 (fun _ => rfl) ?_
                    refine rr_nx (pc' := 8) (al' := [some (.ref 146), some (.int (nI p)), some (.int (nI (p + 1))), some (.int (nI 2)), some (.int (nI 2)), some (.int (nI 1)), some (.int (nI 0)), some (.int (nI 1))]) (st' := [.ref 146, .int (nI 2)]) d_195_7 (fun _ => rfl) ?_
                    refine rr_gf (v := .ref (147 + 6)) d_195_8 mo_195 fl_29 rfl ?_
                    refine rr_le (j := 6) d_195_11 (by decide) (by decide) ?_
                    show RR _ _ 12 [some (.ref 146), some (.int (nI p)), some (.int (nI (p + 1))), some (.int (nI 2)), some (.int (nI 2)), some (.int (nI 1)), some (.int (nI 0)), some (.int (nI 1))] [.int (nI 11), .int (nI 2)] g A _
                    refine rn_cge (t := 126) d_195_12 (by decide) (by first | omega | assumption | exact cu_36 (by omega) (cu_lt (by omega) (by omega))) (by first | omega | assumption | exact cu_36 (by omega) (cu_lt (by omega) (by omega))) (fun c12 => ?_) (fun c12 => ?_)
                    · omega
                    · refine rn_ic (v := 0) d_195_15 (by decide) ?_
                      refine rr_nx (pc' := 18) (al' := [some (.ref 146), some (.int (nI p)), some (.int (nI (p + 1))), some (.int (nI 2)), some (.int (nI 2)), some (.int (nI 0)), some (.int (nI 0)), some (.int (nI 1))]) (st' := []) d_195_16 (fun _ => rfl) ?_
                      refine rr_nx (pc' := 19) (al' := [some (.ref 146), some (.int (nI p)), some (.int (nI (p + 1))), some (.int (nI 2)), some (.int (nI 2)), some (.int (nI 0)), some (.int (nI 0)), some (.int (nI 1))]) (st' := [.ref 146]) d_195_18 (fun _ => rfl) ?_
                      refine rr_gf (v := .ref (147 + 6)) d_195_19 mo_195 fl_29 rfl ?_
                      refine rr_nx (pc' := 24) (al' := [some (.ref 146), some (.int (nI p)), some (.int (nI (p + 1))), some (.int (nI 2)), some (.int (nI 2)), some (.int (nI 0)), some (.int (nI 0)), some (.int (nI 1))]) (st' := [.int (nI 2), .ref (147 + 6)]) d_195_22 (fun _ => rfl) ?_
                      refine rr_nx (pc' := 26) (al' := [some (.ref 146), some (.int (nI p)), some (.int (nI (p + 1))), some (.int (nI 2)), some (.int (nI 2)), some (.int (nI 0)), some (.int (nI 0)), some (.int (nI 1))]) (st' := [.int (nI 0), .int (nI 2), .ref (147 + 6)]) d_195_24 (fun _ => rfl) ?_
                      refine rn_add d_195_26  ?_
                      refine rr_ba (j := 6) (v := (nI 121)) d_195_27 (by decide) (by decide) (by decide) (show 2 < 11 by first | omega | assumption | exact cu_36 (by omega) (cu_lt (by omega) (by omega))) (hW 2 (by decide)) ?_
                      refine rn_bp (v := 32) d_195_28 (by decide) ?_
                      refine rn_ceq (t := 39) d_195_30 (by decide) (by first | omega | assumption | exact cu_36 (by omega) (cu_lt (by omega) (by omega))) (by first | omega | assumption | exact cu_36 (by omega) (cu_lt (by omega) (by omega))) (fun c30 => ?_) (fun c30 => ?_)
                      · omega
                      · refine rn_inc d_195_33 rfl rfl ?_
                        show RR _ _ 36 [some (.ref 146), some (.int (nI p)), some (.int (nI (p + 1))), some (.int (nI 2)), some (.int (nI 2)), some (.int (nI 1)), some (.int (nI 0)), some (.int (nI 1))] [] g A _
                        refine rr_nx (pc' := 18) (al' := [some (.ref 146), some (.int (nI p)), some (.int (nI (p + 1))), some (.int (nI 2)), some (.int (nI 2)), some (.int (nI 1)), some (.int (nI 0)), some (.int (nI 1))]) (st' := []) d_195_36 (fun _ => rfl) ?_
                        refine rr_nx (pc' := 19) (al' := [some (.ref 146), some (.int (nI p)), some (.int (nI (p + 1))), some (.int (nI 2)), some (.int (nI 2)), some (.int (nI 1)), some (.int (nI 0)), some (.int (nI 1))]) (st' := [.ref 146]) d_195_18 (fun _ => rfl) ?_
                        refine rr_gf (v := .ref (147 + 6)) d_195_19 mo_195 fl_29 rfl ?_
                        refine rr_nx (pc' := 24) (al' := [some (.ref 146), some (.int (nI p)), some (.int (nI (p + 1))), some (.int (nI 2)), some (.int (nI 2)), some (.int (nI 1)), some (.int (nI 0)), some (.int (nI 1))]) (st' := [.int (nI 2), .ref (147 + 6)]) d_195_22 (fun _ => rfl) ?_
                        refine rr_nx (pc' := 26) (al' := [some (.ref 146), some (.int (nI p)), some (.int (nI (p + 1))), some (.int (nI 2)), some (.int (nI 2)), some (.int (nI 1)), some (.int (nI 0)), some (.int (nI 1))]) (st' := [.int (nI 1), .int (nI 2), .ref (147 + 6)]) d_195_24 (fun _ => rfl) ?_
                        refine rn_add d_195_26  ?_
                        refine rr_ba (j := 6) (v := (nI 32)) d_195_27 (by decide) (by decide) (by decide) (show 3 < 11 by first | omega | assumption | exact cu_36 (by omega) (cu_lt (by omega) (by omega))) (hW 3 (by decide)) ?_
                        refine rn_bp (v := 32) d_195_28 (by decide) ?_
                        refine rn_ceq (t := 39) d_195_30 (by decide) (by first | omega | assumption | exact cu_36 (by omega) (cu_lt (by omega) (by omega))) (by first | omega | assumption | exact cu_36 (by omega) (cu_lt (by omega) (by omega))) (fun c30 => ?_) (fun c30 => ?_)
                        · refine rr_nx (pc' := 41) (al' := [some (.ref 146), some (.int (nI p)), some (.int (nI (p + 1))), some (.int (nI 2)), some (.int (nI 2)), some (.int (nI 1)), some (.int (nI 0)), some (.int (nI 1))]) (st' := [.int (nI 1)]) d_195_39 (fun _ => rfl) ?_
                          refine rr_nx (pc' := 42) (al' := [some (.ref 146), some (.int (nI p)), some (.int (nI (p + 1))), some (.int (nI 2)), some (.int (nI 2)), some (.int (nI 1)), some (.int (nI 0)), some (.int (nI 1))]) (st' := [.int (nI (p + 1)), .int (nI 1)]) d_195_41 (fun _ => rfl) ?_
                          refine rr_nx (pc' := 43) (al' := [some (.ref 146), some (.int (nI p)), some (.int (nI (p + 1))), some (.int (nI 2)), some (.int (nI 2)), some (.int (nI 1)), some (.int (nI 0)), some (.int (nI 1))]) (st' := [.int (nI p), .int (nI (p + 1)), .int (nI 1)]) d_195_42 (fun _ => rfl) ?_
                          refine rn_sub d_195_43 (by omega) ?_
                          refine rn_cne (t := 51) d_195_44 (by decide) (by first | omega | assumption | exact cu_36 (by omega) (cu_lt (by omega) (by omega))) (by first | omega | assumption | exact cu_36 (by omega) (cu_lt (by omega) (by omega))) (fun c44 => ?_) (fun c44 => ?_)
                          · omega
                          · refine rn_ic (v := 1) d_195_47 (by decide) ?_
                            refine rr_nx (pc' := 52) (al' := [some (.ref 146), some (.int (nI p)), some (.int (nI (p + 1))), some (.int (nI 2)), some (.int (nI 2)), some (.int (nI 1)), some (.int (nI 0)), some (.int (nI 1))]) (st' := [.int (nI 1)]) d_195_48 (fun _ => rfl) ?_
                            refine rr_nx (pc' := 54) (al' := [some (.ref 146), some (.int (nI p)), some (.int (nI (p + 1))), some (.int (nI 2)), some (.int (nI 2)), some (.int (nI 1)), some (.int (nI 1)), some (.int (nI 1))]) (st' := []) d_195_52 (fun _ => rfl) ?_
                            refine rn_ic (v := 0) d_195_54 (by decide) ?_
                            refine rr_nx (pc' := 57) (al' := [some (.ref 146), some (.int (nI p)), some (.int (nI (p + 1))), some (.int (nI 2)), some (.int (nI 2)), some (.int (nI 1)), some (.int (nI 1)), some (.int (nI 0))]) (st' := []) d_195_55 (fun _ => rfl) ?_
                            refine rr_nx (pc' := 59) (al' := [some (.ref 146), some (.int (nI p)), some (.int (nI (p + 1))), some (.int (nI 2)), some (.int (nI 2)), some (.int (nI 1)), some (.int (nI 1)), some (.int (nI 0))]) (st' := [.int (nI 0)]) d_195_57 (fun _ => rfl) ?_
                            refine rr_nx (pc' := 61) (al' := [some (.ref 146), some (.int (nI p)), some (.int (nI (p + 1))), some (.int (nI 2)), some (.int (nI 2)), some (.int (nI 1)), some (.int (nI 1)), some (.int (nI 0))]) (st' := [.int (nI 1), .int (nI 0)]) d_195_59 (fun _ => rfl) ?_
                            refine rn_cge (t := 104) d_195_61 (by decide) (by first | omega | assumption | exact cu_36 (by omega) (cu_lt (by omega) (by omega))) (by first | omega | assumption | exact cu_36 (by omega) (cu_lt (by omega) (by omega))) (fun c61 => ?_) (fun c61 => ?_)
                            · omega
                            · refine rr_nx (pc' := 66) (al' := [some (.ref 146), some (.int (nI p)), some (.int (nI (p + 1))), some (.int (nI 2)), some (.int (nI 2)), some (.int (nI 1)), some (.int (nI 1)), some (.int (nI 0))]) (st' := [.int (nI 1)]) d_195_64 (fun _ => rfl) ?_
                              refine rn_ieq (t := 104) d_195_66 (by decide) (by first | omega | assumption | exact cu_36 (by omega) (cu_lt (by omega) (by omega))) (fun c66 => ?_) (fun c66 => ?_)
                              · omega
                              · refine rr_nx (pc' := 70) (al' := [some (.ref 146), some (.int (nI p)), some (.int (nI (p + 1))), some (.int (nI 2)), some (.int (nI 2)), some (.int (nI 1)), some (.int (nI 1)), some (.int (nI 0))]) (st' := [.ref 146]) d_195_69 (fun _ => rfl) ?_
                                refine rr_gf (v := .ref (147 + 6)) d_195_70 mo_195 fl_29 rfl ?_
                                refine rr_nx (pc' := 75) (al' := [some (.ref 146), some (.int (nI p)), some (.int (nI (p + 1))), some (.int (nI 2)), some (.int (nI 2)), some (.int (nI 1)), some (.int (nI 1)), some (.int (nI 0))]) (st' := [.int (nI 2), .ref (147 + 6)]) d_195_73 (fun _ => rfl) ?_
                                refine rr_nx (pc' := 77) (al' := [some (.ref 146), some (.int (nI p)), some (.int (nI (p + 1))), some (.int (nI 2)), some (.int (nI 2)), some (.int (nI 1)), some (.int (nI 1)), some (.int (nI 0))]) (st' := [.int (nI 0), .int (nI 2), .ref (147 + 6)]) d_195_75 (fun _ => rfl) ?_
                                refine rn_add d_195_77  ?_
                                refine rr_ba (j := 6) (v := (nI 121)) d_195_78 (by decide) (by decide) (by decide) (show 2 < 11 by first | omega | assumption | exact cu_36 (by omega) (cu_lt (by omega) (by omega))) (hW 2 (by decide)) ?_
                                refine rr_nx (pc' := 80) (al' := [some (.ref 146), some (.int (nI p)), some (.int (nI (p + 1))), some (.int (nI 2)), some (.int (nI 2)), some (.int (nI 1)), some (.int (nI 1)), some (.int (nI 0))]) (st' := [.ref 146, .int (nI 121)]) d_195_79 (fun _ => rfl) ?_
                                refine rr_gf (v := .ref (147 + 7)) d_195_80 mo_195 fl_33 rfl ?_
                                refine rr_nx (pc' := 84) (al' := [some (.ref 146), some (.int (nI p)), some (.int (nI (p + 1))), some (.int (nI 2)), some (.int (nI 2)), some (.int (nI 1)), some (.int (nI 1)), some (.int (nI 0))]) (st' := [.int (nI p), .ref (147 + 7), .int (nI 121)]) d_195_83 (fun _ => rfl) ?_
                                refine rr_nx (pc' := 86) (al' := [some (.ref 146), some (.int (nI p)), some (.int (nI (p + 1))), some (.int (nI 2)), some (.int (nI 2)), some (.int (nI 1)), some (.int (nI 1)), some (.int (nI 0))]) (st' := [.int (nI 0), .int (nI p), .ref (147 + 7), .int (nI 121)]) d_195_84 (fun _ => rfl) ?_
                                refine rn_add d_195_86  ?_
                                refine rr_ba (j := 7) (v := (bI8 (t p))) d_195_87 (by decide) (by decide) (by decide) (show p + 0 < 400 by omega) (hB p (by omega)) ?_
                                refine rr_cne (t := 95) d_195_88 (by decide) (fun c88 => ?_) (fun c88 => ?_)
                                · have n121 : ¬ t (p) = 121 := fun q => c88 ((b8_121 _ (hb (p) (by omega))).mpr q)
                                  refine rn_ic (v := 0) d_195_95 (by decide) ?_
                                  refine rr_nx (pc' := 98) (al' := [some (.ref 146), some (.int (nI p)), some (.int (nI (p + 1))), some (.int (nI 2)), some (.int (nI 2)), some (.int (nI 1)), some (.int (nI 0)), some (.int (nI 0))]) (st' := []) d_195_96 (fun _ => rfl) ?_
                                  refine rn_inc d_195_98 rfl rfl ?_
                                  show RR _ _ 101 [some (.ref 146), some (.int (nI p)), some (.int (nI (p + 1))), some (.int (nI 2)), some (.int (nI 2)), some (.int (nI 1)), some (.int (nI 0)), some (.int (nI 1))] [] g A _
                                  refine rr_nx (pc' := 57) (al' := [some (.ref 146), some (.int (nI p)), some (.int (nI (p + 1))), some (.int (nI 2)), some (.int (nI 2)), some (.int (nI 1)), some (.int (nI 0)), some (.int (nI 1))]) (st' := []) d_195_101 (fun _ => rfl) ?_
                                  refine rr_nx (pc' := 59) (al' := [some (.ref 146), some (.int (nI p)), some (.int (nI (p + 1))), some (.int (nI 2)), some (.int (nI 2)), some (.int (nI 1)), some (.int (nI 0)), some (.int (nI 1))]) (st' := [.int (nI 1)]) d_195_57 (fun _ => rfl) ?_
                                  refine rr_nx (pc' := 61) (al' := [some (.ref 146), some (.int (nI p)), some (.int (nI (p + 1))), some (.int (nI 2)), some (.int (nI 2)), some (.int (nI 1)), some (.int (nI 0)), some (.int (nI 1))]) (st' := [.int (nI 1), .int (nI 1)]) d_195_59 (fun _ => rfl) ?_
                                  refine rn_cge (t := 104) d_195_61 (by decide) (by first | omega | assumption | exact cu_36 (by omega) (cu_lt (by omega) (by omega))) (by first | omega | assumption | exact cu_36 (by omega) (cu_lt (by omega) (by omega))) (fun c61 => ?_) (fun c61 => ?_)
                                  · refine rr_nx (pc' := 106) (al' := [some (.ref 146), some (.int (nI p)), some (.int (nI (p + 1))), some (.int (nI 2)), some (.int (nI 2)), some (.int (nI 1)), some (.int (nI 0)), some (.int (nI 1))]) (st' := [.int (nI 0)]) d_195_104 (fun _ => rfl) ?_
                                    refine rn_ieq (t := 111) d_195_106 (by decide) (by first | omega | assumption | exact cu_36 (by omega) (cu_lt (by omega) (by omega))) (fun c106 => ?_) (fun c106 => ?_)
                                    · refine rr_nx (pc' := 113) (al' := [some (.ref 146), some (.int (nI p)), some (.int (nI (p + 1))), some (.int (nI 2)), some (.int (nI 2)), some (.int (nI 1)), some (.int (nI 0)), some (.int (nI 1))]) (st' := [.int (nI 2)]) d_195_111 (fun _ => rfl) ?_
                                      refine rr_nx (pc' := 115) (al' := [some (.ref 146), some (.int (nI p)), some (.int (nI (p + 1))), some (.int (nI 2)), some (.int (nI 2)), some (.int (nI 1)), some (.int (nI 0)), some (.int (nI 1))]) (st' := [.int (nI 1), .int (nI 2)]) d_195_113 (fun _ => rfl) ?_
                                      refine rn_ic (v := 1) d_195_115 (by decide) ?_
                                      refine rn_add d_195_116  ?_
                                      refine rn_add d_195_117  ?_
                                      refine rr_nx (pc' := 120) (al' := [some (.ref 146), some (.int (nI p)), some (.int (nI (p + 1))), some (.int (nI 2)), some (.int (nI 4)), some (.int (nI 1)), some (.int (nI 0)), some (.int (nI 1))]) (st' := []) d_195_118 (fun _ => rfl) ?_
                                      refine rn_inc d_195_120 rfl rfl ?_
                                      show RR _ _ 123 [some (.ref 146), some (.int (nI p)), some (.int (nI (p + 1))), some (.int (nI 3)), some (.int (nI 4)), some (.int (nI 1)), some (.int (nI 0)), some (.int (nI 1))] [] g A _
                                      refine rr_nx (pc' := 5) (al' := [some (.ref 146), some (.int (nI p)), some (.int (nI (p + 1))), some (.int (nI 3)), some (.int (nI 4)), some (.int (nI 1)), some (.int (nI 0)), some (.int (nI 1))]) (st' := []) d_195_123 (fun _ => rfl) ?_
                                      refine rr_nx (pc' := 7) (al' := [some (.ref 146), some (.int (nI p)), some (.int (nI (p + 1))), some (.int (nI 3)), some (.int (nI 4)), some (.int (nI 1)), some (.int (nI 0)), some (.int (nI 1))]) (st' := [.int (nI 4)]) d_195_5 (fun _ => rfl) ?_
                                      refine rr_nx (pc' := 8) (al' := [some (.ref 146), some (.int (nI p)), some (.int (nI (p + 1))), some (.int (nI 3)), some (.int (nI 4)), some (.int (nI 1)), some (.int (nI 0)), some (.int (nI 1))]) (st' := [.ref 146, .int (nI 4)]) d_195_7 (fun _ => rfl) ?_
                                      refine rr_gf (v := .ref (147 + 6)) d_195_8 mo_195 fl_29 rfl ?_
                                      refine rr_le (j := 6) d_195_11 (by decide) (by decide) ?_
                                      show RR _ _ 12 [some (.ref 146), some (.int (nI p)), some (.int (nI (p + 1))), some (.int (nI 3)), some (.int (nI 4)), some (.int (nI 1)), some (.int (nI 0)), some (.int (nI 1))] [.int (nI 11), .int (nI 4)] g A _
                                      refine rn_cge (t := 126) d_195_12 (by decide) (by first | omega | assumption | exact cu_36 (by omega) (cu_lt (by omega) (by omega))) (by first | omega | assumption | exact cu_36 (by omega) (cu_lt (by omega) (by omega))) (fun c12 => ?_) (fun c12 => ?_)
                                      · omega
                                      · refine rn_ic (v := 0) d_195_15 (by decide) ?_
                                        refine rr_nx (pc' := 18) (al' := [some (.ref 146), some (.int (nI p)), some (.int (nI (p + 1))), some (.int (nI 3)), some (.int (nI 4)), some (.int (nI 0)), some (.int (nI 0)), some (.int (nI 1))]) (st' := []) d_195_16 (fun _ => rfl) ?_
                                        refine rr_nx (pc' := 19) (al' := [some (.ref 146), some (.int (nI p)), some (.int (nI (p + 1))), some (.int (nI 3)), some (.int (nI 4)), some (.int (nI 0)), some (.int (nI 0)), some (.int (nI 1))]) (st' := [.ref 146]) d_195_18 (fun _ => rfl) ?_
                                        refine rr_gf (v := .ref (147 + 6)) d_195_19 mo_195 fl_29 rfl ?_
                                        refine rr_nx (pc' := 24) (al' := [some (.ref 146), some (.int (nI p)), some (.int (nI (p + 1))), some (.int (nI 3)), some (.int (nI 4)), some (.int (nI 0)), some (.int (nI 0)), some (.int (nI 1))]) (st' := [.int (nI 4), .ref (147 + 6)]) d_195_22 (fun _ => rfl) ?_
                                        refine rr_nx (pc' := 26) (al' := [some (.ref 146), some (.int (nI p)), some (.int (nI (p + 1))), some (.int (nI 3)), some (.int (nI 4)), some (.int (nI 0)), some (.int (nI 0)), some (.int (nI 1))]) (st' := [.int (nI 0), .int (nI 4), .ref (147 + 6)]) d_195_24 (fun _ => rfl) ?_
                                        refine rn_add d_195_26  ?_
                                        refine rr_ba (j := 6) (v := (nI 122)) d_195_27 (by decide) (by decide) (by decide) (show 4 < 11 by first | omega | assumption | exact cu_36 (by omega) (cu_lt (by omega) (by omega))) (hW 4 (by decide)) ?_
                                        refine rn_bp (v := 32) d_195_28 (by decide) ?_
                                        refine rn_ceq (t := 39) d_195_30 (by decide) (by first | omega | assumption | exact cu_36 (by omega) (cu_lt (by omega) (by omega))) (by first | omega | assumption | exact cu_36 (by omega) (cu_lt (by omega) (by omega))) (fun c30 => ?_) (fun c30 => ?_)
                                        · omega
                                        · refine rn_inc d_195_33 rfl rfl ?_
                                          show RR _ _ 36 [some (.ref 146), some (.int (nI p)), some (.int (nI (p + 1))), some (.int (nI 3)), some (.int (nI 4)), some (.int (nI 1)), some (.int (nI 0)), some (.int (nI 1))] [] g A _
                                          refine rr_nx (pc' := 18) (al' := [some (.ref 146), some (.int (nI p)), some (.int (nI (p + 1))), some (.int (nI 3)), some (.int (nI 4)), some (.int (nI 1)), some (.int (nI 0)), some (.int (nI 1))]) (st' := []) d_195_36 (fun _ => rfl) ?_
                                          refine rr_nx (pc' := 19) (al' := [some (.ref 146), some (.int (nI p)), some (.int (nI (p + 1))), some (.int (nI 3)), some (.int (nI 4)), some (.int (nI 1)), some (.int (nI 0)), some (.int (nI 1))]) (st' := [.ref 146]) d_195_18 (fun _ => rfl) ?_
                                          refine rr_gf (v := .ref (147 + 6)) d_195_19 mo_195 fl_29 rfl ?_
                                          refine rr_nx (pc' := 24) (al' := [some (.ref 146), some (.int (nI p)), some (.int (nI (p + 1))), some (.int (nI 3)), some (.int (nI 4)), some (.int (nI 1)), some (.int (nI 0)), some (.int (nI 1))]) (st' := [.int (nI 4), .ref (147 + 6)]) d_195_22 (fun _ => rfl) ?_
                                          refine rr_nx (pc' := 26) (al' := [some (.ref 146), some (.int (nI p)), some (.int (nI (p + 1))), some (.int (nI 3)), some (.int (nI 4)), some (.int (nI 1)), some (.int (nI 0)), some (.int (nI 1))]) (st' := [.int (nI 1), .int (nI 4), .ref (147 + 6)]) d_195_24 (fun _ => rfl) ?_
                                          refine rn_add d_195_26  ?_
                                          refine rr_ba (j := 6) (v := (nI 32)) d_195_27 (by decide) (by decide) (by decide) (show 5 < 11 by first | omega | assumption | exact cu_36 (by omega) (cu_lt (by omega) (by omega))) (hW 5 (by decide)) ?_
                                          refine rn_bp (v := 32) d_195_28 (by decide) ?_
                                          refine rn_ceq (t := 39) d_195_30 (by decide) (by first | omega | assumption | exact cu_36 (by omega) (cu_lt (by omega) (by omega))) (by first | omega | assumption | exact cu_36 (by omega) (cu_lt (by omega) (by omega))) (fun c30 => ?_) (fun c30 => ?_)
                                          · refine rr_nx (pc' := 41) (al' := [some (.ref 146), some (.int (nI p)), some (.int (nI (p + 1))), some (.int (nI 3)), some (.int (nI 4)), some (.int (nI 1)), some (.int (nI 0)), some (.int (nI 1))]) (st' := [.int (nI 1)]) d_195_39 (fun _ => rfl) ?_
                                            refine rr_nx (pc' := 42) (al' := [some (.ref 146), some (.int (nI p)), some (.int (nI (p + 1))), some (.int (nI 3)), some (.int (nI 4)), some (.int (nI 1)), some (.int (nI 0)), some (.int (nI 1))]) (st' := [.int (nI (p + 1)), .int (nI 1)]) d_195_41 (fun _ => rfl) ?_
                                            refine rr_nx (pc' := 43) (al' := [some (.ref 146), some (.int (nI p)), some (.int (nI (p + 1))), some (.int (nI 3)), some (.int (nI 4)), some (.int (nI 1)), some (.int (nI 0)), some (.int (nI 1))]) (st' := [.int (nI p), .int (nI (p + 1)), .int (nI 1)]) d_195_42 (fun _ => rfl) ?_
                                            refine rn_sub d_195_43 (by omega) ?_
                                            refine rn_cne (t := 51) d_195_44 (by decide) (by first | omega | assumption | exact cu_36 (by omega) (cu_lt (by omega) (by omega))) (by first | omega | assumption | exact cu_36 (by omega) (cu_lt (by omega) (by omega))) (fun c44 => ?_) (fun c44 => ?_)
                                            · omega
                                            · refine rn_ic (v := 1) d_195_47 (by decide) ?_
                                              refine rr_nx (pc' := 52) (al' := [some (.ref 146), some (.int (nI p)), some (.int (nI (p + 1))), some (.int (nI 3)), some (.int (nI 4)), some (.int (nI 1)), some (.int (nI 0)), some (.int (nI 1))]) (st' := [.int (nI 1)]) d_195_48 (fun _ => rfl) ?_
                                              refine rr_nx (pc' := 54) (al' := [some (.ref 146), some (.int (nI p)), some (.int (nI (p + 1))), some (.int (nI 3)), some (.int (nI 4)), some (.int (nI 1)), some (.int (nI 1)), some (.int (nI 1))]) (st' := []) d_195_52 (fun _ => rfl) ?_
                                              refine rn_ic (v := 0) d_195_54 (by decide) ?_
                                              refine rr_nx (pc' := 57) (al' := [some (.ref 146), some (.int (nI p)), some (.int (nI (p + 1))), some (.int (nI 3)), some (.int (nI 4)), some (.int (nI 1)), some (.int (nI 1)), some (.int (nI 0))]) (st' := []) d_195_55 (fun _ => rfl) ?_
                                              refine rr_nx (pc' := 59) (al' := [some (.ref 146), some (.int (nI p)), some (.int (nI (p + 1))), some (.int (nI 3)), some (.int (nI 4)), some (.int (nI 1)), some (.int (nI 1)), some (.int (nI 0))]) (st' := [.int (nI 0)]) d_195_57 (fun _ => rfl) ?_
                                              refine rr_nx (pc' := 61) (al' := [some (.ref 146), some (.int (nI p)), some (.int (nI (p + 1))), some (.int (nI 3)), some (.int (nI 4)), some (.int (nI 1)), some (.int (nI 1)), some (.int (nI 0))]) (st' := [.int (nI 1), .int (nI 0)]) d_195_59 (fun _ => rfl) ?_
                                              refine rn_cge (t := 104) d_195_61 (by decide) (by first | omega | assumption | exact cu_36 (by omega) (cu_lt (by omega) (by omega))) (by first | omega | assumption | exact cu_36 (by omega) (cu_lt (by omega) (by omega))) (fun c61 => ?_) (fun c61 => ?_)
                                              · omega
                                              · refine rr_nx (pc' := 66) (al' := [some (.ref 146), some (.int (nI p)), some (.int (nI (p + 1))), some (.int (nI 3)), some (.int (nI 4)), some (.int (nI 1)), some (.int (nI 1)), some (.int (nI 0))]) (st' := [.int (nI 1)]) d_195_64 (fun _ => rfl) ?_
                                                refine rn_ieq (t := 104) d_195_66 (by decide) (by first | omega | assumption | exact cu_36 (by omega) (cu_lt (by omega) (by omega))) (fun c66 => ?_) (fun c66 => ?_)
                                                · omega
                                                · refine rr_nx (pc' := 70) (al' := [some (.ref 146), some (.int (nI p)), some (.int (nI (p + 1))), some (.int (nI 3)), some (.int (nI 4)), some (.int (nI 1)), some (.int (nI 1)), some (.int (nI 0))]) (st' := [.ref 146]) d_195_69 (fun _ => rfl) ?_
                                                  refine rr_gf (v := .ref (147 + 6)) d_195_70 mo_195 fl_29 rfl ?_
                                                  refine rr_nx (pc' := 75) (al' := [some (.ref 146), some (.int (nI p)), some (.int (nI (p + 1))), some (.int (nI 3)), some (.int (nI 4)), some (.int (nI 1)), some (.int (nI 1)), some (.int (nI 0))]) (st' := [.int (nI 4), .ref (147 + 6)]) d_195_73 (fun _ => rfl) ?_
                                                  refine rr_nx (pc' := 77) (al' := [some (.ref 146), some (.int (nI p)), some (.int (nI (p + 1))), some (.int (nI 3)), some (.int (nI 4)), some (.int (nI 1)), some (.int (nI 1)), some (.int (nI 0))]) (st' := [.int (nI 0), .int (nI 4), .ref (147 + 6)]) d_195_75 (fun _ => rfl) ?_
                                                  refine rn_add d_195_77  ?_
                                                  refine rr_ba (j := 6) (v := (nI 122)) d_195_78 (by decide) (by decide) (by decide) (show 4 < 11 by first | omega | assumption | exact cu_36 (by omega) (cu_lt (by omega) (by omega))) (hW 4 (by decide)) ?_
                                                  refine rr_nx (pc' := 80) (al' := [some (.ref 146), some (.int (nI p)), some (.int (nI (p + 1))), some (.int (nI 3)), some (.int (nI 4)), some (.int (nI 1)), some (.int (nI 1)), some (.int (nI 0))]) (st' := [.ref 146, .int (nI 122)]) d_195_79 (fun _ => rfl) ?_
                                                  refine rr_gf (v := .ref (147 + 7)) d_195_80 mo_195 fl_33 rfl ?_
                                                  refine rr_nx (pc' := 84) (al' := [some (.ref 146), some (.int (nI p)), some (.int (nI (p + 1))), some (.int (nI 3)), some (.int (nI 4)), some (.int (nI 1)), some (.int (nI 1)), some (.int (nI 0))]) (st' := [.int (nI p), .ref (147 + 7), .int (nI 122)]) d_195_83 (fun _ => rfl) ?_
                                                  refine rr_nx (pc' := 86) (al' := [some (.ref 146), some (.int (nI p)), some (.int (nI (p + 1))), some (.int (nI 3)), some (.int (nI 4)), some (.int (nI 1)), some (.int (nI 1)), some (.int (nI 0))]) (st' := [.int (nI 0), .int (nI p), .ref (147 + 7), .int (nI 122)]) d_195_84 (fun _ => rfl) ?_
                                                  refine rn_add d_195_86  ?_
                                                  refine rr_ba (j := 7) (v := (bI8 (t p))) d_195_87 (by decide) (by decide) (by decide) (show p + 0 < 400 by omega) (hB p (by omega)) ?_
                                                  refine rr_cne (t := 95) d_195_88 (by decide) (fun c88 => ?_) (fun c88 => ?_)
                                                  · have n122 : ¬ t (p) = 122 := fun q => c88 ((b8_122 _ (hb (p) (by omega))).mpr q)
                                                    refine rn_ic (v := 0) d_195_95 (by decide) ?_
                                                    refine rr_nx (pc' := 98) (al' := [some (.ref 146), some (.int (nI p)), some (.int (nI (p + 1))), some (.int (nI 3)), some (.int (nI 4)), some (.int (nI 1)), some (.int (nI 0)), some (.int (nI 0))]) (st' := []) d_195_96 (fun _ => rfl) ?_
                                                    refine rn_inc d_195_98 rfl rfl ?_
                                                    show RR _ _ 101 [some (.ref 146), some (.int (nI p)), some (.int (nI (p + 1))), some (.int (nI 3)), some (.int (nI 4)), some (.int (nI 1)), some (.int (nI 0)), some (.int (nI 1))] [] g A _
                                                    refine rr_nx (pc' := 57) (al' := [some (.ref 146), some (.int (nI p)), some (.int (nI (p + 1))), some (.int (nI 3)), some (.int (nI 4)), some (.int (nI 1)), some (.int (nI 0)), some (.int (nI 1))]) (st' := []) d_195_101 (fun _ => rfl) ?_
                                                    refine rr_nx (pc' := 59) (al' := [some (.ref 146), some (.int (nI p)), some (.int (nI (p + 1))), some (.int (nI 3)), some (.int (nI 4)), some (.int (nI 1)), some (.int (nI 0)), some (.int (nI 1))]) (st' := [.int (nI 1)]) d_195_57 (fun _ => rfl) ?_
                                                    refine rr_nx (pc' := 61) (al' := [some (.ref 146), some (.int (nI p)), some (.int (nI (p + 1))), some (.int (nI 3)), some (.int (nI 4)), some (.int (nI 1)), some (.int (nI 0)), some (.int (nI 1))]) (st' := [.int (nI 1), .int (nI 1)]) d_195_59 (fun _ => rfl) ?_
                                                    refine rn_cge (t := 104) d_195_61 (by decide) (by first | omega | assumption | exact cu_36 (by omega) (cu_lt (by omega) (by omega))) (by first | omega | assumption | exact cu_36 (by omega) (cu_lt (by omega) (by omega))) (fun c61 => ?_) (fun c61 => ?_)
                                                    · refine rr_nx (pc' := 106) (al' := [some (.ref 146), some (.int (nI p)), some (.int (nI (p + 1))), some (.int (nI 3)), some (.int (nI 4)), some (.int (nI 1)), some (.int (nI 0)), some (.int (nI 1))]) (st' := [.int (nI 0)]) d_195_104 (fun _ => rfl) ?_
                                                      refine rn_ieq (t := 111) d_195_106 (by decide) (by first | omega | assumption | exact cu_36 (by omega) (cu_lt (by omega) (by omega))) (fun c106 => ?_) (fun c106 => ?_)
                                                      · refine rr_nx (pc' := 113) (al' := [some (.ref 146), some (.int (nI p)), some (.int (nI (p + 1))), some (.int (nI 3)), some (.int (nI 4)), some (.int (nI 1)), some (.int (nI 0)), some (.int (nI 1))]) (st' := [.int (nI 4)]) d_195_111 (fun _ => rfl) ?_
                                                        refine rr_nx (pc' := 115) (al' := [some (.ref 146), some (.int (nI p)), some (.int (nI (p + 1))), some (.int (nI 3)), some (.int (nI 4)), some (.int (nI 1)), some (.int (nI 0)), some (.int (nI 1))]) (st' := [.int (nI 1), .int (nI 4)]) d_195_113 (fun _ => rfl) ?_
                                                        refine rn_ic (v := 1) d_195_115 (by decide) ?_
                                                        refine rn_add d_195_116  ?_
                                                        refine rn_add d_195_117  ?_
                                                        refine rr_nx (pc' := 120) (al' := [some (.ref 146), some (.int (nI p)), some (.int (nI (p + 1))), some (.int (nI 3)), some (.int (nI 6)), some (.int (nI 1)), some (.int (nI 0)), some (.int (nI 1))]) (st' := []) d_195_118 (fun _ => rfl) ?_
                                                        refine rn_inc d_195_120 rfl rfl ?_
                                                        show RR _ _ 123 [some (.ref 146), some (.int (nI p)), some (.int (nI (p + 1))), some (.int (nI 4)), some (.int (nI 6)), some (.int (nI 1)), some (.int (nI 0)), some (.int (nI 1))] [] g A _
                                                        refine rr_nx (pc' := 5) (al' := [some (.ref 146), some (.int (nI p)), some (.int (nI (p + 1))), some (.int (nI 4)), some (.int (nI 6)), some (.int (nI 1)), some (.int (nI 0)), some (.int (nI 1))]) (st' := []) d_195_123 (fun _ => rfl) ?_
                                                        refine rr_nx (pc' := 7) (al' := [some (.ref 146), some (.int (nI p)), some (.int (nI (p + 1))), some (.int (nI 4)), some (.int (nI 6)), some (.int (nI 1)), some (.int (nI 0)), some (.int (nI 1))]) (st' := [.int (nI 6)]) d_195_5 (fun _ => rfl) ?_
                                                        refine rr_nx (pc' := 8) (al' := [some (.ref 146), some (.int (nI p)), some (.int (nI (p + 1))), some (.int (nI 4)), some (.int (nI 6)), some (.int (nI 1)), some (.int (nI 0)), some (.int (nI 1))]) (st' := [.ref 146, .int (nI 6)]) d_195_7 (fun _ => rfl) ?_
                                                        refine rr_gf (v := .ref (147 + 6)) d_195_8 mo_195 fl_29 rfl ?_
                                                        refine rr_le (j := 6) d_195_11 (by decide) (by decide) ?_
                                                        show RR _ _ 12 [some (.ref 146), some (.int (nI p)), some (.int (nI (p + 1))), some (.int (nI 4)), some (.int (nI 6)), some (.int (nI 1)), some (.int (nI 0)), some (.int (nI 1))] [.int (nI 11), .int (nI 6)] g A _
                                                        refine rn_cge (t := 126) d_195_12 (by decide) (by first | omega | assumption | exact cu_36 (by omega) (cu_lt (by omega) (by omega))) (by first | omega | assumption | exact cu_36 (by omega) (cu_lt (by omega) (by omega))) (fun c12 => ?_) (fun c12 => ?_)
                                                        · omega
                                                        · refine rn_ic (v := 0) d_195_15 (by decide) ?_
                                                          refine rr_nx (pc' := 18) (al' := [some (.ref 146), some (.int (nI p)), some (.int (nI (p + 1))), some (.int (nI 4)), some (.int (nI 6)), some (.int (nI 0)), some (.int (nI 0)), some (.int (nI 1))]) (st' := []) d_195_16 (fun _ => rfl) ?_
                                                          refine rr_nx (pc' := 19) (al' := [some (.ref 146), some (.int (nI p)), some (.int (nI (p + 1))), some (.int (nI 4)), some (.int (nI 6)), some (.int (nI 0)), some (.int (nI 0)), some (.int (nI 1))]) (st' := [.ref 146]) d_195_18 (fun _ => rfl) ?_
                                                          refine rr_gf (v := .ref (147 + 6)) d_195_19 mo_195 fl_29 rfl ?_
                                                          refine rr_nx (pc' := 24) (al' := [some (.ref 146), some (.int (nI p)), some (.int (nI (p + 1))), some (.int (nI 4)), some (.int (nI 6)), some (.int (nI 0)), some (.int (nI 0)), some (.int (nI 1))]) (st' := [.int (nI 6), .ref (147 + 6)]) d_195_22 (fun _ => rfl) ?_
                                                          refine rr_nx (pc' := 26) (al' := [some (.ref 146), some (.int (nI p)), some (.int (nI (p + 1))), some (.int (nI 4)), some (.int (nI 6)), some (.int (nI 0)), some (.int (nI 0)), some (.int (nI 1))]) (st' := [.int (nI 0), .int (nI 6), .ref (147 + 6)]) d_195_24 (fun _ => rfl) ?_
                                                          refine rn_add d_195_26  ?_
                                                          refine rr_ba (j := 6) (v := (nI 101)) d_195_27 (by decide) (by decide) (by decide) (show 6 < 11 by first | omega | assumption | exact cu_36 (by omega) (cu_lt (by omega) (by omega))) (hW 6 (by decide)) ?_
                                                          refine rn_bp (v := 32) d_195_28 (by decide) ?_
                                                          refine rn_ceq (t := 39) d_195_30 (by decide) (by first | omega | assumption | exact cu_36 (by omega) (cu_lt (by omega) (by omega))) (by first | omega | assumption | exact cu_36 (by omega) (cu_lt (by omega) (by omega))) (fun c30 => ?_) (fun c30 => ?_)
                                                          · omega
                                                          · refine rn_inc d_195_33 rfl rfl ?_
                                                            show RR _ _ 36 [some (.ref 146), some (.int (nI p)), some (.int (nI (p + 1))), some (.int (nI 4)), some (.int (nI 6)), some (.int (nI 1)), some (.int (nI 0)), some (.int (nI 1))] [] g A _
                                                            refine rr_nx (pc' := 18) (al' := [some (.ref 146), some (.int (nI p)), some (.int (nI (p + 1))), some (.int (nI 4)), some (.int (nI 6)), some (.int (nI 1)), some (.int (nI 0)), some (.int (nI 1))]) (st' := []) d_195_36 (fun _ => rfl) ?_
                                                            refine rr_nx (pc' := 19) (al' := [some (.ref 146), some (.int (nI p)), some (.int (nI (p + 1))), some (.int (nI 4)), some (.int (nI 6)), some (.int (nI 1)), some (.int (nI 0)), some (.int (nI 1))]) (st' := [.ref 146]) d_195_18 (fun _ => rfl) ?_
                                                            refine rr_gf (v := .ref (147 + 6)) d_195_19 mo_195 fl_29 rfl ?_
                                                            refine rr_nx (pc' := 24) (al' := [some (.ref 146), some (.int (nI p)), some (.int (nI (p + 1))), some (.int (nI 4)), some (.int (nI 6)), some (.int (nI 1)), some (.int (nI 0)), some (.int (nI 1))]) (st' := [.int (nI 6), .ref (147 + 6)]) d_195_22 (fun _ => rfl) ?_
                                                            refine rr_nx (pc' := 26) (al' := [some (.ref 146), some (.int (nI p)), some (.int (nI (p + 1))), some (.int (nI 4)), some (.int (nI 6)), some (.int (nI 1)), some (.int (nI 0)), some (.int (nI 1))]) (st' := [.int (nI 1), .int (nI 6), .ref (147 + 6)]) d_195_24 (fun _ => rfl) ?_
                                                            refine rn_add d_195_26  ?_
                                                            refine rr_ba (j := 6) (v := (nI 32)) d_195_27 (by decide) (by decide) (by decide) (show 7 < 11 by first | omega | assumption | exact cu_36 (by omega) (cu_lt (by omega) (by omega))) (hW 7 (by decide)) ?_
                                                            refine rn_bp (v := 32) d_195_28 (by decide) ?_
                                                            refine rn_ceq (t := 39) d_195_30 (by decide) (by first | omega | assumption | exact cu_36 (by omega) (cu_lt (by omega) (by omega))) (by first | omega | assumption | exact cu_36 (by omega) (cu_lt (by omega) (by omega))) (fun c30 => ?_) (fun c30 => ?_)
                                                            · refine rr_nx (pc' := 41) (al' := [some (.ref 146), some (.int (nI p)), some (.int (nI (p + 1))), some (.int (nI 4)), some (.int (nI 6)), some (.int (nI 1)), some (.int (nI 0)), some (.int (nI 1))]) (st' := [.int (nI 1)]) d_195_39 (fun _ => rfl) ?_
                                                              refine rr_nx (pc' := 42) (al' := [some (.ref 146), some (.int (nI p)), some (.int (nI (p + 1))), some (.int (nI 4)), some (.int (nI 6)), some (.int (nI 1)), some (.int (nI 0)), some (.int (nI 1))]) (st' := [.int (nI (p + 1)), .int (nI 1)]) d_195_41 (fun _ => rfl) ?_
                                                              refine rr_nx (pc' := 43) (al' := [some (.ref 146), some (.int (nI p)), some (.int (nI (p + 1))), some (.int (nI 4)), some (.int (nI 6)), some (.int (nI 1)), some (.int (nI 0)), some (.int (nI 1))]) (st' := [.int (nI p), .int (nI (p + 1)), .int (nI 1)]) d_195_42 (fun _ => rfl) ?_
                                                              refine rn_sub d_195_43 (by omega) ?_
                                                              refine rn_cne (t := 51) d_195_44 (by decide) (by first | omega | assumption | exact cu_36 (by omega) (cu_lt (by omega) (by omega))) (by first | omega | assumption | exact cu_36 (by omega) (cu_lt (by omega) (by omega))) (fun c44 => ?_) (fun c44 => ?_)
                                                              · omega
                                                              · refine rn_ic (v := 1) d_195_47 (by decide) ?_
                                                                refine rr_nx (pc' := 52) (al' := [some (.ref 146), some (.int (nI p)), some (.int (nI (p + 1))), some (.int (nI 4)), some (.int (nI 6)), some (.int (nI 1)), some (.int (nI 0)), some (.int (nI 1))]) (st' := [.int (nI 1)]) d_195_48 (fun _ => rfl) ?_
                                                                refine rr_nx (pc' := 54) (al' := [some (.ref 146), some (.int (nI p)), some (.int (nI (p + 1))), some (.int (nI 4)), some (.int (nI 6)), some (.int (nI 1)), some (.int (nI 1)), some (.int (nI 1))]) (st' := []) d_195_52 (fun _ => rfl) ?_
                                                                refine rn_ic (v := 0) d_195_54 (by decide) ?_
                                                                refine rr_nx (pc' := 57) (al' := [some (.ref 146), some (.int (nI p)), some (.int (nI (p + 1))), some (.int (nI 4)), some (.int (nI 6)), some (.int (nI 1)), some (.int (nI 1)), some (.int (nI 0))]) (st' := []) d_195_55 (fun _ => rfl) ?_
                                                                refine rr_nx (pc' := 59) (al' := [some (.ref 146), some (.int (nI p)), some (.int (nI (p + 1))), some (.int (nI 4)), some (.int (nI 6)), some (.int (nI 1)), some (.int (nI 1)), some (.int (nI 0))]) (st' := [.int (nI 0)]) d_195_57 (fun _ => rfl) ?_
                                                                refine rr_nx (pc' := 61) (al' := [some (.ref 146), some (.int (nI p)), some (.int (nI (p + 1))), some (.int (nI 4)), some (.int (nI 6)), some (.int (nI 1)), some (.int (nI 1)), some (.int (nI 0))]) (st' := [.int (nI 1), .int (nI 0)]) d_195_59 (fun _ => rfl) ?_
                                                                refine rn_cge (t := 104) d_195_61 (by decide) (by first | omega | assumption | exact cu_36 (by omega) (cu_lt (by omega) (by omega))) (by first | omega | assumption | exact cu_36 (by omega) (cu_lt (by omega) (by omega))) (fun c61 => ?_) (fun c61 => ?_)
                                                                · omega
                                                                · refine rr_nx (pc' := 66) (al' := [some (.ref 146), some (.int (nI p)), some (.int (nI (p + 1))), some (.int (nI 4)), some (.int (nI 6)), some (.int (nI 1)), some (.int (nI 1)), some (.int (nI 0))]) (st' := [.int (nI 1)]) d_195_64 (fun _ => rfl) ?_
                                                                  refine rn_ieq (t := 104) d_195_66 (by decide) (by first | omega | assumption | exact cu_36 (by omega) (cu_lt (by omega) (by omega))) (fun c66 => ?_) (fun c66 => ?_)
                                                                  · omega
                                                                  · refine rr_nx (pc' := 70) (al' := [some (.ref 146), some (.int (nI p)), some (.int (nI (p + 1))), some (.int (nI 4)), some (.int (nI 6)), some (.int (nI 1)), some (.int (nI 1)), some (.int (nI 0))]) (st' := [.ref 146]) d_195_69 (fun _ => rfl) ?_
                                                                    refine rr_gf (v := .ref (147 + 6)) d_195_70 mo_195 fl_29 rfl ?_
                                                                    refine rr_nx (pc' := 75) (al' := [some (.ref 146), some (.int (nI p)), some (.int (nI (p + 1))), some (.int (nI 4)), some (.int (nI 6)), some (.int (nI 1)), some (.int (nI 1)), some (.int (nI 0))]) (st' := [.int (nI 6), .ref (147 + 6)]) d_195_73 (fun _ => rfl) ?_
                                                                    refine rr_nx (pc' := 77) (al' := [some (.ref 146), some (.int (nI p)), some (.int (nI (p + 1))), some (.int (nI 4)), some (.int (nI 6)), some (.int (nI 1)), some (.int (nI 1)), some (.int (nI 0))]) (st' := [.int (nI 0), .int (nI 6), .ref (147 + 6)]) d_195_75 (fun _ => rfl) ?_
                                                                    refine rn_add d_195_77  ?_
                                                                    refine rr_ba (j := 6) (v := (nI 101)) d_195_78 (by decide) (by decide) (by decide) (show 6 < 11 by first | omega | assumption | exact cu_36 (by omega) (cu_lt (by omega) (by omega))) (hW 6 (by decide)) ?_
                                                                    refine rr_nx (pc' := 80) (al' := [some (.ref 146), some (.int (nI p)), some (.int (nI (p + 1))), some (.int (nI 4)), some (.int (nI 6)), some (.int (nI 1)), some (.int (nI 1)), some (.int (nI 0))]) (st' := [.ref 146, .int (nI 101)]) d_195_79 (fun _ => rfl) ?_
                                                                    refine rr_gf (v := .ref (147 + 7)) d_195_80 mo_195 fl_33 rfl ?_
                                                                    refine rr_nx (pc' := 84) (al' := [some (.ref 146), some (.int (nI p)), some (.int (nI (p + 1))), some (.int (nI 4)), some (.int (nI 6)), some (.int (nI 1)), some (.int (nI 1)), some (.int (nI 0))]) (st' := [.int (nI p), .ref (147 + 7), .int (nI 101)]) d_195_83 (fun _ => rfl) ?_
                                                                    refine rr_nx (pc' := 86) (al' := [some (.ref 146), some (.int (nI p)), some (.int (nI (p + 1))), some (.int (nI 4)), some (.int (nI 6)), some (.int (nI 1)), some (.int (nI 1)), some (.int (nI 0))]) (st' := [.int (nI 0), .int (nI p), .ref (147 + 7), .int (nI 101)]) d_195_84 (fun _ => rfl) ?_
                                                                    refine rn_add d_195_86  ?_
                                                                    refine rr_ba (j := 7) (v := (bI8 (t p))) d_195_87 (by decide) (by decide) (by decide) (show p + 0 < 400 by omega) (hB p (by omega)) ?_
                                                                    refine rr_cne (t := 95) d_195_88 (by decide) (fun c88 => ?_) (fun c88 => ?_)
                                                                    · have n101 : ¬ t (p) = 101 := fun q => c88 ((b8_101 _ (hb (p) (by omega))).mpr q)
                                                                      refine rn_ic (v := 0) d_195_95 (by decide) ?_
                                                                      refine rr_nx (pc' := 98) (al' := [some (.ref 146), some (.int (nI p)), some (.int (nI (p + 1))), some (.int (nI 4)), some (.int (nI 6)), some (.int (nI 1)), some (.int (nI 0)), some (.int (nI 0))]) (st' := []) d_195_96 (fun _ => rfl) ?_
                                                                      refine rn_inc d_195_98 rfl rfl ?_
                                                                      show RR _ _ 101 [some (.ref 146), some (.int (nI p)), some (.int (nI (p + 1))), some (.int (nI 4)), some (.int (nI 6)), some (.int (nI 1)), some (.int (nI 0)), some (.int (nI 1))] [] g A _
                                                                      refine rr_nx (pc' := 57) (al' := [some (.ref 146), some (.int (nI p)), some (.int (nI (p + 1))), some (.int (nI 4)), some (.int (nI 6)), some (.int (nI 1)), some (.int (nI 0)), some (.int (nI 1))]) (st' := []) d_195_101 (fun _ => rfl) ?_
                                                                      refine rr_nx (pc' := 59) (al' := [some (.ref 146), some (.int (nI p)), some (.int (nI (p + 1))), some (.int (nI 4)), some (.int (nI 6)), some (.int (nI 1)), some (.int (nI 0)), some (.int (nI 1))]) (st' := [.int (nI 1)]) d_195_57 (fun _ => rfl) ?_
                                                                      refine rr_nx (pc' := 61) (al' := [some (.ref 146), some (.int (nI p)), some (.int (nI (p + 1))), some (.int (nI 4)), some (.int (nI 6)), some (.int (nI 1)), some (.int (nI 0)), some (.int (nI 1))]) (st' := [.int (nI 1), .int (nI 1)]) d_195_59 (fun _ => rfl) ?_
                                                                      refine rn_cge (t := 104) d_195_61 (by decide) (by first | omega | assumption | exact cu_36 (by omega) (cu_lt (by omega) (by omega))) (by first | omega | assumption | exact cu_36 (by omega) (cu_lt (by omega) (by omega))) (fun c61 => ?_) (fun c61 => ?_)
                                                                      · refine rr_nx (pc' := 106) (al' := [some (.ref 146), some (.int (nI p)), some (.int (nI (p + 1))), some (.int (nI 4)), some (.int (nI 6)), some (.int (nI 1)), some (.int (nI 0)), some (.int (nI 1))]) (st' := [.int (nI 0)]) d_195_104 (fun _ => rfl) ?_
                                                                        refine rn_ieq (t := 111) d_195_106 (by decide) (by first | omega | assumption | exact cu_36 (by omega) (cu_lt (by omega) (by omega))) (fun c106 => ?_) (fun c106 => ?_)
                                                                        · refine rr_nx (pc' := 113) (al' := [some (.ref 146), some (.int (nI p)), some (.int (nI (p + 1))), some (.int (nI 4)), some (.int (nI 6)), some (.int (nI 1)), some (.int (nI 0)), some (.int (nI 1))]) (st' := [.int (nI 6)]) d_195_111 (fun _ => rfl) ?_
                                                                          refine rr_nx (pc' := 115) (al' := [some (.ref 146), some (.int (nI p)), some (.int (nI (p + 1))), some (.int (nI 4)), some (.int (nI 6)), some (.int (nI 1)), some (.int (nI 0)), some (.int (nI 1))]) (st' := [.int (nI 1), .int (nI 6)]) d_195_113 (fun _ => rfl) ?_
                                                                          refine rn_ic (v := 1) d_195_115 (by decide) ?_
                                                                          refine rn_add d_195_116  ?_
                                                                          refine rn_add d_195_117  ?_
                                                                          refine rr_nx (pc' := 120) (al' := [some (.ref 146), some (.int (nI p)), some (.int (nI (p + 1))), some (.int (nI 4)), some (.int (nI 8)), some (.int (nI 1)), some (.int (nI 0)), some (.int (nI 1))]) (st' := []) d_195_118 (fun _ => rfl) ?_
                                                                          refine rn_inc d_195_120 rfl rfl ?_
                                                                          show RR _ _ 123 [some (.ref 146), some (.int (nI p)), some (.int (nI (p + 1))), some (.int (nI 5)), some (.int (nI 8)), some (.int (nI 1)), some (.int (nI 0)), some (.int (nI 1))] [] g A _
                                                                          refine rr_nx (pc' := 5) (al' := [some (.ref 146), some (.int (nI p)), some (.int (nI (p + 1))), some (.int (nI 5)), some (.int (nI 8)), some (.int (nI 1)), some (.int (nI 0)), some (.int (nI 1))]) (st' := []) d_195_123 (fun _ => rfl) ?_
                                                                          refine rr_nx (pc' := 7) (al' := [some (.ref 146), some (.int (nI p)), some (.int (nI (p + 1))), some (.int (nI 5)), some (.int (nI 8)), some (.int (nI 1)), some (.int (nI 0)), some (.int (nI 1))]) (st' := [.int (nI 8)]) d_195_5 (fun _ => rfl) ?_
                                                                          refine rr_nx (pc' := 8) (al' := [some (.ref 146), some (.int (nI p)), some (.int (nI (p + 1))), some (.int (nI 5)), some (.int (nI 8)), some (.int (nI 1)), some (.int (nI 0)), some (.int (nI 1))]) (st' := [.ref 146, .int (nI 8)]) d_195_7 (fun _ => rfl) ?_
                                                                          refine rr_gf (v := .ref (147 + 6)) d_195_8 mo_195 fl_29 rfl ?_
                                                                          refine rr_le (j := 6) d_195_11 (by decide) (by decide) ?_
                                                                          show RR _ _ 12 [some (.ref 146), some (.int (nI p)), some (.int (nI (p + 1))), some (.int (nI 5)), some (.int (nI 8)), some (.int (nI 1)), some (.int (nI 0)), some (.int (nI 1))] [.int (nI 11), .int (nI 8)] g A _
                                                                          refine rn_cge (t := 126) d_195_12 (by decide) (by first | omega | assumption | exact cu_36 (by omega) (cu_lt (by omega) (by omega))) (by first | omega | assumption | exact cu_36 (by omega) (cu_lt (by omega) (by omega))) (fun c12 => ?_) (fun c12 => ?_)
                                                                          · omega
                                                                          · refine rn_ic (v := 0) d_195_15 (by decide) ?_
                                                                            refine rr_nx (pc' := 18) (al' := [some (.ref 146), some (.int (nI p)), some (.int (nI (p + 1))), some (.int (nI 5)), some (.int (nI 8)), some (.int (nI 0)), some (.int (nI 0)), some (.int (nI 1))]) (st' := []) d_195_16 (fun _ => rfl) ?_
                                                                            refine rr_nx (pc' := 19) (al' := [some (.ref 146), some (.int (nI p)), some (.int (nI (p + 1))), some (.int (nI 5)), some (.int (nI 8)), some (.int (nI 0)), some (.int (nI 0)), some (.int (nI 1))]) (st' := [.ref 146]) d_195_18 (fun _ => rfl) ?_
                                                                            refine rr_gf (v := .ref (147 + 6)) d_195_19 mo_195 fl_29 rfl ?_
                                                                            refine rr_nx (pc' := 24) (al' := [some (.ref 146), some (.int (nI p)), some (.int (nI (p + 1))), some (.int (nI 5)), some (.int (nI 8)), some (.int (nI 0)), some (.int (nI 0)), some (.int (nI 1))]) (st' := [.int (nI 8), .ref (147 + 6)]) d_195_22 (fun _ => rfl) ?_
                                                                            refine rr_nx (pc' := 26) (al' := [some (.ref 146), some (.int (nI p)), some (.int (nI (p + 1))), some (.int (nI 5)), some (.int (nI 8)), some (.int (nI 0)), some (.int (nI 0)), some (.int (nI 1))]) (st' := [.int (nI 0), .int (nI 8), .ref (147 + 6)]) d_195_24 (fun _ => rfl) ?_
                                                                            refine rn_add d_195_26  ?_
                                                                            refine rr_ba (j := 6) (v := (nI 105)) d_195_27 (by decide) (by decide) (by decide) (show 8 < 11 by first | omega | assumption | exact cu_36 (by omega) (cu_lt (by omega) (by omega))) (hW 8 (by decide)) ?_
                                                                            refine rn_bp (v := 32) d_195_28 (by decide) ?_
                                                                            refine rn_ceq (t := 39) d_195_30 (by decide) (by first | omega | assumption | exact cu_36 (by omega) (cu_lt (by omega) (by omega))) (by first | omega | assumption | exact cu_36 (by omega) (cu_lt (by omega) (by omega))) (fun c30 => ?_) (fun c30 => ?_)
                                                                            · omega
                                                                            · refine rn_inc d_195_33 rfl rfl ?_
                                                                              show RR _ _ 36 [some (.ref 146), some (.int (nI p)), some (.int (nI (p + 1))), some (.int (nI 5)), some (.int (nI 8)), some (.int (nI 1)), some (.int (nI 0)), some (.int (nI 1))] [] g A _
                                                                              refine rr_nx (pc' := 18) (al' := [some (.ref 146), some (.int (nI p)), some (.int (nI (p + 1))), some (.int (nI 5)), some (.int (nI 8)), some (.int (nI 1)), some (.int (nI 0)), some (.int (nI 1))]) (st' := []) d_195_36 (fun _ => rfl) ?_
                                                                              refine rr_nx (pc' := 19) (al' := [some (.ref 146), some (.int (nI p)), some (.int (nI (p + 1))), some (.int (nI 5)), some (.int (nI 8)), some (.int (nI 1)), some (.int (nI 0)), some (.int (nI 1))]) (st' := [.ref 146]) d_195_18 (fun _ => rfl) ?_
                                                                              refine rr_gf (v := .ref (147 + 6)) d_195_19 mo_195 fl_29 rfl ?_
                                                                              refine rr_nx (pc' := 24) (al' := [some (.ref 146), some (.int (nI p)), some (.int (nI (p + 1))), some (.int (nI 5)), some (.int (nI 8)), some (.int (nI 1)), some (.int (nI 0)), some (.int (nI 1))]) (st' := [.int (nI 8), .ref (147 + 6)]) d_195_22 (fun _ => rfl) ?_
                                                                              refine rr_nx (pc' := 26) (al' := [some (.ref 146), some (.int (nI p)), some (.int (nI (p + 1))), some (.int (nI 5)), some (.int (nI 8)), some (.int (nI 1)), some (.int (nI 0)), some (.int (nI 1))]) (st' := [.int (nI 1), .int (nI 8), .ref (147 + 6)]) d_195_24 (fun _ => rfl) ?_
                                                                              refine rn_add d_195_26  ?_
                                                                              refine rr_ba (j := 6) (v := (nI 102)) d_195_27 (by decide) (by decide) (by decide) (show 9 < 11 by first | omega | assumption | exact cu_36 (by omega) (cu_lt (by omega) (by omega))) (hW 9 (by decide)) ?_
                                                                              refine rn_bp (v := 32) d_195_28 (by decide) ?_
                                                                              refine rn_ceq (t := 39) d_195_30 (by decide) (by first | omega | assumption | exact cu_36 (by omega) (cu_lt (by omega) (by omega))) (by first | omega | assumption | exact cu_36 (by omega) (cu_lt (by omega) (by omega))) (fun c30 => ?_) (fun c30 => ?_)
                                                                              · omega
                                                                              · refine rn_inc d_195_33 rfl rfl ?_
                                                                                show RR _ _ 36 [some (.ref 146), some (.int (nI p)), some (.int (nI (p + 1))), some (.int (nI 5)), some (.int (nI 8)), some (.int (nI 2)), some (.int (nI 0)), some (.int (nI 1))] [] g A _
                                                                                refine rr_nx (pc' := 18) (al' := [some (.ref 146), some (.int (nI p)), some (.int (nI (p + 1))), some (.int (nI 5)), some (.int (nI 8)), some (.int (nI 2)), some (.int (nI 0)), some (.int (nI 1))]) (st' := []) d_195_36 (fun _ => rfl) ?_
                                                                                refine rr_nx (pc' := 19) (al' := [some (.ref 146), some (.int (nI p)), some (.int (nI (p + 1))), some (.int (nI 5)), some (.int (nI 8)), some (.int (nI 2)), some (.int (nI 0)), some (.int (nI 1))]) (st' := [.ref 146]) d_195_18 (fun _ => rfl) ?_
                                                                                refine rr_gf (v := .ref (147 + 6)) d_195_19 mo_195 fl_29 rfl ?_
                                                                                refine rr_nx (pc' := 24) (al' := [some (.ref 146), some (.int (nI p)), some (.int (nI (p + 1))), some (.int (nI 5)), some (.int (nI 8)), some (.int (nI 2)), some (.int (nI 0)), some (.int (nI 1))]) (st' := [.int (nI 8), .ref (147 + 6)]) d_195_22 (fun _ => rfl) ?_
                                                                                refine rr_nx (pc' := 26) (al' := [some (.ref 146), some (.int (nI p)), some (.int (nI (p + 1))), some (.int (nI 5)), some (.int (nI 8)), some (.int (nI 2)), some (.int (nI 0)), some (.int (nI 1))]) (st' := [.int (nI 2), .int (nI 8), .ref (147 + 6)]) d_195_24 (fun _ => rfl) ?_
                                                                                refine rn_add d_195_26  ?_
                                                                                refine rr_ba (j := 6) (v := (nI 32)) d_195_27 (by decide) (by decide) (by decide) (show 10 < 11 by first | omega | assumption | exact cu_36 (by omega) (cu_lt (by omega) (by omega))) (hW 10 (by decide)) ?_
                                                                                refine rn_bp (v := 32) d_195_28 (by decide) ?_
                                                                                refine rn_ceq (t := 39) d_195_30 (by decide) (by first | omega | assumption | exact cu_36 (by omega) (cu_lt (by omega) (by omega))) (by first | omega | assumption | exact cu_36 (by omega) (cu_lt (by omega) (by omega))) (fun c30 => ?_) (fun c30 => ?_)
                                                                                · refine rr_nx (pc' := 41) (al' := [some (.ref 146), some (.int (nI p)), some (.int (nI (p + 1))), some (.int (nI 5)), some (.int (nI 8)), some (.int (nI 2)), some (.int (nI 0)), some (.int (nI 1))]) (st' := [.int (nI 2)]) d_195_39 (fun _ => rfl) ?_
                                                                                  refine rr_nx (pc' := 42) (al' := [some (.ref 146), some (.int (nI p)), some (.int (nI (p + 1))), some (.int (nI 5)), some (.int (nI 8)), some (.int (nI 2)), some (.int (nI 0)), some (.int (nI 1))]) (st' := [.int (nI (p + 1)), .int (nI 2)]) d_195_41 (fun _ => rfl) ?_
                                                                                  refine rr_nx (pc' := 43) (al' := [some (.ref 146), some (.int (nI p)), some (.int (nI (p + 1))), some (.int (nI 5)), some (.int (nI 8)), some (.int (nI 2)), some (.int (nI 0)), some (.int (nI 1))]) (st' := [.int (nI p), .int (nI (p + 1)), .int (nI 2)]) d_195_42 (fun _ => rfl) ?_
                                                                                  refine rn_sub d_195_43 (by omega) ?_
                                                                                  refine rn_cne (t := 51) d_195_44 (by decide) (by first | omega | assumption | exact cu_36 (by omega) (cu_lt (by omega) (by omega))) (by first | omega | assumption | exact cu_36 (by omega) (cu_lt (by omega) (by omega))) (fun c44 => ?_) (fun c44 => ?_)
                                                                                  · refine rn_ic (v := 0) d_195_51 (by decide) ?_
                                                                                    refine rr_nx (pc' := 54) (al' := [some (.ref 146), some (.int (nI p)), some (.int (nI (p + 1))), some (.int (nI 5)), some (.int (nI 8)), some (.int (nI 2)), some (.int (nI 0)), some (.int (nI 1))]) (st' := []) d_195_52 (fun _ => rfl) ?_
                                                                                    refine rn_ic (v := 0) d_195_54 (by decide) ?_
                                                                                    refine rr_nx (pc' := 57) (al' := [some (.ref 146), some (.int (nI p)), some (.int (nI (p + 1))), some (.int (nI 5)), some (.int (nI 8)), some (.int (nI 2)), some (.int (nI 0)), some (.int (nI 0))]) (st' := []) d_195_55 (fun _ => rfl) ?_
                                                                                    refine rr_nx (pc' := 59) (al' := [some (.ref 146), some (.int (nI p)), some (.int (nI (p + 1))), some (.int (nI 5)), some (.int (nI 8)), some (.int (nI 2)), some (.int (nI 0)), some (.int (nI 0))]) (st' := [.int (nI 0)]) d_195_57 (fun _ => rfl) ?_
                                                                                    refine rr_nx (pc' := 61) (al' := [some (.ref 146), some (.int (nI p)), some (.int (nI (p + 1))), some (.int (nI 5)), some (.int (nI 8)), some (.int (nI 2)), some (.int (nI 0)), some (.int (nI 0))]) (st' := [.int (nI 2), .int (nI 0)]) d_195_59 (fun _ => rfl) ?_
                                                                                    refine rn_cge (t := 104) d_195_61 (by decide) (by first | omega | assumption | exact cu_36 (by omega) (cu_lt (by omega) (by omega))) (by first | omega | assumption | exact cu_36 (by omega) (cu_lt (by omega) (by omega))) (fun c61 => ?_) (fun c61 => ?_)
                                                                                    · omega
                                                                                    · refine rr_nx (pc' := 66) (al' := [some (.ref 146), some (.int (nI p)), some (.int (nI (p + 1))), some (.int (nI 5)), some (.int (nI 8)), some (.int (nI 2)), some (.int (nI 0)), some (.int (nI 0))]) (st' := [.int (nI 0)]) d_195_64 (fun _ => rfl) ?_
                                                                                      refine rn_ieq (t := 104) d_195_66 (by decide) (by first | omega | assumption | exact cu_36 (by omega) (cu_lt (by omega) (by omega))) (fun c66 => ?_) (fun c66 => ?_)
                                                                                      · refine rr_nx (pc' := 106) (al' := [some (.ref 146), some (.int (nI p)), some (.int (nI (p + 1))), some (.int (nI 5)), some (.int (nI 8)), some (.int (nI 2)), some (.int (nI 0)), some (.int (nI 0))]) (st' := [.int (nI 0)]) d_195_104 (fun _ => rfl) ?_
                                                                                        refine rn_ieq (t := 111) d_195_106 (by decide) (by first | omega | assumption | exact cu_36 (by omega) (cu_lt (by omega) (by omega))) (fun c106 => ?_) (fun c106 => ?_)
                                                                                        · refine rr_nx (pc' := 113) (al' := [some (.ref 146), some (.int (nI p)), some (.int (nI (p + 1))), some (.int (nI 5)), some (.int (nI 8)), some (.int (nI 2)), some (.int (nI 0)), some (.int (nI 0))]) (st' := [.int (nI 8)]) d_195_111 (fun _ => rfl) ?_
                                                                                          refine rr_nx (pc' := 115) (al' := [some (.ref 146), some (.int (nI p)), some (.int (nI (p + 1))), some (.int (nI 5)), some (.int (nI 8)), some (.int (nI 2)), some (.int (nI 0)), some (.int (nI 0))]) (st' := [.int (nI 2), .int (nI 8)]) d_195_113 (fun _ => rfl) ?_
                                                                                          refine rn_ic (v := 1) d_195_115 (by decide) ?_
                                                                                          refine rn_add d_195_116  ?_
                                                                                          refine rn_add d_195_117  ?_
                                                                                          refine rr_nx (pc' := 120) (al' := [some (.ref 146), some (.int (nI p)), some (.int (nI (p + 1))), some (.int (nI 5)), some (.int (nI 11)), some (.int (nI 2)), some (.int (nI 0)), some (.int (nI 0))]) (st' := []) d_195_118 (fun _ => rfl) ?_
                                                                                          refine rn_inc d_195_120 rfl rfl ?_
                                                                                          show RR _ _ 123 [some (.ref 146), some (.int (nI p)), some (.int (nI (p + 1))), some (.int (nI 6)), some (.int (nI 11)), some (.int (nI 2)), some (.int (nI 0)), some (.int (nI 0))] [] g A _
                                                                                          refine rr_nx (pc' := 5) (al' := [some (.ref 146), some (.int (nI p)), some (.int (nI (p + 1))), some (.int (nI 6)), some (.int (nI 11)), some (.int (nI 2)), some (.int (nI 0)), some (.int (nI 0))]) (st' := []) d_195_123 (fun _ => rfl) ?_
                                                                                          refine rr_nx (pc' := 7) (al' := [some (.ref 146), some (.int (nI p)), some (.int (nI (p + 1))), some (.int (nI 6)), some (.int (nI 11)), some (.int (nI 2)), some (.int (nI 0)), some (.int (nI 0))]) (st' := [.int (nI 11)]) d_195_5 (fun _ => rfl) ?_
                                                                                          refine rr_nx (pc' := 8) (al' := [some (.ref 146), some (.int (nI p)), some (.int (nI (p + 1))), some (.int (nI 6)), some (.int (nI 11)), some (.int (nI 2)), some (.int (nI 0)), some (.int (nI 0))]) (st' := [.ref 146, .int (nI 11)]) d_195_7 (fun _ => rfl) ?_
                                                                                          refine rr_gf (v := .ref (147 + 6)) d_195_8 mo_195 fl_29 rfl ?_
                                                                                          refine rr_le (j := 6) d_195_11 (by decide) (by decide) ?_
                                                                                          show RR _ _ 12 [some (.ref 146), some (.int (nI p)), some (.int (nI (p + 1))), some (.int (nI 6)), some (.int (nI 11)), some (.int (nI 2)), some (.int (nI 0)), some (.int (nI 0))] [.int (nI 11), .int (nI 11)] g A _
                                                                                          refine rn_cge (t := 126) d_195_12 (by decide) (by first | omega | assumption | exact cu_36 (by omega) (cu_lt (by omega) (by omega))) (by first | omega | assumption | exact cu_36 (by omega) (cu_lt (by omega) (by omega))) (fun c12 => ?_) (fun c12 => ?_)
                                                                                          · refine rn_ic (v := 0) d_195_126 (by decide) ?_
                                                                                            exact rr_ri d_195_127 mr_195 rfl ⟨by rw [wdN, if_pos rfl, if_neg n120, if_neg n121, if_neg n122, if_neg n101], rfl, rfl⟩
                                                                                          · omega
                                                                                        · omega
                                                                                      · omega
                                                                                  · omega
                                                                                · omega
                                                                        · omega
                                                                      · omega
                                                                    · have y101 : t (p) = 101 := (b8_101 _ (hb (p) (by omega))).mp c88
                                                                      refine rn_ic (v := 1) d_195_91 (by decide) ?_
                                                                      refine rr_nx (pc' := 96) (al' := [some (.ref 146), some (.int (nI p)), some (.int (nI (p + 1))), some (.int (nI 4)), some (.int (nI 6)), some (.int (nI 1)), some (.int (nI 1)), some (.int (nI 0))]) (st' := [.int (nI 1)]) d_195_92 (fun _ => rfl) ?_
                                                                      refine rr_nx (pc' := 98) (al' := [some (.ref 146), some (.int (nI p)), some (.int (nI (p + 1))), some (.int (nI 4)), some (.int (nI 6)), some (.int (nI 1)), some (.int (nI 1)), some (.int (nI 0))]) (st' := []) d_195_96 (fun _ => rfl) ?_
                                                                      refine rn_inc d_195_98 rfl rfl ?_
                                                                      show RR _ _ 101 [some (.ref 146), some (.int (nI p)), some (.int (nI (p + 1))), some (.int (nI 4)), some (.int (nI 6)), some (.int (nI 1)), some (.int (nI 1)), some (.int (nI 1))] [] g A _
                                                                      refine rr_nx (pc' := 57) (al' := [some (.ref 146), some (.int (nI p)), some (.int (nI (p + 1))), some (.int (nI 4)), some (.int (nI 6)), some (.int (nI 1)), some (.int (nI 1)), some (.int (nI 1))]) (st' := []) d_195_101 (fun _ => rfl) ?_
                                                                      refine rr_nx (pc' := 59) (al' := [some (.ref 146), some (.int (nI p)), some (.int (nI (p + 1))), some (.int (nI 4)), some (.int (nI 6)), some (.int (nI 1)), some (.int (nI 1)), some (.int (nI 1))]) (st' := [.int (nI 1)]) d_195_57 (fun _ => rfl) ?_
                                                                      refine rr_nx (pc' := 61) (al' := [some (.ref 146), some (.int (nI p)), some (.int (nI (p + 1))), some (.int (nI 4)), some (.int (nI 6)), some (.int (nI 1)), some (.int (nI 1)), some (.int (nI 1))]) (st' := [.int (nI 1), .int (nI 1)]) d_195_59 (fun _ => rfl) ?_
                                                                      refine rn_cge (t := 104) d_195_61 (by decide) (by first | omega | assumption | exact cu_36 (by omega) (cu_lt (by omega) (by omega))) (by first | omega | assumption | exact cu_36 (by omega) (cu_lt (by omega) (by omega))) (fun c61 => ?_) (fun c61 => ?_)
                                                                      · refine rr_nx (pc' := 106) (al' := [some (.ref 146), some (.int (nI p)), some (.int (nI (p + 1))), some (.int (nI 4)), some (.int (nI 6)), some (.int (nI 1)), some (.int (nI 1)), some (.int (nI 1))]) (st' := [.int (nI 1)]) d_195_104 (fun _ => rfl) ?_
                                                                        refine rn_ieq (t := 111) d_195_106 (by decide) (by first | omega | assumption | exact cu_36 (by omega) (cu_lt (by omega) (by omega))) (fun c106 => ?_) (fun c106 => ?_)
                                                                        · omega
                                                                        · refine rr_nx (pc' := 110) (al' := [some (.ref 146), some (.int (nI p)), some (.int (nI (p + 1))), some (.int (nI 4)), some (.int (nI 6)), some (.int (nI 1)), some (.int (nI 1)), some (.int (nI 1))]) (st' := [.int (nI 4)]) d_195_109 (fun _ => rfl) ?_
                                                                          exact rr_ri d_195_110 mr_195 rfl ⟨by rw [wdN, if_pos rfl, if_neg n120, if_neg n121, if_neg n122, if_pos y101], rfl, rfl⟩
                                                                      · omega
                                                            · omega
                                                      · omega
                                                    · omega
                                                  · have y122 : t (p) = 122 := (b8_122 _ (hb (p) (by omega))).mp c88
                                                    refine rn_ic (v := 1) d_195_91 (by decide) ?_
                                                    refine rr_nx (pc' := 96) (al' := [some (.ref 146), some (.int (nI p)), some (.int (nI (p + 1))), some (.int (nI 3)), some (.int (nI 4)), some (.int (nI 1)), some (.int (nI 1)), some (.int (nI 0))]) (st' := [.int (nI 1)]) d_195_92 (fun _ => rfl) ?_
                                                    refine rr_nx (pc' := 98) (al' := [some (.ref 146), some (.int (nI p)), some (.int (nI (p + 1))), some (.int (nI 3)), some (.int (nI 4)), some (.int (nI 1)), some (.int (nI 1)), some (.int (nI 0))]) (st' := []) d_195_96 (fun _ => rfl) ?_
                                                    refine rn_inc d_195_98 rfl rfl ?_
                                                    show RR _ _ 101 [some (.ref 146), some (.int (nI p)), some (.int (nI (p + 1))), some (.int (nI 3)), some (.int (nI 4)), some (.int (nI 1)), some (.int (nI 1)), some (.int (nI 1))] [] g A _
                                                    refine rr_nx (pc' := 57) (al' := [some (.ref 146), some (.int (nI p)), some (.int (nI (p + 1))), some (.int (nI 3)), some (.int (nI 4)), some (.int (nI 1)), some (.int (nI 1)), some (.int (nI 1))]) (st' := []) d_195_101 (fun _ => rfl) ?_
                                                    refine rr_nx (pc' := 59) (al' := [some (.ref 146), some (.int (nI p)), some (.int (nI (p + 1))), some (.int (nI 3)), some (.int (nI 4)), some (.int (nI 1)), some (.int (nI 1)), some (.int (nI 1))]) (st' := [.int (nI 1)]) d_195_57 (fun _ => rfl) ?_
                                                    refine rr_nx (pc' := 61) (al' := [some (.ref 146), some (.int (nI p)), some (.int (nI (p + 1))), some (.int (nI 3)), some (.int (nI 4)), some (.int (nI 1)), some (.int (nI 1)), some (.int (nI 1))]) (st' := [.int (nI 1), .int (nI 1)]) d_195_59 (fun _ => rfl) ?_
                                                    refine rn_cge (t := 104) d_195_61 (by decide) (by first | omega | assumption | exact cu_36 (by omega) (cu_lt (by omega) (by omega))) (by first | omega | assumption | exact cu_36 (by omega) (cu_lt (by omega) (by omega))) (fun c61 => ?_) (fun c61 => ?_)
                                                    · refine rr_nx (pc' := 106) (al' := [some (.ref 146), some (.int (nI p)), some (.int (nI (p + 1))), some (.int (nI 3)), some (.int (nI 4)), some (.int (nI 1)), some (.int (nI 1)), some (.int (nI 1))]) (st' := [.int (nI 1)]) d_195_104 (fun _ => rfl) ?_
                                                      refine rn_ieq (t := 111) d_195_106 (by decide) (by first | omega | assumption | exact cu_36 (by omega) (cu_lt (by omega) (by omega))) (fun c106 => ?_) (fun c106 => ?_)
                                                      · omega
                                                      · refine rr_nx (pc' := 110) (al' := [some (.ref 146), some (.int (nI p)), some (.int (nI (p + 1))), some (.int (nI 3)), some (.int (nI 4)), some (.int (nI 1)), some (.int (nI 1)), some (.int (nI 1))]) (st' := [.int (nI 3)]) d_195_109 (fun _ => rfl) ?_
                                                        exact rr_ri d_195_110 mr_195 rfl ⟨by rw [wdN, if_pos rfl, if_neg n120, if_neg n121, if_pos y122], rfl, rfl⟩
                                                    · omega
                                          · omega
                                    · omega
                                  · omega
                                · have y121 : t (p) = 121 := (b8_121 _ (hb (p) (by omega))).mp c88
                                  refine rn_ic (v := 1) d_195_91 (by decide) ?_
                                  refine rr_nx (pc' := 96) (al' := [some (.ref 146), some (.int (nI p)), some (.int (nI (p + 1))), some (.int (nI 2)), some (.int (nI 2)), some (.int (nI 1)), some (.int (nI 1)), some (.int (nI 0))]) (st' := [.int (nI 1)]) d_195_92 (fun _ => rfl) ?_
                                  refine rr_nx (pc' := 98) (al' := [some (.ref 146), some (.int (nI p)), some (.int (nI (p + 1))), some (.int (nI 2)), some (.int (nI 2)), some (.int (nI 1)), some (.int (nI 1)), some (.int (nI 0))]) (st' := []) d_195_96 (fun _ => rfl) ?_
                                  refine rn_inc d_195_98 rfl rfl ?_
                                  show RR _ _ 101 [some (.ref 146), some (.int (nI p)), some (.int (nI (p + 1))), some (.int (nI 2)), some (.int (nI 2)), some (.int (nI 1)), some (.int (nI 1)), some (.int (nI 1))] [] g A _
                                  refine rr_nx (pc' := 57) (al' := [some (.ref 146), some (.int (nI p)), some (.int (nI (p + 1))), some (.int (nI 2)), some (.int (nI 2)), some (.int (nI 1)), some (.int (nI 1)), some (.int (nI 1))]) (st' := []) d_195_101 (fun _ => rfl) ?_
                                  refine rr_nx (pc' := 59) (al' := [some (.ref 146), some (.int (nI p)), some (.int (nI (p + 1))), some (.int (nI 2)), some (.int (nI 2)), some (.int (nI 1)), some (.int (nI 1)), some (.int (nI 1))]) (st' := [.int (nI 1)]) d_195_57 (fun _ => rfl) ?_
                                  refine rr_nx (pc' := 61) (al' := [some (.ref 146), some (.int (nI p)), some (.int (nI (p + 1))), some (.int (nI 2)), some (.int (nI 2)), some (.int (nI 1)), some (.int (nI 1)), some (.int (nI 1))]) (st' := [.int (nI 1), .int (nI 1)]) d_195_59 (fun _ => rfl) ?_
                                  refine rn_cge (t := 104) d_195_61 (by decide) (by first | omega | assumption | exact cu_36 (by omega) (cu_lt (by omega) (by omega))) (by first | omega | assumption | exact cu_36 (by omega) (cu_lt (by omega) (by omega))) (fun c61 => ?_) (fun c61 => ?_)
                                  · refine rr_nx (pc' := 106) (al' := [some (.ref 146), some (.int (nI p)), some (.int (nI (p + 1))), some (.int (nI 2)), some (.int (nI 2)), some (.int (nI 1)), some (.int (nI 1)), some (.int (nI 1))]) (st' := [.int (nI 1)]) d_195_104 (fun _ => rfl) ?_
                                    refine rn_ieq (t := 111) d_195_106 (by decide) (by first | omega | assumption | exact cu_36 (by omega) (cu_lt (by omega) (by omega))) (fun c106 => ?_) (fun c106 => ?_)
                                    · omega
                                    · refine rr_nx (pc' := 110) (al' := [some (.ref 146), some (.int (nI p)), some (.int (nI (p + 1))), some (.int (nI 2)), some (.int (nI 2)), some (.int (nI 1)), some (.int (nI 1)), some (.int (nI 1))]) (st' := [.int (nI 2)]) d_195_109 (fun _ => rfl) ?_
                                      exact rr_ri d_195_110 mr_195 rfl ⟨by rw [wdN, if_pos rfl, if_neg n120, if_pos y121], rfl, rfl⟩
                                  · omega
                        · omega
                  · omega
                · omega
              · have y120 : t (p) = 120 := (b8_120 _ (hb (p) (by omega))).mp c88
                refine rn_ic (v := 1) d_195_91 (by decide) ?_
                refine rr_nx (pc' := 96) (al' := [some (.ref 146), some (.int (nI p)), some (.int (nI (p + 1))), some (.int (nI 1)), some (.int (nI 0)), some (.int (nI 1)), some (.int (nI 1)), some (.int (nI 0))]) (st' := [.int (nI 1)]) d_195_92 (fun _ => rfl) ?_
                refine rr_nx (pc' := 98) (al' := [some (.ref 146), some (.int (nI p)), some (.int (nI (p + 1))), some (.int (nI 1)), some (.int (nI 0)), some (.int (nI 1)), some (.int (nI 1)), some (.int (nI 0))]) (st' := []) d_195_96 (fun _ => rfl) ?_
                refine rn_inc d_195_98 rfl rfl ?_
                show RR _ _ 101 [some (.ref 146), some (.int (nI p)), some (.int (nI (p + 1))), some (.int (nI 1)), some (.int (nI 0)), some (.int (nI 1)), some (.int (nI 1)), some (.int (nI 1))] [] g A _
                refine rr_nx (pc' := 57) (al' := [some (.ref 146), some (.int (nI p)), some (.int (nI (p + 1))), some (.int (nI 1)), some (.int (nI 0)), some (.int (nI 1)), some (.int (nI 1)), some (.int (nI 1))]) (st' := []) d_195_101 (fun _ => rfl) ?_
                refine rr_nx (pc' := 59) (al' := [some (.ref 146), some (.int (nI p)), some (.int (nI (p + 1))), some (.int (nI 1)), some (.int (nI 0)), some (.int (nI 1)), some (.int (nI 1)), some (.int (nI 1))]) (st' := [.int (nI 1)]) d_195_57 (fun _ => rfl) ?_
                refine rr_nx (pc' := 61) (al' := [some (.ref 146), some (.int (nI p)), some (.int (nI (p + 1))), some (.int (nI 1)), some (.int (nI 0)), some (.int (nI 1)), some (.int (nI 1)), some (.int (nI 1))]) (st' := [.int (nI 1), .int (nI 1)]) d_195_59 (fun _ => rfl) ?_
                refine rn_cge (t := 104) d_195_61 (by decide) (by first | omega | assumption | exact cu_36 (by omega) (cu_lt (by omega) (by omega))) (by first | omega | assumption | exact cu_36 (by omega) (cu_lt (by omega) (by omega))) (fun c61 => ?_) (fun c61 => ?_)
                · refine rr_nx (pc' := 106) (al' := [some (.ref 146), some (.int (nI p)), some (.int (nI (p + 1))), some (.int (nI 1)), some (.int (nI 0)), some (.int (nI 1)), some (.int (nI 1)), some (.int (nI 1))]) (st' := [.int (nI 1)]) d_195_104 (fun _ => rfl) ?_
                  refine rn_ieq (t := 111) d_195_106 (by decide) (by first | omega | assumption | exact cu_36 (by omega) (cu_lt (by omega) (by omega))) (fun c106 => ?_) (fun c106 => ?_)
                  · omega
                  · refine rr_nx (pc' := 110) (al' := [some (.ref 146), some (.int (nI p)), some (.int (nI (p + 1))), some (.int (nI 1)), some (.int (nI 0)), some (.int (nI 1)), some (.int (nI 1)), some (.int (nI 1))]) (st' := [.int (nI 1)]) d_195_109 (fun _ => rfl) ?_
                    exact rr_ri d_195_110 mr_195 rfl ⟨by rw [wdN, if_pos rfl, if_pos y120], rfl, rfl⟩
                · omega
      · omega
theorem s_wordOf2 {g : Nat → Int32} {A : Nat → Nat → Int32} {t : Nat → Nat} {p len : Nat} (hW : ∀ i, i < 11 → A 6 i = wrd i) (hlen : len ≤ 400) (hB : ∀ i, i < len → A 7 i = bI8 (t i)) (hb : ∀ i, i < len → t i < 256)  (hel : p + 2 ≤ len) : RR 0 195 0 [some (.ref 146), some (.int (nI p)), some (.int (nI (p + 2))), none, none, none, none, none] [] g A (rP (some (.int (nI (wdN t p (p + 2))))) g A) := by
  refine rn_ic (v := 1) d_195_0 (by decide) ?_
  refine rr_nx (pc' := 2) (al' := [some (.ref 146), some (.int (nI p)), some (.int (nI (p + 2))), some (.int (nI 1)), none, none, none, none]) (st' := []) d_195_1 (fun _ => rfl) ?_
  refine rn_ic (v := 0) d_195_2 (by decide) ?_
  refine rr_nx (pc' := 5) (al' := [some (.ref 146), some (.int (nI p)), some (.int (nI (p + 2))), some (.int (nI 1)), some (.int (nI 0)), none, none, none]) (st' := []) d_195_3 (fun _ => rfl) ?_
  refine rr_nx (pc' := 7) (al' := [some (.ref 146), some (.int (nI p)), some (.int (nI (p + 2))), some (.int (nI 1)), some (.int (nI 0)), none, none, none]) (st' := [.int (nI 0)]) d_195_5 (fun _ => rfl) ?_
  refine rr_nx (pc' := 8) (al' := [some (.ref 146), some (.int (nI p)), some (.int (nI (p + 2))), some (.int (nI 1)), some (.int (nI 0)), none, none, none]) (st' := [.ref 146, .int (nI 0)]) d_195_7 (fun _ => rfl) ?_
  refine rr_gf (v := .ref (147 + 6)) d_195_8 mo_195 fl_29 rfl ?_
  refine rr_le (j := 6) d_195_11 (by decide) (by decide) ?_
  show RR _ _ 12 [some (.ref 146), some (.int (nI p)), some (.int (nI (p + 2))), some (.int (nI 1)), some (.int (nI 0)), none, none, none] [.int (nI 11), .int (nI 0)] g A _
  refine rn_cge (t := 126) d_195_12 (by decide) (by first | omega | assumption | exact cu_36 (by omega) (cu_lt (by omega) (by omega))) (by first | omega | assumption | exact cu_36 (by omega) (cu_lt (by omega) (by omega))) (fun c12 => ?_) (fun c12 => ?_)
  · omega
  · refine rn_ic (v := 0) d_195_15 (by decide) ?_
    refine rr_nx (pc' := 18) (al' := [some (.ref 146), some (.int (nI p)), some (.int (nI (p + 2))), some (.int (nI 1)), some (.int (nI 0)), some (.int (nI 0)), none, none]) (st' := []) d_195_16 (fun _ => rfl) ?_
    refine rr_nx (pc' := 19) (al' := [some (.ref 146), some (.int (nI p)), some (.int (nI (p + 2))), some (.int (nI 1)), some (.int (nI 0)), some (.int (nI 0)), none, none]) (st' := [.ref 146]) d_195_18 (fun _ => rfl) ?_
    refine rr_gf (v := .ref (147 + 6)) d_195_19 mo_195 fl_29 rfl ?_
    refine rr_nx (pc' := 24) (al' := [some (.ref 146), some (.int (nI p)), some (.int (nI (p + 2))), some (.int (nI 1)), some (.int (nI 0)), some (.int (nI 0)), none, none]) (st' := [.int (nI 0), .ref (147 + 6)]) d_195_22 (fun _ => rfl) ?_
    refine rr_nx (pc' := 26) (al' := [some (.ref 146), some (.int (nI p)), some (.int (nI (p + 2))), some (.int (nI 1)), some (.int (nI 0)), some (.int (nI 0)), none, none]) (st' := [.int (nI 0), .int (nI 0), .ref (147 + 6)]) d_195_24 (fun _ => rfl) ?_
    refine rn_add d_195_26  ?_
    refine rr_ba (j := 6) (v := (nI 120)) d_195_27 (by decide) (by decide) (by decide) (show 0 < 11 by first | omega | assumption | exact cu_36 (by omega) (cu_lt (by omega) (by omega))) (hW 0 (by decide)) ?_
    refine rn_bp (v := 32) d_195_28 (by decide) ?_
    refine rn_ceq (t := 39) d_195_30 (by decide) (by first | omega | assumption | exact cu_36 (by omega) (cu_lt (by omega) (by omega))) (by first | omega | assumption | exact cu_36 (by omega) (cu_lt (by omega) (by omega))) (fun c30 => ?_) (fun c30 => ?_)
    · omega
    · refine rn_inc d_195_33 rfl rfl ?_
      show RR _ _ 36 [some (.ref 146), some (.int (nI p)), some (.int (nI (p + 2))), some (.int (nI 1)), some (.int (nI 0)), some (.int (nI 1)), none, none] [] g A _
      refine rr_nx (pc' := 18) (al' := [some (.ref 146), some (.int (nI p)), some (.int (nI (p + 2))), some (.int (nI 1)), some (.int (nI 0)), some (.int (nI 1)), none, none]) (st' := []) d_195_36 (fun _ => rfl) ?_
      refine rr_nx (pc' := 19) (al' := [some (.ref 146), some (.int (nI p)), some (.int (nI (p + 2))), some (.int (nI 1)), some (.int (nI 0)), some (.int (nI 1)), none, none]) (st' := [.ref 146]) d_195_18 (fun _ => rfl) ?_
      refine rr_gf (v := .ref (147 + 6)) d_195_19 mo_195 fl_29 rfl ?_
      refine rr_nx (pc' := 24) (al' := [some (.ref 146), some (.int (nI p)), some (.int (nI (p + 2))), some (.int (nI 1)), some (.int (nI 0)), some (.int (nI 1)), none, none]) (st' := [.int (nI 0), .ref (147 + 6)]) d_195_22 (fun _ => rfl) ?_
      refine rr_nx (pc' := 26) (al' := [some (.ref 146), some (.int (nI p)), some (.int (nI (p + 2))), some (.int (nI 1)), some (.int (nI 0)), some (.int (nI 1)), none, none]) (st' := [.int (nI 1), .int (nI 0), .ref (147 + 6)]) d_195_24 (fun _ => rfl) ?_
      refine rn_add d_195_26  ?_
      refine rr_ba (j := 6) (v := (nI 32)) d_195_27 (by decide) (by decide) (by decide) (show 1 < 11 by first | omega | assumption | exact cu_36 (by omega) (cu_lt (by omega) (by omega))) (hW 1 (by decide)) ?_
      refine rn_bp (v := 32) d_195_28 (by decide) ?_
      refine rn_ceq (t := 39) d_195_30 (by decide) (by first | omega | assumption | exact cu_36 (by omega) (cu_lt (by omega) (by omega))) (by first | omega | assumption | exact cu_36 (by omega) (cu_lt (by omega) (by omega))) (fun c30 => ?_) (fun c30 => ?_)
      · refine rr_nx (pc' := 41) (al' := [some (.ref 146), some (.int (nI p)), some (.int (nI (p + 2))), some (.int (nI 1)), some (.int (nI 0)), some (.int (nI 1)), none, none]) (st' := [.int (nI 1)]) d_195_39 (fun _ => rfl) ?_
        refine rr_nx (pc' := 42) (al' := [some (.ref 146), some (.int (nI p)), some (.int (nI (p + 2))), some (.int (nI 1)), some (.int (nI 0)), some (.int (nI 1)), none, none]) (st' := [.int (nI (p + 2)), .int (nI 1)]) d_195_41 (fun _ => rfl) ?_
        refine rr_nx (pc' := 43) (al' := [some (.ref 146), some (.int (nI p)), some (.int (nI (p + 2))), some (.int (nI 1)), some (.int (nI 0)), some (.int (nI 1)), none, none]) (st' := [.int (nI p), .int (nI (p + 2)), .int (nI 1)]) d_195_42 (fun _ => rfl) ?_
        refine rn_sub d_195_43 (by omega) ?_
        refine rn_cne (t := 51) d_195_44 (by decide) (by first | omega | assumption | exact cu_36 (by omega) (cu_lt (by omega) (by omega))) (by first | omega | assumption | exact cu_36 (by omega) (cu_lt (by omega) (by omega))) (fun c44 => ?_) (fun c44 => ?_)
        · refine rn_ic (v := 0) d_195_51 (by decide) ?_
          refine rr_nx (pc' := 54) (al' := [some (.ref 146), some (.int (nI p)), some (.int (nI (p + 2))), some (.int (nI 1)), some (.int (nI 0)), some (.int (nI 1)), some (.int (nI 0)), none]) (st' := []) d_195_52 (fun _ => rfl) ?_
          refine rn_ic (v := 0) d_195_54 (by decide) ?_
          refine rr_nx (pc' := 57) (al' := [some (.ref 146), some (.int (nI p)), some (.int (nI (p + 2))), some (.int (nI 1)), some (.int (nI 0)), some (.int (nI 1)), some (.int (nI 0)), some (.int (nI 0))]) (st' := []) d_195_55 (fun _ => rfl) ?_
          refine rr_nx (pc' := 59) (al' := [some (.ref 146), some (.int (nI p)), some (.int (nI (p + 2))), some (.int (nI 1)), some (.int (nI 0)), some (.int (nI 1)), some (.int (nI 0)), some (.int (nI 0))]) (st' := [.int (nI 0)]) d_195_57 (fun _ => rfl) ?_
          refine rr_nx (pc' := 61) (al' := [some (.ref 146), some (.int (nI p)), some (.int (nI (p + 2))), some (.int (nI 1)), some (.int (nI 0)), some (.int (nI 1)), some (.int (nI 0)), some (.int (nI 0))]) (st' := [.int (nI 1), .int (nI 0)]) d_195_59 (fun _ => rfl) ?_
          refine rn_cge (t := 104) d_195_61 (by decide) (by first | omega | assumption | exact cu_36 (by omega) (cu_lt (by omega) (by omega))) (by first | omega | assumption | exact cu_36 (by omega) (cu_lt (by omega) (by omega))) (fun c61 => ?_) (fun c61 => ?_)
          · omega
          · refine rr_nx (pc' := 66) (al' := [some (.ref 146), some (.int (nI p)), some (.int (nI (p + 2))), some (.int (nI 1)), some (.int (nI 0)), some (.int (nI 1)), some (.int (nI 0)), some (.int (nI 0))]) (st' := [.int (nI 0)]) d_195_64 (fun _ => rfl) ?_
            refine rn_ieq (t := 104) d_195_66 (by decide) (by first | omega | assumption | exact cu_36 (by omega) (cu_lt (by omega) (by omega))) (fun c66 => ?_) (fun c66 => ?_)
            · refine rr_nx (pc' := 106) (al' := [some (.ref 146), some (.int (nI p)), some (.int (nI (p + 2))), some (.int (nI 1)), some (.int (nI 0)), some (.int (nI 1)), some (.int (nI 0)), some (.int (nI 0))]) (st' := [.int (nI 0)]) d_195_104 (fun _ => rfl) ?_
              refine rn_ieq (t := 111) d_195_106 (by decide) (by first | omega | assumption | exact cu_36 (by omega) (cu_lt (by omega) (by omega))) (fun c106 => ?_) (fun c106 => ?_)
              · refine rr_nx (pc' := 113) (al' := [some (.ref 146), some (.int (nI p)), some (.int (nI (p + 2))), some (.int (nI 1)), some (.int (nI 0)), some (.int (nI 1)), some (.int (nI 0)), some (.int (nI 0))]) (st' := [.int (nI 0)]) d_195_111 (fun _ => rfl) ?_
                refine rr_nx (pc' := 115) (al' := [some (.ref 146), some (.int (nI p)), some (.int (nI (p + 2))), some (.int (nI 1)), some (.int (nI 0)), some (.int (nI 1)), some (.int (nI 0)), some (.int (nI 0))]) (st' := [.int (nI 1), .int (nI 0)]) d_195_113 (fun _ => rfl) ?_
                refine rn_ic (v := 1) d_195_115 (by decide) ?_
                refine rn_add d_195_116  ?_
                refine rn_add d_195_117  ?_
                refine rr_nx (pc' := 120) (al' := [some (.ref 146), some (.int (nI p)), some (.int (nI (p + 2))), some (.int (nI 1)), some (.int (nI 2)), some (.int (nI 1)), some (.int (nI 0)), some (.int (nI 0))]) (st' := []) d_195_118 (fun _ => rfl) ?_
                refine rn_inc d_195_120 rfl rfl ?_
                show RR _ _ 123 [some (.ref 146), some (.int (nI p)), some (.int (nI (p + 2))), some (.int (nI 2)), some (.int (nI 2)), some (.int (nI 1)), some (.int (nI 0)), some (.int (nI 0))] [] g A _
                refine rr_nx (pc' := 5) (al' := [some (.ref 146), some (.int (nI p)), some (.int (nI (p + 2))), some (.int (nI 2)), some (.int (nI 2)), some (.int (nI 1)), some (.int (nI 0)), some (.int (nI 0))]) (st' := []) d_195_123 (fun _ => rfl) ?_
                refine rr_nx (pc' := 7) (al' := [some (.ref 146), some (.int (nI p)), some (.int (nI (p + 2))), some (.int (nI 2)), some (.int (nI 2)), some (.int (nI 1)), some (.int (nI 0)), some (.int (nI 0))]) (st' := [.int (nI 2)]) d_195_5 (fun _ => rfl) ?_
                refine rr_nx (pc' := 8) (al' := [some (.ref 146), some (.int (nI p)), some (.int (nI (p + 2))), some (.int (nI 2)), some (.int (nI 2)), some (.int (nI 1)), some (.int (nI 0)), some (.int (nI 0))]) (st' := [.ref 146, .int (nI 2)]) d_195_7 (fun _ => rfl) ?_
                refine rr_gf (v := .ref (147 + 6)) d_195_8 mo_195 fl_29 rfl ?_
                refine rr_le (j := 6) d_195_11 (by decide) (by decide) ?_
                show RR _ _ 12 [some (.ref 146), some (.int (nI p)), some (.int (nI (p + 2))), some (.int (nI 2)), some (.int (nI 2)), some (.int (nI 1)), some (.int (nI 0)), some (.int (nI 0))] [.int (nI 11), .int (nI 2)] g A _
                refine rn_cge (t := 126) d_195_12 (by decide) (by first | omega | assumption | exact cu_36 (by omega) (cu_lt (by omega) (by omega))) (by first | omega | assumption | exact cu_36 (by omega) (cu_lt (by omega) (by omega))) (fun c12 => ?_) (fun c12 => ?_)
                · omega
                · refine rn_ic (v := 0) d_195_15 (by decide) ?_
                  refine rr_nx (pc' := 18) (al' := [some (.ref 146), some (.int (nI p)), some (.int (nI (p + 2))), some (.int (nI 2)), some (.int (nI 2)), some (.int (nI 0)), some (.int (nI 0)), some (.int (nI 0))]) (st' := []) d_195_16 (fun _ => rfl) ?_
                  refine rr_nx (pc' := 19) (al' := [some (.ref 146), some (.int (nI p)), some (.int (nI (p + 2))), some (.int (nI 2)), some (.int (nI 2)), some (.int (nI 0)), some (.int (nI 0)), some (.int (nI 0))]) (st' := [.ref 146]) d_195_18 (fun _ => rfl) ?_
                  refine rr_gf (v := .ref (147 + 6)) d_195_19 mo_195 fl_29 rfl ?_
                  refine rr_nx (pc' := 24) (al' := [some (.ref 146), some (.int (nI p)), some (.int (nI (p + 2))), some (.int (nI 2)), some (.int (nI 2)), some (.int (nI 0)), some (.int (nI 0)), some (.int (nI 0))]) (st' := [.int (nI 2), .ref (147 + 6)]) d_195_22 (fun _ => rfl) ?_
                  refine rr_nx (pc' := 26) (al' := [some (.ref 146), some (.int (nI p)), some (.int (nI (p + 2))), some (.int (nI 2)), some (.int (nI 2)), some (.int (nI 0)), some (.int (nI 0)), some (.int (nI 0))]) (st' := [.int (nI 0), .int (nI 2), .ref (147 + 6)]) d_195_24 (fun _ => rfl) ?_
                  refine rn_add d_195_26  ?_
                  refine rr_ba (j := 6) (v := (nI 121)) d_195_27 (by decide) (by decide) (by decide) (show 2 < 11 by first | omega | assumption | exact cu_36 (by omega) (cu_lt (by omega) (by omega))) (hW 2 (by decide)) ?_
                  refine rn_bp (v := 32) d_195_28 (by decide) ?_
                  refine rn_ceq (t := 39) d_195_30 (by decide) (by first | omega | assumption | exact cu_36 (by omega) (cu_lt (by omega) (by omega))) (by first | omega | assumption | exact cu_36 (by omega) (cu_lt (by omega) (by omega))) (fun c30 => ?_) (fun c30 => ?_)
                  · omega
                  · refine rn_inc d_195_33 rfl rfl ?_
                    show RR _ _ 36 [some (.ref 146), some (.int (nI p)), some (.int (nI (p + 2))), some (.int (nI 2)), some (.int (nI 2)), some (.int (nI 1)), some (.int (nI 0)), some (.int (nI 0))] [] g A _
                    refine rr_nx (pc' := 18) (al' := [some (.ref 146), some (.int (nI p)), some (.int (nI (p + 2))), some (.int (nI 2)), some (.int (nI 2)), some (.int (nI 1)), some (.int (nI 0)), some (.int (nI 0))]) (st' := []) d_195_36 (fun _ => rfl) ?_
                    refine rr_nx (pc' := 19) (al' := [some (.ref 146), some (.int (nI p)), some (.int (nI (p + 2))), some (.int (nI 2)), some (.int (nI 2)), some (.int (nI 1)), some (.int (nI 0)), some (.int (nI 0))]) (st' := [.ref 146]) d_195_18 (fun _ => rfl) ?_
                    refine rr_gf (v := .ref (147 + 6)) d_195_19 mo_195 fl_29 rfl ?_
                    refine rr_nx (pc' := 24) (al' := [some (.ref 146), some (.int (nI p)), some (.int (nI (p + 2))), some (.int (nI 2)), some (.int (nI 2)), some (.int (nI 1)), some (.int (nI 0)), some (.int (nI 0))]) (st' := [.int (nI 2), .ref (147 + 6)]) d_195_22 (fun _ => rfl) ?_
                    refine rr_nx (pc' := 26) (al' := [some (.ref 146), some (.int (nI p)), some (.int (nI (p + 2))), some (.int (nI 2)), some (.int (nI 2)), some (.int (nI 1)), some (.int (nI 0)), some (.int (nI 0))]) (st' := [.int (nI 1), .int (nI 2), .ref (147 + 6)]) d_195_24 (fun _ => rfl) ?_
                    refine rn_add d_195_26  ?_
                    refine rr_ba (j := 6) (v := (nI 32)) d_195_27 (by decide) (by decide) (by decide) (show 3 < 11 by first | omega | assumption | exact cu_36 (by omega) (cu_lt (by omega) (by omega))) (hW 3 (by decide)) ?_
                    refine rn_bp (v := 32) d_195_28 (by decide) ?_
                    refine rn_ceq (t := 39) d_195_30 (by decide) (by first | omega | assumption | exact cu_36 (by omega) (cu_lt (by omega) (by omega))) (by first | omega | assumption | exact cu_36 (by omega) (cu_lt (by omega) (by omega))) (fun c30 => ?_) (fun c30 => ?_)
                    · refine rr_nx (pc' := 41) (al' := [some (.ref 146), some (.int (nI p)), some (.int (nI (p + 2))), some (.int (nI 2)), some (.int (nI 2)), some (.int (nI 1)), some (.int (nI 0)), some (.int (nI 0))]) (st' := [.int (nI 1)]) d_195_39 (fun _ => rfl) ?_
                      refine rr_nx (pc' := 42) (al' := [some (.ref 146), some (.int (nI p)), some (.int (nI (p + 2))), some (.int (nI 2)), some (.int (nI 2)), some (.int (nI 1)), some (.int (nI 0)), some (.int (nI 0))]) (st' := [.int (nI (p + 2)), .int (nI 1)]) d_195_41 (fun _ => rfl) ?_
                      refine rr_nx (pc' := 43) (al' := [some (.ref 146), some (.int (nI p)), some (.int (nI (p + 2))), some (.int (nI 2)), some (.int (nI 2)), some (.int (nI 1)), some (.int (nI 0)), some (.int (nI 0))]) (st' := [.int (nI p), .int (nI (p + 2)), .int (nI 1)]) d_195_42 (fun _ => rfl) ?_
                      refine rn_sub d_195_43 (by omega) ?_
                      refine rn_cne (t := 51) d_195_44 (by decide) (by first | omega | assumption | exact cu_36 (by omega) (cu_lt (by omega) (by omega))) (by first | omega | assumption | exact cu_36 (by omega) (cu_lt (by omega) (by omega))) (fun c44 => ?_) (fun c44 => ?_)
                      · refine rn_ic (v := 0) d_195_51 (by decide) ?_
                        refine rr_nx (pc' := 54) (al' := [some (.ref 146), some (.int (nI p)), some (.int (nI (p + 2))), some (.int (nI 2)), some (.int (nI 2)), some (.int (nI 1)), some (.int (nI 0)), some (.int (nI 0))]) (st' := []) d_195_52 (fun _ => rfl) ?_
                        refine rn_ic (v := 0) d_195_54 (by decide) ?_
                        refine rr_nx (pc' := 57) (al' := [some (.ref 146), some (.int (nI p)), some (.int (nI (p + 2))), some (.int (nI 2)), some (.int (nI 2)), some (.int (nI 1)), some (.int (nI 0)), some (.int (nI 0))]) (st' := []) d_195_55 (fun _ => rfl) ?_
                        refine rr_nx (pc' := 59) (al' := [some (.ref 146), some (.int (nI p)), some (.int (nI (p + 2))), some (.int (nI 2)), some (.int (nI 2)), some (.int (nI 1)), some (.int (nI 0)), some (.int (nI 0))]) (st' := [.int (nI 0)]) d_195_57 (fun _ => rfl) ?_
                        refine rr_nx (pc' := 61) (al' := [some (.ref 146), some (.int (nI p)), some (.int (nI (p + 2))), some (.int (nI 2)), some (.int (nI 2)), some (.int (nI 1)), some (.int (nI 0)), some (.int (nI 0))]) (st' := [.int (nI 1), .int (nI 0)]) d_195_59 (fun _ => rfl) ?_
                        refine rn_cge (t := 104) d_195_61 (by decide) (by first | omega | assumption | exact cu_36 (by omega) (cu_lt (by omega) (by omega))) (by first | omega | assumption | exact cu_36 (by omega) (cu_lt (by omega) (by omega))) (fun c61 => ?_) (fun c61 => ?_)
                        · omega
                        · refine rr_nx (pc' := 66) (al' := [some (.ref 146), some (.int (nI p)), some (.int (nI (p + 2))), some (.int (nI 2)), some (.int (nI 2)), some (.int (nI 1)), some (.int (nI 0)), some (.int (nI 0))]) (st' := [.int (nI 0)]) d_195_64 (fun _ => rfl) ?_
                          refine rn_ieq (t := 104) d_195_66 (by decide) (by first | omega | assumption | exact cu_36 (by omega) (cu_lt (by omega) (by omega))) (fun c66 => ?_) (fun c66 => ?_)
                          · refine rr_nx (pc' := 106) (al' := [some (.ref 146), some (.int (nI p)), some (.int (nI (p + 2))), some (.int (nI 2)), some (.int (nI 2)), some (.int (nI 1)), some (.int (nI 0)), some (.int (nI 0))]) (st' := [.int (nI 0)]) d_195_104 (fun _ => rfl) ?_
                            refine rn_ieq (t := 111) d_195_106 (by decide) (by first | omega | assumption | exact cu_36 (by omega) (cu_lt (by omega) (by omega))) (fun c106 => ?_) (fun c106 => ?_)
                            · refine rr_nx (pc' := 113) (al' := [some (.ref 146), some (.int (nI p)), some (.int (nI (p + 2))), some (.int (nI 2)), some (.int (nI 2)), some (.int (nI 1)), some (.int (nI 0)), some (.int (nI 0))]) (st' := [.int (nI 2)]) d_195_111 (fun _ => rfl) ?_
                              refine rr_nx (pc' := 115) (al' := [some (.ref 146), some (.int (nI p)), some (.int (nI (p + 2))), some (.int (nI 2)), some (.int (nI 2)), some (.int (nI 1)), some (.int (nI 0)), some (.int (nI 0))]) (st' := [.int (nI 1), .int (nI 2)]) d_195_113 (fun _ => rfl) ?_
                              refine rn_ic (v := 1) d_195_115 (by decide) ?_
                              refine rn_add d_195_116  ?_
                              refine rn_add d_195_117  ?_
                              refine rr_nx (pc' := 120) (al' := [some (.ref 146), some (.int (nI p)), some (.int (nI (p + 2))), some (.int (nI 2)), some (.int (nI 4)), some (.int (nI 1)), some (.int (nI 0)), some (.int (nI 0))]) (st' := []) d_195_118 (fun _ => rfl) ?_
                              refine rn_inc d_195_120 rfl rfl ?_
                              show RR _ _ 123 [some (.ref 146), some (.int (nI p)), some (.int (nI (p + 2))), some (.int (nI 3)), some (.int (nI 4)), some (.int (nI 1)), some (.int (nI 0)), some (.int (nI 0))] [] g A _
                              refine rr_nx (pc' := 5) (al' := [some (.ref 146), some (.int (nI p)), some (.int (nI (p + 2))), some (.int (nI 3)), some (.int (nI 4)), some (.int (nI 1)), some (.int (nI 0)), some (.int (nI 0))]) (st' := []) d_195_123 (fun _ => rfl) ?_
                              refine rr_nx (pc' := 7) (al' := [some (.ref 146), some (.int (nI p)), some (.int (nI (p + 2))), some (.int (nI 3)), some (.int (nI 4)), some (.int (nI 1)), some (.int (nI 0)), some (.int (nI 0))]) (st' := [.int (nI 4)]) d_195_5 (fun _ => rfl) ?_
                              refine rr_nx (pc' := 8) (al' := [some (.ref 146), some (.int (nI p)), some (.int (nI (p + 2))), some (.int (nI 3)), some (.int (nI 4)), some (.int (nI 1)), some (.int (nI 0)), some (.int (nI 0))]) (st' := [.ref 146, .int (nI 4)]) d_195_7 (fun _ => rfl) ?_
                              refine rr_gf (v := .ref (147 + 6)) d_195_8 mo_195 fl_29 rfl ?_
                              refine rr_le (j := 6) d_195_11 (by decide) (by decide) ?_
                              show RR _ _ 12 [some (.ref 146), some (.int (nI p)), some (.int (nI (p + 2))), some (.int (nI 3)), some (.int (nI 4)), some (.int (nI 1)), some (.int (nI 0)), some (.int (nI 0))] [.int (nI 11), .int (nI 4)] g A _
                              refine rn_cge (t := 126) d_195_12 (by decide) (by first | omega | assumption | exact cu_36 (by omega) (cu_lt (by omega) (by omega))) (by first | omega | assumption | exact cu_36 (by omega) (cu_lt (by omega) (by omega))) (fun c12 => ?_) (fun c12 => ?_)
                              · omega
                              · refine rn_ic (v := 0) d_195_15 (by decide) ?_
                                refine rr_nx (pc' := 18) (al' := [some (.ref 146), some (.int (nI p)), some (.int (nI (p + 2))), some (.int (nI 3)), some (.int (nI 4)), some (.int (nI 0)), some (.int (nI 0)), some (.int (nI 0))]) (st' := []) d_195_16 (fun _ => rfl) ?_
                                refine rr_nx (pc' := 19) (al' := [some (.ref 146), some (.int (nI p)), some (.int (nI (p + 2))), some (.int (nI 3)), some (.int (nI 4)), some (.int (nI 0)), some (.int (nI 0)), some (.int (nI 0))]) (st' := [.ref 146]) d_195_18 (fun _ => rfl) ?_
                                refine rr_gf (v := .ref (147 + 6)) d_195_19 mo_195 fl_29 rfl ?_
                                refine rr_nx (pc' := 24) (al' := [some (.ref 146), some (.int (nI p)), some (.int (nI (p + 2))), some (.int (nI 3)), some (.int (nI 4)), some (.int (nI 0)), some (.int (nI 0)), some (.int (nI 0))]) (st' := [.int (nI 4), .ref (147 + 6)]) d_195_22 (fun _ => rfl) ?_
                                refine rr_nx (pc' := 26) (al' := [some (.ref 146), some (.int (nI p)), some (.int (nI (p + 2))), some (.int (nI 3)), some (.int (nI 4)), some (.int (nI 0)), some (.int (nI 0)), some (.int (nI 0))]) (st' := [.int (nI 0), .int (nI 4), .ref (147 + 6)]) d_195_24 (fun _ => rfl) ?_
                                refine rn_add d_195_26  ?_
                                refine rr_ba (j := 6) (v := (nI 122)) d_195_27 (by decide) (by decide) (by decide) (show 4 < 11 by first | omega | assumption | exact cu_36 (by omega) (cu_lt (by omega) (by omega))) (hW 4 (by decide)) ?_
                                refine rn_bp (v := 32) d_195_28 (by decide) ?_
                                refine rn_ceq (t := 39) d_195_30 (by decide) (by first | omega | assumption | exact cu_36 (by omega) (cu_lt (by omega) (by omega))) (by first | omega | assumption | exact cu_36 (by omega) (cu_lt (by omega) (by omega))) (fun c30 => ?_) (fun c30 => ?_)
                                · omega
                                · refine rn_inc d_195_33 rfl rfl ?_
                                  show RR _ _ 36 [some (.ref 146), some (.int (nI p)), some (.int (nI (p + 2))), some (.int (nI 3)), some (.int (nI 4)), some (.int (nI 1)), some (.int (nI 0)), some (.int (nI 0))] [] g A _
                                  refine rr_nx (pc' := 18) (al' := [some (.ref 146), some (.int (nI p)), some (.int (nI (p + 2))), some (.int (nI 3)), some (.int (nI 4)), some (.int (nI 1)), some (.int (nI 0)), some (.int (nI 0))]) (st' := []) d_195_36 (fun _ => rfl) ?_
                                  refine rr_nx (pc' := 19) (al' := [some (.ref 146), some (.int (nI p)), some (.int (nI (p + 2))), some (.int (nI 3)), some (.int (nI 4)), some (.int (nI 1)), some (.int (nI 0)), some (.int (nI 0))]) (st' := [.ref 146]) d_195_18 (fun _ => rfl) ?_
                                  refine rr_gf (v := .ref (147 + 6)) d_195_19 mo_195 fl_29 rfl ?_
                                  refine rr_nx (pc' := 24) (al' := [some (.ref 146), some (.int (nI p)), some (.int (nI (p + 2))), some (.int (nI 3)), some (.int (nI 4)), some (.int (nI 1)), some (.int (nI 0)), some (.int (nI 0))]) (st' := [.int (nI 4), .ref (147 + 6)]) d_195_22 (fun _ => rfl) ?_
                                  refine rr_nx (pc' := 26) (al' := [some (.ref 146), some (.int (nI p)), some (.int (nI (p + 2))), some (.int (nI 3)), some (.int (nI 4)), some (.int (nI 1)), some (.int (nI 0)), some (.int (nI 0))]) (st' := [.int (nI 1), .int (nI 4), .ref (147 + 6)]) d_195_24 (fun _ => rfl) ?_
                                  refine rn_add d_195_26  ?_
                                  refine rr_ba (j := 6) (v := (nI 32)) d_195_27 (by decide) (by decide) (by decide) (show 5 < 11 by first | omega | assumption | exact cu_36 (by omega) (cu_lt (by omega) (by omega))) (hW 5 (by decide)) ?_
                                  refine rn_bp (v := 32) d_195_28 (by decide) ?_
                                  refine rn_ceq (t := 39) d_195_30 (by decide) (by first | omega | assumption | exact cu_36 (by omega) (cu_lt (by omega) (by omega))) (by first | omega | assumption | exact cu_36 (by omega) (cu_lt (by omega) (by omega))) (fun c30 => ?_) (fun c30 => ?_)
                                  · refine rr_nx (pc' := 41) (al' := [some (.ref 146), some (.int (nI p)), some (.int (nI (p + 2))), some (.int (nI 3)), some (.int (nI 4)), some (.int (nI 1)), some (.int (nI 0)), some (.int (nI 0))]) (st' := [.int (nI 1)]) d_195_39 (fun _ => rfl) ?_
                                    refine rr_nx (pc' := 42) (al' := [some (.ref 146), some (.int (nI p)), some (.int (nI (p + 2))), some (.int (nI 3)), some (.int (nI 4)), some (.int (nI 1)), some (.int (nI 0)), some (.int (nI 0))]) (st' := [.int (nI (p + 2)), .int (nI 1)]) d_195_41 (fun _ => rfl) ?_
                                    refine rr_nx (pc' := 43) (al' := [some (.ref 146), some (.int (nI p)), some (.int (nI (p + 2))), some (.int (nI 3)), some (.int (nI 4)), some (.int (nI 1)), some (.int (nI 0)), some (.int (nI 0))]) (st' := [.int (nI p), .int (nI (p + 2)), .int (nI 1)]) d_195_42 (fun _ => rfl) ?_
                                    refine rn_sub d_195_43 (by omega) ?_
                                    refine rn_cne (t := 51) d_195_44 (by decide) (by first | omega | assumption | exact cu_36 (by omega) (cu_lt (by omega) (by omega))) (by first | omega | assumption | exact cu_36 (by omega) (cu_lt (by omega) (by omega))) (fun c44 => ?_) (fun c44 => ?_)
                                    · refine rn_ic (v := 0) d_195_51 (by decide) ?_
                                      refine rr_nx (pc' := 54) (al' := [some (.ref 146), some (.int (nI p)), some (.int (nI (p + 2))), some (.int (nI 3)), some (.int (nI 4)), some (.int (nI 1)), some (.int (nI 0)), some (.int (nI 0))]) (st' := []) d_195_52 (fun _ => rfl) ?_
                                      refine rn_ic (v := 0) d_195_54 (by decide) ?_
                                      refine rr_nx (pc' := 57) (al' := [some (.ref 146), some (.int (nI p)), some (.int (nI (p + 2))), some (.int (nI 3)), some (.int (nI 4)), some (.int (nI 1)), some (.int (nI 0)), some (.int (nI 0))]) (st' := []) d_195_55 (fun _ => rfl) ?_
                                      refine rr_nx (pc' := 59) (al' := [some (.ref 146), some (.int (nI p)), some (.int (nI (p + 2))), some (.int (nI 3)), some (.int (nI 4)), some (.int (nI 1)), some (.int (nI 0)), some (.int (nI 0))]) (st' := [.int (nI 0)]) d_195_57 (fun _ => rfl) ?_
                                      refine rr_nx (pc' := 61) (al' := [some (.ref 146), some (.int (nI p)), some (.int (nI (p + 2))), some (.int (nI 3)), some (.int (nI 4)), some (.int (nI 1)), some (.int (nI 0)), some (.int (nI 0))]) (st' := [.int (nI 1), .int (nI 0)]) d_195_59 (fun _ => rfl) ?_
                                      refine rn_cge (t := 104) d_195_61 (by decide) (by first | omega | assumption | exact cu_36 (by omega) (cu_lt (by omega) (by omega))) (by first | omega | assumption | exact cu_36 (by omega) (cu_lt (by omega) (by omega))) (fun c61 => ?_) (fun c61 => ?_)
                                      · omega
                                      · refine rr_nx (pc' := 66) (al' := [some (.ref 146), some (.int (nI p)), some (.int (nI (p + 2))), some (.int (nI 3)), some (.int (nI 4)), some (.int (nI 1)), some (.int (nI 0)), some (.int (nI 0))]) (st' := [.int (nI 0)]) d_195_64 (fun _ => rfl) ?_
                                        refine rn_ieq (t := 104) d_195_66 (by decide) (by first | omega | assumption | exact cu_36 (by omega) (cu_lt (by omega) (by omega))) (fun c66 => ?_) (fun c66 => ?_)
                                        · refine rr_nx (pc' := 106) (al' := [some (.ref 146), some (.int (nI p)), some (.int (nI (p + 2))), some (.int (nI 3)), some (.int (nI 4)), some (.int (nI 1)), some (.int (nI 0)), some (.int (nI 0))]) (st' := [.int (nI 0)]) d_195_104 (fun _ => rfl) ?_
                                          refine rn_ieq (t := 111) d_195_106 (by decide) (by first | omega | assumption | exact cu_36 (by omega) (cu_lt (by omega) (by omega))) (fun c106 => ?_) (fun c106 => ?_)
                                          · refine rr_nx (pc' := 113) (al' := [some (.ref 146), some (.int (nI p)), some (.int (nI (p + 2))), some (.int (nI 3)), some (.int (nI 4)), some (.int (nI 1)), some (.int (nI 0)), some (.int (nI 0))]) (st' := [.int (nI 4)]) d_195_111 (fun _ => rfl) ?_
                                            refine rr_nx (pc' := 115) (al' := [some (.ref 146), some (.int (nI p)), some (.int (nI (p + 2))), some (.int (nI 3)), some (.int (nI 4)), some (.int (nI 1)), some (.int (nI 0)), some (.int (nI 0))]) (st' := [.int (nI 1), .int (nI 4)]) d_195_113 (fun _ => rfl) ?_
                                            refine rn_ic (v := 1) d_195_115 (by decide) ?_
                                            refine rn_add d_195_116  ?_
                                            refine rn_add d_195_117  ?_
                                            refine rr_nx (pc' := 120) (al' := [some (.ref 146), some (.int (nI p)), some (.int (nI (p + 2))), some (.int (nI 3)), some (.int (nI 6)), some (.int (nI 1)), some (.int (nI 0)), some (.int (nI 0))]) (st' := []) d_195_118 (fun _ => rfl) ?_
                                            refine rn_inc d_195_120 rfl rfl ?_
                                            show RR _ _ 123 [some (.ref 146), some (.int (nI p)), some (.int (nI (p + 2))), some (.int (nI 4)), some (.int (nI 6)), some (.int (nI 1)), some (.int (nI 0)), some (.int (nI 0))] [] g A _
                                            refine rr_nx (pc' := 5) (al' := [some (.ref 146), some (.int (nI p)), some (.int (nI (p + 2))), some (.int (nI 4)), some (.int (nI 6)), some (.int (nI 1)), some (.int (nI 0)), some (.int (nI 0))]) (st' := []) d_195_123 (fun _ => rfl) ?_
                                            refine rr_nx (pc' := 7) (al' := [some (.ref 146), some (.int (nI p)), some (.int (nI (p + 2))), some (.int (nI 4)), some (.int (nI 6)), some (.int (nI 1)), some (.int (nI 0)), some (.int (nI 0))]) (st' := [.int (nI 6)]) d_195_5 (fun _ => rfl) ?_
                                            refine rr_nx (pc' := 8) (al' := [some (.ref 146), some (.int (nI p)), some (.int (nI (p + 2))), some (.int (nI 4)), some (.int (nI 6)), some (.int (nI 1)), some (.int (nI 0)), some (.int (nI 0))]) (st' := [.ref 146, .int (nI 6)]) d_195_7 (fun _ => rfl) ?_
                                            refine rr_gf (v := .ref (147 + 6)) d_195_8 mo_195 fl_29 rfl ?_
                                            refine rr_le (j := 6) d_195_11 (by decide) (by decide) ?_
                                            show RR _ _ 12 [some (.ref 146), some (.int (nI p)), some (.int (nI (p + 2))), some (.int (nI 4)), some (.int (nI 6)), some (.int (nI 1)), some (.int (nI 0)), some (.int (nI 0))] [.int (nI 11), .int (nI 6)] g A _
                                            refine rn_cge (t := 126) d_195_12 (by decide) (by first | omega | assumption | exact cu_36 (by omega) (cu_lt (by omega) (by omega))) (by first | omega | assumption | exact cu_36 (by omega) (cu_lt (by omega) (by omega))) (fun c12 => ?_) (fun c12 => ?_)
                                            · omega
                                            · refine rn_ic (v := 0) d_195_15 (by decide) ?_
                                              refine rr_nx (pc' := 18) (al' := [some (.ref 146), some (.int (nI p)), some (.int (nI (p + 2))), some (.int (nI 4)), some (.int (nI 6)), some (.int (nI 0)), some (.int (nI 0)), some (.int (nI 0))]) (st' := []) d_195_16 (fun _ => rfl) ?_
                                              refine rr_nx (pc' := 19) (al' := [some (.ref 146), some (.int (nI p)), some (.int (nI (p + 2))), some (.int (nI 4)), some (.int (nI 6)), some (.int (nI 0)), some (.int (nI 0)), some (.int (nI 0))]) (st' := [.ref 146]) d_195_18 (fun _ => rfl) ?_
                                              refine rr_gf (v := .ref (147 + 6)) d_195_19 mo_195 fl_29 rfl ?_
                                              refine rr_nx (pc' := 24) (al' := [some (.ref 146), some (.int (nI p)), some (.int (nI (p + 2))), some (.int (nI 4)), some (.int (nI 6)), some (.int (nI 0)), some (.int (nI 0)), some (.int (nI 0))]) (st' := [.int (nI 6), .ref (147 + 6)]) d_195_22 (fun _ => rfl) ?_
                                              refine rr_nx (pc' := 26) (al' := [some (.ref 146), some (.int (nI p)), some (.int (nI (p + 2))), some (.int (nI 4)), some (.int (nI 6)), some (.int (nI 0)), some (.int (nI 0)), some (.int (nI 0))]) (st' := [.int (nI 0), .int (nI 6), .ref (147 + 6)]) d_195_24 (fun _ => rfl) ?_
                                              refine rn_add d_195_26  ?_
                                              refine rr_ba (j := 6) (v := (nI 101)) d_195_27 (by decide) (by decide) (by decide) (show 6 < 11 by first | omega | assumption | exact cu_36 (by omega) (cu_lt (by omega) (by omega))) (hW 6 (by decide)) ?_
                                              refine rn_bp (v := 32) d_195_28 (by decide) ?_
                                              refine rn_ceq (t := 39) d_195_30 (by decide) (by first | omega | assumption | exact cu_36 (by omega) (cu_lt (by omega) (by omega))) (by first | omega | assumption | exact cu_36 (by omega) (cu_lt (by omega) (by omega))) (fun c30 => ?_) (fun c30 => ?_)
                                              · omega
                                              · refine rn_inc d_195_33 rfl rfl ?_
                                                show RR _ _ 36 [some (.ref 146), some (.int (nI p)), some (.int (nI (p + 2))), some (.int (nI 4)), some (.int (nI 6)), some (.int (nI 1)), some (.int (nI 0)), some (.int (nI 0))] [] g A _
                                                refine rr_nx (pc' := 18) (al' := [some (.ref 146), some (.int (nI p)), some (.int (nI (p + 2))), some (.int (nI 4)), some (.int (nI 6)), some (.int (nI 1)), some (.int (nI 0)), some (.int (nI 0))]) (st' := []) d_195_36 (fun _ => rfl) ?_
                                                refine rr_nx (pc' := 19) (al' := [some (.ref 146), some (.int (nI p)), some (.int (nI (p + 2))), some (.int (nI 4)), some (.int (nI 6)), some (.int (nI 1)), some (.int (nI 0)), some (.int (nI 0))]) (st' := [.ref 146]) d_195_18 (fun _ => rfl) ?_
                                                refine rr_gf (v := .ref (147 + 6)) d_195_19 mo_195 fl_29 rfl ?_
                                                refine rr_nx (pc' := 24) (al' := [some (.ref 146), some (.int (nI p)), some (.int (nI (p + 2))), some (.int (nI 4)), some (.int (nI 6)), some (.int (nI 1)), some (.int (nI 0)), some (.int (nI 0))]) (st' := [.int (nI 6), .ref (147 + 6)]) d_195_22 (fun _ => rfl) ?_
                                                refine rr_nx (pc' := 26) (al' := [some (.ref 146), some (.int (nI p)), some (.int (nI (p + 2))), some (.int (nI 4)), some (.int (nI 6)), some (.int (nI 1)), some (.int (nI 0)), some (.int (nI 0))]) (st' := [.int (nI 1), .int (nI 6), .ref (147 + 6)]) d_195_24 (fun _ => rfl) ?_
                                                refine rn_add d_195_26  ?_
                                                refine rr_ba (j := 6) (v := (nI 32)) d_195_27 (by decide) (by decide) (by decide) (show 7 < 11 by first | omega | assumption | exact cu_36 (by omega) (cu_lt (by omega) (by omega))) (hW 7 (by decide)) ?_
                                                refine rn_bp (v := 32) d_195_28 (by decide) ?_
                                                refine rn_ceq (t := 39) d_195_30 (by decide) (by first | omega | assumption | exact cu_36 (by omega) (cu_lt (by omega) (by omega))) (by first | omega | assumption | exact cu_36 (by omega) (cu_lt (by omega) (by omega))) (fun c30 => ?_) (fun c30 => ?_)
                                                · refine rr_nx (pc' := 41) (al' := [some (.ref 146), some (.int (nI p)), some (.int (nI (p + 2))), some (.int (nI 4)), some (.int (nI 6)), some (.int (nI 1)), some (.int (nI 0)), some (.int (nI 0))]) (st' := [.int (nI 1)]) d_195_39 (fun _ => rfl) ?_
                                                  refine rr_nx (pc' := 42) (al' := [some (.ref 146), some (.int (nI p)), some (.int (nI (p + 2))), some (.int (nI 4)), some (.int (nI 6)), some (.int (nI 1)), some (.int (nI 0)), some (.int (nI 0))]) (st' := [.int (nI (p + 2)), .int (nI 1)]) d_195_41 (fun _ => rfl) ?_
                                                  refine rr_nx (pc' := 43) (al' := [some (.ref 146), some (.int (nI p)), some (.int (nI (p + 2))), some (.int (nI 4)), some (.int (nI 6)), some (.int (nI 1)), some (.int (nI 0)), some (.int (nI 0))]) (st' := [.int (nI p), .int (nI (p + 2)), .int (nI 1)]) d_195_42 (fun _ => rfl) ?_
                                                  refine rn_sub d_195_43 (by omega) ?_
                                                  refine rn_cne (t := 51) d_195_44 (by decide) (by first | omega | assumption | exact cu_36 (by omega) (cu_lt (by omega) (by omega))) (by first | omega | assumption | exact cu_36 (by omega) (cu_lt (by omega) (by omega))) (fun c44 => ?_) (fun c44 => ?_)
                                                  · refine rn_ic (v := 0) d_195_51 (by decide) ?_
                                                    refine rr_nx (pc' := 54) (al' := [some (.ref 146), some (.int (nI p)), some (.int (nI (p + 2))), some (.int (nI 4)), some (.int (nI 6)), some (.int (nI 1)), some (.int (nI 0)), some (.int (nI 0))]) (st' := []) d_195_52 (fun _ => rfl) ?_
                                                    refine rn_ic (v := 0) d_195_54 (by decide) ?_
                                                    refine rr_nx (pc' := 57) (al' := [some (.ref 146), some (.int (nI p)), some (.int (nI (p + 2))), some (.int (nI 4)), some (.int (nI 6)), some (.int (nI 1)), some (.int (nI 0)), some (.int (nI 0))]) (st' := []) d_195_55 (fun _ => rfl) ?_
                                                    refine rr_nx (pc' := 59) (al' := [some (.ref 146), some (.int (nI p)), some (.int (nI (p + 2))), some (.int (nI 4)), some (.int (nI 6)), some (.int (nI 1)), some (.int (nI 0)), some (.int (nI 0))]) (st' := [.int (nI 0)]) d_195_57 (fun _ => rfl) ?_
                                                    refine rr_nx (pc' := 61) (al' := [some (.ref 146), some (.int (nI p)), some (.int (nI (p + 2))), some (.int (nI 4)), some (.int (nI 6)), some (.int (nI 1)), some (.int (nI 0)), some (.int (nI 0))]) (st' := [.int (nI 1), .int (nI 0)]) d_195_59 (fun _ => rfl) ?_
                                                    refine rn_cge (t := 104) d_195_61 (by decide) (by first | omega | assumption | exact cu_36 (by omega) (cu_lt (by omega) (by omega))) (by first | omega | assumption | exact cu_36 (by omega) (cu_lt (by omega) (by omega))) (fun c61 => ?_) (fun c61 => ?_)
                                                    · omega
                                                    · refine rr_nx (pc' := 66) (al' := [some (.ref 146), some (.int (nI p)), some (.int (nI (p + 2))), some (.int (nI 4)), some (.int (nI 6)), some (.int (nI 1)), some (.int (nI 0)), some (.int (nI 0))]) (st' := [.int (nI 0)]) d_195_64 (fun _ => rfl) ?_
                                                      refine rn_ieq (t := 104) d_195_66 (by decide) (by first | omega | assumption | exact cu_36 (by omega) (cu_lt (by omega) (by omega))) (fun c66 => ?_) (fun c66 => ?_)
                                                      · refine rr_nx (pc' := 106) (al' := [some (.ref 146), some (.int (nI p)), some (.int (nI (p + 2))), some (.int (nI 4)), some (.int (nI 6)), some (.int (nI 1)), some (.int (nI 0)), some (.int (nI 0))]) (st' := [.int (nI 0)]) d_195_104 (fun _ => rfl) ?_
                                                        refine rn_ieq (t := 111) d_195_106 (by decide) (by first | omega | assumption | exact cu_36 (by omega) (cu_lt (by omega) (by omega))) (fun c106 => ?_) (fun c106 => ?_)
                                                        · refine rr_nx (pc' := 113) (al' := [some (.ref 146), some (.int (nI p)), some (.int (nI (p + 2))), some (.int (nI 4)), some (.int (nI 6)), some (.int (nI 1)), some (.int (nI 0)), some (.int (nI 0))]) (st' := [.int (nI 6)]) d_195_111 (fun _ => rfl) ?_
                                                          refine rr_nx (pc' := 115) (al' := [some (.ref 146), some (.int (nI p)), some (.int (nI (p + 2))), some (.int (nI 4)), some (.int (nI 6)), some (.int (nI 1)), some (.int (nI 0)), some (.int (nI 0))]) (st' := [.int (nI 1), .int (nI 6)]) d_195_113 (fun _ => rfl) ?_
                                                          refine rn_ic (v := 1) d_195_115 (by decide) ?_
                                                          refine rn_add d_195_116  ?_
                                                          refine rn_add d_195_117  ?_
                                                          refine rr_nx (pc' := 120) (al' := [some (.ref 146), some (.int (nI p)), some (.int (nI (p + 2))), some (.int (nI 4)), some (.int (nI 8)), some (.int (nI 1)), some (.int (nI 0)), some (.int (nI 0))]) (st' := []) d_195_118 (fun _ => rfl) ?_
                                                          refine rn_inc d_195_120 rfl rfl ?_
                                                          show RR _ _ 123 [some (.ref 146), some (.int (nI p)), some (.int (nI (p + 2))), some (.int (nI 5)), some (.int (nI 8)), some (.int (nI 1)), some (.int (nI 0)), some (.int (nI 0))] [] g A _
                                                          refine rr_nx (pc' := 5) (al' := [some (.ref 146), some (.int (nI p)), some (.int (nI (p + 2))), some (.int (nI 5)), some (.int (nI 8)), some (.int (nI 1)), some (.int (nI 0)), some (.int (nI 0))]) (st' := []) d_195_123 (fun _ => rfl) ?_
                                                          refine rr_nx (pc' := 7) (al' := [some (.ref 146), some (.int (nI p)), some (.int (nI (p + 2))), some (.int (nI 5)), some (.int (nI 8)), some (.int (nI 1)), some (.int (nI 0)), some (.int (nI 0))]) (st' := [.int (nI 8)]) d_195_5 (fun _ => rfl) ?_
                                                          refine rr_nx (pc' := 8) (al' := [some (.ref 146), some (.int (nI p)), some (.int (nI (p + 2))), some (.int (nI 5)), some (.int (nI 8)), some (.int (nI 1)), some (.int (nI 0)), some (.int (nI 0))]) (st' := [.ref 146, .int (nI 8)]) d_195_7 (fun _ => rfl) ?_
                                                          refine rr_gf (v := .ref (147 + 6)) d_195_8 mo_195 fl_29 rfl ?_
                                                          refine rr_le (j := 6) d_195_11 (by decide) (by decide) ?_
                                                          show RR _ _ 12 [some (.ref 146), some (.int (nI p)), some (.int (nI (p + 2))), some (.int (nI 5)), some (.int (nI 8)), some (.int (nI 1)), some (.int (nI 0)), some (.int (nI 0))] [.int (nI 11), .int (nI 8)] g A _
                                                          refine rn_cge (t := 126) d_195_12 (by decide) (by first | omega | assumption | exact cu_36 (by omega) (cu_lt (by omega) (by omega))) (by first | omega | assumption | exact cu_36 (by omega) (cu_lt (by omega) (by omega))) (fun c12 => ?_) (fun c12 => ?_)
                                                          · omega
                                                          · refine rn_ic (v := 0) d_195_15 (by decide) ?_
                                                            refine rr_nx (pc' := 18) (al' := [some (.ref 146), some (.int (nI p)), some (.int (nI (p + 2))), some (.int (nI 5)), some (.int (nI 8)), some (.int (nI 0)), some (.int (nI 0)), some (.int (nI 0))]) (st' := []) d_195_16 (fun _ => rfl) ?_
                                                            refine rr_nx (pc' := 19) (al' := [some (.ref 146), some (.int (nI p)), some (.int (nI (p + 2))), some (.int (nI 5)), some (.int (nI 8)), some (.int (nI 0)), some (.int (nI 0)), some (.int (nI 0))]) (st' := [.ref 146]) d_195_18 (fun _ => rfl) ?_
                                                            refine rr_gf (v := .ref (147 + 6)) d_195_19 mo_195 fl_29 rfl ?_
                                                            refine rr_nx (pc' := 24) (al' := [some (.ref 146), some (.int (nI p)), some (.int (nI (p + 2))), some (.int (nI 5)), some (.int (nI 8)), some (.int (nI 0)), some (.int (nI 0)), some (.int (nI 0))]) (st' := [.int (nI 8), .ref (147 + 6)]) d_195_22 (fun _ => rfl) ?_
                                                            refine rr_nx (pc' := 26) (al' := [some (.ref 146), some (.int (nI p)), some (.int (nI (p + 2))), some (.int (nI 5)), some (.int (nI 8)), some (.int (nI 0)), some (.int (nI 0)), some (.int (nI 0))]) (st' := [.int (nI 0), .int (nI 8), .ref (147 + 6)]) d_195_24 (fun _ => rfl) ?_
                                                            refine rn_add d_195_26  ?_
                                                            refine rr_ba (j := 6) (v := (nI 105)) d_195_27 (by decide) (by decide) (by decide) (show 8 < 11 by first | omega | assumption | exact cu_36 (by omega) (cu_lt (by omega) (by omega))) (hW 8 (by decide)) ?_
                                                            refine rn_bp (v := 32) d_195_28 (by decide) ?_
                                                            refine rn_ceq (t := 39) d_195_30 (by decide) (by first | omega | assumption | exact cu_36 (by omega) (cu_lt (by omega) (by omega))) (by first | omega | assumption | exact cu_36 (by omega) (cu_lt (by omega) (by omega))) (fun c30 => ?_) (fun c30 => ?_)
                                                            · omega
                                                            · refine rn_inc d_195_33 rfl rfl ?_
                                                              show RR _ _ 36 [some (.ref 146), some (.int (nI p)), some (.int (nI (p + 2))), some (.int (nI 5)), some (.int (nI 8)), some (.int (nI 1)), some (.int (nI 0)), some (.int (nI 0))] [] g A _
                                                              refine rr_nx (pc' := 18) (al' := [some (.ref 146), some (.int (nI p)), some (.int (nI (p + 2))), some (.int (nI 5)), some (.int (nI 8)), some (.int (nI 1)), some (.int (nI 0)), some (.int (nI 0))]) (st' := []) d_195_36 (fun _ => rfl) ?_
                                                              refine rr_nx (pc' := 19) (al' := [some (.ref 146), some (.int (nI p)), some (.int (nI (p + 2))), some (.int (nI 5)), some (.int (nI 8)), some (.int (nI 1)), some (.int (nI 0)), some (.int (nI 0))]) (st' := [.ref 146]) d_195_18 (fun _ => rfl) ?_
                                                              refine rr_gf (v := .ref (147 + 6)) d_195_19 mo_195 fl_29 rfl ?_
                                                              refine rr_nx (pc' := 24) (al' := [some (.ref 146), some (.int (nI p)), some (.int (nI (p + 2))), some (.int (nI 5)), some (.int (nI 8)), some (.int (nI 1)), some (.int (nI 0)), some (.int (nI 0))]) (st' := [.int (nI 8), .ref (147 + 6)]) d_195_22 (fun _ => rfl) ?_
                                                              refine rr_nx (pc' := 26) (al' := [some (.ref 146), some (.int (nI p)), some (.int (nI (p + 2))), some (.int (nI 5)), some (.int (nI 8)), some (.int (nI 1)), some (.int (nI 0)), some (.int (nI 0))]) (st' := [.int (nI 1), .int (nI 8), .ref (147 + 6)]) d_195_24 (fun _ => rfl) ?_
                                                              refine rn_add d_195_26  ?_
                                                              refine rr_ba (j := 6) (v := (nI 102)) d_195_27 (by decide) (by decide) (by decide) (show 9 < 11 by first | omega | assumption | exact cu_36 (by omega) (cu_lt (by omega) (by omega))) (hW 9 (by decide)) ?_
                                                              refine rn_bp (v := 32) d_195_28 (by decide) ?_
                                                              refine rn_ceq (t := 39) d_195_30 (by decide) (by first | omega | assumption | exact cu_36 (by omega) (cu_lt (by omega) (by omega))) (by first | omega | assumption | exact cu_36 (by omega) (cu_lt (by omega) (by omega))) (fun c30 => ?_) (fun c30 => ?_)
                                                              · omega
                                                              · refine rn_inc d_195_33 rfl rfl ?_
                                                                show RR _ _ 36 [some (.ref 146), some (.int (nI p)), some (.int (nI (p + 2))), some (.int (nI 5)), some (.int (nI 8)), some (.int (nI 2)), some (.int (nI 0)), some (.int (nI 0))] [] g A _
                                                                refine rr_nx (pc' := 18) (al' := [some (.ref 146), some (.int (nI p)), some (.int (nI (p + 2))), some (.int (nI 5)), some (.int (nI 8)), some (.int (nI 2)), some (.int (nI 0)), some (.int (nI 0))]) (st' := []) d_195_36 (fun _ => rfl) ?_
                                                                refine rr_nx (pc' := 19) (al' := [some (.ref 146), some (.int (nI p)), some (.int (nI (p + 2))), some (.int (nI 5)), some (.int (nI 8)), some (.int (nI 2)), some (.int (nI 0)), some (.int (nI 0))]) (st' := [.ref 146]) d_195_18 (fun _ => rfl) ?_
                                                                refine rr_gf (v := .ref (147 + 6)) d_195_19 mo_195 fl_29 rfl ?_
                                                                refine rr_nx (pc' := 24) (al' := [some (.ref 146), some (.int (nI p)), some (.int (nI (p + 2))), some (.int (nI 5)), some (.int (nI 8)), some (.int (nI 2)), some (.int (nI 0)), some (.int (nI 0))]) (st' := [.int (nI 8), .ref (147 + 6)]) d_195_22 (fun _ => rfl) ?_
                                                                refine rr_nx (pc' := 26) (al' := [some (.ref 146), some (.int (nI p)), some (.int (nI (p + 2))), some (.int (nI 5)), some (.int (nI 8)), some (.int (nI 2)), some (.int (nI 0)), some (.int (nI 0))]) (st' := [.int (nI 2), .int (nI 8), .ref (147 + 6)]) d_195_24 (fun _ => rfl) ?_
                                                                refine rn_add d_195_26  ?_
                                                                refine rr_ba (j := 6) (v := (nI 32)) d_195_27 (by decide) (by decide) (by decide) (show 10 < 11 by first | omega | assumption | exact cu_36 (by omega) (cu_lt (by omega) (by omega))) (hW 10 (by decide)) ?_
                                                                refine rn_bp (v := 32) d_195_28 (by decide) ?_
                                                                refine rn_ceq (t := 39) d_195_30 (by decide) (by first | omega | assumption | exact cu_36 (by omega) (cu_lt (by omega) (by omega))) (by first | omega | assumption | exact cu_36 (by omega) (cu_lt (by omega) (by omega))) (fun c30 => ?_) (fun c30 => ?_)
                                                                · refine rr_nx (pc' := 41) (al' := [some (.ref 146), some (.int (nI p)), some (.int (nI (p + 2))), some (.int (nI 5)), some (.int (nI 8)), some (.int (nI 2)), some (.int (nI 0)), some (.int (nI 0))]) (st' := [.int (nI 2)]) d_195_39 (fun _ => rfl) ?_
                                                                  refine rr_nx (pc' := 42) (al' := [some (.ref 146), some (.int (nI p)), some (.int (nI (p + 2))), some (.int (nI 5)), some (.int (nI 8)), some (.int (nI 2)), some (.int (nI 0)), some (.int (nI 0))]) (st' := [.int (nI (p + 2)), .int (nI 2)]) d_195_41 (fun _ => rfl) ?_
                                                                  refine rr_nx (pc' := 43) (al' := [some (.ref 146), some (.int (nI p)), some (.int (nI (p + 2))), some (.int (nI 5)), some (.int (nI 8)), some (.int (nI 2)), some (.int (nI 0)), some (.int (nI 0))]) (st' := [.int (nI p), .int (nI (p + 2)), .int (nI 2)]) d_195_42 (fun _ => rfl) ?_
                                                                  refine rn_sub d_195_43 (by omega) ?_
                                                                  refine rn_cne (t := 51) d_195_44 (by decide) (by first | omega | assumption | exact cu_36 (by omega) (cu_lt (by omega) (by omega))) (by first | omega | assumption | exact cu_36 (by omega) (cu_lt (by omega) (by omega))) (fun c44 => ?_) (fun c44 => ?_)
                                                                  · omega
                                                                  · refine rn_ic (v := 1) d_195_47 (by decide) ?_
                                                                    refine rr_nx (pc' := 52) (al' := [some (.ref 146), some (.int (nI p)), some (.int (nI (p + 2))), some (.int (nI 5)), some (.int (nI 8)), some (.int (nI 2)), some (.int (nI 0)), some (.int (nI 0))]) (st' := [.int (nI 1)]) d_195_48 (fun _ => rfl) ?_
                                                                    refine rr_nx (pc' := 54) (al' := [some (.ref 146), some (.int (nI p)), some (.int (nI (p + 2))), some (.int (nI 5)), some (.int (nI 8)), some (.int (nI 2)), some (.int (nI 1)), some (.int (nI 0))]) (st' := []) d_195_52 (fun _ => rfl) ?_
                                                                    refine rn_ic (v := 0) d_195_54 (by decide) ?_
                                                                    refine rr_nx (pc' := 57) (al' := [some (.ref 146), some (.int (nI p)), some (.int (nI (p + 2))), some (.int (nI 5)), some (.int (nI 8)), some (.int (nI 2)), some (.int (nI 1)), some (.int (nI 0))]) (st' := []) d_195_55 (fun _ => rfl) ?_
                                                                    refine rr_nx (pc' := 59) (al' := [some (.ref 146), some (.int (nI p)), some (.int (nI (p + 2))), some (.int (nI 5)), some (.int (nI 8)), some (.int (nI 2)), some (.int (nI 1)), some (.int (nI 0))]) (st' := [.int (nI 0)]) d_195_57 (fun _ => rfl) ?_
                                                                    refine rr_nx (pc' := 61) (al' := [some (.ref 146), some (.int (nI p)), some (.int (nI (p + 2))), some (.int (nI 5)), some (.int (nI 8)), some (.int (nI 2)), some (.int (nI 1)), some (.int (nI 0))]) (st' := [.int (nI 2), .int (nI 0)]) d_195_59 (fun _ => rfl) ?_
                                                                    refine rn_cge (t := 104) d_195_61 (by decide) (by first | omega | assumption | exact cu_36 (by omega) (cu_lt (by omega) (by omega))) (by first | omega | assumption | exact cu_36 (by omega) (cu_lt (by omega) (by omega))) (fun c61 => ?_) (fun c61 => ?_)
                                                                    · omega
                                                                    · refine rr_nx (pc' := 66) (al' := [some (.ref 146), some (.int (nI p)), some (.int (nI (p + 2))), some (.int (nI 5)), some (.int (nI 8)), some (.int (nI 2)), some (.int (nI 1)), some (.int (nI 0))]) (st' := [.int (nI 1)]) d_195_64 (fun _ => rfl) ?_
                                                                      refine rn_ieq (t := 104) d_195_66 (by decide) (by first | omega | assumption | exact cu_36 (by omega) (cu_lt (by omega) (by omega))) (fun c66 => ?_) (fun c66 => ?_)
                                                                      · omega
                                                                      · refine rr_nx (pc' := 70) (al' := [some (.ref 146), some (.int (nI p)), some (.int (nI (p + 2))), some (.int (nI 5)), some (.int (nI 8)), some (.int (nI 2)), some (.int (nI 1)), some (.int (nI 0))]) (st' := [.ref 146]) d_195_69 (fun _ => rfl) ?_
                                                                        refine rr_gf (v := .ref (147 + 6)) d_195_70 mo_195 fl_29 rfl ?_
                                                                        refine rr_nx (pc' := 75) (al' := [some (.ref 146), some (.int (nI p)), some (.int (nI (p + 2))), some (.int (nI 5)), some (.int (nI 8)), some (.int (nI 2)), some (.int (nI 1)), some (.int (nI 0))]) (st' := [.int (nI 8), .ref (147 + 6)]) d_195_73 (fun _ => rfl) ?_
                                                                        refine rr_nx (pc' := 77) (al' := [some (.ref 146), some (.int (nI p)), some (.int (nI (p + 2))), some (.int (nI 5)), some (.int (nI 8)), some (.int (nI 2)), some (.int (nI 1)), some (.int (nI 0))]) (st' := [.int (nI 0), .int (nI 8), .ref (147 + 6)]) d_195_75 (fun _ => rfl) ?_
                                                                        refine rn_add d_195_77  ?_
                                                                        refine rr_ba (j := 6) (v := (nI 105)) d_195_78 (by decide) (by decide) (by decide) (show 8 < 11 by first | omega | assumption | exact cu_36 (by omega) (cu_lt (by omega) (by omega))) (hW 8 (by decide)) ?_
                                                                        refine rr_nx (pc' := 80) (al' := [some (.ref 146), some (.int (nI p)), some (.int (nI (p + 2))), some (.int (nI 5)), some (.int (nI 8)), some (.int (nI 2)), some (.int (nI 1)), some (.int (nI 0))]) (st' := [.ref 146, .int (nI 105)]) d_195_79 (fun _ => rfl) ?_
                                                                        refine rr_gf (v := .ref (147 + 7)) d_195_80 mo_195 fl_33 rfl ?_
                                                                        refine rr_nx (pc' := 84) (al' := [some (.ref 146), some (.int (nI p)), some (.int (nI (p + 2))), some (.int (nI 5)), some (.int (nI 8)), some (.int (nI 2)), some (.int (nI 1)), some (.int (nI 0))]) (st' := [.int (nI p), .ref (147 + 7), .int (nI 105)]) d_195_83 (fun _ => rfl) ?_
                                                                        refine rr_nx (pc' := 86) (al' := [some (.ref 146), some (.int (nI p)), some (.int (nI (p + 2))), some (.int (nI 5)), some (.int (nI 8)), some (.int (nI 2)), some (.int (nI 1)), some (.int (nI 0))]) (st' := [.int (nI 0), .int (nI p), .ref (147 + 7), .int (nI 105)]) d_195_84 (fun _ => rfl) ?_
                                                                        refine rn_add d_195_86  ?_
                                                                        refine rr_ba (j := 7) (v := (bI8 (t p))) d_195_87 (by decide) (by decide) (by decide) (show p + 0 < 400 by omega) (hB p (by omega)) ?_
                                                                        refine rr_cne (t := 95) d_195_88 (by decide) (fun c88 => ?_) (fun c88 => ?_)
                                                                        · have n105 : ¬ t (p) = 105 := fun q => c88 ((b8_105 _ (hb (p) (by omega))).mpr q)
                                                                          refine rn_ic (v := 0) d_195_95 (by decide) ?_
                                                                          refine rr_nx (pc' := 98) (al' := [some (.ref 146), some (.int (nI p)), some (.int (nI (p + 2))), some (.int (nI 5)), some (.int (nI 8)), some (.int (nI 2)), some (.int (nI 0)), some (.int (nI 0))]) (st' := []) d_195_96 (fun _ => rfl) ?_
                                                                          refine rn_inc d_195_98 rfl rfl ?_
                                                                          show RR _ _ 101 [some (.ref 146), some (.int (nI p)), some (.int (nI (p + 2))), some (.int (nI 5)), some (.int (nI 8)), some (.int (nI 2)), some (.int (nI 0)), some (.int (nI 1))] [] g A _
                                                                          refine rr_nx (pc' := 57) (al' := [some (.ref 146), some (.int (nI p)), some (.int (nI (p + 2))), some (.int (nI 5)), some (.int (nI 8)), some (.int (nI 2)), some (.int (nI 0)), some (.int (nI 1))]) (st' := []) d_195_101 (fun _ => rfl) ?_
                                                                          refine rr_nx (pc' := 59) (al' := [some (.ref 146), some (.int (nI p)), some (.int (nI (p + 2))), some (.int (nI 5)), some (.int (nI 8)), some (.int (nI 2)), some (.int (nI 0)), some (.int (nI 1))]) (st' := [.int (nI 1)]) d_195_57 (fun _ => rfl) ?_
                                                                          refine rr_nx (pc' := 61) (al' := [some (.ref 146), some (.int (nI p)), some (.int (nI (p + 2))), some (.int (nI 5)), some (.int (nI 8)), some (.int (nI 2)), some (.int (nI 0)), some (.int (nI 1))]) (st' := [.int (nI 2), .int (nI 1)]) d_195_59 (fun _ => rfl) ?_
                                                                          refine rn_cge (t := 104) d_195_61 (by decide) (by first | omega | assumption | exact cu_36 (by omega) (cu_lt (by omega) (by omega))) (by first | omega | assumption | exact cu_36 (by omega) (cu_lt (by omega) (by omega))) (fun c61 => ?_) (fun c61 => ?_)
                                                                          · omega
                                                                          · refine rr_nx (pc' := 66) (al' := [some (.ref 146), some (.int (nI p)), some (.int (nI (p + 2))), some (.int (nI 5)), some (.int (nI 8)), some (.int (nI 2)), some (.int (nI 0)), some (.int (nI 1))]) (st' := [.int (nI 0)]) d_195_64 (fun _ => rfl) ?_
                                                                            refine rn_ieq (t := 104) d_195_66 (by decide) (by first | omega | assumption | exact cu_36 (by omega) (cu_lt (by omega) (by omega))) (fun c66 => ?_) (fun c66 => ?_)
                                                                            · refine rr_nx (pc' := 106) (al' := [some (.ref 146), some (.int (nI p)), some (.int (nI (p + 2))), some (.int (nI 5)), some (.int (nI 8)), some (.int (nI 2)), some (.int (nI 0)), some (.int (nI 1))]) (st' := [.int (nI 0)]) d_195_104 (fun _ => rfl) ?_
                                                                              refine rn_ieq (t := 111) d_195_106 (by decide) (by first | omega | assumption | exact cu_36 (by omega) (cu_lt (by omega) (by omega))) (fun c106 => ?_) (fun c106 => ?_)
                                                                              · refine rr_nx (pc' := 113) (al' := [some (.ref 146), some (.int (nI p)), some (.int (nI (p + 2))), some (.int (nI 5)), some (.int (nI 8)), some (.int (nI 2)), some (.int (nI 0)), some (.int (nI 1))]) (st' := [.int (nI 8)]) d_195_111 (fun _ => rfl) ?_
                                                                                refine rr_nx (pc' := 115) (al' := [some (.ref 146), some (.int (nI p)), some (.int (nI (p + 2))), some (.int (nI 5)), some (.int (nI 8)), some (.int (nI 2)), some (.int (nI 0)), some (.int (nI 1))]) (st' := [.int (nI 2), .int (nI 8)]) d_195_113 (fun _ => rfl) ?_
                                                                                refine rn_ic (v := 1) d_195_115 (by decide) ?_
                                                                                refine rn_add d_195_116  ?_
                                                                                refine rn_add d_195_117  ?_
                                                                                refine rr_nx (pc' := 120) (al' := [some (.ref 146), some (.int (nI p)), some (.int (nI (p + 2))), some (.int (nI 5)), some (.int (nI 11)), some (.int (nI 2)), some (.int (nI 0)), some (.int (nI 1))]) (st' := []) d_195_118 (fun _ => rfl) ?_
                                                                                refine rn_inc d_195_120 rfl rfl ?_
                                                                                show RR _ _ 123 [some (.ref 146), some (.int (nI p)), some (.int (nI (p + 2))), some (.int (nI 6)), some (.int (nI 11)), some (.int (nI 2)), some (.int (nI 0)), some (.int (nI 1))] [] g A _
                                                                                refine rr_nx (pc' := 5) (al' := [some (.ref 146), some (.int (nI p)), some (.int (nI (p + 2))), some (.int (nI 6)), some (.int (nI 11)), some (.int (nI 2)), some (.int (nI 0)), some (.int (nI 1))]) (st' := []) d_195_123 (fun _ => rfl) ?_
                                                                                refine rr_nx (pc' := 7) (al' := [some (.ref 146), some (.int (nI p)), some (.int (nI (p + 2))), some (.int (nI 6)), some (.int (nI 11)), some (.int (nI 2)), some (.int (nI 0)), some (.int (nI 1))]) (st' := [.int (nI 11)]) d_195_5 (fun _ => rfl) ?_
                                                                                refine rr_nx (pc' := 8) (al' := [some (.ref 146), some (.int (nI p)), some (.int (nI (p + 2))), some (.int (nI 6)), some (.int (nI 11)), some (.int (nI 2)), some (.int (nI 0)), some (.int (nI 1))]) (st' := [.ref 146, .int (nI 11)]) d_195_7 (fun _ => rfl) ?_
                                                                                refine rr_gf (v := .ref (147 + 6)) d_195_8 mo_195 fl_29 rfl ?_
                                                                                refine rr_le (j := 6) d_195_11 (by decide) (by decide) ?_
                                                                                show RR _ _ 12 [some (.ref 146), some (.int (nI p)), some (.int (nI (p + 2))), some (.int (nI 6)), some (.int (nI 11)), some (.int (nI 2)), some (.int (nI 0)), some (.int (nI 1))] [.int (nI 11), .int (nI 11)] g A _
                                                                                refine rn_cge (t := 126) d_195_12 (by decide) (by first | omega | assumption | exact cu_36 (by omega) (cu_lt (by omega) (by omega))) (by first | omega | assumption | exact cu_36 (by omega) (cu_lt (by omega) (by omega))) (fun c12 => ?_) (fun c12 => ?_)
                                                                                · refine rn_ic (v := 0) d_195_126 (by decide) ?_
                                                                                  exact rr_ri d_195_127 mr_195 rfl ⟨by rw [wdN, if_neg (by omega), if_neg (fun q => n105 q.2.1)], rfl, rfl⟩
                                                                                · omega
                                                                              · omega
                                                                            · omega
                                                                        · have y105 : t (p) = 105 := (b8_105 _ (hb (p) (by omega))).mp c88
                                                                          refine rn_ic (v := 1) d_195_91 (by decide) ?_
                                                                          refine rr_nx (pc' := 96) (al' := [some (.ref 146), some (.int (nI p)), some (.int (nI (p + 2))), some (.int (nI 5)), some (.int (nI 8)), some (.int (nI 2)), some (.int (nI 1)), some (.int (nI 0))]) (st' := [.int (nI 1)]) d_195_92 (fun _ => rfl) ?_
                                                                          refine rr_nx (pc' := 98) (al' := [some (.ref 146), some (.int (nI p)), some (.int (nI (p + 2))), some (.int (nI 5)), some (.int (nI 8)), some (.int (nI 2)), some (.int (nI 1)), some (.int (nI 0))]) (st' := []) d_195_96 (fun _ => rfl) ?_
                                                                          refine rn_inc d_195_98 rfl rfl ?_
                                                                          show RR _ _ 101 [some (.ref 146), some (.int (nI p)), some (.int (nI (p + 2))), some (.int (nI 5)), some (.int (nI 8)), some (.int (nI 2)), some (.int (nI 1)), some (.int (nI 1))] [] g A _
                                                                          refine rr_nx (pc' := 57) (al' := [some (.ref 146), some (.int (nI p)), some (.int (nI (p + 2))), some (.int (nI 5)), some (.int (nI 8)), some (.int (nI 2)), some (.int (nI 1)), some (.int (nI 1))]) (st' := []) d_195_101 (fun _ => rfl) ?_
                                                                          refine rr_nx (pc' := 59) (al' := [some (.ref 146), some (.int (nI p)), some (.int (nI (p + 2))), some (.int (nI 5)), some (.int (nI 8)), some (.int (nI 2)), some (.int (nI 1)), some (.int (nI 1))]) (st' := [.int (nI 1)]) d_195_57 (fun _ => rfl) ?_
                                                                          refine rr_nx (pc' := 61) (al' := [some (.ref 146), some (.int (nI p)), some (.int (nI (p + 2))), some (.int (nI 5)), some (.int (nI 8)), some (.int (nI 2)), some (.int (nI 1)), some (.int (nI 1))]) (st' := [.int (nI 2), .int (nI 1)]) d_195_59 (fun _ => rfl) ?_
                                                                          refine rn_cge (t := 104) d_195_61 (by decide) (by first | omega | assumption | exact cu_36 (by omega) (cu_lt (by omega) (by omega))) (by first | omega | assumption | exact cu_36 (by omega) (cu_lt (by omega) (by omega))) (fun c61 => ?_) (fun c61 => ?_)
                                                                          · omega
                                                                          · refine rr_nx (pc' := 66) (al' := [some (.ref 146), some (.int (nI p)), some (.int (nI (p + 2))), some (.int (nI 5)), some (.int (nI 8)), some (.int (nI 2)), some (.int (nI 1)), some (.int (nI 1))]) (st' := [.int (nI 1)]) d_195_64 (fun _ => rfl) ?_
                                                                            refine rn_ieq (t := 104) d_195_66 (by decide) (by first | omega | assumption | exact cu_36 (by omega) (cu_lt (by omega) (by omega))) (fun c66 => ?_) (fun c66 => ?_)
                                                                            · omega
                                                                            · refine rr_nx (pc' := 70) (al' := [some (.ref 146), some (.int (nI p)), some (.int (nI (p + 2))), some (.int (nI 5)), some (.int (nI 8)), some (.int (nI 2)), some (.int (nI 1)), some (.int (nI 1))]) (st' := [.ref 146]) d_195_69 (fun _ => rfl) ?_
                                                                              refine rr_gf (v := .ref (147 + 6)) d_195_70 mo_195 fl_29 rfl ?_
                                                                              refine rr_nx (pc' := 75) (al' := [some (.ref 146), some (.int (nI p)), some (.int (nI (p + 2))), some (.int (nI 5)), some (.int (nI 8)), some (.int (nI 2)), some (.int (nI 1)), some (.int (nI 1))]) (st' := [.int (nI 8), .ref (147 + 6)]) d_195_73 (fun _ => rfl) ?_
                                                                              refine rr_nx (pc' := 77) (al' := [some (.ref 146), some (.int (nI p)), some (.int (nI (p + 2))), some (.int (nI 5)), some (.int (nI 8)), some (.int (nI 2)), some (.int (nI 1)), some (.int (nI 1))]) (st' := [.int (nI 1), .int (nI 8), .ref (147 + 6)]) d_195_75 (fun _ => rfl) ?_
                                                                              refine rn_add d_195_77  ?_
                                                                              refine rr_ba (j := 6) (v := (nI 102)) d_195_78 (by decide) (by decide) (by decide) (show 9 < 11 by first | omega | assumption | exact cu_36 (by omega) (cu_lt (by omega) (by omega))) (hW 9 (by decide)) ?_
                                                                              refine rr_nx (pc' := 80) (al' := [some (.ref 146), some (.int (nI p)), some (.int (nI (p + 2))), some (.int (nI 5)), some (.int (nI 8)), some (.int (nI 2)), some (.int (nI 1)), some (.int (nI 1))]) (st' := [.ref 146, .int (nI 102)]) d_195_79 (fun _ => rfl) ?_
                                                                              refine rr_gf (v := .ref (147 + 7)) d_195_80 mo_195 fl_33 rfl ?_
                                                                              refine rr_nx (pc' := 84) (al' := [some (.ref 146), some (.int (nI p)), some (.int (nI (p + 2))), some (.int (nI 5)), some (.int (nI 8)), some (.int (nI 2)), some (.int (nI 1)), some (.int (nI 1))]) (st' := [.int (nI p), .ref (147 + 7), .int (nI 102)]) d_195_83 (fun _ => rfl) ?_
                                                                              refine rr_nx (pc' := 86) (al' := [some (.ref 146), some (.int (nI p)), some (.int (nI (p + 2))), some (.int (nI 5)), some (.int (nI 8)), some (.int (nI 2)), some (.int (nI 1)), some (.int (nI 1))]) (st' := [.int (nI 1), .int (nI p), .ref (147 + 7), .int (nI 102)]) d_195_84 (fun _ => rfl) ?_
                                                                              refine rn_add d_195_86  ?_
                                                                              refine rr_ba (j := 7) (v := (bI8 (t (p + 1)))) d_195_87 (by decide) (by decide) (by decide) (show p + 1 < 400 by omega) (hB (p + 1) (by omega)) ?_
                                                                              refine rr_cne (t := 95) d_195_88 (by decide) (fun c88 => ?_) (fun c88 => ?_)
                                                                              · have n102 : ¬ t (p + 1) = 102 := fun q => c88 ((b8_102 _ (hb (p + 1) (by omega))).mpr q)
                                                                                refine rn_ic (v := 0) d_195_95 (by decide) ?_
                                                                                refine rr_nx (pc' := 98) (al' := [some (.ref 146), some (.int (nI p)), some (.int (nI (p + 2))), some (.int (nI 5)), some (.int (nI 8)), some (.int (nI 2)), some (.int (nI 0)), some (.int (nI 1))]) (st' := []) d_195_96 (fun _ => rfl) ?_
                                                                                refine rn_inc d_195_98 rfl rfl ?_
                                                                                show RR _ _ 101 [some (.ref 146), some (.int (nI p)), some (.int (nI (p + 2))), some (.int (nI 5)), some (.int (nI 8)), some (.int (nI 2)), some (.int (nI 0)), some (.int (nI 2))] [] g A _
                                                                                refine rr_nx (pc' := 57) (al' := [some (.ref 146), some (.int (nI p)), some (.int (nI (p + 2))), some (.int (nI 5)), some (.int (nI 8)), some (.int (nI 2)), some (.int (nI 0)), some (.int (nI 2))]) (st' := []) d_195_101 (fun _ => rfl) ?_
                                                                                refine rr_nx (pc' := 59) (al' := [some (.ref 146), some (.int (nI p)), some (.int (nI (p + 2))), some (.int (nI 5)), some (.int (nI 8)), some (.int (nI 2)), some (.int (nI 0)), some (.int (nI 2))]) (st' := [.int (nI 2)]) d_195_57 (fun _ => rfl) ?_
                                                                                refine rr_nx (pc' := 61) (al' := [some (.ref 146), some (.int (nI p)), some (.int (nI (p + 2))), some (.int (nI 5)), some (.int (nI 8)), some (.int (nI 2)), some (.int (nI 0)), some (.int (nI 2))]) (st' := [.int (nI 2), .int (nI 2)]) d_195_59 (fun _ => rfl) ?_
                                                                                refine rn_cge (t := 104) d_195_61 (by decide) (by first | omega | assumption | exact cu_36 (by omega) (cu_lt (by omega) (by omega))) (by first | omega | assumption | exact cu_36 (by omega) (cu_lt (by omega) (by omega))) (fun c61 => ?_) (fun c61 => ?_)
                                                                                · refine rr_nx (pc' := 106) (al' := [some (.ref 146), some (.int (nI p)), some (.int (nI (p + 2))), some (.int (nI 5)), some (.int (nI 8)), some (.int (nI 2)), some (.int (nI 0)), some (.int (nI 2))]) (st' := [.int (nI 0)]) d_195_104 (fun _ => rfl) ?_
                                                                                  refine rn_ieq (t := 111) d_195_106 (by decide) (by first | omega | assumption | exact cu_36 (by omega) (cu_lt (by omega) (by omega))) (fun c106 => ?_) (fun c106 => ?_)
                                                                                  · refine rr_nx (pc' := 113) (al' := [some (.ref 146), some (.int (nI p)), some (.int (nI (p + 2))), some (.int (nI 5)), some (.int (nI 8)), some (.int (nI 2)), some (.int (nI 0)), some (.int (nI 2))]) (st' := [.int (nI 8)]) d_195_111 (fun _ => rfl) ?_
                                                                                    refine rr_nx (pc' := 115) (al' := [some (.ref 146), some (.int (nI p)), some (.int (nI (p + 2))), some (.int (nI 5)), some (.int (nI 8)), some (.int (nI 2)), some (.int (nI 0)), some (.int (nI 2))]) (st' := [.int (nI 2), .int (nI 8)]) d_195_113 (fun _ => rfl) ?_
                                                                                    refine rn_ic (v := 1) d_195_115 (by decide) ?_
                                                                                    refine rn_add d_195_116  ?_
                                                                                    refine rn_add d_195_117  ?_
                                                                                    refine rr_nx (pc' := 120) (al' := [some (.ref 146), some (.int (nI p)), some (.int (nI (p + 2))), some (.int (nI 5)), some (.int (nI 11)), some (.int (nI 2)), some (.int (nI 0)), some (.int (nI 2))]) (st' := []) d_195_118 (fun _ => rfl) ?_
                                                                                    refine rn_inc d_195_120 rfl rfl ?_
                                                                                    show RR _ _ 123 [some (.ref 146), some (.int (nI p)), some (.int (nI (p + 2))), some (.int (nI 6)), some (.int (nI 11)), some (.int (nI 2)), some (.int (nI 0)), some (.int (nI 2))] [] g A _
                                                                                    refine rr_nx (pc' := 5) (al' := [some (.ref 146), some (.int (nI p)), some (.int (nI (p + 2))), some (.int (nI 6)), some (.int (nI 11)), some (.int (nI 2)), some (.int (nI 0)), some (.int (nI 2))]) (st' := []) d_195_123 (fun _ => rfl) ?_
                                                                                    refine rr_nx (pc' := 7) (al' := [some (.ref 146), some (.int (nI p)), some (.int (nI (p + 2))), some (.int (nI 6)), some (.int (nI 11)), some (.int (nI 2)), some (.int (nI 0)), some (.int (nI 2))]) (st' := [.int (nI 11)]) d_195_5 (fun _ => rfl) ?_
                                                                                    refine rr_nx (pc' := 8) (al' := [some (.ref 146), some (.int (nI p)), some (.int (nI (p + 2))), some (.int (nI 6)), some (.int (nI 11)), some (.int (nI 2)), some (.int (nI 0)), some (.int (nI 2))]) (st' := [.ref 146, .int (nI 11)]) d_195_7 (fun _ => rfl) ?_
                                                                                    refine rr_gf (v := .ref (147 + 6)) d_195_8 mo_195 fl_29 rfl ?_
                                                                                    refine rr_le (j := 6) d_195_11 (by decide) (by decide) ?_
                                                                                    show RR _ _ 12 [some (.ref 146), some (.int (nI p)), some (.int (nI (p + 2))), some (.int (nI 6)), some (.int (nI 11)), some (.int (nI 2)), some (.int (nI 0)), some (.int (nI 2))] [.int (nI 11), .int (nI 11)] g A _
                                                                                    refine rn_cge (t := 126) d_195_12 (by decide) (by first | omega | assumption | exact cu_36 (by omega) (cu_lt (by omega) (by omega))) (by first | omega | assumption | exact cu_36 (by omega) (cu_lt (by omega) (by omega))) (fun c12 => ?_) (fun c12 => ?_)
                                                                                    · refine rn_ic (v := 0) d_195_126 (by decide) ?_
                                                                                      exact rr_ri d_195_127 mr_195 rfl ⟨by rw [wdN, if_neg (by omega), if_neg (fun q => n102 q.2.2)], rfl, rfl⟩
                                                                                    · omega
                                                                                  · omega
                                                                                · omega
                                                                              · have y102 : t (p + 1) = 102 := (b8_102 _ (hb (p + 1) (by omega))).mp c88
                                                                                refine rn_ic (v := 1) d_195_91 (by decide) ?_
                                                                                refine rr_nx (pc' := 96) (al' := [some (.ref 146), some (.int (nI p)), some (.int (nI (p + 2))), some (.int (nI 5)), some (.int (nI 8)), some (.int (nI 2)), some (.int (nI 1)), some (.int (nI 1))]) (st' := [.int (nI 1)]) d_195_92 (fun _ => rfl) ?_
                                                                                refine rr_nx (pc' := 98) (al' := [some (.ref 146), some (.int (nI p)), some (.int (nI (p + 2))), some (.int (nI 5)), some (.int (nI 8)), some (.int (nI 2)), some (.int (nI 1)), some (.int (nI 1))]) (st' := []) d_195_96 (fun _ => rfl) ?_
                                                                                refine rn_inc d_195_98 rfl rfl ?_
                                                                                show RR _ _ 101 [some (.ref 146), some (.int (nI p)), some (.int (nI (p + 2))), some (.int (nI 5)), some (.int (nI 8)), some (.int (nI 2)), some (.int (nI 1)), some (.int (nI 2))] [] g A _
                                                                                refine rr_nx (pc' := 57) (al' := [some (.ref 146), some (.int (nI p)), some (.int (nI (p + 2))), some (.int (nI 5)), some (.int (nI 8)), some (.int (nI 2)), some (.int (nI 1)), some (.int (nI 2))]) (st' := []) d_195_101 (fun _ => rfl) ?_
                                                                                refine rr_nx (pc' := 59) (al' := [some (.ref 146), some (.int (nI p)), some (.int (nI (p + 2))), some (.int (nI 5)), some (.int (nI 8)), some (.int (nI 2)), some (.int (nI 1)), some (.int (nI 2))]) (st' := [.int (nI 2)]) d_195_57 (fun _ => rfl) ?_
                                                                                refine rr_nx (pc' := 61) (al' := [some (.ref 146), some (.int (nI p)), some (.int (nI (p + 2))), some (.int (nI 5)), some (.int (nI 8)), some (.int (nI 2)), some (.int (nI 1)), some (.int (nI 2))]) (st' := [.int (nI 2), .int (nI 2)]) d_195_59 (fun _ => rfl) ?_
                                                                                refine rn_cge (t := 104) d_195_61 (by decide) (by first | omega | assumption | exact cu_36 (by omega) (cu_lt (by omega) (by omega))) (by first | omega | assumption | exact cu_36 (by omega) (cu_lt (by omega) (by omega))) (fun c61 => ?_) (fun c61 => ?_)
                                                                                · refine rr_nx (pc' := 106) (al' := [some (.ref 146), some (.int (nI p)), some (.int (nI (p + 2))), some (.int (nI 5)), some (.int (nI 8)), some (.int (nI 2)), some (.int (nI 1)), some (.int (nI 2))]) (st' := [.int (nI 1)]) d_195_104 (fun _ => rfl) ?_
                                                                                  refine rn_ieq (t := 111) d_195_106 (by decide) (by first | omega | assumption | exact cu_36 (by omega) (cu_lt (by omega) (by omega))) (fun c106 => ?_) (fun c106 => ?_)
                                                                                  · omega
                                                                                  · refine rr_nx (pc' := 110) (al' := [some (.ref 146), some (.int (nI p)), some (.int (nI (p + 2))), some (.int (nI 5)), some (.int (nI 8)), some (.int (nI 2)), some (.int (nI 1)), some (.int (nI 2))]) (st' := [.int (nI 5)]) d_195_109 (fun _ => rfl) ?_
                                                                                    exact rr_ri d_195_110 mr_195 rfl ⟨by rw [wdN, if_neg (by omega), if_pos ⟨rfl, y105, y102⟩], rfl, rfl⟩
                                                                                · omega
                                                                · omega
                                                        · omega
                                                      · omega
                                                  · omega
                                                · omega
                                          · omega
                                        · omega
                                    · omega
                                  · omega
                            · omega
                          · omega
                      · omega
                    · omega
              · omega
            · omega
        · omega
      · omega
theorem s_wordOf3 {g : Nat → Int32} {A : Nat → Nat → Int32} {t : Nat → Nat} {p len e : Nat} (hW : ∀ i, i < 11 → A 6 i = wrd i) (hlen : len ≤ 400) (hB : ∀ i, i < len → A 7 i = bI8 (t i)) (hb : ∀ i, i < len → t i < 256) (he : p + 3 ≤ e) (hel : e ≤ len) : RR 0 195 0 [some (.ref 146), some (.int (nI p)), some (.int (nI e)), none, none, none, none, none] [] g A (rP (some (.int (nI (wdN t p (e))))) g A) := by
  refine rn_ic (v := 1) d_195_0 (by decide) ?_
  refine rr_nx (pc' := 2) (al' := [some (.ref 146), some (.int (nI p)), some (.int (nI e)), some (.int (nI 1)), none, none, none, none]) (st' := []) d_195_1 (fun _ => rfl) ?_
  refine rn_ic (v := 0) d_195_2 (by decide) ?_
  refine rr_nx (pc' := 5) (al' := [some (.ref 146), some (.int (nI p)), some (.int (nI e)), some (.int (nI 1)), some (.int (nI 0)), none, none, none]) (st' := []) d_195_3 (fun _ => rfl) ?_
  refine rr_nx (pc' := 7) (al' := [some (.ref 146), some (.int (nI p)), some (.int (nI e)), some (.int (nI 1)), some (.int (nI 0)), none, none, none]) (st' := [.int (nI 0)]) d_195_5 (fun _ => rfl) ?_
  refine rr_nx (pc' := 8) (al' := [some (.ref 146), some (.int (nI p)), some (.int (nI e)), some (.int (nI 1)), some (.int (nI 0)), none, none, none]) (st' := [.ref 146, .int (nI 0)]) d_195_7 (fun _ => rfl) ?_
  refine rr_gf (v := .ref (147 + 6)) d_195_8 mo_195 fl_29 rfl ?_
  refine rr_le (j := 6) d_195_11 (by decide) (by decide) ?_
  show RR _ _ 12 [some (.ref 146), some (.int (nI p)), some (.int (nI e)), some (.int (nI 1)), some (.int (nI 0)), none, none, none] [.int (nI 11), .int (nI 0)] g A _
  refine rn_cge (t := 126) d_195_12 (by decide) (by first | omega | assumption | exact cu_36 (by omega) (cu_lt (by omega) (by omega))) (by first | omega | assumption | exact cu_36 (by omega) (cu_lt (by omega) (by omega))) (fun c12 => ?_) (fun c12 => ?_)
  · omega
  · refine rn_ic (v := 0) d_195_15 (by decide) ?_
    refine rr_nx (pc' := 18) (al' := [some (.ref 146), some (.int (nI p)), some (.int (nI e)), some (.int (nI 1)), some (.int (nI 0)), some (.int (nI 0)), none, none]) (st' := []) d_195_16 (fun _ => rfl) ?_
    refine rr_nx (pc' := 19) (al' := [some (.ref 146), some (.int (nI p)), some (.int (nI e)), some (.int (nI 1)), some (.int (nI 0)), some (.int (nI 0)), none, none]) (st' := [.ref 146]) d_195_18 (fun _ => rfl) ?_
    refine rr_gf (v := .ref (147 + 6)) d_195_19 mo_195 fl_29 rfl ?_
    refine rr_nx (pc' := 24) (al' := [some (.ref 146), some (.int (nI p)), some (.int (nI e)), some (.int (nI 1)), some (.int (nI 0)), some (.int (nI 0)), none, none]) (st' := [.int (nI 0), .ref (147 + 6)]) d_195_22 (fun _ => rfl) ?_
    refine rr_nx (pc' := 26) (al' := [some (.ref 146), some (.int (nI p)), some (.int (nI e)), some (.int (nI 1)), some (.int (nI 0)), some (.int (nI 0)), none, none]) (st' := [.int (nI 0), .int (nI 0), .ref (147 + 6)]) d_195_24 (fun _ => rfl) ?_
    refine rn_add d_195_26  ?_
    refine rr_ba (j := 6) (v := (nI 120)) d_195_27 (by decide) (by decide) (by decide) (show 0 < 11 by first | omega | assumption | exact cu_36 (by omega) (cu_lt (by omega) (by omega))) (hW 0 (by decide)) ?_
    refine rn_bp (v := 32) d_195_28 (by decide) ?_
    refine rn_ceq (t := 39) d_195_30 (by decide) (by first | omega | assumption | exact cu_36 (by omega) (cu_lt (by omega) (by omega))) (by first | omega | assumption | exact cu_36 (by omega) (cu_lt (by omega) (by omega))) (fun c30 => ?_) (fun c30 => ?_)
    · omega
    · refine rn_inc d_195_33 rfl rfl ?_
      show RR _ _ 36 [some (.ref 146), some (.int (nI p)), some (.int (nI e)), some (.int (nI 1)), some (.int (nI 0)), some (.int (nI 1)), none, none] [] g A _
      refine rr_nx (pc' := 18) (al' := [some (.ref 146), some (.int (nI p)), some (.int (nI e)), some (.int (nI 1)), some (.int (nI 0)), some (.int (nI 1)), none, none]) (st' := []) d_195_36 (fun _ => rfl) ?_
      refine rr_nx (pc' := 19) (al' := [some (.ref 146), some (.int (nI p)), some (.int (nI e)), some (.int (nI 1)), some (.int (nI 0)), some (.int (nI 1)), none, none]) (st' := [.ref 146]) d_195_18 (fun _ => rfl) ?_
      refine rr_gf (v := .ref (147 + 6)) d_195_19 mo_195 fl_29 rfl ?_
      refine rr_nx (pc' := 24) (al' := [some (.ref 146), some (.int (nI p)), some (.int (nI e)), some (.int (nI 1)), some (.int (nI 0)), some (.int (nI 1)), none, none]) (st' := [.int (nI 0), .ref (147 + 6)]) d_195_22 (fun _ => rfl) ?_
      refine rr_nx (pc' := 26) (al' := [some (.ref 146), some (.int (nI p)), some (.int (nI e)), some (.int (nI 1)), some (.int (nI 0)), some (.int (nI 1)), none, none]) (st' := [.int (nI 1), .int (nI 0), .ref (147 + 6)]) d_195_24 (fun _ => rfl) ?_
      refine rn_add d_195_26  ?_
      refine rr_ba (j := 6) (v := (nI 32)) d_195_27 (by decide) (by decide) (by decide) (show 1 < 11 by first | omega | assumption | exact cu_36 (by omega) (cu_lt (by omega) (by omega))) (hW 1 (by decide)) ?_
      refine rn_bp (v := 32) d_195_28 (by decide) ?_
      refine rn_ceq (t := 39) d_195_30 (by decide) (by first | omega | assumption | exact cu_36 (by omega) (cu_lt (by omega) (by omega))) (by first | omega | assumption | exact cu_36 (by omega) (cu_lt (by omega) (by omega))) (fun c30 => ?_) (fun c30 => ?_)
      · refine rr_nx (pc' := 41) (al' := [some (.ref 146), some (.int (nI p)), some (.int (nI e)), some (.int (nI 1)), some (.int (nI 0)), some (.int (nI 1)), none, none]) (st' := [.int (nI 1)]) d_195_39 (fun _ => rfl) ?_
        refine rr_nx (pc' := 42) (al' := [some (.ref 146), some (.int (nI p)), some (.int (nI e)), some (.int (nI 1)), some (.int (nI 0)), some (.int (nI 1)), none, none]) (st' := [.int (nI e), .int (nI 1)]) d_195_41 (fun _ => rfl) ?_
        refine rr_nx (pc' := 43) (al' := [some (.ref 146), some (.int (nI p)), some (.int (nI e)), some (.int (nI 1)), some (.int (nI 0)), some (.int (nI 1)), none, none]) (st' := [.int (nI p), .int (nI e), .int (nI 1)]) d_195_42 (fun _ => rfl) ?_
        refine rn_sub d_195_43 (by omega) ?_
        refine rn_cne (t := 51) d_195_44 (by decide) (by first | omega | assumption | exact cu_36 (by omega) (cu_lt (by omega) (by omega))) (by first | omega | assumption | exact cu_36 (by omega) (cu_lt (by omega) (by omega))) (fun c44 => ?_) (fun c44 => ?_)
        · refine rn_ic (v := 0) d_195_51 (by decide) ?_
          refine rr_nx (pc' := 54) (al' := [some (.ref 146), some (.int (nI p)), some (.int (nI e)), some (.int (nI 1)), some (.int (nI 0)), some (.int (nI 1)), some (.int (nI 0)), none]) (st' := []) d_195_52 (fun _ => rfl) ?_
          refine rn_ic (v := 0) d_195_54 (by decide) ?_
          refine rr_nx (pc' := 57) (al' := [some (.ref 146), some (.int (nI p)), some (.int (nI e)), some (.int (nI 1)), some (.int (nI 0)), some (.int (nI 1)), some (.int (nI 0)), some (.int (nI 0))]) (st' := []) d_195_55 (fun _ => rfl) ?_
          refine rr_nx (pc' := 59) (al' := [some (.ref 146), some (.int (nI p)), some (.int (nI e)), some (.int (nI 1)), some (.int (nI 0)), some (.int (nI 1)), some (.int (nI 0)), some (.int (nI 0))]) (st' := [.int (nI 0)]) d_195_57 (fun _ => rfl) ?_
          refine rr_nx (pc' := 61) (al' := [some (.ref 146), some (.int (nI p)), some (.int (nI e)), some (.int (nI 1)), some (.int (nI 0)), some (.int (nI 1)), some (.int (nI 0)), some (.int (nI 0))]) (st' := [.int (nI 1), .int (nI 0)]) d_195_59 (fun _ => rfl) ?_
          refine rn_cge (t := 104) d_195_61 (by decide) (by first | omega | assumption | exact cu_36 (by omega) (cu_lt (by omega) (by omega))) (by first | omega | assumption | exact cu_36 (by omega) (cu_lt (by omega) (by omega))) (fun c61 => ?_) (fun c61 => ?_)
          · omega
          · refine rr_nx (pc' := 66) (al' := [some (.ref 146), some (.int (nI p)), some (.int (nI e)), some (.int (nI 1)), some (.int (nI 0)), some (.int (nI 1)), some (.int (nI 0)), some (.int (nI 0))]) (st' := [.int (nI 0)]) d_195_64 (fun _ => rfl) ?_
            refine rn_ieq (t := 104) d_195_66 (by decide) (by first | omega | assumption | exact cu_36 (by omega) (cu_lt (by omega) (by omega))) (fun c66 => ?_) (fun c66 => ?_)
            · refine rr_nx (pc' := 106) (al' := [some (.ref 146), some (.int (nI p)), some (.int (nI e)), some (.int (nI 1)), some (.int (nI 0)), some (.int (nI 1)), some (.int (nI 0)), some (.int (nI 0))]) (st' := [.int (nI 0)]) d_195_104 (fun _ => rfl) ?_
              refine rn_ieq (t := 111) d_195_106 (by decide) (by first | omega | assumption | exact cu_36 (by omega) (cu_lt (by omega) (by omega))) (fun c106 => ?_) (fun c106 => ?_)
              · refine rr_nx (pc' := 113) (al' := [some (.ref 146), some (.int (nI p)), some (.int (nI e)), some (.int (nI 1)), some (.int (nI 0)), some (.int (nI 1)), some (.int (nI 0)), some (.int (nI 0))]) (st' := [.int (nI 0)]) d_195_111 (fun _ => rfl) ?_
                refine rr_nx (pc' := 115) (al' := [some (.ref 146), some (.int (nI p)), some (.int (nI e)), some (.int (nI 1)), some (.int (nI 0)), some (.int (nI 1)), some (.int (nI 0)), some (.int (nI 0))]) (st' := [.int (nI 1), .int (nI 0)]) d_195_113 (fun _ => rfl) ?_
                refine rn_ic (v := 1) d_195_115 (by decide) ?_
                refine rn_add d_195_116  ?_
                refine rn_add d_195_117  ?_
                refine rr_nx (pc' := 120) (al' := [some (.ref 146), some (.int (nI p)), some (.int (nI e)), some (.int (nI 1)), some (.int (nI 2)), some (.int (nI 1)), some (.int (nI 0)), some (.int (nI 0))]) (st' := []) d_195_118 (fun _ => rfl) ?_
                refine rn_inc d_195_120 rfl rfl ?_
                show RR _ _ 123 [some (.ref 146), some (.int (nI p)), some (.int (nI e)), some (.int (nI 2)), some (.int (nI 2)), some (.int (nI 1)), some (.int (nI 0)), some (.int (nI 0))] [] g A _
                refine rr_nx (pc' := 5) (al' := [some (.ref 146), some (.int (nI p)), some (.int (nI e)), some (.int (nI 2)), some (.int (nI 2)), some (.int (nI 1)), some (.int (nI 0)), some (.int (nI 0))]) (st' := []) d_195_123 (fun _ => rfl) ?_
                refine rr_nx (pc' := 7) (al' := [some (.ref 146), some (.int (nI p)), some (.int (nI e)), some (.int (nI 2)), some (.int (nI 2)), some (.int (nI 1)), some (.int (nI 0)), some (.int (nI 0))]) (st' := [.int (nI 2)]) d_195_5 (fun _ => rfl) ?_
                refine rr_nx (pc' := 8) (al' := [some (.ref 146), some (.int (nI p)), some (.int (nI e)), some (.int (nI 2)), some (.int (nI 2)), some (.int (nI 1)), some (.int (nI 0)), some (.int (nI 0))]) (st' := [.ref 146, .int (nI 2)]) d_195_7 (fun _ => rfl) ?_
                refine rr_gf (v := .ref (147 + 6)) d_195_8 mo_195 fl_29 rfl ?_
                refine rr_le (j := 6) d_195_11 (by decide) (by decide) ?_
                show RR _ _ 12 [some (.ref 146), some (.int (nI p)), some (.int (nI e)), some (.int (nI 2)), some (.int (nI 2)), some (.int (nI 1)), some (.int (nI 0)), some (.int (nI 0))] [.int (nI 11), .int (nI 2)] g A _
                refine rn_cge (t := 126) d_195_12 (by decide) (by first | omega | assumption | exact cu_36 (by omega) (cu_lt (by omega) (by omega))) (by first | omega | assumption | exact cu_36 (by omega) (cu_lt (by omega) (by omega))) (fun c12 => ?_) (fun c12 => ?_)
                · omega
                · refine rn_ic (v := 0) d_195_15 (by decide) ?_
                  refine rr_nx (pc' := 18) (al' := [some (.ref 146), some (.int (nI p)), some (.int (nI e)), some (.int (nI 2)), some (.int (nI 2)), some (.int (nI 0)), some (.int (nI 0)), some (.int (nI 0))]) (st' := []) d_195_16 (fun _ => rfl) ?_
                  refine rr_nx (pc' := 19) (al' := [some (.ref 146), some (.int (nI p)), some (.int (nI e)), some (.int (nI 2)), some (.int (nI 2)), some (.int (nI 0)), some (.int (nI 0)), some (.int (nI 0))]) (st' := [.ref 146]) d_195_18 (fun _ => rfl) ?_
                  refine rr_gf (v := .ref (147 + 6)) d_195_19 mo_195 fl_29 rfl ?_
                  refine rr_nx (pc' := 24) (al' := [some (.ref 146), some (.int (nI p)), some (.int (nI e)), some (.int (nI 2)), some (.int (nI 2)), some (.int (nI 0)), some (.int (nI 0)), some (.int (nI 0))]) (st' := [.int (nI 2), .ref (147 + 6)]) d_195_22 (fun _ => rfl) ?_
                  refine rr_nx (pc' := 26) (al' := [some (.ref 146), some (.int (nI p)), some (.int (nI e)), some (.int (nI 2)), some (.int (nI 2)), some (.int (nI 0)), some (.int (nI 0)), some (.int (nI 0))]) (st' := [.int (nI 0), .int (nI 2), .ref (147 + 6)]) d_195_24 (fun _ => rfl) ?_
                  refine rn_add d_195_26  ?_
                  refine rr_ba (j := 6) (v := (nI 121)) d_195_27 (by decide) (by decide) (by decide) (show 2 < 11 by first | omega | assumption | exact cu_36 (by omega) (cu_lt (by omega) (by omega))) (hW 2 (by decide)) ?_
                  refine rn_bp (v := 32) d_195_28 (by decide) ?_
                  refine rn_ceq (t := 39) d_195_30 (by decide) (by first | omega | assumption | exact cu_36 (by omega) (cu_lt (by omega) (by omega))) (by first | omega | assumption | exact cu_36 (by omega) (cu_lt (by omega) (by omega))) (fun c30 => ?_) (fun c30 => ?_)
                  · omega
                  · refine rn_inc d_195_33 rfl rfl ?_
                    show RR _ _ 36 [some (.ref 146), some (.int (nI p)), some (.int (nI e)), some (.int (nI 2)), some (.int (nI 2)), some (.int (nI 1)), some (.int (nI 0)), some (.int (nI 0))] [] g A _
                    refine rr_nx (pc' := 18) (al' := [some (.ref 146), some (.int (nI p)), some (.int (nI e)), some (.int (nI 2)), some (.int (nI 2)), some (.int (nI 1)), some (.int (nI 0)), some (.int (nI 0))]) (st' := []) d_195_36 (fun _ => rfl) ?_
                    refine rr_nx (pc' := 19) (al' := [some (.ref 146), some (.int (nI p)), some (.int (nI e)), some (.int (nI 2)), some (.int (nI 2)), some (.int (nI 1)), some (.int (nI 0)), some (.int (nI 0))]) (st' := [.ref 146]) d_195_18 (fun _ => rfl) ?_
                    refine rr_gf (v := .ref (147 + 6)) d_195_19 mo_195 fl_29 rfl ?_
                    refine rr_nx (pc' := 24) (al' := [some (.ref 146), some (.int (nI p)), some (.int (nI e)), some (.int (nI 2)), some (.int (nI 2)), some (.int (nI 1)), some (.int (nI 0)), some (.int (nI 0))]) (st' := [.int (nI 2), .ref (147 + 6)]) d_195_22 (fun _ => rfl) ?_
                    refine rr_nx (pc' := 26) (al' := [some (.ref 146), some (.int (nI p)), some (.int (nI e)), some (.int (nI 2)), some (.int (nI 2)), some (.int (nI 1)), some (.int (nI 0)), some (.int (nI 0))]) (st' := [.int (nI 1), .int (nI 2), .ref (147 + 6)]) d_195_24 (fun _ => rfl) ?_
                    refine rn_add d_195_26  ?_
                    refine rr_ba (j := 6) (v := (nI 32)) d_195_27 (by decide) (by decide) (by decide) (show 3 < 11 by first | omega | assumption | exact cu_36 (by omega) (cu_lt (by omega) (by omega))) (hW 3 (by decide)) ?_
                    refine rn_bp (v := 32) d_195_28 (by decide) ?_
                    refine rn_ceq (t := 39) d_195_30 (by decide) (by first | omega | assumption | exact cu_36 (by omega) (cu_lt (by omega) (by omega))) (by first | omega | assumption | exact cu_36 (by omega) (cu_lt (by omega) (by omega))) (fun c30 => ?_) (fun c30 => ?_)
                    · refine rr_nx (pc' := 41) (al' := [some (.ref 146), some (.int (nI p)), some (.int (nI e)), some (.int (nI 2)), some (.int (nI 2)), some (.int (nI 1)), some (.int (nI 0)), some (.int (nI 0))]) (st' := [.int (nI 1)]) d_195_39 (fun _ => rfl) ?_
                      refine rr_nx (pc' := 42) (al' := [some (.ref 146), some (.int (nI p)), some (.int (nI e)), some (.int (nI 2)), some (.int (nI 2)), some (.int (nI 1)), some (.int (nI 0)), some (.int (nI 0))]) (st' := [.int (nI e), .int (nI 1)]) d_195_41 (fun _ => rfl) ?_
                      refine rr_nx (pc' := 43) (al' := [some (.ref 146), some (.int (nI p)), some (.int (nI e)), some (.int (nI 2)), some (.int (nI 2)), some (.int (nI 1)), some (.int (nI 0)), some (.int (nI 0))]) (st' := [.int (nI p), .int (nI e), .int (nI 1)]) d_195_42 (fun _ => rfl) ?_
                      refine rn_sub d_195_43 (by omega) ?_
                      refine rn_cne (t := 51) d_195_44 (by decide) (by first | omega | assumption | exact cu_36 (by omega) (cu_lt (by omega) (by omega))) (by first | omega | assumption | exact cu_36 (by omega) (cu_lt (by omega) (by omega))) (fun c44 => ?_) (fun c44 => ?_)
                      · refine rn_ic (v := 0) d_195_51 (by decide) ?_
                        refine rr_nx (pc' := 54) (al' := [some (.ref 146), some (.int (nI p)), some (.int (nI e)), some (.int (nI 2)), some (.int (nI 2)), some (.int (nI 1)), some (.int (nI 0)), some (.int (nI 0))]) (st' := []) d_195_52 (fun _ => rfl) ?_
                        refine rn_ic (v := 0) d_195_54 (by decide) ?_
                        refine rr_nx (pc' := 57) (al' := [some (.ref 146), some (.int (nI p)), some (.int (nI e)), some (.int (nI 2)), some (.int (nI 2)), some (.int (nI 1)), some (.int (nI 0)), some (.int (nI 0))]) (st' := []) d_195_55 (fun _ => rfl) ?_
                        refine rr_nx (pc' := 59) (al' := [some (.ref 146), some (.int (nI p)), some (.int (nI e)), some (.int (nI 2)), some (.int (nI 2)), some (.int (nI 1)), some (.int (nI 0)), some (.int (nI 0))]) (st' := [.int (nI 0)]) d_195_57 (fun _ => rfl) ?_
                        refine rr_nx (pc' := 61) (al' := [some (.ref 146), some (.int (nI p)), some (.int (nI e)), some (.int (nI 2)), some (.int (nI 2)), some (.int (nI 1)), some (.int (nI 0)), some (.int (nI 0))]) (st' := [.int (nI 1), .int (nI 0)]) d_195_59 (fun _ => rfl) ?_
                        refine rn_cge (t := 104) d_195_61 (by decide) (by first | omega | assumption | exact cu_36 (by omega) (cu_lt (by omega) (by omega))) (by first | omega | assumption | exact cu_36 (by omega) (cu_lt (by omega) (by omega))) (fun c61 => ?_) (fun c61 => ?_)
                        · omega
                        · refine rr_nx (pc' := 66) (al' := [some (.ref 146), some (.int (nI p)), some (.int (nI e)), some (.int (nI 2)), some (.int (nI 2)), some (.int (nI 1)), some (.int (nI 0)), some (.int (nI 0))]) (st' := [.int (nI 0)]) d_195_64 (fun _ => rfl) ?_
                          refine rn_ieq (t := 104) d_195_66 (by decide) (by first | omega | assumption | exact cu_36 (by omega) (cu_lt (by omega) (by omega))) (fun c66 => ?_) (fun c66 => ?_)
                          · refine rr_nx (pc' := 106) (al' := [some (.ref 146), some (.int (nI p)), some (.int (nI e)), some (.int (nI 2)), some (.int (nI 2)), some (.int (nI 1)), some (.int (nI 0)), some (.int (nI 0))]) (st' := [.int (nI 0)]) d_195_104 (fun _ => rfl) ?_
                            refine rn_ieq (t := 111) d_195_106 (by decide) (by first | omega | assumption | exact cu_36 (by omega) (cu_lt (by omega) (by omega))) (fun c106 => ?_) (fun c106 => ?_)
                            · refine rr_nx (pc' := 113) (al' := [some (.ref 146), some (.int (nI p)), some (.int (nI e)), some (.int (nI 2)), some (.int (nI 2)), some (.int (nI 1)), some (.int (nI 0)), some (.int (nI 0))]) (st' := [.int (nI 2)]) d_195_111 (fun _ => rfl) ?_
                              refine rr_nx (pc' := 115) (al' := [some (.ref 146), some (.int (nI p)), some (.int (nI e)), some (.int (nI 2)), some (.int (nI 2)), some (.int (nI 1)), some (.int (nI 0)), some (.int (nI 0))]) (st' := [.int (nI 1), .int (nI 2)]) d_195_113 (fun _ => rfl) ?_
                              refine rn_ic (v := 1) d_195_115 (by decide) ?_
                              refine rn_add d_195_116  ?_
                              refine rn_add d_195_117  ?_
                              refine rr_nx (pc' := 120) (al' := [some (.ref 146), some (.int (nI p)), some (.int (nI e)), some (.int (nI 2)), some (.int (nI 4)), some (.int (nI 1)), some (.int (nI 0)), some (.int (nI 0))]) (st' := []) d_195_118 (fun _ => rfl) ?_
                              refine rn_inc d_195_120 rfl rfl ?_
                              show RR _ _ 123 [some (.ref 146), some (.int (nI p)), some (.int (nI e)), some (.int (nI 3)), some (.int (nI 4)), some (.int (nI 1)), some (.int (nI 0)), some (.int (nI 0))] [] g A _
                              refine rr_nx (pc' := 5) (al' := [some (.ref 146), some (.int (nI p)), some (.int (nI e)), some (.int (nI 3)), some (.int (nI 4)), some (.int (nI 1)), some (.int (nI 0)), some (.int (nI 0))]) (st' := []) d_195_123 (fun _ => rfl) ?_
                              refine rr_nx (pc' := 7) (al' := [some (.ref 146), some (.int (nI p)), some (.int (nI e)), some (.int (nI 3)), some (.int (nI 4)), some (.int (nI 1)), some (.int (nI 0)), some (.int (nI 0))]) (st' := [.int (nI 4)]) d_195_5 (fun _ => rfl) ?_
                              refine rr_nx (pc' := 8) (al' := [some (.ref 146), some (.int (nI p)), some (.int (nI e)), some (.int (nI 3)), some (.int (nI 4)), some (.int (nI 1)), some (.int (nI 0)), some (.int (nI 0))]) (st' := [.ref 146, .int (nI 4)]) d_195_7 (fun _ => rfl) ?_
                              refine rr_gf (v := .ref (147 + 6)) d_195_8 mo_195 fl_29 rfl ?_
                              refine rr_le (j := 6) d_195_11 (by decide) (by decide) ?_
                              show RR _ _ 12 [some (.ref 146), some (.int (nI p)), some (.int (nI e)), some (.int (nI 3)), some (.int (nI 4)), some (.int (nI 1)), some (.int (nI 0)), some (.int (nI 0))] [.int (nI 11), .int (nI 4)] g A _
                              refine rn_cge (t := 126) d_195_12 (by decide) (by first | omega | assumption | exact cu_36 (by omega) (cu_lt (by omega) (by omega))) (by first | omega | assumption | exact cu_36 (by omega) (cu_lt (by omega) (by omega))) (fun c12 => ?_) (fun c12 => ?_)
                              · omega
                              · refine rn_ic (v := 0) d_195_15 (by decide) ?_
                                refine rr_nx (pc' := 18) (al' := [some (.ref 146), some (.int (nI p)), some (.int (nI e)), some (.int (nI 3)), some (.int (nI 4)), some (.int (nI 0)), some (.int (nI 0)), some (.int (nI 0))]) (st' := []) d_195_16 (fun _ => rfl) ?_
                                refine rr_nx (pc' := 19) (al' := [some (.ref 146), some (.int (nI p)), some (.int (nI e)), some (.int (nI 3)), some (.int (nI 4)), some (.int (nI 0)), some (.int (nI 0)), some (.int (nI 0))]) (st' := [.ref 146]) d_195_18 (fun _ => rfl) ?_
                                refine rr_gf (v := .ref (147 + 6)) d_195_19 mo_195 fl_29 rfl ?_
                                refine rr_nx (pc' := 24) (al' := [some (.ref 146), some (.int (nI p)), some (.int (nI e)), some (.int (nI 3)), some (.int (nI 4)), some (.int (nI 0)), some (.int (nI 0)), some (.int (nI 0))]) (st' := [.int (nI 4), .ref (147 + 6)]) d_195_22 (fun _ => rfl) ?_
                                refine rr_nx (pc' := 26) (al' := [some (.ref 146), some (.int (nI p)), some (.int (nI e)), some (.int (nI 3)), some (.int (nI 4)), some (.int (nI 0)), some (.int (nI 0)), some (.int (nI 0))]) (st' := [.int (nI 0), .int (nI 4), .ref (147 + 6)]) d_195_24 (fun _ => rfl) ?_
                                refine rn_add d_195_26  ?_
                                refine rr_ba (j := 6) (v := (nI 122)) d_195_27 (by decide) (by decide) (by decide) (show 4 < 11 by first | omega | assumption | exact cu_36 (by omega) (cu_lt (by omega) (by omega))) (hW 4 (by decide)) ?_
                                refine rn_bp (v := 32) d_195_28 (by decide) ?_
                                refine rn_ceq (t := 39) d_195_30 (by decide) (by first | omega | assumption | exact cu_36 (by omega) (cu_lt (by omega) (by omega))) (by first | omega | assumption | exact cu_36 (by omega) (cu_lt (by omega) (by omega))) (fun c30 => ?_) (fun c30 => ?_)
                                · omega
                                · refine rn_inc d_195_33 rfl rfl ?_
                                  show RR _ _ 36 [some (.ref 146), some (.int (nI p)), some (.int (nI e)), some (.int (nI 3)), some (.int (nI 4)), some (.int (nI 1)), some (.int (nI 0)), some (.int (nI 0))] [] g A _
                                  refine rr_nx (pc' := 18) (al' := [some (.ref 146), some (.int (nI p)), some (.int (nI e)), some (.int (nI 3)), some (.int (nI 4)), some (.int (nI 1)), some (.int (nI 0)), some (.int (nI 0))]) (st' := []) d_195_36 (fun _ => rfl) ?_
                                  refine rr_nx (pc' := 19) (al' := [some (.ref 146), some (.int (nI p)), some (.int (nI e)), some (.int (nI 3)), some (.int (nI 4)), some (.int (nI 1)), some (.int (nI 0)), some (.int (nI 0))]) (st' := [.ref 146]) d_195_18 (fun _ => rfl) ?_
                                  refine rr_gf (v := .ref (147 + 6)) d_195_19 mo_195 fl_29 rfl ?_
                                  refine rr_nx (pc' := 24) (al' := [some (.ref 146), some (.int (nI p)), some (.int (nI e)), some (.int (nI 3)), some (.int (nI 4)), some (.int (nI 1)), some (.int (nI 0)), some (.int (nI 0))]) (st' := [.int (nI 4), .ref (147 + 6)]) d_195_22 (fun _ => rfl) ?_
                                  refine rr_nx (pc' := 26) (al' := [some (.ref 146), some (.int (nI p)), some (.int (nI e)), some (.int (nI 3)), some (.int (nI 4)), some (.int (nI 1)), some (.int (nI 0)), some (.int (nI 0))]) (st' := [.int (nI 1), .int (nI 4), .ref (147 + 6)]) d_195_24 (fun _ => rfl) ?_
                                  refine rn_add d_195_26  ?_
                                  refine rr_ba (j := 6) (v := (nI 32)) d_195_27 (by decide) (by decide) (by decide) (show 5 < 11 by first | omega | assumption | exact cu_36 (by omega) (cu_lt (by omega) (by omega))) (hW 5 (by decide)) ?_
                                  refine rn_bp (v := 32) d_195_28 (by decide) ?_
                                  refine rn_ceq (t := 39) d_195_30 (by decide) (by first | omega | assumption | exact cu_36 (by omega) (cu_lt (by omega) (by omega))) (by first | omega | assumption | exact cu_36 (by omega) (cu_lt (by omega) (by omega))) (fun c30 => ?_) (fun c30 => ?_)
                                  · refine rr_nx (pc' := 41) (al' := [some (.ref 146), some (.int (nI p)), some (.int (nI e)), some (.int (nI 3)), some (.int (nI 4)), some (.int (nI 1)), some (.int (nI 0)), some (.int (nI 0))]) (st' := [.int (nI 1)]) d_195_39 (fun _ => rfl) ?_
                                    refine rr_nx (pc' := 42) (al' := [some (.ref 146), some (.int (nI p)), some (.int (nI e)), some (.int (nI 3)), some (.int (nI 4)), some (.int (nI 1)), some (.int (nI 0)), some (.int (nI 0))]) (st' := [.int (nI e), .int (nI 1)]) d_195_41 (fun _ => rfl) ?_
                                    refine rr_nx (pc' := 43) (al' := [some (.ref 146), some (.int (nI p)), some (.int (nI e)), some (.int (nI 3)), some (.int (nI 4)), some (.int (nI 1)), some (.int (nI 0)), some (.int (nI 0))]) (st' := [.int (nI p), .int (nI e), .int (nI 1)]) d_195_42 (fun _ => rfl) ?_
                                    refine rn_sub d_195_43 (by omega) ?_
                                    refine rn_cne (t := 51) d_195_44 (by decide) (by first | omega | assumption | exact cu_36 (by omega) (cu_lt (by omega) (by omega))) (by first | omega | assumption | exact cu_36 (by omega) (cu_lt (by omega) (by omega))) (fun c44 => ?_) (fun c44 => ?_)
                                    · refine rn_ic (v := 0) d_195_51 (by decide) ?_
                                      refine rr_nx (pc' := 54) (al' := [some (.ref 146), some (.int (nI p)), some (.int (nI e)), some (.int (nI 3)), some (.int (nI 4)), some (.int (nI 1)), some (.int (nI 0)), some (.int (nI 0))]) (st' := []) d_195_52 (fun _ => rfl) ?_
                                      refine rn_ic (v := 0) d_195_54 (by decide) ?_
                                      refine rr_nx (pc' := 57) (al' := [some (.ref 146), some (.int (nI p)), some (.int (nI e)), some (.int (nI 3)), some (.int (nI 4)), some (.int (nI 1)), some (.int (nI 0)), some (.int (nI 0))]) (st' := []) d_195_55 (fun _ => rfl) ?_
                                      refine rr_nx (pc' := 59) (al' := [some (.ref 146), some (.int (nI p)), some (.int (nI e)), some (.int (nI 3)), some (.int (nI 4)), some (.int (nI 1)), some (.int (nI 0)), some (.int (nI 0))]) (st' := [.int (nI 0)]) d_195_57 (fun _ => rfl) ?_
                                      refine rr_nx (pc' := 61) (al' := [some (.ref 146), some (.int (nI p)), some (.int (nI e)), some (.int (nI 3)), some (.int (nI 4)), some (.int (nI 1)), some (.int (nI 0)), some (.int (nI 0))]) (st' := [.int (nI 1), .int (nI 0)]) d_195_59 (fun _ => rfl) ?_
                                      refine rn_cge (t := 104) d_195_61 (by decide) (by first | omega | assumption | exact cu_36 (by omega) (cu_lt (by omega) (by omega))) (by first | omega | assumption | exact cu_36 (by omega) (cu_lt (by omega) (by omega))) (fun c61 => ?_) (fun c61 => ?_)
                                      · omega
                                      · refine rr_nx (pc' := 66) (al' := [some (.ref 146), some (.int (nI p)), some (.int (nI e)), some (.int (nI 3)), some (.int (nI 4)), some (.int (nI 1)), some (.int (nI 0)), some (.int (nI 0))]) (st' := [.int (nI 0)]) d_195_64 (fun _ => rfl) ?_
                                        refine rn_ieq (t := 104) d_195_66 (by decide) (by first | omega | assumption | exact cu_36 (by omega) (cu_lt (by omega) (by omega))) (fun c66 => ?_) (fun c66 => ?_)
                                        · refine rr_nx (pc' := 106) (al' := [some (.ref 146), some (.int (nI p)), some (.int (nI e)), some (.int (nI 3)), some (.int (nI 4)), some (.int (nI 1)), some (.int (nI 0)), some (.int (nI 0))]) (st' := [.int (nI 0)]) d_195_104 (fun _ => rfl) ?_
                                          refine rn_ieq (t := 111) d_195_106 (by decide) (by first | omega | assumption | exact cu_36 (by omega) (cu_lt (by omega) (by omega))) (fun c106 => ?_) (fun c106 => ?_)
                                          · refine rr_nx (pc' := 113) (al' := [some (.ref 146), some (.int (nI p)), some (.int (nI e)), some (.int (nI 3)), some (.int (nI 4)), some (.int (nI 1)), some (.int (nI 0)), some (.int (nI 0))]) (st' := [.int (nI 4)]) d_195_111 (fun _ => rfl) ?_
                                            refine rr_nx (pc' := 115) (al' := [some (.ref 146), some (.int (nI p)), some (.int (nI e)), some (.int (nI 3)), some (.int (nI 4)), some (.int (nI 1)), some (.int (nI 0)), some (.int (nI 0))]) (st' := [.int (nI 1), .int (nI 4)]) d_195_113 (fun _ => rfl) ?_
                                            refine rn_ic (v := 1) d_195_115 (by decide) ?_
                                            refine rn_add d_195_116  ?_
                                            refine rn_add d_195_117  ?_
                                            refine rr_nx (pc' := 120) (al' := [some (.ref 146), some (.int (nI p)), some (.int (nI e)), some (.int (nI 3)), some (.int (nI 6)), some (.int (nI 1)), some (.int (nI 0)), some (.int (nI 0))]) (st' := []) d_195_118 (fun _ => rfl) ?_
                                            refine rn_inc d_195_120 rfl rfl ?_
                                            show RR _ _ 123 [some (.ref 146), some (.int (nI p)), some (.int (nI e)), some (.int (nI 4)), some (.int (nI 6)), some (.int (nI 1)), some (.int (nI 0)), some (.int (nI 0))] [] g A _
                                            refine rr_nx (pc' := 5) (al' := [some (.ref 146), some (.int (nI p)), some (.int (nI e)), some (.int (nI 4)), some (.int (nI 6)), some (.int (nI 1)), some (.int (nI 0)), some (.int (nI 0))]) (st' := []) d_195_123 (fun _ => rfl) ?_
                                            refine rr_nx (pc' := 7) (al' := [some (.ref 146), some (.int (nI p)), some (.int (nI e)), some (.int (nI 4)), some (.int (nI 6)), some (.int (nI 1)), some (.int (nI 0)), some (.int (nI 0))]) (st' := [.int (nI 6)]) d_195_5 (fun _ => rfl) ?_
                                            refine rr_nx (pc' := 8) (al' := [some (.ref 146), some (.int (nI p)), some (.int (nI e)), some (.int (nI 4)), some (.int (nI 6)), some (.int (nI 1)), some (.int (nI 0)), some (.int (nI 0))]) (st' := [.ref 146, .int (nI 6)]) d_195_7 (fun _ => rfl) ?_
                                            refine rr_gf (v := .ref (147 + 6)) d_195_8 mo_195 fl_29 rfl ?_
                                            refine rr_le (j := 6) d_195_11 (by decide) (by decide) ?_
                                            show RR _ _ 12 [some (.ref 146), some (.int (nI p)), some (.int (nI e)), some (.int (nI 4)), some (.int (nI 6)), some (.int (nI 1)), some (.int (nI 0)), some (.int (nI 0))] [.int (nI 11), .int (nI 6)] g A _
                                            refine rn_cge (t := 126) d_195_12 (by decide) (by first | omega | assumption | exact cu_36 (by omega) (cu_lt (by omega) (by omega))) (by first | omega | assumption | exact cu_36 (by omega) (cu_lt (by omega) (by omega))) (fun c12 => ?_) (fun c12 => ?_)
                                            · omega
                                            · refine rn_ic (v := 0) d_195_15 (by decide) ?_
                                              refine rr_nx (pc' := 18) (al' := [some (.ref 146), some (.int (nI p)), some (.int (nI e)), some (.int (nI 4)), some (.int (nI 6)), some (.int (nI 0)), some (.int (nI 0)), some (.int (nI 0))]) (st' := []) d_195_16 (fun _ => rfl) ?_
                                              refine rr_nx (pc' := 19) (al' := [some (.ref 146), some (.int (nI p)), some (.int (nI e)), some (.int (nI 4)), some (.int (nI 6)), some (.int (nI 0)), some (.int (nI 0)), some (.int (nI 0))]) (st' := [.ref 146]) d_195_18 (fun _ => rfl) ?_
                                              refine rr_gf (v := .ref (147 + 6)) d_195_19 mo_195 fl_29 rfl ?_
                                              refine rr_nx (pc' := 24) (al' := [some (.ref 146), some (.int (nI p)), some (.int (nI e)), some (.int (nI 4)), some (.int (nI 6)), some (.int (nI 0)), some (.int (nI 0)), some (.int (nI 0))]) (st' := [.int (nI 6), .ref (147 + 6)]) d_195_22 (fun _ => rfl) ?_
                                              refine rr_nx (pc' := 26) (al' := [some (.ref 146), some (.int (nI p)), some (.int (nI e)), some (.int (nI 4)), some (.int (nI 6)), some (.int (nI 0)), some (.int (nI 0)), some (.int (nI 0))]) (st' := [.int (nI 0), .int (nI 6), .ref (147 + 6)]) d_195_24 (fun _ => rfl) ?_
                                              refine rn_add d_195_26  ?_
                                              refine rr_ba (j := 6) (v := (nI 101)) d_195_27 (by decide) (by decide) (by decide) (show 6 < 11 by first | omega | assumption | exact cu_36 (by omega) (cu_lt (by omega) (by omega))) (hW 6 (by decide)) ?_
                                              refine rn_bp (v := 32) d_195_28 (by decide) ?_
                                              refine rn_ceq (t := 39) d_195_30 (by decide) (by first | omega | assumption | exact cu_36 (by omega) (cu_lt (by omega) (by omega))) (by first | omega | assumption | exact cu_36 (by omega) (cu_lt (by omega) (by omega))) (fun c30 => ?_) (fun c30 => ?_)
                                              · omega
                                              · refine rn_inc d_195_33 rfl rfl ?_
                                                show RR _ _ 36 [some (.ref 146), some (.int (nI p)), some (.int (nI e)), some (.int (nI 4)), some (.int (nI 6)), some (.int (nI 1)), some (.int (nI 0)), some (.int (nI 0))] [] g A _
                                                refine rr_nx (pc' := 18) (al' := [some (.ref 146), some (.int (nI p)), some (.int (nI e)), some (.int (nI 4)), some (.int (nI 6)), some (.int (nI 1)), some (.int (nI 0)), some (.int (nI 0))]) (st' := []) d_195_36 (fun _ => rfl) ?_
                                                refine rr_nx (pc' := 19) (al' := [some (.ref 146), some (.int (nI p)), some (.int (nI e)), some (.int (nI 4)), some (.int (nI 6)), some (.int (nI 1)), some (.int (nI 0)), some (.int (nI 0))]) (st' := [.ref 146]) d_195_18 (fun _ => rfl) ?_
                                                refine rr_gf (v := .ref (147 + 6)) d_195_19 mo_195 fl_29 rfl ?_
                                                refine rr_nx (pc' := 24) (al' := [some (.ref 146), some (.int (nI p)), some (.int (nI e)), some (.int (nI 4)), some (.int (nI 6)), some (.int (nI 1)), some (.int (nI 0)), some (.int (nI 0))]) (st' := [.int (nI 6), .ref (147 + 6)]) d_195_22 (fun _ => rfl) ?_
                                                refine rr_nx (pc' := 26) (al' := [some (.ref 146), some (.int (nI p)), some (.int (nI e)), some (.int (nI 4)), some (.int (nI 6)), some (.int (nI 1)), some (.int (nI 0)), some (.int (nI 0))]) (st' := [.int (nI 1), .int (nI 6), .ref (147 + 6)]) d_195_24 (fun _ => rfl) ?_
                                                refine rn_add d_195_26  ?_
                                                refine rr_ba (j := 6) (v := (nI 32)) d_195_27 (by decide) (by decide) (by decide) (show 7 < 11 by first | omega | assumption | exact cu_36 (by omega) (cu_lt (by omega) (by omega))) (hW 7 (by decide)) ?_
                                                refine rn_bp (v := 32) d_195_28 (by decide) ?_
                                                refine rn_ceq (t := 39) d_195_30 (by decide) (by first | omega | assumption | exact cu_36 (by omega) (cu_lt (by omega) (by omega))) (by first | omega | assumption | exact cu_36 (by omega) (cu_lt (by omega) (by omega))) (fun c30 => ?_) (fun c30 => ?_)
                                                · refine rr_nx (pc' := 41) (al' := [some (.ref 146), some (.int (nI p)), some (.int (nI e)), some (.int (nI 4)), some (.int (nI 6)), some (.int (nI 1)), some (.int (nI 0)), some (.int (nI 0))]) (st' := [.int (nI 1)]) d_195_39 (fun _ => rfl) ?_
                                                  refine rr_nx (pc' := 42) (al' := [some (.ref 146), some (.int (nI p)), some (.int (nI e)), some (.int (nI 4)), some (.int (nI 6)), some (.int (nI 1)), some (.int (nI 0)), some (.int (nI 0))]) (st' := [.int (nI e), .int (nI 1)]) d_195_41 (fun _ => rfl) ?_
                                                  refine rr_nx (pc' := 43) (al' := [some (.ref 146), some (.int (nI p)), some (.int (nI e)), some (.int (nI 4)), some (.int (nI 6)), some (.int (nI 1)), some (.int (nI 0)), some (.int (nI 0))]) (st' := [.int (nI p), .int (nI e), .int (nI 1)]) d_195_42 (fun _ => rfl) ?_
                                                  refine rn_sub d_195_43 (by omega) ?_
                                                  refine rn_cne (t := 51) d_195_44 (by decide) (by first | omega | assumption | exact cu_36 (by omega) (cu_lt (by omega) (by omega))) (by first | omega | assumption | exact cu_36 (by omega) (cu_lt (by omega) (by omega))) (fun c44 => ?_) (fun c44 => ?_)
                                                  · refine rn_ic (v := 0) d_195_51 (by decide) ?_
                                                    refine rr_nx (pc' := 54) (al' := [some (.ref 146), some (.int (nI p)), some (.int (nI e)), some (.int (nI 4)), some (.int (nI 6)), some (.int (nI 1)), some (.int (nI 0)), some (.int (nI 0))]) (st' := []) d_195_52 (fun _ => rfl) ?_
                                                    refine rn_ic (v := 0) d_195_54 (by decide) ?_
                                                    refine rr_nx (pc' := 57) (al' := [some (.ref 146), some (.int (nI p)), some (.int (nI e)), some (.int (nI 4)), some (.int (nI 6)), some (.int (nI 1)), some (.int (nI 0)), some (.int (nI 0))]) (st' := []) d_195_55 (fun _ => rfl) ?_
                                                    refine rr_nx (pc' := 59) (al' := [some (.ref 146), some (.int (nI p)), some (.int (nI e)), some (.int (nI 4)), some (.int (nI 6)), some (.int (nI 1)), some (.int (nI 0)), some (.int (nI 0))]) (st' := [.int (nI 0)]) d_195_57 (fun _ => rfl) ?_
                                                    refine rr_nx (pc' := 61) (al' := [some (.ref 146), some (.int (nI p)), some (.int (nI e)), some (.int (nI 4)), some (.int (nI 6)), some (.int (nI 1)), some (.int (nI 0)), some (.int (nI 0))]) (st' := [.int (nI 1), .int (nI 0)]) d_195_59 (fun _ => rfl) ?_
                                                    refine rn_cge (t := 104) d_195_61 (by decide) (by first | omega | assumption | exact cu_36 (by omega) (cu_lt (by omega) (by omega))) (by first | omega | assumption | exact cu_36 (by omega) (cu_lt (by omega) (by omega))) (fun c61 => ?_) (fun c61 => ?_)
                                                    · omega
                                                    · refine rr_nx (pc' := 66) (al' := [some (.ref 146), some (.int (nI p)), some (.int (nI e)), some (.int (nI 4)), some (.int (nI 6)), some (.int (nI 1)), some (.int (nI 0)), some (.int (nI 0))]) (st' := [.int (nI 0)]) d_195_64 (fun _ => rfl) ?_
                                                      refine rn_ieq (t := 104) d_195_66 (by decide) (by first | omega | assumption | exact cu_36 (by omega) (cu_lt (by omega) (by omega))) (fun c66 => ?_) (fun c66 => ?_)
                                                      · refine rr_nx (pc' := 106) (al' := [some (.ref 146), some (.int (nI p)), some (.int (nI e)), some (.int (nI 4)), some (.int (nI 6)), some (.int (nI 1)), some (.int (nI 0)), some (.int (nI 0))]) (st' := [.int (nI 0)]) d_195_104 (fun _ => rfl) ?_
                                                        refine rn_ieq (t := 111) d_195_106 (by decide) (by first | omega | assumption | exact cu_36 (by omega) (cu_lt (by omega) (by omega))) (fun c106 => ?_) (fun c106 => ?_)
                                                        · refine rr_nx (pc' := 113) (al' := [some (.ref 146), some (.int (nI p)), some (.int (nI e)), some (.int (nI 4)), some (.int (nI 6)), some (.int (nI 1)), some (.int (nI 0)), some (.int (nI 0))]) (st' := [.int (nI 6)]) d_195_111 (fun _ => rfl) ?_
                                                          refine rr_nx (pc' := 115) (al' := [some (.ref 146), some (.int (nI p)), some (.int (nI e)), some (.int (nI 4)), some (.int (nI 6)), some (.int (nI 1)), some (.int (nI 0)), some (.int (nI 0))]) (st' := [.int (nI 1), .int (nI 6)]) d_195_113 (fun _ => rfl) ?_
                                                          refine rn_ic (v := 1) d_195_115 (by decide) ?_
                                                          refine rn_add d_195_116  ?_
                                                          refine rn_add d_195_117  ?_
                                                          refine rr_nx (pc' := 120) (al' := [some (.ref 146), some (.int (nI p)), some (.int (nI e)), some (.int (nI 4)), some (.int (nI 8)), some (.int (nI 1)), some (.int (nI 0)), some (.int (nI 0))]) (st' := []) d_195_118 (fun _ => rfl) ?_
                                                          refine rn_inc d_195_120 rfl rfl ?_
                                                          show RR _ _ 123 [some (.ref 146), some (.int (nI p)), some (.int (nI e)), some (.int (nI 5)), some (.int (nI 8)), some (.int (nI 1)), some (.int (nI 0)), some (.int (nI 0))] [] g A _
                                                          refine rr_nx (pc' := 5) (al' := [some (.ref 146), some (.int (nI p)), some (.int (nI e)), some (.int (nI 5)), some (.int (nI 8)), some (.int (nI 1)), some (.int (nI 0)), some (.int (nI 0))]) (st' := []) d_195_123 (fun _ => rfl) ?_
                                                          refine rr_nx (pc' := 7) (al' := [some (.ref 146), some (.int (nI p)), some (.int (nI e)), some (.int (nI 5)), some (.int (nI 8)), some (.int (nI 1)), some (.int (nI 0)), some (.int (nI 0))]) (st' := [.int (nI 8)]) d_195_5 (fun _ => rfl) ?_
                                                          refine rr_nx (pc' := 8) (al' := [some (.ref 146), some (.int (nI p)), some (.int (nI e)), some (.int (nI 5)), some (.int (nI 8)), some (.int (nI 1)), some (.int (nI 0)), some (.int (nI 0))]) (st' := [.ref 146, .int (nI 8)]) d_195_7 (fun _ => rfl) ?_
                                                          refine rr_gf (v := .ref (147 + 6)) d_195_8 mo_195 fl_29 rfl ?_
                                                          refine rr_le (j := 6) d_195_11 (by decide) (by decide) ?_
                                                          show RR _ _ 12 [some (.ref 146), some (.int (nI p)), some (.int (nI e)), some (.int (nI 5)), some (.int (nI 8)), some (.int (nI 1)), some (.int (nI 0)), some (.int (nI 0))] [.int (nI 11), .int (nI 8)] g A _
                                                          refine rn_cge (t := 126) d_195_12 (by decide) (by first | omega | assumption | exact cu_36 (by omega) (cu_lt (by omega) (by omega))) (by first | omega | assumption | exact cu_36 (by omega) (cu_lt (by omega) (by omega))) (fun c12 => ?_) (fun c12 => ?_)
                                                          · omega
                                                          · refine rn_ic (v := 0) d_195_15 (by decide) ?_
                                                            refine rr_nx (pc' := 18) (al' := [some (.ref 146), some (.int (nI p)), some (.int (nI e)), some (.int (nI 5)), some (.int (nI 8)), some (.int (nI 0)), some (.int (nI 0)), some (.int (nI 0))]) (st' := []) d_195_16 (fun _ => rfl) ?_
                                                            refine rr_nx (pc' := 19) (al' := [some (.ref 146), some (.int (nI p)), some (.int (nI e)), some (.int (nI 5)), some (.int (nI 8)), some (.int (nI 0)), some (.int (nI 0)), some (.int (nI 0))]) (st' := [.ref 146]) d_195_18 (fun _ => rfl) ?_
                                                            refine rr_gf (v := .ref (147 + 6)) d_195_19 mo_195 fl_29 rfl ?_
                                                            refine rr_nx (pc' := 24) (al' := [some (.ref 146), some (.int (nI p)), some (.int (nI e)), some (.int (nI 5)), some (.int (nI 8)), some (.int (nI 0)), some (.int (nI 0)), some (.int (nI 0))]) (st' := [.int (nI 8), .ref (147 + 6)]) d_195_22 (fun _ => rfl) ?_
                                                            refine rr_nx (pc' := 26) (al' := [some (.ref 146), some (.int (nI p)), some (.int (nI e)), some (.int (nI 5)), some (.int (nI 8)), some (.int (nI 0)), some (.int (nI 0)), some (.int (nI 0))]) (st' := [.int (nI 0), .int (nI 8), .ref (147 + 6)]) d_195_24 (fun _ => rfl) ?_
                                                            refine rn_add d_195_26  ?_
                                                            refine rr_ba (j := 6) (v := (nI 105)) d_195_27 (by decide) (by decide) (by decide) (show 8 < 11 by first | omega | assumption | exact cu_36 (by omega) (cu_lt (by omega) (by omega))) (hW 8 (by decide)) ?_
                                                            refine rn_bp (v := 32) d_195_28 (by decide) ?_
                                                            refine rn_ceq (t := 39) d_195_30 (by decide) (by first | omega | assumption | exact cu_36 (by omega) (cu_lt (by omega) (by omega))) (by first | omega | assumption | exact cu_36 (by omega) (cu_lt (by omega) (by omega))) (fun c30 => ?_) (fun c30 => ?_)
                                                            · omega
                                                            · refine rn_inc d_195_33 rfl rfl ?_
                                                              show RR _ _ 36 [some (.ref 146), some (.int (nI p)), some (.int (nI e)), some (.int (nI 5)), some (.int (nI 8)), some (.int (nI 1)), some (.int (nI 0)), some (.int (nI 0))] [] g A _
                                                              refine rr_nx (pc' := 18) (al' := [some (.ref 146), some (.int (nI p)), some (.int (nI e)), some (.int (nI 5)), some (.int (nI 8)), some (.int (nI 1)), some (.int (nI 0)), some (.int (nI 0))]) (st' := []) d_195_36 (fun _ => rfl) ?_
                                                              refine rr_nx (pc' := 19) (al' := [some (.ref 146), some (.int (nI p)), some (.int (nI e)), some (.int (nI 5)), some (.int (nI 8)), some (.int (nI 1)), some (.int (nI 0)), some (.int (nI 0))]) (st' := [.ref 146]) d_195_18 (fun _ => rfl) ?_
                                                              refine rr_gf (v := .ref (147 + 6)) d_195_19 mo_195 fl_29 rfl ?_
                                                              refine rr_nx (pc' := 24) (al' := [some (.ref 146), some (.int (nI p)), some (.int (nI e)), some (.int (nI 5)), some (.int (nI 8)), some (.int (nI 1)), some (.int (nI 0)), some (.int (nI 0))]) (st' := [.int (nI 8), .ref (147 + 6)]) d_195_22 (fun _ => rfl) ?_
                                                              refine rr_nx (pc' := 26) (al' := [some (.ref 146), some (.int (nI p)), some (.int (nI e)), some (.int (nI 5)), some (.int (nI 8)), some (.int (nI 1)), some (.int (nI 0)), some (.int (nI 0))]) (st' := [.int (nI 1), .int (nI 8), .ref (147 + 6)]) d_195_24 (fun _ => rfl) ?_
                                                              refine rn_add d_195_26  ?_
                                                              refine rr_ba (j := 6) (v := (nI 102)) d_195_27 (by decide) (by decide) (by decide) (show 9 < 11 by first | omega | assumption | exact cu_36 (by omega) (cu_lt (by omega) (by omega))) (hW 9 (by decide)) ?_
                                                              refine rn_bp (v := 32) d_195_28 (by decide) ?_
                                                              refine rn_ceq (t := 39) d_195_30 (by decide) (by first | omega | assumption | exact cu_36 (by omega) (cu_lt (by omega) (by omega))) (by first | omega | assumption | exact cu_36 (by omega) (cu_lt (by omega) (by omega))) (fun c30 => ?_) (fun c30 => ?_)
                                                              · omega
                                                              · refine rn_inc d_195_33 rfl rfl ?_
                                                                show RR _ _ 36 [some (.ref 146), some (.int (nI p)), some (.int (nI e)), some (.int (nI 5)), some (.int (nI 8)), some (.int (nI 2)), some (.int (nI 0)), some (.int (nI 0))] [] g A _
                                                                refine rr_nx (pc' := 18) (al' := [some (.ref 146), some (.int (nI p)), some (.int (nI e)), some (.int (nI 5)), some (.int (nI 8)), some (.int (nI 2)), some (.int (nI 0)), some (.int (nI 0))]) (st' := []) d_195_36 (fun _ => rfl) ?_
                                                                refine rr_nx (pc' := 19) (al' := [some (.ref 146), some (.int (nI p)), some (.int (nI e)), some (.int (nI 5)), some (.int (nI 8)), some (.int (nI 2)), some (.int (nI 0)), some (.int (nI 0))]) (st' := [.ref 146]) d_195_18 (fun _ => rfl) ?_
                                                                refine rr_gf (v := .ref (147 + 6)) d_195_19 mo_195 fl_29 rfl ?_
                                                                refine rr_nx (pc' := 24) (al' := [some (.ref 146), some (.int (nI p)), some (.int (nI e)), some (.int (nI 5)), some (.int (nI 8)), some (.int (nI 2)), some (.int (nI 0)), some (.int (nI 0))]) (st' := [.int (nI 8), .ref (147 + 6)]) d_195_22 (fun _ => rfl) ?_
                                                                refine rr_nx (pc' := 26) (al' := [some (.ref 146), some (.int (nI p)), some (.int (nI e)), some (.int (nI 5)), some (.int (nI 8)), some (.int (nI 2)), some (.int (nI 0)), some (.int (nI 0))]) (st' := [.int (nI 2), .int (nI 8), .ref (147 + 6)]) d_195_24 (fun _ => rfl) ?_
                                                                refine rn_add d_195_26  ?_
                                                                refine rr_ba (j := 6) (v := (nI 32)) d_195_27 (by decide) (by decide) (by decide) (show 10 < 11 by first | omega | assumption | exact cu_36 (by omega) (cu_lt (by omega) (by omega))) (hW 10 (by decide)) ?_
                                                                refine rn_bp (v := 32) d_195_28 (by decide) ?_
                                                                refine rn_ceq (t := 39) d_195_30 (by decide) (by first | omega | assumption | exact cu_36 (by omega) (cu_lt (by omega) (by omega))) (by first | omega | assumption | exact cu_36 (by omega) (cu_lt (by omega) (by omega))) (fun c30 => ?_) (fun c30 => ?_)
                                                                · refine rr_nx (pc' := 41) (al' := [some (.ref 146), some (.int (nI p)), some (.int (nI e)), some (.int (nI 5)), some (.int (nI 8)), some (.int (nI 2)), some (.int (nI 0)), some (.int (nI 0))]) (st' := [.int (nI 2)]) d_195_39 (fun _ => rfl) ?_
                                                                  refine rr_nx (pc' := 42) (al' := [some (.ref 146), some (.int (nI p)), some (.int (nI e)), some (.int (nI 5)), some (.int (nI 8)), some (.int (nI 2)), some (.int (nI 0)), some (.int (nI 0))]) (st' := [.int (nI e), .int (nI 2)]) d_195_41 (fun _ => rfl) ?_
                                                                  refine rr_nx (pc' := 43) (al' := [some (.ref 146), some (.int (nI p)), some (.int (nI e)), some (.int (nI 5)), some (.int (nI 8)), some (.int (nI 2)), some (.int (nI 0)), some (.int (nI 0))]) (st' := [.int (nI p), .int (nI e), .int (nI 2)]) d_195_42 (fun _ => rfl) ?_
                                                                  refine rn_sub d_195_43 (by omega) ?_
                                                                  refine rn_cne (t := 51) d_195_44 (by decide) (by first | omega | assumption | exact cu_36 (by omega) (cu_lt (by omega) (by omega))) (by first | omega | assumption | exact cu_36 (by omega) (cu_lt (by omega) (by omega))) (fun c44 => ?_) (fun c44 => ?_)
                                                                  · refine rn_ic (v := 0) d_195_51 (by decide) ?_
                                                                    refine rr_nx (pc' := 54) (al' := [some (.ref 146), some (.int (nI p)), some (.int (nI e)), some (.int (nI 5)), some (.int (nI 8)), some (.int (nI 2)), some (.int (nI 0)), some (.int (nI 0))]) (st' := []) d_195_52 (fun _ => rfl) ?_
                                                                    refine rn_ic (v := 0) d_195_54 (by decide) ?_
                                                                    refine rr_nx (pc' := 57) (al' := [some (.ref 146), some (.int (nI p)), some (.int (nI e)), some (.int (nI 5)), some (.int (nI 8)), some (.int (nI 2)), some (.int (nI 0)), some (.int (nI 0))]) (st' := []) d_195_55 (fun _ => rfl) ?_
                                                                    refine rr_nx (pc' := 59) (al' := [some (.ref 146), some (.int (nI p)), some (.int (nI e)), some (.int (nI 5)), some (.int (nI 8)), some (.int (nI 2)), some (.int (nI 0)), some (.int (nI 0))]) (st' := [.int (nI 0)]) d_195_57 (fun _ => rfl) ?_
                                                                    refine rr_nx (pc' := 61) (al' := [some (.ref 146), some (.int (nI p)), some (.int (nI e)), some (.int (nI 5)), some (.int (nI 8)), some (.int (nI 2)), some (.int (nI 0)), some (.int (nI 0))]) (st' := [.int (nI 2), .int (nI 0)]) d_195_59 (fun _ => rfl) ?_
                                                                    refine rn_cge (t := 104) d_195_61 (by decide) (by first | omega | assumption | exact cu_36 (by omega) (cu_lt (by omega) (by omega))) (by first | omega | assumption | exact cu_36 (by omega) (cu_lt (by omega) (by omega))) (fun c61 => ?_) (fun c61 => ?_)
                                                                    · omega
                                                                    · refine rr_nx (pc' := 66) (al' := [some (.ref 146), some (.int (nI p)), some (.int (nI e)), some (.int (nI 5)), some (.int (nI 8)), some (.int (nI 2)), some (.int (nI 0)), some (.int (nI 0))]) (st' := [.int (nI 0)]) d_195_64 (fun _ => rfl) ?_
                                                                      refine rn_ieq (t := 104) d_195_66 (by decide) (by first | omega | assumption | exact cu_36 (by omega) (cu_lt (by omega) (by omega))) (fun c66 => ?_) (fun c66 => ?_)
                                                                      · refine rr_nx (pc' := 106) (al' := [some (.ref 146), some (.int (nI p)), some (.int (nI e)), some (.int (nI 5)), some (.int (nI 8)), some (.int (nI 2)), some (.int (nI 0)), some (.int (nI 0))]) (st' := [.int (nI 0)]) d_195_104 (fun _ => rfl) ?_
                                                                        refine rn_ieq (t := 111) d_195_106 (by decide) (by first | omega | assumption | exact cu_36 (by omega) (cu_lt (by omega) (by omega))) (fun c106 => ?_) (fun c106 => ?_)
                                                                        · refine rr_nx (pc' := 113) (al' := [some (.ref 146), some (.int (nI p)), some (.int (nI e)), some (.int (nI 5)), some (.int (nI 8)), some (.int (nI 2)), some (.int (nI 0)), some (.int (nI 0))]) (st' := [.int (nI 8)]) d_195_111 (fun _ => rfl) ?_
                                                                          refine rr_nx (pc' := 115) (al' := [some (.ref 146), some (.int (nI p)), some (.int (nI e)), some (.int (nI 5)), some (.int (nI 8)), some (.int (nI 2)), some (.int (nI 0)), some (.int (nI 0))]) (st' := [.int (nI 2), .int (nI 8)]) d_195_113 (fun _ => rfl) ?_
                                                                          refine rn_ic (v := 1) d_195_115 (by decide) ?_
                                                                          refine rn_add d_195_116  ?_
                                                                          refine rn_add d_195_117  ?_
                                                                          refine rr_nx (pc' := 120) (al' := [some (.ref 146), some (.int (nI p)), some (.int (nI e)), some (.int (nI 5)), some (.int (nI 11)), some (.int (nI 2)), some (.int (nI 0)), some (.int (nI 0))]) (st' := []) d_195_118 (fun _ => rfl) ?_
                                                                          refine rn_inc d_195_120 rfl rfl ?_
                                                                          show RR _ _ 123 [some (.ref 146), some (.int (nI p)), some (.int (nI e)), some (.int (nI 6)), some (.int (nI 11)), some (.int (nI 2)), some (.int (nI 0)), some (.int (nI 0))] [] g A _
                                                                          refine rr_nx (pc' := 5) (al' := [some (.ref 146), some (.int (nI p)), some (.int (nI e)), some (.int (nI 6)), some (.int (nI 11)), some (.int (nI 2)), some (.int (nI 0)), some (.int (nI 0))]) (st' := []) d_195_123 (fun _ => rfl) ?_
                                                                          refine rr_nx (pc' := 7) (al' := [some (.ref 146), some (.int (nI p)), some (.int (nI e)), some (.int (nI 6)), some (.int (nI 11)), some (.int (nI 2)), some (.int (nI 0)), some (.int (nI 0))]) (st' := [.int (nI 11)]) d_195_5 (fun _ => rfl) ?_
                                                                          refine rr_nx (pc' := 8) (al' := [some (.ref 146), some (.int (nI p)), some (.int (nI e)), some (.int (nI 6)), some (.int (nI 11)), some (.int (nI 2)), some (.int (nI 0)), some (.int (nI 0))]) (st' := [.ref 146, .int (nI 11)]) d_195_7 (fun _ => rfl) ?_
                                                                          refine rr_gf (v := .ref (147 + 6)) d_195_8 mo_195 fl_29 rfl ?_
                                                                          refine rr_le (j := 6) d_195_11 (by decide) (by decide) ?_
                                                                          show RR _ _ 12 [some (.ref 146), some (.int (nI p)), some (.int (nI e)), some (.int (nI 6)), some (.int (nI 11)), some (.int (nI 2)), some (.int (nI 0)), some (.int (nI 0))] [.int (nI 11), .int (nI 11)] g A _
                                                                          refine rn_cge (t := 126) d_195_12 (by decide) (by first | omega | assumption | exact cu_36 (by omega) (cu_lt (by omega) (by omega))) (by first | omega | assumption | exact cu_36 (by omega) (cu_lt (by omega) (by omega))) (fun c12 => ?_) (fun c12 => ?_)
                                                                          · refine rn_ic (v := 0) d_195_126 (by decide) ?_
                                                                            exact rr_ri d_195_127 mr_195 rfl ⟨by rw [wdN, if_neg (by omega), if_neg (by omega)], rfl, rfl⟩
                                                                          · omega
                                                                        · omega
                                                                      · omega
                                                                  · omega
                                                                · omega
                                                        · omega
                                                      · omega
                                                  · omega
                                                · omega
                                          · omega
                                        · omega
                                    · omega
                                  · omega
                            · omega
                          · omega
                      · omega
                    · omega
              · omega
            · omega
        · omega
      · omega
theorem s_wordOf {g : Nat → Int32} {A : Nat → Nat → Int32} {t : Nat → Nat} {p len e : Nat} (hW : ∀ i, i < 11 → A 6 i = wrd i) (hlen : len ≤ 400) (hB : ∀ i, i < len → A 7 i = bI8 (t i)) (hb : ∀ i, i < len → t i < 256) (he : p < e) (hel : e ≤ len) : RR 0 195 0 [some (.ref 146), some (.int (nI p)), some (.int (nI e)), none, none, none, none, none] [] g A (rP (some (.int (nI (wdN t p e)))) g A) := by
  by_cases h1 : e = p + 1
  · subst h1
    exact s_wordOf1 hW hlen hB hb hel
  · by_cases h2 : e = p + 2
    · subst h2
      exact s_wordOf2 hW hlen hB hb hel
    · exact s_wordOf3 hW hlen hB hb (by omega) hel
theorem skp_b {t : Nat → Nat} {len k : Nat} (hk : k < len) (h : t k = 32) : skp t len (k + 1) = skp t len k := by
  obtain ⟨a1, a2, a3, a4⟩ := skp_f (t := t) (len := len) (p := k) (by omega)
  obtain ⟨b1, b2, b3, b4⟩ := skp_f (t := t) (len := len) (p := k + 1) (by omega)
  have h0 : k < skp t len k := by
    rcases Nat.lt_or_ge k (skp t len k) with q | q
    · exact q
    · have e : skp t len k = k := by omega
      have := a4 (by omega)
      rw [e] at this
      exact absurd h this
  rcases Nat.lt_trichotomy (skp t len (k + 1)) (skp t len k) with q | q | q
  · exact absurd (a3 _ (by omega) q) (b4 (by omega))
  · exact q
  · exact absurd (b3 _ (by omega) q) (a4 (by omega))
theorem skp_h {t : Nat → Nat} {len k : Nat} (hk : k < len) (h : ¬ t k = 32) : skp t len k = k := by
  obtain ⟨a1, a2, a3, a4⟩ := skp_f (t := t) (len := len) (p := k) (by omega)
  rcases Nat.lt_or_ge k (skp t len k) with q | q
  · exact absurd (a3 k (Nat.le_refl k) q) h
  · omega
theorem tkN_u {t : Nat → Nat} {len j : Nat} (h1 : ∀ i, i < j → tkP t len i < len) (h2 : tkP t len j = len) : tkN t len = j := by
  obtain ⟨a1, a2, a3⟩ := tkN_f (t := t) (len := len)
  rcases Nat.lt_trichotomy (tkN t len) j with q | q | q
  · have := h1 _ q
    omega
  · exact q
  · have := a2 _ q
    omega
theorem cdR_lt {t : Nat → Nat} {p e : Nat} (h : t p < 256) : cdR t p e < 400 := by
  unfold cdR
  split
  · unfold wdN
    repeat' split
    all_goals omega
  · split <;> omega
theorem s_splits {g : Nat → Int32} {A : Nat → Nat → Int32} {t : Nat → Nat} {len : Nat} (hW : ∀ i, i < 11 → A 6 i = wrd i) (hlen : len ≤ 400) (hB : ∀ i, i < len → A 7 i = bI8 (t i)) (hb : ∀ i, i < len → t i < 256) : RR 1 192 0 [some (.ref 146), some (.int (nI len)), none, none, none, none] [] g A (fun r_ g' A' => r_ = none ∧ TkA (tkC t len) (tkP t len) (tkN t len) A' ∧ g' 18 = nI (tkN t len) ∧ (∀ k, k ≠ 18 → g' k = g k) ∧ Ksm A A') := by
  refine rr_nx (pc' := 1) (al' := [some (.ref 146), some (.int (nI len)), none, none, none, none]) (st' := [.ref 146]) d_192_0 (fun _ => rfl) ?_
  refine rn_ic (v := 0) d_192_1 (by decide) ?_
  refine rp_18 d_192_2 mo_192 fl_140  ?_
  refine rn_ic (v := 0) d_192_5 (by decide) ?_
  refine rr_nx (pc' := 7) (al' := [some (.ref 146), some (.int (nI len)), some (.int (nI 0)), none, none, none]) (st' := []) d_192_6 (fun _ => rfl) ?_
  refine rr_al (congrArg (fun z__ : Nat => ([some (.ref 146), some (.int (nI len)), some (.int (nI z__)), none, none, none] : AL)) (show 0 = (0, 0, (upd g 18 (nI 0)), A).1 by rfl)) ?_
  refine rr_upw (al := fun i u_ => [some (.ref 146), some (.int (nI len)), some (.int (nI u_.1)), none, none, none]) (G := fun i u_ => u_.2.2.1) (B := fun i u_ => u_.2.2.2) (P := fun i u_ => (i ≤ u_.1 ∧ u_.1 ≤ len ∧ skp t len u_.1 = tkP t len u_.2.1 ∧ u_.2.1 ≤ u_.1) ∧ (u_.2.2.1 18 = nI u_.2.1 ∧ ∀ k, k ≠ 18 → u_.2.2.1 k = g k) ∧ (∀ j, j < u_.2.1 → tkP t len j < len ∧ u_.2.2.2 9 j = nI (tkC t len j) ∧ u_.2.2.2 11 j = nI (tkP t len j)) ∧ Ksm A u_.2.2.2) (n := len) (fun i u_ hi pi ihi => ?_) (fun u_ pi => ?_) 0 (0, 0, (upd g 18 (nI 0)), A) (by omega) (⟨⟨Nat.le_refl _, Nat.zero_le _, rfl, Nat.le_refl _⟩, ⟨by dsimp only; rw [pk_us], fun k hk => by dsimp only; rw [pk_un hk]⟩, fun j hj => absurd hj (Nat.not_lt_zero j), Ksm.rf⟩)
  · show RR _ _ 7 [some (.ref 146), some (.int (nI len)), some (.int (nI u_.1)), none, none, none] [] u_.2.2.1 u_.2.2.2 _
    have hi0 := pi.1.1
    have hi1 := pi.1.2.1
    have hi2 := pi.1.2.2.2
    refine rr_nx (pc' := 8) (al' := [some (.ref 146), some (.int (nI len)), some (.int (nI u_.1)), none, none, none]) (st' := [.int (nI u_.1)]) d_192_7 (fun _ => rfl) ?_
    refine rr_nx (pc' := 9) (al' := [some (.ref 146), some (.int (nI len)), some (.int (nI u_.1)), none, none, none]) (st' := [.int (nI len), .int (nI u_.1)]) d_192_8 (fun _ => rfl) ?_
    refine rn_cge (t := 263) d_192_9 (by decide) (by first | omega | assumption | exact cu_36 (by omega) (cu_lt (by omega) (by omega))) (by first | omega | assumption | exact cu_36 (by omega) (cu_lt (by omega) (by omega))) (fun c9 => ?_) (fun c9 => ?_)
    · refine rr_nx (pc' := 264) (al' := [some (.ref 146), some (.int (nI len)), some (.int (nI u_.1)), none, none, none]) (st' := [.ref 146]) d_192_263 (fun _ => rfl) ?_
      refine rr_gf (v := .ref (147 + 11)) d_192_264 mo_192 fl_49 rfl ?_
      refine rr_nx (pc' := 268) (al' := [some (.ref 146), some (.int (nI len)), some (.int (nI u_.1)), none, none, none]) (st' := [.ref 146, .ref (147 + 11)]) d_192_267 (fun _ => rfl) ?_
      refine rr_gn d_192_268 mo_192 fl_140 rfl pi.2.1.1 ?_
      refine rr_nx (pc' := 272) (al' := [some (.ref 146), some (.int (nI len)), some (.int (nI u_.1)), none, none, none]) (st' := [.int (nI len), .int (nI u_.2.1), .ref (147 + 11)]) d_192_271 (fun _ => rfl) ?_
      refine rr_iS (j := 11) (A1 := (rf_u u_.2.2.2 11 (upd (u_.2.2.2 11) u_.2.1 (nI len)))) d_192_272 (by decide) rfl (by decide) (show u_.2.1 < 401 by first | omega | assumption | exact cu_36 (by omega) (cu_lt (by omega) (by omega))) rfl ?_
      refine rr_nx (pc' := 274) (al' := [some (.ref 146), some (.int (nI len)), some (.int (nI u_.1)), none, none, none]) (st' := [.ref 146]) d_192_273 (fun _ => rfl) ?_
      refine rr_gf (v := .ref (147 + 9)) d_192_274 mo_192 fl_43 rfl ?_
      refine rr_nx (pc' := 278) (al' := [some (.ref 146), some (.int (nI len)), some (.int (nI u_.1)), none, none, none]) (st' := [.ref 146, .ref (147 + 9)]) d_192_277 (fun _ => rfl) ?_
      refine rr_gn d_192_278 mo_192 fl_140 rfl pi.2.1.1 ?_
      refine rn_ic (v := 0) d_192_281 (by decide) ?_
      refine rr_iS (j := 9) (A1 := (rf_u (rf_u u_.2.2.2 11 (upd (u_.2.2.2 11) u_.2.1 (nI len))) 9 (upd (u_.2.2.2 9) u_.2.1 (nI 0)))) d_192_282 (by decide) rfl (by decide) (show u_.2.1 < 401 by first | omega | assumption | exact cu_36 (by omega) (cu_lt (by omega) (by omega))) rfl ?_
      refine rr_nx (pc' := 284) (al' := [some (.ref 146), some (.int (nI len)), some (.int (nI u_.1)), none, none, none]) (st' := [.ref 146]) d_192_283 (fun _ => rfl) ?_
      refine rr_gf (v := .ref (147 + 10)) d_192_284 mo_192 fl_46 rfl ?_
      refine rr_nx (pc' := 288) (al' := [some (.ref 146), some (.int (nI len)), some (.int (nI u_.1)), none, none, none]) (st' := [.ref 146, .ref (147 + 10)]) d_192_287 (fun _ => rfl) ?_
      refine rr_gn d_192_288 mo_192 fl_140 rfl pi.2.1.1 ?_
      refine rn_ic (v := 0) d_192_291 (by decide) ?_
      refine rr_iS (j := 10) (A1 := (rf_u (rf_u (rf_u u_.2.2.2 11 (upd (u_.2.2.2 11) u_.2.1 (nI len))) 9 (upd (u_.2.2.2 9) u_.2.1 (nI 0))) 10 (upd (u_.2.2.2 10) u_.2.1 (nI 0)))) d_192_292 (by decide) rfl (by decide) (show u_.2.1 < 401 by first | omega | assumption | exact cu_36 (by omega) (cu_lt (by omega) (by omega))) rfl ?_
      exact rr_rv d_192_293 mr_192 (by
          have hl0 : u_.1 = len := by omega
          have hlast : tkP t len u_.2.1 = len := by
            rw [← pi.1.2.2.1, hl0]
            have := skp_f (t := t) (len := len) (p := len) (Nat.le_refl _)
            omega
          have hN := tkN_u (fun i hi => (pi.2.2.1 i hi).1) hlast
          refine ⟨rfl, ⟨by rw [hN]; omega, by show tkC t len (tkN t len) = 0; unfold tkC; rw [hN, hlast, if_neg (Nat.lt_irrefl _)], fun j hj => ?_⟩, by rw [hN]; exact pi.2.1.1, pi.2.1.2, ((pi.2.2.2.u (by decide)).u (by decide)).u (by decide)⟩
          rw [hN] at hj
          have hp4 := tkP_le (t := t) (len := len) j
          by_cases q : j = u_.2.1
          · subst q
            refine ⟨by rw [rf_u_n (by decide), rf_u_s, pk_us, tkC, hlast, if_neg (Nat.lt_irrefl _)], by rw [rf_u_n (by decide), rf_u_n (by decide), rf_u_s, pk_us, hlast], by rw [tkC, hlast, if_neg (Nat.lt_irrefl _)]; decide, by omega⟩
          · obtain ⟨z1, z2, z3⟩ := pi.2.2.1 j (by omega)
            refine ⟨by rw [rf_u_n (by decide), rf_u_s, pk_un q]; exact z2, by rw [rf_u_n (by decide), rf_u_n (by decide), rf_u_s, pk_un q]; exact z3, by rw [tkC, if_pos z1]; exact cdR_lt (hb _ z1), by omega⟩)
    · refine rr_nx (pc' := 13) (al' := [some (.ref 146), some (.int (nI len)), some (.int (nI u_.1)), none, none, none]) (st' := [.ref 146]) d_192_12 (fun _ => rfl) ?_
      refine rr_gf (v := .ref (147 + 7)) d_192_13 mo_192 fl_33 rfl ?_
      refine rr_nx (pc' := 17) (al' := [some (.ref 146), some (.int (nI len)), some (.int (nI u_.1)), none, none, none]) (st' := [.int (nI u_.1), .ref (147 + 7)]) d_192_16 (fun _ => rfl) ?_
      refine rr_ba (j := 7) (v := (bI8 (t u_.1))) d_192_17 (by decide) (by decide) (by decide) (show u_.1 < 400 by first | omega | assumption | exact cu_36 (by omega) (cu_lt (by omega) (by omega))) (show u_.2.2.2 7 _ = _ by rw [pi.2.2.2 7 (by decide)]; exact hB _ (by omega)) ?_
      refine rr_nx (pc' := 19) (al' := [some (.ref 146), some (.int (nI len)), some (.int (nI u_.1)), some (.int (bI8 (t u_.1))), none, none]) (st' := []) d_192_18 (fun _ => rfl) ?_
      refine rr_nx (pc' := 20) (al' := [some (.ref 146), some (.int (nI len)), some (.int (nI u_.1)), some (.int (bI8 (t u_.1))), none, none]) (st' := [.int (bI8 (t u_.1))]) d_192_19 (fun _ => rfl) ?_
      refine rn_bp (v := 32) d_192_20 (by decide) ?_
      refine rr_cne (t := 31) d_192_22 (by decide) (fun c22 => ?_) (fun c22 => ?_)
      · have hkj : tkP t len u_.2.1 = u_.1 := by rw [← pi.1.2.2.1]; exact skp_h c9 (fun q => c22 ((b8_32 _ (hb _ (by omega))).mpr q))
        have hjN : u_.2.1 ≤ 400 := by have := pi.1.2.2.2; omega
        refine rr_nx (pc' := 32) (al' := [some (.ref 146), some (.int (nI len)), some (.int (nI u_.1)), some (.int (bI8 (t u_.1))), none, none]) (st' := [.int (nI u_.1)]) d_192_31 (fun _ => rfl) ?_
        refine rn_ic (v := 1) d_192_32 (by decide) ?_
        refine rn_add d_192_33  ?_
        refine rr_nx (pc' := 36) (al' := [some (.ref 146), some (.int (nI len)), some (.int (nI u_.1)), some (.int (bI8 (t u_.1))), some (.int (nI (u_.1 + 1))), none]) (st' := []) d_192_34 (fun _ => rfl) ?_
        refine rr_nx (pc' := 37) (al' := [some (.ref 146), some (.int (nI len)), some (.int (nI u_.1)), some (.int (bI8 (t u_.1))), some (.int (nI (u_.1 + 1))), none]) (st' := [.int (bI8 (t u_.1))]) d_192_36 (fun _ => rfl) ?_
        refine rr_ps (as := [.int (bI8 (t u_.1))]) (al0 := [some (.int (bI8 (t u_.1)))]) (r := []) d_192_37 mo_192 ml_143 mz_193 rfl rfl rfl (Nat.le_of_ble_eq_true rfl) (s_isSmall (bI8 (t u_.1))) ?_
        show RR _ _ 40 [some (.ref 146), some (.int (nI len)), some (.int (nI u_.1)), some (.int (bI8 (t u_.1))), some (.int (nI (u_.1 + 1))), none] [.int (bI (nI 97 ≤ (bI8 (t u_.1)) ∧ (bI8 (t u_.1)) ≤ nI 122))] u_.2.2.1 u_.2.2.2 _
        refine rr_beq (t := 68) d_192_40 (by decide) (fun c40 => ?_) (fun c40 => ?_)
        · have hs : ¬ isS (t u_.1) = true := fun q => c40 ((b8_S _ (hb _ (by omega))).mpr q)
          refine rr_nx (pc' := 69) (al' := [some (.ref 146), some (.int (nI len)), some (.int (nI u_.1)), some (.int (bI8 (t u_.1))), some (.int (nI (u_.1 + 1))), none]) (st' := [.int (bI8 (t u_.1))]) d_192_68 (fun _ => rfl) ?_
          refine rr_ps (as := [.int (bI8 (t u_.1))]) (al0 := [some (.int (bI8 (t u_.1)))]) (r := []) d_192_69 mo_192 ml_146 mz_194 rfl rfl rfl (Nat.le_of_ble_eq_true rfl) (s_isDigit (bI8 (t u_.1))) ?_
          show RR _ _ 72 [some (.ref 146), some (.int (nI len)), some (.int (nI u_.1)), some (.int (bI8 (t u_.1))), some (.int (nI (u_.1 + 1))), none] [.int (bI (nI 48 ≤ (bI8 (t u_.1)) ∧ (bI8 (t u_.1)) ≤ nI 57))] u_.2.2.1 u_.2.2.2 _
          refine rr_beq (t := 100) d_192_72 (by decide) (fun c72 => ?_) (fun c72 => ?_)
          · obtain ⟨E, hE⟩ : ∃ E, E = u_.1 + 1 := ⟨_, rfl⟩
            have hdg : ¬ isDg (t u_.1) = true := fun q => c72 ((b8_D _ (hb _ (by omega))).mpr q)
            have hto : enR t len u_.1 = u_.1 + 1 := by unfold enR; rw [if_pos c9, if_neg hs, if_neg hdg]
            have hcd : 100 + t u_.1 = cdR t u_.1 (u_.1 + 1) := by unfold cdR; rw [if_neg hs, if_neg hdg]
            refine rr_nx (pc' := 101) (al' := [some (.ref 146), some (.int (nI len)), some (.int (nI u_.1)), some (.int (bI8 (t u_.1))), some (.int (nI (u_.1 + 1))), none]) (st' := [.ref 146]) d_192_100 (fun _ => rfl) ?_
            refine rr_gf (v := .ref (147 + 11)) d_192_101 mo_192 fl_49 rfl ?_
            refine rr_nx (pc' := 105) (al' := [some (.ref 146), some (.int (nI len)), some (.int (nI u_.1)), some (.int (bI8 (t u_.1))), some (.int (nI (u_.1 + 1))), none]) (st' := [.ref 146, .ref (147 + 11)]) d_192_104 (fun _ => rfl) ?_
            refine rr_gn d_192_105 mo_192 fl_140 rfl pi.2.1.1 ?_
            refine rr_nx (pc' := 109) (al' := [some (.ref 146), some (.int (nI len)), some (.int (nI u_.1)), some (.int (bI8 (t u_.1))), some (.int (nI (u_.1 + 1))), none]) (st' := [.int (nI u_.1), .int (nI u_.2.1), .ref (147 + 11)]) d_192_108 (fun _ => rfl) ?_
            refine rr_iS (j := 11) (A1 := (rf_u u_.2.2.2 11 (upd (u_.2.2.2 11) u_.2.1 (nI u_.1)))) d_192_109 (by decide) rfl (by decide) (show u_.2.1 < 401 by first | omega | assumption | exact cu_36 (by omega) (cu_lt (by omega) (by omega))) rfl ?_
            refine rr_nx (pc' := 111) (al' := [some (.ref 146), some (.int (nI len)), some (.int (nI u_.1)), some (.int (bI8 (t u_.1))), some (.int (nI (u_.1 + 1))), none]) (st' := [.ref 146]) d_192_110 (fun _ => rfl) ?_
            refine rr_gf (v := .ref (147 + 10)) d_192_111 mo_192 fl_46 rfl ?_
            refine rr_nx (pc' := 115) (al' := [some (.ref 146), some (.int (nI len)), some (.int (nI u_.1)), some (.int (bI8 (t u_.1))), some (.int (nI (u_.1 + 1))), none]) (st' := [.ref 146, .ref (147 + 10)]) d_192_114 (fun _ => rfl) ?_
            refine rr_gn d_192_115 mo_192 fl_140 rfl pi.2.1.1 ?_
            refine rn_ic (v := 0) d_192_118 (by decide) ?_
            refine rr_iS (j := 10) (A1 := (rf_u (rf_u u_.2.2.2 11 (upd (u_.2.2.2 11) u_.2.1 (nI u_.1))) 10 (upd (u_.2.2.2 10) u_.2.1 (nI 0)))) d_192_119 (by decide) rfl (by decide) (show u_.2.1 < 401 by first | omega | assumption | exact cu_36 (by omega) (cu_lt (by omega) (by omega))) rfl ?_
            refine rr_nx (pc' := 121) (al' := [some (.ref 146), some (.int (nI len)), some (.int (nI u_.1)), some (.int (bI8 (t u_.1))), some (.int (nI (u_.1 + 1))), none]) (st' := [.ref 146]) d_192_120 (fun _ => rfl) ?_
            refine rr_gf (v := .ref (147 + 9)) d_192_121 mo_192 fl_43 rfl ?_
            refine rr_nx (pc' := 125) (al' := [some (.ref 146), some (.int (nI len)), some (.int (nI u_.1)), some (.int (bI8 (t u_.1))), some (.int (nI (u_.1 + 1))), none]) (st' := [.ref 146, .ref (147 + 9)]) d_192_124 (fun _ => rfl) ?_
            refine rr_gn d_192_125 mo_192 fl_140 rfl pi.2.1.1 ?_
            refine rr_nx (pc' := 129) (al' := [some (.ref 146), some (.int (nI len)), some (.int (nI u_.1)), some (.int (bI8 (t u_.1))), some (.int (nI (u_.1 + 1))), none]) (st' := [.int (bI8 (t u_.1)), .int (nI u_.2.1), .ref (147 + 9)]) d_192_128 (fun _ => rfl) ?_
            refine rr_ps (as := [.int (bI8 (t u_.1))]) (al0 := [some (.int (bI8 (t u_.1)))]) (r := [.int (nI u_.2.1), .ref (147 + 9)]) d_192_129 mo_192 ml_143 mz_193 rfl rfl rfl (Nat.le_of_ble_eq_true rfl) (s_isSmall (bI8 (t u_.1))) ?_
            show RR _ _ 132 [some (.ref 146), some (.int (nI len)), some (.int (nI u_.1)), some (.int (bI8 (t u_.1))), some (.int (nI (u_.1 + 1))), none] [.int (bI (nI 97 ≤ (bI8 (t u_.1)) ∧ (bI8 (t u_.1)) ≤ nI 122)), .int (nI u_.2.1), .ref (147 + 9)] u_.2.2.1 (rf_u (rf_u u_.2.2.2 11 (upd (u_.2.2.2 11) u_.2.1 (nI u_.1))) 10 (upd (u_.2.2.2 10) u_.2.1 (nI 0))) _
            refine rr_beq (t := 145) d_192_132 (by decide) (fun c132 => ?_) (fun c132 => ?_)
            · refine rr_nx (pc' := 146) (al' := [some (.ref 146), some (.int (nI len)), some (.int (nI u_.1)), some (.int (bI8 (t u_.1))), some (.int (nI (u_.1 + 1))), none]) (st' := [.int (bI8 (t u_.1)), .int (nI u_.2.1), .ref (147 + 9)]) d_192_145 (fun _ => rfl) ?_
              refine rr_ps (as := [.int (bI8 (t u_.1))]) (al0 := [some (.int (bI8 (t u_.1)))]) (r := [.int (nI u_.2.1), .ref (147 + 9)]) d_192_146 mo_192 ml_146 mz_194 rfl rfl rfl (Nat.le_of_ble_eq_true rfl) (s_isDigit (bI8 (t u_.1))) ?_
              show RR _ _ 149 [some (.ref 146), some (.int (nI len)), some (.int (nI u_.1)), some (.int (bI8 (t u_.1))), some (.int (nI (u_.1 + 1))), none] [.int (bI (nI 48 ≤ (bI8 (t u_.1)) ∧ (bI8 (t u_.1)) ≤ nI 57)), .int (nI u_.2.1), .ref (147 + 9)] u_.2.2.1 (rf_u (rf_u u_.2.2.2 11 (upd (u_.2.2.2 11) u_.2.1 (nI u_.1))) 10 (upd (u_.2.2.2 10) u_.2.1 (nI 0))) _
              refine rr_beq (t := 157) d_192_149 (by decide) (fun c149 => ?_) (fun c149 => ?_)
              · refine rn_bp (v := 100) d_192_157 (by decide) ?_
                refine rr_nx (pc' := 160) (al' := [some (.ref 146), some (.int (nI len)), some (.int (nI u_.1)), some (.int (bI8 (t u_.1))), some (.int (nI (u_.1 + 1))), none]) (st' := [.int (bI8 (t u_.1)), .int (nI 100), .int (nI u_.2.1), .ref (147 + 9)]) d_192_159 (fun _ => rfl) ?_
                refine rn_sp (v := 255) d_192_160 (by decide) ?_
                refine rr_nx (pc' := 164) (al' := [some (.ref 146), some (.int (nI len)), some (.int (nI u_.1)), some (.int (bI8 (t u_.1))), some (.int (nI (u_.1 + 1))), none]) (st' := [.int ((bI8 (t u_.1)) &&& (nI 255)), .int (nI 100), .int (nI u_.2.1), .ref (147 + 9)]) d_192_163 (fun _ => rfl) ?_
                refine rr_tp (z := (nI (t u_.1))) (b8_255 _ (hb _ (by omega))) ?_
                refine rn_add d_192_164  ?_
                refine rr_iS (j := 9) (A1 := (rf_u (rf_u (rf_u u_.2.2.2 11 (upd (u_.2.2.2 11) u_.2.1 (nI u_.1))) 10 (upd (u_.2.2.2 10) u_.2.1 (nI 0))) 9 (upd (u_.2.2.2 9) u_.2.1 (nI (100 + (t u_.1)))))) d_192_165 (by decide) rfl (by decide) (show u_.2.1 < 401 by first | omega | assumption | exact cu_36 (by omega) (cu_lt (by omega) (by omega))) rfl ?_
                refine rr_nx (pc' := 167) (al' := [some (.ref 146), some (.int (nI len)), some (.int (nI u_.1)), some (.int (bI8 (t u_.1))), some (.int (nI (u_.1 + 1))), none]) (st' := [.int (nI u_.1)]) d_192_166 (fun _ => rfl) ?_
                refine rr_nx (pc' := 169) (al' := [some (.ref 146), some (.int (nI len)), some (.int (nI u_.1)), some (.int (bI8 (t u_.1))), some (.int (nI (u_.1 + 1))), some (.int (nI u_.1))]) (st' := []) d_192_167 (fun _ => rfl) ?_
                refine rr_upw (al := fun v w10 => [some (.ref 146), some (.int (nI len)), some (.int (nI u_.1)), some (.int (bI8 (t u_.1))), some (.int (nI (u_.1 + 1))), some (.int (nI v))]) (G := fun v w10 => u_.2.2.1) (B := fun v w10 => (rf_u (rf_u (rf_u u_.2.2.2 11 (upd (u_.2.2.2 11) u_.2.1 (nI u_.1))) 10 w10) 9 (upd (u_.2.2.2 9) u_.2.1 (nI (100 + (t u_.1)))))) (P := fun v w10 => u_.1 ≤ v) (n := E) (fun v w10 hv pv ihv => ?_) (fun w10 pv => ?_) u_.1 (upd (u_.2.2.2 10) u_.2.1 (nI 0)) (by omega) (Nat.le_refl _)
                · show RR _ _ 169 [some (.ref 146), some (.int (nI len)), some (.int (nI u_.1)), some (.int (bI8 (t u_.1))), some (.int (nI (u_.1 + 1))), some (.int (nI v))] [] u_.2.2.1 (rf_u (rf_u (rf_u u_.2.2.2 11 (upd (u_.2.2.2 11) u_.2.1 (nI u_.1))) 10 w10) 9 (upd (u_.2.2.2 9) u_.2.1 (nI (100 + (t u_.1))))) _
                  refine rr_nx (pc' := 171) (al' := [some (.ref 146), some (.int (nI len)), some (.int (nI u_.1)), some (.int (bI8 (t u_.1))), some (.int (nI (u_.1 + 1))), some (.int (nI v))]) (st' := [.int (nI v)]) d_192_169 (fun _ => rfl) ?_
                  refine rr_nx (pc' := 173) (al' := [some (.ref 146), some (.int (nI len)), some (.int (nI u_.1)), some (.int (bI8 (t u_.1))), some (.int (nI (u_.1 + 1))), some (.int (nI v))]) (st' := [.int (nI (u_.1 + 1)), .int (nI v)]) d_192_171 (fun _ => rfl) ?_
                  refine rn_cge (t := 247) d_192_173 (by decide) (by first | omega | assumption | exact cu_36 (by omega) (cu_lt (by omega) (by omega))) (by first | omega | assumption | exact cu_36 (by omega) (cu_lt (by omega) (by omega))) (fun c173 => ?_) (fun c173 => ?_)
                  · omega
                  · refine rr_nx (pc' := 177) (al' := [some (.ref 146), some (.int (nI len)), some (.int (nI u_.1)), some (.int (bI8 (t u_.1))), some (.int (nI (u_.1 + 1))), some (.int (nI v))]) (st' := [.int (bI8 (t u_.1))]) d_192_176 (fun _ => rfl) ?_
                    refine rr_ps (as := [.int (bI8 (t u_.1))]) (al0 := [some (.int (bI8 (t u_.1)))]) (r := []) d_192_177 mo_192 ml_146 mz_194 rfl rfl rfl (Nat.le_of_ble_eq_true rfl) (s_isDigit (bI8 (t u_.1))) ?_
                    show RR _ _ 180 [some (.ref 146), some (.int (nI len)), some (.int (nI u_.1)), some (.int (bI8 (t u_.1))), some (.int (nI (u_.1 + 1))), some (.int (nI v))] [.int (bI (nI 48 ≤ (bI8 (t u_.1)) ∧ (bI8 (t u_.1)) ≤ nI 57))] u_.2.2.1 (rf_u (rf_u (rf_u u_.2.2.2 11 (upd (u_.2.2.2 11) u_.2.1 (nI u_.1))) 10 w10) 9 (upd (u_.2.2.2 9) u_.2.1 (nI (100 + (t u_.1))))) _
                    refine rr_beq (t := 247) d_192_180 (by decide) (fun c180 => ?_) (fun c180 => ?_)
                    · refine rr_nx (pc' := 248) (al' := [some (.ref 146), some (.int (nI len)), some (.int (nI u_.1)), some (.int (bI8 (t u_.1))), some (.int (nI (u_.1 + 1))), some (.int (nI v))]) (st' := [.ref 146]) d_192_247 (fun _ => rfl) ?_
                      refine rr_nx (pc' := 249) (al' := [some (.ref 146), some (.int (nI len)), some (.int (nI u_.1)), some (.int (bI8 (t u_.1))), some (.int (nI (u_.1 + 1))), some (.int (nI v))]) (st' := [.ref 146, .ref 146]) d_192_248 (fun _ => rfl) ?_
                      refine rr_gn d_192_249 mo_192 fl_140 rfl pi.2.1.1 ?_
                      refine rn_ic (v := 1) d_192_252 (by decide) ?_
                      refine rn_add d_192_253  ?_
                      refine rp_18 d_192_254 mo_192 fl_140  ?_
                      refine rr_nx (pc' := 259) (al' := [some (.ref 146), some (.int (nI len)), some (.int (nI u_.1)), some (.int (bI8 (t u_.1))), some (.int (nI (u_.1 + 1))), some (.int (nI v))]) (st' := [.int (nI (u_.1 + 1))]) d_192_257 (fun _ => rfl) ?_
                      refine rr_nx (pc' := 260) (al' := [some (.ref 146), some (.int (nI len)), some (.int (nI (u_.1 + 1))), some (.int (bI8 (t u_.1))), some (.int (nI (u_.1 + 1))), some (.int (nI v))]) (st' := []) d_192_259 (fun _ => rfl) ?_
                      refine rr_nx (pc' := 7) (al' := [some (.ref 146), some (.int (nI len)), some (.int (nI (u_.1 + 1))), some (.int (bI8 (t u_.1))), some (.int (nI (u_.1 + 1))), some (.int (nI v))]) (st' := []) d_192_260 (fun _ => rfl) ?_
                      refine rr_al (congrArg (fun z__ : Nat => ([some (.ref 146), some (.int (nI len)), some (.int (nI z__)), some (.int (bI8 (t u_.1))), some (.int (nI (u_.1 + 1))), some (.int (nI v))] : AL)) (show u_.1 + 1 = (u_.1 + 1, u_.2.1 + 1, (upd u_.2.2.1 18 (nI (u_.2.1 + 1))), (rf_u (rf_u (rf_u u_.2.2.2 11 (upd (u_.2.2.2 11) u_.2.1 (nI u_.1))) 10 w10) 9 (upd (u_.2.2.2 9) u_.2.1 (nI (100 + (t u_.1)))))).1 by rfl)) ?_
                      refine rr_dr (al1 := [some (.ref 146), some (.int (nI len)), some (.int (nI ((u_.1 + 1, u_.2.1 + 1, (upd u_.2.2.1 18 (nI (u_.2.1 + 1))), (rf_u (rf_u (rf_u u_.2.2.2 11 (upd (u_.2.2.2 11) u_.2.1 (nI u_.1))) 10 w10) 9 (upd (u_.2.2.2 9) u_.2.1 (nI (100 + (t u_.1)))))).1))), none, none, none]) (le_s (le_s (le_s (le_d rfl (le_d rfl (le_d rfl (le_n))))))) ?_
                      exact ihi (u_.1 + 1, u_.2.1 + 1, (upd u_.2.2.1 18 (nI (u_.2.1 + 1))), (rf_u (rf_u (rf_u u_.2.2.2 11 (upd (u_.2.2.2 11) u_.2.1 (nI u_.1))) 10 w10) 9 (upd (u_.2.2.2 9) u_.2.1 (nI (100 + (t u_.1)))))) (⟨⟨by dsimp only; omega, by dsimp only; omega, by dsimp only; show _ = skp t len (enR t len (tkP t len u_.2.1)); rw [hkj, hto], by dsimp only; omega⟩, ⟨by dsimp only; rw [pk_us], fun k hk => by dsimp only; rw [pk_un hk]; exact pi.2.1.2 k hk⟩, fun j hj => by
                          dsimp only
                          rcases Nat.lt_succ_iff_lt_or_eq.mp hj with q | q
                          · obtain ⟨z1, z2, z3⟩ := pi.2.2.1 j q
                            exact ⟨z1, by rw [rf_u_s, pk_un (by omega)]; exact z2, by rw [rf_u_n (show (11 : Nat) ≠ 9 by decide), rf_u_n (show (11 : Nat) ≠ 10 by decide), rf_u_s, pk_un (by omega)]; exact z3⟩
                          · subst q
                            exact ⟨by rw [hkj]; omega, by rw [rf_u_s, pk_us, tkC, if_pos (by rw [hkj]; omega), hkj, hto]; exact congrArg nI hcd, by rw [rf_u_n (show (11 : Nat) ≠ 9 by decide), rf_u_n (show (11 : Nat) ≠ 10 by decide), rf_u_s, pk_us, hkj]⟩, ((pi.2.2.2.u (by decide)).u (by decide)).u (by decide)⟩)
                    · exact absurd c180 c72
                · show RR _ _ 169 [some (.ref 146), some (.int (nI len)), some (.int (nI u_.1)), some (.int (bI8 (t u_.1))), some (.int (nI (u_.1 + 1))), some (.int (nI E))] [] u_.2.2.1 (rf_u (rf_u (rf_u u_.2.2.2 11 (upd (u_.2.2.2 11) u_.2.1 (nI u_.1))) 10 w10) 9 (upd (u_.2.2.2 9) u_.2.1 (nI (100 + (t u_.1))))) _
                  refine rr_nx (pc' := 171) (al' := [some (.ref 146), some (.int (nI len)), some (.int (nI u_.1)), some (.int (bI8 (t u_.1))), some (.int (nI (u_.1 + 1))), some (.int (nI E))]) (st' := [.int (nI E)]) d_192_169 (fun _ => rfl) ?_
                  refine rr_nx (pc' := 173) (al' := [some (.ref 146), some (.int (nI len)), some (.int (nI u_.1)), some (.int (bI8 (t u_.1))), some (.int (nI (u_.1 + 1))), some (.int (nI E))]) (st' := [.int (nI (u_.1 + 1)), .int (nI E)]) d_192_171 (fun _ => rfl) ?_
                  refine rn_cge (t := 247) d_192_173 (by decide) (by first | omega | assumption | exact cu_36 (by omega) (cu_lt (by omega) (by omega))) (by first | omega | assumption | exact cu_36 (by omega) (cu_lt (by omega) (by omega))) (fun c173 => ?_) (fun c173 => ?_)
                  · refine rr_nx (pc' := 248) (al' := [some (.ref 146), some (.int (nI len)), some (.int (nI u_.1)), some (.int (bI8 (t u_.1))), some (.int (nI (u_.1 + 1))), some (.int (nI E))]) (st' := [.ref 146]) d_192_247 (fun _ => rfl) ?_
                    refine rr_nx (pc' := 249) (al' := [some (.ref 146), some (.int (nI len)), some (.int (nI u_.1)), some (.int (bI8 (t u_.1))), some (.int (nI (u_.1 + 1))), some (.int (nI E))]) (st' := [.ref 146, .ref 146]) d_192_248 (fun _ => rfl) ?_
                    refine rr_gn d_192_249 mo_192 fl_140 rfl pi.2.1.1 ?_
                    refine rn_ic (v := 1) d_192_252 (by decide) ?_
                    refine rn_add d_192_253  ?_
                    refine rp_18 d_192_254 mo_192 fl_140  ?_
                    refine rr_nx (pc' := 259) (al' := [some (.ref 146), some (.int (nI len)), some (.int (nI u_.1)), some (.int (bI8 (t u_.1))), some (.int (nI (u_.1 + 1))), some (.int (nI E))]) (st' := [.int (nI (u_.1 + 1))]) d_192_257 (fun _ => rfl) ?_
                    refine rr_nx (pc' := 260) (al' := [some (.ref 146), some (.int (nI len)), some (.int (nI (u_.1 + 1))), some (.int (bI8 (t u_.1))), some (.int (nI (u_.1 + 1))), some (.int (nI E))]) (st' := []) d_192_259 (fun _ => rfl) ?_
                    refine rr_nx (pc' := 7) (al' := [some (.ref 146), some (.int (nI len)), some (.int (nI (u_.1 + 1))), some (.int (bI8 (t u_.1))), some (.int (nI (u_.1 + 1))), some (.int (nI E))]) (st' := []) d_192_260 (fun _ => rfl) ?_
                    refine rr_al (congrArg (fun z__ : Nat => ([some (.ref 146), some (.int (nI len)), some (.int (nI z__)), some (.int (bI8 (t u_.1))), some (.int (nI (u_.1 + 1))), some (.int (nI E))] : AL)) (show u_.1 + 1 = (u_.1 + 1, u_.2.1 + 1, (upd u_.2.2.1 18 (nI (u_.2.1 + 1))), (rf_u (rf_u (rf_u u_.2.2.2 11 (upd (u_.2.2.2 11) u_.2.1 (nI u_.1))) 10 w10) 9 (upd (u_.2.2.2 9) u_.2.1 (nI (100 + (t u_.1)))))).1 by rfl)) ?_
                    refine rr_dr (al1 := [some (.ref 146), some (.int (nI len)), some (.int (nI ((u_.1 + 1, u_.2.1 + 1, (upd u_.2.2.1 18 (nI (u_.2.1 + 1))), (rf_u (rf_u (rf_u u_.2.2.2 11 (upd (u_.2.2.2 11) u_.2.1 (nI u_.1))) 10 w10) 9 (upd (u_.2.2.2 9) u_.2.1 (nI (100 + (t u_.1)))))).1))), none, none, none]) (le_s (le_s (le_s (le_d rfl (le_d rfl (le_d rfl (le_n))))))) ?_
                    exact ihi (u_.1 + 1, u_.2.1 + 1, (upd u_.2.2.1 18 (nI (u_.2.1 + 1))), (rf_u (rf_u (rf_u u_.2.2.2 11 (upd (u_.2.2.2 11) u_.2.1 (nI u_.1))) 10 w10) 9 (upd (u_.2.2.2 9) u_.2.1 (nI (100 + (t u_.1)))))) (⟨⟨by dsimp only; omega, by dsimp only; omega, by dsimp only; show _ = skp t len (enR t len (tkP t len u_.2.1)); rw [hkj, hto], by dsimp only; omega⟩, ⟨by dsimp only; rw [pk_us], fun k hk => by dsimp only; rw [pk_un hk]; exact pi.2.1.2 k hk⟩, fun j hj => by
                        dsimp only
                        rcases Nat.lt_succ_iff_lt_or_eq.mp hj with q | q
                        · obtain ⟨z1, z2, z3⟩ := pi.2.2.1 j q
                          exact ⟨z1, by rw [rf_u_s, pk_un (by omega)]; exact z2, by rw [rf_u_n (show (11 : Nat) ≠ 9 by decide), rf_u_n (show (11 : Nat) ≠ 10 by decide), rf_u_s, pk_un (by omega)]; exact z3⟩
                        · subst q
                          exact ⟨by rw [hkj]; omega, by rw [rf_u_s, pk_us, tkC, if_pos (by rw [hkj]; omega), hkj, hto]; exact congrArg nI hcd, by rw [rf_u_n (show (11 : Nat) ≠ 9 by decide), rf_u_n (show (11 : Nat) ≠ 10 by decide), rf_u_s, pk_us, hkj]⟩, ((pi.2.2.2.u (by decide)).u (by decide)).u (by decide)⟩)
                  · omega
              · exact absurd c149 c72
            · exact absurd c132 c40
          · have hdg : isDg (t u_.1) = true := (b8_D _ (hb _ (by omega))).mp c72
            obtain ⟨E, hE⟩ : ∃ E, E = rnD t len u_.1 := ⟨_, rfl⟩
            obtain ⟨e1, e2, e3, e4⟩ := rnD_f (t := t) (len := len) (p := u_.1) (by omega)
            rw [← hE] at e1 e2 e3 e4
            have e5 : u_.1 < E := by rw [hE]; exact rnD_gt c9 hdg
            have hto : enR t len u_.1 = E := by unfold enR; rw [if_pos c9, if_neg hs, if_pos hdg, hE]
            have hcd : 90 = cdR t u_.1 E := by unfold cdR; rw [if_neg hs, if_pos hdg]
            refine rr_up (al := fun q => [some (.ref 146), some (.int (nI len)), some (.int (nI u_.1)), some (.int (bI8 (t u_.1))), some (.int (nI q)), none]) (G := fun q => u_.2.2.1) (B := fun q => u_.2.2.2) (P := fun q => u_.1 + 1 ≤ q) (n := E) (fun q hq pq ihq => ?_) (fun pq => ?_) (u_.1 + 1)  (by omega) (Nat.le_refl _)
            · show RR _ _ 75 [some (.ref 146), some (.int (nI len)), some (.int (nI u_.1)), some (.int (bI8 (t u_.1))), some (.int (nI q)), none] [] u_.2.2.1 u_.2.2.2 _
              refine rr_nx (pc' := 77) (al' := [some (.ref 146), some (.int (nI len)), some (.int (nI u_.1)), some (.int (bI8 (t u_.1))), some (.int (nI q)), none]) (st' := [.int (nI q)]) d_192_75 (fun _ => rfl) ?_
              refine rr_nx (pc' := 78) (al' := [some (.ref 146), some (.int (nI len)), some (.int (nI u_.1)), some (.int (bI8 (t u_.1))), some (.int (nI q)), none]) (st' := [.int (nI len), .int (nI q)]) d_192_77 (fun _ => rfl) ?_
              refine rn_cge (t := 100) d_192_78 (by decide) (by first | omega | assumption | exact cu_36 (by omega) (cu_lt (by omega) (by omega))) (by first | omega | assumption | exact cu_36 (by omega) (cu_lt (by omega) (by omega))) (fun c78 => ?_) (fun c78 => ?_)
              · omega
              · refine rr_nx (pc' := 82) (al' := [some (.ref 146), some (.int (nI len)), some (.int (nI u_.1)), some (.int (bI8 (t u_.1))), some (.int (nI q)), none]) (st' := [.ref 146]) d_192_81 (fun _ => rfl) ?_
                refine rr_gf (v := .ref (147 + 7)) d_192_82 mo_192 fl_33 rfl ?_
                refine rr_nx (pc' := 87) (al' := [some (.ref 146), some (.int (nI len)), some (.int (nI u_.1)), some (.int (bI8 (t u_.1))), some (.int (nI q)), none]) (st' := [.int (nI q), .ref (147 + 7)]) d_192_85 (fun _ => rfl) ?_
                refine rr_ba (j := 7) (v := (bI8 (t q))) d_192_87 (by decide) (by decide) (by decide) (show q < 400 by first | omega | assumption | exact cu_36 (by omega) (cu_lt (by omega) (by omega))) (show u_.2.2.2 7 _ = _ by rw [pi.2.2.2 7 (by decide)]; exact hB _ (by omega)) ?_
                refine rr_ps (as := [.int (bI8 (t q))]) (al0 := [some (.int (bI8 (t q)))]) (r := []) d_192_88 mo_192 ml_146 mz_194 rfl rfl rfl (Nat.le_of_ble_eq_true rfl) (s_isDigit (bI8 (t q))) ?_
                show RR _ _ 91 [some (.ref 146), some (.int (nI len)), some (.int (nI u_.1)), some (.int (bI8 (t u_.1))), some (.int (nI q)), none] [.int (bI (nI 48 ≤ (bI8 (t q)) ∧ (bI8 (t q)) ≤ nI 57))] u_.2.2.1 u_.2.2.2 _
                refine rr_beq (t := 100) d_192_91 (by decide) (fun c91 => ?_) (fun c91 => ?_)
                · exact absurd ((b8_D _ (hb q (by omega))).mpr (e3 q (by omega) hq)) c91
                · refine rn_inc d_192_94 rfl rfl ?_
                  show RR _ _ 97 [some (.ref 146), some (.int (nI len)), some (.int (nI u_.1)), some (.int (bI8 (t u_.1))), some (.int (nI (q + 1))), none] [] u_.2.2.1 u_.2.2.2 _
                  refine rr_nx (pc' := 75) (al' := [some (.ref 146), some (.int (nI len)), some (.int (nI u_.1)), some (.int (bI8 (t u_.1))), some (.int (nI (q + 1))), none]) (st' := []) d_192_97 (fun _ => rfl) ?_
                  exact ihq  (by omega)
            · show RR _ _ 75 [some (.ref 146), some (.int (nI len)), some (.int (nI u_.1)), some (.int (bI8 (t u_.1))), some (.int (nI E)), none] [] u_.2.2.1 u_.2.2.2 _
              refine rr_nx (pc' := 77) (al' := [some (.ref 146), some (.int (nI len)), some (.int (nI u_.1)), some (.int (bI8 (t u_.1))), some (.int (nI E)), none]) (st' := [.int (nI E)]) d_192_75 (fun _ => rfl) ?_
              refine rr_nx (pc' := 78) (al' := [some (.ref 146), some (.int (nI len)), some (.int (nI u_.1)), some (.int (bI8 (t u_.1))), some (.int (nI E)), none]) (st' := [.int (nI len), .int (nI E)]) d_192_77 (fun _ => rfl) ?_
              refine rn_cge (t := 100) d_192_78 (by decide) (by first | omega | assumption | exact cu_36 (by omega) (cu_lt (by omega) (by omega))) (by first | omega | assumption | exact cu_36 (by omega) (cu_lt (by omega) (by omega))) (fun c78 => ?_) (fun c78 => ?_)
              · refine rr_nx (pc' := 101) (al' := [some (.ref 146), some (.int (nI len)), some (.int (nI u_.1)), some (.int (bI8 (t u_.1))), some (.int (nI E)), none]) (st' := [.ref 146]) d_192_100 (fun _ => rfl) ?_
                refine rr_gf (v := .ref (147 + 11)) d_192_101 mo_192 fl_49 rfl ?_
                refine rr_nx (pc' := 105) (al' := [some (.ref 146), some (.int (nI len)), some (.int (nI u_.1)), some (.int (bI8 (t u_.1))), some (.int (nI E)), none]) (st' := [.ref 146, .ref (147 + 11)]) d_192_104 (fun _ => rfl) ?_
                refine rr_gn d_192_105 mo_192 fl_140 rfl pi.2.1.1 ?_
                refine rr_nx (pc' := 109) (al' := [some (.ref 146), some (.int (nI len)), some (.int (nI u_.1)), some (.int (bI8 (t u_.1))), some (.int (nI E)), none]) (st' := [.int (nI u_.1), .int (nI u_.2.1), .ref (147 + 11)]) d_192_108 (fun _ => rfl) ?_
                refine rr_iS (j := 11) (A1 := (rf_u u_.2.2.2 11 (upd (u_.2.2.2 11) u_.2.1 (nI u_.1)))) d_192_109 (by decide) rfl (by decide) (show u_.2.1 < 401 by first | omega | assumption | exact cu_36 (by omega) (cu_lt (by omega) (by omega))) rfl ?_
                refine rr_nx (pc' := 111) (al' := [some (.ref 146), some (.int (nI len)), some (.int (nI u_.1)), some (.int (bI8 (t u_.1))), some (.int (nI E)), none]) (st' := [.ref 146]) d_192_110 (fun _ => rfl) ?_
                refine rr_gf (v := .ref (147 + 10)) d_192_111 mo_192 fl_46 rfl ?_
                refine rr_nx (pc' := 115) (al' := [some (.ref 146), some (.int (nI len)), some (.int (nI u_.1)), some (.int (bI8 (t u_.1))), some (.int (nI E)), none]) (st' := [.ref 146, .ref (147 + 10)]) d_192_114 (fun _ => rfl) ?_
                refine rr_gn d_192_115 mo_192 fl_140 rfl pi.2.1.1 ?_
                refine rn_ic (v := 0) d_192_118 (by decide) ?_
                refine rr_iS (j := 10) (A1 := (rf_u (rf_u u_.2.2.2 11 (upd (u_.2.2.2 11) u_.2.1 (nI u_.1))) 10 (upd (u_.2.2.2 10) u_.2.1 (nI 0)))) d_192_119 (by decide) rfl (by decide) (show u_.2.1 < 401 by first | omega | assumption | exact cu_36 (by omega) (cu_lt (by omega) (by omega))) rfl ?_
                refine rr_nx (pc' := 121) (al' := [some (.ref 146), some (.int (nI len)), some (.int (nI u_.1)), some (.int (bI8 (t u_.1))), some (.int (nI E)), none]) (st' := [.ref 146]) d_192_120 (fun _ => rfl) ?_
                refine rr_gf (v := .ref (147 + 9)) d_192_121 mo_192 fl_43 rfl ?_
                refine rr_nx (pc' := 125) (al' := [some (.ref 146), some (.int (nI len)), some (.int (nI u_.1)), some (.int (bI8 (t u_.1))), some (.int (nI E)), none]) (st' := [.ref 146, .ref (147 + 9)]) d_192_124 (fun _ => rfl) ?_
                refine rr_gn d_192_125 mo_192 fl_140 rfl pi.2.1.1 ?_
                refine rr_nx (pc' := 129) (al' := [some (.ref 146), some (.int (nI len)), some (.int (nI u_.1)), some (.int (bI8 (t u_.1))), some (.int (nI E)), none]) (st' := [.int (bI8 (t u_.1)), .int (nI u_.2.1), .ref (147 + 9)]) d_192_128 (fun _ => rfl) ?_
                refine rr_ps (as := [.int (bI8 (t u_.1))]) (al0 := [some (.int (bI8 (t u_.1)))]) (r := [.int (nI u_.2.1), .ref (147 + 9)]) d_192_129 mo_192 ml_143 mz_193 rfl rfl rfl (Nat.le_of_ble_eq_true rfl) (s_isSmall (bI8 (t u_.1))) ?_
                show RR _ _ 132 [some (.ref 146), some (.int (nI len)), some (.int (nI u_.1)), some (.int (bI8 (t u_.1))), some (.int (nI E)), none] [.int (bI (nI 97 ≤ (bI8 (t u_.1)) ∧ (bI8 (t u_.1)) ≤ nI 122)), .int (nI u_.2.1), .ref (147 + 9)] u_.2.2.1 (rf_u (rf_u u_.2.2.2 11 (upd (u_.2.2.2 11) u_.2.1 (nI u_.1))) 10 (upd (u_.2.2.2 10) u_.2.1 (nI 0))) _
                refine rr_beq (t := 145) d_192_132 (by decide) (fun c132 => ?_) (fun c132 => ?_)
                · refine rr_nx (pc' := 146) (al' := [some (.ref 146), some (.int (nI len)), some (.int (nI u_.1)), some (.int (bI8 (t u_.1))), some (.int (nI E)), none]) (st' := [.int (bI8 (t u_.1)), .int (nI u_.2.1), .ref (147 + 9)]) d_192_145 (fun _ => rfl) ?_
                  refine rr_ps (as := [.int (bI8 (t u_.1))]) (al0 := [some (.int (bI8 (t u_.1)))]) (r := [.int (nI u_.2.1), .ref (147 + 9)]) d_192_146 mo_192 ml_146 mz_194 rfl rfl rfl (Nat.le_of_ble_eq_true rfl) (s_isDigit (bI8 (t u_.1))) ?_
                  show RR _ _ 149 [some (.ref 146), some (.int (nI len)), some (.int (nI u_.1)), some (.int (bI8 (t u_.1))), some (.int (nI E)), none] [.int (bI (nI 48 ≤ (bI8 (t u_.1)) ∧ (bI8 (t u_.1)) ≤ nI 57)), .int (nI u_.2.1), .ref (147 + 9)] u_.2.2.1 (rf_u (rf_u u_.2.2.2 11 (upd (u_.2.2.2 11) u_.2.1 (nI u_.1))) 10 (upd (u_.2.2.2 10) u_.2.1 (nI 0))) _
                  refine rr_beq (t := 157) d_192_149 (by decide) (fun c149 => ?_) (fun c149 => ?_)
                  · exact absurd c72 c149
                  · refine rn_bp (v := 90) d_192_152 (by decide) ?_
                    refine rr_nx (pc' := 165) (al' := [some (.ref 146), some (.int (nI len)), some (.int (nI u_.1)), some (.int (bI8 (t u_.1))), some (.int (nI E)), none]) (st' := [.int (nI 90), .int (nI u_.2.1), .ref (147 + 9)]) d_192_154 (fun _ => rfl) ?_
                    refine rr_iS (j := 9) (A1 := (rf_u (rf_u (rf_u u_.2.2.2 11 (upd (u_.2.2.2 11) u_.2.1 (nI u_.1))) 10 (upd (u_.2.2.2 10) u_.2.1 (nI 0))) 9 (upd (u_.2.2.2 9) u_.2.1 (nI 90)))) d_192_165 (by decide) rfl (by decide) (show u_.2.1 < 401 by first | omega | assumption | exact cu_36 (by omega) (cu_lt (by omega) (by omega))) rfl ?_
                    refine rr_nx (pc' := 167) (al' := [some (.ref 146), some (.int (nI len)), some (.int (nI u_.1)), some (.int (bI8 (t u_.1))), some (.int (nI E)), none]) (st' := [.int (nI u_.1)]) d_192_166 (fun _ => rfl) ?_
                    refine rr_nx (pc' := 169) (al' := [some (.ref 146), some (.int (nI len)), some (.int (nI u_.1)), some (.int (bI8 (t u_.1))), some (.int (nI E)), some (.int (nI u_.1))]) (st' := []) d_192_167 (fun _ => rfl) ?_
                    refine rr_upw (al := fun v w10 => [some (.ref 146), some (.int (nI len)), some (.int (nI u_.1)), some (.int (bI8 (t u_.1))), some (.int (nI E)), some (.int (nI v))]) (G := fun v w10 => u_.2.2.1) (B := fun v w10 => (rf_u (rf_u (rf_u u_.2.2.2 11 (upd (u_.2.2.2 11) u_.2.1 (nI u_.1))) 10 w10) 9 (upd (u_.2.2.2 9) u_.2.1 (nI 90)))) (P := fun v w10 => u_.1 ≤ v) (n := E) (fun v w10 hv pv ihv => ?_) (fun w10 pv => ?_) u_.1 (upd (u_.2.2.2 10) u_.2.1 (nI 0)) (by omega) (Nat.le_refl _)
                    · show RR _ _ 169 [some (.ref 146), some (.int (nI len)), some (.int (nI u_.1)), some (.int (bI8 (t u_.1))), some (.int (nI E)), some (.int (nI v))] [] u_.2.2.1 (rf_u (rf_u (rf_u u_.2.2.2 11 (upd (u_.2.2.2 11) u_.2.1 (nI u_.1))) 10 w10) 9 (upd (u_.2.2.2 9) u_.2.1 (nI 90))) _
                      refine rr_nx (pc' := 171) (al' := [some (.ref 146), some (.int (nI len)), some (.int (nI u_.1)), some (.int (bI8 (t u_.1))), some (.int (nI E)), some (.int (nI v))]) (st' := [.int (nI v)]) d_192_169 (fun _ => rfl) ?_
                      refine rr_nx (pc' := 173) (al' := [some (.ref 146), some (.int (nI len)), some (.int (nI u_.1)), some (.int (bI8 (t u_.1))), some (.int (nI E)), some (.int (nI v))]) (st' := [.int (nI E), .int (nI v)]) d_192_171 (fun _ => rfl) ?_
                      refine rn_cge (t := 247) d_192_173 (by decide) (by first | omega | assumption | exact cu_36 (by omega) (cu_lt (by omega) (by omega))) (by first | omega | assumption | exact cu_36 (by omega) (cu_lt (by omega) (by omega))) (fun c173 => ?_) (fun c173 => ?_)
                      · omega
                      · refine rr_nx (pc' := 177) (al' := [some (.ref 146), some (.int (nI len)), some (.int (nI u_.1)), some (.int (bI8 (t u_.1))), some (.int (nI E)), some (.int (nI v))]) (st' := [.int (bI8 (t u_.1))]) d_192_176 (fun _ => rfl) ?_
                        refine rr_ps (as := [.int (bI8 (t u_.1))]) (al0 := [some (.int (bI8 (t u_.1)))]) (r := []) d_192_177 mo_192 ml_146 mz_194 rfl rfl rfl (Nat.le_of_ble_eq_true rfl) (s_isDigit (bI8 (t u_.1))) ?_
                        show RR _ _ 180 [some (.ref 146), some (.int (nI len)), some (.int (nI u_.1)), some (.int (bI8 (t u_.1))), some (.int (nI E)), some (.int (nI v))] [.int (bI (nI 48 ≤ (bI8 (t u_.1)) ∧ (bI8 (t u_.1)) ≤ nI 57))] u_.2.2.1 (rf_u (rf_u (rf_u u_.2.2.2 11 (upd (u_.2.2.2 11) u_.2.1 (nI u_.1))) 10 w10) 9 (upd (u_.2.2.2 9) u_.2.1 (nI 90))) _
                        refine rr_beq (t := 247) d_192_180 (by decide) (fun c180 => ?_) (fun c180 => ?_)
                        · exact absurd c72 c180
                        · refine rr_nx (pc' := 184) (al' := [some (.ref 146), some (.int (nI len)), some (.int (nI u_.1)), some (.int (bI8 (t u_.1))), some (.int (nI E)), some (.int (nI v))]) (st' := [.ref 146]) d_192_183 (fun _ => rfl) ?_
                          refine rr_gf (v := .ref (147 + 10)) d_192_184 mo_192 fl_46 rfl ?_
                          refine rr_nx (pc' := 188) (al' := [some (.ref 146), some (.int (nI len)), some (.int (nI u_.1)), some (.int (bI8 (t u_.1))), some (.int (nI E)), some (.int (nI v))]) (st' := [.ref 146, .ref (147 + 10)]) d_192_187 (fun _ => rfl) ?_
                          refine rr_gn d_192_188 mo_192 fl_140 rfl pi.2.1.1 ?_
                          refine rr_nx (pc' := 192) (al' := [some (.ref 146), some (.int (nI len)), some (.int (nI u_.1)), some (.int (bI8 (t u_.1))), some (.int (nI E)), some (.int (nI v))]) (st' := [.ref 146, .int (nI u_.2.1), .ref (147 + 10)]) d_192_191 (fun _ => rfl) ?_
                          refine rr_gf (v := .ref (147 + 10)) d_192_192 mo_192 fl_46 rfl ?_
                          refine rr_nx (pc' := 196) (al' := [some (.ref 146), some (.int (nI len)), some (.int (nI u_.1)), some (.int (bI8 (t u_.1))), some (.int (nI E)), some (.int (nI v))]) (st' := [.ref 146, .ref (147 + 10), .int (nI u_.2.1), .ref (147 + 10)]) d_192_195 (fun _ => rfl) ?_
                          refine rr_gn d_192_196 mo_192 fl_140 rfl pi.2.1.1 ?_
                          refine rr_ia (j := 10) (v := (w10 u_.2.1)) d_192_199 (by decide) rfl (by decide) (show u_.2.1 < 401 by first | omega | assumption | exact cu_36 (by omega) (cu_lt (by omega) (by omega))) rfl ?_
                          refine rr_k2 (v := nI 1000000) d_192_200 mo_192 ck_12_152 ?_
                          refine rr_cle (t := 217) d_192_202 (by decide) (fun c202 => ?_) (fun c202 => ?_)
                          · refine rn_bp (v := 10) d_192_217 (by decide) ?_
                            refine rr_nx (pc' := 220) (al' := [some (.ref 146), some (.int (nI len)), some (.int (nI u_.1)), some (.int (bI8 (t u_.1))), some (.int (nI E)), some (.int (nI v))]) (st' := [.ref 146, .int (nI 10), .int (nI u_.2.1), .ref (147 + 10)]) d_192_219 (fun _ => rfl) ?_
                            refine rr_gf (v := .ref (147 + 10)) d_192_220 mo_192 fl_46 rfl ?_
                            refine rr_nx (pc' := 224) (al' := [some (.ref 146), some (.int (nI len)), some (.int (nI u_.1)), some (.int (bI8 (t u_.1))), some (.int (nI E)), some (.int (nI v))]) (st' := [.ref 146, .ref (147 + 10), .int (nI 10), .int (nI u_.2.1), .ref (147 + 10)]) d_192_223 (fun _ => rfl) ?_
                            refine rr_gn d_192_224 mo_192 fl_140 rfl pi.2.1.1 ?_
                            refine rr_ia (j := 10) (v := (w10 u_.2.1)) d_192_227 (by decide) rfl (by decide) (show u_.2.1 < 401 by first | omega | assumption | exact cu_36 (by omega) (cu_lt (by omega) (by omega))) rfl ?_
                            refine rr_nx (pc' := 229) (al' := [some (.ref 146), some (.int (nI len)), some (.int (nI u_.1)), some (.int (bI8 (t u_.1))), some (.int (nI E)), some (.int (nI v))]) (st' := [.int ((nI 10) * (w10 u_.2.1)), .int (nI u_.2.1), .ref (147 + 10)]) d_192_228 (fun _ => rfl) ?_
                            refine rr_nx (pc' := 230) (al' := [some (.ref 146), some (.int (nI len)), some (.int (nI u_.1)), some (.int (bI8 (t u_.1))), some (.int (nI E)), some (.int (nI v))]) (st' := [.ref 146, .int ((nI 10) * (w10 u_.2.1)), .int (nI u_.2.1), .ref (147 + 10)]) d_192_229 (fun _ => rfl) ?_
                            refine rr_gf (v := .ref (147 + 7)) d_192_230 mo_192 fl_33 rfl ?_
                            refine rr_nx (pc' := 235) (al' := [some (.ref 146), some (.int (nI len)), some (.int (nI u_.1)), some (.int (bI8 (t u_.1))), some (.int (nI E)), some (.int (nI v))]) (st' := [.int (nI v), .ref (147 + 7), .int ((nI 10) * (w10 u_.2.1)), .int (nI u_.2.1), .ref (147 + 10)]) d_192_233 (fun _ => rfl) ?_
                            refine rr_ba (j := 7) (v := (bI8 (t v))) d_192_235 (by decide) (by decide) (by decide) (show v < 400 by first | omega | assumption | exact cu_36 (by omega) (cu_lt (by omega) (by omega))) (show u_.2.2.2 7 _ = _ by rw [pi.2.2.2 7 (by decide)]; exact hB _ (by omega)) ?_
                            refine rr_nx (pc' := 237) (al' := [some (.ref 146), some (.int (nI len)), some (.int (nI u_.1)), some (.int (bI8 (t u_.1))), some (.int (nI E)), some (.int (nI v))]) (st' := [.int (((nI 10) * (w10 u_.2.1)) + (bI8 (t v))), .int (nI u_.2.1), .ref (147 + 10)]) d_192_236 (fun _ => rfl) ?_
                            refine rn_bp (v := 48) d_192_237 (by decide) ?_
                            refine rr_nx (pc' := 240) (al' := [some (.ref 146), some (.int (nI len)), some (.int (nI u_.1)), some (.int (bI8 (t u_.1))), some (.int (nI E)), some (.int (nI v))]) (st' := [.int ((((nI 10) * (w10 u_.2.1)) + (bI8 (t v))) - (nI 48)), .int (nI u_.2.1), .ref (147 + 10)]) d_192_239 (fun _ => rfl) ?_
                            refine rr_iS (j := 10) (A1 := (rf_u (rf_u (rf_u u_.2.2.2 11 (upd (u_.2.2.2 11) u_.2.1 (nI u_.1))) 10 (upd w10 u_.2.1 ((((nI 10) * (w10 u_.2.1)) + (bI8 (t v))) - (nI 48)))) 9 (upd (u_.2.2.2 9) u_.2.1 (nI 90)))) d_192_240 (by decide) rfl (by decide) (show u_.2.1 < 401 by first | omega | assumption | exact cu_36 (by omega) (cu_lt (by omega) (by omega))) (by funext q__; simp only [rf_u]; split <;> simp_all) ?_
                            refine rn_inc d_192_241 rfl rfl ?_
                            show RR _ _ 244 [some (.ref 146), some (.int (nI len)), some (.int (nI u_.1)), some (.int (bI8 (t u_.1))), some (.int (nI E)), some (.int (nI (v + 1)))] [] u_.2.2.1 (rf_u (rf_u (rf_u u_.2.2.2 11 (upd (u_.2.2.2 11) u_.2.1 (nI u_.1))) 10 (upd w10 u_.2.1 ((((nI 10) * (w10 u_.2.1)) + (bI8 (t v))) - (nI 48)))) 9 (upd (u_.2.2.2 9) u_.2.1 (nI 90))) _
                            refine rr_nx (pc' := 169) (al' := [some (.ref 146), some (.int (nI len)), some (.int (nI u_.1)), some (.int (bI8 (t u_.1))), some (.int (nI E)), some (.int (nI (v + 1)))]) (st' := []) d_192_244 (fun _ => rfl) ?_
                            exact ihv (upd w10 u_.2.1 ((((nI 10) * (w10 u_.2.1)) + (bI8 (t v))) - (nI 48))) (by omega)
                          · refine rr_nx (pc' := 206) (al' := [some (.ref 146), some (.int (nI len)), some (.int (nI u_.1)), some (.int (bI8 (t u_.1))), some (.int (nI E)), some (.int (nI v))]) (st' := [.ref 146, .int (nI u_.2.1), .ref (147 + 10)]) d_192_205 (fun _ => rfl) ?_
                            refine rr_gf (v := .ref (147 + 10)) d_192_206 mo_192 fl_46 rfl ?_
                            refine rr_nx (pc' := 210) (al' := [some (.ref 146), some (.int (nI len)), some (.int (nI u_.1)), some (.int (bI8 (t u_.1))), some (.int (nI E)), some (.int (nI v))]) (st' := [.ref 146, .ref (147 + 10), .int (nI u_.2.1), .ref (147 + 10)]) d_192_209 (fun _ => rfl) ?_
                            refine rr_gn d_192_210 mo_192 fl_140 rfl pi.2.1.1 ?_
                            refine rr_ia (j := 10) (v := (w10 u_.2.1)) d_192_213 (by decide) rfl (by decide) (show u_.2.1 < 401 by first | omega | assumption | exact cu_36 (by omega) (cu_lt (by omega) (by omega))) rfl ?_
                            refine rr_nx (pc' := 240) (al' := [some (.ref 146), some (.int (nI len)), some (.int (nI u_.1)), some (.int (bI8 (t u_.1))), some (.int (nI E)), some (.int (nI v))]) (st' := [.int (w10 u_.2.1), .int (nI u_.2.1), .ref (147 + 10)]) d_192_214 (fun _ => rfl) ?_
                            refine rr_iS (j := 10) (A1 := (rf_u (rf_u (rf_u u_.2.2.2 11 (upd (u_.2.2.2 11) u_.2.1 (nI u_.1))) 10 (upd w10 u_.2.1 (w10 u_.2.1))) 9 (upd (u_.2.2.2 9) u_.2.1 (nI 90)))) d_192_240 (by decide) rfl (by decide) (show u_.2.1 < 401 by first | omega | assumption | exact cu_36 (by omega) (cu_lt (by omega) (by omega))) (by funext q__; simp only [rf_u]; split <;> simp_all) ?_
                            refine rn_inc d_192_241 rfl rfl ?_
                            show RR _ _ 244 [some (.ref 146), some (.int (nI len)), some (.int (nI u_.1)), some (.int (bI8 (t u_.1))), some (.int (nI E)), some (.int (nI (v + 1)))] [] u_.2.2.1 (rf_u (rf_u (rf_u u_.2.2.2 11 (upd (u_.2.2.2 11) u_.2.1 (nI u_.1))) 10 (upd w10 u_.2.1 (w10 u_.2.1))) 9 (upd (u_.2.2.2 9) u_.2.1 (nI 90))) _
                            refine rr_nx (pc' := 169) (al' := [some (.ref 146), some (.int (nI len)), some (.int (nI u_.1)), some (.int (bI8 (t u_.1))), some (.int (nI E)), some (.int (nI (v + 1)))]) (st' := []) d_192_244 (fun _ => rfl) ?_
                            exact ihv (upd w10 u_.2.1 (w10 u_.2.1)) (by omega)
                    · show RR _ _ 169 [some (.ref 146), some (.int (nI len)), some (.int (nI u_.1)), some (.int (bI8 (t u_.1))), some (.int (nI E)), some (.int (nI E))] [] u_.2.2.1 (rf_u (rf_u (rf_u u_.2.2.2 11 (upd (u_.2.2.2 11) u_.2.1 (nI u_.1))) 10 w10) 9 (upd (u_.2.2.2 9) u_.2.1 (nI 90))) _
                      refine rr_nx (pc' := 171) (al' := [some (.ref 146), some (.int (nI len)), some (.int (nI u_.1)), some (.int (bI8 (t u_.1))), some (.int (nI E)), some (.int (nI E))]) (st' := [.int (nI E)]) d_192_169 (fun _ => rfl) ?_
                      refine rr_nx (pc' := 173) (al' := [some (.ref 146), some (.int (nI len)), some (.int (nI u_.1)), some (.int (bI8 (t u_.1))), some (.int (nI E)), some (.int (nI E))]) (st' := [.int (nI E), .int (nI E)]) d_192_171 (fun _ => rfl) ?_
                      refine rn_cge (t := 247) d_192_173 (by decide) (by first | omega | assumption | exact cu_36 (by omega) (cu_lt (by omega) (by omega))) (by first | omega | assumption | exact cu_36 (by omega) (cu_lt (by omega) (by omega))) (fun c173 => ?_) (fun c173 => ?_)
                      · refine rr_nx (pc' := 248) (al' := [some (.ref 146), some (.int (nI len)), some (.int (nI u_.1)), some (.int (bI8 (t u_.1))), some (.int (nI E)), some (.int (nI E))]) (st' := [.ref 146]) d_192_247 (fun _ => rfl) ?_
                        refine rr_nx (pc' := 249) (al' := [some (.ref 146), some (.int (nI len)), some (.int (nI u_.1)), some (.int (bI8 (t u_.1))), some (.int (nI E)), some (.int (nI E))]) (st' := [.ref 146, .ref 146]) d_192_248 (fun _ => rfl) ?_
                        refine rr_gn d_192_249 mo_192 fl_140 rfl pi.2.1.1 ?_
                        refine rn_ic (v := 1) d_192_252 (by decide) ?_
                        refine rn_add d_192_253  ?_
                        refine rp_18 d_192_254 mo_192 fl_140  ?_
                        refine rr_nx (pc' := 259) (al' := [some (.ref 146), some (.int (nI len)), some (.int (nI u_.1)), some (.int (bI8 (t u_.1))), some (.int (nI E)), some (.int (nI E))]) (st' := [.int (nI E)]) d_192_257 (fun _ => rfl) ?_
                        refine rr_nx (pc' := 260) (al' := [some (.ref 146), some (.int (nI len)), some (.int (nI E)), some (.int (bI8 (t u_.1))), some (.int (nI E)), some (.int (nI E))]) (st' := []) d_192_259 (fun _ => rfl) ?_
                        refine rr_nx (pc' := 7) (al' := [some (.ref 146), some (.int (nI len)), some (.int (nI E)), some (.int (bI8 (t u_.1))), some (.int (nI E)), some (.int (nI E))]) (st' := []) d_192_260 (fun _ => rfl) ?_
                        refine rr_al (congrArg (fun z__ : Nat => ([some (.ref 146), some (.int (nI len)), some (.int (nI z__)), some (.int (bI8 (t u_.1))), some (.int (nI E)), some (.int (nI E))] : AL)) (show E = (E, u_.2.1 + 1, (upd u_.2.2.1 18 (nI (u_.2.1 + 1))), (rf_u (rf_u (rf_u u_.2.2.2 11 (upd (u_.2.2.2 11) u_.2.1 (nI u_.1))) 10 w10) 9 (upd (u_.2.2.2 9) u_.2.1 (nI 90)))).1 by rfl)) ?_
                        refine rr_dr (al1 := [some (.ref 146), some (.int (nI len)), some (.int (nI ((E, u_.2.1 + 1, (upd u_.2.2.1 18 (nI (u_.2.1 + 1))), (rf_u (rf_u (rf_u u_.2.2.2 11 (upd (u_.2.2.2 11) u_.2.1 (nI u_.1))) 10 w10) 9 (upd (u_.2.2.2 9) u_.2.1 (nI 90)))).1))), none, none, none]) (le_s (le_s (le_s (le_d rfl (le_d rfl (le_d rfl (le_n))))))) ?_
                        exact ihi (E, u_.2.1 + 1, (upd u_.2.2.1 18 (nI (u_.2.1 + 1))), (rf_u (rf_u (rf_u u_.2.2.2 11 (upd (u_.2.2.2 11) u_.2.1 (nI u_.1))) 10 w10) 9 (upd (u_.2.2.2 9) u_.2.1 (nI 90)))) (⟨⟨by dsimp only; omega, by dsimp only; omega, by dsimp only; show _ = skp t len (enR t len (tkP t len u_.2.1)); rw [hkj, hto], by dsimp only; omega⟩, ⟨by dsimp only; rw [pk_us], fun k hk => by dsimp only; rw [pk_un hk]; exact pi.2.1.2 k hk⟩, fun j hj => by
                            dsimp only
                            rcases Nat.lt_succ_iff_lt_or_eq.mp hj with q | q
                            · obtain ⟨z1, z2, z3⟩ := pi.2.2.1 j q
                              exact ⟨z1, by rw [rf_u_s, pk_un (by omega)]; exact z2, by rw [rf_u_n (show (11 : Nat) ≠ 9 by decide), rf_u_n (show (11 : Nat) ≠ 10 by decide), rf_u_s, pk_un (by omega)]; exact z3⟩
                            · subst q
                              exact ⟨by rw [hkj]; omega, by rw [rf_u_s, pk_us, tkC, if_pos (by rw [hkj]; omega), hkj, hto]; exact congrArg nI hcd, by rw [rf_u_n (show (11 : Nat) ≠ 9 by decide), rf_u_n (show (11 : Nat) ≠ 10 by decide), rf_u_s, pk_us, hkj]⟩, ((pi.2.2.2.u (by decide)).u (by decide)).u (by decide)⟩)
                      · omega
                · exact absurd c132 c40
              · refine rr_nx (pc' := 82) (al' := [some (.ref 146), some (.int (nI len)), some (.int (nI u_.1)), some (.int (bI8 (t u_.1))), some (.int (nI E)), none]) (st' := [.ref 146]) d_192_81 (fun _ => rfl) ?_
                refine rr_gf (v := .ref (147 + 7)) d_192_82 mo_192 fl_33 rfl ?_
                refine rr_nx (pc' := 87) (al' := [some (.ref 146), some (.int (nI len)), some (.int (nI u_.1)), some (.int (bI8 (t u_.1))), some (.int (nI E)), none]) (st' := [.int (nI E), .ref (147 + 7)]) d_192_85 (fun _ => rfl) ?_
                refine rr_ba (j := 7) (v := (bI8 (t E))) d_192_87 (by decide) (by decide) (by decide) (show E < 400 by first | omega | assumption | exact cu_36 (by omega) (cu_lt (by omega) (by omega))) (show u_.2.2.2 7 _ = _ by rw [pi.2.2.2 7 (by decide)]; exact hB _ (by omega)) ?_
                refine rr_ps (as := [.int (bI8 (t E))]) (al0 := [some (.int (bI8 (t E)))]) (r := []) d_192_88 mo_192 ml_146 mz_194 rfl rfl rfl (Nat.le_of_ble_eq_true rfl) (s_isDigit (bI8 (t E))) ?_
                show RR _ _ 91 [some (.ref 146), some (.int (nI len)), some (.int (nI u_.1)), some (.int (bI8 (t u_.1))), some (.int (nI E)), none] [.int (bI (nI 48 ≤ (bI8 (t E)) ∧ (bI8 (t E)) ≤ nI 57))] u_.2.2.1 u_.2.2.2 _
                refine rr_beq (t := 100) d_192_91 (by decide) (fun c91 => ?_) (fun c91 => ?_)
                · refine rr_nx (pc' := 101) (al' := [some (.ref 146), some (.int (nI len)), some (.int (nI u_.1)), some (.int (bI8 (t u_.1))), some (.int (nI E)), none]) (st' := [.ref 146]) d_192_100 (fun _ => rfl) ?_
                  refine rr_gf (v := .ref (147 + 11)) d_192_101 mo_192 fl_49 rfl ?_
                  refine rr_nx (pc' := 105) (al' := [some (.ref 146), some (.int (nI len)), some (.int (nI u_.1)), some (.int (bI8 (t u_.1))), some (.int (nI E)), none]) (st' := [.ref 146, .ref (147 + 11)]) d_192_104 (fun _ => rfl) ?_
                  refine rr_gn d_192_105 mo_192 fl_140 rfl pi.2.1.1 ?_
                  refine rr_nx (pc' := 109) (al' := [some (.ref 146), some (.int (nI len)), some (.int (nI u_.1)), some (.int (bI8 (t u_.1))), some (.int (nI E)), none]) (st' := [.int (nI u_.1), .int (nI u_.2.1), .ref (147 + 11)]) d_192_108 (fun _ => rfl) ?_
                  refine rr_iS (j := 11) (A1 := (rf_u u_.2.2.2 11 (upd (u_.2.2.2 11) u_.2.1 (nI u_.1)))) d_192_109 (by decide) rfl (by decide) (show u_.2.1 < 401 by first | omega | assumption | exact cu_36 (by omega) (cu_lt (by omega) (by omega))) rfl ?_
                  refine rr_nx (pc' := 111) (al' := [some (.ref 146), some (.int (nI len)), some (.int (nI u_.1)), some (.int (bI8 (t u_.1))), some (.int (nI E)), none]) (st' := [.ref 146]) d_192_110 (fun _ => rfl) ?_
                  refine rr_gf (v := .ref (147 + 10)) d_192_111 mo_192 fl_46 rfl ?_
                  refine rr_nx (pc' := 115) (al' := [some (.ref 146), some (.int (nI len)), some (.int (nI u_.1)), some (.int (bI8 (t u_.1))), some (.int (nI E)), none]) (st' := [.ref 146, .ref (147 + 10)]) d_192_114 (fun _ => rfl) ?_
                  refine rr_gn d_192_115 mo_192 fl_140 rfl pi.2.1.1 ?_
                  refine rn_ic (v := 0) d_192_118 (by decide) ?_
                  refine rr_iS (j := 10) (A1 := (rf_u (rf_u u_.2.2.2 11 (upd (u_.2.2.2 11) u_.2.1 (nI u_.1))) 10 (upd (u_.2.2.2 10) u_.2.1 (nI 0)))) d_192_119 (by decide) rfl (by decide) (show u_.2.1 < 401 by first | omega | assumption | exact cu_36 (by omega) (cu_lt (by omega) (by omega))) rfl ?_
                  refine rr_nx (pc' := 121) (al' := [some (.ref 146), some (.int (nI len)), some (.int (nI u_.1)), some (.int (bI8 (t u_.1))), some (.int (nI E)), none]) (st' := [.ref 146]) d_192_120 (fun _ => rfl) ?_
                  refine rr_gf (v := .ref (147 + 9)) d_192_121 mo_192 fl_43 rfl ?_
                  refine rr_nx (pc' := 125) (al' := [some (.ref 146), some (.int (nI len)), some (.int (nI u_.1)), some (.int (bI8 (t u_.1))), some (.int (nI E)), none]) (st' := [.ref 146, .ref (147 + 9)]) d_192_124 (fun _ => rfl) ?_
                  refine rr_gn d_192_125 mo_192 fl_140 rfl pi.2.1.1 ?_
                  refine rr_nx (pc' := 129) (al' := [some (.ref 146), some (.int (nI len)), some (.int (nI u_.1)), some (.int (bI8 (t u_.1))), some (.int (nI E)), none]) (st' := [.int (bI8 (t u_.1)), .int (nI u_.2.1), .ref (147 + 9)]) d_192_128 (fun _ => rfl) ?_
                  refine rr_ps (as := [.int (bI8 (t u_.1))]) (al0 := [some (.int (bI8 (t u_.1)))]) (r := [.int (nI u_.2.1), .ref (147 + 9)]) d_192_129 mo_192 ml_143 mz_193 rfl rfl rfl (Nat.le_of_ble_eq_true rfl) (s_isSmall (bI8 (t u_.1))) ?_
                  show RR _ _ 132 [some (.ref 146), some (.int (nI len)), some (.int (nI u_.1)), some (.int (bI8 (t u_.1))), some (.int (nI E)), none] [.int (bI (nI 97 ≤ (bI8 (t u_.1)) ∧ (bI8 (t u_.1)) ≤ nI 122)), .int (nI u_.2.1), .ref (147 + 9)] u_.2.2.1 (rf_u (rf_u u_.2.2.2 11 (upd (u_.2.2.2 11) u_.2.1 (nI u_.1))) 10 (upd (u_.2.2.2 10) u_.2.1 (nI 0))) _
                  refine rr_beq (t := 145) d_192_132 (by decide) (fun c132 => ?_) (fun c132 => ?_)
                  · refine rr_nx (pc' := 146) (al' := [some (.ref 146), some (.int (nI len)), some (.int (nI u_.1)), some (.int (bI8 (t u_.1))), some (.int (nI E)), none]) (st' := [.int (bI8 (t u_.1)), .int (nI u_.2.1), .ref (147 + 9)]) d_192_145 (fun _ => rfl) ?_
                    refine rr_ps (as := [.int (bI8 (t u_.1))]) (al0 := [some (.int (bI8 (t u_.1)))]) (r := [.int (nI u_.2.1), .ref (147 + 9)]) d_192_146 mo_192 ml_146 mz_194 rfl rfl rfl (Nat.le_of_ble_eq_true rfl) (s_isDigit (bI8 (t u_.1))) ?_
                    show RR _ _ 149 [some (.ref 146), some (.int (nI len)), some (.int (nI u_.1)), some (.int (bI8 (t u_.1))), some (.int (nI E)), none] [.int (bI (nI 48 ≤ (bI8 (t u_.1)) ∧ (bI8 (t u_.1)) ≤ nI 57)), .int (nI u_.2.1), .ref (147 + 9)] u_.2.2.1 (rf_u (rf_u u_.2.2.2 11 (upd (u_.2.2.2 11) u_.2.1 (nI u_.1))) 10 (upd (u_.2.2.2 10) u_.2.1 (nI 0))) _
                    refine rr_beq (t := 157) d_192_149 (by decide) (fun c149 => ?_) (fun c149 => ?_)
                    · exact absurd c72 c149
                    · refine rn_bp (v := 90) d_192_152 (by decide) ?_
                      refine rr_nx (pc' := 165) (al' := [some (.ref 146), some (.int (nI len)), some (.int (nI u_.1)), some (.int (bI8 (t u_.1))), some (.int (nI E)), none]) (st' := [.int (nI 90), .int (nI u_.2.1), .ref (147 + 9)]) d_192_154 (fun _ => rfl) ?_
                      refine rr_iS (j := 9) (A1 := (rf_u (rf_u (rf_u u_.2.2.2 11 (upd (u_.2.2.2 11) u_.2.1 (nI u_.1))) 10 (upd (u_.2.2.2 10) u_.2.1 (nI 0))) 9 (upd (u_.2.2.2 9) u_.2.1 (nI 90)))) d_192_165 (by decide) rfl (by decide) (show u_.2.1 < 401 by first | omega | assumption | exact cu_36 (by omega) (cu_lt (by omega) (by omega))) rfl ?_
                      refine rr_nx (pc' := 167) (al' := [some (.ref 146), some (.int (nI len)), some (.int (nI u_.1)), some (.int (bI8 (t u_.1))), some (.int (nI E)), none]) (st' := [.int (nI u_.1)]) d_192_166 (fun _ => rfl) ?_
                      refine rr_nx (pc' := 169) (al' := [some (.ref 146), some (.int (nI len)), some (.int (nI u_.1)), some (.int (bI8 (t u_.1))), some (.int (nI E)), some (.int (nI u_.1))]) (st' := []) d_192_167 (fun _ => rfl) ?_
                      refine rr_upw (al := fun v w10 => [some (.ref 146), some (.int (nI len)), some (.int (nI u_.1)), some (.int (bI8 (t u_.1))), some (.int (nI E)), some (.int (nI v))]) (G := fun v w10 => u_.2.2.1) (B := fun v w10 => (rf_u (rf_u (rf_u u_.2.2.2 11 (upd (u_.2.2.2 11) u_.2.1 (nI u_.1))) 10 w10) 9 (upd (u_.2.2.2 9) u_.2.1 (nI 90)))) (P := fun v w10 => u_.1 ≤ v) (n := E) (fun v w10 hv pv ihv => ?_) (fun w10 pv => ?_) u_.1 (upd (u_.2.2.2 10) u_.2.1 (nI 0)) (by omega) (Nat.le_refl _)
                      · show RR _ _ 169 [some (.ref 146), some (.int (nI len)), some (.int (nI u_.1)), some (.int (bI8 (t u_.1))), some (.int (nI E)), some (.int (nI v))] [] u_.2.2.1 (rf_u (rf_u (rf_u u_.2.2.2 11 (upd (u_.2.2.2 11) u_.2.1 (nI u_.1))) 10 w10) 9 (upd (u_.2.2.2 9) u_.2.1 (nI 90))) _
                        refine rr_nx (pc' := 171) (al' := [some (.ref 146), some (.int (nI len)), some (.int (nI u_.1)), some (.int (bI8 (t u_.1))), some (.int (nI E)), some (.int (nI v))]) (st' := [.int (nI v)]) d_192_169 (fun _ => rfl) ?_
                        refine rr_nx (pc' := 173) (al' := [some (.ref 146), some (.int (nI len)), some (.int (nI u_.1)), some (.int (bI8 (t u_.1))), some (.int (nI E)), some (.int (nI v))]) (st' := [.int (nI E), .int (nI v)]) d_192_171 (fun _ => rfl) ?_
                        refine rn_cge (t := 247) d_192_173 (by decide) (by first | omega | assumption | exact cu_36 (by omega) (cu_lt (by omega) (by omega))) (by first | omega | assumption | exact cu_36 (by omega) (cu_lt (by omega) (by omega))) (fun c173 => ?_) (fun c173 => ?_)
                        · omega
                        · refine rr_nx (pc' := 177) (al' := [some (.ref 146), some (.int (nI len)), some (.int (nI u_.1)), some (.int (bI8 (t u_.1))), some (.int (nI E)), some (.int (nI v))]) (st' := [.int (bI8 (t u_.1))]) d_192_176 (fun _ => rfl) ?_
                          refine rr_ps (as := [.int (bI8 (t u_.1))]) (al0 := [some (.int (bI8 (t u_.1)))]) (r := []) d_192_177 mo_192 ml_146 mz_194 rfl rfl rfl (Nat.le_of_ble_eq_true rfl) (s_isDigit (bI8 (t u_.1))) ?_
                          show RR _ _ 180 [some (.ref 146), some (.int (nI len)), some (.int (nI u_.1)), some (.int (bI8 (t u_.1))), some (.int (nI E)), some (.int (nI v))] [.int (bI (nI 48 ≤ (bI8 (t u_.1)) ∧ (bI8 (t u_.1)) ≤ nI 57))] u_.2.2.1 (rf_u (rf_u (rf_u u_.2.2.2 11 (upd (u_.2.2.2 11) u_.2.1 (nI u_.1))) 10 w10) 9 (upd (u_.2.2.2 9) u_.2.1 (nI 90))) _
                          refine rr_beq (t := 247) d_192_180 (by decide) (fun c180 => ?_) (fun c180 => ?_)
                          · exact absurd c72 c180
                          · refine rr_nx (pc' := 184) (al' := [some (.ref 146), some (.int (nI len)), some (.int (nI u_.1)), some (.int (bI8 (t u_.1))), some (.int (nI E)), some (.int (nI v))]) (st' := [.ref 146]) d_192_183 (fun _ => rfl) ?_
                            refine rr_gf (v := .ref (147 + 10)) d_192_184 mo_192 fl_46 rfl ?_
                            refine rr_nx (pc' := 188) (al' := [some (.ref 146), some (.int (nI len)), some (.int (nI u_.1)), some (.int (bI8 (t u_.1))), some (.int (nI E)), some (.int (nI v))]) (st' := [.ref 146, .ref (147 + 10)]) d_192_187 (fun _ => rfl) ?_
                            refine rr_gn d_192_188 mo_192 fl_140 rfl pi.2.1.1 ?_
                            refine rr_nx (pc' := 192) (al' := [some (.ref 146), some (.int (nI len)), some (.int (nI u_.1)), some (.int (bI8 (t u_.1))), some (.int (nI E)), some (.int (nI v))]) (st' := [.ref 146, .int (nI u_.2.1), .ref (147 + 10)]) d_192_191 (fun _ => rfl) ?_
                            refine rr_gf (v := .ref (147 + 10)) d_192_192 mo_192 fl_46 rfl ?_
                            refine rr_nx (pc' := 196) (al' := [some (.ref 146), some (.int (nI len)), some (.int (nI u_.1)), some (.int (bI8 (t u_.1))), some (.int (nI E)), some (.int (nI v))]) (st' := [.ref 146, .ref (147 + 10), .int (nI u_.2.1), .ref (147 + 10)]) d_192_195 (fun _ => rfl) ?_
                            refine rr_gn d_192_196 mo_192 fl_140 rfl pi.2.1.1 ?_
                            refine rr_ia (j := 10) (v := (w10 u_.2.1)) d_192_199 (by decide) rfl (by decide) (show u_.2.1 < 401 by first | omega | assumption | exact cu_36 (by omega) (cu_lt (by omega) (by omega))) rfl ?_
                            refine rr_k2 (v := nI 1000000) d_192_200 mo_192 ck_12_152 ?_
                            refine rr_cle (t := 217) d_192_202 (by decide) (fun c202 => ?_) (fun c202 => ?_)
                            · refine rn_bp (v := 10) d_192_217 (by decide) ?_
                              refine rr_nx (pc' := 220) (al' := [some (.ref 146), some (.int (nI len)), some (.int (nI u_.1)), some (.int (bI8 (t u_.1))), some (.int (nI E)), some (.int (nI v))]) (st' := [.ref 146, .int (nI 10), .int (nI u_.2.1), .ref (147 + 10)]) d_192_219 (fun _ => rfl) ?_
                              refine rr_gf (v := .ref (147 + 10)) d_192_220 mo_192 fl_46 rfl ?_
                              refine rr_nx (pc' := 224) (al' := [some (.ref 146), some (.int (nI len)), some (.int (nI u_.1)), some (.int (bI8 (t u_.1))), some (.int (nI E)), some (.int (nI v))]) (st' := [.ref 146, .ref (147 + 10), .int (nI 10), .int (nI u_.2.1), .ref (147 + 10)]) d_192_223 (fun _ => rfl) ?_
                              refine rr_gn d_192_224 mo_192 fl_140 rfl pi.2.1.1 ?_
                              refine rr_ia (j := 10) (v := (w10 u_.2.1)) d_192_227 (by decide) rfl (by decide) (show u_.2.1 < 401 by first | omega | assumption | exact cu_36 (by omega) (cu_lt (by omega) (by omega))) rfl ?_
                              refine rr_nx (pc' := 229) (al' := [some (.ref 146), some (.int (nI len)), some (.int (nI u_.1)), some (.int (bI8 (t u_.1))), some (.int (nI E)), some (.int (nI v))]) (st' := [.int ((nI 10) * (w10 u_.2.1)), .int (nI u_.2.1), .ref (147 + 10)]) d_192_228 (fun _ => rfl) ?_
                              refine rr_nx (pc' := 230) (al' := [some (.ref 146), some (.int (nI len)), some (.int (nI u_.1)), some (.int (bI8 (t u_.1))), some (.int (nI E)), some (.int (nI v))]) (st' := [.ref 146, .int ((nI 10) * (w10 u_.2.1)), .int (nI u_.2.1), .ref (147 + 10)]) d_192_229 (fun _ => rfl) ?_
                              refine rr_gf (v := .ref (147 + 7)) d_192_230 mo_192 fl_33 rfl ?_
                              refine rr_nx (pc' := 235) (al' := [some (.ref 146), some (.int (nI len)), some (.int (nI u_.1)), some (.int (bI8 (t u_.1))), some (.int (nI E)), some (.int (nI v))]) (st' := [.int (nI v), .ref (147 + 7), .int ((nI 10) * (w10 u_.2.1)), .int (nI u_.2.1), .ref (147 + 10)]) d_192_233 (fun _ => rfl) ?_
                              refine rr_ba (j := 7) (v := (bI8 (t v))) d_192_235 (by decide) (by decide) (by decide) (show v < 400 by first | omega | assumption | exact cu_36 (by omega) (cu_lt (by omega) (by omega))) (show u_.2.2.2 7 _ = _ by rw [pi.2.2.2 7 (by decide)]; exact hB _ (by omega)) ?_
                              refine rr_nx (pc' := 237) (al' := [some (.ref 146), some (.int (nI len)), some (.int (nI u_.1)), some (.int (bI8 (t u_.1))), some (.int (nI E)), some (.int (nI v))]) (st' := [.int (((nI 10) * (w10 u_.2.1)) + (bI8 (t v))), .int (nI u_.2.1), .ref (147 + 10)]) d_192_236 (fun _ => rfl) ?_
                              refine rn_bp (v := 48) d_192_237 (by decide) ?_
                              refine rr_nx (pc' := 240) (al' := [some (.ref 146), some (.int (nI len)), some (.int (nI u_.1)), some (.int (bI8 (t u_.1))), some (.int (nI E)), some (.int (nI v))]) (st' := [.int ((((nI 10) * (w10 u_.2.1)) + (bI8 (t v))) - (nI 48)), .int (nI u_.2.1), .ref (147 + 10)]) d_192_239 (fun _ => rfl) ?_
                              refine rr_iS (j := 10) (A1 := (rf_u (rf_u (rf_u u_.2.2.2 11 (upd (u_.2.2.2 11) u_.2.1 (nI u_.1))) 10 (upd w10 u_.2.1 ((((nI 10) * (w10 u_.2.1)) + (bI8 (t v))) - (nI 48)))) 9 (upd (u_.2.2.2 9) u_.2.1 (nI 90)))) d_192_240 (by decide) rfl (by decide) (show u_.2.1 < 401 by first | omega | assumption | exact cu_36 (by omega) (cu_lt (by omega) (by omega))) (by funext q__; simp only [rf_u]; split <;> simp_all) ?_
                              refine rn_inc d_192_241 rfl rfl ?_
                              show RR _ _ 244 [some (.ref 146), some (.int (nI len)), some (.int (nI u_.1)), some (.int (bI8 (t u_.1))), some (.int (nI E)), some (.int (nI (v + 1)))] [] u_.2.2.1 (rf_u (rf_u (rf_u u_.2.2.2 11 (upd (u_.2.2.2 11) u_.2.1 (nI u_.1))) 10 (upd w10 u_.2.1 ((((nI 10) * (w10 u_.2.1)) + (bI8 (t v))) - (nI 48)))) 9 (upd (u_.2.2.2 9) u_.2.1 (nI 90))) _
                              refine rr_nx (pc' := 169) (al' := [some (.ref 146), some (.int (nI len)), some (.int (nI u_.1)), some (.int (bI8 (t u_.1))), some (.int (nI E)), some (.int (nI (v + 1)))]) (st' := []) d_192_244 (fun _ => rfl) ?_
                              exact ihv (upd w10 u_.2.1 ((((nI 10) * (w10 u_.2.1)) + (bI8 (t v))) - (nI 48))) (by omega)
                            · refine rr_nx (pc' := 206) (al' := [some (.ref 146), some (.int (nI len)), some (.int (nI u_.1)), some (.int (bI8 (t u_.1))), some (.int (nI E)), some (.int (nI v))]) (st' := [.ref 146, .int (nI u_.2.1), .ref (147 + 10)]) d_192_205 (fun _ => rfl) ?_
                              refine rr_gf (v := .ref (147 + 10)) d_192_206 mo_192 fl_46 rfl ?_
                              refine rr_nx (pc' := 210) (al' := [some (.ref 146), some (.int (nI len)), some (.int (nI u_.1)), some (.int (bI8 (t u_.1))), some (.int (nI E)), some (.int (nI v))]) (st' := [.ref 146, .ref (147 + 10), .int (nI u_.2.1), .ref (147 + 10)]) d_192_209 (fun _ => rfl) ?_
                              refine rr_gn d_192_210 mo_192 fl_140 rfl pi.2.1.1 ?_
                              refine rr_ia (j := 10) (v := (w10 u_.2.1)) d_192_213 (by decide) rfl (by decide) (show u_.2.1 < 401 by first | omega | assumption | exact cu_36 (by omega) (cu_lt (by omega) (by omega))) rfl ?_
                              refine rr_nx (pc' := 240) (al' := [some (.ref 146), some (.int (nI len)), some (.int (nI u_.1)), some (.int (bI8 (t u_.1))), some (.int (nI E)), some (.int (nI v))]) (st' := [.int (w10 u_.2.1), .int (nI u_.2.1), .ref (147 + 10)]) d_192_214 (fun _ => rfl) ?_
                              refine rr_iS (j := 10) (A1 := (rf_u (rf_u (rf_u u_.2.2.2 11 (upd (u_.2.2.2 11) u_.2.1 (nI u_.1))) 10 (upd w10 u_.2.1 (w10 u_.2.1))) 9 (upd (u_.2.2.2 9) u_.2.1 (nI 90)))) d_192_240 (by decide) rfl (by decide) (show u_.2.1 < 401 by first | omega | assumption | exact cu_36 (by omega) (cu_lt (by omega) (by omega))) (by funext q__; simp only [rf_u]; split <;> simp_all) ?_
                              refine rn_inc d_192_241 rfl rfl ?_
                              show RR _ _ 244 [some (.ref 146), some (.int (nI len)), some (.int (nI u_.1)), some (.int (bI8 (t u_.1))), some (.int (nI E)), some (.int (nI (v + 1)))] [] u_.2.2.1 (rf_u (rf_u (rf_u u_.2.2.2 11 (upd (u_.2.2.2 11) u_.2.1 (nI u_.1))) 10 (upd w10 u_.2.1 (w10 u_.2.1))) 9 (upd (u_.2.2.2 9) u_.2.1 (nI 90))) _
                              refine rr_nx (pc' := 169) (al' := [some (.ref 146), some (.int (nI len)), some (.int (nI u_.1)), some (.int (bI8 (t u_.1))), some (.int (nI E)), some (.int (nI (v + 1)))]) (st' := []) d_192_244 (fun _ => rfl) ?_
                              exact ihv (upd w10 u_.2.1 (w10 u_.2.1)) (by omega)
                      · show RR _ _ 169 [some (.ref 146), some (.int (nI len)), some (.int (nI u_.1)), some (.int (bI8 (t u_.1))), some (.int (nI E)), some (.int (nI E))] [] u_.2.2.1 (rf_u (rf_u (rf_u u_.2.2.2 11 (upd (u_.2.2.2 11) u_.2.1 (nI u_.1))) 10 w10) 9 (upd (u_.2.2.2 9) u_.2.1 (nI 90))) _
                        refine rr_nx (pc' := 171) (al' := [some (.ref 146), some (.int (nI len)), some (.int (nI u_.1)), some (.int (bI8 (t u_.1))), some (.int (nI E)), some (.int (nI E))]) (st' := [.int (nI E)]) d_192_169 (fun _ => rfl) ?_
                        refine rr_nx (pc' := 173) (al' := [some (.ref 146), some (.int (nI len)), some (.int (nI u_.1)), some (.int (bI8 (t u_.1))), some (.int (nI E)), some (.int (nI E))]) (st' := [.int (nI E), .int (nI E)]) d_192_171 (fun _ => rfl) ?_
                        refine rn_cge (t := 247) d_192_173 (by decide) (by first | omega | assumption | exact cu_36 (by omega) (cu_lt (by omega) (by omega))) (by first | omega | assumption | exact cu_36 (by omega) (cu_lt (by omega) (by omega))) (fun c173 => ?_) (fun c173 => ?_)
                        · refine rr_nx (pc' := 248) (al' := [some (.ref 146), some (.int (nI len)), some (.int (nI u_.1)), some (.int (bI8 (t u_.1))), some (.int (nI E)), some (.int (nI E))]) (st' := [.ref 146]) d_192_247 (fun _ => rfl) ?_
                          refine rr_nx (pc' := 249) (al' := [some (.ref 146), some (.int (nI len)), some (.int (nI u_.1)), some (.int (bI8 (t u_.1))), some (.int (nI E)), some (.int (nI E))]) (st' := [.ref 146, .ref 146]) d_192_248 (fun _ => rfl) ?_
                          refine rr_gn d_192_249 mo_192 fl_140 rfl pi.2.1.1 ?_
                          refine rn_ic (v := 1) d_192_252 (by decide) ?_
                          refine rn_add d_192_253  ?_
                          refine rp_18 d_192_254 mo_192 fl_140  ?_
                          refine rr_nx (pc' := 259) (al' := [some (.ref 146), some (.int (nI len)), some (.int (nI u_.1)), some (.int (bI8 (t u_.1))), some (.int (nI E)), some (.int (nI E))]) (st' := [.int (nI E)]) d_192_257 (fun _ => rfl) ?_
                          refine rr_nx (pc' := 260) (al' := [some (.ref 146), some (.int (nI len)), some (.int (nI E)), some (.int (bI8 (t u_.1))), some (.int (nI E)), some (.int (nI E))]) (st' := []) d_192_259 (fun _ => rfl) ?_
                          refine rr_nx (pc' := 7) (al' := [some (.ref 146), some (.int (nI len)), some (.int (nI E)), some (.int (bI8 (t u_.1))), some (.int (nI E)), some (.int (nI E))]) (st' := []) d_192_260 (fun _ => rfl) ?_
                          refine rr_al (congrArg (fun z__ : Nat => ([some (.ref 146), some (.int (nI len)), some (.int (nI z__)), some (.int (bI8 (t u_.1))), some (.int (nI E)), some (.int (nI E))] : AL)) (show E = (E, u_.2.1 + 1, (upd u_.2.2.1 18 (nI (u_.2.1 + 1))), (rf_u (rf_u (rf_u u_.2.2.2 11 (upd (u_.2.2.2 11) u_.2.1 (nI u_.1))) 10 w10) 9 (upd (u_.2.2.2 9) u_.2.1 (nI 90)))).1 by rfl)) ?_
                          refine rr_dr (al1 := [some (.ref 146), some (.int (nI len)), some (.int (nI ((E, u_.2.1 + 1, (upd u_.2.2.1 18 (nI (u_.2.1 + 1))), (rf_u (rf_u (rf_u u_.2.2.2 11 (upd (u_.2.2.2 11) u_.2.1 (nI u_.1))) 10 w10) 9 (upd (u_.2.2.2 9) u_.2.1 (nI 90)))).1))), none, none, none]) (le_s (le_s (le_s (le_d rfl (le_d rfl (le_d rfl (le_n))))))) ?_
                          exact ihi (E, u_.2.1 + 1, (upd u_.2.2.1 18 (nI (u_.2.1 + 1))), (rf_u (rf_u (rf_u u_.2.2.2 11 (upd (u_.2.2.2 11) u_.2.1 (nI u_.1))) 10 w10) 9 (upd (u_.2.2.2 9) u_.2.1 (nI 90)))) (⟨⟨by dsimp only; omega, by dsimp only; omega, by dsimp only; show _ = skp t len (enR t len (tkP t len u_.2.1)); rw [hkj, hto], by dsimp only; omega⟩, ⟨by dsimp only; rw [pk_us], fun k hk => by dsimp only; rw [pk_un hk]; exact pi.2.1.2 k hk⟩, fun j hj => by
                              dsimp only
                              rcases Nat.lt_succ_iff_lt_or_eq.mp hj with q | q
                              · obtain ⟨z1, z2, z3⟩ := pi.2.2.1 j q
                                exact ⟨z1, by rw [rf_u_s, pk_un (by omega)]; exact z2, by rw [rf_u_n (show (11 : Nat) ≠ 9 by decide), rf_u_n (show (11 : Nat) ≠ 10 by decide), rf_u_s, pk_un (by omega)]; exact z3⟩
                              · subst q
                                exact ⟨by rw [hkj]; omega, by rw [rf_u_s, pk_us, tkC, if_pos (by rw [hkj]; omega), hkj, hto]; exact congrArg nI hcd, by rw [rf_u_n (show (11 : Nat) ≠ 9 by decide), rf_u_n (show (11 : Nat) ≠ 10 by decide), rf_u_s, pk_us, hkj]⟩, ((pi.2.2.2.u (by decide)).u (by decide)).u (by decide)⟩)
                        · omega
                  · exact absurd c132 c40
                · exact absurd ((b8_D _ (hb E (by omega))).mp c91) (by rw [e4 (by omega)]; exact Bool.false_ne_true)
        · have hs : isS (t u_.1) = true := (b8_S _ (hb _ (by omega))).mp c40
          obtain ⟨E, hE⟩ : ∃ E, E = rnS t len u_.1 := ⟨_, rfl⟩
          obtain ⟨e1, e2, e3, e4⟩ := rnS_f (t := t) (len := len) (p := u_.1) (by omega)
          rw [← hE] at e1 e2 e3 e4
          have e5 : u_.1 < E := by rw [hE]; exact rnS_gt c9 hs
          have hto : enR t len u_.1 = E := by unfold enR; rw [if_pos c9, if_pos hs, hE]
          have hcd : wdN t u_.1 E = cdR t u_.1 E := by unfold cdR; rw [if_pos hs]
          refine rr_up (al := fun q => [some (.ref 146), some (.int (nI len)), some (.int (nI u_.1)), some (.int (bI8 (t u_.1))), some (.int (nI q)), none]) (G := fun q => u_.2.2.1) (B := fun q => u_.2.2.2) (P := fun q => u_.1 + 1 ≤ q) (n := E) (fun q hq pq ihq => ?_) (fun pq => ?_) (u_.1 + 1)  (by omega) (Nat.le_refl _)
          · show RR _ _ 43 [some (.ref 146), some (.int (nI len)), some (.int (nI u_.1)), some (.int (bI8 (t u_.1))), some (.int (nI q)), none] [] u_.2.2.1 u_.2.2.2 _
            refine rr_nx (pc' := 45) (al' := [some (.ref 146), some (.int (nI len)), some (.int (nI u_.1)), some (.int (bI8 (t u_.1))), some (.int (nI q)), none]) (st' := [.int (nI q)]) d_192_43 (fun _ => rfl) ?_
            refine rr_nx (pc' := 46) (al' := [some (.ref 146), some (.int (nI len)), some (.int (nI u_.1)), some (.int (bI8 (t u_.1))), some (.int (nI q)), none]) (st' := [.int (nI len), .int (nI q)]) d_192_45 (fun _ => rfl) ?_
            refine rn_cge (t := 68) d_192_46 (by decide) (by first | omega | assumption | exact cu_36 (by omega) (cu_lt (by omega) (by omega))) (by first | omega | assumption | exact cu_36 (by omega) (cu_lt (by omega) (by omega))) (fun c46 => ?_) (fun c46 => ?_)
            · omega
            · refine rr_nx (pc' := 50) (al' := [some (.ref 146), some (.int (nI len)), some (.int (nI u_.1)), some (.int (bI8 (t u_.1))), some (.int (nI q)), none]) (st' := [.ref 146]) d_192_49 (fun _ => rfl) ?_
              refine rr_gf (v := .ref (147 + 7)) d_192_50 mo_192 fl_33 rfl ?_
              refine rr_nx (pc' := 55) (al' := [some (.ref 146), some (.int (nI len)), some (.int (nI u_.1)), some (.int (bI8 (t u_.1))), some (.int (nI q)), none]) (st' := [.int (nI q), .ref (147 + 7)]) d_192_53 (fun _ => rfl) ?_
              refine rr_ba (j := 7) (v := (bI8 (t q))) d_192_55 (by decide) (by decide) (by decide) (show q < 400 by first | omega | assumption | exact cu_36 (by omega) (cu_lt (by omega) (by omega))) (show u_.2.2.2 7 _ = _ by rw [pi.2.2.2 7 (by decide)]; exact hB _ (by omega)) ?_
              refine rr_ps (as := [.int (bI8 (t q))]) (al0 := [some (.int (bI8 (t q)))]) (r := []) d_192_56 mo_192 ml_143 mz_193 rfl rfl rfl (Nat.le_of_ble_eq_true rfl) (s_isSmall (bI8 (t q))) ?_
              show RR _ _ 59 [some (.ref 146), some (.int (nI len)), some (.int (nI u_.1)), some (.int (bI8 (t u_.1))), some (.int (nI q)), none] [.int (bI (nI 97 ≤ (bI8 (t q)) ∧ (bI8 (t q)) ≤ nI 122))] u_.2.2.1 u_.2.2.2 _
              refine rr_beq (t := 68) d_192_59 (by decide) (fun c59 => ?_) (fun c59 => ?_)
              · exact absurd ((b8_S _ (hb q (by omega))).mpr (e3 q (by omega) hq)) c59
              · refine rn_inc d_192_62 rfl rfl ?_
                show RR _ _ 65 [some (.ref 146), some (.int (nI len)), some (.int (nI u_.1)), some (.int (bI8 (t u_.1))), some (.int (nI (q + 1))), none] [] u_.2.2.1 u_.2.2.2 _
                refine rr_nx (pc' := 43) (al' := [some (.ref 146), some (.int (nI len)), some (.int (nI u_.1)), some (.int (bI8 (t u_.1))), some (.int (nI (q + 1))), none]) (st' := []) d_192_65 (fun _ => rfl) ?_
                exact ihq  (by omega)
          · show RR _ _ 43 [some (.ref 146), some (.int (nI len)), some (.int (nI u_.1)), some (.int (bI8 (t u_.1))), some (.int (nI E)), none] [] u_.2.2.1 u_.2.2.2 _
            refine rr_nx (pc' := 45) (al' := [some (.ref 146), some (.int (nI len)), some (.int (nI u_.1)), some (.int (bI8 (t u_.1))), some (.int (nI E)), none]) (st' := [.int (nI E)]) d_192_43 (fun _ => rfl) ?_
            refine rr_nx (pc' := 46) (al' := [some (.ref 146), some (.int (nI len)), some (.int (nI u_.1)), some (.int (bI8 (t u_.1))), some (.int (nI E)), none]) (st' := [.int (nI len), .int (nI E)]) d_192_45 (fun _ => rfl) ?_
            refine rn_cge (t := 68) d_192_46 (by decide) (by first | omega | assumption | exact cu_36 (by omega) (cu_lt (by omega) (by omega))) (by first | omega | assumption | exact cu_36 (by omega) (cu_lt (by omega) (by omega))) (fun c46 => ?_) (fun c46 => ?_)
            · refine rr_nx (pc' := 69) (al' := [some (.ref 146), some (.int (nI len)), some (.int (nI u_.1)), some (.int (bI8 (t u_.1))), some (.int (nI E)), none]) (st' := [.int (bI8 (t u_.1))]) d_192_68 (fun _ => rfl) ?_
              refine rr_ps (as := [.int (bI8 (t u_.1))]) (al0 := [some (.int (bI8 (t u_.1)))]) (r := []) d_192_69 mo_192 ml_146 mz_194 rfl rfl rfl (Nat.le_of_ble_eq_true rfl) (s_isDigit (bI8 (t u_.1))) ?_
              show RR _ _ 72 [some (.ref 146), some (.int (nI len)), some (.int (nI u_.1)), some (.int (bI8 (t u_.1))), some (.int (nI E)), none] [.int (bI (nI 48 ≤ (bI8 (t u_.1)) ∧ (bI8 (t u_.1)) ≤ nI 57))] u_.2.2.1 u_.2.2.2 _
              refine rr_beq (t := 100) d_192_72 (by decide) (fun c72 => ?_) (fun c72 => ?_)
              · refine rr_nx (pc' := 101) (al' := [some (.ref 146), some (.int (nI len)), some (.int (nI u_.1)), some (.int (bI8 (t u_.1))), some (.int (nI E)), none]) (st' := [.ref 146]) d_192_100 (fun _ => rfl) ?_
                refine rr_gf (v := .ref (147 + 11)) d_192_101 mo_192 fl_49 rfl ?_
                refine rr_nx (pc' := 105) (al' := [some (.ref 146), some (.int (nI len)), some (.int (nI u_.1)), some (.int (bI8 (t u_.1))), some (.int (nI E)), none]) (st' := [.ref 146, .ref (147 + 11)]) d_192_104 (fun _ => rfl) ?_
                refine rr_gn d_192_105 mo_192 fl_140 rfl pi.2.1.1 ?_
                refine rr_nx (pc' := 109) (al' := [some (.ref 146), some (.int (nI len)), some (.int (nI u_.1)), some (.int (bI8 (t u_.1))), some (.int (nI E)), none]) (st' := [.int (nI u_.1), .int (nI u_.2.1), .ref (147 + 11)]) d_192_108 (fun _ => rfl) ?_
                refine rr_iS (j := 11) (A1 := (rf_u u_.2.2.2 11 (upd (u_.2.2.2 11) u_.2.1 (nI u_.1)))) d_192_109 (by decide) rfl (by decide) (show u_.2.1 < 401 by first | omega | assumption | exact cu_36 (by omega) (cu_lt (by omega) (by omega))) rfl ?_
                refine rr_nx (pc' := 111) (al' := [some (.ref 146), some (.int (nI len)), some (.int (nI u_.1)), some (.int (bI8 (t u_.1))), some (.int (nI E)), none]) (st' := [.ref 146]) d_192_110 (fun _ => rfl) ?_
                refine rr_gf (v := .ref (147 + 10)) d_192_111 mo_192 fl_46 rfl ?_
                refine rr_nx (pc' := 115) (al' := [some (.ref 146), some (.int (nI len)), some (.int (nI u_.1)), some (.int (bI8 (t u_.1))), some (.int (nI E)), none]) (st' := [.ref 146, .ref (147 + 10)]) d_192_114 (fun _ => rfl) ?_
                refine rr_gn d_192_115 mo_192 fl_140 rfl pi.2.1.1 ?_
                refine rn_ic (v := 0) d_192_118 (by decide) ?_
                refine rr_iS (j := 10) (A1 := (rf_u (rf_u u_.2.2.2 11 (upd (u_.2.2.2 11) u_.2.1 (nI u_.1))) 10 (upd (u_.2.2.2 10) u_.2.1 (nI 0)))) d_192_119 (by decide) rfl (by decide) (show u_.2.1 < 401 by first | omega | assumption | exact cu_36 (by omega) (cu_lt (by omega) (by omega))) rfl ?_
                refine rr_nx (pc' := 121) (al' := [some (.ref 146), some (.int (nI len)), some (.int (nI u_.1)), some (.int (bI8 (t u_.1))), some (.int (nI E)), none]) (st' := [.ref 146]) d_192_120 (fun _ => rfl) ?_
                refine rr_gf (v := .ref (147 + 9)) d_192_121 mo_192 fl_43 rfl ?_
                refine rr_nx (pc' := 125) (al' := [some (.ref 146), some (.int (nI len)), some (.int (nI u_.1)), some (.int (bI8 (t u_.1))), some (.int (nI E)), none]) (st' := [.ref 146, .ref (147 + 9)]) d_192_124 (fun _ => rfl) ?_
                refine rr_gn d_192_125 mo_192 fl_140 rfl pi.2.1.1 ?_
                refine rr_nx (pc' := 129) (al' := [some (.ref 146), some (.int (nI len)), some (.int (nI u_.1)), some (.int (bI8 (t u_.1))), some (.int (nI E)), none]) (st' := [.int (bI8 (t u_.1)), .int (nI u_.2.1), .ref (147 + 9)]) d_192_128 (fun _ => rfl) ?_
                refine rr_ps (as := [.int (bI8 (t u_.1))]) (al0 := [some (.int (bI8 (t u_.1)))]) (r := [.int (nI u_.2.1), .ref (147 + 9)]) d_192_129 mo_192 ml_143 mz_193 rfl rfl rfl (Nat.le_of_ble_eq_true rfl) (s_isSmall (bI8 (t u_.1))) ?_
                show RR _ _ 132 [some (.ref 146), some (.int (nI len)), some (.int (nI u_.1)), some (.int (bI8 (t u_.1))), some (.int (nI E)), none] [.int (bI (nI 97 ≤ (bI8 (t u_.1)) ∧ (bI8 (t u_.1)) ≤ nI 122)), .int (nI u_.2.1), .ref (147 + 9)] u_.2.2.1 (rf_u (rf_u u_.2.2.2 11 (upd (u_.2.2.2 11) u_.2.1 (nI u_.1))) 10 (upd (u_.2.2.2 10) u_.2.1 (nI 0))) _
                refine rr_beq (t := 145) d_192_132 (by decide) (fun c132 => ?_) (fun c132 => ?_)
                · exact absurd c40 c132
                · refine rr_nx (pc' := 136) (al' := [some (.ref 146), some (.int (nI len)), some (.int (nI u_.1)), some (.int (bI8 (t u_.1))), some (.int (nI E)), none]) (st' := [.ref 146, .int (nI u_.2.1), .ref (147 + 9)]) d_192_135 (fun _ => rfl) ?_
                  refine rr_nx (pc' := 137) (al' := [some (.ref 146), some (.int (nI len)), some (.int (nI u_.1)), some (.int (bI8 (t u_.1))), some (.int (nI E)), none]) (st' := [.int (nI u_.1), .ref 146, .int (nI u_.2.1), .ref (147 + 9)]) d_192_136 (fun _ => rfl) ?_
                  refine rr_nx (pc' := 139) (al' := [some (.ref 146), some (.int (nI len)), some (.int (nI u_.1)), some (.int (bI8 (t u_.1))), some (.int (nI E)), none]) (st' := [.int (nI E), .int (nI u_.1), .ref 146, .int (nI u_.2.1), .ref (147 + 9)]) d_192_137 (fun _ => rfl) ?_
                  refine rr_pv (as := [.int (nI u_.1), .int (nI E)]) (al0 := [some (.ref 146), some (.int (nI u_.1)), some (.int (nI E)), none, none, none, none, none]) (r := [.int (nI u_.2.1), .ref (147 + 9)]) d_192_139 mo_192 ml_149 mz_195 rfl rfl rfl (Nat.le_of_ble_eq_true rfl) (s_wordOf (t := t) (len := len) (fun i hi => by rw [rf_u_n (by decide), rf_u_n (by decide), pi.2.2.2 6 (by decide)]; exact hW i hi) hlen (fun i hi => by rw [rf_u_n (by decide), rf_u_n (by decide), pi.2.2.2 7 (by decide)]; exact hB i hi) hb (by omega) (by omega)) ?_
                  show RR _ _ 142 [some (.ref 146), some (.int (nI len)), some (.int (nI u_.1)), some (.int (bI8 (t u_.1))), some (.int (nI E)), none] [.int (nI (wdN t u_.1 E)), .int (nI u_.2.1), .ref (147 + 9)] u_.2.2.1 (rf_u (rf_u u_.2.2.2 11 (upd (u_.2.2.2 11) u_.2.1 (nI u_.1))) 10 (upd (u_.2.2.2 10) u_.2.1 (nI 0))) _
                  refine rr_nx (pc' := 165) (al' := [some (.ref 146), some (.int (nI len)), some (.int (nI u_.1)), some (.int (bI8 (t u_.1))), some (.int (nI E)), none]) (st' := [.int (nI (wdN t u_.1 E)), .int (nI u_.2.1), .ref (147 + 9)]) d_192_142 (fun _ => rfl) ?_
                  refine rr_iS (j := 9) (A1 := (rf_u (rf_u (rf_u u_.2.2.2 11 (upd (u_.2.2.2 11) u_.2.1 (nI u_.1))) 10 (upd (u_.2.2.2 10) u_.2.1 (nI 0))) 9 (upd (u_.2.2.2 9) u_.2.1 (nI (wdN t u_.1 E))))) d_192_165 (by decide) rfl (by decide) (show u_.2.1 < 401 by first | omega | assumption | exact cu_36 (by omega) (cu_lt (by omega) (by omega))) rfl ?_
                  refine rr_nx (pc' := 167) (al' := [some (.ref 146), some (.int (nI len)), some (.int (nI u_.1)), some (.int (bI8 (t u_.1))), some (.int (nI E)), none]) (st' := [.int (nI u_.1)]) d_192_166 (fun _ => rfl) ?_
                  refine rr_nx (pc' := 169) (al' := [some (.ref 146), some (.int (nI len)), some (.int (nI u_.1)), some (.int (bI8 (t u_.1))), some (.int (nI E)), some (.int (nI u_.1))]) (st' := []) d_192_167 (fun _ => rfl) ?_
                  refine rr_upw (al := fun v w10 => [some (.ref 146), some (.int (nI len)), some (.int (nI u_.1)), some (.int (bI8 (t u_.1))), some (.int (nI E)), some (.int (nI v))]) (G := fun v w10 => u_.2.2.1) (B := fun v w10 => (rf_u (rf_u (rf_u u_.2.2.2 11 (upd (u_.2.2.2 11) u_.2.1 (nI u_.1))) 10 w10) 9 (upd (u_.2.2.2 9) u_.2.1 (nI (wdN t u_.1 E))))) (P := fun v w10 => u_.1 ≤ v) (n := E) (fun v w10 hv pv ihv => ?_) (fun w10 pv => ?_) u_.1 (upd (u_.2.2.2 10) u_.2.1 (nI 0)) (by omega) (Nat.le_refl _)
                  · show RR _ _ 169 [some (.ref 146), some (.int (nI len)), some (.int (nI u_.1)), some (.int (bI8 (t u_.1))), some (.int (nI E)), some (.int (nI v))] [] u_.2.2.1 (rf_u (rf_u (rf_u u_.2.2.2 11 (upd (u_.2.2.2 11) u_.2.1 (nI u_.1))) 10 w10) 9 (upd (u_.2.2.2 9) u_.2.1 (nI (wdN t u_.1 E)))) _
                    refine rr_nx (pc' := 171) (al' := [some (.ref 146), some (.int (nI len)), some (.int (nI u_.1)), some (.int (bI8 (t u_.1))), some (.int (nI E)), some (.int (nI v))]) (st' := [.int (nI v)]) d_192_169 (fun _ => rfl) ?_
                    refine rr_nx (pc' := 173) (al' := [some (.ref 146), some (.int (nI len)), some (.int (nI u_.1)), some (.int (bI8 (t u_.1))), some (.int (nI E)), some (.int (nI v))]) (st' := [.int (nI E), .int (nI v)]) d_192_171 (fun _ => rfl) ?_
                    refine rn_cge (t := 247) d_192_173 (by decide) (by first | omega | assumption | exact cu_36 (by omega) (cu_lt (by omega) (by omega))) (by first | omega | assumption | exact cu_36 (by omega) (cu_lt (by omega) (by omega))) (fun c173 => ?_) (fun c173 => ?_)
                    · omega
                    · refine rr_nx (pc' := 177) (al' := [some (.ref 146), some (.int (nI len)), some (.int (nI u_.1)), some (.int (bI8 (t u_.1))), some (.int (nI E)), some (.int (nI v))]) (st' := [.int (bI8 (t u_.1))]) d_192_176 (fun _ => rfl) ?_
                      refine rr_ps (as := [.int (bI8 (t u_.1))]) (al0 := [some (.int (bI8 (t u_.1)))]) (r := []) d_192_177 mo_192 ml_146 mz_194 rfl rfl rfl (Nat.le_of_ble_eq_true rfl) (s_isDigit (bI8 (t u_.1))) ?_
                      show RR _ _ 180 [some (.ref 146), some (.int (nI len)), some (.int (nI u_.1)), some (.int (bI8 (t u_.1))), some (.int (nI E)), some (.int (nI v))] [.int (bI (nI 48 ≤ (bI8 (t u_.1)) ∧ (bI8 (t u_.1)) ≤ nI 57))] u_.2.2.1 (rf_u (rf_u (rf_u u_.2.2.2 11 (upd (u_.2.2.2 11) u_.2.1 (nI u_.1))) 10 w10) 9 (upd (u_.2.2.2 9) u_.2.1 (nI (wdN t u_.1 E)))) _
                      refine rr_beq (t := 247) d_192_180 (by decide) (fun c180 => ?_) (fun c180 => ?_)
                      · refine rr_nx (pc' := 248) (al' := [some (.ref 146), some (.int (nI len)), some (.int (nI u_.1)), some (.int (bI8 (t u_.1))), some (.int (nI E)), some (.int (nI v))]) (st' := [.ref 146]) d_192_247 (fun _ => rfl) ?_
                        refine rr_nx (pc' := 249) (al' := [some (.ref 146), some (.int (nI len)), some (.int (nI u_.1)), some (.int (bI8 (t u_.1))), some (.int (nI E)), some (.int (nI v))]) (st' := [.ref 146, .ref 146]) d_192_248 (fun _ => rfl) ?_
                        refine rr_gn d_192_249 mo_192 fl_140 rfl pi.2.1.1 ?_
                        refine rn_ic (v := 1) d_192_252 (by decide) ?_
                        refine rn_add d_192_253  ?_
                        refine rp_18 d_192_254 mo_192 fl_140  ?_
                        refine rr_nx (pc' := 259) (al' := [some (.ref 146), some (.int (nI len)), some (.int (nI u_.1)), some (.int (bI8 (t u_.1))), some (.int (nI E)), some (.int (nI v))]) (st' := [.int (nI E)]) d_192_257 (fun _ => rfl) ?_
                        refine rr_nx (pc' := 260) (al' := [some (.ref 146), some (.int (nI len)), some (.int (nI E)), some (.int (bI8 (t u_.1))), some (.int (nI E)), some (.int (nI v))]) (st' := []) d_192_259 (fun _ => rfl) ?_
                        refine rr_nx (pc' := 7) (al' := [some (.ref 146), some (.int (nI len)), some (.int (nI E)), some (.int (bI8 (t u_.1))), some (.int (nI E)), some (.int (nI v))]) (st' := []) d_192_260 (fun _ => rfl) ?_
                        refine rr_al (congrArg (fun z__ : Nat => ([some (.ref 146), some (.int (nI len)), some (.int (nI z__)), some (.int (bI8 (t u_.1))), some (.int (nI E)), some (.int (nI v))] : AL)) (show E = (E, u_.2.1 + 1, (upd u_.2.2.1 18 (nI (u_.2.1 + 1))), (rf_u (rf_u (rf_u u_.2.2.2 11 (upd (u_.2.2.2 11) u_.2.1 (nI u_.1))) 10 w10) 9 (upd (u_.2.2.2 9) u_.2.1 (nI (wdN t u_.1 E))))).1 by rfl)) ?_
                        refine rr_dr (al1 := [some (.ref 146), some (.int (nI len)), some (.int (nI ((E, u_.2.1 + 1, (upd u_.2.2.1 18 (nI (u_.2.1 + 1))), (rf_u (rf_u (rf_u u_.2.2.2 11 (upd (u_.2.2.2 11) u_.2.1 (nI u_.1))) 10 w10) 9 (upd (u_.2.2.2 9) u_.2.1 (nI (wdN t u_.1 E))))).1))), none, none, none]) (le_s (le_s (le_s (le_d rfl (le_d rfl (le_d rfl (le_n))))))) ?_
                        exact ihi (E, u_.2.1 + 1, (upd u_.2.2.1 18 (nI (u_.2.1 + 1))), (rf_u (rf_u (rf_u u_.2.2.2 11 (upd (u_.2.2.2 11) u_.2.1 (nI u_.1))) 10 w10) 9 (upd (u_.2.2.2 9) u_.2.1 (nI (wdN t u_.1 E))))) (⟨⟨by dsimp only; omega, by dsimp only; omega, by dsimp only; show _ = skp t len (enR t len (tkP t len u_.2.1)); rw [hkj, hto], by dsimp only; omega⟩, ⟨by dsimp only; rw [pk_us], fun k hk => by dsimp only; rw [pk_un hk]; exact pi.2.1.2 k hk⟩, fun j hj => by
                            dsimp only
                            rcases Nat.lt_succ_iff_lt_or_eq.mp hj with q | q
                            · obtain ⟨z1, z2, z3⟩ := pi.2.2.1 j q
                              exact ⟨z1, by rw [rf_u_s, pk_un (by omega)]; exact z2, by rw [rf_u_n (show (11 : Nat) ≠ 9 by decide), rf_u_n (show (11 : Nat) ≠ 10 by decide), rf_u_s, pk_un (by omega)]; exact z3⟩
                            · subst q
                              exact ⟨by rw [hkj]; omega, by rw [rf_u_s, pk_us, tkC, if_pos (by rw [hkj]; omega), hkj, hto]; exact congrArg nI hcd, by rw [rf_u_n (show (11 : Nat) ≠ 9 by decide), rf_u_n (show (11 : Nat) ≠ 10 by decide), rf_u_s, pk_us, hkj]⟩, ((pi.2.2.2.u (by decide)).u (by decide)).u (by decide)⟩)
                      · exact absurd c180 c72
                  · show RR _ _ 169 [some (.ref 146), some (.int (nI len)), some (.int (nI u_.1)), some (.int (bI8 (t u_.1))), some (.int (nI E)), some (.int (nI E))] [] u_.2.2.1 (rf_u (rf_u (rf_u u_.2.2.2 11 (upd (u_.2.2.2 11) u_.2.1 (nI u_.1))) 10 w10) 9 (upd (u_.2.2.2 9) u_.2.1 (nI (wdN t u_.1 E)))) _
                    refine rr_nx (pc' := 171) (al' := [some (.ref 146), some (.int (nI len)), some (.int (nI u_.1)), some (.int (bI8 (t u_.1))), some (.int (nI E)), some (.int (nI E))]) (st' := [.int (nI E)]) d_192_169 (fun _ => rfl) ?_
                    refine rr_nx (pc' := 173) (al' := [some (.ref 146), some (.int (nI len)), some (.int (nI u_.1)), some (.int (bI8 (t u_.1))), some (.int (nI E)), some (.int (nI E))]) (st' := [.int (nI E), .int (nI E)]) d_192_171 (fun _ => rfl) ?_
                    refine rn_cge (t := 247) d_192_173 (by decide) (by first | omega | assumption | exact cu_36 (by omega) (cu_lt (by omega) (by omega))) (by first | omega | assumption | exact cu_36 (by omega) (cu_lt (by omega) (by omega))) (fun c173 => ?_) (fun c173 => ?_)
                    · refine rr_nx (pc' := 248) (al' := [some (.ref 146), some (.int (nI len)), some (.int (nI u_.1)), some (.int (bI8 (t u_.1))), some (.int (nI E)), some (.int (nI E))]) (st' := [.ref 146]) d_192_247 (fun _ => rfl) ?_
                      refine rr_nx (pc' := 249) (al' := [some (.ref 146), some (.int (nI len)), some (.int (nI u_.1)), some (.int (bI8 (t u_.1))), some (.int (nI E)), some (.int (nI E))]) (st' := [.ref 146, .ref 146]) d_192_248 (fun _ => rfl) ?_
                      refine rr_gn d_192_249 mo_192 fl_140 rfl pi.2.1.1 ?_
                      refine rn_ic (v := 1) d_192_252 (by decide) ?_
                      refine rn_add d_192_253  ?_
                      refine rp_18 d_192_254 mo_192 fl_140  ?_
                      refine rr_nx (pc' := 259) (al' := [some (.ref 146), some (.int (nI len)), some (.int (nI u_.1)), some (.int (bI8 (t u_.1))), some (.int (nI E)), some (.int (nI E))]) (st' := [.int (nI E)]) d_192_257 (fun _ => rfl) ?_
                      refine rr_nx (pc' := 260) (al' := [some (.ref 146), some (.int (nI len)), some (.int (nI E)), some (.int (bI8 (t u_.1))), some (.int (nI E)), some (.int (nI E))]) (st' := []) d_192_259 (fun _ => rfl) ?_
                      refine rr_nx (pc' := 7) (al' := [some (.ref 146), some (.int (nI len)), some (.int (nI E)), some (.int (bI8 (t u_.1))), some (.int (nI E)), some (.int (nI E))]) (st' := []) d_192_260 (fun _ => rfl) ?_
                      refine rr_al (congrArg (fun z__ : Nat => ([some (.ref 146), some (.int (nI len)), some (.int (nI z__)), some (.int (bI8 (t u_.1))), some (.int (nI E)), some (.int (nI E))] : AL)) (show E = (E, u_.2.1 + 1, (upd u_.2.2.1 18 (nI (u_.2.1 + 1))), (rf_u (rf_u (rf_u u_.2.2.2 11 (upd (u_.2.2.2 11) u_.2.1 (nI u_.1))) 10 w10) 9 (upd (u_.2.2.2 9) u_.2.1 (nI (wdN t u_.1 E))))).1 by rfl)) ?_
                      refine rr_dr (al1 := [some (.ref 146), some (.int (nI len)), some (.int (nI ((E, u_.2.1 + 1, (upd u_.2.2.1 18 (nI (u_.2.1 + 1))), (rf_u (rf_u (rf_u u_.2.2.2 11 (upd (u_.2.2.2 11) u_.2.1 (nI u_.1))) 10 w10) 9 (upd (u_.2.2.2 9) u_.2.1 (nI (wdN t u_.1 E))))).1))), none, none, none]) (le_s (le_s (le_s (le_d rfl (le_d rfl (le_d rfl (le_n))))))) ?_
                      exact ihi (E, u_.2.1 + 1, (upd u_.2.2.1 18 (nI (u_.2.1 + 1))), (rf_u (rf_u (rf_u u_.2.2.2 11 (upd (u_.2.2.2 11) u_.2.1 (nI u_.1))) 10 w10) 9 (upd (u_.2.2.2 9) u_.2.1 (nI (wdN t u_.1 E))))) (⟨⟨by dsimp only; omega, by dsimp only; omega, by dsimp only; show _ = skp t len (enR t len (tkP t len u_.2.1)); rw [hkj, hto], by dsimp only; omega⟩, ⟨by dsimp only; rw [pk_us], fun k hk => by dsimp only; rw [pk_un hk]; exact pi.2.1.2 k hk⟩, fun j hj => by
                          dsimp only
                          rcases Nat.lt_succ_iff_lt_or_eq.mp hj with q | q
                          · obtain ⟨z1, z2, z3⟩ := pi.2.2.1 j q
                            exact ⟨z1, by rw [rf_u_s, pk_un (by omega)]; exact z2, by rw [rf_u_n (show (11 : Nat) ≠ 9 by decide), rf_u_n (show (11 : Nat) ≠ 10 by decide), rf_u_s, pk_un (by omega)]; exact z3⟩
                          · subst q
                            exact ⟨by rw [hkj]; omega, by rw [rf_u_s, pk_us, tkC, if_pos (by rw [hkj]; omega), hkj, hto]; exact congrArg nI hcd, by rw [rf_u_n (show (11 : Nat) ≠ 9 by decide), rf_u_n (show (11 : Nat) ≠ 10 by decide), rf_u_s, pk_us, hkj]⟩, ((pi.2.2.2.u (by decide)).u (by decide)).u (by decide)⟩)
                    · omega
              · exact absurd ((b8_D _ (hb _ (by omega))).mp c72) (by have q := of_decide_eq_true hs; unfold isDg; rw [decide_eq_false (by omega)]; exact Bool.false_ne_true)
            · refine rr_nx (pc' := 50) (al' := [some (.ref 146), some (.int (nI len)), some (.int (nI u_.1)), some (.int (bI8 (t u_.1))), some (.int (nI E)), none]) (st' := [.ref 146]) d_192_49 (fun _ => rfl) ?_
              refine rr_gf (v := .ref (147 + 7)) d_192_50 mo_192 fl_33 rfl ?_
              refine rr_nx (pc' := 55) (al' := [some (.ref 146), some (.int (nI len)), some (.int (nI u_.1)), some (.int (bI8 (t u_.1))), some (.int (nI E)), none]) (st' := [.int (nI E), .ref (147 + 7)]) d_192_53 (fun _ => rfl) ?_
              refine rr_ba (j := 7) (v := (bI8 (t E))) d_192_55 (by decide) (by decide) (by decide) (show E < 400 by first | omega | assumption | exact cu_36 (by omega) (cu_lt (by omega) (by omega))) (show u_.2.2.2 7 _ = _ by rw [pi.2.2.2 7 (by decide)]; exact hB _ (by omega)) ?_
              refine rr_ps (as := [.int (bI8 (t E))]) (al0 := [some (.int (bI8 (t E)))]) (r := []) d_192_56 mo_192 ml_143 mz_193 rfl rfl rfl (Nat.le_of_ble_eq_true rfl) (s_isSmall (bI8 (t E))) ?_
              show RR _ _ 59 [some (.ref 146), some (.int (nI len)), some (.int (nI u_.1)), some (.int (bI8 (t u_.1))), some (.int (nI E)), none] [.int (bI (nI 97 ≤ (bI8 (t E)) ∧ (bI8 (t E)) ≤ nI 122))] u_.2.2.1 u_.2.2.2 _
              refine rr_beq (t := 68) d_192_59 (by decide) (fun c59 => ?_) (fun c59 => ?_)
              · refine rr_nx (pc' := 69) (al' := [some (.ref 146), some (.int (nI len)), some (.int (nI u_.1)), some (.int (bI8 (t u_.1))), some (.int (nI E)), none]) (st' := [.int (bI8 (t u_.1))]) d_192_68 (fun _ => rfl) ?_
                refine rr_ps (as := [.int (bI8 (t u_.1))]) (al0 := [some (.int (bI8 (t u_.1)))]) (r := []) d_192_69 mo_192 ml_146 mz_194 rfl rfl rfl (Nat.le_of_ble_eq_true rfl) (s_isDigit (bI8 (t u_.1))) ?_
                show RR _ _ 72 [some (.ref 146), some (.int (nI len)), some (.int (nI u_.1)), some (.int (bI8 (t u_.1))), some (.int (nI E)), none] [.int (bI (nI 48 ≤ (bI8 (t u_.1)) ∧ (bI8 (t u_.1)) ≤ nI 57))] u_.2.2.1 u_.2.2.2 _
                refine rr_beq (t := 100) d_192_72 (by decide) (fun c72 => ?_) (fun c72 => ?_)
                · refine rr_nx (pc' := 101) (al' := [some (.ref 146), some (.int (nI len)), some (.int (nI u_.1)), some (.int (bI8 (t u_.1))), some (.int (nI E)), none]) (st' := [.ref 146]) d_192_100 (fun _ => rfl) ?_
                  refine rr_gf (v := .ref (147 + 11)) d_192_101 mo_192 fl_49 rfl ?_
                  refine rr_nx (pc' := 105) (al' := [some (.ref 146), some (.int (nI len)), some (.int (nI u_.1)), some (.int (bI8 (t u_.1))), some (.int (nI E)), none]) (st' := [.ref 146, .ref (147 + 11)]) d_192_104 (fun _ => rfl) ?_
                  refine rr_gn d_192_105 mo_192 fl_140 rfl pi.2.1.1 ?_
                  refine rr_nx (pc' := 109) (al' := [some (.ref 146), some (.int (nI len)), some (.int (nI u_.1)), some (.int (bI8 (t u_.1))), some (.int (nI E)), none]) (st' := [.int (nI u_.1), .int (nI u_.2.1), .ref (147 + 11)]) d_192_108 (fun _ => rfl) ?_
                  refine rr_iS (j := 11) (A1 := (rf_u u_.2.2.2 11 (upd (u_.2.2.2 11) u_.2.1 (nI u_.1)))) d_192_109 (by decide) rfl (by decide) (show u_.2.1 < 401 by first | omega | assumption | exact cu_36 (by omega) (cu_lt (by omega) (by omega))) rfl ?_
                  refine rr_nx (pc' := 111) (al' := [some (.ref 146), some (.int (nI len)), some (.int (nI u_.1)), some (.int (bI8 (t u_.1))), some (.int (nI E)), none]) (st' := [.ref 146]) d_192_110 (fun _ => rfl) ?_
                  refine rr_gf (v := .ref (147 + 10)) d_192_111 mo_192 fl_46 rfl ?_
                  refine rr_nx (pc' := 115) (al' := [some (.ref 146), some (.int (nI len)), some (.int (nI u_.1)), some (.int (bI8 (t u_.1))), some (.int (nI E)), none]) (st' := [.ref 146, .ref (147 + 10)]) d_192_114 (fun _ => rfl) ?_
                  refine rr_gn d_192_115 mo_192 fl_140 rfl pi.2.1.1 ?_
                  refine rn_ic (v := 0) d_192_118 (by decide) ?_
                  refine rr_iS (j := 10) (A1 := (rf_u (rf_u u_.2.2.2 11 (upd (u_.2.2.2 11) u_.2.1 (nI u_.1))) 10 (upd (u_.2.2.2 10) u_.2.1 (nI 0)))) d_192_119 (by decide) rfl (by decide) (show u_.2.1 < 401 by first | omega | assumption | exact cu_36 (by omega) (cu_lt (by omega) (by omega))) rfl ?_
                  refine rr_nx (pc' := 121) (al' := [some (.ref 146), some (.int (nI len)), some (.int (nI u_.1)), some (.int (bI8 (t u_.1))), some (.int (nI E)), none]) (st' := [.ref 146]) d_192_120 (fun _ => rfl) ?_
                  refine rr_gf (v := .ref (147 + 9)) d_192_121 mo_192 fl_43 rfl ?_
                  refine rr_nx (pc' := 125) (al' := [some (.ref 146), some (.int (nI len)), some (.int (nI u_.1)), some (.int (bI8 (t u_.1))), some (.int (nI E)), none]) (st' := [.ref 146, .ref (147 + 9)]) d_192_124 (fun _ => rfl) ?_
                  refine rr_gn d_192_125 mo_192 fl_140 rfl pi.2.1.1 ?_
                  refine rr_nx (pc' := 129) (al' := [some (.ref 146), some (.int (nI len)), some (.int (nI u_.1)), some (.int (bI8 (t u_.1))), some (.int (nI E)), none]) (st' := [.int (bI8 (t u_.1)), .int (nI u_.2.1), .ref (147 + 9)]) d_192_128 (fun _ => rfl) ?_
                  refine rr_ps (as := [.int (bI8 (t u_.1))]) (al0 := [some (.int (bI8 (t u_.1)))]) (r := [.int (nI u_.2.1), .ref (147 + 9)]) d_192_129 mo_192 ml_143 mz_193 rfl rfl rfl (Nat.le_of_ble_eq_true rfl) (s_isSmall (bI8 (t u_.1))) ?_
                  show RR _ _ 132 [some (.ref 146), some (.int (nI len)), some (.int (nI u_.1)), some (.int (bI8 (t u_.1))), some (.int (nI E)), none] [.int (bI (nI 97 ≤ (bI8 (t u_.1)) ∧ (bI8 (t u_.1)) ≤ nI 122)), .int (nI u_.2.1), .ref (147 + 9)] u_.2.2.1 (rf_u (rf_u u_.2.2.2 11 (upd (u_.2.2.2 11) u_.2.1 (nI u_.1))) 10 (upd (u_.2.2.2 10) u_.2.1 (nI 0))) _
                  refine rr_beq (t := 145) d_192_132 (by decide) (fun c132 => ?_) (fun c132 => ?_)
                  · exact absurd c40 c132
                  · refine rr_nx (pc' := 136) (al' := [some (.ref 146), some (.int (nI len)), some (.int (nI u_.1)), some (.int (bI8 (t u_.1))), some (.int (nI E)), none]) (st' := [.ref 146, .int (nI u_.2.1), .ref (147 + 9)]) d_192_135 (fun _ => rfl) ?_
                    refine rr_nx (pc' := 137) (al' := [some (.ref 146), some (.int (nI len)), some (.int (nI u_.1)), some (.int (bI8 (t u_.1))), some (.int (nI E)), none]) (st' := [.int (nI u_.1), .ref 146, .int (nI u_.2.1), .ref (147 + 9)]) d_192_136 (fun _ => rfl) ?_
                    refine rr_nx (pc' := 139) (al' := [some (.ref 146), some (.int (nI len)), some (.int (nI u_.1)), some (.int (bI8 (t u_.1))), some (.int (nI E)), none]) (st' := [.int (nI E), .int (nI u_.1), .ref 146, .int (nI u_.2.1), .ref (147 + 9)]) d_192_137 (fun _ => rfl) ?_
                    refine rr_pv (as := [.int (nI u_.1), .int (nI E)]) (al0 := [some (.ref 146), some (.int (nI u_.1)), some (.int (nI E)), none, none, none, none, none]) (r := [.int (nI u_.2.1), .ref (147 + 9)]) d_192_139 mo_192 ml_149 mz_195 rfl rfl rfl (Nat.le_of_ble_eq_true rfl) (s_wordOf (t := t) (len := len) (fun i hi => by rw [rf_u_n (by decide), rf_u_n (by decide), pi.2.2.2 6 (by decide)]; exact hW i hi) hlen (fun i hi => by rw [rf_u_n (by decide), rf_u_n (by decide), pi.2.2.2 7 (by decide)]; exact hB i hi) hb (by omega) (by omega)) ?_
                    show RR _ _ 142 [some (.ref 146), some (.int (nI len)), some (.int (nI u_.1)), some (.int (bI8 (t u_.1))), some (.int (nI E)), none] [.int (nI (wdN t u_.1 E)), .int (nI u_.2.1), .ref (147 + 9)] u_.2.2.1 (rf_u (rf_u u_.2.2.2 11 (upd (u_.2.2.2 11) u_.2.1 (nI u_.1))) 10 (upd (u_.2.2.2 10) u_.2.1 (nI 0))) _
                    refine rr_nx (pc' := 165) (al' := [some (.ref 146), some (.int (nI len)), some (.int (nI u_.1)), some (.int (bI8 (t u_.1))), some (.int (nI E)), none]) (st' := [.int (nI (wdN t u_.1 E)), .int (nI u_.2.1), .ref (147 + 9)]) d_192_142 (fun _ => rfl) ?_
                    refine rr_iS (j := 9) (A1 := (rf_u (rf_u (rf_u u_.2.2.2 11 (upd (u_.2.2.2 11) u_.2.1 (nI u_.1))) 10 (upd (u_.2.2.2 10) u_.2.1 (nI 0))) 9 (upd (u_.2.2.2 9) u_.2.1 (nI (wdN t u_.1 E))))) d_192_165 (by decide) rfl (by decide) (show u_.2.1 < 401 by first | omega | assumption | exact cu_36 (by omega) (cu_lt (by omega) (by omega))) rfl ?_
                    refine rr_nx (pc' := 167) (al' := [some (.ref 146), some (.int (nI len)), some (.int (nI u_.1)), some (.int (bI8 (t u_.1))), some (.int (nI E)), none]) (st' := [.int (nI u_.1)]) d_192_166 (fun _ => rfl) ?_
                    refine rr_nx (pc' := 169) (al' := [some (.ref 146), some (.int (nI len)), some (.int (nI u_.1)), some (.int (bI8 (t u_.1))), some (.int (nI E)), some (.int (nI u_.1))]) (st' := []) d_192_167 (fun _ => rfl) ?_
                    refine rr_upw (al := fun v w10 => [some (.ref 146), some (.int (nI len)), some (.int (nI u_.1)), some (.int (bI8 (t u_.1))), some (.int (nI E)), some (.int (nI v))]) (G := fun v w10 => u_.2.2.1) (B := fun v w10 => (rf_u (rf_u (rf_u u_.2.2.2 11 (upd (u_.2.2.2 11) u_.2.1 (nI u_.1))) 10 w10) 9 (upd (u_.2.2.2 9) u_.2.1 (nI (wdN t u_.1 E))))) (P := fun v w10 => u_.1 ≤ v) (n := E) (fun v w10 hv pv ihv => ?_) (fun w10 pv => ?_) u_.1 (upd (u_.2.2.2 10) u_.2.1 (nI 0)) (by omega) (Nat.le_refl _)
                    · show RR _ _ 169 [some (.ref 146), some (.int (nI len)), some (.int (nI u_.1)), some (.int (bI8 (t u_.1))), some (.int (nI E)), some (.int (nI v))] [] u_.2.2.1 (rf_u (rf_u (rf_u u_.2.2.2 11 (upd (u_.2.2.2 11) u_.2.1 (nI u_.1))) 10 w10) 9 (upd (u_.2.2.2 9) u_.2.1 (nI (wdN t u_.1 E)))) _
                      refine rr_nx (pc' := 171) (al' := [some (.ref 146), some (.int (nI len)), some (.int (nI u_.1)), some (.int (bI8 (t u_.1))), some (.int (nI E)), some (.int (nI v))]) (st' := [.int (nI v)]) d_192_169 (fun _ => rfl) ?_
                      refine rr_nx (pc' := 173) (al' := [some (.ref 146), some (.int (nI len)), some (.int (nI u_.1)), some (.int (bI8 (t u_.1))), some (.int (nI E)), some (.int (nI v))]) (st' := [.int (nI E), .int (nI v)]) d_192_171 (fun _ => rfl) ?_
                      refine rn_cge (t := 247) d_192_173 (by decide) (by first | omega | assumption | exact cu_36 (by omega) (cu_lt (by omega) (by omega))) (by first | omega | assumption | exact cu_36 (by omega) (cu_lt (by omega) (by omega))) (fun c173 => ?_) (fun c173 => ?_)
                      · omega
                      · refine rr_nx (pc' := 177) (al' := [some (.ref 146), some (.int (nI len)), some (.int (nI u_.1)), some (.int (bI8 (t u_.1))), some (.int (nI E)), some (.int (nI v))]) (st' := [.int (bI8 (t u_.1))]) d_192_176 (fun _ => rfl) ?_
                        refine rr_ps (as := [.int (bI8 (t u_.1))]) (al0 := [some (.int (bI8 (t u_.1)))]) (r := []) d_192_177 mo_192 ml_146 mz_194 rfl rfl rfl (Nat.le_of_ble_eq_true rfl) (s_isDigit (bI8 (t u_.1))) ?_
                        show RR _ _ 180 [some (.ref 146), some (.int (nI len)), some (.int (nI u_.1)), some (.int (bI8 (t u_.1))), some (.int (nI E)), some (.int (nI v))] [.int (bI (nI 48 ≤ (bI8 (t u_.1)) ∧ (bI8 (t u_.1)) ≤ nI 57))] u_.2.2.1 (rf_u (rf_u (rf_u u_.2.2.2 11 (upd (u_.2.2.2 11) u_.2.1 (nI u_.1))) 10 w10) 9 (upd (u_.2.2.2 9) u_.2.1 (nI (wdN t u_.1 E)))) _
                        refine rr_beq (t := 247) d_192_180 (by decide) (fun c180 => ?_) (fun c180 => ?_)
                        · refine rr_nx (pc' := 248) (al' := [some (.ref 146), some (.int (nI len)), some (.int (nI u_.1)), some (.int (bI8 (t u_.1))), some (.int (nI E)), some (.int (nI v))]) (st' := [.ref 146]) d_192_247 (fun _ => rfl) ?_
                          refine rr_nx (pc' := 249) (al' := [some (.ref 146), some (.int (nI len)), some (.int (nI u_.1)), some (.int (bI8 (t u_.1))), some (.int (nI E)), some (.int (nI v))]) (st' := [.ref 146, .ref 146]) d_192_248 (fun _ => rfl) ?_
                          refine rr_gn d_192_249 mo_192 fl_140 rfl pi.2.1.1 ?_
                          refine rn_ic (v := 1) d_192_252 (by decide) ?_
                          refine rn_add d_192_253  ?_
                          refine rp_18 d_192_254 mo_192 fl_140  ?_
                          refine rr_nx (pc' := 259) (al' := [some (.ref 146), some (.int (nI len)), some (.int (nI u_.1)), some (.int (bI8 (t u_.1))), some (.int (nI E)), some (.int (nI v))]) (st' := [.int (nI E)]) d_192_257 (fun _ => rfl) ?_
                          refine rr_nx (pc' := 260) (al' := [some (.ref 146), some (.int (nI len)), some (.int (nI E)), some (.int (bI8 (t u_.1))), some (.int (nI E)), some (.int (nI v))]) (st' := []) d_192_259 (fun _ => rfl) ?_
                          refine rr_nx (pc' := 7) (al' := [some (.ref 146), some (.int (nI len)), some (.int (nI E)), some (.int (bI8 (t u_.1))), some (.int (nI E)), some (.int (nI v))]) (st' := []) d_192_260 (fun _ => rfl) ?_
                          refine rr_al (congrArg (fun z__ : Nat => ([some (.ref 146), some (.int (nI len)), some (.int (nI z__)), some (.int (bI8 (t u_.1))), some (.int (nI E)), some (.int (nI v))] : AL)) (show E = (E, u_.2.1 + 1, (upd u_.2.2.1 18 (nI (u_.2.1 + 1))), (rf_u (rf_u (rf_u u_.2.2.2 11 (upd (u_.2.2.2 11) u_.2.1 (nI u_.1))) 10 w10) 9 (upd (u_.2.2.2 9) u_.2.1 (nI (wdN t u_.1 E))))).1 by rfl)) ?_
                          refine rr_dr (al1 := [some (.ref 146), some (.int (nI len)), some (.int (nI ((E, u_.2.1 + 1, (upd u_.2.2.1 18 (nI (u_.2.1 + 1))), (rf_u (rf_u (rf_u u_.2.2.2 11 (upd (u_.2.2.2 11) u_.2.1 (nI u_.1))) 10 w10) 9 (upd (u_.2.2.2 9) u_.2.1 (nI (wdN t u_.1 E))))).1))), none, none, none]) (le_s (le_s (le_s (le_d rfl (le_d rfl (le_d rfl (le_n))))))) ?_
                          exact ihi (E, u_.2.1 + 1, (upd u_.2.2.1 18 (nI (u_.2.1 + 1))), (rf_u (rf_u (rf_u u_.2.2.2 11 (upd (u_.2.2.2 11) u_.2.1 (nI u_.1))) 10 w10) 9 (upd (u_.2.2.2 9) u_.2.1 (nI (wdN t u_.1 E))))) (⟨⟨by dsimp only; omega, by dsimp only; omega, by dsimp only; show _ = skp t len (enR t len (tkP t len u_.2.1)); rw [hkj, hto], by dsimp only; omega⟩, ⟨by dsimp only; rw [pk_us], fun k hk => by dsimp only; rw [pk_un hk]; exact pi.2.1.2 k hk⟩, fun j hj => by
                              dsimp only
                              rcases Nat.lt_succ_iff_lt_or_eq.mp hj with q | q
                              · obtain ⟨z1, z2, z3⟩ := pi.2.2.1 j q
                                exact ⟨z1, by rw [rf_u_s, pk_un (by omega)]; exact z2, by rw [rf_u_n (show (11 : Nat) ≠ 9 by decide), rf_u_n (show (11 : Nat) ≠ 10 by decide), rf_u_s, pk_un (by omega)]; exact z3⟩
                              · subst q
                                exact ⟨by rw [hkj]; omega, by rw [rf_u_s, pk_us, tkC, if_pos (by rw [hkj]; omega), hkj, hto]; exact congrArg nI hcd, by rw [rf_u_n (show (11 : Nat) ≠ 9 by decide), rf_u_n (show (11 : Nat) ≠ 10 by decide), rf_u_s, pk_us, hkj]⟩, ((pi.2.2.2.u (by decide)).u (by decide)).u (by decide)⟩)
                        · exact absurd c180 c72
                    · show RR _ _ 169 [some (.ref 146), some (.int (nI len)), some (.int (nI u_.1)), some (.int (bI8 (t u_.1))), some (.int (nI E)), some (.int (nI E))] [] u_.2.2.1 (rf_u (rf_u (rf_u u_.2.2.2 11 (upd (u_.2.2.2 11) u_.2.1 (nI u_.1))) 10 w10) 9 (upd (u_.2.2.2 9) u_.2.1 (nI (wdN t u_.1 E)))) _
                      refine rr_nx (pc' := 171) (al' := [some (.ref 146), some (.int (nI len)), some (.int (nI u_.1)), some (.int (bI8 (t u_.1))), some (.int (nI E)), some (.int (nI E))]) (st' := [.int (nI E)]) d_192_169 (fun _ => rfl) ?_
                      refine rr_nx (pc' := 173) (al' := [some (.ref 146), some (.int (nI len)), some (.int (nI u_.1)), some (.int (bI8 (t u_.1))), some (.int (nI E)), some (.int (nI E))]) (st' := [.int (nI E), .int (nI E)]) d_192_171 (fun _ => rfl) ?_
                      refine rn_cge (t := 247) d_192_173 (by decide) (by first | omega | assumption | exact cu_36 (by omega) (cu_lt (by omega) (by omega))) (by first | omega | assumption | exact cu_36 (by omega) (cu_lt (by omega) (by omega))) (fun c173 => ?_) (fun c173 => ?_)
                      · refine rr_nx (pc' := 248) (al' := [some (.ref 146), some (.int (nI len)), some (.int (nI u_.1)), some (.int (bI8 (t u_.1))), some (.int (nI E)), some (.int (nI E))]) (st' := [.ref 146]) d_192_247 (fun _ => rfl) ?_
                        refine rr_nx (pc' := 249) (al' := [some (.ref 146), some (.int (nI len)), some (.int (nI u_.1)), some (.int (bI8 (t u_.1))), some (.int (nI E)), some (.int (nI E))]) (st' := [.ref 146, .ref 146]) d_192_248 (fun _ => rfl) ?_
                        refine rr_gn d_192_249 mo_192 fl_140 rfl pi.2.1.1 ?_
                        refine rn_ic (v := 1) d_192_252 (by decide) ?_
                        refine rn_add d_192_253  ?_
                        refine rp_18 d_192_254 mo_192 fl_140  ?_
                        refine rr_nx (pc' := 259) (al' := [some (.ref 146), some (.int (nI len)), some (.int (nI u_.1)), some (.int (bI8 (t u_.1))), some (.int (nI E)), some (.int (nI E))]) (st' := [.int (nI E)]) d_192_257 (fun _ => rfl) ?_
                        refine rr_nx (pc' := 260) (al' := [some (.ref 146), some (.int (nI len)), some (.int (nI E)), some (.int (bI8 (t u_.1))), some (.int (nI E)), some (.int (nI E))]) (st' := []) d_192_259 (fun _ => rfl) ?_
                        refine rr_nx (pc' := 7) (al' := [some (.ref 146), some (.int (nI len)), some (.int (nI E)), some (.int (bI8 (t u_.1))), some (.int (nI E)), some (.int (nI E))]) (st' := []) d_192_260 (fun _ => rfl) ?_
                        refine rr_al (congrArg (fun z__ : Nat => ([some (.ref 146), some (.int (nI len)), some (.int (nI z__)), some (.int (bI8 (t u_.1))), some (.int (nI E)), some (.int (nI E))] : AL)) (show E = (E, u_.2.1 + 1, (upd u_.2.2.1 18 (nI (u_.2.1 + 1))), (rf_u (rf_u (rf_u u_.2.2.2 11 (upd (u_.2.2.2 11) u_.2.1 (nI u_.1))) 10 w10) 9 (upd (u_.2.2.2 9) u_.2.1 (nI (wdN t u_.1 E))))).1 by rfl)) ?_
                        refine rr_dr (al1 := [some (.ref 146), some (.int (nI len)), some (.int (nI ((E, u_.2.1 + 1, (upd u_.2.2.1 18 (nI (u_.2.1 + 1))), (rf_u (rf_u (rf_u u_.2.2.2 11 (upd (u_.2.2.2 11) u_.2.1 (nI u_.1))) 10 w10) 9 (upd (u_.2.2.2 9) u_.2.1 (nI (wdN t u_.1 E))))).1))), none, none, none]) (le_s (le_s (le_s (le_d rfl (le_d rfl (le_d rfl (le_n))))))) ?_
                        exact ihi (E, u_.2.1 + 1, (upd u_.2.2.1 18 (nI (u_.2.1 + 1))), (rf_u (rf_u (rf_u u_.2.2.2 11 (upd (u_.2.2.2 11) u_.2.1 (nI u_.1))) 10 w10) 9 (upd (u_.2.2.2 9) u_.2.1 (nI (wdN t u_.1 E))))) (⟨⟨by dsimp only; omega, by dsimp only; omega, by dsimp only; show _ = skp t len (enR t len (tkP t len u_.2.1)); rw [hkj, hto], by dsimp only; omega⟩, ⟨by dsimp only; rw [pk_us], fun k hk => by dsimp only; rw [pk_un hk]; exact pi.2.1.2 k hk⟩, fun j hj => by
                            dsimp only
                            rcases Nat.lt_succ_iff_lt_or_eq.mp hj with q | q
                            · obtain ⟨z1, z2, z3⟩ := pi.2.2.1 j q
                              exact ⟨z1, by rw [rf_u_s, pk_un (by omega)]; exact z2, by rw [rf_u_n (show (11 : Nat) ≠ 9 by decide), rf_u_n (show (11 : Nat) ≠ 10 by decide), rf_u_s, pk_un (by omega)]; exact z3⟩
                            · subst q
                              exact ⟨by rw [hkj]; omega, by rw [rf_u_s, pk_us, tkC, if_pos (by rw [hkj]; omega), hkj, hto]; exact congrArg nI hcd, by rw [rf_u_n (show (11 : Nat) ≠ 9 by decide), rf_u_n (show (11 : Nat) ≠ 10 by decide), rf_u_s, pk_us, hkj]⟩, ((pi.2.2.2.u (by decide)).u (by decide)).u (by decide)⟩)
                      · omega
                · exact absurd ((b8_D _ (hb _ (by omega))).mp c72) (by have q := of_decide_eq_true hs; unfold isDg; rw [decide_eq_false (by omega)]; exact Bool.false_ne_true)
              · exact absurd ((b8_S _ (hb E (by omega))).mp c59) (by rw [e4 (by omega)]; exact Bool.false_ne_true)
      · refine rn_inc d_192_25 rfl rfl ?_
        show RR _ _ 28 [some (.ref 146), some (.int (nI len)), some (.int (nI (u_.1 + 1))), some (.int (bI8 (t u_.1))), none, none] [] u_.2.2.1 u_.2.2.2 _
        refine rr_nx (pc' := 7) (al' := [some (.ref 146), some (.int (nI len)), some (.int (nI (u_.1 + 1))), some (.int (bI8 (t u_.1))), none, none]) (st' := []) d_192_28 (fun _ => rfl) ?_
        refine rr_al (congrArg (fun z__ : Nat => ([some (.ref 146), some (.int (nI len)), some (.int (nI z__)), some (.int (bI8 (t u_.1))), none, none] : AL)) (show u_.1 + 1 = (u_.1 + 1, u_.2.1, u_.2.2.1, u_.2.2.2).1 by rfl)) ?_
        refine rr_dr (al1 := [some (.ref 146), some (.int (nI len)), some (.int (nI ((u_.1 + 1, u_.2.1, u_.2.2.1, u_.2.2.2).1))), none, none, none]) (le_s (le_s (le_s (le_d rfl (le_s (le_s (le_n))))))) ?_
        exact ihi (u_.1 + 1, u_.2.1, u_.2.2.1, u_.2.2.2) (⟨⟨by dsimp only; omega, by dsimp only; omega, by dsimp only; rw [skp_b c9 ((b8_32 _ (hb _ (by omega))).mp c22)]; exact pi.1.2.2.1, by dsimp only; omega⟩, pi.2.1, pi.2.2.1, pi.2.2.2⟩)
  · show RR _ _ 7 [some (.ref 146), some (.int (nI len)), some (.int (nI u_.1)), none, none, none] [] u_.2.2.1 u_.2.2.2 _
    have hi0 := pi.1.1
    have hi1 := pi.1.2.1
    have hi2 := pi.1.2.2.2
    refine rr_nx (pc' := 8) (al' := [some (.ref 146), some (.int (nI len)), some (.int (nI u_.1)), none, none, none]) (st' := [.int (nI u_.1)]) d_192_7 (fun _ => rfl) ?_
    refine rr_nx (pc' := 9) (al' := [some (.ref 146), some (.int (nI len)), some (.int (nI u_.1)), none, none, none]) (st' := [.int (nI len), .int (nI u_.1)]) d_192_8 (fun _ => rfl) ?_
    refine rn_cge (t := 263) d_192_9 (by decide) (by first | omega | assumption | exact cu_36 (by omega) (cu_lt (by omega) (by omega))) (by first | omega | assumption | exact cu_36 (by omega) (cu_lt (by omega) (by omega))) (fun c9 => ?_) (fun c9 => ?_)
    · refine rr_nx (pc' := 264) (al' := [some (.ref 146), some (.int (nI len)), some (.int (nI u_.1)), none, none, none]) (st' := [.ref 146]) d_192_263 (fun _ => rfl) ?_
      refine rr_gf (v := .ref (147 + 11)) d_192_264 mo_192 fl_49 rfl ?_
      refine rr_nx (pc' := 268) (al' := [some (.ref 146), some (.int (nI len)), some (.int (nI u_.1)), none, none, none]) (st' := [.ref 146, .ref (147 + 11)]) d_192_267 (fun _ => rfl) ?_
      refine rr_gn d_192_268 mo_192 fl_140 rfl pi.2.1.1 ?_
      refine rr_nx (pc' := 272) (al' := [some (.ref 146), some (.int (nI len)), some (.int (nI u_.1)), none, none, none]) (st' := [.int (nI len), .int (nI u_.2.1), .ref (147 + 11)]) d_192_271 (fun _ => rfl) ?_
      refine rr_iS (j := 11) (A1 := (rf_u u_.2.2.2 11 (upd (u_.2.2.2 11) u_.2.1 (nI len)))) d_192_272 (by decide) rfl (by decide) (show u_.2.1 < 401 by first | omega | assumption | exact cu_36 (by omega) (cu_lt (by omega) (by omega))) rfl ?_
      refine rr_nx (pc' := 274) (al' := [some (.ref 146), some (.int (nI len)), some (.int (nI u_.1)), none, none, none]) (st' := [.ref 146]) d_192_273 (fun _ => rfl) ?_
      refine rr_gf (v := .ref (147 + 9)) d_192_274 mo_192 fl_43 rfl ?_
      refine rr_nx (pc' := 278) (al' := [some (.ref 146), some (.int (nI len)), some (.int (nI u_.1)), none, none, none]) (st' := [.ref 146, .ref (147 + 9)]) d_192_277 (fun _ => rfl) ?_
      refine rr_gn d_192_278 mo_192 fl_140 rfl pi.2.1.1 ?_
      refine rn_ic (v := 0) d_192_281 (by decide) ?_
      refine rr_iS (j := 9) (A1 := (rf_u (rf_u u_.2.2.2 11 (upd (u_.2.2.2 11) u_.2.1 (nI len))) 9 (upd (u_.2.2.2 9) u_.2.1 (nI 0)))) d_192_282 (by decide) rfl (by decide) (show u_.2.1 < 401 by first | omega | assumption | exact cu_36 (by omega) (cu_lt (by omega) (by omega))) rfl ?_
      refine rr_nx (pc' := 284) (al' := [some (.ref 146), some (.int (nI len)), some (.int (nI u_.1)), none, none, none]) (st' := [.ref 146]) d_192_283 (fun _ => rfl) ?_
      refine rr_gf (v := .ref (147 + 10)) d_192_284 mo_192 fl_46 rfl ?_
      refine rr_nx (pc' := 288) (al' := [some (.ref 146), some (.int (nI len)), some (.int (nI u_.1)), none, none, none]) (st' := [.ref 146, .ref (147 + 10)]) d_192_287 (fun _ => rfl) ?_
      refine rr_gn d_192_288 mo_192 fl_140 rfl pi.2.1.1 ?_
      refine rn_ic (v := 0) d_192_291 (by decide) ?_
      refine rr_iS (j := 10) (A1 := (rf_u (rf_u (rf_u u_.2.2.2 11 (upd (u_.2.2.2 11) u_.2.1 (nI len))) 9 (upd (u_.2.2.2 9) u_.2.1 (nI 0))) 10 (upd (u_.2.2.2 10) u_.2.1 (nI 0)))) d_192_292 (by decide) rfl (by decide) (show u_.2.1 < 401 by first | omega | assumption | exact cu_36 (by omega) (cu_lt (by omega) (by omega))) rfl ?_
      exact rr_rv d_192_293 mr_192 (by
          have hl0 : u_.1 = len := by omega
          have hlast : tkP t len u_.2.1 = len := by
            rw [← pi.1.2.2.1, hl0]
            have := skp_f (t := t) (len := len) (p := len) (Nat.le_refl _)
            omega
          have hN := tkN_u (fun i hi => (pi.2.2.1 i hi).1) hlast
          refine ⟨rfl, ⟨by rw [hN]; omega, by show tkC t len (tkN t len) = 0; unfold tkC; rw [hN, hlast, if_neg (Nat.lt_irrefl _)], fun j hj => ?_⟩, by rw [hN]; exact pi.2.1.1, pi.2.1.2, ((pi.2.2.2.u (by decide)).u (by decide)).u (by decide)⟩
          rw [hN] at hj
          have hp4 := tkP_le (t := t) (len := len) j
          by_cases q : j = u_.2.1
          · subst q
            refine ⟨by rw [rf_u_n (by decide), rf_u_s, pk_us, tkC, hlast, if_neg (Nat.lt_irrefl _)], by rw [rf_u_n (by decide), rf_u_n (by decide), rf_u_s, pk_us, hlast], by rw [tkC, hlast, if_neg (Nat.lt_irrefl _)]; decide, by omega⟩
          · obtain ⟨z1, z2, z3⟩ := pi.2.2.1 j (by omega)
            refine ⟨by rw [rf_u_n (by decide), rf_u_s, pk_un q]; exact z2, by rw [rf_u_n (by decide), rf_u_n (by decide), rf_u_s, pk_un q]; exact z3, by rw [tkC, if_pos z1]; exact cdR_lt (hb _ z1), by omega⟩)
    · omega
