/-! Permutations, both; printed by wip/whole/gen_b1.py. -/
def FxG (G : Nat → Nat → Value) : Prop := ∀ e ∈ ([(2, 0, 3), (2, 1, 81), (2, 2, 82), (2, 4, 83), (2, 6, 86), (2, 7, 88), (2, 8, 90), (2, 9, 96), (2, 10, 107), (2, 11, 111), (2, 12, 122), (2, 13, 133), (2, 14, 141), (2, 15, 145), (3, 0, 4), (3, 1, 5), (3, 4, 6), (3, 5, 7), (3, 6, 8), (83, 5, 85), (86, 1, 87), (88, 1, 89), (90, 3, 92), (90, 4, 93), (90, 5, 94), (90, 6, 95), (96, 0, 97), (96, 2, 99), (96, 3, 105), (97, 1, 98), (99, 3, 101), (99, 4, 102), (99, 5, 103), (99, 6, 104), (107, 1, 108), (107, 2, 109), (107, 3, 110), (111, 0, 112), (111, 2, 114), (111, 3, 116), (111, 4, 118), (111, 5, 120), (111, 6, 121), (112, 1, 113), (114, 1, 115), (116, 1, 117), (118, 1, 119), (122, 0, 123), (122, 2, 125), (122, 3, 127), (122, 4, 129), (122, 5, 131), (122, 6, 132), (123, 1, 124), (125, 1, 126), (127, 1, 128), (129, 1, 130), (133, 2, 134), (133, 3, 136), (133, 4, 137), (133, 5, 138), (133, 6, 139), (133, 7, 140), (134, 1, 135), (141, 1, 144), (142, 1, 143)] : List (Nat × Nat × Nat)), G e.1 e.2.1 = .ref e.2.2
theorem fx_2_0 {G : Nat → Nat → Value} (h : FxG G) : G 2 0 = .ref 3 := h (2, 0, 3) (List.mem_of_getElem? (i := 0) rfl)
theorem fx_2_1 {G : Nat → Nat → Value} (h : FxG G) : G 2 1 = .ref 81 := h (2, 1, 81) (List.mem_of_getElem? (i := 1) rfl)
theorem fx_2_2 {G : Nat → Nat → Value} (h : FxG G) : G 2 2 = .ref 82 := h (2, 2, 82) (List.mem_of_getElem? (i := 2) rfl)
theorem fx_2_4 {G : Nat → Nat → Value} (h : FxG G) : G 2 4 = .ref 83 := h (2, 4, 83) (List.mem_of_getElem? (i := 3) rfl)
theorem fx_2_6 {G : Nat → Nat → Value} (h : FxG G) : G 2 6 = .ref 86 := h (2, 6, 86) (List.mem_of_getElem? (i := 4) rfl)
theorem fx_2_7 {G : Nat → Nat → Value} (h : FxG G) : G 2 7 = .ref 88 := h (2, 7, 88) (List.mem_of_getElem? (i := 5) rfl)
theorem fx_2_8 {G : Nat → Nat → Value} (h : FxG G) : G 2 8 = .ref 90 := h (2, 8, 90) (List.mem_of_getElem? (i := 6) rfl)
theorem fx_2_9 {G : Nat → Nat → Value} (h : FxG G) : G 2 9 = .ref 96 := h (2, 9, 96) (List.mem_of_getElem? (i := 7) rfl)
theorem fx_2_10 {G : Nat → Nat → Value} (h : FxG G) : G 2 10 = .ref 107 := h (2, 10, 107) (List.mem_of_getElem? (i := 8) rfl)
theorem fx_2_11 {G : Nat → Nat → Value} (h : FxG G) : G 2 11 = .ref 111 := h (2, 11, 111) (List.mem_of_getElem? (i := 9) rfl)
theorem fx_2_12 {G : Nat → Nat → Value} (h : FxG G) : G 2 12 = .ref 122 := h (2, 12, 122) (List.mem_of_getElem? (i := 10) rfl)
theorem fx_2_13 {G : Nat → Nat → Value} (h : FxG G) : G 2 13 = .ref 133 := h (2, 13, 133) (List.mem_of_getElem? (i := 11) rfl)
theorem fx_2_14 {G : Nat → Nat → Value} (h : FxG G) : G 2 14 = .ref 141 := h (2, 14, 141) (List.mem_of_getElem? (i := 12) rfl)
theorem fx_2_15 {G : Nat → Nat → Value} (h : FxG G) : G 2 15 = .ref 145 := h (2, 15, 145) (List.mem_of_getElem? (i := 13) rfl)
theorem fx_3_0 {G : Nat → Nat → Value} (h : FxG G) : G 3 0 = .ref 4 := h (3, 0, 4) (List.mem_of_getElem? (i := 14) rfl)
theorem fx_3_1 {G : Nat → Nat → Value} (h : FxG G) : G 3 1 = .ref 5 := h (3, 1, 5) (List.mem_of_getElem? (i := 15) rfl)
theorem fx_3_4 {G : Nat → Nat → Value} (h : FxG G) : G 3 4 = .ref 6 := h (3, 4, 6) (List.mem_of_getElem? (i := 16) rfl)
theorem fx_3_5 {G : Nat → Nat → Value} (h : FxG G) : G 3 5 = .ref 7 := h (3, 5, 7) (List.mem_of_getElem? (i := 17) rfl)
theorem fx_3_6 {G : Nat → Nat → Value} (h : FxG G) : G 3 6 = .ref 8 := h (3, 6, 8) (List.mem_of_getElem? (i := 18) rfl)
theorem fx_83_5 {G : Nat → Nat → Value} (h : FxG G) : G 83 5 = .ref 85 := h (83, 5, 85) (List.mem_of_getElem? (i := 19) rfl)
theorem fx_86_1 {G : Nat → Nat → Value} (h : FxG G) : G 86 1 = .ref 87 := h (86, 1, 87) (List.mem_of_getElem? (i := 20) rfl)
theorem fx_88_1 {G : Nat → Nat → Value} (h : FxG G) : G 88 1 = .ref 89 := h (88, 1, 89) (List.mem_of_getElem? (i := 21) rfl)
theorem fx_90_3 {G : Nat → Nat → Value} (h : FxG G) : G 90 3 = .ref 92 := h (90, 3, 92) (List.mem_of_getElem? (i := 22) rfl)
theorem fx_90_4 {G : Nat → Nat → Value} (h : FxG G) : G 90 4 = .ref 93 := h (90, 4, 93) (List.mem_of_getElem? (i := 23) rfl)
theorem fx_90_5 {G : Nat → Nat → Value} (h : FxG G) : G 90 5 = .ref 94 := h (90, 5, 94) (List.mem_of_getElem? (i := 24) rfl)
theorem fx_90_6 {G : Nat → Nat → Value} (h : FxG G) : G 90 6 = .ref 95 := h (90, 6, 95) (List.mem_of_getElem? (i := 25) rfl)
theorem fx_96_0 {G : Nat → Nat → Value} (h : FxG G) : G 96 0 = .ref 97 := h (96, 0, 97) (List.mem_of_getElem? (i := 26) rfl)
theorem fx_96_2 {G : Nat → Nat → Value} (h : FxG G) : G 96 2 = .ref 99 := h (96, 2, 99) (List.mem_of_getElem? (i := 27) rfl)
theorem fx_96_3 {G : Nat → Nat → Value} (h : FxG G) : G 96 3 = .ref 105 := h (96, 3, 105) (List.mem_of_getElem? (i := 28) rfl)
theorem fx_97_1 {G : Nat → Nat → Value} (h : FxG G) : G 97 1 = .ref 98 := h (97, 1, 98) (List.mem_of_getElem? (i := 29) rfl)
theorem fx_99_3 {G : Nat → Nat → Value} (h : FxG G) : G 99 3 = .ref 101 := h (99, 3, 101) (List.mem_of_getElem? (i := 30) rfl)
theorem fx_99_4 {G : Nat → Nat → Value} (h : FxG G) : G 99 4 = .ref 102 := h (99, 4, 102) (List.mem_of_getElem? (i := 31) rfl)
theorem fx_99_5 {G : Nat → Nat → Value} (h : FxG G) : G 99 5 = .ref 103 := h (99, 5, 103) (List.mem_of_getElem? (i := 32) rfl)
theorem fx_99_6 {G : Nat → Nat → Value} (h : FxG G) : G 99 6 = .ref 104 := h (99, 6, 104) (List.mem_of_getElem? (i := 33) rfl)
theorem fx_107_1 {G : Nat → Nat → Value} (h : FxG G) : G 107 1 = .ref 108 := h (107, 1, 108) (List.mem_of_getElem? (i := 34) rfl)
theorem fx_107_2 {G : Nat → Nat → Value} (h : FxG G) : G 107 2 = .ref 109 := h (107, 2, 109) (List.mem_of_getElem? (i := 35) rfl)
theorem fx_107_3 {G : Nat → Nat → Value} (h : FxG G) : G 107 3 = .ref 110 := h (107, 3, 110) (List.mem_of_getElem? (i := 36) rfl)
theorem fx_111_0 {G : Nat → Nat → Value} (h : FxG G) : G 111 0 = .ref 112 := h (111, 0, 112) (List.mem_of_getElem? (i := 37) rfl)
theorem fx_111_2 {G : Nat → Nat → Value} (h : FxG G) : G 111 2 = .ref 114 := h (111, 2, 114) (List.mem_of_getElem? (i := 38) rfl)
theorem fx_111_3 {G : Nat → Nat → Value} (h : FxG G) : G 111 3 = .ref 116 := h (111, 3, 116) (List.mem_of_getElem? (i := 39) rfl)
theorem fx_111_4 {G : Nat → Nat → Value} (h : FxG G) : G 111 4 = .ref 118 := h (111, 4, 118) (List.mem_of_getElem? (i := 40) rfl)
theorem fx_111_5 {G : Nat → Nat → Value} (h : FxG G) : G 111 5 = .ref 120 := h (111, 5, 120) (List.mem_of_getElem? (i := 41) rfl)
theorem fx_111_6 {G : Nat → Nat → Value} (h : FxG G) : G 111 6 = .ref 121 := h (111, 6, 121) (List.mem_of_getElem? (i := 42) rfl)
theorem fx_112_1 {G : Nat → Nat → Value} (h : FxG G) : G 112 1 = .ref 113 := h (112, 1, 113) (List.mem_of_getElem? (i := 43) rfl)
theorem fx_114_1 {G : Nat → Nat → Value} (h : FxG G) : G 114 1 = .ref 115 := h (114, 1, 115) (List.mem_of_getElem? (i := 44) rfl)
theorem fx_116_1 {G : Nat → Nat → Value} (h : FxG G) : G 116 1 = .ref 117 := h (116, 1, 117) (List.mem_of_getElem? (i := 45) rfl)
theorem fx_118_1 {G : Nat → Nat → Value} (h : FxG G) : G 118 1 = .ref 119 := h (118, 1, 119) (List.mem_of_getElem? (i := 46) rfl)
theorem fx_122_0 {G : Nat → Nat → Value} (h : FxG G) : G 122 0 = .ref 123 := h (122, 0, 123) (List.mem_of_getElem? (i := 47) rfl)
theorem fx_122_2 {G : Nat → Nat → Value} (h : FxG G) : G 122 2 = .ref 125 := h (122, 2, 125) (List.mem_of_getElem? (i := 48) rfl)
theorem fx_122_3 {G : Nat → Nat → Value} (h : FxG G) : G 122 3 = .ref 127 := h (122, 3, 127) (List.mem_of_getElem? (i := 49) rfl)
theorem fx_122_4 {G : Nat → Nat → Value} (h : FxG G) : G 122 4 = .ref 129 := h (122, 4, 129) (List.mem_of_getElem? (i := 50) rfl)
theorem fx_122_5 {G : Nat → Nat → Value} (h : FxG G) : G 122 5 = .ref 131 := h (122, 5, 131) (List.mem_of_getElem? (i := 51) rfl)
theorem fx_122_6 {G : Nat → Nat → Value} (h : FxG G) : G 122 6 = .ref 132 := h (122, 6, 132) (List.mem_of_getElem? (i := 52) rfl)
theorem fx_123_1 {G : Nat → Nat → Value} (h : FxG G) : G 123 1 = .ref 124 := h (123, 1, 124) (List.mem_of_getElem? (i := 53) rfl)
theorem fx_125_1 {G : Nat → Nat → Value} (h : FxG G) : G 125 1 = .ref 126 := h (125, 1, 126) (List.mem_of_getElem? (i := 54) rfl)
theorem fx_127_1 {G : Nat → Nat → Value} (h : FxG G) : G 127 1 = .ref 128 := h (127, 1, 128) (List.mem_of_getElem? (i := 55) rfl)
theorem fx_129_1 {G : Nat → Nat → Value} (h : FxG G) : G 129 1 = .ref 130 := h (129, 1, 130) (List.mem_of_getElem? (i := 56) rfl)
theorem fx_133_2 {G : Nat → Nat → Value} (h : FxG G) : G 133 2 = .ref 134 := h (133, 2, 134) (List.mem_of_getElem? (i := 57) rfl)
theorem fx_133_3 {G : Nat → Nat → Value} (h : FxG G) : G 133 3 = .ref 136 := h (133, 3, 136) (List.mem_of_getElem? (i := 58) rfl)
theorem fx_133_4 {G : Nat → Nat → Value} (h : FxG G) : G 133 4 = .ref 137 := h (133, 4, 137) (List.mem_of_getElem? (i := 59) rfl)
theorem fx_133_5 {G : Nat → Nat → Value} (h : FxG G) : G 133 5 = .ref 138 := h (133, 5, 138) (List.mem_of_getElem? (i := 60) rfl)
theorem fx_133_6 {G : Nat → Nat → Value} (h : FxG G) : G 133 6 = .ref 139 := h (133, 6, 139) (List.mem_of_getElem? (i := 61) rfl)
theorem fx_133_7 {G : Nat → Nat → Value} (h : FxG G) : G 133 7 = .ref 140 := h (133, 7, 140) (List.mem_of_getElem? (i := 62) rfl)
theorem fx_134_1 {G : Nat → Nat → Value} (h : FxG G) : G 134 1 = .ref 135 := h (134, 1, 135) (List.mem_of_getElem? (i := 63) rfl)
theorem fx_141_1 {G : Nat → Nat → Value} (h : FxG G) : G 141 1 = .ref 144 := h (141, 1, 144) (List.mem_of_getElem? (i := 64) rfl)
theorem fx_142_1 {G : Nat → Nat → Value} (h : FxG G) : G 142 1 = .ref 143 := h (142, 1, 143) (List.mem_of_getElem? (i := 65) rfl)
theorem FA_i {i : Nat} (h : 2 ≤ i) : FA (i - 1) * i = FA (i + 1 - 1) := by
  obtain ⟨j, rfl⟩ : ∃ j, i = j + 1 := ⟨i - 1, by omega⟩
  show FA j * (j + 1) = (j + 1) * FA j
  exact Nat.mul_comm _ _
theorem FA_e {e k : Nat} (h : e = max 2 (k + 1)) : FA (e - 1) = FA k := by
  rcases Nat.eq_zero_or_pos k with h0 | h0
  · subst h0
    rw [h]
    rfl
  · rw [show e - 1 = k by omega]
theorem up_all {f w : Nat → Int32} {k : Nat} {z : Int32} (h : ∀ q, q < k → w q = f q) (e : z = f k) : ∀ q, q < k + 1 → upd w k z q = f q := fun q hq => by
  by_cases hk : q = k
  · subst hk
    rw [pk_us, e]
  · rw [pk_un hk]
    exact h q (by omega)
theorem SB_s (l e : Nat) : SB l (e + 1) = SB l e + (l / 2 ^ e &&& 1) := rfl
theorem SB_mono {l : Nat} : ∀ {d e : Nat}, e ≤ d → SB l e ≤ SB l d
  | 0, e, h => by rw [Nat.le_zero.mp h]; exact Nat.le_refl _
  | d + 1, e, h => by
    rcases Nat.lt_or_ge e (d + 1) with h1 | h1
    · have := SB_mono (l := l) (show e ≤ d by omega)
      rw [SB_s]
      omega
    · rw [show e = d + 1 by omega]
      exact Nat.le_refl _
/-- a row of the reference's numbers got anew -/
def pmR (j : Nat) (g : Nat → Int32) (A : Nat → Nat → Int32) (n : Nat) (f : Nat → Int32) : Option Value → (Nat → Int32) → (Nat → Nat → Int32) → Prop := fun r g' A' => r = none ∧ g' = g ∧ ∃ w, A' = rf_u A j w ∧ ∀ k, k < n → w k = f k
def rwC (d : Nat) (S : CS) (G : Nat → Nat → Value) (B : Nat → Nat → Int32) (J : Nat → Nat → Int64) (R : Nat → Nat → Option Nat) (n : Nat) (f : Nat → Int32) : CQ := fun r S' G' B' J' R' => r = none ∧ S' = S ∧ G' = G ∧ J' = J ∧ R' = R ∧ ∃ w, B' = upr B d w ∧ ∀ q, q < n → w q = f q
theorem rwC_u {d : Nat} {S S' : CS} {G G' : Nat → Nat → Value} {B B' : Nat → Nat → Int32} {J J' : Nat → Nat → Int64} {R R' : Nat → Nat → Option Nat} {n : Nat} {f w : Nat → Int32} {r : Option Value} (h : rwC d S G (upr B d w) J R n f r S' G' B' J' R') : rwC d S G B J R n f r S' G' B' J' R' := by
  obtain ⟨h1, h2, h3, h4, h5, w', h6, h7⟩ := h
  exact ⟨h1, h2, h3, h4, h5, w', by rw [h6, upr_u], h7⟩
theorem s_factorial {g : Nat → Int32} {A : Nat → Nat → Int32} {k : Nat} (hk : k ≤ 6) : RR 0 233 0 [some (.int (nI k)), none, none] [] g A (rP (some (.int (nI (FA k)))) g A) := by
  obtain ⟨e, he⟩ : ∃ e, e = max 2 (k + 1) := ⟨_, rfl⟩
  refine rn_ic (v := 1) d_233_0 (by decide) ?_
  refine rr_nx (pc' := 2) (al' := [some (.int (nI k)), some (.int (nI 1)), none]) (st' := []) d_233_1 (fun _ => rfl) ?_
  refine rn_ic (v := 2) d_233_2 (by decide) ?_
  refine rr_nx (pc' := 4) (al' := [some (.int (nI k)), some (.int (nI 1)), some (.int (nI 2))]) (st' := []) d_233_3 (fun _ => rfl) ?_
  refine rr_al (congrArg (fun z__ : Nat => ([some (.int (nI k)), some (.int (nI z__)), some (.int (nI 2))] : AL)) (show 1 = FA (2 - 1) by rfl)) ?_
  refine rr_up (al := fun i => [some (.int (nI k)), some (.int (nI (FA (i - 1)))), some (.int (nI i))]) (G := fun i => g) (B := fun i => A) (P := fun i => 2 ≤ i) (n := e) (fun i hi pi ihi => ?_) (fun pi => ?_) 2  (by omega) (Nat.le_refl 2)
  · show RR _ _ 4 [some (.int (nI k)), some (.int (nI (FA (i - 1)))), some (.int (nI i))] [] g A _
    refine rr_nx (pc' := 5) (al' := [some (.int (nI k)), some (.int (nI (FA (i - 1)))), some (.int (nI i))]) (st' := [.int (nI i)]) d_233_4 (fun _ => rfl) ?_
    refine rr_nx (pc' := 6) (al' := [some (.int (nI k)), some (.int (nI (FA (i - 1)))), some (.int (nI i))]) (st' := [.int (nI k), .int (nI i)]) d_233_5 (fun _ => rfl) ?_
    refine rn_cgt (t := 19) d_233_6 (by decide) (by first | omega | assumption | exact cu_36 (by omega) (cu_lt (by omega) (by omega))) (by first | omega | assumption | exact cu_36 (by omega) (cu_lt (by omega) (by omega))) (fun c6 => ?_) (fun c6 => ?_)
    · omega
    · refine rr_nx (pc' := 10) (al' := [some (.int (nI k)), some (.int (nI (FA (i - 1)))), some (.int (nI i))]) (st' := [.int (nI (FA (i - 1)))]) d_233_9 (fun _ => rfl) ?_
      refine rr_nx (pc' := 11) (al' := [some (.int (nI k)), some (.int (nI (FA (i - 1)))), some (.int (nI i))]) (st' := [.int (nI i), .int (nI (FA (i - 1)))]) d_233_10 (fun _ => rfl) ?_
      refine rn_mul d_233_11  ?_
      refine rr_nx (pc' := 13) (al' := [some (.int (nI k)), some (.int (nI ((FA (i - 1)) * i))), some (.int (nI i))]) (st' := []) d_233_12 (fun _ => rfl) ?_
      refine rn_inc d_233_13 rfl rfl ?_
      show RR _ _ 16 [some (.int (nI k)), some (.int (nI ((FA (i - 1)) * i))), some (.int (nI (i + 1)))] [] g A _
      refine rr_nx (pc' := 4) (al' := [some (.int (nI k)), some (.int (nI ((FA (i - 1)) * i))), some (.int (nI (i + 1)))]) (st' := []) d_233_16 (fun _ => rfl) ?_
      refine rr_al (congrArg (fun z__ : Nat => ([some (.int (nI k)), some (.int (nI z__)), some (.int (nI (i + 1)))] : AL)) (show (FA (i - 1)) * i = FA (i + 1 - 1) by exact FA_i pi)) ?_
      exact ihi  (by omega)
  · show RR _ _ 4 [some (.int (nI k)), some (.int (nI (FA (e - 1)))), some (.int (nI e))] [] g A _
    refine rr_nx (pc' := 5) (al' := [some (.int (nI k)), some (.int (nI (FA (e - 1)))), some (.int (nI e))]) (st' := [.int (nI e)]) d_233_4 (fun _ => rfl) ?_
    refine rr_nx (pc' := 6) (al' := [some (.int (nI k)), some (.int (nI (FA (e - 1)))), some (.int (nI e))]) (st' := [.int (nI k), .int (nI e)]) d_233_5 (fun _ => rfl) ?_
    refine rn_cgt (t := 19) d_233_6 (by decide) (by first | omega | assumption | exact cu_36 (by omega) (cu_lt (by omega) (by omega))) (by first | omega | assumption | exact cu_36 (by omega) (cu_lt (by omega) (by omega))) (fun c6 => ?_) (fun c6 => ?_)
    · refine rr_nx (pc' := 20) (al' := [some (.int (nI k)), some (.int (nI (FA (e - 1)))), some (.int (nI e))]) (st' := [.int (nI (FA (e - 1)))]) d_233_19 (fun _ => rfl) ?_
      exact rr_ri d_233_20 mr_233 rfl ⟨by rw [FA_e he], rfl, rfl⟩
    · omega
theorem s_permutes {g : Nat → Int32} {A : Nat → Nat → Int32} {n r : Nat} (hn6 : n ≤ 6) (hr : r < FA n) : RR 1 234 0 [some (.ref 146), some (.int (nI r)), some (.int (nI n)), none, none, none, none, none, none] [] g A (pmR 13 g A n (fun k => nI (pmE n r k))) := by
  have h2n := m_lt hn6
  refine rn_ic (v := 1) d_234_0 (by decide) ?_
  refine rr_nx (pc' := 2) (al' := [some (.ref 146), some (.int (nI r)), some (.int (nI n)), none, none, none, none, none, none]) (st' := [.int (nI n), .int (nI 1)]) d_234_1 (fun _ => rfl) ?_
  refine rn_shl d_234_2 (by first | omega | assumption | exact cu_36 (by omega) (cu_lt (by omega) (by omega))) ?_
  refine rn_ic (v := 1) d_234_3 (by decide) ?_
  refine rn_sub d_234_4 (by first | omega | assumption | exact cu_36 (by omega) (cu_lt (by omega) (by omega))) ?_
  refine rr_nx (pc' := 6) (al' := [some (.ref 146), some (.int (nI r)), some (.int (nI n)), some (.int (nI ((1 * 2 ^ n) - 1))), none, none, none, none, none]) (st' := []) d_234_5 (fun _ => rfl) ?_
  refine rr_nx (pc' := 7) (al' := [some (.ref 146), some (.int (nI r)), some (.int (nI n)), some (.int (nI ((1 * 2 ^ n) - 1))), none, none, none, none, none]) (st' := [.int (nI r)]) d_234_6 (fun _ => rfl) ?_
  refine rr_nx (pc' := 9) (al' := [some (.ref 146), some (.int (nI r)), some (.int (nI n)), some (.int (nI ((1 * 2 ^ n) - 1))), some (.int (nI r)), none, none, none, none]) (st' := []) d_234_7 (fun _ => rfl) ?_
  refine rn_ic (v := 0) d_234_9 (by decide) ?_
  refine rr_nx (pc' := 12) (al' := [some (.ref 146), some (.int (nI r)), some (.int (nI n)), some (.int (nI ((1 * 2 ^ n) - 1))), some (.int (nI r)), some (.int (nI 0)), none, none, none]) (st' := []) d_234_10 (fun _ => rfl) ?_
  refine rr_al (congrArg (fun z__ : Nat => ([some (.ref 146), some (.int (nI r)), some (.int (nI n)), some (.int (nI z__)), some (.int (nI r)), some (.int (nI 0)), none, none, none] : AL)) (show (1 * 2 ^ n) - 1 = (pmS n r 0).1 by rfl)) ?_
  refine rr_al (congrArg (fun z__ : Nat => ([some (.ref 146), some (.int (nI r)), some (.int (nI n)), some (.int (nI ((pmS n r 0).1))), some (.int (nI z__)), some (.int (nI 0)), none, none, none] : AL)) (show r = (pmS n r 0).2 by rfl)) ?_
  refine rr_A (show A = (rf_u A 13 (A 13)) by rw [rf_u_id]) ?_
  refine rr_upw (al := fun k w_ => [some (.ref 146), some (.int (nI r)), some (.int (nI n)), some (.int (nI ((pmS n r k).1))), some (.int (nI ((pmS n r k).2))), some (.int (nI k)), none, none, none]) (G := fun k w_ => g) (B := fun k w_ => (rf_u A 13 w_)) (P := fun k w_ => ∀ q, q < k → w_ q = nI (pmE n r q)) (n := n) (fun k w_ hk pk ihk => ?_) (fun w_ pk => ?_) 0 (A 13) (by omega) (all_0)
  · show RR _ _ 12 [some (.ref 146), some (.int (nI r)), some (.int (nI n)), some (.int (nI ((pmS n r k).1))), some (.int (nI ((pmS n r k).2))), some (.int (nI k)), none, none, none] [] g (rf_u A 13 w_) _
    obtain ⟨hd1, hd2, hd3, hd4, hd5⟩ := pm_f hn6 hr hk
    have hF1 := FA_pos (n - 1 - k)
    have hF2 := FA_720 (n := n - 1 - k) (by omega)
    have hW : (pmS n r k).2 / FA (n - 1 - k) < 720 := Nat.lt_of_le_of_lt (Nat.div_le_self _ _) hd5
    refine rr_nx (pc' := 14) (al' := [some (.ref 146), some (.int (nI r)), some (.int (nI n)), some (.int (nI ((pmS n r k).1))), some (.int (nI ((pmS n r k).2))), some (.int (nI k)), none, none, none]) (st' := [.int (nI k)]) d_234_12 (fun _ => rfl) ?_
    refine rr_nx (pc' := 15) (al' := [some (.ref 146), some (.int (nI r)), some (.int (nI n)), some (.int (nI ((pmS n r k).1))), some (.int (nI ((pmS n r k).2))), some (.int (nI k)), none, none, none]) (st' := [.int (nI n), .int (nI k)]) d_234_14 (fun _ => rfl) ?_
    refine rn_cge (t := 101) d_234_15 (by decide) (by first | omega | assumption | exact cu_36 (by omega) (cu_lt (by omega) (by omega))) (by first | omega | assumption | exact cu_36 (by omega) (cu_lt (by omega) (by omega))) (fun c15 => ?_) (fun c15 => ?_)
    · omega
    · refine rr_nx (pc' := 19) (al' := [some (.ref 146), some (.int (nI r)), some (.int (nI n)), some (.int (nI ((pmS n r k).1))), some (.int (nI ((pmS n r k).2))), some (.int (nI k)), none, none, none]) (st' := [.int (nI n)]) d_234_18 (fun _ => rfl) ?_
      refine rn_ic (v := 1) d_234_19 (by decide) ?_
      refine rn_sub d_234_20 (by first | omega | assumption | exact cu_36 (by omega) (cu_lt (by omega) (by omega))) ?_
      refine rr_nx (pc' := 23) (al' := [some (.ref 146), some (.int (nI r)), some (.int (nI n)), some (.int (nI ((pmS n r k).1))), some (.int (nI ((pmS n r k).2))), some (.int (nI k)), none, none, none]) (st' := [.int (nI k), .int (nI (n - 1))]) d_234_21 (fun _ => rfl) ?_
      refine rn_sub d_234_23 (by first | omega | assumption | exact cu_36 (by omega) (cu_lt (by omega) (by omega))) ?_
      refine rr_ps (as := [.int (nI ((n - 1) - k))]) (al0 := [some (.int (nI ((n - 1) - k))), none, none]) (r := []) d_234_24 mo_234 ml_270 mz_233 rfl rfl rfl (Nat.le_of_ble_eq_true rfl) (s_factorial (by omega)) ?_
      show RR _ _ 27 [some (.ref 146), some (.int (nI r)), some (.int (nI n)), some (.int (nI ((pmS n r k).1))), some (.int (nI ((pmS n r k).2))), some (.int (nI k)), none, none, none] [.int (nI (FA ((n - 1) - k)))] g (rf_u A 13 w_) _
      refine rr_nx (pc' := 29) (al' := [some (.ref 146), some (.int (nI r)), some (.int (nI n)), some (.int (nI ((pmS n r k).1))), some (.int (nI ((pmS n r k).2))), some (.int (nI k)), some (.int (nI (FA ((n - 1) - k)))), none, none]) (st' := []) d_234_27 (fun _ => rfl) ?_
      refine rr_nx (pc' := 31) (al' := [some (.ref 146), some (.int (nI r)), some (.int (nI n)), some (.int (nI ((pmS n r k).1))), some (.int (nI ((pmS n r k).2))), some (.int (nI k)), some (.int (nI (FA ((n - 1) - k)))), none, none]) (st' := [.int (nI ((pmS n r k).2))]) d_234_29 (fun _ => rfl) ?_
      refine rr_nx (pc' := 33) (al' := [some (.ref 146), some (.int (nI r)), some (.int (nI n)), some (.int (nI ((pmS n r k).1))), some (.int (nI ((pmS n r k).2))), some (.int (nI k)), some (.int (nI (FA ((n - 1) - k)))), none, none]) (st' := [.int (nI (FA ((n - 1) - k))), .int (nI ((pmS n r k).2))]) d_234_31 (fun _ => rfl) ?_
      refine rn_div d_234_33 (by first | omega | assumption | exact cu_36 (by omega) (cu_lt (by omega) (by omega))) (by first | omega | assumption | exact cu_36 (by omega) (cu_lt (by omega) (by omega))) (by first | omega | assumption | exact cu_36 (by omega) (cu_lt (by omega) (by omega))) ?_
      refine rr_nx (pc' := 36) (al' := [some (.ref 146), some (.int (nI r)), some (.int (nI n)), some (.int (nI ((pmS n r k).1))), some (.int (nI ((pmS n r k).2))), some (.int (nI k)), some (.int (nI (FA ((n - 1) - k)))), some (.int (nI (((pmS n r k).2) / (FA ((n - 1) - k))))), none]) (st' := []) d_234_34 (fun _ => rfl) ?_
      refine rr_nx (pc' := 38) (al' := [some (.ref 146), some (.int (nI r)), some (.int (nI n)), some (.int (nI ((pmS n r k).1))), some (.int (nI ((pmS n r k).2))), some (.int (nI k)), some (.int (nI (FA ((n - 1) - k)))), some (.int (nI (((pmS n r k).2) / (FA ((n - 1) - k))))), none]) (st' := [.int (nI ((pmS n r k).2))]) d_234_36 (fun _ => rfl) ?_
      refine rr_nx (pc' := 40) (al' := [some (.ref 146), some (.int (nI r)), some (.int (nI n)), some (.int (nI ((pmS n r k).1))), some (.int (nI ((pmS n r k).2))), some (.int (nI k)), some (.int (nI (FA ((n - 1) - k)))), some (.int (nI (((pmS n r k).2) / (FA ((n - 1) - k))))), none]) (st' := [.int (nI (FA ((n - 1) - k))), .int (nI ((pmS n r k).2))]) d_234_38 (fun _ => rfl) ?_
      refine rn_rem d_234_40 (by first | omega | assumption | exact cu_36 (by omega) (cu_lt (by omega) (by omega))) (by first | omega | assumption | exact cu_36 (by omega) (cu_lt (by omega) (by omega))) (by first | omega | assumption | exact cu_36 (by omega) (cu_lt (by omega) (by omega))) ?_
      refine rr_nx (pc' := 43) (al' := [some (.ref 146), some (.int (nI r)), some (.int (nI n)), some (.int (nI ((pmS n r k).1))), some (.int (nI (((pmS n r k).2) % (FA ((n - 1) - k))))), some (.int (nI k)), some (.int (nI (FA ((n - 1) - k)))), some (.int (nI (((pmS n r k).2) / (FA ((n - 1) - k))))), none]) (st' := []) d_234_41 (fun _ => rfl) ?_
      refine rn_ic (v := 0) d_234_43 (by decide) ?_
      refine rr_nx (pc' := 46) (al' := [some (.ref 146), some (.int (nI r)), some (.int (nI n)), some (.int (nI ((pmS n r k).1))), some (.int (nI (((pmS n r k).2) % (FA ((n - 1) - k))))), some (.int (nI k)), some (.int (nI (FA ((n - 1) - k)))), some (.int (nI (((pmS n r k).2) / (FA ((n - 1) - k))))), some (.int (nI 0))]) (st' := []) d_234_44 (fun _ => rfl) ?_
      refine rr_al (congrArg (fun z__ : Nat => ([some (.ref 146), some (.int (nI r)), some (.int (nI n)), some (.int (nI ((pmS n r k).1))), some (.int (nI (((pmS n r k).2) % (FA ((n - 1) - k))))), some (.int (nI k)), some (.int (nI (FA ((n - 1) - k)))), some (.int (nI z__)), some (.int (nI 0))] : AL)) (show ((pmS n r k).2) / (FA ((n - 1) - k)) = (pmS n r k).2 / FA (n - 1 - k) - SB (pmS n r k).1 0 by rfl)) ?_
      refine rr_up (al := fun e => [some (.ref 146), some (.int (nI r)), some (.int (nI n)), some (.int (nI ((pmS n r k).1))), some (.int (nI (((pmS n r k).2) % (FA ((n - 1) - k))))), some (.int (nI k)), some (.int (nI (FA ((n - 1) - k)))), some (.int (nI ((pmS n r k).2 / FA (n - 1 - k) - SB (pmS n r k).1 e))), some (.int (nI e))]) (G := fun e => g) (B := fun e => (rf_u A 13 w_)) (P := fun e => True) (n := pmE n r k) (fun e he pe ihe => ?_) (fun pe => ?_) 0  (by omega) (trivial)
      · show RR _ _ 46 [some (.ref 146), some (.int (nI r)), some (.int (nI n)), some (.int (nI ((pmS n r k).1))), some (.int (nI (((pmS n r k).2) % (FA ((n - 1) - k))))), some (.int (nI k)), some (.int (nI (FA ((n - 1) - k)))), some (.int (nI ((pmS n r k).2 / FA (n - 1 - k) - SB (pmS n r k).1 e))), some (.int (nI e))] [] g (rf_u A 13 w_) _
        have hSe : SB (pmS n r k).1 e ≤ (pmS n r k).2 / FA (n - 1 - k) := by rw [← hd3]; exact SB_mono (by omega)
        have hb := bt_lt (pmS n r k).1 e
        refine rr_nx (pc' := 47) (al' := [some (.ref 146), some (.int (nI r)), some (.int (nI n)), some (.int (nI ((pmS n r k).1))), some (.int (nI (((pmS n r k).2) % (FA ((n - 1) - k))))), some (.int (nI k)), some (.int (nI (FA ((n - 1) - k)))), some (.int (nI ((pmS n r k).2 / FA (n - 1 - k) - SB (pmS n r k).1 e))), some (.int (nI e))]) (st' := [.int (nI ((pmS n r k).1))]) d_234_46 (fun _ => rfl) ?_
        refine rr_nx (pc' := 49) (al' := [some (.ref 146), some (.int (nI r)), some (.int (nI n)), some (.int (nI ((pmS n r k).1))), some (.int (nI (((pmS n r k).2) % (FA ((n - 1) - k))))), some (.int (nI k)), some (.int (nI (FA ((n - 1) - k)))), some (.int (nI ((pmS n r k).2 / FA (n - 1 - k) - SB (pmS n r k).1 e))), some (.int (nI e))]) (st' := [.int (nI e), .int (nI ((pmS n r k).1))]) d_234_47 (fun _ => rfl) ?_
        refine rn_shr d_234_49 (by first | omega | assumption | exact cu_36 (by omega) (cu_lt (by omega) (by omega))) (by first | omega | assumption | exact cu_36 (by omega) (cu_lt (by omega) (by omega))) ?_
        refine rn_ic (v := 1) d_234_50 (by decide) ?_
        refine rn_and d_234_51 ?_
        refine rn_ieq (t := 60) d_234_52 (by decide) (by first | omega | assumption | exact cu_36 (by omega) (cu_lt (by omega) (by omega))) (fun c52 => ?_) (fun c52 => ?_)
        · refine rr_nx (pc' := 62) (al' := [some (.ref 146), some (.int (nI r)), some (.int (nI n)), some (.int (nI ((pmS n r k).1))), some (.int (nI (((pmS n r k).2) % (FA ((n - 1) - k))))), some (.int (nI k)), some (.int (nI (FA ((n - 1) - k)))), some (.int (nI ((pmS n r k).2 / FA (n - 1 - k) - SB (pmS n r k).1 e))), some (.int (nI e))]) (st' := [.int (nI ((pmS n r k).2 / FA (n - 1 - k) - SB (pmS n r k).1 e))]) d_234_60 (fun _ => rfl) ?_
          refine rr_nx (pc' := 63) (al' := [some (.ref 146), some (.int (nI r)), some (.int (nI n)), some (.int (nI ((pmS n r k).1))), some (.int (nI (((pmS n r k).2) % (FA ((n - 1) - k))))), some (.int (nI k)), some (.int (nI (FA ((n - 1) - k)))), some (.int (nI ((pmS n r k).2 / FA (n - 1 - k) - SB (pmS n r k).1 e))), some (.int (nI e))]) (st' := [.int (nI ((pmS n r k).1)), .int (nI ((pmS n r k).2 / FA (n - 1 - k) - SB (pmS n r k).1 e))]) d_234_62 (fun _ => rfl) ?_
          refine rr_nx (pc' := 65) (al' := [some (.ref 146), some (.int (nI r)), some (.int (nI n)), some (.int (nI ((pmS n r k).1))), some (.int (nI (((pmS n r k).2) % (FA ((n - 1) - k))))), some (.int (nI k)), some (.int (nI (FA ((n - 1) - k)))), some (.int (nI ((pmS n r k).2 / FA (n - 1 - k) - SB (pmS n r k).1 e))), some (.int (nI e))]) (st' := [.int (nI e), .int (nI ((pmS n r k).1)), .int (nI ((pmS n r k).2 / FA (n - 1 - k) - SB (pmS n r k).1 e))]) d_234_63 (fun _ => rfl) ?_
          refine rn_shr d_234_65 (by first | omega | assumption | exact cu_36 (by omega) (cu_lt (by omega) (by omega))) (by first | omega | assumption | exact cu_36 (by omega) (cu_lt (by omega) (by omega))) ?_
          refine rn_ic (v := 1) d_234_66 (by decide) ?_
          refine rn_and d_234_67 ?_
          refine rn_sub d_234_68 (by first | omega | assumption | exact cu_36 (by omega) (cu_lt (by omega) (by omega))) ?_
          refine rr_nx (pc' := 71) (al' := [some (.ref 146), some (.int (nI r)), some (.int (nI n)), some (.int (nI ((pmS n r k).1))), some (.int (nI (((pmS n r k).2) % (FA ((n - 1) - k))))), some (.int (nI k)), some (.int (nI (FA ((n - 1) - k)))), some (.int (nI (((pmS n r k).2 / FA (n - 1 - k) - SB (pmS n r k).1 e) - ((((pmS n r k).1) / 2 ^ e) &&& 1)))), some (.int (nI e))]) (st' := []) d_234_69 (fun _ => rfl) ?_
          refine rn_inc d_234_71 rfl rfl ?_
          show RR _ _ 74 [some (.ref 146), some (.int (nI r)), some (.int (nI n)), some (.int (nI ((pmS n r k).1))), some (.int (nI (((pmS n r k).2) % (FA ((n - 1) - k))))), some (.int (nI k)), some (.int (nI (FA ((n - 1) - k)))), some (.int (nI (((pmS n r k).2 / FA (n - 1 - k) - SB (pmS n r k).1 e) - ((((pmS n r k).1) / 2 ^ e) &&& 1)))), some (.int (nI (e + 1)))] [] g (rf_u A 13 w_) _
          refine rr_nx (pc' := 46) (al' := [some (.ref 146), some (.int (nI r)), some (.int (nI n)), some (.int (nI ((pmS n r k).1))), some (.int (nI (((pmS n r k).2) % (FA ((n - 1) - k))))), some (.int (nI k)), some (.int (nI (FA ((n - 1) - k)))), some (.int (nI (((pmS n r k).2 / FA (n - 1 - k) - SB (pmS n r k).1 e) - ((((pmS n r k).1) / 2 ^ e) &&& 1)))), some (.int (nI (e + 1)))]) (st' := []) d_234_74 (fun _ => rfl) ?_
          refine rr_al (congrArg (fun z__ : Nat => ([some (.ref 146), some (.int (nI r)), some (.int (nI n)), some (.int (nI ((pmS n r k).1))), some (.int (nI (((pmS n r k).2) % (FA ((n - 1) - k))))), some (.int (nI k)), some (.int (nI (FA ((n - 1) - k)))), some (.int (nI z__)), some (.int (nI (e + 1)))] : AL)) (show ((pmS n r k).2 / FA (n - 1 - k) - SB (pmS n r k).1 e) - ((((pmS n r k).1) / 2 ^ e) &&& 1) = (pmS n r k).2 / FA (n - 1 - k) - SB (pmS n r k).1 (e + 1) by rw [SB_s]; omega)) ?_
          exact ihe  (trivial)
        · refine rr_nx (pc' := 57) (al' := [some (.ref 146), some (.int (nI r)), some (.int (nI n)), some (.int (nI ((pmS n r k).1))), some (.int (nI (((pmS n r k).2) % (FA ((n - 1) - k))))), some (.int (nI k)), some (.int (nI (FA ((n - 1) - k)))), some (.int (nI ((pmS n r k).2 / FA (n - 1 - k) - SB (pmS n r k).1 e))), some (.int (nI e))]) (st' := [.int (nI ((pmS n r k).2 / FA (n - 1 - k) - SB (pmS n r k).1 e))]) d_234_55 (fun _ => rfl) ?_
          refine rn_zle (t := 77) d_234_57 (by decide) (by first | omega | assumption | exact cu_36 (by omega) (cu_lt (by omega) (by omega))) (fun c57 => ?_) (fun c57 => ?_)
          · exact absurd ⟨bt_p0.mp c52, by omega⟩ (pm_no he)
          · refine rr_nx (pc' := 62) (al' := [some (.ref 146), some (.int (nI r)), some (.int (nI n)), some (.int (nI ((pmS n r k).1))), some (.int (nI (((pmS n r k).2) % (FA ((n - 1) - k))))), some (.int (nI k)), some (.int (nI (FA ((n - 1) - k)))), some (.int (nI ((pmS n r k).2 / FA (n - 1 - k) - SB (pmS n r k).1 e))), some (.int (nI e))]) (st' := [.int (nI ((pmS n r k).2 / FA (n - 1 - k) - SB (pmS n r k).1 e))]) d_234_60 (fun _ => rfl) ?_
            refine rr_nx (pc' := 63) (al' := [some (.ref 146), some (.int (nI r)), some (.int (nI n)), some (.int (nI ((pmS n r k).1))), some (.int (nI (((pmS n r k).2) % (FA ((n - 1) - k))))), some (.int (nI k)), some (.int (nI (FA ((n - 1) - k)))), some (.int (nI ((pmS n r k).2 / FA (n - 1 - k) - SB (pmS n r k).1 e))), some (.int (nI e))]) (st' := [.int (nI ((pmS n r k).1)), .int (nI ((pmS n r k).2 / FA (n - 1 - k) - SB (pmS n r k).1 e))]) d_234_62 (fun _ => rfl) ?_
            refine rr_nx (pc' := 65) (al' := [some (.ref 146), some (.int (nI r)), some (.int (nI n)), some (.int (nI ((pmS n r k).1))), some (.int (nI (((pmS n r k).2) % (FA ((n - 1) - k))))), some (.int (nI k)), some (.int (nI (FA ((n - 1) - k)))), some (.int (nI ((pmS n r k).2 / FA (n - 1 - k) - SB (pmS n r k).1 e))), some (.int (nI e))]) (st' := [.int (nI e), .int (nI ((pmS n r k).1)), .int (nI ((pmS n r k).2 / FA (n - 1 - k) - SB (pmS n r k).1 e))]) d_234_63 (fun _ => rfl) ?_
            refine rn_shr d_234_65 (by first | omega | assumption | exact cu_36 (by omega) (cu_lt (by omega) (by omega))) (by first | omega | assumption | exact cu_36 (by omega) (cu_lt (by omega) (by omega))) ?_
            refine rn_ic (v := 1) d_234_66 (by decide) ?_
            refine rn_and d_234_67 ?_
            refine rn_sub d_234_68 (by first | omega | assumption | exact cu_36 (by omega) (cu_lt (by omega) (by omega))) ?_
            refine rr_nx (pc' := 71) (al' := [some (.ref 146), some (.int (nI r)), some (.int (nI n)), some (.int (nI ((pmS n r k).1))), some (.int (nI (((pmS n r k).2) % (FA ((n - 1) - k))))), some (.int (nI k)), some (.int (nI (FA ((n - 1) - k)))), some (.int (nI (((pmS n r k).2 / FA (n - 1 - k) - SB (pmS n r k).1 e) - ((((pmS n r k).1) / 2 ^ e) &&& 1)))), some (.int (nI e))]) (st' := []) d_234_69 (fun _ => rfl) ?_
            refine rn_inc d_234_71 rfl rfl ?_
            show RR _ _ 74 [some (.ref 146), some (.int (nI r)), some (.int (nI n)), some (.int (nI ((pmS n r k).1))), some (.int (nI (((pmS n r k).2) % (FA ((n - 1) - k))))), some (.int (nI k)), some (.int (nI (FA ((n - 1) - k)))), some (.int (nI (((pmS n r k).2 / FA (n - 1 - k) - SB (pmS n r k).1 e) - ((((pmS n r k).1) / 2 ^ e) &&& 1)))), some (.int (nI (e + 1)))] [] g (rf_u A 13 w_) _
            refine rr_nx (pc' := 46) (al' := [some (.ref 146), some (.int (nI r)), some (.int (nI n)), some (.int (nI ((pmS n r k).1))), some (.int (nI (((pmS n r k).2) % (FA ((n - 1) - k))))), some (.int (nI k)), some (.int (nI (FA ((n - 1) - k)))), some (.int (nI (((pmS n r k).2 / FA (n - 1 - k) - SB (pmS n r k).1 e) - ((((pmS n r k).1) / 2 ^ e) &&& 1)))), some (.int (nI (e + 1)))]) (st' := []) d_234_74 (fun _ => rfl) ?_
            refine rr_al (congrArg (fun z__ : Nat => ([some (.ref 146), some (.int (nI r)), some (.int (nI n)), some (.int (nI ((pmS n r k).1))), some (.int (nI (((pmS n r k).2) % (FA ((n - 1) - k))))), some (.int (nI k)), some (.int (nI (FA ((n - 1) - k)))), some (.int (nI z__)), some (.int (nI (e + 1)))] : AL)) (show ((pmS n r k).2 / FA (n - 1 - k) - SB (pmS n r k).1 e) - ((((pmS n r k).1) / 2 ^ e) &&& 1) = (pmS n r k).2 / FA (n - 1 - k) - SB (pmS n r k).1 (e + 1) by rw [SB_s]; omega)) ?_
            exact ihe  (trivial)
      · show RR _ _ 46 [some (.ref 146), some (.int (nI r)), some (.int (nI n)), some (.int (nI ((pmS n r k).1))), some (.int (nI (((pmS n r k).2) % (FA ((n - 1) - k))))), some (.int (nI k)), some (.int (nI (FA ((n - 1) - k)))), some (.int (nI ((pmS n r k).2 / FA (n - 1 - k) - SB (pmS n r k).1 (pmE n r k)))), some (.int (nI (pmE n r k)))] [] g (rf_u A 13 w_) _
        have hb := bt_lt (pmS n r k).1 (pmE n r k)
        refine rr_nx (pc' := 47) (al' := [some (.ref 146), some (.int (nI r)), some (.int (nI n)), some (.int (nI ((pmS n r k).1))), some (.int (nI (((pmS n r k).2) % (FA ((n - 1) - k))))), some (.int (nI k)), some (.int (nI (FA ((n - 1) - k)))), some (.int (nI ((pmS n r k).2 / FA (n - 1 - k) - SB (pmS n r k).1 (pmE n r k)))), some (.int (nI (pmE n r k)))]) (st' := [.int (nI ((pmS n r k).1))]) d_234_46 (fun _ => rfl) ?_
        refine rr_nx (pc' := 49) (al' := [some (.ref 146), some (.int (nI r)), some (.int (nI n)), some (.int (nI ((pmS n r k).1))), some (.int (nI (((pmS n r k).2) % (FA ((n - 1) - k))))), some (.int (nI k)), some (.int (nI (FA ((n - 1) - k)))), some (.int (nI ((pmS n r k).2 / FA (n - 1 - k) - SB (pmS n r k).1 (pmE n r k)))), some (.int (nI (pmE n r k)))]) (st' := [.int (nI (pmE n r k)), .int (nI ((pmS n r k).1))]) d_234_47 (fun _ => rfl) ?_
        refine rn_shr d_234_49 (by first | omega | assumption | exact cu_36 (by omega) (cu_lt (by omega) (by omega))) (by first | omega | assumption | exact cu_36 (by omega) (cu_lt (by omega) (by omega))) ?_
        refine rn_ic (v := 1) d_234_50 (by decide) ?_
        refine rn_and d_234_51 ?_
        refine rn_ieq (t := 60) d_234_52 (by decide) (by first | omega | assumption | exact cu_36 (by omega) (cu_lt (by omega) (by omega))) (fun c52 => ?_) (fun c52 => ?_)
        · exact absurd hd2 (by rw [bt_e0.mp c52]; exact Bool.false_ne_true)
        · refine rr_nx (pc' := 57) (al' := [some (.ref 146), some (.int (nI r)), some (.int (nI n)), some (.int (nI ((pmS n r k).1))), some (.int (nI (((pmS n r k).2) % (FA ((n - 1) - k))))), some (.int (nI k)), some (.int (nI (FA ((n - 1) - k)))), some (.int (nI ((pmS n r k).2 / FA (n - 1 - k) - SB (pmS n r k).1 (pmE n r k)))), some (.int (nI (pmE n r k)))]) (st' := [.int (nI ((pmS n r k).2 / FA (n - 1 - k) - SB (pmS n r k).1 (pmE n r k)))]) d_234_55 (fun _ => rfl) ?_
          refine rn_zle (t := 77) d_234_57 (by decide) (by first | omega | assumption | exact cu_36 (by omega) (cu_lt (by omega) (by omega))) (fun c57 => ?_) (fun c57 => ?_)
          · refine rr_nx (pc' := 78) (al' := [some (.ref 146), some (.int (nI r)), some (.int (nI n)), some (.int (nI ((pmS n r k).1))), some (.int (nI (((pmS n r k).2) % (FA ((n - 1) - k))))), some (.int (nI k)), some (.int (nI (FA ((n - 1) - k)))), some (.int (nI ((pmS n r k).2 / FA (n - 1 - k) - SB (pmS n r k).1 (pmE n r k)))), some (.int (nI (pmE n r k)))]) (st' := [.ref 146]) d_234_77 (fun _ => rfl) ?_
            refine rr_gf (v := .ref (147 + 13)) d_234_78 mo_234 fl_55 rfl ?_
            refine rr_nx (pc' := 83) (al' := [some (.ref 146), some (.int (nI r)), some (.int (nI n)), some (.int (nI ((pmS n r k).1))), some (.int (nI (((pmS n r k).2) % (FA ((n - 1) - k))))), some (.int (nI k)), some (.int (nI (FA ((n - 1) - k)))), some (.int (nI ((pmS n r k).2 / FA (n - 1 - k) - SB (pmS n r k).1 (pmE n r k)))), some (.int (nI (pmE n r k)))]) (st' := [.int (nI k), .ref (147 + 13)]) d_234_81 (fun _ => rfl) ?_
            refine rr_nx (pc' := 85) (al' := [some (.ref 146), some (.int (nI r)), some (.int (nI n)), some (.int (nI ((pmS n r k).1))), some (.int (nI (((pmS n r k).2) % (FA ((n - 1) - k))))), some (.int (nI k)), some (.int (nI (FA ((n - 1) - k)))), some (.int (nI ((pmS n r k).2 / FA (n - 1 - k) - SB (pmS n r k).1 (pmE n r k)))), some (.int (nI (pmE n r k)))]) (st' := [.int (nI (pmE n r k)), .int (nI k), .ref (147 + 13)]) d_234_83 (fun _ => rfl) ?_
            refine rr_iS (j := 13) (A1 := (rf_u A 13 (upd w_ k (nI (pmE n r k))))) d_234_85 (by decide) rfl (by decide) (show k < 6 by first | omega | assumption | exact cu_36 (by omega) (cu_lt (by omega) (by omega))) rf_uw ?_
            refine rr_nx (pc' := 87) (al' := [some (.ref 146), some (.int (nI r)), some (.int (nI n)), some (.int (nI ((pmS n r k).1))), some (.int (nI (((pmS n r k).2) % (FA ((n - 1) - k))))), some (.int (nI k)), some (.int (nI (FA ((n - 1) - k)))), some (.int (nI ((pmS n r k).2 / FA (n - 1 - k) - SB (pmS n r k).1 (pmE n r k)))), some (.int (nI (pmE n r k)))]) (st' := [.int (nI ((pmS n r k).1))]) d_234_86 (fun _ => rfl) ?_
            refine rn_ic (v := 1) d_234_87 (by decide) ?_
            refine rr_nx (pc' := 90) (al' := [some (.ref 146), some (.int (nI r)), some (.int (nI n)), some (.int (nI ((pmS n r k).1))), some (.int (nI (((pmS n r k).2) % (FA ((n - 1) - k))))), some (.int (nI k)), some (.int (nI (FA ((n - 1) - k)))), some (.int (nI ((pmS n r k).2 / FA (n - 1 - k) - SB (pmS n r k).1 (pmE n r k)))), some (.int (nI (pmE n r k)))]) (st' := [.int (nI (pmE n r k)), .int (nI 1), .int (nI ((pmS n r k).1))]) d_234_88 (fun _ => rfl) ?_
            refine rn_shl d_234_90 (by first | omega | assumption | exact cu_36 (by omega) (cu_lt (by omega) (by omega))) ?_
            refine rr_nx (pc' := 92) (al' := [some (.ref 146), some (.int (nI r)), some (.int (nI n)), some (.int (nI ((pmS n r k).1))), some (.int (nI (((pmS n r k).2) % (FA ((n - 1) - k))))), some (.int (nI k)), some (.int (nI (FA ((n - 1) - k)))), some (.int (nI ((pmS n r k).2 / FA (n - 1 - k) - SB (pmS n r k).1 (pmE n r k)))), some (.int (nI (pmE n r k)))]) (st' := [.int (-1), .int (nI (1 * 2 ^ (pmE n r k))), .int (nI ((pmS n r k).1))]) d_234_91 (fun _ => rfl) ?_
            refine rn_not d_234_92 ?_
            refine rn_and d_234_93 ?_
            refine rr_nx (pc' := 95) (al' := [some (.ref 146), some (.int (nI r)), some (.int (nI n)), some (.int (nI (((pmS n r k).1) &&& ((1 * 2 ^ (pmE n r k)) ^^^ 4294967295)))), some (.int (nI (((pmS n r k).2) % (FA ((n - 1) - k))))), some (.int (nI k)), some (.int (nI (FA ((n - 1) - k)))), some (.int (nI ((pmS n r k).2 / FA (n - 1 - k) - SB (pmS n r k).1 (pmE n r k)))), some (.int (nI (pmE n r k)))]) (st' := []) d_234_94 (fun _ => rfl) ?_
            refine rn_inc d_234_95 rfl rfl ?_
            show RR _ _ 98 [some (.ref 146), some (.int (nI r)), some (.int (nI n)), some (.int (nI (((pmS n r k).1) &&& ((1 * 2 ^ (pmE n r k)) ^^^ 4294967295)))), some (.int (nI (((pmS n r k).2) % (FA ((n - 1) - k))))), some (.int (nI (k + 1))), some (.int (nI (FA ((n - 1) - k)))), some (.int (nI ((pmS n r k).2 / FA (n - 1 - k) - SB (pmS n r k).1 (pmE n r k)))), some (.int (nI (pmE n r k)))] [] g (rf_u A 13 (upd w_ k (nI (pmE n r k)))) _
            refine rr_nx (pc' := 12) (al' := [some (.ref 146), some (.int (nI r)), some (.int (nI n)), some (.int (nI (((pmS n r k).1) &&& ((1 * 2 ^ (pmE n r k)) ^^^ 4294967295)))), some (.int (nI (((pmS n r k).2) % (FA ((n - 1) - k))))), some (.int (nI (k + 1))), some (.int (nI (FA ((n - 1) - k)))), some (.int (nI ((pmS n r k).2 / FA (n - 1 - k) - SB (pmS n r k).1 (pmE n r k)))), some (.int (nI (pmE n r k)))]) (st' := []) d_234_98 (fun _ => rfl) ?_
            refine rr_al (congrArg (fun z__ : Nat => ([some (.ref 146), some (.int (nI r)), some (.int (nI n)), some (.int (nI z__)), some (.int (nI (((pmS n r k).2) % (FA ((n - 1) - k))))), some (.int (nI (k + 1))), some (.int (nI (FA ((n - 1) - k)))), some (.int (nI ((pmS n r k).2 / FA (n - 1 - k) - SB (pmS n r k).1 (pmE n r k)))), some (.int (nI (pmE n r k)))] : AL)) (show ((pmS n r k).1) &&& ((1 * 2 ^ (pmE n r k)) ^^^ 4294967295) = (pmS n r (k + 1)).1 by rfl)) ?_
            refine rr_al (congrArg (fun z__ : Nat => ([some (.ref 146), some (.int (nI r)), some (.int (nI n)), some (.int (nI ((pmS n r (k + 1)).1))), some (.int (nI z__)), some (.int (nI (k + 1))), some (.int (nI (FA ((n - 1) - k)))), some (.int (nI ((pmS n r k).2 / FA (n - 1 - k) - SB (pmS n r k).1 (pmE n r k)))), some (.int (nI (pmE n r k)))] : AL)) (show ((pmS n r k).2) % (FA ((n - 1) - k)) = (pmS n r (k + 1)).2 by rfl)) ?_
            refine rr_dr (al1 := [some (.ref 146), some (.int (nI r)), some (.int (nI n)), some (.int (nI ((pmS n r (k + 1)).1))), some (.int (nI ((pmS n r (k + 1)).2))), some (.int (nI (k + 1))), none, none, none]) (le_s (le_s (le_s (le_s (le_s (le_s (le_d rfl (le_d rfl (le_d rfl (le_n)))))))))) ?_
            exact ihk (upd w_ k (nI (pmE n r k))) (up_all (f := fun k => nI (pmE n r k)) pk rfl)
          · omega
  · show RR _ _ 12 [some (.ref 146), some (.int (nI r)), some (.int (nI n)), some (.int (nI ((pmS n r n).1))), some (.int (nI ((pmS n r n).2))), some (.int (nI n)), none, none, none] [] g (rf_u A 13 w_) _
    refine rr_nx (pc' := 14) (al' := [some (.ref 146), some (.int (nI r)), some (.int (nI n)), some (.int (nI ((pmS n r n).1))), some (.int (nI ((pmS n r n).2))), some (.int (nI n)), none, none, none]) (st' := [.int (nI n)]) d_234_12 (fun _ => rfl) ?_
    refine rr_nx (pc' := 15) (al' := [some (.ref 146), some (.int (nI r)), some (.int (nI n)), some (.int (nI ((pmS n r n).1))), some (.int (nI ((pmS n r n).2))), some (.int (nI n)), none, none, none]) (st' := [.int (nI n), .int (nI n)]) d_234_14 (fun _ => rfl) ?_
    refine rn_cge (t := 101) d_234_15 (by decide) (by first | omega | assumption | exact cu_36 (by omega) (cu_lt (by omega) (by omega))) (by first | omega | assumption | exact cu_36 (by omega) (cu_lt (by omega) (by omega))) (fun c15 => ?_) (fun c15 => ?_)
    · exact rr_rv d_234_101 mr_234 ⟨rfl, rfl, w_, rfl, pk⟩
    · omega
theorem s_numberOf {g : Nat → Int32} {A : Nat → Nat → Int32} {n r : Nat} {p : Nat → Nat} (hg : g 6 = nI n) (hn6 : n ≤ 6) (hp : ∀ k, k < n → A 13 k = nI (p k)) (ho : rkOk n r p) (hP : Per n p) : RR 1 257 0 [some (.ref 146), some (.ref (147 + 13)), none, none, none, none] [] g A (rP (some (.int (nI r))) g A) := by
  have h2n := m_lt hn6
  refine rn_ic (v := 1) d_257_0 (by decide) ?_
  refine rr_nx (pc' := 2) (al' := [some (.ref 146), some (.ref (147 + 13)), none, none, none, none]) (st' := [.ref 146, .int (nI 1)]) d_257_1 (fun _ => rfl) ?_
  refine rr_gn d_257_2 mo_257 fl_127 rfl hg ?_
  refine rn_shl d_257_5 (by first | omega | assumption | exact cu_36 (by omega) (cu_lt (by omega) (by omega))) ?_
  refine rn_ic (v := 1) d_257_6 (by decide) ?_
  refine rn_sub d_257_7 (by first | omega | assumption | exact cu_36 (by omega) (cu_lt (by omega) (by omega))) ?_
  refine rr_nx (pc' := 9) (al' := [some (.ref 146), some (.ref (147 + 13)), some (.int (nI ((1 * 2 ^ n) - 1))), none, none, none]) (st' := []) d_257_8 (fun _ => rfl) ?_
  refine rn_ic (v := 0) d_257_9 (by decide) ?_
  refine rr_nx (pc' := 11) (al' := [some (.ref 146), some (.ref (147 + 13)), some (.int (nI ((1 * 2 ^ n) - 1))), some (.int (nI 0)), none, none]) (st' := []) d_257_10 (fun _ => rfl) ?_
  refine rn_ic (v := 0) d_257_11 (by decide) ?_
  refine rr_nx (pc' := 14) (al' := [some (.ref 146), some (.ref (147 + 13)), some (.int (nI ((1 * 2 ^ n) - 1))), some (.int (nI 0)), some (.int (nI 0)), none]) (st' := []) d_257_12 (fun _ => rfl) ?_
  refine rr_al (congrArg (fun z__ : Nat => ([some (.ref 146), some (.ref (147 + 13)), some (.int (nI z__)), some (.int (nI 0)), some (.int (nI 0)), none] : AL)) (show (1 * 2 ^ n) - 1 = (rkS n p 0).1 by rfl)) ?_
  refine rr_al (congrArg (fun z__ : Nat => ([some (.ref 146), some (.ref (147 + 13)), some (.int (nI ((rkS n p 0).1))), some (.int (nI z__)), some (.int (nI 0)), none] : AL)) (show 0 = (rkS n p 0).2 by rfl)) ?_
  refine rr_up (al := fun k => [some (.ref 146), some (.ref (147 + 13)), some (.int (nI ((rkS n p k).1))), some (.int (nI ((rkS n p k).2))), some (.int (nI k)), none]) (G := fun k => g) (B := fun k => A) (P := fun k => True) (n := n) (fun k hk pk ihk => ?_) (fun pk => ?_) 0  (by omega) (trivial)
  · show RR _ _ 14 [some (.ref 146), some (.ref (147 + 13)), some (.int (nI ((rkS n p k).1))), some (.int (nI ((rkS n p k).2))), some (.int (nI k)), none] [] g A _
    obtain ⟨e1, e2, e3, e4, e5, e6⟩ := ho.2.2.2 k hk
    have hpk := hP.1 k hk
    refine rr_nx (pc' := 16) (al' := [some (.ref 146), some (.ref (147 + 13)), some (.int (nI ((rkS n p k).1))), some (.int (nI ((rkS n p k).2))), some (.int (nI k)), none]) (st' := [.int (nI k)]) d_257_14 (fun _ => rfl) ?_
    refine rr_nx (pc' := 17) (al' := [some (.ref 146), some (.ref (147 + 13)), some (.int (nI ((rkS n p k).1))), some (.int (nI ((rkS n p k).2))), some (.int (nI k)), none]) (st' := [.ref 146, .int (nI k)]) d_257_16 (fun _ => rfl) ?_
    refine rr_gn d_257_17 mo_257 fl_127 rfl hg ?_
    refine rn_cge (t := 73) d_257_20 (by decide) (by first | omega | assumption | exact cu_36 (by omega) (cu_lt (by omega) (by omega))) (by first | omega | assumption | exact cu_36 (by omega) (cu_lt (by omega) (by omega))) (fun c20 => ?_) (fun c20 => ?_)
    · omega
    · refine rr_nx (pc' := 24) (al' := [some (.ref 146), some (.ref (147 + 13)), some (.int (nI ((rkS n p k).1))), some (.int (nI ((rkS n p k).2))), some (.int (nI k)), none]) (st' := [.int (nI ((rkS n p k).1))]) d_257_23 (fun _ => rfl) ?_
      refine rn_ic (v := 1) d_257_24 (by decide) ?_
      refine rr_nx (pc' := 26) (al' := [some (.ref 146), some (.ref (147 + 13)), some (.int (nI ((rkS n p k).1))), some (.int (nI ((rkS n p k).2))), some (.int (nI k)), none]) (st' := [.ref (147 + 13), .int (nI 1), .int (nI ((rkS n p k).1))]) d_257_25 (fun _ => rfl) ?_
      refine rr_nx (pc' := 28) (al' := [some (.ref 146), some (.ref (147 + 13)), some (.int (nI ((rkS n p k).1))), some (.int (nI ((rkS n p k).2))), some (.int (nI k)), none]) (st' := [.int (nI k), .ref (147 + 13), .int (nI 1), .int (nI ((rkS n p k).1))]) d_257_26 (fun _ => rfl) ?_
      refine rr_ia (j := 13) (v := (nI (p k))) d_257_28 (by decide) rfl (by decide) (show k < 6 by first | omega | assumption | exact cu_36 (by omega) (cu_lt (by omega) (by omega))) (hp k hk) ?_
      refine rn_shl d_257_29 (by first | omega | assumption | exact cu_36 (by omega) (cu_lt (by omega) (by omega))) ?_
      refine rn_ic (v := 1) d_257_30 (by decide) ?_
      refine rn_sub d_257_31 (by rw [Nat.one_mul]; exact Nat.two_pow_pos _) ?_
      refine rn_and d_257_32 ?_
      refine rr_ps (as := [.int (nI (((rkS n p k).1) &&& ((1 * 2 ^ (p k)) - 1)))]) (al0 := [some (.int (nI (((rkS n p k).1) &&& ((1 * 2 ^ (p k)) - 1)))), none, none]) (r := []) d_257_33 mo_257 ml_292 mz_247 rfl rfl rfl (Nat.le_of_ble_eq_true rfl) (s_ones (by exact Nat.lt_of_le_of_lt Nat.and_le_left (by omega))) ?_
      show RR _ _ 36 [some (.ref 146), some (.ref (147 + 13)), some (.int (nI ((rkS n p k).1))), some (.int (nI ((rkS n p k).2))), some (.int (nI k)), none] [.int (nI (onN (((rkS n p k).1) &&& ((1 * 2 ^ (p k)) - 1))))] g A _
      refine rr_nx (pc' := 38) (al' := [some (.ref 146), some (.ref (147 + 13)), some (.int (nI ((rkS n p k).1))), some (.int (nI ((rkS n p k).2))), some (.int (nI k)), some (.int (nI (onN (((rkS n p k).1) &&& ((1 * 2 ^ (p k)) - 1)))))]) (st' := []) d_257_36 (fun _ => rfl) ?_
      refine rr_nx (pc' := 39) (al' := [some (.ref 146), some (.ref (147 + 13)), some (.int (nI ((rkS n p k).1))), some (.int (nI ((rkS n p k).2))), some (.int (nI k)), some (.int (nI (onN (((rkS n p k).1) &&& ((1 * 2 ^ (p k)) - 1)))))]) (st' := [.int (nI ((rkS n p k).2))]) d_257_38 (fun _ => rfl) ?_
      refine rr_nx (pc' := 41) (al' := [some (.ref 146), some (.ref (147 + 13)), some (.int (nI ((rkS n p k).1))), some (.int (nI ((rkS n p k).2))), some (.int (nI k)), some (.int (nI (onN (((rkS n p k).1) &&& ((1 * 2 ^ (p k)) - 1)))))]) (st' := [.int (nI (onN (((rkS n p k).1) &&& ((1 * 2 ^ (p k)) - 1)))), .int (nI ((rkS n p k).2))]) d_257_39 (fun _ => rfl) ?_
      refine rr_nx (pc' := 42) (al' := [some (.ref 146), some (.ref (147 + 13)), some (.int (nI ((rkS n p k).1))), some (.int (nI ((rkS n p k).2))), some (.int (nI k)), some (.int (nI (onN (((rkS n p k).1) &&& ((1 * 2 ^ (p k)) - 1)))))]) (st' := [.ref 146, .int (nI (onN (((rkS n p k).1) &&& ((1 * 2 ^ (p k)) - 1)))), .int (nI ((rkS n p k).2))]) d_257_41 (fun _ => rfl) ?_
      refine rr_gn d_257_42 mo_257 fl_127 rfl hg ?_
      refine rn_ic (v := 1) d_257_45 (by decide) ?_
      refine rn_sub d_257_46 (by first | omega | assumption | exact cu_36 (by omega) (cu_lt (by omega) (by omega))) ?_
      refine rr_nx (pc' := 49) (al' := [some (.ref 146), some (.ref (147 + 13)), some (.int (nI ((rkS n p k).1))), some (.int (nI ((rkS n p k).2))), some (.int (nI k)), some (.int (nI (onN (((rkS n p k).1) &&& ((1 * 2 ^ (p k)) - 1)))))]) (st' := [.int (nI k), .int (nI (n - 1)), .int (nI (onN (((rkS n p k).1) &&& ((1 * 2 ^ (p k)) - 1)))), .int (nI ((rkS n p k).2))]) d_257_47 (fun _ => rfl) ?_
      refine rn_sub d_257_49 (by first | omega | assumption | exact cu_36 (by omega) (cu_lt (by omega) (by omega))) ?_
      refine rr_ps (as := [.int (nI ((n - 1) - k))]) (al0 := [some (.int (nI ((n - 1) - k))), none, none]) (r := [.int (nI (onN (((rkS n p k).1) &&& ((1 * 2 ^ (p k)) - 1)))), .int (nI ((rkS n p k).2))]) d_257_50 mo_257 ml_270 mz_233 rfl rfl rfl (Nat.le_of_ble_eq_true rfl) (s_factorial (by omega)) ?_
      show RR _ _ 53 [some (.ref 146), some (.ref (147 + 13)), some (.int (nI ((rkS n p k).1))), some (.int (nI ((rkS n p k).2))), some (.int (nI k)), some (.int (nI (onN (((rkS n p k).1) &&& ((1 * 2 ^ (p k)) - 1)))))] [.int (nI (FA ((n - 1) - k))), .int (nI (onN (((rkS n p k).1) &&& ((1 * 2 ^ (p k)) - 1)))), .int (nI ((rkS n p k).2))] g A _
      refine rn_mul d_257_53  ?_
      refine rn_add d_257_54  ?_
      refine rr_nx (pc' := 56) (al' := [some (.ref 146), some (.ref (147 + 13)), some (.int (nI ((rkS n p k).1))), some (.int (nI (((rkS n p k).2) + ((onN (((rkS n p k).1) &&& ((1 * 2 ^ (p k)) - 1))) * (FA ((n - 1) - k)))))), some (.int (nI k)), some (.int (nI (onN (((rkS n p k).1) &&& ((1 * 2 ^ (p k)) - 1)))))]) (st' := []) d_257_55 (fun _ => rfl) ?_
      refine rr_nx (pc' := 57) (al' := [some (.ref 146), some (.ref (147 + 13)), some (.int (nI ((rkS n p k).1))), some (.int (nI (((rkS n p k).2) + ((onN (((rkS n p k).1) &&& ((1 * 2 ^ (p k)) - 1))) * (FA ((n - 1) - k)))))), some (.int (nI k)), some (.int (nI (onN (((rkS n p k).1) &&& ((1 * 2 ^ (p k)) - 1)))))]) (st' := [.int (nI ((rkS n p k).1))]) d_257_56 (fun _ => rfl) ?_
      refine rn_ic (v := 1) d_257_57 (by decide) ?_
      refine rr_nx (pc' := 59) (al' := [some (.ref 146), some (.ref (147 + 13)), some (.int (nI ((rkS n p k).1))), some (.int (nI (((rkS n p k).2) + ((onN (((rkS n p k).1) &&& ((1 * 2 ^ (p k)) - 1))) * (FA ((n - 1) - k)))))), some (.int (nI k)), some (.int (nI (onN (((rkS n p k).1) &&& ((1 * 2 ^ (p k)) - 1)))))]) (st' := [.ref (147 + 13), .int (nI 1), .int (nI ((rkS n p k).1))]) d_257_58 (fun _ => rfl) ?_
      refine rr_nx (pc' := 61) (al' := [some (.ref 146), some (.ref (147 + 13)), some (.int (nI ((rkS n p k).1))), some (.int (nI (((rkS n p k).2) + ((onN (((rkS n p k).1) &&& ((1 * 2 ^ (p k)) - 1))) * (FA ((n - 1) - k)))))), some (.int (nI k)), some (.int (nI (onN (((rkS n p k).1) &&& ((1 * 2 ^ (p k)) - 1)))))]) (st' := [.int (nI k), .ref (147 + 13), .int (nI 1), .int (nI ((rkS n p k).1))]) d_257_59 (fun _ => rfl) ?_
      refine rr_ia (j := 13) (v := (nI (p k))) d_257_61 (by decide) rfl (by decide) (show k < 6 by first | omega | assumption | exact cu_36 (by omega) (cu_lt (by omega) (by omega))) (hp k hk) ?_
      refine rn_shl d_257_62 (by first | omega | assumption | exact cu_36 (by omega) (cu_lt (by omega) (by omega))) ?_
      refine rr_nx (pc' := 64) (al' := [some (.ref 146), some (.ref (147 + 13)), some (.int (nI ((rkS n p k).1))), some (.int (nI (((rkS n p k).2) + ((onN (((rkS n p k).1) &&& ((1 * 2 ^ (p k)) - 1))) * (FA ((n - 1) - k)))))), some (.int (nI k)), some (.int (nI (onN (((rkS n p k).1) &&& ((1 * 2 ^ (p k)) - 1)))))]) (st' := [.int (-1), .int (nI (1 * 2 ^ (p k))), .int (nI ((rkS n p k).1))]) d_257_63 (fun _ => rfl) ?_
      refine rn_not d_257_64 ?_
      refine rn_and d_257_65 ?_
      refine rr_nx (pc' := 67) (al' := [some (.ref 146), some (.ref (147 + 13)), some (.int (nI (((rkS n p k).1) &&& ((1 * 2 ^ (p k)) ^^^ 4294967295)))), some (.int (nI (((rkS n p k).2) + ((onN (((rkS n p k).1) &&& ((1 * 2 ^ (p k)) - 1))) * (FA ((n - 1) - k)))))), some (.int (nI k)), some (.int (nI (onN (((rkS n p k).1) &&& ((1 * 2 ^ (p k)) - 1)))))]) (st' := []) d_257_66 (fun _ => rfl) ?_
      refine rn_inc d_257_67 rfl rfl ?_
      show RR _ _ 70 [some (.ref 146), some (.ref (147 + 13)), some (.int (nI (((rkS n p k).1) &&& ((1 * 2 ^ (p k)) ^^^ 4294967295)))), some (.int (nI (((rkS n p k).2) + ((onN (((rkS n p k).1) &&& ((1 * 2 ^ (p k)) - 1))) * (FA ((n - 1) - k)))))), some (.int (nI (k + 1))), some (.int (nI (onN (((rkS n p k).1) &&& ((1 * 2 ^ (p k)) - 1)))))] [] g A _
      refine rr_nx (pc' := 14) (al' := [some (.ref 146), some (.ref (147 + 13)), some (.int (nI (((rkS n p k).1) &&& ((1 * 2 ^ (p k)) ^^^ 4294967295)))), some (.int (nI (((rkS n p k).2) + ((onN (((rkS n p k).1) &&& ((1 * 2 ^ (p k)) - 1))) * (FA ((n - 1) - k)))))), some (.int (nI (k + 1))), some (.int (nI (onN (((rkS n p k).1) &&& ((1 * 2 ^ (p k)) - 1)))))]) (st' := []) d_257_70 (fun _ => rfl) ?_
      refine rr_al (congrArg (fun z__ : Nat => ([some (.ref 146), some (.ref (147 + 13)), some (.int (nI z__)), some (.int (nI (((rkS n p k).2) + ((onN (((rkS n p k).1) &&& ((1 * 2 ^ (p k)) - 1))) * (FA ((n - 1) - k)))))), some (.int (nI (k + 1))), some (.int (nI (onN (((rkS n p k).1) &&& ((1 * 2 ^ (p k)) - 1)))))] : AL)) (show ((rkS n p k).1) &&& ((1 * 2 ^ (p k)) ^^^ 4294967295) = (rkS n p (k + 1)).1 by rfl)) ?_
      refine rr_al (congrArg (fun z__ : Nat => ([some (.ref 146), some (.ref (147 + 13)), some (.int (nI ((rkS n p (k + 1)).1))), some (.int (nI z__)), some (.int (nI (k + 1))), some (.int (nI (onN (((rkS n p k).1) &&& ((1 * 2 ^ (p k)) - 1)))))] : AL)) (show ((rkS n p k).2) + ((onN (((rkS n p k).1) &&& ((1 * 2 ^ (p k)) - 1))) * (FA ((n - 1) - k))) = (rkS n p (k + 1)).2 by rfl)) ?_
      refine rr_dr (al1 := [some (.ref 146), some (.ref (147 + 13)), some (.int (nI ((rkS n p (k + 1)).1))), some (.int (nI ((rkS n p (k + 1)).2))), some (.int (nI (k + 1))), none]) (le_s (le_s (le_s (le_s (le_s (le_d rfl (le_n))))))) ?_
      exact ihk  (trivial)
  · show RR _ _ 14 [some (.ref 146), some (.ref (147 + 13)), some (.int (nI ((rkS n p n).1))), some (.int (nI ((rkS n p n).2))), some (.int (nI n)), none] [] g A _
    refine rr_nx (pc' := 16) (al' := [some (.ref 146), some (.ref (147 + 13)), some (.int (nI ((rkS n p n).1))), some (.int (nI ((rkS n p n).2))), some (.int (nI n)), none]) (st' := [.int (nI n)]) d_257_14 (fun _ => rfl) ?_
    refine rr_nx (pc' := 17) (al' := [some (.ref 146), some (.ref (147 + 13)), some (.int (nI ((rkS n p n).1))), some (.int (nI ((rkS n p n).2))), some (.int (nI n)), none]) (st' := [.ref 146, .int (nI n)]) d_257_16 (fun _ => rfl) ?_
    refine rr_gn d_257_17 mo_257 fl_127 rfl hg ?_
    refine rn_cge (t := 73) d_257_20 (by decide) (by first | omega | assumption | exact cu_36 (by omega) (cu_lt (by omega) (by omega))) (by first | omega | assumption | exact cu_36 (by omega) (cu_lt (by omega) (by omega))) (fun c20 => ?_) (fun c20 => ?_)
    · refine rr_nx (pc' := 74) (al' := [some (.ref 146), some (.ref (147 + 13)), some (.int (nI ((rkS n p n).1))), some (.int (nI ((rkS n p n).2))), some (.int (nI n)), none]) (st' := [.int (nI ((rkS n p n).2))]) d_257_73 (fun _ => rfl) ?_
      exact rr_ri d_257_74 mr_257 rfl ⟨by rw [ho.2.1], rfl, rfl⟩
    · omega
theorem k_exchange {S : CS} {G : Nat → Nat → Value} {B : Nat → Nat → Int32} {J : Nat → Nat → Int64} {R : Nat → Nat → Option Nat} {a m : Nat} (hA : cs_in S.1 a) (hs : S.2 a = (0, m)) (hm : m ≤ 100000) {i k : Nat} (hi : i < m) (hk : k < m) : CR 0 131 0 [some (.ref a), some (.int (nI i)), some (.int (nI k)), none] [] S G B J R (cP none S G (upr B a (upd (upd (B a) i (B a k)) k (B a i))) J R) := by
  refine cr_nx (pc' := 1) (al' := [some (.ref a), some (.int (nI i)), some (.int (nI k)), none]) (st' := [.ref a]) d_131_0 (fun _ => rfl) ?_
  refine cr_nx (pc' := 2) (al' := [some (.ref a), some (.int (nI i)), some (.int (nI k)), none]) (st' := [.int (nI i), .ref a]) d_131_1 (fun _ => rfl) ?_
  refine cr_ia (a := a) (v := (B a i)) d_131_2 hA hs (by first | decide | omega) (show i < m by first | omega | assumption | exact cu_36 (by omega) (cu_lt (by omega) (by omega))) rfl ?_
  refine cr_nx (pc' := 4) (al' := [some (.ref a), some (.int (nI i)), some (.int (nI k)), some (.int (B a i))]) (st' := []) d_131_3 (fun _ => rfl) ?_
  refine cr_nx (pc' := 5) (al' := [some (.ref a), some (.int (nI i)), some (.int (nI k)), some (.int (B a i))]) (st' := [.ref a]) d_131_4 (fun _ => rfl) ?_
  refine cr_nx (pc' := 6) (al' := [some (.ref a), some (.int (nI i)), some (.int (nI k)), some (.int (B a i))]) (st' := [.int (nI i), .ref a]) d_131_5 (fun _ => rfl) ?_
  refine cr_nx (pc' := 7) (al' := [some (.ref a), some (.int (nI i)), some (.int (nI k)), some (.int (B a i))]) (st' := [.ref a, .int (nI i), .ref a]) d_131_6 (fun _ => rfl) ?_
  refine cr_nx (pc' := 8) (al' := [some (.ref a), some (.int (nI i)), some (.int (nI k)), some (.int (B a i))]) (st' := [.int (nI k), .ref a, .int (nI i), .ref a]) d_131_7 (fun _ => rfl) ?_
  refine cr_ia (a := a) (v := (B a k)) d_131_8 hA hs (by first | decide | omega) (show k < m by first | omega | assumption | exact cu_36 (by omega) (cu_lt (by omega) (by omega))) rfl ?_
  refine cr_iS (a := a) (B1 := (upr B a (upd (B a) i (B a k)))) d_131_9 hA hs (by first | decide | omega) (show i < m by first | omega | assumption | exact cu_36 (by omega) (cu_lt (by omega) (by omega))) rfl ?_
  refine cr_nx (pc' := 11) (al' := [some (.ref a), some (.int (nI i)), some (.int (nI k)), some (.int (B a i))]) (st' := [.ref a]) d_131_10 (fun _ => rfl) ?_
  refine cr_nx (pc' := 12) (al' := [some (.ref a), some (.int (nI i)), some (.int (nI k)), some (.int (B a i))]) (st' := [.int (nI k), .ref a]) d_131_11 (fun _ => rfl) ?_
  refine cr_nx (pc' := 13) (al' := [some (.ref a), some (.int (nI i)), some (.int (nI k)), some (.int (B a i))]) (st' := [.int (B a i), .int (nI k), .ref a]) d_131_12 (fun _ => rfl) ?_
  refine cr_iS (a := a) (B1 := (upr B a (upd (upd (B a) i (B a k)) k (B a i)))) d_131_13 hA hs (by first | decide | omega) (show k < m by first | omega | assumption | exact cu_36 (by omega) (cu_lt (by omega) (by omega))) (by rw [upr_s, upr_u]) ?_
  exact cr_rv d_131_14 cx_131 ⟨rfl, rfl, rfl, rfl, rfl, rfl⟩
theorem k_startPermutation {S : CS} {G : Nat → Nat → Value} {B : Nat → Nat → Int32} {J : Nat → Nat → Int64} {R : Nat → Nat → Option Nat} {a m : Nat} (hA : cs_in S.1 a) (hs : S.2 a = (0, m)) (hm : m ≤ 100000) : CR 0 154 0 [some (.ref a), none] [] S G B J R (rwC a S G B J R m nI) := by
  refine cn_ic (v := 0) d_154_0 (by decide) ?_
  refine cr_nx (pc' := 2) (al' := [some (.ref a), some (.int (nI 0))]) (st' := []) d_154_1 (fun _ => rfl) ?_
  refine cr_B (show B = (upr B a (B a)) by rw [upr_id]) ?_
  refine cr_upw (al := fun i w_ => [some (.ref a), some (.int (nI i))]) (S := fun i w_ => S) (G := fun i w_ => G) (B := fun i w_ => (upr B a w_)) (J := fun i w_ => J) (R := fun i w_ => R) (P := fun i w_ => ∀ q, q < i → w_ q = nI q) (n := m) (fun i w_ hi pi ihi => ?_) (fun w_ pi => ?_) 0 (B a) (by omega) (all_0)
  · show CR _ _ 2 [some (.ref a), some (.int (nI i))] [] S G (upr B a w_) J R _
    refine cr_nx (pc' := 3) (al' := [some (.ref a), some (.int (nI i))]) (st' := [.int (nI i)]) d_154_2 (fun _ => rfl) ?_
    refine cr_nx (pc' := 4) (al' := [some (.ref a), some (.int (nI i))]) (st' := [.ref a, .int (nI i)]) d_154_3 (fun _ => rfl) ?_
    refine cr_le d_154_4 hA (by decide) (by decide) hs ?_
    refine cn_cge (t := 18) d_154_5 (by decide) (by first | omega | assumption | exact cu_36 (by omega) (cu_lt (by omega) (by omega))) (by first | omega | assumption | exact cu_36 (by omega) (cu_lt (by omega) (by omega))) (fun c5 => ?_) (fun c5 => ?_)
    · omega
    · refine cr_nx (pc' := 9) (al' := [some (.ref a), some (.int (nI i))]) (st' := [.ref a]) d_154_8 (fun _ => rfl) ?_
      refine cr_nx (pc' := 10) (al' := [some (.ref a), some (.int (nI i))]) (st' := [.int (nI i), .ref a]) d_154_9 (fun _ => rfl) ?_
      refine cr_nx (pc' := 11) (al' := [some (.ref a), some (.int (nI i))]) (st' := [.int (nI i), .int (nI i), .ref a]) d_154_10 (fun _ => rfl) ?_
      refine cr_iS (a := a) (B1 := (upr B a (upd w_ i (nI i)))) d_154_11 hA hs (by first | decide | omega) (show i < m by first | omega | assumption | exact cu_36 (by omega) (cu_lt (by omega) (by omega))) (by rw [upr_s, upr_u]) ?_
      refine cn_inc d_154_12 rfl rfl ?_
      show CR _ _ 15 [some (.ref a), some (.int (nI (i + 1)))] [] S G (upr B a (upd w_ i (nI i))) J R _
      refine cr_nx (pc' := 2) (al' := [some (.ref a), some (.int (nI (i + 1)))]) (st' := []) d_154_15 (fun _ => rfl) ?_
      exact ihi (upd w_ i (nI i)) (up_all (f := nI) pi rfl)
  · show CR _ _ 2 [some (.ref a), some (.int (nI m))] [] S G (upr B a w_) J R _
    refine cr_nx (pc' := 3) (al' := [some (.ref a), some (.int (nI m))]) (st' := [.int (nI m)]) d_154_2 (fun _ => rfl) ?_
    refine cr_nx (pc' := 4) (al' := [some (.ref a), some (.int (nI m))]) (st' := [.ref a, .int (nI m)]) d_154_3 (fun _ => rfl) ?_
    refine cr_le d_154_4 hA (by decide) (by decide) hs ?_
    refine cn_cge (t := 18) d_154_5 (by decide) (by first | omega | assumption | exact cu_36 (by omega) (cu_lt (by omega) (by omega))) (by first | omega | assumption | exact cu_36 (by omega) (cu_lt (by omega) (by omega))) (fun c5 => ?_) (fun c5 => ?_)
    · exact cr_rv d_154_18 cx_154 ⟨rfl, rfl, rfl, rfl, rfl, w_, rfl, pi⟩
    · omega
theorem flD_f {fi : Nat} {a : Nat → Nat} : ∀ {m F : Nat}, F = flD fi a m → F ≤ m ∧ (∀ v, F < v → v ≤ m → fi < v ∧ a v < a (v - 1)) ∧ (F = 0 ∨ ¬ (fi < F ∧ a F < a (F - 1)))
  | 0, F, h => by
    have h0 : F = 0 := h
    subst h0
    exact ⟨Nat.le_refl _, fun v h1 h2 => by omega, Or.inl rfl⟩
  | m + 1, F, h => by
    unfold flD at h
    by_cases hq : fi < m + 1 ∧ a (m + 1) < a m
    · rw [if_pos hq] at h
      obtain ⟨h1, h2, h3⟩ := flD_f h
      refine ⟨by omega, fun v hv hm => ?_, h3⟩
      by_cases e : v = m + 1
      · subst e
        exact hq
      · exact h2 v hv (by omega)
    · rw [if_neg hq] at h
      subst h
      exact ⟨Nat.le_refl _, fun v h1 h2 => by omega, Or.inr hq⟩
theorem grD_f {b : Nat → Nat} {v n : Nat} : ∀ {t g E : Nat}, g ≤ n - 1 → n ≤ g + t → E = grD b v n t g → g ≤ E ∧ E ≤ n - 1 ∧ (∀ q, g ≤ q → q < E → q < n - 1 ∧ b q < v) ∧ ¬ (E < n - 1 ∧ b E < v)
  | 0, g, E, h1, h2, h => by
    have : E = g := h
    subst this
    exact ⟨Nat.le_refl _, h1, fun q h3 h4 => by omega, fun h5 => by omega⟩
  | t + 1, g, E, h1, h2, h => by
    unfold grD at h
    by_cases hq : g < n - 1 ∧ b g < v
    · rw [if_pos hq] at h
      obtain ⟨a1, a2, a3, a4⟩ := grD_f (by omega) (by omega) h
      refine ⟨by omega, a2, fun q h3 h4 => ?_, a4⟩
      by_cases e : q = g
      · subst e
        exact hq
      · exact a3 q (by omega) h4
    · rw [if_neg hq] at h
      subst h
      exact ⟨Nat.le_refl _, h1, fun q h3 h4 => by omega, hq⟩
theorem k_pmo58 {S : CS} {G : Nat → Nat → Value} {B : Nat → Nat → Int32} {J : Nat → Nat → Int64} {R : Nat → Nat → Option Nat} {a m : Nat} (hA : cs_in S.1 a) (hs : S.2 a = (0, m)) (hm : m ≤ 100000) {fi n F : Nat} {f : Nat → Nat} (hn1 : 1 ≤ n) (hnm : n ≤ m) (hfi : fi < 2 ^ 31) (hF : F ≤ n - 1) (hf : ∀ q, q < n → f q < 2 ^ 31) (hB : ∀ q, q < n → B a q = nI (f q)) : CR 1 157 58 [some (.ref a), some (.int (nI fi)), some (.int (nI n)), some (.int (nI F)), none, none] [] S G B J R (rwC a S G B J R n (fun q => nI (if F ≤ fi then f q else swD f (F - 1) (grD f (f (F - 1)) n n F) q))) := by
  obtain ⟨E, hE⟩ : ∃ E, E = grD f (f (F - 1)) n n F := ⟨_, rfl⟩
  obtain ⟨g1, g2, g3, g4⟩ := grD_f hF (by omega) hE
  have hf1 := hf (F - 1) (by omega)
  refine cr_nx (pc' := 59) (al' := [some (.ref a), some (.int (nI fi)), some (.int (nI n)), some (.int (nI F)), none, none]) (st' := [.int (nI F)]) d_157_58 (fun _ => rfl) ?_
  refine cr_nx (pc' := 60) (al' := [some (.ref a), some (.int (nI fi)), some (.int (nI n)), some (.int (nI F)), none, none]) (st' := [.int (nI fi), .int (nI F)]) d_157_59 (fun _ => rfl) ?_
  refine cn_cgt (t := 64) d_157_60 (by decide) (by first | omega | assumption | exact cu_36 (by omega) (cu_lt (by omega) (by omega))) (by first | omega | assumption | exact cu_36 (by omega) (cu_lt (by omega) (by omega))) (fun c60 => ?_) (fun c60 => ?_)
  · refine cr_nx (pc' := 65) (al' := [some (.ref a), some (.int (nI fi)), some (.int (nI n)), some (.int (nI F)), none, none]) (st' := [.int (nI F)]) d_157_64 (fun _ => rfl) ?_
    refine cr_nx (pc' := 67) (al' := [some (.ref a), some (.int (nI fi)), some (.int (nI n)), some (.int (nI F)), some (.int (nI F)), none]) (st' := []) d_157_65 (fun _ => rfl) ?_
    refine cr_up (al := fun g => [some (.ref a), some (.int (nI fi)), some (.int (nI n)), some (.int (nI F)), some (.int (nI g)), none]) (S := fun g => S) (G := fun g => G) (B := fun g => B) (J := fun g => J) (R := fun g => R) (P := fun g => F ≤ g) (n := E) (fun g hg pg ihg => ?_) (fun pg => ?_) F  (by omega) (Nat.le_refl F)
    · show CR _ _ 67 [some (.ref a), some (.int (nI fi)), some (.int (nI n)), some (.int (nI F)), some (.int (nI g)), none] [] S G B J R _
      have hfg := hf g (by omega)
      have hgg := g3 g pg hg
      refine cr_nx (pc' := 69) (al' := [some (.ref a), some (.int (nI fi)), some (.int (nI n)), some (.int (nI F)), some (.int (nI g)), none]) (st' := [.int (nI g)]) d_157_67 (fun _ => rfl) ?_
      refine cr_nx (pc' := 70) (al' := [some (.ref a), some (.int (nI fi)), some (.int (nI n)), some (.int (nI F)), some (.int (nI g)), none]) (st' := [.int (nI n), .int (nI g)]) d_157_69 (fun _ => rfl) ?_
      refine cn_ic (v := 1) d_157_70 (by decide) ?_
      refine cn_sub d_157_71 (by first | omega | assumption | exact cu_36 (by omega) (cu_lt (by omega) (by omega))) ?_
      refine cn_cge (t := 93) d_157_72 (by decide) (by first | omega | assumption | exact cu_36 (by omega) (cu_lt (by omega) (by omega))) (by first | omega | assumption | exact cu_36 (by omega) (cu_lt (by omega) (by omega))) (fun c72 => ?_) (fun c72 => ?_)
      · omega
      · refine cr_nx (pc' := 76) (al' := [some (.ref a), some (.int (nI fi)), some (.int (nI n)), some (.int (nI F)), some (.int (nI g)), none]) (st' := [.ref a]) d_157_75 (fun _ => rfl) ?_
        refine cr_nx (pc' := 78) (al' := [some (.ref a), some (.int (nI fi)), some (.int (nI n)), some (.int (nI F)), some (.int (nI g)), none]) (st' := [.int (nI g), .ref a]) d_157_76 (fun _ => rfl) ?_
        refine cr_ia (a := a) (v := (nI (f g))) d_157_78 hA hs (by first | decide | omega) (show g < m by first | omega | assumption | exact cu_36 (by omega) (cu_lt (by omega) (by omega))) (hB g (by omega)) ?_
        refine cr_nx (pc' := 80) (al' := [some (.ref a), some (.int (nI fi)), some (.int (nI n)), some (.int (nI F)), some (.int (nI g)), none]) (st' := [.ref a, .int (nI (f g))]) d_157_79 (fun _ => rfl) ?_
        refine cr_nx (pc' := 81) (al' := [some (.ref a), some (.int (nI fi)), some (.int (nI n)), some (.int (nI F)), some (.int (nI g)), none]) (st' := [.int (nI F), .ref a, .int (nI (f g))]) d_157_80 (fun _ => rfl) ?_
        refine cn_ic (v := 1) d_157_81 (by decide) ?_
        refine cn_sub d_157_82 (by first | omega | assumption | exact cu_36 (by omega) (cu_lt (by omega) (by omega))) ?_
        refine cr_ia (a := a) (v := (nI (f (F - 1)))) d_157_83 hA hs (by first | decide | omega) (show F - 1 < m by first | omega | assumption | exact cu_36 (by omega) (cu_lt (by omega) (by omega))) (hB (F - 1) (by omega)) ?_
        refine cn_cge (t := 93) d_157_84 (by decide) (by first | omega | assumption | exact cu_36 (by omega) (cu_lt (by omega) (by omega))) (by first | omega | assumption | exact cu_36 (by omega) (cu_lt (by omega) (by omega))) (fun c84 => ?_) (fun c84 => ?_)
        · omega
        · refine cn_inc d_157_87 rfl rfl ?_
          show CR _ _ 90 [some (.ref a), some (.int (nI fi)), some (.int (nI n)), some (.int (nI F)), some (.int (nI (g + 1))), none] [] S G B J R _
          refine cr_nx (pc' := 67) (al' := [some (.ref a), some (.int (nI fi)), some (.int (nI n)), some (.int (nI F)), some (.int (nI (g + 1))), none]) (st' := []) d_157_90 (fun _ => rfl) ?_
          exact ihg  (by omega)
    · show CR _ _ 67 [some (.ref a), some (.int (nI fi)), some (.int (nI n)), some (.int (nI F)), some (.int (nI E)), none] [] S G B J R _
      have hfg := hf E (by omega)
      refine cr_nx (pc' := 69) (al' := [some (.ref a), some (.int (nI fi)), some (.int (nI n)), some (.int (nI F)), some (.int (nI E)), none]) (st' := [.int (nI E)]) d_157_67 (fun _ => rfl) ?_
      refine cr_nx (pc' := 70) (al' := [some (.ref a), some (.int (nI fi)), some (.int (nI n)), some (.int (nI F)), some (.int (nI E)), none]) (st' := [.int (nI n), .int (nI E)]) d_157_69 (fun _ => rfl) ?_
      refine cn_ic (v := 1) d_157_70 (by decide) ?_
      refine cn_sub d_157_71 (by first | omega | assumption | exact cu_36 (by omega) (cu_lt (by omega) (by omega))) ?_
      refine cn_cge (t := 93) d_157_72 (by decide) (by first | omega | assumption | exact cu_36 (by omega) (cu_lt (by omega) (by omega))) (by first | omega | assumption | exact cu_36 (by omega) (cu_lt (by omega) (by omega))) (fun c72 => ?_) (fun c72 => ?_)
      · refine cr_nx (pc' := 94) (al' := [some (.ref a), some (.int (nI fi)), some (.int (nI n)), some (.int (nI F)), some (.int (nI E)), none]) (st' := [.ref a]) d_157_93 (fun _ => rfl) ?_
        refine cr_nx (pc' := 95) (al' := [some (.ref a), some (.int (nI fi)), some (.int (nI n)), some (.int (nI F)), some (.int (nI E)), none]) (st' := [.int (nI F), .ref a]) d_157_94 (fun _ => rfl) ?_
        refine cn_ic (v := 1) d_157_95 (by decide) ?_
        refine cn_sub d_157_96 (by first | omega | assumption | exact cu_36 (by omega) (cu_lt (by omega) (by omega))) ?_
        refine cr_nx (pc' := 99) (al' := [some (.ref a), some (.int (nI fi)), some (.int (nI n)), some (.int (nI F)), some (.int (nI E)), none]) (st' := [.int (nI E), .int (nI (F - 1)), .ref a]) d_157_97 (fun _ => rfl) ?_
        refine cr_ps (as := [.ref a, .int (nI (F - 1)), .int (nI E)]) (al0 := [some (.ref a), some (.int (nI (F - 1))), some (.int (nI E)), none]) (r := []) d_157_99 cw_157 cm_11_386 (by decide) cz_131 rfl rfl rfl (Nat.le_of_ble_eq_true rfl) (k_exchange hA hs (by omega) (by omega) (by omega)) ?_
        show CR _ _ 102 [some (.ref a), some (.int (nI fi)), some (.int (nI n)), some (.int (nI F)), some (.int (nI E)), none] [] S G (upr B a (upd (upd (B a) (F - 1) (B a E)) E (B a (F - 1)))) J R _
        exact cr_rv d_157_102 cx_157 ⟨rfl, rfl, rfl, rfl, rfl, _, rfl, fun q hq => by
            dsimp only
            rw [if_neg (by omega), ← hE]
            unfold swD upd
            by_cases h1 : q = E
            · rw [if_pos h1, if_pos h1]
              exact hB _ (by omega)
            · rw [if_neg h1, if_neg h1]
              by_cases h2 : q = F - 1
              · rw [if_pos h2, if_pos h2]
                exact hB _ (by omega)
              · rw [if_neg h2, if_neg h2]
                exact hB q hq⟩
      · refine cr_nx (pc' := 76) (al' := [some (.ref a), some (.int (nI fi)), some (.int (nI n)), some (.int (nI F)), some (.int (nI E)), none]) (st' := [.ref a]) d_157_75 (fun _ => rfl) ?_
        refine cr_nx (pc' := 78) (al' := [some (.ref a), some (.int (nI fi)), some (.int (nI n)), some (.int (nI F)), some (.int (nI E)), none]) (st' := [.int (nI E), .ref a]) d_157_76 (fun _ => rfl) ?_
        refine cr_ia (a := a) (v := (nI (f E))) d_157_78 hA hs (by first | decide | omega) (show E < m by first | omega | assumption | exact cu_36 (by omega) (cu_lt (by omega) (by omega))) (hB E (by omega)) ?_
        refine cr_nx (pc' := 80) (al' := [some (.ref a), some (.int (nI fi)), some (.int (nI n)), some (.int (nI F)), some (.int (nI E)), none]) (st' := [.ref a, .int (nI (f E))]) d_157_79 (fun _ => rfl) ?_
        refine cr_nx (pc' := 81) (al' := [some (.ref a), some (.int (nI fi)), some (.int (nI n)), some (.int (nI F)), some (.int (nI E)), none]) (st' := [.int (nI F), .ref a, .int (nI (f E))]) d_157_80 (fun _ => rfl) ?_
        refine cn_ic (v := 1) d_157_81 (by decide) ?_
        refine cn_sub d_157_82 (by first | omega | assumption | exact cu_36 (by omega) (cu_lt (by omega) (by omega))) ?_
        refine cr_ia (a := a) (v := (nI (f (F - 1)))) d_157_83 hA hs (by first | decide | omega) (show F - 1 < m by first | omega | assumption | exact cu_36 (by omega) (cu_lt (by omega) (by omega))) (hB (F - 1) (by omega)) ?_
        refine cn_cge (t := 93) d_157_84 (by decide) (by first | omega | assumption | exact cu_36 (by omega) (cu_lt (by omega) (by omega))) (by first | omega | assumption | exact cu_36 (by omega) (cu_lt (by omega) (by omega))) (fun c84 => ?_) (fun c84 => ?_)
        · refine cr_nx (pc' := 94) (al' := [some (.ref a), some (.int (nI fi)), some (.int (nI n)), some (.int (nI F)), some (.int (nI E)), none]) (st' := [.ref a]) d_157_93 (fun _ => rfl) ?_
          refine cr_nx (pc' := 95) (al' := [some (.ref a), some (.int (nI fi)), some (.int (nI n)), some (.int (nI F)), some (.int (nI E)), none]) (st' := [.int (nI F), .ref a]) d_157_94 (fun _ => rfl) ?_
          refine cn_ic (v := 1) d_157_95 (by decide) ?_
          refine cn_sub d_157_96 (by first | omega | assumption | exact cu_36 (by omega) (cu_lt (by omega) (by omega))) ?_
          refine cr_nx (pc' := 99) (al' := [some (.ref a), some (.int (nI fi)), some (.int (nI n)), some (.int (nI F)), some (.int (nI E)), none]) (st' := [.int (nI E), .int (nI (F - 1)), .ref a]) d_157_97 (fun _ => rfl) ?_
          refine cr_ps (as := [.ref a, .int (nI (F - 1)), .int (nI E)]) (al0 := [some (.ref a), some (.int (nI (F - 1))), some (.int (nI E)), none]) (r := []) d_157_99 cw_157 cm_11_386 (by decide) cz_131 rfl rfl rfl (Nat.le_of_ble_eq_true rfl) (k_exchange hA hs (by omega) (by omega) (by omega)) ?_
          show CR _ _ 102 [some (.ref a), some (.int (nI fi)), some (.int (nI n)), some (.int (nI F)), some (.int (nI E)), none] [] S G (upr B a (upd (upd (B a) (F - 1) (B a E)) E (B a (F - 1)))) J R _
          exact cr_rv d_157_102 cx_157 ⟨rfl, rfl, rfl, rfl, rfl, _, rfl, fun q hq => by
              dsimp only
              rw [if_neg (by omega), ← hE]
              unfold swD upd
              by_cases h1 : q = E
              · rw [if_pos h1, if_pos h1]
                exact hB _ (by omega)
              · rw [if_neg h1, if_neg h1]
                by_cases h2 : q = F - 1
                · rw [if_pos h2, if_pos h2]
                  exact hB _ (by omega)
                · rw [if_neg h2, if_neg h2]
                  exact hB q hq⟩
        · exact absurd ⟨c72, c84⟩ g4
  · exact cr_rv d_157_63 cx_157 ⟨rfl, rfl, rfl, rfl, rfl, B a, upr_id.symm, fun q hq => by dsimp only; rw [if_pos c60]; exact hB q hq⟩
theorem k_pmo26 {S : CS} {G : Nat → Nat → Value} {B : Nat → Nat → Int32} {J : Nat → Nat → Int64} {R : Nat → Nat → Option Nat} {a m : Nat} (hA : cs_in S.1 a) (hs : S.2 a = (0, m)) (hm : m ≤ 100000) {fi n F : Nat} {f : Nat → Nat} (hn1 : 1 ≤ n) (hnm : n ≤ m) (hfi : fi < 2 ^ 31) (hF : F ≤ n - 1) (hf : ∀ q, q < n → f q < 2 ^ 31) (hB : ∀ q, q < n → B a q = nI (f q)) : CR 1 157 26 [some (.ref a), some (.int (nI fi)), some (.int (nI n)), some (.int (nI F)), none, none] [] S G B J R (rwC a S G B J R n (fun q => nI (nxG fi n f F q))) := by
  have hfr : ∀ q, q < n → rvD F n f q < 2 ^ 31 := fun q hq => by
    unfold rvD
    split
    · exact hf _ (by omega)
    · exact hf q hq
  refine cr_nx (pc' := 27) (al' := [some (.ref a), some (.int (nI fi)), some (.int (nI n)), some (.int (nI F)), none, none]) (st' := [.int (nI F)]) d_157_26 (fun _ => rfl) ?_
  refine cr_nx (pc' := 29) (al' := [some (.ref a), some (.int (nI fi)), some (.int (nI n)), some (.int (nI F)), some (.int (nI F)), none]) (st' := []) d_157_27 (fun _ => rfl) ?_
  refine cr_nx (pc' := 30) (al' := [some (.ref a), some (.int (nI fi)), some (.int (nI n)), some (.int (nI F)), some (.int (nI F)), none]) (st' := [.int (nI n)]) d_157_29 (fun _ => rfl) ?_
  refine cn_ic (v := 1) d_157_30 (by decide) ?_
  refine cn_sub d_157_31 (by first | omega | assumption | exact cu_36 (by omega) (cu_lt (by omega) (by omega))) ?_
  refine cr_nx (pc' := 34) (al' := [some (.ref a), some (.int (nI fi)), some (.int (nI n)), some (.int (nI F)), some (.int (nI F)), some (.int (nI (n - 1)))]) (st' := []) d_157_32 (fun _ => rfl) ?_
  refine cr_al (congrArg (fun z__ : Nat => ([some (.ref a), some (.int (nI fi)), some (.int (nI n)), some (.int (nI F)), some (.int (nI z__)), some (.int (nI (n - 1)))] : AL)) (show F = F + 0 by rfl)) ?_
  refine cr_al (congrArg (fun z__ : Nat => ([some (.ref a), some (.int (nI fi)), some (.int (nI n)), some (.int (nI F)), some (.int (nI (F + 0))), some (.int (nI z__))] : AL)) (show n - 1 = n - 1 - 0 by rfl)) ?_
  refine cr_B (show B = (upr B a (B a)) by rw [upr_id]) ?_
  refine cr_upw (al := fun t w_ => [some (.ref a), some (.int (nI fi)), some (.int (nI n)), some (.int (nI F)), some (.int (nI (F + t))), some (.int (nI (n - 1 - t)))]) (S := fun t w_ => S) (G := fun t w_ => G) (B := fun t w_ => (upr B a w_)) (J := fun t w_ => J) (R := fun t w_ => R) (P := fun t w_ => ∀ q, q < n → w_ q = nI (if (F ≤ q ∧ q < F + t) ∨ (n - t ≤ q ∧ q < n) then f (F + (n - 1) - q) else f q)) (n := (n - F) / 2) (fun t w_ ht pt iht => ?_) (fun w_ pt => ?_) 0 (B a) (by omega) (fun q hq => by rw [if_neg (by omega)]; exact hB q hq)
  · show CR _ _ 34 [some (.ref a), some (.int (nI fi)), some (.int (nI n)), some (.int (nI F)), some (.int (nI (F + t))), some (.int (nI (n - 1 - t)))] [] S G (upr B a w_) J R _
    refine cr_nx (pc' := 36) (al' := [some (.ref a), some (.int (nI fi)), some (.int (nI n)), some (.int (nI F)), some (.int (nI (F + t))), some (.int (nI (n - 1 - t)))]) (st' := [.int (nI (F + t))]) d_157_34 (fun _ => rfl) ?_
    refine cr_nx (pc' := 38) (al' := [some (.ref a), some (.int (nI fi)), some (.int (nI n)), some (.int (nI F)), some (.int (nI (F + t))), some (.int (nI (n - 1 - t)))]) (st' := [.int (nI (n - 1 - t)), .int (nI (F + t))]) d_157_36 (fun _ => rfl) ?_
    refine cn_cge (t := 58) d_157_38 (by decide) (by first | omega | assumption | exact cu_36 (by omega) (cu_lt (by omega) (by omega))) (by first | omega | assumption | exact cu_36 (by omega) (cu_lt (by omega) (by omega))) (fun c38 => ?_) (fun c38 => ?_)
    · omega
    · refine cr_nx (pc' := 42) (al' := [some (.ref a), some (.int (nI fi)), some (.int (nI n)), some (.int (nI F)), some (.int (nI (F + t))), some (.int (nI (n - 1 - t)))]) (st' := [.ref a]) d_157_41 (fun _ => rfl) ?_
      refine cr_nx (pc' := 44) (al' := [some (.ref a), some (.int (nI fi)), some (.int (nI n)), some (.int (nI F)), some (.int (nI (F + t))), some (.int (nI (n - 1 - t)))]) (st' := [.int (nI (F + t)), .ref a]) d_157_42 (fun _ => rfl) ?_
      refine cr_nx (pc' := 46) (al' := [some (.ref a), some (.int (nI fi)), some (.int (nI n)), some (.int (nI F)), some (.int (nI (F + t))), some (.int (nI (n - 1 - t)))]) (st' := [.int (nI (n - 1 - t)), .int (nI (F + t)), .ref a]) d_157_44 (fun _ => rfl) ?_
      refine cr_ps (as := [.ref a, .int (nI (F + t)), .int (nI (n - 1 - t))]) (al0 := [some (.ref a), some (.int (nI (F + t))), some (.int (nI (n - 1 - t))), none]) (r := []) d_157_46 cw_157 cm_11_386 (by decide) cz_131 rfl rfl rfl (Nat.le_of_ble_eq_true rfl) (k_exchange hA hs (by omega) (by omega) (by omega)) ?_
      rw [upr_s, upr_u]
      show CR _ _ 49 [some (.ref a), some (.int (nI fi)), some (.int (nI n)), some (.int (nI F)), some (.int (nI (F + t))), some (.int (nI (n - 1 - t)))] [] S G (upr B a (upd (upd w_ (F + t) (w_ (n - 1 - t))) (n - 1 - t) (w_ (F + t)))) J R _
      refine cn_inc d_157_49 rfl rfl ?_
      show CR _ _ 52 [some (.ref a), some (.int (nI fi)), some (.int (nI n)), some (.int (nI F)), some (.int (nI ((F + t) + 1))), some (.int (nI (n - 1 - t)))] [] S G (upr B a (upd (upd w_ (F + t) (w_ (n - 1 - t))) (n - 1 - t) (w_ (F + t)))) J R _
      refine cr_nx (pc' := 55) (al' := [some (.ref a), some (.int (nI fi)), some (.int (nI n)), some (.int (nI F)), some (.int (nI ((F + t) + 1))), some (.int (nI ((n - 1 - t) - 1)))]) (st' := []) d_157_52 (fun _ => by rw [show nI ((n - 1 - t) - 1) = nI (n - 1 - t) + (-1) from nI_pr (by first | omega | assumption | exact cu_36 (by omega) (cu_lt (by omega) (by omega)))]; rfl) ?_
      refine cr_nx (pc' := 34) (al' := [some (.ref a), some (.int (nI fi)), some (.int (nI n)), some (.int (nI F)), some (.int (nI ((F + t) + 1))), some (.int (nI ((n - 1 - t) - 1)))]) (st' := []) d_157_55 (fun _ => rfl) ?_
      refine cr_al (congrArg (fun z__ : Nat => ([some (.ref a), some (.int (nI fi)), some (.int (nI n)), some (.int (nI F)), some (.int (nI z__)), some (.int (nI ((n - 1 - t) - 1)))] : AL)) (show (F + t) + 1 = F + (t + 1) by omega)) ?_
      refine cr_al (congrArg (fun z__ : Nat => ([some (.ref a), some (.int (nI fi)), some (.int (nI n)), some (.int (nI F)), some (.int (nI (F + (t + 1)))), some (.int (nI z__))] : AL)) (show (n - 1 - t) - 1 = n - 1 - (t + 1) by omega)) ?_
      exact iht (upd (upd w_ (F + t) (w_ (n - 1 - t))) (n - 1 - t) (w_ (F + t))) (fun q hq => by
          have ea := pt (F + t) (by omega)
          have eb := pt (n - 1 - t) (by omega)
          rw [if_neg (by omega)] at ea eb
          unfold upd
          by_cases h1 : q = n - 1 - t
          · rw [if_pos h1, if_pos (by omega), ea]
            congr 2
            omega
          · rw [if_neg h1]
            by_cases h2 : q = F + t
            · rw [if_pos h2, if_pos (by omega), eb]
              congr 2
              omega
            · rw [if_neg h2, pt q hq]
              by_cases h3 : (F ≤ q ∧ q < F + t) ∨ (n - t ≤ q ∧ q < n)
              · rw [if_pos h3, if_pos (by omega)]
              · rw [if_neg h3, if_neg (by omega)])
  · show CR _ _ 34 [some (.ref a), some (.int (nI fi)), some (.int (nI n)), some (.int (nI F)), some (.int (nI (F + ((n - F) / 2)))), some (.int (nI (n - 1 - ((n - F) / 2))))] [] S G (upr B a w_) J R _
    refine cr_nx (pc' := 36) (al' := [some (.ref a), some (.int (nI fi)), some (.int (nI n)), some (.int (nI F)), some (.int (nI (F + ((n - F) / 2)))), some (.int (nI (n - 1 - ((n - F) / 2))))]) (st' := [.int (nI (F + ((n - F) / 2)))]) d_157_34 (fun _ => rfl) ?_
    refine cr_nx (pc' := 38) (al' := [some (.ref a), some (.int (nI fi)), some (.int (nI n)), some (.int (nI F)), some (.int (nI (F + ((n - F) / 2)))), some (.int (nI (n - 1 - ((n - F) / 2))))]) (st' := [.int (nI (n - 1 - ((n - F) / 2))), .int (nI (F + ((n - F) / 2)))]) d_157_36 (fun _ => rfl) ?_
    refine cn_cge (t := 58) d_157_38 (by decide) (by first | omega | assumption | exact cu_36 (by omega) (cu_lt (by omega) (by omega))) (by first | omega | assumption | exact cu_36 (by omega) (cu_lt (by omega) (by omega))) (fun c38 => ?_) (fun c38 => ?_)
    · refine cr_dr (al1 := [some (.ref a), some (.int (nI fi)), some (.int (nI n)), some (.int (nI F)), none, none]) (le_s (le_s (le_s (le_s (le_d rfl (le_d rfl (le_n))))))) ?_
      refine cr_cq (k_pmo58 hA hs hm hn1 hnm hfi hF hfr (fun q hq => ?_)) (fun r S' G' B' J' R' h => rwC_u (w := w_) ?_)
      · rw [upr_s, pt q hq]
        unfold rvD
        by_cases h1 : F ≤ q ∧ q < n
        · rw [if_pos h1]
          by_cases h2 : (F ≤ q ∧ q < F + (n - F) / 2) ∨ (n - (n - F) / 2 ≤ q ∧ q < n)
          · rw [if_pos h2]
          · rw [if_neg h2]
            congr 2
            omega
        · rw [if_neg h1, if_neg (by omega)]
      · unfold nxG
        obtain ⟨z1, z2, z3, z4, z5, w, z6, z7⟩ := h
        refine ⟨z1, z2, z3, z4, z5, w, z6, fun q hq => ?_⟩
        rw [z7 q hq]
        by_cases h1 : F ≤ fi
        · dsimp only
          rw [if_pos h1, if_pos h1]
        · dsimp only
          rw [if_neg h1, if_neg h1]
    · omega
theorem k_permuteOn {S : CS} {G : Nat → Nat → Value} {B : Nat → Nat → Int32} {J : Nat → Nat → Int64} {R : Nat → Nat → Option Nat} {a m : Nat} (hA : cs_in S.1 a) (hs : S.2 a = (0, m)) (hm : m ≤ 100000) {fi n : Nat} {f : Nat → Nat} (hn1 : 1 ≤ n) (hnm : n ≤ m) (hfi : fi < 2 ^ 31) (hf : ∀ q, q < n → f q < 2 ^ 31) (hB : ∀ q, q < n → B a q = nI (f q)) : CR 1 157 0 [some (.ref a), some (.int (nI fi)), some (.int (nI n)), none, none, none] [] S G B J R (rwC a S G B J R n (fun q => nI (nxP fi n f q))) := by
  obtain ⟨F, hF⟩ : ∃ F, F = flD fi f (n - 1) := ⟨_, rfl⟩
  obtain ⟨f1, f2, f3⟩ := flD_f hF
  refine cr_nx (pc' := 1) (al' := [some (.ref a), some (.int (nI fi)), some (.int (nI n)), none, none, none]) (st' := [.int (nI n)]) d_157_0 (fun _ => rfl) ?_
  refine cn_ic (v := 1) d_157_1 (by decide) ?_
  refine cn_sub d_157_2 (by first | omega | assumption | exact cu_36 (by omega) (cu_lt (by omega) (by omega))) ?_
  refine cr_nx (pc' := 4) (al' := [some (.ref a), some (.int (nI fi)), some (.int (nI n)), some (.int (nI (n - 1))), none, none]) (st' := []) d_157_3 (fun _ => rfl) ?_
  refine cr_al (congrArg (fun z__ : Nat => ([some (.ref a), some (.int (nI fi)), some (.int (nI n)), some (.int (nI z__)), none, none] : AL)) (show n - 1 = n - 1 - 0 by rfl)) ?_
  refine cr_up (al := fun t => [some (.ref a), some (.int (nI fi)), some (.int (nI n)), some (.int (nI (n - 1 - t))), none, none]) (S := fun t => S) (G := fun t => G) (B := fun t => B) (J := fun t => J) (R := fun t => R) (P := fun t => True) (n := n - 1 - F) (fun t ht pt iht => ?_) (fun pt => ?_) 0  (by omega) (trivial)
  · show CR _ _ 4 [some (.ref a), some (.int (nI fi)), some (.int (nI n)), some (.int (nI (n - 1 - t))), none, none] [] S G B J R _
    obtain ⟨u1, u2⟩ := f2 (n - 1 - t) (by omega) (by omega)
    have v1 := hf (n - 1 - t) (by omega)
    have v2 := hf (n - 1 - t - 1) (by omega)
    refine cr_nx (pc' := 5) (al' := [some (.ref a), some (.int (nI fi)), some (.int (nI n)), some (.int (nI (n - 1 - t))), none, none]) (st' := [.int (nI (n - 1 - t))]) d_157_4 (fun _ => rfl) ?_
    refine cr_nx (pc' := 6) (al' := [some (.ref a), some (.int (nI fi)), some (.int (nI n)), some (.int (nI (n - 1 - t))), none, none]) (st' := [.int (nI fi), .int (nI (n - 1 - t))]) d_157_5 (fun _ => rfl) ?_
    refine cn_cle (t := 26) d_157_6 (by decide) (by first | omega | assumption | exact cu_36 (by omega) (cu_lt (by omega) (by omega))) (by first | omega | assumption | exact cu_36 (by omega) (cu_lt (by omega) (by omega))) (fun c6 => ?_) (fun c6 => ?_)
    · omega
    · refine cr_nx (pc' := 10) (al' := [some (.ref a), some (.int (nI fi)), some (.int (nI n)), some (.int (nI (n - 1 - t))), none, none]) (st' := [.ref a]) d_157_9 (fun _ => rfl) ?_
      refine cr_nx (pc' := 11) (al' := [some (.ref a), some (.int (nI fi)), some (.int (nI n)), some (.int (nI (n - 1 - t))), none, none]) (st' := [.int (nI (n - 1 - t)), .ref a]) d_157_10 (fun _ => rfl) ?_
      refine cn_ic (v := 1) d_157_11 (by decide) ?_
      refine cn_sub d_157_12 (by first | omega | assumption | exact cu_36 (by omega) (cu_lt (by omega) (by omega))) ?_
      refine cr_ia (a := a) (v := (nI (f (n - 1 - t - 1)))) d_157_13 hA hs (by first | decide | omega) (show (n - 1 - t) - 1 < m by first | omega | assumption | exact cu_36 (by omega) (cu_lt (by omega) (by omega))) (hB _ (by omega)) ?_
      refine cr_nx (pc' := 15) (al' := [some (.ref a), some (.int (nI fi)), some (.int (nI n)), some (.int (nI (n - 1 - t))), none, none]) (st' := [.ref a, .int (nI (f (n - 1 - t - 1)))]) d_157_14 (fun _ => rfl) ?_
      refine cr_nx (pc' := 16) (al' := [some (.ref a), some (.int (nI fi)), some (.int (nI n)), some (.int (nI (n - 1 - t))), none, none]) (st' := [.int (nI (n - 1 - t)), .ref a, .int (nI (f (n - 1 - t - 1)))]) d_157_15 (fun _ => rfl) ?_
      refine cr_ia (a := a) (v := (nI (f (n - 1 - t)))) d_157_16 hA hs (by first | decide | omega) (show n - 1 - t < m by first | omega | assumption | exact cu_36 (by omega) (cu_lt (by omega) (by omega))) (hB _ (by omega)) ?_
      refine cn_cle (t := 26) d_157_17 (by decide) (by first | omega | assumption | exact cu_36 (by omega) (cu_lt (by omega) (by omega))) (by first | omega | assumption | exact cu_36 (by omega) (cu_lt (by omega) (by omega))) (fun c17 => ?_) (fun c17 => ?_)
      · omega
      · refine cr_nx (pc' := 23) (al' := [some (.ref a), some (.int (nI fi)), some (.int (nI n)), some (.int (nI ((n - 1 - t) - 1))), none, none]) (st' := []) d_157_20 (fun _ => by rw [show nI ((n - 1 - t) - 1) = nI (n - 1 - t) + (-1) from nI_pr (by first | omega | assumption | exact cu_36 (by omega) (cu_lt (by omega) (by omega)))]; rfl) ?_
        refine cr_nx (pc' := 4) (al' := [some (.ref a), some (.int (nI fi)), some (.int (nI n)), some (.int (nI ((n - 1 - t) - 1))), none, none]) (st' := []) d_157_23 (fun _ => rfl) ?_
        refine cr_al (congrArg (fun z__ : Nat => ([some (.ref a), some (.int (nI fi)), some (.int (nI n)), some (.int (nI z__)), none, none] : AL)) (show (n - 1 - t) - 1 = n - 1 - (t + 1) by omega)) ?_
        exact iht  (trivial)
  · show CR _ _ 4 [some (.ref a), some (.int (nI fi)), some (.int (nI n)), some (.int (nI (n - 1 - (n - 1 - F)))), none, none] [] S G B J R _
    rw [show n - 1 - (n - 1 - F) = F by omega]
    have v1 := hf F (by omega)
    have v2 := hf (F - 1) (by omega)
    refine cr_nx (pc' := 5) (al' := [some (.ref a), some (.int (nI fi)), some (.int (nI n)), some (.int (nI F)), none, none]) (st' := [.int (nI F)]) d_157_4 (fun _ => rfl) ?_
    refine cr_nx (pc' := 6) (al' := [some (.ref a), some (.int (nI fi)), some (.int (nI n)), some (.int (nI F)), none, none]) (st' := [.int (nI fi), .int (nI F)]) d_157_5 (fun _ => rfl) ?_
    refine cn_cle (t := 26) d_157_6 (by decide) (by first | omega | assumption | exact cu_36 (by omega) (cu_lt (by omega) (by omega))) (by first | omega | assumption | exact cu_36 (by omega) (cu_lt (by omega) (by omega))) (fun c6 => ?_) (fun c6 => ?_)
    · rw [show nxP fi n f = nxG fi n f F by rw [hF]; rfl]
      exact k_pmo26 hA hs hm hn1 hnm hfi f1 hf hB
    · refine cr_nx (pc' := 10) (al' := [some (.ref a), some (.int (nI fi)), some (.int (nI n)), some (.int (nI F)), none, none]) (st' := [.ref a]) d_157_9 (fun _ => rfl) ?_
      refine cr_nx (pc' := 11) (al' := [some (.ref a), some (.int (nI fi)), some (.int (nI n)), some (.int (nI F)), none, none]) (st' := [.int (nI F), .ref a]) d_157_10 (fun _ => rfl) ?_
      refine cn_ic (v := 1) d_157_11 (by decide) ?_
      refine cn_sub d_157_12 (by first | omega | assumption | exact cu_36 (by omega) (cu_lt (by omega) (by omega))) ?_
      refine cr_ia (a := a) (v := (nI (f (F - 1)))) d_157_13 hA hs (by first | decide | omega) (show F - 1 < m by first | omega | assumption | exact cu_36 (by omega) (cu_lt (by omega) (by omega))) (hB _ (by omega)) ?_
      refine cr_nx (pc' := 15) (al' := [some (.ref a), some (.int (nI fi)), some (.int (nI n)), some (.int (nI F)), none, none]) (st' := [.ref a, .int (nI (f (F - 1)))]) d_157_14 (fun _ => rfl) ?_
      refine cr_nx (pc' := 16) (al' := [some (.ref a), some (.int (nI fi)), some (.int (nI n)), some (.int (nI F)), none, none]) (st' := [.int (nI F), .ref a, .int (nI (f (F - 1)))]) d_157_15 (fun _ => rfl) ?_
      refine cr_ia (a := a) (v := (nI (f F))) d_157_16 hA hs (by first | decide | omega) (show F < m by first | omega | assumption | exact cu_36 (by omega) (cu_lt (by omega) (by omega))) (hB _ (by omega)) ?_
      refine cn_cle (t := 26) d_157_17 (by decide) (by first | omega | assumption | exact cu_36 (by omega) (cu_lt (by omega) (by omega))) (by first | omega | assumption | exact cu_36 (by omega) (cu_lt (by omega) (by omega))) (fun c17 => ?_) (fun c17 => ?_)
      · rw [show nxP fi n f = nxG fi n f F by rw [hF]; rfl]
        exact k_pmo26 hA hs hm hn1 hnm hfi f1 hf hB
      · exact False.elim (f3.elim (fun h => by omega) (fun h => h ⟨c6, c17⟩))
