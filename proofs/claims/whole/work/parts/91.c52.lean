/-! The law: each of the 47 calls, and the loop; printed by wip/whole/gen_c52.py. -/
theorem ow_294 : am_o 294 = 13 := by decide +kernel
/-- between two calls -/
def LwI (n L : Nat) (xs : Nat → Int32) (h : AH) : Prop := ∃ (S : CS) (G : Nat → Nat → Value) (B : Nat → Nat → Int32) (J : Nat → Nat → Int64) (R : Nat → Nat → Option Nat) (g : Nat → Int32) (A : Nat → Nat → Int32) (W : WS), ClsAt h S G B J R ∧ RefAt h g A ∧ h[1]? = some (.inl (0, L, .inl xs)) ∧ WC n S G B R W ∧ WR n g A W
section LW
variable {k pc n L i : Nat} {xs : Nat → Int32} {al : AL} {r st : List Value} {h : AH} {Q P : Option Value → AH → Prop}
theorem rn_iv {x z np b : Nat} {as fs : List Value} {al0 : AL} (hd : decode (am_b 294) pc = .ok (.invokevirtual x, 3)) (hl : am_ml 13 x = some (0, z)) (hz : am_np z = np ∧ am_L z = al0.length) (hn : as.length = np) (hen : am_en (.ref b :: as) al0.length = al0) (hb : 2 ≤ b) (hh : h[b]? = some (.inr (am_o z, fs))) (h13 : am_o z < 13 ∧ am_o z ≠ 7) (h8 : am_ok8 r = true) (hc : RN k z 0 al0 [] h P) (kk : ∀ v h', P v h' → RN (k + 1) 294 (pc + 3) al (v.toList ++ r) h' Q) : RN (k + 1) 294 pc al (as.reverse ++ .ref b :: r) h Q := by
  obtain ⟨z2, z3⟩ := hz
  subst hn
  refine rn_ca (z := z) (as := .ref b :: as) (st' := r) (P := P) hd ?_ (by rw [z3, hen]) (by rw [z3, hen]; exact hc) kk
  show (if 3 = 3 then am_iv (am_o 294) x (as.reverse ++ .ref b :: r) h else none) = _
  rw [if_pos rfl, ow_294]
  simp only [am_iv, hl, Option.bind_some, if_true, z2]
  rw [List.drop_append_of_le_length (by simp), List.take_append_of_le_length (by simp)]
  simp only [List.drop_eq_nil_of_le (show as.reverse.length ≤ as.length by simp), List.nil_append, hh]
  rw [if_pos ⟨hb, trivial, h13, h8⟩, List.take_of_length_le (by simp), List.reverse_reverse]
theorem rn_sc {j : Nat} (hd : decode (am_b 294) pc = .ok (.iaload, 1)) (h1 : h[1]? = some (.inl (0, L, .inl xs))) (hj : j < L) (hL : L ≤ 3072) (kk : RN k 294 (pc + 1) al (.int (xs j) :: r) h Q) : RN k 294 pc al (.int (nI j) :: .ref 1 :: r) h Q := by
  refine rn_nx hd ?_ kk
  show (if 1 = 1 then am_ia pc al (.int (nI j) :: .ref 1 :: r) h else none) = _
  rw [if_pos rfl]
  simp only [am_ia, h1]
  rw [if_pos (am_in_n hj (by omega)), nI_clamp (by omega)]
  rfl
theorem rn_eq {v : Int32} {off : Int} {t : Nat} (hd : decode (am_b 294) pc = .ok (.if_icmp .eq off, 3)) (ht : am_tg pc off = some t) (kk : RN k 294 t al r h Q) : RN k 294 pc al (.int v :: .int v :: r) h Q := by
  refine rn_nx hd ?_ kk
  show (if 3 = 3 then am_ii .eq off pc al (.int v :: .int v :: r) h else none) = _
  rw [if_pos rfl]
  simp only [am_ii, ht, Option.bind_some]
  rw [if_pos (show am_cp .eq v v = true from decide_eq_true rfl)]
  rfl
theorem lw_tie {S : CS} {G : Nat → Nat → Value} {B : Nat → Nat → Int32} {J : Nat → Nat → Int64} {R : Nat → Nat → Option Nat} {g : Nat → Int32} {A : Nat → Nat → Int32} {W : WS} {yc yr : Nat} {alc alr : AL} (hC : ClsAt h S G B J R) (hR : RefAt h g A) (h1 : h[1]? = some (.inl (0, L, .inl xs))) (h174 : 174 ≤ S.1) (T : Tie n yc yr alc alr S G B J R g A W) : ∃ v, RN 80 yc 0 alc [] h (fun r h2 => r = some (.int v) ∧ h2[1]? = some (.inl (0, L, .inl xs)) ∧ (∃ fs, h2[146]? = some (.inr (12, fs))) ∧ RN 80 yr 0 alr [] h2 (fun r2 h3 => r2 = some (.int v) ∧ LwI (n + 1) L xs h3)) := by
  obtain ⟨v, W', t1, t2⟩ := T
  have hlen := hC.1
  refine ⟨v, rn_cq (t1 h hC) (fun r h2 hx => ?_)⟩
  obtain ⟨S2, G2, B2, J2, R2, c2, f2, e2, w2⟩ := hx
  have g1 : h2[1]? = some (.inl (0, L, .inl xs)) := by rw [f2.2 1 (Or.inl (by decide)) (by omega)]; exact h1
  have hR2 : RefAt h2 g A := ⟨by rw [f2.2 146 (Or.inr ⟨by decide, by decide⟩) (by omega)]; exact hR.1, fun j hj => by rw [f2.2 (147 + j) (Or.inr ⟨by omega, by omega⟩) (by omega)]; exact hR.2 j hj⟩
  refine ⟨e2, g1, ⟨_, hR2.1⟩, rn_cq (t2 h2 hR2) (fun r3 h3 hx3 => ?_)⟩
  obtain ⟨g3, A3, c3, f3, e3, w3⟩ := hx3
  refine ⟨e3, S2, G2, B2, J2, R2, g3, A3, W', ⟨f3.1.trans c2.1, ?_, fun a ha => ?_⟩, c3, ?_, w2, w3⟩
  · rw [f3.2 0 (Or.inl (by decide))]
    exact c2.2.1
  · rw [f3.2 a (by have := ha.2.1; omega)]
    exact c2.2.2 a ha
  · rw [f3.2 1 (Or.inl (by decide))]
    exact g1
theorem lw_2 {S : CS} {G : Nat → Nat → Value} {B : Nat → Nat → Int32} {J : Nat → Nat → Int64} {R : Nat → Nat → Option Nat} (hC : ClsAt h S G B J R) (hS : ShOk S) : ∃ fs, h[2]? = some (.inr (11, fs)) := by
  have := hC.2.2 2 ⟨by decide, Or.inl (by decide), by have := hS.1; omega⟩
  rw [hS.2 2 (by decide) (by decide)] at this
  exact ⟨_, this⟩
end LW
theorem rn_a1 {k pc L i : Nat} {xs : Nat → Int32} {r : List Value} {h : AH} {Q : Option Value → AH → Prop} (d0 : decode (am_b 294) pc = .ok (.aload_n 0, 1)) (d1 : decode (am_b 294) (pc + 1) = .ok (.iload_n 3, 1)) (d2 : decode (am_b 294) (pc + 2) = .ok (.iconst 1, 1)) (d3 : decode (am_b 294) (pc + 3) = .ok (.iadd, 1)) (d4 : decode (am_b 294) (pc + 4) = .ok (.iaload, 1)) (h1 : h[1]? = some (.inl (0, L, .inl xs))) (hj : i + 1 < L) (hL : L ≤ 3072) (kk : RN k 294 (pc + 5) [some (.ref 1), some (.ref 2), some (.ref 146), some (.int (nI i))] (.int (xs (i + 1)) :: r) h Q) : RN k 294 pc [some (.ref 1), some (.ref 2), some (.ref 146), some (.int (nI i))] r h Q := by
  refine rn_nx (pc' := pc + 1) (al' := [some (.ref 1), some (.ref 2), some (.ref 146), some (.int (nI i))]) (st' := .ref 1 :: r) (h' := h) d0 rfl ?_
  refine rn_nx (pc' := pc + 2) (al' := [some (.ref 1), some (.ref 2), some (.ref 146), some (.int (nI i))]) (st' := .int (nI i) :: .ref 1 :: r) (h' := h) d1 rfl ?_
  refine rn_nx (pc' := pc + 3) (al' := [some (.ref 1), some (.ref 2), some (.ref 146), some (.int (nI i))]) (st' := .int 1 :: .int (nI i) :: .ref 1 :: r) (h' := h) d2 rfl ?_
  refine rn_nx (pc' := pc + 4) (al' := [some (.ref 1), some (.ref 2), some (.ref 146), some (.int (nI i))]) (st' := .int (nI i + nI 1) :: .ref 1 :: r) (h' := h) d3 rfl ?_
  rw [nI_add]
  exact rn_sc d4 h1 hj hL kk
theorem rn_a2 {k pc L i : Nat} {xs : Nat → Int32} {r : List Value} {h : AH} {Q : Option Value → AH → Prop} (d0 : decode (am_b 294) pc = .ok (.aload_n 0, 1)) (d1 : decode (am_b 294) (pc + 1) = .ok (.iload_n 3, 1)) (d2 : decode (am_b 294) (pc + 2) = .ok (.iconst 2, 1)) (d3 : decode (am_b 294) (pc + 3) = .ok (.iadd, 1)) (d4 : decode (am_b 294) (pc + 4) = .ok (.iaload, 1)) (h1 : h[1]? = some (.inl (0, L, .inl xs))) (hj : i + 2 < L) (hL : L ≤ 3072) (kk : RN k 294 (pc + 5) [some (.ref 1), some (.ref 2), some (.ref 146), some (.int (nI i))] (.int (xs (i + 2)) :: r) h Q) : RN k 294 pc [some (.ref 1), some (.ref 2), some (.ref 146), some (.int (nI i))] r h Q := by
  refine rn_nx (pc' := pc + 1) (al' := [some (.ref 1), some (.ref 2), some (.ref 146), some (.int (nI i))]) (st' := .ref 1 :: r) (h' := h) d0 rfl ?_
  refine rn_nx (pc' := pc + 2) (al' := [some (.ref 1), some (.ref 2), some (.ref 146), some (.int (nI i))]) (st' := .int (nI i) :: .ref 1 :: r) (h' := h) d1 rfl ?_
  refine rn_nx (pc' := pc + 3) (al' := [some (.ref 1), some (.ref 2), some (.ref 146), some (.int (nI i))]) (st' := .int 2 :: .int (nI i) :: .ref 1 :: r) (h' := h) d2 rfl ?_
  refine rn_nx (pc' := pc + 4) (al' := [some (.ref 1), some (.ref 2), some (.ref 146), some (.int (nI i))]) (st' := .int (nI i + nI 2) :: .ref 1 :: r) (h' := h) d3 rfl ?_
  rw [nI_add]
  exact rn_sc d4 h1 hj hL kk
theorem rn_a3 {k pc L i : Nat} {xs : Nat → Int32} {r : List Value} {h : AH} {Q : Option Value → AH → Prop} (d0 : decode (am_b 294) pc = .ok (.aload_n 0, 1)) (d1 : decode (am_b 294) (pc + 1) = .ok (.iload_n 3, 1)) (d2 : decode (am_b 294) (pc + 2) = .ok (.iconst 3, 1)) (d3 : decode (am_b 294) (pc + 3) = .ok (.iadd, 1)) (d4 : decode (am_b 294) (pc + 4) = .ok (.iaload, 1)) (h1 : h[1]? = some (.inl (0, L, .inl xs))) (hj : i + 3 < L) (hL : L ≤ 3072) (kk : RN k 294 (pc + 5) [some (.ref 1), some (.ref 2), some (.ref 146), some (.int (nI i))] (.int (xs (i + 3)) :: r) h Q) : RN k 294 pc [some (.ref 1), some (.ref 2), some (.ref 146), some (.int (nI i))] r h Q := by
  refine rn_nx (pc' := pc + 1) (al' := [some (.ref 1), some (.ref 2), some (.ref 146), some (.int (nI i))]) (st' := .ref 1 :: r) (h' := h) d0 rfl ?_
  refine rn_nx (pc' := pc + 2) (al' := [some (.ref 1), some (.ref 2), some (.ref 146), some (.int (nI i))]) (st' := .int (nI i) :: .ref 1 :: r) (h' := h) d1 rfl ?_
  refine rn_nx (pc' := pc + 3) (al' := [some (.ref 1), some (.ref 2), some (.ref 146), some (.int (nI i))]) (st' := .int 3 :: .int (nI i) :: .ref 1 :: r) (h' := h) d2 rfl ?_
  refine rn_nx (pc' := pc + 4) (al' := [some (.ref 1), some (.ref 2), some (.ref 146), some (.int (nI i))]) (st' := .int (nI i + nI 3) :: .ref 1 :: r) (h' := h) d3 rfl ?_
  rw [nI_add]
  exact rn_sc d4 h1 hj hL kk
theorem rn_a4 {k pc L i : Nat} {xs : Nat → Int32} {r : List Value} {h : AH} {Q : Option Value → AH → Prop} (d0 : decode (am_b 294) pc = .ok (.aload_n 0, 1)) (d1 : decode (am_b 294) (pc + 1) = .ok (.iload_n 3, 1)) (d2 : decode (am_b 294) (pc + 2) = .ok (.iconst 4, 1)) (d3 : decode (am_b 294) (pc + 3) = .ok (.iadd, 1)) (d4 : decode (am_b 294) (pc + 4) = .ok (.iaload, 1)) (h1 : h[1]? = some (.inl (0, L, .inl xs))) (hj : i + 4 < L) (hL : L ≤ 3072) (kk : RN k 294 (pc + 5) [some (.ref 1), some (.ref 2), some (.ref 146), some (.int (nI i))] (.int (xs (i + 4)) :: r) h Q) : RN k 294 pc [some (.ref 1), some (.ref 2), some (.ref 146), some (.int (nI i))] r h Q := by
  refine rn_nx (pc' := pc + 1) (al' := [some (.ref 1), some (.ref 2), some (.ref 146), some (.int (nI i))]) (st' := .ref 1 :: r) (h' := h) d0 rfl ?_
  refine rn_nx (pc' := pc + 2) (al' := [some (.ref 1), some (.ref 2), some (.ref 146), some (.int (nI i))]) (st' := .int (nI i) :: .ref 1 :: r) (h' := h) d1 rfl ?_
  refine rn_nx (pc' := pc + 3) (al' := [some (.ref 1), some (.ref 2), some (.ref 146), some (.int (nI i))]) (st' := .int 4 :: .int (nI i) :: .ref 1 :: r) (h' := h) d2 rfl ?_
  refine rn_nx (pc' := pc + 4) (al' := [some (.ref 1), some (.ref 2), some (.ref 146), some (.int (nI i))]) (st' := .int (nI i + nI 4) :: .ref 1 :: r) (h' := h) d3 rfl ?_
  rw [nI_add]
  exact rn_sc d4 h1 hj hL kk
theorem rn_a5 {k pc L i : Nat} {xs : Nat → Int32} {r : List Value} {h : AH} {Q : Option Value → AH → Prop} (d0 : decode (am_b 294) pc = .ok (.aload_n 0, 1)) (d1 : decode (am_b 294) (pc + 1) = .ok (.iload_n 3, 1)) (d2 : decode (am_b 294) (pc + 2) = .ok (.iconst 5, 1)) (d3 : decode (am_b 294) (pc + 3) = .ok (.iadd, 1)) (d4 : decode (am_b 294) (pc + 4) = .ok (.iaload, 1)) (h1 : h[1]? = some (.inl (0, L, .inl xs))) (hj : i + 5 < L) (hL : L ≤ 3072) (kk : RN k 294 (pc + 5) [some (.ref 1), some (.ref 2), some (.ref 146), some (.int (nI i))] (.int (xs (i + 5)) :: r) h Q) : RN k 294 pc [some (.ref 1), some (.ref 2), some (.ref 146), some (.int (nI i))] r h Q := by
  refine rn_nx (pc' := pc + 1) (al' := [some (.ref 1), some (.ref 2), some (.ref 146), some (.int (nI i))]) (st' := .ref 1 :: r) (h' := h) d0 rfl ?_
  refine rn_nx (pc' := pc + 2) (al' := [some (.ref 1), some (.ref 2), some (.ref 146), some (.int (nI i))]) (st' := .int (nI i) :: .ref 1 :: r) (h' := h) d1 rfl ?_
  refine rn_nx (pc' := pc + 3) (al' := [some (.ref 1), some (.ref 2), some (.ref 146), some (.int (nI i))]) (st' := .int 5 :: .int (nI i) :: .ref 1 :: r) (h' := h) d2 rfl ?_
  refine rn_nx (pc' := pc + 4) (al' := [some (.ref 1), some (.ref 2), some (.ref 146), some (.int (nI i))]) (st' := .int (nI i + nI 5) :: .ref 1 :: r) (h' := h) d3 rfl ?_
  rw [nI_add]
  exact rn_sc d4 h1 hj hL kk
theorem lm_13 : am_ml 13 13 = some (0, 114) := by decide +kernel
theorem lm_17 : am_ml 13 17 = some (0, 189) := by decide +kernel
theorem lm_18 : am_ml 13 18 = some (0, 116) := by decide +kernel
theorem lm_22 : am_ml 13 22 = some (0, 190) := by decide +kernel
theorem lm_23 : am_ml 13 23 = some (0, 117) := by decide +kernel
theorem lm_26 : am_ml 13 26 = some (0, 222) := by decide +kernel
theorem lm_27 : am_ml 13 27 = some (0, 124) := by decide +kernel
theorem lm_31 : am_ml 13 31 = some (0, 225) := by decide +kernel
theorem lm_32 : am_ml 13 32 = some (0, 125) := by decide +kernel
theorem lm_35 : am_ml 13 35 = some (0, 226) := by decide +kernel
theorem lm_36 : am_ml 13 36 = some (0, 127) := by decide +kernel
theorem lm_40 : am_ml 13 40 = some (0, 227) := by decide +kernel
theorem lm_41 : am_ml 13 41 = some (0, 128) := by decide +kernel
theorem lm_44 : am_ml 13 44 = some (0, 230) := by decide +kernel
theorem lm_45 : am_ml 13 45 = some (0, 129) := by decide +kernel
theorem lm_48 : am_ml 13 48 = some (0, 232) := by decide +kernel
theorem lm_49 : am_ml 13 49 = some (0, 130) := by decide +kernel
theorem lm_53 : am_ml 13 53 = some (0, 236) := by decide +kernel
theorem lm_54 : am_ml 13 54 = some (0, 132) := by decide +kernel
theorem lm_57 : am_ml 13 57 = some (0, 238) := by decide +kernel
theorem lm_58 : am_ml 13 58 = some (0, 133) := by decide +kernel
theorem lm_61 : am_ml 13 61 = some (0, 239) := by decide +kernel
theorem lm_62 : am_ml 13 62 = some (0, 134) := by decide +kernel
theorem lm_65 : am_ml 13 65 = some (0, 242) := by decide +kernel
theorem lm_66 : am_ml 13 66 = some (0, 135) := by decide +kernel
theorem lm_70 : am_ml 13 70 = some (0, 187) := by decide +kernel
theorem lm_71 : am_ml 13 71 = some (0, 136) := by decide +kernel
theorem lm_74 : am_ml 13 74 = some (0, 188) := by decide +kernel
theorem lm_75 : am_ml 13 75 = some (0, 137) := by decide +kernel
theorem lm_78 : am_ml 13 78 = some (0, 183) := by decide +kernel
theorem lm_79 : am_ml 13 79 = some (0, 138) := by decide +kernel
theorem lm_82 : am_ml 13 82 = some (0, 240) := by decide +kernel
theorem lm_83 : am_ml 13 83 = some (0, 139) := by decide +kernel
theorem lm_86 : am_ml 13 86 = some (0, 241) := by decide +kernel
theorem lm_87 : am_ml 13 87 = some (0, 140) := by decide +kernel
theorem lm_90 : am_ml 13 90 = some (0, 191) := by decide +kernel
theorem lm_91 : am_ml 13 91 = some (0, 141) := by decide +kernel
theorem lm_94 : am_ml 13 94 = some (0, 205) := by decide +kernel
theorem lm_95 : am_ml 13 95 = some (0, 142) := by decide +kernel
theorem lm_98 : am_ml 13 98 = some (0, 206) := by decide +kernel
theorem lm_99 : am_ml 13 99 = some (0, 144) := by decide +kernel
theorem lm_102 : am_ml 13 102 = some (0, 221) := by decide +kernel
theorem lm_103 : am_ml 13 103 = some (0, 145) := by decide +kernel
theorem lm_106 : am_ml 13 106 = some (0, 271) := by decide +kernel
theorem lm_107 : am_ml 13 107 = some (0, 147) := by decide +kernel
theorem lm_110 : am_ml 13 110 = some (0, 277) := by decide +kernel
theorem lm_111 : am_ml 13 111 = some (0, 148) := by decide +kernel
theorem lm_114 : am_ml 13 114 = some (0, 251) := by decide +kernel
theorem lm_115 : am_ml 13 115 = some (0, 149) := by decide +kernel
theorem lm_118 : am_ml 13 118 = some (0, 253) := by decide +kernel
theorem lm_119 : am_ml 13 119 = some (0, 150) := by decide +kernel
theorem lm_122 : am_ml 13 122 = some (0, 248) := by decide +kernel
theorem lm_123 : am_ml 13 123 = some (0, 151) := by decide +kernel
theorem lm_126 : am_ml 13 126 = some (0, 249) := by decide +kernel
theorem lm_127 : am_ml 13 127 = some (0, 152) := by decide +kernel
theorem lm_130 : am_ml 13 130 = some (0, 250) := by decide +kernel
theorem lm_131 : am_ml 13 131 = some (0, 153) := by decide +kernel
theorem lm_134 : am_ml 13 134 = some (0, 255) := by decide +kernel
theorem lm_135 : am_ml 13 135 = some (0, 155) := by decide +kernel
theorem lm_138 : am_ml 13 138 = some (0, 258) := by decide +kernel
theorem lm_139 : am_ml 13 139 = some (0, 158) := by decide +kernel
theorem lm_142 : am_ml 13 142 = some (0, 261) := by decide +kernel
theorem lm_143 : am_ml 13 143 = some (0, 159) := by decide +kernel
theorem lm_146 : am_ml 13 146 = some (0, 262) := by decide +kernel
theorem lm_147 : am_ml 13 147 = some (0, 160) := by decide +kernel
theorem lm_150 : am_ml 13 150 = some (0, 264) := by decide +kernel
theorem lm_151 : am_ml 13 151 = some (0, 161) := by decide +kernel
theorem lm_154 : am_ml 13 154 = some (0, 267) := by decide +kernel
theorem lm_155 : am_ml 13 155 = some (0, 162) := by decide +kernel
theorem lm_158 : am_ml 13 158 = some (0, 268) := by decide +kernel
theorem lm_159 : am_ml 13 159 = some (0, 163) := by decide +kernel
theorem lm_162 : am_ml 13 162 = some (0, 269) := by decide +kernel
theorem lm_163 : am_ml 13 163 = some (0, 164) := by decide +kernel
theorem lm_166 : am_ml 13 166 = some (0, 278) := by decide +kernel
theorem lm_167 : am_ml 13 167 = some (0, 165) := by decide +kernel
theorem lm_170 : am_ml 13 170 = some (0, 279) := by decide +kernel
theorem lm_171 : am_ml 13 171 = some (0, 167) := by decide +kernel
theorem lm_174 : am_ml 13 174 = some (0, 281) := by decide +kernel
theorem lm_175 : am_ml 13 175 = some (0, 168) := by decide +kernel
theorem lm_178 : am_ml 13 178 = some (0, 283) := by decide +kernel
theorem lm_179 : am_ml 13 179 = some (0, 169) := by decide +kernel
theorem lm_182 : am_ml 13 182 = some (0, 284) := by decide +kernel
theorem lm_183 : am_ml 13 183 = some (0, 170) := by decide +kernel
theorem lm_186 : am_ml 13 186 = some (0, 285) := by decide +kernel
theorem lm_187 : am_ml 13 187 = some (0, 172) := by decide +kernel
theorem lm_190 : am_ml 13 190 = some (0, 287) := by decide +kernel
theorem lm_191 : am_ml 13 191 = some (0, 173) := by decide +kernel
theorem lm_194 : am_ml 13 194 = some (0, 178) := by decide +kernel
theorem lm_195 : am_ml 13 195 = some (0, 174) := by decide +kernel
theorem lm_198 : am_ml 13 198 = some (0, 182) := by decide +kernel
theorem lm_199 : am_ml 13 199 = some (0, 175) := by decide +kernel
theorem lm_202 : am_ml 13 202 = some (0, 288) := by decide +kernel
theorem lm_203 : am_ml 13 203 = some (0, 176) := by decide +kernel
theorem lm_206 : am_ml 13 206 = some (0, 289) := by decide +kernel
theorem lz_114 : (am_np 114 = 5 ∧ am_L 114 = 6) ∧ am_o 114 = 11 := by decide +kernel
theorem lz_116 : (am_np 116 = 1 ∧ am_L 116 = 2) ∧ am_o 116 = 11 := by decide +kernel
theorem lz_117 : (am_np 117 = 1 ∧ am_L 117 = 3) ∧ am_o 117 = 11 := by decide +kernel
theorem lz_124 : (am_np 124 = 2 ∧ am_L 124 = 3) ∧ am_o 124 = 11 := by decide +kernel
theorem lz_125 : (am_np 125 = 2 ∧ am_L 125 = 3) ∧ am_o 125 = 11 := by decide +kernel
theorem lz_127 : (am_np 127 = 3 ∧ am_L 127 = 6) ∧ am_o 127 = 11 := by decide +kernel
theorem lz_128 : (am_np 128 = 2 ∧ am_L 128 = 3) ∧ am_o 128 = 11 := by decide +kernel
theorem lz_129 : (am_np 129 = 2 ∧ am_L 129 = 4) ∧ am_o 129 = 11 := by decide +kernel
theorem lz_130 : (am_np 130 = 4 ∧ am_L 130 = 7) ∧ am_o 130 = 11 := by decide +kernel
theorem lz_132 : (am_np 132 = 3 ∧ am_L 132 = 4) ∧ am_o 132 = 11 := by decide +kernel
theorem lz_133 : (am_np 133 = 3 ∧ am_L 133 = 4) ∧ am_o 133 = 11 := by decide +kernel
theorem lz_134 : (am_np 134 = 3 ∧ am_L 134 = 5) ∧ am_o 134 = 11 := by decide +kernel
theorem lz_135 : (am_np 135 = 0 ∧ am_L 135 = 1) ∧ am_o 135 = 11 := by decide +kernel
theorem lz_136 : (am_np 136 = 0 ∧ am_L 136 = 1) ∧ am_o 136 = 11 := by decide +kernel
theorem lz_137 : (am_np 137 = 1 ∧ am_L 137 = 2) ∧ am_o 137 = 11 := by decide +kernel
theorem lz_138 : (am_np 138 = 4 ∧ am_L 138 = 6) ∧ am_o 138 = 11 := by decide +kernel
theorem lz_139 : (am_np 139 = 2 ∧ am_L 139 = 3) ∧ am_o 139 = 11 := by decide +kernel
theorem lz_140 : (am_np 140 = 0 ∧ am_L 140 = 3) ∧ am_o 140 = 11 := by decide +kernel
theorem lz_141 : (am_np 141 = 0 ∧ am_L 141 = 1) ∧ am_o 141 = 11 := by decide +kernel
theorem lz_142 : (am_np 142 = 2 ∧ am_L 142 = 3) ∧ am_o 142 = 11 := by decide +kernel
theorem lz_144 : (am_np 144 = 3 ∧ am_L 144 = 5) ∧ am_o 144 = 11 := by decide +kernel
theorem lz_145 : (am_np 145 = 3 ∧ am_L 145 = 4) ∧ am_o 145 = 11 := by decide +kernel
theorem lz_147 : (am_np 147 = 5 ∧ am_L 147 = 6) ∧ am_o 147 = 11 := by decide +kernel
theorem lz_148 : (am_np 148 = 2 ∧ am_L 148 = 3) ∧ am_o 148 = 11 := by decide +kernel
theorem lz_149 : (am_np 149 = 2 ∧ am_L 149 = 3) ∧ am_o 149 = 11 := by decide +kernel
theorem lz_150 : (am_np 150 = 2 ∧ am_L 150 = 3) ∧ am_o 150 = 11 := by decide +kernel
theorem lz_151 : (am_np 151 = 2 ∧ am_L 151 = 4) ∧ am_o 151 = 11 := by decide +kernel
theorem lz_152 : (am_np 152 = 2 ∧ am_L 152 = 4) ∧ am_o 152 = 11 := by decide +kernel
theorem lz_153 : (am_np 153 = 2 ∧ am_L 153 = 3) ∧ am_o 153 = 11 := by decide +kernel
theorem lz_155 : (am_np 155 = 3 ∧ am_L 155 = 5) ∧ am_o 155 = 11 := by decide +kernel
theorem lz_158 : (am_np 158 = 3 ∧ am_L 158 = 6) ∧ am_o 158 = 11 := by decide +kernel
theorem lz_159 : (am_np 159 = 2 ∧ am_L 159 = 3) ∧ am_o 159 = 11 := by decide +kernel
theorem lz_160 : (am_np 160 = 2 ∧ am_L 160 = 3) ∧ am_o 160 = 11 := by decide +kernel
theorem lz_161 : (am_np 161 = 4 ∧ am_L 161 = 5) ∧ am_o 161 = 11 := by decide +kernel
theorem lz_162 : (am_np 162 = 2 ∧ am_L 162 = 3) ∧ am_o 162 = 11 := by decide +kernel
theorem lz_163 : (am_np 163 = 2 ∧ am_L 163 = 3) ∧ am_o 163 = 11 := by decide +kernel
theorem lz_164 : (am_np 164 = 1 ∧ am_L 164 = 2) ∧ am_o 164 = 11 := by decide +kernel
theorem lz_165 : (am_np 165 = 3 ∧ am_L 165 = 6) ∧ am_o 165 = 11 := by decide +kernel
theorem lz_167 : (am_np 167 = 0 ∧ am_L 167 = 1) ∧ am_o 167 = 11 := by decide +kernel
theorem lz_168 : (am_np 168 = 1 ∧ am_L 168 = 3) ∧ am_o 168 = 11 := by decide +kernel
theorem lz_169 : (am_np 169 = 2 ∧ am_L 169 = 7) ∧ am_o 169 = 11 := by decide +kernel
theorem lz_170 : (am_np 170 = 3 ∧ am_L 170 = 10) ∧ am_o 170 = 11 := by decide +kernel
theorem lz_172 : (am_np 172 = 2 ∧ am_L 172 = 3) ∧ am_o 172 = 11 := by decide +kernel
theorem lz_173 : (am_np 173 = 1 ∧ am_L 173 = 2) ∧ am_o 173 = 11 := by decide +kernel
theorem lz_174 : (am_np 174 = 1 ∧ am_L 174 = 2) ∧ am_o 174 = 11 := by decide +kernel
theorem lz_175 : (am_np 175 = 1 ∧ am_L 175 = 2) ∧ am_o 175 = 11 := by decide +kernel
theorem lz_176 : (am_np 176 = 0 ∧ am_L 176 = 1) ∧ am_o 176 = 11 := by decide +kernel
theorem lz_178 : (am_np 178 = 1 ∧ am_L 178 = 3) ∧ am_o 178 = 12 := by decide +kernel
theorem lz_182 : (am_np 182 = 1 ∧ am_L 182 = 3) ∧ am_o 182 = 12 := by decide +kernel
theorem lz_183 : (am_np 183 = 1 ∧ am_L 183 = 2) ∧ am_o 183 = 12 := by decide +kernel
theorem lz_187 : (am_np 187 = 0 ∧ am_L 187 = 3) ∧ am_o 187 = 12 := by decide +kernel
theorem lz_188 : (am_np 188 = 0 ∧ am_L 188 = 3) ∧ am_o 188 = 12 := by decide +kernel
theorem lz_189 : (am_np 189 = 5 ∧ am_L 189 = 7) ∧ am_o 189 = 12 := by decide +kernel
theorem lz_190 : (am_np 190 = 1 ∧ am_L 190 = 2) ∧ am_o 190 = 12 := by decide +kernel
theorem lz_191 : (am_np 191 = 0 ∧ am_L 191 = 3) ∧ am_o 191 = 12 := by decide +kernel
theorem lz_205 : (am_np 205 = 0 ∧ am_L 205 = 1) ∧ am_o 205 = 12 := by decide +kernel
theorem lz_206 : (am_np 206 = 2 ∧ am_L 206 = 3) ∧ am_o 206 = 12 := by decide +kernel
theorem lz_221 : (am_np 221 = 3 ∧ am_L 221 = 4) ∧ am_o 221 = 12 := by decide +kernel
theorem lz_222 : (am_np 222 = 1 ∧ am_L 222 = 4) ∧ am_o 222 = 12 := by decide +kernel
theorem lz_225 : (am_np 225 = 2 ∧ am_L 225 = 4) ∧ am_o 225 = 12 := by decide +kernel
theorem lz_226 : (am_np 226 = 2 ∧ am_L 226 = 4) ∧ am_o 226 = 12 := by decide +kernel
theorem lz_227 : (am_np 227 = 3 ∧ am_L 227 = 4) ∧ am_o 227 = 12 := by decide +kernel
theorem lz_230 : (am_np 230 = 2 ∧ am_L 230 = 3) ∧ am_o 230 = 12 := by decide +kernel
theorem lz_232 : (am_np 232 = 2 ∧ am_L 232 = 3) ∧ am_o 232 = 12 := by decide +kernel
theorem lz_236 : (am_np 236 = 4 ∧ am_L 236 = 7) ∧ am_o 236 = 12 := by decide +kernel
theorem lz_238 : (am_np 238 = 3 ∧ am_L 238 = 8) ∧ am_o 238 = 12 := by decide +kernel
theorem lz_239 : (am_np 239 = 3 ∧ am_L 239 = 6) ∧ am_o 239 = 12 := by decide +kernel
theorem lz_240 : (am_np 240 = 4 ∧ am_L 240 = 5) ∧ am_o 240 = 12 := by decide +kernel
theorem lz_241 : (am_np 241 = 2 ∧ am_L 241 = 3) ∧ am_o 241 = 12 := by decide +kernel
theorem lz_242 : (am_np 242 = 3 ∧ am_L 242 = 10) ∧ am_o 242 = 12 := by decide +kernel
theorem lz_248 : (am_np 248 = 2 ∧ am_L 248 = 3) ∧ am_o 248 = 12 := by decide +kernel
theorem lz_249 : (am_np 249 = 2 ∧ am_L 249 = 5) ∧ am_o 249 = 12 := by decide +kernel
theorem lz_250 : (am_np 250 = 2 ∧ am_L 250 = 5) ∧ am_o 250 = 12 := by decide +kernel
theorem lz_251 : (am_np 251 = 2 ∧ am_L 251 = 7) ∧ am_o 251 = 12 := by decide +kernel
theorem lz_253 : (am_np 253 = 2 ∧ am_L 253 = 6) ∧ am_o 253 = 12 := by decide +kernel
theorem lz_255 : (am_np 255 = 2 ∧ am_L 255 = 8) ∧ am_o 255 = 12 := by decide +kernel
theorem lz_258 : (am_np 258 = 3 ∧ am_L 258 = 4) ∧ am_o 258 = 12 := by decide +kernel
theorem lz_261 : (am_np 261 = 3 ∧ am_L 261 = 5) ∧ am_o 261 = 12 := by decide +kernel
theorem lz_262 : (am_np 262 = 2 ∧ am_L 262 = 6) ∧ am_o 262 = 12 := by decide +kernel
theorem lz_264 : (am_np 264 = 2 ∧ am_L 264 = 8) ∧ am_o 264 = 12 := by decide +kernel
theorem lz_267 : (am_np 267 = 4 ∧ am_L 267 = 11) ∧ am_o 267 = 12 := by decide +kernel
theorem lz_268 : (am_np 268 = 2 ∧ am_L 268 = 5) ∧ am_o 268 = 12 := by decide +kernel
theorem lz_269 : (am_np 269 = 2 ∧ am_L 269 = 14) ∧ am_o 269 = 12 := by decide +kernel
theorem lz_271 : (am_np 271 = 3 ∧ am_L 271 = 4) ∧ am_o 271 = 12 := by decide +kernel
theorem lz_277 : (am_np 277 = 5 ∧ am_L 277 = 6) ∧ am_o 277 = 12 := by decide +kernel
theorem lz_278 : (am_np 278 = 1 ∧ am_L 278 = 3) ∧ am_o 278 = 12 := by decide +kernel
theorem lz_279 : (am_np 279 = 3 ∧ am_L 279 = 6) ∧ am_o 279 = 12 := by decide +kernel
theorem lz_281 : (am_np 281 = 0 ∧ am_L 281 = 1) ∧ am_o 281 = 12 := by decide +kernel
theorem lz_283 : (am_np 283 = 1 ∧ am_L 283 = 2) ∧ am_o 283 = 12 := by decide +kernel
theorem lz_284 : (am_np 284 = 2 ∧ am_L 284 = 7) ∧ am_o 284 = 12 := by decide +kernel
theorem lz_285 : (am_np 285 = 3 ∧ am_L 285 = 7) ∧ am_o 285 = 12 := by decide +kernel
theorem lz_287 : (am_np 287 = 2 ∧ am_L 287 = 3) ∧ am_o 287 = 12 := by decide +kernel
theorem lz_288 : (am_np 288 = 1 ∧ am_L 288 = 5) ∧ am_o 288 = 12 := by decide +kernel
theorem lz_289 : (am_np 289 = 0 ∧ am_L 289 = 1) ∧ am_o 289 = 12 := by decide +kernel
theorem lw_c0 {n L i : Nat} {xs : Nat → Int32} {h : AH} {Q : Option Value → AH → Prop} (hI : LwI n L xs h) (hn : n ≤ 10000) (hi : i + 5 < L) (hL : L ≤ 3072) (hk : ∀ h', LwI (n + 1) L xs h' → RN 81 294 1807 [some (.ref 1), some (.ref 2), some (.ref 146), some (.int (nI i))] [] h' Q) : RN 81 294 236 [some (.ref 1), some (.ref 2), some (.ref 146), some (.int (nI i))] [] h Q := by
  obtain ⟨S, G, B, J, R, g, A, W, hC, hR, h1, hWC, hWR⟩ := hI
  obtain ⟨fs, hfs⟩ := lw_2 hC hWC.1.1
  obtain ⟨v, hv⟩ := lw_tie (alc := [some (.ref 2), some (.int (xs (i + 1))), some (.int (xs (i + 2))), some (.int (xs (i + 3))), some (.int (xs (i + 4))), some (.int (xs (i + 5)))]) (alr := [some (.ref 146), some (.int (xs (i + 1))), some (.int (xs (i + 2))), some (.int (xs (i + 3))), some (.int (xs (i + 4))), some (.int (xs (i + 5))), none]) hC hR h1 hWC.1.1.1 (T_feed (J := J) hWC hWR hn)
  refine rn_nx (pc' := 237) (al' := [some (.ref 1), some (.ref 2), some (.ref 146), some (.int (nI i))]) (st' := [.ref 2]) (h' := h) d_294_236 rfl ?_
  refine rn_a1 d_294_237 d_294_238 d_294_239 d_294_240 d_294_241 h1 (by omega) hL ?_
  refine rn_a2 d_294_242 d_294_243 d_294_244 d_294_245 d_294_246 h1 (by omega) hL ?_
  refine rn_a3 d_294_247 d_294_248 d_294_249 d_294_250 d_294_251 h1 (by omega) hL ?_
  refine rn_a4 d_294_252 d_294_253 d_294_254 d_294_255 d_294_256 h1 (by omega) hL ?_
  refine rn_a5 d_294_257 d_294_258 d_294_259 d_294_260 d_294_261 h1 (by omega) hL ?_
  refine rn_iv (b := 2) (as := [.int (xs (i + 1)), .int (xs (i + 2)), .int (xs (i + 3)), .int (xs (i + 4)), .int (xs (i + 5))]) (al0 := [some (.ref 2), some (.int (xs (i + 1))), some (.int (xs (i + 2))), some (.int (xs (i + 3))), some (.int (xs (i + 4))), some (.int (xs (i + 5)))]) (r := []) d_294_262 lm_13 lz_114.1 rfl rfl (by decide) (by rw [lz_114.2]; exact hfs) (by rw [lz_114.2]; decide) rfl hv (fun r2 h2 hx => ?_)
  obtain ⟨e2, g1, ⟨fs2, hfs2⟩, hv2⟩ := hx
  obtain rfl := e2
  show RN 81 294 265 [some (.ref 1), some (.ref 2), some (.ref 146), some (.int (nI i))] [.int v] h2 Q
  refine rn_nx (pc' := 266) (al' := [some (.ref 1), some (.ref 2), some (.ref 146), some (.int (nI i))]) (st' := [.ref 146, .int v]) (h' := h2) d_294_265 rfl ?_
  refine rn_a1 d_294_266 d_294_267 d_294_268 d_294_269 d_294_270 g1 (by omega) hL ?_
  refine rn_a2 d_294_271 d_294_272 d_294_273 d_294_274 d_294_275 g1 (by omega) hL ?_
  refine rn_a3 d_294_276 d_294_277 d_294_278 d_294_279 d_294_280 g1 (by omega) hL ?_
  refine rn_a4 d_294_281 d_294_282 d_294_283 d_294_284 d_294_285 g1 (by omega) hL ?_
  refine rn_a5 d_294_286 d_294_287 d_294_288 d_294_289 d_294_290 g1 (by omega) hL ?_
  refine rn_iv (b := 146) (as := [.int (xs (i + 1)), .int (xs (i + 2)), .int (xs (i + 3)), .int (xs (i + 4)), .int (xs (i + 5))]) (al0 := [some (.ref 146), some (.int (xs (i + 1))), some (.int (xs (i + 2))), some (.int (xs (i + 3))), some (.int (xs (i + 4))), some (.int (xs (i + 5))), none]) (r := [.int v]) d_294_291 lm_17 lz_189.1 rfl rfl (by decide) (by rw [lz_189.2]; exact hfs2) (by rw [lz_189.2]; decide) rfl hv2 (fun r3 h3 hx => ?_)
  obtain ⟨e3, hI3⟩ := hx
  obtain rfl := e3
  show RN 81 294 294 [some (.ref 1), some (.ref 2), some (.ref 146), some (.int (nI i))] [.int v, .int v] h3 Q
  exact rn_eq d_294_294 (by decide) (hk h3 hI3)
theorem lw_c1 {n L i : Nat} {xs : Nat → Int32} {h : AH} {Q : Option Value → AH → Prop} (hI : LwI n L xs h) (hn : n ≤ 10000) (hi : i + 5 < L) (hL : L ≤ 3072) (hk : ∀ h', LwI (n + 1) L xs h' → RN 81 294 1807 [some (.ref 1), some (.ref 2), some (.ref 146), some (.int (nI i))] [] h' Q) : RN 81 294 299 [some (.ref 1), some (.ref 2), some (.ref 146), some (.int (nI i))] [] h Q := by
  obtain ⟨S, G, B, J, R, g, A, W, hC, hR, h1, hWC, hWR⟩ := hI
  obtain ⟨fs, hfs⟩ := lw_2 hC hWC.1.1
  obtain ⟨v, hv⟩ := lw_tie (alc := [some (.ref 2), some (.int (xs (i + 1)))]) (alr := [some (.ref 146), some (.int (xs (i + 1)))]) hC hR h1 hWC.1.1.1 (T_end (J := J) hWC hWR hn)
  refine rn_nx (pc' := 300) (al' := [some (.ref 1), some (.ref 2), some (.ref 146), some (.int (nI i))]) (st' := [.ref 2]) (h' := h) d_294_299 rfl ?_
  refine rn_a1 d_294_300 d_294_301 d_294_302 d_294_303 d_294_304 h1 (by omega) hL ?_
  refine rn_iv (b := 2) (as := [.int (xs (i + 1))]) (al0 := [some (.ref 2), some (.int (xs (i + 1)))]) (r := []) d_294_305 lm_18 lz_116.1 rfl rfl (by decide) (by rw [lz_116.2]; exact hfs) (by rw [lz_116.2]; decide) rfl hv (fun r2 h2 hx => ?_)
  obtain ⟨e2, g1, ⟨fs2, hfs2⟩, hv2⟩ := hx
  obtain rfl := e2
  show RN 81 294 308 [some (.ref 1), some (.ref 2), some (.ref 146), some (.int (nI i))] [.int v] h2 Q
  refine rn_nx (pc' := 309) (al' := [some (.ref 1), some (.ref 2), some (.ref 146), some (.int (nI i))]) (st' := [.ref 146, .int v]) (h' := h2) d_294_308 rfl ?_
  refine rn_a1 d_294_309 d_294_310 d_294_311 d_294_312 d_294_313 g1 (by omega) hL ?_
  refine rn_iv (b := 146) (as := [.int (xs (i + 1))]) (al0 := [some (.ref 146), some (.int (xs (i + 1)))]) (r := [.int v]) d_294_314 lm_22 lz_190.1 rfl rfl (by decide) (by rw [lz_190.2]; exact hfs2) (by rw [lz_190.2]; decide) rfl hv2 (fun r3 h3 hx => ?_)
  obtain ⟨e3, hI3⟩ := hx
  obtain rfl := e3
  show RN 81 294 317 [some (.ref 1), some (.ref 2), some (.ref 146), some (.int (nI i))] [.int v, .int v] h3 Q
  exact rn_eq d_294_317 (by decide) (hk h3 hI3)
theorem lw_c2 {n L i : Nat} {xs : Nat → Int32} {h : AH} {Q : Option Value → AH → Prop} (hI : LwI n L xs h) (hn : n ≤ 10000) (hi : i + 5 < L) (hL : L ≤ 3072) (hk : ∀ h', LwI (n + 1) L xs h' → RN 81 294 1807 [some (.ref 1), some (.ref 2), some (.ref 146), some (.int (nI i))] [] h' Q) : RN 81 294 322 [some (.ref 1), some (.ref 2), some (.ref 146), some (.int (nI i))] [] h Q := by
  obtain ⟨S, G, B, J, R, g, A, W, hC, hR, h1, hWC, hWR⟩ := hI
  obtain ⟨fs, hfs⟩ := lw_2 hC hWC.1.1
  obtain ⟨v, hv⟩ := lw_tie (alc := [some (.ref 2), some (.int (xs (i + 1))), none]) (alr := [some (.ref 146), some (.int (xs (i + 1))), none, none]) hC hR h1 hWC.1.1.1 (T_row (J := J) hWC hWR hn)
  refine rn_nx (pc' := 323) (al' := [some (.ref 1), some (.ref 2), some (.ref 146), some (.int (nI i))]) (st' := [.ref 2]) (h' := h) d_294_322 rfl ?_
  refine rn_a1 d_294_323 d_294_324 d_294_325 d_294_326 d_294_327 h1 (by omega) hL ?_
  refine rn_iv (b := 2) (as := [.int (xs (i + 1))]) (al0 := [some (.ref 2), some (.int (xs (i + 1))), none]) (r := []) d_294_328 lm_23 lz_117.1 rfl rfl (by decide) (by rw [lz_117.2]; exact hfs) (by rw [lz_117.2]; decide) rfl hv (fun r2 h2 hx => ?_)
  obtain ⟨e2, g1, ⟨fs2, hfs2⟩, hv2⟩ := hx
  obtain rfl := e2
  show RN 81 294 331 [some (.ref 1), some (.ref 2), some (.ref 146), some (.int (nI i))] [.int v] h2 Q
  refine rn_nx (pc' := 332) (al' := [some (.ref 1), some (.ref 2), some (.ref 146), some (.int (nI i))]) (st' := [.ref 146, .int v]) (h' := h2) d_294_331 rfl ?_
  refine rn_a1 d_294_332 d_294_333 d_294_334 d_294_335 d_294_336 g1 (by omega) hL ?_
  refine rn_iv (b := 146) (as := [.int (xs (i + 1))]) (al0 := [some (.ref 146), some (.int (xs (i + 1))), none, none]) (r := [.int v]) d_294_337 lm_26 lz_222.1 rfl rfl (by decide) (by rw [lz_222.2]; exact hfs2) (by rw [lz_222.2]; decide) rfl hv2 (fun r3 h3 hx => ?_)
  obtain ⟨e3, hI3⟩ := hx
  obtain rfl := e3
  show RN 81 294 340 [some (.ref 1), some (.ref 2), some (.ref 146), some (.int (nI i))] [.int v, .int v] h3 Q
  exact rn_eq d_294_340 (by decide) (hk h3 hI3)
theorem lw_c3 {n L i : Nat} {xs : Nat → Int32} {h : AH} {Q : Option Value → AH → Prop} (hI : LwI n L xs h) (hn : n ≤ 10000) (hi : i + 5 < L) (hL : L ≤ 3072) (hk : ∀ h', LwI (n + 1) L xs h' → RN 81 294 1807 [some (.ref 1), some (.ref 2), some (.ref 146), some (.int (nI i))] [] h' Q) : RN 81 294 345 [some (.ref 1), some (.ref 2), some (.ref 146), some (.int (nI i))] [] h Q := by
  obtain ⟨S, G, B, J, R, g, A, W, hC, hR, h1, hWC, hWR⟩ := hI
  obtain ⟨fs, hfs⟩ := lw_2 hC hWC.1.1
  obtain ⟨v, hv⟩ := lw_tie (alc := [some (.ref 2), some (.int (xs (i + 1))), some (.int (xs (i + 2)))]) (alr := [some (.ref 146), some (.int (xs (i + 1))), some (.int (xs (i + 2))), none]) hC hR h1 hWC.1.1.1 (T_cyclic (J := J) hWC hWR hn)
  refine rn_nx (pc' := 346) (al' := [some (.ref 1), some (.ref 2), some (.ref 146), some (.int (nI i))]) (st' := [.ref 2]) (h' := h) d_294_345 rfl ?_
  refine rn_a1 d_294_346 d_294_347 d_294_348 d_294_349 d_294_350 h1 (by omega) hL ?_
  refine rn_a2 d_294_351 d_294_352 d_294_353 d_294_354 d_294_355 h1 (by omega) hL ?_
  refine rn_iv (b := 2) (as := [.int (xs (i + 1)), .int (xs (i + 2))]) (al0 := [some (.ref 2), some (.int (xs (i + 1))), some (.int (xs (i + 2)))]) (r := []) d_294_356 lm_27 lz_124.1 rfl rfl (by decide) (by rw [lz_124.2]; exact hfs) (by rw [lz_124.2]; decide) rfl hv (fun r2 h2 hx => ?_)
  obtain ⟨e2, g1, ⟨fs2, hfs2⟩, hv2⟩ := hx
  obtain rfl := e2
  show RN 81 294 359 [some (.ref 1), some (.ref 2), some (.ref 146), some (.int (nI i))] [.int v] h2 Q
  refine rn_nx (pc' := 360) (al' := [some (.ref 1), some (.ref 2), some (.ref 146), some (.int (nI i))]) (st' := [.ref 146, .int v]) (h' := h2) d_294_359 rfl ?_
  refine rn_a1 d_294_360 d_294_361 d_294_362 d_294_363 d_294_364 g1 (by omega) hL ?_
  refine rn_a2 d_294_365 d_294_366 d_294_367 d_294_368 d_294_369 g1 (by omega) hL ?_
  refine rn_iv (b := 146) (as := [.int (xs (i + 1)), .int (xs (i + 2))]) (al0 := [some (.ref 146), some (.int (xs (i + 1))), some (.int (xs (i + 2))), none]) (r := [.int v]) d_294_370 lm_31 lz_225.1 rfl rfl (by decide) (by rw [lz_225.2]; exact hfs2) (by rw [lz_225.2]; decide) rfl hv2 (fun r3 h3 hx => ?_)
  obtain ⟨e3, hI3⟩ := hx
  obtain rfl := e3
  show RN 81 294 373 [some (.ref 1), some (.ref 2), some (.ref 146), some (.int (nI i))] [.int v, .int v] h3 Q
  exact rn_eq d_294_373 (by decide) (hk h3 hI3)
theorem lw_c4 {n L i : Nat} {xs : Nat → Int32} {h : AH} {Q : Option Value → AH → Prop} (hI : LwI n L xs h) (hn : n ≤ 10000) (hi : i + 5 < L) (hL : L ≤ 3072) (hk : ∀ h', LwI (n + 1) L xs h' → RN 81 294 1807 [some (.ref 1), some (.ref 2), some (.ref 146), some (.int (nI i))] [] h' Q) : RN 81 294 378 [some (.ref 1), some (.ref 2), some (.ref 146), some (.int (nI i))] [] h Q := by
  obtain ⟨S, G, B, J, R, g, A, W, hC, hR, h1, hWC, hWR⟩ := hI
  obtain ⟨fs, hfs⟩ := lw_2 hC hWC.1.1
  obtain ⟨v, hv⟩ := lw_tie (alc := [some (.ref 2), some (.int (xs (i + 1))), some (.int (xs (i + 2)))]) (alr := [some (.ref 146), some (.int (xs (i + 1))), some (.int (xs (i + 2))), none]) hC hR h1 hWC.1.1.1 (T_copy (J := J) hWC hWR hn)
  refine rn_nx (pc' := 379) (al' := [some (.ref 1), some (.ref 2), some (.ref 146), some (.int (nI i))]) (st' := [.ref 2]) (h' := h) d_294_378 rfl ?_
  refine rn_a1 d_294_379 d_294_380 d_294_381 d_294_382 d_294_383 h1 (by omega) hL ?_
  refine rn_a2 d_294_384 d_294_385 d_294_386 d_294_387 d_294_388 h1 (by omega) hL ?_
  refine rn_iv (b := 2) (as := [.int (xs (i + 1)), .int (xs (i + 2))]) (al0 := [some (.ref 2), some (.int (xs (i + 1))), some (.int (xs (i + 2)))]) (r := []) d_294_389 lm_32 lz_125.1 rfl rfl (by decide) (by rw [lz_125.2]; exact hfs) (by rw [lz_125.2]; decide) rfl hv (fun r2 h2 hx => ?_)
  obtain ⟨e2, g1, ⟨fs2, hfs2⟩, hv2⟩ := hx
  obtain rfl := e2
  show RN 81 294 392 [some (.ref 1), some (.ref 2), some (.ref 146), some (.int (nI i))] [.int v] h2 Q
  refine rn_nx (pc' := 393) (al' := [some (.ref 1), some (.ref 2), some (.ref 146), some (.int (nI i))]) (st' := [.ref 146, .int v]) (h' := h2) d_294_392 rfl ?_
  refine rn_a1 d_294_393 d_294_394 d_294_395 d_294_396 d_294_397 g1 (by omega) hL ?_
  refine rn_a2 d_294_398 d_294_399 d_294_400 d_294_401 d_294_402 g1 (by omega) hL ?_
  refine rn_iv (b := 146) (as := [.int (xs (i + 1)), .int (xs (i + 2))]) (al0 := [some (.ref 146), some (.int (xs (i + 1))), some (.int (xs (i + 2))), none]) (r := [.int v]) d_294_403 lm_35 lz_226.1 rfl rfl (by decide) (by rw [lz_226.2]; exact hfs2) (by rw [lz_226.2]; decide) rfl hv2 (fun r3 h3 hx => ?_)
  obtain ⟨e3, hI3⟩ := hx
  obtain rfl := e3
  show RN 81 294 406 [some (.ref 1), some (.ref 2), some (.ref 146), some (.int (nI i))] [.int v, .int v] h3 Q
  exact rn_eq d_294_406 (by decide) (hk h3 hI3)
theorem lw_c5 {n L i : Nat} {xs : Nat → Int32} {h : AH} {Q : Option Value → AH → Prop} (hI : LwI n L xs h) (hn : n ≤ 10000) (hi : i + 5 < L) (hL : L ≤ 3072) (hk : ∀ h', LwI (n + 1) L xs h' → RN 81 294 1807 [some (.ref 1), some (.ref 2), some (.ref 146), some (.int (nI i))] [] h' Q) : RN 81 294 411 [some (.ref 1), some (.ref 2), some (.ref 146), some (.int (nI i))] [] h Q := by
  obtain ⟨S, G, B, J, R, g, A, W, hC, hR, h1, hWC, hWR⟩ := hI
  obtain ⟨fs, hfs⟩ := lw_2 hC hWC.1.1
  obtain ⟨v, hv⟩ := lw_tie (alc := [some (.ref 2), some (.int (xs (i + 1))), some (.int (xs (i + 2))), some (.int (xs (i + 3))), none, none]) (alr := [some (.ref 146), some (.int (xs (i + 1))), some (.int (xs (i + 2))), some (.int (xs (i + 3)))]) hC hR h1 hWC.1.1.1 (T_isotope (J := J) hWC hWR hn)
  refine rn_nx (pc' := 412) (al' := [some (.ref 1), some (.ref 2), some (.ref 146), some (.int (nI i))]) (st' := [.ref 2]) (h' := h) d_294_411 rfl ?_
  refine rn_a1 d_294_412 d_294_413 d_294_414 d_294_415 d_294_416 h1 (by omega) hL ?_
  refine rn_a2 d_294_417 d_294_418 d_294_419 d_294_420 d_294_421 h1 (by omega) hL ?_
  refine rn_a3 d_294_422 d_294_423 d_294_424 d_294_425 d_294_426 h1 (by omega) hL ?_
  refine rn_iv (b := 2) (as := [.int (xs (i + 1)), .int (xs (i + 2)), .int (xs (i + 3))]) (al0 := [some (.ref 2), some (.int (xs (i + 1))), some (.int (xs (i + 2))), some (.int (xs (i + 3))), none, none]) (r := []) d_294_427 lm_36 lz_127.1 rfl rfl (by decide) (by rw [lz_127.2]; exact hfs) (by rw [lz_127.2]; decide) rfl hv (fun r2 h2 hx => ?_)
  obtain ⟨e2, g1, ⟨fs2, hfs2⟩, hv2⟩ := hx
  obtain rfl := e2
  show RN 81 294 430 [some (.ref 1), some (.ref 2), some (.ref 146), some (.int (nI i))] [.int v] h2 Q
  refine rn_nx (pc' := 431) (al' := [some (.ref 1), some (.ref 2), some (.ref 146), some (.int (nI i))]) (st' := [.ref 146, .int v]) (h' := h2) d_294_430 rfl ?_
  refine rn_a1 d_294_431 d_294_432 d_294_433 d_294_434 d_294_435 g1 (by omega) hL ?_
  refine rn_a2 d_294_436 d_294_437 d_294_438 d_294_439 d_294_440 g1 (by omega) hL ?_
  refine rn_a3 d_294_441 d_294_442 d_294_443 d_294_444 d_294_445 g1 (by omega) hL ?_
  refine rn_iv (b := 146) (as := [.int (xs (i + 1)), .int (xs (i + 2)), .int (xs (i + 3))]) (al0 := [some (.ref 146), some (.int (xs (i + 1))), some (.int (xs (i + 2))), some (.int (xs (i + 3)))]) (r := [.int v]) d_294_446 lm_40 lz_227.1 rfl rfl (by decide) (by rw [lz_227.2]; exact hfs2) (by rw [lz_227.2]; decide) rfl hv2 (fun r3 h3 hx => ?_)
  obtain ⟨e3, hI3⟩ := hx
  obtain rfl := e3
  show RN 81 294 449 [some (.ref 1), some (.ref 2), some (.ref 146), some (.int (nI i))] [.int v, .int v] h3 Q
  exact rn_eq d_294_449 (by decide) (hk h3 hI3)
theorem lw_c6 {n L i : Nat} {xs : Nat → Int32} {h : AH} {Q : Option Value → AH → Prop} (hI : LwI n L xs h) (hn : n ≤ 10000) (hi : i + 5 < L) (hL : L ≤ 3072) (hk : ∀ h', LwI (n + 1) L xs h' → RN 81 294 1807 [some (.ref 1), some (.ref 2), some (.ref 146), some (.int (nI i))] [] h' Q) : RN 81 294 454 [some (.ref 1), some (.ref 2), some (.ref 146), some (.int (nI i))] [] h Q := by
  obtain ⟨S, G, B, J, R, g, A, W, hC, hR, h1, hWC, hWR⟩ := hI
  obtain ⟨fs, hfs⟩ := lw_2 hC hWC.1.1
  obtain ⟨v, hv⟩ := lw_tie (alc := [some (.ref 2), some (.int (xs (i + 1))), some (.int (xs (i + 2)))]) (alr := [some (.ref 146), some (.int (xs (i + 1))), some (.int (xs (i + 2)))]) hC hR h1 hWC.1.1.1 (T_conjugate (J := J) hWC hWR hn)
  refine rn_nx (pc' := 455) (al' := [some (.ref 1), some (.ref 2), some (.ref 146), some (.int (nI i))]) (st' := [.ref 2]) (h' := h) d_294_454 rfl ?_
  refine rn_a1 d_294_455 d_294_456 d_294_457 d_294_458 d_294_459 h1 (by omega) hL ?_
  refine rn_a2 d_294_460 d_294_461 d_294_462 d_294_463 d_294_464 h1 (by omega) hL ?_
  refine rn_iv (b := 2) (as := [.int (xs (i + 1)), .int (xs (i + 2))]) (al0 := [some (.ref 2), some (.int (xs (i + 1))), some (.int (xs (i + 2)))]) (r := []) d_294_465 lm_41 lz_128.1 rfl rfl (by decide) (by rw [lz_128.2]; exact hfs) (by rw [lz_128.2]; decide) rfl hv (fun r2 h2 hx => ?_)
  obtain ⟨e2, g1, ⟨fs2, hfs2⟩, hv2⟩ := hx
  obtain rfl := e2
  show RN 81 294 468 [some (.ref 1), some (.ref 2), some (.ref 146), some (.int (nI i))] [.int v] h2 Q
  refine rn_nx (pc' := 469) (al' := [some (.ref 1), some (.ref 2), some (.ref 146), some (.int (nI i))]) (st' := [.ref 146, .int v]) (h' := h2) d_294_468 rfl ?_
  refine rn_a1 d_294_469 d_294_470 d_294_471 d_294_472 d_294_473 g1 (by omega) hL ?_
  refine rn_a2 d_294_474 d_294_475 d_294_476 d_294_477 d_294_478 g1 (by omega) hL ?_
  refine rn_iv (b := 146) (as := [.int (xs (i + 1)), .int (xs (i + 2))]) (al0 := [some (.ref 146), some (.int (xs (i + 1))), some (.int (xs (i + 2)))]) (r := [.int v]) d_294_479 lm_44 lz_230.1 rfl rfl (by decide) (by rw [lz_230.2]; exact hfs2) (by rw [lz_230.2]; decide) rfl hv2 (fun r3 h3 hx => ?_)
  obtain ⟨e3, hI3⟩ := hx
  obtain rfl := e3
  show RN 81 294 482 [some (.ref 1), some (.ref 2), some (.ref 146), some (.int (nI i))] [.int v, .int v] h3 Q
  exact rn_eq d_294_482 (by decide) (hk h3 hI3)
theorem lw_c7 {n L i : Nat} {xs : Nat → Int32} {h : AH} {Q : Option Value → AH → Prop} (hI : LwI n L xs h) (hn : n ≤ 10000) (hi : i + 5 < L) (hL : L ≤ 3072) (hk : ∀ h', LwI (n + 1) L xs h' → RN 81 294 1807 [some (.ref 1), some (.ref 2), some (.ref 146), some (.int (nI i))] [] h' Q) : RN 81 294 487 [some (.ref 1), some (.ref 2), some (.ref 146), some (.int (nI i))] [] h Q := by
  obtain ⟨S, G, B, J, R, g, A, W, hC, hR, h1, hWC, hWR⟩ := hI
  obtain ⟨fs, hfs⟩ := lw_2 hC hWC.1.1
  obtain ⟨v, hv⟩ := lw_tie (alc := [some (.ref 2), some (.int (xs (i + 1))), some (.int (xs (i + 2))), none]) (alr := [some (.ref 146), some (.int (xs (i + 1))), some (.int (xs (i + 2)))]) hC hR h1 hWC.1.1.1 (T_rename (J := J) hWC hWR hn)
  refine rn_nx (pc' := 488) (al' := [some (.ref 1), some (.ref 2), some (.ref 146), some (.int (nI i))]) (st' := [.ref 2]) (h' := h) d_294_487 rfl ?_
  refine rn_a1 d_294_488 d_294_489 d_294_490 d_294_491 d_294_492 h1 (by omega) hL ?_
  refine rn_a2 d_294_493 d_294_494 d_294_495 d_294_496 d_294_497 h1 (by omega) hL ?_
  refine rn_iv (b := 2) (as := [.int (xs (i + 1)), .int (xs (i + 2))]) (al0 := [some (.ref 2), some (.int (xs (i + 1))), some (.int (xs (i + 2))), none]) (r := []) d_294_498 lm_45 lz_129.1 rfl rfl (by decide) (by rw [lz_129.2]; exact hfs) (by rw [lz_129.2]; decide) rfl hv (fun r2 h2 hx => ?_)
  obtain ⟨e2, g1, ⟨fs2, hfs2⟩, hv2⟩ := hx
  obtain rfl := e2
  show RN 81 294 501 [some (.ref 1), some (.ref 2), some (.ref 146), some (.int (nI i))] [.int v] h2 Q
  refine rn_nx (pc' := 502) (al' := [some (.ref 1), some (.ref 2), some (.ref 146), some (.int (nI i))]) (st' := [.ref 146, .int v]) (h' := h2) d_294_501 rfl ?_
  refine rn_a1 d_294_502 d_294_503 d_294_504 d_294_505 d_294_506 g1 (by omega) hL ?_
  refine rn_a2 d_294_507 d_294_508 d_294_509 d_294_510 d_294_511 g1 (by omega) hL ?_
  refine rn_iv (b := 146) (as := [.int (xs (i + 1)), .int (xs (i + 2))]) (al0 := [some (.ref 146), some (.int (xs (i + 1))), some (.int (xs (i + 2)))]) (r := [.int v]) d_294_512 lm_48 lz_232.1 rfl rfl (by decide) (by rw [lz_232.2]; exact hfs2) (by rw [lz_232.2]; decide) rfl hv2 (fun r3 h3 hx => ?_)
  obtain ⟨e3, hI3⟩ := hx
  obtain rfl := e3
  show RN 81 294 515 [some (.ref 1), some (.ref 2), some (.ref 146), some (.int (nI i))] [.int v, .int v] h3 Q
  exact rn_eq d_294_515 (by decide) (hk h3 hI3)
theorem lw_c8 {n L i : Nat} {xs : Nat → Int32} {h : AH} {Q : Option Value → AH → Prop} (hI : LwI n L xs h) (hn : n ≤ 10000) (hi : i + 5 < L) (hL : L ≤ 3072) (hk : ∀ h', LwI (n + 1) L xs h' → RN 81 294 1807 [some (.ref 1), some (.ref 2), some (.ref 146), some (.int (nI i))] [] h' Q) : RN 81 294 520 [some (.ref 1), some (.ref 2), some (.ref 146), some (.int (nI i))] [] h Q := by
  obtain ⟨S, G, B, J, R, g, A, W, hC, hR, h1, hWC, hWR⟩ := hI
  obtain ⟨fs, hfs⟩ := lw_2 hC hWC.1.1
  obtain ⟨v, hv⟩ := lw_tie (alc := [some (.ref 2), some (.int (xs (i + 1))), some (.int (xs (i + 2))), some (.int (xs (i + 3))), some (.int (xs (i + 4))), none, none]) (alr := [some (.ref 146), some (.int (xs (i + 1))), some (.int (xs (i + 2))), some (.int (xs (i + 3))), some (.int (xs (i + 4))), none, none]) hC hR h1 hWC.1.1.1 (T_turn (J := J) hWC hWR hn)
  refine rn_nx (pc' := 521) (al' := [some (.ref 1), some (.ref 2), some (.ref 146), some (.int (nI i))]) (st' := [.ref 2]) (h' := h) d_294_520 rfl ?_
  refine rn_a1 d_294_521 d_294_522 d_294_523 d_294_524 d_294_525 h1 (by omega) hL ?_
  refine rn_a2 d_294_526 d_294_527 d_294_528 d_294_529 d_294_530 h1 (by omega) hL ?_
  refine rn_a3 d_294_531 d_294_532 d_294_533 d_294_534 d_294_535 h1 (by omega) hL ?_
  refine rn_a4 d_294_536 d_294_537 d_294_538 d_294_539 d_294_540 h1 (by omega) hL ?_
  refine rn_iv (b := 2) (as := [.int (xs (i + 1)), .int (xs (i + 2)), .int (xs (i + 3)), .int (xs (i + 4))]) (al0 := [some (.ref 2), some (.int (xs (i + 1))), some (.int (xs (i + 2))), some (.int (xs (i + 3))), some (.int (xs (i + 4))), none, none]) (r := []) d_294_541 lm_49 lz_130.1 rfl rfl (by decide) (by rw [lz_130.2]; exact hfs) (by rw [lz_130.2]; decide) rfl hv (fun r2 h2 hx => ?_)
  obtain ⟨e2, g1, ⟨fs2, hfs2⟩, hv2⟩ := hx
  obtain rfl := e2
  show RN 81 294 544 [some (.ref 1), some (.ref 2), some (.ref 146), some (.int (nI i))] [.int v] h2 Q
  refine rn_nx (pc' := 545) (al' := [some (.ref 1), some (.ref 2), some (.ref 146), some (.int (nI i))]) (st' := [.ref 146, .int v]) (h' := h2) d_294_544 rfl ?_
  refine rn_a1 d_294_545 d_294_546 d_294_547 d_294_548 d_294_549 g1 (by omega) hL ?_
  refine rn_a2 d_294_550 d_294_551 d_294_552 d_294_553 d_294_554 g1 (by omega) hL ?_
  refine rn_a3 d_294_555 d_294_556 d_294_557 d_294_558 d_294_559 g1 (by omega) hL ?_
  refine rn_a4 d_294_560 d_294_561 d_294_562 d_294_563 d_294_564 g1 (by omega) hL ?_
  refine rn_iv (b := 146) (as := [.int (xs (i + 1)), .int (xs (i + 2)), .int (xs (i + 3)), .int (xs (i + 4))]) (al0 := [some (.ref 146), some (.int (xs (i + 1))), some (.int (xs (i + 2))), some (.int (xs (i + 3))), some (.int (xs (i + 4))), none, none]) (r := [.int v]) d_294_565 lm_53 lz_236.1 rfl rfl (by decide) (by rw [lz_236.2]; exact hfs2) (by rw [lz_236.2]; decide) rfl hv2 (fun r3 h3 hx => ?_)
  obtain ⟨e3, hI3⟩ := hx
  obtain rfl := e3
  show RN 81 294 568 [some (.ref 1), some (.ref 2), some (.ref 146), some (.int (nI i))] [.int v, .int v] h3 Q
  exact rn_eq d_294_568 (by decide) (hk h3 hI3)
theorem lw_c9 {n L i : Nat} {xs : Nat → Int32} {h : AH} {Q : Option Value → AH → Prop} (hI : LwI n L xs h) (hn : n ≤ 10000) (hi : i + 5 < L) (hL : L ≤ 3072) (hk : ∀ h', LwI (n + 1) L xs h' → RN 81 294 1807 [some (.ref 1), some (.ref 2), some (.ref 146), some (.int (nI i))] [] h' Q) : RN 81 294 573 [some (.ref 1), some (.ref 2), some (.ref 146), some (.int (nI i))] [] h Q := by
  obtain ⟨S, G, B, J, R, g, A, W, hC, hR, h1, hWC, hWR⟩ := hI
  obtain ⟨fs, hfs⟩ := lw_2 hC hWC.1.1
  obtain ⟨v, hv⟩ := lw_tie (alc := [some (.ref 2), some (.int (xs (i + 1))), some (.int (xs (i + 2))), some (.int (xs (i + 3)))]) (alr := [some (.ref 146), some (.int (xs (i + 1))), some (.int (xs (i + 2))), some (.int (xs (i + 3))), none, none, none, none]) hC hR h1 hWC.1.1.1 (T_product (J := J) hWC hWR hn)
  refine rn_nx (pc' := 574) (al' := [some (.ref 1), some (.ref 2), some (.ref 146), some (.int (nI i))]) (st' := [.ref 2]) (h' := h) d_294_573 rfl ?_
  refine rn_a1 d_294_574 d_294_575 d_294_576 d_294_577 d_294_578 h1 (by omega) hL ?_
  refine rn_a2 d_294_579 d_294_580 d_294_581 d_294_582 d_294_583 h1 (by omega) hL ?_
  refine rn_a3 d_294_584 d_294_585 d_294_586 d_294_587 d_294_588 h1 (by omega) hL ?_
  refine rn_iv (b := 2) (as := [.int (xs (i + 1)), .int (xs (i + 2)), .int (xs (i + 3))]) (al0 := [some (.ref 2), some (.int (xs (i + 1))), some (.int (xs (i + 2))), some (.int (xs (i + 3)))]) (r := []) d_294_589 lm_54 lz_132.1 rfl rfl (by decide) (by rw [lz_132.2]; exact hfs) (by rw [lz_132.2]; decide) rfl hv (fun r2 h2 hx => ?_)
  obtain ⟨e2, g1, ⟨fs2, hfs2⟩, hv2⟩ := hx
  obtain rfl := e2
  show RN 81 294 592 [some (.ref 1), some (.ref 2), some (.ref 146), some (.int (nI i))] [.int v] h2 Q
  refine rn_nx (pc' := 593) (al' := [some (.ref 1), some (.ref 2), some (.ref 146), some (.int (nI i))]) (st' := [.ref 146, .int v]) (h' := h2) d_294_592 rfl ?_
  refine rn_a1 d_294_593 d_294_594 d_294_595 d_294_596 d_294_597 g1 (by omega) hL ?_
  refine rn_a2 d_294_598 d_294_599 d_294_600 d_294_601 d_294_602 g1 (by omega) hL ?_
  refine rn_a3 d_294_603 d_294_604 d_294_605 d_294_606 d_294_607 g1 (by omega) hL ?_
  refine rn_iv (b := 146) (as := [.int (xs (i + 1)), .int (xs (i + 2)), .int (xs (i + 3))]) (al0 := [some (.ref 146), some (.int (xs (i + 1))), some (.int (xs (i + 2))), some (.int (xs (i + 3))), none, none, none, none]) (r := [.int v]) d_294_608 lm_57 lz_238.1 rfl rfl (by decide) (by rw [lz_238.2]; exact hfs2) (by rw [lz_238.2]; decide) rfl hv2 (fun r3 h3 hx => ?_)
  obtain ⟨e3, hI3⟩ := hx
  obtain rfl := e3
  show RN 81 294 611 [some (.ref 1), some (.ref 2), some (.ref 146), some (.int (nI i))] [.int v, .int v] h3 Q
  exact rn_eq d_294_611 (by decide) (hk h3 hI3)
theorem lw_c10 {n L i : Nat} {xs : Nat → Int32} {h : AH} {Q : Option Value → AH → Prop} (hI : LwI n L xs h) (hn : n ≤ 10000) (hi : i + 5 < L) (hL : L ≤ 3072) (hk : ∀ h', LwI (n + 1) L xs h' → RN 81 294 1807 [some (.ref 1), some (.ref 2), some (.ref 146), some (.int (nI i))] [] h' Q) : RN 81 294 616 [some (.ref 1), some (.ref 2), some (.ref 146), some (.int (nI i))] [] h Q := by
  obtain ⟨S, G, B, J, R, g, A, W, hC, hR, h1, hWC, hWR⟩ := hI
  obtain ⟨fs, hfs⟩ := lw_2 hC hWC.1.1
  obtain ⟨v, hv⟩ := lw_tie (alc := [some (.ref 2), some (.int (xs (i + 1))), some (.int (xs (i + 2))), some (.int (xs (i + 3)))]) (alr := [some (.ref 146), some (.int (xs (i + 1))), some (.int (xs (i + 2))), some (.int (xs (i + 3))), none, none]) hC hR h1 hWC.1.1.1 (T_extend (J := J) hWC hWR hn)
  refine rn_nx (pc' := 617) (al' := [some (.ref 1), some (.ref 2), some (.ref 146), some (.int (nI i))]) (st' := [.ref 2]) (h' := h) d_294_616 rfl ?_
  refine rn_a1 d_294_617 d_294_618 d_294_619 d_294_620 d_294_621 h1 (by omega) hL ?_
  refine rn_a2 d_294_622 d_294_623 d_294_624 d_294_625 d_294_626 h1 (by omega) hL ?_
  refine rn_a3 d_294_627 d_294_628 d_294_629 d_294_630 d_294_631 h1 (by omega) hL ?_
  refine rn_iv (b := 2) (as := [.int (xs (i + 1)), .int (xs (i + 2)), .int (xs (i + 3))]) (al0 := [some (.ref 2), some (.int (xs (i + 1))), some (.int (xs (i + 2))), some (.int (xs (i + 3)))]) (r := []) d_294_632 lm_58 lz_133.1 rfl rfl (by decide) (by rw [lz_133.2]; exact hfs) (by rw [lz_133.2]; decide) rfl hv (fun r2 h2 hx => ?_)
  obtain ⟨e2, g1, ⟨fs2, hfs2⟩, hv2⟩ := hx
  obtain rfl := e2
  show RN 81 294 635 [some (.ref 1), some (.ref 2), some (.ref 146), some (.int (nI i))] [.int v] h2 Q
  refine rn_nx (pc' := 636) (al' := [some (.ref 1), some (.ref 2), some (.ref 146), some (.int (nI i))]) (st' := [.ref 146, .int v]) (h' := h2) d_294_635 rfl ?_
  refine rn_a1 d_294_636 d_294_637 d_294_638 d_294_639 d_294_640 g1 (by omega) hL ?_
  refine rn_a2 d_294_641 d_294_642 d_294_643 d_294_644 d_294_645 g1 (by omega) hL ?_
  refine rn_a3 d_294_646 d_294_647 d_294_648 d_294_649 d_294_650 g1 (by omega) hL ?_
  refine rn_iv (b := 146) (as := [.int (xs (i + 1)), .int (xs (i + 2)), .int (xs (i + 3))]) (al0 := [some (.ref 146), some (.int (xs (i + 1))), some (.int (xs (i + 2))), some (.int (xs (i + 3))), none, none]) (r := [.int v]) d_294_651 lm_61 lz_239.1 rfl rfl (by decide) (by rw [lz_239.2]; exact hfs2) (by rw [lz_239.2]; decide) rfl hv2 (fun r3 h3 hx => ?_)
  obtain ⟨e3, hI3⟩ := hx
  obtain rfl := e3
  show RN 81 294 654 [some (.ref 1), some (.ref 2), some (.ref 146), some (.int (nI i))] [.int v, .int v] h3 Q
  exact rn_eq d_294_654 (by decide) (hk h3 hI3)
theorem lw_c11 {n L i : Nat} {xs : Nat → Int32} {h : AH} {Q : Option Value → AH → Prop} (hI : LwI n L xs h) (hn : n ≤ 10000) (hi : i + 5 < L) (hL : L ≤ 3072) (hk : ∀ h', LwI (n + 1) L xs h' → RN 81 294 1807 [some (.ref 1), some (.ref 2), some (.ref 146), some (.int (nI i))] [] h' Q) : RN 81 294 659 [some (.ref 1), some (.ref 2), some (.ref 146), some (.int (nI i))] [] h Q := by
  obtain ⟨S, G, B, J, R, g, A, W, hC, hR, h1, hWC, hWR⟩ := hI
  obtain ⟨fs, hfs⟩ := lw_2 hC hWC.1.1
  obtain ⟨v, hv⟩ := lw_tie (alc := [some (.ref 2), some (.int (xs (i + 1))), some (.int (xs (i + 2))), some (.int (xs (i + 3))), none]) (alr := [some (.ref 146), some (.int (xs (i + 1))), some (.int (xs (i + 2))), some (.int (xs (i + 3))), none, none, none, none, none, none]) hC hR h1 hWC.1.1.1 (T_quotient (J := J) hWC hWR hn)
  refine rn_nx (pc' := 660) (al' := [some (.ref 1), some (.ref 2), some (.ref 146), some (.int (nI i))]) (st' := [.ref 2]) (h' := h) d_294_659 rfl ?_
  refine rn_a1 d_294_660 d_294_661 d_294_662 d_294_663 d_294_664 h1 (by omega) hL ?_
  refine rn_a2 d_294_665 d_294_666 d_294_667 d_294_668 d_294_669 h1 (by omega) hL ?_
  refine rn_a3 d_294_670 d_294_671 d_294_672 d_294_673 d_294_674 h1 (by omega) hL ?_
  refine rn_iv (b := 2) (as := [.int (xs (i + 1)), .int (xs (i + 2)), .int (xs (i + 3))]) (al0 := [some (.ref 2), some (.int (xs (i + 1))), some (.int (xs (i + 2))), some (.int (xs (i + 3))), none]) (r := []) d_294_675 lm_62 lz_134.1 rfl rfl (by decide) (by rw [lz_134.2]; exact hfs) (by rw [lz_134.2]; decide) rfl hv (fun r2 h2 hx => ?_)
  obtain ⟨e2, g1, ⟨fs2, hfs2⟩, hv2⟩ := hx
  obtain rfl := e2
  show RN 81 294 678 [some (.ref 1), some (.ref 2), some (.ref 146), some (.int (nI i))] [.int v] h2 Q
  refine rn_nx (pc' := 679) (al' := [some (.ref 1), some (.ref 2), some (.ref 146), some (.int (nI i))]) (st' := [.ref 146, .int v]) (h' := h2) d_294_678 rfl ?_
  refine rn_a1 d_294_679 d_294_680 d_294_681 d_294_682 d_294_683 g1 (by omega) hL ?_
  refine rn_a2 d_294_684 d_294_685 d_294_686 d_294_687 d_294_688 g1 (by omega) hL ?_
  refine rn_a3 d_294_689 d_294_690 d_294_691 d_294_692 d_294_693 g1 (by omega) hL ?_
  refine rn_iv (b := 146) (as := [.int (xs (i + 1)), .int (xs (i + 2)), .int (xs (i + 3))]) (al0 := [some (.ref 146), some (.int (xs (i + 1))), some (.int (xs (i + 2))), some (.int (xs (i + 3))), none, none, none, none, none, none]) (r := [.int v]) d_294_694 lm_65 lz_242.1 rfl rfl (by decide) (by rw [lz_242.2]; exact hfs2) (by rw [lz_242.2]; decide) rfl hv2 (fun r3 h3 hx => ?_)
  obtain ⟨e3, hI3⟩ := hx
  obtain rfl := e3
  show RN 81 294 697 [some (.ref 1), some (.ref 2), some (.ref 146), some (.int (nI i))] [.int v, .int v] h3 Q
  exact rn_eq d_294_697 (by decide) (hk h3 hI3)
theorem lw_c12 {n L i : Nat} {xs : Nat → Int32} {h : AH} {Q : Option Value → AH → Prop} (hI : LwI n L xs h) (hn : n ≤ 10000) (hi : i + 5 < L) (hL : L ≤ 3072) (hk : ∀ h', LwI (n + 1) L xs h' → RN 81 294 1807 [some (.ref 1), some (.ref 2), some (.ref 146), some (.int (nI i))] [] h' Q) : RN 81 294 702 [some (.ref 1), some (.ref 2), some (.ref 146), some (.int (nI i))] [] h Q := by
  obtain ⟨S, G, B, J, R, g, A, W, hC, hR, h1, hWC, hWR⟩ := hI
  obtain ⟨fs, hfs⟩ := lw_2 hC hWC.1.1
  obtain ⟨v, hv⟩ := lw_tie (alc := [some (.ref 2)]) (alr := [some (.ref 146), none, none]) hC hR h1 hWC.1.1.1 (T_undo (J := J) hWC hWR hn)
  refine rn_nx (pc' := 703) (al' := [some (.ref 1), some (.ref 2), some (.ref 146), some (.int (nI i))]) (st' := [.ref 2]) (h' := h) d_294_702 rfl ?_
  refine rn_iv (b := 2) (as := []) (al0 := [some (.ref 2)]) (r := []) d_294_703 lm_66 lz_135.1 rfl rfl (by decide) (by rw [lz_135.2]; exact hfs) (by rw [lz_135.2]; decide) rfl hv (fun r2 h2 hx => ?_)
  obtain ⟨e2, g1, ⟨fs2, hfs2⟩, hv2⟩ := hx
  obtain rfl := e2
  show RN 81 294 706 [some (.ref 1), some (.ref 2), some (.ref 146), some (.int (nI i))] [.int v] h2 Q
  refine rn_nx (pc' := 707) (al' := [some (.ref 1), some (.ref 2), some (.ref 146), some (.int (nI i))]) (st' := [.ref 146, .int v]) (h' := h2) d_294_706 rfl ?_
  refine rn_iv (b := 146) (as := []) (al0 := [some (.ref 146), none, none]) (r := [.int v]) d_294_707 lm_70 lz_187.1 rfl rfl (by decide) (by rw [lz_187.2]; exact hfs2) (by rw [lz_187.2]; decide) rfl hv2 (fun r3 h3 hx => ?_)
  obtain ⟨e3, hI3⟩ := hx
  obtain rfl := e3
  show RN 81 294 710 [some (.ref 1), some (.ref 2), some (.ref 146), some (.int (nI i))] [.int v, .int v] h3 Q
  exact rn_eq d_294_710 (by decide) (hk h3 hI3)
theorem lw_c13 {n L i : Nat} {xs : Nat → Int32} {h : AH} {Q : Option Value → AH → Prop} (hI : LwI n L xs h) (hn : n ≤ 10000) (hi : i + 5 < L) (hL : L ≤ 3072) (hk : ∀ h', LwI (n + 1) L xs h' → RN 81 294 1807 [some (.ref 1), some (.ref 2), some (.ref 146), some (.int (nI i))] [] h' Q) : RN 81 294 715 [some (.ref 1), some (.ref 2), some (.ref 146), some (.int (nI i))] [] h Q := by
  obtain ⟨S, G, B, J, R, g, A, W, hC, hR, h1, hWC, hWR⟩ := hI
  obtain ⟨fs, hfs⟩ := lw_2 hC hWC.1.1
  obtain ⟨v, hv⟩ := lw_tie (alc := [some (.ref 2)]) (alr := [some (.ref 146), none, none]) hC hR h1 hWC.1.1.1 (T_redo (J := J) hWC hWR hn)
  refine rn_nx (pc' := 716) (al' := [some (.ref 1), some (.ref 2), some (.ref 146), some (.int (nI i))]) (st' := [.ref 2]) (h' := h) d_294_715 rfl ?_
  refine rn_iv (b := 2) (as := []) (al0 := [some (.ref 2)]) (r := []) d_294_716 lm_71 lz_136.1 rfl rfl (by decide) (by rw [lz_136.2]; exact hfs) (by rw [lz_136.2]; decide) rfl hv (fun r2 h2 hx => ?_)
  obtain ⟨e2, g1, ⟨fs2, hfs2⟩, hv2⟩ := hx
  obtain rfl := e2
  show RN 81 294 719 [some (.ref 1), some (.ref 2), some (.ref 146), some (.int (nI i))] [.int v] h2 Q
  refine rn_nx (pc' := 720) (al' := [some (.ref 1), some (.ref 2), some (.ref 146), some (.int (nI i))]) (st' := [.ref 146, .int v]) (h' := h2) d_294_719 rfl ?_
  refine rn_iv (b := 146) (as := []) (al0 := [some (.ref 146), none, none]) (r := [.int v]) d_294_720 lm_74 lz_188.1 rfl rfl (by decide) (by rw [lz_188.2]; exact hfs2) (by rw [lz_188.2]; decide) rfl hv2 (fun r3 h3 hx => ?_)
  obtain ⟨e3, hI3⟩ := hx
  obtain rfl := e3
  show RN 81 294 723 [some (.ref 1), some (.ref 2), some (.ref 146), some (.int (nI i))] [.int v, .int v] h3 Q
  exact rn_eq d_294_723 (by decide) (hk h3 hI3)
theorem lw_c14 {n L i : Nat} {xs : Nat → Int32} {h : AH} {Q : Option Value → AH → Prop} (hI : LwI n L xs h) (hn : n ≤ 10000) (hi : i + 5 < L) (hL : L ≤ 3072) (hk : ∀ h', LwI (n + 1) L xs h' → RN 81 294 1807 [some (.ref 1), some (.ref 2), some (.ref 146), some (.int (nI i))] [] h' Q) : RN 81 294 728 [some (.ref 1), some (.ref 2), some (.ref 146), some (.int (nI i))] [] h Q := by
  obtain ⟨S, G, B, J, R, g, A, W, hC, hR, h1, hWC, hWR⟩ := hI
  obtain ⟨fs, hfs⟩ := lw_2 hC hWC.1.1
  obtain ⟨v, hv⟩ := lw_tie (alc := [some (.ref 2), some (.int (xs (i + 1)))]) (alr := [some (.ref 146), some (.int (xs (i + 1)))]) hC hR h1 hWC.1.1.1 (T_order (J := J) hWC hWR hn)
  refine rn_nx (pc' := 729) (al' := [some (.ref 1), some (.ref 2), some (.ref 146), some (.int (nI i))]) (st' := [.ref 2]) (h' := h) d_294_728 rfl ?_
  refine rn_a1 d_294_729 d_294_730 d_294_731 d_294_732 d_294_733 h1 (by omega) hL ?_
  refine rn_iv (b := 2) (as := [.int (xs (i + 1))]) (al0 := [some (.ref 2), some (.int (xs (i + 1)))]) (r := []) d_294_734 lm_75 lz_137.1 rfl rfl (by decide) (by rw [lz_137.2]; exact hfs) (by rw [lz_137.2]; decide) rfl hv (fun r2 h2 hx => ?_)
  obtain ⟨e2, g1, ⟨fs2, hfs2⟩, hv2⟩ := hx
  obtain rfl := e2
  show RN 81 294 737 [some (.ref 1), some (.ref 2), some (.ref 146), some (.int (nI i))] [.int v] h2 Q
  refine rn_nx (pc' := 738) (al' := [some (.ref 1), some (.ref 2), some (.ref 146), some (.int (nI i))]) (st' := [.ref 146, .int v]) (h' := h2) d_294_737 rfl ?_
  refine rn_a1 d_294_738 d_294_739 d_294_740 d_294_741 d_294_742 g1 (by omega) hL ?_
  refine rn_iv (b := 146) (as := [.int (xs (i + 1))]) (al0 := [some (.ref 146), some (.int (xs (i + 1)))]) (r := [.int v]) d_294_743 lm_78 lz_183.1 rfl rfl (by decide) (by rw [lz_183.2]; exact hfs2) (by rw [lz_183.2]; decide) rfl hv2 (fun r3 h3 hx => ?_)
  obtain ⟨e3, hI3⟩ := hx
  obtain rfl := e3
  show RN 81 294 746 [some (.ref 1), some (.ref 2), some (.ref 146), some (.int (nI i))] [.int v, .int v] h3 Q
  exact rn_eq d_294_746 (by decide) (hk h3 hI3)
theorem lw_c15 {n L i : Nat} {xs : Nat → Int32} {h : AH} {Q : Option Value → AH → Prop} (hI : LwI n L xs h) (hn : n ≤ 10000) (hi : i + 5 < L) (hL : L ≤ 3072) (hk : ∀ h', LwI (n + 1) L xs h' → RN 81 294 1807 [some (.ref 1), some (.ref 2), some (.ref 146), some (.int (nI i))] [] h' Q) : RN 81 294 751 [some (.ref 1), some (.ref 2), some (.ref 146), some (.int (nI i))] [] h Q := by
  obtain ⟨S, G, B, J, R, g, A, W, hC, hR, h1, hWC, hWR⟩ := hI
  obtain ⟨fs, hfs⟩ := lw_2 hC hWC.1.1
  obtain ⟨v, hv⟩ := lw_tie (alc := [some (.ref 2), some (.int (xs (i + 1))), some (.int (xs (i + 2))), some (.int (xs (i + 3))), some (.int (xs (i + 4))), none]) (alr := [some (.ref 146), some (.int (xs (i + 1))), some (.int (xs (i + 2))), some (.int (xs (i + 3))), some (.int (xs (i + 4)))]) hC hR h1 hWC.1.1.1 (T_at (J := J) hWC hWR hn)
  refine rn_nx (pc' := 752) (al' := [some (.ref 1), some (.ref 2), some (.ref 146), some (.int (nI i))]) (st' := [.ref 2]) (h' := h) d_294_751 rfl ?_
  refine rn_a1 d_294_752 d_294_753 d_294_754 d_294_755 d_294_756 h1 (by omega) hL ?_
  refine rn_a2 d_294_757 d_294_758 d_294_759 d_294_760 d_294_761 h1 (by omega) hL ?_
  refine rn_a3 d_294_762 d_294_763 d_294_764 d_294_765 d_294_766 h1 (by omega) hL ?_
  refine rn_a4 d_294_767 d_294_768 d_294_769 d_294_770 d_294_771 h1 (by omega) hL ?_
  refine rn_iv (b := 2) (as := [.int (xs (i + 1)), .int (xs (i + 2)), .int (xs (i + 3)), .int (xs (i + 4))]) (al0 := [some (.ref 2), some (.int (xs (i + 1))), some (.int (xs (i + 2))), some (.int (xs (i + 3))), some (.int (xs (i + 4))), none]) (r := []) d_294_772 lm_79 lz_138.1 rfl rfl (by decide) (by rw [lz_138.2]; exact hfs) (by rw [lz_138.2]; decide) rfl hv (fun r2 h2 hx => ?_)
  obtain ⟨e2, g1, ⟨fs2, hfs2⟩, hv2⟩ := hx
  obtain rfl := e2
  show RN 81 294 775 [some (.ref 1), some (.ref 2), some (.ref 146), some (.int (nI i))] [.int v] h2 Q
  refine rn_nx (pc' := 776) (al' := [some (.ref 1), some (.ref 2), some (.ref 146), some (.int (nI i))]) (st' := [.ref 146, .int v]) (h' := h2) d_294_775 rfl ?_
  refine rn_a1 d_294_776 d_294_777 d_294_778 d_294_779 d_294_780 g1 (by omega) hL ?_
  refine rn_a2 d_294_781 d_294_782 d_294_783 d_294_784 d_294_785 g1 (by omega) hL ?_
  refine rn_a3 d_294_786 d_294_787 d_294_788 d_294_789 d_294_790 g1 (by omega) hL ?_
  refine rn_a4 d_294_791 d_294_792 d_294_793 d_294_794 d_294_795 g1 (by omega) hL ?_
  refine rn_iv (b := 146) (as := [.int (xs (i + 1)), .int (xs (i + 2)), .int (xs (i + 3)), .int (xs (i + 4))]) (al0 := [some (.ref 146), some (.int (xs (i + 1))), some (.int (xs (i + 2))), some (.int (xs (i + 3))), some (.int (xs (i + 4)))]) (r := [.int v]) d_294_796 lm_82 lz_240.1 rfl rfl (by decide) (by rw [lz_240.2]; exact hfs2) (by rw [lz_240.2]; decide) rfl hv2 (fun r3 h3 hx => ?_)
  obtain ⟨e3, hI3⟩ := hx
  obtain rfl := e3
  show RN 81 294 799 [some (.ref 1), some (.ref 2), some (.ref 146), some (.int (nI i))] [.int v, .int v] h3 Q
  exact rn_eq d_294_799 (by decide) (hk h3 hI3)
theorem lw_c16 {n L i : Nat} {xs : Nat → Int32} {h : AH} {Q : Option Value → AH → Prop} (hI : LwI n L xs h) (hn : n ≤ 10000) (hi : i + 5 < L) (hL : L ≤ 3072) (hk : ∀ h', LwI (n + 1) L xs h' → RN 81 294 1807 [some (.ref 1), some (.ref 2), some (.ref 146), some (.int (nI i))] [] h' Q) : RN 81 294 804 [some (.ref 1), some (.ref 2), some (.ref 146), some (.int (nI i))] [] h Q := by
  obtain ⟨S, G, B, J, R, g, A, W, hC, hR, h1, hWC, hWR⟩ := hI
  obtain ⟨fs, hfs⟩ := lw_2 hC hWC.1.1
  obtain ⟨v, hv⟩ := lw_tie (alc := [some (.ref 2), some (.int (xs (i + 1))), some (.int (xs (i + 2)))]) (alr := [some (.ref 146), some (.int (xs (i + 1))), some (.int (xs (i + 2)))]) hC hR h1 hWC.1.1.1 (T_unit (J := J) hWC hWR hn)
  refine rn_nx (pc' := 805) (al' := [some (.ref 1), some (.ref 2), some (.ref 146), some (.int (nI i))]) (st' := [.ref 2]) (h' := h) d_294_804 rfl ?_
  refine rn_a1 d_294_805 d_294_806 d_294_807 d_294_808 d_294_809 h1 (by omega) hL ?_
  refine rn_a2 d_294_810 d_294_811 d_294_812 d_294_813 d_294_814 h1 (by omega) hL ?_
  refine rn_iv (b := 2) (as := [.int (xs (i + 1)), .int (xs (i + 2))]) (al0 := [some (.ref 2), some (.int (xs (i + 1))), some (.int (xs (i + 2)))]) (r := []) d_294_815 lm_83 lz_139.1 rfl rfl (by decide) (by rw [lz_139.2]; exact hfs) (by rw [lz_139.2]; decide) rfl hv (fun r2 h2 hx => ?_)
  obtain ⟨e2, g1, ⟨fs2, hfs2⟩, hv2⟩ := hx
  obtain rfl := e2
  show RN 81 294 818 [some (.ref 1), some (.ref 2), some (.ref 146), some (.int (nI i))] [.int v] h2 Q
  refine rn_nx (pc' := 819) (al' := [some (.ref 1), some (.ref 2), some (.ref 146), some (.int (nI i))]) (st' := [.ref 146, .int v]) (h' := h2) d_294_818 rfl ?_
  refine rn_a1 d_294_819 d_294_820 d_294_821 d_294_822 d_294_823 g1 (by omega) hL ?_
  refine rn_a2 d_294_824 d_294_825 d_294_826 d_294_827 d_294_828 g1 (by omega) hL ?_
  refine rn_iv (b := 146) (as := [.int (xs (i + 1)), .int (xs (i + 2))]) (al0 := [some (.ref 146), some (.int (xs (i + 1))), some (.int (xs (i + 2)))]) (r := [.int v]) d_294_829 lm_86 lz_241.1 rfl rfl (by decide) (by rw [lz_241.2]; exact hfs2) (by rw [lz_241.2]; decide) rfl hv2 (fun r3 h3 hx => ?_)
  obtain ⟨e3, hI3⟩ := hx
  obtain rfl := e3
  show RN 81 294 832 [some (.ref 1), some (.ref 2), some (.ref 146), some (.int (nI i))] [.int v, .int v] h3 Q
  exact rn_eq d_294_832 (by decide) (hk h3 hI3)
theorem lw_c17 {n L i : Nat} {xs : Nat → Int32} {h : AH} {Q : Option Value → AH → Prop} (hI : LwI n L xs h) (hn : n ≤ 10000) (hi : i + 5 < L) (hL : L ≤ 3072) (hk : ∀ h', LwI (n + 1) L xs h' → RN 81 294 1807 [some (.ref 1), some (.ref 2), some (.ref 146), some (.int (nI i))] [] h' Q) : RN 81 294 837 [some (.ref 1), some (.ref 2), some (.ref 146), some (.int (nI i))] [] h Q := by
  obtain ⟨S, G, B, J, R, g, A, W, hC, hR, h1, hWC, hWR⟩ := hI
  obtain ⟨fs, hfs⟩ := lw_2 hC hWC.1.1
  obtain ⟨v, hv⟩ := lw_tie (alc := [some (.ref 2), none, none]) (alr := [some (.ref 146), none, none]) hC hR h1 hWC.1.1.1 (T_law (J := J) hWC hWR hn)
  refine rn_nx (pc' := 838) (al' := [some (.ref 1), some (.ref 2), some (.ref 146), some (.int (nI i))]) (st' := [.ref 2]) (h' := h) d_294_837 rfl ?_
  refine rn_iv (b := 2) (as := []) (al0 := [some (.ref 2), none, none]) (r := []) d_294_838 lm_87 lz_140.1 rfl rfl (by decide) (by rw [lz_140.2]; exact hfs) (by rw [lz_140.2]; decide) rfl hv (fun r2 h2 hx => ?_)
  obtain ⟨e2, g1, ⟨fs2, hfs2⟩, hv2⟩ := hx
  obtain rfl := e2
  show RN 81 294 841 [some (.ref 1), some (.ref 2), some (.ref 146), some (.int (nI i))] [.int v] h2 Q
  refine rn_nx (pc' := 842) (al' := [some (.ref 1), some (.ref 2), some (.ref 146), some (.int (nI i))]) (st' := [.ref 146, .int v]) (h' := h2) d_294_841 rfl ?_
  refine rn_iv (b := 146) (as := []) (al0 := [some (.ref 146), none, none]) (r := [.int v]) d_294_842 lm_90 lz_191.1 rfl rfl (by decide) (by rw [lz_191.2]; exact hfs2) (by rw [lz_191.2]; decide) rfl hv2 (fun r3 h3 hx => ?_)
  obtain ⟨e3, hI3⟩ := hx
  obtain rfl := e3
  show RN 81 294 845 [some (.ref 1), some (.ref 2), some (.ref 146), some (.int (nI i))] [.int v, .int v] h3 Q
  exact rn_eq d_294_845 (by decide) (hk h3 hI3)
theorem lw_c18 {n L i : Nat} {xs : Nat → Int32} {h : AH} {Q : Option Value → AH → Prop} (hI : LwI n L xs h) (hn : n ≤ 10000) (hi : i + 5 < L) (hL : L ≤ 3072) (hk : ∀ h', LwI (n + 1) L xs h' → RN 81 294 1807 [some (.ref 1), some (.ref 2), some (.ref 146), some (.int (nI i))] [] h' Q) : RN 81 294 850 [some (.ref 1), some (.ref 2), some (.ref 146), some (.int (nI i))] [] h Q := by
  obtain ⟨S, G, B, J, R, g, A, W, hC, hR, h1, hWC, hWR⟩ := hI
  obtain ⟨fs, hfs⟩ := lw_2 hC hWC.1.1
  obtain ⟨v, hv⟩ := lw_tie (alc := [some (.ref 2)]) (alr := [some (.ref 146)]) hC hR h1 hWC.1.1.1 (T_fault (J := J) hWC hWR hn)
  refine rn_nx (pc' := 851) (al' := [some (.ref 1), some (.ref 2), some (.ref 146), some (.int (nI i))]) (st' := [.ref 2]) (h' := h) d_294_850 rfl ?_
  refine rn_iv (b := 2) (as := []) (al0 := [some (.ref 2)]) (r := []) d_294_851 lm_91 lz_141.1 rfl rfl (by decide) (by rw [lz_141.2]; exact hfs) (by rw [lz_141.2]; decide) rfl hv (fun r2 h2 hx => ?_)
  obtain ⟨e2, g1, ⟨fs2, hfs2⟩, hv2⟩ := hx
  obtain rfl := e2
  show RN 81 294 854 [some (.ref 1), some (.ref 2), some (.ref 146), some (.int (nI i))] [.int v] h2 Q
  refine rn_nx (pc' := 855) (al' := [some (.ref 1), some (.ref 2), some (.ref 146), some (.int (nI i))]) (st' := [.ref 146, .int v]) (h' := h2) d_294_854 rfl ?_
  refine rn_iv (b := 146) (as := []) (al0 := [some (.ref 146)]) (r := [.int v]) d_294_855 lm_94 lz_205.1 rfl rfl (by decide) (by rw [lz_205.2]; exact hfs2) (by rw [lz_205.2]; decide) rfl hv2 (fun r3 h3 hx => ?_)
  obtain ⟨e3, hI3⟩ := hx
  obtain rfl := e3
  show RN 81 294 858 [some (.ref 1), some (.ref 2), some (.ref 146), some (.int (nI i))] [.int v, .int v] h3 Q
  exact rn_eq d_294_858 (by decide) (hk h3 hI3)
theorem lw_c19 {n L i : Nat} {xs : Nat → Int32} {h : AH} {Q : Option Value → AH → Prop} (hI : LwI n L xs h) (hn : n ≤ 10000) (hi : i + 5 < L) (hL : L ≤ 3072) (hk : ∀ h', LwI (n + 1) L xs h' → RN 81 294 1807 [some (.ref 1), some (.ref 2), some (.ref 146), some (.int (nI i))] [] h' Q) : RN 81 294 863 [some (.ref 1), some (.ref 2), some (.ref 146), some (.int (nI i))] [] h Q := by
  obtain ⟨S, G, B, J, R, g, A, W, hC, hR, h1, hWC, hWR⟩ := hI
  obtain ⟨fs, hfs⟩ := lw_2 hC hWC.1.1
  obtain ⟨v, hv⟩ := lw_tie (alc := [some (.ref 2), some (.int (xs (i + 1))), some (.int (xs (i + 2)))]) (alr := [some (.ref 146), some (.int (xs (i + 1))), some (.int (xs (i + 2)))]) hC hR h1 hWC.1.1.1 (T_holds (J := J) hWC hWR hn)
  refine rn_nx (pc' := 864) (al' := [some (.ref 1), some (.ref 2), some (.ref 146), some (.int (nI i))]) (st' := [.ref 2]) (h' := h) d_294_863 rfl ?_
  refine rn_a1 d_294_864 d_294_865 d_294_866 d_294_867 d_294_868 h1 (by omega) hL ?_
  refine rn_a2 d_294_869 d_294_870 d_294_871 d_294_872 d_294_873 h1 (by omega) hL ?_
  refine rn_iv (b := 2) (as := [.int (xs (i + 1)), .int (xs (i + 2))]) (al0 := [some (.ref 2), some (.int (xs (i + 1))), some (.int (xs (i + 2)))]) (r := []) d_294_874 lm_95 lz_142.1 rfl rfl (by decide) (by rw [lz_142.2]; exact hfs) (by rw [lz_142.2]; decide) rfl hv (fun r2 h2 hx => ?_)
  obtain ⟨e2, g1, ⟨fs2, hfs2⟩, hv2⟩ := hx
  obtain rfl := e2
  show RN 81 294 877 [some (.ref 1), some (.ref 2), some (.ref 146), some (.int (nI i))] [.int v] h2 Q
  refine rn_nx (pc' := 878) (al' := [some (.ref 1), some (.ref 2), some (.ref 146), some (.int (nI i))]) (st' := [.ref 146, .int v]) (h' := h2) d_294_877 rfl ?_
  refine rn_a1 d_294_878 d_294_879 d_294_880 d_294_881 d_294_882 g1 (by omega) hL ?_
  refine rn_a2 d_294_883 d_294_884 d_294_885 d_294_886 d_294_887 g1 (by omega) hL ?_
  refine rn_iv (b := 146) (as := [.int (xs (i + 1)), .int (xs (i + 2))]) (al0 := [some (.ref 146), some (.int (xs (i + 1))), some (.int (xs (i + 2)))]) (r := [.int v]) d_294_888 lm_98 lz_206.1 rfl rfl (by decide) (by rw [lz_206.2]; exact hfs2) (by rw [lz_206.2]; decide) rfl hv2 (fun r3 h3 hx => ?_)
  obtain ⟨e3, hI3⟩ := hx
  obtain rfl := e3
  show RN 81 294 891 [some (.ref 1), some (.ref 2), some (.ref 146), some (.int (nI i))] [.int v, .int v] h3 Q
  exact rn_eq d_294_891 (by decide) (hk h3 hI3)
theorem lw_c20 {n L i : Nat} {xs : Nat → Int32} {h : AH} {Q : Option Value → AH → Prop} (hI : LwI n L xs h) (hn : n ≤ 10000) (hi : i + 5 < L) (hL : L ≤ 3072) (hk : ∀ h', LwI (n + 1) L xs h' → RN 81 294 1807 [some (.ref 1), some (.ref 2), some (.ref 146), some (.int (nI i))] [] h' Q) : RN 81 294 896 [some (.ref 1), some (.ref 2), some (.ref 146), some (.int (nI i))] [] h Q := by
  obtain ⟨S, G, B, J, R, g, A, W, hC, hR, h1, hWC, hWR⟩ := hI
  obtain ⟨fs, hfs⟩ := lw_2 hC hWC.1.1
  obtain ⟨v, hv⟩ := lw_tie (alc := [some (.ref 2), some (.int (xs (i + 1))), some (.int (xs (i + 2))), some (.int (xs (i + 3))), none]) (alr := [some (.ref 146), some (.int (xs (i + 1))), some (.int (xs (i + 2))), some (.int (xs (i + 3)))]) hC hR h1 hWC.1.1.1 (T_fails (J := J) hWC hWR hn)
  refine rn_nx (pc' := 897) (al' := [some (.ref 1), some (.ref 2), some (.ref 146), some (.int (nI i))]) (st' := [.ref 2]) (h' := h) d_294_896 rfl ?_
  refine rn_a1 d_294_897 d_294_898 d_294_899 d_294_900 d_294_901 h1 (by omega) hL ?_
  refine rn_a2 d_294_902 d_294_903 d_294_904 d_294_905 d_294_906 h1 (by omega) hL ?_
  refine rn_a3 d_294_907 d_294_908 d_294_909 d_294_910 d_294_911 h1 (by omega) hL ?_
  refine rn_iv (b := 2) (as := [.int (xs (i + 1)), .int (xs (i + 2)), .int (xs (i + 3))]) (al0 := [some (.ref 2), some (.int (xs (i + 1))), some (.int (xs (i + 2))), some (.int (xs (i + 3))), none]) (r := []) d_294_912 lm_99 lz_144.1 rfl rfl (by decide) (by rw [lz_144.2]; exact hfs) (by rw [lz_144.2]; decide) rfl hv (fun r2 h2 hx => ?_)
  obtain ⟨e2, g1, ⟨fs2, hfs2⟩, hv2⟩ := hx
  obtain rfl := e2
  show RN 81 294 915 [some (.ref 1), some (.ref 2), some (.ref 146), some (.int (nI i))] [.int v] h2 Q
  refine rn_nx (pc' := 916) (al' := [some (.ref 1), some (.ref 2), some (.ref 146), some (.int (nI i))]) (st' := [.ref 146, .int v]) (h' := h2) d_294_915 rfl ?_
  refine rn_a1 d_294_916 d_294_917 d_294_918 d_294_919 d_294_920 g1 (by omega) hL ?_
  refine rn_a2 d_294_921 d_294_922 d_294_923 d_294_924 d_294_925 g1 (by omega) hL ?_
  refine rn_a3 d_294_926 d_294_927 d_294_928 d_294_929 d_294_930 g1 (by omega) hL ?_
  refine rn_iv (b := 146) (as := [.int (xs (i + 1)), .int (xs (i + 2)), .int (xs (i + 3))]) (al0 := [some (.ref 146), some (.int (xs (i + 1))), some (.int (xs (i + 2))), some (.int (xs (i + 3)))]) (r := [.int v]) d_294_931 lm_102 lz_221.1 rfl rfl (by decide) (by rw [lz_221.2]; exact hfs2) (by rw [lz_221.2]; decide) rfl hv2 (fun r3 h3 hx => ?_)
  obtain ⟨e3, hI3⟩ := hx
  obtain rfl := e3
  show RN 81 294 934 [some (.ref 1), some (.ref 2), some (.ref 146), some (.int (nI i))] [.int v, .int v] h3 Q
  exact rn_eq d_294_934 (by decide) (hk h3 hI3)
theorem lw_c21 {n L i : Nat} {xs : Nat → Int32} {h : AH} {Q : Option Value → AH → Prop} (hI : LwI n L xs h) (hn : n ≤ 10000) (hi : i + 5 < L) (hL : L ≤ 3072) (hk : ∀ h', LwI (n + 1) L xs h' → RN 81 294 1807 [some (.ref 1), some (.ref 2), some (.ref 146), some (.int (nI i))] [] h' Q) : RN 81 294 939 [some (.ref 1), some (.ref 2), some (.ref 146), some (.int (nI i))] [] h Q := by
  obtain ⟨S, G, B, J, R, g, A, W, hC, hR, h1, hWC, hWR⟩ := hI
  obtain ⟨fs, hfs⟩ := lw_2 hC hWC.1.1
  obtain ⟨v, hv⟩ := lw_tie (alc := [some (.ref 2), some (.int (xs (i + 1))), some (.int (xs (i + 2))), some (.int (xs (i + 3)))]) (alr := [some (.ref 146), some (.int (xs (i + 1))), some (.int (xs (i + 2))), some (.int (xs (i + 3)))]) hC hR h1 hWC.1.1.1 (T_listed (J := J) hWC hWR hn)
  refine rn_nx (pc' := 940) (al' := [some (.ref 1), some (.ref 2), some (.ref 146), some (.int (nI i))]) (st' := [.ref 2]) (h' := h) d_294_939 rfl ?_
  refine rn_a1 d_294_940 d_294_941 d_294_942 d_294_943 d_294_944 h1 (by omega) hL ?_
  refine rn_a2 d_294_945 d_294_946 d_294_947 d_294_948 d_294_949 h1 (by omega) hL ?_
  refine rn_a3 d_294_950 d_294_951 d_294_952 d_294_953 d_294_954 h1 (by omega) hL ?_
  refine rn_iv (b := 2) (as := [.int (xs (i + 1)), .int (xs (i + 2)), .int (xs (i + 3))]) (al0 := [some (.ref 2), some (.int (xs (i + 1))), some (.int (xs (i + 2))), some (.int (xs (i + 3)))]) (r := []) d_294_955 lm_103 lz_145.1 rfl rfl (by decide) (by rw [lz_145.2]; exact hfs) (by rw [lz_145.2]; decide) rfl hv (fun r2 h2 hx => ?_)
  obtain ⟨e2, g1, ⟨fs2, hfs2⟩, hv2⟩ := hx
  obtain rfl := e2
  show RN 81 294 958 [some (.ref 1), some (.ref 2), some (.ref 146), some (.int (nI i))] [.int v] h2 Q
  refine rn_nx (pc' := 959) (al' := [some (.ref 1), some (.ref 2), some (.ref 146), some (.int (nI i))]) (st' := [.ref 146, .int v]) (h' := h2) d_294_958 rfl ?_
  refine rn_a1 d_294_959 d_294_960 d_294_961 d_294_962 d_294_963 g1 (by omega) hL ?_
  refine rn_a2 d_294_964 d_294_965 d_294_966 d_294_967 d_294_968 g1 (by omega) hL ?_
  refine rn_a3 d_294_969 d_294_970 d_294_971 d_294_972 d_294_973 g1 (by omega) hL ?_
  refine rn_iv (b := 146) (as := [.int (xs (i + 1)), .int (xs (i + 2)), .int (xs (i + 3))]) (al0 := [some (.ref 146), some (.int (xs (i + 1))), some (.int (xs (i + 2))), some (.int (xs (i + 3)))]) (r := [.int v]) d_294_974 lm_106 lz_271.1 rfl rfl (by decide) (by rw [lz_271.2]; exact hfs2) (by rw [lz_271.2]; decide) rfl hv2 (fun r3 h3 hx => ?_)
  obtain ⟨e3, hI3⟩ := hx
  obtain rfl := e3
  show RN 81 294 977 [some (.ref 1), some (.ref 2), some (.ref 146), some (.int (nI i))] [.int v, .int v] h3 Q
  exact rn_eq d_294_977 (by decide) (hk h3 hI3)
theorem lw_c22 {n L i : Nat} {xs : Nat → Int32} {h : AH} {Q : Option Value → AH → Prop} (hI : LwI n L xs h) (hn : n ≤ 10000) (hi : i + 5 < L) (hL : L ≤ 3072) (hk : ∀ h', LwI (n + 1) L xs h' → RN 81 294 1807 [some (.ref 1), some (.ref 2), some (.ref 146), some (.int (nI i))] [] h' Q) : RN 81 294 982 [some (.ref 1), some (.ref 2), some (.ref 146), some (.int (nI i))] [] h Q := by
  obtain ⟨S, G, B, J, R, g, A, W, hC, hR, h1, hWC, hWR⟩ := hI
  obtain ⟨fs, hfs⟩ := lw_2 hC hWC.1.1
  obtain ⟨v, hv⟩ := lw_tie (alc := [some (.ref 2), some (.int (xs (i + 1))), some (.int (xs (i + 2))), some (.int (xs (i + 3))), some (.int (xs (i + 4))), some (.int (xs (i + 5)))]) (alr := [some (.ref 146), some (.int (xs (i + 1))), some (.int (xs (i + 2))), some (.int (xs (i + 3))), some (.int (xs (i + 4))), some (.int (xs (i + 5)))]) hC hR h1 hWC.1.1.1 (T_find (J := J) hWC hWR hn)
  refine rn_nx (pc' := 983) (al' := [some (.ref 1), some (.ref 2), some (.ref 146), some (.int (nI i))]) (st' := [.ref 2]) (h' := h) d_294_982 rfl ?_
  refine rn_a1 d_294_983 d_294_984 d_294_985 d_294_986 d_294_987 h1 (by omega) hL ?_
  refine rn_a2 d_294_988 d_294_989 d_294_990 d_294_991 d_294_992 h1 (by omega) hL ?_
  refine rn_a3 d_294_993 d_294_994 d_294_995 d_294_996 d_294_997 h1 (by omega) hL ?_
  refine rn_a4 d_294_998 d_294_999 d_294_1000 d_294_1001 d_294_1002 h1 (by omega) hL ?_
  refine rn_a5 d_294_1003 d_294_1004 d_294_1005 d_294_1006 d_294_1007 h1 (by omega) hL ?_
  refine rn_iv (b := 2) (as := [.int (xs (i + 1)), .int (xs (i + 2)), .int (xs (i + 3)), .int (xs (i + 4)), .int (xs (i + 5))]) (al0 := [some (.ref 2), some (.int (xs (i + 1))), some (.int (xs (i + 2))), some (.int (xs (i + 3))), some (.int (xs (i + 4))), some (.int (xs (i + 5)))]) (r := []) d_294_1008 lm_107 lz_147.1 rfl rfl (by decide) (by rw [lz_147.2]; exact hfs) (by rw [lz_147.2]; decide) rfl hv (fun r2 h2 hx => ?_)
  obtain ⟨e2, g1, ⟨fs2, hfs2⟩, hv2⟩ := hx
  obtain rfl := e2
  show RN 81 294 1011 [some (.ref 1), some (.ref 2), some (.ref 146), some (.int (nI i))] [.int v] h2 Q
  refine rn_nx (pc' := 1012) (al' := [some (.ref 1), some (.ref 2), some (.ref 146), some (.int (nI i))]) (st' := [.ref 146, .int v]) (h' := h2) d_294_1011 rfl ?_
  refine rn_a1 d_294_1012 d_294_1013 d_294_1014 d_294_1015 d_294_1016 g1 (by omega) hL ?_
  refine rn_a2 d_294_1017 d_294_1018 d_294_1019 d_294_1020 d_294_1021 g1 (by omega) hL ?_
  refine rn_a3 d_294_1022 d_294_1023 d_294_1024 d_294_1025 d_294_1026 g1 (by omega) hL ?_
  refine rn_a4 d_294_1027 d_294_1028 d_294_1029 d_294_1030 d_294_1031 g1 (by omega) hL ?_
  refine rn_a5 d_294_1032 d_294_1033 d_294_1034 d_294_1035 d_294_1036 g1 (by omega) hL ?_
  refine rn_iv (b := 146) (as := [.int (xs (i + 1)), .int (xs (i + 2)), .int (xs (i + 3)), .int (xs (i + 4)), .int (xs (i + 5))]) (al0 := [some (.ref 146), some (.int (xs (i + 1))), some (.int (xs (i + 2))), some (.int (xs (i + 3))), some (.int (xs (i + 4))), some (.int (xs (i + 5)))]) (r := [.int v]) d_294_1037 lm_110 lz_277.1 rfl rfl (by decide) (by rw [lz_277.2]; exact hfs2) (by rw [lz_277.2]; decide) rfl hv2 (fun r3 h3 hx => ?_)
  obtain ⟨e3, hI3⟩ := hx
  obtain rfl := e3
  show RN 81 294 1040 [some (.ref 1), some (.ref 2), some (.ref 146), some (.int (nI i))] [.int v, .int v] h3 Q
  exact rn_eq d_294_1040 (by decide) (hk h3 hI3)
theorem lw_c23 {n L i : Nat} {xs : Nat → Int32} {h : AH} {Q : Option Value → AH → Prop} (hI : LwI n L xs h) (hn : n ≤ 10000) (hi : i + 5 < L) (hL : L ≤ 3072) (hk : ∀ h', LwI (n + 1) L xs h' → RN 81 294 1807 [some (.ref 1), some (.ref 2), some (.ref 146), some (.int (nI i))] [] h' Q) : RN 81 294 1045 [some (.ref 1), some (.ref 2), some (.ref 146), some (.int (nI i))] [] h Q := by
  obtain ⟨S, G, B, J, R, g, A, W, hC, hR, h1, hWC, hWR⟩ := hI
  obtain ⟨fs, hfs⟩ := lw_2 hC hWC.1.1
  obtain ⟨v, hv⟩ := lw_tie (alc := [some (.ref 2), some (.int (xs (i + 1))), some (.int (xs (i + 2)))]) (alr := [some (.ref 146), some (.int (xs (i + 1))), some (.int (xs (i + 2))), none, none, none, none]) hC hR h1 hWC.1.1.1 (T_nucleus (J := J) hWC hWR hn)
  refine rn_nx (pc' := 1046) (al' := [some (.ref 1), some (.ref 2), some (.ref 146), some (.int (nI i))]) (st' := [.ref 2]) (h' := h) d_294_1045 rfl ?_
  refine rn_a1 d_294_1046 d_294_1047 d_294_1048 d_294_1049 d_294_1050 h1 (by omega) hL ?_
  refine rn_a2 d_294_1051 d_294_1052 d_294_1053 d_294_1054 d_294_1055 h1 (by omega) hL ?_
  refine rn_iv (b := 2) (as := [.int (xs (i + 1)), .int (xs (i + 2))]) (al0 := [some (.ref 2), some (.int (xs (i + 1))), some (.int (xs (i + 2)))]) (r := []) d_294_1056 lm_111 lz_148.1 rfl rfl (by decide) (by rw [lz_148.2]; exact hfs) (by rw [lz_148.2]; decide) rfl hv (fun r2 h2 hx => ?_)
  obtain ⟨e2, g1, ⟨fs2, hfs2⟩, hv2⟩ := hx
  obtain rfl := e2
  show RN 81 294 1059 [some (.ref 1), some (.ref 2), some (.ref 146), some (.int (nI i))] [.int v] h2 Q
  refine rn_nx (pc' := 1060) (al' := [some (.ref 1), some (.ref 2), some (.ref 146), some (.int (nI i))]) (st' := [.ref 146, .int v]) (h' := h2) d_294_1059 rfl ?_
  refine rn_a1 d_294_1060 d_294_1061 d_294_1062 d_294_1063 d_294_1064 g1 (by omega) hL ?_
  refine rn_a2 d_294_1065 d_294_1066 d_294_1067 d_294_1068 d_294_1069 g1 (by omega) hL ?_
  refine rn_iv (b := 146) (as := [.int (xs (i + 1)), .int (xs (i + 2))]) (al0 := [some (.ref 146), some (.int (xs (i + 1))), some (.int (xs (i + 2))), none, none, none, none]) (r := [.int v]) d_294_1070 lm_114 lz_251.1 rfl rfl (by decide) (by rw [lz_251.2]; exact hfs2) (by rw [lz_251.2]; decide) rfl hv2 (fun r3 h3 hx => ?_)
  obtain ⟨e3, hI3⟩ := hx
  obtain rfl := e3
  show RN 81 294 1073 [some (.ref 1), some (.ref 2), some (.ref 146), some (.int (nI i))] [.int v, .int v] h3 Q
  exact rn_eq d_294_1073 (by decide) (hk h3 hI3)
theorem lw_c24 {n L i : Nat} {xs : Nat → Int32} {h : AH} {Q : Option Value → AH → Prop} (hI : LwI n L xs h) (hn : n ≤ 10000) (hi : i + 5 < L) (hL : L ≤ 3072) (hk : ∀ h', LwI (n + 1) L xs h' → RN 81 294 1807 [some (.ref 1), some (.ref 2), some (.ref 146), some (.int (nI i))] [] h' Q) : RN 81 294 1078 [some (.ref 1), some (.ref 2), some (.ref 146), some (.int (nI i))] [] h Q := by
  obtain ⟨S, G, B, J, R, g, A, W, hC, hR, h1, hWC, hWR⟩ := hI
  obtain ⟨fs, hfs⟩ := lw_2 hC hWC.1.1
  obtain ⟨v, hv⟩ := lw_tie (alc := [some (.ref 2), some (.int (xs (i + 1))), some (.int (xs (i + 2)))]) (alr := [some (.ref 146), some (.int (xs (i + 1))), some (.int (xs (i + 2))), none, none, none]) hC hR h1 hWC.1.1.1 (T_counts (J := J) hWC hWR hn)
  refine rn_nx (pc' := 1079) (al' := [some (.ref 1), some (.ref 2), some (.ref 146), some (.int (nI i))]) (st' := [.ref 2]) (h' := h) d_294_1078 rfl ?_
  refine rn_a1 d_294_1079 d_294_1080 d_294_1081 d_294_1082 d_294_1083 h1 (by omega) hL ?_
  refine rn_a2 d_294_1084 d_294_1085 d_294_1086 d_294_1087 d_294_1088 h1 (by omega) hL ?_
  refine rn_iv (b := 2) (as := [.int (xs (i + 1)), .int (xs (i + 2))]) (al0 := [some (.ref 2), some (.int (xs (i + 1))), some (.int (xs (i + 2)))]) (r := []) d_294_1089 lm_115 lz_149.1 rfl rfl (by decide) (by rw [lz_149.2]; exact hfs) (by rw [lz_149.2]; decide) rfl hv (fun r2 h2 hx => ?_)
  obtain ⟨e2, g1, ⟨fs2, hfs2⟩, hv2⟩ := hx
  obtain rfl := e2
  show RN 81 294 1092 [some (.ref 1), some (.ref 2), some (.ref 146), some (.int (nI i))] [.int v] h2 Q
  refine rn_nx (pc' := 1093) (al' := [some (.ref 1), some (.ref 2), some (.ref 146), some (.int (nI i))]) (st' := [.ref 146, .int v]) (h' := h2) d_294_1092 rfl ?_
  refine rn_a1 d_294_1093 d_294_1094 d_294_1095 d_294_1096 d_294_1097 g1 (by omega) hL ?_
  refine rn_a2 d_294_1098 d_294_1099 d_294_1100 d_294_1101 d_294_1102 g1 (by omega) hL ?_
  refine rn_iv (b := 146) (as := [.int (xs (i + 1)), .int (xs (i + 2))]) (al0 := [some (.ref 146), some (.int (xs (i + 1))), some (.int (xs (i + 2))), none, none, none]) (r := [.int v]) d_294_1103 lm_118 lz_253.1 rfl rfl (by decide) (by rw [lz_253.2]; exact hfs2) (by rw [lz_253.2]; decide) rfl hv2 (fun r3 h3 hx => ?_)
  obtain ⟨e3, hI3⟩ := hx
  obtain rfl := e3
  show RN 81 294 1106 [some (.ref 1), some (.ref 2), some (.ref 146), some (.int (nI i))] [.int v, .int v] h3 Q
  exact rn_eq d_294_1106 (by decide) (hk h3 hI3)
theorem lw_c25 {n L i : Nat} {xs : Nat → Int32} {h : AH} {Q : Option Value → AH → Prop} (hI : LwI n L xs h) (hn : n ≤ 10000) (hi : i + 5 < L) (hL : L ≤ 3072) (hk : ∀ h', LwI (n + 1) L xs h' → RN 81 294 1807 [some (.ref 1), some (.ref 2), some (.ref 146), some (.int (nI i))] [] h' Q) : RN 81 294 1111 [some (.ref 1), some (.ref 2), some (.ref 146), some (.int (nI i))] [] h Q := by
  obtain ⟨S, G, B, J, R, g, A, W, hC, hR, h1, hWC, hWR⟩ := hI
  obtain ⟨fs, hfs⟩ := lw_2 hC hWC.1.1
  obtain ⟨v, hv⟩ := lw_tie (alc := [some (.ref 2), some (.int (xs (i + 1))), some (.int (xs (i + 2)))]) (alr := [some (.ref 146), some (.int (xs (i + 1))), some (.int (xs (i + 2)))]) hC hR h1 hWC.1.1.1 (T_closed (J := J) hWC hWR hn)
  refine rn_nx (pc' := 1112) (al' := [some (.ref 1), some (.ref 2), some (.ref 146), some (.int (nI i))]) (st' := [.ref 2]) (h' := h) d_294_1111 rfl ?_
  refine rn_a1 d_294_1112 d_294_1113 d_294_1114 d_294_1115 d_294_1116 h1 (by omega) hL ?_
  refine rn_a2 d_294_1117 d_294_1118 d_294_1119 d_294_1120 d_294_1121 h1 (by omega) hL ?_
  refine rn_iv (b := 2) (as := [.int (xs (i + 1)), .int (xs (i + 2))]) (al0 := [some (.ref 2), some (.int (xs (i + 1))), some (.int (xs (i + 2)))]) (r := []) d_294_1122 lm_119 lz_150.1 rfl rfl (by decide) (by rw [lz_150.2]; exact hfs) (by rw [lz_150.2]; decide) rfl hv (fun r2 h2 hx => ?_)
  obtain ⟨e2, g1, ⟨fs2, hfs2⟩, hv2⟩ := hx
  obtain rfl := e2
  show RN 81 294 1125 [some (.ref 1), some (.ref 2), some (.ref 146), some (.int (nI i))] [.int v] h2 Q
  refine rn_nx (pc' := 1126) (al' := [some (.ref 1), some (.ref 2), some (.ref 146), some (.int (nI i))]) (st' := [.ref 146, .int v]) (h' := h2) d_294_1125 rfl ?_
  refine rn_a1 d_294_1126 d_294_1127 d_294_1128 d_294_1129 d_294_1130 g1 (by omega) hL ?_
  refine rn_a2 d_294_1131 d_294_1132 d_294_1133 d_294_1134 d_294_1135 g1 (by omega) hL ?_
  refine rn_iv (b := 146) (as := [.int (xs (i + 1)), .int (xs (i + 2))]) (al0 := [some (.ref 146), some (.int (xs (i + 1))), some (.int (xs (i + 2)))]) (r := [.int v]) d_294_1136 lm_122 lz_248.1 rfl rfl (by decide) (by rw [lz_248.2]; exact hfs2) (by rw [lz_248.2]; decide) rfl hv2 (fun r3 h3 hx => ?_)
  obtain ⟨e3, hI3⟩ := hx
  obtain rfl := e3
  show RN 81 294 1139 [some (.ref 1), some (.ref 2), some (.ref 146), some (.int (nI i))] [.int v, .int v] h3 Q
  exact rn_eq d_294_1139 (by decide) (hk h3 hI3)
theorem lw_c26 {n L i : Nat} {xs : Nat → Int32} {h : AH} {Q : Option Value → AH → Prop} (hI : LwI n L xs h) (hn : n ≤ 10000) (hi : i + 5 < L) (hL : L ≤ 3072) (hk : ∀ h', LwI (n + 1) L xs h' → RN 81 294 1807 [some (.ref 1), some (.ref 2), some (.ref 146), some (.int (nI i))] [] h' Q) : RN 81 294 1144 [some (.ref 1), some (.ref 2), some (.ref 146), some (.int (nI i))] [] h Q := by
  obtain ⟨S, G, B, J, R, g, A, W, hC, hR, h1, hWC, hWR⟩ := hI
  obtain ⟨fs, hfs⟩ := lw_2 hC hWC.1.1
  obtain ⟨v, hv⟩ := lw_tie (alc := [some (.ref 2), some (.int (xs (i + 1))), some (.int (xs (i + 2))), none]) (alr := [some (.ref 146), some (.int (xs (i + 1))), some (.int (xs (i + 2))), none, none]) hC hR h1 hWC.1.1.1 (T_parts (J := J) hWC hWR hn)
  refine rn_nx (pc' := 1145) (al' := [some (.ref 1), some (.ref 2), some (.ref 146), some (.int (nI i))]) (st' := [.ref 2]) (h' := h) d_294_1144 rfl ?_
  refine rn_a1 d_294_1145 d_294_1146 d_294_1147 d_294_1148 d_294_1149 h1 (by omega) hL ?_
  refine rn_a2 d_294_1150 d_294_1151 d_294_1152 d_294_1153 d_294_1154 h1 (by omega) hL ?_
  refine rn_iv (b := 2) (as := [.int (xs (i + 1)), .int (xs (i + 2))]) (al0 := [some (.ref 2), some (.int (xs (i + 1))), some (.int (xs (i + 2))), none]) (r := []) d_294_1155 lm_123 lz_151.1 rfl rfl (by decide) (by rw [lz_151.2]; exact hfs) (by rw [lz_151.2]; decide) rfl hv (fun r2 h2 hx => ?_)
  obtain ⟨e2, g1, ⟨fs2, hfs2⟩, hv2⟩ := hx
  obtain rfl := e2
  show RN 81 294 1158 [some (.ref 1), some (.ref 2), some (.ref 146), some (.int (nI i))] [.int v] h2 Q
  refine rn_nx (pc' := 1159) (al' := [some (.ref 1), some (.ref 2), some (.ref 146), some (.int (nI i))]) (st' := [.ref 146, .int v]) (h' := h2) d_294_1158 rfl ?_
  refine rn_a1 d_294_1159 d_294_1160 d_294_1161 d_294_1162 d_294_1163 g1 (by omega) hL ?_
  refine rn_a2 d_294_1164 d_294_1165 d_294_1166 d_294_1167 d_294_1168 g1 (by omega) hL ?_
  refine rn_iv (b := 146) (as := [.int (xs (i + 1)), .int (xs (i + 2))]) (al0 := [some (.ref 146), some (.int (xs (i + 1))), some (.int (xs (i + 2))), none, none]) (r := [.int v]) d_294_1169 lm_126 lz_249.1 rfl rfl (by decide) (by rw [lz_249.2]; exact hfs2) (by rw [lz_249.2]; decide) rfl hv2 (fun r3 h3 hx => ?_)
  obtain ⟨e3, hI3⟩ := hx
  obtain rfl := e3
  show RN 81 294 1172 [some (.ref 1), some (.ref 2), some (.ref 146), some (.int (nI i))] [.int v, .int v] h3 Q
  exact rn_eq d_294_1172 (by decide) (hk h3 hI3)
theorem lw_c27 {n L i : Nat} {xs : Nat → Int32} {h : AH} {Q : Option Value → AH → Prop} (hI : LwI n L xs h) (hn : n ≤ 10000) (hi : i + 5 < L) (hL : L ≤ 3072) (hk : ∀ h', LwI (n + 1) L xs h' → RN 81 294 1807 [some (.ref 1), some (.ref 2), some (.ref 146), some (.int (nI i))] [] h' Q) : RN 81 294 1177 [some (.ref 1), some (.ref 2), some (.ref 146), some (.int (nI i))] [] h Q := by
  obtain ⟨S, G, B, J, R, g, A, W, hC, hR, h1, hWC, hWR⟩ := hI
  obtain ⟨fs, hfs⟩ := lw_2 hC hWC.1.1
  obtain ⟨v, hv⟩ := lw_tie (alc := [some (.ref 2), some (.int (xs (i + 1))), some (.int (xs (i + 2))), none]) (alr := [some (.ref 146), some (.int (xs (i + 1))), some (.int (xs (i + 2))), none, none]) hC hR h1 hWC.1.1.1 (T_makers (J := J) hWC hWR hn)
  refine rn_nx (pc' := 1178) (al' := [some (.ref 1), some (.ref 2), some (.ref 146), some (.int (nI i))]) (st' := [.ref 2]) (h' := h) d_294_1177 rfl ?_
  refine rn_a1 d_294_1178 d_294_1179 d_294_1180 d_294_1181 d_294_1182 h1 (by omega) hL ?_
  refine rn_a2 d_294_1183 d_294_1184 d_294_1185 d_294_1186 d_294_1187 h1 (by omega) hL ?_
  refine rn_iv (b := 2) (as := [.int (xs (i + 1)), .int (xs (i + 2))]) (al0 := [some (.ref 2), some (.int (xs (i + 1))), some (.int (xs (i + 2))), none]) (r := []) d_294_1188 lm_127 lz_152.1 rfl rfl (by decide) (by rw [lz_152.2]; exact hfs) (by rw [lz_152.2]; decide) rfl hv (fun r2 h2 hx => ?_)
  obtain ⟨e2, g1, ⟨fs2, hfs2⟩, hv2⟩ := hx
  obtain rfl := e2
  show RN 81 294 1191 [some (.ref 1), some (.ref 2), some (.ref 146), some (.int (nI i))] [.int v] h2 Q
  refine rn_nx (pc' := 1192) (al' := [some (.ref 1), some (.ref 2), some (.ref 146), some (.int (nI i))]) (st' := [.ref 146, .int v]) (h' := h2) d_294_1191 rfl ?_
  refine rn_a1 d_294_1192 d_294_1193 d_294_1194 d_294_1195 d_294_1196 g1 (by omega) hL ?_
  refine rn_a2 d_294_1197 d_294_1198 d_294_1199 d_294_1200 d_294_1201 g1 (by omega) hL ?_
  refine rn_iv (b := 146) (as := [.int (xs (i + 1)), .int (xs (i + 2))]) (al0 := [some (.ref 146), some (.int (xs (i + 1))), some (.int (xs (i + 2))), none, none]) (r := [.int v]) d_294_1202 lm_130 lz_250.1 rfl rfl (by decide) (by rw [lz_250.2]; exact hfs2) (by rw [lz_250.2]; decide) rfl hv2 (fun r3 h3 hx => ?_)
  obtain ⟨e3, hI3⟩ := hx
  obtain rfl := e3
  show RN 81 294 1205 [some (.ref 1), some (.ref 2), some (.ref 146), some (.int (nI i))] [.int v, .int v] h3 Q
  exact rn_eq d_294_1205 (by decide) (hk h3 hI3)
theorem lw_c28 {n L i : Nat} {xs : Nat → Int32} {h : AH} {Q : Option Value → AH → Prop} (hI : LwI n L xs h) (hn : n ≤ 10000) (hi : i + 5 < L) (hL : L ≤ 3072) (hk : ∀ h', LwI (n + 1) L xs h' → RN 81 294 1807 [some (.ref 1), some (.ref 2), some (.ref 146), some (.int (nI i))] [] h' Q) : RN 81 294 1210 [some (.ref 1), some (.ref 2), some (.ref 146), some (.int (nI i))] [] h Q := by
  obtain ⟨S, G, B, J, R, g, A, W, hC, hR, h1, hWC, hWR⟩ := hI
  obtain ⟨fs, hfs⟩ := lw_2 hC hWC.1.1
  obtain ⟨v, hv⟩ := lw_tie (alc := [some (.ref 2), some (.int (xs (i + 1))), some (.int (xs (i + 2)))]) (alr := [some (.ref 146), some (.int (xs (i + 1))), some (.int (xs (i + 2))), none, none, none, none, none]) hC hR h1 hWC.1.1.1 (T_group (J := J) hWC hWR hn)
  refine rn_nx (pc' := 1211) (al' := [some (.ref 1), some (.ref 2), some (.ref 146), some (.int (nI i))]) (st' := [.ref 2]) (h' := h) d_294_1210 rfl ?_
  refine rn_a1 d_294_1211 d_294_1212 d_294_1213 d_294_1214 d_294_1215 h1 (by omega) hL ?_
  refine rn_a2 d_294_1216 d_294_1217 d_294_1218 d_294_1219 d_294_1220 h1 (by omega) hL ?_
  refine rn_iv (b := 2) (as := [.int (xs (i + 1)), .int (xs (i + 2))]) (al0 := [some (.ref 2), some (.int (xs (i + 1))), some (.int (xs (i + 2)))]) (r := []) d_294_1221 lm_131 lz_153.1 rfl rfl (by decide) (by rw [lz_153.2]; exact hfs) (by rw [lz_153.2]; decide) rfl hv (fun r2 h2 hx => ?_)
  obtain ⟨e2, g1, ⟨fs2, hfs2⟩, hv2⟩ := hx
  obtain rfl := e2
  show RN 81 294 1224 [some (.ref 1), some (.ref 2), some (.ref 146), some (.int (nI i))] [.int v] h2 Q
  refine rn_nx (pc' := 1225) (al' := [some (.ref 1), some (.ref 2), some (.ref 146), some (.int (nI i))]) (st' := [.ref 146, .int v]) (h' := h2) d_294_1224 rfl ?_
  refine rn_a1 d_294_1225 d_294_1226 d_294_1227 d_294_1228 d_294_1229 g1 (by omega) hL ?_
  refine rn_a2 d_294_1230 d_294_1231 d_294_1232 d_294_1233 d_294_1234 g1 (by omega) hL ?_
  refine rn_iv (b := 146) (as := [.int (xs (i + 1)), .int (xs (i + 2))]) (al0 := [some (.ref 146), some (.int (xs (i + 1))), some (.int (xs (i + 2))), none, none, none, none, none]) (r := [.int v]) d_294_1235 lm_134 lz_255.1 rfl rfl (by decide) (by rw [lz_255.2]; exact hfs2) (by rw [lz_255.2]; decide) rfl hv2 (fun r3 h3 hx => ?_)
  obtain ⟨e3, hI3⟩ := hx
  obtain rfl := e3
  show RN 81 294 1238 [some (.ref 1), some (.ref 2), some (.ref 146), some (.int (nI i))] [.int v, .int v] h3 Q
  exact rn_eq d_294_1238 (by decide) (hk h3 hI3)
theorem lw_c29 {n L i : Nat} {xs : Nat → Int32} {h : AH} {Q : Option Value → AH → Prop} (hI : LwI n L xs h) (hn : n ≤ 10000) (hi : i + 5 < L) (hL : L ≤ 3072) (hk : ∀ h', LwI (n + 1) L xs h' → RN 81 294 1807 [some (.ref 1), some (.ref 2), some (.ref 146), some (.int (nI i))] [] h' Q) : RN 81 294 1243 [some (.ref 1), some (.ref 2), some (.ref 146), some (.int (nI i))] [] h Q := by
  obtain ⟨S, G, B, J, R, g, A, W, hC, hR, h1, hWC, hWR⟩ := hI
  obtain ⟨fs, hfs⟩ := lw_2 hC hWC.1.1
  obtain ⟨v, hv⟩ := lw_tie (alc := [some (.ref 2), some (.int (xs (i + 1))), some (.int (xs (i + 2))), some (.int (xs (i + 3))), none]) (alr := [some (.ref 146), some (.int (xs (i + 1))), some (.int (xs (i + 2))), some (.int (xs (i + 3)))]) hC hR h1 hWC.1.1.1 (T_name (J := J) hWC hWR hn)
  refine rn_nx (pc' := 1244) (al' := [some (.ref 1), some (.ref 2), some (.ref 146), some (.int (nI i))]) (st' := [.ref 2]) (h' := h) d_294_1243 rfl ?_
  refine rn_a1 d_294_1244 d_294_1245 d_294_1246 d_294_1247 d_294_1248 h1 (by omega) hL ?_
  refine rn_a2 d_294_1249 d_294_1250 d_294_1251 d_294_1252 d_294_1253 h1 (by omega) hL ?_
  refine rn_a3 d_294_1254 d_294_1255 d_294_1256 d_294_1257 d_294_1258 h1 (by omega) hL ?_
  refine rn_iv (b := 2) (as := [.int (xs (i + 1)), .int (xs (i + 2)), .int (xs (i + 3))]) (al0 := [some (.ref 2), some (.int (xs (i + 1))), some (.int (xs (i + 2))), some (.int (xs (i + 3))), none]) (r := []) d_294_1259 lm_135 lz_155.1 rfl rfl (by decide) (by rw [lz_155.2]; exact hfs) (by rw [lz_155.2]; decide) rfl hv (fun r2 h2 hx => ?_)
  obtain ⟨e2, g1, ⟨fs2, hfs2⟩, hv2⟩ := hx
  obtain rfl := e2
  show RN 81 294 1262 [some (.ref 1), some (.ref 2), some (.ref 146), some (.int (nI i))] [.int v] h2 Q
  refine rn_nx (pc' := 1263) (al' := [some (.ref 1), some (.ref 2), some (.ref 146), some (.int (nI i))]) (st' := [.ref 146, .int v]) (h' := h2) d_294_1262 rfl ?_
  refine rn_a1 d_294_1263 d_294_1264 d_294_1265 d_294_1266 d_294_1267 g1 (by omega) hL ?_
  refine rn_a2 d_294_1268 d_294_1269 d_294_1270 d_294_1271 d_294_1272 g1 (by omega) hL ?_
  refine rn_a3 d_294_1273 d_294_1274 d_294_1275 d_294_1276 d_294_1277 g1 (by omega) hL ?_
  refine rn_iv (b := 146) (as := [.int (xs (i + 1)), .int (xs (i + 2)), .int (xs (i + 3))]) (al0 := [some (.ref 146), some (.int (xs (i + 1))), some (.int (xs (i + 2))), some (.int (xs (i + 3)))]) (r := [.int v]) d_294_1278 lm_138 lz_258.1 rfl rfl (by decide) (by rw [lz_258.2]; exact hfs2) (by rw [lz_258.2]; decide) rfl hv2 (fun r3 h3 hx => ?_)
  obtain ⟨e3, hI3⟩ := hx
  obtain rfl := e3
  show RN 81 294 1281 [some (.ref 1), some (.ref 2), some (.ref 146), some (.int (nI i))] [.int v, .int v] h3 Q
  exact rn_eq d_294_1281 (by decide) (hk h3 hI3)
theorem lw_c30 {n L i : Nat} {xs : Nat → Int32} {h : AH} {Q : Option Value → AH → Prop} (hI : LwI n L xs h) (hn : n ≤ 10000) (hi : i + 5 < L) (hL : L ≤ 3072) (hk : ∀ h', LwI (n + 1) L xs h' → RN 81 294 1807 [some (.ref 1), some (.ref 2), some (.ref 146), some (.int (nI i))] [] h' Q) : RN 81 294 1286 [some (.ref 1), some (.ref 2), some (.ref 146), some (.int (nI i))] [] h Q := by
  obtain ⟨S, G, B, J, R, g, A, W, hC, hR, h1, hWC, hWR⟩ := hI
  obtain ⟨fs, hfs⟩ := lw_2 hC hWC.1.1
  obtain ⟨v, hv⟩ := lw_tie (alc := [some (.ref 2), some (.int (xs (i + 1))), some (.int (xs (i + 2))), some (.int (xs (i + 3))), none, none]) (alr := [some (.ref 146), some (.int (xs (i + 1))), some (.int (xs (i + 2))), some (.int (xs (i + 3))), none]) hC hR h1 hWC.1.1.1 (T_alike (J := J) hWC hWR hn)
  refine rn_nx (pc' := 1287) (al' := [some (.ref 1), some (.ref 2), some (.ref 146), some (.int (nI i))]) (st' := [.ref 2]) (h' := h) d_294_1286 rfl ?_
  refine rn_a1 d_294_1287 d_294_1288 d_294_1289 d_294_1290 d_294_1291 h1 (by omega) hL ?_
  refine rn_a2 d_294_1292 d_294_1293 d_294_1294 d_294_1295 d_294_1296 h1 (by omega) hL ?_
  refine rn_a3 d_294_1297 d_294_1298 d_294_1299 d_294_1300 d_294_1301 h1 (by omega) hL ?_
  refine rn_iv (b := 2) (as := [.int (xs (i + 1)), .int (xs (i + 2)), .int (xs (i + 3))]) (al0 := [some (.ref 2), some (.int (xs (i + 1))), some (.int (xs (i + 2))), some (.int (xs (i + 3))), none, none]) (r := []) d_294_1302 lm_139 lz_158.1 rfl rfl (by decide) (by rw [lz_158.2]; exact hfs) (by rw [lz_158.2]; decide) rfl hv (fun r2 h2 hx => ?_)
  obtain ⟨e2, g1, ⟨fs2, hfs2⟩, hv2⟩ := hx
  obtain rfl := e2
  show RN 81 294 1305 [some (.ref 1), some (.ref 2), some (.ref 146), some (.int (nI i))] [.int v] h2 Q
  refine rn_nx (pc' := 1306) (al' := [some (.ref 1), some (.ref 2), some (.ref 146), some (.int (nI i))]) (st' := [.ref 146, .int v]) (h' := h2) d_294_1305 rfl ?_
  refine rn_a1 d_294_1306 d_294_1307 d_294_1308 d_294_1309 d_294_1310 g1 (by omega) hL ?_
  refine rn_a2 d_294_1311 d_294_1312 d_294_1313 d_294_1314 d_294_1315 g1 (by omega) hL ?_
  refine rn_a3 d_294_1316 d_294_1317 d_294_1318 d_294_1319 d_294_1320 g1 (by omega) hL ?_
  refine rn_iv (b := 146) (as := [.int (xs (i + 1)), .int (xs (i + 2)), .int (xs (i + 3))]) (al0 := [some (.ref 146), some (.int (xs (i + 1))), some (.int (xs (i + 2))), some (.int (xs (i + 3))), none]) (r := [.int v]) d_294_1321 lm_142 lz_261.1 rfl rfl (by decide) (by rw [lz_261.2]; exact hfs2) (by rw [lz_261.2]; decide) rfl hv2 (fun r3 h3 hx => ?_)
  obtain ⟨e3, hI3⟩ := hx
  obtain rfl := e3
  show RN 81 294 1324 [some (.ref 1), some (.ref 2), some (.ref 146), some (.int (nI i))] [.int v, .int v] h3 Q
  exact rn_eq d_294_1324 (by decide) (hk h3 hI3)
theorem lw_c31 {n L i : Nat} {xs : Nat → Int32} {h : AH} {Q : Option Value → AH → Prop} (hI : LwI n L xs h) (hn : n ≤ 10000) (hi : i + 5 < L) (hL : L ≤ 3072) (hk : ∀ h', LwI (n + 1) L xs h' → RN 81 294 1807 [some (.ref 1), some (.ref 2), some (.ref 146), some (.int (nI i))] [] h' Q) : RN 81 294 1329 [some (.ref 1), some (.ref 2), some (.ref 146), some (.int (nI i))] [] h Q := by
  obtain ⟨S, G, B, J, R, g, A, W, hC, hR, h1, hWC, hWR⟩ := hI
  obtain ⟨fs, hfs⟩ := lw_2 hC hWC.1.1
  obtain ⟨v, hv⟩ := lw_tie (alc := [some (.ref 2), some (.int (xs (i + 1))), some (.int (xs (i + 2)))]) (alr := [some (.ref 146), some (.int (xs (i + 1))), some (.int (xs (i + 2))), none, none, none]) hC hR h1 hWC.1.1.1 (T_autos (J := J) hWC hWR hn)
  refine rn_nx (pc' := 1330) (al' := [some (.ref 1), some (.ref 2), some (.ref 146), some (.int (nI i))]) (st' := [.ref 2]) (h' := h) d_294_1329 rfl ?_
  refine rn_a1 d_294_1330 d_294_1331 d_294_1332 d_294_1333 d_294_1334 h1 (by omega) hL ?_
  refine rn_a2 d_294_1335 d_294_1336 d_294_1337 d_294_1338 d_294_1339 h1 (by omega) hL ?_
  refine rn_iv (b := 2) (as := [.int (xs (i + 1)), .int (xs (i + 2))]) (al0 := [some (.ref 2), some (.int (xs (i + 1))), some (.int (xs (i + 2)))]) (r := []) d_294_1340 lm_143 lz_159.1 rfl rfl (by decide) (by rw [lz_159.2]; exact hfs) (by rw [lz_159.2]; decide) rfl hv (fun r2 h2 hx => ?_)
  obtain ⟨e2, g1, ⟨fs2, hfs2⟩, hv2⟩ := hx
  obtain rfl := e2
  show RN 81 294 1343 [some (.ref 1), some (.ref 2), some (.ref 146), some (.int (nI i))] [.int v] h2 Q
  refine rn_nx (pc' := 1344) (al' := [some (.ref 1), some (.ref 2), some (.ref 146), some (.int (nI i))]) (st' := [.ref 146, .int v]) (h' := h2) d_294_1343 rfl ?_
  refine rn_a1 d_294_1344 d_294_1345 d_294_1346 d_294_1347 d_294_1348 g1 (by omega) hL ?_
  refine rn_a2 d_294_1349 d_294_1350 d_294_1351 d_294_1352 d_294_1353 g1 (by omega) hL ?_
  refine rn_iv (b := 146) (as := [.int (xs (i + 1)), .int (xs (i + 2))]) (al0 := [some (.ref 146), some (.int (xs (i + 1))), some (.int (xs (i + 2))), none, none, none]) (r := [.int v]) d_294_1354 lm_146 lz_262.1 rfl rfl (by decide) (by rw [lz_262.2]; exact hfs2) (by rw [lz_262.2]; decide) rfl hv2 (fun r3 h3 hx => ?_)
  obtain ⟨e3, hI3⟩ := hx
  obtain rfl := e3
  show RN 81 294 1357 [some (.ref 1), some (.ref 2), some (.ref 146), some (.int (nI i))] [.int v, .int v] h3 Q
  exact rn_eq d_294_1357 (by decide) (hk h3 hI3)
theorem lw_c32 {n L i : Nat} {xs : Nat → Int32} {h : AH} {Q : Option Value → AH → Prop} (hI : LwI n L xs h) (hn : n ≤ 10000) (hi : i + 5 < L) (hL : L ≤ 3072) (hk : ∀ h', LwI (n + 1) L xs h' → RN 81 294 1807 [some (.ref 1), some (.ref 2), some (.ref 146), some (.int (nI i))] [] h' Q) : RN 81 294 1362 [some (.ref 1), some (.ref 2), some (.ref 146), some (.int (nI i))] [] h Q := by
  obtain ⟨S, G, B, J, R, g, A, W, hC, hR, h1, hWC, hWR⟩ := hI
  obtain ⟨fs, hfs⟩ := lw_2 hC hWC.1.1
  obtain ⟨v, hv⟩ := lw_tie (alc := [some (.ref 2), some (.int (xs (i + 1))), some (.int (xs (i + 2)))]) (alr := [some (.ref 146), some (.int (xs (i + 1))), some (.int (xs (i + 2))), none, none, none, none, none]) hC hR h1 hWC.1.1.1 (T_crossings (J := J) hWC hWR hn)
  refine rn_nx (pc' := 1363) (al' := [some (.ref 1), some (.ref 2), some (.ref 146), some (.int (nI i))]) (st' := [.ref 2]) (h' := h) d_294_1362 rfl ?_
  refine rn_a1 d_294_1363 d_294_1364 d_294_1365 d_294_1366 d_294_1367 h1 (by omega) hL ?_
  refine rn_a2 d_294_1368 d_294_1369 d_294_1370 d_294_1371 d_294_1372 h1 (by omega) hL ?_
  refine rn_iv (b := 2) (as := [.int (xs (i + 1)), .int (xs (i + 2))]) (al0 := [some (.ref 2), some (.int (xs (i + 1))), some (.int (xs (i + 2)))]) (r := []) d_294_1373 lm_147 lz_160.1 rfl rfl (by decide) (by rw [lz_160.2]; exact hfs) (by rw [lz_160.2]; decide) rfl hv (fun r2 h2 hx => ?_)
  obtain ⟨e2, g1, ⟨fs2, hfs2⟩, hv2⟩ := hx
  obtain rfl := e2
  show RN 81 294 1376 [some (.ref 1), some (.ref 2), some (.ref 146), some (.int (nI i))] [.int v] h2 Q
  refine rn_nx (pc' := 1377) (al' := [some (.ref 1), some (.ref 2), some (.ref 146), some (.int (nI i))]) (st' := [.ref 146, .int v]) (h' := h2) d_294_1376 rfl ?_
  refine rn_a1 d_294_1377 d_294_1378 d_294_1379 d_294_1380 d_294_1381 g1 (by omega) hL ?_
  refine rn_a2 d_294_1382 d_294_1383 d_294_1384 d_294_1385 d_294_1386 g1 (by omega) hL ?_
  refine rn_iv (b := 146) (as := [.int (xs (i + 1)), .int (xs (i + 2))]) (al0 := [some (.ref 146), some (.int (xs (i + 1))), some (.int (xs (i + 2))), none, none, none, none, none]) (r := [.int v]) d_294_1387 lm_150 lz_264.1 rfl rfl (by decide) (by rw [lz_264.2]; exact hfs2) (by rw [lz_264.2]; decide) rfl hv2 (fun r3 h3 hx => ?_)
  obtain ⟨e3, hI3⟩ := hx
  obtain rfl := e3
  show RN 81 294 1390 [some (.ref 1), some (.ref 2), some (.ref 146), some (.int (nI i))] [.int v, .int v] h3 Q
  exact rn_eq d_294_1390 (by decide) (hk h3 hI3)
theorem lw_c33 {n L i : Nat} {xs : Nat → Int32} {h : AH} {Q : Option Value → AH → Prop} (hI : LwI n L xs h) (hn : n ≤ 10000) (hi : i + 5 < L) (hL : L ≤ 3072) (hk : ∀ h', LwI (n + 1) L xs h' → RN 81 294 1807 [some (.ref 1), some (.ref 2), some (.ref 146), some (.int (nI i))] [] h' Q) : RN 81 294 1395 [some (.ref 1), some (.ref 2), some (.ref 146), some (.int (nI i))] [] h Q := by
  obtain ⟨S, G, B, J, R, g, A, W, hC, hR, h1, hWC, hWR⟩ := hI
  obtain ⟨fs, hfs⟩ := lw_2 hC hWC.1.1
  obtain ⟨v, hv⟩ := lw_tie (alc := [some (.ref 2), some (.int (xs (i + 1))), some (.int (xs (i + 2))), some (.int (xs (i + 3))), some (.int (xs (i + 4)))]) (alr := [some (.ref 146), some (.int (xs (i + 1))), some (.int (xs (i + 2))), some (.int (xs (i + 3))), some (.int (xs (i + 4))), none, none, none, none, none, none]) hC hR h1 hWC.1.1.1 (T_cycles (J := J) hWC hWR hn)
  refine rn_nx (pc' := 1396) (al' := [some (.ref 1), some (.ref 2), some (.ref 146), some (.int (nI i))]) (st' := [.ref 2]) (h' := h) d_294_1395 rfl ?_
  refine rn_a1 d_294_1396 d_294_1397 d_294_1398 d_294_1399 d_294_1400 h1 (by omega) hL ?_
  refine rn_a2 d_294_1401 d_294_1402 d_294_1403 d_294_1404 d_294_1405 h1 (by omega) hL ?_
  refine rn_a3 d_294_1406 d_294_1407 d_294_1408 d_294_1409 d_294_1410 h1 (by omega) hL ?_
  refine rn_a4 d_294_1411 d_294_1412 d_294_1413 d_294_1414 d_294_1415 h1 (by omega) hL ?_
  refine rn_iv (b := 2) (as := [.int (xs (i + 1)), .int (xs (i + 2)), .int (xs (i + 3)), .int (xs (i + 4))]) (al0 := [some (.ref 2), some (.int (xs (i + 1))), some (.int (xs (i + 2))), some (.int (xs (i + 3))), some (.int (xs (i + 4)))]) (r := []) d_294_1416 lm_151 lz_161.1 rfl rfl (by decide) (by rw [lz_161.2]; exact hfs) (by rw [lz_161.2]; decide) rfl hv (fun r2 h2 hx => ?_)
  obtain ⟨e2, g1, ⟨fs2, hfs2⟩, hv2⟩ := hx
  obtain rfl := e2
  show RN 81 294 1419 [some (.ref 1), some (.ref 2), some (.ref 146), some (.int (nI i))] [.int v] h2 Q
  refine rn_nx (pc' := 1420) (al' := [some (.ref 1), some (.ref 2), some (.ref 146), some (.int (nI i))]) (st' := [.ref 146, .int v]) (h' := h2) d_294_1419 rfl ?_
  refine rn_a1 d_294_1420 d_294_1421 d_294_1422 d_294_1423 d_294_1424 g1 (by omega) hL ?_
  refine rn_a2 d_294_1425 d_294_1426 d_294_1427 d_294_1428 d_294_1429 g1 (by omega) hL ?_
  refine rn_a3 d_294_1430 d_294_1431 d_294_1432 d_294_1433 d_294_1434 g1 (by omega) hL ?_
  refine rn_a4 d_294_1435 d_294_1436 d_294_1437 d_294_1438 d_294_1439 g1 (by omega) hL ?_
  refine rn_iv (b := 146) (as := [.int (xs (i + 1)), .int (xs (i + 2)), .int (xs (i + 3)), .int (xs (i + 4))]) (al0 := [some (.ref 146), some (.int (xs (i + 1))), some (.int (xs (i + 2))), some (.int (xs (i + 3))), some (.int (xs (i + 4))), none, none, none, none, none, none]) (r := [.int v]) d_294_1440 lm_154 lz_267.1 rfl rfl (by decide) (by rw [lz_267.2]; exact hfs2) (by rw [lz_267.2]; decide) rfl hv2 (fun r3 h3 hx => ?_)
  obtain ⟨e3, hI3⟩ := hx
  obtain rfl := e3
  show RN 81 294 1443 [some (.ref 1), some (.ref 2), some (.ref 146), some (.int (nI i))] [.int v, .int v] h3 Q
  exact rn_eq d_294_1443 (by decide) (hk h3 hI3)
theorem lw_c34 {n L i : Nat} {xs : Nat → Int32} {h : AH} {Q : Option Value → AH → Prop} (hI : LwI n L xs h) (hn : n ≤ 10000) (hi : i + 5 < L) (hL : L ≤ 3072) (hk : ∀ h', LwI (n + 1) L xs h' → RN 81 294 1807 [some (.ref 1), some (.ref 2), some (.ref 146), some (.int (nI i))] [] h' Q) : RN 81 294 1448 [some (.ref 1), some (.ref 2), some (.ref 146), some (.int (nI i))] [] h Q := by
  obtain ⟨S, G, B, J, R, g, A, W, hC, hR, h1, hWC, hWR⟩ := hI
  obtain ⟨fs, hfs⟩ := lw_2 hC hWC.1.1
  obtain ⟨v, hv⟩ := lw_tie (alc := [some (.ref 2), some (.int (xs (i + 1))), some (.int (xs (i + 2)))]) (alr := [some (.ref 146), some (.int (xs (i + 1))), some (.int (xs (i + 2))), none, none]) hC hR h1 hWC.1.1.1 (T_apart (J := J) hWC hWR hn)
  refine rn_nx (pc' := 1449) (al' := [some (.ref 1), some (.ref 2), some (.ref 146), some (.int (nI i))]) (st' := [.ref 2]) (h' := h) d_294_1448 rfl ?_
  refine rn_a1 d_294_1449 d_294_1450 d_294_1451 d_294_1452 d_294_1453 h1 (by omega) hL ?_
  refine rn_a2 d_294_1454 d_294_1455 d_294_1456 d_294_1457 d_294_1458 h1 (by omega) hL ?_
  refine rn_iv (b := 2) (as := [.int (xs (i + 1)), .int (xs (i + 2))]) (al0 := [some (.ref 2), some (.int (xs (i + 1))), some (.int (xs (i + 2)))]) (r := []) d_294_1459 lm_155 lz_162.1 rfl rfl (by decide) (by rw [lz_162.2]; exact hfs) (by rw [lz_162.2]; decide) rfl hv (fun r2 h2 hx => ?_)
  obtain ⟨e2, g1, ⟨fs2, hfs2⟩, hv2⟩ := hx
  obtain rfl := e2
  show RN 81 294 1462 [some (.ref 1), some (.ref 2), some (.ref 146), some (.int (nI i))] [.int v] h2 Q
  refine rn_nx (pc' := 1463) (al' := [some (.ref 1), some (.ref 2), some (.ref 146), some (.int (nI i))]) (st' := [.ref 146, .int v]) (h' := h2) d_294_1462 rfl ?_
  refine rn_a1 d_294_1463 d_294_1464 d_294_1465 d_294_1466 d_294_1467 g1 (by omega) hL ?_
  refine rn_a2 d_294_1468 d_294_1469 d_294_1470 d_294_1471 d_294_1472 g1 (by omega) hL ?_
  refine rn_iv (b := 146) (as := [.int (xs (i + 1)), .int (xs (i + 2))]) (al0 := [some (.ref 146), some (.int (xs (i + 1))), some (.int (xs (i + 2))), none, none]) (r := [.int v]) d_294_1473 lm_158 lz_268.1 rfl rfl (by decide) (by rw [lz_268.2]; exact hfs2) (by rw [lz_268.2]; decide) rfl hv2 (fun r3 h3 hx => ?_)
  obtain ⟨e3, hI3⟩ := hx
  obtain rfl := e3
  show RN 81 294 1476 [some (.ref 1), some (.ref 2), some (.ref 146), some (.int (nI i))] [.int v, .int v] h3 Q
  exact rn_eq d_294_1476 (by decide) (hk h3 hI3)
theorem lw_c35 {n L i : Nat} {xs : Nat → Int32} {h : AH} {Q : Option Value → AH → Prop} (hI : LwI n L xs h) (hn : n ≤ 10000) (hi : i + 5 < L) (hL : L ≤ 3072) (hk : ∀ h', LwI (n + 1) L xs h' → RN 81 294 1807 [some (.ref 1), some (.ref 2), some (.ref 146), some (.int (nI i))] [] h' Q) : RN 81 294 1481 [some (.ref 1), some (.ref 2), some (.ref 146), some (.int (nI i))] [] h Q := by
  obtain ⟨S, G, B, J, R, g, A, W, hC, hR, h1, hWC, hWR⟩ := hI
  obtain ⟨fs, hfs⟩ := lw_2 hC hWC.1.1
  obtain ⟨v, hv⟩ := lw_tie (alc := [some (.ref 2), some (.int (xs (i + 1))), some (.int (xs (i + 2)))]) (alr := [some (.ref 146), some (.int (xs (i + 1))), some (.int (xs (i + 2))), none, none, none, none, none, none, none, none, none, none, none]) hC hR h1 hWC.1.1.1 (T_near (J := J) hWC hWR hn)
  refine rn_nx (pc' := 1482) (al' := [some (.ref 1), some (.ref 2), some (.ref 146), some (.int (nI i))]) (st' := [.ref 2]) (h' := h) d_294_1481 rfl ?_
  refine rn_a1 d_294_1482 d_294_1483 d_294_1484 d_294_1485 d_294_1486 h1 (by omega) hL ?_
  refine rn_a2 d_294_1487 d_294_1488 d_294_1489 d_294_1490 d_294_1491 h1 (by omega) hL ?_
  refine rn_iv (b := 2) (as := [.int (xs (i + 1)), .int (xs (i + 2))]) (al0 := [some (.ref 2), some (.int (xs (i + 1))), some (.int (xs (i + 2)))]) (r := []) d_294_1492 lm_159 lz_163.1 rfl rfl (by decide) (by rw [lz_163.2]; exact hfs) (by rw [lz_163.2]; decide) rfl hv (fun r2 h2 hx => ?_)
  obtain ⟨e2, g1, ⟨fs2, hfs2⟩, hv2⟩ := hx
  obtain rfl := e2
  show RN 81 294 1495 [some (.ref 1), some (.ref 2), some (.ref 146), some (.int (nI i))] [.int v] h2 Q
  refine rn_nx (pc' := 1496) (al' := [some (.ref 1), some (.ref 2), some (.ref 146), some (.int (nI i))]) (st' := [.ref 146, .int v]) (h' := h2) d_294_1495 rfl ?_
  refine rn_a1 d_294_1496 d_294_1497 d_294_1498 d_294_1499 d_294_1500 g1 (by omega) hL ?_
  refine rn_a2 d_294_1501 d_294_1502 d_294_1503 d_294_1504 d_294_1505 g1 (by omega) hL ?_
  refine rn_iv (b := 146) (as := [.int (xs (i + 1)), .int (xs (i + 2))]) (al0 := [some (.ref 146), some (.int (xs (i + 1))), some (.int (xs (i + 2))), none, none, none, none, none, none, none, none, none, none, none]) (r := [.int v]) d_294_1506 lm_162 lz_269.1 rfl rfl (by decide) (by rw [lz_269.2]; exact hfs2) (by rw [lz_269.2]; decide) rfl hv2 (fun r3 h3 hx => ?_)
  obtain ⟨e3, hI3⟩ := hx
  obtain rfl := e3
  show RN 81 294 1509 [some (.ref 1), some (.ref 2), some (.ref 146), some (.int (nI i))] [.int v, .int v] h3 Q
  exact rn_eq d_294_1509 (by decide) (hk h3 hI3)
theorem lw_c36 {n L i : Nat} {xs : Nat → Int32} {h : AH} {Q : Option Value → AH → Prop} (hI : LwI n L xs h) (hn : n ≤ 10000) (hi : i + 5 < L) (hL : L ≤ 3072) (hk : ∀ h', LwI (n + 1) L xs h' → RN 81 294 1807 [some (.ref 1), some (.ref 2), some (.ref 146), some (.int (nI i))] [] h' Q) : RN 81 294 1514 [some (.ref 1), some (.ref 2), some (.ref 146), some (.int (nI i))] [] h Q := by
  obtain ⟨S, G, B, J, R, g, A, W, hC, hR, h1, hWC, hWR⟩ := hI
  obtain ⟨fs, hfs⟩ := lw_2 hC hWC.1.1
  obtain ⟨v, hv⟩ := lw_tie (alc := [some (.ref 2), some (.int (xs (i + 1)))]) (alr := [some (.ref 146), some (.int (xs (i + 1))), none]) hC hR h1 hWC.1.1.1 (T_board (J := J) hWC hWR hn)
  refine rn_nx (pc' := 1515) (al' := [some (.ref 1), some (.ref 2), some (.ref 146), some (.int (nI i))]) (st' := [.ref 2]) (h' := h) d_294_1514 rfl ?_
  refine rn_a1 d_294_1515 d_294_1516 d_294_1517 d_294_1518 d_294_1519 h1 (by omega) hL ?_
  refine rn_iv (b := 2) (as := [.int (xs (i + 1))]) (al0 := [some (.ref 2), some (.int (xs (i + 1)))]) (r := []) d_294_1520 lm_163 lz_164.1 rfl rfl (by decide) (by rw [lz_164.2]; exact hfs) (by rw [lz_164.2]; decide) rfl hv (fun r2 h2 hx => ?_)
  obtain ⟨e2, g1, ⟨fs2, hfs2⟩, hv2⟩ := hx
  obtain rfl := e2
  show RN 81 294 1523 [some (.ref 1), some (.ref 2), some (.ref 146), some (.int (nI i))] [.int v] h2 Q
  refine rn_nx (pc' := 1524) (al' := [some (.ref 1), some (.ref 2), some (.ref 146), some (.int (nI i))]) (st' := [.ref 146, .int v]) (h' := h2) d_294_1523 rfl ?_
  refine rn_a1 d_294_1524 d_294_1525 d_294_1526 d_294_1527 d_294_1528 g1 (by omega) hL ?_
  refine rn_iv (b := 146) (as := [.int (xs (i + 1))]) (al0 := [some (.ref 146), some (.int (xs (i + 1))), none]) (r := [.int v]) d_294_1529 lm_166 lz_278.1 rfl rfl (by decide) (by rw [lz_278.2]; exact hfs2) (by rw [lz_278.2]; decide) rfl hv2 (fun r3 h3 hx => ?_)
  obtain ⟨e3, hI3⟩ := hx
  obtain rfl := e3
  show RN 81 294 1532 [some (.ref 1), some (.ref 2), some (.ref 146), some (.int (nI i))] [.int v, .int v] h3 Q
  exact rn_eq d_294_1532 (by decide) (hk h3 hI3)
theorem lw_c37 {n L i : Nat} {xs : Nat → Int32} {h : AH} {Q : Option Value → AH → Prop} (hI : LwI n L xs h) (hn : n ≤ 10000) (hi : i + 5 < L) (hL : L ≤ 3072) (hk : ∀ h', LwI (n + 1) L xs h' → RN 81 294 1807 [some (.ref 1), some (.ref 2), some (.ref 146), some (.int (nI i))] [] h' Q) : RN 81 294 1537 [some (.ref 1), some (.ref 2), some (.ref 146), some (.int (nI i))] [] h Q := by
  obtain ⟨S, G, B, J, R, g, A, W, hC, hR, h1, hWC, hWR⟩ := hI
  obtain ⟨fs, hfs⟩ := lw_2 hC hWC.1.1
  obtain ⟨v, hv⟩ := lw_tie (alc := [some (.ref 2), some (.int (xs (i + 1))), some (.int (xs (i + 2))), some (.int (xs (i + 3))), none, none]) (alr := [some (.ref 146), some (.int (xs (i + 1))), some (.int (xs (i + 2))), some (.int (xs (i + 3))), none, none]) hC hR h1 hWC.1.1.1 (T_clue (J := J) hWC hWR hn)
  refine rn_nx (pc' := 1538) (al' := [some (.ref 1), some (.ref 2), some (.ref 146), some (.int (nI i))]) (st' := [.ref 2]) (h' := h) d_294_1537 rfl ?_
  refine rn_a1 d_294_1538 d_294_1539 d_294_1540 d_294_1541 d_294_1542 h1 (by omega) hL ?_
  refine rn_a2 d_294_1543 d_294_1544 d_294_1545 d_294_1546 d_294_1547 h1 (by omega) hL ?_
  refine rn_a3 d_294_1548 d_294_1549 d_294_1550 d_294_1551 d_294_1552 h1 (by omega) hL ?_
  refine rn_iv (b := 2) (as := [.int (xs (i + 1)), .int (xs (i + 2)), .int (xs (i + 3))]) (al0 := [some (.ref 2), some (.int (xs (i + 1))), some (.int (xs (i + 2))), some (.int (xs (i + 3))), none, none]) (r := []) d_294_1553 lm_167 lz_165.1 rfl rfl (by decide) (by rw [lz_165.2]; exact hfs) (by rw [lz_165.2]; decide) rfl hv (fun r2 h2 hx => ?_)
  obtain ⟨e2, g1, ⟨fs2, hfs2⟩, hv2⟩ := hx
  obtain rfl := e2
  show RN 81 294 1556 [some (.ref 1), some (.ref 2), some (.ref 146), some (.int (nI i))] [.int v] h2 Q
  refine rn_nx (pc' := 1557) (al' := [some (.ref 1), some (.ref 2), some (.ref 146), some (.int (nI i))]) (st' := [.ref 146, .int v]) (h' := h2) d_294_1556 rfl ?_
  refine rn_a1 d_294_1557 d_294_1558 d_294_1559 d_294_1560 d_294_1561 g1 (by omega) hL ?_
  refine rn_a2 d_294_1562 d_294_1563 d_294_1564 d_294_1565 d_294_1566 g1 (by omega) hL ?_
  refine rn_a3 d_294_1567 d_294_1568 d_294_1569 d_294_1570 d_294_1571 g1 (by omega) hL ?_
  refine rn_iv (b := 146) (as := [.int (xs (i + 1)), .int (xs (i + 2)), .int (xs (i + 3))]) (al0 := [some (.ref 146), some (.int (xs (i + 1))), some (.int (xs (i + 2))), some (.int (xs (i + 3))), none, none]) (r := [.int v]) d_294_1572 lm_170 lz_279.1 rfl rfl (by decide) (by rw [lz_279.2]; exact hfs2) (by rw [lz_279.2]; decide) rfl hv2 (fun r3 h3 hx => ?_)
  obtain ⟨e3, hI3⟩ := hx
  obtain rfl := e3
  show RN 81 294 1575 [some (.ref 1), some (.ref 2), some (.ref 146), some (.int (nI i))] [.int v, .int v] h3 Q
  exact rn_eq d_294_1575 (by decide) (hk h3 hI3)
theorem lw_c38 {n L i : Nat} {xs : Nat → Int32} {h : AH} {Q : Option Value → AH → Prop} (hI : LwI n L xs h) (hn : n ≤ 10000) (hi : i + 5 < L) (hL : L ≤ 3072) (hk : ∀ h', LwI (n + 1) L xs h' → RN 81 294 1807 [some (.ref 1), some (.ref 2), some (.ref 146), some (.int (nI i))] [] h' Q) : RN 81 294 1580 [some (.ref 1), some (.ref 2), some (.ref 146), some (.int (nI i))] [] h Q := by
  obtain ⟨S, G, B, J, R, g, A, W, hC, hR, h1, hWC, hWR⟩ := hI
  obtain ⟨fs, hfs⟩ := lw_2 hC hWC.1.1
  obtain ⟨v, hv⟩ := lw_tie (alc := [some (.ref 2)]) (alr := [some (.ref 146)]) hC hR h1 hWC.1.1.1 (T_filled (J := J) hWC hWR hn)
  refine rn_nx (pc' := 1581) (al' := [some (.ref 1), some (.ref 2), some (.ref 146), some (.int (nI i))]) (st' := [.ref 2]) (h' := h) d_294_1580 rfl ?_
  refine rn_iv (b := 2) (as := []) (al0 := [some (.ref 2)]) (r := []) d_294_1581 lm_171 lz_167.1 rfl rfl (by decide) (by rw [lz_167.2]; exact hfs) (by rw [lz_167.2]; decide) rfl hv (fun r2 h2 hx => ?_)
  obtain ⟨e2, g1, ⟨fs2, hfs2⟩, hv2⟩ := hx
  obtain rfl := e2
  show RN 81 294 1584 [some (.ref 1), some (.ref 2), some (.ref 146), some (.int (nI i))] [.int v] h2 Q
  refine rn_nx (pc' := 1585) (al' := [some (.ref 1), some (.ref 2), some (.ref 146), some (.int (nI i))]) (st' := [.ref 146, .int v]) (h' := h2) d_294_1584 rfl ?_
  refine rn_iv (b := 146) (as := []) (al0 := [some (.ref 146)]) (r := [.int v]) d_294_1585 lm_174 lz_281.1 rfl rfl (by decide) (by rw [lz_281.2]; exact hfs2) (by rw [lz_281.2]; decide) rfl hv2 (fun r3 h3 hx => ?_)
  obtain ⟨e3, hI3⟩ := hx
  obtain rfl := e3
  show RN 81 294 1588 [some (.ref 1), some (.ref 2), some (.ref 146), some (.int (nI i))] [.int v, .int v] h3 Q
  exact rn_eq d_294_1588 (by decide) (hk h3 hI3)
theorem lw_c39 {n L i : Nat} {xs : Nat → Int32} {h : AH} {Q : Option Value → AH → Prop} (hI : LwI n L xs h) (hn : n ≤ 10000) (hi : i + 5 < L) (hL : L ≤ 3072) (hk : ∀ h', LwI (n + 1) L xs h' → RN 81 294 1807 [some (.ref 1), some (.ref 2), some (.ref 146), some (.int (nI i))] [] h' Q) : RN 81 294 1593 [some (.ref 1), some (.ref 2), some (.ref 146), some (.int (nI i))] [] h Q := by
  obtain ⟨S, G, B, J, R, g, A, W, hC, hR, h1, hWC, hWR⟩ := hI
  obtain ⟨fs, hfs⟩ := lw_2 hC hWC.1.1
  obtain ⟨v, hv⟩ := lw_tie (alc := [some (.ref 2), some (.int (xs (i + 1))), none]) (alr := [some (.ref 146), some (.int (xs (i + 1)))]) hC hR h1 hWC.1.1.1 (T_fill (J := J) hWC hWR hn)
  refine rn_nx (pc' := 1594) (al' := [some (.ref 1), some (.ref 2), some (.ref 146), some (.int (nI i))]) (st' := [.ref 2]) (h' := h) d_294_1593 rfl ?_
  refine rn_a1 d_294_1594 d_294_1595 d_294_1596 d_294_1597 d_294_1598 h1 (by omega) hL ?_
  refine rn_iv (b := 2) (as := [.int (xs (i + 1))]) (al0 := [some (.ref 2), some (.int (xs (i + 1))), none]) (r := []) d_294_1599 lm_175 lz_168.1 rfl rfl (by decide) (by rw [lz_168.2]; exact hfs) (by rw [lz_168.2]; decide) rfl hv (fun r2 h2 hx => ?_)
  obtain ⟨e2, g1, ⟨fs2, hfs2⟩, hv2⟩ := hx
  obtain rfl := e2
  show RN 81 294 1602 [some (.ref 1), some (.ref 2), some (.ref 146), some (.int (nI i))] [.int v] h2 Q
  refine rn_nx (pc' := 1603) (al' := [some (.ref 1), some (.ref 2), some (.ref 146), some (.int (nI i))]) (st' := [.ref 146, .int v]) (h' := h2) d_294_1602 rfl ?_
  refine rn_a1 d_294_1603 d_294_1604 d_294_1605 d_294_1606 d_294_1607 g1 (by omega) hL ?_
  refine rn_iv (b := 146) (as := [.int (xs (i + 1))]) (al0 := [some (.ref 146), some (.int (xs (i + 1)))]) (r := [.int v]) d_294_1608 lm_178 lz_283.1 rfl rfl (by decide) (by rw [lz_283.2]; exact hfs2) (by rw [lz_283.2]; decide) rfl hv2 (fun r3 h3 hx => ?_)
  obtain ⟨e3, hI3⟩ := hx
  obtain rfl := e3
  show RN 81 294 1611 [some (.ref 1), some (.ref 2), some (.ref 146), some (.int (nI i))] [.int v, .int v] h3 Q
  exact rn_eq d_294_1611 (by decide) (hk h3 hI3)
theorem lw_c40 {n L i : Nat} {xs : Nat → Int32} {h : AH} {Q : Option Value → AH → Prop} (hI : LwI n L xs h) (hn : n ≤ 10000) (hi : i + 5 < L) (hL : L ≤ 3072) (hk : ∀ h', LwI (n + 1) L xs h' → RN 81 294 1807 [some (.ref 1), some (.ref 2), some (.ref 146), some (.int (nI i))] [] h' Q) : RN 81 294 1616 [some (.ref 1), some (.ref 2), some (.ref 146), some (.int (nI i))] [] h Q := by
  obtain ⟨S, G, B, J, R, g, A, W, hC, hR, h1, hWC, hWR⟩ := hI
  obtain ⟨fs, hfs⟩ := lw_2 hC hWC.1.1
  obtain ⟨v, hv⟩ := lw_tie (alc := [some (.ref 2), some (.int (xs (i + 1))), some (.int (xs (i + 2))), none, none, none, none]) (alr := [some (.ref 146), some (.int (xs (i + 1))), some (.int (xs (i + 2))), none, none, none, none]) hC hR h1 hWC.1.1.1 (T_spare (J := J) hWC hWR hn)
  refine rn_nx (pc' := 1617) (al' := [some (.ref 1), some (.ref 2), some (.ref 146), some (.int (nI i))]) (st' := [.ref 2]) (h' := h) d_294_1616 rfl ?_
  refine rn_a1 d_294_1617 d_294_1618 d_294_1619 d_294_1620 d_294_1621 h1 (by omega) hL ?_
  refine rn_a2 d_294_1622 d_294_1623 d_294_1624 d_294_1625 d_294_1626 h1 (by omega) hL ?_
  refine rn_iv (b := 2) (as := [.int (xs (i + 1)), .int (xs (i + 2))]) (al0 := [some (.ref 2), some (.int (xs (i + 1))), some (.int (xs (i + 2))), none, none, none, none]) (r := []) d_294_1627 lm_179 lz_169.1 rfl rfl (by decide) (by rw [lz_169.2]; exact hfs) (by rw [lz_169.2]; decide) rfl hv (fun r2 h2 hx => ?_)
  obtain ⟨e2, g1, ⟨fs2, hfs2⟩, hv2⟩ := hx
  obtain rfl := e2
  show RN 81 294 1630 [some (.ref 1), some (.ref 2), some (.ref 146), some (.int (nI i))] [.int v] h2 Q
  refine rn_nx (pc' := 1631) (al' := [some (.ref 1), some (.ref 2), some (.ref 146), some (.int (nI i))]) (st' := [.ref 146, .int v]) (h' := h2) d_294_1630 rfl ?_
  refine rn_a1 d_294_1631 d_294_1632 d_294_1633 d_294_1634 d_294_1635 g1 (by omega) hL ?_
  refine rn_a2 d_294_1636 d_294_1637 d_294_1638 d_294_1639 d_294_1640 g1 (by omega) hL ?_
  refine rn_iv (b := 146) (as := [.int (xs (i + 1)), .int (xs (i + 2))]) (al0 := [some (.ref 146), some (.int (xs (i + 1))), some (.int (xs (i + 2))), none, none, none, none]) (r := [.int v]) d_294_1641 lm_182 lz_284.1 rfl rfl (by decide) (by rw [lz_284.2]; exact hfs2) (by rw [lz_284.2]; decide) rfl hv2 (fun r3 h3 hx => ?_)
  obtain ⟨e3, hI3⟩ := hx
  obtain rfl := e3
  show RN 81 294 1644 [some (.ref 1), some (.ref 2), some (.ref 146), some (.int (nI i))] [.int v, .int v] h3 Q
  exact rn_eq d_294_1644 (by decide) (hk h3 hI3)
theorem lw_c41 {n L i : Nat} {xs : Nat → Int32} {h : AH} {Q : Option Value → AH → Prop} (hI : LwI n L xs h) (hn : n ≤ 10000) (hi : i + 5 < L) (hL : L ≤ 3072) (hk : ∀ h', LwI (n + 1) L xs h' → RN 81 294 1807 [some (.ref 1), some (.ref 2), some (.ref 146), some (.int (nI i))] [] h' Q) : RN 81 294 1649 [some (.ref 1), some (.ref 2), some (.ref 146), some (.int (nI i))] [] h Q := by
  obtain ⟨S, G, B, J, R, g, A, W, hC, hR, h1, hWC, hWR⟩ := hI
  obtain ⟨fs, hfs⟩ := lw_2 hC hWC.1.1
  obtain ⟨v, hv⟩ := lw_tie (alc := [some (.ref 2), some (.int (xs (i + 1))), some (.int (xs (i + 2))), some (.int (xs (i + 3))), none, none, none, none, none, none]) (alr := [some (.ref 146), some (.int (xs (i + 1))), some (.int (xs (i + 2))), some (.int (xs (i + 3))), none, none, none]) hC hR h1 hWC.1.1.1 (T_walk (J := J) hWC hWR hn)
  refine rn_nx (pc' := 1650) (al' := [some (.ref 1), some (.ref 2), some (.ref 146), some (.int (nI i))]) (st' := [.ref 2]) (h' := h) d_294_1649 rfl ?_
  refine rn_a1 d_294_1650 d_294_1651 d_294_1652 d_294_1653 d_294_1654 h1 (by omega) hL ?_
  refine rn_a2 d_294_1655 d_294_1656 d_294_1657 d_294_1658 d_294_1659 h1 (by omega) hL ?_
  refine rn_a3 d_294_1660 d_294_1661 d_294_1662 d_294_1663 d_294_1664 h1 (by omega) hL ?_
  refine rn_iv (b := 2) (as := [.int (xs (i + 1)), .int (xs (i + 2)), .int (xs (i + 3))]) (al0 := [some (.ref 2), some (.int (xs (i + 1))), some (.int (xs (i + 2))), some (.int (xs (i + 3))), none, none, none, none, none, none]) (r := []) d_294_1665 lm_183 lz_170.1 rfl rfl (by decide) (by rw [lz_170.2]; exact hfs) (by rw [lz_170.2]; decide) rfl hv (fun r2 h2 hx => ?_)
  obtain ⟨e2, g1, ⟨fs2, hfs2⟩, hv2⟩ := hx
  obtain rfl := e2
  show RN 81 294 1668 [some (.ref 1), some (.ref 2), some (.ref 146), some (.int (nI i))] [.int v] h2 Q
  refine rn_nx (pc' := 1669) (al' := [some (.ref 1), some (.ref 2), some (.ref 146), some (.int (nI i))]) (st' := [.ref 146, .int v]) (h' := h2) d_294_1668 rfl ?_
  refine rn_a1 d_294_1669 d_294_1670 d_294_1671 d_294_1672 d_294_1673 g1 (by omega) hL ?_
  refine rn_a2 d_294_1674 d_294_1675 d_294_1676 d_294_1677 d_294_1678 g1 (by omega) hL ?_
  refine rn_a3 d_294_1679 d_294_1680 d_294_1681 d_294_1682 d_294_1683 g1 (by omega) hL ?_
  refine rn_iv (b := 146) (as := [.int (xs (i + 1)), .int (xs (i + 2)), .int (xs (i + 3))]) (al0 := [some (.ref 146), some (.int (xs (i + 1))), some (.int (xs (i + 2))), some (.int (xs (i + 3))), none, none, none]) (r := [.int v]) d_294_1684 lm_186 lz_285.1 rfl rfl (by decide) (by rw [lz_285.2]; exact hfs2) (by rw [lz_285.2]; decide) rfl hv2 (fun r3 h3 hx => ?_)
  obtain ⟨e3, hI3⟩ := hx
  obtain rfl := e3
  show RN 81 294 1687 [some (.ref 1), some (.ref 2), some (.ref 146), some (.int (nI i))] [.int v, .int v] h3 Q
  exact rn_eq d_294_1687 (by decide) (hk h3 hI3)
theorem lw_c42 {n L i : Nat} {xs : Nat → Int32} {h : AH} {Q : Option Value → AH → Prop} (hI : LwI n L xs h) (hn : n ≤ 10000) (hi : i + 5 < L) (hL : L ≤ 3072) (hk : ∀ h', LwI (n + 1) L xs h' → RN 81 294 1807 [some (.ref 1), some (.ref 2), some (.ref 146), some (.int (nI i))] [] h' Q) : RN 81 294 1692 [some (.ref 1), some (.ref 2), some (.ref 146), some (.int (nI i))] [] h Q := by
  obtain ⟨S, G, B, J, R, g, A, W, hC, hR, h1, hWC, hWR⟩ := hI
  obtain ⟨fs, hfs⟩ := lw_2 hC hWC.1.1
  obtain ⟨v, hv⟩ := lw_tie (alc := [some (.ref 2), some (.int (xs (i + 1))), some (.int (xs (i + 2)))]) (alr := [some (.ref 146), some (.int (xs (i + 1))), some (.int (xs (i + 2)))]) hC hR h1 hWC.1.1.1 (T_drawn (J := J) hWC hWR hn)
  refine rn_nx (pc' := 1693) (al' := [some (.ref 1), some (.ref 2), some (.ref 146), some (.int (nI i))]) (st' := [.ref 2]) (h' := h) d_294_1692 rfl ?_
  refine rn_a1 d_294_1693 d_294_1694 d_294_1695 d_294_1696 d_294_1697 h1 (by omega) hL ?_
  refine rn_a2 d_294_1698 d_294_1699 d_294_1700 d_294_1701 d_294_1702 h1 (by omega) hL ?_
  refine rn_iv (b := 2) (as := [.int (xs (i + 1)), .int (xs (i + 2))]) (al0 := [some (.ref 2), some (.int (xs (i + 1))), some (.int (xs (i + 2)))]) (r := []) d_294_1703 lm_187 lz_172.1 rfl rfl (by decide) (by rw [lz_172.2]; exact hfs) (by rw [lz_172.2]; decide) rfl hv (fun r2 h2 hx => ?_)
  obtain ⟨e2, g1, ⟨fs2, hfs2⟩, hv2⟩ := hx
  obtain rfl := e2
  show RN 81 294 1706 [some (.ref 1), some (.ref 2), some (.ref 146), some (.int (nI i))] [.int v] h2 Q
  refine rn_nx (pc' := 1707) (al' := [some (.ref 1), some (.ref 2), some (.ref 146), some (.int (nI i))]) (st' := [.ref 146, .int v]) (h' := h2) d_294_1706 rfl ?_
  refine rn_a1 d_294_1707 d_294_1708 d_294_1709 d_294_1710 d_294_1711 g1 (by omega) hL ?_
  refine rn_a2 d_294_1712 d_294_1713 d_294_1714 d_294_1715 d_294_1716 g1 (by omega) hL ?_
  refine rn_iv (b := 146) (as := [.int (xs (i + 1)), .int (xs (i + 2))]) (al0 := [some (.ref 146), some (.int (xs (i + 1))), some (.int (xs (i + 2)))]) (r := [.int v]) d_294_1717 lm_190 lz_287.1 rfl rfl (by decide) (by rw [lz_287.2]; exact hfs2) (by rw [lz_287.2]; decide) rfl hv2 (fun r3 h3 hx => ?_)
  obtain ⟨e3, hI3⟩ := hx
  obtain rfl := e3
  show RN 81 294 1720 [some (.ref 1), some (.ref 2), some (.ref 146), some (.int (nI i))] [.int v, .int v] h3 Q
  exact rn_eq d_294_1720 (by decide) (hk h3 hI3)
theorem lw_c43 {n L i : Nat} {xs : Nat → Int32} {h : AH} {Q : Option Value → AH → Prop} (hI : LwI n L xs h) (hn : n ≤ 10000) (hi : i + 5 < L) (hL : L ≤ 3072) (hk : ∀ h', LwI (n + 1) L xs h' → RN 81 294 1807 [some (.ref 1), some (.ref 2), some (.ref 146), some (.int (nI i))] [] h' Q) : RN 81 294 1725 [some (.ref 1), some (.ref 2), some (.ref 146), some (.int (nI i))] [] h Q := by
  obtain ⟨S, G, B, J, R, g, A, W, hC, hR, h1, hWC, hWR⟩ := hI
  obtain ⟨fs, hfs⟩ := lw_2 hC hWC.1.1
  obtain ⟨v, hv⟩ := lw_tie (alc := [some (.ref 2), some (.int (xs (i + 1)))]) (alr := [some (.ref 146), some (.int (xs (i + 1))), none]) hC hR h1 hWC.1.1.1 (T_image (J := J) hWC hWR hn)
  refine rn_nx (pc' := 1726) (al' := [some (.ref 1), some (.ref 2), some (.ref 146), some (.int (nI i))]) (st' := [.ref 2]) (h' := h) d_294_1725 rfl ?_
  refine rn_a1 d_294_1726 d_294_1727 d_294_1728 d_294_1729 d_294_1730 h1 (by omega) hL ?_
  refine rn_iv (b := 2) (as := [.int (xs (i + 1))]) (al0 := [some (.ref 2), some (.int (xs (i + 1)))]) (r := []) d_294_1731 lm_191 lz_173.1 rfl rfl (by decide) (by rw [lz_173.2]; exact hfs) (by rw [lz_173.2]; decide) rfl hv (fun r2 h2 hx => ?_)
  obtain ⟨e2, g1, ⟨fs2, hfs2⟩, hv2⟩ := hx
  obtain rfl := e2
  show RN 81 294 1734 [some (.ref 1), some (.ref 2), some (.ref 146), some (.int (nI i))] [.int v] h2 Q
  refine rn_nx (pc' := 1735) (al' := [some (.ref 1), some (.ref 2), some (.ref 146), some (.int (nI i))]) (st' := [.ref 146, .int v]) (h' := h2) d_294_1734 rfl ?_
  refine rn_a1 d_294_1735 d_294_1736 d_294_1737 d_294_1738 d_294_1739 g1 (by omega) hL ?_
  refine rn_iv (b := 146) (as := [.int (xs (i + 1))]) (al0 := [some (.ref 146), some (.int (xs (i + 1))), none]) (r := [.int v]) d_294_1740 lm_194 lz_178.1 rfl rfl (by decide) (by rw [lz_178.2]; exact hfs2) (by rw [lz_178.2]; decide) rfl hv2 (fun r3 h3 hx => ?_)
  obtain ⟨e3, hI3⟩ := hx
  obtain rfl := e3
  show RN 81 294 1743 [some (.ref 1), some (.ref 2), some (.ref 146), some (.int (nI i))] [.int v, .int v] h3 Q
  exact rn_eq d_294_1743 (by decide) (hk h3 hI3)
theorem lw_c44 {n L i : Nat} {xs : Nat → Int32} {h : AH} {Q : Option Value → AH → Prop} (hI : LwI n L xs h) (hn : n ≤ 10000) (hi : i + 5 < L) (hL : L ≤ 3072) (hk : ∀ h', LwI (n + 1) L xs h' → RN 81 294 1807 [some (.ref 1), some (.ref 2), some (.ref 146), some (.int (nI i))] [] h' Q) : RN 81 294 1748 [some (.ref 1), some (.ref 2), some (.ref 146), some (.int (nI i))] [] h Q := by
  obtain ⟨S, G, B, J, R, g, A, W, hC, hR, h1, hWC, hWR⟩ := hI
  obtain ⟨fs, hfs⟩ := lw_2 hC hWC.1.1
  obtain ⟨v, hv⟩ := lw_tie (alc := [some (.ref 2), some (.int (xs (i + 1)))]) (alr := [some (.ref 146), some (.int (xs (i + 1))), none]) hC hR h1 hWC.1.1.1 (T_back (J := J) hWC hWR hn)
  refine rn_nx (pc' := 1749) (al' := [some (.ref 1), some (.ref 2), some (.ref 146), some (.int (nI i))]) (st' := [.ref 2]) (h' := h) d_294_1748 rfl ?_
  refine rn_a1 d_294_1749 d_294_1750 d_294_1751 d_294_1752 d_294_1753 h1 (by omega) hL ?_
  refine rn_iv (b := 2) (as := [.int (xs (i + 1))]) (al0 := [some (.ref 2), some (.int (xs (i + 1)))]) (r := []) d_294_1754 lm_195 lz_174.1 rfl rfl (by decide) (by rw [lz_174.2]; exact hfs) (by rw [lz_174.2]; decide) rfl hv (fun r2 h2 hx => ?_)
  obtain ⟨e2, g1, ⟨fs2, hfs2⟩, hv2⟩ := hx
  obtain rfl := e2
  show RN 81 294 1757 [some (.ref 1), some (.ref 2), some (.ref 146), some (.int (nI i))] [.int v] h2 Q
  refine rn_nx (pc' := 1758) (al' := [some (.ref 1), some (.ref 2), some (.ref 146), some (.int (nI i))]) (st' := [.ref 146, .int v]) (h' := h2) d_294_1757 rfl ?_
  refine rn_a1 d_294_1758 d_294_1759 d_294_1760 d_294_1761 d_294_1762 g1 (by omega) hL ?_
  refine rn_iv (b := 146) (as := [.int (xs (i + 1))]) (al0 := [some (.ref 146), some (.int (xs (i + 1))), none]) (r := [.int v]) d_294_1763 lm_198 lz_182.1 rfl rfl (by decide) (by rw [lz_182.2]; exact hfs2) (by rw [lz_182.2]; decide) rfl hv2 (fun r3 h3 hx => ?_)
  obtain ⟨e3, hI3⟩ := hx
  obtain rfl := e3
  show RN 81 294 1766 [some (.ref 1), some (.ref 2), some (.ref 146), some (.int (nI i))] [.int v, .int v] h3 Q
  exact rn_eq d_294_1766 (by decide) (hk h3 hI3)
theorem lw_c45 {n L i : Nat} {xs : Nat → Int32} {h : AH} {Q : Option Value → AH → Prop} (hI : LwI n L xs h) (hn : n ≤ 10000) (hi : i + 5 < L) (hL : L ≤ 3072) (hk : ∀ h', LwI (n + 1) L xs h' → RN 81 294 1807 [some (.ref 1), some (.ref 2), some (.ref 146), some (.int (nI i))] [] h' Q) : RN 81 294 1771 [some (.ref 1), some (.ref 2), some (.ref 146), some (.int (nI i))] [] h Q := by
  obtain ⟨S, G, B, J, R, g, A, W, hC, hR, h1, hWC, hWR⟩ := hI
  obtain ⟨fs, hfs⟩ := lw_2 hC hWC.1.1
  obtain ⟨v, hv⟩ := lw_tie (alc := [some (.ref 2), some (.int (xs (i + 1)))]) (alr := [some (.ref 146), some (.int (xs (i + 1))), none, none, none]) hC hR h1 hWC.1.1.1 (T_count (J := J) hWC hWR hn)
  refine rn_nx (pc' := 1772) (al' := [some (.ref 1), some (.ref 2), some (.ref 146), some (.int (nI i))]) (st' := [.ref 2]) (h' := h) d_294_1771 rfl ?_
  refine rn_a1 d_294_1772 d_294_1773 d_294_1774 d_294_1775 d_294_1776 h1 (by omega) hL ?_
  refine rn_iv (b := 2) (as := [.int (xs (i + 1))]) (al0 := [some (.ref 2), some (.int (xs (i + 1)))]) (r := []) d_294_1777 lm_199 lz_175.1 rfl rfl (by decide) (by rw [lz_175.2]; exact hfs) (by rw [lz_175.2]; decide) rfl hv (fun r2 h2 hx => ?_)
  obtain ⟨e2, g1, ⟨fs2, hfs2⟩, hv2⟩ := hx
  obtain rfl := e2
  show RN 81 294 1780 [some (.ref 1), some (.ref 2), some (.ref 146), some (.int (nI i))] [.int v] h2 Q
  refine rn_nx (pc' := 1781) (al' := [some (.ref 1), some (.ref 2), some (.ref 146), some (.int (nI i))]) (st' := [.ref 146, .int v]) (h' := h2) d_294_1780 rfl ?_
  refine rn_a1 d_294_1781 d_294_1782 d_294_1783 d_294_1784 d_294_1785 g1 (by omega) hL ?_
  refine rn_iv (b := 146) (as := [.int (xs (i + 1))]) (al0 := [some (.ref 146), some (.int (xs (i + 1))), none, none, none]) (r := [.int v]) d_294_1786 lm_202 lz_288.1 rfl rfl (by decide) (by rw [lz_288.2]; exact hfs2) (by rw [lz_288.2]; decide) rfl hv2 (fun r3 h3 hx => ?_)
  obtain ⟨e3, hI3⟩ := hx
  obtain rfl := e3
  show RN 81 294 1789 [some (.ref 1), some (.ref 2), some (.ref 146), some (.int (nI i))] [.int v, .int v] h3 Q
  exact rn_eq d_294_1789 (by decide) (hk h3 hI3)
theorem lw_c46 {n L i : Nat} {xs : Nat → Int32} {h : AH} {Q : Option Value → AH → Prop} (hI : LwI n L xs h) (hn : n ≤ 10000) (hi : i + 5 < L) (hL : L ≤ 3072) (hk : ∀ h', LwI (n + 1) L xs h' → RN 81 294 1807 [some (.ref 1), some (.ref 2), some (.ref 146), some (.int (nI i))] [] h' Q) : RN 81 294 1794 [some (.ref 1), some (.ref 2), some (.ref 146), some (.int (nI i))] [] h Q := by
  obtain ⟨S, G, B, J, R, g, A, W, hC, hR, h1, hWC, hWR⟩ := hI
  obtain ⟨fs, hfs⟩ := lw_2 hC hWC.1.1
  obtain ⟨v, hv⟩ := lw_tie (alc := [some (.ref 2)]) (alr := [some (.ref 146)]) hC hR h1 hWC.1.1.1 (T_status (J := J) hWC hWR hn)
  refine rn_nx (pc' := 1795) (al' := [some (.ref 1), some (.ref 2), some (.ref 146), some (.int (nI i))]) (st' := [.ref 2]) (h' := h) d_294_1794 rfl ?_
  refine rn_iv (b := 2) (as := []) (al0 := [some (.ref 2)]) (r := []) d_294_1795 lm_203 lz_176.1 rfl rfl (by decide) (by rw [lz_176.2]; exact hfs) (by rw [lz_176.2]; decide) rfl hv (fun r2 h2 hx => ?_)
  obtain ⟨e2, g1, ⟨fs2, hfs2⟩, hv2⟩ := hx
  obtain rfl := e2
  show RN 81 294 1798 [some (.ref 1), some (.ref 2), some (.ref 146), some (.int (nI i))] [.int v] h2 Q
  refine rn_nx (pc' := 1799) (al' := [some (.ref 1), some (.ref 2), some (.ref 146), some (.int (nI i))]) (st' := [.ref 146, .int v]) (h' := h2) d_294_1798 rfl ?_
  refine rn_iv (b := 146) (as := []) (al0 := [some (.ref 146)]) (r := [.int v]) d_294_1799 lm_206 lz_289.1 rfl rfl (by decide) (by rw [lz_289.2]; exact hfs2) (by rw [lz_289.2]; decide) rfl hv2 (fun r3 h3 hx => ?_)
  obtain ⟨e3, hI3⟩ := hx
  obtain rfl := e3
  show RN 81 294 1802 [some (.ref 1), some (.ref 2), some (.ref 146), some (.int (nI i))] [.int v, .int v] h3 Q
  exact rn_eq d_294_1802 (by decide) (hk h3 hI3)
theorem rn_ts {k pc j l t : Nat} {al : AL} {r : List Value} {h : AH} {Q : Option Value → AH → Prop} {d lo hi off : Int} {offs : Array Int} (hd : decode (am_b 294) pc = .ok (.tableswitch d lo hi offs, l)) (hj : j < 2 ^ 31) (h1 : ¬ ((j : Int) < lo ∨ hi < (j : Int))) (ho : offs[((j : Int) - lo).toNat]? = some off) (ht : am_tg pc off = some t) (kk : RN k 294 t al r h Q) : RN k 294 pc al (.int (nI j) :: r) h Q := by
  refine rn_nx hd ?_ kk
  show am_ts d lo hi offs pc al (.int (nI j) :: r) h = _
  unfold am_ts
  simp only [nI_toInt hj]
  rw [if_neg h1, ho, Option.bind_some, am_jp, ht, Option.bind_some]
  rfl
theorem rn_td {k pc l t : Nat} {al : AL} {r : List Value} {h : AH} {Q : Option Value → AH → Prop} {d lo hi : Int} {offs : Array Int} {x : Int32} (hd : decode (am_b 294) pc = .ok (.tableswitch d lo hi offs, l)) (h1 : x.toInt < lo ∨ hi < x.toInt) (ht : am_tg pc d = some t) (kk : RN k 294 t al r h Q) : RN k 294 pc al (.int x :: r) h Q := by
  refine rn_nx hd ?_ kk
  show am_ts d lo hi offs pc al (.int x :: r) h = _
  unfold am_ts
  simp only []
  rw [if_pos h1, am_jp, ht, Option.bind_some]
  rfl
theorem z_63 (z : Int32) : ∃ j, j < 64 ∧ z &&& nI 63 = nI j := by
  have h2 : (z.toBitVec &&& 63#32).toNat < 64 := by
    rw [BitVec.toNat_and]
    exact Nat.lt_of_le_of_lt Nat.and_le_right (by decide)
  have h3 : (z &&& nI 63).toInt = (z.toBitVec &&& 63#32).toInt := rfl
  refine in_n ?_
  unfold inP
  rw [h3, BitVec.toInt_eq_toNat_of_lt (by omega)]
  omega
theorem LwI.mo {n L : Nat} {xs : Nat → Int32} {h : AH} (hI : LwI n L xs h) : LwI (n + 1) L xs h := by
  obtain ⟨S, G, B, J, R, g, A, W, hC, hR, h1, hWC, hWR⟩ := hI
  exact ⟨S, G, B, J, R, g, A, W, hC, hR, h1, hWC.mo, hWR.mo⟩
theorem lw_gt {i L : Nat} (hi : i ≤ 4000) (hL : L ≤ 3072) : nI L - nI 6 < nI i ↔ L < i + 6 := by
  have e : (nI L - nI 6).toInt = (L : Int) - 6 := by
    have h6 : (nI 6).toInt = 6 := by decide
    rw [Int32.toInt_sub, nI_toInt (by omega), h6]
    exact Int.bmod_eq_of_le (by omega) (by omega)
  rw [Int32.lt_iff_toInt_lt, e, nI_toInt (by omega)]
  omega
theorem lw_sw {n L i : Nat} {xs : Nat → Int32} {h : AH} {Q : Option Value → AH → Prop} (hI : LwI n L xs h) (hn : n ≤ 10000) (hi : i + 5 < L) (hL : L ≤ 3072) (hk : ∀ h', LwI (n + 1) L xs h' → RN 81 294 1807 [some (.ref 1), some (.ref 2), some (.ref 146), some (.int (nI i))] [] h' Q) : RN 81 294 27 [some (.ref 1), some (.ref 2), some (.ref 146), some (.int (nI i))] [] h Q := by
  have h1 : h[1]? = some (.inl (0, L, .inl xs)) := by
    obtain ⟨S, G, B, J, R, g, A, W, hC, hR, h1, _⟩ := hI
    exact h1
  refine rn_nx (pc' := 28) (al' := [some (.ref 1), some (.ref 2), some (.ref 146), some (.int (nI i))]) (st' := [.ref 1]) (h' := h) d_294_27 rfl ?_
  refine rn_nx (pc' := 29) (al' := [some (.ref 1), some (.ref 2), some (.ref 146), some (.int (nI i))]) (st' := [.int (nI i), .ref 1]) (h' := h) d_294_28 rfl ?_
  refine rn_sc d_294_29 h1 (by omega) hL ?_
  refine rn_nx (pc' := 32) (al' := [some (.ref 1), some (.ref 2), some (.ref 146), some (.int (nI i))]) (st' := [.int 63, .int (xs i)]) (h' := h) d_294_30 rfl ?_
  refine rn_nx (pc' := 33) (al' := [some (.ref 1), some (.ref 2), some (.ref 146), some (.int (nI i))]) (st' := [.int (xs i &&& nI 63)]) (h' := h) d_294_32 rfl ?_
  obtain ⟨j, hj, e⟩ := z_63 (xs i)
  rw [e]
  by_cases h46 : j ≤ 46
  · have hd : j = 0 ∨ j = 1 ∨ j = 2 ∨ j = 3 ∨ j = 4 ∨ j = 5 ∨ j = 6 ∨ j = 7 ∨ j = 8 ∨ j = 9 ∨ j = 10 ∨ j = 11 ∨ j = 12 ∨ j = 13 ∨ j = 14 ∨ j = 15 ∨ j = 16 ∨ j = 17 ∨ j = 18 ∨ j = 19 ∨ j = 20 ∨ j = 21 ∨ j = 22 ∨ j = 23 ∨ j = 24 ∨ j = 25 ∨ j = 26 ∨ j = 27 ∨ j = 28 ∨ j = 29 ∨ j = 30 ∨ j = 31 ∨ j = 32 ∨ j = 33 ∨ j = 34 ∨ j = 35 ∨ j = 36 ∨ j = 37 ∨ j = 38 ∨ j = 39 ∨ j = 40 ∨ j = 41 ∨ j = 42 ∨ j = 43 ∨ j = 44 ∨ j = 45 ∨ j = 46 := by omega
    rcases hd with rfl | rfl | rfl | rfl | rfl | rfl | rfl | rfl | rfl | rfl | rfl | rfl | rfl | rfl | rfl | rfl | rfl | rfl | rfl | rfl | rfl | rfl | rfl | rfl | rfl | rfl | rfl | rfl | rfl | rfl | rfl | rfl | rfl | rfl | rfl | rfl | rfl | rfl | rfl | rfl | rfl | rfl | rfl | rfl | rfl | rfl | rfl
    · exact rn_ts (off := 203) (t := 236) d_294_33 (by decide) (by decide) rfl (by decide) (lw_c0 hI hn hi hL hk)
    · exact rn_ts (off := 266) (t := 299) d_294_33 (by decide) (by decide) rfl (by decide) (lw_c1 hI hn hi hL hk)
    · exact rn_ts (off := 289) (t := 322) d_294_33 (by decide) (by decide) rfl (by decide) (lw_c2 hI hn hi hL hk)
    · exact rn_ts (off := 312) (t := 345) d_294_33 (by decide) (by decide) rfl (by decide) (lw_c3 hI hn hi hL hk)
    · exact rn_ts (off := 345) (t := 378) d_294_33 (by decide) (by decide) rfl (by decide) (lw_c4 hI hn hi hL hk)
    · exact rn_ts (off := 378) (t := 411) d_294_33 (by decide) (by decide) rfl (by decide) (lw_c5 hI hn hi hL hk)
    · exact rn_ts (off := 421) (t := 454) d_294_33 (by decide) (by decide) rfl (by decide) (lw_c6 hI hn hi hL hk)
    · exact rn_ts (off := 454) (t := 487) d_294_33 (by decide) (by decide) rfl (by decide) (lw_c7 hI hn hi hL hk)
    · exact rn_ts (off := 487) (t := 520) d_294_33 (by decide) (by decide) rfl (by decide) (lw_c8 hI hn hi hL hk)
    · exact rn_ts (off := 540) (t := 573) d_294_33 (by decide) (by decide) rfl (by decide) (lw_c9 hI hn hi hL hk)
    · exact rn_ts (off := 583) (t := 616) d_294_33 (by decide) (by decide) rfl (by decide) (lw_c10 hI hn hi hL hk)
    · exact rn_ts (off := 626) (t := 659) d_294_33 (by decide) (by decide) rfl (by decide) (lw_c11 hI hn hi hL hk)
    · exact rn_ts (off := 669) (t := 702) d_294_33 (by decide) (by decide) rfl (by decide) (lw_c12 hI hn hi hL hk)
    · exact rn_ts (off := 682) (t := 715) d_294_33 (by decide) (by decide) rfl (by decide) (lw_c13 hI hn hi hL hk)
    · exact rn_ts (off := 695) (t := 728) d_294_33 (by decide) (by decide) rfl (by decide) (lw_c14 hI hn hi hL hk)
    · exact rn_ts (off := 718) (t := 751) d_294_33 (by decide) (by decide) rfl (by decide) (lw_c15 hI hn hi hL hk)
    · exact rn_ts (off := 771) (t := 804) d_294_33 (by decide) (by decide) rfl (by decide) (lw_c16 hI hn hi hL hk)
    · exact rn_ts (off := 804) (t := 837) d_294_33 (by decide) (by decide) rfl (by decide) (lw_c17 hI hn hi hL hk)
    · exact rn_ts (off := 817) (t := 850) d_294_33 (by decide) (by decide) rfl (by decide) (lw_c18 hI hn hi hL hk)
    · exact rn_ts (off := 830) (t := 863) d_294_33 (by decide) (by decide) rfl (by decide) (lw_c19 hI hn hi hL hk)
    · exact rn_ts (off := 863) (t := 896) d_294_33 (by decide) (by decide) rfl (by decide) (lw_c20 hI hn hi hL hk)
    · exact rn_ts (off := 906) (t := 939) d_294_33 (by decide) (by decide) rfl (by decide) (lw_c21 hI hn hi hL hk)
    · exact rn_ts (off := 949) (t := 982) d_294_33 (by decide) (by decide) rfl (by decide) (lw_c22 hI hn hi hL hk)
    · exact rn_ts (off := 1012) (t := 1045) d_294_33 (by decide) (by decide) rfl (by decide) (lw_c23 hI hn hi hL hk)
    · exact rn_ts (off := 1045) (t := 1078) d_294_33 (by decide) (by decide) rfl (by decide) (lw_c24 hI hn hi hL hk)
    · exact rn_ts (off := 1078) (t := 1111) d_294_33 (by decide) (by decide) rfl (by decide) (lw_c25 hI hn hi hL hk)
    · exact rn_ts (off := 1111) (t := 1144) d_294_33 (by decide) (by decide) rfl (by decide) (lw_c26 hI hn hi hL hk)
    · exact rn_ts (off := 1144) (t := 1177) d_294_33 (by decide) (by decide) rfl (by decide) (lw_c27 hI hn hi hL hk)
    · exact rn_ts (off := 1177) (t := 1210) d_294_33 (by decide) (by decide) rfl (by decide) (lw_c28 hI hn hi hL hk)
    · exact rn_ts (off := 1210) (t := 1243) d_294_33 (by decide) (by decide) rfl (by decide) (lw_c29 hI hn hi hL hk)
    · exact rn_ts (off := 1253) (t := 1286) d_294_33 (by decide) (by decide) rfl (by decide) (lw_c30 hI hn hi hL hk)
    · exact rn_ts (off := 1296) (t := 1329) d_294_33 (by decide) (by decide) rfl (by decide) (lw_c31 hI hn hi hL hk)
    · exact rn_ts (off := 1329) (t := 1362) d_294_33 (by decide) (by decide) rfl (by decide) (lw_c32 hI hn hi hL hk)
    · exact rn_ts (off := 1362) (t := 1395) d_294_33 (by decide) (by decide) rfl (by decide) (lw_c33 hI hn hi hL hk)
    · exact rn_ts (off := 1415) (t := 1448) d_294_33 (by decide) (by decide) rfl (by decide) (lw_c34 hI hn hi hL hk)
    · exact rn_ts (off := 1448) (t := 1481) d_294_33 (by decide) (by decide) rfl (by decide) (lw_c35 hI hn hi hL hk)
    · exact rn_ts (off := 1481) (t := 1514) d_294_33 (by decide) (by decide) rfl (by decide) (lw_c36 hI hn hi hL hk)
    · exact rn_ts (off := 1504) (t := 1537) d_294_33 (by decide) (by decide) rfl (by decide) (lw_c37 hI hn hi hL hk)
    · exact rn_ts (off := 1547) (t := 1580) d_294_33 (by decide) (by decide) rfl (by decide) (lw_c38 hI hn hi hL hk)
    · exact rn_ts (off := 1560) (t := 1593) d_294_33 (by decide) (by decide) rfl (by decide) (lw_c39 hI hn hi hL hk)
    · exact rn_ts (off := 1583) (t := 1616) d_294_33 (by decide) (by decide) rfl (by decide) (lw_c40 hI hn hi hL hk)
    · exact rn_ts (off := 1616) (t := 1649) d_294_33 (by decide) (by decide) rfl (by decide) (lw_c41 hI hn hi hL hk)
    · exact rn_ts (off := 1659) (t := 1692) d_294_33 (by decide) (by decide) rfl (by decide) (lw_c42 hI hn hi hL hk)
    · exact rn_ts (off := 1692) (t := 1725) d_294_33 (by decide) (by decide) rfl (by decide) (lw_c43 hI hn hi hL hk)
    · exact rn_ts (off := 1715) (t := 1748) d_294_33 (by decide) (by decide) rfl (by decide) (lw_c44 hI hn hi hL hk)
    · exact rn_ts (off := 1738) (t := 1771) d_294_33 (by decide) (by decide) rfl (by decide) (lw_c45 hI hn hi hL hk)
    · exact rn_ts (off := 1761) (t := 1794) d_294_33 (by decide) (by decide) rfl (by decide) (lw_c46 hI hn hi hL hk)
  · exact rn_td (t := 1807) d_294_33 (Or.inr (by rw [nI_toInt (by omega)]; omega)) (by decide) (hk h hI.mo)
theorem lw_rt1 {al : AL} {h : AH} : am_ins 294 .ireturn 1 1814 al [.int (nI 1)] h = some (.inr (.inr (some (.int (nI 1))))) := by rfl
theorem lw_loop {L : Nat} {xs : Nat → Int32} {Q : Option Value → AH → Prop} (hL : L ≤ 3072) (hk : ∀ n h', n ≤ 520 → LwI n L xs h' → Q (some (.int (nI 1))) h') : ∀ (m n : Nat) (h : AH), L ≤ 6 * n + 6 * m → 6 * n ≤ L + 6 → LwI n L xs h → RN 81 294 18 [some (.ref 1), some (.ref 2), some (.ref 146), some (.int (nI (6 * n)))] [] h Q := by
  have head : ∀ (n : Nat) (h : AH), 6 * n ≤ L + 6 → LwI n L xs h → (6 * n + 5 < L → RN 81 294 27 [some (.ref 1), some (.ref 2), some (.ref 146), some (.int (nI (6 * n)))] [] h Q) → RN 81 294 18 [some (.ref 1), some (.ref 2), some (.ref 146), some (.int (nI (6 * n)))] [] h Q := fun n h hn6 hI hgo => by
    have h1 : h[1]? = some (.inl (0, L, .inl xs)) := by
      obtain ⟨S, G, B, J, R, g, A, W, hC, hR, h1, _⟩ := hI
      exact h1
    refine rn_nx (pc' := 19) (al' := [some (.ref 1), some (.ref 2), some (.ref 146), some (.int (nI (6 * n)))]) (st' := [.int (nI (6 * n))]) (h' := h) d_294_18 rfl ?_
    refine rn_nx (pc' := 20) (al' := [some (.ref 1), some (.ref 2), some (.ref 146), some (.int (nI (6 * n)))]) (st' := [.ref 1, .int (nI (6 * n))]) (h' := h) d_294_19 rfl ?_
    refine rn_nx (pc' := 21) (al' := [some (.ref 1), some (.ref 2), some (.ref 146), some (.int (nI (6 * n)))]) (st' := [.int (nI L), .int (nI (6 * n))]) (h' := h) d_294_20 (by
      show (if 1 = 1 then am_le 20 _ (.ref 1 :: [.int (nI (6 * n))]) h else none) = _
      rw [if_pos rfl]
      simp only [am_le, h1]
      rfl) ?_
    refine rn_nx (pc' := 23) (al' := [some (.ref 1), some (.ref 2), some (.ref 146), some (.int (nI (6 * n)))]) (st' := [.int 6, .int (nI L), .int (nI (6 * n))]) (h' := h) d_294_21 rfl ?_
    refine rn_nx (pc' := 24) (al' := [some (.ref 1), some (.ref 2), some (.ref 146), some (.int (nI (6 * n)))]) (st' := [.int (nI L - nI 6), .int (nI (6 * n))]) (h' := h) d_294_23 rfl ?_
    by_cases hgt : L < 6 * n + 6
    · refine rn_nx (pc' := 1813) (al' := [some (.ref 1), some (.ref 2), some (.ref 146), some (.int (nI (6 * n)))]) (st' := []) (h' := h) d_294_24 (by
        show (if 3 = 3 then am_ii .gt 1789 24 _ (.int (nI L - nI 6) :: .int (nI (6 * n)) :: []) h else none) = _
        rw [if_pos rfl]
        simp only [am_ii]
        rw [show am_tg 24 1789 = some 1813 by decide, Option.bind_some, if_pos (show am_cp .gt (nI (6 * n)) (nI L - nI 6) = true from decide_eq_true ((lw_gt (by omega) hL).mpr (by omega)))]
        rfl) ?_
      refine rn_nx (pc' := 1814) (al' := [some (.ref 1), some (.ref 2), some (.ref 146), some (.int (nI (6 * n)))]) (st' := [.int (nI 1)]) (h' := h) d_294_1813 rfl ?_
      exact rn_rt (r := some (.int (nI 1))) d_294_1814 lw_rt1 (hk n h (by omega) hI)
    · refine rn_nx (pc' := 27) (al' := [some (.ref 1), some (.ref 2), some (.ref 146), some (.int (nI (6 * n)))]) (st' := []) (h' := h) d_294_24 (by
        show (if 3 = 3 then am_ii .gt 1789 24 _ (.int (nI L - nI 6) :: .int (nI (6 * n)) :: []) h else none) = _
        rw [if_pos rfl]
        simp only [am_ii]
        rw [show am_tg 24 1789 = some 1813 by decide, Option.bind_some, if_neg (show ¬ am_cp .gt (nI (6 * n)) (nI L - nI 6) = true from fun e => hgt (by have := (lw_gt (by omega) hL).mp (of_decide_eq_true e); omega))]
        rfl) (hgo (by omega))
  intro m
  induction m with
  | zero => exact fun n h hm hn6 hI => head n h hn6 hI (fun h5 => by omega)
  | succ m ih =>
    intro n h hm hn6 hI
    refine head n h hn6 hI (fun h5 => lw_sw hI (by omega) h5 hL (fun h' hI' => ?_))
    refine rn_nx (pc' := 1810) (al' := [some (.ref 1), some (.ref 2), some (.ref 146), some (.int (nI (6 * (n + 1))))]) (st' := []) (h' := h') d_294_1807 (by
      rw [show nI (6 * (n + 1)) = nI (6 * n) + nI 6 by rw [nI_add]; rfl]
      rfl) ?_
    refine rn_nx (pc' := 18) (al' := [some (.ref 1), some (.ref 2), some (.ref 146), some (.int (nI (6 * (n + 1))))]) (st' := []) (h' := h') d_294_1810 rfl ?_
    exact ih (n + 1) h' (by omega) (by omega) hI'
