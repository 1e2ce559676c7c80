/-! Laws: the class takes tokens; printed by wip/whole/gen_b25.py. -/
theorem k_kos_120 {S : CS} {G : Nat → Nat → Value} {B : Nat → Nat → Int32} {J : Nat → Nat → Int64} {R : Nat → Nat → Option Nat} : CR 0 27 0 [some (.int (nI 120))] [] S G B J R (cP (some (.int (nI 0))) S G B J R) := by
  refine cr_nx (pc' := 1) (al' := [some (.int (nI 120))]) (st' := [.int (nI 120)]) d_27_0 (fun _ => rfl) ?_
  refine cr_ls (off := 99) (t := 100) d_27_1 (by decide) (by decide) (by decide) ?_
  refine cr_nx (pc' := 101) (al' := [some (.int (nI 120))]) (st' := [.int (nI 120)]) d_27_100 (fun _ => rfl) ?_
  refine cn_bp (v := 120) d_27_101 (by decide) ?_
  refine cn_sub d_27_103 (by first | omega | assumption | exact cu_36 (by omega) (cu_lt (by omega) (by omega))) ?_
  exact cr_ri d_27_104 cx_27 rfl ⟨rfl, rfl, rfl, rfl, rfl, rfl⟩
theorem k_kos_121 {S : CS} {G : Nat → Nat → Value} {B : Nat → Nat → Int32} {J : Nat → Nat → Int64} {R : Nat → Nat → Option Nat} : CR 0 27 0 [some (.int (nI 121))] [] S G B J R (cP (some (.int (nI 1))) S G B J R) := by
  refine cr_nx (pc' := 1) (al' := [some (.int (nI 121))]) (st' := [.int (nI 121)]) d_27_0 (fun _ => rfl) ?_
  refine cr_ls (off := 99) (t := 100) d_27_1 (by decide) (by decide) (by decide) ?_
  refine cr_nx (pc' := 101) (al' := [some (.int (nI 121))]) (st' := [.int (nI 121)]) d_27_100 (fun _ => rfl) ?_
  refine cn_bp (v := 120) d_27_101 (by decide) ?_
  refine cn_sub d_27_103 (by first | omega | assumption | exact cu_36 (by omega) (cu_lt (by omega) (by omega))) ?_
  exact cr_ri d_27_104 cx_27 rfl ⟨rfl, rfl, rfl, rfl, rfl, rfl⟩
theorem k_kos_122 {S : CS} {G : Nat → Nat → Value} {B : Nat → Nat → Int32} {J : Nat → Nat → Int64} {R : Nat → Nat → Option Nat} : CR 0 27 0 [some (.int (nI 122))] [] S G B J R (cP (some (.int (nI 2))) S G B J R) := by
  refine cr_nx (pc' := 1) (al' := [some (.int (nI 122))]) (st' := [.int (nI 122)]) d_27_0 (fun _ => rfl) ?_
  refine cr_ls (off := 99) (t := 100) d_27_1 (by decide) (by decide) (by decide) ?_
  refine cr_nx (pc' := 101) (al' := [some (.int (nI 122))]) (st' := [.int (nI 122)]) d_27_100 (fun _ => rfl) ?_
  refine cn_bp (v := 120) d_27_101 (by decide) ?_
  refine cn_sub d_27_103 (by first | omega | assumption | exact cu_36 (by omega) (cu_lt (by omega) (by omega))) ?_
  exact cr_ri d_27_104 cx_27 rfl ⟨rfl, rfl, rfl, rfl, rfl, rfl⟩
theorem k_kos_101 {S : CS} {G : Nat → Nat → Value} {B : Nat → Nat → Int32} {J : Nat → Nat → Int64} {R : Nat → Nat → Option Nat} : CR 0 27 0 [some (.int (nI 101))] [] S G B J R (cP (some (.int (nI 3))) S G B J R) := by
  refine cr_nx (pc' := 1) (al' := [some (.int (nI 101))]) (st' := [.int (nI 101)]) d_27_0 (fun _ => rfl) ?_
  refine cr_ls (off := 104) (t := 105) d_27_1 (by decide) (by decide) (by decide) ?_
  refine cn_ic (v := 3) d_27_105 (by decide) ?_
  exact cr_ri d_27_106 cx_27 rfl ⟨rfl, rfl, rfl, rfl, rfl, rfl⟩
theorem k_kos_42 {S : CS} {G : Nat → Nat → Value} {B : Nat → Nat → Int32} {J : Nat → Nat → Int64} {R : Nat → Nat → Option Nat} : CR 0 27 0 [some (.int (nI 42))] [] S G B J R (cP (some (.int (nI 4))) S G B J R) := by
  refine cr_nx (pc' := 1) (al' := [some (.int (nI 42))]) (st' := [.int (nI 42)]) d_27_0 (fun _ => rfl) ?_
  refine cr_ls (off := 106) (t := 107) d_27_1 (by decide) (by decide) (by decide) ?_
  refine cn_ic (v := 4) d_27_107 (by decide) ?_
  exact cr_ri d_27_108 cx_27 rfl ⟨rfl, rfl, rfl, rfl, rfl, rfl⟩
theorem k_kos_47 {S : CS} {G : Nat → Nat → Value} {B : Nat → Nat → Int32} {J : Nat → Nat → Int64} {R : Nat → Nat → Option Nat} : CR 0 27 0 [some (.int (nI 47))] [] S G B J R (cP (some (.int (nI 5))) S G B J R) := by
  refine cr_nx (pc' := 1) (al' := [some (.int (nI 47))]) (st' := [.int (nI 47)]) d_27_0 (fun _ => rfl) ?_
  refine cr_ls (off := 108) (t := 109) d_27_1 (by decide) (by decide) (by decide) ?_
  refine cn_ic (v := 5) d_27_109 (by decide) ?_
  exact cr_ri d_27_110 cx_27 rfl ⟨rfl, rfl, rfl, rfl, rfl, rfl⟩
theorem k_kos_92 {S : CS} {G : Nat → Nat → Value} {B : Nat → Nat → Int32} {J : Nat → Nat → Int64} {R : Nat → Nat → Option Nat} : CR 0 27 0 [some (.int (nI 92))] [] S G B J R (cP (some (.int (nI 6))) S G B J R) := by
  refine cr_nx (pc' := 1) (al' := [some (.int (nI 92))]) (st' := [.int (nI 92)]) d_27_0 (fun _ => rfl) ?_
  refine cr_ls (off := 110) (t := 111) d_27_1 (by decide) (by decide) (by decide) ?_
  refine cn_bp (v := 6) d_27_111 (by decide) ?_
  exact cr_ri d_27_113 cx_27 rfl ⟨rfl, rfl, rfl, rfl, rfl, rfl⟩
theorem k_kos_61 {S : CS} {G : Nat → Nat → Value} {B : Nat → Nat → Int32} {J : Nat → Nat → Int64} {R : Nat → Nat → Option Nat} : CR 0 27 0 [some (.int (nI 61))] [] S G B J R (cP (some (.int (nI 7))) S G B J R) := by
  refine cr_nx (pc' := 1) (al' := [some (.int (nI 61))]) (st' := [.int (nI 61)]) d_27_0 (fun _ => rfl) ?_
  refine cr_ls (off := 113) (t := 114) d_27_1 (by decide) (by decide) (by decide) ?_
  refine cn_bp (v := 7) d_27_114 (by decide) ?_
  exact cr_ri d_27_116 cx_27 rfl ⟨rfl, rfl, rfl, rfl, rfl, rfl⟩
theorem k_kos_44 {S : CS} {G : Nat → Nat → Value} {B : Nat → Nat → Int32} {J : Nat → Nat → Int64} {R : Nat → Nat → Option Nat} : CR 0 27 0 [some (.int (nI 44))] [] S G B J R (cP (some (.int (nI 8))) S G B J R) := by
  refine cr_nx (pc' := 1) (al' := [some (.int (nI 44))]) (st' := [.int (nI 44)]) d_27_0 (fun _ => rfl) ?_
  refine cr_ls (off := 116) (t := 117) d_27_1 (by decide) (by decide) (by decide) ?_
  refine cn_bp (v := 8) d_27_117 (by decide) ?_
  exact cr_ri d_27_119 cx_27 rfl ⟨rfl, rfl, rfl, rfl, rfl, rfl⟩
theorem k_kos_40 {S : CS} {G : Nat → Nat → Value} {B : Nat → Nat → Int32} {J : Nat → Nat → Int64} {R : Nat → Nat → Option Nat} : CR 0 27 0 [some (.int (nI 40))] [] S G B J R (cP (some (.int (nI 10))) S G B J R) := by
  refine cr_nx (pc' := 1) (al' := [some (.int (nI 40))]) (st' := [.int (nI 40)]) d_27_0 (fun _ => rfl) ?_
  refine cr_ls (off := 119) (t := 120) d_27_1 (by decide) (by decide) (by decide) ?_
  refine cn_bp (v := 10) d_27_120 (by decide) ?_
  exact cr_ri d_27_122 cx_27 rfl ⟨rfl, rfl, rfl, rfl, rfl, rfl⟩
theorem k_kos_41 {S : CS} {G : Nat → Nat → Value} {B : Nat → Nat → Int32} {J : Nat → Nat → Int64} {R : Nat → Nat → Option Nat} : CR 0 27 0 [some (.int (nI 41))] [] S G B J R (cP (some (.int (nI 11))) S G B J R) := by
  refine cr_nx (pc' := 1) (al' := [some (.int (nI 41))]) (st' := [.int (nI 41)]) d_27_0 (fun _ => rfl) ?_
  refine cr_ls (off := 122) (t := 123) d_27_1 (by decide) (by decide) (by decide) ?_
  refine cn_bp (v := 11) d_27_123 (by decide) ?_
  exact cr_ri d_27_125 cx_27 rfl ⟨rfl, rfl, rfl, rfl, rfl, rfl⟩
abbrev kosL (b : Nat) : Prop := b = 120 ∨ b = 121 ∨ b = 122 ∨ b = 101 ∨ b = 42 ∨ b = 47 ∨ b = 92 ∨ b = 61 ∨ b = 44 ∨ b = 40 ∨ b = 41
theorem kos_d : ∀ {b : Nat}, b < 256 → ¬ kosL b → Op.lookupswitch.offset [(40, 119), (41, 122), (42, 106), (44, 116), (47, 108), (61, 113), (92, 110), (101, 104), (120, 99), (121, 99), (122, 99)] 125 (b : Int) = 125 := by
  have h : ∀ b : Fin 256, ¬ kosL b.1 → Op.lookupswitch.offset [(40, 119), (41, 122), (42, 106), (44, 116), (47, 108), (61, 113), (92, 110), (101, 104), (120, 99), (121, 99), (122, 99)] 125 (b.1 : Int) = 125 := by decide +kernel
  exact fun {b} hb => h ⟨b, hb⟩
theorem k_kos_d {S : CS} {G : Nat → Nat → Value} {B : Nat → Nat → Int32} {J : Nat → Nat → Int64} {R : Nat → Nat → Option Nat} {b : Nat} (hb : b < 256) (h : ¬ kosL b) : CR 0 27 0 [some (.int (nI b))] [] S G B J R (cP (some (.int (nI 13))) S G B J R) := by
  refine cr_nx (pc' := 1) (al' := [some (.int (nI b))]) (st' := [.int (nI b)]) d_27_0 (fun _ => rfl) ?_
  refine cr_ls (off := 125) (t := 126) d_27_1 (by decide) (by rw [nI_toInt (by omega)]; exact kos_d (by omega) h) (by decide) ?_
  refine cn_bp (v := 13) d_27_126 (by decide) ?_
  exact cr_ri d_27_128 cx_27 rfl ⟨rfl, rfl, rfl, rfl, rfl, rfl⟩
theorem kdS_d {b : Nat} (h : ¬ kosL b) : kdS b = 13 := by
  unfold kosL at h
  unfold kdS
  rw [if_neg (by omega), if_neg (by omega), if_neg (by omega), if_neg (by omega), if_neg (by omega), if_neg (by omega), if_neg (by omega), if_neg (by omega), if_neg (by omega), if_neg (by omega), if_neg (by omega)]
theorem k_kindOfSign {S : CS} {G : Nat → Nat → Value} {B : Nat → Nat → Int32} {J : Nat → Nat → Int64} {R : Nat → Nat → Option Nat} {b : Nat} (hb : b < 256) : CR 0 27 0 [some (.int (nI b))] [] S G B J R (cP (some (.int (nI (kdS b)))) S G B J R) := by
  by_cases h : kosL b
  · rcases h with rfl | rfl | rfl | rfl | rfl | rfl | rfl | rfl | rfl | rfl | rfl
    · exact k_kos_120
    · exact k_kos_121
    · exact k_kos_122
    · exact k_kos_101
    · exact k_kos_42
    · exact k_kos_47
    · exact k_kos_92
    · exact k_kos_61
    · exact k_kos_44
    · exact k_kos_40
    · exact k_kos_41
  · rw [kdS_d h]
    exact k_kos_d hb h
/-- the reader's text and code rows -/
def RdT (t : Nat → Nat) (len : Nat) (G : Nat → Nat → Value) (B : Nat → Nat → Int32) : Prop := G 83 0 = .ref 82 ∧ G 83 1 = .int (nI len) ∧ G 83 5 = .ref 85 ∧ len ≤ 400 ∧ ∀ i, i < len → B 82 i = nI (t i) ∧ t i < 256
theorem enC_k {t : Nat → Nat} {len p : Nat} (hp : p ≤ len) (h : ¬ rnS t len p = p) : enC t len p = rnS t len p := by
  have hlt : p < len := by
    rcases Nat.lt_or_ge p len with q | q
    · exact q
    · exact absurd (show rnS t len p = p by have := rnS_f (t := t) hp; omega) h
  unfold enC
  rw [if_pos hlt]
  by_cases h1 : isS (t p) = true
  · rw [if_pos h1]
  · exact absurd (rnS_u (Nat.le_refl _) (by omega) (fun q a b => by omega) (fun _ => by simpa using h1)) h
theorem enC_l {t : Nat → Nat} {len p : Nat} (hp : p = len) : enC t len p = p := by
  unfold enC
  rw [if_neg (by omega), hp]
theorem enC_1 {t : Nat → Nat} {len p : Nat} (hp : p < len) (h : rnS t len p = p) : enC t len p = p + 1 := by
  unfold enC
  rw [if_pos hp]
  by_cases h1 : isS (t p) = true
  · have := rnS_gt hp h1
    omega
  · rw [if_neg h1]
theorem k_goOn138 {S : CS} {G : Nat → Nat → Value} {B : Nat → Nat → Int32} {J : Nat → Nat → Int64} {R : Nat → Nat → Option Nat} (hS : ShOk S) {t : Nat → Nat} {len q : Nat} (hR : RdT t len G B) (hq : G 83 3 = .int (nI q)) (hql : q ≤ len) : CR 1 26 138 [some (.ref 83), none] [] S (up2 (up2 G 83 2 (.int (nI (skp t len q)))) 83 3 (.int (nI (enC t len (skp t len q))))) B J R (cP none S (up2 (up2 (up2 G 83 2 (.int (nI (skp t len q)))) 83 3 (.int (nI (enC t len (skp t len q))))) 83 4 (.int (nI (kdT t len (skp t len q))))) B J R) := by
  have hl4 := hR.2.2.2.1
  obtain ⟨sk1, sk2, sk3, sk4⟩ := skp_f (t := t) hql
  obtain ⟨rn1, rn2, rn3, rn4⟩ := rnS_f (t := t) (p := skp t len q) sk2
  obtain ⟨en1, en2, en3⟩ := enC_f (t := t) (p := skp t len q) sk2
  refine cr_nx (pc' := 139) (al' := [some (.ref 83), none]) (st' := [.ref 83]) d_26_138 (fun _ => rfl) ?_
  refine cr_gf (v := .int (nI (enC t len (skp t len q)))) d_26_139 cw_26 cf_4_29 (hS.i (a := 83) (by decide) (by decide)) (hS.s (a := 83) (by decide) (by decide) rfl) (by decide) (by simp [up2]) ?_
  refine cr_nx (pc' := 143) (al' := [some (.ref 83), none]) (st' := [.ref 83, .int (nI (enC t len (skp t len q)))]) d_26_142 (fun _ => rfl) ?_
  refine cr_gf (v := .int (nI (skp t len q))) d_26_143 cw_26 cf_4_16 (hS.i (a := 83) (by decide) (by decide)) (hS.s (a := 83) (by decide) (by decide) rfl) (by decide) (by simp [up2]) ?_
  refine cn_sub d_26_146 (by omega) ?_
  refine cr_nx (pc' := 148) (al' := [some (.ref 83), some (.int (nI ((enC t len (skp t len q)) - (skp t len q))))]) (st' := []) d_26_147 (fun _ => rfl) ?_
  refine cr_nx (pc' := 149) (al' := [some (.ref 83), some (.int (nI ((enC t len (skp t len q)) - (skp t len q))))]) (st' := [.ref 83]) d_26_148 (fun _ => rfl) ?_
  refine cr_nx (pc' := 150) (al' := [some (.ref 83), some (.int (nI ((enC t len (skp t len q)) - (skp t len q))))]) (st' := [.int (nI ((enC t len (skp t len q)) - (skp t len q))), .ref 83]) d_26_149 (fun _ => rfl) ?_
  refine cn_ine (t := 158) d_26_150 (by decide) (by first | omega | assumption | exact cu_36 (by omega) (cu_lt (by omega) (by omega))) (fun c150 => ?_) (fun c150 => ?_)
  · refine cr_nx (pc' := 159) (al' := [some (.ref 83), some (.int (nI ((enC t len (skp t len q)) - (skp t len q))))]) (st' := [.int (nI ((enC t len (skp t len q)) - (skp t len q))), .ref 83]) d_26_158 (fun _ => rfl) ?_
    refine cn_ic (v := 1) d_26_159 (by decide) ?_
    refine cn_cne (t := 178) d_26_160 (by decide) (by first | omega | assumption | exact cu_36 (by omega) (cu_lt (by omega) (by omega))) (by first | omega | assumption | exact cu_36 (by omega) (cu_lt (by omega) (by omega))) (fun c160 => ?_) (fun c160 => ?_)
    · refine cr_nx (pc' := 179) (al' := [some (.ref 83), some (.int (nI ((enC t len (skp t len q)) - (skp t len q))))]) (st' := [.int (nI ((enC t len (skp t len q)) - (skp t len q))), .ref 83]) d_26_178 (fun _ => rfl) ?_
      refine cn_ic (v := 2) d_26_179 (by decide) ?_
      refine cn_cne (t := 218) d_26_180 (by decide) (by first | omega | assumption | exact cu_36 (by omega) (cu_lt (by omega) (by omega))) (by first | omega | assumption | exact cu_36 (by omega) (cu_lt (by omega) (by omega))) (fun c180 => ?_) (fun c180 => ?_)
      · refine cn_bp (v := 13) d_26_218 (by decide) ?_
        refine cr_tp (z := nI (kdT t len (skp t len q))) (congrArg nI (show 13 = kdT t len (skp t len q) by unfold kdT; rw [if_pos (by omega), if_neg (by omega), if_neg (by omega)])) ?_
        refine cp_4_4  d_26_220 cw_26 cf_4_48 (hS.i (a := 83) (by decide) (by decide)) (hS.s (a := 83) (by decide) (by decide) rfl) (by decide) ?_
        exact cr_rv d_26_223 cx_26 ⟨rfl, rfl, rfl, rfl, rfl, rfl⟩
      · refine cr_nx (pc' := 184) (al' := [some (.ref 83), some (.int (nI ((enC t len (skp t len q)) - (skp t len q))))]) (st' := [.ref 83, .ref 83]) d_26_183 (fun _ => rfl) ?_
        refine cr_gf (v := .ref 82) d_26_184 cw_26 cf_4_7 (hS.i (a := 83) (by decide) (by decide)) (hS.s (a := 83) (by decide) (by decide) rfl) (by decide) (by simp [up2]; exact hR.1) ?_
        refine cr_nx (pc' := 188) (al' := [some (.ref 83), some (.int (nI ((enC t len (skp t len q)) - (skp t len q))))]) (st' := [.ref 83, .ref 82, .ref 83]) d_26_187 (fun _ => rfl) ?_
        refine cr_gf (v := .int (nI (skp t len q))) d_26_188 cw_26 cf_4_16 (hS.i (a := 83) (by decide) (by decide)) (hS.s (a := 83) (by decide) (by decide) rfl) (by decide) (by simp [up2]) ?_
        refine cr_ia (a := 82) (v := (nI (t (skp t len q)))) d_26_191 (hS.i (a := 82) (by decide) (by decide)) (hS.s (a := 82) (by decide) (by decide) rfl) (by first | decide | omega) (show skp t len q < 400 by first | omega | assumption | exact cu_36 (by omega) (cu_lt (by omega) (by omega))) (hR.2.2.2.2 _ (by omega)).1 ?_
        refine cn_bp (v := 105) d_26_192 (by decide) ?_
        refine cn_cne (t := 218) d_26_194 (by decide) (by have := (hR.2.2.2.2 (skp t len q) (by omega)).2; omega) (by omega) (fun c194 => ?_) (fun c194 => ?_)
        · refine cn_bp (v := 13) d_26_218 (by decide) ?_
          refine cr_tp (z := nI (kdT t len (skp t len q))) (congrArg nI (show 13 = kdT t len (skp t len q) by unfold kdT; rw [if_pos (by omega), if_neg (by omega), if_neg (by omega)])) ?_
          refine cp_4_4  d_26_220 cw_26 cf_4_48 (hS.i (a := 83) (by decide) (by decide)) (hS.s (a := 83) (by decide) (by decide) rfl) (by decide) ?_
          exact cr_rv d_26_223 cx_26 ⟨rfl, rfl, rfl, rfl, rfl, rfl⟩
        · refine cr_nx (pc' := 198) (al' := [some (.ref 83), some (.int (nI ((enC t len (skp t len q)) - (skp t len q))))]) (st' := [.ref 83, .ref 83]) d_26_197 (fun _ => rfl) ?_
          refine cr_gf (v := .ref 82) d_26_198 cw_26 cf_4_7 (hS.i (a := 83) (by decide) (by decide)) (hS.s (a := 83) (by decide) (by decide) rfl) (by decide) (by simp [up2]; exact hR.1) ?_
          refine cr_nx (pc' := 202) (al' := [some (.ref 83), some (.int (nI ((enC t len (skp t len q)) - (skp t len q))))]) (st' := [.ref 83, .ref 82, .ref 83]) d_26_201 (fun _ => rfl) ?_
          refine cr_gf (v := .int (nI (skp t len q))) d_26_202 cw_26 cf_4_16 (hS.i (a := 83) (by decide) (by decide)) (hS.s (a := 83) (by decide) (by decide) rfl) (by decide) (by simp [up2]) ?_
          refine cn_ic (v := 1) d_26_205 (by decide) ?_
          refine cn_add d_26_206  ?_
          refine cr_ia (a := 82) (v := (nI (t (skp t len q + 1)))) d_26_207 (hS.i (a := 82) (by decide) (by decide)) (hS.s (a := 82) (by decide) (by decide) rfl) (by first | decide | omega) (show (skp t len q) + 1 < 400 by first | omega | assumption | exact cu_36 (by omega) (cu_lt (by omega) (by omega))) (hR.2.2.2.2 _ (by omega)).1 ?_
          refine cn_bp (v := 102) d_26_208 (by decide) ?_
          refine cn_cne (t := 218) d_26_210 (by decide) (by have := (hR.2.2.2.2 (skp t len q + 1) (by omega)).2; omega) (by omega) (fun c210 => ?_) (fun c210 => ?_)
          · refine cn_bp (v := 13) d_26_218 (by decide) ?_
            refine cr_tp (z := nI (kdT t len (skp t len q))) (congrArg nI (show 13 = kdT t len (skp t len q) by unfold kdT; rw [if_pos (by omega), if_neg (by omega), if_neg (by omega)])) ?_
            refine cp_4_4  d_26_220 cw_26 cf_4_48 (hS.i (a := 83) (by decide) (by decide)) (hS.s (a := 83) (by decide) (by decide) rfl) (by decide) ?_
            exact cr_rv d_26_223 cx_26 ⟨rfl, rfl, rfl, rfl, rfl, rfl⟩
          · refine cn_bp (v := 9) d_26_213 (by decide) ?_
            refine cr_nx (pc' := 220) (al' := [some (.ref 83), some (.int (nI ((enC t len (skp t len q)) - (skp t len q))))]) (st' := [.int (nI 9), .ref 83]) d_26_215 (fun _ => rfl) ?_
            refine cr_tp (z := nI (kdT t len (skp t len q))) (congrArg nI (show 9 = kdT t len (skp t len q) by unfold kdT; rw [if_pos (by omega), if_neg (by omega), if_pos ⟨by omega, c194, c210⟩])) ?_
            refine cp_4_4  d_26_220 cw_26 cf_4_48 (hS.i (a := 83) (by decide) (by decide)) (hS.s (a := 83) (by decide) (by decide) rfl) (by decide) ?_
            exact cr_rv d_26_223 cx_26 ⟨rfl, rfl, rfl, rfl, rfl, rfl⟩
    · refine cr_nx (pc' := 164) (al' := [some (.ref 83), some (.int (nI ((enC t len (skp t len q)) - (skp t len q))))]) (st' := [.ref 83, .ref 83]) d_26_163 (fun _ => rfl) ?_
      refine cr_gf (v := .ref 82) d_26_164 cw_26 cf_4_7 (hS.i (a := 83) (by decide) (by decide)) (hS.s (a := 83) (by decide) (by decide) rfl) (by decide) (by simp [up2]; exact hR.1) ?_
      refine cr_nx (pc' := 168) (al' := [some (.ref 83), some (.int (nI ((enC t len (skp t len q)) - (skp t len q))))]) (st' := [.ref 83, .ref 82, .ref 83]) d_26_167 (fun _ => rfl) ?_
      refine cr_gf (v := .int (nI (skp t len q))) d_26_168 cw_26 cf_4_16 (hS.i (a := 83) (by decide) (by decide)) (hS.s (a := 83) (by decide) (by decide) rfl) (by decide) (by simp [up2]) ?_
      refine cr_ia (a := 82) (v := (nI (t (skp t len q)))) d_26_171 (hS.i (a := 82) (by decide) (by decide)) (hS.s (a := 82) (by decide) (by decide) rfl) (by first | decide | omega) (show skp t len q < 400 by first | omega | assumption | exact cu_36 (by omega) (cu_lt (by omega) (by omega))) (hR.2.2.2.2 _ (by omega)).1 ?_
      refine cr_ps (as := [.int (nI (t (skp t len q)))]) (al0 := [some (.int (nI (t (skp t len q))))]) (r := [.ref 83]) d_26_172 cw_26 cm_4_76 (by decide) cz_27 rfl rfl rfl (Nat.le_of_ble_eq_true rfl) (k_kindOfSign (hR.2.2.2.2 _ (by omega)).2) ?_
      show CR _ _ 175 [some (.ref 83), some (.int (nI ((enC t len (skp t len q)) - (skp t len q))))] [.int (nI (kdS (t (skp t len q)))), .ref 83] S (up2 (up2 G 83 2 (.int (nI (skp t len q)))) 83 3 (.int (nI (enC t len (skp t len q))))) B J R _
      refine cr_nx (pc' := 220) (al' := [some (.ref 83), some (.int (nI ((enC t len (skp t len q)) - (skp t len q))))]) (st' := [.int (nI (kdS (t (skp t len q)))), .ref 83]) d_26_175 (fun _ => rfl) ?_
      refine cr_tp (z := nI (kdT t len (skp t len q))) (congrArg nI (show kdS (t (skp t len q)) = kdT t len (skp t len q) by unfold kdT; rw [if_pos (by omega), if_pos (by omega)])) ?_
      refine cp_4_4  d_26_220 cw_26 cf_4_48 (hS.i (a := 83) (by decide) (by decide)) (hS.s (a := 83) (by decide) (by decide) rfl) (by decide) ?_
      exact cr_rv d_26_223 cx_26 ⟨rfl, rfl, rfl, rfl, rfl, rfl⟩
  · refine cn_bp (v := 12) d_26_153 (by decide) ?_
    refine cr_nx (pc' := 220) (al' := [some (.ref 83), some (.int (nI ((enC t len (skp t len q)) - (skp t len q))))]) (st' := [.int (nI 12), .ref 83]) d_26_155 (fun _ => rfl) ?_
    refine cr_tp (z := nI (kdT t len (skp t len q))) (congrArg nI (show 12 = kdT t len (skp t len q) by unfold kdT; rw [if_neg (by omega)])) ?_
    refine cp_4_4  d_26_220 cw_26 cf_4_48 (hS.i (a := 83) (by decide) (by decide)) (hS.s (a := 83) (by decide) (by decide) rfl) (by decide) ?_
    exact cr_rv d_26_223 cx_26 ⟨rfl, rfl, rfl, rfl, rfl, rfl⟩
theorem le_rg {a b : Nat} (h : a ≤ b) : a ≤ b := h
theorem k_goOn {S : CS} {G : Nat → Nat → Value} {B : Nat → Nat → Int32} {J : Nat → Nat → Int64} {R : Nat → Nat → Option Nat} (hS : ShOk S) {t : Nat → Nat} {len q : Nat} (hR : RdT t len G B) (hq : G 83 3 = .int (nI q)) (hql : q ≤ len) : CR 1 26 0 [some (.ref 83), none] [] S G B J R (cP none S (up2 (up2 (up2 G 83 2 (.int (nI (skp t len q)))) 83 3 (.int (nI (enC t len (skp t len q))))) 83 4 (.int (nI (kdT t len (skp t len q))))) B J R) := by
  have hl4 := hR.2.2.2.1
  obtain ⟨sk1, sk2, sk3, sk4⟩ := skp_f (t := t) hql
  obtain ⟨rn1, rn2, rn3, rn4⟩ := rnS_f (t := t) (p := skp t len q) sk2
  obtain ⟨en1, en2, en3⟩ := enC_f (t := t) (p := skp t len q) sk2
  refine cr_nx (pc' := 1) (al' := [some (.ref 83), none]) (st' := [.ref 83]) d_26_0 (fun _ => rfl) ?_
  refine cr_nx (pc' := 2) (al' := [some (.ref 83), none]) (st' := [.ref 83, .ref 83]) d_26_1 (fun _ => rfl) ?_
  refine cr_gf (v := .int (nI q)) d_26_2 cw_26 cf_4_29 (hS.i (a := 83) (by decide) (by decide)) (hS.s (a := 83) (by decide) (by decide) rfl) (by decide) hq ?_
  refine cp_4_2  d_26_5 cw_26 cf_4_16 (hS.i (a := 83) (by decide) (by decide)) (hS.s (a := 83) (by decide) (by decide) rfl) (by decide) ?_
  refine cr_up (al := fun p => [some (.ref 83), none]) (S := fun p => S) (G := fun p => (up2 G 83 2 (.int (nI p)))) (B := fun p => B) (J := fun p => J) (R := fun p => R) (P := fun p => q ≤ p) (n := skp t len q) (fun p hp pp ihp => ?_) (fun pp => ?_) q  (le_rg sk1) (Nat.le_refl _)
  · show CR _ _ 8 [some (.ref 83), none] [] S (up2 G 83 2 (.int (nI p))) B J R _
    refine cr_nx (pc' := 9) (al' := [some (.ref 83), none]) (st' := [.ref 83]) d_26_8 (fun _ => rfl) ?_
    refine cr_gf (v := .int (nI p)) d_26_9 cw_26 cf_4_16 (hS.i (a := 83) (by decide) (by decide)) (hS.s (a := 83) (by decide) (by decide) rfl) (by decide) (by simp [up2]) ?_
    refine cr_nx (pc' := 13) (al' := [some (.ref 83), none]) (st' := [.ref 83, .int (nI p)]) d_26_12 (fun _ => rfl) ?_
    refine cr_gf (v := .int (nI len)) d_26_13 cw_26 cf_4_26 (hS.i (a := 83) (by decide) (by decide)) (hS.s (a := 83) (by decide) (by decide) rfl) (by decide) (by simp [up2]; exact hR.2.1) ?_
    refine cn_cge (t := 46) d_26_16 (by decide) (by first | omega | assumption | exact cu_36 (by omega) (cu_lt (by omega) (by omega))) (by first | omega | assumption | exact cu_36 (by omega) (cu_lt (by omega) (by omega))) (fun c16 => ?_) (fun c16 => ?_)
    · omega
    · refine cr_nx (pc' := 20) (al' := [some (.ref 83), none]) (st' := [.ref 83]) d_26_19 (fun _ => rfl) ?_
      refine cr_gf (v := .ref 82) d_26_20 cw_26 cf_4_7 (hS.i (a := 83) (by decide) (by decide)) (hS.s (a := 83) (by decide) (by decide) rfl) (by decide) (by simp [up2]; exact hR.1) ?_
      refine cr_nx (pc' := 24) (al' := [some (.ref 83), none]) (st' := [.ref 83, .ref 82]) d_26_23 (fun _ => rfl) ?_
      refine cr_gf (v := .int (nI p)) d_26_24 cw_26 cf_4_16 (hS.i (a := 83) (by decide) (by decide)) (hS.s (a := 83) (by decide) (by decide) rfl) (by decide) (by simp [up2]) ?_
      refine cr_ia (a := 82) (v := (nI (t (p)))) d_26_27 (hS.i (a := 82) (by decide) (by decide)) (hS.s (a := 82) (by decide) (by decide) rfl) (by first | decide | omega) (show p < 400 by first | omega | assumption | exact cu_36 (by omega) (cu_lt (by omega) (by omega))) (hR.2.2.2.2 _ (by omega)).1 ?_
      refine cn_bp (v := 32) d_26_28 (by decide) ?_
      refine cn_cne (t := 46) d_26_30 (by decide) (by first | (have := (hR.2.2.2.2 p (by omega)).2; omega) | (have := (hR.2.2.2.2 (skp t len q) (by omega)).2; omega)) (by omega) (fun c30 => ?_) (fun c30 => ?_)
      · exact absurd (sk3 p pp (by omega)) c30
      · refine cr_nx (pc' := 34) (al' := [some (.ref 83), none]) (st' := [.ref 83]) d_26_33 (fun _ => rfl) ?_
        refine cr_nx (pc' := 35) (al' := [some (.ref 83), none]) (st' := [.ref 83, .ref 83]) d_26_34 (fun _ => rfl) ?_
        refine cr_gf (v := .int (nI p)) d_26_35 cw_26 cf_4_16 (hS.i (a := 83) (by decide) (by decide)) (hS.s (a := 83) (by decide) (by decide) rfl) (by decide) (by simp [up2]) ?_
        refine cn_ic (v := 1) d_26_38 (by decide) ?_
        refine cn_add d_26_39  ?_
        refine cp_4_2  d_26_40 cw_26 cf_4_16 (hS.i (a := 83) (by decide) (by decide)) (hS.s (a := 83) (by decide) (by decide) rfl) (by decide) ?_
        refine cr_G up2_u ?_
        refine cr_nx (pc' := 8) (al' := [some (.ref 83), none]) (st' := []) d_26_43 (fun _ => rfl) ?_
        exact ihp  (Nat.le_succ_of_le pp)
  · show CR _ _ 8 [some (.ref 83), none] [] S (up2 G 83 2 (.int (nI (skp t len q)))) B J R _
    refine cr_nx (pc' := 9) (al' := [some (.ref 83), none]) (st' := [.ref 83]) d_26_8 (fun _ => rfl) ?_
    refine cr_gf (v := .int (nI (skp t len q))) d_26_9 cw_26 cf_4_16 (hS.i (a := 83) (by decide) (by decide)) (hS.s (a := 83) (by decide) (by decide) rfl) (by decide) (by simp [up2]) ?_
    refine cr_nx (pc' := 13) (al' := [some (.ref 83), none]) (st' := [.ref 83, .int (nI (skp t len q))]) d_26_12 (fun _ => rfl) ?_
    refine cr_gf (v := .int (nI len)) d_26_13 cw_26 cf_4_26 (hS.i (a := 83) (by decide) (by decide)) (hS.s (a := 83) (by decide) (by decide) rfl) (by decide) (by simp [up2]; exact hR.2.1) ?_
    refine cn_cge (t := 46) d_26_16 (by decide) (by first | omega | assumption | exact cu_36 (by omega) (cu_lt (by omega) (by omega))) (by first | omega | assumption | exact cu_36 (by omega) (cu_lt (by omega) (by omega))) (fun c16 => ?_) (fun c16 => ?_)
    · refine cr_nx (pc' := 47) (al' := [some (.ref 83), none]) (st' := [.ref 83]) d_26_46 (fun _ => rfl) ?_
      refine cr_nx (pc' := 48) (al' := [some (.ref 83), none]) (st' := [.ref 83, .ref 83]) d_26_47 (fun _ => rfl) ?_
      refine cr_gf (v := .int (nI (skp t len q))) d_26_48 cw_26 cf_4_16 (hS.i (a := 83) (by decide) (by decide)) (hS.s (a := 83) (by decide) (by decide) rfl) (by decide) (by simp [up2]) ?_
      refine cp_4_3  d_26_51 cw_26 cf_4_29 (hS.i (a := 83) (by decide) (by decide)) (hS.s (a := 83) (by decide) (by decide) rfl) (by decide) ?_
      refine cr_up (al := fun e => [some (.ref 83), none]) (S := fun e => S) (G := fun e => (up2 (up2 G 83 2 (.int (nI (skp t len q)))) 83 3 (.int (nI e)))) (B := fun e => B) (J := fun e => J) (R := fun e => R) (P := fun e => skp t len q ≤ e) (n := rnS t len (skp t len q)) (fun e he pe ihe => ?_) (fun pe => ?_) (skp t len q)  (le_rg rn1) (Nat.le_refl _)
      · show CR _ _ 54 [some (.ref 83), none] [] S (up2 (up2 G 83 2 (.int (nI (skp t len q)))) 83 3 (.int (nI e))) B J R _
        refine cr_nx (pc' := 55) (al' := [some (.ref 83), none]) (st' := [.ref 83]) d_26_54 (fun _ => rfl) ?_
        refine cr_gf (v := .int (nI e)) d_26_55 cw_26 cf_4_29 (hS.i (a := 83) (by decide) (by decide)) (hS.s (a := 83) (by decide) (by decide) rfl) (by decide) (by simp [up2]) ?_
        refine cr_nx (pc' := 59) (al' := [some (.ref 83), none]) (st' := [.ref 83, .int (nI e)]) d_26_58 (fun _ => rfl) ?_
        refine cr_gf (v := .int (nI len)) d_26_59 cw_26 cf_4_26 (hS.i (a := 83) (by decide) (by decide)) (hS.s (a := 83) (by decide) (by decide) rfl) (by decide) (by simp [up2]; exact hR.2.1) ?_
        refine cn_cge (t := 106) d_26_62 (by decide) (by first | omega | assumption | exact cu_36 (by omega) (cu_lt (by omega) (by omega))) (by first | omega | assumption | exact cu_36 (by omega) (cu_lt (by omega) (by omega))) (fun c62 => ?_) (fun c62 => ?_)
        · omega
        · refine cr_nx (pc' := 66) (al' := [some (.ref 83), none]) (st' := [.ref 83]) d_26_65 (fun _ => rfl) ?_
          refine cr_gf (v := .ref 82) d_26_66 cw_26 cf_4_7 (hS.i (a := 83) (by decide) (by decide)) (hS.s (a := 83) (by decide) (by decide) rfl) (by decide) (by simp [up2]; exact hR.1) ?_
          refine cr_nx (pc' := 70) (al' := [some (.ref 83), none]) (st' := [.ref 83, .ref 82]) d_26_69 (fun _ => rfl) ?_
          refine cr_gf (v := .int (nI e)) d_26_70 cw_26 cf_4_29 (hS.i (a := 83) (by decide) (by decide)) (hS.s (a := 83) (by decide) (by decide) rfl) (by decide) (by simp [up2]) ?_
          refine cr_ia (a := 82) (v := (nI (t (e)))) d_26_73 (hS.i (a := 82) (by decide) (by decide)) (hS.s (a := 82) (by decide) (by decide) rfl) (by first | decide | omega) (show e < 400 by first | omega | assumption | exact cu_36 (by omega) (cu_lt (by omega) (by omega))) (hR.2.2.2.2 _ (by omega)).1 ?_
          refine cn_bp (v := 97) d_26_74 (by decide) ?_
          refine cn_clt (t := 106) d_26_76 (by decide) (by first | (have := (hR.2.2.2.2 e (by omega)).2; omega) | (have := (hR.2.2.2.2 (rnS t len (skp t len q)) (by omega)).2; omega)) (by omega) (fun c76 => ?_) (fun c76 => ?_)
          · have := of_decide_eq_true (rn3 e pe (by omega)); omega
          · refine cr_nx (pc' := 80) (al' := [some (.ref 83), none]) (st' := [.ref 83]) d_26_79 (fun _ => rfl) ?_
            refine cr_gf (v := .ref 82) d_26_80 cw_26 cf_4_7 (hS.i (a := 83) (by decide) (by decide)) (hS.s (a := 83) (by decide) (by decide) rfl) (by decide) (by simp [up2]; exact hR.1) ?_
            refine cr_nx (pc' := 84) (al' := [some (.ref 83), none]) (st' := [.ref 83, .ref 82]) d_26_83 (fun _ => rfl) ?_
            refine cr_gf (v := .int (nI e)) d_26_84 cw_26 cf_4_29 (hS.i (a := 83) (by decide) (by decide)) (hS.s (a := 83) (by decide) (by decide) rfl) (by decide) (by simp [up2]) ?_
            refine cr_ia (a := 82) (v := (nI (t (e)))) d_26_87 (hS.i (a := 82) (by decide) (by decide)) (hS.s (a := 82) (by decide) (by decide) rfl) (by first | decide | omega) (show e < 400 by first | omega | assumption | exact cu_36 (by omega) (cu_lt (by omega) (by omega))) (hR.2.2.2.2 _ (by omega)).1 ?_
            refine cn_bp (v := 122) d_26_88 (by decide) ?_
            refine cn_cgt (t := 106) d_26_90 (by decide) (by first | (have := (hR.2.2.2.2 e (by omega)).2; omega) | (have := (hR.2.2.2.2 (rnS t len (skp t len q)) (by omega)).2; omega)) (by omega) (fun c90 => ?_) (fun c90 => ?_)
            · have := of_decide_eq_true (rn3 e pe (by omega)); omega
            · refine cr_nx (pc' := 94) (al' := [some (.ref 83), none]) (st' := [.ref 83]) d_26_93 (fun _ => rfl) ?_
              refine cr_nx (pc' := 95) (al' := [some (.ref 83), none]) (st' := [.ref 83, .ref 83]) d_26_94 (fun _ => rfl) ?_
              refine cr_gf (v := .int (nI e)) d_26_95 cw_26 cf_4_29 (hS.i (a := 83) (by decide) (by decide)) (hS.s (a := 83) (by decide) (by decide) rfl) (by decide) (by simp [up2]) ?_
              refine cn_ic (v := 1) d_26_98 (by decide) ?_
              refine cn_add d_26_99  ?_
              refine cp_4_3  d_26_100 cw_26 cf_4_29 (hS.i (a := 83) (by decide) (by decide)) (hS.s (a := 83) (by decide) (by decide) rfl) (by decide) ?_
              refine cr_G up2_u ?_
              refine cr_nx (pc' := 54) (al' := [some (.ref 83), none]) (st' := []) d_26_103 (fun _ => rfl) ?_
              exact ihe  (Nat.le_succ_of_le pe)
      · show CR _ _ 54 [some (.ref 83), none] [] S (up2 (up2 G 83 2 (.int (nI (skp t len q)))) 83 3 (.int (nI (rnS t len (skp t len q))))) B J R _
        refine cr_nx (pc' := 55) (al' := [some (.ref 83), none]) (st' := [.ref 83]) d_26_54 (fun _ => rfl) ?_
        refine cr_gf (v := .int (nI (rnS t len (skp t len q)))) d_26_55 cw_26 cf_4_29 (hS.i (a := 83) (by decide) (by decide)) (hS.s (a := 83) (by decide) (by decide) rfl) (by decide) (by simp [up2]) ?_
        refine cr_nx (pc' := 59) (al' := [some (.ref 83), none]) (st' := [.ref 83, .int (nI (rnS t len (skp t len q)))]) d_26_58 (fun _ => rfl) ?_
        refine cr_gf (v := .int (nI len)) d_26_59 cw_26 cf_4_26 (hS.i (a := 83) (by decide) (by decide)) (hS.s (a := 83) (by decide) (by decide) rfl) (by decide) (by simp [up2]; exact hR.2.1) ?_
        refine cn_cge (t := 106) d_26_62 (by decide) (by first | omega | assumption | exact cu_36 (by omega) (cu_lt (by omega) (by omega))) (by first | omega | assumption | exact cu_36 (by omega) (cu_lt (by omega) (by omega))) (fun c62 => ?_) (fun c62 => ?_)
        · refine cr_nx (pc' := 107) (al' := [some (.ref 83), none]) (st' := [.ref 83]) d_26_106 (fun _ => rfl) ?_
          refine cr_gf (v := .int (nI (rnS t len (skp t len q)))) d_26_107 cw_26 cf_4_29 (hS.i (a := 83) (by decide) (by decide)) (hS.s (a := 83) (by decide) (by decide) rfl) (by decide) (by simp [up2]) ?_
          refine cr_nx (pc' := 111) (al' := [some (.ref 83), none]) (st' := [.ref 83, .int (nI (rnS t len (skp t len q)))]) d_26_110 (fun _ => rfl) ?_
          refine cr_gf (v := .int (nI (skp t len q))) d_26_111 cw_26 cf_4_16 (hS.i (a := 83) (by decide) (by decide)) (hS.s (a := 83) (by decide) (by decide) rfl) (by decide) (by simp [up2]) ?_
          refine cn_cne (t := 138) d_26_114 (by decide) (by first | omega | assumption | exact cu_36 (by omega) (cu_lt (by omega) (by omega))) (by first | omega | assumption | exact cu_36 (by omega) (cu_lt (by omega) (by omega))) (fun c114 => ?_) (fun c114 => ?_)
          · refine cr_G (show (up2 (up2 G 83 2 (.int (nI (skp t len q)))) 83 3 (.int (nI (rnS t len (skp t len q))))) = up2 (up2 G 83 2 (.int (nI (skp t len q)))) 83 3 (.int (nI (enC t len (skp t len q)))) by rw [enC_k sk2 (by omega)]) ?_
            exact k_goOn138 hS hR hq hql
          · refine cr_nx (pc' := 118) (al' := [some (.ref 83), none]) (st' := [.ref 83]) d_26_117 (fun _ => rfl) ?_
            refine cr_gf (v := .int (nI (skp t len q))) d_26_118 cw_26 cf_4_16 (hS.i (a := 83) (by decide) (by decide)) (hS.s (a := 83) (by decide) (by decide) rfl) (by decide) (by simp [up2]) ?_
            refine cr_nx (pc' := 122) (al' := [some (.ref 83), none]) (st' := [.ref 83, .int (nI (skp t len q))]) d_26_121 (fun _ => rfl) ?_
            refine cr_gf (v := .int (nI len)) d_26_122 cw_26 cf_4_26 (hS.i (a := 83) (by decide) (by decide)) (hS.s (a := 83) (by decide) (by decide) rfl) (by decide) (by simp [up2]; exact hR.2.1) ?_
            refine cn_cge (t := 138) d_26_125 (by decide) (by first | omega | assumption | exact cu_36 (by omega) (cu_lt (by omega) (by omega))) (by first | omega | assumption | exact cu_36 (by omega) (cu_lt (by omega) (by omega))) (fun c125 => ?_) (fun c125 => ?_)
            · refine cr_G (show (up2 (up2 G 83 2 (.int (nI (skp t len q)))) 83 3 (.int (nI (rnS t len (skp t len q))))) = up2 (up2 G 83 2 (.int (nI (skp t len q)))) 83 3 (.int (nI (enC t len (skp t len q)))) by rw [enC_l (by omega), show rnS t len (skp t len q) = skp t len q by omega]) ?_
              exact k_goOn138 hS hR hq hql
            · refine cr_nx (pc' := 129) (al' := [some (.ref 83), none]) (st' := [.ref 83]) d_26_128 (fun _ => rfl) ?_
              refine cr_nx (pc' := 130) (al' := [some (.ref 83), none]) (st' := [.ref 83, .ref 83]) d_26_129 (fun _ => rfl) ?_
              refine cr_gf (v := .int (nI (rnS t len (skp t len q)))) d_26_130 cw_26 cf_4_29 (hS.i (a := 83) (by decide) (by decide)) (hS.s (a := 83) (by decide) (by decide) rfl) (by decide) (by simp [up2]) ?_
              refine cn_ic (v := 1) d_26_133 (by decide) ?_
              refine cn_add d_26_134  ?_
              refine cp_4_3  d_26_135 cw_26 cf_4_29 (hS.i (a := 83) (by decide) (by decide)) (hS.s (a := 83) (by decide) (by decide) rfl) (by decide) ?_
              refine cr_G up2_u ?_
              refine cr_G (show (up2 (up2 G 83 2 (.int (nI (skp t len q)))) 83 3 (.int (nI ((rnS t len (skp t len q)) + 1)))) = up2 (up2 G 83 2 (.int (nI (skp t len q)))) 83 3 (.int (nI (enC t len (skp t len q)))) by rw [enC_1 (by omega) (by omega), show rnS t len (skp t len q) = skp t len q by omega]) ?_
              exact k_goOn138 hS hR hq hql
        · refine cr_nx (pc' := 66) (al' := [some (.ref 83), none]) (st' := [.ref 83]) d_26_65 (fun _ => rfl) ?_
          refine cr_gf (v := .ref 82) d_26_66 cw_26 cf_4_7 (hS.i (a := 83) (by decide) (by decide)) (hS.s (a := 83) (by decide) (by decide) rfl) (by decide) (by simp [up2]; exact hR.1) ?_
          refine cr_nx (pc' := 70) (al' := [some (.ref 83), none]) (st' := [.ref 83, .ref 82]) d_26_69 (fun _ => rfl) ?_
          refine cr_gf (v := .int (nI (rnS t len (skp t len q)))) d_26_70 cw_26 cf_4_29 (hS.i (a := 83) (by decide) (by decide)) (hS.s (a := 83) (by decide) (by decide) rfl) (by decide) (by simp [up2]) ?_
          refine cr_ia (a := 82) (v := (nI (t (rnS t len (skp t len q))))) d_26_73 (hS.i (a := 82) (by decide) (by decide)) (hS.s (a := 82) (by decide) (by decide) rfl) (by first | decide | omega) (show rnS t len (skp t len q) < 400 by first | omega | assumption | exact cu_36 (by omega) (cu_lt (by omega) (by omega))) (hR.2.2.2.2 _ (by omega)).1 ?_
          refine cn_bp (v := 97) d_26_74 (by decide) ?_
          refine cn_clt (t := 106) d_26_76 (by decide) (by first | (have := (hR.2.2.2.2 e (by omega)).2; omega) | (have := (hR.2.2.2.2 (rnS t len (skp t len q)) (by omega)).2; omega)) (by omega) (fun c76 => ?_) (fun c76 => ?_)
          · refine cr_nx (pc' := 107) (al' := [some (.ref 83), none]) (st' := [.ref 83]) d_26_106 (fun _ => rfl) ?_
            refine cr_gf (v := .int (nI (rnS t len (skp t len q)))) d_26_107 cw_26 cf_4_29 (hS.i (a := 83) (by decide) (by decide)) (hS.s (a := 83) (by decide) (by decide) rfl) (by decide) (by simp [up2]) ?_
            refine cr_nx (pc' := 111) (al' := [some (.ref 83), none]) (st' := [.ref 83, .int (nI (rnS t len (skp t len q)))]) d_26_110 (fun _ => rfl) ?_
            refine cr_gf (v := .int (nI (skp t len q))) d_26_111 cw_26 cf_4_16 (hS.i (a := 83) (by decide) (by decide)) (hS.s (a := 83) (by decide) (by decide) rfl) (by decide) (by simp [up2]) ?_
            refine cn_cne (t := 138) d_26_114 (by decide) (by first | omega | assumption | exact cu_36 (by omega) (cu_lt (by omega) (by omega))) (by first | omega | assumption | exact cu_36 (by omega) (cu_lt (by omega) (by omega))) (fun c114 => ?_) (fun c114 => ?_)
            · refine cr_G (show (up2 (up2 G 83 2 (.int (nI (skp t len q)))) 83 3 (.int (nI (rnS t len (skp t len q))))) = up2 (up2 G 83 2 (.int (nI (skp t len q)))) 83 3 (.int (nI (enC t len (skp t len q)))) by rw [enC_k sk2 (by omega)]) ?_
              exact k_goOn138 hS hR hq hql
            · refine cr_nx (pc' := 118) (al' := [some (.ref 83), none]) (st' := [.ref 83]) d_26_117 (fun _ => rfl) ?_
              refine cr_gf (v := .int (nI (skp t len q))) d_26_118 cw_26 cf_4_16 (hS.i (a := 83) (by decide) (by decide)) (hS.s (a := 83) (by decide) (by decide) rfl) (by decide) (by simp [up2]) ?_
              refine cr_nx (pc' := 122) (al' := [some (.ref 83), none]) (st' := [.ref 83, .int (nI (skp t len q))]) d_26_121 (fun _ => rfl) ?_
              refine cr_gf (v := .int (nI len)) d_26_122 cw_26 cf_4_26 (hS.i (a := 83) (by decide) (by decide)) (hS.s (a := 83) (by decide) (by decide) rfl) (by decide) (by simp [up2]; exact hR.2.1) ?_
              refine cn_cge (t := 138) d_26_125 (by decide) (by first | omega | assumption | exact cu_36 (by omega) (cu_lt (by omega) (by omega))) (by first | omega | assumption | exact cu_36 (by omega) (cu_lt (by omega) (by omega))) (fun c125 => ?_) (fun c125 => ?_)
              · refine cr_G (show (up2 (up2 G 83 2 (.int (nI (skp t len q)))) 83 3 (.int (nI (rnS t len (skp t len q))))) = up2 (up2 G 83 2 (.int (nI (skp t len q)))) 83 3 (.int (nI (enC t len (skp t len q)))) by rw [enC_l (by omega), show rnS t len (skp t len q) = skp t len q by omega]) ?_
                exact k_goOn138 hS hR hq hql
              · refine cr_nx (pc' := 129) (al' := [some (.ref 83), none]) (st' := [.ref 83]) d_26_128 (fun _ => rfl) ?_
                refine cr_nx (pc' := 130) (al' := [some (.ref 83), none]) (st' := [.ref 83, .ref 83]) d_26_129 (fun _ => rfl) ?_
                refine cr_gf (v := .int (nI (rnS t len (skp t len q)))) d_26_130 cw_26 cf_4_29 (hS.i (a := 83) (by decide) (by decide)) (hS.s (a := 83) (by decide) (by decide) rfl) (by decide) (by simp [up2]) ?_
                refine cn_ic (v := 1) d_26_133 (by decide) ?_
                refine cn_add d_26_134  ?_
                refine cp_4_3  d_26_135 cw_26 cf_4_29 (hS.i (a := 83) (by decide) (by decide)) (hS.s (a := 83) (by decide) (by decide) rfl) (by decide) ?_
                refine cr_G up2_u ?_
                refine cr_G (show (up2 (up2 G 83 2 (.int (nI (skp t len q)))) 83 3 (.int (nI ((rnS t len (skp t len q)) + 1)))) = up2 (up2 G 83 2 (.int (nI (skp t len q)))) 83 3 (.int (nI (enC t len (skp t len q)))) by rw [enC_1 (by omega) (by omega), show rnS t len (skp t len q) = skp t len q by omega]) ?_
                exact k_goOn138 hS hR hq hql
          · refine cr_nx (pc' := 80) (al' := [some (.ref 83), none]) (st' := [.ref 83]) d_26_79 (fun _ => rfl) ?_
            refine cr_gf (v := .ref 82) d_26_80 cw_26 cf_4_7 (hS.i (a := 83) (by decide) (by decide)) (hS.s (a := 83) (by decide) (by decide) rfl) (by decide) (by simp [up2]; exact hR.1) ?_
            refine cr_nx (pc' := 84) (al' := [some (.ref 83), none]) (st' := [.ref 83, .ref 82]) d_26_83 (fun _ => rfl) ?_
            refine cr_gf (v := .int (nI (rnS t len (skp t len q)))) d_26_84 cw_26 cf_4_29 (hS.i (a := 83) (by decide) (by decide)) (hS.s (a := 83) (by decide) (by decide) rfl) (by decide) (by simp [up2]) ?_
            refine cr_ia (a := 82) (v := (nI (t (rnS t len (skp t len q))))) d_26_87 (hS.i (a := 82) (by decide) (by decide)) (hS.s (a := 82) (by decide) (by decide) rfl) (by first | decide | omega) (show rnS t len (skp t len q) < 400 by first | omega | assumption | exact cu_36 (by omega) (cu_lt (by omega) (by omega))) (hR.2.2.2.2 _ (by omega)).1 ?_
            refine cn_bp (v := 122) d_26_88 (by decide) ?_
            refine cn_cgt (t := 106) d_26_90 (by decide) (by first | (have := (hR.2.2.2.2 e (by omega)).2; omega) | (have := (hR.2.2.2.2 (rnS t len (skp t len q)) (by omega)).2; omega)) (by omega) (fun c90 => ?_) (fun c90 => ?_)
            · refine cr_nx (pc' := 107) (al' := [some (.ref 83), none]) (st' := [.ref 83]) d_26_106 (fun _ => rfl) ?_
              refine cr_gf (v := .int (nI (rnS t len (skp t len q)))) d_26_107 cw_26 cf_4_29 (hS.i (a := 83) (by decide) (by decide)) (hS.s (a := 83) (by decide) (by decide) rfl) (by decide) (by simp [up2]) ?_
              refine cr_nx (pc' := 111) (al' := [some (.ref 83), none]) (st' := [.ref 83, .int (nI (rnS t len (skp t len q)))]) d_26_110 (fun _ => rfl) ?_
              refine cr_gf (v := .int (nI (skp t len q))) d_26_111 cw_26 cf_4_16 (hS.i (a := 83) (by decide) (by decide)) (hS.s (a := 83) (by decide) (by decide) rfl) (by decide) (by simp [up2]) ?_
              refine cn_cne (t := 138) d_26_114 (by decide) (by first | omega | assumption | exact cu_36 (by omega) (cu_lt (by omega) (by omega))) (by first | omega | assumption | exact cu_36 (by omega) (cu_lt (by omega) (by omega))) (fun c114 => ?_) (fun c114 => ?_)
              · refine cr_G (show (up2 (up2 G 83 2 (.int (nI (skp t len q)))) 83 3 (.int (nI (rnS t len (skp t len q))))) = up2 (up2 G 83 2 (.int (nI (skp t len q)))) 83 3 (.int (nI (enC t len (skp t len q)))) by rw [enC_k sk2 (by omega)]) ?_
                exact k_goOn138 hS hR hq hql
              · refine cr_nx (pc' := 118) (al' := [some (.ref 83), none]) (st' := [.ref 83]) d_26_117 (fun _ => rfl) ?_
                refine cr_gf (v := .int (nI (skp t len q))) d_26_118 cw_26 cf_4_16 (hS.i (a := 83) (by decide) (by decide)) (hS.s (a := 83) (by decide) (by decide) rfl) (by decide) (by simp [up2]) ?_
                refine cr_nx (pc' := 122) (al' := [some (.ref 83), none]) (st' := [.ref 83, .int (nI (skp t len q))]) d_26_121 (fun _ => rfl) ?_
                refine cr_gf (v := .int (nI len)) d_26_122 cw_26 cf_4_26 (hS.i (a := 83) (by decide) (by decide)) (hS.s (a := 83) (by decide) (by decide) rfl) (by decide) (by simp [up2]; exact hR.2.1) ?_
                refine cn_cge (t := 138) d_26_125 (by decide) (by first | omega | assumption | exact cu_36 (by omega) (cu_lt (by omega) (by omega))) (by first | omega | assumption | exact cu_36 (by omega) (cu_lt (by omega) (by omega))) (fun c125 => ?_) (fun c125 => ?_)
                · refine cr_G (show (up2 (up2 G 83 2 (.int (nI (skp t len q)))) 83 3 (.int (nI (rnS t len (skp t len q))))) = up2 (up2 G 83 2 (.int (nI (skp t len q)))) 83 3 (.int (nI (enC t len (skp t len q)))) by rw [enC_l (by omega), show rnS t len (skp t len q) = skp t len q by omega]) ?_
                  exact k_goOn138 hS hR hq hql
                · refine cr_nx (pc' := 129) (al' := [some (.ref 83), none]) (st' := [.ref 83]) d_26_128 (fun _ => rfl) ?_
                  refine cr_nx (pc' := 130) (al' := [some (.ref 83), none]) (st' := [.ref 83, .ref 83]) d_26_129 (fun _ => rfl) ?_
                  refine cr_gf (v := .int (nI (rnS t len (skp t len q)))) d_26_130 cw_26 cf_4_29 (hS.i (a := 83) (by decide) (by decide)) (hS.s (a := 83) (by decide) (by decide) rfl) (by decide) (by simp [up2]) ?_
                  refine cn_ic (v := 1) d_26_133 (by decide) ?_
                  refine cn_add d_26_134  ?_
                  refine cp_4_3  d_26_135 cw_26 cf_4_29 (hS.i (a := 83) (by decide) (by decide)) (hS.s (a := 83) (by decide) (by decide) rfl) (by decide) ?_
                  refine cr_G up2_u ?_
                  refine cr_G (show (up2 (up2 G 83 2 (.int (nI (skp t len q)))) 83 3 (.int (nI ((rnS t len (skp t len q)) + 1)))) = up2 (up2 G 83 2 (.int (nI (skp t len q)))) 83 3 (.int (nI (enC t len (skp t len q)))) by rw [enC_1 (by omega) (by omega), show rnS t len (skp t len q) = skp t len q by omega]) ?_
                  exact k_goOn138 hS hR hq hql
            · exact absurd (rn4 (by omega)) (by rw [show isS (t (rnS t len (skp t len q))) = true from decide_eq_true (by omega)]; decide)
    · refine cr_nx (pc' := 20) (al' := [some (.ref 83), none]) (st' := [.ref 83]) d_26_19 (fun _ => rfl) ?_
      refine cr_gf (v := .ref 82) d_26_20 cw_26 cf_4_7 (hS.i (a := 83) (by decide) (by decide)) (hS.s (a := 83) (by decide) (by decide) rfl) (by decide) (by simp [up2]; exact hR.1) ?_
      refine cr_nx (pc' := 24) (al' := [some (.ref 83), none]) (st' := [.ref 83, .ref 82]) d_26_23 (fun _ => rfl) ?_
      refine cr_gf (v := .int (nI (skp t len q))) d_26_24 cw_26 cf_4_16 (hS.i (a := 83) (by decide) (by decide)) (hS.s (a := 83) (by decide) (by decide) rfl) (by decide) (by simp [up2]) ?_
      refine cr_ia (a := 82) (v := (nI (t (skp t len q)))) d_26_27 (hS.i (a := 82) (by decide) (by decide)) (hS.s (a := 82) (by decide) (by decide) rfl) (by first | decide | omega) (show skp t len q < 400 by first | omega | assumption | exact cu_36 (by omega) (cu_lt (by omega) (by omega))) (hR.2.2.2.2 _ (by omega)).1 ?_
      refine cn_bp (v := 32) d_26_28 (by decide) ?_
      refine cn_cne (t := 46) d_26_30 (by decide) (by first | (have := (hR.2.2.2.2 p (by omega)).2; omega) | (have := (hR.2.2.2.2 (skp t len q) (by omega)).2; omega)) (by omega) (fun c30 => ?_) (fun c30 => ?_)
      · refine cr_nx (pc' := 47) (al' := [some (.ref 83), none]) (st' := [.ref 83]) d_26_46 (fun _ => rfl) ?_
        refine cr_nx (pc' := 48) (al' := [some (.ref 83), none]) (st' := [.ref 83, .ref 83]) d_26_47 (fun _ => rfl) ?_
        refine cr_gf (v := .int (nI (skp t len q))) d_26_48 cw_26 cf_4_16 (hS.i (a := 83) (by decide) (by decide)) (hS.s (a := 83) (by decide) (by decide) rfl) (by decide) (by simp [up2]) ?_
        refine cp_4_3  d_26_51 cw_26 cf_4_29 (hS.i (a := 83) (by decide) (by decide)) (hS.s (a := 83) (by decide) (by decide) rfl) (by decide) ?_
        refine cr_up (al := fun e => [some (.ref 83), none]) (S := fun e => S) (G := fun e => (up2 (up2 G 83 2 (.int (nI (skp t len q)))) 83 3 (.int (nI e)))) (B := fun e => B) (J := fun e => J) (R := fun e => R) (P := fun e => skp t len q ≤ e) (n := rnS t len (skp t len q)) (fun e he pe ihe => ?_) (fun pe => ?_) (skp t len q)  (le_rg rn1) (Nat.le_refl _)
        · show CR _ _ 54 [some (.ref 83), none] [] S (up2 (up2 G 83 2 (.int (nI (skp t len q)))) 83 3 (.int (nI e))) B J R _
          refine cr_nx (pc' := 55) (al' := [some (.ref 83), none]) (st' := [.ref 83]) d_26_54 (fun _ => rfl) ?_
          refine cr_gf (v := .int (nI e)) d_26_55 cw_26 cf_4_29 (hS.i (a := 83) (by decide) (by decide)) (hS.s (a := 83) (by decide) (by decide) rfl) (by decide) (by simp [up2]) ?_
          refine cr_nx (pc' := 59) (al' := [some (.ref 83), none]) (st' := [.ref 83, .int (nI e)]) d_26_58 (fun _ => rfl) ?_
          refine cr_gf (v := .int (nI len)) d_26_59 cw_26 cf_4_26 (hS.i (a := 83) (by decide) (by decide)) (hS.s (a := 83) (by decide) (by decide) rfl) (by decide) (by simp [up2]; exact hR.2.1) ?_
          refine cn_cge (t := 106) d_26_62 (by decide) (by first | omega | assumption | exact cu_36 (by omega) (cu_lt (by omega) (by omega))) (by first | omega | assumption | exact cu_36 (by omega) (cu_lt (by omega) (by omega))) (fun c62 => ?_) (fun c62 => ?_)
          · omega
          · refine cr_nx (pc' := 66) (al' := [some (.ref 83), none]) (st' := [.ref 83]) d_26_65 (fun _ => rfl) ?_
            refine cr_gf (v := .ref 82) d_26_66 cw_26 cf_4_7 (hS.i (a := 83) (by decide) (by decide)) (hS.s (a := 83) (by decide) (by decide) rfl) (by decide) (by simp [up2]; exact hR.1) ?_
            refine cr_nx (pc' := 70) (al' := [some (.ref 83), none]) (st' := [.ref 83, .ref 82]) d_26_69 (fun _ => rfl) ?_
            refine cr_gf (v := .int (nI e)) d_26_70 cw_26 cf_4_29 (hS.i (a := 83) (by decide) (by decide)) (hS.s (a := 83) (by decide) (by decide) rfl) (by decide) (by simp [up2]) ?_
            refine cr_ia (a := 82) (v := (nI (t (e)))) d_26_73 (hS.i (a := 82) (by decide) (by decide)) (hS.s (a := 82) (by decide) (by decide) rfl) (by first | decide | omega) (show e < 400 by first | omega | assumption | exact cu_36 (by omega) (cu_lt (by omega) (by omega))) (hR.2.2.2.2 _ (by omega)).1 ?_
            refine cn_bp (v := 97) d_26_74 (by decide) ?_
            refine cn_clt (t := 106) d_26_76 (by decide) (by first | (have := (hR.2.2.2.2 e (by omega)).2; omega) | (have := (hR.2.2.2.2 (rnS t len (skp t len q)) (by omega)).2; omega)) (by omega) (fun c76 => ?_) (fun c76 => ?_)
            · have := of_decide_eq_true (rn3 e pe (by omega)); omega
            · refine cr_nx (pc' := 80) (al' := [some (.ref 83), none]) (st' := [.ref 83]) d_26_79 (fun _ => rfl) ?_
              refine cr_gf (v := .ref 82) d_26_80 cw_26 cf_4_7 (hS.i (a := 83) (by decide) (by decide)) (hS.s (a := 83) (by decide) (by decide) rfl) (by decide) (by simp [up2]; exact hR.1) ?_
              refine cr_nx (pc' := 84) (al' := [some (.ref 83), none]) (st' := [.ref 83, .ref 82]) d_26_83 (fun _ => rfl) ?_
              refine cr_gf (v := .int (nI e)) d_26_84 cw_26 cf_4_29 (hS.i (a := 83) (by decide) (by decide)) (hS.s (a := 83) (by decide) (by decide) rfl) (by decide) (by simp [up2]) ?_
              refine cr_ia (a := 82) (v := (nI (t (e)))) d_26_87 (hS.i (a := 82) (by decide) (by decide)) (hS.s (a := 82) (by decide) (by decide) rfl) (by first | decide | omega) (show e < 400 by first | omega | assumption | exact cu_36 (by omega) (cu_lt (by omega) (by omega))) (hR.2.2.2.2 _ (by omega)).1 ?_
              refine cn_bp (v := 122) d_26_88 (by decide) ?_
              refine cn_cgt (t := 106) d_26_90 (by decide) (by first | (have := (hR.2.2.2.2 e (by omega)).2; omega) | (have := (hR.2.2.2.2 (rnS t len (skp t len q)) (by omega)).2; omega)) (by omega) (fun c90 => ?_) (fun c90 => ?_)
              · have := of_decide_eq_true (rn3 e pe (by omega)); omega
              · refine cr_nx (pc' := 94) (al' := [some (.ref 83), none]) (st' := [.ref 83]) d_26_93 (fun _ => rfl) ?_
                refine cr_nx (pc' := 95) (al' := [some (.ref 83), none]) (st' := [.ref 83, .ref 83]) d_26_94 (fun _ => rfl) ?_
                refine cr_gf (v := .int (nI e)) d_26_95 cw_26 cf_4_29 (hS.i (a := 83) (by decide) (by decide)) (hS.s (a := 83) (by decide) (by decide) rfl) (by decide) (by simp [up2]) ?_
                refine cn_ic (v := 1) d_26_98 (by decide) ?_
                refine cn_add d_26_99  ?_
                refine cp_4_3  d_26_100 cw_26 cf_4_29 (hS.i (a := 83) (by decide) (by decide)) (hS.s (a := 83) (by decide) (by decide) rfl) (by decide) ?_
                refine cr_G up2_u ?_
                refine cr_nx (pc' := 54) (al' := [some (.ref 83), none]) (st' := []) d_26_103 (fun _ => rfl) ?_
                exact ihe  (Nat.le_succ_of_le pe)
        · show CR _ _ 54 [some (.ref 83), none] [] S (up2 (up2 G 83 2 (.int (nI (skp t len q)))) 83 3 (.int (nI (rnS t len (skp t len q))))) B J R _
          refine cr_nx (pc' := 55) (al' := [some (.ref 83), none]) (st' := [.ref 83]) d_26_54 (fun _ => rfl) ?_
          refine cr_gf (v := .int (nI (rnS t len (skp t len q)))) d_26_55 cw_26 cf_4_29 (hS.i (a := 83) (by decide) (by decide)) (hS.s (a := 83) (by decide) (by decide) rfl) (by decide) (by simp [up2]) ?_
          refine cr_nx (pc' := 59) (al' := [some (.ref 83), none]) (st' := [.ref 83, .int (nI (rnS t len (skp t len q)))]) d_26_58 (fun _ => rfl) ?_
          refine cr_gf (v := .int (nI len)) d_26_59 cw_26 cf_4_26 (hS.i (a := 83) (by decide) (by decide)) (hS.s (a := 83) (by decide) (by decide) rfl) (by decide) (by simp [up2]; exact hR.2.1) ?_
          refine cn_cge (t := 106) d_26_62 (by decide) (by first | omega | assumption | exact cu_36 (by omega) (cu_lt (by omega) (by omega))) (by first | omega | assumption | exact cu_36 (by omega) (cu_lt (by omega) (by omega))) (fun c62 => ?_) (fun c62 => ?_)
          · refine cr_nx (pc' := 107) (al' := [some (.ref 83), none]) (st' := [.ref 83]) d_26_106 (fun _ => rfl) ?_
            refine cr_gf (v := .int (nI (rnS t len (skp t len q)))) d_26_107 cw_26 cf_4_29 (hS.i (a := 83) (by decide) (by decide)) (hS.s (a := 83) (by decide) (by decide) rfl) (by decide) (by simp [up2]) ?_
            refine cr_nx (pc' := 111) (al' := [some (.ref 83), none]) (st' := [.ref 83, .int (nI (rnS t len (skp t len q)))]) d_26_110 (fun _ => rfl) ?_
            refine cr_gf (v := .int (nI (skp t len q))) d_26_111 cw_26 cf_4_16 (hS.i (a := 83) (by decide) (by decide)) (hS.s (a := 83) (by decide) (by decide) rfl) (by decide) (by simp [up2]) ?_
            refine cn_cne (t := 138) d_26_114 (by decide) (by first | omega | assumption | exact cu_36 (by omega) (cu_lt (by omega) (by omega))) (by first | omega | assumption | exact cu_36 (by omega) (cu_lt (by omega) (by omega))) (fun c114 => ?_) (fun c114 => ?_)
            · refine cr_G (show (up2 (up2 G 83 2 (.int (nI (skp t len q)))) 83 3 (.int (nI (rnS t len (skp t len q))))) = up2 (up2 G 83 2 (.int (nI (skp t len q)))) 83 3 (.int (nI (enC t len (skp t len q)))) by rw [enC_k sk2 (by omega)]) ?_
              exact k_goOn138 hS hR hq hql
            · refine cr_nx (pc' := 118) (al' := [some (.ref 83), none]) (st' := [.ref 83]) d_26_117 (fun _ => rfl) ?_
              refine cr_gf (v := .int (nI (skp t len q))) d_26_118 cw_26 cf_4_16 (hS.i (a := 83) (by decide) (by decide)) (hS.s (a := 83) (by decide) (by decide) rfl) (by decide) (by simp [up2]) ?_
              refine cr_nx (pc' := 122) (al' := [some (.ref 83), none]) (st' := [.ref 83, .int (nI (skp t len q))]) d_26_121 (fun _ => rfl) ?_
              refine cr_gf (v := .int (nI len)) d_26_122 cw_26 cf_4_26 (hS.i (a := 83) (by decide) (by decide)) (hS.s (a := 83) (by decide) (by decide) rfl) (by decide) (by simp [up2]; exact hR.2.1) ?_
              refine cn_cge (t := 138) d_26_125 (by decide) (by first | omega | assumption | exact cu_36 (by omega) (cu_lt (by omega) (by omega))) (by first | omega | assumption | exact cu_36 (by omega) (cu_lt (by omega) (by omega))) (fun c125 => ?_) (fun c125 => ?_)
              · refine cr_G (show (up2 (up2 G 83 2 (.int (nI (skp t len q)))) 83 3 (.int (nI (rnS t len (skp t len q))))) = up2 (up2 G 83 2 (.int (nI (skp t len q)))) 83 3 (.int (nI (enC t len (skp t len q)))) by rw [enC_l (by omega), show rnS t len (skp t len q) = skp t len q by omega]) ?_
                exact k_goOn138 hS hR hq hql
              · refine cr_nx (pc' := 129) (al' := [some (.ref 83), none]) (st' := [.ref 83]) d_26_128 (fun _ => rfl) ?_
                refine cr_nx (pc' := 130) (al' := [some (.ref 83), none]) (st' := [.ref 83, .ref 83]) d_26_129 (fun _ => rfl) ?_
                refine cr_gf (v := .int (nI (rnS t len (skp t len q)))) d_26_130 cw_26 cf_4_29 (hS.i (a := 83) (by decide) (by decide)) (hS.s (a := 83) (by decide) (by decide) rfl) (by decide) (by simp [up2]) ?_
                refine cn_ic (v := 1) d_26_133 (by decide) ?_
                refine cn_add d_26_134  ?_
                refine cp_4_3  d_26_135 cw_26 cf_4_29 (hS.i (a := 83) (by decide) (by decide)) (hS.s (a := 83) (by decide) (by decide) rfl) (by decide) ?_
                refine cr_G up2_u ?_
                refine cr_G (show (up2 (up2 G 83 2 (.int (nI (skp t len q)))) 83 3 (.int (nI ((rnS t len (skp t len q)) + 1)))) = up2 (up2 G 83 2 (.int (nI (skp t len q)))) 83 3 (.int (nI (enC t len (skp t len q)))) by rw [enC_1 (by omega) (by omega), show rnS t len (skp t len q) = skp t len q by omega]) ?_
                exact k_goOn138 hS hR hq hql
          · refine cr_nx (pc' := 66) (al' := [some (.ref 83), none]) (st' := [.ref 83]) d_26_65 (fun _ => rfl) ?_
            refine cr_gf (v := .ref 82) d_26_66 cw_26 cf_4_7 (hS.i (a := 83) (by decide) (by decide)) (hS.s (a := 83) (by decide) (by decide) rfl) (by decide) (by simp [up2]; exact hR.1) ?_
            refine cr_nx (pc' := 70) (al' := [some (.ref 83), none]) (st' := [.ref 83, .ref 82]) d_26_69 (fun _ => rfl) ?_
            refine cr_gf (v := .int (nI (rnS t len (skp t len q)))) d_26_70 cw_26 cf_4_29 (hS.i (a := 83) (by decide) (by decide)) (hS.s (a := 83) (by decide) (by decide) rfl) (by decide) (by simp [up2]) ?_
            refine cr_ia (a := 82) (v := (nI (t (rnS t len (skp t len q))))) d_26_73 (hS.i (a := 82) (by decide) (by decide)) (hS.s (a := 82) (by decide) (by decide) rfl) (by first | decide | omega) (show rnS t len (skp t len q) < 400 by first | omega | assumption | exact cu_36 (by omega) (cu_lt (by omega) (by omega))) (hR.2.2.2.2 _ (by omega)).1 ?_
            refine cn_bp (v := 97) d_26_74 (by decide) ?_
            refine cn_clt (t := 106) d_26_76 (by decide) (by first | (have := (hR.2.2.2.2 e (by omega)).2; omega) | (have := (hR.2.2.2.2 (rnS t len (skp t len q)) (by omega)).2; omega)) (by omega) (fun c76 => ?_) (fun c76 => ?_)
            · refine cr_nx (pc' := 107) (al' := [some (.ref 83), none]) (st' := [.ref 83]) d_26_106 (fun _ => rfl) ?_
              refine cr_gf (v := .int (nI (rnS t len (skp t len q)))) d_26_107 cw_26 cf_4_29 (hS.i (a := 83) (by decide) (by decide)) (hS.s (a := 83) (by decide) (by decide) rfl) (by decide) (by simp [up2]) ?_
              refine cr_nx (pc' := 111) (al' := [some (.ref 83), none]) (st' := [.ref 83, .int (nI (rnS t len (skp t len q)))]) d_26_110 (fun _ => rfl) ?_
              refine cr_gf (v := .int (nI (skp t len q))) d_26_111 cw_26 cf_4_16 (hS.i (a := 83) (by decide) (by decide)) (hS.s (a := 83) (by decide) (by decide) rfl) (by decide) (by simp [up2]) ?_
              refine cn_cne (t := 138) d_26_114 (by decide) (by first | omega | assumption | exact cu_36 (by omega) (cu_lt (by omega) (by omega))) (by first | omega | assumption | exact cu_36 (by omega) (cu_lt (by omega) (by omega))) (fun c114 => ?_) (fun c114 => ?_)
              · refine cr_G (show (up2 (up2 G 83 2 (.int (nI (skp t len q)))) 83 3 (.int (nI (rnS t len (skp t len q))))) = up2 (up2 G 83 2 (.int (nI (skp t len q)))) 83 3 (.int (nI (enC t len (skp t len q)))) by rw [enC_k sk2 (by omega)]) ?_
                exact k_goOn138 hS hR hq hql
              · refine cr_nx (pc' := 118) (al' := [some (.ref 83), none]) (st' := [.ref 83]) d_26_117 (fun _ => rfl) ?_
                refine cr_gf (v := .int (nI (skp t len q))) d_26_118 cw_26 cf_4_16 (hS.i (a := 83) (by decide) (by decide)) (hS.s (a := 83) (by decide) (by decide) rfl) (by decide) (by simp [up2]) ?_
                refine cr_nx (pc' := 122) (al' := [some (.ref 83), none]) (st' := [.ref 83, .int (nI (skp t len q))]) d_26_121 (fun _ => rfl) ?_
                refine cr_gf (v := .int (nI len)) d_26_122 cw_26 cf_4_26 (hS.i (a := 83) (by decide) (by decide)) (hS.s (a := 83) (by decide) (by decide) rfl) (by decide) (by simp [up2]; exact hR.2.1) ?_
                refine cn_cge (t := 138) d_26_125 (by decide) (by first | omega | assumption | exact cu_36 (by omega) (cu_lt (by omega) (by omega))) (by first | omega | assumption | exact cu_36 (by omega) (cu_lt (by omega) (by omega))) (fun c125 => ?_) (fun c125 => ?_)
                · refine cr_G (show (up2 (up2 G 83 2 (.int (nI (skp t len q)))) 83 3 (.int (nI (rnS t len (skp t len q))))) = up2 (up2 G 83 2 (.int (nI (skp t len q)))) 83 3 (.int (nI (enC t len (skp t len q)))) by rw [enC_l (by omega), show rnS t len (skp t len q) = skp t len q by omega]) ?_
                  exact k_goOn138 hS hR hq hql
                · refine cr_nx (pc' := 129) (al' := [some (.ref 83), none]) (st' := [.ref 83]) d_26_128 (fun _ => rfl) ?_
                  refine cr_nx (pc' := 130) (al' := [some (.ref 83), none]) (st' := [.ref 83, .ref 83]) d_26_129 (fun _ => rfl) ?_
                  refine cr_gf (v := .int (nI (rnS t len (skp t len q)))) d_26_130 cw_26 cf_4_29 (hS.i (a := 83) (by decide) (by decide)) (hS.s (a := 83) (by decide) (by decide) rfl) (by decide) (by simp [up2]) ?_
                  refine cn_ic (v := 1) d_26_133 (by decide) ?_
                  refine cn_add d_26_134  ?_
                  refine cp_4_3  d_26_135 cw_26 cf_4_29 (hS.i (a := 83) (by decide) (by decide)) (hS.s (a := 83) (by decide) (by decide) rfl) (by decide) ?_
                  refine cr_G up2_u ?_
                  refine cr_G (show (up2 (up2 G 83 2 (.int (nI (skp t len q)))) 83 3 (.int (nI ((rnS t len (skp t len q)) + 1)))) = up2 (up2 G 83 2 (.int (nI (skp t len q)))) 83 3 (.int (nI (enC t len (skp t len q)))) by rw [enC_1 (by omega) (by omega), show rnS t len (skp t len q) = skp t len q by omega]) ?_
                  exact k_goOn138 hS hR hq hql
            · refine cr_nx (pc' := 80) (al' := [some (.ref 83), none]) (st' := [.ref 83]) d_26_79 (fun _ => rfl) ?_
              refine cr_gf (v := .ref 82) d_26_80 cw_26 cf_4_7 (hS.i (a := 83) (by decide) (by decide)) (hS.s (a := 83) (by decide) (by decide) rfl) (by decide) (by simp [up2]; exact hR.1) ?_
              refine cr_nx (pc' := 84) (al' := [some (.ref 83), none]) (st' := [.ref 83, .ref 82]) d_26_83 (fun _ => rfl) ?_
              refine cr_gf (v := .int (nI (rnS t len (skp t len q)))) d_26_84 cw_26 cf_4_29 (hS.i (a := 83) (by decide) (by decide)) (hS.s (a := 83) (by decide) (by decide) rfl) (by decide) (by simp [up2]) ?_
              refine cr_ia (a := 82) (v := (nI (t (rnS t len (skp t len q))))) d_26_87 (hS.i (a := 82) (by decide) (by decide)) (hS.s (a := 82) (by decide) (by decide) rfl) (by first | decide | omega) (show rnS t len (skp t len q) < 400 by first | omega | assumption | exact cu_36 (by omega) (cu_lt (by omega) (by omega))) (hR.2.2.2.2 _ (by omega)).1 ?_
              refine cn_bp (v := 122) d_26_88 (by decide) ?_
              refine cn_cgt (t := 106) d_26_90 (by decide) (by first | (have := (hR.2.2.2.2 e (by omega)).2; omega) | (have := (hR.2.2.2.2 (rnS t len (skp t len q)) (by omega)).2; omega)) (by omega) (fun c90 => ?_) (fun c90 => ?_)
              · refine cr_nx (pc' := 107) (al' := [some (.ref 83), none]) (st' := [.ref 83]) d_26_106 (fun _ => rfl) ?_
                refine cr_gf (v := .int (nI (rnS t len (skp t len q)))) d_26_107 cw_26 cf_4_29 (hS.i (a := 83) (by decide) (by decide)) (hS.s (a := 83) (by decide) (by decide) rfl) (by decide) (by simp [up2]) ?_
                refine cr_nx (pc' := 111) (al' := [some (.ref 83), none]) (st' := [.ref 83, .int (nI (rnS t len (skp t len q)))]) d_26_110 (fun _ => rfl) ?_
                refine cr_gf (v := .int (nI (skp t len q))) d_26_111 cw_26 cf_4_16 (hS.i (a := 83) (by decide) (by decide)) (hS.s (a := 83) (by decide) (by decide) rfl) (by decide) (by simp [up2]) ?_
                refine cn_cne (t := 138) d_26_114 (by decide) (by first | omega | assumption | exact cu_36 (by omega) (cu_lt (by omega) (by omega))) (by first | omega | assumption | exact cu_36 (by omega) (cu_lt (by omega) (by omega))) (fun c114 => ?_) (fun c114 => ?_)
                · refine cr_G (show (up2 (up2 G 83 2 (.int (nI (skp t len q)))) 83 3 (.int (nI (rnS t len (skp t len q))))) = up2 (up2 G 83 2 (.int (nI (skp t len q)))) 83 3 (.int (nI (enC t len (skp t len q)))) by rw [enC_k sk2 (by omega)]) ?_
                  exact k_goOn138 hS hR hq hql
                · refine cr_nx (pc' := 118) (al' := [some (.ref 83), none]) (st' := [.ref 83]) d_26_117 (fun _ => rfl) ?_
                  refine cr_gf (v := .int (nI (skp t len q))) d_26_118 cw_26 cf_4_16 (hS.i (a := 83) (by decide) (by decide)) (hS.s (a := 83) (by decide) (by decide) rfl) (by decide) (by simp [up2]) ?_
                  refine cr_nx (pc' := 122) (al' := [some (.ref 83), none]) (st' := [.ref 83, .int (nI (skp t len q))]) d_26_121 (fun _ => rfl) ?_
                  refine cr_gf (v := .int (nI len)) d_26_122 cw_26 cf_4_26 (hS.i (a := 83) (by decide) (by decide)) (hS.s (a := 83) (by decide) (by decide) rfl) (by decide) (by simp [up2]; exact hR.2.1) ?_
                  refine cn_cge (t := 138) d_26_125 (by decide) (by first | omega | assumption | exact cu_36 (by omega) (cu_lt (by omega) (by omega))) (by first | omega | assumption | exact cu_36 (by omega) (cu_lt (by omega) (by omega))) (fun c125 => ?_) (fun c125 => ?_)
                  · refine cr_G (show (up2 (up2 G 83 2 (.int (nI (skp t len q)))) 83 3 (.int (nI (rnS t len (skp t len q))))) = up2 (up2 G 83 2 (.int (nI (skp t len q)))) 83 3 (.int (nI (enC t len (skp t len q)))) by rw [enC_l (by omega), show rnS t len (skp t len q) = skp t len q by omega]) ?_
                    exact k_goOn138 hS hR hq hql
                  · refine cr_nx (pc' := 129) (al' := [some (.ref 83), none]) (st' := [.ref 83]) d_26_128 (fun _ => rfl) ?_
                    refine cr_nx (pc' := 130) (al' := [some (.ref 83), none]) (st' := [.ref 83, .ref 83]) d_26_129 (fun _ => rfl) ?_
                    refine cr_gf (v := .int (nI (rnS t len (skp t len q)))) d_26_130 cw_26 cf_4_29 (hS.i (a := 83) (by decide) (by decide)) (hS.s (a := 83) (by decide) (by decide) rfl) (by decide) (by simp [up2]) ?_
                    refine cn_ic (v := 1) d_26_133 (by decide) ?_
                    refine cn_add d_26_134  ?_
                    refine cp_4_3  d_26_135 cw_26 cf_4_29 (hS.i (a := 83) (by decide) (by decide)) (hS.s (a := 83) (by decide) (by decide) rfl) (by decide) ?_
                    refine cr_G up2_u ?_
                    refine cr_G (show (up2 (up2 G 83 2 (.int (nI (skp t len q)))) 83 3 (.int (nI ((rnS t len (skp t len q)) + 1)))) = up2 (up2 G 83 2 (.int (nI (skp t len q)))) 83 3 (.int (nI (enC t len (skp t len q)))) by rw [enC_1 (by omega) (by omega), show rnS t len (skp t len q) = skp t len q by omega]) ?_
                    exact k_goOn138 hS hR hq hql
              · exact absurd (rn4 (by omega)) (by rw [show isS (t (rnS t len (skp t len q))) = true from decide_eq_true (by omega)]; decide)
      · exact absurd c30 (sk4 (by omega))
theorem k_emit {S : CS} {G : Nat → Nat → Value} {B : Nat → Nat → Int32} {J : Nat → Nat → Int64} {R : Nat → Nat → Option Nat} (hS : ShOk S) {l u k : Nat} (h5 : G 83 5 = .ref 85) (h6 : G 83 6 = .int (nI l)) (h8 : G 83 8 = .int (nI u)) (hl : l < 64) (hk : k < 8) : CR 0 32 0 [some (.ref 83), some (.int (nI k))] [] S G B J R (cP none S (up2 (up2 G 83 6 (.int (nI (l + 1)))) 83 8 (.int (nI (u ||| (1 * 2 ^ k))))) (upr B 85 (upd (B 85) l (nI k))) J R) := by
  refine cr_nx (pc' := 1) (al' := [some (.ref 83), some (.int (nI k))]) (st' := [.ref 83]) d_32_0 (fun _ => rfl) ?_
  refine cr_gf (v := .int (nI l)) d_32_1 cw_32 cf_4_32 (hS.i (a := 83) (by decide) (by decide)) (hS.s (a := 83) (by decide) (by decide) rfl) (by decide) h6 ?_
  refine cr_nx (pc' := 5) (al' := [some (.ref 83), some (.int (nI k))]) (st' := [.ref 83, .int (nI l)]) d_32_4 (fun _ => rfl) ?_
  refine cr_gf (v := .ref 85) d_32_5 cw_32 cf_4_13 (hS.i (a := 83) (by decide) (by decide)) (hS.s (a := 83) (by decide) (by decide) rfl) (by decide) h5 ?_
  refine cr_le d_32_8 (hS.i (a := 85) (by decide) (by decide)) (by decide) (by decide) (hS.s (a := 85) (by decide) (by decide) rfl) ?_
  refine cn_cge (t := 44) d_32_9 (by decide) (by first | omega | assumption | exact cu_36 (by omega) (cu_lt (by omega) (by omega))) (by first | omega | assumption | exact cu_36 (by omega) (cu_lt (by omega) (by omega))) (fun c9 => ?_) (fun c9 => ?_)
  · omega
  · refine cr_nx (pc' := 13) (al' := [some (.ref 83), some (.int (nI k))]) (st' := [.ref 83]) d_32_12 (fun _ => rfl) ?_
    refine cr_gf (v := .ref 85) d_32_13 cw_32 cf_4_13 (hS.i (a := 83) (by decide) (by decide)) (hS.s (a := 83) (by decide) (by decide) rfl) (by decide) h5 ?_
    refine cr_nx (pc' := 17) (al' := [some (.ref 83), some (.int (nI k))]) (st' := [.ref 83, .ref 85]) d_32_16 (fun _ => rfl) ?_
    refine cr_gf (v := .int (nI l)) d_32_17 cw_32 cf_4_32 (hS.i (a := 83) (by decide) (by decide)) (hS.s (a := 83) (by decide) (by decide) rfl) (by decide) h6 ?_
    refine cr_nx (pc' := 21) (al' := [some (.ref 83), some (.int (nI k))]) (st' := [.int (nI k), .int (nI l), .ref 85]) d_32_20 (fun _ => rfl) ?_
    refine cr_iS (a := 85) (B1 := (upr B 85 (upd (B 85) l (nI k)))) d_32_21 (hS.i (a := 85) (by decide) (by decide)) (hS.s (a := 85) (by decide) (by decide) rfl) (by first | decide | omega) (show l < 64 by first | omega | assumption | exact cu_36 (by omega) (cu_lt (by omega) (by omega))) rfl ?_
    refine cr_nx (pc' := 23) (al' := [some (.ref 83), some (.int (nI k))]) (st' := [.ref 83]) d_32_22 (fun _ => rfl) ?_
    refine cr_nx (pc' := 24) (al' := [some (.ref 83), some (.int (nI k))]) (st' := [.ref 83, .ref 83]) d_32_23 (fun _ => rfl) ?_
    refine cr_gf (v := .int (nI l)) d_32_24 cw_32 cf_4_32 (hS.i (a := 83) (by decide) (by decide)) (hS.s (a := 83) (by decide) (by decide) rfl) (by decide) h6 ?_
    refine cn_ic (v := 1) d_32_27 (by decide) ?_
    refine cn_add d_32_28  ?_
    refine cp_4_6  d_32_29 cw_32 cf_4_32 (hS.i (a := 83) (by decide) (by decide)) (hS.s (a := 83) (by decide) (by decide) rfl) (by decide) ?_
    refine cr_nx (pc' := 33) (al' := [some (.ref 83), some (.int (nI k))]) (st' := [.ref 83]) d_32_32 (fun _ => rfl) ?_
    refine cr_nx (pc' := 34) (al' := [some (.ref 83), some (.int (nI k))]) (st' := [.ref 83, .ref 83]) d_32_33 (fun _ => rfl) ?_
    refine cr_gf (v := .int (nI u)) d_32_34 cw_32 cf_4_38 (hS.i (a := 83) (by decide) (by decide)) (hS.s (a := 83) (by decide) (by decide) rfl) (by decide) (by simp [up2]; exact h8) ?_
    refine cn_ic (v := 1) d_32_37 (by decide) ?_
    refine cr_nx (pc' := 39) (al' := [some (.ref 83), some (.int (nI k))]) (st' := [.int (nI k), .int (nI 1), .int (nI u), .ref 83]) d_32_38 (fun _ => rfl) ?_
    refine cn_shl d_32_39 (by first | omega | assumption | exact cu_36 (by omega) (cu_lt (by omega) (by omega))) ?_
    refine cn_or d_32_40 ?_
    refine cp_4_8  d_32_41 cw_32 cf_4_38 (hS.i (a := 83) (by decide) (by decide)) (hS.s (a := 83) (by decide) (by decide) rfl) (by decide) ?_
    exact cr_rv d_32_44 cx_32 ⟨rfl, rfl, rfl, rfl, rfl, rfl⟩
