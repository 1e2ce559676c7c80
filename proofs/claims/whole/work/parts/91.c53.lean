/-! The reference is made; printed by wip/whole/gen_c53.py. -/
theorem ow_177 : am_o 177 = 12 := by decide +kernel
theorem in_177 : (am_y 177).name = "<init>" := by decide +kernel
def TN (pc : Nat) (st fs : List Value) (ts : List AC) (Q : List Value → List AC → Prop) : Prop := ∀ h : AH, h.length = 146 → RN 0 177 pc [some (.ref 146)] st (h ++ (.inr (12, fs) :: ts)) (fun r h' => r = none ∧ ∃ fs' ts', h' = h ++ (.inr (12, fs') :: ts') ∧ Q fs' ts')
section TN
variable {pc pc' len n k j : Nat} {st st' r fs : List Value} {ts : List AC} {Q : List Value → List AC → Prop} {i : Instr}
theorem tn_nx (hd : decode (am_b 177) pc = .ok (i, len)) (hs : ∀ h, am_ins 177 i len pc [some (.ref 146)] st h = some (.inl (pc', [some (.ref 146)], st', h))) (kk : TN pc' st' fs ts Q) : TN pc st fs ts Q := fun h hl => rn_nx hd (hs _) (kk h hl)
theorem tn_oi {x a : Nat} (hd : decode (am_b 177) pc = .ok (.invokespecial x, 3)) (hl : am_ml 12 x = some (6, 0)) (h8 : am_ok8 r = true) (kk : TN (pc + 3) r fs ts Q) : TN pc (.ref a :: r) fs ts Q := fun h hl2 => by
  refine rn_nx hd ?_ (kk h hl2)
  show (if 3 = 3 then am_vi (am_o 177) x pc _ (.ref a :: r) _ else none) = _
  rw [if_pos rfl, ow_177]
  simp only [am_vi, hl, Option.bind_some, if_true, h8]
  rfl
theorem tn_pf {x : Nat} {v : Value} (hd : decode (am_b 177) pc = .ok (.putfield x, 3)) (hl : am_fl 12 x = some (12, j)) (hj : j < fs.length) (hn : narrow (am_ty 12 j) v = v) (hf : fits (am_ty 12 j) v = true) (kk : TN (pc + 3) r (fs.set j v) ts Q) : TN pc (v :: .ref 146 :: r) fs ts Q := fun h hl2 => by
  have e : (h ++ (.inr (12, fs) :: ts) : AH)[146]? = some (.inr (12, fs)) := by
    rw [List.getElem?_append_right (by omega), hl2]
    rfl
  have e2 : (h ++ (.inr (12, fs) :: ts) : AH).set 146 (.inr (12, fs.set j v)) = h ++ (.inr (12, fs.set j v) :: ts) := by
    rw [List.set_append_right _ _ (by omega), hl2]
    rfl
  refine rn_nx (h' := h ++ (.inr (12, fs.set j v) :: ts)) hd ?_ (kk h hl2)
  show (if 3 = 3 then am_pf 177 (am_o 177) x pc _ (v :: .ref 146 :: r) _ else none) = _
  rw [if_pos rfl, ow_177]
  simp only [am_pf, hl, Option.bind_some, e]
  rw [if_pos ⟨by decide, trivial, hj, hn, hf, Or.inr ⟨in_177, trivial⟩⟩, e2]
  rfl
theorem tn_na (hd : decode (am_b 177) pc = .ok (.newarray .int, 2)) (hn : n ≤ 100000) (hk : ts.length = k) (kk : TN (pc + 2) (.ref (147 + k) :: r) fs (ts ++ [.inl (0, n, .inl (fun _ => 0))]) Q) : TN pc (.int (nI n) :: r) fs ts Q := fun h hl2 => by
  have c1 : (nI n).toNatClampNeg = n := nI_clamp (by omega)
  have hlen : (h ++ (.inr (12, fs) :: ts) : AH).length = 147 + k := by rw [List.length_append, List.length_cons]; omega
  refine rn_nx (h' := h ++ (.inr (12, fs) :: (ts ++ [.inl (0, n, .inl (fun _ => 0))]))) hd ?_ (kk h hl2)
  show (if 2 = 2 then am_na .int pc _ (.int (nI n) :: r) _ else none) = _
  rw [if_pos rfl]
  simp only [am_na]
  rw [if_neg (by rw [c1]; exact fun q => q.elim (nI_pos (by omega)) (by omega)), c1, hlen, List.append_assoc, List.cons_append]
  rfl
theorem tn_nb (hd : decode (am_b 177) pc = .ok (.newarray .byte, 2)) (hn : n ≤ 100000) (hk : ts.length = k) (kk : TN (pc + 2) (.ref (147 + k) :: r) fs (ts ++ [.inl (1, n, .inl (fun _ => 0))]) Q) : TN pc (.int (nI n) :: r) fs ts Q := fun h hl2 => by
  have c1 : (nI n).toNatClampNeg = n := nI_clamp (by omega)
  have hlen : (h ++ (.inr (12, fs) :: ts) : AH).length = 147 + k := by rw [List.length_append, List.length_cons]; omega
  refine rn_nx (h' := h ++ (.inr (12, fs) :: (ts ++ [.inl (1, n, .inl (fun _ => 0))]))) hd ?_ (kk h hl2)
  show (if 2 = 2 then am_na .byte pc _ (.int (nI n) :: r) _ else none) = _
  rw [if_pos rfl]
  simp only [am_na]
  rw [if_neg (by rw [c1]; exact fun q => q.elim (nI_pos (by omega)) (by omega)), c1, hlen, List.append_assoc, List.cons_append]
  rfl
theorem tn_nz (hd : decode (am_b 177) pc = .ok (.newarray .boolean, 2)) (hn : n ≤ 100000) (hk : ts.length = k) (kk : TN (pc + 2) (.ref (147 + k) :: r) fs (ts ++ [.inl (2, n, .inl (fun _ => 0))]) Q) : TN pc (.int (nI n) :: r) fs ts Q := fun h hl2 => by
  have c1 : (nI n).toNatClampNeg = n := nI_clamp (by omega)
  have hlen : (h ++ (.inr (12, fs) :: ts) : AH).length = 147 + k := by rw [List.length_append, List.length_cons]; omega
  refine rn_nx (h' := h ++ (.inr (12, fs) :: (ts ++ [.inl (2, n, .inl (fun _ => 0))]))) hd ?_ (kk h hl2)
  show (if 2 = 2 then am_na .boolean pc _ (.int (nI n) :: r) _ else none) = _
  rw [if_pos rfl]
  simp only [am_na]
  rw [if_neg (by rw [c1]; exact fun q => q.elim (nI_pos (by omega)) (by omega)), c1, hlen, List.append_assoc, List.cons_append]
  rfl
theorem tn_bS {v : Int32} {f : Nat → Int32} {ts0 : List AC} {a q : Nat} (hd : decode (am_b 177) pc = .ok (.bastore, 1)) (hk : ts0.length = k) (ha : a = 147 + k) (hq : q < n) (hn : n ≤ 100000) (kk : TN (pc + 1) r fs (ts0 ++ [.inl (1, n, .inl (upd f q (vp_nar .byte v)))]) Q) : TN pc (.int v :: .int (nI q) :: .ref a :: r) fs (ts0 ++ [.inl (1, n, .inl f)]) Q := fun h hl2 => by
  subst ha
  have e : (h ++ (.inr (12, fs) :: (ts0 ++ [.inl (1, n, .inl f)])) : AH)[147 + k]? = some (.inl (1, n, .inl f)) := by
    rw [List.getElem?_append_right (by omega), hl2, show 147 + k - 146 = k + 1 by omega, List.getElem?_cons_succ, List.getElem?_append_right (by omega), hk, Nat.sub_self]
    rfl
  have e2 : (h ++ (.inr (12, fs) :: (ts0 ++ [.inl (1, n, .inl f)])) : AH).set (147 + k) (.inl (1, n, .inl (upd f q (vp_nar .byte v)))) = h ++ (.inr (12, fs) :: (ts0 ++ [.inl (1, n, .inl (upd f q (vp_nar .byte v)))])) := by
    rw [List.set_append_right _ _ (by omega), hl2, show 147 + k - 146 = k + 1 by omega, List.set_cons_succ, List.set_append_right _ _ (by omega), hk, Nat.sub_self]
    rfl
  refine rn_nx (h' := h ++ (.inr (12, fs) :: (ts0 ++ [.inl (1, n, .inl (upd f q (vp_nar .byte v)))]))) hd ?_ (kk h hl2)
  show (if 1 = 1 then am_bS pc _ (.int v :: .int (nI q) :: .ref (147 + k) :: r) _ else none) = _
  rw [if_pos rfl]
  simp only [am_bS, e]
  rw [if_pos ⟨Nat.le_trans (show 2 ≤ 147 by decide) (Nat.le_add_right _ _), am_in_n hq hn⟩, nI_clamp (by omega), e2]
  rfl
theorem tn_rv (hd : decode (am_b 177) pc = .ok (.return_, 1)) (q : Q fs ts) : TN pc [] fs ts Q := fun h hl2 => rn_rt (r := none) hd rfl ⟨rfl, fs, ts, rfl, q⟩
end TN
theorem lm_12_3 : am_ml 12 3 = some (6, 0) := by decide +kernel
theorem ref_run {fs : List Value} {Q : List Value → List AC → Prop} (h58 : fs.length = 58) (hQ : Q (((((((((((((((((((((((((((((fs.set 2 (.ref (147 + 0))).set 3 (.ref (147 + 1))).set 4 (.ref (147 + 2))).set 5 (.ref (147 + 3))).set 7 (.ref (147 + 4))).set 9 (.ref (147 + 5))).set 10 (.ref (147 + 6))).set 11 (.ref (147 + 7))).set 12 (.ref (147 + 8))).set 14 (.int (-1))).set 15 (.ref (147 + 9))).set 16 (.ref (147 + 10))).set 17 (.ref (147 + 11))).set 23 (.ref (147 + 12))).set 30 (.ref (147 + 13))).set 31 (.ref (147 + 14))).set 32 (.ref (147 + 15))).set 33 (.ref (147 + 16))).set 34 (.ref (147 + 17))).set 35 (.ref (147 + 18))).set 36 (.ref (147 + 19))).set 37 (.ref (147 + 20))).set 39 (.ref (147 + 21))).set 41 (.ref (147 + 22))).set 42 (.ref (147 + 23))).set 43 (.ref (147 + 24))).set 49 (.ref (147 + 25))).set 50 (.int (-1))).set 55 (.ref (147 + 26))) (((((((((((((((((((((((((((([] : List AC) ++ [.inl (0, 7, .inl (fun _ => 0))]) ++ [.inl (0, 5720, .inl (fun _ => 0))]) ++ [.inl (0, 11440, .inl (fun _ => 0))]) ++ [.inl (2, 2, .inl (fun _ => 0))]) ++ [.inl (0, 36, .inl (fun _ => 0))]) ++ [.inl (0, 36, .inl (fun _ => 0))]) ++ [.inl (1, 11, .inl (upd (upd (upd (upd (upd (upd (upd (upd (upd (upd (upd (fun _ => 0) 0 (vp_nar .byte (nI 120))) 1 (vp_nar .byte (nI 32))) 2 (vp_nar .byte (nI 121))) 3 (vp_nar .byte (nI 32))) 4 (vp_nar .byte (nI 122))) 5 (vp_nar .byte (nI 32))) 6 (vp_nar .byte (nI 101))) 7 (vp_nar .byte (nI 32))) 8 (vp_nar .byte (nI 105))) 9 (vp_nar .byte (nI 102))) 10 (vp_nar .byte (nI 32))))]) ++ [.inl (1, 400, .inl (fun _ => 0))]) ++ [.inl (0, 5, .inl (fun _ => 0))]) ++ [.inl (0, 401, .inl (fun _ => 0))]) ++ [.inl (0, 401, .inl (fun _ => 0))]) ++ [.inl (0, 401, .inl (fun _ => 0))]) ++ [.inl (0, 5, .inl (fun _ => 0))]) ++ [.inl (0, 6, .inl (fun _ => 0))]) ++ [.inl (0, 6, .inl (fun _ => 0))]) ++ [.inl (2, 720, .inl (fun _ => 0))]) ++ [.inl (0, 720, .inl (fun _ => 0))]) ++ [.inl (0, 6, .inl (fun _ => 0))]) ++ [.inl (0, 6, .inl (fun _ => 0))]) ++ [.inl (0, 36, .inl (fun _ => 0))]) ++ [.inl (0, 36, .inl (fun _ => 0))]) ++ [.inl (0, 720, .inl (fun _ => 0))]) ++ [.inl (0, 6, .inl (fun _ => 0))]) ++ [.inl (0, 6, .inl (fun _ => 0))]) ++ [.inl (0, 6, .inl (fun _ => 0))]) ++ [.inl (0, 36, .inl (fun _ => 0))]) ++ [.inl (0, 36, .inl (fun _ => 0))])) : TN 0 [] fs [] Q := by
  refine tn_nx (pc' := 1) (st' := [.ref 146]) d_177_0 (fun _ => rfl) ?_
  refine tn_oi d_177_1 lm_12_3 rfl ?_
  refine tn_nx (pc' := 5) (st' := [.ref 146]) d_177_4 (fun _ => rfl) ?_
  refine tn_nx (pc' := 7) (st' := [.int (nI 7), .ref 146]) d_177_5 (fun _ => rfl) ?_
  refine tn_na (k := 0) d_177_7 (by decide) rfl ?_
  refine tn_pf (j := 2) d_177_9 fl_9 (by first | (rw [h58]; decide) | (simp only [List.length_set]; rw [h58]; decide)) rfl rfl ?_
  refine tn_nx (pc' := 13) (st' := [.ref 146]) d_177_12 (fun _ => rfl) ?_
  refine tn_nx (pc' := 16) (st' := [.int (nI 5720), .ref 146]) d_177_13 (fun _ => rfl) ?_
  refine tn_na (k := 1) d_177_16 (by decide) rfl ?_
  refine tn_pf (j := 3) d_177_18 fl_13 (by first | (rw [h58]; decide) | (simp only [List.length_set]; rw [h58]; decide)) rfl rfl ?_
  refine tn_nx (pc' := 22) (st' := [.ref 146]) d_177_21 (fun _ => rfl) ?_
  refine tn_nx (pc' := 25) (st' := [.int (nI 11440), .ref 146]) d_177_22 (fun _ => rfl) ?_
  refine tn_na (k := 2) d_177_25 (by decide) rfl ?_
  refine tn_pf (j := 4) d_177_27 fl_16 (by first | (rw [h58]; decide) | (simp only [List.length_set]; rw [h58]; decide)) rfl rfl ?_
  refine tn_nx (pc' := 31) (st' := [.ref 146]) d_177_30 (fun _ => rfl) ?_
  refine tn_nx (pc' := 32) (st' := [.int (nI 2), .ref 146]) d_177_31 (fun _ => rfl) ?_
  refine tn_nz (k := 3) d_177_32 (by decide) rfl ?_
  refine tn_pf (j := 5) d_177_34 fl_19 (by first | (rw [h58]; decide) | (simp only [List.length_set]; rw [h58]; decide)) rfl rfl ?_
  refine tn_nx (pc' := 38) (st' := [.ref 146]) d_177_37 (fun _ => rfl) ?_
  refine tn_nx (pc' := 40) (st' := [.int (nI 36), .ref 146]) d_177_38 (fun _ => rfl) ?_
  refine tn_na (k := 4) d_177_40 (by decide) rfl ?_
  refine tn_pf (j := 7) d_177_42 fl_23 (by first | (rw [h58]; decide) | (simp only [List.length_set]; rw [h58]; decide)) rfl rfl ?_
  refine tn_nx (pc' := 46) (st' := [.ref 146]) d_177_45 (fun _ => rfl) ?_
  refine tn_nx (pc' := 48) (st' := [.int (nI 36), .ref 146]) d_177_46 (fun _ => rfl) ?_
  refine tn_na (k := 5) d_177_48 (by decide) rfl ?_
  refine tn_pf (j := 9) d_177_50 fl_26 (by first | (rw [h58]; decide) | (simp only [List.length_set]; rw [h58]; decide)) rfl rfl ?_
  refine tn_nx (pc' := 54) (st' := [.ref 146]) d_177_53 (fun _ => rfl) ?_
  refine tn_nx (pc' := 56) (st' := [.int (nI 11), .ref 146]) d_177_54 (fun _ => rfl) ?_
  refine tn_nb (k := 6) d_177_56 (by decide) rfl ?_
  refine tn_nx (pc' := 59) (st' := [.ref (147 + 6), .ref (147 + 6), .ref 146]) d_177_58 (fun _ => rfl) ?_
  refine tn_nx (pc' := 60) (st' := [.int (nI 0), .ref (147 + 6), .ref (147 + 6), .ref 146]) d_177_59 (fun _ => rfl) ?_
  refine tn_nx (pc' := 62) (st' := [.int (nI 120), .int (nI 0), .ref (147 + 6), .ref (147 + 6), .ref 146]) d_177_60 (fun _ => rfl) ?_
  refine tn_bS (k := 6) d_177_62 rfl rfl (by decide) (by decide) ?_
  refine tn_nx (pc' := 64) (st' := [.ref (147 + 6), .ref (147 + 6), .ref 146]) d_177_63 (fun _ => rfl) ?_
  refine tn_nx (pc' := 65) (st' := [.int (nI 1), .ref (147 + 6), .ref (147 + 6), .ref 146]) d_177_64 (fun _ => rfl) ?_
  refine tn_nx (pc' := 67) (st' := [.int (nI 32), .int (nI 1), .ref (147 + 6), .ref (147 + 6), .ref 146]) d_177_65 (fun _ => rfl) ?_
  refine tn_bS (k := 6) d_177_67 rfl rfl (by decide) (by decide) ?_
  refine tn_nx (pc' := 69) (st' := [.ref (147 + 6), .ref (147 + 6), .ref 146]) d_177_68 (fun _ => rfl) ?_
  refine tn_nx (pc' := 70) (st' := [.int (nI 2), .ref (147 + 6), .ref (147 + 6), .ref 146]) d_177_69 (fun _ => rfl) ?_
  refine tn_nx (pc' := 72) (st' := [.int (nI 121), .int (nI 2), .ref (147 + 6), .ref (147 + 6), .ref 146]) d_177_70 (fun _ => rfl) ?_
  refine tn_bS (k := 6) d_177_72 rfl rfl (by decide) (by decide) ?_
  refine tn_nx (pc' := 74) (st' := [.ref (147 + 6), .ref (147 + 6), .ref 146]) d_177_73 (fun _ => rfl) ?_
  refine tn_nx (pc' := 75) (st' := [.int (nI 3), .ref (147 + 6), .ref (147 + 6), .ref 146]) d_177_74 (fun _ => rfl) ?_
  refine tn_nx (pc' := 77) (st' := [.int (nI 32), .int (nI 3), .ref (147 + 6), .ref (147 + 6), .ref 146]) d_177_75 (fun _ => rfl) ?_
  refine tn_bS (k := 6) d_177_77 rfl rfl (by decide) (by decide) ?_
  refine tn_nx (pc' := 79) (st' := [.ref (147 + 6), .ref (147 + 6), .ref 146]) d_177_78 (fun _ => rfl) ?_
  refine tn_nx (pc' := 80) (st' := [.int (nI 4), .ref (147 + 6), .ref (147 + 6), .ref 146]) d_177_79 (fun _ => rfl) ?_
  refine tn_nx (pc' := 82) (st' := [.int (nI 122), .int (nI 4), .ref (147 + 6), .ref (147 + 6), .ref 146]) d_177_80 (fun _ => rfl) ?_
  refine tn_bS (k := 6) d_177_82 rfl rfl (by decide) (by decide) ?_
  refine tn_nx (pc' := 84) (st' := [.ref (147 + 6), .ref (147 + 6), .ref 146]) d_177_83 (fun _ => rfl) ?_
  refine tn_nx (pc' := 85) (st' := [.int (nI 5), .ref (147 + 6), .ref (147 + 6), .ref 146]) d_177_84 (fun _ => rfl) ?_
  refine tn_nx (pc' := 87) (st' := [.int (nI 32), .int (nI 5), .ref (147 + 6), .ref (147 + 6), .ref 146]) d_177_85 (fun _ => rfl) ?_
  refine tn_bS (k := 6) d_177_87 rfl rfl (by decide) (by decide) ?_
  refine tn_nx (pc' := 89) (st' := [.ref (147 + 6), .ref (147 + 6), .ref 146]) d_177_88 (fun _ => rfl) ?_
  refine tn_nx (pc' := 91) (st' := [.int (nI 6), .ref (147 + 6), .ref (147 + 6), .ref 146]) d_177_89 (fun _ => rfl) ?_
  refine tn_nx (pc' := 93) (st' := [.int (nI 101), .int (nI 6), .ref (147 + 6), .ref (147 + 6), .ref 146]) d_177_91 (fun _ => rfl) ?_
  refine tn_bS (k := 6) d_177_93 rfl rfl (by decide) (by decide) ?_
  refine tn_nx (pc' := 95) (st' := [.ref (147 + 6), .ref (147 + 6), .ref 146]) d_177_94 (fun _ => rfl) ?_
  refine tn_nx (pc' := 97) (st' := [.int (nI 7), .ref (147 + 6), .ref (147 + 6), .ref 146]) d_177_95 (fun _ => rfl) ?_
  refine tn_nx (pc' := 99) (st' := [.int (nI 32), .int (nI 7), .ref (147 + 6), .ref (147 + 6), .ref 146]) d_177_97 (fun _ => rfl) ?_
  refine tn_bS (k := 6) d_177_99 rfl rfl (by decide) (by decide) ?_
  refine tn_nx (pc' := 101) (st' := [.ref (147 + 6), .ref (147 + 6), .ref 146]) d_177_100 (fun _ => rfl) ?_
  refine tn_nx (pc' := 103) (st' := [.int (nI 8), .ref (147 + 6), .ref (147 + 6), .ref 146]) d_177_101 (fun _ => rfl) ?_
  refine tn_nx (pc' := 105) (st' := [.int (nI 105), .int (nI 8), .ref (147 + 6), .ref (147 + 6), .ref 146]) d_177_103 (fun _ => rfl) ?_
  refine tn_bS (k := 6) d_177_105 rfl rfl (by decide) (by decide) ?_
  refine tn_nx (pc' := 107) (st' := [.ref (147 + 6), .ref (147 + 6), .ref 146]) d_177_106 (fun _ => rfl) ?_
  refine tn_nx (pc' := 109) (st' := [.int (nI 9), .ref (147 + 6), .ref (147 + 6), .ref 146]) d_177_107 (fun _ => rfl) ?_
  refine tn_nx (pc' := 111) (st' := [.int (nI 102), .int (nI 9), .ref (147 + 6), .ref (147 + 6), .ref 146]) d_177_109 (fun _ => rfl) ?_
  refine tn_bS (k := 6) d_177_111 rfl rfl (by decide) (by decide) ?_
  refine tn_nx (pc' := 113) (st' := [.ref (147 + 6), .ref (147 + 6), .ref 146]) d_177_112 (fun _ => rfl) ?_
  refine tn_nx (pc' := 115) (st' := [.int (nI 10), .ref (147 + 6), .ref (147 + 6), .ref 146]) d_177_113 (fun _ => rfl) ?_
  refine tn_nx (pc' := 117) (st' := [.int (nI 32), .int (nI 10), .ref (147 + 6), .ref (147 + 6), .ref 146]) d_177_115 (fun _ => rfl) ?_
  refine tn_bS (k := 6) d_177_117 rfl rfl (by decide) (by decide) ?_
  refine tn_pf (j := 10) d_177_118 fl_29 (by first | (rw [h58]; decide) | (simp only [List.length_set]; rw [h58]; decide)) rfl rfl ?_
  refine tn_nx (pc' := 122) (st' := [.ref 146]) d_177_121 (fun _ => rfl) ?_
  refine tn_nx (pc' := 125) (st' := [.int (nI 400), .ref 146]) d_177_122 (fun _ => rfl) ?_
  refine tn_nb (k := 7) d_177_125 (by decide) rfl ?_
  refine tn_pf (j := 11) d_177_127 fl_33 (by first | (rw [h58]; decide) | (simp only [List.length_set]; rw [h58]; decide)) rfl rfl ?_
  refine tn_nx (pc' := 131) (st' := [.ref 146]) d_177_130 (fun _ => rfl) ?_
  refine tn_nx (pc' := 132) (st' := [.int (nI 5), .ref 146]) d_177_131 (fun _ => rfl) ?_
  refine tn_na (k := 8) d_177_132 (by decide) rfl ?_
  refine tn_pf (j := 12) d_177_134 fl_36 (by first | (rw [h58]; decide) | (simp only [List.length_set]; rw [h58]; decide)) rfl rfl ?_
  refine tn_nx (pc' := 138) (st' := [.ref 146]) d_177_137 (fun _ => rfl) ?_
  refine tn_nx (pc' := 139) (st' := [.int (-1), .ref 146]) d_177_138 (fun _ => rfl) ?_
  refine tn_pf (j := 14) d_177_139 fl_39 (by first | (rw [h58]; decide) | (simp only [List.length_set]; rw [h58]; decide)) rfl rfl ?_
  refine tn_nx (pc' := 143) (st' := [.ref 146]) d_177_142 (fun _ => rfl) ?_
  refine tn_nx (pc' := 146) (st' := [.int (nI 401), .ref 146]) d_177_143 (fun _ => rfl) ?_
  refine tn_na (k := 9) d_177_146 (by decide) rfl ?_
  refine tn_pf (j := 15) d_177_148 fl_43 (by first | (rw [h58]; decide) | (simp only [List.length_set]; rw [h58]; decide)) rfl rfl ?_
  refine tn_nx (pc' := 152) (st' := [.ref 146]) d_177_151 (fun _ => rfl) ?_
  refine tn_nx (pc' := 155) (st' := [.int (nI 401), .ref 146]) d_177_152 (fun _ => rfl) ?_
  refine tn_na (k := 10) d_177_155 (by decide) rfl ?_
  refine tn_pf (j := 16) d_177_157 fl_46 (by first | (rw [h58]; decide) | (simp only [List.length_set]; rw [h58]; decide)) rfl rfl ?_
  refine tn_nx (pc' := 161) (st' := [.ref 146]) d_177_160 (fun _ => rfl) ?_
  refine tn_nx (pc' := 164) (st' := [.int (nI 401), .ref 146]) d_177_161 (fun _ => rfl) ?_
  refine tn_na (k := 11) d_177_164 (by decide) rfl ?_
  refine tn_pf (j := 17) d_177_166 fl_49 (by first | (rw [h58]; decide) | (simp only [List.length_set]; rw [h58]; decide)) rfl rfl ?_
  refine tn_nx (pc' := 170) (st' := [.ref 146]) d_177_169 (fun _ => rfl) ?_
  refine tn_nx (pc' := 171) (st' := [.int (nI 5), .ref 146]) d_177_170 (fun _ => rfl) ?_
  refine tn_na (k := 12) d_177_171 (by decide) rfl ?_
  refine tn_pf (j := 23) d_177_173 fl_52 (by first | (rw [h58]; decide) | (simp only [List.length_set]; rw [h58]; decide)) rfl rfl ?_
  refine tn_nx (pc' := 177) (st' := [.ref 146]) d_177_176 (fun _ => rfl) ?_
  refine tn_nx (pc' := 179) (st' := [.int (nI 6), .ref 146]) d_177_177 (fun _ => rfl) ?_
  refine tn_na (k := 13) d_177_179 (by decide) rfl ?_
  refine tn_pf (j := 30) d_177_181 fl_55 (by first | (rw [h58]; decide) | (simp only [List.length_set]; rw [h58]; decide)) rfl rfl ?_
  refine tn_nx (pc' := 185) (st' := [.ref 146]) d_177_184 (fun _ => rfl) ?_
  refine tn_nx (pc' := 187) (st' := [.int (nI 6), .ref 146]) d_177_185 (fun _ => rfl) ?_
  refine tn_na (k := 14) d_177_187 (by decide) rfl ?_
  refine tn_pf (j := 31) d_177_189 fl_58 (by first | (rw [h58]; decide) | (simp only [List.length_set]; rw [h58]; decide)) rfl rfl ?_
  refine tn_nx (pc' := 193) (st' := [.ref 146]) d_177_192 (fun _ => rfl) ?_
  refine tn_nx (pc' := 196) (st' := [.int (nI 720), .ref 146]) d_177_193 (fun _ => rfl) ?_
  refine tn_nz (k := 15) d_177_196 (by decide) rfl ?_
  refine tn_pf (j := 32) d_177_198 fl_61 (by first | (rw [h58]; decide) | (simp only [List.length_set]; rw [h58]; decide)) rfl rfl ?_
  refine tn_nx (pc' := 202) (st' := [.ref 146]) d_177_201 (fun _ => rfl) ?_
  refine tn_nx (pc' := 205) (st' := [.int (nI 720), .ref 146]) d_177_202 (fun _ => rfl) ?_
  refine tn_na (k := 16) d_177_205 (by decide) rfl ?_
  refine tn_pf (j := 33) d_177_207 fl_64 (by first | (rw [h58]; decide) | (simp only [List.length_set]; rw [h58]; decide)) rfl rfl ?_
  refine tn_nx (pc' := 211) (st' := [.ref 146]) d_177_210 (fun _ => rfl) ?_
  refine tn_nx (pc' := 213) (st' := [.int (nI 6), .ref 146]) d_177_211 (fun _ => rfl) ?_
  refine tn_na (k := 17) d_177_213 (by decide) rfl ?_
  refine tn_pf (j := 34) d_177_215 fl_67 (by first | (rw [h58]; decide) | (simp only [List.length_set]; rw [h58]; decide)) rfl rfl ?_
  refine tn_nx (pc' := 219) (st' := [.ref 146]) d_177_218 (fun _ => rfl) ?_
  refine tn_nx (pc' := 221) (st' := [.int (nI 6), .ref 146]) d_177_219 (fun _ => rfl) ?_
  refine tn_na (k := 18) d_177_221 (by decide) rfl ?_
  refine tn_pf (j := 35) d_177_223 fl_70 (by first | (rw [h58]; decide) | (simp only [List.length_set]; rw [h58]; decide)) rfl rfl ?_
  refine tn_nx (pc' := 227) (st' := [.ref 146]) d_177_226 (fun _ => rfl) ?_
  refine tn_nx (pc' := 229) (st' := [.int (nI 36), .ref 146]) d_177_227 (fun _ => rfl) ?_
  refine tn_na (k := 19) d_177_229 (by decide) rfl ?_
  refine tn_pf (j := 36) d_177_231 fl_73 (by first | (rw [h58]; decide) | (simp only [List.length_set]; rw [h58]; decide)) rfl rfl ?_
  refine tn_nx (pc' := 235) (st' := [.ref 146]) d_177_234 (fun _ => rfl) ?_
  refine tn_nx (pc' := 237) (st' := [.int (nI 36), .ref 146]) d_177_235 (fun _ => rfl) ?_
  refine tn_na (k := 20) d_177_237 (by decide) rfl ?_
  refine tn_pf (j := 37) d_177_239 fl_76 (by first | (rw [h58]; decide) | (simp only [List.length_set]; rw [h58]; decide)) rfl rfl ?_
  refine tn_nx (pc' := 243) (st' := [.ref 146]) d_177_242 (fun _ => rfl) ?_
  refine tn_nx (pc' := 246) (st' := [.int (nI 720), .ref 146]) d_177_243 (fun _ => rfl) ?_
  refine tn_na (k := 21) d_177_246 (by decide) rfl ?_
  refine tn_pf (j := 39) d_177_248 fl_79 (by first | (rw [h58]; decide) | (simp only [List.length_set]; rw [h58]; decide)) rfl rfl ?_
  refine tn_nx (pc' := 252) (st' := [.ref 146]) d_177_251 (fun _ => rfl) ?_
  refine tn_nx (pc' := 254) (st' := [.int (nI 6), .ref 146]) d_177_252 (fun _ => rfl) ?_
  refine tn_na (k := 22) d_177_254 (by decide) rfl ?_
  refine tn_pf (j := 41) d_177_256 fl_82 (by first | (rw [h58]; decide) | (simp only [List.length_set]; rw [h58]; decide)) rfl rfl ?_
  refine tn_nx (pc' := 260) (st' := [.ref 146]) d_177_259 (fun _ => rfl) ?_
  refine tn_nx (pc' := 262) (st' := [.int (nI 6), .ref 146]) d_177_260 (fun _ => rfl) ?_
  refine tn_na (k := 23) d_177_262 (by decide) rfl ?_
  refine tn_pf (j := 42) d_177_264 fl_85 (by first | (rw [h58]; decide) | (simp only [List.length_set]; rw [h58]; decide)) rfl rfl ?_
  refine tn_nx (pc' := 268) (st' := [.ref 146]) d_177_267 (fun _ => rfl) ?_
  refine tn_nx (pc' := 270) (st' := [.int (nI 6), .ref 146]) d_177_268 (fun _ => rfl) ?_
  refine tn_na (k := 24) d_177_270 (by decide) rfl ?_
  refine tn_pf (j := 43) d_177_272 fl_88 (by first | (rw [h58]; decide) | (simp only [List.length_set]; rw [h58]; decide)) rfl rfl ?_
  refine tn_nx (pc' := 276) (st' := [.ref 146]) d_177_275 (fun _ => rfl) ?_
  refine tn_nx (pc' := 278) (st' := [.int (nI 36), .ref 146]) d_177_276 (fun _ => rfl) ?_
  refine tn_na (k := 25) d_177_278 (by decide) rfl ?_
  refine tn_pf (j := 49) d_177_280 fl_91 (by first | (rw [h58]; decide) | (simp only [List.length_set]; rw [h58]; decide)) rfl rfl ?_
  refine tn_nx (pc' := 284) (st' := [.ref 146]) d_177_283 (fun _ => rfl) ?_
  refine tn_nx (pc' := 285) (st' := [.int (-1), .ref 146]) d_177_284 (fun _ => rfl) ?_
  refine tn_pf (j := 50) d_177_285 fl_94 (by first | (rw [h58]; decide) | (simp only [List.length_set]; rw [h58]; decide)) rfl rfl ?_
  refine tn_nx (pc' := 289) (st' := [.ref 146]) d_177_288 (fun _ => rfl) ?_
  refine tn_nx (pc' := 291) (st' := [.int (nI 36), .ref 146]) d_177_289 (fun _ => rfl) ?_
  refine tn_na (k := 26) d_177_291 (by decide) rfl ?_
  refine tn_pf (j := 55) d_177_293 fl_97 (by first | (rw [h58]; decide) | (simp only [List.length_set]; rw [h58]; decide)) rfl rfl ?_
  exact tn_rv d_177_296 hQ
def g00 : Nat → Int32 := fun k => if k = 14 ∨ k = 50 then -1 else 0
def wd0 : Nat → Int32 := upd (upd (upd (upd (upd (upd (upd (upd (upd (upd (upd (fun _ => 0) 0 (vp_nar .byte (nI 120))) 1 (vp_nar .byte (nI 32))) 2 (vp_nar .byte (nI 121))) 3 (vp_nar .byte (nI 32))) 4 (vp_nar .byte (nI 122))) 5 (vp_nar .byte (nI 32))) 6 (vp_nar .byte (nI 101))) 7 (vp_nar .byte (nI 32))) 8 (vp_nar .byte (nI 105))) 9 (vp_nar .byte (nI 102))) 10 (vp_nar .byte (nI 32))
def A00 : Nat → Nat → Int32 := fun j => if j = 6 then wd0 else fun _ => 0
theorem fs_00 : ((((((((((((((((((((((((((((((am_df 12).set 2 (.ref (147 + 0))).set 3 (.ref (147 + 1))).set 4 (.ref (147 + 2))).set 5 (.ref (147 + 3))).set 7 (.ref (147 + 4))).set 9 (.ref (147 + 5))).set 10 (.ref (147 + 6))).set 11 (.ref (147 + 7))).set 12 (.ref (147 + 8))).set 14 (.int (-1))).set 15 (.ref (147 + 9))).set 16 (.ref (147 + 10))).set 17 (.ref (147 + 11))).set 23 (.ref (147 + 12))).set 30 (.ref (147 + 13))).set 31 (.ref (147 + 14))).set 32 (.ref (147 + 15))).set 33 (.ref (147 + 16))).set 34 (.ref (147 + 17))).set 35 (.ref (147 + 18))).set 36 (.ref (147 + 19))).set 37 (.ref (147 + 20))).set 39 (.ref (147 + 21))).set 41 (.ref (147 + 22))).set 42 (.ref (147 + 23))).set 43 (.ref (147 + 24))).set 49 (.ref (147 + 25))).set 50 (.int (-1))).set 55 (.ref (147 + 26))) = rf_M g00 := by decide +kernel
theorem ts_00 : (((((((((((((((((((((((((((([] : List AC) ++ [.inl (0, 7, .inl (fun _ => 0))]) ++ [.inl (0, 5720, .inl (fun _ => 0))]) ++ [.inl (0, 11440, .inl (fun _ => 0))]) ++ [.inl (2, 2, .inl (fun _ => 0))]) ++ [.inl (0, 36, .inl (fun _ => 0))]) ++ [.inl (0, 36, .inl (fun _ => 0))]) ++ [.inl (1, 11, .inl (upd (upd (upd (upd (upd (upd (upd (upd (upd (upd (upd (fun _ => 0) 0 (vp_nar .byte (nI 120))) 1 (vp_nar .byte (nI 32))) 2 (vp_nar .byte (nI 121))) 3 (vp_nar .byte (nI 32))) 4 (vp_nar .byte (nI 122))) 5 (vp_nar .byte (nI 32))) 6 (vp_nar .byte (nI 101))) 7 (vp_nar .byte (nI 32))) 8 (vp_nar .byte (nI 105))) 9 (vp_nar .byte (nI 102))) 10 (vp_nar .byte (nI 32))))]) ++ [.inl (1, 400, .inl (fun _ => 0))]) ++ [.inl (0, 5, .inl (fun _ => 0))]) ++ [.inl (0, 401, .inl (fun _ => 0))]) ++ [.inl (0, 401, .inl (fun _ => 0))]) ++ [.inl (0, 401, .inl (fun _ => 0))]) ++ [.inl (0, 5, .inl (fun _ => 0))]) ++ [.inl (0, 6, .inl (fun _ => 0))]) ++ [.inl (0, 6, .inl (fun _ => 0))]) ++ [.inl (2, 720, .inl (fun _ => 0))]) ++ [.inl (0, 720, .inl (fun _ => 0))]) ++ [.inl (0, 6, .inl (fun _ => 0))]) ++ [.inl (0, 6, .inl (fun _ => 0))]) ++ [.inl (0, 36, .inl (fun _ => 0))]) ++ [.inl (0, 36, .inl (fun _ => 0))]) ++ [.inl (0, 720, .inl (fun _ => 0))]) ++ [.inl (0, 6, .inl (fun _ => 0))]) ++ [.inl (0, 6, .inl (fun _ => 0))]) ++ [.inl (0, 6, .inl (fun _ => 0))]) ++ [.inl (0, 36, .inl (fun _ => 0))]) ++ [.inl (0, 36, .inl (fun _ => 0))]) = (List.range 27).map (rf_c A00) := rfl
theorem df_58 : (am_df 12).length = 58 := by decide +kernel
theorem wd_00 : ∀ i, i < 11 → wd0 i = wrd i := by decide +kernel
theorem ref_init {h : AH} (hl : h.length = 146) : RN 0 177 0 [some (.ref 146)] [] (h ++ [.inr (12, am_df 12)]) (fun r h' => r = none ∧ h' = h ++ (.inr (12, rf_M g00) :: (List.range 27).map (rf_c A00))) := by
  have := ref_run (Q := fun fs ts => fs = rf_M g00 ∧ ts = (List.range 27).map (rf_c A00)) df_58 ⟨fs_00, ts_00⟩ h hl
  refine rn_cq this (fun r h' hx => ?_)
  obtain ⟨e1, fs, ts, e2, e3, e4⟩ := hx
  subst e3
  subst e4
  exact ⟨e1, e2⟩
