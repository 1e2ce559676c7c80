/-! The class is made; printed by wip/whole/gen_c51.py. -/
theorem cs_pl {X : CS} {s : Nat × Nat} {b : Nat} (h : b < X.1) : (cs_pu X s).2 b = X.2 b := upr_n (by omega)
theorem cs_pe {X : CS} {s : Nat × Nat} {b : Nat} (h : X.1 = b) : (cs_pu X s).2 b = s := by rw [← h]; exact upr_s
def MI (N : Nat) (F : Nat → Value) (S : CS) (G : Nat → Nat → Value) (B : Nat → Nat → Int32) (R : Nat → Nat → Option Nat) : Prop := S.1 = N ∧ (∀ a, 2 ≤ a → a < N → S.2 a = cs_tab.getD (a - 2) (0, 0)) ∧ (∀ e ∈ fxl, 3 ≤ e.1 → e.1 < N → G e.1 e.2.1 = .ref e.2.2) ∧ (∀ k, G 2 k = F k) ∧ (CoC S G B R 3 K00 ∧ StX S G R 3) ∧ (82 ≤ N → ∀ k, R 81 k = none) ∧ (90 ≤ N → G 88 0 = .int (nI 0)) ∧ (122 ≤ N → G 111 1 = .int (-1)) ∧ (133 ≤ N → G 122 1 = .int (-1)) ∧ (146 ≤ N → ∀ e, B 145 e = nI 0)
theorem MI.st {N N' : Nat} {F : Nat → Value} {S S' : CS} {G G' : Nat → Nat → Value} {B B' : Nat → Nat → Int32} {R R' : Nat → Nat → Option Nat} (h : MI N F S G B R) (hN : 81 ≤ N) (hNN : N ≤ N') (hM : N' ≤ 146) (e1 : S'.1 = N') (hs : ∀ b, b < N → S'.2 b = S.2 b) (hf : ∀ b, b < N → G' b = G b ∧ B' b = B b ∧ R' b = R b) (hn : ∀ a, N ≤ a → a < N' → S'.2 a = cs_tab.getD (a - 2) (0, 0)) (hx : ∀ e ∈ fxl, N ≤ e.1 → e.1 < N' → G' e.1 e.2.1 = .ref e.2.2) (s1 : N < 82 → 82 ≤ N' → ∀ k, R' 81 k = none) (s2 : N < 90 → 90 ≤ N' → G' 88 0 = .int (nI 0)) (s3 : N < 122 → 122 ≤ N' → G' 111 1 = .int (-1)) (s4 : N < 133 → 133 ≤ N' → G' 122 1 = .int (-1)) (s5 : N < 146 → 146 ≤ N' → ∀ e, B' 145 e = nI 0) : MI N' F S' G' B' R' := by
  obtain ⟨h1, h2, h3, h4, ⟨h5, h6⟩, h7, h8, h9, h10, h11⟩ := h
  have hcs : ∀ a, cs_in S.1 a → cs_in S'.1 a ∧ S'.2 a = S.2 a := fun a ha => ⟨⟨ha.1, ha.2.1, by have := ha.2.2; omega⟩, hs a (by have := ha.2.2; omega)⟩
  refine ⟨e1, fun a b1 b2 => ?_, fun e he b1 b2 => ?_, fun k => by rw [(hf 2 (by omega)).1]; exact h4 k, ⟨h5.cg K00_ok hcs (fun b b1 b2 => hf b (by omega)) (fun b b1 b2 => ⟨fun _ => (hf b (by have := b2.2.2; omega)).1, fun _ => (hf b (by have := b2.2.2; omega)).2.1⟩), h6.cg hcs (fun z hz => Or.inl (by rw [(hf (3 + 6 + 2 * z) (by omega)).1])) (hf _ (by omega)).2.2⟩, fun q => ?_, fun q => ?_, fun q => ?_, fun q => ?_, fun q => ?_⟩
  · by_cases c : a < N
    · rw [hs a c]
      exact h2 a b1 c
    · exact hn a (by omega) b2
  · by_cases c : e.1 < N
    · rw [(hf e.1 c).1]
      exact h3 e he b1 c
    · exact hx e he (by omega) b2
  · by_cases c : 82 ≤ N
    · rw [(hf 81 (by omega)).2.2]
      exact h7 c
    · exact s1 (by omega) q
  · by_cases c : 90 ≤ N
    · rw [(hf 88 (by omega)).1]
      exact h8 c
    · exact s2 (by omega) q
  · by_cases c : 122 ≤ N
    · rw [(hf 111 (by omega)).1]
      exact h9 c
    · exact s3 (by omega) q
  · by_cases c : 133 ≤ N
    · rw [(hf 122 (by omega)).1]
      exact h10 c
    · exact s4 (by omega) q
  · by_cases c : 146 ≤ N
    · rw [(hf 145 (by omega)).2.1]
      exact h11 c
    · exact s5 (by omega) q
theorem MI.pt {N k : Nat} {v : Value} {F : Nat → Value} {S : CS} {G : Nat → Nat → Value} {B : Nat → Nat → Int32} {R : Nat → Nat → Option Nat} (h : MI N F S G B R) : MI N (fun j => if j = k then v else F j) S (up2 G 2 k v) B R := by
  obtain ⟨h1, h2, h3, h4, ⟨h5, h6⟩, h7, h8, h9, h10, h11⟩ := h
  refine ⟨h1, h2, fun e he b1 b2 => by rw [up2_g (by omega)]; exact h3 e he b1 b2, fun j => ?_, ⟨h5.cg K00_ok (fun _ ha => ⟨ha, rfl⟩) (fun b b1 b2 => ⟨up2_g (by omega), rfl, rfl⟩) (fun b b1 b2 => ⟨fun _ => up2_g (by omega), fun _ => rfl⟩), h6.cg (fun _ ha => ⟨ha, rfl⟩) (fun z hz => Or.inl (by rw [up2_g (by omega)])) rfl⟩, h7, fun q => by rw [up2_g (by decide)]; exact h8 q, fun q => by rw [up2_g (by decide)]; exact h9 q, fun q => by rw [up2_g (by decide)]; exact h10 q, h11⟩
  show up2 G 2 k v 2 j = if j = k then v else F j
  by_cases e : j = k
  · rw [if_pos e, e, up2_s]
  · rw [if_neg e, up2_n (fun q => e q.2)]
    exact h4 j
theorem MI.o {N : Nat} {F : Nat → Value} {S : CS} {G : Nat → Nat → Value} {B : Nat → Nat → Int32} {R : Nat → Nat → Option Nat} (h : MI N F S G B R) (hN : 81 ≤ N) : cs_in S.1 2 ∧ S.2 2 = (100 + 11, 17) := ⟨⟨by decide, Or.inl (by decide), by have := h.1; omega⟩, (h.2.1 2 (by decide) (by omega)).trans rfl⟩
theorem in_113 : (am_y 113).name = "<init>" := by decide +kernel
theorem cp_11_0 {k pc o x n a : Nat} {al : AL} {r : List Value} {S : CS} {G : Nat → Nat → Value} {B : Nat → Nat → Int32} {J : Nat → Nat → Int64} {R : Nat → Nat → Option Nat} {Q : CQ} {v : Nat} (hd : decode (am_b 113) pc = .ok (.putfield x, 3)) (ho : am_o 113 = o) (hl : am_fl o x = some (11, 0)) (ha : cs_in S.1 a) (hs : S.2 a = (100 + 11, n)) (hj : 0 < n) (kk : CR k 113 (pc + 3) al r S (up2 G a 0 (.ref v)) B J R Q) : CR k 113 pc al (.ref v :: .ref a :: r) S G B J R Q := cr_pf hd ho hl ha hs hj rfl rfl (Or.inr ⟨in_113, ho.symm.trans cw_113⟩) kk
theorem cp_11_1 {k pc o x n a : Nat} {al : AL} {r : List Value} {S : CS} {G : Nat → Nat → Value} {B : Nat → Nat → Int32} {J : Nat → Nat → Int64} {R : Nat → Nat → Option Nat} {Q : CQ} {v : Nat} (hd : decode (am_b 113) pc = .ok (.putfield x, 3)) (ho : am_o 113 = o) (hl : am_fl o x = some (11, 1)) (ha : cs_in S.1 a) (hs : S.2 a = (100 + 11, n)) (hj : 1 < n) (kk : CR k 113 (pc + 3) al r S (up2 G a 1 (.ref v)) B J R Q) : CR k 113 pc al (.ref v :: .ref a :: r) S G B J R Q := cr_pf hd ho hl ha hs hj rfl rfl (Or.inr ⟨in_113, ho.symm.trans cw_113⟩) kk
theorem cp_11_2 {k pc o x n a : Nat} {al : AL} {r : List Value} {S : CS} {G : Nat → Nat → Value} {B : Nat → Nat → Int32} {J : Nat → Nat → Int64} {R : Nat → Nat → Option Nat} {Q : CQ} {v : Nat} (hd : decode (am_b 113) pc = .ok (.putfield x, 3)) (ho : am_o 113 = o) (hl : am_fl o x = some (11, 2)) (ha : cs_in S.1 a) (hs : S.2 a = (100 + 11, n)) (hj : 2 < n) (kk : CR k 113 (pc + 3) al r S (up2 G a 2 (.ref v)) B J R Q) : CR k 113 pc al (.ref v :: .ref a :: r) S G B J R Q := cr_pf hd ho hl ha hs hj rfl rfl (Or.inr ⟨in_113, ho.symm.trans cw_113⟩) kk
theorem cp_11_4 {k pc o x n a : Nat} {al : AL} {r : List Value} {S : CS} {G : Nat → Nat → Value} {B : Nat → Nat → Int32} {J : Nat → Nat → Int64} {R : Nat → Nat → Option Nat} {Q : CQ} {v : Nat} (hd : decode (am_b 113) pc = .ok (.putfield x, 3)) (ho : am_o 113 = o) (hl : am_fl o x = some (11, 4)) (ha : cs_in S.1 a) (hs : S.2 a = (100 + 11, n)) (hj : 4 < n) (kk : CR k 113 (pc + 3) al r S (up2 G a 4 (.ref v)) B J R Q) : CR k 113 pc al (.ref v :: .ref a :: r) S G B J R Q := cr_pf hd ho hl ha hs hj rfl rfl (Or.inr ⟨in_113, ho.symm.trans cw_113⟩) kk
theorem cp_11_6 {k pc o x n a : Nat} {al : AL} {r : List Value} {S : CS} {G : Nat → Nat → Value} {B : Nat → Nat → Int32} {J : Nat → Nat → Int64} {R : Nat → Nat → Option Nat} {Q : CQ} {v : Nat} (hd : decode (am_b 113) pc = .ok (.putfield x, 3)) (ho : am_o 113 = o) (hl : am_fl o x = some (11, 6)) (ha : cs_in S.1 a) (hs : S.2 a = (100 + 11, n)) (hj : 6 < n) (kk : CR k 113 (pc + 3) al r S (up2 G a 6 (.ref v)) B J R Q) : CR k 113 pc al (.ref v :: .ref a :: r) S G B J R Q := cr_pf hd ho hl ha hs hj rfl rfl (Or.inr ⟨in_113, ho.symm.trans cw_113⟩) kk
theorem cp_11_7 {k pc o x n a : Nat} {al : AL} {r : List Value} {S : CS} {G : Nat → Nat → Value} {B : Nat → Nat → Int32} {J : Nat → Nat → Int64} {R : Nat → Nat → Option Nat} {Q : CQ} {v : Nat} (hd : decode (am_b 113) pc = .ok (.putfield x, 3)) (ho : am_o 113 = o) (hl : am_fl o x = some (11, 7)) (ha : cs_in S.1 a) (hs : S.2 a = (100 + 11, n)) (hj : 7 < n) (kk : CR k 113 (pc + 3) al r S (up2 G a 7 (.ref v)) B J R Q) : CR k 113 pc al (.ref v :: .ref a :: r) S G B J R Q := cr_pf hd ho hl ha hs hj rfl rfl (Or.inr ⟨in_113, ho.symm.trans cw_113⟩) kk
theorem cp_11_8 {k pc o x n a : Nat} {al : AL} {r : List Value} {S : CS} {G : Nat → Nat → Value} {B : Nat → Nat → Int32} {J : Nat → Nat → Int64} {R : Nat → Nat → Option Nat} {Q : CQ} {v : Nat} (hd : decode (am_b 113) pc = .ok (.putfield x, 3)) (ho : am_o 113 = o) (hl : am_fl o x = some (11, 8)) (ha : cs_in S.1 a) (hs : S.2 a = (100 + 11, n)) (hj : 8 < n) (kk : CR k 113 (pc + 3) al r S (up2 G a 8 (.ref v)) B J R Q) : CR k 113 pc al (.ref v :: .ref a :: r) S G B J R Q := cr_pf hd ho hl ha hs hj rfl rfl (Or.inr ⟨in_113, ho.symm.trans cw_113⟩) kk
theorem cp_11_9 {k pc o x n a : Nat} {al : AL} {r : List Value} {S : CS} {G : Nat → Nat → Value} {B : Nat → Nat → Int32} {J : Nat → Nat → Int64} {R : Nat → Nat → Option Nat} {Q : CQ} {v : Nat} (hd : decode (am_b 113) pc = .ok (.putfield x, 3)) (ho : am_o 113 = o) (hl : am_fl o x = some (11, 9)) (ha : cs_in S.1 a) (hs : S.2 a = (100 + 11, n)) (hj : 9 < n) (kk : CR k 113 (pc + 3) al r S (up2 G a 9 (.ref v)) B J R Q) : CR k 113 pc al (.ref v :: .ref a :: r) S G B J R Q := cr_pf hd ho hl ha hs hj rfl rfl (Or.inr ⟨in_113, ho.symm.trans cw_113⟩) kk
theorem cp_11_10 {k pc o x n a : Nat} {al : AL} {r : List Value} {S : CS} {G : Nat → Nat → Value} {B : Nat → Nat → Int32} {J : Nat → Nat → Int64} {R : Nat → Nat → Option Nat} {Q : CQ} {v : Nat} (hd : decode (am_b 113) pc = .ok (.putfield x, 3)) (ho : am_o 113 = o) (hl : am_fl o x = some (11, 10)) (ha : cs_in S.1 a) (hs : S.2 a = (100 + 11, n)) (hj : 10 < n) (kk : CR k 113 (pc + 3) al r S (up2 G a 10 (.ref v)) B J R Q) : CR k 113 pc al (.ref v :: .ref a :: r) S G B J R Q := cr_pf hd ho hl ha hs hj rfl rfl (Or.inr ⟨in_113, ho.symm.trans cw_113⟩) kk
theorem cp_11_11 {k pc o x n a : Nat} {al : AL} {r : List Value} {S : CS} {G : Nat → Nat → Value} {B : Nat → Nat → Int32} {J : Nat → Nat → Int64} {R : Nat → Nat → Option Nat} {Q : CQ} {v : Nat} (hd : decode (am_b 113) pc = .ok (.putfield x, 3)) (ho : am_o 113 = o) (hl : am_fl o x = some (11, 11)) (ha : cs_in S.1 a) (hs : S.2 a = (100 + 11, n)) (hj : 11 < n) (kk : CR k 113 (pc + 3) al r S (up2 G a 11 (.ref v)) B J R Q) : CR k 113 pc al (.ref v :: .ref a :: r) S G B J R Q := cr_pf hd ho hl ha hs hj rfl rfl (Or.inr ⟨in_113, ho.symm.trans cw_113⟩) kk
theorem cp_11_12 {k pc o x n a : Nat} {al : AL} {r : List Value} {S : CS} {G : Nat → Nat → Value} {B : Nat → Nat → Int32} {J : Nat → Nat → Int64} {R : Nat → Nat → Option Nat} {Q : CQ} {v : Nat} (hd : decode (am_b 113) pc = .ok (.putfield x, 3)) (ho : am_o 113 = o) (hl : am_fl o x = some (11, 12)) (ha : cs_in S.1 a) (hs : S.2 a = (100 + 11, n)) (hj : 12 < n) (kk : CR k 113 (pc + 3) al r S (up2 G a 12 (.ref v)) B J R Q) : CR k 113 pc al (.ref v :: .ref a :: r) S G B J R Q := cr_pf hd ho hl ha hs hj rfl rfl (Or.inr ⟨in_113, ho.symm.trans cw_113⟩) kk
theorem cp_11_13 {k pc o x n a : Nat} {al : AL} {r : List Value} {S : CS} {G : Nat → Nat → Value} {B : Nat → Nat → Int32} {J : Nat → Nat → Int64} {R : Nat → Nat → Option Nat} {Q : CQ} {v : Nat} (hd : decode (am_b 113) pc = .ok (.putfield x, 3)) (ho : am_o 113 = o) (hl : am_fl o x = some (11, 13)) (ha : cs_in S.1 a) (hs : S.2 a = (100 + 11, n)) (hj : 13 < n) (kk : CR k 113 (pc + 3) al r S (up2 G a 13 (.ref v)) B J R Q) : CR k 113 pc al (.ref v :: .ref a :: r) S G B J R Q := cr_pf hd ho hl ha hs hj rfl rfl (Or.inr ⟨in_113, ho.symm.trans cw_113⟩) kk
theorem cp_11_14 {k pc o x n a : Nat} {al : AL} {r : List Value} {S : CS} {G : Nat → Nat → Value} {B : Nat → Nat → Int32} {J : Nat → Nat → Int64} {R : Nat → Nat → Option Nat} {Q : CQ} {v : Nat} (hd : decode (am_b 113) pc = .ok (.putfield x, 3)) (ho : am_o 113 = o) (hl : am_fl o x = some (11, 14)) (ha : cs_in S.1 a) (hs : S.2 a = (100 + 11, n)) (hj : 14 < n) (kk : CR k 113 (pc + 3) al r S (up2 G a 14 (.ref v)) B J R Q) : CR k 113 pc al (.ref v :: .ref a :: r) S G B J R Q := cr_pf hd ho hl ha hs hj rfl rfl (Or.inr ⟨in_113, ho.symm.trans cw_113⟩) kk
theorem cp_11_15 {k pc o x n a : Nat} {al : AL} {r : List Value} {S : CS} {G : Nat → Nat → Value} {B : Nat → Nat → Int32} {J : Nat → Nat → Int64} {R : Nat → Nat → Option Nat} {Q : CQ} {v : Nat} (hd : decode (am_b 113) pc = .ok (.putfield x, 3)) (ho : am_o 113 = o) (hl : am_fl o x = some (11, 15)) (ha : cs_in S.1 a) (hs : S.2 a = (100 + 11, n)) (hj : 15 < n) (kk : CR k 113 (pc + 3) al r S (up2 G a 15 (.ref v)) B J R Q) : CR k 113 pc al (.ref v :: .ref a :: r) S G B J R Q := cr_pf hd ho hl ha hs hj rfl rfl (Or.inr ⟨in_113, ho.symm.trans cw_113⟩) kk
theorem cl_11_24 : am_cl 11 24 = some 4 := by decide +kernel
theorem cl_11_35 : am_cl 11 35 = some 10 := by decide +kernel
theorem cl_11_45 : am_cl 11 45 = some 0 := by decide +kernel
theorem cl_11_52 : am_cl 11 52 = some 5 := by decide +kernel
theorem cl_11_59 : am_cl 11 59 = some 2 := by decide +kernel
theorem cl_11_66 : am_cl 11 66 = some 6 := by decide +kernel
theorem cl_11_76 : am_cl 11 76 = some 8 := by decide +kernel
theorem cl_11_83 : am_cl 11 83 = some 1 := by decide +kernel
theorem k_m15 {S : CS} {G : Nat → Nat → Value} {B : Nat → Nat → Int32} {J : Nat → Nat → Int64} {R : Nat → Nat → Option Nat} {Q : CQ} {F : Nat → Value} (hM : MI 81 F S G B R) (hk : ∀ S' G' B' J' R', MI 82 (fun j => if j = 1 then .ref 81 else F j) S' G' B' R' → CR 3 113 23 [some (.ref 2)] [] S' G' B' J' R' Q) : CR 3 113 15 [some (.ref 2)] [] S G B J R Q := by
  have hl := hM.1
  have hM2 := hM.o (by omega)
  have h2 : csR S.1 1 := ⟨by omega, Or.inl (by omega)⟩
  refine cr_nx (pc' := 16) (al' := [some (.ref 2)]) (st' := [.ref 2]) d_113_15 (fun _ => rfl) ?_
  refine cn_ic (v := 2) d_113_16 (by decide) ?_
  refine cr_nq d_113_17 cw_113 cl_11_7 (by decide) (by decide) (show 2 ≤ S.1 + 0 by have := h2.1; omega) ?_
  show CR _ _ 20 [some (.ref 2)] [.ref S.1, .ref 2] (cs_pu S (4 + 9, 2)) G B J (upr R S.1 (fun _ => none)) _
  refine cp_11_1  d_113_20 cw_113 cf_11_16 (cs_g hM2).1 (cs_g hM2).2 (by decide) ?_
  have hM9 : MI 82 F (cs_pu S (4 + 9, 2)) G B (upr R S.1 (fun _ => none)) := MI.st hM (by omega) (by omega) (by omega) (show S.1 + 1 = 82 by omega) (fun b hb => by rw [cs_pl (show b < S.1 + 0 by omega)]) (fun b hb => ⟨rfl, rfl, by rw [upr_n (by omega)]⟩) (fun a b1 b2 => by
    have h_ : a = 81 := by omega
    rcases h_ with h_
    · subst h_
      rw [cs_pe (show S.1 + 0 = 81 by omega)]
      rfl) (fun e he b1 b2 => by
    have h_ : False := by
      revert e
      decide
    exact h_.elim) (fun _ _ k => by simp [upr, hl]) (fun h1_ h2_ => absurd h2_ (by omega)) (fun h1_ h2_ => absurd h2_ (by omega)) (fun h1_ h2_ => absurd h2_ (by omega)) (fun h1_ h2_ => absurd h2_ (by omega))
  exact hk _ _ _ _ _ (hl ▸ hM9.pt)
theorem k_m23 {S : CS} {G : Nat → Nat → Value} {B : Nat → Nat → Int32} {J : Nat → Nat → Int64} {R : Nat → Nat → Option Nat} {Q : CQ} {F : Nat → Value} (hM : MI 82 F S G B R) (hk : ∀ S' G' B' J' R', MI 83 (fun j => if j = 2 then .ref 82 else F j) S' G' B' R' → CR 3 113 32 [some (.ref 2)] [] S' G' B' J' R' Q) : CR 3 113 23 [some (.ref 2)] [] S G B J R Q := by
  have hl := hM.1
  have hM2 := hM.o (by omega)
  have h2 : csR S.1 1 := ⟨by omega, Or.inl (by omega)⟩
  refine cr_nx (pc' := 24) (al' := [some (.ref 2)]) (st' := [.ref 2]) d_113_23 (fun _ => rfl) ?_
  refine cn_sp (v := 400) d_113_24 (by decide) ?_
  refine cr_na d_113_27 (by decide) (show 2 ≤ S.1 + 0 by have := h2.1; omega) ?_
  show CR _ _ 29 [some (.ref 2)] [.ref S.1, .ref 2] (cs_pu S (0, 400)) G (upr B S.1 (fun _ => 0)) J R _
  refine cp_11_2  d_113_29 cw_113 cf_11_20 (cs_g hM2).1 (cs_g hM2).2 (by decide) ?_
  have hM9 : MI 83 F (cs_pu S (0, 400)) G (upr B S.1 (fun _ => 0)) R := MI.st hM (by omega) (by omega) (by omega) (show S.1 + 1 = 83 by omega) (fun b hb => by rw [cs_pl (show b < S.1 + 0 by omega)]) (fun b hb => ⟨rfl, by rw [upr_n (by omega)], rfl⟩) (fun a b1 b2 => by
    have h_ : a = 82 := by omega
    rcases h_ with h_
    · subst h_
      rw [cs_pe (show S.1 + 0 = 82 by omega)]
      rfl) (fun e he b1 b2 => by
    have h_ : False := by
      revert e
      decide
    exact h_.elim) (fun h1_ => absurd h1_ (by omega)) (fun h1_ h2_ => absurd h2_ (by omega)) (fun h1_ h2_ => absurd h2_ (by omega)) (fun h1_ h2_ => absurd h2_ (by omega)) (fun h1_ h2_ => absurd h2_ (by omega))
  exact hk _ _ _ _ _ (hl ▸ hM9.pt)
theorem k_m32 {S : CS} {G : Nat → Nat → Value} {B : Nat → Nat → Int32} {J : Nat → Nat → Int64} {R : Nat → Nat → Option Nat} {Q : CQ} {F : Nat → Value} (hM : MI 83 F S G B R) (hk : ∀ S' G' B' J' R', MI 86 (fun j => if j = 4 then .ref 83 else F j) S' G' B' R' → CR 3 113 43 [some (.ref 2)] [] S' G' B' J' R' Q) : CR 3 113 32 [some (.ref 2)] [] S G B J R Q := by
  have hl := hM.1
  have hM2 := hM.o (by omega)
  have h2 : csR S.1 3 := ⟨by omega, Or.inl (by omega)⟩
  refine cr_nx (pc' := 33) (al' := [some (.ref 2)]) (st' := [.ref 2]) d_113_32 (fun _ => rfl) ?_
  refine cr_nw d_113_33 cw_113 cl_11_24 (by decide) (show 2 ≤ S.1 + 0 by have := h2.1; omega) ?_
  rw [show am_N 4 = 9 by decide +kernel]
  show CR _ _ 36 [some (.ref 2)] [.ref S.1, .ref 2] (cs_pu S (100 + 4, 9)) (upr G S.1 (fun j => defaultValue (am_ty 4 j))) B J R _
  refine cr_nx (pc' := 37) (al' := [some (.ref 2)]) (st' := [.ref S.1, .ref S.1, .ref 2]) d_113_36 (fun _ => rfl) ?_
  refine cr_ci (r := [.ref S.1, .ref 2]) (b := S.1) (as := []) (al0 := [some (.ref (S.1))]) d_113_37 cw_113 cm_11_26 (Or.inr rfl) cz_24 rfl rfl rfl (cr_wk (k' := 2) (by decide) (k_lrInit ⟨(show cs_in (S.1 + 1) (S.1) from ⟨by have := h2.1; omega, by have := h2.2; omega, by omega⟩), cs_ps⟩ (show csR (S.1 + 1) 2 from ⟨by have := h2.1; omega, by have := h2.2; omega⟩))) (fun v1 S1 G1 B1 J1 R1 h1x => ?_)
  obtain ⟨q0_, q1_, q2_, q3_, q4_, q5_⟩ := h1x
  obtain rfl := q0_
  obtain rfl := q1_
  obtain rfl := q2_
  obtain rfl := q3_
  obtain rfl := q4_.symm
  obtain rfl := q5_.symm
  show CR _ _ 40 [some (.ref 2)] [.ref S.1, .ref 2] (cs_pu (cs_pu (cs_pu S (100 + 4, 9)) (0, 0)) (0, 64)) (up2 (up2 (upr G S.1 (fun j => defaultValue (am_ty 4 j))) S.1 0 (.ref (S.1 + 1))) S.1 5 (.ref (S.1 + 2))) (upr (upr B (S.1 + 1) (fun _ => 0)) (S.1 + 2) (fun _ => 0)) J R _
  refine cp_11_4  d_113_40 cw_113 cf_11_27 (cs_g (cs_g (cs_g hM2))).1 (cs_g (cs_g (cs_g hM2))).2 (by decide) ?_
  have hM9 : MI 86 F (cs_pu (cs_pu (cs_pu S (100 + 4, 9)) (0, 0)) (0, 64)) (up2 (up2 (upr G S.1 (fun j => defaultValue (am_ty 4 j))) S.1 0 (.ref (S.1 + 1))) S.1 5 (.ref (S.1 + 2))) (upr (upr B (S.1 + 1) (fun _ => 0)) (S.1 + 2) (fun _ => 0)) R := MI.st hM (by omega) (by omega) (by omega) (show S.1 + 3 = 86 by omega) (fun b hb => by rw [cs_pl (show b < S.1 + 2 by omega), cs_pl (show b < S.1 + 1 by omega), cs_pl (show b < S.1 + 0 by omega)]) (fun b hb => ⟨by rw [up2_g (by omega), up2_g (by omega), upr_n (by omega)], by rw [upr_n (by omega), upr_n (by omega)], rfl⟩) (fun a b1 b2 => by
    have h_ : a = 83 ∨ a = 84 ∨ a = 85 := by omega
    rcases h_ with h_ | h_ | h_
    · subst h_
      rw [cs_pl (show 83 < S.1 + 2 by omega), cs_pl (show 83 < S.1 + 1 by omega), cs_pe (show S.1 + 0 = 83 by omega)]
      rfl
    · subst h_
      rw [cs_pl (show 84 < S.1 + 2 by omega), cs_pe (show S.1 + 1 = 84 by omega)]
      rfl
    · subst h_
      rw [cs_pe (show S.1 + 2 = 85 by omega)]
      rfl) (fun e he b1 b2 => by
    have h_ : e ∈ [((83 : Nat), (5 : Nat), (85 : Nat))] := by
      revert e
      decide
    simp only [List.mem_cons, List.not_mem_nil, or_false] at h_
    rcases h_ with h_
    · subst h_
      simp [up2, upr, hl]) (fun h1_ => absurd h1_ (by omega)) (fun h1_ h2_ => absurd h2_ (by omega)) (fun h1_ h2_ => absurd h2_ (by omega)) (fun h1_ h2_ => absurd h2_ (by omega)) (fun h1_ h2_ => absurd h2_ (by omega))
  exact hk _ _ _ _ _ (hl ▸ hM9.pt)
theorem k_m48 {S : CS} {G : Nat → Nat → Value} {B : Nat → Nat → Int32} {J : Nat → Nat → Int64} {R : Nat → Nat → Option Nat} {Q : CQ} {F : Nat → Value} (hM : MI 86 F S G B R) (hk : ∀ S' G' B' J' R', MI 88 (fun j => if j = 6 then .ref 86 else F j) S' G' B' R' → CR 3 113 59 [some (.ref 2)] [] S' G' B' J' R' Q) : CR 3 113 48 [some (.ref 2)] [] S G B J R Q := by
  have hl := hM.1
  have hM2 := hM.o (by omega)
  have h2 : csR S.1 2 := ⟨by omega, Or.inl (by omega)⟩
  refine cr_nx (pc' := 49) (al' := [some (.ref 2)]) (st' := [.ref 2]) d_113_48 (fun _ => rfl) ?_
  refine cr_nw d_113_49 cw_113 cl_11_35 (by decide) (show 2 ≤ S.1 + 0 by have := h2.1; omega) ?_
  rw [show am_N 10 = 2 by decide +kernel]
  show CR _ _ 52 [some (.ref 2)] [.ref S.1, .ref 2] (cs_pu S (100 + 10, 2)) (upr G S.1 (fun j => defaultValue (am_ty 10 j))) B J R _
  refine cr_nx (pc' := 53) (al' := [some (.ref 2)]) (st' := [.ref S.1, .ref S.1, .ref 2]) d_113_52 (fun _ => rfl) ?_
  refine cr_ci (r := [.ref S.1, .ref 2]) (b := S.1) (as := []) (al0 := [some (.ref (S.1))]) d_113_53 cw_113 cm_11_37 (Or.inr rfl) cz_89 rfl rfl rfl (cr_wk (k' := 2) (by decide) (k_tabInit ⟨(show cs_in (S.1 + 1) (S.1) from ⟨by have := h2.1; omega, by have := h2.2; omega, by omega⟩), cs_ps⟩ (show csR (S.1 + 1) 1 from ⟨by have := h2.1; omega, by have := h2.2; omega⟩))) (fun v1 S1 G1 B1 J1 R1 h1x => ?_)
  obtain ⟨q0_, q1_, q2_, q3_, q4_, q5_⟩ := h1x
  obtain rfl := q0_
  obtain rfl := q1_
  obtain rfl := q2_
  obtain rfl := q3_
  obtain rfl := q4_.symm
  obtain rfl := q5_.symm
  show CR _ _ 56 [some (.ref 2)] [.ref S.1, .ref 2] (cs_pu (cs_pu S (100 + 10, 2)) (0, 36)) (up2 (upr G S.1 (fun j => defaultValue (am_ty 10 j))) S.1 1 (.ref (S.1 + 1))) (upr B (S.1 + 1) (fun _ => 0)) J R _
  refine cp_11_6  d_113_56 cw_113 cf_11_38 (cs_g (cs_g hM2)).1 (cs_g (cs_g hM2)).2 (by decide) ?_
  have hM9 : MI 88 F (cs_pu (cs_pu S (100 + 10, 2)) (0, 36)) (up2 (upr G S.1 (fun j => defaultValue (am_ty 10 j))) S.1 1 (.ref (S.1 + 1))) (upr B (S.1 + 1) (fun _ => 0)) R := MI.st hM (by omega) (by omega) (by omega) (show S.1 + 2 = 88 by omega) (fun b hb => by rw [cs_pl (show b < S.1 + 1 by omega), cs_pl (show b < S.1 + 0 by omega)]) (fun b hb => ⟨by rw [up2_g (by omega), upr_n (by omega)], by rw [upr_n (by omega)], rfl⟩) (fun a b1 b2 => by
    have h_ : a = 86 ∨ a = 87 := by omega
    rcases h_ with h_ | h_
    · subst h_
      rw [cs_pl (show 86 < S.1 + 1 by omega), cs_pe (show S.1 + 0 = 86 by omega)]
      rfl
    · subst h_
      rw [cs_pe (show S.1 + 1 = 87 by omega)]
      rfl) (fun e he b1 b2 => by
    have h_ : e ∈ [((86 : Nat), (1 : Nat), (87 : Nat))] := by
      revert e
      decide
    simp only [List.mem_cons, List.not_mem_nil, or_false] at h_
    rcases h_ with h_
    · subst h_
      simp [up2, upr, hl]) (fun h1_ => absurd h1_ (by omega)) (fun h1_ h2_ => absurd h2_ (by omega)) (fun h1_ h2_ => absurd h2_ (by omega)) (fun h1_ h2_ => absurd h2_ (by omega)) (fun h1_ h2_ => absurd h2_ (by omega))
  exact hk _ _ _ _ _ (hl ▸ hM9.pt)
theorem k_m59 {S : CS} {G : Nat → Nat → Value} {B : Nat → Nat → Int32} {J : Nat → Nat → Int64} {R : Nat → Nat → Option Nat} {Q : CQ} {F : Nat → Value} (hM : MI 88 F S G B R) (hk : ∀ S' G' B' J' R', MI 90 (fun j => if j = 7 then .ref 88 else F j) S' G' B' R' → CR 3 113 70 [some (.ref 2)] [] S' G' B' J' R' Q) : CR 3 113 59 [some (.ref 2)] [] S G B J R Q := by
  have hl := hM.1
  have hM2 := hM.o (by omega)
  have h2 : csR S.1 2 := ⟨by omega, Or.inl (by omega)⟩
  refine cr_nx (pc' := 60) (al' := [some (.ref 2)]) (st' := [.ref 2]) d_113_59 (fun _ => rfl) ?_
  refine cr_nw d_113_60 cw_113 cl_11_35 (by decide) (show 2 ≤ S.1 + 0 by have := h2.1; omega) ?_
  rw [show am_N 10 = 2 by decide +kernel]
  show CR _ _ 63 [some (.ref 2)] [.ref S.1, .ref 2] (cs_pu S (100 + 10, 2)) (upr G S.1 (fun j => defaultValue (am_ty 10 j))) B J R _
  refine cr_nx (pc' := 64) (al' := [some (.ref 2)]) (st' := [.ref S.1, .ref S.1, .ref 2]) d_113_63 (fun _ => rfl) ?_
  refine cr_ci (r := [.ref S.1, .ref 2]) (b := S.1) (as := []) (al0 := [some (.ref (S.1))]) d_113_64 cw_113 cm_11_37 (Or.inr rfl) cz_89 rfl rfl rfl (cr_wk (k' := 2) (by decide) (k_tabInit ⟨(show cs_in (S.1 + 1) (S.1) from ⟨by have := h2.1; omega, by have := h2.2; omega, by omega⟩), cs_ps⟩ (show csR (S.1 + 1) 1 from ⟨by have := h2.1; omega, by have := h2.2; omega⟩))) (fun v1 S1 G1 B1 J1 R1 h1x => ?_)
  obtain ⟨q0_, q1_, q2_, q3_, q4_, q5_⟩ := h1x
  obtain rfl := q0_
  obtain rfl := q1_
  obtain rfl := q2_
  obtain rfl := q3_
  obtain rfl := q4_.symm
  obtain rfl := q5_.symm
  show CR _ _ 67 [some (.ref 2)] [.ref S.1, .ref 2] (cs_pu (cs_pu S (100 + 10, 2)) (0, 36)) (up2 (upr G S.1 (fun j => defaultValue (am_ty 10 j))) S.1 1 (.ref (S.1 + 1))) (upr B (S.1 + 1) (fun _ => 0)) J R _
  refine cp_11_7  d_113_67 cw_113 cf_11_42 (cs_g (cs_g hM2)).1 (cs_g (cs_g hM2)).2 (by decide) ?_
  have hM9 : MI 90 F (cs_pu (cs_pu S (100 + 10, 2)) (0, 36)) (up2 (upr G S.1 (fun j => defaultValue (am_ty 10 j))) S.1 1 (.ref (S.1 + 1))) (upr B (S.1 + 1) (fun _ => 0)) R := MI.st hM (by omega) (by omega) (by omega) (show S.1 + 2 = 90 by omega) (fun b hb => by rw [cs_pl (show b < S.1 + 1 by omega), cs_pl (show b < S.1 + 0 by omega)]) (fun b hb => ⟨by rw [up2_g (by omega), upr_n (by omega)], by rw [upr_n (by omega)], rfl⟩) (fun a b1 b2 => by
    have h_ : a = 88 ∨ a = 89 := by omega
    rcases h_ with h_ | h_
    · subst h_
      rw [cs_pl (show 88 < S.1 + 1 by omega), cs_pe (show S.1 + 0 = 88 by omega)]
      rfl
    · subst h_
      rw [cs_pe (show S.1 + 1 = 89 by omega)]
      rfl) (fun e he b1 b2 => by
    have h_ : e ∈ [((88 : Nat), (1 : Nat), (89 : Nat))] := by
      revert e
      decide
    simp only [List.mem_cons, List.not_mem_nil, or_false] at h_
    rcases h_ with h_
    · subst h_
      simp [up2, upr, hl]) (fun h1_ => absurd h1_ (by omega)) (fun _ _ => by simp [up2, upr, hl]; exact ty_10) (fun h1_ h2_ => absurd h2_ (by omega)) (fun h1_ h2_ => absurd h2_ (by omega)) (fun h1_ h2_ => absurd h2_ (by omega))
  exact hk _ _ _ _ _ (hl ▸ hM9.pt)
theorem k_m70 {S : CS} {G : Nat → Nat → Value} {B : Nat → Nat → Int32} {J : Nat → Nat → Int64} {R : Nat → Nat → Option Nat} {Q : CQ} {F : Nat → Value} (hM : MI 90 F S G B R) (hk : ∀ S' G' B' J' R', MI 96 (fun j => if j = 8 then .ref 90 else F j) S' G' B' R' → CR 3 113 81 [some (.ref 2)] [] S' G' B' J' R' Q) : CR 3 113 70 [some (.ref 2)] [] S G B J R Q := by
  have hl := hM.1
  have hM2 := hM.o (by omega)
  have h2 : csR S.1 6 := ⟨by omega, Or.inl (by omega)⟩
  refine cr_nx (pc' := 71) (al' := [some (.ref 2)]) (st' := [.ref 2]) d_113_70 (fun _ => rfl) ?_
  refine cr_nw d_113_71 cw_113 cl_11_45 (by decide) (show 2 ≤ S.1 + 0 by have := h2.1; omega) ?_
  rw [show am_N 0 = 7 by decide +kernel]
  show CR _ _ 74 [some (.ref 2)] [.ref S.1, .ref 2] (cs_pu S (100 + 0, 7)) (upr G S.1 (fun j => defaultValue (am_ty 0 j))) B J R _
  refine cr_nx (pc' := 75) (al' := [some (.ref 2)]) (st' := [.ref S.1, .ref S.1, .ref 2]) d_113_74 (fun _ => rfl) ?_
  refine cr_ci (r := [.ref S.1, .ref 2]) (b := S.1) (as := []) (al0 := [some (.ref (S.1))]) d_113_75 cw_113 cm_11_47 (Or.inr rfl) cz_0 rfl rfl rfl (cr_wk (k' := 2) (by decide) (k_ckInit ⟨(show cs_in (S.1 + 1) (S.1) from ⟨by have := h2.1; omega, by have := h2.2; omega, by omega⟩), cs_ps⟩ (show csR (S.1 + 1) 5 from ⟨by have := h2.1; omega, by have := h2.2; omega⟩))) (fun v1 S1 G1 B1 J1 R1 h1x => ?_)
  obtain ⟨q0_, q1_, q2_, q3_, q4_, q5_⟩ := h1x
  obtain rfl := q0_
  obtain rfl := q1_
  obtain rfl := q2_
  obtain rfl := q3_
  obtain rfl := q4_.symm
  obtain rfl := q5_.symm
  show CR _ _ 78 [some (.ref 2)] [.ref S.1, .ref 2] (cs_pu (cs_pu (cs_pu (cs_pu (cs_pu (cs_pu S (100 + 0, 7)) (0, 36)) (0, 36)) (0, 36)) (0, 4)) (0, 33)) (up2 (up2 (up2 (up2 (up2 (upr G S.1 (fun j => defaultValue (am_ty 0 j))) S.1 1 (.ref (S.1 + 1))) S.1 3 (.ref (S.1 + 2))) S.1 4 (.ref (S.1 + 3))) S.1 5 (.ref (S.1 + 4))) S.1 6 (.ref (S.1 + 5))) (upr (upr (upr (upr (upr B (S.1 + 1) (fun _ => 0)) (S.1 + 2) (fun _ => 0)) (S.1 + 3) (fun _ => 0)) (S.1 + 4) (fun _ => 0)) (S.1 + 5) (fun _ => 0)) J R _
  refine cp_11_8  d_113_78 cw_113 cf_11_48 (cs_g (cs_g (cs_g (cs_g (cs_g (cs_g hM2)))))).1 (cs_g (cs_g (cs_g (cs_g (cs_g (cs_g hM2)))))).2 (by decide) ?_
  have hM9 : MI 96 F (cs_pu (cs_pu (cs_pu (cs_pu (cs_pu (cs_pu S (100 + 0, 7)) (0, 36)) (0, 36)) (0, 36)) (0, 4)) (0, 33)) (up2 (up2 (up2 (up2 (up2 (upr G S.1 (fun j => defaultValue (am_ty 0 j))) S.1 1 (.ref (S.1 + 1))) S.1 3 (.ref (S.1 + 2))) S.1 4 (.ref (S.1 + 3))) S.1 5 (.ref (S.1 + 4))) S.1 6 (.ref (S.1 + 5))) (upr (upr (upr (upr (upr B (S.1 + 1) (fun _ => 0)) (S.1 + 2) (fun _ => 0)) (S.1 + 3) (fun _ => 0)) (S.1 + 4) (fun _ => 0)) (S.1 + 5) (fun _ => 0)) R := MI.st hM (by omega) (by omega) (by omega) (show S.1 + 6 = 96 by omega) (fun b hb => by rw [cs_pl (show b < S.1 + 5 by omega), cs_pl (show b < S.1 + 4 by omega), cs_pl (show b < S.1 + 3 by omega), cs_pl (show b < S.1 + 2 by omega), cs_pl (show b < S.1 + 1 by omega), cs_pl (show b < S.1 + 0 by omega)]) (fun b hb => ⟨by rw [up2_g (by omega), up2_g (by omega), up2_g (by omega), up2_g (by omega), up2_g (by omega), upr_n (by omega)], by rw [upr_n (by omega), upr_n (by omega), upr_n (by omega), upr_n (by omega), upr_n (by omega)], rfl⟩) (fun a b1 b2 => by
    have h_ : a = 90 ∨ a = 91 ∨ a = 92 ∨ a = 93 ∨ a = 94 ∨ a = 95 := by omega
    rcases h_ with h_ | h_ | h_ | h_ | h_ | h_
    · subst h_
      rw [cs_pl (show 90 < S.1 + 5 by omega), cs_pl (show 90 < S.1 + 4 by omega), cs_pl (show 90 < S.1 + 3 by omega), cs_pl (show 90 < S.1 + 2 by omega), cs_pl (show 90 < S.1 + 1 by omega), cs_pe (show S.1 + 0 = 90 by omega)]
      rfl
    · subst h_
      rw [cs_pl (show 91 < S.1 + 5 by omega), cs_pl (show 91 < S.1 + 4 by omega), cs_pl (show 91 < S.1 + 3 by omega), cs_pl (show 91 < S.1 + 2 by omega), cs_pe (show S.1 + 1 = 91 by omega)]
      rfl
    · subst h_
      rw [cs_pl (show 92 < S.1 + 5 by omega), cs_pl (show 92 < S.1 + 4 by omega), cs_pl (show 92 < S.1 + 3 by omega), cs_pe (show S.1 + 2 = 92 by omega)]
      rfl
    · subst h_
      rw [cs_pl (show 93 < S.1 + 5 by omega), cs_pl (show 93 < S.1 + 4 by omega), cs_pe (show S.1 + 3 = 93 by omega)]
      rfl
    · subst h_
      rw [cs_pl (show 94 < S.1 + 5 by omega), cs_pe (show S.1 + 4 = 94 by omega)]
      rfl
    · subst h_
      rw [cs_pe (show S.1 + 5 = 95 by omega)]
      rfl) (fun e he b1 b2 => by
    have h_ : e ∈ [((90 : Nat), (3 : Nat), (92 : Nat)), ((90 : Nat), (4 : Nat), (93 : Nat)), ((90 : Nat), (5 : Nat), (94 : Nat)), ((90 : Nat), (6 : Nat), (95 : Nat))] := by
      revert e
      decide
    simp only [List.mem_cons, List.not_mem_nil, or_false] at h_
    rcases h_ with h_ | h_ | h_ | h_
    · subst h_
      simp [up2, upr, hl]
    · subst h_
      simp [up2, upr, hl]
    · subst h_
      simp [up2, upr, hl]
    · subst h_
      simp [up2, upr, hl]) (fun h1_ => absurd h1_ (by omega)) (fun h1_ => absurd h1_ (by omega)) (fun h1_ h2_ => absurd h2_ (by omega)) (fun h1_ h2_ => absurd h2_ (by omega)) (fun h1_ h2_ => absurd h2_ (by omega))
  exact hk _ _ _ _ _ (hl ▸ hM9.pt)
theorem k_m81 {S : CS} {G : Nat → Nat → Value} {B : Nat → Nat → Int32} {J : Nat → Nat → Int64} {R : Nat → Nat → Option Nat} {Q : CQ} {F : Nat → Value} (hM : MI 96 F S G B R) (hk : ∀ S' G' B' J' R', MI 107 (fun j => if j = 9 then .ref 96 else F j) S' G' B' R' → CR 3 113 92 [some (.ref 2)] [] S' G' B' J' R' Q) : CR 3 113 81 [some (.ref 2)] [] S G B J R Q := by
  have hl := hM.1
  have hM2 := hM.o (by omega)
  have h2 : csR S.1 11 := ⟨by omega, Or.inl (by omega)⟩
  refine cr_nx (pc' := 82) (al' := [some (.ref 2)]) (st' := [.ref 2]) d_113_81 (fun _ => rfl) ?_
  refine cr_nw d_113_82 cw_113 cl_11_52 (by decide) (show 2 ≤ S.1 + 0 by have := h2.1; omega) ?_
  rw [show am_N 5 = 8 by decide +kernel]
  show CR _ _ 85 [some (.ref 2)] [.ref S.1, .ref 2] (cs_pu S (100 + 5, 8)) (upr G S.1 (fun j => defaultValue (am_ty 5 j))) B J R _
  refine cr_nx (pc' := 86) (al' := [some (.ref 2)]) (st' := [.ref S.1, .ref S.1, .ref 2]) d_113_85 (fun _ => rfl) ?_
  refine cr_ci (r := [.ref S.1, .ref 2]) (b := S.1) (as := []) (al0 := [some (.ref (S.1))]) d_113_86 cw_113 cm_11_54 (Or.inr rfl) cz_34 rfl rfl rfl (cr_wk (k' := 2) (by decide) (k_liInit ⟨(show cs_in (S.1 + 1) (S.1) from ⟨by have := h2.1; omega, by have := h2.2; omega, by omega⟩), cs_ps⟩ (show csR (S.1 + 1) 10 from ⟨by have := h2.1; omega, by have := h2.2; omega⟩))) (fun v1 S1 G1 B1 J1 R1 h1x => ?_)
  obtain ⟨q0_, q1_, q2_, q3_, q4_, q5_⟩ := h1x
  obtain rfl := q0_
  obtain rfl := q1_
  obtain rfl := q2_
  obtain rfl := q3_
  obtain rfl := q4_.symm
  obtain rfl := q5_
  show CR _ _ 89 [some (.ref 2)] [.ref S.1, .ref 2] (cs_pu (cs_pu (cs_pu (cs_pu (cs_pu (cs_pu (cs_pu (cs_pu (cs_pu (cs_pu (cs_pu S (100 + 5, 8)) (100 + 10, 2)) (0, 36)) (100 + 0, 7)) (0, 36)) (0, 36)) (0, 36)) (0, 4)) (0, 33)) (0, 6)) (4 + 3, 0)) (up2 (up2 (up2 (up2 (up2 (up2 (up2 (up2 (upr (up2 (up2 (upr (upr G S.1 (fun j => defaultValue (am_ty 5 j))) (S.1 + 1) (fun j => defaultValue (am_ty 10 j))) (S.1 + 1) 1 (.ref (S.1 + 2))) S.1 0 (.ref (S.1 + 1))) (S.1 + 3) (fun j => defaultValue (am_ty 0 j))) (S.1 + 3) 1 (.ref (S.1 + 4))) (S.1 + 3) 3 (.ref (S.1 + 5))) (S.1 + 3) 4 (.ref (S.1 + 6))) (S.1 + 3) 5 (.ref (S.1 + 7))) (S.1 + 3) 6 (.ref (S.1 + 8))) S.1 2 (.ref (S.1 + 3))) S.1 3 (.ref (S.1 + 9))) S.1 4 (.ref (S.1 + 10))) (upr (upr (upr (upr (upr (upr (upr B (S.1 + 2) (fun _ => 0)) (S.1 + 4) (fun _ => 0)) (S.1 + 5) (fun _ => 0)) (S.1 + 6) (fun _ => 0)) (S.1 + 7) (fun _ => 0)) (S.1 + 8) (fun _ => 0)) (S.1 + 9) (fun _ => 0)) J (upr R (S.1 + 10) (fun _ => none)) _
  refine cp_11_9  d_113_89 cw_113 cf_11_55 (cs_g (cs_g (cs_g (cs_g (cs_g (cs_g (cs_g (cs_g (cs_g (cs_g (cs_g hM2))))))))))).1 (cs_g (cs_g (cs_g (cs_g (cs_g (cs_g (cs_g (cs_g (cs_g (cs_g (cs_g hM2))))))))))).2 (by decide) ?_
  have hM9 : MI 107 F (cs_pu (cs_pu (cs_pu (cs_pu (cs_pu (cs_pu (cs_pu (cs_pu (cs_pu (cs_pu (cs_pu S (100 + 5, 8)) (100 + 10, 2)) (0, 36)) (100 + 0, 7)) (0, 36)) (0, 36)) (0, 36)) (0, 4)) (0, 33)) (0, 6)) (4 + 3, 0)) (up2 (up2 (up2 (up2 (up2 (up2 (up2 (up2 (upr (up2 (up2 (upr (upr G S.1 (fun j => defaultValue (am_ty 5 j))) (S.1 + 1) (fun j => defaultValue (am_ty 10 j))) (S.1 + 1) 1 (.ref (S.1 + 2))) S.1 0 (.ref (S.1 + 1))) (S.1 + 3) (fun j => defaultValue (am_ty 0 j))) (S.1 + 3) 1 (.ref (S.1 + 4))) (S.1 + 3) 3 (.ref (S.1 + 5))) (S.1 + 3) 4 (.ref (S.1 + 6))) (S.1 + 3) 5 (.ref (S.1 + 7))) (S.1 + 3) 6 (.ref (S.1 + 8))) S.1 2 (.ref (S.1 + 3))) S.1 3 (.ref (S.1 + 9))) S.1 4 (.ref (S.1 + 10))) (upr (upr (upr (upr (upr (upr (upr B (S.1 + 2) (fun _ => 0)) (S.1 + 4) (fun _ => 0)) (S.1 + 5) (fun _ => 0)) (S.1 + 6) (fun _ => 0)) (S.1 + 7) (fun _ => 0)) (S.1 + 8) (fun _ => 0)) (S.1 + 9) (fun _ => 0)) (upr R (S.1 + 10) (fun _ => none)) := MI.st hM (by omega) (by omega) (by omega) (show S.1 + 11 = 107 by omega) (fun b hb => by rw [cs_pl (show b < S.1 + 10 by omega), cs_pl (show b < S.1 + 9 by omega), cs_pl (show b < S.1 + 8 by omega), cs_pl (show b < S.1 + 7 by omega), cs_pl (show b < S.1 + 6 by omega), cs_pl (show b < S.1 + 5 by omega), cs_pl (show b < S.1 + 4 by omega), cs_pl (show b < S.1 + 3 by omega), cs_pl (show b < S.1 + 2 by omega), cs_pl (show b < S.1 + 1 by omega), cs_pl (show b < S.1 + 0 by omega)]) (fun b hb => ⟨by rw [up2_g (by omega), up2_g (by omega), up2_g (by omega), up2_g (by omega), up2_g (by omega), up2_g (by omega), up2_g (by omega), up2_g (by omega), upr_n (by omega), up2_g (by omega), up2_g (by omega), upr_n (by omega), upr_n (by omega)], by rw [upr_n (by omega), upr_n (by omega), upr_n (by omega), upr_n (by omega), upr_n (by omega), upr_n (by omega), upr_n (by omega)], by rw [upr_n (by omega)]⟩) (fun a b1 b2 => by
    have h_ : a = 96 ∨ a = 97 ∨ a = 98 ∨ a = 99 ∨ a = 100 ∨ a = 101 ∨ a = 102 ∨ a = 103 ∨ a = 104 ∨ a = 105 ∨ a = 106 := by omega
    rcases h_ with h_ | h_ | h_ | h_ | h_ | h_ | h_ | h_ | h_ | h_ | h_
    · subst h_
      rw [cs_pl (show 96 < S.1 + 10 by omega), cs_pl (show 96 < S.1 + 9 by omega), cs_pl (show 96 < S.1 + 8 by omega), cs_pl (show 96 < S.1 + 7 by omega), cs_pl (show 96 < S.1 + 6 by omega), cs_pl (show 96 < S.1 + 5 by omega), cs_pl (show 96 < S.1 + 4 by omega), cs_pl (show 96 < S.1 + 3 by omega), cs_pl (show 96 < S.1 + 2 by omega), cs_pl (show 96 < S.1 + 1 by omega), cs_pe (show S.1 + 0 = 96 by omega)]
      rfl
    · subst h_
      rw [cs_pl (show 97 < S.1 + 10 by omega), cs_pl (show 97 < S.1 + 9 by omega), cs_pl (show 97 < S.1 + 8 by omega), cs_pl (show 97 < S.1 + 7 by omega), cs_pl (show 97 < S.1 + 6 by omega), cs_pl (show 97 < S.1 + 5 by omega), cs_pl (show 97 < S.1 + 4 by omega), cs_pl (show 97 < S.1 + 3 by omega), cs_pl (show 97 < S.1 + 2 by omega), cs_pe (show S.1 + 1 = 97 by omega)]
      rfl
    · subst h_
      rw [cs_pl (show 98 < S.1 + 10 by omega), cs_pl (show 98 < S.1 + 9 by omega), cs_pl (show 98 < S.1 + 8 by omega), cs_pl (show 98 < S.1 + 7 by omega), cs_pl (show 98 < S.1 + 6 by omega), cs_pl (show 98 < S.1 + 5 by omega), cs_pl (show 98 < S.1 + 4 by omega), cs_pl (show 98 < S.1 + 3 by omega), cs_pe (show S.1 + 2 = 98 by omega)]
      rfl
    · subst h_
      rw [cs_pl (show 99 < S.1 + 10 by omega), cs_pl (show 99 < S.1 + 9 by omega), cs_pl (show 99 < S.1 + 8 by omega), cs_pl (show 99 < S.1 + 7 by omega), cs_pl (show 99 < S.1 + 6 by omega), cs_pl (show 99 < S.1 + 5 by omega), cs_pl (show 99 < S.1 + 4 by omega), cs_pe (show S.1 + 3 = 99 by omega)]
      rfl
    · subst h_
      rw [cs_pl (show 100 < S.1 + 10 by omega), cs_pl (show 100 < S.1 + 9 by omega), cs_pl (show 100 < S.1 + 8 by omega), cs_pl (show 100 < S.1 + 7 by omega), cs_pl (show 100 < S.1 + 6 by omega), cs_pl (show 100 < S.1 + 5 by omega), cs_pe (show S.1 + 4 = 100 by omega)]
      rfl
    · subst h_
      rw [cs_pl (show 101 < S.1 + 10 by omega), cs_pl (show 101 < S.1 + 9 by omega), cs_pl (show 101 < S.1 + 8 by omega), cs_pl (show 101 < S.1 + 7 by omega), cs_pl (show 101 < S.1 + 6 by omega), cs_pe (show S.1 + 5 = 101 by omega)]
      rfl
    · subst h_
      rw [cs_pl (show 102 < S.1 + 10 by omega), cs_pl (show 102 < S.1 + 9 by omega), cs_pl (show 102 < S.1 + 8 by omega), cs_pl (show 102 < S.1 + 7 by omega), cs_pe (show S.1 + 6 = 102 by omega)]
      rfl
    · subst h_
      rw [cs_pl (show 103 < S.1 + 10 by omega), cs_pl (show 103 < S.1 + 9 by omega), cs_pl (show 103 < S.1 + 8 by omega), cs_pe (show S.1 + 7 = 103 by omega)]
      rfl
    · subst h_
      rw [cs_pl (show 104 < S.1 + 10 by omega), cs_pl (show 104 < S.1 + 9 by omega), cs_pe (show S.1 + 8 = 104 by omega)]
      rfl
    · subst h_
      rw [cs_pl (show 105 < S.1 + 10 by omega), cs_pe (show S.1 + 9 = 105 by omega)]
      rfl
    · subst h_
      rw [cs_pe (show S.1 + 10 = 106 by omega)]
      rfl) (fun e he b1 b2 => by
    have h_ : e ∈ [((96 : Nat), (0 : Nat), (97 : Nat)), ((96 : Nat), (2 : Nat), (99 : Nat)), ((96 : Nat), (3 : Nat), (105 : Nat)), ((97 : Nat), (1 : Nat), (98 : Nat)), ((99 : Nat), (3 : Nat), (101 : Nat)), ((99 : Nat), (4 : Nat), (102 : Nat)), ((99 : Nat), (5 : Nat), (103 : Nat)), ((99 : Nat), (6 : Nat), (104 : Nat))] := by
      revert e
      decide
    simp only [List.mem_cons, List.not_mem_nil, or_false] at h_
    rcases h_ with h_ | h_ | h_ | h_ | h_ | h_ | h_ | h_
    · subst h_
      simp [up2, upr, hl]
    · subst h_
      simp [up2, upr, hl]
    · subst h_
      simp [up2, upr, hl]
    · subst h_
      simp [up2, upr, hl]
    · subst h_
      simp [up2, upr, hl]
    · subst h_
      simp [up2, upr, hl]
    · subst h_
      simp [up2, upr, hl]
    · subst h_
      simp [up2, upr, hl]) (fun h1_ => absurd h1_ (by omega)) (fun h1_ => absurd h1_ (by omega)) (fun h1_ h2_ => absurd h2_ (by omega)) (fun h1_ h2_ => absurd h2_ (by omega)) (fun h1_ h2_ => absurd h2_ (by omega))
  exact hk _ _ _ _ _ (hl ▸ hM9.pt)
theorem k_m92 {S : CS} {G : Nat → Nat → Value} {B : Nat → Nat → Int32} {J : Nat → Nat → Int64} {R : Nat → Nat → Option Nat} {Q : CQ} {F : Nat → Value} (hM : MI 107 F S G B R) (hk : ∀ S' G' B' J' R', MI 111 (fun j => if j = 10 then .ref 107 else F j) S' G' B' R' → CR 3 113 103 [some (.ref 2)] [] S' G' B' J' R' Q) : CR 3 113 92 [some (.ref 2)] [] S G B J R Q := by
  have hl := hM.1
  have hM2 := hM.o (by omega)
  have h2 : csR S.1 4 := ⟨by omega, Or.inl (by omega)⟩
  refine cr_nx (pc' := 93) (al' := [some (.ref 2)]) (st' := [.ref 2]) d_113_92 (fun _ => rfl) ?_
  refine cr_nw d_113_93 cw_113 cl_11_59 (by decide) (show 2 ≤ S.1 + 0 by have := h2.1; omega) ?_
  rw [show am_N 2 = 7 by decide +kernel]
  show CR _ _ 96 [some (.ref 2)] [.ref S.1, .ref 2] (cs_pu S (100 + 2, 7)) (upr G S.1 (fun j => defaultValue (am_ty 2 j))) B J R _
  refine cr_nx (pc' := 97) (al' := [some (.ref 2)]) (st' := [.ref S.1, .ref S.1, .ref 2]) d_113_96 (fun _ => rfl) ?_
  refine cr_ci (r := [.ref S.1, .ref 2]) (b := S.1) (as := []) (al0 := [some (.ref (S.1))]) d_113_97 cw_113 cm_11_61 (Or.inr rfl) cz_16 rfl rfl rfl (cr_wk (k' := 2) (by decide) (k_fiInit ⟨(show cs_in (S.1 + 1) (S.1) from ⟨by have := h2.1; omega, by have := h2.2; omega, by omega⟩), cs_ps⟩ (show csR (S.1 + 1) 3 from ⟨by have := h2.1; omega, by have := h2.2; omega⟩))) (fun v1 S1 G1 B1 J1 R1 h1x => ?_)
  obtain ⟨q0_, q1_, q2_, q3_, q4_, q5_⟩ := h1x
  obtain rfl := q0_
  obtain rfl := q1_
  obtain rfl := q2_
  obtain rfl := q3_
  obtain rfl := q4_.symm
  obtain rfl := q5_.symm
  show CR _ _ 100 [some (.ref 2)] [.ref S.1, .ref 2] (cs_pu (cs_pu (cs_pu (cs_pu S (100 + 2, 7)) (0, 6)) (0, 6)) (0, 36)) (up2 (up2 (up2 (upr G S.1 (fun j => defaultValue (am_ty 2 j))) S.1 1 (.ref (S.1 + 1))) S.1 2 (.ref (S.1 + 2))) S.1 3 (.ref (S.1 + 3))) (upr (upr (upr B (S.1 + 1) (fun _ => 0)) (S.1 + 2) (fun _ => 0)) (S.1 + 3) (fun _ => 0)) J R _
  refine cp_11_10  d_113_100 cw_113 cf_11_62 (cs_g (cs_g (cs_g (cs_g hM2)))).1 (cs_g (cs_g (cs_g (cs_g hM2)))).2 (by decide) ?_
  have hM9 : MI 111 F (cs_pu (cs_pu (cs_pu (cs_pu S (100 + 2, 7)) (0, 6)) (0, 6)) (0, 36)) (up2 (up2 (up2 (upr G S.1 (fun j => defaultValue (am_ty 2 j))) S.1 1 (.ref (S.1 + 1))) S.1 2 (.ref (S.1 + 2))) S.1 3 (.ref (S.1 + 3))) (upr (upr (upr B (S.1 + 1) (fun _ => 0)) (S.1 + 2) (fun _ => 0)) (S.1 + 3) (fun _ => 0)) R := MI.st hM (by omega) (by omega) (by omega) (show S.1 + 4 = 111 by omega) (fun b hb => by rw [cs_pl (show b < S.1 + 3 by omega), cs_pl (show b < S.1 + 2 by omega), cs_pl (show b < S.1 + 1 by omega), cs_pl (show b < S.1 + 0 by omega)]) (fun b hb => ⟨by rw [up2_g (by omega), up2_g (by omega), up2_g (by omega), upr_n (by omega)], by rw [upr_n (by omega), upr_n (by omega), upr_n (by omega)], rfl⟩) (fun a b1 b2 => by
    have h_ : a = 107 ∨ a = 108 ∨ a = 109 ∨ a = 110 := by omega
    rcases h_ with h_ | h_ | h_ | h_
    · subst h_
      rw [cs_pl (show 107 < S.1 + 3 by omega), cs_pl (show 107 < S.1 + 2 by omega), cs_pl (show 107 < S.1 + 1 by omega), cs_pe (show S.1 + 0 = 107 by omega)]
      rfl
    · subst h_
      rw [cs_pl (show 108 < S.1 + 3 by omega), cs_pl (show 108 < S.1 + 2 by omega), cs_pe (show S.1 + 1 = 108 by omega)]
      rfl
    · subst h_
      rw [cs_pl (show 109 < S.1 + 3 by omega), cs_pe (show S.1 + 2 = 109 by omega)]
      rfl
    · subst h_
      rw [cs_pe (show S.1 + 3 = 110 by omega)]
      rfl) (fun e he b1 b2 => by
    have h_ : e ∈ [((107 : Nat), (1 : Nat), (108 : Nat)), ((107 : Nat), (2 : Nat), (109 : Nat)), ((107 : Nat), (3 : Nat), (110 : Nat))] := by
      revert e
      decide
    simp only [List.mem_cons, List.not_mem_nil, or_false] at h_
    rcases h_ with h_ | h_ | h_
    · subst h_
      simp [up2, upr, hl]
    · subst h_
      simp [up2, upr, hl]
    · subst h_
      simp [up2, upr, hl]) (fun h1_ => absurd h1_ (by omega)) (fun h1_ => absurd h1_ (by omega)) (fun h1_ h2_ => absurd h2_ (by omega)) (fun h1_ h2_ => absurd h2_ (by omega)) (fun h1_ h2_ => absurd h2_ (by omega))
  exact hk _ _ _ _ _ (hl ▸ hM9.pt)
theorem k_m103 {S : CS} {G : Nat → Nat → Value} {B : Nat → Nat → Int32} {J : Nat → Nat → Int64} {R : Nat → Nat → Option Nat} {Q : CQ} {F : Nat → Value} (hM : MI 111 F S G B R) (hk : ∀ S' G' B' J' R', MI 122 (fun j => if j = 11 then .ref 111 else F j) S' G' B' R' → CR 3 113 114 [some (.ref 2)] [] S' G' B' J' R' Q) : CR 3 113 103 [some (.ref 2)] [] S G B J R Q := by
  have hl := hM.1
  have hM2 := hM.o (by omega)
  have h2 : csR S.1 11 := ⟨by omega, Or.inl (by omega)⟩
  refine cr_nx (pc' := 104) (al' := [some (.ref 2)]) (st' := [.ref 2]) d_113_103 (fun _ => rfl) ?_
  refine cr_nw d_113_104 cw_113 cl_11_66 (by decide) (show 2 ≤ S.1 + 0 by have := h2.1; omega) ?_
  rw [show am_N 6 = 7 by decide +kernel]
  show CR _ _ 107 [some (.ref 2)] [.ref S.1, .ref 2] (cs_pu S (100 + 6, 7)) (upr G S.1 (fun j => defaultValue (am_ty 6 j))) B J R _
  refine cr_nx (pc' := 108) (al' := [some (.ref 2)]) (st' := [.ref S.1, .ref S.1, .ref 2]) d_113_107 (fun _ => rfl) ?_
  refine cr_ci (r := [.ref S.1, .ref 2]) (b := S.1) (as := []) (al0 := [some (.ref (S.1))]) d_113_108 cw_113 cm_11_68 (Or.inr rfl) cz_39 rfl rfl rfl (cr_wk (k' := 2) (by decide) (k_naInit ⟨(show cs_in (S.1 + 1) (S.1) from ⟨by have := h2.1; omega, by have := h2.2; omega, by omega⟩), cs_ps⟩ (show csR (S.1 + 1) 10 from ⟨by have := h2.1; omega, by have := h2.2; omega⟩))) (fun v1 S1 G1 B1 J1 R1 h1x => ?_)
  obtain ⟨q0_, q1_, q2_, q3_, q4_, q5_⟩ := h1x
  obtain rfl := q0_
  obtain rfl := q1_
  obtain rfl := q2_
  obtain rfl := q3_
  obtain rfl := q4_.symm
  obtain rfl := q5_.symm
  show CR _ _ 111 [some (.ref 2)] [.ref S.1, .ref 2] (cs_pu (cs_pu (cs_pu (cs_pu (cs_pu (cs_pu (cs_pu (cs_pu (cs_pu (cs_pu (cs_pu S (100 + 6, 7)) (100 + 10, 2)) (0, 36)) (100 + 10, 2)) (0, 36)) (100 + 10, 2)) (0, 36)) (100 + 10, 2)) (0, 36)) (0, 6)) (0, 6)) (up2 (up2 (up2 (up2 (upr (up2 (up2 (upr (up2 (up2 (upr (up2 (up2 (up2 (upr (upr G S.1 (fun j => defaultValue (am_ty 6 j))) (S.1 + 1) (fun j => defaultValue (am_ty 10 j))) (S.1 + 1) 1 (.ref (S.1 + 2))) S.1 0 (.ref (S.1 + 1))) S.1 1 (.int (-1))) (S.1 + 3) (fun j => defaultValue (am_ty 10 j))) (S.1 + 3) 1 (.ref (S.1 + 4))) S.1 2 (.ref (S.1 + 3))) (S.1 + 5) (fun j => defaultValue (am_ty 10 j))) (S.1 + 5) 1 (.ref (S.1 + 6))) S.1 3 (.ref (S.1 + 5))) (S.1 + 7) (fun j => defaultValue (am_ty 10 j))) (S.1 + 7) 1 (.ref (S.1 + 8))) S.1 4 (.ref (S.1 + 7))) S.1 5 (.ref (S.1 + 9))) S.1 6 (.ref (S.1 + 10))) (upr (upr (upr (upr (upr (upr B (S.1 + 2) (fun _ => 0)) (S.1 + 4) (fun _ => 0)) (S.1 + 6) (fun _ => 0)) (S.1 + 8) (fun _ => 0)) (S.1 + 9) (fun _ => 0)) (S.1 + 10) (fun _ => 0)) J R _
  refine cp_11_11  d_113_111 cw_113 cf_11_69 (cs_g (cs_g (cs_g (cs_g (cs_g (cs_g (cs_g (cs_g (cs_g (cs_g (cs_g hM2))))))))))).1 (cs_g (cs_g (cs_g (cs_g (cs_g (cs_g (cs_g (cs_g (cs_g (cs_g (cs_g hM2))))))))))).2 (by decide) ?_
  have hM9 : MI 122 F (cs_pu (cs_pu (cs_pu (cs_pu (cs_pu (cs_pu (cs_pu (cs_pu (cs_pu (cs_pu (cs_pu S (100 + 6, 7)) (100 + 10, 2)) (0, 36)) (100 + 10, 2)) (0, 36)) (100 + 10, 2)) (0, 36)) (100 + 10, 2)) (0, 36)) (0, 6)) (0, 6)) (up2 (up2 (up2 (up2 (upr (up2 (up2 (upr (up2 (up2 (upr (up2 (up2 (up2 (upr (upr G S.1 (fun j => defaultValue (am_ty 6 j))) (S.1 + 1) (fun j => defaultValue (am_ty 10 j))) (S.1 + 1) 1 (.ref (S.1 + 2))) S.1 0 (.ref (S.1 + 1))) S.1 1 (.int (-1))) (S.1 + 3) (fun j => defaultValue (am_ty 10 j))) (S.1 + 3) 1 (.ref (S.1 + 4))) S.1 2 (.ref (S.1 + 3))) (S.1 + 5) (fun j => defaultValue (am_ty 10 j))) (S.1 + 5) 1 (.ref (S.1 + 6))) S.1 3 (.ref (S.1 + 5))) (S.1 + 7) (fun j => defaultValue (am_ty 10 j))) (S.1 + 7) 1 (.ref (S.1 + 8))) S.1 4 (.ref (S.1 + 7))) S.1 5 (.ref (S.1 + 9))) S.1 6 (.ref (S.1 + 10))) (upr (upr (upr (upr (upr (upr B (S.1 + 2) (fun _ => 0)) (S.1 + 4) (fun _ => 0)) (S.1 + 6) (fun _ => 0)) (S.1 + 8) (fun _ => 0)) (S.1 + 9) (fun _ => 0)) (S.1 + 10) (fun _ => 0)) R := MI.st hM (by omega) (by omega) (by omega) (show S.1 + 11 = 122 by omega) (fun b hb => by rw [cs_pl (show b < S.1 + 10 by omega), cs_pl (show b < S.1 + 9 by omega), cs_pl (show b < S.1 + 8 by omega), cs_pl (show b < S.1 + 7 by omega), cs_pl (show b < S.1 + 6 by omega), cs_pl (show b < S.1 + 5 by omega), cs_pl (show b < S.1 + 4 by omega), cs_pl (show b < S.1 + 3 by omega), cs_pl (show b < S.1 + 2 by omega), cs_pl (show b < S.1 + 1 by omega), cs_pl (show b < S.1 + 0 by omega)]) (fun b hb => ⟨by rw [up2_g (by omega), up2_g (by omega), up2_g (by omega), up2_g (by omega), upr_n (by omega), up2_g (by omega), up2_g (by omega), upr_n (by omega), up2_g (by omega), up2_g (by omega), upr_n (by omega), up2_g (by omega), up2_g (by omega), up2_g (by omega), upr_n (by omega), upr_n (by omega)], by rw [upr_n (by omega), upr_n (by omega), upr_n (by omega), upr_n (by omega), upr_n (by omega), upr_n (by omega)], rfl⟩) (fun a b1 b2 => by
    have h_ : a = 111 ∨ a = 112 ∨ a = 113 ∨ a = 114 ∨ a = 115 ∨ a = 116 ∨ a = 117 ∨ a = 118 ∨ a = 119 ∨ a = 120 ∨ a = 121 := by omega
    rcases h_ with h_ | h_ | h_ | h_ | h_ | h_ | h_ | h_ | h_ | h_ | h_
    · subst h_
      rw [cs_pl (show 111 < S.1 + 10 by omega), cs_pl (show 111 < S.1 + 9 by omega), cs_pl (show 111 < S.1 + 8 by omega), cs_pl (show 111 < S.1 + 7 by omega), cs_pl (show 111 < S.1 + 6 by omega), cs_pl (show 111 < S.1 + 5 by omega), cs_pl (show 111 < S.1 + 4 by omega), cs_pl (show 111 < S.1 + 3 by omega), cs_pl (show 111 < S.1 + 2 by omega), cs_pl (show 111 < S.1 + 1 by omega), cs_pe (show S.1 + 0 = 111 by omega)]
      rfl
    · subst h_
      rw [cs_pl (show 112 < S.1 + 10 by omega), cs_pl (show 112 < S.1 + 9 by omega), cs_pl (show 112 < S.1 + 8 by omega), cs_pl (show 112 < S.1 + 7 by omega), cs_pl (show 112 < S.1 + 6 by omega), cs_pl (show 112 < S.1 + 5 by omega), cs_pl (show 112 < S.1 + 4 by omega), cs_pl (show 112 < S.1 + 3 by omega), cs_pl (show 112 < S.1 + 2 by omega), cs_pe (show S.1 + 1 = 112 by omega)]
      rfl
    · subst h_
      rw [cs_pl (show 113 < S.1 + 10 by omega), cs_pl (show 113 < S.1 + 9 by omega), cs_pl (show 113 < S.1 + 8 by omega), cs_pl (show 113 < S.1 + 7 by omega), cs_pl (show 113 < S.1 + 6 by omega), cs_pl (show 113 < S.1 + 5 by omega), cs_pl (show 113 < S.1 + 4 by omega), cs_pl (show 113 < S.1 + 3 by omega), cs_pe (show S.1 + 2 = 113 by omega)]
      rfl
    · subst h_
      rw [cs_pl (show 114 < S.1 + 10 by omega), cs_pl (show 114 < S.1 + 9 by omega), cs_pl (show 114 < S.1 + 8 by omega), cs_pl (show 114 < S.1 + 7 by omega), cs_pl (show 114 < S.1 + 6 by omega), cs_pl (show 114 < S.1 + 5 by omega), cs_pl (show 114 < S.1 + 4 by omega), cs_pe (show S.1 + 3 = 114 by omega)]
      rfl
    · subst h_
      rw [cs_pl (show 115 < S.1 + 10 by omega), cs_pl (show 115 < S.1 + 9 by omega), cs_pl (show 115 < S.1 + 8 by omega), cs_pl (show 115 < S.1 + 7 by omega), cs_pl (show 115 < S.1 + 6 by omega), cs_pl (show 115 < S.1 + 5 by omega), cs_pe (show S.1 + 4 = 115 by omega)]
      rfl
    · subst h_
      rw [cs_pl (show 116 < S.1 + 10 by omega), cs_pl (show 116 < S.1 + 9 by omega), cs_pl (show 116 < S.1 + 8 by omega), cs_pl (show 116 < S.1 + 7 by omega), cs_pl (show 116 < S.1 + 6 by omega), cs_pe (show S.1 + 5 = 116 by omega)]
      rfl
    · subst h_
      rw [cs_pl (show 117 < S.1 + 10 by omega), cs_pl (show 117 < S.1 + 9 by omega), cs_pl (show 117 < S.1 + 8 by omega), cs_pl (show 117 < S.1 + 7 by omega), cs_pe (show S.1 + 6 = 117 by omega)]
      rfl
    · subst h_
      rw [cs_pl (show 118 < S.1 + 10 by omega), cs_pl (show 118 < S.1 + 9 by omega), cs_pl (show 118 < S.1 + 8 by omega), cs_pe (show S.1 + 7 = 118 by omega)]
      rfl
    · subst h_
      rw [cs_pl (show 119 < S.1 + 10 by omega), cs_pl (show 119 < S.1 + 9 by omega), cs_pe (show S.1 + 8 = 119 by omega)]
      rfl
    · subst h_
      rw [cs_pl (show 120 < S.1 + 10 by omega), cs_pe (show S.1 + 9 = 120 by omega)]
      rfl
    · subst h_
      rw [cs_pe (show S.1 + 10 = 121 by omega)]
      rfl) (fun e he b1 b2 => by
    have h_ : e ∈ [((111 : Nat), (0 : Nat), (112 : Nat)), ((111 : Nat), (2 : Nat), (114 : Nat)), ((111 : Nat), (3 : Nat), (116 : Nat)), ((111 : Nat), (4 : Nat), (118 : Nat)), ((111 : Nat), (5 : Nat), (120 : Nat)), ((111 : Nat), (6 : Nat), (121 : Nat)), ((112 : Nat), (1 : Nat), (113 : Nat)), ((114 : Nat), (1 : Nat), (115 : Nat)), ((116 : Nat), (1 : Nat), (117 : Nat)), ((118 : Nat), (1 : Nat), (119 : Nat))] := by
      revert e
      decide
    simp only [List.mem_cons, List.not_mem_nil, or_false] at h_
    rcases h_ with h_ | h_ | h_ | h_ | h_ | h_ | h_ | h_ | h_ | h_
    · subst h_
      simp [up2, upr, hl]
    · subst h_
      simp [up2, upr, hl]
    · subst h_
      simp [up2, upr, hl]
    · subst h_
      simp [up2, upr, hl]
    · subst h_
      simp [up2, upr, hl]
    · subst h_
      simp [up2, upr, hl]
    · subst h_
      simp [up2, upr, hl]
    · subst h_
      simp [up2, upr, hl]
    · subst h_
      simp [up2, upr, hl]
    · subst h_
      simp [up2, upr, hl]) (fun h1_ => absurd h1_ (by omega)) (fun h1_ => absurd h1_ (by omega)) (fun _ _ => by simp [up2, upr, hl]) (fun h1_ h2_ => absurd h2_ (by omega)) (fun h1_ h2_ => absurd h2_ (by omega))
  exact hk _ _ _ _ _ (hl ▸ hM9.pt)
theorem k_m114 {S : CS} {G : Nat → Nat → Value} {B : Nat → Nat → Int32} {J : Nat → Nat → Int64} {R : Nat → Nat → Option Nat} {Q : CQ} {F : Nat → Value} (hM : MI 122 F S G B R) (hk : ∀ S' G' B' J' R', MI 133 (fun j => if j = 12 then .ref 122 else F j) S' G' B' R' → CR 3 113 125 [some (.ref 2)] [] S' G' B' J' R' Q) : CR 3 113 114 [some (.ref 2)] [] S G B J R Q := by
  have hl := hM.1
  have hM2 := hM.o (by omega)
  have h2 : csR S.1 11 := ⟨by omega, Or.inl (by omega)⟩
  refine cr_nx (pc' := 115) (al' := [some (.ref 2)]) (st' := [.ref 2]) d_113_114 (fun _ => rfl) ?_
  refine cr_nw d_113_115 cw_113 cl_11_66 (by decide) (show 2 ≤ S.1 + 0 by have := h2.1; omega) ?_
  rw [show am_N 6 = 7 by decide +kernel]
  show CR _ _ 118 [some (.ref 2)] [.ref S.1, .ref 2] (cs_pu S (100 + 6, 7)) (upr G S.1 (fun j => defaultValue (am_ty 6 j))) B J R _
  refine cr_nx (pc' := 119) (al' := [some (.ref 2)]) (st' := [.ref S.1, .ref S.1, .ref 2]) d_113_118 (fun _ => rfl) ?_
  refine cr_ci (r := [.ref S.1, .ref 2]) (b := S.1) (as := []) (al0 := [some (.ref (S.1))]) d_113_119 cw_113 cm_11_68 (Or.inr rfl) cz_39 rfl rfl rfl (cr_wk (k' := 2) (by decide) (k_naInit ⟨(show cs_in (S.1 + 1) (S.1) from ⟨by have := h2.1; omega, by have := h2.2; omega, by omega⟩), cs_ps⟩ (show csR (S.1 + 1) 10 from ⟨by have := h2.1; omega, by have := h2.2; omega⟩))) (fun v1 S1 G1 B1 J1 R1 h1x => ?_)
  obtain ⟨q0_, q1_, q2_, q3_, q4_, q5_⟩ := h1x
  obtain rfl := q0_
  obtain rfl := q1_
  obtain rfl := q2_
  obtain rfl := q3_
  obtain rfl := q4_.symm
  obtain rfl := q5_.symm
  show CR _ _ 122 [some (.ref 2)] [.ref S.1, .ref 2] (cs_pu (cs_pu (cs_pu (cs_pu (cs_pu (cs_pu (cs_pu (cs_pu (cs_pu (cs_pu (cs_pu S (100 + 6, 7)) (100 + 10, 2)) (0, 36)) (100 + 10, 2)) (0, 36)) (100 + 10, 2)) (0, 36)) (100 + 10, 2)) (0, 36)) (0, 6)) (0, 6)) (up2 (up2 (up2 (up2 (upr (up2 (up2 (upr (up2 (up2 (upr (up2 (up2 (up2 (upr (upr G S.1 (fun j => defaultValue (am_ty 6 j))) (S.1 + 1) (fun j => defaultValue (am_ty 10 j))) (S.1 + 1) 1 (.ref (S.1 + 2))) S.1 0 (.ref (S.1 + 1))) S.1 1 (.int (-1))) (S.1 + 3) (fun j => defaultValue (am_ty 10 j))) (S.1 + 3) 1 (.ref (S.1 + 4))) S.1 2 (.ref (S.1 + 3))) (S.1 + 5) (fun j => defaultValue (am_ty 10 j))) (S.1 + 5) 1 (.ref (S.1 + 6))) S.1 3 (.ref (S.1 + 5))) (S.1 + 7) (fun j => defaultValue (am_ty 10 j))) (S.1 + 7) 1 (.ref (S.1 + 8))) S.1 4 (.ref (S.1 + 7))) S.1 5 (.ref (S.1 + 9))) S.1 6 (.ref (S.1 + 10))) (upr (upr (upr (upr (upr (upr B (S.1 + 2) (fun _ => 0)) (S.1 + 4) (fun _ => 0)) (S.1 + 6) (fun _ => 0)) (S.1 + 8) (fun _ => 0)) (S.1 + 9) (fun _ => 0)) (S.1 + 10) (fun _ => 0)) J R _
  refine cp_11_12  d_113_122 cw_113 cf_11_73 (cs_g (cs_g (cs_g (cs_g (cs_g (cs_g (cs_g (cs_g (cs_g (cs_g (cs_g hM2))))))))))).1 (cs_g (cs_g (cs_g (cs_g (cs_g (cs_g (cs_g (cs_g (cs_g (cs_g (cs_g hM2))))))))))).2 (by decide) ?_
  have hM9 : MI 133 F (cs_pu (cs_pu (cs_pu (cs_pu (cs_pu (cs_pu (cs_pu (cs_pu (cs_pu (cs_pu (cs_pu S (100 + 6, 7)) (100 + 10, 2)) (0, 36)) (100 + 10, 2)) (0, 36)) (100 + 10, 2)) (0, 36)) (100 + 10, 2)) (0, 36)) (0, 6)) (0, 6)) (up2 (up2 (up2 (up2 (upr (up2 (up2 (upr (up2 (up2 (upr (up2 (up2 (up2 (upr (upr G S.1 (fun j => defaultValue (am_ty 6 j))) (S.1 + 1) (fun j => defaultValue (am_ty 10 j))) (S.1 + 1) 1 (.ref (S.1 + 2))) S.1 0 (.ref (S.1 + 1))) S.1 1 (.int (-1))) (S.1 + 3) (fun j => defaultValue (am_ty 10 j))) (S.1 + 3) 1 (.ref (S.1 + 4))) S.1 2 (.ref (S.1 + 3))) (S.1 + 5) (fun j => defaultValue (am_ty 10 j))) (S.1 + 5) 1 (.ref (S.1 + 6))) S.1 3 (.ref (S.1 + 5))) (S.1 + 7) (fun j => defaultValue (am_ty 10 j))) (S.1 + 7) 1 (.ref (S.1 + 8))) S.1 4 (.ref (S.1 + 7))) S.1 5 (.ref (S.1 + 9))) S.1 6 (.ref (S.1 + 10))) (upr (upr (upr (upr (upr (upr B (S.1 + 2) (fun _ => 0)) (S.1 + 4) (fun _ => 0)) (S.1 + 6) (fun _ => 0)) (S.1 + 8) (fun _ => 0)) (S.1 + 9) (fun _ => 0)) (S.1 + 10) (fun _ => 0)) R := MI.st hM (by omega) (by omega) (by omega) (show S.1 + 11 = 133 by omega) (fun b hb => by rw [cs_pl (show b < S.1 + 10 by omega), cs_pl (show b < S.1 + 9 by omega), cs_pl (show b < S.1 + 8 by omega), cs_pl (show b < S.1 + 7 by omega), cs_pl (show b < S.1 + 6 by omega), cs_pl (show b < S.1 + 5 by omega), cs_pl (show b < S.1 + 4 by omega), cs_pl (show b < S.1 + 3 by omega), cs_pl (show b < S.1 + 2 by omega), cs_pl (show b < S.1 + 1 by omega), cs_pl (show b < S.1 + 0 by omega)]) (fun b hb => ⟨by rw [up2_g (by omega), up2_g (by omega), up2_g (by omega), up2_g (by omega), upr_n (by omega), up2_g (by omega), up2_g (by omega), upr_n (by omega), up2_g (by omega), up2_g (by omega), upr_n (by omega), up2_g (by omega), up2_g (by omega), up2_g (by omega), upr_n (by omega), upr_n (by omega)], by rw [upr_n (by omega), upr_n (by omega), upr_n (by omega), upr_n (by omega), upr_n (by omega), upr_n (by omega)], rfl⟩) (fun a b1 b2 => by
    have h_ : a = 122 ∨ a = 123 ∨ a = 124 ∨ a = 125 ∨ a = 126 ∨ a = 127 ∨ a = 128 ∨ a = 129 ∨ a = 130 ∨ a = 131 ∨ a = 132 := by omega
    rcases h_ with h_ | h_ | h_ | h_ | h_ | h_ | h_ | h_ | h_ | h_ | h_
    · subst h_
      rw [cs_pl (show 122 < S.1 + 10 by omega), cs_pl (show 122 < S.1 + 9 by omega), cs_pl (show 122 < S.1 + 8 by omega), cs_pl (show 122 < S.1 + 7 by omega), cs_pl (show 122 < S.1 + 6 by omega), cs_pl (show 122 < S.1 + 5 by omega), cs_pl (show 122 < S.1 + 4 by omega), cs_pl (show 122 < S.1 + 3 by omega), cs_pl (show 122 < S.1 + 2 by omega), cs_pl (show 122 < S.1 + 1 by omega), cs_pe (show S.1 + 0 = 122 by omega)]
      rfl
    · subst h_
      rw [cs_pl (show 123 < S.1 + 10 by omega), cs_pl (show 123 < S.1 + 9 by omega), cs_pl (show 123 < S.1 + 8 by omega), cs_pl (show 123 < S.1 + 7 by omega), cs_pl (show 123 < S.1 + 6 by omega), cs_pl (show 123 < S.1 + 5 by omega), cs_pl (show 123 < S.1 + 4 by omega), cs_pl (show 123 < S.1 + 3 by omega), cs_pl (show 123 < S.1 + 2 by omega), cs_pe (show S.1 + 1 = 123 by omega)]
      rfl
    · subst h_
      rw [cs_pl (show 124 < S.1 + 10 by omega), cs_pl (show 124 < S.1 + 9 by omega), cs_pl (show 124 < S.1 + 8 by omega), cs_pl (show 124 < S.1 + 7 by omega), cs_pl (show 124 < S.1 + 6 by omega), cs_pl (show 124 < S.1 + 5 by omega), cs_pl (show 124 < S.1 + 4 by omega), cs_pl (show 124 < S.1 + 3 by omega), cs_pe (show S.1 + 2 = 124 by omega)]
      rfl
    · subst h_
      rw [cs_pl (show 125 < S.1 + 10 by omega), cs_pl (show 125 < S.1 + 9 by omega), cs_pl (show 125 < S.1 + 8 by omega), cs_pl (show 125 < S.1 + 7 by omega), cs_pl (show 125 < S.1 + 6 by omega), cs_pl (show 125 < S.1 + 5 by omega), cs_pl (show 125 < S.1 + 4 by omega), cs_pe (show S.1 + 3 = 125 by omega)]
      rfl
    · subst h_
      rw [cs_pl (show 126 < S.1 + 10 by omega), cs_pl (show 126 < S.1 + 9 by omega), cs_pl (show 126 < S.1 + 8 by omega), cs_pl (show 126 < S.1 + 7 by omega), cs_pl (show 126 < S.1 + 6 by omega), cs_pl (show 126 < S.1 + 5 by omega), cs_pe (show S.1 + 4 = 126 by omega)]
      rfl
    · subst h_
      rw [cs_pl (show 127 < S.1 + 10 by omega), cs_pl (show 127 < S.1 + 9 by omega), cs_pl (show 127 < S.1 + 8 by omega), cs_pl (show 127 < S.1 + 7 by omega), cs_pl (show 127 < S.1 + 6 by omega), cs_pe (show S.1 + 5 = 127 by omega)]
      rfl
    · subst h_
      rw [cs_pl (show 128 < S.1 + 10 by omega), cs_pl (show 128 < S.1 + 9 by omega), cs_pl (show 128 < S.1 + 8 by omega), cs_pl (show 128 < S.1 + 7 by omega), cs_pe (show S.1 + 6 = 128 by omega)]
      rfl
    · subst h_
      rw [cs_pl (show 129 < S.1 + 10 by omega), cs_pl (show 129 < S.1 + 9 by omega), cs_pl (show 129 < S.1 + 8 by omega), cs_pe (show S.1 + 7 = 129 by omega)]
      rfl
    · subst h_
      rw [cs_pl (show 130 < S.1 + 10 by omega), cs_pl (show 130 < S.1 + 9 by omega), cs_pe (show S.1 + 8 = 130 by omega)]
      rfl
    · subst h_
      rw [cs_pl (show 131 < S.1 + 10 by omega), cs_pe (show S.1 + 9 = 131 by omega)]
      rfl
    · subst h_
      rw [cs_pe (show S.1 + 10 = 132 by omega)]
      rfl) (fun e he b1 b2 => by
    have h_ : e ∈ [((122 : Nat), (0 : Nat), (123 : Nat)), ((122 : Nat), (2 : Nat), (125 : Nat)), ((122 : Nat), (3 : Nat), (127 : Nat)), ((122 : Nat), (4 : Nat), (129 : Nat)), ((122 : Nat), (5 : Nat), (131 : Nat)), ((122 : Nat), (6 : Nat), (132 : Nat)), ((123 : Nat), (1 : Nat), (124 : Nat)), ((125 : Nat), (1 : Nat), (126 : Nat)), ((127 : Nat), (1 : Nat), (128 : Nat)), ((129 : Nat), (1 : Nat), (130 : Nat))] := by
      revert e
      decide
    simp only [List.mem_cons, List.not_mem_nil, or_false] at h_
    rcases h_ with h_ | h_ | h_ | h_ | h_ | h_ | h_ | h_ | h_ | h_
    · subst h_
      simp [up2, upr, hl]
    · subst h_
      simp [up2, upr, hl]
    · subst h_
      simp [up2, upr, hl]
    · subst h_
      simp [up2, upr, hl]
    · subst h_
      simp [up2, upr, hl]
    · subst h_
      simp [up2, upr, hl]
    · subst h_
      simp [up2, upr, hl]
    · subst h_
      simp [up2, upr, hl]
    · subst h_
      simp [up2, upr, hl]
    · subst h_
      simp [up2, upr, hl]) (fun h1_ => absurd h1_ (by omega)) (fun h1_ => absurd h1_ (by omega)) (fun h1_ => absurd h1_ (by omega)) (fun _ _ => by simp [up2, upr, hl]) (fun h1_ h2_ => absurd h2_ (by omega))
  exact hk _ _ _ _ _ (hl ▸ hM9.pt)
theorem k_m125 {S : CS} {G : Nat → Nat → Value} {B : Nat → Nat → Int32} {J : Nat → Nat → Int64} {R : Nat → Nat → Option Nat} {Q : CQ} {F : Nat → Value} (hM : MI 133 F S G B R) (hk : ∀ S' G' B' J' R', MI 141 (fun j => if j = 13 then .ref 133 else F j) S' G' B' R' → CR 3 113 136 [some (.ref 2)] [] S' G' B' J' R' Q) : CR 3 113 125 [some (.ref 2)] [] S G B J R Q := by
  have hl := hM.1
  have hM2 := hM.o (by omega)
  have h2 : csR S.1 8 := ⟨by omega, Or.inl (by omega)⟩
  refine cr_nx (pc' := 126) (al' := [some (.ref 2)]) (st' := [.ref 2]) d_113_125 (fun _ => rfl) ?_
  refine cr_nw d_113_126 cw_113 cl_11_76 (by decide) (show 2 ≤ S.1 + 0 by have := h2.1; omega) ?_
  rw [show am_N 8 = 9 by decide +kernel]
  show CR _ _ 129 [some (.ref 2)] [.ref S.1, .ref 2] (cs_pu S (100 + 8, 9)) (upr G S.1 (fun j => defaultValue (am_ty 8 j))) B J R _
  refine cr_nx (pc' := 130) (al' := [some (.ref 2)]) (st' := [.ref S.1, .ref S.1, .ref 2]) d_113_129 (fun _ => rfl) ?_
  refine cr_ci (r := [.ref S.1, .ref 2]) (b := S.1) (as := []) (al0 := [some (.ref (S.1))]) d_113_130 cw_113 cm_11_78 (Or.inr rfl) cz_66 rfl rfl rfl (cr_wk (k' := 2) (by decide) (k_peInit ⟨(show cs_in (S.1 + 1) (S.1) from ⟨by have := h2.1; omega, by have := h2.2; omega, by omega⟩), cs_ps⟩ (show csR (S.1 + 1) 7 from ⟨by have := h2.1; omega, by have := h2.2; omega⟩))) (fun v1 S1 G1 B1 J1 R1 h1x => ?_)
  obtain ⟨q0_, q1_, q2_, q3_, q4_, q5_⟩ := h1x
  obtain rfl := q0_
  obtain rfl := q1_
  obtain rfl := q2_
  obtain rfl := q3_
  obtain rfl := q4_.symm
  obtain rfl := q5_.symm
  show CR _ _ 133 [some (.ref 2)] [.ref S.1, .ref 2] (cs_pu (cs_pu (cs_pu (cs_pu (cs_pu (cs_pu (cs_pu (cs_pu S (100 + 8, 9)) (100 + 10, 2)) (0, 36)) (0, 6)) (0, 6)) (0, 6)) (0, 720)) (0, 720)) (up2 (up2 (up2 (up2 (up2 (up2 (up2 (upr (upr G S.1 (fun j => defaultValue (am_ty 8 j))) (S.1 + 1) (fun j => defaultValue (am_ty 10 j))) (S.1 + 1) 1 (.ref (S.1 + 2))) S.1 2 (.ref (S.1 + 1))) S.1 3 (.ref (S.1 + 3))) S.1 4 (.ref (S.1 + 4))) S.1 5 (.ref (S.1 + 5))) S.1 6 (.ref (S.1 + 6))) S.1 7 (.ref (S.1 + 7))) (upr (upr (upr (upr (upr (upr B (S.1 + 2) (fun _ => 0)) (S.1 + 3) (fun _ => 0)) (S.1 + 4) (fun _ => 0)) (S.1 + 5) (fun _ => 0)) (S.1 + 6) (fun _ => 0)) (S.1 + 7) (fun _ => 0)) J R _
  refine cp_11_13  d_113_133 cw_113 cf_11_79 (cs_g (cs_g (cs_g (cs_g (cs_g (cs_g (cs_g (cs_g hM2)))))))).1 (cs_g (cs_g (cs_g (cs_g (cs_g (cs_g (cs_g (cs_g hM2)))))))).2 (by decide) ?_
  have hM9 : MI 141 F (cs_pu (cs_pu (cs_pu (cs_pu (cs_pu (cs_pu (cs_pu (cs_pu S (100 + 8, 9)) (100 + 10, 2)) (0, 36)) (0, 6)) (0, 6)) (0, 6)) (0, 720)) (0, 720)) (up2 (up2 (up2 (up2 (up2 (up2 (up2 (upr (upr G S.1 (fun j => defaultValue (am_ty 8 j))) (S.1 + 1) (fun j => defaultValue (am_ty 10 j))) (S.1 + 1) 1 (.ref (S.1 + 2))) S.1 2 (.ref (S.1 + 1))) S.1 3 (.ref (S.1 + 3))) S.1 4 (.ref (S.1 + 4))) S.1 5 (.ref (S.1 + 5))) S.1 6 (.ref (S.1 + 6))) S.1 7 (.ref (S.1 + 7))) (upr (upr (upr (upr (upr (upr B (S.1 + 2) (fun _ => 0)) (S.1 + 3) (fun _ => 0)) (S.1 + 4) (fun _ => 0)) (S.1 + 5) (fun _ => 0)) (S.1 + 6) (fun _ => 0)) (S.1 + 7) (fun _ => 0)) R := MI.st hM (by omega) (by omega) (by omega) (show S.1 + 8 = 141 by omega) (fun b hb => by rw [cs_pl (show b < S.1 + 7 by omega), cs_pl (show b < S.1 + 6 by omega), cs_pl (show b < S.1 + 5 by omega), cs_pl (show b < S.1 + 4 by omega), cs_pl (show b < S.1 + 3 by omega), cs_pl (show b < S.1 + 2 by omega), cs_pl (show b < S.1 + 1 by omega), cs_pl (show b < S.1 + 0 by omega)]) (fun b hb => ⟨by rw [up2_g (by omega), up2_g (by omega), up2_g (by omega), up2_g (by omega), up2_g (by omega), up2_g (by omega), up2_g (by omega), upr_n (by omega), upr_n (by omega)], by rw [upr_n (by omega), upr_n (by omega), upr_n (by omega), upr_n (by omega), upr_n (by omega), upr_n (by omega)], rfl⟩) (fun a b1 b2 => by
    have h_ : a = 133 ∨ a = 134 ∨ a = 135 ∨ a = 136 ∨ a = 137 ∨ a = 138 ∨ a = 139 ∨ a = 140 := by omega
    rcases h_ with h_ | h_ | h_ | h_ | h_ | h_ | h_ | h_
    · subst h_
      rw [cs_pl (show 133 < S.1 + 7 by omega), cs_pl (show 133 < S.1 + 6 by omega), cs_pl (show 133 < S.1 + 5 by omega), cs_pl (show 133 < S.1 + 4 by omega), cs_pl (show 133 < S.1 + 3 by omega), cs_pl (show 133 < S.1 + 2 by omega), cs_pl (show 133 < S.1 + 1 by omega), cs_pe (show S.1 + 0 = 133 by omega)]
      rfl
    · subst h_
      rw [cs_pl (show 134 < S.1 + 7 by omega), cs_pl (show 134 < S.1 + 6 by omega), cs_pl (show 134 < S.1 + 5 by omega), cs_pl (show 134 < S.1 + 4 by omega), cs_pl (show 134 < S.1 + 3 by omega), cs_pl (show 134 < S.1 + 2 by omega), cs_pe (show S.1 + 1 = 134 by omega)]
      rfl
    · subst h_
      rw [cs_pl (show 135 < S.1 + 7 by omega), cs_pl (show 135 < S.1 + 6 by omega), cs_pl (show 135 < S.1 + 5 by omega), cs_pl (show 135 < S.1 + 4 by omega), cs_pl (show 135 < S.1 + 3 by omega), cs_pe (show S.1 + 2 = 135 by omega)]
      rfl
    · subst h_
      rw [cs_pl (show 136 < S.1 + 7 by omega), cs_pl (show 136 < S.1 + 6 by omega), cs_pl (show 136 < S.1 + 5 by omega), cs_pl (show 136 < S.1 + 4 by omega), cs_pe (show S.1 + 3 = 136 by omega)]
      rfl
    · subst h_
      rw [cs_pl (show 137 < S.1 + 7 by omega), cs_pl (show 137 < S.1 + 6 by omega), cs_pl (show 137 < S.1 + 5 by omega), cs_pe (show S.1 + 4 = 137 by omega)]
      rfl
    · subst h_
      rw [cs_pl (show 138 < S.1 + 7 by omega), cs_pl (show 138 < S.1 + 6 by omega), cs_pe (show S.1 + 5 = 138 by omega)]
      rfl
    · subst h_
      rw [cs_pl (show 139 < S.1 + 7 by omega), cs_pe (show S.1 + 6 = 139 by omega)]
      rfl
    · subst h_
      rw [cs_pe (show S.1 + 7 = 140 by omega)]
      rfl) (fun e he b1 b2 => by
    have h_ : e ∈ [((133 : Nat), (2 : Nat), (134 : Nat)), ((133 : Nat), (3 : Nat), (136 : Nat)), ((133 : Nat), (4 : Nat), (137 : Nat)), ((133 : Nat), (5 : Nat), (138 : Nat)), ((133 : Nat), (6 : Nat), (139 : Nat)), ((133 : Nat), (7 : Nat), (140 : Nat)), ((134 : Nat), (1 : Nat), (135 : Nat))] := by
      revert e
      decide
    simp only [List.mem_cons, List.not_mem_nil, or_false] at h_
    rcases h_ with h_ | h_ | h_ | h_ | h_ | h_ | h_
    · subst h_
      simp [up2, upr, hl]
    · subst h_
      simp [up2, upr, hl]
    · subst h_
      simp [up2, upr, hl]
    · subst h_
      simp [up2, upr, hl]
    · subst h_
      simp [up2, upr, hl]
    · subst h_
      simp [up2, upr, hl]
    · subst h_
      simp [up2, upr, hl]) (fun h1_ => absurd h1_ (by omega)) (fun h1_ => absurd h1_ (by omega)) (fun h1_ => absurd h1_ (by omega)) (fun h1_ => absurd h1_ (by omega)) (fun h1_ h2_ => absurd h2_ (by omega))
  exact hk _ _ _ _ _ (hl ▸ hM9.pt)
theorem k_m136 {S : CS} {G : Nat → Nat → Value} {B : Nat → Nat → Int32} {J : Nat → Nat → Int64} {R : Nat → Nat → Option Nat} {Q : CQ} {F : Nat → Value} (hM : MI 141 F S G B R) (hk : ∀ S' G' B' J' R', MI 145 (fun j => if j = 14 then .ref 141 else F j) S' G' B' R' → CR 3 113 147 [some (.ref 2)] [] S' G' B' J' R' Q) : CR 3 113 136 [some (.ref 2)] [] S G B J R Q := by
  have hl := hM.1
  have hM2 := hM.o (by omega)
  have h2 : csR S.1 4 := ⟨by omega, Or.inl (by omega)⟩
  refine cr_nx (pc' := 137) (al' := [some (.ref 2)]) (st' := [.ref 2]) d_113_136 (fun _ => rfl) ?_
  refine cr_nw d_113_137 cw_113 cl_11_83 (by decide) (show 2 ≤ S.1 + 0 by have := h2.1; omega) ?_
  rw [show am_N 1 = 3 by decide +kernel]
  show CR _ _ 140 [some (.ref 2)] [.ref S.1, .ref 2] (cs_pu S (100 + 1, 3)) (upr G S.1 (fun j => defaultValue (am_ty 1 j))) B J R _
  refine cr_nx (pc' := 141) (al' := [some (.ref 2)]) (st' := [.ref S.1, .ref S.1, .ref 2]) d_113_140 (fun _ => rfl) ?_
  refine cr_ci (r := [.ref S.1, .ref 2]) (b := S.1) (as := []) (al0 := [some (.ref (S.1))]) d_113_141 cw_113 cm_11_85 (Or.inr rfl) cz_9 rfl rfl rfl (cr_wk (k' := 2) (by decide) (k_crInit ⟨(show cs_in (S.1 + 1) (S.1) from ⟨by have := h2.1; omega, by have := h2.2; omega, by omega⟩), cs_ps⟩ (show csR (S.1 + 1) 3 from ⟨by have := h2.1; omega, by have := h2.2; omega⟩))) (fun v1 S1 G1 B1 J1 R1 h1x => ?_)
  obtain ⟨q0_, q1_, q2_, q3_, q4_, q5_⟩ := h1x
  obtain rfl := q0_
  obtain rfl := q1_
  obtain rfl := q2_
  obtain rfl := q3_
  obtain rfl := q4_
  obtain rfl := q5_.symm
  show CR _ _ 144 [some (.ref 2)] [.ref S.1, .ref 2] (cs_pu (cs_pu (cs_pu (cs_pu S (100 + 1, 3)) (100 + 10, 2)) (0, 36)) (3, 720)) (up2 (up2 (up2 (upr (upr G S.1 (fun j => defaultValue (am_ty 1 j))) (S.1 + 1) (fun j => defaultValue (am_ty 10 j))) (S.1 + 1) 1 (.ref (S.1 + 2))) S.1 0 (.ref (S.1 + 1))) S.1 1 (.ref (S.1 + 3))) (upr B (S.1 + 2) (fun _ => 0)) (upr J (S.1 + 3) (fun _ => 0)) R _
  refine cp_11_14  d_113_144 cw_113 cf_11_86 (cs_g (cs_g (cs_g (cs_g hM2)))).1 (cs_g (cs_g (cs_g (cs_g hM2)))).2 (by decide) ?_
  have hM9 : MI 145 F (cs_pu (cs_pu (cs_pu (cs_pu S (100 + 1, 3)) (100 + 10, 2)) (0, 36)) (3, 720)) (up2 (up2 (up2 (upr (upr G S.1 (fun j => defaultValue (am_ty 1 j))) (S.1 + 1) (fun j => defaultValue (am_ty 10 j))) (S.1 + 1) 1 (.ref (S.1 + 2))) S.1 0 (.ref (S.1 + 1))) S.1 1 (.ref (S.1 + 3))) (upr B (S.1 + 2) (fun _ => 0)) R := MI.st hM (by omega) (by omega) (by omega) (show S.1 + 4 = 145 by omega) (fun b hb => by rw [cs_pl (show b < S.1 + 3 by omega), cs_pl (show b < S.1 + 2 by omega), cs_pl (show b < S.1 + 1 by omega), cs_pl (show b < S.1 + 0 by omega)]) (fun b hb => ⟨by rw [up2_g (by omega), up2_g (by omega), up2_g (by omega), upr_n (by omega), upr_n (by omega)], by rw [upr_n (by omega)], rfl⟩) (fun a b1 b2 => by
    have h_ : a = 141 ∨ a = 142 ∨ a = 143 ∨ a = 144 := by omega
    rcases h_ with h_ | h_ | h_ | h_
    · subst h_
      rw [cs_pl (show 141 < S.1 + 3 by omega), cs_pl (show 141 < S.1 + 2 by omega), cs_pl (show 141 < S.1 + 1 by omega), cs_pe (show S.1 + 0 = 141 by omega)]
      rfl
    · subst h_
      rw [cs_pl (show 142 < S.1 + 3 by omega), cs_pl (show 142 < S.1 + 2 by omega), cs_pe (show S.1 + 1 = 142 by omega)]
      rfl
    · subst h_
      rw [cs_pl (show 143 < S.1 + 3 by omega), cs_pe (show S.1 + 2 = 143 by omega)]
      rfl
    · subst h_
      rw [cs_pe (show S.1 + 3 = 144 by omega)]
      rfl) (fun e he b1 b2 => by
    have h_ : e ∈ [((141 : Nat), (1 : Nat), (144 : Nat)), ((142 : Nat), (1 : Nat), (143 : Nat))] := by
      revert e
      decide
    simp only [List.mem_cons, List.not_mem_nil, or_false] at h_
    rcases h_ with h_ | h_
    · subst h_
      simp [up2, upr, hl]
    · subst h_
      simp [up2, upr, hl]) (fun h1_ => absurd h1_ (by omega)) (fun h1_ => absurd h1_ (by omega)) (fun h1_ => absurd h1_ (by omega)) (fun h1_ => absurd h1_ (by omega)) (fun h1_ h2_ => absurd h2_ (by omega))
  exact hk _ _ _ _ _ (hl ▸ hM9.pt)
theorem k_m147 {S : CS} {G : Nat → Nat → Value} {B : Nat → Nat → Int32} {J : Nat → Nat → Int64} {R : Nat → Nat → Option Nat} {Q : CQ} {F : Nat → Value} (hM : MI 145 F S G B R) (hk : ∀ S' G' B' J' R', MI 146 (fun j => if j = 15 then .ref 145 else F j) S' G' B' R' → CR 3 113 155 [some (.ref 2)] [] S' G' B' J' R' Q) : CR 3 113 147 [some (.ref 2)] [] S G B J R Q := by
  have hl := hM.1
  have hM2 := hM.o (by omega)
  have h2 : csR S.1 1 := ⟨by omega, Or.inl (by omega)⟩
  refine cr_nx (pc' := 148) (al' := [some (.ref 2)]) (st' := [.ref 2]) d_113_147 (fun _ => rfl) ?_
  refine cn_bp (v := 7) d_113_148 (by decide) ?_
  refine cr_na d_113_150 (by decide) (show 2 ≤ S.1 + 0 by have := h2.1; omega) ?_
  show CR _ _ 152 [some (.ref 2)] [.ref S.1, .ref 2] (cs_pu S (0, 7)) G (upr B S.1 (fun _ => 0)) J R _
  refine cp_11_15  d_113_152 cw_113 cf_11_90 (cs_g hM2).1 (cs_g hM2).2 (by decide) ?_
  have hM9 : MI 146 F (cs_pu S (0, 7)) G (upr B S.1 (fun _ => 0)) R := MI.st hM (by omega) (by omega) (by omega) (show S.1 + 1 = 146 by omega) (fun b hb => by rw [cs_pl (show b < S.1 + 0 by omega)]) (fun b hb => ⟨rfl, by rw [upr_n (by omega)], rfl⟩) (fun a b1 b2 => by
    have h_ : a = 145 := by omega
    rcases h_ with h_
    · subst h_
      rw [cs_pe (show S.1 + 0 = 145 by omega)]
      rfl) (fun e he b1 b2 => by
    have h_ : False := by
      revert e
      decide
    exact h_.elim) (fun h1_ => absurd h1_ (by omega)) (fun h1_ => absurd h1_ (by omega)) (fun h1_ => absurd h1_ (by omega)) (fun h1_ => absurd h1_ (by omega)) (fun _ _ e => by simp [upr, hl]; rfl)
  exact hk _ _ _ _ _ (hl ▸ hM9.pt)
theorem k_m4 {S : CS} {G : Nat → Nat → Value} {B : Nat → Nat → Int32} {J : Nat → Nat → Int64} {R : Nat → Nat → Option Nat} {Q : CQ} (hS : S.1 = 3) (hs2 : S.2 2 = (111, 17)) (hk : ∀ S' G' B' J' R', MI 81 (fun j => if j = 0 then .ref 3 else G 2 j) S' G' B' R' → CR 3 113 15 [some (.ref 2)] [] S' G' B' J' R' Q) : CR 3 113 4 [some (.ref 2)] [] S G B J R Q := by
  have hM2 : cs_in S.1 2 ∧ S.2 2 = (100 + 11, 17) := ⟨⟨by decide, Or.inl (by decide), by omega⟩, hs2⟩
  refine cr_nx (pc' := 5) (al' := [some (.ref 2)]) (st' := [.ref 2]) d_113_4 (fun _ => rfl) ?_
  refine cr_nw d_113_5 cw_113 cl_11_7 (by decide) (by omega) ?_
  rw [show am_N 9 = 9 by decide +kernel, hS]
  refine cr_nx (pc' := 9) (al' := [some (.ref 2)]) (st' := [.ref 3, .ref 3, .ref 2]) d_113_8 (fun _ => rfl) ?_
  refine cr_ci (r := [.ref 3, .ref 2]) (b := 3) (as := []) (al0 := [some (.ref 3), none]) d_113_9 cw_113 cm_11_9 (Or.inl rfl) cz_80 rfl rfl rfl (cr_wk (show 1 ≤ 2 by decide) (k_stInit (a := 3) ⟨⟨by decide, Or.inl (by decide), by show 3 < S.1 + 1; omega⟩, cs_pe hS⟩ (by show S.1 + 1 = 3 + 1; omega) upr_s ⟨by show 2 ≤ S.1 + 1; omega, Or.inl (by show S.1 + 1 + 77 ≤ 146; omega)⟩)) (fun v1 S1 G1 B1 J1 R1 h1x => ?_)
  obtain ⟨q0_, q1_, hst⟩ := h1x
  obtain rfl := q0_
  obtain ⟨c1, c2, c3, c4⟩ := hst.co ⟨by decide, Or.inl (by decide)⟩ (cs_pe hS)
  have hlo := hst.2.2.2.1 2 (by decide)
  rw [upr_n (by decide)] at hlo
  have hsl : S1.2 2 = (111, 17) := by
    rw [hst.2.1 2 (by decide), cs_pl (by omega)]
    exact hs2
  have h9 : MI 81 (G 2) S1 G1 B1 R1 := by
    refine ⟨hst.1, fun a b1 b2 => ?_, fun e he b1 b2 => ?_, fun k => by rw [hlo.1], ⟨c3, c4⟩, fun q => absurd q (by decide), fun q => absurd q (by decide), fun q => absurd q (by decide), fun q => absurd q (by decide), fun q => absurd q (by decide)⟩
    · by_cases e : a = 2
      · rw [e, hsl]
        rfl
      · have := (c1 (a - 3) (by omega)).2
        rw [show 3 + (a - 3) = a by omega, show a - 3 + 1 = a - 2 by omega] at this
        exact this
    · have h_ : e = (3, 0, 4) ∨ e = (3, 1, 5) ∨ e = (3, 4, 6) ∨ e = (3, 5, 7) ∨ e = (3, 6, 8) := by
        revert e
        decide
      obtain ⟨g0, g1, g4, g5, g6⟩ := c2
      rcases h_ with h_ | h_ | h_ | h_ | h_ <;> subst h_
      · exact g0
      · exact g1
      · exact g4
      · exact g5
      · exact g6
  show CR 3 113 12 [some (.ref 2)] [.ref 3, .ref 2] S1 G1 B1 J1 R1 Q
  refine cp_11_0 d_113_12 cw_113 cf_11_10 (h9.o (by decide)).1 (h9.o (by decide)).2 (by decide) ?_
  exact hk _ _ _ _ _ h9.pt
theorem k_m43 {S : CS} {G : Nat → Nat → Value} {B : Nat → Nat → Int32} {J : Nat → Nat → Int64} {R : Nat → Nat → Option Nat} {Q : CQ} {F : Nat → Value} (hM : MI 86 F S G B R) (hk : ∀ S' G' B' J' R', MI 86 (fun j => if j = 5 then .int (-1) else F j) S' G' B' R' → CR 3 113 48 [some (.ref 2)] [] S' G' B' J' R' Q) : CR 3 113 43 [some (.ref 2)] [] S G B J R Q := by
  have hM2 := hM.o (by omega)
  refine cr_nx (pc' := 44) (al' := [some (.ref 2)]) (st' := [.ref 2]) d_113_43 (fun _ => rfl) ?_
  refine cr_nx (pc' := 45) (al' := [some (.ref 2)]) (st' := [.int (-1), .ref 2]) d_113_44 (fun _ => rfl) ?_
  refine cp_11_5  d_113_45 cw_113 cf_11_31 hM2.1 hM2.2 (by decide) ?_
  exact hk _ _ _ _ _ hM.pt
def mF (j : Nat) : Value := if j = 15 then .ref 145 else if j = 14 then .ref 141 else if j = 13 then .ref 133 else if j = 12 then .ref 122 else if j = 11 then .ref 111 else if j = 10 then .ref 107 else if j = 9 then .ref 96 else if j = 8 then .ref 90 else if j = 7 then .ref 88 else if j = 6 then .ref 86 else if j = 5 then .int (-1) else if j = 4 then .ref 83 else if j = 2 then .ref 82 else if j = 1 then .ref 81 else if j = 0 then .ref 3 else defaultValue (am_ty 11 j)
theorem k_init {S : CS} {G : Nat → Nat → Value} {B : Nat → Nat → Int32} {J : Nat → Nat → Int64} {R : Nat → Nat → Option Nat} (hS : S.1 = 3) (hs2 : S.2 2 = (111, 17)) (hG : G 2 = fun j => defaultValue (am_ty 11 j)) : CR 3 113 0 [some (.ref 2)] [] S G B J R (fun r S' G' B' J' R' => r = none ∧ MI 146 mF S' G' B' R') := by
  refine cr_nx (pc' := 1) (al' := [some (.ref 2)]) (st' := [.ref 2]) d_113_0 (fun _ => rfl) ?_
  refine cr_oi d_113_1 cw_113 cm_11_1 rfl ?_
  refine k_m4 hS hs2 (fun S0 G0 B0 J0 R0 h0 => ?_)
  refine k_m15 h0 (fun S1 G1 B1 J1 R1 h1 => ?_)
  refine k_m23 h1 (fun S2 G2 B2 J2 R2 h2 => ?_)
  refine k_m32 h2 (fun S3 G3 B3 J3 R3 h3 => ?_)
  refine k_m43 h3 (fun S4 G4 B4 J4 R4 h4 => ?_)
  refine k_m48 h4 (fun S5 G5 B5 J5 R5 h5 => ?_)
  refine k_m59 h5 (fun S6 G6 B6 J6 R6 h6 => ?_)
  refine k_m70 h6 (fun S7 G7 B7 J7 R7 h7 => ?_)
  refine k_m81 h7 (fun S8 G8 B8 J8 R8 h8 => ?_)
  refine k_m92 h8 (fun S9 G9 B9 J9 R9 h9 => ?_)
  refine k_m103 h9 (fun S10 G10 B10 J10 R10 h10 => ?_)
  refine k_m114 h10 (fun S11 G11 B11 J11 R11 h11 => ?_)
  refine k_m125 h11 (fun S12 G12 B12 J12 R12 h12 => ?_)
  refine k_m136 h12 (fun S13 G13 B13 J13 R13 h13 => ?_)
  refine k_m147 h13 (fun S14 G14 B14 J14 R14 h14 => ?_)
  refine cr_rv d_113_155 cx_113 ⟨rfl, ?_⟩
  rw [hG] at h14
  exact h14
