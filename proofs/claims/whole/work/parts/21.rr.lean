/-! THE REFERENCE: its object at 146, its rows at 147 + j; g its numbers by the field, A its rows; printed by wip/whole/gen_rr.py. -/
def rf_M (g : Nat → Int32) : List Value := [.int (g 0), .int (g 1), .ref 147, .ref 148, .ref 149, .ref 150, .int (g 6), .ref 151, .int (g 8), .ref 152, .ref 153, .ref 154, .ref 155, .int (g 13), .int (g 14), .ref 156, .ref 157, .ref 158, .int (g 18), .int (g 19), .int (g 20), .int (g 21), .int (g 22), .ref 159, .int (g 24), .int (g 25), .int (g 26), .int (g 27), .int (g 28), .int (g 29), .ref 160, .ref 161, .ref 162, .ref 163, .ref 164, .ref 165, .ref 166, .ref 167, .int (g 38), .ref 168, .int (g 40), .ref 169, .ref 170, .ref 171, .int (g 44), .int (g 45), .int (g 46), .int (g 47), .int (g 48), .ref 172, .int (g 50), .int (g 51), .int (g 52), .int (g 53), .int (g 54), .ref 173, .int (g 56), .int (g 57)]
def rf_k : List Nat := [0, 0, 0, 2, 0, 0, 1, 1, 0, 0, 0, 0, 0, 0, 0, 2, 0, 0, 0, 0, 0, 0, 0, 0, 0, 0, 0]
def rf_n : List Nat := [7, 5720, 11440, 2, 36, 36, 11, 400, 5, 401, 401, 401, 5, 6, 6, 720, 720, 6, 6, 36, 36, 720, 6, 6, 6, 36, 36]
-- rows: 0 refused, 1 kept, 2 images, 3 hasImage, 4 cells, 5 made, 6 words, 7 tape, 8 five, 9 code, 10 value, 11 placed, 12 letter, 13 images0, 14 classes, 15 isIn, 16 order, 17 first, 18 second, 19 best, 20 other, 21 across, 22 taken, 23 rows, 24 columns, 25 told, 26 walked
def rf_c (A : Nat → Nat → Int32) (j : Nat) : AC := .inl (rf_k.getD j 0, rf_n.getD j 0, .inl (A j))
def RefAt (h : AH) (g : Nat → Int32) (A : Nat → Nat → Int32) : Prop := h[146]? = some (.inr (12, rf_M g)) ∧ ∀ j : Nat, j < 27 → h[147 + j]? = some (rf_c A j)
/-- nothing but the reference's cells has changed -/
def RefFr (h h' : AH) : Prop := h'.length = h.length ∧ ∀ b : Nat, (b < 146 ∨ 174 ≤ b) → h'[b]? = h[b]?
theorem RefFr.rf {h : AH} : RefFr h h := ⟨rfl, fun _ _ => rfl⟩
theorem RefFr.tr {a b c : AH} (h1 : RefFr a b) (h2 : RefFr b c) : RefFr a c := ⟨h2.1.trans h1.1, fun q hq => (h2.2 q hq).trans (h1.2 q hq)⟩
def rf_u (A : Nat → Nat → Int32) (j : Nat) (f : Nat → Int32) : Nat → Nat → Int32 := fun i => if i = j then f else A i
theorem rf_u_s {A : Nat → Nat → Int32} {j : Nat} {f : Nat → Int32} : rf_u A j f j = f := if_pos rfl
theorem rf_u_n {A : Nat → Nat → Int32} {j i : Nat} {f : Nat → Int32} (h : i ≠ j) : rf_u A j f i = A i := if_neg h
theorem rf_u_u {A : Nat → Nat → Int32} {j : Nat} {f f' : Nat → Int32} : rf_u (rf_u A j f) j f' = rf_u A j f' := by
  funext i
  unfold rf_u
  by_cases h : i = j <;> simp [h]
theorem RefAt.set {h : AH} {g : Nat → Int32} {A : Nat → Nat → Int32} (hr : RefAt h g A) {j : Nat} (hj : j < 27) (f : Nat → Int32) : RefAt (h.set (147 + j) (.inl (rf_k.getD j 0, rf_n.getD j 0, .inl f))) g (rf_u A j f) ∧ RefFr h (h.set (147 + j) (.inl (rf_k.getD j 0, rf_n.getD j 0, .inl f))) := by
  have hl : 147 + j < h.length := (List.getElem?_eq_some_iff.mp (hr.2 j hj)).1
  refine ⟨⟨by rw [List.getElem?_set_ne (by omega)]; exact hr.1, fun i hi => ?_⟩, by rw [List.length_set], fun b hb => by rw [List.getElem?_set_ne (by omega)]⟩
  by_cases e : i = j
  · subst e
    rw [List.getElem?_set_self hl]
    simp [rf_c, rf_u]
  · rw [List.getElem?_set_ne (by omega), hr.2 i hi]
    simp [rf_c, rf_u, e]
theorem RefAt.put {h : AH} {g g' : Nat → Int32} {A : Nat → Nat → Int32} (hr : RefAt h g A) : RefAt (h.set 146 (.inr (12, rf_M g'))) g' A ∧ RefFr h (h.set 146 (.inr (12, rf_M g'))) := by
  have hl : 146 < h.length := (List.getElem?_eq_some_iff.mp hr.1).1
  exact ⟨⟨by rw [List.getElem?_set_self hl], fun i hi => by rw [List.getElem?_set_ne (by omega)]; exact hr.2 i hi⟩, by rw [List.length_set], fun b hb => by rw [List.getElem?_set_ne (by omega)]⟩
def RR (k y pc : Nat) (al : AL) (st : List Value) (g : Nat → Int32) (A : Nat → Nat → Int32) (Q : Option Value → (Nat → Int32) → (Nat → Nat → Int32) → Prop) : Prop :=
  ∀ h : AH, RefAt h g A → RN k y pc al st h (fun r h' => ∃ (g' : Nat → Int32) (A' : Nat → Nat → Int32), RefAt h' g' A' ∧ RefFr h h' ∧ Q r g' A')
section RR
variable {k y pc pc' len : Nat} {al al' : AL} {st st' r : List Value} {g g1 : Nat → Int32} {A A1 : Nat → Nat → Int32} {Q P : Option Value → (Nat → Int32) → (Nat → Nat → Int32) → Prop} {i : Instr}
theorem rr_wk {k' : Nat} (hk : k ≤ k') (kk : RR k y pc al st g A Q) : RR k' y pc al st g A Q := fun h hr => rn_wk hk (kk h hr)
theorem rr_cq (kk : RR k y pc al st g A P) (hq : ∀ r g' A', P r g' A' → Q r g' A') : RR k y pc al st g A Q := fun h hr => rn_cq (kk h hr) (fun r h' ⟨g', A', a, b, c⟩ => ⟨g', A', a, b, hq r g' A' c⟩)
theorem rr_nx (hd : decode (am_b y) pc = .ok (i, len)) (hs : ∀ h, am_ins y i len pc al st h = some (.inl (pc', al', st', h))) (kk : RR k y pc' al' st' g A Q) : RR k y pc al st g A Q := fun h hr => rn_nx hd (hs h) (kk h hr)
theorem rr_mv {h h1 : AH} (hf : RefFr h h1) (kk : RN k y pc al st h1 (fun r h' => ∃ (g' : Nat → Int32) (A' : Nat → Nat → Int32), RefAt h' g' A' ∧ RefFr h1 h' ∧ Q r g' A')) : RN k y pc al st h1 (fun r h' => ∃ (g' : Nat → Int32) (A' : Nat → Nat → Int32), RefAt h' g' A' ∧ RefFr h h' ∧ Q r g' A') := rn_cq kk (fun r h' ⟨g', A', a, b, c⟩ => ⟨g', A', a, hf.tr b, c⟩)
/-- a field is read -/
theorem rr_gf {x j : Nat} {v : Value} (hd : decode (am_b y) pc = .ok (.getfield x, 3)) (ho : am_o y = 12) (hl : am_fl 12 x = some (12, j)) (hv : (rf_M g)[j]? = some v) (kk : RR k y (pc + 3) al (v :: r) g A Q) : RR k y pc al (.ref 146 :: r) g A Q := by
  intro h hr
  refine rn_nx hd ?_ (kk h hr)
  show (if 3 = 3 then am_gf (am_o y) x pc al (.ref 146 :: r) h else none) = _
  rw [if_pos rfl, ho]
  simp only [am_gf, hl, Option.bind_some, hr.1, hv]
  rfl
/-- a number is written -/
theorem rr_pf {x j : Nat} {v : Int32} (hd : decode (am_b y) pc = .ok (.putfield x, 3)) (ho : am_o y = 12) (hl : am_fl 12 x = some (12, j)) (hj : j < 58) (hn : narrow (am_ty 12 j) (.int v) = .int v) (hf : fits (am_ty 12 j) (.int v) = true) (hfin : (am_T 12 j).2.2.2 = false) (hM : (rf_M g).set j (.int v) = rf_M g1) (kk : RR k y (pc + 3) al r g1 A Q) : RR k y pc al (.int v :: .ref 146 :: r) g A Q := by
  intro h hr
  obtain ⟨a, b⟩ := hr.put (g' := g1)
  refine rn_nx hd ?_ (rr_mv b (kk _ a))
  show (if 3 = 3 then am_pf y (am_o y) x pc al (.int v :: .ref 146 :: r) h else none) = _
  rw [if_pos rfl, ho]
  simp only [am_pf, hl, Option.bind_some, hr.1]
  rw [if_pos ⟨by decide, trivial, hj, hn, hf, Or.inl hfin⟩, hM]
  rfl
theorem am_in_n {i n : Nat} (h : i < n) (hn : n ≤ 100000) : am_in (nI i) n = true := by
  have h1 : ¬ nI i < 0 := nI_pos (by omega)
  have h2 : ¬ n ≤ (nI i).toNatClampNeg := by rw [nI_clamp (by omega)]; omega
  simp [am_in, h1, h2]
/-- a row is read -/
theorem rr_ia {j i : Nat} {v : Int32} (hd : decode (am_b y) pc = .ok (.iaload, 1)) (hj : j < 27) (hk : rf_k.getD j 0 = 0) (hn : rf_n.getD j 0 ≤ 100000) (hi : i < rf_n.getD j 0) (hv : A j i = v) (kk : RR k y (pc + 1) al (.int v :: r) g A Q) : RR k y pc al (.int (nI i) :: .ref (147 + j) :: r) g A Q := by
  subst hv
  intro h hr
  refine rn_nx hd ?_ (kk h hr)
  show (if 1 = 1 then am_ia pc al (.int (nI i) :: .ref (147 + j) :: r) h else none) = _
  rw [if_pos rfl]
  simp only [am_ia, hr.2 j hj, rf_c, hk]
  rw [if_pos (am_in_n hi hn), nI_clamp (by omega)]
  rfl
theorem rr_ba {j i : Nat} {v : Int32} (hd : decode (am_b y) pc = .ok (.baload, 1)) (hj : j < 27) (hk : rf_k.getD j 0 = 1 ∨ rf_k.getD j 0 = 2) (hn : rf_n.getD j 0 ≤ 100000) (hi : i < rf_n.getD j 0) (hv : A j i = v) (kk : RR k y (pc + 1) al (.int v :: r) g A Q) : RR k y pc al (.int (nI i) :: .ref (147 + j) :: r) g A Q := by
  subst hv
  intro h hr
  refine rn_nx hd ?_ (kk h hr)
  show (if 1 = 1 then am_ba pc al (.int (nI i) :: .ref (147 + j) :: r) h else none) = _
  rw [if_pos rfl]
  rcases hk with hk | hk
  all_goals
    simp only [am_ba, hr.2 j hj, rf_c, hk]
    rw [if_pos ⟨Nat.le_trans (by decide : 2 ≤ 147) (Nat.le_add_right 147 j), am_in_n hi hn⟩, nI_clamp (by omega)]
    rfl
/-- a row is written -/
theorem rr_iS {j i : Nat} {v : Int32} {A1 : Nat → Nat → Int32} (hd : decode (am_b y) pc = .ok (.iastore, 1)) (hj : j < 27) (hk : rf_k.getD j 0 = 0) (hn : rf_n.getD j 0 ≤ 100000) (hi : i < rf_n.getD j 0) (hA : rf_u A j (upd (A j) i v) = A1) (kk : RR k y (pc + 1) al r g A1 Q) : RR k y pc al (.int v :: .int (nI i) :: .ref (147 + j) :: r) g A Q := by
  subst hA
  intro h hr
  obtain ⟨a, b⟩ := hr.set hj (upd (A j) i v)
  refine rn_nx hd ?_ (rr_mv b (kk _ a))
  show (if 1 = 1 then am_iS pc al (.int v :: .int (nI i) :: .ref (147 + j) :: r) h else none) = _
  rw [if_pos rfl]
  simp only [am_iS, hr.2 j hj, rf_c, hk]
  rw [if_pos ⟨Nat.le_trans (by decide : 2 ≤ 147) (Nat.le_add_right 147 j), am_in_n hi hn⟩, nI_clamp (by omega)]
  rfl
theorem rr_bS {j i : Nat} {v : Int32} {A1 : Nat → Nat → Int32} (hd : decode (am_b y) pc = .ok (.bastore, 1)) (hj : j < 27) (hk : rf_k.getD j 0 = 1) (hn : rf_n.getD j 0 ≤ 100000) (hi : i < rf_n.getD j 0) (hA : rf_u A j (upd (A j) i (vp_nar .byte v)) = A1) (kk : RR k y (pc + 1) al r g A1 Q) : RR k y pc al (.int v :: .int (nI i) :: .ref (147 + j) :: r) g A Q := by
  subst hA
  intro h hr
  obtain ⟨a, b⟩ := hr.set hj (upd (A j) i (vp_nar .byte v))
  refine rn_nx hd ?_ (rr_mv b (kk _ a))
  show (if 1 = 1 then am_bS pc al (.int v :: .int (nI i) :: .ref (147 + j) :: r) h else none) = _
  rw [if_pos rfl]
  simp only [am_bS, hr.2 j hj, rf_c, hk]
  rw [if_pos ⟨Nat.le_trans (by decide : 2 ≤ 147) (Nat.le_add_right 147 j), am_in_n hi hn⟩, nI_clamp (by omega)]
  rfl
theorem rr_zS {j i : Nat} {v : Int32} {A1 : Nat → Nat → Int32} (hd : decode (am_b y) pc = .ok (.bastore, 1)) (hj : j < 27) (hk : rf_k.getD j 0 = 2) (hn : rf_n.getD j 0 ≤ 100000) (hi : i < rf_n.getD j 0) (hA : rf_u A j (upd (A j) i (vp_nar .boolean v)) = A1) (kk : RR k y (pc + 1) al r g A1 Q) : RR k y pc al (.int v :: .int (nI i) :: .ref (147 + j) :: r) g A Q := by
  subst hA
  intro h hr
  obtain ⟨a, b⟩ := hr.set hj (upd (A j) i (vp_nar .boolean v))
  refine rn_nx hd ?_ (rr_mv b (kk _ a))
  show (if 1 = 1 then am_bS pc al (.int v :: .int (nI i) :: .ref (147 + j) :: r) h else none) = _
  rw [if_pos rfl]
  simp only [am_bS, hr.2 j hj, rf_c, hk]
  rw [if_pos ⟨Nat.le_trans (by decide : 2 ≤ 147) (Nat.le_add_right 147 j), am_in_n hi hn⟩, nI_clamp (by omega)]
  rfl
/-- calls: on the object itself, and of its static methods -/
theorem rr_cv {x z n : Nat} {as : List Value} {al0 : AL} (hd : decode (am_b y) pc = .ok (.invokevirtual x, 3)) (ho : am_o y = 12) (hl : am_ml 12 x = some (0, z)) (hz : am_o z = 12 ∧ am_np z = n ∧ am_L z = al0.length) (hn : as.length = n) (hen : am_en (.ref 146 :: as) al0.length = al0) (h8 : am_ok8 r = true) (hc : RR k z 0 al0 [] g A P) (kk : ∀ v g' A', P v g' A' → RR (k + 1) y (pc + 3) al (v.toList ++ r) g' A' Q) : RR (k + 1) y pc al (as.reverse ++ .ref 146 :: r) g A Q := by
  intro h hr
  obtain ⟨z1, z2, z3⟩ := hz
  subst hn
  refine rn_ca (z := z) (as := .ref 146 :: as) (st' := r) (P := fun v h' => ∃ (g' : Nat → Int32) (A' : Nat → Nat → Int32), RefAt h' g' A' ∧ RefFr h h' ∧ P v g' A') hd ?_ (by rw [z3, hen]) (by rw [z3, hen]; exact hc h hr) (fun v h' ⟨g', A', a, b, c⟩ => rr_mv b (kk v g' A' c h' a))
  show (if 3 = 3 then am_iv (am_o y) x (as.reverse ++ .ref 146 :: r) h else none) = _
  rw [if_pos rfl, ho]
  simp only [am_iv, hl, Option.bind_some, if_true, z2]
  rw [List.drop_append_of_le_length (by simp), List.take_append_of_le_length (by simp)]
  simp only [List.drop_eq_nil_of_le (show as.reverse.length ≤ as.length by simp), List.nil_append, hr.1]
  rw [if_pos ⟨by decide, z1.symm, by decide, h8⟩, List.take_of_length_le (by simp), List.reverse_reverse]
theorem rr_cs {x z n : Nat} {as : List Value} {al0 : AL} (hd : decode (am_b y) pc = .ok (.invokestatic x, 3)) (ho : am_o y = 12) (hl : am_ml 12 x = some (1, z)) (hz : am_o z = 12 ∧ am_np z = n ∧ am_L z = al0.length) (hn : as.length = n) (hen : am_en as al0.length = al0) (h8 : am_ok8 r = true) (hc : RR k z 0 al0 [] g A P) (kk : ∀ v g' A', P v g' A' → RR (k + 1) y (pc + 3) al (v.toList ++ r) g' A' Q) : RR (k + 1) y pc al (as.reverse ++ r) g A Q := by
  intro h hr
  obtain ⟨z1, z2, z3⟩ := hz
  subst hn
  refine rn_ca (z := z) (as := as) (st' := r) (P := fun v h' => ∃ (g' : Nat → Int32) (A' : Nat → Nat → Int32), RefAt h' g' A' ∧ RefFr h h' ∧ P v g' A') hd ?_ (by rw [z3, hen]) (by rw [z3, hen]; exact hc h hr) (fun v h' ⟨g', A', a, b, c⟩ => rr_mv b (kk v g' A' c h' a))
  show (if 3 = 3 then am_vs (am_o y) x pc al (as.reverse ++ r) h else none) = _
  rw [if_pos rfl, ho]
  simp only [am_vs, hl, Option.bind_some, z2]
  rw [if_neg (by decide), if_neg (by decide), if_neg (by decide), List.drop_append_of_le_length (by simp), List.take_append_of_le_length (by simp)]
  simp only [List.drop_eq_nil_of_le (show as.reverse.length ≤ as.length by simp), List.nil_append]
  rw [if_pos ⟨Or.inl trivial, by simp, h8⟩, List.take_of_length_le (by simp), List.reverse_reverse]
/-- returns -/
theorem rr_ri {v : Int32} {ty : FieldType} (hd : decode (am_b y) pc = .ok (.ireturn, 1)) (hr : am_r y = some ty) (hn : narrow ty (.int v) = .int v) (q : Q (some (.int v)) g A) : RR k y pc al [.int v] g A Q := by
  intro h ha
  refine rn_rt (r := some (.int v)) hd ?_ ⟨g, A, ha, RefFr.rf, q⟩
  show (if 1 = 1 then am_rt y [.int v] else none) = _
  rw [if_pos rfl]
  simp only [am_rt, hr]
  rw [if_pos hn]
theorem rr_rv (hd : decode (am_b y) pc = .ok (.return_, 1)) (hr : am_r y = none) (q : Q none g A) : RR k y pc al [] g A Q := by
  intro h ha
  refine rn_rt (r := none) hd ?_ ⟨g, A, ha, RefFr.rf, q⟩
  show (if 1 = 1 then am_vr y [] else none) = _
  rw [if_pos rfl]
  simp only [am_vr, hr]
theorem rr_ceq {x z : Int32} {off : Int} {t : Nat} (hd : decode (am_b y) pc = .ok (.if_icmp .eq off, 3)) (ht : am_tg pc off = some t) (kt : x = z → RR k y t al r g A Q) (kf : ¬ x = z → RR k y (pc + 3) al r g A Q) : RR k y pc al (.int z :: .int x :: r) g A Q := by
  by_cases hc : x = z
  · exact rr_nx (pc' := t) hd (fun h => by show (if 3 = 3 then am_ii .eq off pc al (.int z :: .int x :: r) h else none) = _; rw [if_pos rfl]; simp only [am_ii, ht, Option.bind_some]; rw [if_pos (show am_cp .eq x z = true from decide_eq_true hc)]; rfl) (kt hc)
  · exact rr_nx (pc' := pc + 3) hd (fun h => by show (if 3 = 3 then am_ii .eq off pc al (.int z :: .int x :: r) h else none) = _; rw [if_pos rfl]; simp only [am_ii, ht, Option.bind_some]; rw [if_neg (show ¬ am_cp .eq x z = true from fun e => hc (of_decide_eq_true e))]; rfl) (kf (hc))
theorem rr_ieq {x : Int32} {off : Int} {t : Nat} (hd : decode (am_b y) pc = .ok (.ifCond .eq off, 3)) (ht : am_tg pc off = some t) (kt : x = 0 → RR k y t al r g A Q) (kf : ¬ x = 0 → RR k y (pc + 3) al r g A Q) : RR k y pc al (.int x :: r) g A Q := by
  by_cases hc : x = 0
  · exact rr_nx (pc' := t) hd (fun h => by show (if 3 = 3 then am_if .eq off pc al (.int x :: r) h else none) = _; rw [if_pos rfl]; simp only [am_if, ht, Option.bind_some]; rw [if_pos (show am_cp .eq x 0 = true from decide_eq_true hc)]; rfl) (kt hc)
  · exact rr_nx (pc' := pc + 3) hd (fun h => by show (if 3 = 3 then am_if .eq off pc al (.int x :: r) h else none) = _; rw [if_pos rfl]; simp only [am_if, ht, Option.bind_some]; rw [if_neg (show ¬ am_cp .eq x 0 = true from fun e => hc (of_decide_eq_true e))]; rfl) (kf (hc))
theorem rr_cne {x z : Int32} {off : Int} {t : Nat} (hd : decode (am_b y) pc = .ok (.if_icmp .ne off, 3)) (ht : am_tg pc off = some t) (kt : ¬ x = z → RR k y t al r g A Q) (kf : x = z → RR k y (pc + 3) al r g A Q) : RR k y pc al (.int z :: .int x :: r) g A Q := by
  by_cases hc : ¬ x = z
  · exact rr_nx (pc' := t) hd (fun h => by show (if 3 = 3 then am_ii .ne off pc al (.int z :: .int x :: r) h else none) = _; rw [if_pos rfl]; simp only [am_ii, ht, Option.bind_some]; rw [if_pos (show am_cp .ne x z = true from decide_eq_true hc)]; rfl) (kt hc)
  · exact rr_nx (pc' := pc + 3) hd (fun h => by show (if 3 = 3 then am_ii .ne off pc al (.int z :: .int x :: r) h else none) = _; rw [if_pos rfl]; simp only [am_ii, ht, Option.bind_some]; rw [if_neg (show ¬ am_cp .ne x z = true from fun e => hc (of_decide_eq_true e))]; rfl) (kf (Decidable.byContradiction hc))
theorem rr_ine {x : Int32} {off : Int} {t : Nat} (hd : decode (am_b y) pc = .ok (.ifCond .ne off, 3)) (ht : am_tg pc off = some t) (kt : ¬ x = 0 → RR k y t al r g A Q) (kf : x = 0 → RR k y (pc + 3) al r g A Q) : RR k y pc al (.int x :: r) g A Q := by
  by_cases hc : ¬ x = 0
  · exact rr_nx (pc' := t) hd (fun h => by show (if 3 = 3 then am_if .ne off pc al (.int x :: r) h else none) = _; rw [if_pos rfl]; simp only [am_if, ht, Option.bind_some]; rw [if_pos (show am_cp .ne x 0 = true from decide_eq_true hc)]; rfl) (kt hc)
  · exact rr_nx (pc' := pc + 3) hd (fun h => by show (if 3 = 3 then am_if .ne off pc al (.int x :: r) h else none) = _; rw [if_pos rfl]; simp only [am_if, ht, Option.bind_some]; rw [if_neg (show ¬ am_cp .ne x 0 = true from fun e => hc (of_decide_eq_true e))]; rfl) (kf (Decidable.byContradiction hc))
theorem rr_clt {x z : Int32} {off : Int} {t : Nat} (hd : decode (am_b y) pc = .ok (.if_icmp .lt off, 3)) (ht : am_tg pc off = some t) (kt : x < z → RR k y t al r g A Q) (kf : ¬ x < z → RR k y (pc + 3) al r g A Q) : RR k y pc al (.int z :: .int x :: r) g A Q := by
  by_cases hc : x < z
  · exact rr_nx (pc' := t) hd (fun h => by show (if 3 = 3 then am_ii .lt off pc al (.int z :: .int x :: r) h else none) = _; rw [if_pos rfl]; simp only [am_ii, ht, Option.bind_some]; rw [if_pos (show am_cp .lt x z = true from decide_eq_true hc)]; rfl) (kt hc)
  · exact rr_nx (pc' := pc + 3) hd (fun h => by show (if 3 = 3 then am_ii .lt off pc al (.int z :: .int x :: r) h else none) = _; rw [if_pos rfl]; simp only [am_ii, ht, Option.bind_some]; rw [if_neg (show ¬ am_cp .lt x z = true from fun e => hc (of_decide_eq_true e))]; rfl) (kf (hc))
theorem rr_ilt {x : Int32} {off : Int} {t : Nat} (hd : decode (am_b y) pc = .ok (.ifCond .lt off, 3)) (ht : am_tg pc off = some t) (kt : x < 0 → RR k y t al r g A Q) (kf : ¬ x < 0 → RR k y (pc + 3) al r g A Q) : RR k y pc al (.int x :: r) g A Q := by
  by_cases hc : x < 0
  · exact rr_nx (pc' := t) hd (fun h => by show (if 3 = 3 then am_if .lt off pc al (.int x :: r) h else none) = _; rw [if_pos rfl]; simp only [am_if, ht, Option.bind_some]; rw [if_pos (show am_cp .lt x 0 = true from decide_eq_true hc)]; rfl) (kt hc)
  · exact rr_nx (pc' := pc + 3) hd (fun h => by show (if 3 = 3 then am_if .lt off pc al (.int x :: r) h else none) = _; rw [if_pos rfl]; simp only [am_if, ht, Option.bind_some]; rw [if_neg (show ¬ am_cp .lt x 0 = true from fun e => hc (of_decide_eq_true e))]; rfl) (kf (hc))
theorem rr_cge {x z : Int32} {off : Int} {t : Nat} (hd : decode (am_b y) pc = .ok (.if_icmp .ge off, 3)) (ht : am_tg pc off = some t) (kt : z ≤ x → RR k y t al r g A Q) (kf : ¬ z ≤ x → RR k y (pc + 3) al r g A Q) : RR k y pc al (.int z :: .int x :: r) g A Q := by
  by_cases hc : z ≤ x
  · exact rr_nx (pc' := t) hd (fun h => by show (if 3 = 3 then am_ii .ge off pc al (.int z :: .int x :: r) h else none) = _; rw [if_pos rfl]; simp only [am_ii, ht, Option.bind_some]; rw [if_pos (show am_cp .ge x z = true from decide_eq_true hc)]; rfl) (kt hc)
  · exact rr_nx (pc' := pc + 3) hd (fun h => by show (if 3 = 3 then am_ii .ge off pc al (.int z :: .int x :: r) h else none) = _; rw [if_pos rfl]; simp only [am_ii, ht, Option.bind_some]; rw [if_neg (show ¬ am_cp .ge x z = true from fun e => hc (of_decide_eq_true e))]; rfl) (kf (hc))
theorem rr_ige {x : Int32} {off : Int} {t : Nat} (hd : decode (am_b y) pc = .ok (.ifCond .ge off, 3)) (ht : am_tg pc off = some t) (kt : 0 ≤ x → RR k y t al r g A Q) (kf : ¬ 0 ≤ x → RR k y (pc + 3) al r g A Q) : RR k y pc al (.int x :: r) g A Q := by
  by_cases hc : 0 ≤ x
  · exact rr_nx (pc' := t) hd (fun h => by show (if 3 = 3 then am_if .ge off pc al (.int x :: r) h else none) = _; rw [if_pos rfl]; simp only [am_if, ht, Option.bind_some]; rw [if_pos (show am_cp .ge x 0 = true from decide_eq_true hc)]; rfl) (kt hc)
  · exact rr_nx (pc' := pc + 3) hd (fun h => by show (if 3 = 3 then am_if .ge off pc al (.int x :: r) h else none) = _; rw [if_pos rfl]; simp only [am_if, ht, Option.bind_some]; rw [if_neg (show ¬ am_cp .ge x 0 = true from fun e => hc (of_decide_eq_true e))]; rfl) (kf (hc))
theorem rr_cgt {x z : Int32} {off : Int} {t : Nat} (hd : decode (am_b y) pc = .ok (.if_icmp .gt off, 3)) (ht : am_tg pc off = some t) (kt : z < x → RR k y t al r g A Q) (kf : ¬ z < x → RR k y (pc + 3) al r g A Q) : RR k y pc al (.int z :: .int x :: r) g A Q := by
  by_cases hc : z < x
  · exact rr_nx (pc' := t) hd (fun h => by show (if 3 = 3 then am_ii .gt off pc al (.int z :: .int x :: r) h else none) = _; rw [if_pos rfl]; simp only [am_ii, ht, Option.bind_some]; rw [if_pos (show am_cp .gt x z = true from decide_eq_true hc)]; rfl) (kt hc)
  · exact rr_nx (pc' := pc + 3) hd (fun h => by show (if 3 = 3 then am_ii .gt off pc al (.int z :: .int x :: r) h else none) = _; rw [if_pos rfl]; simp only [am_ii, ht, Option.bind_some]; rw [if_neg (show ¬ am_cp .gt x z = true from fun e => hc (of_decide_eq_true e))]; rfl) (kf (hc))
theorem rr_igt {x : Int32} {off : Int} {t : Nat} (hd : decode (am_b y) pc = .ok (.ifCond .gt off, 3)) (ht : am_tg pc off = some t) (kt : 0 < x → RR k y t al r g A Q) (kf : ¬ 0 < x → RR k y (pc + 3) al r g A Q) : RR k y pc al (.int x :: r) g A Q := by
  by_cases hc : 0 < x
  · exact rr_nx (pc' := t) hd (fun h => by show (if 3 = 3 then am_if .gt off pc al (.int x :: r) h else none) = _; rw [if_pos rfl]; simp only [am_if, ht, Option.bind_some]; rw [if_pos (show am_cp .gt x 0 = true from decide_eq_true hc)]; rfl) (kt hc)
  · exact rr_nx (pc' := pc + 3) hd (fun h => by show (if 3 = 3 then am_if .gt off pc al (.int x :: r) h else none) = _; rw [if_pos rfl]; simp only [am_if, ht, Option.bind_some]; rw [if_neg (show ¬ am_cp .gt x 0 = true from fun e => hc (of_decide_eq_true e))]; rfl) (kf (hc))
theorem rr_cle {x z : Int32} {off : Int} {t : Nat} (hd : decode (am_b y) pc = .ok (.if_icmp .le off, 3)) (ht : am_tg pc off = some t) (kt : x ≤ z → RR k y t al r g A Q) (kf : ¬ x ≤ z → RR k y (pc + 3) al r g A Q) : RR k y pc al (.int z :: .int x :: r) g A Q := by
  by_cases hc : x ≤ z
  · exact rr_nx (pc' := t) hd (fun h => by show (if 3 = 3 then am_ii .le off pc al (.int z :: .int x :: r) h else none) = _; rw [if_pos rfl]; simp only [am_ii, ht, Option.bind_some]; rw [if_pos (show am_cp .le x z = true from decide_eq_true hc)]; rfl) (kt hc)
  · exact rr_nx (pc' := pc + 3) hd (fun h => by show (if 3 = 3 then am_ii .le off pc al (.int z :: .int x :: r) h else none) = _; rw [if_pos rfl]; simp only [am_ii, ht, Option.bind_some]; rw [if_neg (show ¬ am_cp .le x z = true from fun e => hc (of_decide_eq_true e))]; rfl) (kf (hc))
theorem rr_ile {x : Int32} {off : Int} {t : Nat} (hd : decode (am_b y) pc = .ok (.ifCond .le off, 3)) (ht : am_tg pc off = some t) (kt : x ≤ 0 → RR k y t al r g A Q) (kf : ¬ x ≤ 0 → RR k y (pc + 3) al r g A Q) : RR k y pc al (.int x :: r) g A Q := by
  by_cases hc : x ≤ 0
  · exact rr_nx (pc' := t) hd (fun h => by show (if 3 = 3 then am_if .le off pc al (.int x :: r) h else none) = _; rw [if_pos rfl]; simp only [am_if, ht, Option.bind_some]; rw [if_pos (show am_cp .le x 0 = true from decide_eq_true hc)]; rfl) (kt hc)
  · exact rr_nx (pc' := pc + 3) hd (fun h => by show (if 3 = 3 then am_if .le off pc al (.int x :: r) h else none) = _; rw [if_pos rfl]; simp only [am_if, ht, Option.bind_some]; rw [if_neg (show ¬ am_cp .le x 0 = true from fun e => hc (of_decide_eq_true e))]; rfl) (kf (hc))
theorem rn_ceq {a b : Nat} {off : Int} {t : Nat} (hd : decode (am_b y) pc = .ok (.if_icmp .eq off, 3)) (ht : am_tg pc off = some t) (ha : a < 2 ^ 31) (hb : b < 2 ^ 31) (kt : a = b → RR k y t al r g A Q) (kf : ¬ a = b → RR k y (pc + 3) al r g A Q) : RR k y pc al (.int (nI b) :: .int (nI a) :: r) g A Q := rr_ceq hd ht (fun q => kt ((nI_eq ha hb).mp q)) (fun q => kf (fun e => q (by rw [e])))
theorem rn_cne {a b : Nat} {off : Int} {t : Nat} (hd : decode (am_b y) pc = .ok (.if_icmp .ne off, 3)) (ht : am_tg pc off = some t) (ha : a < 2 ^ 31) (hb : b < 2 ^ 31) (kt : ¬ a = b → RR k y t al r g A Q) (kf : a = b → RR k y (pc + 3) al r g A Q) : RR k y pc al (.int (nI b) :: .int (nI a) :: r) g A Q := rr_cne hd ht (fun q => kt (fun e => q (by rw [e]))) (fun q => kf ((nI_eq ha hb).mp q))
theorem rn_clt {a b : Nat} {off : Int} {t : Nat} (hd : decode (am_b y) pc = .ok (.if_icmp .lt off, 3)) (ht : am_tg pc off = some t) (ha : a < 2 ^ 31) (hb : b < 2 ^ 31) (kt : a < b → RR k y t al r g A Q) (kf : b ≤ a → RR k y (pc + 3) al r g A Q) : RR k y pc al (.int (nI b) :: .int (nI a) :: r) g A Q := rr_clt hd ht (fun q => kt ((nI_ltI ha hb).mp q)) (fun q => kf (Nat.not_lt.mp fun e => q ((nI_ltI ha hb).mpr e)))
theorem rn_cge {a b : Nat} {off : Int} {t : Nat} (hd : decode (am_b y) pc = .ok (.if_icmp .ge off, 3)) (ht : am_tg pc off = some t) (ha : a < 2 ^ 31) (hb : b < 2 ^ 31) (kt : b ≤ a → RR k y t al r g A Q) (kf : a < b → RR k y (pc + 3) al r g A Q) : RR k y pc al (.int (nI b) :: .int (nI a) :: r) g A Q := rr_cge hd ht (fun q => kt ((nI_leI hb ha).mp q)) (fun q => kf (Nat.not_le.mp fun e => q ((nI_leI hb ha).mpr e)))
theorem rn_cgt {a b : Nat} {off : Int} {t : Nat} (hd : decode (am_b y) pc = .ok (.if_icmp .gt off, 3)) (ht : am_tg pc off = some t) (ha : a < 2 ^ 31) (hb : b < 2 ^ 31) (kt : b < a → RR k y t al r g A Q) (kf : a ≤ b → RR k y (pc + 3) al r g A Q) : RR k y pc al (.int (nI b) :: .int (nI a) :: r) g A Q := rr_cgt hd ht (fun q => kt ((nI_ltI hb ha).mp q)) (fun q => kf (Nat.not_lt.mp fun e => q ((nI_ltI hb ha).mpr e)))
theorem rn_cle {a b : Nat} {off : Int} {t : Nat} (hd : decode (am_b y) pc = .ok (.if_icmp .le off, 3)) (ht : am_tg pc off = some t) (ha : a < 2 ^ 31) (hb : b < 2 ^ 31) (kt : a ≤ b → RR k y t al r g A Q) (kf : b < a → RR k y (pc + 3) al r g A Q) : RR k y pc al (.int (nI b) :: .int (nI a) :: r) g A Q := rr_cle hd ht (fun q => kt ((nI_leI ha hb).mp q)) (fun q => kf (Nat.not_le.mp fun e => q ((nI_leI ha hb).mpr e)))
theorem rn_add {a b : Nat} (hd : decode (am_b y) pc = .ok (.iadd, 1))  (kk : RR k y (pc + 1) al (.int (nI (a + b)) :: r) g A Q) : RR k y pc al (.int (nI b) :: .int (nI a) :: r) g A Q := by
  refine rr_nx hd (fun h => ?_) kk
  show am_bi _ pc al (.int (nI b) :: .int (nI a) :: r) h = _
  rw [← nI_add]
  rfl
theorem rn_mul {a b : Nat} (hd : decode (am_b y) pc = .ok (.imul, 1))  (kk : RR k y (pc + 1) al (.int (nI (a * b)) :: r) g A Q) : RR k y pc al (.int (nI b) :: .int (nI a) :: r) g A Q := by
  refine rr_nx hd (fun h => ?_) kk
  show am_bi _ pc al (.int (nI b) :: .int (nI a) :: r) h = _
  rw [← pk_mul]
  rfl
theorem rn_sub {a b : Nat} (hd : decode (am_b y) pc = .ok (.isub, 1)) (hab : b ≤ a) (kk : RR k y (pc + 1) al (.int (nI (a - b)) :: r) g A Q) : RR k y pc al (.int (nI b) :: .int (nI a) :: r) g A Q := by
  refine rr_nx hd (fun h => ?_) kk
  show am_bi _ pc al (.int (nI b) :: .int (nI a) :: r) h = _
  rw [← pk_sub hab]
  rfl
theorem rn_div {a b : Nat} (hd : decode (am_b y) pc = .ok (.idiv, 1)) (h0 : 0 < b) (ha : a < 2 ^ 31) (hb : b < 2 ^ 31) (kk : RR k y (pc + 1) al (.int (nI (a / b)) :: r) g A Q) : RR k y pc al (.int (nI b) :: .int (nI a) :: r) g A Q := by
  refine rr_nx hd (fun h => ?_) kk
  show (if nI b = 0 then none else am_nx (pc + 1) al (.int (nI a / nI b) :: r) h) = _
  rw [if_neg (nI_ne0 h0 hb), pk_div ha h0 hb]
  rfl
theorem rn_rem {a b : Nat} (hd : decode (am_b y) pc = .ok (.irem, 1)) (h0 : 0 < b) (ha : a < 2 ^ 31) (hb : b < 2 ^ 31) (kk : RR k y (pc + 1) al (.int (nI (a % b)) :: r) g A Q) : RR k y pc al (.int (nI b) :: .int (nI a) :: r) g A Q := by
  refine rr_nx hd (fun h => ?_) kk
  show (if nI b = 0 then none else am_nx (pc + 1) al (.int (nI a - nI a / nI b * nI b) :: r) h) = _
  rw [if_neg (nI_ne0 h0 hb), pk_rem ha h0 hb]
  rfl
theorem rn_inc {j a : Nat} (hd : decode (am_b y) pc = .ok (.iinc j 1, 3)) (hj : al[j]? = some (some (.int (nI a)))) (hc : am_cs al j = true) (kk : RR k y (pc + 3) (al.set j (some (.int (nI (a + 1))))) st g A Q) : RR k y pc al st g A Q := by
  refine rr_nx hd (fun h => ?_) kk
  show am_ic j 1 pc al st h = _
  unfold am_ic
  rw [hj]
  simp only [hc, if_true]
  rw [show nI a + Int32.ofInt 1 = nI (a + 1) from nI_1 a]
  rfl
theorem rn_ic {n : Int} {v : Nat} (hd : decode (am_b y) pc = .ok (.iconst n, 1)) (hv : Int32.ofInt n = nI v) (kk : RR k y (pc + 1) al (.int (nI v) :: st) g A Q) : RR k y pc al st g A Q := by
  refine rr_nx hd (fun h => ?_) kk
  show am_nx (pc + 1) al (.int (Int32.ofInt n) :: st) h = _
  rw [hv]
  rfl
theorem rn_bp {n : Int} {v : Nat} (hd : decode (am_b y) pc = .ok (.bipush n, 2)) (hv : (Int8.ofInt n).toInt32 = nI v) (kk : RR k y (pc + 2) al (.int (nI v) :: st) g A Q) : RR k y pc al st g A Q := by
  refine rr_nx hd (fun h => ?_) kk
  show am_nx (pc + 2) al (.int (Int8.ofInt n).toInt32 :: st) h = _
  rw [hv]
  rfl
theorem rn_sp {n : Int} {v : Nat} (hd : decode (am_b y) pc = .ok (.sipush n, 3)) (hv : (Int16.ofInt n).toInt32 = nI v) (kk : RR k y (pc + 3) al (.int (nI v) :: st) g A Q) : RR k y pc al st g A Q := by
  refine rr_nx hd (fun h => ?_) kk
  show am_nx (pc + 3) al (.int (Int16.ofInt n).toInt32 :: st) h = _
  rw [hv]
  rfl
/-- a number on the stack has another name -/
theorem rr_tp {x z : Int32} (e : x = z) (kk : RR k y pc al (.int z :: st) g A Q) : RR k y pc al (.int x :: st) g A Q := by
  rw [e]
  exact kk
end RR
theorem rf_uw {A : Nat → Nat → Int32} {j i : Nat} {f : Nat → Int32} {v : Int32} : rf_u (rf_u A j f) j (upd ((rf_u A j f) j) i v) = rf_u A j (upd f i v) := by
  rw [rf_u_s, rf_u_u]
def rP (v : Option Value) (G : Nat → Int32) (B : Nat → Nat → Int32) : Option Value → (Nat → Int32) → (Nat → Nat → Int32) → Prop := fun r g' A' => r = v ∧ g' = G ∧ A' = B
section RR
variable {k y pc : Nat} {al : AL} {r : List Value} {g : Nat → Int32} {A : Nat → Nat → Int32} {Q : Option Value → (Nat → Int32) → (Nat → Nat → Int32) → Prop}
theorem rr_pv {k0 x z n : Nat} {as : List Value} {al0 : AL} {v : Option Value} {G : Nat → Int32} {B : Nat → Nat → Int32} (hd : decode (am_b y) pc = .ok (.invokevirtual x, 3)) (ho : am_o y = 12) (hl : am_ml 12 x = some (0, z)) (hz : am_o z = 12 ∧ am_np z = n ∧ am_L z = al0.length) (hn : as.length = n) (hen : am_en (.ref 146 :: as) al0.length = al0) (h8 : am_ok8 r = true) (hk : k0 ≤ k) (hc : RR k0 z 0 al0 [] g A (rP v G B)) (kk : RR (k + 1) y (pc + 3) al (v.toList ++ r) G B Q) : RR (k + 1) y pc al (as.reverse ++ .ref 146 :: r) g A Q :=
  rr_cv hd ho hl hz hn hen h8 (rr_wk hk hc) (fun v g' A' ⟨a, b, c⟩ => by rw [a, b, c]; exact kk)
theorem rr_ps {k0 x z n : Nat} {as : List Value} {al0 : AL} {v : Option Value} {G : Nat → Int32} {B : Nat → Nat → Int32} (hd : decode (am_b y) pc = .ok (.invokestatic x, 3)) (ho : am_o y = 12) (hl : am_ml 12 x = some (1, z)) (hz : am_o z = 12 ∧ am_np z = n ∧ am_L z = al0.length) (hn : as.length = n) (hen : am_en as al0.length = al0) (h8 : am_ok8 r = true) (hk : k0 ≤ k) (hc : RR k0 z 0 al0 [] g A (rP v G B)) (kk : RR (k + 1) y (pc + 3) al (v.toList ++ r) G B Q) : RR (k + 1) y pc al (as.reverse ++ r) g A Q :=
  rr_cs hd ho hl hz hn hen h8 (rr_wk hk hc) (fun v g' A' ⟨a, b, c⟩ => by rw [a, b, c]; exact kk)
theorem rr_gn {x j : Nat} {n : Nat} (hd : decode (am_b y) pc = .ok (.getfield x, 3)) (ho : am_o y = 12) (hl : am_fl 12 x = some (12, j)) (hv : (rf_M g)[j]? = some (.int (g j))) (hg : g j = nI n) (kk : RR k y (pc + 3) al (.int (nI n) :: r) g A Q) : RR k y pc al (.ref 146 :: r) g A Q := rr_gf hd ho hl (by rw [hv, hg]) kk
theorem rn_ieq {a : Nat} {off : Int} {t : Nat} (hd : decode (am_b y) pc = .ok (.ifCond .eq off, 3)) (ht : am_tg pc off = some t) (ha : a < 2 ^ 31) (kt : a = 0 → RR k y t al r g A Q) (kf : 0 < a → RR k y (pc + 3) al r g A Q) : RR k y pc al (.int (nI a) :: r) g A Q := rr_ieq hd ht (fun q => kt ((nI_eq ha (by decide)).mp (q.trans nI_0.symm))) (fun q => kf (Nat.pos_of_ne_zero fun e => q (by rw [e]; exact nI_0)))
theorem rn_ine {a : Nat} {off : Int} {t : Nat} (hd : decode (am_b y) pc = .ok (.ifCond .ne off, 3)) (ht : am_tg pc off = some t) (ha : a < 2 ^ 31) (kt : 0 < a → RR k y t al r g A Q) (kf : a = 0 → RR k y (pc + 3) al r g A Q) : RR k y pc al (.int (nI a) :: r) g A Q := rr_ine hd ht (fun q => kt (Nat.pos_of_ne_zero fun e => q (by rw [e]; exact nI_0))) (fun q => kf ((nI_eq ha (by decide)).mp (q.trans nI_0.symm)))
end RR
theorem rp_0 {k y pc x : Nat} {al : AL} {r : List Value} {g : Nat → Int32} {A : Nat → Nat → Int32} {Q : Option Value → (Nat → Int32) → (Nat → Nat → Int32) → Prop} {v : Int32} (hd : decode (am_b y) pc = .ok (.putfield x, 3)) (ho : am_o y = 12) (hl : am_fl 12 x = some (12, 0)) (kk : RR k y (pc + 3) al r (upd g 0 v) A Q) : RR k y pc al (.int v :: .ref 146 :: r) g A Q := rr_pf hd ho hl (by decide) rfl rfl rfl rfl kk
theorem rp_1 {k y pc x : Nat} {al : AL} {r : List Value} {g : Nat → Int32} {A : Nat → Nat → Int32} {Q : Option Value → (Nat → Int32) → (Nat → Nat → Int32) → Prop} {v : Int32} (hd : decode (am_b y) pc = .ok (.putfield x, 3)) (ho : am_o y = 12) (hl : am_fl 12 x = some (12, 1)) (kk : RR k y (pc + 3) al r (upd g 1 v) A Q) : RR k y pc al (.int v :: .ref 146 :: r) g A Q := rr_pf hd ho hl (by decide) rfl rfl rfl rfl kk
theorem rp_6 {k y pc x : Nat} {al : AL} {r : List Value} {g : Nat → Int32} {A : Nat → Nat → Int32} {Q : Option Value → (Nat → Int32) → (Nat → Nat → Int32) → Prop} {v : Int32} (hd : decode (am_b y) pc = .ok (.putfield x, 3)) (ho : am_o y = 12) (hl : am_fl 12 x = some (12, 6)) (kk : RR k y (pc + 3) al r (upd g 6 v) A Q) : RR k y pc al (.int v :: .ref 146 :: r) g A Q := rr_pf hd ho hl (by decide) rfl rfl rfl rfl kk
theorem rp_8 {k y pc x : Nat} {al : AL} {r : List Value} {g : Nat → Int32} {A : Nat → Nat → Int32} {Q : Option Value → (Nat → Int32) → (Nat → Nat → Int32) → Prop} {v : Int32} (hd : decode (am_b y) pc = .ok (.putfield x, 3)) (ho : am_o y = 12) (hl : am_fl 12 x = some (12, 8)) (kk : RR k y (pc + 3) al r (upd g 8 v) A Q) : RR k y pc al (.int v :: .ref 146 :: r) g A Q := rr_pf hd ho hl (by decide) rfl rfl rfl rfl kk
theorem rp_13 {k y pc x : Nat} {al : AL} {r : List Value} {g : Nat → Int32} {A : Nat → Nat → Int32} {Q : Option Value → (Nat → Int32) → (Nat → Nat → Int32) → Prop} {v : Int32} (hd : decode (am_b y) pc = .ok (.putfield x, 3)) (ho : am_o y = 12) (hl : am_fl 12 x = some (12, 13)) (kk : RR k y (pc + 3) al r (upd g 13 v) A Q) : RR k y pc al (.int v :: .ref 146 :: r) g A Q := rr_pf hd ho hl (by decide) rfl rfl rfl rfl kk
theorem rp_14 {k y pc x : Nat} {al : AL} {r : List Value} {g : Nat → Int32} {A : Nat → Nat → Int32} {Q : Option Value → (Nat → Int32) → (Nat → Nat → Int32) → Prop} {v : Int32} (hd : decode (am_b y) pc = .ok (.putfield x, 3)) (ho : am_o y = 12) (hl : am_fl 12 x = some (12, 14)) (kk : RR k y (pc + 3) al r (upd g 14 v) A Q) : RR k y pc al (.int v :: .ref 146 :: r) g A Q := rr_pf hd ho hl (by decide) rfl rfl rfl rfl kk
theorem rp_18 {k y pc x : Nat} {al : AL} {r : List Value} {g : Nat → Int32} {A : Nat → Nat → Int32} {Q : Option Value → (Nat → Int32) → (Nat → Nat → Int32) → Prop} {v : Int32} (hd : decode (am_b y) pc = .ok (.putfield x, 3)) (ho : am_o y = 12) (hl : am_fl 12 x = some (12, 18)) (kk : RR k y (pc + 3) al r (upd g 18 v) A Q) : RR k y pc al (.int v :: .ref 146 :: r) g A Q := rr_pf hd ho hl (by decide) rfl rfl rfl rfl kk
theorem rp_19 {k y pc x : Nat} {al : AL} {r : List Value} {g : Nat → Int32} {A : Nat → Nat → Int32} {Q : Option Value → (Nat → Int32) → (Nat → Nat → Int32) → Prop} {v : Int32} (hd : decode (am_b y) pc = .ok (.putfield x, 3)) (ho : am_o y = 12) (hl : am_fl 12 x = some (12, 19)) (kk : RR k y (pc + 3) al r (upd g 19 v) A Q) : RR k y pc al (.int v :: .ref 146 :: r) g A Q := rr_pf hd ho hl (by decide) rfl rfl rfl rfl kk
theorem rp_20 {k y pc x : Nat} {al : AL} {r : List Value} {g : Nat → Int32} {A : Nat → Nat → Int32} {Q : Option Value → (Nat → Int32) → (Nat → Nat → Int32) → Prop} {v : Int32} (hd : decode (am_b y) pc = .ok (.putfield x, 3)) (ho : am_o y = 12) (hl : am_fl 12 x = some (12, 20)) (kk : RR k y (pc + 3) al r (upd g 20 v) A Q) : RR k y pc al (.int v :: .ref 146 :: r) g A Q := rr_pf hd ho hl (by decide) rfl rfl rfl rfl kk
theorem rp_21 {k y pc x : Nat} {al : AL} {r : List Value} {g : Nat → Int32} {A : Nat → Nat → Int32} {Q : Option Value → (Nat → Int32) → (Nat → Nat → Int32) → Prop} {v : Int32} (hd : decode (am_b y) pc = .ok (.putfield x, 3)) (ho : am_o y = 12) (hl : am_fl 12 x = some (12, 21)) (kk : RR k y (pc + 3) al r (upd g 21 v) A Q) : RR k y pc al (.int v :: .ref 146 :: r) g A Q := rr_pf hd ho hl (by decide) rfl rfl rfl rfl kk
theorem rp_22 {k y pc x : Nat} {al : AL} {r : List Value} {g : Nat → Int32} {A : Nat → Nat → Int32} {Q : Option Value → (Nat → Int32) → (Nat → Nat → Int32) → Prop} {v : Int32} (hd : decode (am_b y) pc = .ok (.putfield x, 3)) (ho : am_o y = 12) (hl : am_fl 12 x = some (12, 22)) (kk : RR k y (pc + 3) al r (upd g 22 v) A Q) : RR k y pc al (.int v :: .ref 146 :: r) g A Q := rr_pf hd ho hl (by decide) rfl rfl rfl rfl kk
theorem rp_24 {k y pc x : Nat} {al : AL} {r : List Value} {g : Nat → Int32} {A : Nat → Nat → Int32} {Q : Option Value → (Nat → Int32) → (Nat → Nat → Int32) → Prop} {v : Int32} (hd : decode (am_b y) pc = .ok (.putfield x, 3)) (ho : am_o y = 12) (hl : am_fl 12 x = some (12, 24)) (kk : RR k y (pc + 3) al r (upd g 24 v) A Q) : RR k y pc al (.int v :: .ref 146 :: r) g A Q := rr_pf hd ho hl (by decide) rfl rfl rfl rfl kk
theorem rp_25 {k y pc x : Nat} {al : AL} {r : List Value} {g : Nat → Int32} {A : Nat → Nat → Int32} {Q : Option Value → (Nat → Int32) → (Nat → Nat → Int32) → Prop} {v : Int32} (hd : decode (am_b y) pc = .ok (.putfield x, 3)) (ho : am_o y = 12) (hl : am_fl 12 x = some (12, 25)) (kk : RR k y (pc + 3) al r (upd g 25 v) A Q) : RR k y pc al (.int v :: .ref 146 :: r) g A Q := rr_pf hd ho hl (by decide) rfl rfl rfl rfl kk
theorem rp_26 {k y pc x : Nat} {al : AL} {r : List Value} {g : Nat → Int32} {A : Nat → Nat → Int32} {Q : Option Value → (Nat → Int32) → (Nat → Nat → Int32) → Prop} {v : Int32} (hd : decode (am_b y) pc = .ok (.putfield x, 3)) (ho : am_o y = 12) (hl : am_fl 12 x = some (12, 26)) (kk : RR k y (pc + 3) al r (upd g 26 v) A Q) : RR k y pc al (.int v :: .ref 146 :: r) g A Q := rr_pf hd ho hl (by decide) rfl rfl rfl rfl kk
theorem rp_27 {k y pc x : Nat} {al : AL} {r : List Value} {g : Nat → Int32} {A : Nat → Nat → Int32} {Q : Option Value → (Nat → Int32) → (Nat → Nat → Int32) → Prop} {v : Int32} (hd : decode (am_b y) pc = .ok (.putfield x, 3)) (ho : am_o y = 12) (hl : am_fl 12 x = some (12, 27)) (kk : RR k y (pc + 3) al r (upd g 27 v) A Q) : RR k y pc al (.int v :: .ref 146 :: r) g A Q := rr_pf hd ho hl (by decide) rfl rfl rfl rfl kk
theorem rp_28 {k y pc x : Nat} {al : AL} {r : List Value} {g : Nat → Int32} {A : Nat → Nat → Int32} {Q : Option Value → (Nat → Int32) → (Nat → Nat → Int32) → Prop} {v : Int32} (hd : decode (am_b y) pc = .ok (.putfield x, 3)) (ho : am_o y = 12) (hl : am_fl 12 x = some (12, 28)) (kk : RR k y (pc + 3) al r (upd g 28 v) A Q) : RR k y pc al (.int v :: .ref 146 :: r) g A Q := rr_pf hd ho hl (by decide) rfl rfl rfl rfl kk
theorem rp_29 {k y pc x : Nat} {al : AL} {r : List Value} {g : Nat → Int32} {A : Nat → Nat → Int32} {Q : Option Value → (Nat → Int32) → (Nat → Nat → Int32) → Prop} {v : Int32} (hd : decode (am_b y) pc = .ok (.putfield x, 3)) (ho : am_o y = 12) (hl : am_fl 12 x = some (12, 29)) (kk : RR k y (pc + 3) al r (upd g 29 v) A Q) : RR k y pc al (.int v :: .ref 146 :: r) g A Q := rr_pf hd ho hl (by decide) rfl rfl rfl rfl kk
theorem rp_38 {k y pc x : Nat} {al : AL} {r : List Value} {g : Nat → Int32} {A : Nat → Nat → Int32} {Q : Option Value → (Nat → Int32) → (Nat → Nat → Int32) → Prop} {v : Int32} (hd : decode (am_b y) pc = .ok (.putfield x, 3)) (ho : am_o y = 12) (hl : am_fl 12 x = some (12, 38)) (hv : v = 0 ∨ v = 1) (kk : RR k y (pc + 3) al r (upd g 38 v) A Q) : RR k y pc al (.int v :: .ref 146 :: r) g A Q := rr_pf hd ho hl (by decide) (by rcases hv with rfl | rfl <;> rfl) (by rcases hv with rfl | rfl <;> rfl) rfl rfl kk
theorem rp_40 {k y pc x : Nat} {al : AL} {r : List Value} {g : Nat → Int32} {A : Nat → Nat → Int32} {Q : Option Value → (Nat → Int32) → (Nat → Nat → Int32) → Prop} {v : Int32} (hd : decode (am_b y) pc = .ok (.putfield x, 3)) (ho : am_o y = 12) (hl : am_fl 12 x = some (12, 40)) (kk : RR k y (pc + 3) al r (upd g 40 v) A Q) : RR k y pc al (.int v :: .ref 146 :: r) g A Q := rr_pf hd ho hl (by decide) rfl rfl rfl rfl kk
theorem rp_44 {k y pc x : Nat} {al : AL} {r : List Value} {g : Nat → Int32} {A : Nat → Nat → Int32} {Q : Option Value → (Nat → Int32) → (Nat → Nat → Int32) → Prop} {v : Int32} (hd : decode (am_b y) pc = .ok (.putfield x, 3)) (ho : am_o y = 12) (hl : am_fl 12 x = some (12, 44)) (kk : RR k y (pc + 3) al r (upd g 44 v) A Q) : RR k y pc al (.int v :: .ref 146 :: r) g A Q := rr_pf hd ho hl (by decide) rfl rfl rfl rfl kk
theorem rp_45 {k y pc x : Nat} {al : AL} {r : List Value} {g : Nat → Int32} {A : Nat → Nat → Int32} {Q : Option Value → (Nat → Int32) → (Nat → Nat → Int32) → Prop} {v : Int32} (hd : decode (am_b y) pc = .ok (.putfield x, 3)) (ho : am_o y = 12) (hl : am_fl 12 x = some (12, 45)) (kk : RR k y (pc + 3) al r (upd g 45 v) A Q) : RR k y pc al (.int v :: .ref 146 :: r) g A Q := rr_pf hd ho hl (by decide) rfl rfl rfl rfl kk
theorem rp_46 {k y pc x : Nat} {al : AL} {r : List Value} {g : Nat → Int32} {A : Nat → Nat → Int32} {Q : Option Value → (Nat → Int32) → (Nat → Nat → Int32) → Prop} {v : Int32} (hd : decode (am_b y) pc = .ok (.putfield x, 3)) (ho : am_o y = 12) (hl : am_fl 12 x = some (12, 46)) (kk : RR k y (pc + 3) al r (upd g 46 v) A Q) : RR k y pc al (.int v :: .ref 146 :: r) g A Q := rr_pf hd ho hl (by decide) rfl rfl rfl rfl kk
theorem rp_47 {k y pc x : Nat} {al : AL} {r : List Value} {g : Nat → Int32} {A : Nat → Nat → Int32} {Q : Option Value → (Nat → Int32) → (Nat → Nat → Int32) → Prop} {v : Int32} (hd : decode (am_b y) pc = .ok (.putfield x, 3)) (ho : am_o y = 12) (hl : am_fl 12 x = some (12, 47)) (kk : RR k y (pc + 3) al r (upd g 47 v) A Q) : RR k y pc al (.int v :: .ref 146 :: r) g A Q := rr_pf hd ho hl (by decide) rfl rfl rfl rfl kk
theorem rp_48 {k y pc x : Nat} {al : AL} {r : List Value} {g : Nat → Int32} {A : Nat → Nat → Int32} {Q : Option Value → (Nat → Int32) → (Nat → Nat → Int32) → Prop} {v : Int32} (hd : decode (am_b y) pc = .ok (.putfield x, 3)) (ho : am_o y = 12) (hl : am_fl 12 x = some (12, 48)) (hv : v = 0 ∨ v = 1) (kk : RR k y (pc + 3) al r (upd g 48 v) A Q) : RR k y pc al (.int v :: .ref 146 :: r) g A Q := rr_pf hd ho hl (by decide) (by rcases hv with rfl | rfl <;> rfl) (by rcases hv with rfl | rfl <;> rfl) rfl rfl kk
theorem rp_50 {k y pc x : Nat} {al : AL} {r : List Value} {g : Nat → Int32} {A : Nat → Nat → Int32} {Q : Option Value → (Nat → Int32) → (Nat → Nat → Int32) → Prop} {v : Int32} (hd : decode (am_b y) pc = .ok (.putfield x, 3)) (ho : am_o y = 12) (hl : am_fl 12 x = some (12, 50)) (kk : RR k y (pc + 3) al r (upd g 50 v) A Q) : RR k y pc al (.int v :: .ref 146 :: r) g A Q := rr_pf hd ho hl (by decide) rfl rfl rfl rfl kk
theorem rp_51 {k y pc x : Nat} {al : AL} {r : List Value} {g : Nat → Int32} {A : Nat → Nat → Int32} {Q : Option Value → (Nat → Int32) → (Nat → Nat → Int32) → Prop} {v : Int32} (hd : decode (am_b y) pc = .ok (.putfield x, 3)) (ho : am_o y = 12) (hl : am_fl 12 x = some (12, 51)) (kk : RR k y (pc + 3) al r (upd g 51 v) A Q) : RR k y pc al (.int v :: .ref 146 :: r) g A Q := rr_pf hd ho hl (by decide) rfl rfl rfl rfl kk
theorem rp_52 {k y pc x : Nat} {al : AL} {r : List Value} {g : Nat → Int32} {A : Nat → Nat → Int32} {Q : Option Value → (Nat → Int32) → (Nat → Nat → Int32) → Prop} {v : Int32} (hd : decode (am_b y) pc = .ok (.putfield x, 3)) (ho : am_o y = 12) (hl : am_fl 12 x = some (12, 52)) (kk : RR k y (pc + 3) al r (upd g 52 v) A Q) : RR k y pc al (.int v :: .ref 146 :: r) g A Q := rr_pf hd ho hl (by decide) rfl rfl rfl rfl kk
theorem rp_53 {k y pc x : Nat} {al : AL} {r : List Value} {g : Nat → Int32} {A : Nat → Nat → Int32} {Q : Option Value → (Nat → Int32) → (Nat → Nat → Int32) → Prop} {v : Int32} (hd : decode (am_b y) pc = .ok (.putfield x, 3)) (ho : am_o y = 12) (hl : am_fl 12 x = some (12, 53)) (kk : RR k y (pc + 3) al r (upd g 53 v) A Q) : RR k y pc al (.int v :: .ref 146 :: r) g A Q := rr_pf hd ho hl (by decide) rfl rfl rfl rfl kk
theorem rp_54 {k y pc x : Nat} {al : AL} {r : List Value} {g : Nat → Int32} {A : Nat → Nat → Int32} {Q : Option Value → (Nat → Int32) → (Nat → Nat → Int32) → Prop} {v : Int32} (hd : decode (am_b y) pc = .ok (.putfield x, 3)) (ho : am_o y = 12) (hl : am_fl 12 x = some (12, 54)) (kk : RR k y (pc + 3) al r (upd g 54 v) A Q) : RR k y pc al (.int v :: .ref 146 :: r) g A Q := rr_pf hd ho hl (by decide) rfl rfl rfl rfl kk
theorem rp_56 {k y pc x : Nat} {al : AL} {r : List Value} {g : Nat → Int32} {A : Nat → Nat → Int32} {Q : Option Value → (Nat → Int32) → (Nat → Nat → Int32) → Prop} {v : Int32} (hd : decode (am_b y) pc = .ok (.putfield x, 3)) (ho : am_o y = 12) (hl : am_fl 12 x = some (12, 56)) (kk : RR k y (pc + 3) al r (upd g 56 v) A Q) : RR k y pc al (.int v :: .ref 146 :: r) g A Q := rr_pf hd ho hl (by decide) rfl rfl rfl rfl kk
theorem rp_57 {k y pc x : Nat} {al : AL} {r : List Value} {g : Nat → Int32} {A : Nat → Nat → Int32} {Q : Option Value → (Nat → Int32) → (Nat → Nat → Int32) → Prop} {v : Int32} (hd : decode (am_b y) pc = .ok (.putfield x, 3)) (ho : am_o y = 12) (hl : am_fl 12 x = some (12, 57)) (kk : RR k y (pc + 3) al r (upd g 57 v) A Q) : RR k y pc al (.int v :: .ref 146 :: r) g A Q := rr_pf hd ho hl (by decide) rfl rfl rfl rfl kk
theorem fl_100 : am_fl 12 100 = some (12, 0) := by decide +kernel
theorem fl_103 : am_fl 12 103 = some (12, 1) := by decide +kernel
theorem fl_9 : am_fl 12 9 = some (12, 2) := by decide +kernel
theorem fl_13 : am_fl 12 13 = some (12, 3) := by decide +kernel
theorem fl_16 : am_fl 12 16 = some (12, 4) := by decide +kernel
theorem fl_19 : am_fl 12 19 = some (12, 5) := by decide +kernel
theorem fl_127 : am_fl 12 127 = some (12, 6) := by decide +kernel
theorem fl_23 : am_fl 12 23 = some (12, 7) := by decide +kernel
theorem fl_134 : am_fl 12 134 = some (12, 8) := by decide +kernel
theorem fl_26 : am_fl 12 26 = some (12, 9) := by decide +kernel
theorem fl_29 : am_fl 12 29 = some (12, 10) := by decide +kernel
theorem fl_33 : am_fl 12 33 = some (12, 11) := by decide +kernel
theorem fl_36 : am_fl 12 36 = some (12, 12) := by decide +kernel
theorem fl_137 : am_fl 12 137 = some (12, 13) := by decide +kernel
theorem fl_39 : am_fl 12 39 = some (12, 14) := by decide +kernel
theorem fl_43 : am_fl 12 43 = some (12, 15) := by decide +kernel
theorem fl_46 : am_fl 12 46 = some (12, 16) := by decide +kernel
theorem fl_49 : am_fl 12 49 = some (12, 17) := by decide +kernel
theorem fl_140 : am_fl 12 140 = some (12, 18) := by decide +kernel
theorem fl_160 : am_fl 12 160 = some (12, 19) := by decide +kernel
theorem fl_153 : am_fl 12 153 = some (12, 21) := by decide +kernel
theorem fl_186 : am_fl 12 186 = some (12, 22) := by decide +kernel
theorem fl_52 : am_fl 12 52 = some (12, 23) := by decide +kernel
theorem fl_202 : am_fl 12 202 = some (12, 24) := by decide +kernel
theorem fl_195 : am_fl 12 195 = some (12, 25) := by decide +kernel
theorem fl_226 : am_fl 12 226 = some (12, 26) := by decide +kernel
theorem fl_229 : am_fl 12 229 = some (12, 27) := by decide +kernel
theorem fl_232 : am_fl 12 232 = some (12, 28) := by decide +kernel
theorem fl_235 : am_fl 12 235 = some (12, 29) := by decide +kernel
theorem fl_55 : am_fl 12 55 = some (12, 30) := by decide +kernel
theorem fl_58 : am_fl 12 58 = some (12, 31) := by decide +kernel
theorem fl_61 : am_fl 12 61 = some (12, 32) := by decide +kernel
theorem fl_64 : am_fl 12 64 = some (12, 33) := by decide +kernel
theorem fl_67 : am_fl 12 67 = some (12, 34) := by decide +kernel
theorem fl_70 : am_fl 12 70 = some (12, 35) := by decide +kernel
theorem fl_73 : am_fl 12 73 = some (12, 36) := by decide +kernel
theorem fl_76 : am_fl 12 76 = some (12, 37) := by decide +kernel
theorem fl_312 : am_fl 12 312 = some (12, 38) := by decide +kernel
theorem fl_79 : am_fl 12 79 = some (12, 39) := by decide +kernel
theorem fl_325 : am_fl 12 325 = some (12, 40) := by decide +kernel
theorem fl_82 : am_fl 12 82 = some (12, 41) := by decide +kernel
theorem fl_85 : am_fl 12 85 = some (12, 42) := by decide +kernel
theorem fl_88 : am_fl 12 88 = some (12, 43) := by decide +kernel
theorem fl_337 : am_fl 12 337 = some (12, 44) := by decide +kernel
theorem fl_340 : am_fl 12 340 = some (12, 45) := by decide +kernel
theorem fl_352 : am_fl 12 352 = some (12, 46) := by decide +kernel
theorem fl_355 : am_fl 12 355 = some (12, 47) := by decide +kernel
theorem fl_343 : am_fl 12 343 = some (12, 48) := by decide +kernel
theorem fl_91 : am_fl 12 91 = some (12, 49) := by decide +kernel
theorem fl_94 : am_fl 12 94 = some (12, 50) := by decide +kernel
theorem fl_364 : am_fl 12 364 = some (12, 51) := by decide +kernel
theorem fl_367 : am_fl 12 367 = some (12, 52) := by decide +kernel
theorem fl_370 : am_fl 12 370 = some (12, 53) := by decide +kernel
theorem fl_373 : am_fl 12 373 = some (12, 54) := by decide +kernel
theorem fl_97 : am_fl 12 97 = some (12, 55) := by decide +kernel
theorem fl_398 : am_fl 12 398 = some (12, 56) := by decide +kernel
theorem fl_388 : am_fl 12 388 = some (12, 57) := by decide +kernel
theorem ml_3 : am_ml 12 3 = some (6, 0) := by decide +kernel
theorem ml_106 : am_ml 12 106 = some (1, 179) := by decide +kernel
theorem ml_110 : am_ml 12 110 = some (0, 180) := by decide +kernel
theorem ml_114 : am_ml 12 114 = some (0, 181) := by decide +kernel
theorem ml_124 : am_ml 12 124 = some (0, 184) := by decide +kernel
theorem ml_117 : am_ml 12 117 = some (1, 185) := by decide +kernel
theorem ml_121 : am_ml 12 121 = some (0, 186) := by decide +kernel
theorem ml_189 : am_ml 12 189 = some (0, 192) := by decide +kernel
theorem ml_143 : am_ml 12 143 = some (1, 193) := by decide +kernel
theorem ml_146 : am_ml 12 146 = some (1, 194) := by decide +kernel
theorem ml_149 : am_ml 12 149 = some (0, 195) := by decide +kernel
theorem ml_192 : am_ml 12 192 = some (0, 196) := by decide +kernel
theorem ml_169 : am_ml 12 169 = some (0, 197) := by decide +kernel
theorem ml_176 : am_ml 12 176 = some (0, 198) := by decide +kernel
theorem ml_183 : am_ml 12 183 = some (0, 199) := by decide +kernel
theorem ml_156 : am_ml 12 156 = some (0, 200) := by decide +kernel
theorem ml_172 : am_ml 12 172 = some (1, 201) := by decide +kernel
theorem ml_166 : am_ml 12 166 = some (0, 202) := by decide +kernel
theorem ml_180 : am_ml 12 180 = some (0, 203) := by decide +kernel
theorem ml_163 : am_ml 12 163 = some (0, 204) := by decide +kernel
theorem ml_245 : am_ml 12 245 = some (0, 207) := by decide +kernel
theorem ml_248 : am_ml 12 248 = some (0, 208) := by decide +kernel
theorem ml_251 : am_ml 12 251 = some (0, 209) := by decide +kernel
theorem ml_241 : am_ml 12 241 = some (0, 210) := by decide +kernel
theorem ml_220 : am_ml 12 220 = some (0, 211) := by decide +kernel
theorem ml_223 : am_ml 12 223 = some (0, 212) := by decide +kernel
theorem ml_130 : am_ml 12 130 = some (0, 213) := by decide +kernel
theorem ml_238 : am_ml 12 238 = some (0, 214) := by decide +kernel
theorem ml_217 : am_ml 12 217 = some (0, 215) := by decide +kernel
theorem ml_214 : am_ml 12 214 = some (0, 216) := by decide +kernel
theorem ml_198 : am_ml 12 198 = some (0, 217) := by decide +kernel
theorem ml_205 : am_ml 12 205 = some (0, 218) := by decide +kernel
theorem ml_208 : am_ml 12 208 = some (0, 219) := by decide +kernel
theorem ml_211 : am_ml 12 211 = some (0, 220) := by decide +kernel
theorem ml_254 : am_ml 12 254 = some (0, 223) := by decide +kernel
theorem ml_257 : am_ml 12 257 = some (0, 224) := by decide +kernel
theorem ml_260 : am_ml 12 260 = some (0, 228) := by decide +kernel
theorem ml_263 : am_ml 12 263 = some (0, 229) := by decide +kernel
theorem ml_267 : am_ml 12 267 = some (0, 231) := by decide +kernel
theorem ml_270 : am_ml 12 270 = some (1, 233) := by decide +kernel
theorem ml_273 : am_ml 12 273 = some (0, 234) := by decide +kernel
theorem ml_276 : am_ml 12 276 = some (0, 235) := by decide +kernel
theorem ml_279 : am_ml 12 279 = some (0, 237) := by decide +kernel
theorem ml_295 : am_ml 12 295 = some (0, 243) := by decide +kernel
theorem ml_289 : am_ml 12 289 = some (0, 244) := by decide +kernel
theorem ml_283 : am_ml 12 283 = some (0, 245) := by decide +kernel
theorem ml_286 : am_ml 12 286 = some (0, 246) := by decide +kernel
theorem ml_292 : am_ml 12 292 = some (1, 247) := by decide +kernel
theorem ml_298 : am_ml 12 298 = some (0, 252) := by decide +kernel
theorem ml_302 : am_ml 12 302 = some (0, 254) := by decide +kernel
theorem ml_305 : am_ml 12 305 = some (0, 256) := by decide +kernel
theorem ml_308 : am_ml 12 308 = some (0, 257) := by decide +kernel
theorem ml_319 : am_ml 12 319 = some (0, 259) := by decide +kernel
theorem ml_316 : am_ml 12 316 = some (0, 260) := by decide +kernel
theorem ml_322 : am_ml 12 322 = some (0, 263) := by decide +kernel
theorem ml_331 : am_ml 12 331 = some (0, 265) := by decide +kernel
theorem ml_328 : am_ml 12 328 = some (0, 266) := by decide +kernel
theorem ml_334 : am_ml 12 334 = some (0, 270) := by decide +kernel
theorem ml_361 : am_ml 12 361 = some (0, 272) := by decide +kernel
theorem ml_376 : am_ml 12 376 = some (0, 273) := by decide +kernel
theorem ml_358 : am_ml 12 358 = some (0, 274) := by decide +kernel
theorem ml_349 : am_ml 12 349 = some (0, 275) := by decide +kernel
theorem ml_346 : am_ml 12 346 = some (0, 276) := by decide +kernel
theorem ml_380 : am_ml 12 380 = some (0, 280) := by decide +kernel
theorem ml_383 : am_ml 12 383 = some (0, 282) := by decide +kernel
theorem ml_395 : am_ml 12 395 = some (0, 286) := by decide +kernel
theorem mo_177 : am_o 177 = 12 := by decide +kernel
theorem mz_177 : am_o 177 = 12 ∧ am_np 177 = 0 ∧ am_L 177 = 1 := by decide +kernel
theorem mr_177 : am_r 177 = none := by decide +kernel
theorem mo_178 : am_o 178 = 12 := by decide +kernel
theorem mz_178 : am_o 178 = 12 ∧ am_np 178 = 1 ∧ am_L 178 = 3 := by decide +kernel
theorem mr_178 : am_r 178 = some .int := by decide +kernel
theorem mo_179 : am_o 179 = 12 := by decide +kernel
theorem mz_179 : am_o 179 = 12 ∧ am_np 179 = 3 ∧ am_L 179 = 3 := by decide +kernel
theorem mr_179 : am_r 179 = some .boolean := by decide +kernel
theorem mo_180 : am_o 180 = 12 := by decide +kernel
theorem mz_180 : am_o 180 = 12 ∧ am_np 180 = 1 ∧ am_L 180 = 2 := by decide +kernel
theorem mr_180 : am_r 180 = some .int := by decide +kernel
theorem mo_181 : am_o 181 = 12 := by decide +kernel
theorem mz_181 : am_o 181 = 12 ∧ am_np 181 = 1 ∧ am_L 181 = 2 := by decide +kernel
theorem mr_181 : am_r 181 = some .int := by decide +kernel
theorem mo_182 : am_o 182 = 12 := by decide +kernel
theorem mz_182 : am_o 182 = 12 ∧ am_np 182 = 1 ∧ am_L 182 = 3 := by decide +kernel
theorem mr_182 : am_r 182 = some .int := by decide +kernel
theorem mo_183 : am_o 183 = 12 := by decide +kernel
theorem mz_183 : am_o 183 = 12 ∧ am_np 183 = 1 ∧ am_L 183 = 2 := by decide +kernel
theorem mr_183 : am_r 183 = some .int := by decide +kernel
theorem mo_184 : am_o 184 = 12 := by decide +kernel
theorem mz_184 : am_o 184 = 12 ∧ am_np 184 = 1 ∧ am_L 184 = 2 := by decide +kernel
theorem mr_184 : am_r 184 = some .boolean := by decide +kernel
theorem mo_185 : am_o 185 = 12 := by decide +kernel
theorem mz_185 : am_o 185 = 12 ∧ am_np 185 = 1 ∧ am_L 185 = 1 := by decide +kernel
theorem mr_185 : am_r 185 = some .boolean := by decide +kernel
theorem mo_186 : am_o 186 = 12 := by decide +kernel
theorem mz_186 : am_o 186 = 12 ∧ am_np 186 = 1 ∧ am_L 186 = 2 := by decide +kernel
theorem mr_186 : am_r 186 = some .int := by decide +kernel
theorem mo_187 : am_o 187 = 12 := by decide +kernel
theorem mz_187 : am_o 187 = 12 ∧ am_np 187 = 0 ∧ am_L 187 = 3 := by decide +kernel
theorem mr_187 : am_r 187 = some .int := by decide +kernel
theorem mo_188 : am_o 188 = 12 := by decide +kernel
theorem mz_188 : am_o 188 = 12 ∧ am_np 188 = 0 ∧ am_L 188 = 3 := by decide +kernel
theorem mr_188 : am_r 188 = some .int := by decide +kernel
theorem mo_189 : am_o 189 = 12 := by decide +kernel
theorem mz_189 : am_o 189 = 12 ∧ am_np 189 = 5 ∧ am_L 189 = 7 := by decide +kernel
theorem mr_189 : am_r 189 = some .int := by decide +kernel
theorem mo_190 : am_o 190 = 12 := by decide +kernel
theorem mz_190 : am_o 190 = 12 ∧ am_np 190 = 1 ∧ am_L 190 = 2 := by decide +kernel
theorem mr_190 : am_r 190 = some .int := by decide +kernel
theorem mo_191 : am_o 191 = 12 := by decide +kernel
theorem mz_191 : am_o 191 = 12 ∧ am_np 191 = 0 ∧ am_L 191 = 3 := by decide +kernel
theorem mr_191 : am_r 191 = some .int := by decide +kernel
theorem mo_192 : am_o 192 = 12 := by decide +kernel
theorem mz_192 : am_o 192 = 12 ∧ am_np 192 = 1 ∧ am_L 192 = 6 := by decide +kernel
theorem mr_192 : am_r 192 = none := by decide +kernel
theorem mo_193 : am_o 193 = 12 := by decide +kernel
theorem mz_193 : am_o 193 = 12 ∧ am_np 193 = 1 ∧ am_L 193 = 1 := by decide +kernel
theorem mr_193 : am_r 193 = some .boolean := by decide +kernel
theorem mo_194 : am_o 194 = 12 := by decide +kernel
theorem mz_194 : am_o 194 = 12 ∧ am_np 194 = 1 ∧ am_L 194 = 1 := by decide +kernel
theorem mr_194 : am_r 194 = some .boolean := by decide +kernel
theorem mo_195 : am_o 195 = 12 := by decide +kernel
theorem mz_195 : am_o 195 = 12 ∧ am_np 195 = 2 ∧ am_L 195 = 8 := by decide +kernel
theorem mr_195 : am_r 195 = some .int := by decide +kernel
theorem mo_196 : am_o 196 = 12 := by decide +kernel
theorem mz_196 : am_o 196 = 12 ∧ am_np 196 = 0 ∧ am_L 196 = 1 := by decide +kernel
theorem mr_196 : am_r 196 = none := by decide +kernel
theorem mo_197 : am_o 197 = 12 := by decide +kernel
theorem mz_197 : am_o 197 = 12 ∧ am_np 197 = 0 ∧ am_L 197 = 1 := by decide +kernel
theorem mr_197 : am_r 197 = none := by decide +kernel
theorem mo_198 : am_o 198 = 12 := by decide +kernel
theorem mz_198 : am_o 198 = 12 ∧ am_np 198 = 1 ∧ am_L 198 = 2 := by decide +kernel
theorem mr_198 : am_r 198 = none := by decide +kernel
theorem mo_199 : am_o 199 = 12 := by decide +kernel
theorem mz_199 : am_o 199 = 12 ∧ am_np 199 = 1 ∧ am_L 199 = 3 := by decide +kernel
theorem mr_199 : am_r 199 = none := by decide +kernel
theorem mo_200 : am_o 200 = 12 := by decide +kernel
theorem mz_200 : am_o 200 = 12 ∧ am_np 200 = 0 ∧ am_L 200 = 1 := by decide +kernel
theorem mr_200 : am_r 200 = some .boolean := by decide +kernel
theorem mo_201 : am_o 201 = 12 := by decide +kernel
theorem mz_201 : am_o 201 = 12 ∧ am_np 201 = 1 ∧ am_L 201 = 1 := by decide +kernel
theorem mr_201 : am_r 201 = some .int := by decide +kernel
theorem mo_202 : am_o 202 = 12 := by decide +kernel
theorem mz_202 : am_o 202 = 12 ∧ am_np 202 = 0 ∧ am_L 202 = 1 := by decide +kernel
theorem mr_202 : am_r 202 = none := by decide +kernel
theorem mo_203 : am_o 203 = 12 := by decide +kernel
theorem mz_203 : am_o 203 = 12 ∧ am_np 203 = 1 ∧ am_L 203 = 2 := by decide +kernel
theorem mr_203 : am_r 203 = none := by decide +kernel
theorem mo_204 : am_o 204 = 12 := by decide +kernel
theorem mz_204 : am_o 204 = 12 ∧ am_np 204 = 1 ∧ am_L 204 = 3 := by decide +kernel
theorem mr_204 : am_r 204 = some .boolean := by decide +kernel
theorem mo_205 : am_o 205 = 12 := by decide +kernel
theorem mz_205 : am_o 205 = 12 ∧ am_np 205 = 0 ∧ am_L 205 = 1 := by decide +kernel
theorem mr_205 : am_r 205 = some .int := by decide +kernel
theorem mo_206 : am_o 206 = 12 := by decide +kernel
theorem mz_206 : am_o 206 = 12 ∧ am_np 206 = 2 ∧ am_L 206 = 3 := by decide +kernel
theorem mr_206 : am_r 206 = some .int := by decide +kernel
theorem mo_207 : am_o 207 = 12 := by decide +kernel
theorem mz_207 : am_o 207 = 12 ∧ am_np 207 = 1 ∧ am_L 207 = 2 := by decide +kernel
theorem mr_207 : am_r 207 = some .boolean := by decide +kernel
theorem mo_208 : am_o 208 = 12 := by decide +kernel
theorem mz_208 : am_o 208 = 12 ∧ am_np 208 = 1 ∧ am_L 208 = 3 := by decide +kernel
theorem mr_208 : am_r 208 = none := by decide +kernel
theorem mo_209 : am_o 209 = 12 := by decide +kernel
theorem mz_209 : am_o 209 = 12 ∧ am_np 209 = 1 ∧ am_L 209 = 2 := by decide +kernel
theorem mr_209 : am_r 209 = some .boolean := by decide +kernel
theorem mo_210 : am_o 210 = 12 := by decide +kernel
theorem mz_210 : am_o 210 = 12 ∧ am_np 210 = 2 ∧ am_L 210 = 7 := by decide +kernel
theorem mr_210 : am_r 210 = none := by decide +kernel
theorem mo_211 : am_o 211 = 12 := by decide +kernel
theorem mz_211 : am_o 211 = 12 ∧ am_np 211 = 1 ∧ am_L 211 = 4 := by decide +kernel
theorem mr_211 : am_r 211 = some .int := by decide +kernel
theorem mo_212 : am_o 212 = 12 := by decide +kernel
theorem mz_212 : am_o 212 = 12 ∧ am_np 212 = 1 ∧ am_L 212 = 5 := by decide +kernel
theorem mr_212 : am_r 212 = some .int := by decide +kernel
theorem mo_213 : am_o 213 = 12 := by decide +kernel
theorem mz_213 : am_o 213 = 12 ∧ am_np 213 = 2 ∧ am_L 213 = 3 := by decide +kernel
theorem mr_213 : am_r 213 = some .int := by decide +kernel
theorem mo_214 : am_o 214 = 12 := by decide +kernel
theorem mz_214 : am_o 214 = 12 ∧ am_np 214 = 1 ∧ am_L 214 = 3 := by decide +kernel
theorem mr_214 : am_r 214 = some .boolean := by decide +kernel
theorem mo_215 : am_o 215 = 12 := by decide +kernel
theorem mz_215 : am_o 215 = 12 ∧ am_np 215 = 0 ∧ am_L 215 = 4 := by decide +kernel
theorem mr_215 : am_r 215 = some .boolean := by decide +kernel
theorem mo_216 : am_o 216 = 12 := by decide +kernel
theorem mz_216 : am_o 216 = 12 ∧ am_np 216 = 0 ∧ am_L 216 = 4 := by decide +kernel
theorem mr_216 : am_r 216 = some .int := by decide +kernel
theorem mo_217 : am_o 217 = 12 := by decide +kernel
theorem mz_217 : am_o 217 = 12 ∧ am_np 217 = 0 ∧ am_L 217 = 3 := by decide +kernel
theorem mr_217 : am_r 217 = some .int := by decide +kernel
theorem mo_218 : am_o 218 = 12 := by decide +kernel
theorem mz_218 : am_o 218 = 12 ∧ am_np 218 = 1 ∧ am_L 218 = 2 := by decide +kernel
theorem mr_218 : am_r 218 = some .int := by decide +kernel
theorem mo_219 : am_o 219 = 12 := by decide +kernel
theorem mz_219 : am_o 219 = 12 ∧ am_np 219 = 2 ∧ am_L 219 = 4 := by decide +kernel
theorem mr_219 : am_r 219 = some .int := by decide +kernel
theorem mo_220 : am_o 220 = 12 := by decide +kernel
theorem mz_220 : am_o 220 = 12 ∧ am_np 220 = 2 ∧ am_L 220 = 4 := by decide +kernel
theorem mr_220 : am_r 220 = some .int := by decide +kernel
theorem mo_221 : am_o 221 = 12 := by decide +kernel
theorem mz_221 : am_o 221 = 12 ∧ am_np 221 = 3 ∧ am_L 221 = 4 := by decide +kernel
theorem mr_221 : am_r 221 = some .int := by decide +kernel
theorem mo_222 : am_o 222 = 12 := by decide +kernel
theorem mz_222 : am_o 222 = 12 ∧ am_np 222 = 1 ∧ am_L 222 = 4 := by decide +kernel
theorem mr_222 : am_r 222 = some .int := by decide +kernel
theorem mo_223 : am_o 223 = 12 := by decide +kernel
theorem mz_223 : am_o 223 = 12 ∧ am_np 223 = 0 ∧ am_L 223 = 5 := by decide +kernel
theorem mr_223 : am_r 223 = some .boolean := by decide +kernel
theorem mo_224 : am_o 224 = 12 := by decide +kernel
theorem mz_224 : am_o 224 = 12 ∧ am_np 224 = 1 ∧ am_L 224 = 5 := by decide +kernel
theorem mr_224 : am_r 224 = none := by decide +kernel
theorem mo_225 : am_o 225 = 12 := by decide +kernel
theorem mz_225 : am_o 225 = 12 ∧ am_np 225 = 2 ∧ am_L 225 = 4 := by decide +kernel
theorem mr_225 : am_r 225 = some .int := by decide +kernel
theorem mo_226 : am_o 226 = 12 := by decide +kernel
theorem mz_226 : am_o 226 = 12 ∧ am_np 226 = 2 ∧ am_L 226 = 4 := by decide +kernel
theorem mr_226 : am_r 226 = some .int := by decide +kernel
theorem mo_227 : am_o 227 = 12 := by decide +kernel
theorem mz_227 : am_o 227 = 12 ∧ am_np 227 = 3 ∧ am_L 227 = 4 := by decide +kernel
theorem mr_227 : am_r 227 = some .int := by decide +kernel
theorem mo_228 : am_o 228 = 12 := by decide +kernel
theorem mz_228 : am_o 228 = 12 ∧ am_np 228 = 1 ∧ am_L 228 = 2 := by decide +kernel
theorem mr_228 : am_r 228 = some .boolean := by decide +kernel
theorem mo_229 : am_o 229 = 12 := by decide +kernel
theorem mz_229 : am_o 229 = 12 ∧ am_np 229 = 2 ∧ am_L 229 = 5 := by decide +kernel
theorem mr_229 : am_r 229 = none := by decide +kernel
theorem mo_230 : am_o 230 = 12 := by decide +kernel
theorem mz_230 : am_o 230 = 12 ∧ am_np 230 = 2 ∧ am_L 230 = 3 := by decide +kernel
theorem mr_230 : am_r 230 = some .int := by decide +kernel
theorem mo_231 : am_o 231 = 12 := by decide +kernel
theorem mz_231 : am_o 231 = 12 ∧ am_np 231 = 1 ∧ am_L 231 = 5 := by decide +kernel
theorem mr_231 : am_r 231 = none := by decide +kernel
theorem mo_232 : am_o 232 = 12 := by decide +kernel
theorem mz_232 : am_o 232 = 12 ∧ am_np 232 = 2 ∧ am_L 232 = 3 := by decide +kernel
theorem mr_232 : am_r 232 = some .int := by decide +kernel
theorem mo_233 : am_o 233 = 12 := by decide +kernel
theorem mz_233 : am_o 233 = 12 ∧ am_np 233 = 1 ∧ am_L 233 = 3 := by decide +kernel
theorem mr_233 : am_r 233 = some .int := by decide +kernel
theorem mo_234 : am_o 234 = 12 := by decide +kernel
theorem mz_234 : am_o 234 = 12 ∧ am_np 234 = 2 ∧ am_L 234 = 9 := by decide +kernel
theorem mr_234 : am_r 234 = none := by decide +kernel
theorem mo_235 : am_o 235 = 12 := by decide +kernel
theorem mz_235 : am_o 235 = 12 ∧ am_np 235 = 0 ∧ am_L 235 = 3 := by decide +kernel
theorem mr_235 : am_r 235 = none := by decide +kernel
theorem mo_236 : am_o 236 = 12 := by decide +kernel
theorem mz_236 : am_o 236 = 12 ∧ am_np 236 = 4 ∧ am_L 236 = 7 := by decide +kernel
theorem mr_236 : am_r 236 = some .int := by decide +kernel
theorem mo_237 : am_o 237 = 12 := by decide +kernel
theorem mz_237 : am_o 237 = 12 ∧ am_np 237 = 3 ∧ am_L 237 = 10 := by decide +kernel
theorem mr_237 : am_r 237 = some .int := by decide +kernel
theorem mo_238 : am_o 238 = 12 := by decide +kernel
theorem mz_238 : am_o 238 = 12 ∧ am_np 238 = 3 ∧ am_L 238 = 8 := by decide +kernel
theorem mr_238 : am_r 238 = some .int := by decide +kernel
theorem mo_239 : am_o 239 = 12 := by decide +kernel
theorem mz_239 : am_o 239 = 12 ∧ am_np 239 = 3 ∧ am_L 239 = 6 := by decide +kernel
theorem mr_239 : am_r 239 = some .int := by decide +kernel
theorem mo_240 : am_o 240 = 12 := by decide +kernel
theorem mz_240 : am_o 240 = 12 ∧ am_np 240 = 4 ∧ am_L 240 = 5 := by decide +kernel
theorem mr_240 : am_r 240 = some .int := by decide +kernel
theorem mo_241 : am_o 241 = 12 := by decide +kernel
theorem mz_241 : am_o 241 = 12 ∧ am_np 241 = 2 ∧ am_L 241 = 3 := by decide +kernel
theorem mr_241 : am_r 241 = some .int := by decide +kernel
theorem mo_242 : am_o 242 = 12 := by decide +kernel
theorem mz_242 : am_o 242 = 12 ∧ am_np 242 = 3 ∧ am_L 242 = 10 := by decide +kernel
theorem mr_242 : am_r 242 = some .int := by decide +kernel
theorem mo_243 : am_o 243 = 12 := by decide +kernel
theorem mz_243 : am_o 243 = 12 ∧ am_np 243 = 1 ∧ am_L 243 = 6 := by decide +kernel
theorem mr_243 : am_r 243 = some .boolean := by decide +kernel
theorem mo_244 : am_o 244 = 12 := by decide +kernel
theorem mz_244 : am_o 244 = 12 ∧ am_np 244 = 1 ∧ am_L 244 = 2 := by decide +kernel
theorem mr_244 : am_r 244 = some .boolean := by decide +kernel
theorem mo_245 : am_o 245 = 12 := by decide +kernel
theorem mz_245 : am_o 245 = 12 ∧ am_np 245 = 1 ∧ am_L 245 = 2 := by decide +kernel
theorem mr_245 : am_r 245 = some .boolean := by decide +kernel
theorem mo_246 : am_o 246 = 12 := by decide +kernel
theorem mz_246 : am_o 246 = 12 ∧ am_np 246 = 1 ∧ am_L 246 = 6 := by decide +kernel
theorem mr_246 : am_r 246 = some .int := by decide +kernel
theorem mo_247 : am_o 247 = 12 := by decide +kernel
theorem mz_247 : am_o 247 = 12 ∧ am_np 247 = 1 ∧ am_L 247 = 3 := by decide +kernel
theorem mr_247 : am_r 247 = some .int := by decide +kernel
theorem mo_248 : am_o 248 = 12 := by decide +kernel
theorem mz_248 : am_o 248 = 12 ∧ am_np 248 = 2 ∧ am_L 248 = 3 := by decide +kernel
theorem mr_248 : am_r 248 = some .int := by decide +kernel
theorem mo_249 : am_o 249 = 12 := by decide +kernel
theorem mz_249 : am_o 249 = 12 ∧ am_np 249 = 2 ∧ am_L 249 = 5 := by decide +kernel
theorem mr_249 : am_r 249 = some .int := by decide +kernel
theorem mo_250 : am_o 250 = 12 := by decide +kernel
theorem mz_250 : am_o 250 = 12 ∧ am_np 250 = 2 ∧ am_L 250 = 5 := by decide +kernel
theorem mr_250 : am_r 250 = some .int := by decide +kernel
theorem mo_251 : am_o 251 = 12 := by decide +kernel
theorem mz_251 : am_o 251 = 12 ∧ am_np 251 = 2 ∧ am_L 251 = 7 := by decide +kernel
theorem mr_251 : am_r 251 = some .int := by decide +kernel
theorem mo_252 : am_o 252 = 12 := by decide +kernel
theorem mz_252 : am_o 252 = 12 ∧ am_np 252 = 2 ∧ am_L 252 = 7 := by decide +kernel
theorem mr_252 : am_r 252 = some .boolean := by decide +kernel
theorem mo_253 : am_o 253 = 12 := by decide +kernel
theorem mz_253 : am_o 253 = 12 ∧ am_np 253 = 2 ∧ am_L 253 = 6 := by decide +kernel
theorem mr_253 : am_r 253 = some .int := by decide +kernel
theorem mo_254 : am_o 254 = 12 := by decide +kernel
theorem mz_254 : am_o 254 = 12 ∧ am_np 254 = 0 ∧ am_L 254 = 5 := by decide +kernel
theorem mr_254 : am_r 254 = some .int := by decide +kernel
theorem mo_255 : am_o 255 = 12 := by decide +kernel
theorem mz_255 : am_o 255 = 12 ∧ am_np 255 = 2 ∧ am_L 255 = 8 := by decide +kernel
theorem mr_255 : am_r 255 = some .int := by decide +kernel
theorem mo_256 : am_o 256 = 12 := by decide +kernel
theorem mz_256 : am_o 256 = 12 ∧ am_np 256 = 1 ∧ am_L 256 = 3 := by decide +kernel
theorem mr_256 : am_r 256 = none := by decide +kernel
theorem mo_257 : am_o 257 = 12 := by decide +kernel
theorem mz_257 : am_o 257 = 12 ∧ am_np 257 = 1 ∧ am_L 257 = 6 := by decide +kernel
theorem mr_257 : am_r 257 = some .int := by decide +kernel
theorem mo_258 : am_o 258 = 12 := by decide +kernel
theorem mz_258 : am_o 258 = 12 ∧ am_np 258 = 3 ∧ am_L 258 = 4 := by decide +kernel
theorem mr_258 : am_r 258 = some .int := by decide +kernel
theorem mo_259 : am_o 259 = 12 := by decide +kernel
theorem mz_259 : am_o 259 = 12 ∧ am_np 259 = 2 ∧ am_L 259 = 7 := by decide +kernel
theorem mr_259 : am_r 259 = none := by decide +kernel
theorem mo_260 : am_o 260 = 12 := by decide +kernel
theorem mz_260 : am_o 260 = 12 ∧ am_np 260 = 1 ∧ am_L 260 = 6 := by decide +kernel
theorem mr_260 : am_r 260 = none := by decide +kernel
theorem mo_261 : am_o 261 = 12 := by decide +kernel
theorem mz_261 : am_o 261 = 12 ∧ am_np 261 = 3 ∧ am_L 261 = 5 := by decide +kernel
theorem mr_261 : am_r 261 = some .int := by decide +kernel
theorem mo_262 : am_o 262 = 12 := by decide +kernel
theorem mz_262 : am_o 262 = 12 ∧ am_np 262 = 2 ∧ am_L 262 = 6 := by decide +kernel
theorem mr_262 : am_r 262 = some .int := by decide +kernel
theorem mo_263 : am_o 263 = 12 := by decide +kernel
theorem mz_263 : am_o 263 = 12 ∧ am_np 263 = 0 ∧ am_L 263 = 7 := by decide +kernel
theorem mr_263 : am_r 263 = some .int := by decide +kernel
theorem mo_264 : am_o 264 = 12 := by decide +kernel
theorem mz_264 : am_o 264 = 12 ∧ am_np 264 = 2 ∧ am_L 264 = 8 := by decide +kernel
theorem mr_264 : am_r 264 = some .int := by decide +kernel
theorem mo_265 : am_o 265 = 12 := by decide +kernel
theorem mz_265 : am_o 265 = 12 ∧ am_np 265 = 0 ∧ am_L 265 = 5 := by decide +kernel
theorem mr_265 : am_r 265 = none := by decide +kernel
theorem mo_266 : am_o 266 = 12 := by decide +kernel
theorem mz_266 : am_o 266 = 12 ∧ am_np 266 = 1 ∧ am_L 266 = 6 := by decide +kernel
theorem mr_266 : am_r 266 = some .int := by decide +kernel
theorem mo_267 : am_o 267 = 12 := by decide +kernel
theorem mz_267 : am_o 267 = 12 ∧ am_np 267 = 4 ∧ am_L 267 = 11 := by decide +kernel
theorem mr_267 : am_r 267 = some .int := by decide +kernel
theorem mo_268 : am_o 268 = 12 := by decide +kernel
theorem mz_268 : am_o 268 = 12 ∧ am_np 268 = 2 ∧ am_L 268 = 5 := by decide +kernel
theorem mr_268 : am_r 268 = some .int := by decide +kernel
theorem mo_269 : am_o 269 = 12 := by decide +kernel
theorem mz_269 : am_o 269 = 12 ∧ am_np 269 = 2 ∧ am_L 269 = 14 := by decide +kernel
theorem mr_269 : am_r 269 = some .int := by decide +kernel
theorem mo_270 : am_o 270 = 12 := by decide +kernel
theorem mz_270 : am_o 270 = 12 ∧ am_np 270 = 2 ∧ am_L 270 = 6 := by decide +kernel
theorem mr_270 : am_r 270 = some .boolean := by decide +kernel
theorem mo_271 : am_o 271 = 12 := by decide +kernel
theorem mz_271 : am_o 271 = 12 ∧ am_np 271 = 3 ∧ am_L 271 = 4 := by decide +kernel
theorem mr_271 : am_r 271 = some .int := by decide +kernel
theorem mo_272 : am_o 272 = 12 := by decide +kernel
theorem mz_272 : am_o 272 = 12 ∧ am_np 272 = 1 ∧ am_L 272 = 2 := by decide +kernel
theorem mr_272 : am_r 272 = some .boolean := by decide +kernel
theorem mo_273 : am_o 273 = 12 := by decide +kernel
theorem mz_273 : am_o 273 = 12 ∧ am_np 273 = 4 ∧ am_L 273 = 6 := by decide +kernel
theorem mr_273 : am_r 273 = some .int := by decide +kernel
theorem mo_274 : am_o 274 = 12 := by decide +kernel
theorem mz_274 : am_o 274 = 12 ∧ am_np 274 = 2 ∧ am_L 274 = 4 := by decide +kernel
theorem mr_274 : am_r 274 = none := by decide +kernel
theorem mo_275 : am_o 275 = 12 := by decide +kernel
theorem mz_275 : am_o 275 = 12 ∧ am_np 275 = 1 ∧ am_L 275 = 6 := by decide +kernel
theorem mr_275 : am_r 275 = none := by decide +kernel
theorem mo_276 : am_o 276 = 12 := by decide +kernel
theorem mz_276 : am_o 276 = 12 ∧ am_np 276 = 0 ∧ am_L 276 = 5 := by decide +kernel
theorem mr_276 : am_r 276 = some .boolean := by decide +kernel
theorem mo_277 : am_o 277 = 12 := by decide +kernel
theorem mz_277 : am_o 277 = 12 ∧ am_np 277 = 5 ∧ am_L 277 = 6 := by decide +kernel
theorem mr_277 : am_r 277 = some .int := by decide +kernel
theorem mo_278 : am_o 278 = 12 := by decide +kernel
theorem mz_278 : am_o 278 = 12 ∧ am_np 278 = 1 ∧ am_L 278 = 3 := by decide +kernel
theorem mr_278 : am_r 278 = some .int := by decide +kernel
theorem mo_279 : am_o 279 = 12 := by decide +kernel
theorem mz_279 : am_o 279 = 12 ∧ am_np 279 = 3 ∧ am_L 279 = 6 := by decide +kernel
theorem mr_279 : am_r 279 = some .int := by decide +kernel
theorem mo_280 : am_o 280 = 12 := by decide +kernel
theorem mz_280 : am_o 280 = 12 ∧ am_np 280 = 2 ∧ am_L 280 = 3 := by decide +kernel
theorem mr_280 : am_r 280 = some .boolean := by decide +kernel
theorem mo_281 : am_o 281 = 12 := by decide +kernel
theorem mz_281 : am_o 281 = 12 ∧ am_np 281 = 0 ∧ am_L 281 = 1 := by decide +kernel
theorem mr_281 : am_r 281 = some .int := by decide +kernel
theorem mo_282 : am_o 282 = 12 := by decide +kernel
theorem mz_282 : am_o 282 = 12 ∧ am_np 282 = 1 ∧ am_L 282 = 3 := by decide +kernel
theorem mr_282 : am_r 282 = some .int := by decide +kernel
theorem mo_283 : am_o 283 = 12 := by decide +kernel
theorem mz_283 : am_o 283 = 12 ∧ am_np 283 = 1 ∧ am_L 283 = 2 := by decide +kernel
theorem mr_283 : am_r 283 = some .int := by decide +kernel
theorem mo_284 : am_o 284 = 12 := by decide +kernel
theorem mz_284 : am_o 284 = 12 ∧ am_np 284 = 2 ∧ am_L 284 = 7 := by decide +kernel
theorem mr_284 : am_r 284 = some .int := by decide +kernel
theorem mo_285 : am_o 285 = 12 := by decide +kernel
theorem mz_285 : am_o 285 = 12 ∧ am_np 285 = 3 ∧ am_L 285 = 7 := by decide +kernel
theorem mr_285 : am_r 285 = some .int := by decide +kernel
theorem mo_286 : am_o 286 = 12 := by decide +kernel
theorem mz_286 : am_o 286 = 12 ∧ am_np 286 = 1 ∧ am_L 286 = 2 := by decide +kernel
theorem mr_286 : am_r 286 = some .int := by decide +kernel
theorem mo_287 : am_o 287 = 12 := by decide +kernel
theorem mz_287 : am_o 287 = 12 ∧ am_np 287 = 2 ∧ am_L 287 = 3 := by decide +kernel
theorem mr_287 : am_r 287 = some .int := by decide +kernel
theorem mo_288 : am_o 288 = 12 := by decide +kernel
theorem mz_288 : am_o 288 = 12 ∧ am_np 288 = 1 ∧ am_L 288 = 5 := by decide +kernel
theorem mr_288 : am_r 288 = some .int := by decide +kernel
theorem mo_289 : am_o 289 = 12 := by decide +kernel
theorem mz_289 : am_o 289 = 12 ∧ am_np 289 = 0 ∧ am_L 289 = 1 := by decide +kernel
theorem mr_289 : am_r 289 = some .int := by decide +kernel
