/-! THE REFERENCE: its object at 146, its rows at 147 + j; g its numbers by the field, A its rows; printed by wip/whole/gen_rr.py. -/
def rf_M (g : Nat → Int32) : List Value := [.int (g 0), .int (g 1), .ref 147, .ref 148, .ref 149, .ref 150, .int (g 6), .ref 151, .int (g 8), .ref 152, .ref 153, .ref 154, .ref 155, .int (g 13), .int (g 14), .ref 156, .ref 157, .ref 158, .int (g 18), .int (g 19), .int (g 20), .int (g 21), .int (g 22), .ref 159, .int (g 24), .int (g 25), .int (g 26), .int (g 27), .int (g 28), .int (g 29), .ref 160, .ref 161, .ref 162, .ref 163, .ref 164, .ref 165, .ref 166, .ref 167, .int (g 38), .ref 168, .int (g 40), .ref 169, .ref 170, .ref 171, .int (g 44), .int (g 45), .int (g 46), .int (g 47), .int (g 48), .ref 172, .int (g 50), .int (g 51), .int (g 52), .int (g 53), .int (g 54), .ref 173, .int (g 56), .int (g 57)]
def rf_k : List Nat := [0, 0, 0, 2, 0, 0, 1, 1, 0, 0, 0, 0, 0, 0, 0, 2, 0, 0, 0, 0, 0, 0, 0, 0, 0, 0, 0]
def rf_n : List Nat := [7, 5720, 11440, 2, 36, 36, 11, 400, 5, 401, 401, 401, 5, 6, 6, 720, 720, 6, 6, 36, 36, 720, 6, 6, 6, 36, 36]
-- rows: 0 refused, 1 kept, 2 images, 3 hasImage, 4 cells, 5 made, 6 words, 7 tape, 8 five, 9 code, 10 value, 11 placed, 12 letter, 13 images0, 14 classes, 15 isIn, 16 order, 17 first, 18 second, 19 best, 20 other, 21 across, 22 taken, 23 rows, 24 columns, 25 told, 26 walked
def rf_c (A : Nat → Nat → Int32) (j : Nat) : AC := .inl (rf_k.getD j 0, rf_n.getD j 0, .inl (A j))
def RefAt (h : AH) (g : Nat → Int32) (A : Nat → Nat → Int32) : Prop := h[146]? = some (.inr (12, rf_M g)) ∧ ∀ j : Nat, j < 27 → h[147 + j]? = some (rf_c A j)
/-- nothing but the reference's cells has changed -/
def RefFr (h h' : AH) : Prop := h'.length = h.length ∧ ∀ b : Nat, (b < 146 ∨ 174 ≤ b) → h'[b]? = h[b]?
theorem RefFr.rf {h : AH} : RefFr h h := ⟨rfl, fun _ _ => rfl⟩
theorem RefFr.tr {a b c : AH} (h1 : RefFr a b) (h2 : RefFr b c) : RefFr a c := ⟨h2.1.trans h1.1, fun q hq => (h2.2 q hq).trans (h1.2 q hq)⟩
def rf_u (A : Nat → Nat → Int32) (j : Nat) (f : Nat → Int32) : Nat → Nat → Int32 := fun i => if i = j then f else A i
theorem rf_u_s {A : Nat → Nat → Int32} {j : Nat} {f : Nat → Int32} : rf_u A j f j = f := if_pos rfl
theorem rf_u_n {A : Nat → Nat → Int32} {j i : Nat} {f : Nat → Int32} (h : i ≠ j) : rf_u A j f i = A i := if_neg h
theorem rf_u_u {A : Nat → Nat → Int32} {j : Nat} {f f' : Nat → Int32} : rf_u (rf_u A j f) j f' = rf_u A j f' := by
  funext i
  unfold rf_u
  by_cases h : i = j <;> simp [h]
theorem RefAt.set {h : AH} {g : Nat → Int32} {A : Nat → Nat → Int32} (hr : RefAt h g A) {j : Nat} (hj : j < 27) (f : Nat → Int32) : RefAt (h.set (147 + j) (.inl (rf_k.getD j 0, rf_n.getD j 0, .inl f))) g (rf_u A j f) ∧ RefFr h (h.set (147 + j) (.inl (rf_k.getD j 0, rf_n.getD j 0, .inl f))) := by
  have hl : 147 + j < h.length := (List.getElem?_eq_some_iff.mp (hr.2 j hj)).1
  refine ⟨⟨by rw [List.getElem?_set_ne (by omega)]; exact hr.1, fun i hi => ?_⟩, by rw [List.length_set], fun b hb => by rw [List.getElem?_set_ne (by omega)]⟩
  by_cases e : i = j
  · subst e
    rw [List.getElem?_set_self hl]
    simp [rf_c, rf_u]
  · rw [List.getElem?_set_ne (by omega), hr.2 i hi]
    simp [rf_c, rf_u, e]
theorem RefAt.put {h : AH} {g g' : Nat → Int32} {A : Nat → Nat → Int32} (hr : RefAt h g A) : RefAt (h.set 146 (.inr (12, rf_M g'))) g' A ∧ RefFr h (h.set 146 (.inr (12, rf_M g'))) := by
  have hl : 146 < h.length := (List.getElem?_eq_some_iff.mp hr.1).1
  exact ⟨⟨by rw [List.getElem?_set_self hl], fun i hi => by rw [List.getElem?_set_ne (by omega)]; exact hr.2 i hi⟩, by rw [List.length_set], fun b hb => by rw [List.getElem?_set_ne (by omega)]⟩
def RR (k y pc : Nat) (al : AL) (st : List Value) (g : Nat → Int32) (A : Nat → Nat → Int32) (Q : Option Value → (Nat → Int32) → (Nat → Nat → Int32) → Prop) : Prop :=
  ∀ h : AH, RefAt h g A → RN k y pc al st h (fun r h' => ∃ (g' : Nat → Int32) (A' : Nat → Nat → Int32), RefAt h' g' A' ∧ RefFr h h' ∧ Q r g' A')
section RR
variable {k y pc pc' len : Nat} {al al' : AL} {st st' r : List Value} {g g1 : Nat → Int32} {A A1 : Nat → Nat → Int32} {Q P : Option Value → (Nat → Int32) → (Nat → Nat → Int32) → Prop} {i : Instr}
theorem rr_wk {k' : Nat} (hk : k ≤ k') (kk : RR k y pc al st g A Q) : RR k' y pc al st g A Q := fun h hr => rn_wk hk (kk h hr)
theorem rr_cq (kk : RR k y pc al st g A P) (hq : ∀ r g' A', P r g' A' → Q r g' A') : RR k y pc al st g A Q := fun h hr => rn_cq (kk h hr) (fun r h' ⟨g', A', a, b, c⟩ => ⟨g', A', a, b, hq r g' A' c⟩)
theorem rr_nx (hd : decode (am_b y) pc = .ok (i, len)) (hs : ∀ h, am_ins y i len pc al st h = some (.inl (pc', al', st', h))) (kk : RR k y pc' al' st' g A Q) : RR k y pc al st g A Q := fun h hr => rn_nx hd (hs h) (kk h hr)
theorem rr_mv {h h1 : AH} (hf : RefFr h h1) (kk : RN k y pc al st h1 (fun r h' => ∃ (g' : Nat → Int32) (A' : Nat → Nat → Int32), RefAt h' g' A' ∧ RefFr h1 h' ∧ Q r g' A')) : RN k y pc al st h1 (fun r h' => ∃ (g' : Nat → Int32) (A' : Nat → Nat → Int32), RefAt h' g' A' ∧ RefFr h h' ∧ Q r g' A') := rn_cq kk (fun r h' ⟨g', A', a, b, c⟩ => ⟨g', A', a, hf.tr b, c⟩)
/-- a field is read -/
theorem rr_gf {x j : Nat} {v : Value} (hd : decode (am_b y) pc = .ok (.getfield x, 3)) (ho : am_o y = 12) (hl : am_fl 12 x = some (12, j)) (hv : (rf_M g)[j]? = some v) (kk : RR k y (pc + 3) al (v :: r) g A Q) : RR k y pc al (.ref 146 :: r) g A Q := by
  intro h hr
  refine rn_nx hd ?_ (kk h hr)
  show (if 3 = 3 then am_gf (am_o y) x pc al (.ref 146 :: r) h else none) = _
  rw [if_pos rfl, ho]
  simp only [am_gf, hl, Option.bind_some, hr.1, hv]
  rfl
/-- a number is written -/
theorem rr_pf {x j : Nat} {v : Int32} (hd : decode (am_b y) pc = .ok (.putfield x, 3)) (ho : am_o y = 12) (hl : am_fl 12 x = some (12, j)) (hj : j < 58) (hn : narrow (am_ty 12 j) (.int v) = .int v) (hf : fits (am_ty 12 j) (.int v) = true) (hfin : (am_T 12 j).2.2.2 = false) (hM : (rf_M g).set j (.int v) = rf_M g1) (kk : RR k y (pc + 3) al r g1 A Q) : RR k y pc al (.int v :: .ref 146 :: r) g A Q := by
  intro h hr
  obtain ⟨a, b⟩ := hr.put (g' := g1)
  refine rn_nx hd ?_ (rr_mv b (kk _ a))
  show (if 3 = 3 then am_pf y (am_o y) x pc al (.int v :: .ref 146 :: r) h else none) = _
  rw [if_pos rfl, ho]
  simp only [am_pf, hl, Option.bind_some, hr.1]
  rw [if_pos ⟨by decide, trivial, hj, hn, hf, Or.inl hfin⟩, hM]
  rfl
theorem am_in_n {i n : Nat} (h : i < n) (hn : n ≤ 100000) : am_in (nI i) n = true := by
  have h1 : ¬ nI i < 0 := nI_pos (by omega)
  have h2 : ¬ n ≤ (nI i).toNatClampNeg := by rw [nI_clamp (by omega)]; omega
  simp [am_in, h1, h2]
/-- a row is read -/
theorem rr_ia {j i : Nat} (hd : decode (am_b y) pc = .ok (.iaload, 1)) (hj : j < 27) (hk : rf_k.getD j 0 = 0) (hn : rf_n.getD j 0 ≤ 100000) (hi : i < rf_n.getD j 0) (kk : RR k y (pc + 1) al (.int (A j i) :: r) g A Q) : RR k y pc al (.int (nI i) :: .ref (147 + j) :: r) g A Q := by
  intro h hr
  refine rn_nx hd ?_ (kk h hr)
  show (if 1 = 1 then am_ia pc al (.int (nI i) :: .ref (147 + j) :: r) h else none) = _
  rw [if_pos rfl]
  simp only [am_ia, hr.2 j hj, rf_c, hk]
  rw [if_pos (am_in_n hi hn), nI_clamp (by omega)]
  rfl
theorem rr_ba {j i : Nat} (hd : decode (am_b y) pc = .ok (.baload, 1)) (hj : j < 27) (hk : rf_k.getD j 0 = 1 ∨ rf_k.getD j 0 = 2) (hn : rf_n.getD j 0 ≤ 100000) (hi : i < rf_n.getD j 0) (kk : RR k y (pc + 1) al (.int (A j i) :: r) g A Q) : RR k y pc al (.int (nI i) :: .ref (147 + j) :: r) g A Q := by
  intro h hr
  refine rn_nx hd ?_ (kk h hr)
  show (if 1 = 1 then am_ba pc al (.int (nI i) :: .ref (147 + j) :: r) h else none) = _
  rw [if_pos rfl]
  rcases hk with hk | hk
  all_goals
    simp only [am_ba, hr.2 j hj, rf_c, hk]
    rw [if_pos ⟨Nat.le_trans (by decide : 2 ≤ 147) (Nat.le_add_right 147 j), am_in_n hi hn⟩, nI_clamp (by omega)]
    rfl
/-- a row is written -/
theorem rr_iS {j i : Nat} {v : Int32} (hd : decode (am_b y) pc = .ok (.iastore, 1)) (hj : j < 27) (hk : rf_k.getD j 0 = 0) (hn : rf_n.getD j 0 ≤ 100000) (hi : i < rf_n.getD j 0) (kk : RR k y (pc + 1) al r g (rf_u A j (upd (A j) i v)) Q) : RR k y pc al (.int v :: .int (nI i) :: .ref (147 + j) :: r) g A Q := by
  intro h hr
  obtain ⟨a, b⟩ := hr.set hj (upd (A j) i v)
  refine rn_nx hd ?_ (rr_mv b (kk _ a))
  show (if 1 = 1 then am_iS pc al (.int v :: .int (nI i) :: .ref (147 + j) :: r) h else none) = _
  rw [if_pos rfl]
  simp only [am_iS, hr.2 j hj, rf_c, hk]
  rw [if_pos ⟨Nat.le_trans (by decide : 2 ≤ 147) (Nat.le_add_right 147 j), am_in_n hi hn⟩, nI_clamp (by omega)]
  rfl
theorem rr_bS {j i : Nat} {v : Int32} (hd : decode (am_b y) pc = .ok (.bastore, 1)) (hj : j < 27) (hk : rf_k.getD j 0 = 1) (hn : rf_n.getD j 0 ≤ 100000) (hi : i < rf_n.getD j 0) (kk : RR k y (pc + 1) al r g (rf_u A j (upd (A j) i (vp_nar .byte v))) Q) : RR k y pc al (.int v :: .int (nI i) :: .ref (147 + j) :: r) g A Q := by
  intro h hr
  obtain ⟨a, b⟩ := hr.set hj (upd (A j) i (vp_nar .byte v))
  refine rn_nx hd ?_ (rr_mv b (kk _ a))
  show (if 1 = 1 then am_bS pc al (.int v :: .int (nI i) :: .ref (147 + j) :: r) h else none) = _
  rw [if_pos rfl]
  simp only [am_bS, hr.2 j hj, rf_c, hk]
  rw [if_pos ⟨Nat.le_trans (by decide : 2 ≤ 147) (Nat.le_add_right 147 j), am_in_n hi hn⟩, nI_clamp (by omega)]
  rfl
theorem rr_zS {j i : Nat} {v : Int32} (hd : decode (am_b y) pc = .ok (.bastore, 1)) (hj : j < 27) (hk : rf_k.getD j 0 = 2) (hn : rf_n.getD j 0 ≤ 100000) (hi : i < rf_n.getD j 0) (kk : RR k y (pc + 1) al r g (rf_u A j (upd (A j) i (vp_nar .boolean v))) Q) : RR k y pc al (.int v :: .int (nI i) :: .ref (147 + j) :: r) g A Q := by
  intro h hr
  obtain ⟨a, b⟩ := hr.set hj (upd (A j) i (vp_nar .boolean v))
  refine rn_nx hd ?_ (rr_mv b (kk _ a))
  show (if 1 = 1 then am_bS pc al (.int v :: .int (nI i) :: .ref (147 + j) :: r) h else none) = _
  rw [if_pos rfl]
  simp only [am_bS, hr.2 j hj, rf_c, hk]
  rw [if_pos ⟨Nat.le_trans (by decide : 2 ≤ 147) (Nat.le_add_right 147 j), am_in_n hi hn⟩, nI_clamp (by omega)]
  rfl
/-- calls: on the object itself, and of its static methods -/
theorem rr_cv {x z n : Nat} {as : List Value} {al0 : AL} (hd : decode (am_b y) pc = .ok (.invokevirtual x, 3)) (ho : am_o y = 12) (hl : am_ml 12 x = some (0, z)) (hz : am_o z = 12 ∧ am_np z = n ∧ am_L z = al0.length) (hn : as.length = n) (hen : am_en (.ref 146 :: as) al0.length = al0) (h8 : am_ok8 r = true) (hc : RR k z 0 al0 [] g A P) (kk : ∀ v g' A', P v g' A' → RR (k + 1) y (pc + 3) al (v.toList ++ r) g' A' Q) : RR (k + 1) y pc al (as.reverse ++ .ref 146 :: r) g A Q := by
  intro h hr
  obtain ⟨z1, z2, z3⟩ := hz
  subst hn
  refine rn_ca (z := z) (as := .ref 146 :: as) (st' := r) (P := fun v h' => ∃ (g' : Nat → Int32) (A' : Nat → Nat → Int32), RefAt h' g' A' ∧ RefFr h h' ∧ P v g' A') hd ?_ (by rw [z3, hen]) (by rw [z3, hen]; exact hc h hr) (fun v h' ⟨g', A', a, b, c⟩ => rr_mv b (kk v g' A' c h' a))
  show (if 3 = 3 then am_iv (am_o y) x (as.reverse ++ .ref 146 :: r) h else none) = _
  rw [if_pos rfl, ho]
  simp only [am_iv, hl, Option.bind_some, if_true, z2]
  rw [List.drop_append_of_le_length (by simp), List.take_append_of_le_length (by simp)]
  simp only [List.drop_eq_nil_of_le (show as.reverse.length ≤ as.length by simp), List.nil_append, hr.1]
  rw [if_pos ⟨by decide, z1.symm, by decide, h8⟩, List.take_of_length_le (by simp), List.reverse_reverse]
theorem rr_cs {x z n : Nat} {as : List Value} {al0 : AL} (hd : decode (am_b y) pc = .ok (.invokestatic x, 3)) (ho : am_o y = 12) (hl : am_ml 12 x = some (1, z)) (hz : am_o z = 12 ∧ am_np z = n ∧ am_L z = al0.length) (hn : as.length = n) (hen : am_en as al0.length = al0) (h8 : am_ok8 r = true) (hc : RR k z 0 al0 [] g A P) (kk : ∀ v g' A', P v g' A' → RR (k + 1) y (pc + 3) al (v.toList ++ r) g' A' Q) : RR (k + 1) y pc al (as.reverse ++ r) g A Q := by
  intro h hr
  obtain ⟨z1, z2, z3⟩ := hz
  subst hn
  refine rn_ca (z := z) (as := as) (st' := r) (P := fun v h' => ∃ (g' : Nat → Int32) (A' : Nat → Nat → Int32), RefAt h' g' A' ∧ RefFr h h' ∧ P v g' A') hd ?_ (by rw [z3, hen]) (by rw [z3, hen]; exact hc h hr) (fun v h' ⟨g', A', a, b, c⟩ => rr_mv b (kk v g' A' c h' a))
  show (if 3 = 3 then am_vs (am_o y) x pc al (as.reverse ++ r) h else none) = _
  rw [if_pos rfl, ho]
  simp only [am_vs, hl, Option.bind_some, z2]
  rw [if_neg (by decide), if_neg (by decide), if_neg (by decide), List.drop_append_of_le_length (by simp), List.take_append_of_le_length (by simp)]
  simp only [List.drop_eq_nil_of_le (show as.reverse.length ≤ as.length by simp), List.nil_append]
  rw [if_pos ⟨Or.inl trivial, by simp, h8⟩, List.take_of_length_le (by simp), List.reverse_reverse]
/-- returns -/
theorem rr_ri {v : Int32} {ty : FieldType} (hd : decode (am_b y) pc = .ok (.ireturn, 1)) (hr : am_r y = some ty) (hn : narrow ty (.int v) = .int v) (q : Q (some (.int v)) g A) : RR k y pc al [.int v] g A Q := by
  intro h ha
  refine rn_rt (r := some (.int v)) hd ?_ ⟨g, A, ha, RefFr.rf, q⟩
  show (if 1 = 1 then am_rt y [.int v] else none) = _
  rw [if_pos rfl]
  simp only [am_rt, hr]
  rw [if_pos hn]
theorem rr_rv (hd : decode (am_b y) pc = .ok (.return_, 1)) (hr : am_r y = none) (q : Q none g A) : RR k y pc al [] g A Q := by
  intro h ha
  refine rn_rt (r := none) hd ?_ ⟨g, A, ha, RefFr.rf, q⟩
  show (if 1 = 1 then am_vr y [] else none) = _
  rw [if_pos rfl]
  simp only [am_vr, hr]
theorem rr_ceq {x z : Int32} {off : Int} {t : Nat} (hd : decode (am_b y) pc = .ok (.if_icmp .eq off, 3)) (ht : am_tg pc off = some t) (kt : x = z → RR k y t al r g A Q) (kf : ¬ x = z → RR k y (pc + 3) al r g A Q) : RR k y pc al (.int z :: .int x :: r) g A Q := by
  by_cases hc : x = z
  · exact rr_nx (pc' := t) hd (fun h => by show (if 3 = 3 then am_ii .eq off pc al (.int z :: .int x :: r) h else none) = _; rw [if_pos rfl]; simp only [am_ii, ht, Option.bind_some]; rw [if_pos (show am_cp .eq x z = true from decide_eq_true hc)]; rfl) (kt hc)
  · exact rr_nx (pc' := pc + 3) hd (fun h => by show (if 3 = 3 then am_ii .eq off pc al (.int z :: .int x :: r) h else none) = _; rw [if_pos rfl]; simp only [am_ii, ht, Option.bind_some]; rw [if_neg (show ¬ am_cp .eq x z = true from fun e => hc (of_decide_eq_true e))]; rfl) (kf (hc))
theorem rr_ieq {x : Int32} {off : Int} {t : Nat} (hd : decode (am_b y) pc = .ok (.ifCond .eq off, 3)) (ht : am_tg pc off = some t) (kt : x = 0 → RR k y t al r g A Q) (kf : ¬ x = 0 → RR k y (pc + 3) al r g A Q) : RR k y pc al (.int x :: r) g A Q := by
  by_cases hc : x = 0
  · exact rr_nx (pc' := t) hd (fun h => by show (if 3 = 3 then am_if .eq off pc al (.int x :: r) h else none) = _; rw [if_pos rfl]; simp only [am_if, ht, Option.bind_some]; rw [if_pos (show am_cp .eq x 0 = true from decide_eq_true hc)]; rfl) (kt hc)
  · exact rr_nx (pc' := pc + 3) hd (fun h => by show (if 3 = 3 then am_if .eq off pc al (.int x :: r) h else none) = _; rw [if_pos rfl]; simp only [am_if, ht, Option.bind_some]; rw [if_neg (show ¬ am_cp .eq x 0 = true from fun e => hc (of_decide_eq_true e))]; rfl) (kf (hc))
theorem rr_cne {x z : Int32} {off : Int} {t : Nat} (hd : decode (am_b y) pc = .ok (.if_icmp .ne off, 3)) (ht : am_tg pc off = some t) (kt : ¬ x = z → RR k y t al r g A Q) (kf : x = z → RR k y (pc + 3) al r g A Q) : RR k y pc al (.int z :: .int x :: r) g A Q := by
  by_cases hc : ¬ x = z
  · exact rr_nx (pc' := t) hd (fun h => by show (if 3 = 3 then am_ii .ne off pc al (.int z :: .int x :: r) h else none) = _; rw [if_pos rfl]; simp only [am_ii, ht, Option.bind_some]; rw [if_pos (show am_cp .ne x z = true from decide_eq_true hc)]; rfl) (kt hc)
  · exact rr_nx (pc' := pc + 3) hd (fun h => by show (if 3 = 3 then am_ii .ne off pc al (.int z :: .int x :: r) h else none) = _; rw [if_pos rfl]; simp only [am_ii, ht, Option.bind_some]; rw [if_neg (show ¬ am_cp .ne x z = true from fun e => hc (of_decide_eq_true e))]; rfl) (kf (Decidable.byContradiction hc))
theorem rr_ine {x : Int32} {off : Int} {t : Nat} (hd : decode (am_b y) pc = .ok (.ifCond .ne off, 3)) (ht : am_tg pc off = some t) (kt : ¬ x = 0 → RR k y t al r g A Q) (kf : x = 0 → RR k y (pc + 3) al r g A Q) : RR k y pc al (.int x :: r) g A Q := by
  by_cases hc : ¬ x = 0
  · exact rr_nx (pc' := t) hd (fun h => by show (if 3 = 3 then am_if .ne off pc al (.int x :: r) h else none) = _; rw [if_pos rfl]; simp only [am_if, ht, Option.bind_some]; rw [if_pos (show am_cp .ne x 0 = true from decide_eq_true hc)]; rfl) (kt hc)
  · exact rr_nx (pc' := pc + 3) hd (fun h => by show (if 3 = 3 then am_if .ne off pc al (.int x :: r) h else none) = _; rw [if_pos rfl]; simp only [am_if, ht, Option.bind_some]; rw [if_neg (show ¬ am_cp .ne x 0 = true from fun e => hc (of_decide_eq_true e))]; rfl) (kf (Decidable.byContradiction hc))
theorem rr_clt {x z : Int32} {off : Int} {t : Nat} (hd : decode (am_b y) pc = .ok (.if_icmp .lt off, 3)) (ht : am_tg pc off = some t) (kt : x < z → RR k y t al r g A Q) (kf : ¬ x < z → RR k y (pc + 3) al r g A Q) : RR k y pc al (.int z :: .int x :: r) g A Q := by
  by_cases hc : x < z
  · exact rr_nx (pc' := t) hd (fun h => by show (if 3 = 3 then am_ii .lt off pc al (.int z :: .int x :: r) h else none) = _; rw [if_pos rfl]; simp only [am_ii, ht, Option.bind_some]; rw [if_pos (show am_cp .lt x z = true from decide_eq_true hc)]; rfl) (kt hc)
  · exact rr_nx (pc' := pc + 3) hd (fun h => by show (if 3 = 3 then am_ii .lt off pc al (.int z :: .int x :: r) h else none) = _; rw [if_pos rfl]; simp only [am_ii, ht, Option.bind_some]; rw [if_neg (show ¬ am_cp .lt x z = true from fun e => hc (of_decide_eq_true e))]; rfl) (kf (hc))
theorem rr_ilt {x : Int32} {off : Int} {t : Nat} (hd : decode (am_b y) pc = .ok (.ifCond .lt off, 3)) (ht : am_tg pc off = some t) (kt : x < 0 → RR k y t al r g A Q) (kf : ¬ x < 0 → RR k y (pc + 3) al r g A Q) : RR k y pc al (.int x :: r) g A Q := by
  by_cases hc : x < 0
  · exact rr_nx (pc' := t) hd (fun h => by show (if 3 = 3 then am_if .lt off pc al (.int x :: r) h else none) = _; rw [if_pos rfl]; simp only [am_if, ht, Option.bind_some]; rw [if_pos (show am_cp .lt x 0 = true from decide_eq_true hc)]; rfl) (kt hc)
  · exact rr_nx (pc' := pc + 3) hd (fun h => by show (if 3 = 3 then am_if .lt off pc al (.int x :: r) h else none) = _; rw [if_pos rfl]; simp only [am_if, ht, Option.bind_some]; rw [if_neg (show ¬ am_cp .lt x 0 = true from fun e => hc (of_decide_eq_true e))]; rfl) (kf (hc))
theorem rr_cge {x z : Int32} {off : Int} {t : Nat} (hd : decode (am_b y) pc = .ok (.if_icmp .ge off, 3)) (ht : am_tg pc off = some t) (kt : z ≤ x → RR k y t al r g A Q) (kf : ¬ z ≤ x → RR k y (pc + 3) al r g A Q) : RR k y pc al (.int z :: .int x :: r) g A Q := by
  by_cases hc : z ≤ x
  · exact rr_nx (pc' := t) hd (fun h => by show (if 3 = 3 then am_ii .ge off pc al (.int z :: .int x :: r) h else none) = _; rw [if_pos rfl]; simp only [am_ii, ht, Option.bind_some]; rw [if_pos (show am_cp .ge x z = true from decide_eq_true hc)]; rfl) (kt hc)
  · exact rr_nx (pc' := pc + 3) hd (fun h => by show (if 3 = 3 then am_ii .ge off pc al (.int z :: .int x :: r) h else none) = _; rw [if_pos rfl]; simp only [am_ii, ht, Option.bind_some]; rw [if_neg (show ¬ am_cp .ge x z = true from fun e => hc (of_decide_eq_true e))]; rfl) (kf (hc))
theorem rr_ige {x : Int32} {off : Int} {t : Nat} (hd : decode (am_b y) pc = .ok (.ifCond .ge off, 3)) (ht : am_tg pc off = some t) (kt : 0 ≤ x → RR k y t al r g A Q) (kf : ¬ 0 ≤ x → RR k y (pc + 3) al r g A Q) : RR k y pc al (.int x :: r) g A Q := by
  by_cases hc : 0 ≤ x
  · exact rr_nx (pc' := t) hd (fun h => by show (if 3 = 3 then am_if .ge off pc al (.int x :: r) h else none) = _; rw [if_pos rfl]; simp only [am_if, ht, Option.bind_some]; rw [if_pos (show am_cp .ge x 0 = true from decide_eq_true hc)]; rfl) (kt hc)
  · exact rr_nx (pc' := pc + 3) hd (fun h => by show (if 3 = 3 then am_if .ge off pc al (.int x :: r) h else none) = _; rw [if_pos rfl]; simp only [am_if, ht, Option.bind_some]; rw [if_neg (show ¬ am_cp .ge x 0 = true from fun e => hc (of_decide_eq_true e))]; rfl) (kf (hc))
theorem rr_cgt {x z : Int32} {off : Int} {t : Nat} (hd : decode (am_b y) pc = .ok (.if_icmp .gt off, 3)) (ht : am_tg pc off = some t) (kt : z < x → RR k y t al r g A Q) (kf : ¬ z < x → RR k y (pc + 3) al r g A Q) : RR k y pc al (.int z :: .int x :: r) g A Q := by
  by_cases hc : z < x
  · exact rr_nx (pc' := t) hd (fun h => by show (if 3 = 3 then am_ii .gt off pc al (.int z :: .int x :: r) h else none) = _; rw [if_pos rfl]; simp only [am_ii, ht, Option.bind_some]; rw [if_pos (show am_cp .gt x z = true from decide_eq_true hc)]; rfl) (kt hc)
  · exact rr_nx (pc' := pc + 3) hd (fun h => by show (if 3 = 3 then am_ii .gt off pc al (.int z :: .int x :: r) h else none) = _; rw [if_pos rfl]; simp only [am_ii, ht, Option.bind_some]; rw [if_neg (show ¬ am_cp .gt x z = true from fun e => hc (of_decide_eq_true e))]; rfl) (kf (hc))
theorem rr_igt {x : Int32} {off : Int} {t : Nat} (hd : decode (am_b y) pc = .ok (.ifCond .gt off, 3)) (ht : am_tg pc off = some t) (kt : 0 < x → RR k y t al r g A Q) (kf : ¬ 0 < x → RR k y (pc + 3) al r g A Q) : RR k y pc al (.int x :: r) g A Q := by
  by_cases hc : 0 < x
  · exact rr_nx (pc' := t) hd (fun h => by show (if 3 = 3 then am_if .gt off pc al (.int x :: r) h else none) = _; rw [if_pos rfl]; simp only [am_if, ht, Option.bind_some]; rw [if_pos (show am_cp .gt x 0 = true from decide_eq_true hc)]; rfl) (kt hc)
  · exact rr_nx (pc' := pc + 3) hd (fun h => by show (if 3 = 3 then am_if .gt off pc al (.int x :: r) h else none) = _; rw [if_pos rfl]; simp only [am_if, ht, Option.bind_some]; rw [if_neg (show ¬ am_cp .gt x 0 = true from fun e => hc (of_decide_eq_true e))]; rfl) (kf (hc))
theorem rr_cle {x z : Int32} {off : Int} {t : Nat} (hd : decode (am_b y) pc = .ok (.if_icmp .le off, 3)) (ht : am_tg pc off = some t) (kt : x ≤ z → RR k y t al r g A Q) (kf : ¬ x ≤ z → RR k y (pc + 3) al r g A Q) : RR k y pc al (.int z :: .int x :: r) g A Q := by
  by_cases hc : x ≤ z
  · exact rr_nx (pc' := t) hd (fun h => by show (if 3 = 3 then am_ii .le off pc al (.int z :: .int x :: r) h else none) = _; rw [if_pos rfl]; simp only [am_ii, ht, Option.bind_some]; rw [if_pos (show am_cp .le x z = true from decide_eq_true hc)]; rfl) (kt hc)
  · exact rr_nx (pc' := pc + 3) hd (fun h => by show (if 3 = 3 then am_ii .le off pc al (.int z :: .int x :: r) h else none) = _; rw [if_pos rfl]; simp only [am_ii, ht, Option.bind_some]; rw [if_neg (show ¬ am_cp .le x z = true from fun e => hc (of_decide_eq_true e))]; rfl) (kf (hc))
theorem rr_ile {x : Int32} {off : Int} {t : Nat} (hd : decode (am_b y) pc = .ok (.ifCond .le off, 3)) (ht : am_tg pc off = some t) (kt : x ≤ 0 → RR k y t al r g A Q) (kf : ¬ x ≤ 0 → RR k y (pc + 3) al r g A Q) : RR k y pc al (.int x :: r) g A Q := by
  by_cases hc : x ≤ 0
  · exact rr_nx (pc' := t) hd (fun h => by show (if 3 = 3 then am_if .le off pc al (.int x :: r) h else none) = _; rw [if_pos rfl]; simp only [am_if, ht, Option.bind_some]; rw [if_pos (show am_cp .le x 0 = true from decide_eq_true hc)]; rfl) (kt hc)
  · exact rr_nx (pc' := pc + 3) hd (fun h => by show (if 3 = 3 then am_if .le off pc al (.int x :: r) h else none) = _; rw [if_pos rfl]; simp only [am_if, ht, Option.bind_some]; rw [if_neg (show ¬ am_cp .le x 0 = true from fun e => hc (of_decide_eq_true e))]; rfl) (kf (hc))
theorem rn_ceq {a b : Nat} {off : Int} {t : Nat} (hd : decode (am_b y) pc = .ok (.if_icmp .eq off, 3)) (ht : am_tg pc off = some t) (ha : a < 2 ^ 31) (hb : b < 2 ^ 31) (kt : a = b → RR k y t al r g A Q) (kf : ¬ a = b → RR k y (pc + 3) al r g A Q) : RR k y pc al (.int (nI b) :: .int (nI a) :: r) g A Q := rr_ceq hd ht (fun q => kt ((nI_eq ha hb).mp q)) (fun q => kf (fun e => q (by rw [e])))
theorem rn_cne {a b : Nat} {off : Int} {t : Nat} (hd : decode (am_b y) pc = .ok (.if_icmp .ne off, 3)) (ht : am_tg pc off = some t) (ha : a < 2 ^ 31) (hb : b < 2 ^ 31) (kt : ¬ a = b → RR k y t al r g A Q) (kf : a = b → RR k y (pc + 3) al r g A Q) : RR k y pc al (.int (nI b) :: .int (nI a) :: r) g A Q := rr_cne hd ht (fun q => kt (fun e => q (by rw [e]))) (fun q => kf ((nI_eq ha hb).mp q))
theorem rn_clt {a b : Nat} {off : Int} {t : Nat} (hd : decode (am_b y) pc = .ok (.if_icmp .lt off, 3)) (ht : am_tg pc off = some t) (ha : a < 2 ^ 31) (hb : b < 2 ^ 31) (kt : a < b → RR k y t al r g A Q) (kf : b ≤ a → RR k y (pc + 3) al r g A Q) : RR k y pc al (.int (nI b) :: .int (nI a) :: r) g A Q := rr_clt hd ht (fun q => kt ((nI_ltI ha hb).mp q)) (fun q => kf (Nat.not_lt.mp fun e => q ((nI_ltI ha hb).mpr e)))
theorem rn_cge {a b : Nat} {off : Int} {t : Nat} (hd : decode (am_b y) pc = .ok (.if_icmp .ge off, 3)) (ht : am_tg pc off = some t) (ha : a < 2 ^ 31) (hb : b < 2 ^ 31) (kt : b ≤ a → RR k y t al r g A Q) (kf : a < b → RR k y (pc + 3) al r g A Q) : RR k y pc al (.int (nI b) :: .int (nI a) :: r) g A Q := rr_cge hd ht (fun q => kt ((nI_leI hb ha).mp q)) (fun q => kf (Nat.not_le.mp fun e => q ((nI_leI hb ha).mpr e)))
theorem rn_cgt {a b : Nat} {off : Int} {t : Nat} (hd : decode (am_b y) pc = .ok (.if_icmp .gt off, 3)) (ht : am_tg pc off = some t) (ha : a < 2 ^ 31) (hb : b < 2 ^ 31) (kt : b < a → RR k y t al r g A Q) (kf : a ≤ b → RR k y (pc + 3) al r g A Q) : RR k y pc al (.int (nI b) :: .int (nI a) :: r) g A Q := rr_cgt hd ht (fun q => kt ((nI_ltI hb ha).mp q)) (fun q => kf (Nat.not_lt.mp fun e => q ((nI_ltI hb ha).mpr e)))
theorem rn_cle {a b : Nat} {off : Int} {t : Nat} (hd : decode (am_b y) pc = .ok (.if_icmp .le off, 3)) (ht : am_tg pc off = some t) (ha : a < 2 ^ 31) (hb : b < 2 ^ 31) (kt : a ≤ b → RR k y t al r g A Q) (kf : b < a → RR k y (pc + 3) al r g A Q) : RR k y pc al (.int (nI b) :: .int (nI a) :: r) g A Q := rr_cle hd ht (fun q => kt ((nI_leI ha hb).mp q)) (fun q => kf (Nat.not_le.mp fun e => q ((nI_leI ha hb).mpr e)))
theorem rn_add {a b : Nat} (hd : decode (am_b y) pc = .ok (.iadd, 1))  (kk : RR k y (pc + 1) al (.int (nI (a + b)) :: r) g A Q) : RR k y pc al (.int (nI b) :: .int (nI a) :: r) g A Q := by
  refine rr_nx hd (fun h => ?_) kk
  show am_bi _ pc al (.int (nI b) :: .int (nI a) :: r) h = _
  rw [← nI_add]
  rfl
theorem rn_mul {a b : Nat} (hd : decode (am_b y) pc = .ok (.imul, 1))  (kk : RR k y (pc + 1) al (.int (nI (a * b)) :: r) g A Q) : RR k y pc al (.int (nI b) :: .int (nI a) :: r) g A Q := by
  refine rr_nx hd (fun h => ?_) kk
  show am_bi _ pc al (.int (nI b) :: .int (nI a) :: r) h = _
  rw [← pk_mul]
  rfl
theorem rn_sub {a b : Nat} (hd : decode (am_b y) pc = .ok (.isub, 1)) (hab : b ≤ a) (kk : RR k y (pc + 1) al (.int (nI (a - b)) :: r) g A Q) : RR k y pc al (.int (nI b) :: .int (nI a) :: r) g A Q := by
  refine rr_nx hd (fun h => ?_) kk
  show am_bi _ pc al (.int (nI b) :: .int (nI a) :: r) h = _
  rw [← pk_sub hab]
  rfl
theorem rn_div {a b : Nat} (hd : decode (am_b y) pc = .ok (.idiv, 1)) (h0 : 0 < b) (ha : a < 2 ^ 31) (hb : b < 2 ^ 31) (kk : RR k y (pc + 1) al (.int (nI (a / b)) :: r) g A Q) : RR k y pc al (.int (nI b) :: .int (nI a) :: r) g A Q := by
  refine rr_nx hd (fun h => ?_) kk
  show (if nI b = 0 then none else am_nx (pc + 1) al (.int (nI a / nI b) :: r) h) = _
  rw [if_neg (nI_ne0 h0 hb), pk_div ha h0 hb]
  rfl
theorem rn_rem {a b : Nat} (hd : decode (am_b y) pc = .ok (.irem, 1)) (h0 : 0 < b) (ha : a < 2 ^ 31) (hb : b < 2 ^ 31) (kk : RR k y (pc + 1) al (.int (nI (a % b)) :: r) g A Q) : RR k y pc al (.int (nI b) :: .int (nI a) :: r) g A Q := by
  refine rr_nx hd (fun h => ?_) kk
  show (if nI b = 0 then none else am_nx (pc + 1) al (.int (nI a - nI a / nI b * nI b) :: r) h) = _
  rw [if_neg (nI_ne0 h0 hb), pk_rem ha h0 hb]
  rfl
theorem rn_inc {j a : Nat} (hd : decode (am_b y) pc = .ok (.iinc j 1, 3)) (hj : al[j]? = some (some (.int (nI a)))) (hc : am_cs al j = true) (kk : RR k y (pc + 3) (al.set j (some (.int (nI (a + 1))))) st g A Q) : RR k y pc al st g A Q := by
  refine rr_nx hd (fun h => ?_) kk
  show am_ic j 1 pc al st h = _
  unfold am_ic
  rw [hj]
  simp only [hc, if_true]
  rw [show nI a + Int32.ofInt 1 = nI (a + 1) from nI_1 a]
  rfl
theorem rn_ic {n : Int} {v : Nat} (hd : decode (am_b y) pc = .ok (.iconst n, 1)) (hv : Int32.ofInt n = nI v) (kk : RR k y (pc + 1) al (.int (nI v) :: st) g A Q) : RR k y pc al st g A Q := by
  refine rr_nx hd (fun h => ?_) kk
  show am_nx (pc + 1) al (.int (Int32.ofInt n) :: st) h = _
  rw [hv]
  rfl
theorem rn_bp {n : Int} {v : Nat} (hd : decode (am_b y) pc = .ok (.bipush n, 2)) (hv : (Int8.ofInt n).toInt32 = nI v) (kk : RR k y (pc + 2) al (.int (nI v) :: st) g A Q) : RR k y pc al st g A Q := by
  refine rr_nx hd (fun h => ?_) kk
  show am_nx (pc + 2) al (.int (Int8.ofInt n).toInt32 :: st) h = _
  rw [hv]
  rfl
theorem rn_sp {n : Int} {v : Nat} (hd : decode (am_b y) pc = .ok (.sipush n, 3)) (hv : (Int16.ofInt n).toInt32 = nI v) (kk : RR k y (pc + 3) al (.int (nI v) :: st) g A Q) : RR k y pc al st g A Q := by
  refine rr_nx hd (fun h => ?_) kk
  show am_nx (pc + 3) al (.int (Int16.ofInt n).toInt32 :: st) h = _
  rw [hv]
  rfl
/-- a number on the stack has another name -/
theorem rr_tp {x z : Int32} (e : x = z) (kk : RR k y pc al (.int z :: st) g A Q) : RR k y pc al (.int x :: st) g A Q := by
  rw [e]
  exact kk
end RR
