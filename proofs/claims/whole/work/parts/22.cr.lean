/-! THE CLASS: runs over its own cells (all from 2 on but the reference's 146 .. 173); printed by wip/whole/gen_cr.py.
S: how many cells there are, and the shape of each: (kind, size), kind 0 .. 2 rows of int, byte, boolean, 3 of long, 4 + c of objects of class c, 100 + c an object of class c. G fields, B rows of int, J rows of long, R rows of references. -/
abbrev CS : Type := Nat × (Nat → Nat × Nat)
abbrev CQ : Type := Option Value → CS → (Nat → Nat → Value) → (Nat → Nat → Int32) → (Nat → Nat → Int64) → (Nat → Nat → Option Nat) → Prop
def cs_cell (s : Nat × Nat) (G : Nat → Value) (B : Nat → Int32) (J : Nat → Int64) (R : Nat → Option Nat) : AC := if s.1 < 3 then .inl (s.1, s.2, .inl B) else if s.1 = 3 then .inl (3, s.2, .inr (.inl J)) else if s.1 < 100 then .inl (s.1, s.2, .inr (.inr (.inr (.inr R)))) else .inr (s.1 - 100, (List.range s.2).map G)
def cs_in (N a : Nat) : Prop := 2 ≤ a ∧ (a < 146 ∨ 174 ≤ a) ∧ a < N
def ClsAt (h : AH) (S : CS) (G : Nat → Nat → Value) (B : Nat → Nat → Int32) (J : Nat → Nat → Int64) (R : Nat → Nat → Option Nat) : Prop := h.length = S.1 ∧ h[0]? = some (.inl (0, 7, .inl am_fc)) ∧ ∀ a : Nat, cs_in S.1 a → h[a]? = some (cs_cell (S.2 a) (G a) (B a) (J a) (R a))
def ClsFr (h h' : AH) : Prop := h.length ≤ h'.length ∧ ∀ b : Nat, b < 2 ∨ (146 ≤ b ∧ b < 174) → b < h.length → h'[b]? = h[b]?
theorem ClsFr.rf {h : AH} : ClsFr h h := ⟨Nat.le_refl _, fun _ _ _ => rfl⟩
theorem ClsFr.tr {a b c : AH} (h1 : ClsFr a b) (h2 : ClsFr b c) : ClsFr a c := ⟨Nat.le_trans h1.1 h2.1, fun q hq hl => (h2.2 q hq (Nat.lt_of_lt_of_le hl h1.1)).trans (h1.2 q hq hl)⟩
def up2 (G : Nat → Nat → Value) (a k : Nat) (v : Value) : Nat → Nat → Value := fun b j => if b = a ∧ j = k then v else G b j
def upr {α : Type} (B : Nat → α) (a : Nat) (f : α) : Nat → α := fun b => if b = a then f else B b
theorem up2_s {G : Nat → Nat → Value} {a k : Nat} {v : Value} : up2 G a k v a k = v := if_pos ⟨rfl, rfl⟩
theorem up2_n {G : Nat → Nat → Value} {a k b j : Nat} {v : Value} (h : ¬ (b = a ∧ j = k)) : up2 G a k v b j = G b j := if_neg h
theorem upr_s {α : Type} {B : Nat → α} {a : Nat} {f : α} : upr B a f a = f := if_pos rfl
theorem upr_n {α : Type} {B : Nat → α} {a b : Nat} {f : α} (h : b ≠ a) : upr B a f b = B b := if_neg h
theorem upr_u {α : Type} {B : Nat → α} {a : Nat} {f f' : α} : upr (upr B a f) a f' = upr B a f' := by
  funext b
  unfold upr
  by_cases h : b = a <;> simp [h]
theorem upr_id {α : Type} {B : Nat → α} {a : Nat} : upr B a (B a) = B := by
  funext b
  unfold upr
  by_cases h : b = a <;> simp [h]
theorem cs_i {n k : Nat} {G : Nat → Value} {B : Nat → Int32} {J : Nat → Int64} {R : Nat → Option Nat} (hk : k < 3) : cs_cell (k, n) G B J R = .inl (k, n, .inl B) := by unfold cs_cell; rw [if_pos hk]
theorem cs_l {n : Nat} {G : Nat → Value} {B : Nat → Int32} {J : Nat → Int64} {R : Nat → Option Nat} : cs_cell (3, n) G B J R = .inl (3, n, .inr (.inl J)) := by unfold cs_cell; rw [if_neg (show ¬ (3 : Nat) < 3 by decide), if_pos rfl]
theorem cs_r {n k : Nat} {G : Nat → Value} {B : Nat → Int32} {J : Nat → Int64} {R : Nat → Option Nat} (h1 : 4 ≤ k) (h2 : k < 100) : cs_cell (k, n) G B J R = .inl (k, n, .inr (.inr (.inr (.inr R)))) := by unfold cs_cell; rw [if_neg (show ¬ k < 3 by omega), if_neg (show ¬ k = 3 by omega), if_pos h2]
theorem cs_o {n c : Nat} {G : Nat → Value} {B : Nat → Int32} {J : Nat → Int64} {R : Nat → Option Nat} : cs_cell (100 + c, n) G B J R = .inr (c, (List.range n).map G) := by unfold cs_cell; rw [if_neg (show ¬ 100 + c < 3 by omega), if_neg (show ¬ 100 + c = 3 by omega), if_neg (show ¬ 100 + c < 100 by omega), show 100 + c - 100 = c by omega]
/-- one cell is changed -/
theorem ClsAt.set {h : AH} {S : CS} {G G' : Nat → Nat → Value} {B B' : Nat → Nat → Int32} {J J' : Nat → Nat → Int64} {R R' : Nat → Nat → Option Nat} {a : Nat} {c : AC} (hc : ClsAt h S G B J R) (ha : cs_in S.1 a) (e : c = cs_cell (S.2 a) (G' a) (B' a) (J' a) (R' a)) (ne : ∀ b, b ≠ a → G' b = G b ∧ B' b = B b ∧ J' b = J b ∧ R' b = R b) : ClsAt (h.set a c) S G' B' J' R' ∧ ClsFr h (h.set a c) := by
  obtain ⟨h1, h2, h3⟩ := hc
  have hl : a < h.length := by rw [h1]; exact ha.2.2
  refine ⟨⟨by rw [List.length_set]; exact h1, by rw [List.getElem?_set_ne (by have := ha.1; omega)]; exact h2, fun b hb => ?_⟩, by rw [List.length_set]; exact Nat.le_refl _, fun b hb _ => by rw [List.getElem?_set_ne (by have := ha.1; have := ha.2.1; omega)]⟩
  by_cases eb : b = a
  · subst eb
    rw [List.getElem?_set_self hl, e]
  · obtain ⟨e1, e2, e3, e4⟩ := ne b eb
    rw [List.getElem?_set_ne (Ne.symm eb), h3 b hb, e1, e2, e3, e4]
def CR (k y pc : Nat) (al : AL) (st : List Value) (S : CS) (G : Nat → Nat → Value) (B : Nat → Nat → Int32) (J : Nat → Nat → Int64) (R : Nat → Nat → Option Nat) (Q : CQ) : Prop :=
  ∀ h : AH, ClsAt h S G B J R → RN k y pc al st h (fun r h' => ∃ (S' : CS) (G' : Nat → Nat → Value) (B' : Nat → Nat → Int32) (J' : Nat → Nat → Int64) (R' : Nat → Nat → Option Nat), ClsAt h' S' G' B' J' R' ∧ ClsFr h h' ∧ Q r S' G' B' J' R')
section CR
variable {k y pc pc' len : Nat} {al al' : AL} {st st' r : List Value} {S S1 : CS} {G G1 : Nat → Nat → Value} {B B1 : Nat → Nat → Int32} {J J1 : Nat → Nat → Int64} {R R1 : Nat → Nat → Option Nat} {Q P : CQ} {i : Instr}
theorem cr_wk {k' : Nat} (hk : k ≤ k') (kk : CR k y pc al st S G B J R Q) : CR k' y pc al st S G B J R Q := fun h hr => rn_wk hk (kk h hr)
theorem cr_cq (kk : CR k y pc al st S G B J R P) (hq : ∀ r S' G' B' J' R', P r S' G' B' J' R' → Q r S' G' B' J' R') : CR k y pc al st S G B J R Q := fun h hr => rn_cq (kk h hr) (fun r h' ⟨S', G', B', J', R', a, b, c⟩ => ⟨S', G', B', J', R', a, b, hq _ _ _ _ _ _ c⟩)
theorem cr_nx (hd : decode (am_b y) pc = .ok (i, len)) (hs : ∀ h, am_ins y i len pc al st h = some (.inl (pc', al', st', h))) (kk : CR k y pc' al' st' S G B J R Q) : CR k y pc al st S G B J R Q := fun h hr => rn_nx hd (hs h) (kk h hr)
theorem cr_mv {h h1 : AH} (hf : ClsFr h h1) (kk : RN k y pc al st h1 (fun r h' => ∃ (S' : CS) (G' : Nat → Nat → Value) (B' : Nat → Nat → Int32) (J' : Nat → Nat → Int64) (R' : Nat → Nat → Option Nat), ClsAt h' S' G' B' J' R' ∧ ClsFr h1 h' ∧ Q r S' G' B' J' R')) : RN k y pc al st h1 (fun r h' => ∃ (S' : CS) (G' : Nat → Nat → Value) (B' : Nat → Nat → Int32) (J' : Nat → Nat → Int64) (R' : Nat → Nat → Option Nat), ClsAt h' S' G' B' J' R' ∧ ClsFr h h' ∧ Q r S' G' B' J' R') := rn_cq kk (fun r h' ⟨S', G', B', J', R', a, b, c⟩ => ⟨S', G', B', J', R', a, hf.tr b, c⟩)
theorem cr_gf {o x c j n a : Nat} {v : Value} (hd : decode (am_b y) pc = .ok (.getfield x, 3)) (ho : am_o y = o) (hl : am_fl o x = some (c, j)) (ha : cs_in S.1 a) (hs : S.2 a = (100 + c, n)) (hj : j < n) (hv : G a j = v) (kk : CR k y (pc + 3) al (v :: r) S G B J R Q) : CR k y pc al (.ref a :: r) S G B J R Q := by
  subst hv
  intro h hr
  refine rn_nx hd ?_ (kk h hr)
  show (if 3 = 3 then am_gf (am_o y) x pc al (.ref a :: r) h else none) = _
  rw [if_pos rfl, ho]
  have hh := hr.2.2 a ha
  rw [hs, cs_o] at hh
  simp only [am_gf, hl, Option.bind_some, hh]
  rw [if_pos ⟨ha.1, trivial⟩, List.getElem?_map, List.getElem?_range hj]
  rfl
theorem cr_pf {o x c j n a : Nat} {v : Value} (hd : decode (am_b y) pc = .ok (.putfield x, 3)) (ho : am_o y = o) (hl : am_fl o x = some (c, j)) (ha : cs_in S.1 a) (hs : S.2 a = (100 + c, n)) (hj : j < n) (hn : narrow (am_ty c j) v = v) (hf : fits (am_ty c j) v = true) (hfin : (am_T c j).2.2.2 = false ∨ ((am_y y).name = "<init>" ∧ o = c)) (kk : CR k y (pc + 3) al r S (up2 G a j v) B J R Q) : CR k y pc al (v :: .ref a :: r) S G B J R Q := by
  intro h hr
  have hh := hr.2.2 a ha
  rw [hs, cs_o] at hh
  obtain ⟨p1, p2⟩ := hr.set (G' := up2 G a j v) (B' := B) (J' := J) (R' := R) (c := .inr (c, ((List.range n).map (G a)).set j v)) ha (by
    rw [hs, cs_o]
    congr 2
    apply List.ext_getElem?
    intro q
    by_cases hq : q = j
    · subst hq
      rw [List.getElem?_set_self (by simpa using hj), List.getElem?_map, List.getElem?_range hj]
      simp [up2]
    · rw [List.getElem?_set_ne (Ne.symm hq), List.getElem?_map, List.getElem?_map]
      by_cases hqn : q < n
      · rw [List.getElem?_range hqn]
        simp [up2, hq]
      · rw [List.getElem?_eq_none (by simp; omega)]
        rfl) (fun b hb => ⟨by funext q; simp [up2, hb], rfl, rfl, rfl⟩)
  refine rn_nx hd ?_ (cr_mv p2 (kk _ p1))
  show (if 3 = 3 then am_pf y (am_o y) x pc al (v :: .ref a :: r) h else none) = _
  rw [if_pos rfl, ho]
  simp only [am_pf, hl, Option.bind_some, hh]
  rw [if_pos ⟨ha.1, trivial, by simpa using hj, hn, hf, hfin⟩]
  rfl
theorem cr_ia {n a i : Nat} {v : Int32} (hd : decode (am_b y) pc = .ok (.iaload, 1)) (ha : cs_in S.1 a) (hs : S.2 a = (0, n)) (hn : n ≤ 100000) (hi : i < n) (hv : B a i = v) (kk : CR k y (pc + 1) al (.int v :: r) S G B J R Q) : CR k y pc al (.int (nI i) :: .ref a :: r) S G B J R Q := by
  subst hv
  intro h hr
  refine rn_nx hd ?_ (kk h hr)
  show (if 1 = 1 then am_ia pc al (.int (nI i) :: .ref a :: r) h else none) = _
  have hh := hr.2.2 a ha
  rw [hs, cs_i (by decide)] at hh
  rw [if_pos rfl]
  simp only [am_ia, hh]
  rw [if_pos (am_in_n hi hn), nI_clamp (by omega)]
  rfl
/-- the factorials -/
theorem cr_fa {i : Nat} {v : Int32} (hd : decode (am_b y) pc = .ok (.iaload, 1)) (hi : i < 7) (hv : am_fc i = v) (kk : CR k y (pc + 1) al (.int v :: r) S G B J R Q) : CR k y pc al (.int (nI i) :: .ref 0 :: r) S G B J R Q := by
  subst hv
  intro h hr
  refine rn_nx hd ?_ (kk h hr)
  show (if 1 = 1 then am_ia pc al (.int (nI i) :: .ref 0 :: r) h else none) = _
  rw [if_pos rfl]
  simp only [am_ia, hr.2.1]
  rw [if_pos (am_in_n hi (by decide)), nI_clamp (by omega)]
  rfl
theorem cr_gs {o x n : Nat} (hd : decode (am_b y) pc = .ok (.getstatic x, 3)) (ho : am_o y = o) (hl : am_sl o x = some n) (kk : CR k y (pc + 3) al (.ref 0 :: st) S G B J R Q) : CR k y pc al st S G B J R Q := by
  intro h hr
  refine rn_nx hd ?_ (kk h hr)
  show (if 3 = 3 then am_gs (am_o y) x pc al st h else none) = _
  rw [if_pos rfl, ho]
  simp only [am_gs, hl, Option.bind_some]
  rfl
theorem cr_la {n a i : Nat} {v : Int64} (hd : decode (am_b y) pc = .ok (.laload, 1)) (ha : cs_in S.1 a) (hs : S.2 a = (3, n)) (hn : n ≤ 100000) (hi : i < n) (hv : J a i = v) (kk : CR k y (pc + 1) al (.long v :: r) S G B J R Q) : CR k y pc al (.int (nI i) :: .ref a :: r) S G B J R Q := by
  subst hv
  intro h hr
  refine rn_nx hd ?_ (kk h hr)
  show (if 1 = 1 then am_la pc al (.int (nI i) :: .ref a :: r) h else none) = _
  have hh := hr.2.2 a ha
  rw [hs, cs_l] at hh
  rw [if_pos rfl]
  simp only [am_la, hh]
  rw [if_pos ⟨ha.1, am_in_n hi hn⟩, nI_clamp (by omega)]
  rfl
theorem cr_aa {n a i q : Nat} {v : Value} (hd : decode (am_b y) pc = .ok (.aaload, 1)) (ha : cs_in S.1 a) (hq : q = 7 ∨ q = 13 ∨ q = 14) (hs : S.2 a = (q, n)) (hn : n ≤ 100000) (hi : i < n) (hv : va_rf (R a i) = v) (kk : CR k y (pc + 1) al (v :: r) S G B J R Q) : CR k y pc al (.int (nI i) :: .ref a :: r) S G B J R Q := by
  subst hv
  intro h hr
  refine rn_nx hd ?_ (kk h hr)
  show (if 1 = 1 then am_aa pc al (.int (nI i) :: .ref a :: r) h else none) = _
  have hh := hr.2.2 a ha
  rw [hs, cs_r (by omega) (by omega)] at hh
  rw [if_pos rfl]
  simp only [am_aa, hh]
  rw [if_pos ⟨ha.1, hq, am_in_n hi hn⟩, nI_clamp (by omega)]
  rfl
theorem cr_le {n a q : Nat} (hd : decode (am_b y) pc = .ok (.arraylength, 1)) (ha : cs_in S.1 a) (hq : (am_tix q).isSome = true) (hq2 : q < 100) (hs : S.2 a = (q, n)) (kk : CR k y (pc + 1) al (.int (nI n) :: r) S G B J R Q) : CR k y pc al (.ref a :: r) S G B J R Q := by
  intro h hr
  refine rn_nx hd ?_ (kk h hr)
  show (if 1 = 1 then am_le pc al (.ref a :: r) h else none) = _
  have hh := hr.2.2 a ha
  have h1 : 1 ≤ a := Nat.le_trans (by decide) ha.1
  rw [hs] at hh
  rw [if_pos rfl]
  by_cases q3 : q < 3
  · rw [cs_i q3] at hh
    simp only [am_le, hh]
    rw [if_pos ⟨h1, hq⟩]
    rfl
  · by_cases q4 : q = 3
    · subst q4
      rw [cs_l] at hh
      simp only [am_le, hh]
      rw [if_pos ⟨h1, hq⟩]
      rfl
    · rw [cs_r (by omega) hq2] at hh
      simp only [am_le, hh]
      rw [if_pos ⟨h1, hq⟩]
      rfl
theorem cr_iS {n a i : Nat} {v : Int32} (hd : decode (am_b y) pc = .ok (.iastore, 1)) (ha : cs_in S.1 a) (hs : S.2 a = (0, n)) (hn : n ≤ 100000) (hi : i < n) (hB : upr B a (upd (B a) i v) = B1) (kk : CR k y (pc + 1) al r S G B1 J R Q) : CR k y pc al (.int v :: .int (nI i) :: .ref a :: r) S G B J R Q := by
  subst hB
  intro h hr
  have hh := hr.2.2 a ha
  rw [hs, cs_i (by decide)] at hh
  obtain ⟨p1, p2⟩ := hr.set (G' := G) (B' := upr B a (upd (B a) i v)) (J' := J) (R' := R) (c := .inl (0, n, .inl (upd (B a) i v))) ha (by rw [hs, cs_i (by decide), upr_s]) (fun b hb => ⟨rfl, upr_n hb, rfl, rfl⟩)
  refine rn_nx hd ?_ (cr_mv p2 (kk _ p1))
  show (if 1 = 1 then am_iS pc al (.int v :: .int (nI i) :: .ref a :: r) h else none) = _
  rw [if_pos rfl]
  simp only [am_iS, hh]
  rw [if_pos ⟨ha.1, am_in_n hi hn⟩, nI_clamp (by omega)]
  rfl
theorem cr_lS {n a i : Nat} {v : Int64} (hd : decode (am_b y) pc = .ok (.lastore, 1)) (ha : cs_in S.1 a) (hs : S.2 a = (3, n)) (hn : n ≤ 100000) (hi : i < n) (hB : upr J a (vp_updL (J a) i v) = J1) (kk : CR k y (pc + 1) al r S G B J1 R Q) : CR k y pc al (.long v :: .int (nI i) :: .ref a :: r) S G B J R Q := by
  subst hB
  intro h hr
  have hh := hr.2.2 a ha
  rw [hs, cs_l] at hh
  obtain ⟨p1, p2⟩ := hr.set (G' := G) (B' := B) (J' := upr J a (vp_updL (J a) i v)) (R' := R) (c := .inl (3, n, .inr (.inl (vp_updL (J a) i v)))) ha (by rw [hs, cs_l, upr_s]) (fun b hb => ⟨rfl, rfl, upr_n hb, rfl⟩)
  refine rn_nx hd ?_ (cr_mv p2 (kk _ p1))
  show (if 1 = 1 then am_lS pc al (.long v :: .int (nI i) :: .ref a :: r) h else none) = _
  rw [if_pos rfl]
  simp only [am_lS, hh]
  rw [if_pos ⟨ha.1, am_in_n hi hn⟩, nI_clamp (by omega)]
  rfl
theorem cr_aS {n a i c b m : Nat} (hd : decode (am_b y) pc = .ok (.aastore, 1)) (ha : cs_in S.1 a) (hb : cs_in S.1 b) (hq : 4 + c = 7 ∨ 4 + c = 13 ∨ 4 + c = 14) (hs : S.2 a = (4 + c, n)) (hsb : S.2 b = (100 + c, m)) (hn : n ≤ 100000) (hi : i < n) (hB : upr R a (va_up (R a) i (some b)) = R1) (kk : CR k y (pc + 1) al r S G B J R1 Q) : CR k y pc al (.ref b :: .int (nI i) :: .ref a :: r) S G B J R Q := by
  subst hB
  intro h hr
  have hh := hr.2.2 a ha
  rw [hs, cs_r (by omega) (by omega)] at hh
  have hhb := hr.2.2 b hb
  rw [hsb, cs_o] at hhb
  obtain ⟨p1, p2⟩ := hr.set (G' := G) (B' := B) (J' := J) (R' := upr R a (va_up (R a) i (some b))) (c := .inl (4 + c, n, .inr (.inr (.inr (.inr (va_up (R a) i (some b))))))) ha (by rw [hs, cs_r (by omega) (by omega), upr_s]) (fun b hb => ⟨rfl, rfl, rfl, upr_n hb⟩)
  refine rn_nx hd ?_ (cr_mv p2 (kk _ p1))
  show (if 1 = 1 then am_aS pc al (.ref b :: .int (nI i) :: .ref a :: r) h else none) = _
  rw [if_pos rfl]
  simp only [am_aS, hh, hhb]
  rw [if_pos ⟨ha.1, hb.1, trivial, hq, am_in_n hi hn⟩, nI_clamp (by omega)]
  rfl
theorem cr_aN {n a i q : Nat} (hd : decode (am_b y) pc = .ok (.aastore, 1)) (ha : cs_in S.1 a) (hq : q = 7 ∨ q = 13 ∨ q = 14) (hs : S.2 a = (q, n)) (hn : n ≤ 100000) (hi : i < n) (hB : upr R a (va_up (R a) i none) = R1) (kk : CR k y (pc + 1) al r S G B J R1 Q) : CR k y pc al (.null :: .int (nI i) :: .ref a :: r) S G B J R Q := by
  subst hB
  intro h hr
  have hh := hr.2.2 a ha
  rw [hs, cs_r (by omega) (by omega)] at hh
  obtain ⟨p1, p2⟩ := hr.set (G' := G) (B' := B) (J' := J) (R' := upr R a (va_up (R a) i none)) (c := .inl (q, n, .inr (.inr (.inr (.inr (va_up (R a) i none)))))) ha (by rw [hs, cs_r (by omega) (by omega), upr_s]) (fun b hb => ⟨rfl, rfl, rfl, upr_n hb⟩)
  refine rn_nx hd ?_ (cr_mv p2 (kk _ p1))
  show (if 1 = 1 then am_aS pc al (.null :: .int (nI i) :: .ref a :: r) h else none) = _
  rw [if_pos rfl]
  simp only [am_aS, hh]
  rw [if_pos ⟨ha.1, hq, am_in_n hi hn⟩, nI_clamp (by omega)]
  rfl
/-- what is built in -/
theorem cr_cy {o x n0 n1 a a0 sp dp n : Nat} (hd : decode (am_b y) pc = .ok (.invokestatic x, 3)) (ho : am_o y = o) (hl : am_ml o x = some (7, 0)) (ha : cs_in S.1 a) (ha0 : cs_in S.1 a0) (hs : S.2 a = (0, n1)) (hs0 : S.2 a0 = (0, n0)) (h0 : sp + n ≤ n0) (h1 : dp + n ≤ n1) (hb0 : n0 ≤ 100000) (hb1 : n1 ≤ 100000) (h8 : am_ok8 r = true) (hB : upr B a (va_cpy (B a0) (B a) sp dp n) = B1) (kk : CR k y (pc + 3) al r S G B1 J R Q) : CR k y pc al (.int (nI n) :: .int (nI dp) :: .ref a :: .int (nI sp) :: .ref a0 :: r) S G B J R Q := by
  subst hB
  intro h hr
  have hh := hr.2.2 a ha
  rw [hs, cs_i (by decide)] at hh
  have hh0 := hr.2.2 a0 ha0
  rw [hs0, cs_i (by decide)] at hh0
  obtain ⟨p1, p2⟩ := hr.set (G' := G) (B' := upr B a (va_cpy (B a0) (B a) sp dp n)) (J' := J) (R' := R) (c := .inl (0, n1, .inl (va_cpy (B a0) (B a) sp dp n))) ha (by rw [hs, cs_i (by decide), upr_s]) (fun b hb => ⟨rfl, upr_n hb, rfl, rfl⟩)
  refine rn_nx hd ?_ (cr_mv p2 (kk _ p1))
  show (if 3 = 3 then am_vs (am_o y) x pc al (.int (nI n) :: .int (nI dp) :: .ref a :: .int (nI sp) :: .ref a0 :: r) h else none) = _
  rw [if_pos rfl, ho]
  simp only [am_vs, hl, Option.bind_some, if_true, am_cy, hh0, hh]
  have c1 : (nI n).toNatClampNeg = n := nI_clamp (by omega)
  have c2 : (nI dp).toNatClampNeg = dp := nI_clamp (by omega)
  have c3 : (nI sp).toNatClampNeg = sp := nI_clamp (by omega)
  rw [if_pos ⟨ha.1, ha0.1, nI_pos (by omega), nI_pos (by omega), nI_pos (by omega), by rw [c1, c3]; exact h0, by rw [c1, c2]; exact h1, h8⟩, c1, c2, c3]
  rfl
theorem cr_oi {o x a : Nat} (hd : decode (am_b y) pc = .ok (.invokespecial x, 3)) (ho : am_o y = o) (hl : am_ml o x = some (6, 0)) (h8 : am_ok8 r = true) (kk : CR k y (pc + 3) al r S G B J R Q) : CR k y pc al (.ref a :: r) S G B J R Q := by
  intro h hr
  refine rn_nx hd ?_ (kk h hr)
  show (if 3 = 3 then am_vi (am_o y) x pc al (.ref a :: r) h else none) = _
  rw [if_pos rfl, ho]
  simp only [am_vi, hl, Option.bind_some, if_true, h8]
  rfl
theorem cr_mx {o x : Nat} {a b : Int32} (hd : decode (am_b y) pc = .ok (.invokestatic x, 3)) (ho : am_o y = o) (hl : am_ml o x = some (8, 0)) (h8 : am_ok8 r = true) (kk : CR k y (pc + 3) al (.int (if a < b then b else a) :: r) S G B J R Q) : CR k y pc al (.int b :: .int a :: r) S G B J R Q := by
  intro h hr
  refine rn_nx hd ?_ (kk h hr)
  show (if 3 = 3 then am_vs (am_o y) x pc al (.int b :: .int a :: r) h else none) = _
  rw [if_pos rfl, ho]
  simp only [am_vs, hl, Option.bind_some]
  rw [if_neg (by decide), if_pos trivial, if_pos h8]
  rfl
theorem cr_mn {o x : Nat} {a b : Int32} (hd : decode (am_b y) pc = .ok (.invokestatic x, 3)) (ho : am_o y = o) (hl : am_ml o x = some (9, 0)) (h8 : am_ok8 r = true) (kk : CR k y (pc + 3) al (.int (if b < a then b else a) :: r) S G B J R Q) : CR k y pc al (.int b :: .int a :: r) S G B J R Q := by
  intro h hr
  refine rn_nx hd ?_ (kk h hr)
  show (if 3 = 3 then am_vs (am_o y) x pc al (.int b :: .int a :: r) h else none) = _
  rw [if_pos rfl, ho]
  simp only [am_vs, hl, Option.bind_some]
  rw [if_neg (by decide), if_neg (by decide), if_pos trivial, if_pos h8]
  rfl
/-- calls -/
theorem cr_cv {o x z n m b : Nat} {as : List Value} {al0 : AL} (hd : decode (am_b y) pc = .ok (.invokevirtual x, 3)) (ho : am_o y = o) (hl : am_ml o x = some (0, z)) (hz : am_np z = n ∧ am_L z = al0.length) (hn : as.length = n) (hen : am_en (.ref b :: as) al0.length = al0) (hb : cs_in S.1 b) (hs : S.2 b = (100 + am_o z, m)) (h13 : am_o z < 13 ∧ am_o z ≠ 7) (h8 : am_ok8 r = true) (hc : CR k z 0 al0 [] S G B J R P) (kk : ∀ v S' G' B' J' R', P v S' G' B' J' R' → CR (k + 1) y (pc + 3) al (v.toList ++ r) S' G' B' J' R' Q) : CR (k + 1) y pc al (as.reverse ++ .ref b :: r) S G B J R Q := by
  intro h hr
  obtain ⟨z2, z3⟩ := hz
  subst hn
  have hh := hr.2.2 b hb
  rw [hs, cs_o] at hh
  refine rn_ca (z := z) (as := .ref b :: as) (st' := r) (P := fun v h' => ∃ (S' : CS) (G' : Nat → Nat → Value) (B' : Nat → Nat → Int32) (J' : Nat → Nat → Int64) (R' : Nat → Nat → Option Nat), ClsAt h' S' G' B' J' R' ∧ ClsFr h h' ∧ P v S' G' B' J' R') hd ?_ (by rw [z3, hen]) (by rw [z3, hen]; exact hc h hr) (fun v h' ⟨S', G', B', J', R', p, q, c⟩ => cr_mv q (kk v S' G' B' J' R' c h' p))
  show (if 3 = 3 then am_iv (am_o y) x (as.reverse ++ .ref b :: r) h else none) = _
  rw [if_pos rfl, ho]
  simp only [am_iv, hl, Option.bind_some, if_true, z2]
  rw [List.drop_append_of_le_length (by simp), List.take_append_of_le_length (by simp)]
  simp only [List.drop_eq_nil_of_le (show as.reverse.length ≤ as.length by simp), List.nil_append, hh]
  rw [if_pos ⟨hb.1, trivial, h13, h8⟩, List.take_of_length_le (by simp), List.reverse_reverse]
theorem cr_cs {o x z n q : Nat} {as : List Value} {al0 : AL} (hd : decode (am_b y) pc = .ok (.invokestatic x, 3)) (ho : am_o y = o) (hl : am_ml o x = some (q, z)) (hq : q = 1 ∨ q = 3) (hz : am_np z = n ∧ am_L z = al0.length) (hn : as.length = n) (hen : am_en as al0.length = al0) (h8 : am_ok8 r = true) (hc : CR k z 0 al0 [] S G B J R P) (kk : ∀ v S' G' B' J' R', P v S' G' B' J' R' → CR (k + 1) y (pc + 3) al (v.toList ++ r) S' G' B' J' R' Q) : CR (k + 1) y pc al (as.reverse ++ r) S G B J R Q := by
  intro h hr
  obtain ⟨z2, z3⟩ := hz
  subst hn
  refine rn_ca (z := z) (as := as) (st' := r) (P := fun v h' => ∃ (S' : CS) (G' : Nat → Nat → Value) (B' : Nat → Nat → Int32) (J' : Nat → Nat → Int64) (R' : Nat → Nat → Option Nat), ClsAt h' S' G' B' J' R' ∧ ClsFr h h' ∧ P v S' G' B' J' R') hd ?_ (by rw [z3, hen]) (by rw [z3, hen]; exact hc h hr) (fun v h' ⟨S', G', B', J', R', p, q, c⟩ => cr_mv q (kk v S' G' B' J' R' c h' p))
  show (if 3 = 3 then am_vs (am_o y) x pc al (as.reverse ++ r) h else none) = _
  rw [if_pos rfl, ho]
  simp only [am_vs, hl, Option.bind_some, z2]
  rw [if_neg (by omega), if_neg (by omega), if_neg (by omega), List.drop_append_of_le_length (by simp), List.take_append_of_le_length (by simp)]
  simp only [List.drop_eq_nil_of_le (show as.reverse.length ≤ as.length by simp), List.nil_append]
  rw [if_pos ⟨hq, by simp, h8⟩, List.take_of_length_le (by simp), List.reverse_reverse]
theorem cr_ci {o x z n b q : Nat} {as : List Value} {al0 : AL} (hd : decode (am_b y) pc = .ok (.invokespecial x, 3)) (ho : am_o y = o) (hl : am_ml o x = some (q, z)) (hq : q = 2 ∨ q = 4) (hz : am_np z = n ∧ am_L z = al0.length) (hn : as.length = n) (hen : am_en (.ref b :: as) al0.length = al0) (h8 : am_ok8 r = true) (hc : CR k z 0 al0 [] S G B J R P) (kk : ∀ v S' G' B' J' R', P v S' G' B' J' R' → CR (k + 1) y (pc + 3) al (v.toList ++ r) S' G' B' J' R' Q) : CR (k + 1) y pc al (as.reverse ++ .ref b :: r) S G B J R Q := by
  intro h hr
  obtain ⟨z2, z3⟩ := hz
  subst hn
  refine rn_ca (z := z) (as := .ref b :: as) (st' := r) (P := fun v h' => ∃ (S' : CS) (G' : Nat → Nat → Value) (B' : Nat → Nat → Int32) (J' : Nat → Nat → Int64) (R' : Nat → Nat → Option Nat), ClsAt h' S' G' B' J' R' ∧ ClsFr h h' ∧ P v S' G' B' J' R') hd ?_ (by rw [z3, hen]) (by rw [z3, hen]; exact hc h hr) (fun v h' ⟨S', G', B', J', R', p, q, c⟩ => cr_mv q (kk v S' G' B' J' R' c h' p))
  show (if 3 = 3 then am_vi (am_o y) x pc al (as.reverse ++ .ref b :: r) h else none) = _
  rw [if_pos rfl, ho]
  simp only [am_vi, hl, Option.bind_some, z2]
  rw [if_neg (by omega), if_pos hq, List.drop_append_of_le_length (by simp), List.take_append_of_le_length (by simp)]
  simp only [List.drop_eq_nil_of_le (show as.reverse.length ≤ as.length by simp), List.nil_append]
  rw [if_pos h8, List.take_of_length_le (by simp), List.reverse_reverse]
/-- returns -/
theorem cr_ri {v : Int32} {ty : FieldType} (hd : decode (am_b y) pc = .ok (.ireturn, 1)) (hr : am_r y = some ty) (hn : narrow ty (.int v) = .int v) (q : Q (some (.int v)) S G B J R) : CR k y pc al [.int v] S G B J R Q := by
  intro h ha
  refine rn_rt (r := some (.int v)) hd ?_ ⟨S, G, B, J, R, ha, ClsFr.rf, q⟩
  show (if 1 = 1 then am_rt y [.int v] else none) = _
  rw [if_pos rfl]
  simp only [am_rt, hr]
  rw [if_pos hn]
theorem cr_ra {v : Nat} {ty : FieldType} (hd : decode (am_b y) pc = .ok (.areturn, 1)) (hr : am_r y = some ty) (ht : (∃ n, ty = .object n) ∨ ∃ t, ty = .array t) (q : Q (some (.ref v)) S G B J R) : CR k y pc al [.ref v] S G B J R Q := by
  intro h ha
  refine rn_rt (r := some (.ref v)) hd ?_ ⟨S, G, B, J, R, ha, ClsFr.rf, q⟩
  show (if 1 = 1 then am_ar y [.ref v] else none) = _
  rw [if_pos rfl]
  rcases ht with ⟨n, rfl⟩ | ⟨t, rfl⟩ <;> simp only [am_ar, hr]
theorem cr_rN {ty : FieldType} (hd : decode (am_b y) pc = .ok (.areturn, 1)) (hr : am_r y = some ty) (ht : (∃ n, ty = .object n) ∨ ∃ t, ty = .array t) (q : Q (some .null) S G B J R) : CR k y pc al [.null] S G B J R Q := by
  intro h ha
  refine rn_rt (r := some .null) hd ?_ ⟨S, G, B, J, R, ha, ClsFr.rf, q⟩
  show (if 1 = 1 then am_ar y [.null] else none) = _
  rw [if_pos rfl]
  rcases ht with ⟨n, rfl⟩ | ⟨t, rfl⟩ <;> simp only [am_ar, hr]
theorem cr_rv (hd : decode (am_b y) pc = .ok (.return_, 1)) (hr : am_r y = none) (q : Q none S G B J R) : CR k y pc al [] S G B J R Q := by
  intro h ha
  refine rn_rt (r := none) hd ?_ ⟨S, G, B, J, R, ha, ClsFr.rf, q⟩
  show (if 1 = 1 then am_vr y [] else none) = _
  rw [if_pos rfl]
  simp only [am_vr, hr]
end CR
section CR
variable {k y pc pc' len : Nat} {al al' : AL} {st st' r : List Value} {S : CS} {G : Nat → Nat → Value} {B : Nat → Nat → Int32} {J : Nat → Nat → Int64} {R : Nat → Nat → Option Nat} {Q : CQ} {i : Instr}
theorem cr_ceq {x z : Int32} {off : Int} {t : Nat} (hd : decode (am_b y) pc = .ok (.if_icmp .eq off, 3)) (ht : am_tg pc off = some t) (kt : x = z → CR k y t al r S G B J R Q) (kf : ¬ x = z → CR k y (pc + 3) al r S G B J R Q) : CR k y pc al (.int z :: .int x :: r) S G B J R Q := by
  by_cases hc : x = z
  · exact cr_nx (pc' := t) hd (fun h => by show (if 3 = 3 then am_ii .eq off pc al (.int z :: .int x :: r) h else none) = _; rw [if_pos rfl]; simp only [am_ii, ht, Option.bind_some]; rw [if_pos (show am_cp .eq x z = true from decide_eq_true hc)]; rfl) (kt hc)
  · exact cr_nx (pc' := pc + 3) hd (fun h => by show (if 3 = 3 then am_ii .eq off pc al (.int z :: .int x :: r) h else none) = _; rw [if_pos rfl]; simp only [am_ii, ht, Option.bind_some]; rw [if_neg (show ¬ am_cp .eq x z = true from fun e => hc (of_decide_eq_true e))]; rfl) (kf (hc))
theorem cr_ieq {x : Int32} {off : Int} {t : Nat} (hd : decode (am_b y) pc = .ok (.ifCond .eq off, 3)) (ht : am_tg pc off = some t) (kt : x = 0 → CR k y t al r S G B J R Q) (kf : ¬ x = 0 → CR k y (pc + 3) al r S G B J R Q) : CR k y pc al (.int x :: r) S G B J R Q := by
  by_cases hc : x = 0
  · exact cr_nx (pc' := t) hd (fun h => by show (if 3 = 3 then am_if .eq off pc al (.int x :: r) h else none) = _; rw [if_pos rfl]; simp only [am_if, ht, Option.bind_some]; rw [if_pos (show am_cp .eq x 0 = true from decide_eq_true hc)]; rfl) (kt hc)
  · exact cr_nx (pc' := pc + 3) hd (fun h => by show (if 3 = 3 then am_if .eq off pc al (.int x :: r) h else none) = _; rw [if_pos rfl]; simp only [am_if, ht, Option.bind_some]; rw [if_neg (show ¬ am_cp .eq x 0 = true from fun e => hc (of_decide_eq_true e))]; rfl) (kf (hc))
theorem cr_cne {x z : Int32} {off : Int} {t : Nat} (hd : decode (am_b y) pc = .ok (.if_icmp .ne off, 3)) (ht : am_tg pc off = some t) (kt : ¬ x = z → CR k y t al r S G B J R Q) (kf : x = z → CR k y (pc + 3) al r S G B J R Q) : CR k y pc al (.int z :: .int x :: r) S G B J R Q := by
  by_cases hc : ¬ x = z
  · exact cr_nx (pc' := t) hd (fun h => by show (if 3 = 3 then am_ii .ne off pc al (.int z :: .int x :: r) h else none) = _; rw [if_pos rfl]; simp only [am_ii, ht, Option.bind_some]; rw [if_pos (show am_cp .ne x z = true from decide_eq_true hc)]; rfl) (kt hc)
  · exact cr_nx (pc' := pc + 3) hd (fun h => by show (if 3 = 3 then am_ii .ne off pc al (.int z :: .int x :: r) h else none) = _; rw [if_pos rfl]; simp only [am_ii, ht, Option.bind_some]; rw [if_neg (show ¬ am_cp .ne x z = true from fun e => hc (of_decide_eq_true e))]; rfl) (kf (Decidable.byContradiction hc))
theorem cr_ine {x : Int32} {off : Int} {t : Nat} (hd : decode (am_b y) pc = .ok (.ifCond .ne off, 3)) (ht : am_tg pc off = some t) (kt : ¬ x = 0 → CR k y t al r S G B J R Q) (kf : x = 0 → CR k y (pc + 3) al r S G B J R Q) : CR k y pc al (.int x :: r) S G B J R Q := by
  by_cases hc : ¬ x = 0
  · exact cr_nx (pc' := t) hd (fun h => by show (if 3 = 3 then am_if .ne off pc al (.int x :: r) h else none) = _; rw [if_pos rfl]; simp only [am_if, ht, Option.bind_some]; rw [if_pos (show am_cp .ne x 0 = true from decide_eq_true hc)]; rfl) (kt hc)
  · exact cr_nx (pc' := pc + 3) hd (fun h => by show (if 3 = 3 then am_if .ne off pc al (.int x :: r) h else none) = _; rw [if_pos rfl]; simp only [am_if, ht, Option.bind_some]; rw [if_neg (show ¬ am_cp .ne x 0 = true from fun e => hc (of_decide_eq_true e))]; rfl) (kf (Decidable.byContradiction hc))
theorem cr_clt {x z : Int32} {off : Int} {t : Nat} (hd : decode (am_b y) pc = .ok (.if_icmp .lt off, 3)) (ht : am_tg pc off = some t) (kt : x < z → CR k y t al r S G B J R Q) (kf : ¬ x < z → CR k y (pc + 3) al r S G B J R Q) : CR k y pc al (.int z :: .int x :: r) S G B J R Q := by
  by_cases hc : x < z
  · exact cr_nx (pc' := t) hd (fun h => by show (if 3 = 3 then am_ii .lt off pc al (.int z :: .int x :: r) h else none) = _; rw [if_pos rfl]; simp only [am_ii, ht, Option.bind_some]; rw [if_pos (show am_cp .lt x z = true from decide_eq_true hc)]; rfl) (kt hc)
  · exact cr_nx (pc' := pc + 3) hd (fun h => by show (if 3 = 3 then am_ii .lt off pc al (.int z :: .int x :: r) h else none) = _; rw [if_pos rfl]; simp only [am_ii, ht, Option.bind_some]; rw [if_neg (show ¬ am_cp .lt x z = true from fun e => hc (of_decide_eq_true e))]; rfl) (kf (hc))
theorem cr_ilt {x : Int32} {off : Int} {t : Nat} (hd : decode (am_b y) pc = .ok (.ifCond .lt off, 3)) (ht : am_tg pc off = some t) (kt : x < 0 → CR k y t al r S G B J R Q) (kf : ¬ x < 0 → CR k y (pc + 3) al r S G B J R Q) : CR k y pc al (.int x :: r) S G B J R Q := by
  by_cases hc : x < 0
  · exact cr_nx (pc' := t) hd (fun h => by show (if 3 = 3 then am_if .lt off pc al (.int x :: r) h else none) = _; rw [if_pos rfl]; simp only [am_if, ht, Option.bind_some]; rw [if_pos (show am_cp .lt x 0 = true from decide_eq_true hc)]; rfl) (kt hc)
  · exact cr_nx (pc' := pc + 3) hd (fun h => by show (if 3 = 3 then am_if .lt off pc al (.int x :: r) h else none) = _; rw [if_pos rfl]; simp only [am_if, ht, Option.bind_some]; rw [if_neg (show ¬ am_cp .lt x 0 = true from fun e => hc (of_decide_eq_true e))]; rfl) (kf (hc))
theorem cr_cge {x z : Int32} {off : Int} {t : Nat} (hd : decode (am_b y) pc = .ok (.if_icmp .ge off, 3)) (ht : am_tg pc off = some t) (kt : z ≤ x → CR k y t al r S G B J R Q) (kf : ¬ z ≤ x → CR k y (pc + 3) al r S G B J R Q) : CR k y pc al (.int z :: .int x :: r) S G B J R Q := by
  by_cases hc : z ≤ x
  · exact cr_nx (pc' := t) hd (fun h => by show (if 3 = 3 then am_ii .ge off pc al (.int z :: .int x :: r) h else none) = _; rw [if_pos rfl]; simp only [am_ii, ht, Option.bind_some]; rw [if_pos (show am_cp .ge x z = true from decide_eq_true hc)]; rfl) (kt hc)
  · exact cr_nx (pc' := pc + 3) hd (fun h => by show (if 3 = 3 then am_ii .ge off pc al (.int z :: .int x :: r) h else none) = _; rw [if_pos rfl]; simp only [am_ii, ht, Option.bind_some]; rw [if_neg (show ¬ am_cp .ge x z = true from fun e => hc (of_decide_eq_true e))]; rfl) (kf (hc))
theorem cr_ige {x : Int32} {off : Int} {t : Nat} (hd : decode (am_b y) pc = .ok (.ifCond .ge off, 3)) (ht : am_tg pc off = some t) (kt : 0 ≤ x → CR k y t al r S G B J R Q) (kf : ¬ 0 ≤ x → CR k y (pc + 3) al r S G B J R Q) : CR k y pc al (.int x :: r) S G B J R Q := by
  by_cases hc : 0 ≤ x
  · exact cr_nx (pc' := t) hd (fun h => by show (if 3 = 3 then am_if .ge off pc al (.int x :: r) h else none) = _; rw [if_pos rfl]; simp only [am_if, ht, Option.bind_some]; rw [if_pos (show am_cp .ge x 0 = true from decide_eq_true hc)]; rfl) (kt hc)
  · exact cr_nx (pc' := pc + 3) hd (fun h => by show (if 3 = 3 then am_if .ge off pc al (.int x :: r) h else none) = _; rw [if_pos rfl]; simp only [am_if, ht, Option.bind_some]; rw [if_neg (show ¬ am_cp .ge x 0 = true from fun e => hc (of_decide_eq_true e))]; rfl) (kf (hc))
theorem cr_cgt {x z : Int32} {off : Int} {t : Nat} (hd : decode (am_b y) pc = .ok (.if_icmp .gt off, 3)) (ht : am_tg pc off = some t) (kt : z < x → CR k y t al r S G B J R Q) (kf : ¬ z < x → CR k y (pc + 3) al r S G B J R Q) : CR k y pc al (.int z :: .int x :: r) S G B J R Q := by
  by_cases hc : z < x
  · exact cr_nx (pc' := t) hd (fun h => by show (if 3 = 3 then am_ii .gt off pc al (.int z :: .int x :: r) h else none) = _; rw [if_pos rfl]; simp only [am_ii, ht, Option.bind_some]; rw [if_pos (show am_cp .gt x z = true from decide_eq_true hc)]; rfl) (kt hc)
  · exact cr_nx (pc' := pc + 3) hd (fun h => by show (if 3 = 3 then am_ii .gt off pc al (.int z :: .int x :: r) h else none) = _; rw [if_pos rfl]; simp only [am_ii, ht, Option.bind_some]; rw [if_neg (show ¬ am_cp .gt x z = true from fun e => hc (of_decide_eq_true e))]; rfl) (kf (hc))
theorem cr_igt {x : Int32} {off : Int} {t : Nat} (hd : decode (am_b y) pc = .ok (.ifCond .gt off, 3)) (ht : am_tg pc off = some t) (kt : 0 < x → CR k y t al r S G B J R Q) (kf : ¬ 0 < x → CR k y (pc + 3) al r S G B J R Q) : CR k y pc al (.int x :: r) S G B J R Q := by
  by_cases hc : 0 < x
  · exact cr_nx (pc' := t) hd (fun h => by show (if 3 = 3 then am_if .gt off pc al (.int x :: r) h else none) = _; rw [if_pos rfl]; simp only [am_if, ht, Option.bind_some]; rw [if_pos (show am_cp .gt x 0 = true from decide_eq_true hc)]; rfl) (kt hc)
  · exact cr_nx (pc' := pc + 3) hd (fun h => by show (if 3 = 3 then am_if .gt off pc al (.int x :: r) h else none) = _; rw [if_pos rfl]; simp only [am_if, ht, Option.bind_some]; rw [if_neg (show ¬ am_cp .gt x 0 = true from fun e => hc (of_decide_eq_true e))]; rfl) (kf (hc))
theorem cr_cle {x z : Int32} {off : Int} {t : Nat} (hd : decode (am_b y) pc = .ok (.if_icmp .le off, 3)) (ht : am_tg pc off = some t) (kt : x ≤ z → CR k y t al r S G B J R Q) (kf : ¬ x ≤ z → CR k y (pc + 3) al r S G B J R Q) : CR k y pc al (.int z :: .int x :: r) S G B J R Q := by
  by_cases hc : x ≤ z
  · exact cr_nx (pc' := t) hd (fun h => by show (if 3 = 3 then am_ii .le off pc al (.int z :: .int x :: r) h else none) = _; rw [if_pos rfl]; simp only [am_ii, ht, Option.bind_some]; rw [if_pos (show am_cp .le x z = true from decide_eq_true hc)]; rfl) (kt hc)
  · exact cr_nx (pc' := pc + 3) hd (fun h => by show (if 3 = 3 then am_ii .le off pc al (.int z :: .int x :: r) h else none) = _; rw [if_pos rfl]; simp only [am_ii, ht, Option.bind_some]; rw [if_neg (show ¬ am_cp .le x z = true from fun e => hc (of_decide_eq_true e))]; rfl) (kf (hc))
theorem cr_ile {x : Int32} {off : Int} {t : Nat} (hd : decode (am_b y) pc = .ok (.ifCond .le off, 3)) (ht : am_tg pc off = some t) (kt : x ≤ 0 → CR k y t al r S G B J R Q) (kf : ¬ x ≤ 0 → CR k y (pc + 3) al r S G B J R Q) : CR k y pc al (.int x :: r) S G B J R Q := by
  by_cases hc : x ≤ 0
  · exact cr_nx (pc' := t) hd (fun h => by show (if 3 = 3 then am_if .le off pc al (.int x :: r) h else none) = _; rw [if_pos rfl]; simp only [am_if, ht, Option.bind_some]; rw [if_pos (show am_cp .le x 0 = true from decide_eq_true hc)]; rfl) (kt hc)
  · exact cr_nx (pc' := pc + 3) hd (fun h => by show (if 3 = 3 then am_if .le off pc al (.int x :: r) h else none) = _; rw [if_pos rfl]; simp only [am_if, ht, Option.bind_some]; rw [if_neg (show ¬ am_cp .le x 0 = true from fun e => hc (of_decide_eq_true e))]; rfl) (kf (hc))
theorem cn_ceq {a b : Nat} {off : Int} {t : Nat} (hd : decode (am_b y) pc = .ok (.if_icmp .eq off, 3)) (ht : am_tg pc off = some t) (ha : a < 2 ^ 31) (hb : b < 2 ^ 31) (kt : a = b → CR k y t al r S G B J R Q) (kf : ¬ a = b → CR k y (pc + 3) al r S G B J R Q) : CR k y pc al (.int (nI b) :: .int (nI a) :: r) S G B J R Q := cr_ceq hd ht (fun q => kt ((nI_eq ha hb).mp q)) (fun q => kf (fun e => q (by rw [e])))
theorem cn_cne {a b : Nat} {off : Int} {t : Nat} (hd : decode (am_b y) pc = .ok (.if_icmp .ne off, 3)) (ht : am_tg pc off = some t) (ha : a < 2 ^ 31) (hb : b < 2 ^ 31) (kt : ¬ a = b → CR k y t al r S G B J R Q) (kf : a = b → CR k y (pc + 3) al r S G B J R Q) : CR k y pc al (.int (nI b) :: .int (nI a) :: r) S G B J R Q := cr_cne hd ht (fun q => kt (fun e => q (by rw [e]))) (fun q => kf ((nI_eq ha hb).mp q))
theorem cn_clt {a b : Nat} {off : Int} {t : Nat} (hd : decode (am_b y) pc = .ok (.if_icmp .lt off, 3)) (ht : am_tg pc off = some t) (ha : a < 2 ^ 31) (hb : b < 2 ^ 31) (kt : a < b → CR k y t al r S G B J R Q) (kf : b ≤ a → CR k y (pc + 3) al r S G B J R Q) : CR k y pc al (.int (nI b) :: .int (nI a) :: r) S G B J R Q := cr_clt hd ht (fun q => kt ((nI_ltI ha hb).mp q)) (fun q => kf (Nat.not_lt.mp fun e => q ((nI_ltI ha hb).mpr e)))
theorem cn_cge {a b : Nat} {off : Int} {t : Nat} (hd : decode (am_b y) pc = .ok (.if_icmp .ge off, 3)) (ht : am_tg pc off = some t) (ha : a < 2 ^ 31) (hb : b < 2 ^ 31) (kt : b ≤ a → CR k y t al r S G B J R Q) (kf : a < b → CR k y (pc + 3) al r S G B J R Q) : CR k y pc al (.int (nI b) :: .int (nI a) :: r) S G B J R Q := cr_cge hd ht (fun q => kt ((nI_leI hb ha).mp q)) (fun q => kf (Nat.not_le.mp fun e => q ((nI_leI hb ha).mpr e)))
theorem cn_cgt {a b : Nat} {off : Int} {t : Nat} (hd : decode (am_b y) pc = .ok (.if_icmp .gt off, 3)) (ht : am_tg pc off = some t) (ha : a < 2 ^ 31) (hb : b < 2 ^ 31) (kt : b < a → CR k y t al r S G B J R Q) (kf : a ≤ b → CR k y (pc + 3) al r S G B J R Q) : CR k y pc al (.int (nI b) :: .int (nI a) :: r) S G B J R Q := cr_cgt hd ht (fun q => kt ((nI_ltI hb ha).mp q)) (fun q => kf (Nat.not_lt.mp fun e => q ((nI_ltI hb ha).mpr e)))
theorem cn_cle {a b : Nat} {off : Int} {t : Nat} (hd : decode (am_b y) pc = .ok (.if_icmp .le off, 3)) (ht : am_tg pc off = some t) (ha : a < 2 ^ 31) (hb : b < 2 ^ 31) (kt : a ≤ b → CR k y t al r S G B J R Q) (kf : b < a → CR k y (pc + 3) al r S G B J R Q) : CR k y pc al (.int (nI b) :: .int (nI a) :: r) S G B J R Q := cr_cle hd ht (fun q => kt ((nI_leI ha hb).mp q)) (fun q => kf (Nat.not_le.mp fun e => q ((nI_leI ha hb).mpr e)))
theorem cn_add {a b : Nat} (hd : decode (am_b y) pc = .ok (.iadd, 1))  (kk : CR k y (pc + 1) al (.int (nI (a + b)) :: r) S G B J R Q) : CR k y pc al (.int (nI b) :: .int (nI a) :: r) S G B J R Q := by
  refine cr_nx hd (fun h => ?_) kk
  show am_bi _ pc al (.int (nI b) :: .int (nI a) :: r) h = _
  rw [← nI_add]
  rfl
theorem cn_mul {a b : Nat} (hd : decode (am_b y) pc = .ok (.imul, 1))  (kk : CR k y (pc + 1) al (.int (nI (a * b)) :: r) S G B J R Q) : CR k y pc al (.int (nI b) :: .int (nI a) :: r) S G B J R Q := by
  refine cr_nx hd (fun h => ?_) kk
  show am_bi _ pc al (.int (nI b) :: .int (nI a) :: r) h = _
  rw [← pk_mul]
  rfl
theorem cn_sub {a b : Nat} (hd : decode (am_b y) pc = .ok (.isub, 1)) (hab : b ≤ a) (kk : CR k y (pc + 1) al (.int (nI (a - b)) :: r) S G B J R Q) : CR k y pc al (.int (nI b) :: .int (nI a) :: r) S G B J R Q := by
  refine cr_nx hd (fun h => ?_) kk
  show am_bi _ pc al (.int (nI b) :: .int (nI a) :: r) h = _
  rw [← pk_sub hab]
  rfl
theorem cn_div {a b : Nat} (hd : decode (am_b y) pc = .ok (.idiv, 1)) (h0 : 0 < b) (ha : a < 2 ^ 31) (hb : b < 2 ^ 31) (kk : CR k y (pc + 1) al (.int (nI (a / b)) :: r) S G B J R Q) : CR k y pc al (.int (nI b) :: .int (nI a) :: r) S G B J R Q := by
  refine cr_nx hd (fun h => ?_) kk
  show (if nI b = 0 then none else am_nx (pc + 1) al (.int (nI a / nI b) :: r) h) = _
  rw [if_neg (nI_ne0 h0 hb), pk_div ha h0 hb]
  rfl
theorem cn_rem {a b : Nat} (hd : decode (am_b y) pc = .ok (.irem, 1)) (h0 : 0 < b) (ha : a < 2 ^ 31) (hb : b < 2 ^ 31) (kk : CR k y (pc + 1) al (.int (nI (a % b)) :: r) S G B J R Q) : CR k y pc al (.int (nI b) :: .int (nI a) :: r) S G B J R Q := by
  refine cr_nx hd (fun h => ?_) kk
  show (if nI b = 0 then none else am_nx (pc + 1) al (.int (nI a - nI a / nI b * nI b) :: r) h) = _
  rw [if_neg (nI_ne0 h0 hb), pk_rem ha h0 hb]
  rfl
theorem cn_inc {j a : Nat} (hd : decode (am_b y) pc = .ok (.iinc j 1, 3)) (hj : al[j]? = some (some (.int (nI a)))) (hc : am_cs al j = true) (kk : CR k y (pc + 3) (al.set j (some (.int (nI (a + 1))))) st S G B J R Q) : CR k y pc al st S G B J R Q := by
  refine cr_nx hd (fun h => ?_) kk
  show am_ic j 1 pc al st h = _
  unfold am_ic
  rw [hj]
  simp only [hc, if_true]
  rw [show nI a + Int32.ofInt 1 = nI (a + 1) from nI_1 a]
  rfl
theorem cn_ic {n : Int} {v : Nat} (hd : decode (am_b y) pc = .ok (.iconst n, 1)) (hv : Int32.ofInt n = nI v) (kk : CR k y (pc + 1) al (.int (nI v) :: st) S G B J R Q) : CR k y pc al st S G B J R Q := by
  refine cr_nx hd (fun h => ?_) kk
  show am_nx (pc + 1) al (.int (Int32.ofInt n) :: st) h = _
  rw [hv]
  rfl
theorem cn_bp {n : Int} {v : Nat} (hd : decode (am_b y) pc = .ok (.bipush n, 2)) (hv : (Int8.ofInt n).toInt32 = nI v) (kk : CR k y (pc + 2) al (.int (nI v) :: st) S G B J R Q) : CR k y pc al st S G B J R Q := by
  refine cr_nx hd (fun h => ?_) kk
  show am_nx (pc + 2) al (.int (Int8.ofInt n).toInt32 :: st) h = _
  rw [hv]
  rfl
theorem cn_sp {n : Int} {v : Nat} (hd : decode (am_b y) pc = .ok (.sipush n, 3)) (hv : (Int16.ofInt n).toInt32 = nI v) (kk : CR k y (pc + 3) al (.int (nI v) :: st) S G B J R Q) : CR k y pc al st S G B J R Q := by
  refine cr_nx hd (fun h => ?_) kk
  show am_nx (pc + 3) al (.int (Int16.ofInt n).toInt32 :: st) h = _
  rw [hv]
  rfl
theorem cr_tp {x z : Int32} (e : x = z) (kk : CR k y pc al (.int z :: st) S G B J R Q) : CR k y pc al (.int x :: st) S G B J R Q := by
  rw [e]
  exact kk
theorem cn_ieq {a : Nat} {off : Int} {t : Nat} (hd : decode (am_b y) pc = .ok (.ifCond .eq off, 3)) (ht : am_tg pc off = some t) (ha : a < 2 ^ 31) (kt : a = 0 → CR k y t al r S G B J R Q) (kf : 0 < a → CR k y (pc + 3) al r S G B J R Q) : CR k y pc al (.int (nI a) :: r) S G B J R Q := cr_ieq hd ht (fun q => kt ((nI_eq ha (by decide)).mp (q.trans nI_0.symm))) (fun q => kf (Nat.pos_of_ne_zero fun e => q (by rw [e]; exact nI_0)))
theorem cn_ine {a : Nat} {off : Int} {t : Nat} (hd : decode (am_b y) pc = .ok (.ifCond .ne off, 3)) (ht : am_tg pc off = some t) (ha : a < 2 ^ 31) (kt : 0 < a → CR k y t al r S G B J R Q) (kf : a = 0 → CR k y (pc + 3) al r S G B J R Q) : CR k y pc al (.int (nI a) :: r) S G B J R Q := cr_ine hd ht (fun q => kt (Nat.pos_of_ne_zero fun e => q (by rw [e]; exact nI_0))) (fun q => kf ((nI_eq ha (by decide)).mp (q.trans nI_0.symm)))
end CR
