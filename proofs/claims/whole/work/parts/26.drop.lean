/-! FEWER LOCALS KNOWN: a run with fewer known locals is a run; printed by wip/whole/gen_drop.py. -/
def LE (al1 al : AL) : Prop := al1.length = al.length ∧ ∀ k : Nat, al1[k]? = al[k]? ∨ (al1[k]? = some none ∧ ∀ v, al[k]? = some (some v) → v.category = 1)
theorem LE.at {al1 al : AL} (h : LE al1 al) {k : Nat} {v : Value} (e : al1[k]? = some (some v)) : al[k]? = some (some v) := by
  rcases h.2 k with q | ⟨q, -⟩
  · rw [← q]; exact e
  · rw [q] at e; cases e
theorem LE.cs {al1 al : AL} (h : LE al1 al) {k : Nat} (e : am_cs al1 k = true) : am_cs al k = true := by
  simp only [am_cs, Bool.and_eq_true, decide_eq_true_eq] at e ⊢
  refine ⟨by rw [← h.1]; exact e.1, ?_⟩
  cases k with
  | zero => rfl
  | succ j =>
    have e2 := e.2
    simp only at e2 ⊢
    rcases h.2 j with q | ⟨q, q2⟩
    · rw [← q]
      exact e2
    · cases hj : al[j]? with
      | none => rfl
      | some x =>
        cases x with
        | none => rfl
        | some v =>
          simp only
          rw [q2 v hj]
          rfl
theorem LE.set {al1 al : AL} (h : LE al1 al) (k : Nat) (x : Option Value) : LE (al1.set k x) (al.set k x) := by
  refine ⟨by rw [List.length_set, List.length_set]; exact h.1, fun j => ?_⟩
  by_cases e : j = k
  · subst e
    by_cases hl : j < al.length
    · rw [List.getElem?_set_self hl, List.getElem?_set_self (by rw [h.1]; exact hl)]
      exact Or.inl rfl
    · rw [List.getElem?_eq_none (by rw [List.length_set, h.1]; omega), List.getElem?_eq_none (by rw [List.length_set]; omega)]
      exact Or.inl rfl
  · rw [List.getElem?_set_ne (Ne.symm e), List.getElem?_set_ne (Ne.symm e)]
    exact h.2 j
/-- the same result with other locals -/
def sb (al : AL) (r : AR) : AR := match r with
  | .inl q => .inl (q.1, al, q.2.2)
  | .inr z => .inr z
section DROP
variable {al al1 : AL} {pc : Nat} {st : List Value} {h : AH}
theorem sb_nx {q : Nat} {su : List Value} {h' : AH} : am_nx q al su h' = (am_nx q al1 su h').map (sb al) := rfl
theorem sb_jp {off : Int} {su : List Value} : am_jp pc off al su h = (am_jp pc off al1 su h).map (sb al) := by
  unfold am_jp
  cases am_tg pc off <;> rfl
theorem sb_bi {f : Int32 → Int32 → Int32} : am_bi f pc al st h = (am_bi f pc al1 st h).map (sb al) := by
  unfold am_bi
  (repeat' split) <;> first | rfl | simp_all
theorem sb_bl {f : Int64 → Int64 → Int64} : am_bl f pc al st h = (am_bl f pc al1 st h).map (sb al) := by
  unfold am_bl
  (repeat' split) <;> first | rfl | simp_all
theorem sb_sh {f : Int64 → Int32 → Int64} : am_sh f pc al st h = (am_sh f pc al1 st h).map (sb al) := by
  unfold am_sh
  (repeat' split) <;> first | rfl | simp_all
theorem sb_if {c : ClassFile.Cond} {off : Int} : am_if c off pc al st h = (am_if c off pc al1 st h).map (sb al) := by
  unfold am_if
  split
  · cases am_tg pc off with
    | none => rfl
    | some t =>
      simp only [Option.bind_some]
      split <;> rfl
  · rfl
theorem sb_ii {c : ClassFile.Cond} {off : Int} : am_ii c off pc al st h = (am_ii c off pc al1 st h).map (sb al) := by
  unfold am_ii
  split
  · cases am_tg pc off with
    | none => rfl
    | some t =>
      simp only [Option.bind_some]
      split <;> rfl
  · rfl
theorem sb_ts {d lo hi : Int} {offs : Array Int} : am_ts d lo hi offs pc al st h = (am_ts d lo hi offs pc al1 st h).map (sb al) := by
  unfold am_ts
  split
  · split
    · exact sb_jp
    · rename_i x r hc
      cases offs[(x.toInt - lo).toNat]? with
      | none => rfl
      | some off => exact sb_jp
  · rfl
theorem sb_ls {d : Int} {ps : Array (Int × Int)} : am_ls d ps pc al st h = (am_ls d ps pc al1 st h).map (sb al) := by
  unfold am_ls
  split
  · split
    · exact sb_jp
    · rfl
  · rfl
theorem sb_gf {o i : Nat} : am_gf o i pc al st h = (am_gf o i pc al1 st h).map (sb al) := by
  unfold am_gf
  split
  · cases am_fl o i with
    | none => rfl
    | some ck =>
      simp only [Option.bind_some]
      split
      · split
        · rename_i fs _ _
          cases fs[ck.2]? <;> rfl
        · rfl
      · rfl
  · rfl
theorem sb_pf {y o i : Nat} : am_pf y o i pc al st h = (am_pf y o i pc al1 st h).map (sb al) := by
  unfold am_pf
  split
  · cases am_fl o i with
    | none => rfl
    | some ck =>
      simp only [Option.bind_some]
      split
      · split <;> rfl
      · rfl
  · rfl
theorem sb_gs {o i : Nat} : am_gs o i pc al st h = (am_gs o i pc al1 st h).map (sb al) := by
  unfold am_gs
  cases am_sl o i <;> rfl
theorem sb_ia : am_ia pc al st h = (am_ia pc al1 st h).map (sb al) := by
  unfold am_ia
  split
  · split
    · split <;> rfl
    · rfl
  · rfl
theorem sb_la : am_la pc al st h = (am_la pc al1 st h).map (sb al) := by
  unfold am_la
  split
  · split
    · split <;> rfl
    · rfl
  · rfl
theorem sb_aa : am_aa pc al st h = (am_aa pc al1 st h).map (sb al) := by
  unfold am_aa
  split
  · split
    · split <;> rfl
    · rfl
  · rfl
theorem sb_iS : am_iS pc al st h = (am_iS pc al1 st h).map (sb al) := by
  unfold am_iS
  split
  · split
    · split <;> rfl
    · rfl
  · rfl
theorem sb_lS : am_lS pc al st h = (am_lS pc al1 st h).map (sb al) := by
  unfold am_lS
  split
  · split
    · split <;> rfl
    · rfl
  · rfl
theorem sb_le : am_le pc al st h = (am_le pc al1 st h).map (sb al) := by
  unfold am_le
  split
  · split
    · split <;> rfl
    · rfl
  · rfl
theorem sb_ba : am_ba pc al st h = (am_ba pc al1 st h).map (sb al) := by
  unfold am_ba
  split
  · split
    · split <;> rfl
    · split <;> rfl
    · rfl
  · rfl
theorem sb_bS : am_bS pc al st h = (am_bS pc al1 st h).map (sb al) := by
  unfold am_bS
  split
  · split
    · split <;> rfl
    · split <;> rfl
    · rfl
  · rfl
theorem sb_aS : am_aS pc al st h = (am_aS pc al1 st h).map (sb al) := by
  unfold am_aS
  split
  · split
    · split <;> rfl
    · rfl
  · split
    · split <;> rfl
    · rfl
  · rfl
theorem sb_nw {o i : Nat} : am_nw o i pc al st h = (am_nw o i pc al1 st h).map (sb al) := by
  unfold am_nw
  cases am_cl o i with
  | none => rfl
  | some c =>
    simp only [Option.bind_some]
    split <;> rfl
theorem sb_na {t : ArrayType} : am_na t pc al st h = (am_na t pc al1 st h).map (sb al) := by
  unfold am_na
  split
  · split
    · rfl
    · split <;> rfl
  · rfl
theorem sb_nq {o i : Nat} : am_nq o i pc al st h = (am_nq o i pc al1 st h).map (sb al) := by
  unfold am_nq
  split
  · split
    · rfl
    · cases am_cl o i with
      | none => rfl
      | some c =>
        simp only [Option.bind_some]
        split <;> rfl
  · rfl
theorem sb_cy : am_cy pc al st h = (am_cy pc al1 st h).map (sb al) := by
  unfold am_cy
  split
  · split
    · split <;> rfl
    · rfl
  · rfl
theorem sb_iv {o i : Nat} : am_iv o i st h = (am_iv o i st h).map (sb al) := by
  unfold am_iv
  cases am_ml o i with
  | none => rfl
  | some ky =>
    simp only [Option.bind_some]
    split
    · split
      · split
        · split <;> rfl
        · rfl
      · rfl
    · rfl
theorem sb_vs {o i : Nat} : am_vs o i pc al st h = (am_vs o i pc al1 st h).map (sb al) := by
  unfold am_vs
  cases am_ml o i with
  | none => rfl
  | some ky =>
    simp only [Option.bind_some]
    split
    · exact sb_cy
    · split
      · split
        · split <;> rfl
        · rfl
      · split
        · split
          · split <;> rfl
          · rfl
        · split <;> rfl
theorem sb_vi {o i : Nat} : am_vi o i pc al st h = (am_vi o i pc al1 st h).map (sb al) := by
  unfold am_vi
  cases am_ml o i with
  | none => rfl
  | some ky =>
    simp only [Option.bind_some]
    split
    · split
      · split <;> rfl
      · rfl
    · split
      · split
        · split <;> rfl
        · rfl
      · rfl
theorem sb_rt {y : Nat} : am_rt y st = (am_rt y st).map (sb al) := by
  unfold am_rt
  split
  · split <;> rfl
  · rfl
theorem sb_ar {y : Nat} : am_ar y st = (am_ar y st).map (sb al) := by
  unfold am_ar
  split <;> rfl
theorem sb_vr {y : Nat} : am_vr y st = (am_vr y st).map (sb al) := by
  unfold am_vr
  split <;> rfl
/-- what a step with fewer locals does, one with more does -/
def DR (al : AL) (r1 : AR) (x : Option AR) : Prop := match r1 with
  | .inl q => ∃ al', LE q.2.1 al' ∧ x = some (.inl (q.1, al', q.2.2))
  | .inr z => x = some (.inr z)
def alOf (r : AR) : AL := match r with
  | .inl q => q.2.1
  | .inr _ => []
/-- an instruction that leaves the locals -/
theorem dr_F {F : AL → Option AR} {r1 : AR} (hF : ∀ a b, F a = (F b).map (sb a)) (hle : LE al1 al) (hs : F al1 = some r1) : DR al r1 (F al) := by
  have h1 := hF al1 al1
  rw [hs] at h1
  rw [hF al al1, hs]
  cases r1 with
  | inl q =>
    refine ⟨al, ?_, rfl⟩
    have h2 : q = (q.1, al1, q.2.2) := Sum.inl.inj (Option.some.inj h1)
    rw [h2]
    exact hle
  | inr z => rfl
theorem dr_il {k q : Nat} {r1 : AR} (hle : LE al1 al) (hs : am_il k q al1 st h = some r1) : DR al r1 (am_il k q al st h) := by
  unfold am_il at hs
  split at hs
  · rename_i x hx
    cases hs
    refine ⟨al, hle, ?_⟩
    unfold am_il
    rw [hle.at hx]
    rfl
  · cases hs
theorem dr_ll {k q : Nat} {r1 : AR} (hle : LE al1 al) (hs : am_ll k q al1 st h = some r1) : DR al r1 (am_ll k q al st h) := by
  unfold am_ll at hs
  split at hs
  · rename_i x hx
    cases hs
    refine ⟨al, hle, ?_⟩
    unfold am_ll
    rw [hle.at hx]
    rfl
  · cases hs
theorem dr_al {k q : Nat} {r1 : AR} (hle : LE al1 al) (hs : am_al k q al1 st h = some r1) : DR al r1 (am_al k q al st h) := by
  unfold am_al at hs
  split at hs
  · rename_i x hx
    cases hs
    refine ⟨al, hle, ?_⟩
    unfold am_al
    rw [hle.at hx]
    rfl
  · rename_i hx
    cases hs
    refine ⟨al, hle, ?_⟩
    unfold am_al
    rw [hle.at hx]
    rfl
  · cases hs
theorem dr_is {k q : Nat} {r1 : AR} (hle : LE al1 al) (hs : am_is k q al1 st h = some r1) : DR al r1 (am_is k q al st h) := by
  unfold am_is at hs ⊢
  split at hs
  · split at hs
    · rename_i hc
      cases hs
      refine ⟨_, hle.set k _, ?_⟩
      simp only [hle.cs hc, if_true]
      rfl
    · cases hs
  · cases hs
theorem dr_as {k q : Nat} {r1 : AR} (hle : LE al1 al) (hs : am_as k q al1 st h = some r1) : DR al r1 (am_as k q al st h) := by
  unfold am_as at hs ⊢
  split at hs
  · split at hs
    · rename_i hc
      cases hs
      refine ⟨_, hle.set k _, ?_⟩
      simp only [hle.cs hc, if_true]
      rfl
    · cases hs
  · split at hs
    · rename_i hc
      cases hs
      refine ⟨_, hle.set k _, ?_⟩
      simp only [hle.cs hc, if_true]
      rfl
    · cases hs
  · cases hs
theorem dr_ic {k : Nat} {n : Int} {r1 : AR} (hle : LE al1 al) (hs : am_ic k n pc al1 st h = some r1) : DR al r1 (am_ic k n pc al st h) := by
  unfold am_ic at hs
  split at hs
  · rename_i x hx
    split at hs
    · rename_i hc
      cases hs
      refine ⟨_, hle.set k _, ?_⟩
      unfold am_ic
      rw [hle.at hx]
      simp only [hle.cs hc, if_true]
      rfl
    · cases hs
  · cases hs

theorem am_dr {y len : Nat} {i : Instr} {r1 : AR} (hle : LE al1 al) (hs : am_ins y i len pc al1 st h = some r1) : DR al r1 (am_ins y i len pc al st h) := by
  cases i with
  | iconst n =>
    have hq := am_len hs
    clear hs
    obtain ⟨rfl, hs⟩ := hq
    exact dr_F (F := fun a => am_nx (pc + 1) a (.int (Int32.ofInt n) :: st) h) (fun a b => sb_nx) hle hs
  | bipush n =>
    have hq := am_len hs
    clear hs
    obtain ⟨rfl, hs⟩ := hq
    exact dr_F (F := fun a => am_nx (pc + 2) a (.int (Int8.ofInt n).toInt32 :: st) h) (fun a b => sb_nx) hle hs
  | sipush n =>
    have hq := am_len hs
    clear hs
    obtain ⟨rfl, hs⟩ := hq
    exact dr_F (F := fun a => am_nx (pc + 3) a (.int (Int16.ofInt n).toInt32 :: st) h) (fun a b => sb_nx) hle hs
  | lconst n =>
    have hq := am_len hs
    clear hs
    obtain ⟨rfl, hs⟩ := hq
    exact dr_F (F := fun a => am_nx (pc + 1) a (.long (Int64.ofNat n) :: st) h) (fun a b => sb_nx) hle hs
  | aconst_null =>
    have hq := am_len hs
    clear hs
    obtain ⟨rfl, hs⟩ := hq
    exact dr_F (F := fun a => am_nx (pc + 1) a (.null :: st) h) (fun a b => sb_nx) hle hs
  | ldc k =>
    have hq := am_len hs
    clear hs
    obtain ⟨rfl, hs⟩ := hq
    exact dr_F (F := fun a => (am_ki (am_o y) k).bind fun v => am_nx (pc + 2) a (.int v :: st) h) (fun a b => by cases am_ki (am_o y) k <;> rfl) hle hs
  | ldc_w k =>
    have hq := am_len hs
    clear hs
    obtain ⟨rfl, hs⟩ := hq
    exact dr_F (F := fun a => (am_ki (am_o y) k).bind fun v => am_nx (pc + 3) a (.int v :: st) h) (fun a b => by cases am_ki (am_o y) k <;> rfl) hle hs
  | ldc2_w k =>
    have hq := am_len hs
    clear hs
    obtain ⟨rfl, hs⟩ := hq
    exact dr_F (F := fun a => (am_kl (am_o y) k).bind fun v => am_nx (pc + 3) a (.long v :: st) h) (fun a b => by cases am_kl (am_o y) k <;> rfl) hle hs
  | iload_n k =>
    have hq := am_len hs
    clear hs
    obtain ⟨rfl, hs⟩ := hq
    exact dr_il hle hs
  | iload k =>
    have hq := am_len hs
    clear hs
    obtain ⟨rfl, hs⟩ := hq
    exact dr_il hle hs
  | lload_n k =>
    have hq := am_len hs
    clear hs
    obtain ⟨rfl, hs⟩ := hq
    exact dr_ll hle hs
  | lload k =>
    have hq := am_len hs
    clear hs
    obtain ⟨rfl, hs⟩ := hq
    exact dr_ll hle hs
  | aload_n k =>
    have hq := am_len hs
    clear hs
    obtain ⟨rfl, hs⟩ := hq
    exact dr_al hle hs
  | aload k =>
    have hq := am_len hs
    clear hs
    obtain ⟨rfl, hs⟩ := hq
    exact dr_al hle hs
  | istore_n k =>
    have hq := am_len hs
    clear hs
    obtain ⟨rfl, hs⟩ := hq
    exact dr_is hle hs
  | istore k =>
    have hq := am_len hs
    clear hs
    obtain ⟨rfl, hs⟩ := hq
    exact dr_is hle hs
  | astore_n k =>
    have hq := am_len hs
    clear hs
    obtain ⟨rfl, hs⟩ := hq
    exact dr_as hle hs
  | astore k =>
    have hq := am_len hs
    clear hs
    obtain ⟨rfl, hs⟩ := hq
    exact dr_as hle hs
  | iinc k n =>
    have hq := am_len hs
    clear hs
    obtain ⟨rfl, hs⟩ := hq
    exact dr_ic hle hs
  | iadd =>
    have hq := am_len hs
    clear hs
    obtain ⟨rfl, hs⟩ := hq
    exact dr_F (F := fun a => am_bi (fun x y => x + y) pc a st h) (fun a b => sb_bi) hle hs
  | isub =>
    have hq := am_len hs
    clear hs
    obtain ⟨rfl, hs⟩ := hq
    exact dr_F (F := fun a => am_bi (fun x y => x - y) pc a st h) (fun a b => sb_bi) hle hs
  | imul =>
    have hq := am_len hs
    clear hs
    obtain ⟨rfl, hs⟩ := hq
    exact dr_F (F := fun a => am_bi (fun x y => x * y) pc a st h) (fun a b => sb_bi) hle hs
  | iand =>
    have hq := am_len hs
    clear hs
    obtain ⟨rfl, hs⟩ := hq
    exact dr_F (F := fun a => am_bi (fun x y => x &&& y) pc a st h) (fun a b => sb_bi) hle hs
  | ior =>
    have hq := am_len hs
    clear hs
    obtain ⟨rfl, hs⟩ := hq
    exact dr_F (F := fun a => am_bi (fun x y => x ||| y) pc a st h) (fun a b => sb_bi) hle hs
  | ixor =>
    have hq := am_len hs
    clear hs
    obtain ⟨rfl, hs⟩ := hq
    exact dr_F (F := fun a => am_bi (fun x y => x ^^^ y) pc a st h) (fun a b => sb_bi) hle hs
  | ishl =>
    have hq := am_len hs
    clear hs
    obtain ⟨rfl, hs⟩ := hq
    exact dr_F (F := fun a => am_bi (fun x y => x <<< (y &&& 31)) pc a st h) (fun a b => sb_bi) hle hs
  | ishr =>
    have hq := am_len hs
    clear hs
    obtain ⟨rfl, hs⟩ := hq
    exact dr_F (F := fun a => am_bi (fun x y => x >>> (y &&& 31)) pc a st h) (fun a b => sb_bi) hle hs
  | iushr =>
    have hq := am_len hs
    clear hs
    obtain ⟨rfl, hs⟩ := hq
    exact dr_F (F := fun a => am_bi (fun x y => (x.toUInt32 >>> (y.toUInt32 &&& Int32.toUInt32 31)).toInt32) pc a st h) (fun a b => sb_bi) hle hs
  | ladd =>
    have hq := am_len hs
    clear hs
    obtain ⟨rfl, hs⟩ := hq
    exact dr_F (F := fun a => am_bl (fun x y => x + y) pc a st h) (fun a b => sb_bl) hle hs
  | lmul =>
    have hq := am_len hs
    clear hs
    obtain ⟨rfl, hs⟩ := hq
    exact dr_F (F := fun a => am_bl (fun x y => x * y) pc a st h) (fun a b => sb_bl) hle hs
  | land =>
    have hq := am_len hs
    clear hs
    obtain ⟨rfl, hs⟩ := hq
    exact dr_F (F := fun a => am_bl (fun x y => x &&& y) pc a st h) (fun a b => sb_bl) hle hs
  | lor =>
    have hq := am_len hs
    clear hs
    obtain ⟨rfl, hs⟩ := hq
    exact dr_F (F := fun a => am_bl (fun x y => x ||| y) pc a st h) (fun a b => sb_bl) hle hs
  | lshl =>
    have hq := am_len hs
    clear hs
    obtain ⟨rfl, hs⟩ := hq
    exact dr_F (F := fun a => am_sh (fun x y => x <<< (y.toInt64 &&& 63)) pc a st h) (fun a b => sb_sh) hle hs
  | lshr =>
    have hq := am_len hs
    clear hs
    obtain ⟨rfl, hs⟩ := hq
    exact dr_F (F := fun a => am_sh (fun x y => x >>> (y.toInt64 &&& 63)) pc a st h) (fun a b => sb_sh) hle hs
  | idiv =>
    have hq := (am_len hs).1
    subst hq
    exact dr_F (F := fun a => am_ins y (.idiv) 1 pc a st h) (fun a b => by
      simp only [am_ins, if_true]
      split
      · split <;> rfl
      · rfl) hle hs
  | irem =>
    have hq := (am_len hs).1
    subst hq
    exact dr_F (F := fun a => am_ins y (.irem) 1 pc a st h) (fun a b => by
      simp only [am_ins, if_true]
      split
      · split <;> rfl
      · rfl) hle hs
  | lrem =>
    have hq := (am_len hs).1
    subst hq
    exact dr_F (F := fun a => am_ins y (.lrem) 1 pc a st h) (fun a b => by
      simp only [am_ins, if_true]
      split
      · split <;> rfl
      · rfl) hle hs
  | dup =>
    have hq := (am_len hs).1
    subst hq
    exact dr_F (F := fun a => am_ins y (.dup) 1 pc a st h) (fun a b => by
      simp only [am_ins, if_true]
      split
      · split <;> rfl
      · rfl) hle hs
  | dup2 =>
    have hq := (am_len hs).1
    subst hq
    exact dr_F (F := fun a => am_ins y (.dup2) 1 pc a st h) (fun a b => by
      simp only [am_ins, if_true]
      split
      · split <;> rfl
      · rfl) hle hs
  | pop =>
    have hq := (am_len hs).1
    subst hq
    exact dr_F (F := fun a => am_ins y (.pop) 1 pc a st h) (fun a b => by
      simp only [am_ins, if_true]
      split
      · split <;> rfl
      · rfl) hle hs
  | ineg =>
    have hq := (am_len hs).1
    subst hq
    exact dr_F (F := fun a => am_ins y (.ineg) 1 pc a st h) (fun a b => by
      simp only [am_ins, if_true]
      split <;> rfl) hle hs
  | lcmp =>
    have hq := (am_len hs).1
    subst hq
    exact dr_F (F := fun a => am_ins y (.lcmp) 1 pc a st h) (fun a b => by
      simp only [am_ins, if_true]
      split <;> rfl) hle hs
  | i2l =>
    have hq := (am_len hs).1
    subst hq
    exact dr_F (F := fun a => am_ins y (.i2l) 1 pc a st h) (fun a b => by
      simp only [am_ins, if_true]
      split <;> rfl) hle hs
  | l2i =>
    have hq := (am_len hs).1
    subst hq
    exact dr_F (F := fun a => am_ins y (.l2i) 1 pc a st h) (fun a b => by
      simp only [am_ins, if_true]
      split <;> rfl) hle hs
  | i2b =>
    have hq := (am_len hs).1
    subst hq
    exact dr_F (F := fun a => am_ins y (.i2b) 1 pc a st h) (fun a b => by
      simp only [am_ins, if_true]
      split <;> rfl) hle hs
  | ifnull off =>
    have hq := (am_len hs).1
    subst hq
    exact dr_F (F := fun a => am_ins y (.ifnull off) 3 pc a st h) (fun a b => by
      simp only [am_ins, if_true]
      split
      · rfl
      · exact sb_jp
      · rfl) hle hs
  | ifnonnull off =>
    have hq := (am_len hs).1
    subst hq
    exact dr_F (F := fun a => am_ins y (.ifnonnull off) 3 pc a st h) (fun a b => by
      simp only [am_ins, if_true]
      split
      · exact sb_jp
      · rfl
      · rfl) hle hs
  | goto off =>
    have hq := am_len hs
    clear hs
    obtain ⟨rfl, hs⟩ := hq
    exact dr_F (F := fun a => am_jp pc off a st h) (fun a b => sb_jp) hle hs
  | ifCond cd off =>
    have hq := am_len hs
    clear hs
    obtain ⟨rfl, hs⟩ := hq
    exact dr_F (F := fun a => am_if cd off pc a st h) (fun a b => sb_if) hle hs
  | if_icmp cd off =>
    have hq := am_len hs
    clear hs
    obtain ⟨rfl, hs⟩ := hq
    exact dr_F (F := fun a => am_ii cd off pc a st h) (fun a b => sb_ii) hle hs
  | tableswitch d lo hi offs =>
    exact dr_F (F := fun a => am_ts d lo hi offs pc a st h) (fun a b => sb_ts) hle hs
  | lookupswitch d ps =>
    exact dr_F (F := fun a => am_ls d ps pc a st h) (fun a b => sb_ls) hle hs
  | getfield k =>
    have hq := am_len hs
    clear hs
    obtain ⟨rfl, hs⟩ := hq
    exact dr_F (F := fun a => am_gf (am_o y) k pc a st h) (fun a b => sb_gf) hle hs
  | putfield k =>
    have hq := am_len hs
    clear hs
    obtain ⟨rfl, hs⟩ := hq
    exact dr_F (F := fun a => am_pf y (am_o y) k pc a st h) (fun a b => sb_pf) hle hs
  | getstatic k =>
    have hq := am_len hs
    clear hs
    obtain ⟨rfl, hs⟩ := hq
    exact dr_F (F := fun a => am_gs (am_o y) k pc a st h) (fun a b => sb_gs) hle hs
  | iaload =>
    have hq := am_len hs
    clear hs
    obtain ⟨rfl, hs⟩ := hq
    exact dr_F (F := fun a => am_ia pc a st h) (fun a b => sb_ia) hle hs
  | baload =>
    have hq := am_len hs
    clear hs
    obtain ⟨rfl, hs⟩ := hq
    exact dr_F (F := fun a => am_ba pc a st h) (fun a b => sb_ba) hle hs
  | laload =>
    have hq := am_len hs
    clear hs
    obtain ⟨rfl, hs⟩ := hq
    exact dr_F (F := fun a => am_la pc a st h) (fun a b => sb_la) hle hs
  | aaload =>
    have hq := am_len hs
    clear hs
    obtain ⟨rfl, hs⟩ := hq
    exact dr_F (F := fun a => am_aa pc a st h) (fun a b => sb_aa) hle hs
  | iastore =>
    have hq := am_len hs
    clear hs
    obtain ⟨rfl, hs⟩ := hq
    exact dr_F (F := fun a => am_iS pc a st h) (fun a b => sb_iS) hle hs
  | bastore =>
    have hq := am_len hs
    clear hs
    obtain ⟨rfl, hs⟩ := hq
    exact dr_F (F := fun a => am_bS pc a st h) (fun a b => sb_bS) hle hs
  | lastore =>
    have hq := am_len hs
    clear hs
    obtain ⟨rfl, hs⟩ := hq
    exact dr_F (F := fun a => am_lS pc a st h) (fun a b => sb_lS) hle hs
  | aastore =>
    have hq := am_len hs
    clear hs
    obtain ⟨rfl, hs⟩ := hq
    exact dr_F (F := fun a => am_aS pc a st h) (fun a b => sb_aS) hle hs
  | arraylength =>
    have hq := am_len hs
    clear hs
    obtain ⟨rfl, hs⟩ := hq
    exact dr_F (F := fun a => am_le pc a st h) (fun a b => sb_le) hle hs
  | new k =>
    have hq := am_len hs
    clear hs
    obtain ⟨rfl, hs⟩ := hq
    exact dr_F (F := fun a => am_nw (am_o y) k pc a st h) (fun a b => sb_nw) hle hs
  | newarray t =>
    have hq := am_len hs
    clear hs
    obtain ⟨rfl, hs⟩ := hq
    exact dr_F (F := fun a => am_na t pc a st h) (fun a b => sb_na) hle hs
  | anewarray k =>
    have hq := am_len hs
    clear hs
    obtain ⟨rfl, hs⟩ := hq
    exact dr_F (F := fun a => am_nq (am_o y) k pc a st h) (fun a b => sb_nq) hle hs
  | invokevirtual k =>
    have hq := am_len hs
    clear hs
    obtain ⟨rfl, hs⟩ := hq
    exact dr_F (F := fun a => am_iv (am_o y) k st h) (fun a b => sb_iv) hle hs
  | invokestatic k =>
    have hq := am_len hs
    clear hs
    obtain ⟨rfl, hs⟩ := hq
    exact dr_F (F := fun a => am_vs (am_o y) k pc a st h) (fun a b => sb_vs) hle hs
  | invokespecial k =>
    have hq := am_len hs
    clear hs
    obtain ⟨rfl, hs⟩ := hq
    exact dr_F (F := fun a => am_vi (am_o y) k pc a st h) (fun a b => sb_vi) hle hs
  | ireturn =>
    have hq := am_len hs
    clear hs
    obtain ⟨rfl, hs⟩ := hq
    exact dr_F (F := fun a => am_rt y st) (fun a b => sb_rt) hle hs
  | areturn =>
    have hq := am_len hs
    clear hs
    obtain ⟨rfl, hs⟩ := hq
    exact dr_F (F := fun a => am_ar y st) (fun a b => sb_ar) hle hs
  | return_ =>
    have hq := am_len hs
    clear hs
    obtain ⟨rfl, hs⟩ := hq
    exact dr_F (F := fun a => am_vr y st) (fun a b => sb_vr) hle hs
  | _ =>
    have hs : (none : Option AR) = some _ := hs
    cases hs
theorem am_step_dr {y : Nat} {r1 : AR} (hle : LE al1 al) (hs : am_step y pc al1 st h = some r1) : DR al r1 (am_step y pc al st h) := by
  obtain ⟨i, len, hd, hi⟩ := am_step_ins hs
  rw [am_step_eq hd]
  exact am_dr hle hi
end DROP
theorem am_exec_dr : ∀ (f : Nat) {d y pc : Nat} {al1 al : AL} {st : List Value} {h : AH} {x : Option Value × AH}, LE al1 al → am_exec f d y pc al1 st h = some x → am_exec f d y pc al st h = some x
  | 0, d, y, pc, al1, al, st, h, x, _, e => by cases e
  | f + 1, d, y, pc, al1, al, st, h, x, hle, e => by
    rw [am_exec] at e ⊢
    cases hs : am_step y pc al1 st h with
    | none => rw [hs] at e; cases e
    | some a =>
      have hD := am_step_dr hle hs
      rw [hs] at e
      rcases a with ⟨pc', al', st', h'⟩ | ⟨y', as, st'⟩ | r
      · obtain ⟨al2, h2, e2⟩ := hD
        rw [e2]
        exact am_exec_dr f h2 e
      · have e2 : am_step y pc al st h = some (.inr (.inl (y', as, st'))) := hD
        rw [e2]
        cases d with
        | zero => cases e
        | succ d1 =>
          simp only at e ⊢
          by_cases hn : (am_en as (am_L y')).length = am_L y'
          · simp only [hn, if_true] at e ⊢
            cases hc : am_exec f d1 y' 0 (am_en as (am_L y')) [] h with
            | none => rw [hc] at e; cases e
            | some q =>
              rw [hc] at e
              exact am_exec_dr f hle e
          · rw [if_neg hn] at e
            cases e
      · have e2 : am_step y pc al st h = some (.inr (.inr r)) := hD
        rw [e2]
        exact e
theorem rn_dr {k y pc : Nat} {al1 al : AL} {st : List Value} {h : AH} {Q : Option Value → AH → Prop} (hle : LE al1 al) (kk : RN k y pc al1 st h Q) : RN k y pc al st h Q := by
  intro d hd
  obtain ⟨f, r, h1, e, q⟩ := kk d hd
  exact ⟨f, r, h1, am_exec_dr f hle e, q⟩
theorem rr_dr {k y pc : Nat} {al1 al : AL} {st : List Value} {g : Nat → Int32} {A : Nat → Nat → Int32} {Q : Option Value → (Nat → Int32) → (Nat → Nat → Int32) → Prop} (hle : LE al1 al) (kk : RR k y pc al1 st g A Q) : RR k y pc al st g A Q := fun h hr => rn_dr hle (kk h hr)
theorem cr_dr {k y pc : Nat} {al1 al : AL} {st : List Value} {S : CS} {G : Nat → Nat → Value} {B : Nat → Nat → Int32} {J : Nat → Nat → Int64} {R : Nat → Nat → Option Nat} {Q : CQ} (hle : LE al1 al) (kk : CR k y pc al1 st S G B J R Q) : CR k y pc al st S G B J R Q := fun h hr => rn_dr hle (kk h hr)
theorem le_n : LE [] [] := ⟨rfl, fun _ => Or.inl rfl⟩
theorem le_s {x : Option Value} {a b : AL} (h : LE a b) : LE (x :: a) (x :: b) := ⟨by rw [List.length_cons, List.length_cons, h.1], fun k => by
  cases k with
  | zero => exact Or.inl rfl
  | succ k => exact h.2 k⟩
theorem le_d {v : Value} {a b : AL} (hv : v.category = 1) (h : LE a b) : LE (none :: a) (some v :: b) := ⟨by rw [List.length_cons, List.length_cons, h.1], fun k => by
  cases k with
  | zero => exact Or.inr ⟨rfl, fun w hw => by cases hw; exact hv⟩
  | succ k => exact h.2 k⟩
