/-! The abstract heap only grows; printed by wip/whole/gen_mono.py. -/
def am_Gr (h h' : AH) : Prop := h.length ≤ h'.length ∧ am_sz h ≤ am_sz h'
theorem am_Gr.rf {h : AH} : am_Gr h h := ⟨Nat.le_refl _, Nat.le_refl _⟩
theorem am_Gr.tr {h1 h2 h3 : AH} (a : am_Gr h1 h2) (b : am_Gr h2 h3) : am_Gr h1 h3 := ⟨Nat.le_trans a.1 b.1, Nat.le_trans a.2 b.2⟩
theorem am_Gr.st {h : AH} {a : Nat} {c0 c1 : AC} (h1 : h[a]? = some c0) (h2 : am_z c1 = am_z c0) : am_Gr h (h.set a c1) := ⟨by rw [List.length_set]; exact Nat.le_refl _, by rw [am_sz_set h1 h2]; exact Nat.le_refl _⟩
theorem am_Gr.ps {h : AH} {c : AC} : am_Gr h (h ++ [c]) := ⟨by rw [List.length_append]; omega, by rw [am_sz_push]; omega⟩
section MONO
variable {pc pc' : Nat} {al al' : AL} {st st' : List Value} {h h' : AH}
theorem gr_nx {q : Nat} {bl : AL} {su : List Value} (hs : am_nx q bl su h = some (.inl (pc', al', st', h'))) : am_Gr h h' := by
  obtain ⟨-, -, -, rfl⟩ := am_nx_eq hs
  exact am_Gr.rf
theorem gr_jp {off : Int} {su : List Value} (hs : am_jp pc off al su h = some (.inl (pc', al', st', h'))) : am_Gr h h' := by
  unfold am_jp at hs
  obtain ⟨t, -, hs⟩ := as_bind hs
  exact gr_nx hs
theorem gr_bi {f : Int32 → Int32 → Int32} (hs : am_bi f pc al st h = some (.inl (pc', al', st', h'))) : am_Gr h h' := by
  unfold am_bi at hs
  split at hs
  · exact gr_nx hs
  · cases hs
theorem gr_bl {f : Int64 → Int64 → Int64} (hs : am_bl f pc al st h = some (.inl (pc', al', st', h'))) : am_Gr h h' := by
  unfold am_bl at hs
  split at hs
  · exact gr_nx hs
  · cases hs
theorem gr_sh {f : Int64 → Int32 → Int64} (hs : am_sh f pc al st h = some (.inl (pc', al', st', h'))) : am_Gr h h' := by
  unfold am_sh at hs
  split at hs
  · exact gr_nx hs
  · cases hs
theorem gr_il {k q : Nat} (hs : am_il k q al st h = some (.inl (pc', al', st', h'))) : am_Gr h h' := by
  unfold am_il at hs
  split at hs
  · exact gr_nx hs
  · cases hs
theorem gr_ll {k q : Nat} (hs : am_ll k q al st h = some (.inl (pc', al', st', h'))) : am_Gr h h' := by
  unfold am_ll at hs
  split at hs
  · exact gr_nx hs
  · cases hs
theorem gr_al {k q : Nat} (hs : am_al k q al st h = some (.inl (pc', al', st', h'))) : am_Gr h h' := by
  unfold am_al at hs
  split at hs
  · exact gr_nx hs
  · exact gr_nx hs
  · cases hs
theorem gr_is {k q : Nat} (hs : am_is k q al st h = some (.inl (pc', al', st', h'))) : am_Gr h h' := by
  unfold am_is at hs
  split at hs
  · split at hs
    · exact gr_nx hs
    · cases hs
  · cases hs
theorem gr_as {k q : Nat} (hs : am_as k q al st h = some (.inl (pc', al', st', h'))) : am_Gr h h' := by
  unfold am_as at hs
  split at hs
  · split at hs
    · exact gr_nx hs
    · cases hs
  · split at hs
    · exact gr_nx hs
    · cases hs
  · cases hs
theorem gr_ic {k : Nat} {n : Int} (hs : am_ic k n pc al st h = some (.inl (pc', al', st', h'))) : am_Gr h h' := by
  unfold am_ic at hs
  split at hs
  · split at hs
    · exact gr_nx hs
    · cases hs
  · cases hs
theorem gr_if {c : ClassFile.Cond} {off : Int} (hs : am_if c off pc al st h = some (.inl (pc', al', st', h'))) : am_Gr h h' := by
  unfold am_if at hs
  split at hs
  · obtain ⟨t, -, hs⟩ := as_bind hs
    split at hs
    · exact gr_nx hs
    · exact gr_nx hs
  · cases hs
theorem gr_ii {c : ClassFile.Cond} {off : Int} (hs : am_ii c off pc al st h = some (.inl (pc', al', st', h'))) : am_Gr h h' := by
  unfold am_ii at hs
  split at hs
  · obtain ⟨t, -, hs⟩ := as_bind hs
    split at hs
    · exact gr_nx hs
    · exact gr_nx hs
  · cases hs
theorem gr_ts {d lo hi : Int} {offs : Array Int} (hs : am_ts d lo hi offs pc al st h = some (.inl (pc', al', st', h'))) : am_Gr h h' := by
  unfold am_ts at hs
  split at hs
  · split at hs
    · exact gr_jp hs
    · obtain ⟨t, -, hs⟩ := as_bind hs
      exact gr_jp hs
  · cases hs
theorem gr_ls {d : Int} {ps : Array (Int × Int)} (hs : am_ls d ps pc al st h = some (.inl (pc', al', st', h'))) : am_Gr h h' := by
  unfold am_ls at hs
  split at hs
  · split at hs
    · exact gr_jp hs
    · cases hs
  · cases hs
theorem gr_gf {o i : Nat} (hs : am_gf o i pc al st h = some (.inl (pc', al', st', h'))) : am_Gr h h' := by
  unfold am_gf at hs
  split at hs
  · obtain ⟨t, -, hs⟩ := as_bind hs
    split at hs
    · split at hs
      · obtain ⟨t, -, hs⟩ := as_bind hs
        exact gr_nx hs
      · cases hs
    · cases hs
  · cases hs
theorem gr_pf {y o i : Nat} (hs : am_pf y o i pc al st h = some (.inl (pc', al', st', h'))) : am_Gr h h' := by
  unfold am_pf at hs
  split at hs
  · obtain ⟨t, -, hs⟩ := as_bind hs
    split at hs
    · rename_i ha
      split at hs
      · obtain ⟨-, -, -, rfl⟩ := am_nx_eq hs
        exact am_Gr.st ha (by simp [am_z])
      · cases hs
    · cases hs
  · cases hs
theorem gr_gs {o i : Nat} (hs : am_gs o i pc al st h = some (.inl (pc', al', st', h'))) : am_Gr h h' := by
  unfold am_gs at hs
  obtain ⟨t, -, hs⟩ := as_bind hs
  exact gr_nx hs
theorem gr_ia  (hs : am_ia pc al st h = some (.inl (pc', al', st', h'))) : am_Gr h h' := by
  unfold am_ia at hs
  split at hs
  · split at hs
    · split at hs
      · exact gr_nx hs
      · cases hs
    · cases hs
  · cases hs
theorem gr_ba  (hs : am_ba pc al st h = some (.inl (pc', al', st', h'))) : am_Gr h h' := by
  unfold am_ba at hs
  split at hs
  · split at hs
    · split at hs
      · exact gr_nx hs
      · cases hs
    · split at hs
      · exact gr_nx hs
      · cases hs
    · cases hs
  · cases hs
theorem gr_la  (hs : am_la pc al st h = some (.inl (pc', al', st', h'))) : am_Gr h h' := by
  unfold am_la at hs
  split at hs
  · split at hs
    · split at hs
      · exact gr_nx hs
      · cases hs
    · cases hs
  · cases hs
theorem gr_aa  (hs : am_aa pc al st h = some (.inl (pc', al', st', h'))) : am_Gr h h' := by
  unfold am_aa at hs
  split at hs
  · split at hs
    · split at hs
      · exact gr_nx hs
      · cases hs
    · cases hs
  · cases hs
theorem gr_le  (hs : am_le pc al st h = some (.inl (pc', al', st', h'))) : am_Gr h h' := by
  unfold am_le at hs
  split at hs
  · split at hs
    · split at hs
      · exact gr_nx hs
      · cases hs
    · cases hs
  · cases hs
theorem gr_iS  (hs : am_iS pc al st h = some (.inl (pc', al', st', h'))) : am_Gr h h' := by
  unfold am_iS at hs
  split at hs
  · split at hs
    · rename_i ha
      split at hs
      · obtain ⟨-, -, -, rfl⟩ := am_nx_eq hs
        exact am_Gr.st ha rfl
      · cases hs
    · cases hs
  · cases hs
theorem gr_lS  (hs : am_lS pc al st h = some (.inl (pc', al', st', h'))) : am_Gr h h' := by
  unfold am_lS at hs
  split at hs
  · split at hs
    · rename_i ha
      split at hs
      · obtain ⟨-, -, -, rfl⟩ := am_nx_eq hs
        exact am_Gr.st ha rfl
      · cases hs
    · cases hs
  · cases hs
theorem gr_bS  (hs : am_bS pc al st h = some (.inl (pc', al', st', h'))) : am_Gr h h' := by
  unfold am_bS at hs
  split at hs
  · split at hs
    · rename_i ha
      split at hs
      · obtain ⟨-, -, -, rfl⟩ := am_nx_eq hs
        exact am_Gr.st ha rfl
      · cases hs
    · rename_i ha
      split at hs
      · obtain ⟨-, -, -, rfl⟩ := am_nx_eq hs
        exact am_Gr.st ha rfl
      · cases hs
    · cases hs
  · cases hs
theorem gr_aS  (hs : am_aS pc al st h = some (.inl (pc', al', st', h'))) : am_Gr h h' := by
  unfold am_aS at hs
  split at hs
  · split at hs
    · rename_i ha hv
      split at hs
      · obtain ⟨-, -, -, rfl⟩ := am_nx_eq hs
        exact am_Gr.st ha rfl
      · cases hs
    · cases hs
  · split at hs
    · rename_i ha
      split at hs
      · obtain ⟨-, -, -, rfl⟩ := am_nx_eq hs
        exact am_Gr.st ha rfl
      · cases hs
    · cases hs
  · cases hs
theorem gr_nw {o i : Nat} (hs : am_nw o i pc al st h = some (.inl (pc', al', st', h'))) : am_Gr h h' := by
  unfold am_nw at hs
  obtain ⟨t, -, hs⟩ := as_bind hs
  split at hs
  · obtain ⟨-, -, -, rfl⟩ := am_nx_eq hs
    exact am_Gr.ps
  · cases hs
theorem gr_na {t : ArrayType} (hs : am_na t pc al st h = some (.inl (pc', al', st', h'))) : am_Gr h h' := by
  unfold am_na at hs
  split at hs
  · split at hs
    · cases hs
    · split at hs
      · obtain ⟨-, -, -, rfl⟩ := am_nx_eq hs
        exact am_Gr.ps
      · obtain ⟨-, -, -, rfl⟩ := am_nx_eq hs
        exact am_Gr.ps
      · obtain ⟨-, -, -, rfl⟩ := am_nx_eq hs
        exact am_Gr.ps
      · obtain ⟨-, -, -, rfl⟩ := am_nx_eq hs
        exact am_Gr.ps
      · cases hs
  · cases hs
theorem gr_nq {o i : Nat} (hs : am_nq o i pc al st h = some (.inl (pc', al', st', h'))) : am_Gr h h' := by
  unfold am_nq at hs
  split at hs
  · split at hs
    · cases hs
    · obtain ⟨t, -, hs⟩ := as_bind hs
      split at hs
      · obtain ⟨-, -, -, rfl⟩ := am_nx_eq hs
        exact am_Gr.ps
      · cases hs
  · cases hs
theorem gr_cy  (hs : am_cy pc al st h = some (.inl (pc', al', st', h'))) : am_Gr h h' := by
  unfold am_cy at hs
  split at hs
  · split at hs
    · rename_i ha0 ha1
      split at hs
      · obtain ⟨-, -, -, rfl⟩ := am_nx_eq hs
        exact am_Gr.st ha1 rfl
      · cases hs
    · cases hs
  · cases hs
theorem gr_vs {o i : Nat} (hs : am_vs o i pc al st h = some (.inl (pc', al', st', h'))) : am_Gr h h' := by
  unfold am_vs at hs
  obtain ⟨t, -, hs⟩ := as_bind hs
  split at hs
  · exact gr_cy hs
  · split at hs
    · split at hs
      · split at hs
        · exact gr_nx hs
        · cases hs
      · cases hs
    · split at hs
      · split at hs
        · split at hs
          · exact gr_nx hs
          · cases hs
        · cases hs
      · split at hs
        · cases hs
        · cases hs
theorem gr_vi {o i : Nat} (hs : am_vi o i pc al st h = some (.inl (pc', al', st', h'))) : am_Gr h h' := by
  unfold am_vi at hs
  obtain ⟨t, -, hs⟩ := as_bind hs
  split at hs
  · split at hs
    · split at hs
      · exact gr_nx hs
      · cases hs
    · cases hs
  · split at hs
    · split at hs
      · split at hs
        · cases hs
        · cases hs
      · cases hs
    · cases hs
theorem gr_iv {o i : Nat} (hs : am_iv o i st h = some (.inl (pc', al', st', h'))) : am_Gr h h' := by
  unfold am_iv at hs
  obtain ⟨t, -, hs⟩ := as_bind hs
  split at hs
  · split at hs
    · split at hs
      · split at hs
        · cases hs
        · cases hs
      · cases hs
    · cases hs
  · cases hs
theorem gr_rt {y : Nat} (hs : am_rt y st = some (.inl (pc', al', st', h'))) : am_Gr h h' := by
  unfold am_rt at hs
  split at hs
  · split at hs
    · cases hs
    · cases hs
  · cases hs
theorem gr_ar {y : Nat} (hs : am_ar y st = some (.inl (pc', al', st', h'))) : am_Gr h h' := by
  unfold am_ar at hs
  split at hs <;> cases hs
theorem gr_vr {y : Nat} (hs : am_vr y st = some (.inl (pc', al', st', h'))) : am_Gr h h' := by
  unfold am_vr at hs
  split at hs <;> cases hs
theorem am_mono {y len : Nat} {i : Instr} (hs : am_ins y i len pc al st h = some (.inl (pc', al', st', h'))) : am_Gr h h' := by
  cases i with
  | iconst n =>
    have hq := am_len hs
    clear hs
    obtain ⟨rfl, hs⟩ := hq
    exact gr_nx hs
  | bipush n =>
    have hq := am_len hs
    clear hs
    obtain ⟨rfl, hs⟩ := hq
    exact gr_nx hs
  | sipush n =>
    have hq := am_len hs
    clear hs
    obtain ⟨rfl, hs⟩ := hq
    exact gr_nx hs
  | lconst n =>
    have hq := am_len hs
    clear hs
    obtain ⟨rfl, hs⟩ := hq
    exact gr_nx hs
  | aconst_null =>
    have hq := am_len hs
    clear hs
    obtain ⟨rfl, hs⟩ := hq
    exact gr_nx hs
  | ldc k =>
    have hq := am_len hs
    clear hs
    obtain ⟨rfl, hs⟩ := hq
    obtain ⟨t, -, hs⟩ := as_bind hs
    exact gr_nx hs
  | ldc_w k =>
    have hq := am_len hs
    clear hs
    obtain ⟨rfl, hs⟩ := hq
    obtain ⟨t, -, hs⟩ := as_bind hs
    exact gr_nx hs
  | ldc2_w k =>
    have hq := am_len hs
    clear hs
    obtain ⟨rfl, hs⟩ := hq
    obtain ⟨t, -, hs⟩ := as_bind hs
    exact gr_nx hs
  | iload_n k =>
    have hq := am_len hs
    clear hs
    obtain ⟨rfl, hs⟩ := hq
    exact gr_il hs
  | iload k =>
    have hq := am_len hs
    clear hs
    obtain ⟨rfl, hs⟩ := hq
    exact gr_il hs
  | lload_n k =>
    have hq := am_len hs
    clear hs
    obtain ⟨rfl, hs⟩ := hq
    exact gr_ll hs
  | lload k =>
    have hq := am_len hs
    clear hs
    obtain ⟨rfl, hs⟩ := hq
    exact gr_ll hs
  | aload_n k =>
    have hq := am_len hs
    clear hs
    obtain ⟨rfl, hs⟩ := hq
    exact gr_al hs
  | aload k =>
    have hq := am_len hs
    clear hs
    obtain ⟨rfl, hs⟩ := hq
    exact gr_al hs
  | istore_n k =>
    have hq := am_len hs
    clear hs
    obtain ⟨rfl, hs⟩ := hq
    exact gr_is hs
  | istore k =>
    have hq := am_len hs
    clear hs
    obtain ⟨rfl, hs⟩ := hq
    exact gr_is hs
  | astore_n k =>
    have hq := am_len hs
    clear hs
    obtain ⟨rfl, hs⟩ := hq
    exact gr_as hs
  | astore k =>
    have hq := am_len hs
    clear hs
    obtain ⟨rfl, hs⟩ := hq
    exact gr_as hs
  | iinc k n =>
    have hq := am_len hs
    clear hs
    obtain ⟨rfl, hs⟩ := hq
    exact gr_ic hs
  | iadd =>
    have hq := am_len hs
    clear hs
    obtain ⟨rfl, hs⟩ := hq
    exact gr_bi hs
  | isub =>
    have hq := am_len hs
    clear hs
    obtain ⟨rfl, hs⟩ := hq
    exact gr_bi hs
  | imul =>
    have hq := am_len hs
    clear hs
    obtain ⟨rfl, hs⟩ := hq
    exact gr_bi hs
  | iand =>
    have hq := am_len hs
    clear hs
    obtain ⟨rfl, hs⟩ := hq
    exact gr_bi hs
  | ior =>
    have hq := am_len hs
    clear hs
    obtain ⟨rfl, hs⟩ := hq
    exact gr_bi hs
  | ixor =>
    have hq := am_len hs
    clear hs
    obtain ⟨rfl, hs⟩ := hq
    exact gr_bi hs
  | ishl =>
    have hq := am_len hs
    clear hs
    obtain ⟨rfl, hs⟩ := hq
    exact gr_bi hs
  | ishr =>
    have hq := am_len hs
    clear hs
    obtain ⟨rfl, hs⟩ := hq
    exact gr_bi hs
  | iushr =>
    have hq := am_len hs
    clear hs
    obtain ⟨rfl, hs⟩ := hq
    exact gr_bi hs
  | ladd =>
    have hq := am_len hs
    clear hs
    obtain ⟨rfl, hs⟩ := hq
    exact gr_bl hs
  | lmul =>
    have hq := am_len hs
    clear hs
    obtain ⟨rfl, hs⟩ := hq
    exact gr_bl hs
  | land =>
    have hq := am_len hs
    clear hs
    obtain ⟨rfl, hs⟩ := hq
    exact gr_bl hs
  | lor =>
    have hq := am_len hs
    clear hs
    obtain ⟨rfl, hs⟩ := hq
    exact gr_bl hs
  | lshl =>
    have hq := am_len hs
    clear hs
    obtain ⟨rfl, hs⟩ := hq
    exact gr_sh hs
  | lshr =>
    have hq := am_len hs
    clear hs
    obtain ⟨rfl, hs⟩ := hq
    exact gr_sh hs
  | goto off =>
    have hq := am_len hs
    clear hs
    obtain ⟨rfl, hs⟩ := hq
    exact gr_jp hs
  | ifCond cd off =>
    have hq := am_len hs
    clear hs
    obtain ⟨rfl, hs⟩ := hq
    exact gr_if hs
  | if_icmp cd off =>
    have hq := am_len hs
    clear hs
    obtain ⟨rfl, hs⟩ := hq
    exact gr_ii hs
  | getfield k =>
    have hq := am_len hs
    clear hs
    obtain ⟨rfl, hs⟩ := hq
    exact gr_gf hs
  | putfield k =>
    have hq := am_len hs
    clear hs
    obtain ⟨rfl, hs⟩ := hq
    exact gr_pf hs
  | getstatic k =>
    have hq := am_len hs
    clear hs
    obtain ⟨rfl, hs⟩ := hq
    exact gr_gs hs
  | iaload =>
    have hq := am_len hs
    clear hs
    obtain ⟨rfl, hs⟩ := hq
    exact gr_ia hs
  | baload =>
    have hq := am_len hs
    clear hs
    obtain ⟨rfl, hs⟩ := hq
    exact gr_ba hs
  | laload =>
    have hq := am_len hs
    clear hs
    obtain ⟨rfl, hs⟩ := hq
    exact gr_la hs
  | aaload =>
    have hq := am_len hs
    clear hs
    obtain ⟨rfl, hs⟩ := hq
    exact gr_aa hs
  | iastore =>
    have hq := am_len hs
    clear hs
    obtain ⟨rfl, hs⟩ := hq
    exact gr_iS hs
  | bastore =>
    have hq := am_len hs
    clear hs
    obtain ⟨rfl, hs⟩ := hq
    exact gr_bS hs
  | lastore =>
    have hq := am_len hs
    clear hs
    obtain ⟨rfl, hs⟩ := hq
    exact gr_lS hs
  | aastore =>
    have hq := am_len hs
    clear hs
    obtain ⟨rfl, hs⟩ := hq
    exact gr_aS hs
  | arraylength =>
    have hq := am_len hs
    clear hs
    obtain ⟨rfl, hs⟩ := hq
    exact gr_le hs
  | new k =>
    have hq := am_len hs
    clear hs
    obtain ⟨rfl, hs⟩ := hq
    exact gr_nw hs
  | newarray t =>
    have hq := am_len hs
    clear hs
    obtain ⟨rfl, hs⟩ := hq
    exact gr_na hs
  | anewarray k =>
    have hq := am_len hs
    clear hs
    obtain ⟨rfl, hs⟩ := hq
    exact gr_nq hs
  | invokevirtual k =>
    have hq := am_len hs
    clear hs
    obtain ⟨rfl, hs⟩ := hq
    exact gr_iv hs
  | invokestatic k =>
    have hq := am_len hs
    clear hs
    obtain ⟨rfl, hs⟩ := hq
    exact gr_vs hs
  | invokespecial k =>
    have hq := am_len hs
    clear hs
    obtain ⟨rfl, hs⟩ := hq
    exact gr_vi hs
  | ireturn =>
    have hq := am_len hs
    clear hs
    obtain ⟨rfl, hs⟩ := hq
    exact gr_rt hs
  | areturn =>
    have hq := am_len hs
    clear hs
    obtain ⟨rfl, hs⟩ := hq
    exact gr_ar hs
  | return_ =>
    have hq := am_len hs
    clear hs
    obtain ⟨rfl, hs⟩ := hq
    exact gr_vr hs
  | idiv =>
    have hq := am_len hs
    clear hs
    obtain ⟨rfl, hs⟩ := hq
    split at hs
    · split at hs
      · cases hs
      · exact gr_nx hs
    · cases hs
  | irem =>
    have hq := am_len hs
    clear hs
    obtain ⟨rfl, hs⟩ := hq
    split at hs
    · split at hs
      · cases hs
      · exact gr_nx hs
    · cases hs
  | lrem =>
    have hq := am_len hs
    clear hs
    obtain ⟨rfl, hs⟩ := hq
    split at hs
    · split at hs
      · cases hs
      · exact gr_nx hs
    · cases hs
  | ineg =>
    have hq := am_len hs
    clear hs
    obtain ⟨rfl, hs⟩ := hq
    split at hs
    · exact gr_nx hs
    · cases hs
  | lcmp =>
    have hq := am_len hs
    clear hs
    obtain ⟨rfl, hs⟩ := hq
    split at hs
    · exact gr_nx hs
    · cases hs
  | i2l =>
    have hq := am_len hs
    clear hs
    obtain ⟨rfl, hs⟩ := hq
    split at hs
    · exact gr_nx hs
    · cases hs
  | l2i =>
    have hq := am_len hs
    clear hs
    obtain ⟨rfl, hs⟩ := hq
    split at hs
    · exact gr_nx hs
    · cases hs
  | i2b =>
    have hq := am_len hs
    clear hs
    obtain ⟨rfl, hs⟩ := hq
    split at hs
    · exact gr_nx hs
    · cases hs
  | dup =>
    have hq := am_len hs
    clear hs
    obtain ⟨rfl, hs⟩ := hq
    split at hs
    · split at hs
      · exact gr_nx hs
      · cases hs
    · cases hs
  | dup2 =>
    have hq := am_len hs
    clear hs
    obtain ⟨rfl, hs⟩ := hq
    split at hs
    · split at hs
      · exact gr_nx hs
      · cases hs
    · cases hs
  | pop =>
    have hq := am_len hs
    clear hs
    obtain ⟨rfl, hs⟩ := hq
    split at hs
    · split at hs
      · exact gr_nx hs
      · cases hs
    · cases hs
  | ifnull off =>
    have hq := am_len hs
    clear hs
    obtain ⟨rfl, hs⟩ := hq
    split at hs
    · exact gr_nx hs
    · exact gr_jp hs
    · cases hs
  | ifnonnull off =>
    have hq := am_len hs
    clear hs
    obtain ⟨rfl, hs⟩ := hq
    split at hs
    · exact gr_jp hs
    · exact gr_nx hs
    · cases hs
  | tableswitch d lo hi offs =>
    exact gr_ts hs
  | lookupswitch d ps =>
    exact gr_ls hs
  | _ =>
    have hs : (none : Option AR) = some _ := hs
    cases hs
theorem am_step_ins {y : Nat} {r : AR} (hs : am_step y pc al st h = some r) : ∃ (i : Instr) (len : Nat), decode (am_b y) pc = .ok (i, len) ∧ am_ins y i len pc al st h = some r := by
  unfold am_step at hs
  split at hs
  · rename_i i len hd
    exact ⟨i, len, hd, hs⟩
  · cases hs
theorem am_exec_gr : ∀ (f : Nat) {d y pc : Nat} {al : AL} {st : List Value} {h : AH} {r : Option Value} {h' : AH}, am_exec f d y pc al st h = some (r, h') → am_Gr h h'
  | 0, d, y, pc, al, st, h, r, h', e => by cases e
  | f + 1, d, y, pc, al, st, h, r, h', e => by
    unfold am_exec at e
    split at e
    · cases e
    · rename_i hs
      obtain ⟨i, len, -, hi⟩ := am_step_ins hs
      exact (am_mono hi).tr (am_exec_gr f e)
    · split at e
      · cases e
      · split at e
        · split at e
          · cases e
          · rename_i hc
            exact (am_exec_gr f hc).tr (am_exec_gr f e)
        · cases e
    · cases e
      exact am_Gr.rf
theorem nr_nx {q : Nat} {bl : AL} {su : List Value} {z : (Nat × List Value × List Value) ⊕ Option Value} (hs : am_nx q bl su h = some (.inr z)) : False := by
  unfold am_nx at hs
  cases hs
theorem nr_jp {off : Int} {su : List Value} {z : (Nat × List Value × List Value) ⊕ Option Value} (hs : am_jp pc off al su h = some (.inr z)) : False := by
  unfold am_jp at hs
  obtain ⟨t, -, hs⟩ := as_bind hs
  exact nr_nx hs
theorem nr_bi {f : Int32 → Int32 → Int32} {z : (Nat × List Value × List Value) ⊕ Option Value} (hs : am_bi f pc al st h = some (.inr z)) : False := by
  unfold am_bi at hs
  split at hs
  · exact nr_nx hs
  · cases hs
theorem nr_bl {f : Int64 → Int64 → Int64} {z : (Nat × List Value × List Value) ⊕ Option Value} (hs : am_bl f pc al st h = some (.inr z)) : False := by
  unfold am_bl at hs
  split at hs
  · exact nr_nx hs
  · cases hs
theorem nr_sh {f : Int64 → Int32 → Int64} {z : (Nat × List Value × List Value) ⊕ Option Value} (hs : am_sh f pc al st h = some (.inr z)) : False := by
  unfold am_sh at hs
  split at hs
  · exact nr_nx hs
  · cases hs
theorem nr_il {k q : Nat} {z : (Nat × List Value × List Value) ⊕ Option Value} (hs : am_il k q al st h = some (.inr z)) : False := by
  unfold am_il at hs
  split at hs
  · exact nr_nx hs
  · cases hs
theorem nr_ll {k q : Nat} {z : (Nat × List Value × List Value) ⊕ Option Value} (hs : am_ll k q al st h = some (.inr z)) : False := by
  unfold am_ll at hs
  split at hs
  · exact nr_nx hs
  · cases hs
theorem nr_al {k q : Nat} {z : (Nat × List Value × List Value) ⊕ Option Value} (hs : am_al k q al st h = some (.inr z)) : False := by
  unfold am_al at hs
  split at hs
  · exact nr_nx hs
  · exact nr_nx hs
  · cases hs
theorem nr_is {k q : Nat} {z : (Nat × List Value × List Value) ⊕ Option Value} (hs : am_is k q al st h = some (.inr z)) : False := by
  unfold am_is at hs
  split at hs
  · split at hs
    · exact nr_nx hs
    · cases hs
  · cases hs
theorem nr_as {k q : Nat} {z : (Nat × List Value × List Value) ⊕ Option Value} (hs : am_as k q al st h = some (.inr z)) : False := by
  unfold am_as at hs
  split at hs
  · split at hs
    · exact nr_nx hs
    · cases hs
  · split at hs
    · exact nr_nx hs
    · cases hs
  · cases hs
theorem nr_ic {k : Nat} {n : Int} {z : (Nat × List Value × List Value) ⊕ Option Value} (hs : am_ic k n pc al st h = some (.inr z)) : False := by
  unfold am_ic at hs
  split at hs
  · split at hs
    · exact nr_nx hs
    · cases hs
  · cases hs
theorem nr_if {c : ClassFile.Cond} {off : Int} {z : (Nat × List Value × List Value) ⊕ Option Value} (hs : am_if c off pc al st h = some (.inr z)) : False := by
  unfold am_if at hs
  split at hs
  · obtain ⟨t, -, hs⟩ := as_bind hs
    split at hs
    · exact nr_nx hs
    · exact nr_nx hs
  · cases hs
theorem nr_ii {c : ClassFile.Cond} {off : Int} {z : (Nat × List Value × List Value) ⊕ Option Value} (hs : am_ii c off pc al st h = some (.inr z)) : False := by
  unfold am_ii at hs
  split at hs
  · obtain ⟨t, -, hs⟩ := as_bind hs
    split at hs
    · exact nr_nx hs
    · exact nr_nx hs
  · cases hs
theorem nr_ts {d lo hi : Int} {offs : Array Int} {z : (Nat × List Value × List Value) ⊕ Option Value} (hs : am_ts d lo hi offs pc al st h = some (.inr z)) : False := by
  unfold am_ts at hs
  split at hs
  · split at hs
    · exact nr_jp hs
    · obtain ⟨t, -, hs⟩ := as_bind hs
      exact nr_jp hs
  · cases hs
theorem nr_ls {d : Int} {ps : Array (Int × Int)} {z : (Nat × List Value × List Value) ⊕ Option Value} (hs : am_ls d ps pc al st h = some (.inr z)) : False := by
  unfold am_ls at hs
  split at hs
  · split at hs
    · exact nr_jp hs
    · cases hs
  · cases hs
theorem nr_gf {o i : Nat} {z : (Nat × List Value × List Value) ⊕ Option Value} (hs : am_gf o i pc al st h = some (.inr z)) : False := by
  unfold am_gf at hs
  split at hs
  · obtain ⟨t, -, hs⟩ := as_bind hs
    split at hs
    · split at hs
      · obtain ⟨t, -, hs⟩ := as_bind hs
        exact nr_nx hs
      · cases hs
    · cases hs
  · cases hs
theorem nr_pf {y o i : Nat} {z : (Nat × List Value × List Value) ⊕ Option Value} (hs : am_pf y o i pc al st h = some (.inr z)) : False := by
  unfold am_pf at hs
  split at hs
  · obtain ⟨t, -, hs⟩ := as_bind hs
    split at hs
    · rename_i ha
      split at hs
      · exact nr_nx hs
      · cases hs
    · cases hs
  · cases hs
theorem nr_gs {o i : Nat} {z : (Nat × List Value × List Value) ⊕ Option Value} (hs : am_gs o i pc al st h = some (.inr z)) : False := by
  unfold am_gs at hs
  obtain ⟨t, -, hs⟩ := as_bind hs
  exact nr_nx hs
theorem nr_ia  {z : (Nat × List Value × List Value) ⊕ Option Value} (hs : am_ia pc al st h = some (.inr z)) : False := by
  unfold am_ia at hs
  split at hs
  · split at hs
    · split at hs
      · exact nr_nx hs
      · cases hs
    · cases hs
  · cases hs
theorem nr_ba  {z : (Nat × List Value × List Value) ⊕ Option Value} (hs : am_ba pc al st h = some (.inr z)) : False := by
  unfold am_ba at hs
  split at hs
  · split at hs
    · split at hs
      · exact nr_nx hs
      · cases hs
    · split at hs
      · exact nr_nx hs
      · cases hs
    · cases hs
  · cases hs
theorem nr_la  {z : (Nat × List Value × List Value) ⊕ Option Value} (hs : am_la pc al st h = some (.inr z)) : False := by
  unfold am_la at hs
  split at hs
  · split at hs
    · split at hs
      · exact nr_nx hs
      · cases hs
    · cases hs
  · cases hs
theorem nr_aa  {z : (Nat × List Value × List Value) ⊕ Option Value} (hs : am_aa pc al st h = some (.inr z)) : False := by
  unfold am_aa at hs
  split at hs
  · split at hs
    · split at hs
      · exact nr_nx hs
      · cases hs
    · cases hs
  · cases hs
theorem nr_le  {z : (Nat × List Value × List Value) ⊕ Option Value} (hs : am_le pc al st h = some (.inr z)) : False := by
  unfold am_le at hs
  split at hs
  · split at hs
    · split at hs
      · exact nr_nx hs
      · cases hs
    · cases hs
  · cases hs
theorem nr_iS  {z : (Nat × List Value × List Value) ⊕ Option Value} (hs : am_iS pc al st h = some (.inr z)) : False := by
  unfold am_iS at hs
  split at hs
  · split at hs
    · rename_i ha
      split at hs
      · exact nr_nx hs
      · cases hs
    · cases hs
  · cases hs
theorem nr_lS  {z : (Nat × List Value × List Value) ⊕ Option Value} (hs : am_lS pc al st h = some (.inr z)) : False := by
  unfold am_lS at hs
  split at hs
  · split at hs
    · rename_i ha
      split at hs
      · exact nr_nx hs
      · cases hs
    · cases hs
  · cases hs
theorem nr_bS  {z : (Nat × List Value × List Value) ⊕ Option Value} (hs : am_bS pc al st h = some (.inr z)) : False := by
  unfold am_bS at hs
  split at hs
  · split at hs
    · rename_i ha
      split at hs
      · exact nr_nx hs
      · cases hs
    · rename_i ha
      split at hs
      · exact nr_nx hs
      · cases hs
    · cases hs
  · cases hs
theorem nr_aS  {z : (Nat × List Value × List Value) ⊕ Option Value} (hs : am_aS pc al st h = some (.inr z)) : False := by
  unfold am_aS at hs
  split at hs
  · split at hs
    · rename_i ha hv
      split at hs
      · exact nr_nx hs
      · cases hs
    · cases hs
  · split at hs
    · rename_i ha
      split at hs
      · exact nr_nx hs
      · cases hs
    · cases hs
  · cases hs
theorem nr_nw {o i : Nat} {z : (Nat × List Value × List Value) ⊕ Option Value} (hs : am_nw o i pc al st h = some (.inr z)) : False := by
  unfold am_nw at hs
  obtain ⟨t, -, hs⟩ := as_bind hs
  split at hs
  · exact nr_nx hs
  · cases hs
theorem nr_na {t : ArrayType} {z : (Nat × List Value × List Value) ⊕ Option Value} (hs : am_na t pc al st h = some (.inr z)) : False := by
  unfold am_na at hs
  split at hs
  · split at hs
    · cases hs
    · split at hs
      · exact nr_nx hs
      · exact nr_nx hs
      · exact nr_nx hs
      · exact nr_nx hs
      · cases hs
  · cases hs
theorem nr_nq {o i : Nat} {z : (Nat × List Value × List Value) ⊕ Option Value} (hs : am_nq o i pc al st h = some (.inr z)) : False := by
  unfold am_nq at hs
  split at hs
  · split at hs
    · cases hs
    · obtain ⟨t, -, hs⟩ := as_bind hs
      split at hs
      · exact nr_nx hs
      · cases hs
  · cases hs
theorem nr_cy  {z : (Nat × List Value × List Value) ⊕ Option Value} (hs : am_cy pc al st h = some (.inr z)) : False := by
  unfold am_cy at hs
  split at hs
  · split at hs
    · rename_i ha0 ha1
      split at hs
      · exact nr_nx hs
      · cases hs
    · cases hs
  · cases hs
/-- which instructions leave the row: calls and returns -/
def am_CR (y : Nat) (i : Instr) (len pc : Nat) (al : AL) (st : List Value) (h : AH) (z : (Nat × List Value × List Value) ⊕ Option Value) : Prop := (∃ k, i = .invokevirtual k ∧ len = 3 ∧ am_iv (am_o y) k st h = some (.inr z)) ∨ (∃ k, i = .invokestatic k ∧ len = 3 ∧ am_vs (am_o y) k pc al st h = some (.inr z)) ∨ (∃ k, i = .invokespecial k ∧ len = 3 ∧ am_vi (am_o y) k pc al st h = some (.inr z)) ∨ (i = .ireturn ∧ len = 1 ∧ am_rt y st = some (.inr z)) ∨ (i = .areturn ∧ len = 1 ∧ am_ar y st = some (.inr z)) ∨ (i = .return_ ∧ len = 1 ∧ am_vr y st = some (.inr z))
theorem am_leaves {y len : Nat} {i : Instr} {z : (Nat × List Value × List Value) ⊕ Option Value} (hs : am_ins y i len pc al st h = some (.inr z)) : am_CR y i len pc al st h z := by
  cases i with
  | iconst n =>
    have hq := am_len hs
    clear hs
    obtain ⟨rfl, hs⟩ := hq
    exact (nr_nx hs).elim
  | bipush n =>
    have hq := am_len hs
    clear hs
    obtain ⟨rfl, hs⟩ := hq
    exact (nr_nx hs).elim
  | sipush n =>
    have hq := am_len hs
    clear hs
    obtain ⟨rfl, hs⟩ := hq
    exact (nr_nx hs).elim
  | lconst n =>
    have hq := am_len hs
    clear hs
    obtain ⟨rfl, hs⟩ := hq
    exact (nr_nx hs).elim
  | aconst_null =>
    have hq := am_len hs
    clear hs
    obtain ⟨rfl, hs⟩ := hq
    exact (nr_nx hs).elim
  | ldc k =>
    have hq := am_len hs
    clear hs
    obtain ⟨rfl, hs⟩ := hq
    obtain ⟨t, -, hs⟩ := as_bind hs
    exact (nr_nx hs).elim
  | ldc_w k =>
    have hq := am_len hs
    clear hs
    obtain ⟨rfl, hs⟩ := hq
    obtain ⟨t, -, hs⟩ := as_bind hs
    exact (nr_nx hs).elim
  | ldc2_w k =>
    have hq := am_len hs
    clear hs
    obtain ⟨rfl, hs⟩ := hq
    obtain ⟨t, -, hs⟩ := as_bind hs
    exact (nr_nx hs).elim
  | iload_n k =>
    have hq := am_len hs
    clear hs
    obtain ⟨rfl, hs⟩ := hq
    exact (nr_il hs).elim
  | iload k =>
    have hq := am_len hs
    clear hs
    obtain ⟨rfl, hs⟩ := hq
    exact (nr_il hs).elim
  | lload_n k =>
    have hq := am_len hs
    clear hs
    obtain ⟨rfl, hs⟩ := hq
    exact (nr_ll hs).elim
  | lload k =>
    have hq := am_len hs
    clear hs
    obtain ⟨rfl, hs⟩ := hq
    exact (nr_ll hs).elim
  | aload_n k =>
    have hq := am_len hs
    clear hs
    obtain ⟨rfl, hs⟩ := hq
    exact (nr_al hs).elim
  | aload k =>
    have hq := am_len hs
    clear hs
    obtain ⟨rfl, hs⟩ := hq
    exact (nr_al hs).elim
  | istore_n k =>
    have hq := am_len hs
    clear hs
    obtain ⟨rfl, hs⟩ := hq
    exact (nr_is hs).elim
  | istore k =>
    have hq := am_len hs
    clear hs
    obtain ⟨rfl, hs⟩ := hq
    exact (nr_is hs).elim
  | astore_n k =>
    have hq := am_len hs
    clear hs
    obtain ⟨rfl, hs⟩ := hq
    exact (nr_as hs).elim
  | astore k =>
    have hq := am_len hs
    clear hs
    obtain ⟨rfl, hs⟩ := hq
    exact (nr_as hs).elim
  | iinc k n =>
    have hq := am_len hs
    clear hs
    obtain ⟨rfl, hs⟩ := hq
    exact (nr_ic hs).elim
  | iadd =>
    have hq := am_len hs
    clear hs
    obtain ⟨rfl, hs⟩ := hq
    exact (nr_bi hs).elim
  | isub =>
    have hq := am_len hs
    clear hs
    obtain ⟨rfl, hs⟩ := hq
    exact (nr_bi hs).elim
  | imul =>
    have hq := am_len hs
    clear hs
    obtain ⟨rfl, hs⟩ := hq
    exact (nr_bi hs).elim
  | iand =>
    have hq := am_len hs
    clear hs
    obtain ⟨rfl, hs⟩ := hq
    exact (nr_bi hs).elim
  | ior =>
    have hq := am_len hs
    clear hs
    obtain ⟨rfl, hs⟩ := hq
    exact (nr_bi hs).elim
  | ixor =>
    have hq := am_len hs
    clear hs
    obtain ⟨rfl, hs⟩ := hq
    exact (nr_bi hs).elim
  | ishl =>
    have hq := am_len hs
    clear hs
    obtain ⟨rfl, hs⟩ := hq
    exact (nr_bi hs).elim
  | ishr =>
    have hq := am_len hs
    clear hs
    obtain ⟨rfl, hs⟩ := hq
    exact (nr_bi hs).elim
  | iushr =>
    have hq := am_len hs
    clear hs
    obtain ⟨rfl, hs⟩ := hq
    exact (nr_bi hs).elim
  | ladd =>
    have hq := am_len hs
    clear hs
    obtain ⟨rfl, hs⟩ := hq
    exact (nr_bl hs).elim
  | lmul =>
    have hq := am_len hs
    clear hs
    obtain ⟨rfl, hs⟩ := hq
    exact (nr_bl hs).elim
  | land =>
    have hq := am_len hs
    clear hs
    obtain ⟨rfl, hs⟩ := hq
    exact (nr_bl hs).elim
  | lor =>
    have hq := am_len hs
    clear hs
    obtain ⟨rfl, hs⟩ := hq
    exact (nr_bl hs).elim
  | lshl =>
    have hq := am_len hs
    clear hs
    obtain ⟨rfl, hs⟩ := hq
    exact (nr_sh hs).elim
  | lshr =>
    have hq := am_len hs
    clear hs
    obtain ⟨rfl, hs⟩ := hq
    exact (nr_sh hs).elim
  | goto off =>
    have hq := am_len hs
    clear hs
    obtain ⟨rfl, hs⟩ := hq
    exact (nr_jp hs).elim
  | ifCond cd off =>
    have hq := am_len hs
    clear hs
    obtain ⟨rfl, hs⟩ := hq
    exact (nr_if hs).elim
  | if_icmp cd off =>
    have hq := am_len hs
    clear hs
    obtain ⟨rfl, hs⟩ := hq
    exact (nr_ii hs).elim
  | getfield k =>
    have hq := am_len hs
    clear hs
    obtain ⟨rfl, hs⟩ := hq
    exact (nr_gf hs).elim
  | putfield k =>
    have hq := am_len hs
    clear hs
    obtain ⟨rfl, hs⟩ := hq
    exact (nr_pf hs).elim
  | getstatic k =>
    have hq := am_len hs
    clear hs
    obtain ⟨rfl, hs⟩ := hq
    exact (nr_gs hs).elim
  | iaload =>
    have hq := am_len hs
    clear hs
    obtain ⟨rfl, hs⟩ := hq
    exact (nr_ia hs).elim
  | baload =>
    have hq := am_len hs
    clear hs
    obtain ⟨rfl, hs⟩ := hq
    exact (nr_ba hs).elim
  | laload =>
    have hq := am_len hs
    clear hs
    obtain ⟨rfl, hs⟩ := hq
    exact (nr_la hs).elim
  | aaload =>
    have hq := am_len hs
    clear hs
    obtain ⟨rfl, hs⟩ := hq
    exact (nr_aa hs).elim
  | iastore =>
    have hq := am_len hs
    clear hs
    obtain ⟨rfl, hs⟩ := hq
    exact (nr_iS hs).elim
  | bastore =>
    have hq := am_len hs
    clear hs
    obtain ⟨rfl, hs⟩ := hq
    exact (nr_bS hs).elim
  | lastore =>
    have hq := am_len hs
    clear hs
    obtain ⟨rfl, hs⟩ := hq
    exact (nr_lS hs).elim
  | aastore =>
    have hq := am_len hs
    clear hs
    obtain ⟨rfl, hs⟩ := hq
    exact (nr_aS hs).elim
  | arraylength =>
    have hq := am_len hs
    clear hs
    obtain ⟨rfl, hs⟩ := hq
    exact (nr_le hs).elim
  | new k =>
    have hq := am_len hs
    clear hs
    obtain ⟨rfl, hs⟩ := hq
    exact (nr_nw hs).elim
  | newarray t =>
    have hq := am_len hs
    clear hs
    obtain ⟨rfl, hs⟩ := hq
    exact (nr_na hs).elim
  | anewarray k =>
    have hq := am_len hs
    clear hs
    obtain ⟨rfl, hs⟩ := hq
    exact (nr_nq hs).elim
  | idiv =>
    have hq := am_len hs
    clear hs
    obtain ⟨rfl, hs⟩ := hq
    split at hs
    · split at hs
      · cases hs
      · exact (nr_nx hs).elim
    · cases hs
  | irem =>
    have hq := am_len hs
    clear hs
    obtain ⟨rfl, hs⟩ := hq
    split at hs
    · split at hs
      · cases hs
      · exact (nr_nx hs).elim
    · cases hs
  | lrem =>
    have hq := am_len hs
    clear hs
    obtain ⟨rfl, hs⟩ := hq
    split at hs
    · split at hs
      · cases hs
      · exact (nr_nx hs).elim
    · cases hs
  | ineg =>
    have hq := am_len hs
    clear hs
    obtain ⟨rfl, hs⟩ := hq
    split at hs
    · exact (nr_nx hs).elim
    · cases hs
  | lcmp =>
    have hq := am_len hs
    clear hs
    obtain ⟨rfl, hs⟩ := hq
    split at hs
    · exact (nr_nx hs).elim
    · cases hs
  | i2l =>
    have hq := am_len hs
    clear hs
    obtain ⟨rfl, hs⟩ := hq
    split at hs
    · exact (nr_nx hs).elim
    · cases hs
  | l2i =>
    have hq := am_len hs
    clear hs
    obtain ⟨rfl, hs⟩ := hq
    split at hs
    · exact (nr_nx hs).elim
    · cases hs
  | i2b =>
    have hq := am_len hs
    clear hs
    obtain ⟨rfl, hs⟩ := hq
    split at hs
    · exact (nr_nx hs).elim
    · cases hs
  | dup =>
    have hq := am_len hs
    clear hs
    obtain ⟨rfl, hs⟩ := hq
    split at hs
    · split at hs
      · exact (nr_nx hs).elim
      · cases hs
    · cases hs
  | dup2 =>
    have hq := am_len hs
    clear hs
    obtain ⟨rfl, hs⟩ := hq
    split at hs
    · split at hs
      · exact (nr_nx hs).elim
      · cases hs
    · cases hs
  | pop =>
    have hq := am_len hs
    clear hs
    obtain ⟨rfl, hs⟩ := hq
    split at hs
    · split at hs
      · exact (nr_nx hs).elim
      · cases hs
    · cases hs
  | ifnull off =>
    have hq := am_len hs
    clear hs
    obtain ⟨rfl, hs⟩ := hq
    split at hs
    · exact (nr_nx hs).elim
    · exact (nr_jp hs).elim
    · cases hs
  | ifnonnull off =>
    have hq := am_len hs
    clear hs
    obtain ⟨rfl, hs⟩ := hq
    split at hs
    · exact (nr_jp hs).elim
    · exact (nr_nx hs).elim
    · cases hs
  | tableswitch d lo hi offs =>
    exact (nr_ts hs).elim
  | lookupswitch d ps =>
    exact (nr_ls hs).elim
  | invokevirtual k =>
    have hq := am_len hs
    clear hs
    obtain ⟨rfl, hs⟩ := hq
    exact Or.inl ⟨k, rfl, rfl, hs⟩
  | invokestatic k =>
    have hq := am_len hs
    clear hs
    obtain ⟨rfl, hs⟩ := hq
    exact Or.inr (Or.inl ⟨k, rfl, rfl, hs⟩)
  | invokespecial k =>
    have hq := am_len hs
    clear hs
    obtain ⟨rfl, hs⟩ := hq
    exact Or.inr (Or.inr (Or.inl ⟨k, rfl, rfl, hs⟩))
  | ireturn =>
    have hq := am_len hs
    clear hs
    obtain ⟨rfl, hs⟩ := hq
    exact Or.inr (Or.inr (Or.inr (Or.inl ⟨rfl, rfl, hs⟩)))
  | areturn =>
    have hq := am_len hs
    clear hs
    obtain ⟨rfl, hs⟩ := hq
    exact Or.inr (Or.inr (Or.inr (Or.inr (Or.inl ⟨rfl, rfl, hs⟩))))
  | return_ =>
    have hq := am_len hs
    clear hs
    obtain ⟨rfl, hs⟩ := hq
    exact Or.inr (Or.inr (Or.inr (Or.inr (Or.inr ⟨rfl, rfl, hs⟩))))
  | _ =>
    have hs : (none : Option AR) = some _ := hs
    cases hs
end MONO
