/-! What the tables of the abstract machine say is among the words of the Statement. -/
def am_at (i : Nat) (w : Cond) : Bool := decide (lw_tbl[i]? = some w)
theorem am_at_mem {i : Nat} {w : Cond} (h : am_at i w = true) : w ∈ lw_tbl := List.mem_of_getElem? (of_decide_eq_true h)
def am_mok (y : Nat) : Bool := plainName (am_y y).cls && (decide ((am_y y).cls = am_C (am_o y)) && (decide ((am_y y).cls ≠ "java/lang/invoke/MethodHandle") && (decide ((am_y y).cls ≠ "java/lang/invoke/VarHandle") && (decide ((parseMethodDescriptor (am_y y).desc).map (fun d => d.parameters.length) = some (am_np y)) && decide (am_L y ≤ 20)))))
set_option maxRecDepth 100000 in
theorem am_mok_1 : (List.range 100).all (fun y => am_mok y) = true := by decide +kernel
set_option maxRecDepth 100000 in
theorem am_mok_2 : (List.range 100).all (fun y => am_mok (100 + y)) = true := by decide +kernel
set_option maxRecDepth 100000 in
theorem am_mok_3 : (List.range 95).all (fun y => am_mok (200 + y)) = true := by decide +kernel
theorem am_mok_all {y : Nat} (h : y < 295) : am_mok y = true := by
  by_cases h1 : y < 100
  · exact List.all_eq_true.mp am_mok_1 y (List.mem_range.mpr h1)
  · by_cases h2 : y < 200
    · have := List.all_eq_true.mp am_mok_2 (y - 100) (List.mem_range.mpr (by omega))
      rwa [show 100 + (y - 100) = y by omega] at this
    · have := List.all_eq_true.mp am_mok_3 (y - 200) (List.mem_range.mpr (by omega))
      rwa [show 200 + (y - 200) = y by omega] at this
def am_flok (e : Nat × Nat × Nat × Nat × Nat) : Bool := am_at e.2.2.2.2 (.fieldLink (am_C e.1) e.2.1 (am_T e.2.2.1 e.2.2.2.1).1 (am_T e.2.2.1 e.2.2.2.1).2.1 (am_T e.2.2.1 e.2.2.2.1).2.2.1) && (decide (e.2.2.2.1 < am_N e.2.2.1) && decide (e.2.2.1 < 13 ∧ e.2.2.1 ≠ 7))
set_option maxRecDepth 100000 in
theorem am_fls_ok : am_fls.all am_flok = true := by decide +kernel
def am_slok (e : Nat × Nat × Nat × Nat) : Bool := if e.2.2.1 = 0 then am_at e.2.2.2 (.fieldLink (am_C e.1) e.2.1 "LoopTables" "FACTORIALS" "[I") else am_at e.2.2.2 (.fieldLinkNest (am_C e.1) e.2.1 "LoopTables" "FACTORIALS" "[I" "LoopTables")
set_option maxRecDepth 100000 in
theorem am_sls_ok : am_sls.all am_slok = true := by decide +kernel
def am_clok (e : Nat × Nat × Nat × Nat) : Bool := am_at e.2.2.2 (.classLink (am_C e.1) e.2.1 (am_C e.2.2.1))
set_option maxRecDepth 100000 in
theorem am_cls_ok : am_cls.all am_clok = true := by decide +kernel
def am_kiok (e : Nat × Nat × Int32 × Nat) : Bool := am_at e.2.2.2 (.constant (am_C e.1) e.2.1 e.2.2.1)
set_option maxRecDepth 100000 in
theorem am_kis_ok : am_kis.all am_kiok = true := by decide +kernel
def am_klok (e : Nat × Nat × Int64 × Nat) : Bool := am_at e.2.2.2 (.constantLong (am_C e.1) e.2.1 e.2.2.1)
set_option maxRecDepth 100000 in
theorem am_kls_ok : am_kls.all am_klok = true := by decide +kernel
def am_inok (e : Nat × Nat × Nat) : Bool := am_at e.2.1 (.instantiable (am_C e.1) (am_N e.1)) && am_at e.2.2 (.initialized (am_C e.1))
set_option maxRecDepth 100000 in
theorem am_ins0_ok : am_ins0.all am_inok = true := by decide +kernel
theorem am_ins0_in : ∀ c : Nat, c < 13 ∧ c ≠ 7 → ∃ e ∈ am_ins0, e.1 = c := by
  intro c h
  have : ∀ c : Nat, c < 13 → c ≠ 7 → (am_ins0.any (fun e => e.1 == c)) = true := by decide +kernel
  obtain ⟨e, h1, h2⟩ := List.any_eq_true.mp (this c h.1 h.2)
  exact ⟨e, h1, by simpa using h2⟩
set_option maxRecDepth 100000 in
theorem am_lay_ok : ∀ c : Nat, c < 13 → ∀ w ∈ u_ws (am_C c) (am_T c) (am_N c), w ∈ lw_tbl := by decide +kernel
set_option maxRecDepth 100000 in
theorem am_nm_ok : ∀ c : Nat, c < 13 → ∀ a : Nat, a < am_N c → ∀ b : Nat, b < am_N c → a ≠ b → (am_T c a).2.1 ≠ (am_T c b).2.1 := by decide +kernel
set_option maxRecDepth 100000 in
theorem am_ty_ok : ∀ c : Nat, c < 13 → ∀ k : Nat, k < am_N c → parseFieldDescriptor (am_T c k).2.2.1 = some (am_ty c k) := by decide +kernel
set_option maxRecDepth 100000 in
theorem am_own_ok : ∀ c : Nat, c < 13 → ∀ k : Nat, k < am_N c → (am_T c k).1 = am_C c := by decide +kernel
set_option maxRecDepth 100000 in
theorem am_misc_ok : (Cond.arrayClass .int ∈ lw_tbl ∧ Cond.arrayClass .byte ∈ lw_tbl) ∧ (Cond.arrayClass .boolean ∈ lw_tbl ∧ Cond.arrayClass .long ∈ lw_tbl) ∧ (Cond.arrayOver (.object (am_C 3)) ∈ lw_tbl ∧ Cond.arrayOver (.object (am_C 9)) ∈ lw_tbl) ∧ (Cond.arrayOver (.object (am_C 10)) ∈ lw_tbl ∧ Cond.native arraycopyName ∈ lw_tbl) ∧ (Cond.static arraycopyName ∈ lw_tbl ∧ Cond.initialized "java/lang/System" ∈ lw_tbl) ∧ (Cond.instanceMethod objectInit ∈ lw_tbl ∧ Cond.code objectInit ⟨#[0xb1]⟩ 1 none ∈ lw_tbl) ∧ (Cond.static Lib.Math.max.name ∈ lw_tbl ∧ Cond.static Lib.Math.min.name ∈ lw_tbl) ∧ (Cond.code Lib.Math.max.name Lib.Math.max.code 2 (some .int) ∈ lw_tbl ∧ Cond.code Lib.Math.min.name Lib.Math.min.code 2 (some .int) ∈ lw_tbl) ∧ (Cond.initialized "java/lang/Math" ∈ lw_tbl) := by decide +kernel
