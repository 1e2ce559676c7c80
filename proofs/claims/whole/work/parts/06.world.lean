/-! The abstract heap and the machine's heap. -/
def am_ad (base aF aS k : Nat) : Nat := if k = 0 then aF else if k = 1 then aS else base + (k - 2)
def am_v (ad : Nat → Nat) (v : Value) : Value := match v with
  | .ref k => .ref (ad k)
  | w => w
def am_a (ad : Nat → Nat) (a : vp_A) : vp_A := (a.1, match a.2 with
  | .inr (.inr (.inr (.inr f))) => .inr (.inr (.inr (.inr (fun j => (f j).map ad))))
  | x => x)
def am_e (ad : Nat → Nat) (dA : Nat → ClassId) (c : AC) : va_E := match c with
  | .inl q => .inl (dA q.1, am_a ad q.2)
  | .inr q => .inr (q.1, q.2.map (am_v ad))
def am_w (ad : Nat → Nat) (dA : Nat → ClassId) (base : Nat) (h : AH) : va_W := (h.drop 2).mapIdx fun k c => (base + k, am_e ad dA c)
def am_tys (dA : Nat → ClassId) : List (ClassId × FieldType) := [(dA 0, .int), (dA 1, .byte), (dA 2, .boolean), (dA 3, .long), (dA 7, .object (am_C 3)), (dA 13, .object (am_C 9)), (dA 14, .object (am_C 10))]
def am_vc (c : Nat) : vw_C := (am_C c, am_T c, am_N c)
def am_vl : List vw_C := (List.range 13).map fun c => if c = 7 then am_vc 10 else am_vc c
theorem am_vl_at {c : Nat} (h : c < 13 ∧ c ≠ 7) : am_vl[c]? = some (am_C c, am_T c, am_N c) := by
  simp [am_vl, am_vc, h.1, h.2]
theorem am_v_cat (ad : Nat → Nat) (v : Value) : (am_v ad v).category = v.category := by cases v <;> rfl
theorem am_w_at {ad : Nat → Nat} {dA : Nat → ClassId} {base : Nat} {h : AH} {a : Nat} {c : AC} (h2 : 2 ≤ a) (ha : h[a]? = some c) : (am_w ad dA base h)[a - 2]? = some (base + (a - 2), am_e ad dA c) := by
  unfold am_w
  rw [List.getElem?_mapIdx, List.getElem?_drop, show 2 + (a - 2) = a by omega, ha]
  rfl
theorem am_w_set {ad : Nat → Nat} {dA : Nat → ClassId} {base : Nat} {h : AH} {a : Nat} {c : AC} (h2 : 2 ≤ a) : am_w ad dA base (h.set a c) = (am_w ad dA base h).set (a - 2) (base + (a - 2), am_e ad dA c) := by
  apply List.ext_getElem?
  intro k
  unfold am_w
  rw [List.getElem?_mapIdx, List.getElem?_drop]
  by_cases hk : k = a - 2
  · subst hk
    rw [show 2 + (a - 2) = a by omega]
    by_cases hl : a < h.length
    · rw [List.getElem?_set_self hl, List.getElem?_set_self (by simp; omega)]
      rfl
    · rw [List.getElem?_eq_none (by simp; omega), List.getElem?_eq_none (by simp; omega)]
      rfl
  · rw [List.getElem?_set_ne (by omega), List.getElem?_set_ne (by omega), List.getElem?_mapIdx, List.getElem?_drop]
theorem am_w_push {ad : Nat → Nat} {dA : Nat → ClassId} {base : Nat} {h : AH} {c : AC} (h2 : 2 ≤ h.length) : am_w ad dA base (h ++ [c]) = am_w ad dA base h ++ [(base + (h.length - 2), am_e ad dA c)] := by
  unfold am_w
  rw [List.drop_append_of_le_length h2, List.mapIdx_append]
  simp
theorem am_w_D {ad : Nat → Nat} {dA : Nat → ClassId} {base : Nat} {h : AH} : va_D (fun q => base ≤ q) (am_w ad dA base h) := by
  have key : ∀ (k : Nat) (q : Nat × va_E), (am_w ad dA base h)[k]? = some q → q.1 = base + k := by
    intro k q hq
    unfold am_w at hq
    rw [List.getElem?_mapIdx] at hq
    obtain ⟨c, -, hc⟩ := Option.map_eq_some_iff.mp hq
    rw [← hc]
  refine ⟨fun i j p q hi hj hpq => ?_, fun k q hk => ?_⟩
  · have := key i p hi
    have := key j q hj
    omega
  · have := key k q hk
    show base ≤ q.1
    omega
def am_fc (j : Nat) : Int32 := [1, 1, 2, 6, 24, 120, 720].getD j 0
/-- the machine's heap holds the abstract one -/
def am_Hp (base aF aS L : Nat) (xs : Nat → Int32) (dC : Nat → ClassId) (dI : Nat → Nat → Nat) (dA : Nat → ClassId) (h : AH) (H : Heap) : Prop :=
  va_P (dC, dI) am_vl (am_w (am_ad base aF aS) dA base h) H ∧ H.size = base + (h.length - 2) ∧ 2 ≤ h.length ∧ h[0]? = some (.inl (0, 7, .inl am_fc)) ∧ h[1]? = some (.inl (0, L, .inl xs))
def am_nest (w : Cond) : Bool := match w with
  | .fieldLinkNest .. => true
  | .methodLinkNest .. => true
  | _ => false
/-- what holds of the tables and of the two rows that are only read -/
def am_Wd (base aF aS L : Nat) (xs : Nat → Int32) (dC : Nat → ClassId) (dI : Nat → Nat → Nat) (dA : Nat → ClassId) (U : State) (H : Heap) : Prop :=
  va_K (dC, dI) am_vl (am_tys dA) U ∧ (∀ w ∈ lw_tbl, am_nest w = true → va_Nw w U) ∧ (va_AO (am_C 3) U ∧ va_AO (am_C 9) U ∧ va_AO (am_C 10) U) ∧ va_Z "LoopTables" "FACTORIALS" "[I" (.ref aF) (fun q => base ≤ q) U H ∧ va_T .int aF 7 (fun j => .int (am_fc j)) (fun q => base ≤ q) U H ∧ va_T .int aS L (fun j => .int (xs j)) (fun q => base ≤ q) U H
theorem am_Wd.moved {base aF aS L : Nat} {xs : Nat → Int32} {dC : Nat → ClassId} {dI : Nat → Nat → Nat} {dA : Nat → ClassId} {s U : State} {H H1 : Heap} (h : am_Wd base aF aS L xs dC dI dA s H) (hW : s.WarmedH U.vm) (hk : ∀ a : Nat, a < H.size → ¬ base ≤ a → H1[a]? = H[a]?) : am_Wd base aF aS L xs dC dI dA U H1 := by
  obtain ⟨h1, h2, ⟨h3, h4, h5⟩, h6, h7, h8⟩ := h
  refine ⟨va_K.moved hW.alike h1, fun w hw hn => ?_, ⟨va_AO.moved hW.alike h3, va_AO.moved hW.alike h4, va_AO.moved hW.alike h5⟩, (va_Z.moved hW.alike h6).kept hk, (va_T.moved hW.alike h7).kept hk, (va_T.moved hW.alike h8).kept hk⟩
  have hz := h2 w hw hn
  cases w <;> first | exact absurd hn Bool.false_ne_true | exact va_Nw.warmF hW hz | exact va_Nw.warmM hW hz
theorem am_Wd.blind {base aF aS L : Nat} {xs : Nat → Int32} {dC : Nat → ClassId} {dI : Nat → Nat → Nat} {dA : Nat → ClassId} {U V : State} {H : Heap} (h : am_Wd base aF aS L xs dC dI dA U H) (hv : U.vm = V.vm) : am_Wd base aF aS L xs dC dI dA V H := by
  obtain ⟨h1, h2, ⟨h3, h4, h5⟩, h6, h7, h8⟩ := h
  have ha : U.vm.Alike V.vm := by rw [← hv]; exact Vm.Alike.refl U.vm
  refine ⟨va_K.moved ha h1, fun w hw hn => ?_, ⟨va_AO.moved ha h3, va_AO.moved ha h4, va_AO.moved ha h5⟩, va_Z.moved ha h6, va_T.moved ha h7, va_T.moved ha h8⟩
  have hz := h2 w hw hn
  cases w <;> first | exact absurd hn Bool.false_ne_true | exact va_Nw.same rfl hv hz
/-- the locals -/
def am_Ls (ad : Nat → Nat) (ls : Array Slot) (nL : Nat) (al : AL) : Prop := ls.size = nL ∧ lv_wf ls ∧ al.length ≤ nL ∧ ∀ (k : Nat) (v : Value), al[k]? = some (some v) → ls[k]? = some (.val (am_v ad v))
def am_lv (ad : Nat → Nat) (al : AL) : List (Nat × Value) := (List.range al.length).filterMap fun k => match al[k]? with
  | some (some v) => some (k, am_v ad v)
  | _ => none
theorem am_lv_mem {ad : Nat → Nat} {al : AL} {k : Nat} {w : Value} : (k, w) ∈ am_lv ad al ↔ ∃ v, al[k]? = some (some v) ∧ w = am_v ad v := by
  unfold am_lv
  rw [List.mem_filterMap]
  constructor
  · rintro ⟨j, hj, h⟩
    split at h
    · rename_i v hv
      cases h
      exact ⟨v, hv, rfl⟩
    · cases h
  · rintro ⟨v, hv, rfl⟩
    refine ⟨k, List.mem_range.mpr (List.getElem?_eq_some_iff.mp hv).1, ?_⟩
    rw [hv]
theorem am_Ls.has {ad : Nat → Nat} {ls : Array Slot} {nL : Nat} {al : AL} (h : am_Ls ad ls nL al) : lv_has ls nL (am_lv ad al) := by
  refine ⟨h.1, h.2.1, fun q hq => ?_⟩
  obtain ⟨v, hv, hw⟩ := am_lv_mem.mp (show (q.1, q.2) ∈ am_lv ad al from hq)
  rw [hw]
  exact h.2.2.2 q.1 v hv
/-- a value of one slot is stored -/
theorem am_Ls.store {ad : Nat → Nat} {ls ls' : Array Slot} {nL k : Nat} {al : AL} {v : Value} (h : am_Ls ad ls nL al) (hc : am_cs al k = true) (h1 : lv_has ls' nL ((k, am_v ad v) :: (am_lv ad al).filter (fun q => !(q.1 == k) && !(q.1 + 1 == k && q.2.category == 2)))) : am_Ls ad ls' nL (al.set k (some v)) := by
  simp only [am_cs, Bool.and_eq_true, decide_eq_true_eq] at hc
  refine ⟨h1.1, h1.2.1, by rw [List.length_set]; exact h.2.2.1, fun j w hj => ?_⟩
  by_cases hjk : j = k
  · subst hjk
    rw [List.getElem?_set_self hc.1] at hj
    cases hj
    exact h1.2.2 (j, am_v ad v) List.mem_cons_self
  · rw [List.getElem?_set_ne (Ne.symm hjk)] at hj
    refine h1.2.2 (j, am_v ad w) (List.mem_cons_of_mem _ (List.mem_filter.mpr ⟨am_lv_mem.mpr ⟨w, hj, rfl⟩, ?_⟩))
    have hcat : ¬ (j + 1 = k ∧ w.category = 2) := by
      rintro ⟨e1, e2⟩
      subst e1
      have := hc.2
      simp only [hj] at this
      rw [e2] at this
      exact absurd this (by decide)
    simp only [am_v_cat, Bool.and_eq_true, Bool.not_eq_true', beq_eq_false_iff_ne, ne_eq, Bool.and_eq_false_iff]
    refine ⟨hjk, ?_⟩
    by_cases e : j + 1 = k
    · exact Or.inr fun e2 => hcat ⟨e, e2⟩
    · exact Or.inl e
theorem am_cs_lt {al : AL} {k : Nat} (h : am_cs al k = true) : k < al.length := by
  simp only [am_cs, Bool.and_eq_true, decide_eq_true_eq] at h
  exact h.1
theorem am_in_iff {i : Int32} {n : Nat} (h : am_in i n = true) : vp_in i n := by
  simp only [am_in, Bool.not_eq_true', Bool.or_eq_false_iff, decide_eq_false_iff_not] at h
  exact fun z => z.elim h.1 h.2
theorem am_tg_eq {pc t : Nat} {off : Int} (h : am_tg pc off = some t) : (pc : Int) + off = (t : Int) := by
  unfold am_tg at h
  split at h
  · cases h
    omega
  · cases h
