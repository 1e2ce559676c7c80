/-! CALLS AND THE WHOLE RUN: what the abstract machine runs, the machine runs; printed by wip/whole/gen_run.py. -/
def am_ws (y : Nat) : List Cond := .code (am_y y) (am_b y) (am_L y) (am_r y) :: am_gw
def am_rm (d mc ms : Nat) : Room := { frames := d + 1, cells := mc, slots := ms, locals := 64 * (d + 1) }
def am_Pc (base aF aS L : Nat) (xs : Nat → Int32) (dC : Nat → ClassId) (dI : Nat → Nat → Nat) (dA : Nat → ClassId) (as : List Value) (h : AH) : Array Value → State → Prop := va_Pc (as.map (am_v (am_ad base aF aS))) (fun U => am_Wd base aF aS L xs dC dI dA U U.heap ∧ am_Hp base aF aS L xs dC dI dA h U.heap)
def am_Qc (base aF aS L : Nat) (xs : Nat → Int32) (dC : Nat → ClassId) (dI : Nat → Nat → Nat) (dA : Nat → ClassId) (r : Option Value) (h' : AH) : Array Value → State → Outcome → State → Prop := fun _ st oc t => oc = .returned (r.map (am_v (am_ad base aF aS))) ∧ am_Hp base aF aS L xs dC dI dA h' t.heap ∧ va_F (fun q => base ≤ q) st t
/-- a return, of what it says -/
def am_rI (y : Nat) (i : Instr) (r : Option Value) : Prop := (i = .ireturn ∧ ∃ (v : Int32) (ty : FieldType), r = some (.int v) ∧ am_r y = some ty ∧ narrow ty (.int v) = .int v) ∨ (i = .areturn ∧ ∃ (v : Value) (ty : FieldType), r = some v ∧ am_r y = some ty ∧ ((∃ n, ty = .object n) ∨ ∃ t, ty = .array t) ∧ (v = .null ∨ ∃ a, v = .ref a)) ∨ (i = .return_ ∧ r = none ∧ am_r y = none)
def am_Fin (base aF aS L : Nat) (xs : Nat → Int32) (dC : Nat → ClassId) (dI : Nat → Nat → Nat) (dA : Nat → ClassId) (p : Program) (l : Launch) (e : Env) (R : Room) (s : State) (m : MethodId) (args : Array Value) (below : List Frame) (meth : Method) (c : Code) (y n0 s0 : Nat) (Q : State → Prop) (r : Option Value) (h' : AH) : Prop :=
  ∀ (H : Heap) (locs : List Loc) (ls : Array Slot) (cells slots pc : Nat) (i : Instr), cells + n0 = h'.length → slots + s0 = am_sz h' → am_Hp base aF aS L xs dC dI dA h' H → va_S (fun q => base ≤ q) s.heap H locs → am_rI y i r → decode (am_b y) pc = .ok (i, 1) → W p l e R s m args below meth c H locs cells slots Q (F0 m pc ls ((r.map (am_v (am_ad base aF aS))).toList))
def am_Run (base aF aS L : Nat) (xs : Nat → Int32) (dC : Nat → ClassId) (dI : Nat → Nat → Nat) (dA : Nat → ClassId) (l : Launch) (f : Nat) : Prop :=
  ∀ (d y pc : Nat) (al : AL) (st : List Value) (h : AH) (r : Option Value) (h' : AH), am_exec f d y pc al st h = some (r, h') →
  ∀ (p : Program) (e : Env) (R : Room) (s : State) (m : MethodId) (args : Array Value) (below : List Frame) (meth : Method) (c : Code) (n0 s0 : Nat) (Q : State → Prop), am_Cx base aF aS L xs dC dI dA p R s m args meth c y → d + 1 ≤ R.frames ∧ 64 * (d + 1) ≤ R.locals → h'.length ≤ R.cells + n0 ∧ am_sz h' ≤ R.slots + s0 → am_Fin base aF aS L xs dC dI dA p l e R s m args below meth c y n0 s0 Q r h' → am_K base aF aS L xs dC dI dA p l e R s m args below meth c y n0 s0 Q pc al st h
theorem am_good_ws {y : Nat} (hy : y < 294) : GoodIn am_gw (am_ws y) := by
  intro w hw
  rcases List.mem_cons.mp hw with rfl | hw
  · exact ⟨am_gw_mem (am_yok hy).1 rfl, good_of_word rfl⟩
  · exact ⟨hw, good_of_word (List.mem_filter.mp hw).2⟩
/-- the locals at the entry -/
theorem am_en_has {ad : Nat → Nat} {as : List Value} {n : Nat} (hn : (am_en as n).length = n) : am_Ls ad ((lg_sl (as.map (am_v ad)) ++ List.replicate (n - (lg_sl (as.map (am_v ad))).length) Slot.unset).toArray) n (am_en as n) := by
  have key : ∀ as : List Value, lg_sl (as.map (am_v ad)) = (as.flatMap (fun v => if v.category = 2 then [some v, none] else [some v])).map (fun o => match o with | some v => Slot.val (am_v ad v) | none => Slot.second) := by
    intro as
    induction as with
    | nil => rfl
    | cons v as ih =>
      unfold lg_sl at ih ⊢
      rw [List.map_cons, List.flatMap_cons, List.flatMap_cons, List.map_append, ih, am_v_cat]
      by_cases hc : v.category = 2
      · simp [hc]
      · simp [hc]
  have hlen : (lg_sl (as.map (am_v ad))).length = (as.flatMap (fun v => if v.category = 2 then [some v, none] else [some v])).length := by rw [key, List.length_map]
  have hle : (lg_sl (as.map (am_v ad))).length ≤ n := by
    rw [hlen]
    unfold am_en at hn
    rw [List.length_append, List.length_replicate] at hn
    omega
  have hv := lv_entry (as.map (am_v ad)) hle
  refine ⟨hv.1, hv.2.1, by omega, fun k v hk => ?_⟩
  unfold am_en at hk
  rw [List.getElem?_toArray]
  by_cases hkl : k < (as.flatMap (fun v => if v.category = 2 then [some v, none] else [some v])).length
  · rw [List.getElem?_append_left hkl] at hk
    rw [List.getElem?_append_left (by rw [hlen]; exact hkl), key, List.getElem?_map, hk]
    rfl
  · rw [List.getElem?_append_right (by omega)] at hk
    exact absurd (List.mem_of_getElem? hk) (by simp)
section SIM
variable {base aF aS L : Nat} {xs : Nat → Int32} {dC : Nat → ClassId} {dI : Nat → Nat → Nat} {dA : Nat → ClassId} {p : Program} {l : Launch} {e : Env} {R : Room} {s : State} {m : MethodId} {args : Array Value} {below : List Frame} {meth : Method} {c : Code} {y n0 s0 : Nat} {Q : State → Prop}
variable {pc pc' : Nat} {al al' : AL} {st st' : List Value} {h h' : AH}
theorem am_callr {H : Heap} {locs : List Loc} {ls : Array Slot} {cells slots mc ms : Nat} {st0 rest : List Value} {a : Array Value} {r : Option Value} (hr : va_Run p l e R s m args below meth c H locs cells slots mc ms (F0 m pc ls st0) rest (am_Qc base aF aS L xs dC dI dA r h' a) (fun q => base ≤ q)) (hS : va_S (fun q => base ≤ q) s.heap H locs)
    (kk : ∀ (H1 : Heap) (locs1 : List Loc), am_Hp base aF aS L xs dC dI dA h' H1 → va_S (fun q => base ≤ q) s.heap H1 locs1 → W p l e R s m args below meth c H1 locs1 (cells + mc) (slots + ms) Q (F0 m (pc + 3) ls ((r.map (am_v (am_ad base aF aS))).toList ++ rest))) : W p l e R s m args below meth c H locs cells slots Q (F0 m pc ls st0) := by
  intro T hT X
  obtain ⟨v, st₀, t, T', L9, h0, X', hL, e1, e2, ⟨hv, hP, hz, hk⟩, st⟩ := hr T hT X
  cases hv
  rw [h0] at hz hk
  obtain ⟨t2, a1, b1⟩ := kk T'.heap (locs ++ L9) (by rw [e1]; exact hP)
    ⟨Nat.le_trans hS.1 (by rw [e1]; exact hz), fun q h1 h2 => by rw [e1, hk q (Nat.lt_of_lt_of_le h1 hS.1) h2]; exact hS.2.1 q h1 h2, fun q hq => by
      rcases List.mem_append.mp hq with h | h
      · exact hS.2.2 q h
      · exact hL q h⟩ T' rfl X'
  exact ⟨t2, st t2 a1, b1⟩
theorem am_blind {as : List Value} : FrameBlind (am_Pc base aF aS L xs dC dI dA as h) := by
  intro a U g mk q
  obtain ⟨q1, q2, q3⟩ := q
  exact ⟨q1, am_Wd.blind (V := U.calling g mk a) q2 rfl, q3⟩
theorem am_pre {H : Heap} {locs : List Loc} {as : List Value} (C : am_Cx base aF aS L xs dC dI dA p R s m args meth c y) (hP : am_Hp base aF aS L xs dC dI dA h H) (hS : va_S (fun q => base ≤ q) s.heap H locs) : ∀ U : State, U.heap = H → s.WarmedH U.vm → am_Pc base aF aS L xs dC dI dA as h (as.map (am_v (am_ad base aF aS))).toArray U := by
  intro U hU hW
  refine ⟨rfl, ?_, by rw [hU]; exact hP⟩
  rw [hU]
  exact C.2.2.2.1.moved hW hS.2.1
/-- a method's contract, out of a run of less fuel -/
theorem am_met {f d z : Nat} {as : List Value} {r : Option Value} (hf : am_Run base aF aS L xs dC dI dA l f) (hz : z < 294) (hx : am_exec f d z 0 (am_en as (am_L z)) [] h = some (r, h')) (hn : (am_en as (am_L z)).length = am_L z) (h2 : base ≤ base + (h.length - 2)) :
    Met l (am_y z) (am_ws z) (am_rm d (h'.length - h.length) (am_sz h' - am_sz h)) (am_Pc base aF aS L xs dC dI dA as h) (am_Qc base aF aS L xs dC dI dA r h') (h'.length - h.length) (am_sz h' - am_sz h) (fun q => base ≤ q) := by
  have hok := am_mok_all (show z < 295 by omega)
  simp only [am_mok, Bool.and_eq_true, decide_eq_true_eq] at hok
  obtain ⟨k1, k2, k3, k4, k5, k6⟩ := hok
  refine Met.ofW (cc := am_b z) (maxL := am_L z) (ret := am_r z) k1 rfl ?_
  intro p e s m args below meth c s₁ B hml hv
  obtain ⟨rfl, hWd, hP⟩ := hv
  have hts := atoms_spec (ws := am_ws z) B.pre
  have hown : s.vm.findClass (am_C (am_o z)) = some m.cls := by rw [← k2]; exact findClass_of_methodNamed B.named
  have hg := am_exec_gr f hx
  have C : am_Cx base aF aS L xs dC dI dA p (headSpec (am_ws z) (am_rm d (h'.length - h.length) (am_sz h' - am_sz h))).room s m (as.map (am_v (am_ad base aF aS))).toArray meth c z := ⟨⟨B.exec, B.bytes, hml⟩, hown, fun w hw hgw => hts w (List.mem_cons_of_mem _ (am_gw_mem hw hgw)), hWd, fun hi => by rw [← hi]; exact (name_of_methodNamed B.named B.method).1, ⟨Nat.le_add_left 1 d, by show 64 ≤ 64 * (d + 1); omega⟩, by rw [hP.2.1]; exact h2⟩
  have hlocks := B.notSynchronized
  have hr := B.returns
  rw [lg_entry_eq]
  refine hf d z 0 _ [] h r h' hx p e _ s m _ below meth c h.length (am_sz h) _ C ⟨Nat.le_refl _, Nat.le_refl _⟩ ⟨by show _ ≤ (h'.length - h.length) + h.length; have := hg.1; omega, by show _ ≤ (am_sz h' - am_sz h) + am_sz h; have := hg.2; omega⟩ ?_ s.heap [] _ 0 0 (Nat.zero_add _) (Nat.zero_add _) hP va_S.rf (am_en_has hn)
  intro H locs ls cells slots pc i e1 e2 hP1 hS1 hri hd
  have ec : cells = h'.length - h.length := by omega
  have es : slots = am_sz h' - am_sz h := by omega
  subst ec; subst es
  rcases hri with ⟨rfl, v, ty, rfl, hty, hnar⟩ | ⟨rfl, v, ty, rfl, hty, hrt, hv⟩ | ⟨rfl, rfl, hty⟩
  · exact W.zret B.exec B.bytes (hr.trans hty) hnar (fun t ht hW => ⟨rfl, by rw [ht]; exact hP1, hS1.F ht⟩) hS1.2.2 hd
  · exact W.aret (v := am_v (am_ad base aF aS) v) B.exec B.bytes (hr.trans hty) hrt (by rcases hv with rfl | ⟨a, rfl⟩; exact Or.inl rfl; exact Or.inr ⟨_, rfl⟩) (fun t ht hW => ⟨rfl, by rw [ht]; exact hP1, hS1.F ht⟩) hS1.2.2 hd
  · exact W.vret B.exec B.bytes (hr.trans hty) (fun t ht hW => ⟨rfl, by rw [ht]; exact hP1, hS1.F ht⟩) hS1.2.2 hd
end SIM
