/-! EACH INSTRUCTION: what the abstract machine does, the machine does; printed by wip/whole/gen_sim.py. -/
def am_Cx (base aF aS L : Nat) (xs : Nat → Int32) (dC : Nat → ClassId) (dI : Nat → Nat → Nat) (dA : Nat → ClassId) (p : Program) (R : Room) (s : State) (m : MethodId) (args : Array Value) (meth : Method) (c : Code) (y : Nat) : Prop :=
  (p.tables.exec = Jvm.exec ∧ c.code = am_b y ∧ c.maxLocals = am_L y) ∧ s.vm.findClass (am_C (am_o y)) = some m.cls ∧ (∀ w ∈ lw_tbl, goodWord w = true → w.before args s = true) ∧ am_Wd base aF aS L xs dC dI dA s s.heap ∧ ((am_y y).name = "<init>" → meth.name = "<init>") ∧ (1 ≤ R.frames ∧ 64 ≤ R.locals) ∧ base ≤ s.heap.size
def am_K (base aF aS L : Nat) (xs : Nat → Int32) (dC : Nat → ClassId) (dI : Nat → Nat → Nat) (dA : Nat → ClassId) (p : Program) (l : Launch) (e : Env) (R : Room) (s : State) (m : MethodId) (args : Array Value) (below : List Frame) (meth : Method) (c : Code) (y n0 s0 : Nat) (Q : State → Prop) (pc : Nat) (al : AL) (st : List Value) (h : AH) : Prop :=
  ∀ (H : Heap) (locs : List Loc) (ls : Array Slot) (cells slots : Nat), cells + n0 = h.length → slots + s0 = am_sz h → am_Hp base aF aS L xs dC dI dA h H → va_S (fun q => base ≤ q) s.heap H locs → am_Ls (am_ad base aF aS) ls (am_L y) al → W p l e R s m args below meth c H locs cells slots Q (F0 m pc ls (st.map (am_v (am_ad base aF aS))))
theorem am_len {len k : Nat} {X : Option AR} {r : AR} (h : (if len = k then X else none) = some r) : len = k ∧ X = some r := by
  split at h
  · rename_i e
    exact ⟨e, h⟩
  · cases h
theorem am_nx_eq {pc pc' : Nat} {al al' : AL} {st st' : List Value} {h h' : AH} (e : am_nx pc al st h = some (.inl (pc', al', st', h'))) : pc = pc' ∧ al = al' ∧ st = st' ∧ h = h' := by
  simp only [am_nx, Option.some.injEq, Sum.inl.injEq, Prod.mk.injEq] at e
  exact e
section SIM
variable {base aF aS L : Nat} {xs : Nat → Int32} {dC : Nat → ClassId} {dI : Nat → Nat → Nat} {dA : Nat → ClassId} {p : Program} {l : Launch} {e : Env} {R : Room} {s : State} {m : MethodId} {args : Array Value} {below : List Frame} {meth : Method} {c : Code} {y n0 s0 : Nat} {Q : State → Prop}
variable {pc pc' : Nat} {al al' : AL} {st st' : List Value} {h h' : AH}
theorem as_nx {v : Value} {q : Nat} (row : ∀ (H : Heap) (locs : List Loc) (ls : Array Slot) (cells slots : Nat) (rest : List Value), W p l e R s m args below meth c H locs cells slots Q (F0 m q ls (am_v (am_ad base aF aS) v :: rest)) → W p l e R s m args below meth c H locs cells slots Q (F0 m pc ls rest)) (hs : am_nx q al (v :: st) h = some (.inl (pc', al', st', h'))) (kk : am_K base aF aS L xs dC dI dA p l e R s m args below meth c y n0 s0 Q pc' al' st' h') : am_K base aF aS L xs dC dI dA p l e R s m args below meth c y n0 s0 Q pc al st h := by
  obtain ⟨rfl, rfl, rfl, rfl⟩ := am_nx_eq hs
  intro H locs ls cells slots e1 e2 hP hS hl
  exact row _ _ _ _ _ _ (kk H locs ls cells slots e1 e2 hP hS hl)
theorem as_bi {f : Int32 → Int32 → Int32} (row : ∀ (H : Heap) (locs : List Loc) (ls : Array Slot) (cells slots : Nat) (x z : Int32) (rest : List Value), W p l e R s m args below meth c H locs cells slots Q (F0 m (pc + 1) ls (.int (f x z) :: rest)) → W p l e R s m args below meth c H locs cells slots Q (F0 m pc ls (.int z :: .int x :: rest))) (hs : am_bi f pc al st h = some (.inl (pc', al', st', h'))) (kk : am_K base aF aS L xs dC dI dA p l e R s m args below meth c y n0 s0 Q pc' al' st' h') : am_K base aF aS L xs dC dI dA p l e R s m args below meth c y n0 s0 Q pc al st h := by
  unfold am_bi at hs
  split at hs
  · obtain ⟨rfl, rfl, rfl, rfl⟩ := am_nx_eq hs
    intro H locs ls cells slots e1 e2 hP hS hl
    exact row _ _ _ _ _ _ _ _ (kk H locs ls cells slots e1 e2 hP hS hl)
  · cases hs
theorem as_bl {f : Int64 → Int64 → Int64} (row : ∀ (H : Heap) (locs : List Loc) (ls : Array Slot) (cells slots : Nat) (x z : Int64) (rest : List Value), W p l e R s m args below meth c H locs cells slots Q (F0 m (pc + 1) ls (.long (f x z) :: rest)) → W p l e R s m args below meth c H locs cells slots Q (F0 m pc ls (.long z :: .long x :: rest))) (hs : am_bl f pc al st h = some (.inl (pc', al', st', h'))) (kk : am_K base aF aS L xs dC dI dA p l e R s m args below meth c y n0 s0 Q pc' al' st' h') : am_K base aF aS L xs dC dI dA p l e R s m args below meth c y n0 s0 Q pc al st h := by
  unfold am_bl at hs
  split at hs
  · obtain ⟨rfl, rfl, rfl, rfl⟩ := am_nx_eq hs
    intro H locs ls cells slots e1 e2 hP hS hl
    exact row _ _ _ _ _ _ _ _ (kk H locs ls cells slots e1 e2 hP hS hl)
  · cases hs
theorem as_sh {f : Int64 → Int32 → Int64} (row : ∀ (H : Heap) (locs : List Loc) (ls : Array Slot) (cells slots : Nat) (x : Int64) (z : Int32) (rest : List Value), W p l e R s m args below meth c H locs cells slots Q (F0 m (pc + 1) ls (.long (f x z) :: rest)) → W p l e R s m args below meth c H locs cells slots Q (F0 m pc ls (.int z :: .long x :: rest))) (hs : am_sh f pc al st h = some (.inl (pc', al', st', h'))) (kk : am_K base aF aS L xs dC dI dA p l e R s m args below meth c y n0 s0 Q pc' al' st' h') : am_K base aF aS L xs dC dI dA p l e R s m args below meth c y n0 s0 Q pc al st h := by
  unfold am_sh at hs
  split at hs
  · obtain ⟨rfl, rfl, rfl, rfl⟩ := am_nx_eq hs
    intro H locs ls cells slots e1 e2 hP hS hl
    exact row _ _ _ _ _ _ _ _ (kk H locs ls cells slots e1 e2 hP hS hl)
  · cases hs
theorem as_il {k q : Nat} (row : ∀ (H : Heap) (locs : List Loc) (ls : Array Slot) (cells slots : Nat) (x : Int32) (rest : List Value), ls[k]? = some (.val (.int x)) → W p l e R s m args below meth c H locs cells slots Q (F0 m q ls (.int x :: rest)) → W p l e R s m args below meth c H locs cells slots Q (F0 m pc ls rest)) (hs : am_il k q al st h = some (.inl (pc', al', st', h'))) (kk : am_K base aF aS L xs dC dI dA p l e R s m args below meth c y n0 s0 Q pc' al' st' h') : am_K base aF aS L xs dC dI dA p l e R s m args below meth c y n0 s0 Q pc al st h := by
  unfold am_il at hs
  split at hs
  · rename_i x hx
    obtain ⟨rfl, rfl, rfl, rfl⟩ := am_nx_eq hs
    intro H locs ls cells slots e1 e2 hP hS hl
    exact row _ _ _ _ _ _ _ (hl.2.2.2 k _ hx) (kk H locs ls cells slots e1 e2 hP hS hl)
  · cases hs
theorem as_ll {k q : Nat} (row : ∀ (H : Heap) (locs : List Loc) (ls : Array Slot) (cells slots : Nat) (x : Int64) (rest : List Value), ls[k]? = some (.val (.long x)) → W p l e R s m args below meth c H locs cells slots Q (F0 m q ls (.long x :: rest)) → W p l e R s m args below meth c H locs cells slots Q (F0 m pc ls rest)) (hs : am_ll k q al st h = some (.inl (pc', al', st', h'))) (kk : am_K base aF aS L xs dC dI dA p l e R s m args below meth c y n0 s0 Q pc' al' st' h') : am_K base aF aS L xs dC dI dA p l e R s m args below meth c y n0 s0 Q pc al st h := by
  unfold am_ll at hs
  split at hs
  · rename_i x hx
    obtain ⟨rfl, rfl, rfl, rfl⟩ := am_nx_eq hs
    intro H locs ls cells slots e1 e2 hP hS hl
    exact row _ _ _ _ _ _ _ (hl.2.2.2 k _ hx) (kk H locs ls cells slots e1 e2 hP hS hl)
  · cases hs
theorem as_al {k q : Nat} (row : ∀ (H : Heap) (locs : List Loc) (ls : Array Slot) (cells slots : Nat) (x : Nat) (rest : List Value), ls[k]? = some (.val (.ref x)) → W p l e R s m args below meth c H locs cells slots Q (F0 m q ls (.ref x :: rest)) → W p l e R s m args below meth c H locs cells slots Q (F0 m pc ls rest)) (rowN : ∀ (H : Heap) (locs : List Loc) (ls : Array Slot) (cells slots : Nat) (rest : List Value), ls[k]? = some (.val .null) → W p l e R s m args below meth c H locs cells slots Q (F0 m q ls (.null :: rest)) → W p l e R s m args below meth c H locs cells slots Q (F0 m pc ls rest)) (hs : am_al k q al st h = some (.inl (pc', al', st', h'))) (kk : am_K base aF aS L xs dC dI dA p l e R s m args below meth c y n0 s0 Q pc' al' st' h') : am_K base aF aS L xs dC dI dA p l e R s m args below meth c y n0 s0 Q pc al st h := by
  unfold am_al at hs
  split at hs
  · rename_i x hx
    obtain ⟨rfl, rfl, rfl, rfl⟩ := am_nx_eq hs
    intro H locs ls cells slots e1 e2 hP hS hl
    exact row _ _ _ _ _ _ _ (hl.2.2.2 k _ hx) (kk H locs ls cells slots e1 e2 hP hS hl)
  · rename_i hx
    obtain ⟨rfl, rfl, rfl, rfl⟩ := am_nx_eq hs
    intro H locs ls cells slots e1 e2 hP hS hl
    exact rowN _ _ _ _ _ _ (hl.2.2.2 k _ hx) (kk H locs ls cells slots e1 e2 hP hS hl)
  · cases hs
theorem as_is {k q : Nat} (row : ∀ (H : Heap) (locs : List Loc) (ls : Array Slot) (cells slots : Nat) (x : Int32) (rest : List Value) (lv : List (Nat × Value)), lv_has ls (am_L y) lv → k < am_L y → (∀ ls1 : Array Slot, lv_has ls1 (am_L y) ((k, Value.int x) :: lv.filter (fun q => !(q.1 == k) && !(q.1 + 1 == k && q.2.category == 2))) → W p l e R s m args below meth c H locs cells slots Q (F0 m q ls1 rest)) → W p l e R s m args below meth c H locs cells slots Q (F0 m pc ls (Value.int x :: rest))) (hs : am_is k q al st h = some (.inl (pc', al', st', h'))) (kk : am_K base aF aS L xs dC dI dA p l e R s m args below meth c y n0 s0 Q pc' al' st' h') : am_K base aF aS L xs dC dI dA p l e R s m args below meth c y n0 s0 Q pc al st h := by
  unfold am_is at hs
  split at hs
  · split at hs
    · rename_i hc
      obtain ⟨rfl, rfl, rfl, rfl⟩ := am_nx_eq hs
      intro H locs ls cells slots e1 e2 hP hS hl
      exact row _ _ _ _ _ _ _ _ hl.has (Nat.lt_of_lt_of_le (am_cs_lt hc) hl.2.2.1) (fun ls1 h1 => kk H locs ls1 cells slots e1 e2 hP hS (hl.store hc h1))
    · cases hs
  · cases hs
theorem as_as {k q : Nat} (row : ∀ (H : Heap) (locs : List Loc) (ls : Array Slot) (cells slots : Nat) (x : Nat) (rest : List Value) (lv : List (Nat × Value)), lv_has ls (am_L y) lv → k < am_L y → (∀ ls1 : Array Slot, lv_has ls1 (am_L y) ((k, Value.ref x) :: lv.filter (fun q => !(q.1 == k) && !(q.1 + 1 == k && q.2.category == 2))) → W p l e R s m args below meth c H locs cells slots Q (F0 m q ls1 rest)) → W p l e R s m args below meth c H locs cells slots Q (F0 m pc ls (Value.ref x :: rest))) (rowN : ∀ (H : Heap) (locs : List Loc) (ls : Array Slot) (cells slots : Nat)  (rest : List Value) (lv : List (Nat × Value)), lv_has ls (am_L y) lv → k < am_L y → (∀ ls1 : Array Slot, lv_has ls1 (am_L y) ((k, Value.null) :: lv.filter (fun q => !(q.1 == k) && !(q.1 + 1 == k && q.2.category == 2))) → W p l e R s m args below meth c H locs cells slots Q (F0 m q ls1 rest)) → W p l e R s m args below meth c H locs cells slots Q (F0 m pc ls (Value.null :: rest))) (hs : am_as k q al st h = some (.inl (pc', al', st', h'))) (kk : am_K base aF aS L xs dC dI dA p l e R s m args below meth c y n0 s0 Q pc' al' st' h') : am_K base aF aS L xs dC dI dA p l e R s m args below meth c y n0 s0 Q pc al st h := by
  unfold am_as at hs
  split at hs
  · split at hs
    · rename_i hc
      obtain ⟨rfl, rfl, rfl, rfl⟩ := am_nx_eq hs
      intro H locs ls cells slots e1 e2 hP hS hl
      exact row _ _ _ _ _ _ _ _ hl.has (Nat.lt_of_lt_of_le (am_cs_lt hc) hl.2.2.1) (fun ls1 h1 => kk H locs ls1 cells slots e1 e2 hP hS (hl.store (v := .ref _) hc h1))
    · cases hs
  · split at hs
    · rename_i hc
      obtain ⟨rfl, rfl, rfl, rfl⟩ := am_nx_eq hs
      intro H locs ls cells slots e1 e2 hP hS hl
      exact rowN _ _ _ _ _ _ _ hl.has (Nat.lt_of_lt_of_le (am_cs_lt hc) hl.2.2.1) (fun ls1 h1 => kk H locs ls1 cells slots e1 e2 hP hS (hl.store (v := .null) hc h1))
    · cases hs
  · cases hs
theorem as_ic {k : Nat} {n : Int} (C : am_Cx base aF aS L xs dC dI dA p R s m args meth c y) (hd : decode (am_b y) pc = .ok (.iinc k n, 3)) (hs : am_ic k n pc al st h = some (.inl (pc', al', st', h'))) (kk : am_K base aF aS L xs dC dI dA p l e R s m args below meth c y n0 s0 Q pc' al' st' h') : am_K base aF aS L xs dC dI dA p l e R s m args below meth c y n0 s0 Q pc al st h := by
  unfold am_ic at hs
  split at hs
  · rename_i x hx
    split at hs
    · rename_i hc
      obtain ⟨rfl, rfl, rfl, rfl⟩ := am_nx_eq hs
      intro H locs ls cells slots e1 e2 hP hS hl
      obtain ⟨j, hj⟩ := List.getElem?_of_mem (am_lv_mem (ad := (am_ad base aF aS)).mpr ⟨_, hx, rfl⟩)
      exact lv_iinc C.1.1 C.1.2.1 hd hl.has hj rfl (Nat.lt_of_lt_of_le (am_cs_lt hc) hl.2.2.1) rfl (fun ls1 h1 => kk H locs ls1 cells slots e1 e2 hP hS (hl.store (v := .int _) hc h1))
    · cases hs
  · cases hs
theorem as_jp {off : Int} {r : List Value} (hs : am_jp pc off al r h = some (.inl (pc', al', st', h'))) (kk : am_K base aF aS L xs dC dI dA p l e R s m args below meth c y n0 s0 Q pc' al' st' h') : ∃ t : Nat, (pc : Int) + off = (t : Int) ∧ am_K base aF aS L xs dC dI dA p l e R s m args below meth c y n0 s0 Q t al r h := by
  unfold am_jp at hs
  cases ht : am_tg pc off with
  | none => rw [ht] at hs; cases hs
  | some t =>
    rw [ht] at hs
    obtain ⟨rfl, rfl, rfl, rfl⟩ := am_nx_eq hs
    exact ⟨_, am_tg_eq ht, kk⟩
theorem as_bind {α : Type} {X : Option α} {f : α → Option AR} {r : AR} (h : X.bind f = some r) : ∃ t, X = some t ∧ f t = some r := Option.bind_eq_some_iff.mp h
theorem as_if {cd : ClassFile.Cond} {off : Int} (C : am_Cx base aF aS L xs dC dI dA p R s m args meth c y) (hd : decode (am_b y) pc = .ok (.ifCond cd off, 3)) (hs : am_if cd off pc al st h = some (.inl (pc', al', st', h'))) (kk : am_K base aF aS L xs dC dI dA p l e R s m args below meth c y n0 s0 Q pc' al' st' h') : am_K base aF aS L xs dC dI dA p l e R s m args below meth c y n0 s0 Q pc al st h := by
  unfold am_if at hs
  split at hs
  · obtain ⟨t, htg, hs⟩ := as_bind hs
    have ht := am_tg_eq htg
    split at hs
    · rename_i hc
      obtain ⟨rfl, rfl, rfl, rfl⟩ := am_nx_eq hs
      intro H locs ls cells slots e1 e2 hP hS hl
      cases cd <;> (have hc := of_decide_eq_true hc)
      · exact lv_if_eq C.1.1 C.1.2.1 hd ht (fun _ => kk H locs ls cells slots e1 e2 hP hS hl) (fun q => absurd hc q)
      · exact lv_if_ne C.1.1 C.1.2.1 hd ht (fun _ => kk H locs ls cells slots e1 e2 hP hS hl) (fun q => absurd q hc)
      · exact lv_if_lt C.1.1 C.1.2.1 hd ht (fun _ => kk H locs ls cells slots e1 e2 hP hS hl) (fun q => absurd hc q)
      · exact lv_if_ge C.1.1 C.1.2.1 hd ht (fun _ => kk H locs ls cells slots e1 e2 hP hS hl) (fun q => absurd hc q)
      · exact lv_if_gt C.1.1 C.1.2.1 hd ht (fun _ => kk H locs ls cells slots e1 e2 hP hS hl) (fun q => absurd hc q)
      · exact lv_if_le C.1.1 C.1.2.1 hd ht (fun _ => kk H locs ls cells slots e1 e2 hP hS hl) (fun q => absurd hc q)
    · rename_i hc
      obtain ⟨rfl, rfl, rfl, rfl⟩ := am_nx_eq hs
      intro H locs ls cells slots e1 e2 hP hS hl
      cases cd <;> (have hc := fun q => hc (decide_eq_true q))
      · exact lv_if_eq C.1.1 C.1.2.1 hd ht (fun q => absurd q hc) (fun _ => kk H locs ls cells slots e1 e2 hP hS hl)
      · exact lv_if_ne C.1.1 C.1.2.1 hd ht (fun q => absurd q hc) (fun _ => kk H locs ls cells slots e1 e2 hP hS hl)
      · exact lv_if_lt C.1.1 C.1.2.1 hd ht (fun q => absurd q hc) (fun _ => kk H locs ls cells slots e1 e2 hP hS hl)
      · exact lv_if_ge C.1.1 C.1.2.1 hd ht (fun q => absurd q hc) (fun _ => kk H locs ls cells slots e1 e2 hP hS hl)
      · exact lv_if_gt C.1.1 C.1.2.1 hd ht (fun q => absurd q hc) (fun _ => kk H locs ls cells slots e1 e2 hP hS hl)
      · exact lv_if_le C.1.1 C.1.2.1 hd ht (fun q => absurd q hc) (fun _ => kk H locs ls cells slots e1 e2 hP hS hl)
  · cases hs
theorem as_ii {cd : ClassFile.Cond} {off : Int} (C : am_Cx base aF aS L xs dC dI dA p R s m args meth c y) (hd : decode (am_b y) pc = .ok (.if_icmp cd off, 3)) (hs : am_ii cd off pc al st h = some (.inl (pc', al', st', h'))) (kk : am_K base aF aS L xs dC dI dA p l e R s m args below meth c y n0 s0 Q pc' al' st' h') : am_K base aF aS L xs dC dI dA p l e R s m args below meth c y n0 s0 Q pc al st h := by
  unfold am_ii at hs
  split at hs
  · obtain ⟨t, htg, hs⟩ := as_bind hs
    have ht := am_tg_eq htg
    split at hs
    · rename_i hc
      obtain ⟨rfl, rfl, rfl, rfl⟩ := am_nx_eq hs
      intro H locs ls cells slots e1 e2 hP hS hl
      cases cd <;> (have hc := of_decide_eq_true hc)
      · exact lv_icmp_eq C.1.1 C.1.2.1 hd ht (fun _ => kk H locs ls cells slots e1 e2 hP hS hl) (fun q => absurd hc q)
      · exact lv_icmp_ne C.1.1 C.1.2.1 hd ht (fun _ => kk H locs ls cells slots e1 e2 hP hS hl) (fun q => absurd q hc)
      · exact lv_icmp_lt C.1.1 C.1.2.1 hd ht (fun _ => kk H locs ls cells slots e1 e2 hP hS hl) (fun q => absurd hc q)
      · exact lv_icmp_ge C.1.1 C.1.2.1 hd ht (fun _ => kk H locs ls cells slots e1 e2 hP hS hl) (fun q => absurd hc q)
      · exact lv_icmp_gt C.1.1 C.1.2.1 hd ht (fun _ => kk H locs ls cells slots e1 e2 hP hS hl) (fun q => absurd hc q)
      · exact lv_icmp_le C.1.1 C.1.2.1 hd ht (fun _ => kk H locs ls cells slots e1 e2 hP hS hl) (fun q => absurd hc q)
    · rename_i hc
      obtain ⟨rfl, rfl, rfl, rfl⟩ := am_nx_eq hs
      intro H locs ls cells slots e1 e2 hP hS hl
      cases cd <;> (have hc := fun q => hc (decide_eq_true q))
      · exact lv_icmp_eq C.1.1 C.1.2.1 hd ht (fun q => absurd q hc) (fun _ => kk H locs ls cells slots e1 e2 hP hS hl)
      · exact lv_icmp_ne C.1.1 C.1.2.1 hd ht (fun q => absurd q hc) (fun _ => kk H locs ls cells slots e1 e2 hP hS hl)
      · exact lv_icmp_lt C.1.1 C.1.2.1 hd ht (fun q => absurd q hc) (fun _ => kk H locs ls cells slots e1 e2 hP hS hl)
      · exact lv_icmp_ge C.1.1 C.1.2.1 hd ht (fun q => absurd q hc) (fun _ => kk H locs ls cells slots e1 e2 hP hS hl)
      · exact lv_icmp_gt C.1.1 C.1.2.1 hd ht (fun q => absurd q hc) (fun _ => kk H locs ls cells slots e1 e2 hP hS hl)
      · exact lv_icmp_le C.1.1 C.1.2.1 hd ht (fun q => absurd q hc) (fun _ => kk H locs ls cells slots e1 e2 hP hS hl)
  · cases hs
theorem as_ts {d lo hi : Int} {offs : Array Int} {len : Nat} (C : am_Cx base aF aS L xs dC dI dA p R s m args meth c y) (hd : decode (am_b y) pc = .ok (.tableswitch d lo hi offs, len)) (hs : am_ts d lo hi offs pc al st h = some (.inl (pc', al', st', h'))) (kk : am_K base aF aS L xs dC dI dA p l e R s m args below meth c y n0 s0 Q pc' al' st' h') : am_K base aF aS L xs dC dI dA p l e R s m args below meth c y n0 s0 Q pc al st h := by
  unfold am_ts at hs
  split at hs
  · split at hs
    · rename_i hc
      obtain ⟨t, ht, kj⟩ := as_jp hs kk
      intro H locs ls cells slots e1 e2 hP hS hl
      exact lv_tableOut C.1.1 C.1.2.1 hd hc ht (kj H locs ls cells slots e1 e2 hP hS hl)
    · rename_i hc
      obtain ⟨off, ho, hs⟩ := as_bind hs
      obtain ⟨t, ht, kj⟩ := as_jp hs kk
      intro H locs ls cells slots e1 e2 hP hS hl
      exact lv_tableIn C.1.1 C.1.2.1 hd (fun q => hc (Or.inl q)) (fun q => hc (Or.inr q)) ho ht (kj H locs ls cells slots e1 e2 hP hS hl)
  · cases hs
theorem as_lk {d : Int} {ps : Array (Int × Int)} {len : Nat} (C : am_Cx base aF aS L xs dC dI dA p R s m args meth c y) (hd : decode (am_b y) pc = .ok (.lookupswitch d ps, len)) (hs : am_ls d ps pc al st h = some (.inl (pc', al', st', h'))) (kk : am_K base aF aS L xs dC dI dA p l e R s m args below meth c y n0 s0 Q pc' al' st' h') : am_K base aF aS L xs dC dI dA p l e R s m args below meth c y n0 s0 Q pc al st h := by
  unfold am_ls at hs
  split at hs
  · split at hs
    · rename_i hc
      obtain ⟨t, ht, kj⟩ := as_jp hs kk
      intro H locs ls cells slots e1 e2 hP hS hl
      exact lv_lookup C.1.1 C.1.2.1 hd hc rfl ht (kj H locs ls cells slots e1 e2 hP hS hl)
    · cases hs
  · cases hs
end SIM
