/-! THE BRIDGE: a run of the abstract machine from the script is the law's walk. -/
theorem am_lstat : Cond.laysStatic "LoopTables" "FACTORIALS" "[I" ∈ lw_tbl := by decide +kernel
theorem am_init11 : Cond.initialized "LoopTables" ∈ lw_tbl := by decide +kernel
def am_h0 (L : Nat) (xs : Nat → Int32) : AH := [.inl (0, 7, .inl am_fc), .inl (0, L, .inl xs)]
set_option maxHeartbeats 2000000 in
theorem am_bridge {p : Program} {e : Env} {s : State} {m : MethodId} {below : List Frame} {meth : Method} {c : Code} (l : Launch) {b L : Nat} {xs : Nat → Int32} (C0 : lw_At p s m meth c b L xs) {f : Nat} {h' : AH}
    (hx : am_exec f 1000 294 0 (am_en [.ref 1] 4) [] (am_h0 L xs) = some (some (.int 1), h')) (hc : h'.length ≤ 600002) (hs : am_sz h' ≤ 7302250 + (7 + L)) :
    W p l e room_1 s m #[Value.ref b] below meth c s.heap [] 0 0 (lw_Z below #[Value.ref b] s) (entryFrame m ([Value.ref b] : List Value).toArray 4) := by
  obtain ⟨hxe, hb, hr, hml, hown, hts, hX, hbl, hlocks, hgv⟩ := C0
  have hflat := flat_of_before _ hgv
  -- the classes
  have hkn : ∀ c : Nat, c < 13 ∧ c ≠ 7 → ∃ (cC : ClassId) (iS : Nat → Nat), u_Kn s (am_C c) (am_T c) (am_N c) cC iS := fun c h => u_known hts (am_lay_ok c h.1) (hts _ (am_in_spec h).1)
  have hall : ∀ k : Nat, ∃ (cC : ClassId) (iS : Nat → Nat), ∀ q : vw_C, am_vl[k]? = some q → u_Kn s q.1 q.2.1 q.2.2 cC iS := by
    intro k
    by_cases h7 : k = 7
    · obtain ⟨cC, iS, h⟩ := hkn 10 (by decide)
      refine ⟨cC, iS, fun q hq => ?_⟩
      subst h7
      have : am_vl[7]? = some (am_vc 10) := rfl
      rw [this] at hq
      cases hq
      exact h
    · by_cases hk : k < 13
      · obtain ⟨cC, iS, h⟩ := hkn k ⟨hk, h7⟩
        refine ⟨cC, iS, fun q hq => ?_⟩
        rw [am_vl_at ⟨hk, h7⟩] at hq
        cases hq
        exact h
      · refine ⟨0, fun _ => 0, fun q hq => ?_⟩
        have : k < am_vl.length := (List.getElem?_eq_some_iff.mp hq).1
        exact absurd this (by simp [am_vl]; omega)
  let dC : Nat → ClassId := fun k => (hall k).choose
  let dI : Nat → Nat → Nat := fun k => (hall k).choose_spec.choose
  have hcls : ∀ (k : Nat) (q : vw_C), am_vl[k]? = some q → u_Kn s q.1 q.2.1 q.2.2 (dC k) (dI k) := fun k q hq => (hall k).choose_spec.choose_spec q hq
  -- the arrays' classes
  obtain ⟨cI, kI, pI, i1, i2, i3⟩ := Cond.arrayClass_spec (show (Cond.arrayClass .int).holds #[Value.ref b] s none s [] = true from hts _ am_misc_ok.1.1)
  obtain ⟨cB, kB, pB, b1, b2, b3⟩ := Cond.arrayClass_spec (show (Cond.arrayClass .byte).holds #[Value.ref b] s none s [] = true from hts _ am_misc_ok.1.2)
  obtain ⟨cZ, kZ, pZ, z1, z2, z3⟩ := Cond.arrayClass_spec (show (Cond.arrayClass .boolean).holds #[Value.ref b] s none s [] = true from hts _ am_misc_ok.2.1.1)
  obtain ⟨cJ, kJ, pJ, j1, j2, j3⟩ := Cond.arrayClass_spec (show (Cond.arrayClass .long).holds #[Value.ref b] s none s [] = true from hts _ am_misc_ok.2.1.2)
  obtain ⟨pL, cL, kL, l1, -, l2, l3, l4⟩ := Cond.arrayOver_spec (show (Cond.arrayOver (.object (am_C 3))).holds #[Value.ref b] s none s [] = true from hts _ am_misc_ok.2.2.1.1)
  obtain ⟨pS, cS, kS, s1, -, s2, s3, s4⟩ := Cond.arrayOver_spec (show (Cond.arrayOver (.object (am_C 9))).holds #[Value.ref b] s none s [] = true from hts _ am_misc_ok.2.2.1.2)
  obtain ⟨pT, cT, kT, t1, -, t2, t3, t4⟩ := Cond.arrayOver_spec (show (Cond.arrayOver (.object (am_C 10))).holds #[Value.ref b] s none s [] = true from hts _ am_misc_ok.2.2.2.1.1)
  let dA : Nat → ClassId := fun t => if t = 0 then cI else if t = 1 then cB else if t = 2 then cZ else if t = 3 then cJ else if t = 7 then cL else if t = 13 then cS else cT
  have hK : va_K (dC, dI) am_vl (am_tys dA) s := by
    refine ⟨hcls, fun k q hq => ?_⟩
    match k, hq with
    | 0, hq => cases hq; exact ⟨fun n z => ⟨fun k h => (by cases h), kI, i2, pI, i3⟩, i1⟩
    | 1, hq => cases hq; exact ⟨fun n z => ⟨fun k h => (by cases h), kB, b2, pB, b3⟩, b1⟩
    | 2, hq => cases hq; exact ⟨fun n z => ⟨fun k h => (by cases h), kZ, z2, pZ, z3⟩, z1⟩
    | 3, hq => cases hq; exact ⟨fun n z => ⟨fun k h => (by cases h), kJ, j2, pJ, j3⟩, j1⟩
    | 4, hq => cases hq; exact ⟨fun n z => ⟨fun k h => (by cases h), kL, l2, pL, l3⟩, kL, pL, l2, l3, l1, l4⟩
    | 5, hq => cases hq; exact ⟨fun n z => ⟨fun k h => (by cases h), kS, s2, pS, s3⟩, kS, pS, s2, s3, s1, s4⟩
    | 6, hq => cases hq; exact ⟨fun n z => ⟨fun k h => (by cases h), kT, t2, pT, t3⟩, kT, pT, t2, t3, t1, t4⟩
    | k + 7, hq => simp [am_tys] at hq
  -- the row of factorials
  have hold : ∀ a : Nat, a < s.heap.size → ¬ (fun q => s.heap.size ≤ q) a := fun a h => Nat.not_le.mpr h
  obtain ⟨aF, hF, hT⟩ := va_Tof (tm := .static "LoopTables" "FACTORIALS" "[I") (ty := .int) (N := 7) (f := fun j => .int (am_fc j)) (A := fun q => s.heap.size ≤ q) (by decide) (hflat _ (by decide +kernel)) (va_eqt (hflat (Cond.eq (.length (.static "LoopTables" "FACTORIALS" "[I")) (.int 7)) (by decide +kernel))) (fun j hj => by
    match j, hj with
    | 0, _ => exact va_eqt (hflat (Cond.eq (.elem (.static "LoopTables" "FACTORIALS" "[I") (.int 0)) (.int 1)) (by decide +kernel))
    | 1, _ => exact va_eqt (hflat (Cond.eq (.elem (.static "LoopTables" "FACTORIALS" "[I") (.int 1)) (.int 1)) (by decide +kernel))
    | 2, _ => exact va_eqt (hflat (Cond.eq (.elem (.static "LoopTables" "FACTORIALS" "[I") (.int 2)) (.int 2)) (by decide +kernel))
    | 3, _ => exact va_eqt (hflat (Cond.eq (.elem (.static "LoopTables" "FACTORIALS" "[I") (.int 3)) (.int 6)) (by decide +kernel))
    | 4, _ => exact va_eqt (hflat (Cond.eq (.elem (.static "LoopTables" "FACTORIALS" "[I") (.int 4)) (.int 24)) (by decide +kernel))
    | 5, _ => exact va_eqt (hflat (Cond.eq (.elem (.static "LoopTables" "FACTORIALS" "[I") (.int 5)) (.int 120)) (by decide +kernel))
    | 6, _ => exact va_eqt (hflat (Cond.eq (.elem (.static "LoopTables" "FACTORIALS" "[I") (.int 6)) (.int 720)) (by decide +kernel))
    | j + 7, h => omega) hold
  have hZ := va_Zof (A := fun q => s.heap.size ≤ q) (hts _ am_lstat) (hts _ am_init11) hF hold
  have hXT : va_T .int b L (fun j => .int (xs j)) (fun q => s.heap.size ≤ q) s s.heap := by
    obtain ⟨scr, h1, h2, h3, h4, h5⟩ := hX
    exact ⟨scr, h1, h2, h3, Nat.le_of_eq h4.symm, by rw [h4], h5, hold b hbl⟩
  have hWd : am_Wd s.heap.size aF b L xs dC dI dA s s.heap := ⟨hK, fun w hw hn => by
    have hz := hts w hw
    cases w <;> first | exact absurd hn Bool.false_ne_true | exact va_Nw.of rfl hz, ⟨va_AO.of (hts _ am_misc_ok.2.2.1.1), va_AO.of (hts _ am_misc_ok.2.2.1.2), va_AO.of (hts _ am_misc_ok.2.2.2.1.1)⟩, hZ, hT, hXT⟩
  have C : am_Cx s.heap.size aF b L xs dC dI dA p room_1 s m #[Value.ref b] meth c 294 := ⟨⟨hxe, hb, hml⟩, hown, fun w hw _ => hts w hw, hWd, fun q => absurd q (by decide), ⟨by decide, by decide⟩, Nat.le_refl _⟩
  have hP : am_Hp s.heap.size aF b L xs dC dI dA (am_h0 L xs) s.heap := ⟨fun k q h => by simp [am_w, am_h0] at h, rfl, Nat.le_refl 2, rfl, rfl⟩
  rw [lg_entry_eq]
  refine am_run_all f 1000 294 0 _ [] _ _ h' hx p e room_1 s m _ below meth c 2 (7 + L) _ C ⟨by decide, by decide⟩ ⟨by show _ ≤ 600000 + 2; omega, by show _ ≤ 7302250 + _; omega⟩ ?_ s.heap [] _ 0 0 rfl (by simp [am_h0, am_sz, am_z]) hP va_S.rf (am_en_has (as := [.ref 1]) (n := 4) rfl)
  intro H locs ls cells slots pc i e1 e2 hP1 hS1 hri hd
  rcases hri with ⟨rfl, v, ty, hv, hty, hnar⟩ | ⟨rfl, v, ty, hv, hty, hrt, hv2⟩ | ⟨rfl, hv, hty⟩
  · refine va_forget (fun q hq => hS1.2.2 q hq) ?_
    refine W.widen (k := 600000) (n := 7302250) (by omega) (by omega) ?_
    exact lw_ret hxe hb hr hlocks hd
  · have : ty = .boolean := Option.some.inj (hty.symm.trans (show am_r 294 = some .boolean from rfl))
    subst this
    rcases hrt with ⟨n, h⟩ | ⟨t, h⟩ <;> cases h
  · cases hv
