/-! Instructions that make cells, stores of references, what is built in; printed by wip/whole/gen_simc.py. -/
section SIM
variable {base aF aS L : Nat} {xs : Nat → Int32} {dC : Nat → ClassId} {dI : Nat → Nat → Nat} {dA : Nat → ClassId} {p : Program} {l : Launch} {e : Env} {R : Room} {s : State} {m : MethodId} {args : Array Value} {below : List Frame} {meth : Method} {c : Code} {y n0 s0 : Nat} {Q : State → Prop}
variable {pc pc' : Nat} {al al' : AL} {st st' : List Value} {h h' : AH}
theorem am_push_cell {H H1 : Heap} {locs : List Loc} {c1 : AC} (hP : am_Hp base aF aS L xs dC dI dA h H) (hS : va_S (fun q => base ≤ q) s.heap H locs) (hat : va_at (dC, dI) am_vl (base + (h.length - 2), am_e (am_ad base aF aS) dA c1) H1) (z : H1.size = H.size + 1) (oq : ∀ q : Nat, q < H.size → H1[q]? = H[q]?) : am_Hp base aF aS L xs dC dI dA (h ++ [c1]) H1 ∧ va_S (fun q => base ≤ q) s.heap H1 locs := by
  obtain ⟨p1, p2, p3, p4, p5⟩ := hP
  have hk : ∀ (k : Nat) (x : Nat × va_E), (am_w (am_ad base aF aS) dA base h)[k]? = some x → H1[x.1]? = H[x.1]? := fun k x hx => oq x.1 ((p1 k x hx).lt)
  refine ⟨⟨?_, by rw [z, p2, List.length_append]; simp; omega, by rw [List.length_append]; omega, by rw [List.getElem?_append_left (by omega)]; exact p4, by rw [List.getElem?_append_left (by omega)]; exact p5⟩, ⟨Nat.le_trans hS.1 (by omega), fun x h1 h2 => (oq x (Nat.lt_of_lt_of_le h1 hS.1)).trans (hS.2.1 x h1 h2), hS.2.2⟩⟩
  rw [am_w_push p3]
  refine (p1.kept hk).app (fun k x hx => ?_)
  have hz : k < 1 := (List.getElem?_eq_some_iff.mp hx).1
  rw [show k = 0 by omega] at hx
  cases hx
  exact hat
theorem am_ad_len {H : Heap} (hP : am_Hp base aF aS L xs dC dI dA h H) : am_ad base aF aS h.length = base + (h.length - 2) := am_ad_ge hP.2.2.1
theorem am_df_at {ad : Nat → Nat} {c9 j : Nat} (hj : j < am_N c9) : defaultValue (am_ty c9 j) = vp_V ((am_df c9).map (am_v ad)) j := by
  unfold vp_V am_df
  rw [List.getD_eq_getElem?_getD, List.getElem?_map, List.getElem?_map, List.getElem?_range hj]
  show _ = am_v ad (defaultValue (am_ty c9 j))
  cases am_ty c9 j <;> rfl
theorem as_nw {i : Nat} (C : am_Cx base aF aS L xs dC dI dA p R s m args meth c y) (hd : decode (am_b y) pc = .ok (.new i, 3)) (hroom : h'.length ≤ R.cells + n0 ∧ am_sz h' ≤ R.slots + s0) (hs : am_nw (am_o y) i pc al st h = some (.inl (pc', al', st', h'))) (kk : am_K base aF aS L xs dC dI dA p l e R s m args below meth c y n0 s0 Q pc' al' st' h') : am_K base aF aS L xs dC dI dA p l e R s m args below meth c y n0 s0 Q pc al st h := by
  unfold am_nw at hs
  obtain ⟨c9, hf, hs⟩ := as_bind hs
  split at hs
  · rename_i hc
    obtain ⟨rfl, rfl, rfl, rfl⟩ := am_nx_eq hs
    intro H locs ls cells slots e1 e2 hP hS hl
    rw [List.length_append, am_sz_push] at hroom
    have hz : am_z (.inr (c9, am_df c9)) = am_N c9 := by simp [am_z, am_df]
    rw [hz] at hroom
    have hr1 : h.length + 1 ≤ R.cells + n0 := hroom.1
    have w3 := hc.1
    have hin := am_lay_gw w3
    have hKn := C.2.2.2.1.1.1 c9 _ (am_vl_at hc)
    obtain ⟨i1, i2⟩ := am_in_spec hc
    refine W.newcK C.1.1 C.1.2.1 C.2.1 (am_wd C (am_cl_spec hf) rfl) (am_wd C i1 rfl) (am_wd C i2 rfl) rfl hd (by omega) (by omega) hKn.2.1 hP.2.1 fun H1 kC hkC g1 g2 g3 => ?_
    obtain ⟨a1, a2⟩ := am_push_cell (c1 := .inr (c9, am_df c9)) hP hS ⟨_, am_vl_at hc, (u_born (am_ty c9) (am_hts C) hin hKn hkC g1 (am_ty_ok c9 w3)).to (fun j hj => am_df_at hj)⟩ (by rw [hP.2.1]; exact g2) (by rw [hP.2.1]; exact g3)
    have kx := kk H1 locs ls (cells + 1) (slots + am_N c9) (by rw [List.length_append]; simp; omega) (by rw [am_sz_push, hz]; omega) a1 a2 hl
    rw [List.map_cons, show am_v (am_ad base aF aS) (.ref h.length) = .ref (base + (h.length - 2)) by rw [← am_ad_len hP]; rfl] at kx
    exact kx
  · cases hs
theorem as_na {t : ArrayType} (C : am_Cx base aF aS L xs dC dI dA p R s m args meth c y) (hd : decode (am_b y) pc = .ok (.newarray t, 2)) (hroom : h'.length ≤ R.cells + n0 ∧ am_sz h' ≤ R.slots + s0) (hs : am_na t pc al st h = some (.inl (pc', al', st', h'))) (kk : am_K base aF aS L xs dC dI dA p l e R s m args below meth c y n0 s0 Q pc' al' st' h') : am_K base aF aS L xs dC dI dA p l e R s m args below meth c y n0 s0 Q pc al st h := by
  unfold am_na at hs
  split at hs
  · rename_i n r
    split at hs
    · cases hs
    · rename_i hn
      have hn0 : ¬ n < 0 := fun q => hn (Or.inl q)
      have hn1 : n.toNatClampNeg ≤ 100000 := Nat.not_lt.mp fun q => hn (Or.inr q)
      split at hs
      · obtain ⟨rfl, rfl, rfl, rfl⟩ := am_nx_eq hs
        intro H locs ls cells slots e1 e2 hP hS hl
        rw [List.length_append, am_sz_push] at hroom
        have hz : am_z (.inl (0, n.toNatClampNeg, .inl (fun _ => 0))) = n.toNatClampNeg := rfl
        rw [hz] at hroom
        have hr1 : h.length + 1 ≤ R.cells + n0 := hroom.1
        refine va_newaK C.1.1 C.1.2.1 (atype := .int) (am_wd C (am_misc_ok.1.1) rfl) rfl hd rfl hn0 rfl (by show n.toNatClampNeg * 4 ≤ _; omega) (by omega) (by omega) hP.2.1 fun H1 cA g1 g2 g3 g4 g5 => ?_
        have hcA : cA = dA 0 := Option.some.inj (g5.symm.trans (C.2.2.2.1.1.2 0 _ rfl).2)
        subst hcA
        obtain ⟨a1, a2⟩ := am_push_cell (c1 := .inl (0, n.toNatClampNeg, .inl (fun _ => 0))) hP hS (by exact g1) (by rw [hP.2.1]; exact g2) (by rw [hP.2.1]; exact g3)
        have kx := kk H1 locs ls (cells + 1) (slots + n.toNatClampNeg) (by rw [List.length_append]; simp; omega) (by rw [am_sz_push, hz]; omega) a1 a2 hl
        rw [List.map_cons, show am_v (am_ad base aF aS) (.ref h.length) = .ref (base + (h.length - 2)) by rw [← am_ad_len hP]; rfl] at kx
        exact kx
      · obtain ⟨rfl, rfl, rfl, rfl⟩ := am_nx_eq hs
        intro H locs ls cells slots e1 e2 hP hS hl
        rw [List.length_append, am_sz_push] at hroom
        have hz : am_z (.inl (1, n.toNatClampNeg, .inl (fun _ => 0))) = n.toNatClampNeg := rfl
        rw [hz] at hroom
        have hr1 : h.length + 1 ≤ R.cells + n0 := hroom.1
        refine va_newaK C.1.1 C.1.2.1 (atype := .byte) (am_wd C (am_misc_ok.1.2) rfl) rfl hd rfl hn0 rfl (by show n.toNatClampNeg * 1 ≤ _; omega) (by omega) (by omega) hP.2.1 fun H1 cA g1 g2 g3 g4 g5 => ?_
        have hcA : cA = dA 1 := Option.some.inj (g5.symm.trans (C.2.2.2.1.1.2 1 _ rfl).2)
        subst hcA
        obtain ⟨a1, a2⟩ := am_push_cell (c1 := .inl (1, n.toNatClampNeg, .inl (fun _ => 0))) hP hS (by exact g1) (by rw [hP.2.1]; exact g2) (by rw [hP.2.1]; exact g3)
        have kx := kk H1 locs ls (cells + 1) (slots + n.toNatClampNeg) (by rw [List.length_append]; simp; omega) (by rw [am_sz_push, hz]; omega) a1 a2 hl
        rw [List.map_cons, show am_v (am_ad base aF aS) (.ref h.length) = .ref (base + (h.length - 2)) by rw [← am_ad_len hP]; rfl] at kx
        exact kx
      · obtain ⟨rfl, rfl, rfl, rfl⟩ := am_nx_eq hs
        intro H locs ls cells slots e1 e2 hP hS hl
        rw [List.length_append, am_sz_push] at hroom
        have hz : am_z (.inl (2, n.toNatClampNeg, .inl (fun _ => 0))) = n.toNatClampNeg := rfl
        rw [hz] at hroom
        have hr1 : h.length + 1 ≤ R.cells + n0 := hroom.1
        refine va_newaK C.1.1 C.1.2.1 (atype := .boolean) (am_wd C (am_misc_ok.2.1.1) rfl) rfl hd rfl hn0 rfl (by show n.toNatClampNeg * 1 ≤ _; omega) (by omega) (by omega) hP.2.1 fun H1 cA g1 g2 g3 g4 g5 => ?_
        have hcA : cA = dA 2 := Option.some.inj (g5.symm.trans (C.2.2.2.1.1.2 2 _ rfl).2)
        subst hcA
        obtain ⟨a1, a2⟩ := am_push_cell (c1 := .inl (2, n.toNatClampNeg, .inl (fun _ => 0))) hP hS (by exact g1) (by rw [hP.2.1]; exact g2) (by rw [hP.2.1]; exact g3)
        have kx := kk H1 locs ls (cells + 1) (slots + n.toNatClampNeg) (by rw [List.length_append]; simp; omega) (by rw [am_sz_push, hz]; omega) a1 a2 hl
        rw [List.map_cons, show am_v (am_ad base aF aS) (.ref h.length) = .ref (base + (h.length - 2)) by rw [← am_ad_len hP]; rfl] at kx
        exact kx
      · obtain ⟨rfl, rfl, rfl, rfl⟩ := am_nx_eq hs
        intro H locs ls cells slots e1 e2 hP hS hl
        rw [List.length_append, am_sz_push] at hroom
        have hz : am_z (.inl (3, n.toNatClampNeg, .inr (.inl (fun _ => 0)))) = n.toNatClampNeg := rfl
        rw [hz] at hroom
        have hr1 : h.length + 1 ≤ R.cells + n0 := hroom.1
        refine va_newaK C.1.1 C.1.2.1 (atype := .long) (am_wd C (am_misc_ok.2.1.2) rfl) rfl hd rfl hn0 rfl (by show n.toNatClampNeg * 8 ≤ _; omega) (by omega) (by omega) hP.2.1 fun H1 cA g1 g2 g3 g4 g5 => ?_
        have hcA : cA = dA 3 := Option.some.inj (g5.symm.trans (C.2.2.2.1.1.2 3 _ rfl).2)
        subst hcA
        obtain ⟨a1, a2⟩ := am_push_cell (c1 := .inl (3, n.toNatClampNeg, .inr (.inl (fun _ => 0)))) hP hS (by exact g1) (by rw [hP.2.1]; exact g2) (by rw [hP.2.1]; exact g3)
        have kx := kk H1 locs ls (cells + 1) (slots + n.toNatClampNeg) (by rw [List.length_append]; simp; omega) (by rw [am_sz_push, hz]; omega) a1 a2 hl
        rw [List.map_cons, show am_v (am_ad base aF aS) (.ref h.length) = .ref (base + (h.length - 2)) by rw [← am_ad_len hP]; rfl] at kx
        exact kx
      · cases hs
  · cases hs
theorem as_nq {i : Nat} (C : am_Cx base aF aS L xs dC dI dA p R s m args meth c y) (hd : decode (am_b y) pc = .ok (.anewarray i, 3)) (hroom : h'.length ≤ R.cells + n0 ∧ am_sz h' ≤ R.slots + s0) (hs : am_nq (am_o y) i pc al st h = some (.inl (pc', al', st', h'))) (kk : am_K base aF aS L xs dC dI dA p l e R s m args below meth c y n0 s0 Q pc' al' st' h') : am_K base aF aS L xs dC dI dA p l e R s m args below meth c y n0 s0 Q pc al st h := by
  unfold am_nq at hs
  split at hs
  · rename_i n r
    split at hs
    · cases hs
    · rename_i hn
      have hn0 : ¬ n < 0 := fun q => hn (Or.inl q)
      have hn1 : n.toNatClampNeg ≤ 100000 := Nat.not_lt.mp fun q => hn (Or.inr q)
      obtain ⟨c9, hf, hs⟩ := as_bind hs
      split at hs
      · rename_i hc
        obtain ⟨rfl, rfl, rfl, rfl⟩ := am_nx_eq hs
        intro H locs ls cells slots e1 e2 hP hS hl
        rw [List.length_append, am_sz_push] at hroom
        have hz : am_z (.inl (4 + c9, n.toNatClampNeg, .inr (.inr (.inr (.inr (fun _ => none)))))) = n.toNatClampNeg := rfl
        rw [hz] at hroom
        have hr1 : h.length + 1 ≤ R.cells + n0 := hroom.1
        have hov : va_AO (am_C c9) s ∧ va_RA s (dA (4 + c9)) (.object (am_C c9)) := by
          rcases hc with rfl | rfl | rfl
          · exact ⟨C.2.2.2.1.2.2.1.1, (C.2.2.2.1.1.2 4 _ rfl).2⟩
          · exact ⟨C.2.2.2.1.2.2.1.2.1, (C.2.2.2.1.1.2 5 _ rfl).2⟩
          · exact ⟨C.2.2.2.1.2.2.1.2.2, (C.2.2.2.1.1.2 6 _ rfl).2⟩
        refine W.anew C.1.1 C.1.2.1 C.2.1 (am_wd C (am_cl_spec hf) rfl) (va_AO.use hov.1) rfl hd rfl hn0 (by omega) (by omega) (by omega) fun cA kA comp f1 f2 f3 f4 => ?_
        obtain ⟨_, _, -, -, -, hnm⟩ := hov.2
        have hcA : cA = dA (4 + c9) := Option.some.inj (f1.symm.trans hnm)
        subst hcA
        generalize hH1 : H.push ({ cls := dA (4 + c9), slots := Array.replicate n.toNatClampNeg .null, vm := .none } : Cell) = H1
        have z1 : H1.size = H.size + 1 := by rw [← hH1, Array.size_push]
        have g1 : H1[H.size]? = some (arrV (dA (4 + c9)) n.toNatClampNeg (fun _ => .null)) := by rw [← hH1, Array.getElem?_push_size, ← arrV_new]
        have o1 : ∀ q : Nat, q < H.size → H1[q]? = H[q]? := fun q hq => by rw [← hH1, Array.getElem?_push, if_neg (Nat.ne_of_lt hq)]
        obtain ⟨a1, a2⟩ := am_push_cell (c1 := .inl (4 + c9, n.toNatClampNeg, .inr (.inr (.inr (.inr (fun _ => none)))))) hP hS (by rw [hP.2.1] at g1; exact g1) z1 o1
        have kx := kk H1 locs ls (cells + 1) (slots + n.toNatClampNeg) (by rw [List.length_append]; simp; omega) (by rw [am_sz_push, hz]; omega) a1 a2 hl
        rw [List.map_cons, show am_v (am_ad base aF aS) (.ref h.length) = .ref H.size by rw [hP.2.1, ← am_ad_len hP]; rfl] at kx
        exact kx
      · cases hs
  · cases hs
theorem as_le (C : am_Cx base aF aS L xs dC dI dA p R s m args meth c y) (hd : decode (am_b y) pc = .ok (.arraylength, 1)) (hs : am_le pc al st h = some (.inl (pc', al', st', h'))) (kk : am_K base aF aS L xs dC dI dA p l e R s m args below meth c y n0 s0 Q pc' al' st' h') : am_K base aF aS L xs dC dI dA p l e R s m args below meth c y n0 s0 Q pc al st h := by
  unfold am_le at hs
  split at hs
  · rename_i a r
    split at hs
    · rename_i t n x ha
      split at hs
      · rename_i hc
        obtain ⟨hc1, hc2⟩ := hc
        obtain ⟨rfl, rfl, rfl, rfl⟩ := am_nx_eq hs
        intro H locs ls cells slots e1 e2 hP hS hl
        show W _ _ _ _ _ _ _ _ _ _ _ _ _ _ _ (F0 m pc ls (.ref (am_ad base aF aS a) :: r.map (am_v (am_ad base aF aS))))
        by_cases h1 : a = 1
        · subst h1
          rw [hP.2.2.2.2] at ha
          cases ha
          obtain ⟨cell, q1, q2, q3, q4, q5, q6, q7⟩ := C.2.2.2.1.2.2.2.2.2
          exact W.alen (n := Int32.ofNat L) C.1.1 C.1.2.1 (by show H[aS]? = some cell; rw [hS.2.1 _ (Array.getElem?_eq_some_iff.mp q1).1 q7]; exact q1) q2 q5 rfl rfl hd (kk H locs ls cells slots e1 e2 hP hS hl)
        · have h2 : 2 ≤ a := am_two (fun q => by rw [q] at hc1; exact absurd hc1 (by decide)) h1
          rw [am_ad_ge h2]
          have hti : ∃ (t0 : Nat) (ty : FieldType), (am_tys dA)[t0]? = some (dA t, ty) := by
            unfold am_tix at hc2
            split at hc2
            · rename_i e; subst e; exact ⟨0, _, rfl⟩
            · split at hc2
              · rename_i e; subst e; exact ⟨1, _, rfl⟩
              · split at hc2
                · rename_i e; subst e; exact ⟨2, _, rfl⟩
                · split at hc2
                  · rename_i e; subst e; exact ⟨3, _, rfl⟩
                  · split at hc2
                    · rename_i e; subst e; exact ⟨4, _, rfl⟩
                    · split at hc2
                      · rename_i e; subst e; exact ⟨5, _, rfl⟩
                      · split at hc2
                        · rename_i e; subst e; exact ⟨6, _, rfl⟩
                        · exact absurd hc2 (by decide)
          obtain ⟨t0, ty, ht⟩ := hti
          exact va_alen C.1.1 C.1.2.1 C.2.2.2.1.1 hP.1 (a - 2) t0 (am_w_at h2 ha) ht rfl hd (kk H locs ls cells slots e1 e2 hP hS hl)
      · cases hs
    · cases hs
  · cases hs
theorem as_aS (C : am_Cx base aF aS L xs dC dI dA p R s m args meth c y) (hd : decode (am_b y) pc = .ok (.aastore, 1)) (hs : am_aS pc al st h = some (.inl (pc', al', st', h'))) (kk : am_K base aF aS L xs dC dI dA p l e R s m args below meth c y n0 s0 Q pc' al' st' h') : am_K base aF aS L xs dC dI dA p l e R s m args below meth c y n0 s0 Q pc al st h := by
  unfold am_aS at hs
  split at hs
  · rename_i v i a r
    split at hs
    · rename_i t n f c9 vs ha hv
      split at hs
      · rename_i hc
        obtain ⟨h2, h3, ht, ht2, hc⟩ := hc
        have hin := am_in_iff hc
        obtain ⟨rfl, rfl, rfl, rfl⟩ := am_nx_eq hs
        intro H locs ls cells slots e1 e2 hP hS hl
        show W _ _ _ _ _ _ _ _ _ _ _ _ _ _ _ (F0 m pc ls (.ref (am_ad base aF aS v) :: .int i :: .ref (am_ad base aF aS a) :: r.map (am_v (am_ad base aF aS))))
        rw [am_ad_ge h2, am_ad_ge h3]
        have hlt : i.toNatClampNeg < n := Nat.not_le.mp fun q => hin (Or.inr q)
        have h0 : ¬ i < 0 := fun q => hin (Or.inl q)
        have hc13 : c9 < 13 := by omega
        have hRA : va_RA s (dA t) (.object (am_C c9)) := by
          rcases ht2 with e | e | e
          · have : c9 = 3 := by omega
            subst this; subst e
            exact (C.2.2.2.1.1.2 4 _ rfl).2
          · have : c9 = 9 := by omega
            subst this; subst e
            exact (C.2.2.2.1.1.2 5 _ rfl).2
          · have : c9 = 10 := by omega
            subst this; subst e
            exact (C.2.2.2.1.1.2 6 _ rfl).2
        obtain ⟨r9, hr9, cellV, g1, g2, g3, -⟩ := hP.1 (v - 2) _ (am_w_at h3 hv)
        have hcls := (C.2.2.2.1.1.1 c9 _ (am_vl_at ⟨hc13, by omega⟩)).2
        obtain ⟨kA, comp, k1, k2, k3, -⟩ := hRA
        have hcomp : comp = dC c9 := Option.some.inj (k3.symm.trans hcls.1)
        subst hcomp
        obtain ⟨kC, hkC, -⟩ := hcls.2
        refine W.aast C.1.1 C.1.2.1 (hP.1 (a - 2) _ (am_w_at h2 ha)) (fun q h => by cases h) (fun h => by cases h) k1 k2 rfl hkC ⟨h0, by show _ < (arrV _ _ (fun j => va_rf ((f j).map (am_ad base aF aS)))).slots.size; rw [arrV_size]; exact hlt⟩ g1 (fun q h => by rw [g3] at h; cases h) (by rw [g2]; exact hkC) (by rw [g2]; exact va_assign hcls) rfl rfl hd fun H1 j1 j2 j3 => ?_
        obtain ⟨a1, a2⟩ := am_put_cell (k := i.toNatClampNeg) (c1 := .inl (t, n, .inr (.inr (.inr (.inr (va_up f i.toNatClampNeg (some v))))))) hP hS h2 ha (by
          show H1[base + (a - 2)]? = some (vp_cell _ _)
          rw [j1]
          show some ((arrV (dA t) n (fun j => va_rf ((f j).map (am_ad base aF aS)))).setSlot _ _) = some (arrV (dA t) n (fun j => va_rf ((va_up f i.toNatClampNeg (some v) j).map (am_ad base aF aS))))
          rw [arrV_store]
          congr 2
          funext q
          by_cases hq : q = i.toNatClampNeg
          · subst hq
            simp [updV, va_up, va_rf, am_ad_ge h3]
          · simp [updV, va_up, hq]) j2 j3
        exact kk H1 _ ls cells slots (by rw [List.length_set]; exact e1) (by rw [am_sz_set (c1 := .inl (t, n, .inr (.inr (.inr (.inr (va_up f i.toNatClampNeg (some v))))))) ha rfl]; exact e2) a1 a2 hl
      · cases hs
    · cases hs
  · rename_i i a r
    split at hs
    · rename_i t n f ha
      split at hs
      · rename_i hc
        obtain ⟨h2, ht, hc⟩ := hc
        have hin := am_in_iff hc
        obtain ⟨rfl, rfl, rfl, rfl⟩ := am_nx_eq hs
        intro H locs ls cells slots e1 e2 hP hS hl
        show W _ _ _ _ _ _ _ _ _ _ _ _ _ _ _ (F0 m pc ls (.null :: .int i :: .ref (am_ad base aF aS a) :: r.map (am_v (am_ad base aF aS))))
        rw [am_ad_ge h2]
        have hti : ∃ (Cn : String), ArrOfT s (dA t) (.object Cn) := by
          rcases ht with rfl | rfl | rfl
          · exact ⟨_, (C.2.2.2.1.1.2 4 _ rfl).1⟩
          · exact ⟨_, (C.2.2.2.1.1.2 5 _ rfl).1⟩
          · exact ⟨_, (C.2.2.2.1.1.2 6 _ rfl).1⟩
        obtain ⟨Cn, hAr⟩ := hti
        refine va_WaastN (C := Cn) C.1.1 C.1.2.1 (hP.1 (a - 2) _ (am_w_at h2 ha)) (hAr n (fun j => va_rf ((f j).map (am_ad base aF aS)))) (fun h => by cases h) (by show ¬ (i < 0 ∨ (arrV _ _ _).slots.size ≤ _); rw [arrV_size]; exact hin) rfl rfl hd fun H1 j1 j2 j3 => ?_
        obtain ⟨a1, a2⟩ := am_put_cell (k := i.toNatClampNeg) (c1 := .inl (t, n, .inr (.inr (.inr (.inr (va_up f i.toNatClampNeg none)))))) hP hS h2 ha (by
          show H1[base + (a - 2)]? = some (vp_cell _ _)
          rw [j1]
          show some ((arrV (dA t) n (fun j => va_rf ((f j).map (am_ad base aF aS)))).setSlot _ _) = some (arrV (dA t) n (fun j => va_rf ((va_up f i.toNatClampNeg none j).map (am_ad base aF aS))))
          rw [arrV_store]
          congr 2
          funext q
          by_cases hq : q = i.toNatClampNeg
          · subst hq
            simp [updV, va_up, va_rf]
          · simp [updV, va_up, hq]) j2 j3
        exact kk H1 _ ls cells slots (by rw [List.length_set]; exact e1) (by rw [am_sz_set (c1 := .inl (t, n, .inr (.inr (.inr (.inr (va_up f i.toNatClampNeg none)))))) ha rfl]; exact e2) a1 a2 hl
      · cases hs
    · cases hs
  · cases hs
end SIM
