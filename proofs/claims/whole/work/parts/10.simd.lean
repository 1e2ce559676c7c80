/-! What is built in (Object(), max, min, arraycopy), and the step; printed by wip/whole/gen_simd.py. -/
theorem am_ml_spec {o i k z : Nat} (h : am_ml o i = some (k, z)) : ∃ ps : List Nat, am_mlP (o, i, k, z, ps) := by
  unfold am_ml at h
  obtain ⟨e, he, hc⟩ := Option.map_eq_some_iff.mp h
  have h1 := am_mls_ok e (List.mem_of_find?_eq_some he)
  have h2 := List.find?_some he
  simp only [Bool.and_eq_true, beq_iff_eq] at h2
  cases hc
  obtain ⟨rfl, rfl⟩ := h2
  exact ⟨e.2.2.2.2, h1⟩
theorem am_cat_map {ad : Nat → Nat} {st : List Value} : ((st.map (am_v ad)).map fun v => v.category).sum = (st.map fun v => v.category).sum := by
  rw [List.map_map]
  congr 1
  apply List.map_congr_left
  intro v _
  exact am_v_cat ad v
theorem am_ok8_le {ad : Nat → Nat} {st : List Value} (h : am_ok8 st = true) : ((st.map (am_v ad)).map fun v => v.category).sum ≤ 8 := by
  rw [am_cat_map]
  exact of_decide_eq_true h
section SIM
variable {base aF aS L : Nat} {xs : Nat → Int32} {dC : Nat → ClassId} {dI : Nat → Nat → Nat} {dA : Nat → ClassId} {p : Program} {l : Launch} {e : Env} {R : Room} {s : State} {m : MethodId} {args : Array Value} {below : List Frame} {meth : Method} {c : Code} {y n0 s0 : Nat} {Q : State → Prop}
variable {pc pc' : Nat} {al al' : AL} {st st' : List Value} {h h' : AH}
theorem as_oi {i : Nat} (C : am_Cx base aF aS L xs dC dI dA p R s m args meth c y) (hd : decode (am_b y) pc = .ok (.invokespecial i, 3)) (hm : Cond.methodLink (am_C (am_o y)) i objectInit ∈ lw_tbl) {r : List Value} {a : Nat} (h8 : am_ok8 r = true) (kk : am_K base aF aS L xs dC dI dA p l e R s m args below meth c y n0 s0 Q (pc + 3) al r h) : am_K base aF aS L xs dC dI dA p l e R s m args below meth c y n0 s0 Q pc al (.ref a :: r) h := by
  intro H locs ls cells slots e1 e2 hP hS hl
  have h8 := am_ok8_le (ad := (am_ad base aF aS)) h8
  exact W.objInit C.1.1 C.1.2.1 C.2.1 (am_wd C hm rfl) (am_wd C am_misc_ok.2.2.2.2.2.1.1 rfl) (am_wd C am_misc_ok.2.2.2.2.2.1.2 rfl) rfl (by rw [C.1.2.2]; exact hl.1) rfl hd C.2.2.2.2.2.1.1 (by show 2 * 0 + _ + 12 ≤ _; have := C.2.2.2.2.2.1.2; omega) (kk H locs ls cells slots e1 e2 hP hS hl)
theorem as_max {i : Nat} (C : am_Cx base aF aS L xs dC dI dA p R s m args meth c y) (hd : decode (am_b y) pc = .ok (.invokestatic i, 3)) (hm : Cond.methodLink (am_C (am_o y)) i Lib.Math.max.name ∈ lw_tbl) {r : List Value} {x z : Int32} (h8 : am_ok8 r = true) (hroom : h.length ≤ R.cells + n0 ∧ am_sz h ≤ R.slots + s0) (kk : am_K base aF aS L xs dC dI dA p l e R s m args below meth c y n0 s0 Q (pc + 3) al (.int (if x < z then z else x) :: r) h) : am_K base aF aS L xs dC dI dA p l e R s m args below meth c y n0 s0 Q pc al (.int z :: .int x :: r) h := by
  intro H locs ls cells slots e1 e2 hP hS hl
  have h8 := am_ok8_le (ad := (am_ad base aF aS)) h8
  exact va_mmax C.1.1 C.1.2.1 (by rw [C.1.2.2]; exact hl.1.symm) C.2.1 (am_wd C hm rfl) (am_wd C am_misc_ok.2.2.2.2.2.2.1.1 rfl) (am_wd C am_misc_ok.2.2.2.2.2.2.2.2 rfl) (am_wd C am_misc_ok.2.2.2.2.2.2.2.1.1 rfl) C.2.2.2.2.2.1.1 (by have := C.2.2.2.2.2.1.2; omega) (by omega) (by omega) hd (kk H locs ls cells slots e1 e2 hP hS hl)
theorem as_min {i : Nat} (C : am_Cx base aF aS L xs dC dI dA p R s m args meth c y) (hd : decode (am_b y) pc = .ok (.invokestatic i, 3)) (hm : Cond.methodLink (am_C (am_o y)) i Lib.Math.min.name ∈ lw_tbl) {r : List Value} {x z : Int32} (h8 : am_ok8 r = true) (hroom : h.length ≤ R.cells + n0 ∧ am_sz h ≤ R.slots + s0) (kk : am_K base aF aS L xs dC dI dA p l e R s m args below meth c y n0 s0 Q (pc + 3) al (.int (if z < x then z else x) :: r) h) : am_K base aF aS L xs dC dI dA p l e R s m args below meth c y n0 s0 Q pc al (.int z :: .int x :: r) h := by
  intro H locs ls cells slots e1 e2 hP hS hl
  have h8 := am_ok8_le (ad := (am_ad base aF aS)) h8
  exact va_mmin C.1.1 C.1.2.1 (by rw [C.1.2.2]; exact hl.1.symm) C.2.1 (am_wd C hm rfl) (am_wd C am_misc_ok.2.2.2.2.2.2.1.2 rfl) (am_wd C am_misc_ok.2.2.2.2.2.2.2.2 rfl) (am_wd C am_misc_ok.2.2.2.2.2.2.2.1.2 rfl) C.2.2.2.2.2.1.1 (by have := C.2.2.2.2.2.1.2; omega) (by omega) (by omega) hd (kk H locs ls cells slots e1 e2 hP hS hl)
theorem as_cy {i : Nat} (C : am_Cx base aF aS L xs dC dI dA p R s m args meth c y) (hd : decode (am_b y) pc = .ok (.invokestatic i, 3)) (hm : Cond.methodLink (am_C (am_o y)) i arraycopyName ∈ lw_tbl) (hs : am_cy pc al st h = some (.inl (pc', al', st', h'))) (kk : am_K base aF aS L xs dC dI dA p l e R s m args below meth c y n0 s0 Q pc' al' st' h') : am_K base aF aS L xs dC dI dA p l e R s m args below meth c y n0 s0 Q pc al st h := by
  unfold am_cy at hs
  split at hs
  · rename_i n dp a sp a0 r
    split at hs
    · rename_i n0 f n1 g ha0 ha1
      split at hs
      · rename_i hc
        obtain ⟨h2, h20, h1, h2d, h3, h4, h5, h8⟩ := hc
        obtain ⟨rfl, rfl, rfl, rfl⟩ := am_nx_eq hs
        intro H locs ls cells slots e1 e2 hP hS hl
        have h8 := am_ok8_le (ad := (am_ad base aF aS)) h8
        show W _ _ _ _ _ _ _ _ _ _ _ _ _ _ _ (F0 m pc ls (.int n :: .int dp :: .ref (am_ad base aF aS a) :: .int sp :: .ref (am_ad base aF aS a0) :: r.map (am_v (am_ad base aF aS))))
        rw [am_ad_ge h2, am_ad_ge h20]
        have hK := C.2.2.2.1.1
        have nn : ∀ z : Int32, ¬ z < 0 → z.toInt = (z.toNatClampNeg : Int) := by
          intro z hz
          have hz0 : (0 : Int) ≤ z.toInt := by
            have := Int32.not_lt.mp hz
            simpa using Int32.le_iff_toInt_le.mp this
          show z.toInt = ((z.toInt.toNat : Nat) : Int)
          omega
        intro T hT X
        have hc0 : H[base + (a0 - 2)]? = some (vp_cell (dA 0) (n0, .inl f)) := hP.1 (a0 - 2) _ (am_w_at h20 ha0)
        have hc1 : H[base + (a - 2)]? = some (vp_cell (dA 0) (n1, .inl g)) := hP.1 (a - 2) _ (am_w_at h2 ha1)
        obtain ⟨-, k0, hk0, cm0, hkk0⟩ := (hK.2 0 _ rfl).1 n0 (fun j => .int (f j))
        obtain ⟨-, k1, hk1, cm1, hkk1⟩ := (hK.2 0 _ rfl).1 n1 (fun j => .int (g j))
        obtain ⟨vm', X', step⟩ := X.arraycopy C.1.1 C.2.1 (am_wd C hm rfl) (am_wd C am_misc_ok.2.2.2.1.2 rfl) (am_wd C am_misc_ok.2.2.2.2.1.1 rfl) (am_wd C am_misc_ok.2.2.2.2.1.2 rfl) (src := base + (a0 - 2)) (dst := base + (a - 2)) (cs := vp_cell (dA 0) (n0, .inl f)) (cd := vp_cell (dA 0) (n1, .inl g)) (srcPos := sp) (destPos := dp) (n := n) (by rw [hT]; exact hc0) (by rw [hT]; exact hc1)
          (fun _ h => by cases h) (fun _ h => by cases h) (fun h => by cases h) (fun h => by cases h) hk0 hk1 hkk0 hkk1 (by simp) h1 h2d h3
          (by rw [nn sp h1, nn n h3]; show ¬ _ > ((arrV (dA 0) n0 (fun j => .int (f j))).slots.size : Int); rw [arrV_size]; omega)
          (by rw [nn dp h2d, nn n h3]; show ¬ _ > ((arrV (dA 0) n1 (fun j => .int (g j))).slots.size : Int); rw [arrV_size]; omega)
          (fun vm₁ _ i hi => by
            have e : (vp_cell (dA 0) (n0, .inl f)).slots.getD (sp.toNatClampNeg + i) .null = .int (f (sp.toNatClampNeg + i)) := by
              show (arrV (dA 0) n0 (fun j => .int (f j))).slots.getD _ _ = _
              rw [Array.getD_eq_getD_getElem?, arrV_read _ _ (by omega)]
              rfl
            refine ⟨?_, ?_⟩
            · rw [e]
              rfl
            · rw [e]
              exact trivial)
          (g := F0 m pc ls (.int n :: .int dp :: .ref (base + (a - 2)) :: .int sp :: .ref (base + (a0 - 2)) :: r.map (am_v (am_ad base aF aS)))) rfl (by rw [C.1.2.2]; exact hl.1) (rest := r.map (am_v (am_ad base aF aS))) rfl (by rw [C.1.2.1]; exact hd) C.2.2.2.2.2.1.1 (by show 2 * 0 + _ + ((5 + 2) + 11) ≤ _; have := C.2.2.2.2.2.1.2; omega)
        have q1 : copied (vp_cell (dA 0) (n0, .inl f)) (vp_cell (dA 0) (n1, .inl g)) sp dp n = vp_cell (dA 0) (n1, .inl (va_cpy f g sp.toNatClampNeg dp.toNatClampNeg n.toNatClampNeg)) := va_copied (fun z => .int z) (dA 0) (dA 0) f g h4
        rw [q1] at X' step
        have hlt : base + (a - 2) < H.size := (Array.getElem?_eq_some_iff.mp hc1).1
        have hheap : ((T.setVm vm').setCell (base + (a - 2)) (vp_cell (dA 0) (n1, .inl (va_cpy f g sp.toNatClampNeg dp.toNatClampNeg n.toNatClampNeg)))).heap = H.setIfInBounds (base + (a - 2)) (vp_cell (dA 0) (n1, .inl (va_cpy f g sp.toNatClampNeg dp.toNatClampNeg n.toNatClampNeg))) := by rw [← hT]; rfl
        have oq : ∀ q : Nat, q ≠ base + (a - 2) → (H.setIfInBounds (base + (a - 2)) (vp_cell (dA 0) (n1, .inl (va_cpy f g sp.toNatClampNeg dp.toNatClampNeg n.toNatClampNeg))))[q]? = H[q]? := fun q hq => by simp [Array.getElem?_setIfInBounds, Ne.symm hq]
        obtain ⟨b1, b2⟩ := am_put_cell (k := 0) (c1 := .inl (0, n1, .inl (va_cpy f g sp.toNatClampNeg dp.toNatClampNeg n.toNatClampNeg))) hP hS h2 ha1 (H1 := H.setIfInBounds (base + (a - 2)) (vp_cell (dA 0) (n1, .inl (va_cpy f g sp.toNatClampNeg dp.toNatClampNeg n.toNatClampNeg)))) (show (H.setIfInBounds (base + (a - 2)) _)[base + (a - 2)]? = some _ by simp [Array.getElem?_setIfInBounds, hlt]; rfl) (by simp) oq
        obtain ⟨t, w1, w2⟩ := kk _ _ ls cells slots (by rw [List.length_set]; exact e1) (by rw [am_sz_set (c1 := .inl (0, n1, .inl (va_cpy f g sp.toNatClampNeg dp.toNatClampNeg n.toNatClampNeg))) ha1 rfl]; exact e2) b1 ⟨b2.1, b2.2.1, fun q hq => by
            rcases List.mem_append.mp hq with h | h
            · exact hS.2.2 q h
            · obtain ⟨z, -, hz⟩ := List.mem_map.mp h
              rw [← hz]
              exact Nat.le_add_right _ _⟩ hl _ hheap X'
        exact ⟨t, step t w1, w2⟩
      · cases hs
    · cases hs
  · cases hs
end SIM
