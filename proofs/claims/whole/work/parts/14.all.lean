/-! THE SIMULATION: printed by wip/whole/gen_all.py. -/
theorem am_res_map {ad : Nat → Nat} {r : Option Value} {st : List Value} : (r.toList ++ st).map (am_v ad) = (r.map (am_v ad)).toList ++ st.map (am_v ad) := by
  cases r <;> rfl
theorem am_stk {ad : Nat → Nat} {st : List Value} (n : Nat) : st.map (am_v ad) = (((st.take n).reverse).map (am_v ad)).reverse ++ (st.drop n).map (am_v ad) := by
  rw [← List.map_reverse, List.reverse_reverse, ← List.map_append, List.take_append_drop]
def am_i2 (y : Nat) : Bool := if am_kd.getD y 3 = 2 then decide ((am_y y).name = "<init>") && (am_r y).isNone else true
set_option maxRecDepth 100000 in
theorem am_i2_ok : (List.range 294).all am_i2 = true := by decide +kernel
theorem am_i2_of {z : Nat} (hz : z < 294) (hk : am_kd.getD z 3 = 2) : (am_y z).name = "<init>" ∧ am_r z = none := by
  have h := List.all_eq_true.mp am_i2_ok z (List.mem_range.mpr hz)
  unfold am_i2 at h
  rw [if_pos hk] at h
  simp only [Bool.and_eq_true, decide_eq_true_eq, Option.isNone_iff_eq_none] at h
  exact h
section SIM
variable {base aF aS L : Nat} {xs : Nat → Int32} {dC : Nat → ClassId} {dI : Nat → Nat → Nat} {dA : Nat → ClassId} {p : Program} {l : Launch} {e : Env} {R : Room} {s : State} {m : MethodId} {args : Array Value} {below : List Frame} {meth : Method} {c : Code} {y n0 s0 : Nat} {Q : State → Prop}
variable {pc pc' : Nat} {al al' : AL} {st st' : List Value} {h h' : AH}
theorem iv_spec {o i z : Nat} {as st1 : List Value} (hs : am_iv o i st h = some (.inr (.inl (z, as, st1)))) : ∃ (b : Nat) (fs : List Value) (ps : List Nat), am_mlP (o, i, 0, z, ps) ∧ st.drop (am_np z) = .ref b :: st1 ∧ h[b]? = some (.inr (am_o z, fs)) ∧ 2 ≤ b ∧ (am_o z < 13 ∧ am_o z ≠ 7) ∧ am_ok8 st1 = true ∧ as = .ref b :: (st.take (am_np z)).reverse := by
  unfold am_iv at hs
  obtain ⟨⟨k9, y9⟩, hk, hs⟩ := as_bind hs
  obtain ⟨ps, hps⟩ := am_ml_spec hk
  split at hs
  · rename_i hc
    have hc : k9 = 0 := hc
    subst hc
    split at hs
    · rename_i b r hst
      split at hs
      · rename_i c9 fs hb
        split at hs
        · rename_i hcc
          obtain ⟨hb2, hcy, hc13, h8⟩ := hcc
          simp only [Option.some.injEq, Sum.inr.injEq, Sum.inl.injEq, Prod.mk.injEq] at hs
          obtain ⟨q1, q2, q3⟩ := hs
          subst q1; subst q3; subst hcy
          exact ⟨b, fs, ps, hps, hst, hb, hb2, hc13, h8, q2.symm⟩
        · cases hs
      · cases hs
    · cases hs
  · cases hs
theorem vs_spec {o i z : Nat} {as st1 : List Value} (hs : am_vs o i pc al st h = some (.inr (.inl (z, as, st1)))) : ∃ ps : List Nat, (am_mlP (o, i, 1, z, ps) ∨ am_mlP (o, i, 3, z, ps)) ∧ am_np z ≤ st.length ∧ st1 = st.drop (am_np z) ∧ am_ok8 st1 = true ∧ as = (st.take (am_np z)).reverse := by
  unfold am_vs at hs
  obtain ⟨⟨k9, y9⟩, hk, hs⟩ := as_bind hs
  obtain ⟨ps, hps⟩ := am_ml_spec hk
  split at hs
  · exact (nr_cy hs).elim
  · split at hs
    · split at hs
      · split at hs
        · exact (nr_nx hs).elim
        · cases hs
      · cases hs
    · split at hs
      · split at hs
        · split at hs
          · exact (nr_nx hs).elim
          · cases hs
        · cases hs
      · split at hs
        · rename_i hc
          obtain ⟨hc, hl, h8⟩ := hc
          simp only [Option.some.injEq, Sum.inr.injEq, Sum.inl.injEq, Prod.mk.injEq] at hs
          obtain ⟨q1, q2, q3⟩ := hs
          subst q1; subst q3
          refine ⟨ps, ?_, hl, rfl, h8, q2.symm⟩
          rcases hc with hc | hc
          · have hc : k9 = 1 := hc
            subst hc
            exact Or.inl hps
          · have hc : k9 = 3 := hc
            subst hc
            exact Or.inr hps
        · cases hs
theorem vi_spec {o i z : Nat} {as st1 : List Value} (hs : am_vi o i pc al st h = some (.inr (.inl (z, as, st1)))) : ∃ (b : Nat) (ps : List Nat), (am_mlP (o, i, 2, z, ps) ∨ am_mlP (o, i, 4, z, ps)) ∧ st.drop (am_np z) = .ref b :: st1 ∧ am_ok8 st1 = true ∧ as = .ref b :: (st.take (am_np z)).reverse := by
  unfold am_vi at hs
  obtain ⟨⟨k9, y9⟩, hk, hs⟩ := as_bind hs
  obtain ⟨ps, hps⟩ := am_ml_spec hk
  split at hs
  · split at hs
    · split at hs
      · exact (nr_nx hs).elim
      · cases hs
    · cases hs
  · split at hs
    · rename_i hc
      split at hs
      · rename_i b r hst
        split at hs
        · rename_i h8
          simp only [Option.some.injEq, Sum.inr.injEq, Sum.inl.injEq, Prod.mk.injEq] at hs
          obtain ⟨q1, q2, q3⟩ := hs
          subst q1; subst q3
          refine ⟨b, ps, ?_, hst, h8, q2.symm⟩
          rcases hc with hc | hc
          · have hc : k9 = 2 := hc
            subst hc
            exact Or.inl hps
          · have hc : k9 = 4 := hc
            subst hc
            exact Or.inr hps
        · cases hs
      · cases hs
    · cases hs
theorem am_drop_len {n : Nat} {a : Value} {r : List Value} (hh : st.drop n = a :: r) : (st.take n).length = n := by
  have h1 : (st.drop n).length = r.length + 1 := by rw [hh]; rfl
  rw [List.length_drop] at h1
  rw [List.length_take]
  omega
theorem ac_iv {r1 : Option Value} {h1 : AH} {d z : Nat} {as st1 : List Value} {i : Nat} (hd : decode (am_b y) pc = .ok (.invokevirtual i, 3)) (hs : am_iv (am_o y) i st h = some (.inr (.inl (z, as, st1)))) (C : am_Cx base aF aS L xs dC dI dA p R s m args meth c y) (hR : (d + 1) + 1 ≤ R.frames ∧ 64 * ((d + 1) + 1) ≤ R.locals) (hg : am_Gr h h1) (hroom : h1.length ≤ R.cells + n0 ∧ am_sz h1 ≤ R.slots + s0) (Mt : z < 294 → Met l (am_y z) (am_ws z) (am_rm d (h1.length - h.length) (am_sz h1 - am_sz h)) (am_Pc base aF aS L xs dC dI dA as h) (am_Qc base aF aS L xs dC dI dA r1 h1) (h1.length - h.length) (am_sz h1 - am_sz h) (fun q => base ≤ q)) (kk : am_K base aF aS L xs dC dI dA p l e R s m args below meth c y n0 s0 Q (pc + 3) al (r1.toList ++ st1) h1) : am_K base aF aS L xs dC dI dA p l e R s m args below meth c y n0 s0 Q pc al st h := by
  obtain ⟨b, fs, ps, ⟨⟨hz, hkd⟩, hlink⟩, hst, hb, hb2, hc13, h8, rfl⟩ := iv_spec hs
  have hz : z < 294 := hz
  have hkd : am_kd.getD z 3 = 0 := hkd
  have hok := am_mok_all (show z < 295 by omega)
  simp only [am_mok, Bool.and_eq_true, decide_eq_true_eq] at hok
  obtain ⟨k1, k2, k3, k4, k5, k6⟩ := hok
  have hy := am_yok hz
  have hyk := hy.2.2
  simp only [hkd] at hyk
  intro H locs ls cells slots e1 e2 hP hS hl
  rw [am_stk (am_np z), hst]
  show W _ _ _ _ _ _ _ _ _ _ _ _ _ _ _ (F0 m pc ls (_ ++ .ref (am_ad base aF aS b) :: st1.map (am_v (am_ad base aF aS))))
  refine am_callr (va_runV (C := (am_y z).cls) (As := ((st.take (am_np z)).reverse).map (am_v (am_ad base aF aS))) (rest := st1.map (am_v (am_ad base aF aS))) (b := am_ad base aF aS b) ⟨C.1.1, C.1.2.1, C.1.2.2, C.2.1, am_hts C⟩ (Mt hz) (cwV (am_np z) (am_hts C) (fun w hw => ?_) rfl rfl rfl ⟨rfl, k3, k4, k5⟩ ⟨hR.1, by show 8 + (am_L z + 11) + 64 * (d + 1) ≤ R.locals; have := hR.2; omega⟩) ⟨am_blind, ?_, am_pre C hP hS⟩ rfl (by rw [List.length_map, List.length_reverse]; exact am_drop_len hst) hl.1 rfl (lv_room (am_ok8_le h8)) hd ⟨by have := hg.1; omega, by have := hg.2; omega⟩) hS (fun H1 locs1 hP1 hS1 => ?_)
  · rcases List.mem_append.mp hw with hw | hw
    · simp only [List.mem_cons, List.not_mem_nil, or_false] at hw
      rcases hw with rfl | rfl | rfl | rfl
      · exact ⟨am_gw_mem hlink rfl, good_of_word rfl⟩
      · exact ⟨am_gw_mem hyk.1 rfl, good_of_word rfl⟩
      · exact ⟨am_gw_mem hyk.2 rfl, good_of_word rfl⟩
      · exact ⟨am_gw_mem hy.2.1 rfl, good_of_word rfl⟩
    · exact am_good_ws hz w hw
  · rw [am_ad_ge hb2, k2]
    exact va_recv C.2.2.2.1.1 hP.1 (am_vl_at hc13) (am_w_at hb2 hb)
  · have kx := kk H1 locs1 ls (cells + (h1.length - h.length)) (slots + (am_sz h1 - am_sz h)) (by have := hg.1; omega) (by have := hg.2; omega) hP1 hS1 hl
    rw [am_res_map] at kx
    exact kx
theorem ac_vs {r1 : Option Value} {h1 : AH} {d z : Nat} {as st1 : List Value} {i : Nat} (hd : decode (am_b y) pc = .ok (.invokestatic i, 3)) (hs : am_vs (am_o y) i pc al st h = some (.inr (.inl (z, as, st1)))) (C : am_Cx base aF aS L xs dC dI dA p R s m args meth c y) (hR : (d + 1) + 1 ≤ R.frames ∧ 64 * ((d + 1) + 1) ≤ R.locals) (hg : am_Gr h h1) (hroom : h1.length ≤ R.cells + n0 ∧ am_sz h1 ≤ R.slots + s0) (Mt : z < 294 → Met l (am_y z) (am_ws z) (am_rm d (h1.length - h.length) (am_sz h1 - am_sz h)) (am_Pc base aF aS L xs dC dI dA as h) (am_Qc base aF aS L xs dC dI dA r1 h1) (h1.length - h.length) (am_sz h1 - am_sz h) (fun q => base ≤ q)) (kk : am_K base aF aS L xs dC dI dA p l e R s m args below meth c y n0 s0 Q (pc + 3) al (r1.toList ++ st1) h1) : am_K base aF aS L xs dC dI dA p l e R s m args below meth c y n0 s0 Q pc al st h := by
  obtain ⟨ps, hml, hlen, rfl, h8, rfl⟩ := vs_spec hs
  have hz : z < 294 := by rcases hml with q | q <;> exact q.1.1
  have hkd : am_kd.getD z 3 = 1 := by rcases hml with q | q <;> exact q.1.2
  have hok := am_mok_all (show z < 295 by omega)
  simp only [am_mok, Bool.and_eq_true, decide_eq_true_eq] at hok
  obtain ⟨k1, k2, k3, k4, k5, k6⟩ := hok
  have hy := am_yok hz
  have hyk := hy.2.2
  simp only [hkd] at hyk
  intro H locs ls cells slots e1 e2 hP hS hl
  rw [am_stk (am_np z)]
  have fin : ∀ (H1 : Heap) (locs1 : List Loc), am_Hp base aF aS L xs dC dI dA h1 H1 → va_S (fun q => base ≤ q) s.heap H1 locs1 → W p l e R s m args below meth c H1 locs1 (cells + (h1.length - h.length)) (slots + (am_sz h1 - am_sz h)) Q (F0 m (pc + 3) ls ((r1.map (am_v (am_ad base aF aS))).toList ++ (st.drop (am_np z)).map (am_v (am_ad base aF aS)))) := by
    intro H1 locs1 hP1 hS1
    have kx := kk H1 locs1 ls (cells + (h1.length - h.length)) (slots + (am_sz h1 - am_sz h)) (by have := hg.1; omega) (by have := hg.2; omega) hP1 hS1 hl
    rw [am_res_map] at kx
    exact kx
  have hAs : (((st.take (am_np z)).reverse).map (am_v (am_ad base aF aS))).length = am_np z := by rw [List.length_map, List.length_reverse, List.length_take]; omega
  rcases hml with q | q
  · refine am_callr (va_runS (As := ((st.take (am_np z)).reverse).map (am_v (am_ad base aF aS))) (rest := (st.drop (am_np z)).map (am_v (am_ad base aF aS))) ⟨C.1.1, C.1.2.1, C.1.2.2, C.2.1, am_hts C⟩ (Mt hz) (va_cwS (am_np z) (am_hts C) (fun w hw => ?_) rfl rfl rfl ⟨k3, k4, k5⟩ ⟨hR.1, by show 8 + (am_L z + 11) + 64 * (d + 1) ≤ R.locals; have := hR.2; omega⟩) ⟨am_blind, am_pre C hP hS⟩ rfl hAs hl.1 rfl (lv_room (am_ok8_le h8)) hd ⟨by have := hg.1; omega, by have := hg.2; omega⟩) hS fin
    rcases List.mem_append.mp hw with hw | hw
    · simp only [List.mem_cons, List.not_mem_nil, or_false] at hw
      rcases hw with rfl | rfl | rfl
      · exact ⟨am_gw_mem q.2 rfl, good_of_word rfl⟩
      · exact ⟨am_gw_mem hyk rfl, good_of_word rfl⟩
      · exact ⟨am_gw_mem hy.2.1 rfl, good_of_word rfl⟩
    · exact am_good_ws hz w hw
  · exact am_callr (va_runSN (As := ((st.take (am_np z)).reverse).map (am_v (am_ad base aF aS))) (rest := (st.drop (am_np z)).map (am_v (am_ad base aF aS))) ⟨C.1.1, C.1.2.1, C.1.2.2, C.2.1, am_hts C⟩ (Mt hz) ⟨va_cnB (am_np z) (am_hts C) (am_good_ws hz) rfl rfl rfl (C.2.2.2.1.2.1 _ q.2 rfl) (am_wd C hy.2.1 rfl) ⟨k3, k4, k5⟩ ⟨hR.1, by show 8 + (am_L z + 11) + 64 * (d + 1) ≤ R.locals; have := hR.2; omega⟩, am_wd C hyk rfl, trivial⟩ ⟨am_blind, am_pre C hP hS⟩ rfl hAs hl.1 rfl (lv_room (am_ok8_le h8)) hd ⟨by have := hg.1; omega, by have := hg.2; omega⟩) hS fin
theorem ac_vi {r1 : Option Value} {h1 : AH} {d z : Nat} {as st1 : List Value} {i : Nat} (hd : decode (am_b y) pc = .ok (.invokespecial i, 3)) (hs : am_vi (am_o y) i pc al st h = some (.inr (.inl (z, as, st1)))) (hin : z < 294 → am_kd.getD z 3 = 2 → (am_y z).name = "<init>" ∧ am_r z = none) (C : am_Cx base aF aS L xs dC dI dA p R s m args meth c y) (hR : (d + 1) + 1 ≤ R.frames ∧ 64 * ((d + 1) + 1) ≤ R.locals) (hg : am_Gr h h1) (hroom : h1.length ≤ R.cells + n0 ∧ am_sz h1 ≤ R.slots + s0) (Mt : z < 294 → Met l (am_y z) (am_ws z) (am_rm d (h1.length - h.length) (am_sz h1 - am_sz h)) (am_Pc base aF aS L xs dC dI dA as h) (am_Qc base aF aS L xs dC dI dA r1 h1) (h1.length - h.length) (am_sz h1 - am_sz h) (fun q => base ≤ q)) (kk : am_K base aF aS L xs dC dI dA p l e R s m args below meth c y n0 s0 Q (pc + 3) al (r1.toList ++ st1) h1) : am_K base aF aS L xs dC dI dA p l e R s m args below meth c y n0 s0 Q pc al st h := by
  obtain ⟨b, ps, hml, hst, h8, rfl⟩ := vi_spec hs
  have hz : z < 294 := by rcases hml with q | q <;> exact q.1.1
  have hkd : am_kd.getD z 3 = 2 := by rcases hml with q | q <;> exact q.1.2
  obtain ⟨hi1, hi2⟩ := hin hz hkd
  have hok := am_mok_all (show z < 295 by omega)
  simp only [am_mok, Bool.and_eq_true, decide_eq_true_eq] at hok
  obtain ⟨k1, k2, k3, k4, k5, k6⟩ := hok
  have hy := am_yok hz
  have hyk := hy.2.2
  simp only [hkd] at hyk
  intro H locs ls cells slots e1 e2 hP hS hl
  rw [am_stk (am_np z), hst]
  show W _ _ _ _ _ _ _ _ _ _ _ _ _ _ _ (F0 m pc ls (_ ++ .ref (am_ad base aF aS b) :: st1.map (am_v (am_ad base aF aS))))
  have fin : ∀ (H1 : Heap) (locs1 : List Loc), am_Hp base aF aS L xs dC dI dA h1 H1 → va_S (fun q => base ≤ q) s.heap H1 locs1 → W p l e R s m args below meth c H1 locs1 (cells + (h1.length - h.length)) (slots + (am_sz h1 - am_sz h)) Q (F0 m (pc + 3) ls ((r1.map (am_v (am_ad base aF aS))).toList ++ st1.map (am_v (am_ad base aF aS)))) := by
    intro H1 locs1 hP1 hS1
    have kx := kk H1 locs1 ls (cells + (h1.length - h.length)) (slots + (am_sz h1 - am_sz h)) (by have := hg.1; omega) (by have := hg.2; omega) hP1 hS1 hl
    rw [am_res_map] at kx
    exact kx
  have hAs : (((st.take (am_np z)).reverse).map (am_v (am_ad base aF aS))).length = am_np z := by rw [List.length_map, List.length_reverse]; exact am_drop_len hst
  rcases hml with q | q
  · exact am_callr (va_runI (As := ((st.take (am_np z)).reverse).map (am_v (am_ad base aF aS))) (rest := st1.map (am_v (am_ad base aF aS))) (b := am_ad base aF aS b) ⟨C.1.1, C.1.2.1, C.1.2.2, C.2.1, am_hts C⟩ (Mt hz) (cwI (am_np z) (am_hts C) (am_good_ws hz) (by unfold am_ws; rw [hi2]) rfl rfl (am_wd C hy.2.1 rfl) (am_wd C q.2 rfl) (am_wd C hyk rfl) hi1 ⟨k3, k4, k5⟩ ⟨hR.1, by show 8 + (am_L z + 11) + 64 * (d + 1) ≤ R.locals; have := hR.2; omega⟩) ⟨am_blind, am_pre C hP hS⟩ rfl hAs hl.1 rfl (lv_room (am_ok8_le h8)) hd ⟨by have := hg.1; omega, by have := hg.2; omega⟩) hS fin
  · exact am_callr (va_runIN (As := ((st.take (am_np z)).reverse).map (am_v (am_ad base aF aS))) (rest := st1.map (am_v (am_ad base aF aS))) (b := am_ad base aF aS b) ⟨C.1.1, C.1.2.1, C.1.2.2, C.2.1, am_hts C⟩ (Mt hz) ⟨va_cnB (am_np z) (am_hts C) (am_good_ws hz) (by unfold am_ws; rw [hi2]) rfl rfl (C.2.2.2.1.2.1 _ q.2 rfl) (am_wd C hy.2.1 rfl) ⟨k3, k4, k5⟩ ⟨hR.1, by show 8 + (am_L z + 11) + 64 * (d + 1) ≤ R.locals; have := hR.2; omega⟩, hi1, am_wd C hyk rfl⟩ ⟨am_blind, am_pre C hP hS⟩ rfl hAs hl.1 rfl (lv_room (am_ok8_le h8)) hd ⟨by have := hg.1; omega, by have := hg.2; omega⟩) hS fin
theorem iv_nr {o i : Nat} {z : Option Value} (hs : am_iv o i st h = some (.inr (.inr z))) : False := by
  unfold am_iv at hs
  obtain ⟨t, -, hs⟩ := as_bind hs
  split at hs
  · split at hs
    · split at hs
      · split at hs <;> cases hs
      · cases hs
    · cases hs
  · cases hs
theorem vs_nr {o i : Nat} {z : Option Value} (hs : am_vs o i pc al st h = some (.inr (.inr z))) : False := by
  unfold am_vs at hs
  obtain ⟨t, -, hs⟩ := as_bind hs
  split at hs
  · exact nr_cy hs
  · split at hs
    · split at hs
      · split at hs
        · exact nr_nx hs
        · cases hs
      · cases hs
    · split at hs
      · split at hs
        · split at hs
          · exact nr_nx hs
          · cases hs
        · cases hs
      · split at hs <;> cases hs
theorem vi_nr {o i : Nat} {z : Option Value} (hs : am_vi o i pc al st h = some (.inr (.inr z))) : False := by
  unfold am_vi at hs
  obtain ⟨t, -, hs⟩ := as_bind hs
  split at hs
  · split at hs
    · split at hs
      · exact nr_nx hs
      · cases hs
    · cases hs
  · split at hs
    · split at hs
      · split at hs <;> cases hs
      · cases hs
    · cases hs
theorem rt_spec {z : Option Value} (hs : am_rt y st = some (.inr (.inr z))) : st.map (am_v (am_ad base aF aS)) = ((z.map (am_v (am_ad base aF aS))).toList) ∧ am_rI y .ireturn z := by
  unfold am_rt at hs
  split at hs
  · rename_i v ty hty
    split at hs
    · rename_i hn
      simp only [Option.some.injEq, Sum.inr.injEq] at hs
      subst hs
      exact ⟨rfl, Or.inl ⟨rfl, v, ty, rfl, hty, hn⟩⟩
    · cases hs
  · cases hs
theorem ar_spec {z : Option Value} (hs : am_ar y st = some (.inr (.inr z))) : st.map (am_v (am_ad base aF aS)) = ((z.map (am_v (am_ad base aF aS))).toList) ∧ am_rI y .areturn z := by
  unfold am_ar at hs
  split at hs
  · rename_i v n hty
    simp only [Option.some.injEq, Sum.inr.injEq] at hs
    subst hs
    exact ⟨rfl, Or.inr (Or.inl ⟨rfl, _, _, rfl, hty, Or.inl ⟨n, rfl⟩, Or.inr ⟨v, rfl⟩⟩)⟩
  · rename_i v n hty
    simp only [Option.some.injEq, Sum.inr.injEq] at hs
    subst hs
    exact ⟨rfl, Or.inr (Or.inl ⟨rfl, _, _, rfl, hty, Or.inr ⟨n, rfl⟩, Or.inr ⟨v, rfl⟩⟩)⟩
  · rename_i n hty
    simp only [Option.some.injEq, Sum.inr.injEq] at hs
    subst hs
    exact ⟨rfl, Or.inr (Or.inl ⟨rfl, _, _, rfl, hty, Or.inl ⟨n, rfl⟩, Or.inl rfl⟩)⟩
  · rename_i n hty
    simp only [Option.some.injEq, Sum.inr.injEq] at hs
    subst hs
    exact ⟨rfl, Or.inr (Or.inl ⟨rfl, _, _, rfl, hty, Or.inr ⟨n, rfl⟩, Or.inl rfl⟩)⟩
  · cases hs
theorem vr_spec {z : Option Value} (hs : am_vr y st = some (.inr (.inr z))) : st.map (am_v (am_ad base aF aS)) = ((z.map (am_v (am_ad base aF aS))).toList) ∧ am_rI y .return_ z := by
  unfold am_vr at hs
  split at hs
  · rename_i hty
    simp only [Option.some.injEq, Sum.inr.injEq] at hs
    subst hs
    exact ⟨rfl, Or.inr (Or.inr ⟨rfl, rfl, hty⟩)⟩
  · cases hs
/-- THE SIMULATION -/
theorem am_run_all : ∀ f : Nat, am_Run base aF aS L xs dC dI dA l f := by
  intro f
  induction f with
  | zero =>
    intro d y pc al st h r h' hx
    cases hx
  | succ f ih =>
    intro d y pc al st h r h' hx p e R s m args below meth c n0 s0 Q C hR hroom hfin
    unfold am_exec at hx
    split at hx
    · cases hx
    · rename_i pc1 al1 st1 h1 hs
      obtain ⟨i, len, hd, hi⟩ := am_step_ins hs
      have hg := am_exec_gr f hx
      exact am_sim_step C hd ⟨Nat.le_trans hg.1 hroom.1, Nat.le_trans hg.2 hroom.2⟩ hi (ih d y pc1 al1 st1 h1 r h' hx p e R s m args below meth c n0 s0 Q C hR hroom hfin)
    · rename_i y1 as st1 hs
      obtain ⟨i, len, hd, hi⟩ := am_step_ins hs
      split at hx
      · cases hx
      · rename_i d1
        split at hx
        · rename_i hn
          split at hx
          · cases hx
          · rename_i r1 h1 hc
            have hg1 := am_exec_gr f hc
            have hg2 := am_exec_gr f hx
            have kk := ih (d1 + 1) y (pc + 3) al (r1.toList ++ st1) h1 r h' hx p e R s m args below meth c n0 s0 Q C hR hroom hfin
            have hroom1 : h1.length ≤ R.cells + n0 ∧ am_sz h1 ≤ R.slots + s0 := ⟨Nat.le_trans hg2.1 hroom.1, Nat.le_trans hg2.2 hroom.2⟩
            have Mt := fun hz => am_met ih hz hc hn (Nat.le_add_right base (h.length - 2))
            rcases am_leaves hi with ⟨k, rfl, rfl, hv⟩ | ⟨k, rfl, rfl, hv⟩ | ⟨k, rfl, rfl, hv⟩ | ⟨rfl, rfl, hv⟩ | ⟨rfl, rfl, hv⟩ | ⟨rfl, rfl, hv⟩
            · exact ac_iv hd hv C hR hg1 hroom1 Mt kk
            · exact ac_vs hd hv C hR hg1 hroom1 Mt kk
            · exact ac_vi hd hv am_i2_of C hR hg1 hroom1 Mt kk
            · unfold am_rt at hv
              split at hv
              · split at hv <;> cases hv
              · cases hv
            · unfold am_ar at hv
              split at hv <;> cases hv
            · unfold am_vr at hv
              split at hv <;> cases hv
        · cases hx
    · rename_i r1 hs
      cases hx
      obtain ⟨i, len, hd, hi⟩ := am_step_ins hs
      intro H locs ls cells slots e1 e2 hP hS hl
      rcases am_leaves hi with ⟨k, rfl, rfl, hv⟩ | ⟨k, rfl, rfl, hv⟩ | ⟨k, rfl, rfl, hv⟩ | ⟨rfl, rfl, hv⟩ | ⟨rfl, rfl, hv⟩ | ⟨rfl, rfl, hv⟩
      · exact (iv_nr hv).elim
      · exact (vs_nr hv).elim
      · exact (vi_nr hv).elim
      · obtain ⟨q1, q2⟩ := rt_spec hv
        rw [q1]
        exact hfin H locs ls cells slots pc _ e1 e2 hP hS q2 hd
      · obtain ⟨q1, q2⟩ := ar_spec hv
        rw [q1]
        exact hfin H locs ls cells slots pc _ e1 e2 hP hS q2 hd
      · obtain ⟨q1, q2⟩ := vr_spec hv
        rw [q1]
        exact hfin H locs ls cells slots pc _ e1 e2 hP hS q2 hd
end SIM
