/-! Instructions on fields and arrays; printed by wip/whole/gen_simb.py. -/
theorem am_fl_spec {o i c k : Nat} (h : am_fl o i = some (c, k)) : Cond.fieldLink (am_C o) i (am_T c k).1 (am_T c k).2.1 (am_T c k).2.2.1 ∈ lw_tbl ∧ k < am_N c ∧ (c < 13 ∧ c ≠ 7) := by
  unfold am_fl at h
  obtain ⟨e, he, hc⟩ := Option.map_eq_some_iff.mp h
  have h1 := List.all_eq_true.mp am_fls_ok e (List.mem_of_find?_eq_some he)
  have h2 := List.find?_some he
  simp only [Bool.and_eq_true, beq_iff_eq] at h2
  simp only [am_flok, Bool.and_eq_true, decide_eq_true_eq] at h1
  cases hc
  rw [← h2.1, ← h2.2]
  exact ⟨am_at_mem h1.1, h1.2.1, h1.2.2⟩
theorem am_sl_spec {o i n : Nat} (h : am_sl o i = some n) : (Cond.fieldLink (am_C o) i "LoopTables" "FACTORIALS" "[I") ∈ lw_tbl ∨ (Cond.fieldLinkNest (am_C o) i "LoopTables" "FACTORIALS" "[I" "LoopTables") ∈ lw_tbl := by
  unfold am_sl at h
  obtain ⟨e, he, hc⟩ := Option.map_eq_some_iff.mp h
  have h1 := List.all_eq_true.mp am_sls_ok e (List.mem_of_find?_eq_some he)
  have h2 := List.find?_some he
  simp only [Bool.and_eq_true, beq_iff_eq] at h2
  rw [← h2.1, ← h2.2]
  unfold am_slok at h1
  split at h1
  · exact Or.inl (am_at_mem h1)
  · exact Or.inr (am_at_mem h1)
theorem am_cl_spec {o i c : Nat} (h : am_cl o i = some c) : Cond.classLink (am_C o) i (am_C c) ∈ lw_tbl := by
  unfold am_cl at h
  obtain ⟨e, he, hc⟩ := Option.map_eq_some_iff.mp h
  have h1 := List.all_eq_true.mp am_cls_ok e (List.mem_of_find?_eq_some he)
  have h2 := List.find?_some he
  simp only [Bool.and_eq_true, beq_iff_eq] at h2
  cases hc
  rw [← h2.1, ← h2.2]
  exact am_at_mem h1
theorem am_ki_spec {o i : Nat} {v : Int32} (h : am_ki o i = some v) : Cond.constant (am_C o) i v ∈ lw_tbl := by
  unfold am_ki at h
  obtain ⟨e, he, hc⟩ := Option.map_eq_some_iff.mp h
  have h1 := List.all_eq_true.mp am_kis_ok e (List.mem_of_find?_eq_some he)
  have h2 := List.find?_some he
  simp only [Bool.and_eq_true, beq_iff_eq] at h2
  cases hc
  rw [← h2.1, ← h2.2]
  exact am_at_mem h1
theorem am_kl_spec {o i : Nat} {v : Int64} (h : am_kl o i = some v) : Cond.constantLong (am_C o) i v ∈ lw_tbl := by
  unfold am_kl at h
  obtain ⟨e, he, hc⟩ := Option.map_eq_some_iff.mp h
  have h1 := List.all_eq_true.mp am_kls_ok e (List.mem_of_find?_eq_some he)
  have h2 := List.find?_some he
  simp only [Bool.and_eq_true, beq_iff_eq] at h2
  cases hc
  rw [← h2.1, ← h2.2]
  exact am_at_mem h1
theorem am_in_spec {c : Nat} (h : c < 13 ∧ c ≠ 7) : Cond.instantiable (am_C c) (am_N c) ∈ lw_tbl ∧ Cond.initialized (am_C c) ∈ lw_tbl := by
  obtain ⟨e, he, hc⟩ := am_ins0_in c h
  have h1 := List.all_eq_true.mp am_ins0_ok e he
  simp only [am_inok, Bool.and_eq_true] at h1
  rw [← hc]
  exact ⟨am_at_mem h1.1, am_at_mem h1.2⟩
/-- the words that every method is given -/
def am_gw : List Cond := lw_tbl.filter goodWord
theorem am_gw_mem {w : Cond} (h : w ∈ lw_tbl) (hg : goodWord w = true) : w ∈ am_gw := List.mem_filter.mpr ⟨h, hg⟩
theorem am_lay_gw {c : Nat} (hc : c < 13) : ∀ w ∈ u_ws (am_C c) (am_T c) (am_N c), w ∈ am_gw := by
  intro w hw
  refine am_gw_mem (am_lay_ok c hc w hw) ?_
  obtain ⟨k, -, rfl⟩ := List.mem_map.mp hw
  unfold u_lay
  split <;> rfl
theorem am_ad_ge {base aF aS a : Nat} (h : 2 ≤ a) : am_ad base aF aS a = base + (a - 2) := by
  unfold am_ad
  rw [if_neg (by omega), if_neg (by omega)]
theorem am_two {a : Nat} (h0 : ¬ a = 0) (h1 : ¬ a = 1) : 2 ≤ a := by omega
theorem am_nar_v {ad : Nat → Nat} {ty : FieldType} {v : Value} (h : narrow ty v = v) : narrow ty (am_v ad v) = am_v ad v := by
  cases v <;> first | exact h | (cases ty <;> rfl)
theorem am_fit_v {ad : Nat → Nat} {ty : FieldType} {v : Value} (h : fits ty v = true) : fits ty (am_v ad v) = true := by
  cases v <;> first | exact h | (cases ty <;> first | exact h | rfl)
theorem am_sz_set : ∀ {h : AH} {a : Nat} {c0 c1 : AC}, h[a]? = some c0 → am_z c1 = am_z c0 → am_sz (h.set a c1) = am_sz h
  | [], a, c0, c1, h1, _ => by simp at h1
  | x :: h, 0, c0, c1, h1, h2 => by
    simp at h1
    subst h1
    simp [am_sz, h2]
  | x :: h, a + 1, c0, c1, h1, h2 => by
    simp at h1
    simp [am_sz, am_sz_set h1 h2]
theorem am_sz_push : ∀ {h : AH} {c : AC}, am_sz (h ++ [c]) = am_sz h + am_z c
  | [], c => by simp [am_sz]
  | x :: h, c => by
    have := am_sz_push (h := h) (c := c)
    simp [am_sz, this]
    omega
section SIM
variable {base aF aS L : Nat} {xs : Nat → Int32} {dC : Nat → ClassId} {dI : Nat → Nat → Nat} {dA : Nat → ClassId} {p : Program} {l : Launch} {e : Env} {R : Room} {s : State} {m : MethodId} {args : Array Value} {below : List Frame} {meth : Method} {c : Code} {y n0 s0 : Nat} {Q : State → Prop}
variable {pc pc' : Nat} {al al' : AL} {st st' : List Value} {h h' : AH}
theorem am_hts (C : am_Cx base aF aS L xs dC dI dA p R s m args meth c y) : ∀ w ∈ am_gw, w.before args s = true := fun w hw => C.2.2.1 w (List.mem_filter.mp hw).1 (List.mem_filter.mp hw).2
theorem am_wd (C : am_Cx base aF aS L xs dC dI dA p R s m args meth c y) {w : Cond} (h : w ∈ lw_tbl) (hg : goodWord w = true) : w.before args s = true := C.2.2.1 w h hg
/-- one cell is changed -/
theorem am_put_cell {H H1 : Heap} {locs : List Loc} {a k : Nat} {c0 c1 : AC} (hP : am_Hp base aF aS L xs dC dI dA h H) (hS : va_S (fun q => base ≤ q) s.heap H locs) (h2 : 2 ≤ a) (ha : h[a]? = some c0) (hat : va_at (dC, dI) am_vl (base + (a - 2), am_e (am_ad base aF aS) dA c1) H1) (z : H1.size = H.size) (oq : ∀ q : Nat, q ≠ base + (a - 2) → H1[q]? = H[q]?) : am_Hp base aF aS L xs dC dI dA (h.set a c1) H1 ∧ va_S (fun q => base ≤ q) s.heap H1 (locs ++ [⟨base + (a - 2), k⟩]) := by
  obtain ⟨p1, p2, p3, p4, p5⟩ := hP
  refine ⟨⟨?_, by rw [z, p2, List.length_set], by rw [List.length_set]; exact p3, by rw [List.getElem?_set_ne (by omega)]; exact p4, by rw [List.getElem?_set_ne (by omega)]; exact p5⟩, hS.put z oq (Nat.le_add_right _ _)⟩
  rw [am_w_set h2]
  exact p1.set am_w_D (am_w_at h2 ha) hat oq
theorem as_gf {i : Nat} (C : am_Cx base aF aS L xs dC dI dA p R s m args meth c y) (hd : decode (am_b y) pc = .ok (.getfield i, 3)) (hs : am_gf (am_o y) i pc al st h = some (.inl (pc', al', st', h'))) (kk : am_K base aF aS L xs dC dI dA p l e R s m args below meth c y n0 s0 Q pc' al' st' h') : am_K base aF aS L xs dC dI dA p l e R s m args below meth c y n0 s0 Q pc al st h := by
  unfold am_gf at hs
  split at hs
  · rename_i a r
    obtain ⟨ck, hf, hs⟩ := as_bind hs
    split at hs
    · rename_i c9 fs ha
      split at hs
      · rename_i hc
        obtain ⟨h2, rfl⟩ := hc
        obtain ⟨v, hv, hs⟩ := as_bind hs
        obtain ⟨rfl, rfl, rfl, rfl⟩ := am_nx_eq hs
        intro H locs ls cells slots e1 e2 hP hS hl
        obtain ⟨w1, w2, w4⟩ := am_fl_spec (c := ck.1) (k := ck.2) hf
        have w3 := w4.1
        show W _ _ _ _ _ _ _ _ _ _ _ _ _ _ _ (F0 m pc ls (.ref (am_ad base aF aS a) :: r.map (am_v (am_ad base aF aS))))
        rw [am_ad_ge h2]
        exact va_get (D := (dC, dI)) (v := am_v (am_ad base aF aS) v) C.1.1 C.1.2.1 (am_hts C) (am_lay_gw w3) C.2.1 C.2.2.2.1.1 hP.1 (a - 2) (am_w_at h2 ha) (am_vl_at w4) ck.2 w2 (am_wd C w1 rfl) (fun _ q => q) (by rw [List.getElem?_map, hv]; rfl) hd (kk H locs ls cells slots e1 e2 hP hS hl)
      · cases hs
    · cases hs
  · cases hs
theorem as_pf {i : Nat} (C : am_Cx base aF aS L xs dC dI dA p R s m args meth c y) (hd : decode (am_b y) pc = .ok (.putfield i, 3)) (hs : am_pf y (am_o y) i pc al st h = some (.inl (pc', al', st', h'))) (kk : am_K base aF aS L xs dC dI dA p l e R s m args below meth c y n0 s0 Q pc' al' st' h') : am_K base aF aS L xs dC dI dA p l e R s m args below meth c y n0 s0 Q pc al st h := by
  unfold am_pf at hs
  split at hs
  · rename_i v a r
    obtain ⟨ck, hf, hs⟩ := as_bind hs
    split at hs
    · rename_i c9 fs ha
      split at hs
      · rename_i hc
        obtain ⟨h2, rfl, hk, hn, hfit, hfin⟩ := hc
        obtain ⟨rfl, rfl, rfl, rfl⟩ := am_nx_eq hs
        intro H locs ls cells slots e1 e2 hP hS hl
        obtain ⟨w1, w2, w4⟩ := am_fl_spec (c := ck.1) (k := ck.2) hf
        have w3 := w4.1
        show W _ _ _ _ _ _ _ _ _ _ _ _ _ _ _ (F0 m pc ls (am_v (am_ad base aF aS) v :: .ref (am_ad base aF aS a) :: r.map (am_v (am_ad base aF aS))))
        rw [am_ad_ge h2]
        have hn := am_nar_v (ad := (am_ad base aF aS)) hn
        have hfit := am_fit_v (ad := (am_ad base aF aS)) hfit
        have hts := am_hts C
        have hin := am_lay_gw w3
        have hc := am_vl_at w4
        have hK := C.2.2.2.1.1
        have hap := va_apart (own := am_C (am_o y)) (D := (dC, dI)) hts hin (am_ty ck.1) (am_ty_ok ck.1 w3) (am_nm_ok ck.1 w3) hK hc
        obtain ⟨r9, h1, cell, q1, q2, q3, q4⟩ := hP.1 (a - 2) _ (am_w_at h2 ha)
        have hr : r9 = (am_C ck.1, am_T ck.1, am_N ck.1) := Option.some.inj (h1.symm.trans hc)
        subst hr
        obtain ⟨hSl, hfc, kC, hkC, hkind⟩ := hK.1 ck.1 _ hc
        obtain ⟨cf, kf, fi, f, hi, hsl⟩ := hSl ck.2 w2
        have hst := (u_facts hfc hkC (u_lays hts hin w2) hi).1
        have hlk := am_wd C w1 rfl
        have hd0 := am_ty_ok ck.1 w3 ck.2 w2
        have fin : ∀ H1 : Heap, H1[base + (a - 2)]? = some (cell.setSlot f.slot (am_v (am_ad base aF aS) v)) → H1.size = H.size → (∀ q, q ≠ base + (a - 2) → H1[q]? = H[q]?) → W p l e R s m args below meth c H1 (locs ++ [⟨base + (a - 2), f.slot⟩]) cells slots Q (F0 m (pc + 3) ls (r.map (am_v (am_ad base aF aS)))) := by
          intro H1 g1 g2 g3
          rw [hsl] at g1
          obtain ⟨a1, a2⟩ := am_put_cell (k := f.slot) (c1 := .inr (ck.1, fs.set ck.2 v)) hP hS h2 ha ⟨_, hc, t_OB.to (V := updV (vp_V (fs.map (am_v (am_ad base aF aS)))) ck.2 (am_v (am_ad base aF aS) v)) ⟨_, g1, q2, q3, t_set q4 hap w2 (am_v (am_ad base aF aS) v)⟩ (fun j _ => by rw [List.map_set]; exact vp_updV_set (by rw [List.length_map]; exact hk) _ j)⟩ g2 g3
          exact kk H1 _ ls cells slots (by rw [List.length_set]; exact e1) (by rw [am_sz_set ha (by simp [am_z])]; exact e2) a1 a2 hl
        rcases hfin with hfin | ⟨hin2, hdecl⟩
        · have hlay := hts _ (hin _ (u_in_lay w2))
          unfold u_lay at hlay
          rw [if_neg (by rw [hfin]; decide)] at hlay
          exact W.putK C.1.1 C.1.2.1 (f := f) ⟨C.2.1, hlk, ⟨_, _, _, hi⟩, hst⟩ (by rw [q2]; exact u_store hfc hkC hkind hlay hi hd0 hn hfit) q1 q3 (by rw [hsl]; exact k2_hasslot (q4 ck.2 w2)) rfl rfl hd fin
        · by_cases hfin : (am_T ck.1 ck.2).2.2.2 = true
          · have hlay := hts _ (hin _ (u_in_lay w2))
            unfold u_lay at hlay
            rw [if_pos hfin] at hlay
            have hcf : m.cls = cf := by
              obtain ⟨_, _, c', _, _, _, -, -, hf', -, -, -, hown2, -⟩ := Cond.laysFinal_spec hlay
              have e1 : c' = cf := by have := hi.symm.trans hf'; simp at this; exact this.1.symm
              rw [am_own_ok ck.1 w3 ck.2 w2, ← hdecl] at hown2
              rw [← e1]; exact Option.some.inj (C.2.1.symm.trans hown2)
            exact W.putFinK C.1.1 C.1.2.1 C.2.1 hlk hi hst hcf (C.2.2.2.2.1 hin2) (by rw [q2]; exact u_fits hfc hkC hkind (Or.inr hlay) hi hd0 hn hfit) q1 q3 (by rw [hsl]; exact k2_hasslot (q4 ck.2 w2)) rfl rfl hd fin
          · have hfin : (am_T ck.1 ck.2).2.2.2 = false := by simpa using hfin
            have hlay := hts _ (hin _ (u_in_lay w2))
            unfold u_lay at hlay
            rw [if_neg (by rw [hfin]; decide)] at hlay
            exact W.putK C.1.1 C.1.2.1 (f := f) ⟨C.2.1, hlk, ⟨_, _, _, hi⟩, hst⟩ (by rw [q2]; exact u_store hfc hkC hkind hlay hi hd0 hn hfit) q1 q3 (by rw [hsl]; exact k2_hasslot (q4 ck.2 w2)) rfl rfl hd fin
      · cases hs
    · cases hs
  · cases hs
theorem as_gs {i : Nat} (C : am_Cx base aF aS L xs dC dI dA p R s m args meth c y) (hd : decode (am_b y) pc = .ok (.getstatic i, 3)) (hs : am_gs (am_o y) i pc al st h = some (.inl (pc', al', st', h'))) (kk : am_K base aF aS L xs dC dI dA p l e R s m args below meth c y n0 s0 Q pc' al' st' h') : am_K base aF aS L xs dC dI dA p l e R s m args below meth c y n0 s0 Q pc al st h := by
  unfold am_gs at hs
  obtain ⟨n, hf, hs⟩ := as_bind hs
  obtain ⟨rfl, rfl, rfl, rfl⟩ := am_nx_eq hs
  intro H locs ls cells slots e1 e2 hP hS hl
  rcases am_sl_spec hf with w | w
  · exact va_gets C.1.1 C.1.2.1 C.2.2.2.1.2.2.2.1 hS C.2.1 (am_wd C w rfl) (fun _ q => q) hd (kk H locs ls cells slots e1 e2 hP hS hl)
  · exact va_getsN C.1.1 C.1.2.1 C.2.2.2.1.2.2.2.1 hS C.2.1 (va_Nw.use rfl (C.2.2.2.1.2.1 _ w rfl)) (fun _ q => q) hd (kk H locs ls cells slots e1 e2 hP hS hl)
theorem am_old_read {H : Heap} {locs : List Loc} {ls : Array Slot} {cells slots t N : Nat} {f : Nat → Int32} {i : Int32} {rest : List Value} (C : am_Cx base aF aS L xs dC dI dA p R s m args meth c y) (hT : va_T .int t N (fun j => .int (f j)) (fun q => base ≤ q) s s.heap) (hS : va_S (fun q => base ≤ q) s.heap H locs) (hin : vp_in i N) (hd : decode (am_b y) pc = .ok (.iaload, 1)) (kk : W p l e R s m args below meth c H locs cells slots Q (F0 m (pc + 1) ls (.int (f i.toNatClampNeg) :: rest))) : W p l e R s m args below meth c H locs cells slots Q (F0 m pc ls (.int i :: .ref t :: rest)) := by
  obtain ⟨cell, h1, h2, h3, h4, h5, h6, h7⟩ := hT
  have hlt : i.toNatClampNeg < N := Nat.not_le.mp fun q => hin (Or.inr q)
  exact W.iald (v := .int (f i.toNatClampNeg)) C.1.1 C.1.2.1 (by rw [hS.2.1 t (Array.getElem?_eq_some_iff.mp h1).1 h7]; exact h1) h2 h3 (fun q => q.elim (fun q => hin (Or.inl q)) (fun q => by omega)) (h6 _ hlt) rfl rfl hd kk
theorem as_ia (C : am_Cx base aF aS L xs dC dI dA p R s m args meth c y) (hd : decode (am_b y) pc = .ok (.iaload, 1)) (hs : am_ia pc al st h = some (.inl (pc', al', st', h'))) (kk : am_K base aF aS L xs dC dI dA p l e R s m args below meth c y n0 s0 Q pc' al' st' h') : am_K base aF aS L xs dC dI dA p l e R s m args below meth c y n0 s0 Q pc al st h := by
  unfold am_ia at hs
  split at hs
  · rename_i i a r
    split at hs
    · rename_i n f ha
      split at hs
      · rename_i hc
        have hin := am_in_iff hc
        obtain ⟨rfl, rfl, rfl, rfl⟩ := am_nx_eq hs
        intro H locs ls cells slots e1 e2 hP hS hl
        show W _ _ _ _ _ _ _ _ _ _ _ _ _ _ _ (F0 m pc ls (.int i :: .ref (am_ad base aF aS a) :: r.map (am_v (am_ad base aF aS))))
        by_cases h0 : a = 0
        · subst h0
          rw [hP.2.2.2.1] at ha
          cases ha
          exact am_old_read C C.2.2.2.1.2.2.2.2.1 hS hin hd (kk H locs ls cells slots e1 e2 hP hS hl)
        · by_cases h1 : a = 1
          · subst h1
            rw [hP.2.2.2.2] at ha
            cases ha
            exact am_old_read C C.2.2.2.1.2.2.2.2.2 hS hin hd (kk H locs ls cells slots e1 e2 hP hS hl)
          · have h2 := am_two h0 h1
            rw [am_ad_ge h2]
            exact va_iald C.1.1 C.1.2.1 C.2.2.2.1.1 hP.1 (a - 2) 0 (am_w_at h2 ha) rfl hin hd (kk H locs ls cells slots e1 e2 hP hS hl)
      · cases hs
    · cases hs
  · cases hs
theorem as_ba (C : am_Cx base aF aS L xs dC dI dA p R s m args meth c y) (hd : decode (am_b y) pc = .ok (.baload, 1)) (hs : am_ba pc al st h = some (.inl (pc', al', st', h'))) (kk : am_K base aF aS L xs dC dI dA p l e R s m args below meth c y n0 s0 Q pc' al' st' h') : am_K base aF aS L xs dC dI dA p l e R s m args below meth c y n0 s0 Q pc al st h := by
  unfold am_ba at hs
  split at hs
  · rename_i i a r
    split at hs
    · rename_i n f ha
      split at hs
      · rename_i hc
        obtain ⟨h2, hc⟩ := hc
        have hin := am_in_iff hc
        obtain ⟨rfl, rfl, rfl, rfl⟩ := am_nx_eq hs
        intro H locs ls cells slots e1 e2 hP hS hl
        show W _ _ _ _ _ _ _ _ _ _ _ _ _ _ _ (F0 m pc ls (.int i :: .ref (am_ad base aF aS a) :: r.map (am_v (am_ad base aF aS))))
        rw [am_ad_ge h2]
        exact va_bald C.1.1 C.1.2.1 C.2.2.2.1.1 hP.1 (a - 2) 1 (am_w_at h2 ha) rfl hin hd (kk H locs ls cells slots e1 e2 hP hS hl)
      · cases hs
    · rename_i n f ha
      split at hs
      · rename_i hc
        obtain ⟨h2, hc⟩ := hc
        have hin := am_in_iff hc
        obtain ⟨rfl, rfl, rfl, rfl⟩ := am_nx_eq hs
        intro H locs ls cells slots e1 e2 hP hS hl
        show W _ _ _ _ _ _ _ _ _ _ _ _ _ _ _ (F0 m pc ls (.int i :: .ref (am_ad base aF aS a) :: r.map (am_v (am_ad base aF aS))))
        rw [am_ad_ge h2]
        exact va_zald C.1.1 C.1.2.1 C.2.2.2.1.1 hP.1 (a - 2) 2 (am_w_at h2 ha) rfl hin hd (kk H locs ls cells slots e1 e2 hP hS hl)
      · cases hs
    · cases hs
  · cases hs
theorem as_la (C : am_Cx base aF aS L xs dC dI dA p R s m args meth c y) (hd : decode (am_b y) pc = .ok (.laload, 1)) (hs : am_la pc al st h = some (.inl (pc', al', st', h'))) (kk : am_K base aF aS L xs dC dI dA p l e R s m args below meth c y n0 s0 Q pc' al' st' h') : am_K base aF aS L xs dC dI dA p l e R s m args below meth c y n0 s0 Q pc al st h := by
  unfold am_la at hs
  split at hs
  · rename_i i a r
    split at hs
    · rename_i n f ha
      split at hs
      · rename_i hc
        obtain ⟨h2, hc⟩ := hc
        have hin := am_in_iff hc
        obtain ⟨rfl, rfl, rfl, rfl⟩ := am_nx_eq hs
        intro H locs ls cells slots e1 e2 hP hS hl
        show W _ _ _ _ _ _ _ _ _ _ _ _ _ _ _ (F0 m pc ls (.int i :: .ref (am_ad base aF aS a) :: r.map (am_v (am_ad base aF aS))))
        rw [am_ad_ge h2]
        exact va_lald C.1.1 C.1.2.1 C.2.2.2.1.1 hP.1 (a - 2) 3 (am_w_at h2 ha) rfl hin hd (kk H locs ls cells slots e1 e2 hP hS hl)
      · cases hs
    · cases hs
  · cases hs
theorem as_aa (C : am_Cx base aF aS L xs dC dI dA p R s m args meth c y) (hd : decode (am_b y) pc = .ok (.aaload, 1)) (hs : am_aa pc al st h = some (.inl (pc', al', st', h'))) (kk : am_K base aF aS L xs dC dI dA p l e R s m args below meth c y n0 s0 Q pc' al' st' h') : am_K base aF aS L xs dC dI dA p l e R s m args below meth c y n0 s0 Q pc al st h := by
  unfold am_aa at hs
  split at hs
  · rename_i i a r
    split at hs
    · rename_i t n f ha
      split at hs
      · rename_i hc
        obtain ⟨h2, ht, hc⟩ := hc
        have hin := am_in_iff hc
        obtain ⟨rfl, rfl, rfl, rfl⟩ := am_nx_eq hs
        intro H locs ls cells slots e1 e2 hP hS hl
        show W _ _ _ _ _ _ _ _ _ _ _ _ _ _ _ (F0 m pc ls (.int i :: .ref (am_ad base aF aS a) :: r.map (am_v (am_ad base aF aS))))
        rw [am_ad_ge h2]
        have key : va_rf (((f i.toNatClampNeg)).map (am_ad base aF aS)) = am_v (am_ad base aF aS) (va_rf (f i.toNatClampNeg)) := by cases f i.toNatClampNeg <;> rfl
        have kx := kk H locs ls cells slots e1 e2 hP hS hl
        rw [List.map_cons, ← key] at kx
        rcases ht with rfl | rfl | rfl
        · exact va_aldq C.1.1 C.1.2.1 C.2.2.2.1.1 hP.1 (a - 2) 4 (am_w_at h2 ha) rfl hin hd kx
        · exact va_aldq C.1.1 C.1.2.1 C.2.2.2.1.1 hP.1 (a - 2) 5 (am_w_at h2 ha) rfl hin hd kx
        · exact va_aldq C.1.1 C.1.2.1 C.2.2.2.1.1 hP.1 (a - 2) 6 (am_w_at h2 ha) rfl hin hd kx
      · cases hs
    · cases hs
  · cases hs
theorem as_iS (C : am_Cx base aF aS L xs dC dI dA p R s m args meth c y) (hd : decode (am_b y) pc = .ok (.iastore, 1)) (hs : am_iS pc al st h = some (.inl (pc', al', st', h'))) (kk : am_K base aF aS L xs dC dI dA p l e R s m args below meth c y n0 s0 Q pc' al' st' h') : am_K base aF aS L xs dC dI dA p l e R s m args below meth c y n0 s0 Q pc al st h := by
  unfold am_iS at hs
  split at hs
  · rename_i x i a r
    split at hs
    · rename_i n f ha
      split at hs
      · rename_i hc
        obtain ⟨h2, hc⟩ := hc
        have hin := am_in_iff hc
        obtain ⟨rfl, rfl, rfl, rfl⟩ := am_nx_eq hs
        intro H locs ls cells slots e1 e2 hP hS hl
        show W _ _ _ _ _ _ _ _ _ _ _ _ _ _ _ (F0 m pc ls (.int x :: .int i :: .ref (am_ad base aF aS a) :: r.map (am_v (am_ad base aF aS))))
        rw [am_ad_ge h2]
        refine W.iast C.1.1 C.1.2.1 (hP.1 (a - 2) _ (am_w_at h2 ha)) ((C.2.2.2.1.1.2 0 _ rfl).1 n (fun j => .int (f j))) (fun q => by cases q) (by show ¬ (i < 0 ∨ (arrV _ _ _).slots.size ≤ _); rw [arrV_size]; exact hin) rfl rfl hd fun H1 g1 g2 g3 => ?_
        obtain ⟨a1, a2⟩ := am_put_cell (k := i.toNatClampNeg) (c1 := .inl (0, n, .inl (upd f i.toNatClampNeg x))) hP hS h2 ha (by
          show H1[base + (a - 2)]? = some (vp_cell _ _)
          rw [g1]
          show some ((arrV (dA 0) n (fun j => .int (f j))).setSlot _ _) = some (arrV (dA 0) n (fun j => .int (upd f i.toNatClampNeg x j)))
          rw [arrV_store]
          congr 2
          funext q
          by_cases hq : q = i.toNatClampNeg
          · subst hq
            simp [updV, upd]
            try rfl
          · simp [updV, upd, hq]) g2 g3
        exact kk H1 _ ls cells slots (by rw [List.length_set]; exact e1) (by rw [am_sz_set (c1 := .inl (0, n, .inl (upd f i.toNatClampNeg x))) ha rfl]; exact e2) a1 a2 hl
      · cases hs
    · cases hs
  · cases hs
theorem as_bS (C : am_Cx base aF aS L xs dC dI dA p R s m args meth c y) (hd : decode (am_b y) pc = .ok (.bastore, 1)) (hs : am_bS pc al st h = some (.inl (pc', al', st', h'))) (kk : am_K base aF aS L xs dC dI dA p l e R s m args below meth c y n0 s0 Q pc' al' st' h') : am_K base aF aS L xs dC dI dA p l e R s m args below meth c y n0 s0 Q pc al st h := by
  unfold am_bS at hs
  split at hs
  · rename_i x i a r
    split at hs
    · rename_i n f ha
      split at hs
      · rename_i hc
        obtain ⟨h2, hc⟩ := hc
        have hin := am_in_iff hc
        obtain ⟨rfl, rfl, rfl, rfl⟩ := am_nx_eq hs
        intro H locs ls cells slots e1 e2 hP hS hl
        show W _ _ _ _ _ _ _ _ _ _ _ _ _ _ _ (F0 m pc ls (.int x :: .int i :: .ref (am_ad base aF aS a) :: r.map (am_v (am_ad base aF aS))))
        rw [am_ad_ge h2]
        refine W.bast C.1.1 C.1.2.1 (hP.1 (a - 2) _ (am_w_at h2 ha)) ((C.2.2.2.1.1.2 1 _ rfl).1 n (fun j => .int (f j))) (fun q => by cases q) (by show ¬ (i < 0 ∨ (arrV _ _ _).slots.size ≤ _); rw [arrV_size]; exact hin) rfl rfl hd fun H1 g1 g2 g3 => ?_
        obtain ⟨a1, a2⟩ := am_put_cell (k := i.toNatClampNeg) (c1 := .inl (1, n, .inl (upd f i.toNatClampNeg (vp_nar .byte x)))) hP hS h2 ha (by
          show H1[base + (a - 2)]? = some (vp_cell _ _)
          rw [g1]
          show some ((arrV (dA 1) n (fun j => .int (f j))).setSlot _ _) = some (arrV (dA 1) n (fun j => .int (upd f i.toNatClampNeg (vp_nar .byte x) j)))
          rw [arrV_store]
          congr 2
          funext q
          by_cases hq : q = i.toNatClampNeg
          · subst hq
            simp [updV, upd, vp_nar]
            try rfl
          · simp [updV, upd, vp_nar, hq]) g2 g3
        exact kk H1 _ ls cells slots (by rw [List.length_set]; exact e1) (by rw [am_sz_set (c1 := .inl (1, n, .inl (upd f i.toNatClampNeg (vp_nar .byte x)))) ha rfl]; exact e2) a1 a2 hl
      · cases hs
    · rename_i n f ha
      split at hs
      · rename_i hc
        obtain ⟨h2, hc⟩ := hc
        have hin := am_in_iff hc
        obtain ⟨rfl, rfl, rfl, rfl⟩ := am_nx_eq hs
        intro H locs ls cells slots e1 e2 hP hS hl
        show W _ _ _ _ _ _ _ _ _ _ _ _ _ _ _ (F0 m pc ls (.int x :: .int i :: .ref (am_ad base aF aS a) :: r.map (am_v (am_ad base aF aS))))
        rw [am_ad_ge h2]
        refine W.zast C.1.1 C.1.2.1 (hP.1 (a - 2) _ (am_w_at h2 ha)) ((C.2.2.2.1.1.2 2 _ rfl).1 n (fun j => .int (f j))) (fun q => by cases q) (by show ¬ (i < 0 ∨ (arrV _ _ _).slots.size ≤ _); rw [arrV_size]; exact hin) rfl rfl hd fun H1 g1 g2 g3 => ?_
        obtain ⟨a1, a2⟩ := am_put_cell (k := i.toNatClampNeg) (c1 := .inl (2, n, .inl (upd f i.toNatClampNeg (vp_nar .boolean x)))) hP hS h2 ha (by
          show H1[base + (a - 2)]? = some (vp_cell _ _)
          rw [g1]
          show some ((arrV (dA 2) n (fun j => .int (f j))).setSlot _ _) = some (arrV (dA 2) n (fun j => .int (upd f i.toNatClampNeg (vp_nar .boolean x) j)))
          rw [arrV_store]
          congr 2
          funext q
          by_cases hq : q = i.toNatClampNeg
          · subst hq
            simp [updV, upd, vp_nar]
            try rfl
          · simp [updV, upd, vp_nar, hq]) g2 g3
        exact kk H1 _ ls cells slots (by rw [List.length_set]; exact e1) (by rw [am_sz_set (c1 := .inl (2, n, .inl (upd f i.toNatClampNeg (vp_nar .boolean x)))) ha rfl]; exact e2) a1 a2 hl
      · cases hs
    · cases hs
  · cases hs
theorem as_lS (C : am_Cx base aF aS L xs dC dI dA p R s m args meth c y) (hd : decode (am_b y) pc = .ok (.lastore, 1)) (hs : am_lS pc al st h = some (.inl (pc', al', st', h'))) (kk : am_K base aF aS L xs dC dI dA p l e R s m args below meth c y n0 s0 Q pc' al' st' h') : am_K base aF aS L xs dC dI dA p l e R s m args below meth c y n0 s0 Q pc al st h := by
  unfold am_lS at hs
  split at hs
  · rename_i x i a r
    split at hs
    · rename_i n f ha
      split at hs
      · rename_i hc
        obtain ⟨h2, hc⟩ := hc
        have hin := am_in_iff hc
        obtain ⟨rfl, rfl, rfl, rfl⟩ := am_nx_eq hs
        intro H locs ls cells slots e1 e2 hP hS hl
        show W _ _ _ _ _ _ _ _ _ _ _ _ _ _ _ (F0 m pc ls (.long x :: .int i :: .ref (am_ad base aF aS a) :: r.map (am_v (am_ad base aF aS))))
        rw [am_ad_ge h2]
        refine W.last C.1.1 C.1.2.1 (hP.1 (a - 2) _ (am_w_at h2 ha)) ((C.2.2.2.1.1.2 3 _ rfl).1 n (fun j => .long (f j))) (fun q => by cases q) (by show ¬ (i < 0 ∨ (arrV _ _ _).slots.size ≤ _); rw [arrV_size]; exact hin) rfl rfl hd fun H1 g1 g2 g3 => ?_
        obtain ⟨a1, a2⟩ := am_put_cell (k := i.toNatClampNeg) (c1 := .inl (3, n, .inr (.inl (vp_updL f i.toNatClampNeg x)))) hP hS h2 ha (by
          show H1[base + (a - 2)]? = some (vp_cell _ _)
          rw [g1]
          show some ((arrV (dA 3) n (fun j => .long (f j))).setSlot _ _) = some (arrV (dA 3) n (fun j => .long (vp_updL f i.toNatClampNeg x j)))
          rw [arrV_store]
          congr 2
          funext q
          by_cases hq : q = i.toNatClampNeg
          · subst hq
            simp [updV, vp_updL]
            try rfl
          · simp [updV, vp_updL, hq]) g2 g3
        exact kk H1 _ ls cells slots (by rw [List.length_set]; exact e1) (by rw [am_sz_set (c1 := .inl (3, n, .inr (.inl (vp_updL f i.toNatClampNeg x)))) ha rfl]; exact e2) a1 a2 hl
      · cases hs
    · cases hs
  · cases hs
end SIM
