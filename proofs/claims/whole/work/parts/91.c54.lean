/-! All together: the run of the law; printed by wip/whole/gen_c54.py. -/
theorem sz_app : ∀ (a b : AH), am_sz (a ++ b) = am_sz a + am_sz b
  | [], b => by rw [List.nil_append]; show _ = 0 + _; omega
  | c :: a, b => by
    show am_z c + am_sz (a ++ b) = am_z c + am_sz a + am_sz b
    rw [sz_app a b]
    omega
theorem SM_sh (f : Nat → Nat) : ∀ n, SM f (n + 1) = f 0 + SM (fun b => f (b + 1)) n
  | 0 => by
    show 0 + f 0 = f 0 + 0
    omega
  | n + 1 => by
    rw [SM_s, SM_sh f n, SM_s]
    omega
/-- a bound by a bound of each cell -/
theorem sz_le : ∀ (h : AH) (f : Nat → Nat), (∀ (b : Nat) (c : AC), h[b]? = some c → am_z c ≤ f b) → am_sz h ≤ SM f h.length
  | [], f, _ => Nat.zero_le _
  | c :: h, f, hz => by
    rw [List.length_cons, SM_sh]
    have h1 := hz 0 c rfl
    have h2 := sz_le h (fun b => f (b + 1)) (fun b d e => hz (b + 1) d (by rw [List.getElem?_cons_succ]; exact e))
    show am_z c + am_sz h ≤ _
    omega
theorem rf_len {g : Nat → Int32} : (rf_M g).length = 58 := by
  unfold rf_M
  rfl
theorem z_rf (A : Nat → Nat → Int32) (j : Nat) : am_z (rf_c A j) = rf_n.getD j 0 := rfl
def szF (L b : Nat) : Nat := if b = 0 then 7 else if b = 1 then L else if b < 146 then (cs_tab.getD (b - 2) (0, 0)).2 else if b = 146 then 58 else if b < 174 then rf_n.getD (b - 147) 0 else 64
theorem sz_174 (L : Nat) : SM (szF L) 174 = SM (szF 0) 174 + L := by
  have e : ∀ n, 2 ≤ n → SM (szF L) n = SM (szF 0) n + L := by
    intro n
    induction n with
    | zero => exact fun h => absurd h (by decide)
    | succ n ih =>
      intro h
      by_cases e : n = 1
      · subst e
        show 0 + 7 + L = 0 + 7 + 0 + L
        omega
      · rw [SM_s, SM_s, ih (by omega)]
        have : szF L n = szF 0 n := by
          unfold szF
          rw [if_neg e, if_neg e]
        omega
  exact e 174 (by omega)
theorem sz_0 : SM (szF 0) 174 ≤ 60000 := by decide +kernel
theorem sz_64 {L n : Nat} : szF L (174 + n) = 64 := by
  unfold szF
  rw [if_neg (by omega), if_neg (by omega), if_neg (by omega), if_neg (by omega), if_neg (by omega)]
theorem SM_k {f : Nat → Nat} {a v : Nat} (h : ∀ n, f (a + n) = v) : ∀ n, SM f (a + n) = SM f a + v * n
  | 0 => (Nat.add_zero _).symm
  | n + 1 => by
    show SM f (a + n) + f (a + n) = _
    rw [SM_k h n, h n, Nat.mul_succ]
    omega
theorem sz_hi (L n : Nat) : SM (szF L) (174 + n) = SM (szF L) 174 + 64 * n := SM_k (fun _ => sz_64) n
theorem z_cell {s : Nat × Nat} {G : Nat → Value} {B : Nat → Int32} {J : Nat → Int64} {R : Nat → Option Nat} : am_z (cs_cell s G B J R) = s.2 := by
  unfold cs_cell
  split
  · rfl
  · split
    · rfl
    · split
      · rfl
      · show ((List.range s.2).map G).length = s.2
        rw [List.length_map, List.length_range]
theorem lw_bound {n L : Nat} {xs : Nat → Int32} {h : AH} (hI : LwI n L xs h) (hn : n ≤ 520) : h.length ≤ 600002 ∧ am_sz h ≤ 7302250 + (7 + L) := by
  obtain ⟨S, G, B, J, R, g, A, W, hC, hR, h1, hWC, hWR⟩ := hI
  have hl := hC.1
  have h2 := hWC.1.2.1
  have h174 := hWC.1.1.1
  refine ⟨by omega, ?_⟩
  have hz : am_sz h ≤ SM (szF L) h.length := sz_le h (szF L) (fun b c e => by
    have hb : b < h.length := (List.getElem?_eq_some_iff.mp e).1
    unfold szF
    by_cases e0 : b = 0
    · rw [if_pos e0]
      rw [e0, hC.2.1] at e
      cases e
      exact Nat.le_refl _
    · rw [if_neg e0]
      by_cases e1 : b = 1
      · rw [if_pos e1]
        rw [e1, h1] at e
        cases e
        exact Nat.le_refl _
      · rw [if_neg e1]
        by_cases e2 : b < 146
        · rw [if_pos e2]
          rw [hC.2.2 b ⟨by omega, Or.inl e2, by omega⟩, hWC.1.1.2 b (by omega) e2] at e
          cases e
          rw [z_cell]
          exact Nat.le_refl _
        · rw [if_neg e2]
          by_cases e3 : b = 146
          · rw [if_pos e3]
            rw [e3, hR.1] at e
            rw [← Option.some.inj e]
            show (rf_M g).length ≤ 58
            exact Nat.le_of_eq rf_len
          · rw [if_neg e3]
            by_cases e4 : b < 174
            · rw [if_pos e4]
              have hj := hR.2 (b - 147) (by omega)
              rw [show 147 + (b - 147) = b by omega, e] at hj
              exact Nat.le_of_eq ((congrArg am_z (Option.some.inj hj)).trans (z_rf A (b - 147)))
            · rw [if_neg e4]
              rw [hC.2.2 b ⟨by omega, Or.inr (by omega), by omega⟩] at e
              cases e
              rw [z_cell]
              exact hWC.1.2.2.1 b (by omega) (by omega))
  obtain ⟨m, hm⟩ : ∃ m, h.length = 174 + m := ⟨h.length - 174, by omega⟩
  rw [hm, sz_hi, sz_174] at hz
  have := sz_0
  omega
/-- how it begins -/
def W00 : WS := (K00, fun _ => none, fun _ => 0, 0, -1, nI 0, fun _ => nI 0, (0, fun _ => 0))
theorem mF_fx : ∀ e ∈ fxl, e.1 = 2 → mF e.2.1 = .ref e.2.2 := by decide +kernel
theorem mF_i : mF 3 = .int (nI 0) ∧ mF 5 = .int (-1) ∧ mF 16 = .int (nI 0) := by decide +kernel
theorem fx_2up : ∀ e ∈ fxl, e.1 ≠ 2 → 3 ≤ e.1 ∧ e.1 < 146 := by decide +kernel
theorem wc_00 {S : CS} {G : Nat → Nat → Value} {B : Nat → Nat → Int32} {R : Nat → Nat → Option Nat} (h : MI 146 mF S G B R) : WC 0 (174, S.2) G B R W00 := by
  obtain ⟨h1, h2, h3, h4, ⟨h5, h6⟩, h7, h8, h9, h10, h11⟩ := h
  have hcs : ∀ a, cs_in S.1 a → cs_in ((174, S.2) : CS).1 a ∧ ((174, S.2) : CS).2 a = S.2 a := fun a ha => ⟨⟨ha.1, ha.2.1, by have := ha.2.2; show a < 174; omega⟩, rfl⟩
  have hF : FxG G := fun e he => by
    by_cases q : e.1 = 2
    · rw [q, h4]
      exact mF_fx e he q
    · have := fx_2up e he q
      exact h3 e he this.1 this.2
  refine ⟨⟨⟨Nat.le_refl _, h2⟩, Nat.le_refl _, fun a b1 b2 => absurd b2 (by show ¬ a < 174; omega), h6.cg hcs (fun z hz => Or.inl rfl) rfl, fun k b hk e => ?_⟩, hF, h5.cg K00_ok hcs (fun b _ _ => ⟨rfl, rfl, rfl⟩) (fun b _ _ => ⟨fun _ => rfl, fun _ => rfl⟩), K00_ok, ⟨fun k hk _ => h7 (by decide) k, fun _ => 0, fun q => absurd rfl q, fun k K hk e => by cases e⟩, ⟨Nat.zero_le _, (h4 3).trans mF_i.1, fun i hi => absurd hi (Nat.not_lt_zero i)⟩, (h4 5).trans mF_i.2.1, (h4 16).trans mF_i.2.2, fun e he => h11 (by decide) e, ⟨⟨h8 (by decide), fun q hq => absurd hq (Nat.not_lt_zero q)⟩, Nat.zero_le _, lat_0⟩, Or.inl (h9 (by decide)), Or.inl (h10 (by decide))⟩
  rw [h7 (by decide) k] at e
  cases e
theorem g_00 : g00 0 = nI 0 ∧ g00 1 = nI 0 ∧ g00 13 = nI 0 ∧ g00 14 = -1 ∧ g00 48 = nI 0 ∧ g00 50 = -1 ∧ g00 56 = nI 0 := by decide +kernel
theorem wr_00 : WR 0 g00 A00 W00 := by
  obtain ⟨e0, e1, e13, e14, e48, e50, e56⟩ := g_00
  have hz : ∀ j i, j ≠ 6 → A00 j i = nI 0 := fun j i hj => by
    unfold A00
    rw [if_neg hj]
    rfl
  refine ⟨⟨⟨fun j hj => ⟨hz _ _ (by decide), fun q hq => absurd hq (Nat.not_lt_zero q)⟩, fun i hi => absurd hi (Nat.not_lt_zero i), hz _ _ (by decide), hz _ _ (by decide)⟩, hz _ _ (by decide), fun l hl => absurd hl (Nat.not_lt_zero l), hz _ _ (by decide), fun q hq => absurd hq (Nat.not_lt_zero q)⟩, fun k hk => ⟨fun _ => hz _ _ (by decide), fun K e => by cases e⟩, fun i hi => ?_, ⟨e13, fun i hi => absurd hi (Nat.not_lt_zero i)⟩, e14, e0, fun e he => hz _ _ (by decide), ⟨e56, fun q hq => absurd hq (Nat.not_lt_zero q)⟩, e48, 0, Nat.le_refl _, e1, Or.inl e50⟩
  unfold A00
  rw [if_pos rfl]
  exact wd_00 i hi
theorem ref_at {h : AH} (hl : h.length = 146) : RefAt (h ++ (.inr (12, rf_M g00) :: (List.range 27).map (rf_c A00))) g00 A00 := by
  refine ⟨?_, fun j hj => ?_⟩
  · rw [List.getElem?_append_right (by omega), hl]
    rfl
  · rw [List.getElem?_append_right (by omega), hl, show 147 + j - 146 = j + 1 by omega, List.getElem?_cons_succ, List.getElem?_map, List.getElem?_range hj]
    rfl
theorem cl_13_7 : am_cl 13 7 = some 11 := by decide +kernel
theorem cl_13_10 : am_cl 13 10 = some 12 := by decide +kernel
theorem lm_9 : am_ml 13 9 = some (2, 113) := by decide +kernel
theorem lm_12 : am_ml 13 12 = some (2, 177) := by decide +kernel
theorem lz_113 : (am_np 113 = 0 ∧ am_L 113 = 1) := by decide +kernel
theorem lz_177 : (am_np 177 = 0 ∧ am_L 177 = 1) := by decide +kernel
theorem rn_nw {k pc x c : Nat} {al : AL} {st : List Value} {h : AH} {Q : Option Value → AH → Prop} (hd : decode (am_b 294) pc = .ok (.new x, 3)) (hl : am_cl 13 x = some c) (hc : c < 13 ∧ c ≠ 7) (kk : RN k 294 (pc + 3) al (.ref h.length :: st) (h ++ [.inr (c, am_df c)]) Q) : RN k 294 pc al st h Q := by
  refine rn_nx hd ?_ kk
  show (if 3 = 3 then am_nw (am_o 294) x pc al st h else none) = _
  rw [if_pos rfl, ow_294]
  simp only [am_nw, hl, Option.bind_some]
  rw [if_pos hc]
  rfl
theorem rn_ci {k pc x z b : Nat} {al al0 : AL} {r : List Value} {h : AH} {P Q : Option Value → AH → Prop} (hd : decode (am_b 294) pc = .ok (.invokespecial x, 3)) (hl : am_ml 13 x = some (2, z)) (hz : am_np z = 0 ∧ am_L z = al0.length) (hen : am_en [.ref b] al0.length = al0) (h8 : am_ok8 r = true) (hc : RN k z 0 al0 [] h P) (kk : ∀ v h', P v h' → RN (k + 1) 294 (pc + 3) al (v.toList ++ r) h' Q) : RN (k + 1) 294 pc al (.ref b :: r) h Q := by
  obtain ⟨z2, z3⟩ := hz
  refine rn_ca (z := z) (as := [.ref b]) (st' := r) (P := P) hd ?_ (by rw [z3, hen]) (by rw [z3, hen]; exact hc) kk
  show (if 3 = 3 then am_vi (am_o 294) x pc al (.ref b :: r) h else none) = _
  rw [if_pos rfl, ow_294]
  simp only [am_vi, hl, Option.bind_some, z2]
  rw [if_neg (by decide), if_pos (Or.inl trivial)]
  simp only [List.drop_zero, List.take_zero, List.reverse_nil]
  rw [if_pos h8]
theorem am_N11 : am_N 11 = 17 := by decide +kernel
theorem lw_start {L : Nat} {xs : Nat → Int32} {Q : Option Value → AH → Prop} (hk : ∀ h', LwI 0 L xs h' → RN 81 294 18 [some (.ref 1), some (.ref 2), some (.ref 146), some (.int (nI 0))] [] h' Q) : RN 81 294 0 [some (.ref 1), none, none, none] [] (am_h0 L xs) Q := by
  have hC0 : ClsAt (am_h0 L xs) (2, fun _ => (0, 0)) (fun _ _ => .null) (fun _ _ => 0) (fun _ _ => 0) (fun _ _ => none) := ⟨rfl, rfl, fun a ha => absurd ha.2.2 (by show ¬ a < 2; have := ha.1; omega)⟩
  obtain ⟨p1, p2⟩ := hC0.push (c := .inr (11, am_df 11)) (100 + 11, am_N 11) (fun j => defaultValue (am_ty 11 j)) (fun _ => 0) (fun _ => 0) (fun _ => none) (Nat.le_refl 2) (by rw [cs_o]; rfl)
  refine rn_nw d_294_0 cl_13_7 (by decide) ?_
  refine rn_nx (pc' := 4) (al' := [some (.ref 1), none, none, none]) (st' := [.ref 2, .ref 2]) d_294_3 rfl ?_
  refine rn_ci (b := 2) (al0 := [some (.ref 2)]) d_294_4 lm_9 lz_113 rfl rfl (rn_wk (show 3 ≤ 80 by decide) (k_init (J := _) rfl (by show upr (fun _ => (0, 0)) 2 (100 + 11, am_N 11) 2 = _; rw [upr_s, am_N11]) upr_s _ p1)) (fun v h1 hx => ?_)
  obtain ⟨S1, G1, B1, J1, R1, c1, f1, e1, hM⟩ := hx
  obtain rfl := e1
  have hl1 : h1.length = 146 := c1.1.trans hM.1
  have hs1 : h1[1]? = some (.inl (0, L, .inl xs)) := by
    rw [f1.2 1 (Or.inl (by decide)) (by show 1 < 3; decide)]
    rfl
  show RN 81 294 7 [some (.ref 1), none, none, none] [.ref 2] h1 Q
  refine rn_nx (pc' := 8) (al' := [some (.ref 1), some (.ref 2), none, none]) (st' := []) d_294_7 rfl ?_
  refine rn_nw d_294_8 cl_13_10 (by decide) ?_
  rw [hl1]
  refine rn_nx (pc' := 12) (al' := [some (.ref 1), some (.ref 2), none, none]) (st' := [.ref 146, .ref 146]) d_294_11 rfl ?_
  refine rn_ci (b := 146) (al0 := [some (.ref 146)]) d_294_12 lm_12 lz_177 rfl rfl (rn_wk (Nat.zero_le 80) (ref_init hl1)) (fun v h2 hx => ?_)
  obtain ⟨e2, e3⟩ := hx
  obtain rfl := e2
  subst e3
  show RN 81 294 15 [some (.ref 1), some (.ref 2), none, none] [.ref 146] _ Q
  refine rn_nx (pc' := 16) (al' := [some (.ref 1), some (.ref 2), some (.ref 146), none]) (st' := []) d_294_15 rfl ?_
  refine rn_nx (pc' := 17) (al' := [some (.ref 1), some (.ref 2), some (.ref 146), none]) (st' := [.int (nI 0)]) d_294_16 rfl ?_
  refine rn_nx (pc' := 18) (al' := [some (.ref 1), some (.ref 2), some (.ref 146), some (.int (nI 0))]) (st' := []) d_294_17 rfl ?_
  refine hk _ ⟨(174, S1.2), G1, B1, J1, R1, g00, A00, W00, ⟨?_, ?_, fun a ha => ?_⟩, ref_at hl1, ?_, wc_00 hM, wr_00⟩
  · rw [List.length_append, hl1]
    rfl
  · rw [List.getElem?_append_left (by omega)]
    exact c1.2.1
  · have ha2 : a < 174 := ha.2.2
    have ha3 := ha.2.1
    rw [List.getElem?_append_left (by omega)]
    exact c1.2.2 a ⟨ha.1, ha.2.1, by rw [hM.1]; omega⟩
  · rw [List.getElem?_append_left (by omega)]
    exact hs1
theorem am_pure {L : Nat} {xs : Nat → Int32} (hL : L ≤ 3072) : ∃ (f : Nat) (h' : AH), am_exec f 1000 294 0 (am_en [.ref 1] 4) [] (am_h0 L xs) = some (some (.int 1), h') ∧ h'.length ≤ 600002 ∧ am_sz h' ≤ 7302250 + (7 + L) := by
  have hrun : RN 81 294 0 [some (.ref 1), none, none, none] [] (am_h0 L xs) (fun r h' => r = some (.int (nI 1)) ∧ h'.length ≤ 600002 ∧ am_sz h' ≤ 7302250 + (7 + L)) := lw_start (fun h' hI => lw_loop hL (fun n h2 hn hI2 => ⟨rfl, lw_bound hI2 hn⟩) L 0 h' (by omega) (by omega) hI)
  obtain ⟨f, r, h', e, e2, e3⟩ := hrun 1000 (by decide)
  subst e2
  exact ⟨f, h', e, e3⟩
