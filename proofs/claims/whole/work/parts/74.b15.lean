/-! Mates, both; transversals of the class; printed by wip/whole/gen_b15.py. -/
/-- what is taken: row by row, and as one set of cells -/
def TkU (n : Nat) (tk : Nat → Nat) (u : Nat) : Prop := ∀ x, x < n → tk x < 64 ∧ ∀ y, y < n → (tk x).testBit y = u.testBit (n * x + y)
theorem TkU.m {n : Nat} {tk : Nat → Nat} {u r : Nat} (h : TkU n tk u) (hn : n ≤ 6) (hr : r < FA n) : TkU n (fun x => tk x ||| 1 * 2 ^ pmE n r x) (u ||| mkM n r) := fun x hx => by
  have hP := pm_per hn hr
  have hp := hP.1 x hx
  refine ⟨Nat.or_lt_two_pow (n := 6) (h x hx).1 (tw_64 (by omega)), fun y hy => ?_⟩
  rw [Nat.testBit_or, Nat.testBit_or, (h x hx).2 y hy, Nat.one_mul, Nat.testBit_two_pow]
  congr 1
  rw [Bool.eq_iff_iff, mkM_bit, decide_eq_true_eq]
  constructor
  · intro e
    exact ⟨x, hx, by rw [e]⟩
  · rintro ⟨z, hz, e⟩
    obtain ⟨e1, e2⟩ := dm_i (hP.1 z hz) hy e
    rw [← e1]
    exact e2
theorem un_mark : ∀ t, t < 64 → ∀ p, p < 6 → t.testBit p = false → (t ||| 1 * 2 ^ p) &&& ((1 * 2 ^ p) ^^^ 4294967295) = t := by decide +kernel
def mtG (n r col : Nat) (tk : Nat → Nat) (x : Nat) : Nat := if pmE n r 0 = col ∧ ∀ j, j < x → (tk j).testBit (pmE n r j) = false then 1 else 0
theorem mtG_le {n r col : Nat} {tk : Nat → Nat} {x : Nat} : mtG n r col tk x ≤ 1 := by unfold mtG; split <;> omega
theorem mtG_t {n r col : Nat} {tk : Nat → Nat} {x : Nat} (h : 0 < mtG n r col tk x) : pmE n r 0 = col ∧ ∀ j, j < x → (tk j).testBit (pmE n r j) = false := by
  unfold mtG at h
  split at h
  next e => exact e
  · omega
theorem mtG_f {n r col : Nat} {tk : Nat → Nat} {x : Nat} (h : mtG n r col tk x = 0) : ¬ (pmE n r 0 = col ∧ ∀ j, j < x → (tk j).testBit (pmE n r j) = false) := by
  unfold mtG at h
  split at h
  · cases h
  next e => exact e
theorem mt_iff {n r col u : Nat} {tk : Nat → Nat} (h : TkU n tk u) (hn : n ≤ 6) (hr : r < FA n) : (pmE n r 0 = col ∧ ∀ j, j < n → (tk j).testBit (pmE n r j) = false) ↔ (pmE n r 0 = col ∧ mkM n r &&& u = 0) := by
  rw [mkM_and]
  constructor
  · exact fun e => ⟨e.1, fun x hx => by rw [← (h x hx).2 _ ((pm_per hn hr).1 x hx)]; exact e.2 x hx⟩
  · exact fun e => ⟨e.1, fun x hx => by rw [(h x hx).2 _ ((pm_per hn hr).1 x hx)]; exact e.2 x hx⟩
def MtC (n : Nat) (L : List Nat) (k : Nat) : Prop := ∀ {g : Nat → Int32} {A : Nat → Nat → Int32} {col u : Nat} {tk : Nat → Nat}, g 6 = nI n → g 40 = nI L.length → (∀ j, j < L.length → A 21 j = nI (L.getD j 0)) → (∀ x, x < n → A 22 x = nI (tk x)) → TkU n tk u → col + k = n → RR (k + 2) 266 0 [some (.ref 146), some (.int (nI col)), none, none, none, none] [] g A (fun r g' A' => r = some (.int (nI (mtM n L k col u))) ∧ g' = g ∧ Ksm A A' ∧ A' 21 = A 21 ∧ ∀ x, x < n → A' 22 x = nI (tk x))
theorem s_mates_0 {n : Nat} {L : List Nat} (hn6 : n ≤ 6) : MtC n L 0 := by
  intro g A col u tk h6 h40 h21 h22 hT hk
  refine rr_nx (pc' := 1) (al' := [some (.ref 146), some (.int (nI col)), none, none, none, none]) (st' := [.int (nI col)]) d_266_0 (fun _ => rfl) ?_
  refine rr_nx (pc' := 2) (al' := [some (.ref 146), some (.int (nI col)), none, none, none, none]) (st' := [.ref 146, .int (nI col)]) d_266_1 (fun _ => rfl) ?_
  refine rr_gn d_266_2 mo_266 fl_127 rfl h6 ?_
  refine rn_cne (t := 10) d_266_5 (by decide) (by first | omega | assumption | exact cu_36 (by omega) (cu_lt (by omega) (by omega))) (by first | omega | assumption | exact cu_36 (by omega) (cu_lt (by omega) (by omega))) (fun c5 => ?_) (fun c5 => ?_)
  · omega
  · refine rn_ic (v := 1) d_266_8 (by decide) ?_
    exact rr_ri d_266_9 mr_266 rfl ⟨rfl, rfl, Ksm.rf, rfl, h22⟩
theorem s_mates_s {n k : Nat} {L : List Nat} (hn6 : n ≤ 6) (hLF : ∀ r, r ∈ L → r < FA n) (hL720 : L.length ≤ 720) (ih : MtC n L k) : MtC n L (k + 1) := by
  intro g A col u tk h6 h40 h21 h22 hT hk
  refine rr_nx (pc' := 1) (al' := [some (.ref 146), some (.int (nI col)), none, none, none, none]) (st' := [.int (nI col)]) d_266_0 (fun _ => rfl) ?_
  refine rr_nx (pc' := 2) (al' := [some (.ref 146), some (.int (nI col)), none, none, none, none]) (st' := [.ref 146, .int (nI col)]) d_266_1 (fun _ => rfl) ?_
  refine rr_gn d_266_2 mo_266 fl_127 rfl h6 ?_
  refine rn_cne (t := 10) d_266_5 (by decide) (by first | omega | assumption | exact cu_36 (by omega) (cu_lt (by omega) (by omega))) (by first | omega | assumption | exact cu_36 (by omega) (cu_lt (by omega) (by omega))) (fun c5 => ?_) (fun c5 => ?_)
  · refine rn_ic (v := 0) d_266_10 (by decide) ?_
    refine rr_nx (pc' := 12) (al' := [some (.ref 146), some (.int (nI col)), some (.int (nI 0)), none, none, none]) (st' := []) d_266_11 (fun _ => rfl) ?_
    refine rn_ic (v := 0) d_266_12 (by decide) ?_
    refine rr_nx (pc' := 14) (al' := [some (.ref 146), some (.int (nI col)), some (.int (nI 0)), some (.int (nI 0)), none, none]) (st' := []) d_266_13 (fun _ => rfl) ?_
    refine rr_al (congrArg (fun z__ : Nat => ([some (.ref 146), some (.int (nI col)), some (.int (nI z__)), some (.int (nI 0)), none, none] : AL)) (show 0 = SM (mtF n L k col u) 0 by rfl)) ?_
    refine rr_upw (al := fun i w_ => [some (.ref 146), some (.int (nI col)), some (.int (nI (SM (mtF n L k col u) i))), some (.int (nI i)), none, none]) (G := fun i w_ => g) (B := fun i w_ => w_) (P := fun i w_ => w_ 21 = A 21 ∧ Ksm A w_ ∧ ∀ x, x < n → w_ 22 x = nI (tk x)) (n := L.length) (fun i w_ hi pi ihi => ?_) (fun w_ pi => ?_) 0 A (by omega) (⟨rfl, Ksm.rf, h22⟩)
    · show RR _ _ 14 [some (.ref 146), some (.int (nI col)), some (.int (nI (SM (mtF n L k col u) i))), some (.int (nI i)), none, none] [] g w_ _
      obtain ⟨r, hr⟩ : ∃ r, L.getD i 0 = r := ⟨_, rfl⟩
      have hrF : r < FA n := by rw [← hr]; exact hLF _ (gD_mem hi)
      have hP := pm_per hn6 hrF
      refine rr_nx (pc' := 15) (al' := [some (.ref 146), some (.int (nI col)), some (.int (nI (SM (mtF n L k col u) i))), some (.int (nI i)), none, none]) (st' := [.int (nI i)]) d_266_14 (fun _ => rfl) ?_
      refine rr_nx (pc' := 16) (al' := [some (.ref 146), some (.int (nI col)), some (.int (nI (SM (mtF n L k col u) i))), some (.int (nI i)), none, none]) (st' := [.ref 146, .int (nI i)]) d_266_15 (fun _ => rfl) ?_
      refine rr_gn d_266_16 mo_266 fl_325 rfl h40 ?_
      refine rn_cge (t := 217) d_266_19 (by decide) (by first | omega | assumption | exact cu_36 (by omega) (cu_lt (by omega) (by omega))) (by first | omega | assumption | exact cu_36 (by omega) (cu_lt (by omega) (by omega))) (fun c19 => ?_) (fun c19 => ?_)
      · omega
      · refine rr_nx (pc' := 23) (al' := [some (.ref 146), some (.int (nI col)), some (.int (nI (SM (mtF n L k col u) i))), some (.int (nI i)), none, none]) (st' := [.ref 146]) d_266_22 (fun _ => rfl) ?_
        refine rr_nx (pc' := 24) (al' := [some (.ref 146), some (.int (nI col)), some (.int (nI (SM (mtF n L k col u) i))), some (.int (nI i)), none, none]) (st' := [.ref 146, .ref 146]) d_266_23 (fun _ => rfl) ?_
        refine rr_gf (v := .ref (147 + 21)) d_266_24 mo_266 fl_79 rfl ?_
        refine rr_nx (pc' := 28) (al' := [some (.ref 146), some (.int (nI col)), some (.int (nI (SM (mtF n L k col u) i))), some (.int (nI i)), none, none]) (st' := [.int (nI i), .ref (147 + 21), .ref 146]) d_266_27 (fun _ => rfl) ?_
        refine rr_ia (j := 21) (v := (nI r)) d_266_28 (by decide) rfl (by decide) (show i < 720 by have := hL720; omega) (by rw [pi.1, h21 i hi, hr]) ?_
        refine rr_nx (pc' := 30) (al' := [some (.ref 146), some (.int (nI col)), some (.int (nI (SM (mtF n L k col u) i))), some (.int (nI i)), none, none]) (st' := [.ref 146, .int (nI r), .ref 146]) d_266_29 (fun _ => rfl) ?_
        refine rr_gn d_266_30 mo_266 fl_127 rfl h6 ?_
        refine rr_cv (as := [.int (nI r), .int (nI n)]) (al0 := [some (.ref 146), some (.int (nI r)), some (.int (nI n)), none, none, none, none, none, none]) (r := []) d_266_33 mo_266 ml_273 mz_234 rfl rfl rfl (rr_wk (Nat.le_of_ble_eq_true rfl) (s_permutes (n := n) (r := r) (by omega) (by exact hrF))) (fun v1 g1 A1 h1 => ?_)
        obtain ⟨q0_, q1_, w33, q9_, hw33⟩ := h1
        obtain rfl := q0_
        obtain rfl := q1_.symm
        obtain rfl := q9_
        show RR _ _ 36 [some (.ref 146), some (.int (nI col)), some (.int (nI (SM (mtF n L k col u) i))), some (.int (nI i)), none, none] [] g (rf_u w_ 13 w33) _
        refine rr_nx (pc' := 37) (al' := [some (.ref 146), some (.int (nI col)), some (.int (nI (SM (mtF n L k col u) i))), some (.int (nI i)), none, none]) (st' := [.ref 146]) d_266_36 (fun _ => rfl) ?_
        refine rr_gf (v := .ref (147 + 13)) d_266_37 mo_266 fl_55 rfl ?_
        refine rn_ic (v := 0) d_266_40 (by decide) ?_
        refine rr_ia (j := 13) (v := (nI (pmE n r 0))) d_266_41 (by decide) rfl (by decide) (show 0 < 6 by first | omega | assumption | exact cu_36 (by omega) (cu_lt (by omega) (by omega))) (hw33 0 (by omega)) ?_
        refine rr_nx (pc' := 43) (al' := [some (.ref 146), some (.int (nI col)), some (.int (nI (SM (mtF n L k col u) i))), some (.int (nI i)), none, none]) (st' := [.int (nI col), .int (nI (pmE n r 0))]) d_266_42 (fun _ => rfl) ?_
        refine rn_cne (t := 50) d_266_43 (by decide) (by have := hP.1 0 (by omega); omega) (by omega) (fun c43 => ?_) (fun c43 => ?_)
        · refine rn_ic (v := 0) d_266_50 (by decide) ?_
          refine rr_nx (pc' := 53) (al' := [some (.ref 146), some (.int (nI col)), some (.int (nI (SM (mtF n L k col u) i))), some (.int (nI i)), some (.int (nI 0)), none]) (st' := []) d_266_51 (fun _ => rfl) ?_
          refine rn_ic (v := 0) d_266_53 (by decide) ?_
          refine rr_nx (pc' := 56) (al' := [some (.ref 146), some (.int (nI col)), some (.int (nI (SM (mtF n L k col u) i))), some (.int (nI i)), some (.int (nI 0)), some (.int (nI 0))]) (st' := []) d_266_54 (fun _ => rfl) ?_
          refine rr_al (congrArg (fun z__ : Nat => ([some (.ref 146), some (.int (nI col)), some (.int (nI (SM (mtF n L k col u) i))), some (.int (nI i)), some (.int (nI z__)), some (.int (nI 0))] : AL)) (show 0 = mtG n r col tk 0 by first | exact (if_pos ⟨c43, fun j hj => absurd hj (Nat.not_lt_zero j)⟩).symm | exact (if_neg (fun e => c43 e.1)).symm)) ?_
          refine rr_up (al := fun x => [some (.ref 146), some (.int (nI col)), some (.int (nI (SM (mtF n L k col u) i))), some (.int (nI i)), some (.int (nI (mtG n r col tk x))), some (.int (nI x))]) (G := fun x => g) (B := fun x => (rf_u w_ 13 w33)) (P := fun x => True) (n := n) (fun x hx px ihx => ?_) (fun px => ?_) 0  (by omega) (trivial)
          · show RR _ _ 56 [some (.ref 146), some (.int (nI col)), some (.int (nI (SM (mtF n L k col u) i))), some (.int (nI i)), some (.int (nI (mtG n r col tk x))), some (.int (nI x))] [] g (rf_u w_ 13 w33) _
            have hg4 := mtG_le (n := n) (r := r) (col := col) (tk := tk) (x := x)
            have hpx := hP.1 x hx
            have htx := (hT x hx).1
            refine rr_nx (pc' := 58) (al' := [some (.ref 146), some (.int (nI col)), some (.int (nI (SM (mtF n L k col u) i))), some (.int (nI i)), some (.int (nI (mtG n r col tk x))), some (.int (nI x))]) (st' := [.int (nI x)]) d_266_56 (fun _ => rfl) ?_
            refine rr_nx (pc' := 59) (al' := [some (.ref 146), some (.int (nI col)), some (.int (nI (SM (mtF n L k col u) i))), some (.int (nI i)), some (.int (nI (mtG n r col tk x))), some (.int (nI x))]) (st' := [.ref 146, .int (nI x)]) d_266_58 (fun _ => rfl) ?_
            refine rr_gn d_266_59 mo_266 fl_127 rfl h6 ?_
            refine rn_cge (t := 103) d_266_62 (by decide) (by first | omega | assumption | exact cu_36 (by omega) (cu_lt (by omega) (by omega))) (by first | omega | assumption | exact cu_36 (by omega) (cu_lt (by omega) (by omega))) (fun c62 => ?_) (fun c62 => ?_)
            · omega
            · refine rr_nx (pc' := 67) (al' := [some (.ref 146), some (.int (nI col)), some (.int (nI (SM (mtF n L k col u) i))), some (.int (nI i)), some (.int (nI (mtG n r col tk x))), some (.int (nI x))]) (st' := [.int (nI (mtG n r col tk x))]) d_266_65 (fun _ => rfl) ?_
              refine rn_ieq (t := 94) d_266_67 (by decide) (by first | omega | assumption | exact cu_36 (by omega) (cu_lt (by omega) (by omega))) (fun c67 => ?_) (fun c67 => ?_)
              · refine rn_ic (v := 0) d_266_94 (by decide) ?_
                refine rr_nx (pc' := 97) (al' := [some (.ref 146), some (.int (nI col)), some (.int (nI (SM (mtF n L k col u) i))), some (.int (nI i)), some (.int (nI 0)), some (.int (nI x))]) (st' := []) d_266_95 (fun _ => rfl) ?_
                refine rn_inc d_266_97 rfl rfl ?_
                show RR _ _ 100 [some (.ref 146), some (.int (nI col)), some (.int (nI (SM (mtF n L k col u) i))), some (.int (nI i)), some (.int (nI 0)), some (.int (nI (x + 1)))] [] g (rf_u w_ 13 w33) _
                refine rr_nx (pc' := 56) (al' := [some (.ref 146), some (.int (nI col)), some (.int (nI (SM (mtF n L k col u) i))), some (.int (nI i)), some (.int (nI 0)), some (.int (nI (x + 1)))]) (st' := []) d_266_100 (fun _ => rfl) ?_
                refine rr_al (congrArg (fun z__ : Nat => ([some (.ref 146), some (.int (nI col)), some (.int (nI (SM (mtF n L k col u) i))), some (.int (nI i)), some (.int (nI z__)), some (.int (nI (x + 1)))] : AL)) (show 0 = mtG n r col tk (x + 1) by first | exact (if_pos ⟨(mtG_t c67).1, all_s (mtG_t c67).2 (bt_e0.mp c87)⟩).symm | exact (if_neg (fun e => absurd (e.2 x (by omega)) (by rw [bt_p0.mp c87]; decide))).symm | exact (if_neg (fun e => mtG_f c67 ⟨e.1, fun j hj => e.2 j (by omega)⟩)).symm)) ?_
                exact ihx  (trivial)
              · refine rr_nx (pc' := 71) (al' := [some (.ref 146), some (.int (nI col)), some (.int (nI (SM (mtF n L k col u) i))), some (.int (nI i)), some (.int (nI (mtG n r col tk x))), some (.int (nI x))]) (st' := [.ref 146]) d_266_70 (fun _ => rfl) ?_
                refine rr_gf (v := .ref (147 + 22)) d_266_71 mo_266 fl_82 rfl ?_
                refine rr_nx (pc' := 76) (al' := [some (.ref 146), some (.int (nI col)), some (.int (nI (SM (mtF n L k col u) i))), some (.int (nI i)), some (.int (nI (mtG n r col tk x))), some (.int (nI x))]) (st' := [.int (nI x), .ref (147 + 22)]) d_266_74 (fun _ => rfl) ?_
                refine rr_ia (j := 22) (v := (nI (tk x))) d_266_76 (by decide) rfl (by decide) (show x < 6 by first | omega | assumption | exact cu_36 (by omega) (cu_lt (by omega) (by omega))) (pi.2.2 x hx) ?_
                refine rr_nx (pc' := 78) (al' := [some (.ref 146), some (.int (nI col)), some (.int (nI (SM (mtF n L k col u) i))), some (.int (nI i)), some (.int (nI (mtG n r col tk x))), some (.int (nI x))]) (st' := [.ref 146, .int (nI (tk x))]) d_266_77 (fun _ => rfl) ?_
                refine rr_gf (v := .ref (147 + 13)) d_266_78 mo_266 fl_55 rfl ?_
                refine rr_nx (pc' := 83) (al' := [some (.ref 146), some (.int (nI col)), some (.int (nI (SM (mtF n L k col u) i))), some (.int (nI i)), some (.int (nI (mtG n r col tk x))), some (.int (nI x))]) (st' := [.int (nI x), .ref (147 + 13), .int (nI (tk x))]) d_266_81 (fun _ => rfl) ?_
                refine rr_ia (j := 13) (v := (nI (pmE n r x))) d_266_83 (by decide) rfl (by decide) (show x < 6 by first | omega | assumption | exact cu_36 (by omega) (cu_lt (by omega) (by omega))) (hw33 x hx) ?_
                refine rn_shr d_266_84 (by first | omega | assumption | exact cu_36 (by omega) (cu_lt (by omega) (by omega))) (by first | omega | assumption | exact cu_36 (by omega) (cu_lt (by omega) (by omega))) ?_
                refine rn_ic (v := 1) d_266_85 (by decide) ?_
                refine rn_and d_266_86 ?_
                refine rn_ine (t := 94) d_266_87 (by decide) (by have := bt_lt (tk x) (pmE n r x); omega) (fun c87 => ?_) (fun c87 => ?_)
                · refine rn_ic (v := 0) d_266_94 (by decide) ?_
                  refine rr_nx (pc' := 97) (al' := [some (.ref 146), some (.int (nI col)), some (.int (nI (SM (mtF n L k col u) i))), some (.int (nI i)), some (.int (nI 0)), some (.int (nI x))]) (st' := []) d_266_95 (fun _ => rfl) ?_
                  refine rn_inc d_266_97 rfl rfl ?_
                  show RR _ _ 100 [some (.ref 146), some (.int (nI col)), some (.int (nI (SM (mtF n L k col u) i))), some (.int (nI i)), some (.int (nI 0)), some (.int (nI (x + 1)))] [] g (rf_u w_ 13 w33) _
                  refine rr_nx (pc' := 56) (al' := [some (.ref 146), some (.int (nI col)), some (.int (nI (SM (mtF n L k col u) i))), some (.int (nI i)), some (.int (nI 0)), some (.int (nI (x + 1)))]) (st' := []) d_266_100 (fun _ => rfl) ?_
                  refine rr_al (congrArg (fun z__ : Nat => ([some (.ref 146), some (.int (nI col)), some (.int (nI (SM (mtF n L k col u) i))), some (.int (nI i)), some (.int (nI z__)), some (.int (nI (x + 1)))] : AL)) (show 0 = mtG n r col tk (x + 1) by first | exact (if_pos ⟨(mtG_t c67).1, all_s (mtG_t c67).2 (bt_e0.mp c87)⟩).symm | exact (if_neg (fun e => absurd (e.2 x (by omega)) (by rw [bt_p0.mp c87]; decide))).symm | exact (if_neg (fun e => mtG_f c67 ⟨e.1, fun j hj => e.2 j (by omega)⟩)).symm)) ?_
                  exact ihx  (trivial)
                · refine rn_ic (v := 1) d_266_90 (by decide) ?_
                  refine rr_nx (pc' := 95) (al' := [some (.ref 146), some (.int (nI col)), some (.int (nI (SM (mtF n L k col u) i))), some (.int (nI i)), some (.int (nI (mtG n r col tk x))), some (.int (nI x))]) (st' := [.int (nI 1)]) d_266_91 (fun _ => rfl) ?_
                  refine rr_nx (pc' := 97) (al' := [some (.ref 146), some (.int (nI col)), some (.int (nI (SM (mtF n L k col u) i))), some (.int (nI i)), some (.int (nI 1)), some (.int (nI x))]) (st' := []) d_266_95 (fun _ => rfl) ?_
                  refine rn_inc d_266_97 rfl rfl ?_
                  show RR _ _ 100 [some (.ref 146), some (.int (nI col)), some (.int (nI (SM (mtF n L k col u) i))), some (.int (nI i)), some (.int (nI 1)), some (.int (nI (x + 1)))] [] g (rf_u w_ 13 w33) _
                  refine rr_nx (pc' := 56) (al' := [some (.ref 146), some (.int (nI col)), some (.int (nI (SM (mtF n L k col u) i))), some (.int (nI i)), some (.int (nI 1)), some (.int (nI (x + 1)))]) (st' := []) d_266_100 (fun _ => rfl) ?_
                  refine rr_al (congrArg (fun z__ : Nat => ([some (.ref 146), some (.int (nI col)), some (.int (nI (SM (mtF n L k col u) i))), some (.int (nI i)), some (.int (nI z__)), some (.int (nI (x + 1)))] : AL)) (show 1 = mtG n r col tk (x + 1) by first | exact (if_pos ⟨(mtG_t c67).1, all_s (mtG_t c67).2 (bt_e0.mp c87)⟩).symm | exact (if_neg (fun e => absurd (e.2 x (by omega)) (by rw [bt_p0.mp c87]; decide))).symm | exact (if_neg (fun e => mtG_f c67 ⟨e.1, fun j hj => e.2 j (by omega)⟩)).symm)) ?_
                  exact ihx  (trivial)
          · show RR _ _ 56 [some (.ref 146), some (.int (nI col)), some (.int (nI (SM (mtF n L k col u) i))), some (.int (nI i)), some (.int (nI (mtG n r col tk n))), some (.int (nI n))] [] g (rf_u w_ 13 w33) _
            have hg4 := mtG_le (n := n) (r := r) (col := col) (tk := tk) (x := n)
            refine rr_nx (pc' := 58) (al' := [some (.ref 146), some (.int (nI col)), some (.int (nI (SM (mtF n L k col u) i))), some (.int (nI i)), some (.int (nI (mtG n r col tk n))), some (.int (nI n))]) (st' := [.int (nI n)]) d_266_56 (fun _ => rfl) ?_
            refine rr_nx (pc' := 59) (al' := [some (.ref 146), some (.int (nI col)), some (.int (nI (SM (mtF n L k col u) i))), some (.int (nI i)), some (.int (nI (mtG n r col tk n))), some (.int (nI n))]) (st' := [.ref 146, .int (nI n)]) d_266_58 (fun _ => rfl) ?_
            refine rr_gn d_266_59 mo_266 fl_127 rfl h6 ?_
            refine rn_cge (t := 103) d_266_62 (by decide) (by first | omega | assumption | exact cu_36 (by omega) (cu_lt (by omega) (by omega))) (by first | omega | assumption | exact cu_36 (by omega) (cu_lt (by omega) (by omega))) (fun c62 => ?_) (fun c62 => ?_)
            · refine rr_nx (pc' := 105) (al' := [some (.ref 146), some (.int (nI col)), some (.int (nI (SM (mtF n L k col u) i))), some (.int (nI i)), some (.int (nI (mtG n r col tk n))), some (.int (nI n))]) (st' := [.int (nI (mtG n r col tk n))]) d_266_103 (fun _ => rfl) ?_
              refine rn_ine (t := 111) d_266_105 (by decide) (by first | omega | assumption | exact cu_36 (by omega) (cu_lt (by omega) (by omega))) (fun c105 => ?_) (fun c105 => ?_)
              · have hfr := mtG_t c105
                have hok := (mt_iff hT hn6 hrF).mp hfr
                refine rn_ic (v := 0) d_266_111 (by decide) ?_
                refine rr_nx (pc' := 114) (al' := [some (.ref 146), some (.int (nI col)), some (.int (nI (SM (mtF n L k col u) i))), some (.int (nI i)), some (.int (nI (mtG n r col tk n))), some (.int (nI 0))]) (st' := []) d_266_112 (fun _ => rfl) ?_
                refine rr_A (show (rf_u w_ 13 w33) = (rf_u (rf_u w_ 13 w33) 22 (w_ 22)) by exact rf_idn (by decide)) ?_
                refine rr_upw (al := fun y w22 => [some (.ref 146), some (.int (nI col)), some (.int (nI (SM (mtF n L k col u) i))), some (.int (nI i)), some (.int (nI (mtG n r col tk n))), some (.int (nI y))]) (G := fun y w22 => g) (B := fun y w22 => (rf_u (rf_u w_ 13 w33) 22 w22)) (P := fun y w22 => (∀ j, j < y → w22 j = nI ((fun x => tk x ||| 1 * 2 ^ pmE n r x) j)) ∧ ∀ j, y ≤ j → j < n → w22 j = nI (tk j)) (n := n) (fun y w22 hy py ihy => ?_) (fun w22 py => ?_) 0 (w_ 22) (by omega) (⟨all_0, fun j _ hj => pi.2.2 j hj⟩)
                · show RR _ _ 114 [some (.ref 146), some (.int (nI col)), some (.int (nI (SM (mtF n L k col u) i))), some (.int (nI i)), some (.int (nI (mtG n r col tk n))), some (.int (nI y))] [] g (rf_u (rf_u w_ 13 w33) 22 w22) _
                  have hpy := hP.1 y hy
                  refine rr_nx (pc' := 116) (al' := [some (.ref 146), some (.int (nI col)), some (.int (nI (SM (mtF n L k col u) i))), some (.int (nI i)), some (.int (nI (mtG n r col tk n))), some (.int (nI y))]) (st' := [.int (nI y)]) d_266_114 (fun _ => rfl) ?_
                  refine rr_nx (pc' := 117) (al' := [some (.ref 146), some (.int (nI col)), some (.int (nI (SM (mtF n L k col u) i))), some (.int (nI i)), some (.int (nI (mtG n r col tk n))), some (.int (nI y))]) (st' := [.ref 146, .int (nI y)]) d_266_116 (fun _ => rfl) ?_
                  refine rr_gn d_266_117 mo_266 fl_127 rfl h6 ?_
                  refine rn_cge (t := 148) d_266_120 (by decide) (by first | omega | assumption | exact cu_36 (by omega) (cu_lt (by omega) (by omega))) (by first | omega | assumption | exact cu_36 (by omega) (cu_lt (by omega) (by omega))) (fun c120 => ?_) (fun c120 => ?_)
                  · omega
                  · refine rr_nx (pc' := 124) (al' := [some (.ref 146), some (.int (nI col)), some (.int (nI (SM (mtF n L k col u) i))), some (.int (nI i)), some (.int (nI (mtG n r col tk n))), some (.int (nI y))]) (st' := [.ref 146]) d_266_123 (fun _ => rfl) ?_
                    refine rr_gf (v := .ref (147 + 22)) d_266_124 mo_266 fl_82 rfl ?_
                    refine rr_nx (pc' := 129) (al' := [some (.ref 146), some (.int (nI col)), some (.int (nI (SM (mtF n L k col u) i))), some (.int (nI i)), some (.int (nI (mtG n r col tk n))), some (.int (nI y))]) (st' := [.int (nI y), .ref (147 + 22)]) d_266_127 (fun _ => rfl) ?_
                    refine rr_nx (pc' := 130) (al' := [some (.ref 146), some (.int (nI col)), some (.int (nI (SM (mtF n L k col u) i))), some (.int (nI i)), some (.int (nI (mtG n r col tk n))), some (.int (nI y))]) (st' := [.int (nI y), .ref (147 + 22), .int (nI y), .ref (147 + 22)]) d_266_129 (fun _ => rfl) ?_
                    refine rr_ia (j := 22) (v := (nI (tk y))) d_266_130 (by decide) rfl (by decide) (show y < 6 by first | omega | assumption | exact cu_36 (by omega) (cu_lt (by omega) (by omega))) (py.2 y (Nat.le_refl y) hy) ?_
                    refine rn_ic (v := 1) d_266_131 (by decide) ?_
                    refine rr_nx (pc' := 133) (al' := [some (.ref 146), some (.int (nI col)), some (.int (nI (SM (mtF n L k col u) i))), some (.int (nI i)), some (.int (nI (mtG n r col tk n))), some (.int (nI y))]) (st' := [.ref 146, .int (nI 1), .int (nI (tk y)), .int (nI y), .ref (147 + 22)]) d_266_132 (fun _ => rfl) ?_
                    refine rr_gf (v := .ref (147 + 13)) d_266_133 mo_266 fl_55 rfl ?_
                    refine rr_nx (pc' := 138) (al' := [some (.ref 146), some (.int (nI col)), some (.int (nI (SM (mtF n L k col u) i))), some (.int (nI i)), some (.int (nI (mtG n r col tk n))), some (.int (nI y))]) (st' := [.int (nI y), .ref (147 + 13), .int (nI 1), .int (nI (tk y)), .int (nI y), .ref (147 + 22)]) d_266_136 (fun _ => rfl) ?_
                    refine rr_ia (j := 13) (v := (nI (pmE n r y))) d_266_138 (by decide) rfl (by decide) (show y < 6 by first | omega | assumption | exact cu_36 (by omega) (cu_lt (by omega) (by omega))) (hw33 y hy) ?_
                    refine rn_shl d_266_139 (by first | omega | assumption | exact cu_36 (by omega) (cu_lt (by omega) (by omega))) ?_
                    refine rn_or d_266_140 ?_
                    refine rr_iS (j := 22) (A1 := (rf_u (rf_u w_ 13 w33) 22 (upd w22 y (nI ((tk y) ||| (1 * 2 ^ (pmE n r y))))))) d_266_141 (by decide) rfl (by decide) (show y < 6 by first | omega | assumption | exact cu_36 (by omega) (cu_lt (by omega) (by omega))) rf_uw ?_
                    refine rn_inc d_266_142 rfl rfl ?_
                    show RR _ _ 145 [some (.ref 146), some (.int (nI col)), some (.int (nI (SM (mtF n L k col u) i))), some (.int (nI i)), some (.int (nI (mtG n r col tk n))), some (.int (nI (y + 1)))] [] g (rf_u (rf_u w_ 13 w33) 22 (upd w22 y (nI ((tk y) ||| (1 * 2 ^ (pmE n r y)))))) _
                    refine rr_nx (pc' := 114) (al' := [some (.ref 146), some (.int (nI col)), some (.int (nI (SM (mtF n L k col u) i))), some (.int (nI i)), some (.int (nI (mtG n r col tk n))), some (.int (nI (y + 1)))]) (st' := []) d_266_145 (fun _ => rfl) ?_
                    exact ihy (upd w22 y (nI ((tk y) ||| (1 * 2 ^ (pmE n r y))))) (⟨up_all (f := fun j => nI ((fun x => tk x ||| 1 * 2 ^ pmE n r x) j)) py.1 rfl, fun j h1 h2 => by rw [pk_un (by omega)]; exact py.2 j (by omega) h2⟩)
                · show RR _ _ 114 [some (.ref 146), some (.int (nI col)), some (.int (nI (SM (mtF n L k col u) i))), some (.int (nI i)), some (.int (nI (mtG n r col tk n))), some (.int (nI n))] [] g (rf_u (rf_u w_ 13 w33) 22 w22) _
                  refine rr_nx (pc' := 116) (al' := [some (.ref 146), some (.int (nI col)), some (.int (nI (SM (mtF n L k col u) i))), some (.int (nI i)), some (.int (nI (mtG n r col tk n))), some (.int (nI n))]) (st' := [.int (nI n)]) d_266_114 (fun _ => rfl) ?_
                  refine rr_nx (pc' := 117) (al' := [some (.ref 146), some (.int (nI col)), some (.int (nI (SM (mtF n L k col u) i))), some (.int (nI i)), some (.int (nI (mtG n r col tk n))), some (.int (nI n))]) (st' := [.ref 146, .int (nI n)]) d_266_116 (fun _ => rfl) ?_
                  refine rr_gn d_266_117 mo_266 fl_127 rfl h6 ?_
                  refine rn_cge (t := 148) d_266_120 (by decide) (by first | omega | assumption | exact cu_36 (by omega) (cu_lt (by omega) (by omega))) (by first | omega | assumption | exact cu_36 (by omega) (cu_lt (by omega) (by omega))) (fun c120 => ?_) (fun c120 => ?_)
                  · refine rr_nx (pc' := 149) (al' := [some (.ref 146), some (.int (nI col)), some (.int (nI (SM (mtF n L k col u) i))), some (.int (nI i)), some (.int (nI (mtG n r col tk n))), some (.int (nI n))]) (st' := [.int (nI (SM (mtF n L k col u) i))]) d_266_148 (fun _ => rfl) ?_
                    refine rr_nx (pc' := 150) (al' := [some (.ref 146), some (.int (nI col)), some (.int (nI (SM (mtF n L k col u) i))), some (.int (nI i)), some (.int (nI (mtG n r col tk n))), some (.int (nI n))]) (st' := [.ref 146, .int (nI (SM (mtF n L k col u) i))]) d_266_149 (fun _ => rfl) ?_
                    refine rr_nx (pc' := 151) (al' := [some (.ref 146), some (.int (nI col)), some (.int (nI (SM (mtF n L k col u) i))), some (.int (nI i)), some (.int (nI (mtG n r col tk n))), some (.int (nI n))]) (st' := [.int (nI col), .ref 146, .int (nI (SM (mtF n L k col u) i))]) d_266_150 (fun _ => rfl) ?_
                    refine rn_ic (v := 1) d_266_151 (by decide) ?_
                    refine rn_add d_266_152  ?_
                    refine rr_cv (as := [.int (nI (col + 1))]) (al0 := [some (.ref 146), some (.int (nI (col + 1))), none, none, none, none]) (r := [.int (nI (SM (mtF n L k col u) i))]) d_266_153 mo_266 ml_328 mz_266 rfl rfl rfl (rr_wk (Nat.le_refl _) (ih (tk := (fun x => tk x ||| 1 * 2 ^ pmE n r x)) h6 h40 (fun j hj => by rw [rf_u_n (by decide), rf_u_n (by decide), pi.1]; exact h21 j hj) (fun x hx => by rw [rf_u_s]; exact py.1 x hx) (hT.m hn6 hrF) (by omega))) (fun v1 g1 A2 h1 => ?_)
                    obtain ⟨q0_, q1_, k1, k2, k3⟩ := h1
                    obtain rfl := q0_
                    obtain rfl := q1_.symm
                    show RR _ _ 156 [some (.ref 146), some (.int (nI col)), some (.int (nI (SM (mtF n L k col u) i))), some (.int (nI i)), some (.int (nI (mtG n r col tk n))), some (.int (nI n))] [.int (nI (mtM n L k (col + 1) (u ||| mkM n r))), .int (nI (SM (mtF n L k col u) i))] g A2 _
                    refine rn_add d_266_156  ?_
                    refine rr_nx (pc' := 158) (al' := [some (.ref 146), some (.int (nI col)), some (.int (nI ((SM (mtF n L k col u) i) + (mtM n L k (col + 1) (u ||| mkM n r))))), some (.int (nI i)), some (.int (nI (mtG n r col tk n))), some (.int (nI n))]) (st' := []) d_266_157 (fun _ => rfl) ?_
                    refine rr_nx (pc' := 159) (al' := [some (.ref 146), some (.int (nI col)), some (.int (nI ((SM (mtF n L k col u) i) + (mtM n L k (col + 1) (u ||| mkM n r))))), some (.int (nI i)), some (.int (nI (mtG n r col tk n))), some (.int (nI n))]) (st' := [.ref 146]) d_266_158 (fun _ => rfl) ?_
                    refine rr_nx (pc' := 160) (al' := [some (.ref 146), some (.int (nI col)), some (.int (nI ((SM (mtF n L k col u) i) + (mtM n L k (col + 1) (u ||| mkM n r))))), some (.int (nI i)), some (.int (nI (mtG n r col tk n))), some (.int (nI n))]) (st' := [.ref 146, .ref 146]) d_266_159 (fun _ => rfl) ?_
                    refine rr_gf (v := .ref (147 + 21)) d_266_160 mo_266 fl_79 rfl ?_
                    refine rr_nx (pc' := 164) (al' := [some (.ref 146), some (.int (nI col)), some (.int (nI ((SM (mtF n L k col u) i) + (mtM n L k (col + 1) (u ||| mkM n r))))), some (.int (nI i)), some (.int (nI (mtG n r col tk n))), some (.int (nI n))]) (st' := [.int (nI i), .ref (147 + 21), .ref 146]) d_266_163 (fun _ => rfl) ?_
                    refine rr_ia (j := 21) (v := (nI r)) d_266_164 (by decide) rfl (by decide) (show i < 720 by have := hL720; omega) (by rw [k2, rf_u_n (by decide), rf_u_n (by decide), pi.1, h21 i hi, hr]) ?_
                    refine rr_nx (pc' := 166) (al' := [some (.ref 146), some (.int (nI col)), some (.int (nI ((SM (mtF n L k col u) i) + (mtM n L k (col + 1) (u ||| mkM n r))))), some (.int (nI i)), some (.int (nI (mtG n r col tk n))), some (.int (nI n))]) (st' := [.ref 146, .int (nI r), .ref 146]) d_266_165 (fun _ => rfl) ?_
                    refine rr_gn d_266_166 mo_266 fl_127 rfl h6 ?_
                    refine rr_cv (as := [.int (nI r), .int (nI n)]) (al0 := [some (.ref 146), some (.int (nI r)), some (.int (nI n)), none, none, none, none, none, none]) (r := []) d_266_169 mo_266 ml_273 mz_234 rfl rfl rfl (rr_wk (Nat.le_of_ble_eq_true rfl) (s_permutes (n := n) (r := r) (by omega) (by exact hrF))) (fun v1 g1 A1 h1 => ?_)
                    obtain ⟨q0_, q1_, w169, q9_, hw169⟩ := h1
                    obtain rfl := q0_
                    obtain rfl := q1_.symm
                    obtain rfl := q9_
                    show RR _ _ 172 [some (.ref 146), some (.int (nI col)), some (.int (nI ((SM (mtF n L k col u) i) + (mtM n L k (col + 1) (u ||| mkM n r))))), some (.int (nI i)), some (.int (nI (mtG n r col tk n))), some (.int (nI n))] [] g (rf_u A2 13 w169) _
                    refine rn_ic (v := 0) d_266_172 (by decide) ?_
                    refine rr_nx (pc' := 175) (al' := [some (.ref 146), some (.int (nI col)), some (.int (nI ((SM (mtF n L k col u) i) + (mtM n L k (col + 1) (u ||| mkM n r))))), some (.int (nI i)), some (.int (nI (mtG n r col tk n))), some (.int (nI 0))]) (st' := []) d_266_173 (fun _ => rfl) ?_
                    refine rr_A (show (rf_u A2 13 w169) = (rf_u (rf_u A2 13 w169) 22 (A2 22)) by exact rf_idn (by decide)) ?_
                    refine rr_upw (al := fun z w23 => [some (.ref 146), some (.int (nI col)), some (.int (nI ((SM (mtF n L k col u) i) + (mtM n L k (col + 1) (u ||| mkM n r))))), some (.int (nI i)), some (.int (nI (mtG n r col tk n))), some (.int (nI z))]) (G := fun z w23 => g) (B := fun z w23 => (rf_u (rf_u A2 13 w169) 22 w23)) (P := fun z w23 => (∀ j, j < z → w23 j = nI (tk j)) ∧ ∀ j, z ≤ j → j < n → w23 j = nI ((fun x => tk x ||| 1 * 2 ^ pmE n r x) j)) (n := n) (fun z w23 hz pz ihz => ?_) (fun w23 pz => ?_) 0 (A2 22) (by omega) (⟨all_0, fun j _ hj => k3 j hj⟩)
                    · show RR _ _ 175 [some (.ref 146), some (.int (nI col)), some (.int (nI ((SM (mtF n L k col u) i) + (mtM n L k (col + 1) (u ||| mkM n r))))), some (.int (nI i)), some (.int (nI (mtG n r col tk n))), some (.int (nI z))] [] g (rf_u (rf_u A2 13 w169) 22 w23) _
                      have hpz := hP.1 z hz
                      refine rr_nx (pc' := 177) (al' := [some (.ref 146), some (.int (nI col)), some (.int (nI ((SM (mtF n L k col u) i) + (mtM n L k (col + 1) (u ||| mkM n r))))), some (.int (nI i)), some (.int (nI (mtG n r col tk n))), some (.int (nI z))]) (st' := [.int (nI z)]) d_266_175 (fun _ => rfl) ?_
                      refine rr_nx (pc' := 178) (al' := [some (.ref 146), some (.int (nI col)), some (.int (nI ((SM (mtF n L k col u) i) + (mtM n L k (col + 1) (u ||| mkM n r))))), some (.int (nI i)), some (.int (nI (mtG n r col tk n))), some (.int (nI z))]) (st' := [.ref 146, .int (nI z)]) d_266_177 (fun _ => rfl) ?_
                      refine rr_gn d_266_178 mo_266 fl_127 rfl h6 ?_
                      refine rn_cge (t := 211) d_266_181 (by decide) (by first | omega | assumption | exact cu_36 (by omega) (cu_lt (by omega) (by omega))) (by first | omega | assumption | exact cu_36 (by omega) (cu_lt (by omega) (by omega))) (fun c181 => ?_) (fun c181 => ?_)
                      · omega
                      · refine rr_nx (pc' := 185) (al' := [some (.ref 146), some (.int (nI col)), some (.int (nI ((SM (mtF n L k col u) i) + (mtM n L k (col + 1) (u ||| mkM n r))))), some (.int (nI i)), some (.int (nI (mtG n r col tk n))), some (.int (nI z))]) (st' := [.ref 146]) d_266_184 (fun _ => rfl) ?_
                        refine rr_gf (v := .ref (147 + 22)) d_266_185 mo_266 fl_82 rfl ?_
                        refine rr_nx (pc' := 190) (al' := [some (.ref 146), some (.int (nI col)), some (.int (nI ((SM (mtF n L k col u) i) + (mtM n L k (col + 1) (u ||| mkM n r))))), some (.int (nI i)), some (.int (nI (mtG n r col tk n))), some (.int (nI z))]) (st' := [.int (nI z), .ref (147 + 22)]) d_266_188 (fun _ => rfl) ?_
                        refine rr_nx (pc' := 191) (al' := [some (.ref 146), some (.int (nI col)), some (.int (nI ((SM (mtF n L k col u) i) + (mtM n L k (col + 1) (u ||| mkM n r))))), some (.int (nI i)), some (.int (nI (mtG n r col tk n))), some (.int (nI z))]) (st' := [.int (nI z), .ref (147 + 22), .int (nI z), .ref (147 + 22)]) d_266_190 (fun _ => rfl) ?_
                        refine rr_ia (j := 22) (v := (nI ((fun x => tk x ||| 1 * 2 ^ pmE n r x) z))) d_266_191 (by decide) rfl (by decide) (show z < 6 by first | omega | assumption | exact cu_36 (by omega) (cu_lt (by omega) (by omega))) (pz.2 z (Nat.le_refl z) hz) ?_
                        refine rn_ic (v := 1) d_266_192 (by decide) ?_
                        refine rr_nx (pc' := 194) (al' := [some (.ref 146), some (.int (nI col)), some (.int (nI ((SM (mtF n L k col u) i) + (mtM n L k (col + 1) (u ||| mkM n r))))), some (.int (nI i)), some (.int (nI (mtG n r col tk n))), some (.int (nI z))]) (st' := [.ref 146, .int (nI 1), .int (nI ((fun x => tk x ||| 1 * 2 ^ pmE n r x) z)), .int (nI z), .ref (147 + 22)]) d_266_193 (fun _ => rfl) ?_
                        refine rr_gf (v := .ref (147 + 13)) d_266_194 mo_266 fl_55 rfl ?_
                        refine rr_nx (pc' := 199) (al' := [some (.ref 146), some (.int (nI col)), some (.int (nI ((SM (mtF n L k col u) i) + (mtM n L k (col + 1) (u ||| mkM n r))))), some (.int (nI i)), some (.int (nI (mtG n r col tk n))), some (.int (nI z))]) (st' := [.int (nI z), .ref (147 + 13), .int (nI 1), .int (nI ((fun x => tk x ||| 1 * 2 ^ pmE n r x) z)), .int (nI z), .ref (147 + 22)]) d_266_197 (fun _ => rfl) ?_
                        refine rr_ia (j := 13) (v := (nI (pmE n r z))) d_266_199 (by decide) rfl (by decide) (show z < 6 by first | omega | assumption | exact cu_36 (by omega) (cu_lt (by omega) (by omega))) (hw169 z hz) ?_
                        refine rn_shl d_266_200 (by first | omega | assumption | exact cu_36 (by omega) (cu_lt (by omega) (by omega))) ?_
                        refine rr_nx (pc' := 202) (al' := [some (.ref 146), some (.int (nI col)), some (.int (nI ((SM (mtF n L k col u) i) + (mtM n L k (col + 1) (u ||| mkM n r))))), some (.int (nI i)), some (.int (nI (mtG n r col tk n))), some (.int (nI z))]) (st' := [.int (-1), .int (nI (1 * 2 ^ (pmE n r z))), .int (nI ((fun x => tk x ||| 1 * 2 ^ pmE n r x) z)), .int (nI z), .ref (147 + 22)]) d_266_201 (fun _ => rfl) ?_
                        refine rn_not d_266_202 ?_
                        refine rn_and d_266_203 ?_
                        refine rr_iS (j := 22) (A1 := (rf_u (rf_u A2 13 w169) 22 (upd w23 z (nI (((fun x => tk x ||| 1 * 2 ^ pmE n r x) z) &&& ((1 * 2 ^ (pmE n r z)) ^^^ 4294967295)))))) d_266_204 (by decide) rfl (by decide) (show z < 6 by first | omega | assumption | exact cu_36 (by omega) (cu_lt (by omega) (by omega))) rf_uw ?_
                        refine rn_inc d_266_205 rfl rfl ?_
                        show RR _ _ 208 [some (.ref 146), some (.int (nI col)), some (.int (nI ((SM (mtF n L k col u) i) + (mtM n L k (col + 1) (u ||| mkM n r))))), some (.int (nI i)), some (.int (nI (mtG n r col tk n))), some (.int (nI (z + 1)))] [] g (rf_u (rf_u A2 13 w169) 22 (upd w23 z (nI (((fun x => tk x ||| 1 * 2 ^ pmE n r x) z) &&& ((1 * 2 ^ (pmE n r z)) ^^^ 4294967295))))) _
                        refine rr_nx (pc' := 175) (al' := [some (.ref 146), some (.int (nI col)), some (.int (nI ((SM (mtF n L k col u) i) + (mtM n L k (col + 1) (u ||| mkM n r))))), some (.int (nI i)), some (.int (nI (mtG n r col tk n))), some (.int (nI (z + 1)))]) (st' := []) d_266_208 (fun _ => rfl) ?_
                        exact ihz (upd w23 z (nI (((fun x => tk x ||| 1 * 2 ^ pmE n r x) z) &&& ((1 * 2 ^ (pmE n r z)) ^^^ 4294967295)))) (⟨up_all (f := fun j => nI (tk j)) pz.1 (congrArg nI (un_mark _ (hT z hz).1 _ (by omega) (hfr.2 z hz))), fun j h1 h2 => by rw [pk_un (by omega)]; exact pz.2 j (by omega) h2⟩)
                    · show RR _ _ 175 [some (.ref 146), some (.int (nI col)), some (.int (nI ((SM (mtF n L k col u) i) + (mtM n L k (col + 1) (u ||| mkM n r))))), some (.int (nI i)), some (.int (nI (mtG n r col tk n))), some (.int (nI n))] [] g (rf_u (rf_u A2 13 w169) 22 w23) _
                      refine rr_nx (pc' := 177) (al' := [some (.ref 146), some (.int (nI col)), some (.int (nI ((SM (mtF n L k col u) i) + (mtM n L k (col + 1) (u ||| mkM n r))))), some (.int (nI i)), some (.int (nI (mtG n r col tk n))), some (.int (nI n))]) (st' := [.int (nI n)]) d_266_175 (fun _ => rfl) ?_
                      refine rr_nx (pc' := 178) (al' := [some (.ref 146), some (.int (nI col)), some (.int (nI ((SM (mtF n L k col u) i) + (mtM n L k (col + 1) (u ||| mkM n r))))), some (.int (nI i)), some (.int (nI (mtG n r col tk n))), some (.int (nI n))]) (st' := [.ref 146, .int (nI n)]) d_266_177 (fun _ => rfl) ?_
                      refine rr_gn d_266_178 mo_266 fl_127 rfl h6 ?_
                      refine rn_cge (t := 211) d_266_181 (by decide) (by first | omega | assumption | exact cu_36 (by omega) (cu_lt (by omega) (by omega))) (by first | omega | assumption | exact cu_36 (by omega) (cu_lt (by omega) (by omega))) (fun c181 => ?_) (fun c181 => ?_)
                      · refine rn_inc d_266_211 rfl rfl ?_
                        show RR _ _ 214 [some (.ref 146), some (.int (nI col)), some (.int (nI ((SM (mtF n L k col u) i) + (mtM n L k (col + 1) (u ||| mkM n r))))), some (.int (nI (i + 1))), some (.int (nI (mtG n r col tk n))), some (.int (nI n))] [] g (rf_u (rf_u A2 13 w169) 22 w23) _
                        refine rr_nx (pc' := 14) (al' := [some (.ref 146), some (.int (nI col)), some (.int (nI ((SM (mtF n L k col u) i) + (mtM n L k (col + 1) (u ||| mkM n r))))), some (.int (nI (i + 1))), some (.int (nI (mtG n r col tk n))), some (.int (nI n))]) (st' := []) d_266_214 (fun _ => rfl) ?_
                        refine rr_al (congrArg (fun z__ : Nat => ([some (.ref 146), some (.int (nI col)), some (.int (nI z__)), some (.int (nI (i + 1))), some (.int (nI (mtG n r col tk n))), some (.int (nI n))] : AL)) (show (SM (mtF n L k col u) i) + (mtM n L k (col + 1) (u ||| mkM n r)) = SM (mtF n L k col u) (i + 1) by first | (rw [SM_s, mtF, hr, if_pos hok]) | (rw [SM_s, mtF, hr, if_neg hno]; rfl))) ?_
                        refine rr_dr (al1 := [some (.ref 146), some (.int (nI col)), some (.int (nI (SM (mtF n L k col u) (i + 1)))), some (.int (nI (i + 1))), none, none]) (le_s (le_s (le_s (le_s (le_d rfl (le_d rfl (le_n))))))) ?_
                        exact ihi (rf_u (rf_u A2 13 w169) 22 w23) (⟨by rw [rf_u_n (by decide), rf_u_n (by decide), k2, rf_u_n (by decide), rf_u_n (by decide)]; exact pi.1, (((((pi.2.1.u (by decide)).u (by decide)).tr k1).u (by decide)).u (by decide)), fun x hx => by rw [rf_u_s]; exact pz.1 x hx⟩)
                      · omega
                  · omega
              · have hno : ¬ (pmE n r 0 = col ∧ mkM n r &&& u = 0) := fun e => mtG_f c105 ((mt_iff hT hn6 hrF).mpr e)
                refine rr_nx (pc' := 211) (al' := [some (.ref 146), some (.int (nI col)), some (.int (nI (SM (mtF n L k col u) i))), some (.int (nI i)), some (.int (nI (mtG n r col tk n))), some (.int (nI n))]) (st' := []) d_266_108 (fun _ => rfl) ?_
                refine rn_inc d_266_211 rfl rfl ?_
                show RR _ _ 214 [some (.ref 146), some (.int (nI col)), some (.int (nI (SM (mtF n L k col u) i))), some (.int (nI (i + 1))), some (.int (nI (mtG n r col tk n))), some (.int (nI n))] [] g (rf_u w_ 13 w33) _
                refine rr_nx (pc' := 14) (al' := [some (.ref 146), some (.int (nI col)), some (.int (nI (SM (mtF n L k col u) i))), some (.int (nI (i + 1))), some (.int (nI (mtG n r col tk n))), some (.int (nI n))]) (st' := []) d_266_214 (fun _ => rfl) ?_
                refine rr_al (congrArg (fun z__ : Nat => ([some (.ref 146), some (.int (nI col)), some (.int (nI z__)), some (.int (nI (i + 1))), some (.int (nI (mtG n r col tk n))), some (.int (nI n))] : AL)) (show SM (mtF n L k col u) i = SM (mtF n L k col u) (i + 1) by first | (rw [SM_s, mtF, hr, if_pos hok]) | (rw [SM_s, mtF, hr, if_neg hno]; rfl))) ?_
                refine rr_dr (al1 := [some (.ref 146), some (.int (nI col)), some (.int (nI (SM (mtF n L k col u) (i + 1)))), some (.int (nI (i + 1))), none, none]) (le_s (le_s (le_s (le_s (le_d rfl (le_d rfl (le_n))))))) ?_
                exact ihi (rf_u w_ 13 w33) (⟨by rw [rf_u_n (by decide)]; exact pi.1, pi.2.1.u (by decide), fun x hx => by rw [rf_u_n (by decide)]; exact pi.2.2 x hx⟩)
            · omega
        · refine rn_ic (v := 1) d_266_46 (by decide) ?_
          refine rr_nx (pc' := 51) (al' := [some (.ref 146), some (.int (nI col)), some (.int (nI (SM (mtF n L k col u) i))), some (.int (nI i)), none, none]) (st' := [.int (nI 1)]) d_266_47 (fun _ => rfl) ?_
          refine rr_nx (pc' := 53) (al' := [some (.ref 146), some (.int (nI col)), some (.int (nI (SM (mtF n L k col u) i))), some (.int (nI i)), some (.int (nI 1)), none]) (st' := []) d_266_51 (fun _ => rfl) ?_
          refine rn_ic (v := 0) d_266_53 (by decide) ?_
          refine rr_nx (pc' := 56) (al' := [some (.ref 146), some (.int (nI col)), some (.int (nI (SM (mtF n L k col u) i))), some (.int (nI i)), some (.int (nI 1)), some (.int (nI 0))]) (st' := []) d_266_54 (fun _ => rfl) ?_
          refine rr_al (congrArg (fun z__ : Nat => ([some (.ref 146), some (.int (nI col)), some (.int (nI (SM (mtF n L k col u) i))), some (.int (nI i)), some (.int (nI z__)), some (.int (nI 0))] : AL)) (show 1 = mtG n r col tk 0 by first | exact (if_pos ⟨c43, fun j hj => absurd hj (Nat.not_lt_zero j)⟩).symm | exact (if_neg (fun e => c43 e.1)).symm)) ?_
          refine rr_up (al := fun x => [some (.ref 146), some (.int (nI col)), some (.int (nI (SM (mtF n L k col u) i))), some (.int (nI i)), some (.int (nI (mtG n r col tk x))), some (.int (nI x))]) (G := fun x => g) (B := fun x => (rf_u w_ 13 w33)) (P := fun x => True) (n := n) (fun x hx px ihx => ?_) (fun px => ?_) 0  (by omega) (trivial)
          · show RR _ _ 56 [some (.ref 146), some (.int (nI col)), some (.int (nI (SM (mtF n L k col u) i))), some (.int (nI i)), some (.int (nI (mtG n r col tk x))), some (.int (nI x))] [] g (rf_u w_ 13 w33) _
            have hg4 := mtG_le (n := n) (r := r) (col := col) (tk := tk) (x := x)
            have hpx := hP.1 x hx
            have htx := (hT x hx).1
            refine rr_nx (pc' := 58) (al' := [some (.ref 146), some (.int (nI col)), some (.int (nI (SM (mtF n L k col u) i))), some (.int (nI i)), some (.int (nI (mtG n r col tk x))), some (.int (nI x))]) (st' := [.int (nI x)]) d_266_56 (fun _ => rfl) ?_
            refine rr_nx (pc' := 59) (al' := [some (.ref 146), some (.int (nI col)), some (.int (nI (SM (mtF n L k col u) i))), some (.int (nI i)), some (.int (nI (mtG n r col tk x))), some (.int (nI x))]) (st' := [.ref 146, .int (nI x)]) d_266_58 (fun _ => rfl) ?_
            refine rr_gn d_266_59 mo_266 fl_127 rfl h6 ?_
            refine rn_cge (t := 103) d_266_62 (by decide) (by first | omega | assumption | exact cu_36 (by omega) (cu_lt (by omega) (by omega))) (by first | omega | assumption | exact cu_36 (by omega) (cu_lt (by omega) (by omega))) (fun c62 => ?_) (fun c62 => ?_)
            · omega
            · refine rr_nx (pc' := 67) (al' := [some (.ref 146), some (.int (nI col)), some (.int (nI (SM (mtF n L k col u) i))), some (.int (nI i)), some (.int (nI (mtG n r col tk x))), some (.int (nI x))]) (st' := [.int (nI (mtG n r col tk x))]) d_266_65 (fun _ => rfl) ?_
              refine rn_ieq (t := 94) d_266_67 (by decide) (by first | omega | assumption | exact cu_36 (by omega) (cu_lt (by omega) (by omega))) (fun c67 => ?_) (fun c67 => ?_)
              · refine rn_ic (v := 0) d_266_94 (by decide) ?_
                refine rr_nx (pc' := 97) (al' := [some (.ref 146), some (.int (nI col)), some (.int (nI (SM (mtF n L k col u) i))), some (.int (nI i)), some (.int (nI 0)), some (.int (nI x))]) (st' := []) d_266_95 (fun _ => rfl) ?_
                refine rn_inc d_266_97 rfl rfl ?_
                show RR _ _ 100 [some (.ref 146), some (.int (nI col)), some (.int (nI (SM (mtF n L k col u) i))), some (.int (nI i)), some (.int (nI 0)), some (.int (nI (x + 1)))] [] g (rf_u w_ 13 w33) _
                refine rr_nx (pc' := 56) (al' := [some (.ref 146), some (.int (nI col)), some (.int (nI (SM (mtF n L k col u) i))), some (.int (nI i)), some (.int (nI 0)), some (.int (nI (x + 1)))]) (st' := []) d_266_100 (fun _ => rfl) ?_
                refine rr_al (congrArg (fun z__ : Nat => ([some (.ref 146), some (.int (nI col)), some (.int (nI (SM (mtF n L k col u) i))), some (.int (nI i)), some (.int (nI z__)), some (.int (nI (x + 1)))] : AL)) (show 0 = mtG n r col tk (x + 1) by first | exact (if_pos ⟨(mtG_t c67).1, all_s (mtG_t c67).2 (bt_e0.mp c87)⟩).symm | exact (if_neg (fun e => absurd (e.2 x (by omega)) (by rw [bt_p0.mp c87]; decide))).symm | exact (if_neg (fun e => mtG_f c67 ⟨e.1, fun j hj => e.2 j (by omega)⟩)).symm)) ?_
                exact ihx  (trivial)
              · refine rr_nx (pc' := 71) (al' := [some (.ref 146), some (.int (nI col)), some (.int (nI (SM (mtF n L k col u) i))), some (.int (nI i)), some (.int (nI (mtG n r col tk x))), some (.int (nI x))]) (st' := [.ref 146]) d_266_70 (fun _ => rfl) ?_
                refine rr_gf (v := .ref (147 + 22)) d_266_71 mo_266 fl_82 rfl ?_
                refine rr_nx (pc' := 76) (al' := [some (.ref 146), some (.int (nI col)), some (.int (nI (SM (mtF n L k col u) i))), some (.int (nI i)), some (.int (nI (mtG n r col tk x))), some (.int (nI x))]) (st' := [.int (nI x), .ref (147 + 22)]) d_266_74 (fun _ => rfl) ?_
                refine rr_ia (j := 22) (v := (nI (tk x))) d_266_76 (by decide) rfl (by decide) (show x < 6 by first | omega | assumption | exact cu_36 (by omega) (cu_lt (by omega) (by omega))) (pi.2.2 x hx) ?_
                refine rr_nx (pc' := 78) (al' := [some (.ref 146), some (.int (nI col)), some (.int (nI (SM (mtF n L k col u) i))), some (.int (nI i)), some (.int (nI (mtG n r col tk x))), some (.int (nI x))]) (st' := [.ref 146, .int (nI (tk x))]) d_266_77 (fun _ => rfl) ?_
                refine rr_gf (v := .ref (147 + 13)) d_266_78 mo_266 fl_55 rfl ?_
                refine rr_nx (pc' := 83) (al' := [some (.ref 146), some (.int (nI col)), some (.int (nI (SM (mtF n L k col u) i))), some (.int (nI i)), some (.int (nI (mtG n r col tk x))), some (.int (nI x))]) (st' := [.int (nI x), .ref (147 + 13), .int (nI (tk x))]) d_266_81 (fun _ => rfl) ?_
                refine rr_ia (j := 13) (v := (nI (pmE n r x))) d_266_83 (by decide) rfl (by decide) (show x < 6 by first | omega | assumption | exact cu_36 (by omega) (cu_lt (by omega) (by omega))) (hw33 x hx) ?_
                refine rn_shr d_266_84 (by first | omega | assumption | exact cu_36 (by omega) (cu_lt (by omega) (by omega))) (by first | omega | assumption | exact cu_36 (by omega) (cu_lt (by omega) (by omega))) ?_
                refine rn_ic (v := 1) d_266_85 (by decide) ?_
                refine rn_and d_266_86 ?_
                refine rn_ine (t := 94) d_266_87 (by decide) (by have := bt_lt (tk x) (pmE n r x); omega) (fun c87 => ?_) (fun c87 => ?_)
                · refine rn_ic (v := 0) d_266_94 (by decide) ?_
                  refine rr_nx (pc' := 97) (al' := [some (.ref 146), some (.int (nI col)), some (.int (nI (SM (mtF n L k col u) i))), some (.int (nI i)), some (.int (nI 0)), some (.int (nI x))]) (st' := []) d_266_95 (fun _ => rfl) ?_
                  refine rn_inc d_266_97 rfl rfl ?_
                  show RR _ _ 100 [some (.ref 146), some (.int (nI col)), some (.int (nI (SM (mtF n L k col u) i))), some (.int (nI i)), some (.int (nI 0)), some (.int (nI (x + 1)))] [] g (rf_u w_ 13 w33) _
                  refine rr_nx (pc' := 56) (al' := [some (.ref 146), some (.int (nI col)), some (.int (nI (SM (mtF n L k col u) i))), some (.int (nI i)), some (.int (nI 0)), some (.int (nI (x + 1)))]) (st' := []) d_266_100 (fun _ => rfl) ?_
                  refine rr_al (congrArg (fun z__ : Nat => ([some (.ref 146), some (.int (nI col)), some (.int (nI (SM (mtF n L k col u) i))), some (.int (nI i)), some (.int (nI z__)), some (.int (nI (x + 1)))] : AL)) (show 0 = mtG n r col tk (x + 1) by first | exact (if_pos ⟨(mtG_t c67).1, all_s (mtG_t c67).2 (bt_e0.mp c87)⟩).symm | exact (if_neg (fun e => absurd (e.2 x (by omega)) (by rw [bt_p0.mp c87]; decide))).symm | exact (if_neg (fun e => mtG_f c67 ⟨e.1, fun j hj => e.2 j (by omega)⟩)).symm)) ?_
                  exact ihx  (trivial)
                · refine rn_ic (v := 1) d_266_90 (by decide) ?_
                  refine rr_nx (pc' := 95) (al' := [some (.ref 146), some (.int (nI col)), some (.int (nI (SM (mtF n L k col u) i))), some (.int (nI i)), some (.int (nI (mtG n r col tk x))), some (.int (nI x))]) (st' := [.int (nI 1)]) d_266_91 (fun _ => rfl) ?_
                  refine rr_nx (pc' := 97) (al' := [some (.ref 146), some (.int (nI col)), some (.int (nI (SM (mtF n L k col u) i))), some (.int (nI i)), some (.int (nI 1)), some (.int (nI x))]) (st' := []) d_266_95 (fun _ => rfl) ?_
                  refine rn_inc d_266_97 rfl rfl ?_
                  show RR _ _ 100 [some (.ref 146), some (.int (nI col)), some (.int (nI (SM (mtF n L k col u) i))), some (.int (nI i)), some (.int (nI 1)), some (.int (nI (x + 1)))] [] g (rf_u w_ 13 w33) _
                  refine rr_nx (pc' := 56) (al' := [some (.ref 146), some (.int (nI col)), some (.int (nI (SM (mtF n L k col u) i))), some (.int (nI i)), some (.int (nI 1)), some (.int (nI (x + 1)))]) (st' := []) d_266_100 (fun _ => rfl) ?_
                  refine rr_al (congrArg (fun z__ : Nat => ([some (.ref 146), some (.int (nI col)), some (.int (nI (SM (mtF n L k col u) i))), some (.int (nI i)), some (.int (nI z__)), some (.int (nI (x + 1)))] : AL)) (show 1 = mtG n r col tk (x + 1) by first | exact (if_pos ⟨(mtG_t c67).1, all_s (mtG_t c67).2 (bt_e0.mp c87)⟩).symm | exact (if_neg (fun e => absurd (e.2 x (by omega)) (by rw [bt_p0.mp c87]; decide))).symm | exact (if_neg (fun e => mtG_f c67 ⟨e.1, fun j hj => e.2 j (by omega)⟩)).symm)) ?_
                  exact ihx  (trivial)
          · show RR _ _ 56 [some (.ref 146), some (.int (nI col)), some (.int (nI (SM (mtF n L k col u) i))), some (.int (nI i)), some (.int (nI (mtG n r col tk n))), some (.int (nI n))] [] g (rf_u w_ 13 w33) _
            have hg4 := mtG_le (n := n) (r := r) (col := col) (tk := tk) (x := n)
            refine rr_nx (pc' := 58) (al' := [some (.ref 146), some (.int (nI col)), some (.int (nI (SM (mtF n L k col u) i))), some (.int (nI i)), some (.int (nI (mtG n r col tk n))), some (.int (nI n))]) (st' := [.int (nI n)]) d_266_56 (fun _ => rfl) ?_
            refine rr_nx (pc' := 59) (al' := [some (.ref 146), some (.int (nI col)), some (.int (nI (SM (mtF n L k col u) i))), some (.int (nI i)), some (.int (nI (mtG n r col tk n))), some (.int (nI n))]) (st' := [.ref 146, .int (nI n)]) d_266_58 (fun _ => rfl) ?_
            refine rr_gn d_266_59 mo_266 fl_127 rfl h6 ?_
            refine rn_cge (t := 103) d_266_62 (by decide) (by first | omega | assumption | exact cu_36 (by omega) (cu_lt (by omega) (by omega))) (by first | omega | assumption | exact cu_36 (by omega) (cu_lt (by omega) (by omega))) (fun c62 => ?_) (fun c62 => ?_)
            · refine rr_nx (pc' := 105) (al' := [some (.ref 146), some (.int (nI col)), some (.int (nI (SM (mtF n L k col u) i))), some (.int (nI i)), some (.int (nI (mtG n r col tk n))), some (.int (nI n))]) (st' := [.int (nI (mtG n r col tk n))]) d_266_103 (fun _ => rfl) ?_
              refine rn_ine (t := 111) d_266_105 (by decide) (by first | omega | assumption | exact cu_36 (by omega) (cu_lt (by omega) (by omega))) (fun c105 => ?_) (fun c105 => ?_)
              · have hfr := mtG_t c105
                have hok := (mt_iff hT hn6 hrF).mp hfr
                refine rn_ic (v := 0) d_266_111 (by decide) ?_
                refine rr_nx (pc' := 114) (al' := [some (.ref 146), some (.int (nI col)), some (.int (nI (SM (mtF n L k col u) i))), some (.int (nI i)), some (.int (nI (mtG n r col tk n))), some (.int (nI 0))]) (st' := []) d_266_112 (fun _ => rfl) ?_
                refine rr_A (show (rf_u w_ 13 w33) = (rf_u (rf_u w_ 13 w33) 22 (w_ 22)) by exact rf_idn (by decide)) ?_
                refine rr_upw (al := fun y w22 => [some (.ref 146), some (.int (nI col)), some (.int (nI (SM (mtF n L k col u) i))), some (.int (nI i)), some (.int (nI (mtG n r col tk n))), some (.int (nI y))]) (G := fun y w22 => g) (B := fun y w22 => (rf_u (rf_u w_ 13 w33) 22 w22)) (P := fun y w22 => (∀ j, j < y → w22 j = nI ((fun x => tk x ||| 1 * 2 ^ pmE n r x) j)) ∧ ∀ j, y ≤ j → j < n → w22 j = nI (tk j)) (n := n) (fun y w22 hy py ihy => ?_) (fun w22 py => ?_) 0 (w_ 22) (by omega) (⟨all_0, fun j _ hj => pi.2.2 j hj⟩)
                · show RR _ _ 114 [some (.ref 146), some (.int (nI col)), some (.int (nI (SM (mtF n L k col u) i))), some (.int (nI i)), some (.int (nI (mtG n r col tk n))), some (.int (nI y))] [] g (rf_u (rf_u w_ 13 w33) 22 w22) _
                  have hpy := hP.1 y hy
                  refine rr_nx (pc' := 116) (al' := [some (.ref 146), some (.int (nI col)), some (.int (nI (SM (mtF n L k col u) i))), some (.int (nI i)), some (.int (nI (mtG n r col tk n))), some (.int (nI y))]) (st' := [.int (nI y)]) d_266_114 (fun _ => rfl) ?_
                  refine rr_nx (pc' := 117) (al' := [some (.ref 146), some (.int (nI col)), some (.int (nI (SM (mtF n L k col u) i))), some (.int (nI i)), some (.int (nI (mtG n r col tk n))), some (.int (nI y))]) (st' := [.ref 146, .int (nI y)]) d_266_116 (fun _ => rfl) ?_
                  refine rr_gn d_266_117 mo_266 fl_127 rfl h6 ?_
                  refine rn_cge (t := 148) d_266_120 (by decide) (by first | omega | assumption | exact cu_36 (by omega) (cu_lt (by omega) (by omega))) (by first | omega | assumption | exact cu_36 (by omega) (cu_lt (by omega) (by omega))) (fun c120 => ?_) (fun c120 => ?_)
                  · omega
                  · refine rr_nx (pc' := 124) (al' := [some (.ref 146), some (.int (nI col)), some (.int (nI (SM (mtF n L k col u) i))), some (.int (nI i)), some (.int (nI (mtG n r col tk n))), some (.int (nI y))]) (st' := [.ref 146]) d_266_123 (fun _ => rfl) ?_
                    refine rr_gf (v := .ref (147 + 22)) d_266_124 mo_266 fl_82 rfl ?_
                    refine rr_nx (pc' := 129) (al' := [some (.ref 146), some (.int (nI col)), some (.int (nI (SM (mtF n L k col u) i))), some (.int (nI i)), some (.int (nI (mtG n r col tk n))), some (.int (nI y))]) (st' := [.int (nI y), .ref (147 + 22)]) d_266_127 (fun _ => rfl) ?_
                    refine rr_nx (pc' := 130) (al' := [some (.ref 146), some (.int (nI col)), some (.int (nI (SM (mtF n L k col u) i))), some (.int (nI i)), some (.int (nI (mtG n r col tk n))), some (.int (nI y))]) (st' := [.int (nI y), .ref (147 + 22), .int (nI y), .ref (147 + 22)]) d_266_129 (fun _ => rfl) ?_
                    refine rr_ia (j := 22) (v := (nI (tk y))) d_266_130 (by decide) rfl (by decide) (show y < 6 by first | omega | assumption | exact cu_36 (by omega) (cu_lt (by omega) (by omega))) (py.2 y (Nat.le_refl y) hy) ?_
                    refine rn_ic (v := 1) d_266_131 (by decide) ?_
                    refine rr_nx (pc' := 133) (al' := [some (.ref 146), some (.int (nI col)), some (.int (nI (SM (mtF n L k col u) i))), some (.int (nI i)), some (.int (nI (mtG n r col tk n))), some (.int (nI y))]) (st' := [.ref 146, .int (nI 1), .int (nI (tk y)), .int (nI y), .ref (147 + 22)]) d_266_132 (fun _ => rfl) ?_
                    refine rr_gf (v := .ref (147 + 13)) d_266_133 mo_266 fl_55 rfl ?_
                    refine rr_nx (pc' := 138) (al' := [some (.ref 146), some (.int (nI col)), some (.int (nI (SM (mtF n L k col u) i))), some (.int (nI i)), some (.int (nI (mtG n r col tk n))), some (.int (nI y))]) (st' := [.int (nI y), .ref (147 + 13), .int (nI 1), .int (nI (tk y)), .int (nI y), .ref (147 + 22)]) d_266_136 (fun _ => rfl) ?_
                    refine rr_ia (j := 13) (v := (nI (pmE n r y))) d_266_138 (by decide) rfl (by decide) (show y < 6 by first | omega | assumption | exact cu_36 (by omega) (cu_lt (by omega) (by omega))) (hw33 y hy) ?_
                    refine rn_shl d_266_139 (by first | omega | assumption | exact cu_36 (by omega) (cu_lt (by omega) (by omega))) ?_
                    refine rn_or d_266_140 ?_
                    refine rr_iS (j := 22) (A1 := (rf_u (rf_u w_ 13 w33) 22 (upd w22 y (nI ((tk y) ||| (1 * 2 ^ (pmE n r y))))))) d_266_141 (by decide) rfl (by decide) (show y < 6 by first | omega | assumption | exact cu_36 (by omega) (cu_lt (by omega) (by omega))) rf_uw ?_
                    refine rn_inc d_266_142 rfl rfl ?_
                    show RR _ _ 145 [some (.ref 146), some (.int (nI col)), some (.int (nI (SM (mtF n L k col u) i))), some (.int (nI i)), some (.int (nI (mtG n r col tk n))), some (.int (nI (y + 1)))] [] g (rf_u (rf_u w_ 13 w33) 22 (upd w22 y (nI ((tk y) ||| (1 * 2 ^ (pmE n r y)))))) _
                    refine rr_nx (pc' := 114) (al' := [some (.ref 146), some (.int (nI col)), some (.int (nI (SM (mtF n L k col u) i))), some (.int (nI i)), some (.int (nI (mtG n r col tk n))), some (.int (nI (y + 1)))]) (st' := []) d_266_145 (fun _ => rfl) ?_
                    exact ihy (upd w22 y (nI ((tk y) ||| (1 * 2 ^ (pmE n r y))))) (⟨up_all (f := fun j => nI ((fun x => tk x ||| 1 * 2 ^ pmE n r x) j)) py.1 rfl, fun j h1 h2 => by rw [pk_un (by omega)]; exact py.2 j (by omega) h2⟩)
                · show RR _ _ 114 [some (.ref 146), some (.int (nI col)), some (.int (nI (SM (mtF n L k col u) i))), some (.int (nI i)), some (.int (nI (mtG n r col tk n))), some (.int (nI n))] [] g (rf_u (rf_u w_ 13 w33) 22 w22) _
                  refine rr_nx (pc' := 116) (al' := [some (.ref 146), some (.int (nI col)), some (.int (nI (SM (mtF n L k col u) i))), some (.int (nI i)), some (.int (nI (mtG n r col tk n))), some (.int (nI n))]) (st' := [.int (nI n)]) d_266_114 (fun _ => rfl) ?_
                  refine rr_nx (pc' := 117) (al' := [some (.ref 146), some (.int (nI col)), some (.int (nI (SM (mtF n L k col u) i))), some (.int (nI i)), some (.int (nI (mtG n r col tk n))), some (.int (nI n))]) (st' := [.ref 146, .int (nI n)]) d_266_116 (fun _ => rfl) ?_
                  refine rr_gn d_266_117 mo_266 fl_127 rfl h6 ?_
                  refine rn_cge (t := 148) d_266_120 (by decide) (by first | omega | assumption | exact cu_36 (by omega) (cu_lt (by omega) (by omega))) (by first | omega | assumption | exact cu_36 (by omega) (cu_lt (by omega) (by omega))) (fun c120 => ?_) (fun c120 => ?_)
                  · refine rr_nx (pc' := 149) (al' := [some (.ref 146), some (.int (nI col)), some (.int (nI (SM (mtF n L k col u) i))), some (.int (nI i)), some (.int (nI (mtG n r col tk n))), some (.int (nI n))]) (st' := [.int (nI (SM (mtF n L k col u) i))]) d_266_148 (fun _ => rfl) ?_
                    refine rr_nx (pc' := 150) (al' := [some (.ref 146), some (.int (nI col)), some (.int (nI (SM (mtF n L k col u) i))), some (.int (nI i)), some (.int (nI (mtG n r col tk n))), some (.int (nI n))]) (st' := [.ref 146, .int (nI (SM (mtF n L k col u) i))]) d_266_149 (fun _ => rfl) ?_
                    refine rr_nx (pc' := 151) (al' := [some (.ref 146), some (.int (nI col)), some (.int (nI (SM (mtF n L k col u) i))), some (.int (nI i)), some (.int (nI (mtG n r col tk n))), some (.int (nI n))]) (st' := [.int (nI col), .ref 146, .int (nI (SM (mtF n L k col u) i))]) d_266_150 (fun _ => rfl) ?_
                    refine rn_ic (v := 1) d_266_151 (by decide) ?_
                    refine rn_add d_266_152  ?_
                    refine rr_cv (as := [.int (nI (col + 1))]) (al0 := [some (.ref 146), some (.int (nI (col + 1))), none, none, none, none]) (r := [.int (nI (SM (mtF n L k col u) i))]) d_266_153 mo_266 ml_328 mz_266 rfl rfl rfl (rr_wk (Nat.le_refl _) (ih (tk := (fun x => tk x ||| 1 * 2 ^ pmE n r x)) h6 h40 (fun j hj => by rw [rf_u_n (by decide), rf_u_n (by decide), pi.1]; exact h21 j hj) (fun x hx => by rw [rf_u_s]; exact py.1 x hx) (hT.m hn6 hrF) (by omega))) (fun v1 g1 A2 h1 => ?_)
                    obtain ⟨q0_, q1_, k1, k2, k3⟩ := h1
                    obtain rfl := q0_
                    obtain rfl := q1_.symm
                    show RR _ _ 156 [some (.ref 146), some (.int (nI col)), some (.int (nI (SM (mtF n L k col u) i))), some (.int (nI i)), some (.int (nI (mtG n r col tk n))), some (.int (nI n))] [.int (nI (mtM n L k (col + 1) (u ||| mkM n r))), .int (nI (SM (mtF n L k col u) i))] g A2 _
                    refine rn_add d_266_156  ?_
                    refine rr_nx (pc' := 158) (al' := [some (.ref 146), some (.int (nI col)), some (.int (nI ((SM (mtF n L k col u) i) + (mtM n L k (col + 1) (u ||| mkM n r))))), some (.int (nI i)), some (.int (nI (mtG n r col tk n))), some (.int (nI n))]) (st' := []) d_266_157 (fun _ => rfl) ?_
                    refine rr_nx (pc' := 159) (al' := [some (.ref 146), some (.int (nI col)), some (.int (nI ((SM (mtF n L k col u) i) + (mtM n L k (col + 1) (u ||| mkM n r))))), some (.int (nI i)), some (.int (nI (mtG n r col tk n))), some (.int (nI n))]) (st' := [.ref 146]) d_266_158 (fun _ => rfl) ?_
                    refine rr_nx (pc' := 160) (al' := [some (.ref 146), some (.int (nI col)), some (.int (nI ((SM (mtF n L k col u) i) + (mtM n L k (col + 1) (u ||| mkM n r))))), some (.int (nI i)), some (.int (nI (mtG n r col tk n))), some (.int (nI n))]) (st' := [.ref 146, .ref 146]) d_266_159 (fun _ => rfl) ?_
                    refine rr_gf (v := .ref (147 + 21)) d_266_160 mo_266 fl_79 rfl ?_
                    refine rr_nx (pc' := 164) (al' := [some (.ref 146), some (.int (nI col)), some (.int (nI ((SM (mtF n L k col u) i) + (mtM n L k (col + 1) (u ||| mkM n r))))), some (.int (nI i)), some (.int (nI (mtG n r col tk n))), some (.int (nI n))]) (st' := [.int (nI i), .ref (147 + 21), .ref 146]) d_266_163 (fun _ => rfl) ?_
                    refine rr_ia (j := 21) (v := (nI r)) d_266_164 (by decide) rfl (by decide) (show i < 720 by have := hL720; omega) (by rw [k2, rf_u_n (by decide), rf_u_n (by decide), pi.1, h21 i hi, hr]) ?_
                    refine rr_nx (pc' := 166) (al' := [some (.ref 146), some (.int (nI col)), some (.int (nI ((SM (mtF n L k col u) i) + (mtM n L k (col + 1) (u ||| mkM n r))))), some (.int (nI i)), some (.int (nI (mtG n r col tk n))), some (.int (nI n))]) (st' := [.ref 146, .int (nI r), .ref 146]) d_266_165 (fun _ => rfl) ?_
                    refine rr_gn d_266_166 mo_266 fl_127 rfl h6 ?_
                    refine rr_cv (as := [.int (nI r), .int (nI n)]) (al0 := [some (.ref 146), some (.int (nI r)), some (.int (nI n)), none, none, none, none, none, none]) (r := []) d_266_169 mo_266 ml_273 mz_234 rfl rfl rfl (rr_wk (Nat.le_of_ble_eq_true rfl) (s_permutes (n := n) (r := r) (by omega) (by exact hrF))) (fun v1 g1 A1 h1 => ?_)
                    obtain ⟨q0_, q1_, w169, q9_, hw169⟩ := h1
                    obtain rfl := q0_
                    obtain rfl := q1_.symm
                    obtain rfl := q9_
                    show RR _ _ 172 [some (.ref 146), some (.int (nI col)), some (.int (nI ((SM (mtF n L k col u) i) + (mtM n L k (col + 1) (u ||| mkM n r))))), some (.int (nI i)), some (.int (nI (mtG n r col tk n))), some (.int (nI n))] [] g (rf_u A2 13 w169) _
                    refine rn_ic (v := 0) d_266_172 (by decide) ?_
                    refine rr_nx (pc' := 175) (al' := [some (.ref 146), some (.int (nI col)), some (.int (nI ((SM (mtF n L k col u) i) + (mtM n L k (col + 1) (u ||| mkM n r))))), some (.int (nI i)), some (.int (nI (mtG n r col tk n))), some (.int (nI 0))]) (st' := []) d_266_173 (fun _ => rfl) ?_
                    refine rr_A (show (rf_u A2 13 w169) = (rf_u (rf_u A2 13 w169) 22 (A2 22)) by exact rf_idn (by decide)) ?_
                    refine rr_upw (al := fun z w23 => [some (.ref 146), some (.int (nI col)), some (.int (nI ((SM (mtF n L k col u) i) + (mtM n L k (col + 1) (u ||| mkM n r))))), some (.int (nI i)), some (.int (nI (mtG n r col tk n))), some (.int (nI z))]) (G := fun z w23 => g) (B := fun z w23 => (rf_u (rf_u A2 13 w169) 22 w23)) (P := fun z w23 => (∀ j, j < z → w23 j = nI (tk j)) ∧ ∀ j, z ≤ j → j < n → w23 j = nI ((fun x => tk x ||| 1 * 2 ^ pmE n r x) j)) (n := n) (fun z w23 hz pz ihz => ?_) (fun w23 pz => ?_) 0 (A2 22) (by omega) (⟨all_0, fun j _ hj => k3 j hj⟩)
                    · show RR _ _ 175 [some (.ref 146), some (.int (nI col)), some (.int (nI ((SM (mtF n L k col u) i) + (mtM n L k (col + 1) (u ||| mkM n r))))), some (.int (nI i)), some (.int (nI (mtG n r col tk n))), some (.int (nI z))] [] g (rf_u (rf_u A2 13 w169) 22 w23) _
                      have hpz := hP.1 z hz
                      refine rr_nx (pc' := 177) (al' := [some (.ref 146), some (.int (nI col)), some (.int (nI ((SM (mtF n L k col u) i) + (mtM n L k (col + 1) (u ||| mkM n r))))), some (.int (nI i)), some (.int (nI (mtG n r col tk n))), some (.int (nI z))]) (st' := [.int (nI z)]) d_266_175 (fun _ => rfl) ?_
                      refine rr_nx (pc' := 178) (al' := [some (.ref 146), some (.int (nI col)), some (.int (nI ((SM (mtF n L k col u) i) + (mtM n L k (col + 1) (u ||| mkM n r))))), some (.int (nI i)), some (.int (nI (mtG n r col tk n))), some (.int (nI z))]) (st' := [.ref 146, .int (nI z)]) d_266_177 (fun _ => rfl) ?_
                      refine rr_gn d_266_178 mo_266 fl_127 rfl h6 ?_
                      refine rn_cge (t := 211) d_266_181 (by decide) (by first | omega | assumption | exact cu_36 (by omega) (cu_lt (by omega) (by omega))) (by first | omega | assumption | exact cu_36 (by omega) (cu_lt (by omega) (by omega))) (fun c181 => ?_) (fun c181 => ?_)
                      · omega
                      · refine rr_nx (pc' := 185) (al' := [some (.ref 146), some (.int (nI col)), some (.int (nI ((SM (mtF n L k col u) i) + (mtM n L k (col + 1) (u ||| mkM n r))))), some (.int (nI i)), some (.int (nI (mtG n r col tk n))), some (.int (nI z))]) (st' := [.ref 146]) d_266_184 (fun _ => rfl) ?_
                        refine rr_gf (v := .ref (147 + 22)) d_266_185 mo_266 fl_82 rfl ?_
                        refine rr_nx (pc' := 190) (al' := [some (.ref 146), some (.int (nI col)), some (.int (nI ((SM (mtF n L k col u) i) + (mtM n L k (col + 1) (u ||| mkM n r))))), some (.int (nI i)), some (.int (nI (mtG n r col tk n))), some (.int (nI z))]) (st' := [.int (nI z), .ref (147 + 22)]) d_266_188 (fun _ => rfl) ?_
                        refine rr_nx (pc' := 191) (al' := [some (.ref 146), some (.int (nI col)), some (.int (nI ((SM (mtF n L k col u) i) + (mtM n L k (col + 1) (u ||| mkM n r))))), some (.int (nI i)), some (.int (nI (mtG n r col tk n))), some (.int (nI z))]) (st' := [.int (nI z), .ref (147 + 22), .int (nI z), .ref (147 + 22)]) d_266_190 (fun _ => rfl) ?_
                        refine rr_ia (j := 22) (v := (nI ((fun x => tk x ||| 1 * 2 ^ pmE n r x) z))) d_266_191 (by decide) rfl (by decide) (show z < 6 by first | omega | assumption | exact cu_36 (by omega) (cu_lt (by omega) (by omega))) (pz.2 z (Nat.le_refl z) hz) ?_
                        refine rn_ic (v := 1) d_266_192 (by decide) ?_
                        refine rr_nx (pc' := 194) (al' := [some (.ref 146), some (.int (nI col)), some (.int (nI ((SM (mtF n L k col u) i) + (mtM n L k (col + 1) (u ||| mkM n r))))), some (.int (nI i)), some (.int (nI (mtG n r col tk n))), some (.int (nI z))]) (st' := [.ref 146, .int (nI 1), .int (nI ((fun x => tk x ||| 1 * 2 ^ pmE n r x) z)), .int (nI z), .ref (147 + 22)]) d_266_193 (fun _ => rfl) ?_
                        refine rr_gf (v := .ref (147 + 13)) d_266_194 mo_266 fl_55 rfl ?_
                        refine rr_nx (pc' := 199) (al' := [some (.ref 146), some (.int (nI col)), some (.int (nI ((SM (mtF n L k col u) i) + (mtM n L k (col + 1) (u ||| mkM n r))))), some (.int (nI i)), some (.int (nI (mtG n r col tk n))), some (.int (nI z))]) (st' := [.int (nI z), .ref (147 + 13), .int (nI 1), .int (nI ((fun x => tk x ||| 1 * 2 ^ pmE n r x) z)), .int (nI z), .ref (147 + 22)]) d_266_197 (fun _ => rfl) ?_
                        refine rr_ia (j := 13) (v := (nI (pmE n r z))) d_266_199 (by decide) rfl (by decide) (show z < 6 by first | omega | assumption | exact cu_36 (by omega) (cu_lt (by omega) (by omega))) (hw169 z hz) ?_
                        refine rn_shl d_266_200 (by first | omega | assumption | exact cu_36 (by omega) (cu_lt (by omega) (by omega))) ?_
                        refine rr_nx (pc' := 202) (al' := [some (.ref 146), some (.int (nI col)), some (.int (nI ((SM (mtF n L k col u) i) + (mtM n L k (col + 1) (u ||| mkM n r))))), some (.int (nI i)), some (.int (nI (mtG n r col tk n))), some (.int (nI z))]) (st' := [.int (-1), .int (nI (1 * 2 ^ (pmE n r z))), .int (nI ((fun x => tk x ||| 1 * 2 ^ pmE n r x) z)), .int (nI z), .ref (147 + 22)]) d_266_201 (fun _ => rfl) ?_
                        refine rn_not d_266_202 ?_
                        refine rn_and d_266_203 ?_
                        refine rr_iS (j := 22) (A1 := (rf_u (rf_u A2 13 w169) 22 (upd w23 z (nI (((fun x => tk x ||| 1 * 2 ^ pmE n r x) z) &&& ((1 * 2 ^ (pmE n r z)) ^^^ 4294967295)))))) d_266_204 (by decide) rfl (by decide) (show z < 6 by first | omega | assumption | exact cu_36 (by omega) (cu_lt (by omega) (by omega))) rf_uw ?_
                        refine rn_inc d_266_205 rfl rfl ?_
                        show RR _ _ 208 [some (.ref 146), some (.int (nI col)), some (.int (nI ((SM (mtF n L k col u) i) + (mtM n L k (col + 1) (u ||| mkM n r))))), some (.int (nI i)), some (.int (nI (mtG n r col tk n))), some (.int (nI (z + 1)))] [] g (rf_u (rf_u A2 13 w169) 22 (upd w23 z (nI (((fun x => tk x ||| 1 * 2 ^ pmE n r x) z) &&& ((1 * 2 ^ (pmE n r z)) ^^^ 4294967295))))) _
                        refine rr_nx (pc' := 175) (al' := [some (.ref 146), some (.int (nI col)), some (.int (nI ((SM (mtF n L k col u) i) + (mtM n L k (col + 1) (u ||| mkM n r))))), some (.int (nI i)), some (.int (nI (mtG n r col tk n))), some (.int (nI (z + 1)))]) (st' := []) d_266_208 (fun _ => rfl) ?_
                        exact ihz (upd w23 z (nI (((fun x => tk x ||| 1 * 2 ^ pmE n r x) z) &&& ((1 * 2 ^ (pmE n r z)) ^^^ 4294967295)))) (⟨up_all (f := fun j => nI (tk j)) pz.1 (congrArg nI (un_mark _ (hT z hz).1 _ (by omega) (hfr.2 z hz))), fun j h1 h2 => by rw [pk_un (by omega)]; exact pz.2 j (by omega) h2⟩)
                    · show RR _ _ 175 [some (.ref 146), some (.int (nI col)), some (.int (nI ((SM (mtF n L k col u) i) + (mtM n L k (col + 1) (u ||| mkM n r))))), some (.int (nI i)), some (.int (nI (mtG n r col tk n))), some (.int (nI n))] [] g (rf_u (rf_u A2 13 w169) 22 w23) _
                      refine rr_nx (pc' := 177) (al' := [some (.ref 146), some (.int (nI col)), some (.int (nI ((SM (mtF n L k col u) i) + (mtM n L k (col + 1) (u ||| mkM n r))))), some (.int (nI i)), some (.int (nI (mtG n r col tk n))), some (.int (nI n))]) (st' := [.int (nI n)]) d_266_175 (fun _ => rfl) ?_
                      refine rr_nx (pc' := 178) (al' := [some (.ref 146), some (.int (nI col)), some (.int (nI ((SM (mtF n L k col u) i) + (mtM n L k (col + 1) (u ||| mkM n r))))), some (.int (nI i)), some (.int (nI (mtG n r col tk n))), some (.int (nI n))]) (st' := [.ref 146, .int (nI n)]) d_266_177 (fun _ => rfl) ?_
                      refine rr_gn d_266_178 mo_266 fl_127 rfl h6 ?_
                      refine rn_cge (t := 211) d_266_181 (by decide) (by first | omega | assumption | exact cu_36 (by omega) (cu_lt (by omega) (by omega))) (by first | omega | assumption | exact cu_36 (by omega) (cu_lt (by omega) (by omega))) (fun c181 => ?_) (fun c181 => ?_)
                      · refine rn_inc d_266_211 rfl rfl ?_
                        show RR _ _ 214 [some (.ref 146), some (.int (nI col)), some (.int (nI ((SM (mtF n L k col u) i) + (mtM n L k (col + 1) (u ||| mkM n r))))), some (.int (nI (i + 1))), some (.int (nI (mtG n r col tk n))), some (.int (nI n))] [] g (rf_u (rf_u A2 13 w169) 22 w23) _
                        refine rr_nx (pc' := 14) (al' := [some (.ref 146), some (.int (nI col)), some (.int (nI ((SM (mtF n L k col u) i) + (mtM n L k (col + 1) (u ||| mkM n r))))), some (.int (nI (i + 1))), some (.int (nI (mtG n r col tk n))), some (.int (nI n))]) (st' := []) d_266_214 (fun _ => rfl) ?_
                        refine rr_al (congrArg (fun z__ : Nat => ([some (.ref 146), some (.int (nI col)), some (.int (nI z__)), some (.int (nI (i + 1))), some (.int (nI (mtG n r col tk n))), some (.int (nI n))] : AL)) (show (SM (mtF n L k col u) i) + (mtM n L k (col + 1) (u ||| mkM n r)) = SM (mtF n L k col u) (i + 1) by first | (rw [SM_s, mtF, hr, if_pos hok]) | (rw [SM_s, mtF, hr, if_neg hno]; rfl))) ?_
                        refine rr_dr (al1 := [some (.ref 146), some (.int (nI col)), some (.int (nI (SM (mtF n L k col u) (i + 1)))), some (.int (nI (i + 1))), none, none]) (le_s (le_s (le_s (le_s (le_d rfl (le_d rfl (le_n))))))) ?_
                        exact ihi (rf_u (rf_u A2 13 w169) 22 w23) (⟨by rw [rf_u_n (by decide), rf_u_n (by decide), k2, rf_u_n (by decide), rf_u_n (by decide)]; exact pi.1, (((((pi.2.1.u (by decide)).u (by decide)).tr k1).u (by decide)).u (by decide)), fun x hx => by rw [rf_u_s]; exact pz.1 x hx⟩)
                      · omega
                  · omega
              · have hno : ¬ (pmE n r 0 = col ∧ mkM n r &&& u = 0) := fun e => mtG_f c105 ((mt_iff hT hn6 hrF).mpr e)
                refine rr_nx (pc' := 211) (al' := [some (.ref 146), some (.int (nI col)), some (.int (nI (SM (mtF n L k col u) i))), some (.int (nI i)), some (.int (nI (mtG n r col tk n))), some (.int (nI n))]) (st' := []) d_266_108 (fun _ => rfl) ?_
                refine rn_inc d_266_211 rfl rfl ?_
                show RR _ _ 214 [some (.ref 146), some (.int (nI col)), some (.int (nI (SM (mtF n L k col u) i))), some (.int (nI (i + 1))), some (.int (nI (mtG n r col tk n))), some (.int (nI n))] [] g (rf_u w_ 13 w33) _
                refine rr_nx (pc' := 14) (al' := [some (.ref 146), some (.int (nI col)), some (.int (nI (SM (mtF n L k col u) i))), some (.int (nI (i + 1))), some (.int (nI (mtG n r col tk n))), some (.int (nI n))]) (st' := []) d_266_214 (fun _ => rfl) ?_
                refine rr_al (congrArg (fun z__ : Nat => ([some (.ref 146), some (.int (nI col)), some (.int (nI z__)), some (.int (nI (i + 1))), some (.int (nI (mtG n r col tk n))), some (.int (nI n))] : AL)) (show SM (mtF n L k col u) i = SM (mtF n L k col u) (i + 1) by first | (rw [SM_s, mtF, hr, if_pos hok]) | (rw [SM_s, mtF, hr, if_neg hno]; rfl))) ?_
                refine rr_dr (al1 := [some (.ref 146), some (.int (nI col)), some (.int (nI (SM (mtF n L k col u) (i + 1)))), some (.int (nI (i + 1))), none, none]) (le_s (le_s (le_s (le_s (le_d rfl (le_d rfl (le_n))))))) ?_
                exact ihi (rf_u w_ 13 w33) (⟨by rw [rf_u_n (by decide)]; exact pi.1, pi.2.1.u (by decide), fun x hx => by rw [rf_u_n (by decide)]; exact pi.2.2 x hx⟩)
            · omega
    · show RR _ _ 14 [some (.ref 146), some (.int (nI col)), some (.int (nI (SM (mtF n L k col u) L.length))), some (.int (nI L.length)), none, none] [] g w_ _
      refine rr_nx (pc' := 15) (al' := [some (.ref 146), some (.int (nI col)), some (.int (nI (SM (mtF n L k col u) L.length))), some (.int (nI L.length)), none, none]) (st' := [.int (nI L.length)]) d_266_14 (fun _ => rfl) ?_
      refine rr_nx (pc' := 16) (al' := [some (.ref 146), some (.int (nI col)), some (.int (nI (SM (mtF n L k col u) L.length))), some (.int (nI L.length)), none, none]) (st' := [.ref 146, .int (nI L.length)]) d_266_15 (fun _ => rfl) ?_
      refine rr_gn d_266_16 mo_266 fl_325 rfl h40 ?_
      refine rn_cge (t := 217) d_266_19 (by decide) (by first | omega | assumption | exact cu_36 (by omega) (cu_lt (by omega) (by omega))) (by first | omega | assumption | exact cu_36 (by omega) (cu_lt (by omega) (by omega))) (fun c19 => ?_) (fun c19 => ?_)
      · refine rr_nx (pc' := 218) (al' := [some (.ref 146), some (.int (nI col)), some (.int (nI (SM (mtF n L k col u) L.length))), some (.int (nI L.length)), none, none]) (st' := [.int (nI (SM (mtF n L k col u) L.length))]) d_266_217 (fun _ => rfl) ?_
        exact rr_ri d_266_218 mr_266 rfl ⟨rfl, rfl, pi.2.1, pi.1, pi.2.2⟩
      · omega
  · omega
theorem s_mates {n : Nat} {L : List Nat} (hn6 : n ≤ 6) (hLF : ∀ r, r ∈ L → r < FA n) (hL720 : L.length ≤ 720) : ∀ k, MtC n L k
  | 0 => s_mates_0 hn6
  | k + 1 => s_mates_s hn6 hLF hL720 (s_mates hn6 hLF hL720 k)
theorem tvL_ok {n : Nat} {c : Nat → Nat} (hn : n ≤ 6) : (∀ r, r ∈ tvL n c → r < FA n) ∧ (tvL n c).length ≤ 720 := ⟨fun r hr => List.mem_range.mp (List.mem_filter.mp hr).1, Nat.le_trans (tvR_len (r := FA n)) (FA_720 hn)⟩
def mtN (n : Nat) (c : Nat → Nat) : Nat := mtM n (tvL n c) n 0 0
theorem s_crossings0_24 {g : Nat → Int32} {A : Nat → Nat → Int32} {n : Nat} {c : Nat → Nat} (hc : Cur g A n c) (hl : Lat n c) : RR 20 264 24 [some (.ref 146), none, some (.int (nI 0)), none, none, none, none, none] [] g A (rS (nI (tvL n c).length) g A) := by
  have hn6 := hc.2.1
  refine rn_ic (v := 0) d_264_24 (by decide) ?_
  refine rr_nx (pc' := 26) (al' := [some (.ref 146), none, some (.int (nI 0)), some (.int (nI 0)), none, none, none, none]) (st' := []) d_264_25 (fun _ => rfl) ?_
  refine rr_nx (pc' := 27) (al' := [some (.ref 146), none, some (.int (nI 0)), some (.int (nI 0)), none, none, none, none]) (st' := [.int (nI 0)]) d_264_26 (fun _ => rfl) ?_
  refine rn_ic (v := 2) d_264_27 (by decide) ?_
  refine rn_cne (t := 157) d_264_28 (by decide) (by first | omega | assumption | exact cu_36 (by omega) (cu_lt (by omega) (by omega))) (by first | omega | assumption | exact cu_36 (by omega) (cu_lt (by omega) (by omega))) (fun c28 => ?_) (fun c28 => ?_)
  · refine rr_nx (pc' := 158) (al' := [some (.ref 146), none, some (.int (nI 0)), some (.int (nI 0)), none, none, none, none]) (st' := [.ref 146]) d_264_157 (fun _ => rfl) ?_
    refine rr_cv (as := []) (al0 := [some (.ref 146), none, none, none, none]) (r := []) d_264_158 mo_264 ml_331 mz_265 rfl rfl rfl (rr_wk (Nat.le_of_ble_eq_true rfl) (s_crosses hc hl)) (fun v1 g1 A1 h1 => ?_)
    obtain ⟨q0_, gs, ks, k6, k4, k40, k21⟩ := h1
    obtain rfl := q0_
    show RR _ _ 161 [some (.ref 146), none, some (.int (nI 0)), some (.int (nI 0)), none, none, none, none] [] g1 A1 _
    refine rr_nx (pc' := 162) (al' := [some (.ref 146), none, some (.int (nI 0)), some (.int (nI 0)), none, none, none, none]) (st' := [.int (nI 0)]) d_264_161 (fun _ => rfl) ?_
    refine rn_ine (t := 170) d_264_162 (by decide) (by first | omega | assumption | exact cu_36 (by omega) (cu_lt (by omega) (by omega))) (fun c162 => ?_) (fun c162 => ?_)
    · omega
    · refine rr_nx (pc' := 166) (al' := [some (.ref 146), none, some (.int (nI 0)), some (.int (nI 0)), none, none, none, none]) (st' := [.ref 146]) d_264_165 (fun _ => rfl) ?_
      refine rr_gn d_264_166 mo_264 fl_325 rfl k40 ?_
      exact rr_ri d_264_169 mr_264 rfl ⟨rfl, gs, ks⟩
  · omega
theorem s_crossings1_24 {g : Nat → Int32} {A : Nat → Nat → Int32} {n : Nat} {c : Nat → Nat} (hc : Cur g A n c) (hl : Lat n c) : RR 20 264 24 [some (.ref 146), none, some (.int (nI 1)), none, none, none, none, none] [] g A (rS (nI (mtN n c)) g A) := by
  have hn6 := hc.2.1
  refine rn_ic (v := 0) d_264_24 (by decide) ?_
  refine rr_nx (pc' := 26) (al' := [some (.ref 146), none, some (.int (nI 1)), some (.int (nI 0)), none, none, none, none]) (st' := []) d_264_25 (fun _ => rfl) ?_
  refine rr_nx (pc' := 27) (al' := [some (.ref 146), none, some (.int (nI 1)), some (.int (nI 0)), none, none, none, none]) (st' := [.int (nI 1)]) d_264_26 (fun _ => rfl) ?_
  refine rn_ic (v := 2) d_264_27 (by decide) ?_
  refine rn_cne (t := 157) d_264_28 (by decide) (by first | omega | assumption | exact cu_36 (by omega) (cu_lt (by omega) (by omega))) (by first | omega | assumption | exact cu_36 (by omega) (cu_lt (by omega) (by omega))) (fun c28 => ?_) (fun c28 => ?_)
  · refine rr_nx (pc' := 158) (al' := [some (.ref 146), none, some (.int (nI 1)), some (.int (nI 0)), none, none, none, none]) (st' := [.ref 146]) d_264_157 (fun _ => rfl) ?_
    refine rr_cv (as := []) (al0 := [some (.ref 146), none, none, none, none]) (r := []) d_264_158 mo_264 ml_331 mz_265 rfl rfl rfl (rr_wk (Nat.le_of_ble_eq_true rfl) (s_crosses hc hl)) (fun v1 g1 A1 h1 => ?_)
    obtain ⟨q0_, gs, ks, k6, k4, k40, k21⟩ := h1
    obtain rfl := q0_
    show RR _ _ 161 [some (.ref 146), none, some (.int (nI 1)), some (.int (nI 0)), none, none, none, none] [] g1 A1 _
    refine rr_nx (pc' := 162) (al' := [some (.ref 146), none, some (.int (nI 1)), some (.int (nI 0)), none, none, none, none]) (st' := [.int (nI 1)]) d_264_161 (fun _ => rfl) ?_
    refine rn_ine (t := 170) d_264_162 (by decide) (by first | omega | assumption | exact cu_36 (by omega) (cu_lt (by omega) (by omega))) (fun c162 => ?_) (fun c162 => ?_)
    · refine rn_ic (v := 0) d_264_170 (by decide) ?_
      refine rr_nx (pc' := 173) (al' := [some (.ref 146), none, some (.int (nI 1)), some (.int (nI 0)), some (.int (nI 0)), none, none, none]) (st' := []) d_264_171 (fun _ => rfl) ?_
      refine rr_A (show A1 = (rf_u A1 22 (A1 22)) by rw [rf_u_id]) ?_
      refine rr_upw (al := fun x w_ => [some (.ref 146), none, some (.int (nI 1)), some (.int (nI 0)), some (.int (nI x)), none, none, none]) (G := fun x w_ => g1) (B := fun x w_ => (rf_u A1 22 w_)) (P := fun x w_ => ∀ q, q < x → w_ q = nI 0) (n := n) (fun x w_ hx px ihx => ?_) (fun w_ px => ?_) 0 (A1 22) (by omega) (all_0)
      · show RR _ _ 173 [some (.ref 146), none, some (.int (nI 1)), some (.int (nI 0)), some (.int (nI x)), none, none, none] [] g1 (rf_u A1 22 w_) _
        refine rr_nx (pc' := 175) (al' := [some (.ref 146), none, some (.int (nI 1)), some (.int (nI 0)), some (.int (nI x)), none, none, none]) (st' := [.int (nI x)]) d_264_173 (fun _ => rfl) ?_
        refine rr_nx (pc' := 176) (al' := [some (.ref 146), none, some (.int (nI 1)), some (.int (nI 0)), some (.int (nI x)), none, none, none]) (st' := [.ref 146, .int (nI x)]) d_264_175 (fun _ => rfl) ?_
        refine rr_gn d_264_176 mo_264 fl_127 rfl (by first | exact hc.1 | exact k6) ?_
        refine rn_cge (t := 196) d_264_179 (by decide) (by first | omega | assumption | exact cu_36 (by omega) (cu_lt (by omega) (by omega))) (by first | omega | assumption | exact cu_36 (by omega) (cu_lt (by omega) (by omega))) (fun c179 => ?_) (fun c179 => ?_)
        · omega
        · refine rr_nx (pc' := 183) (al' := [some (.ref 146), none, some (.int (nI 1)), some (.int (nI 0)), some (.int (nI x)), none, none, none]) (st' := [.ref 146]) d_264_182 (fun _ => rfl) ?_
          refine rr_gf (v := .ref (147 + 22)) d_264_183 mo_264 fl_82 rfl ?_
          refine rr_nx (pc' := 188) (al' := [some (.ref 146), none, some (.int (nI 1)), some (.int (nI 0)), some (.int (nI x)), none, none, none]) (st' := [.int (nI x), .ref (147 + 22)]) d_264_186 (fun _ => rfl) ?_
          refine rn_ic (v := 0) d_264_188 (by decide) ?_
          refine rr_iS (j := 22) (A1 := (rf_u A1 22 (upd w_ x (nI 0)))) d_264_189 (by decide) rfl (by decide) (show x < 6 by first | omega | assumption | exact cu_36 (by omega) (cu_lt (by omega) (by omega))) rf_uw ?_
          refine rn_inc d_264_190 rfl rfl ?_
          show RR _ _ 193 [some (.ref 146), none, some (.int (nI 1)), some (.int (nI 0)), some (.int (nI (x + 1))), none, none, none] [] g1 (rf_u A1 22 (upd w_ x (nI 0))) _
          refine rr_nx (pc' := 173) (al' := [some (.ref 146), none, some (.int (nI 1)), some (.int (nI 0)), some (.int (nI (x + 1))), none, none, none]) (st' := []) d_264_193 (fun _ => rfl) ?_
          exact ihx (upd w_ x (nI 0)) (up_all (f := fun _ => nI 0) px rfl)
      · show RR _ _ 173 [some (.ref 146), none, some (.int (nI 1)), some (.int (nI 0)), some (.int (nI n)), none, none, none] [] g1 (rf_u A1 22 w_) _
        refine rr_nx (pc' := 175) (al' := [some (.ref 146), none, some (.int (nI 1)), some (.int (nI 0)), some (.int (nI n)), none, none, none]) (st' := [.int (nI n)]) d_264_173 (fun _ => rfl) ?_
        refine rr_nx (pc' := 176) (al' := [some (.ref 146), none, some (.int (nI 1)), some (.int (nI 0)), some (.int (nI n)), none, none, none]) (st' := [.ref 146, .int (nI n)]) d_264_175 (fun _ => rfl) ?_
        refine rr_gn d_264_176 mo_264 fl_127 rfl (by first | exact hc.1 | exact k6) ?_
        refine rn_cge (t := 196) d_264_179 (by decide) (by first | omega | assumption | exact cu_36 (by omega) (cu_lt (by omega) (by omega))) (by first | omega | assumption | exact cu_36 (by omega) (cu_lt (by omega) (by omega))) (fun c179 => ?_) (fun c179 => ?_)
        · refine rr_nx (pc' := 197) (al' := [some (.ref 146), none, some (.int (nI 1)), some (.int (nI 0)), some (.int (nI n)), none, none, none]) (st' := [.ref 146]) d_264_196 (fun _ => rfl) ?_
          refine rn_ic (v := 0) d_264_197 (by decide) ?_
          refine rr_cv (as := [.int (nI 0)]) (al0 := [some (.ref 146), some (.int (nI 0)), none, none, none, none]) (r := []) d_264_198 mo_264 ml_328 mz_266 rfl rfl rfl (rr_wk (show n + 2 ≤ 19 by omega) (s_mates hn6 (tvL_ok hn6).1 (tvL_ok hn6).2 n (tk := fun _ => 0) (u := 0) k6 k40 (fun j hj => by rw [rf_u_n (by decide)]; exact k21 j hj) (fun x hx => by rw [rf_u_s]; exact px x hx) (fun x _ => ⟨show 0 < 64 by decide, fun y _ => by rw [Nat.zero_testBit, Nat.zero_testBit]⟩) (by omega))) (fun v1 g2 A2 h1 => ?_)
          obtain ⟨q0_, q1_, k1, k2, k3⟩ := h1
          obtain rfl := q0_
          obtain rfl := q1_.symm
          show RR _ _ 201 [some (.ref 146), none, some (.int (nI 1)), some (.int (nI 0)), some (.int (nI n)), none, none, none] [.int (nI (mtM n (tvL n c) n 0 0))] g1 A2 _
          exact rr_ri d_264_201 mr_264 rfl ⟨rfl, gs, (ks.u (by decide)).tr k1⟩
        · omega
    · omega
  · omega
