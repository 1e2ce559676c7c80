/-! Parts, sets, nuclei: the reference; printed by wip/whole/gen_a1.py. -/
/-- how many bits -/
def onN (s : Nat) : Nat := SM (fun k => s / 2 ^ k &&& 1) 16
theorem onN_16 (s : Nat) : onN s ≤ 16 := by
  have : onN s ≤ 16 * 1 := SM_le (fun i _ => by have := bt_lt s i; omega)
  omega
theorem SMb_le {s i : Nat} : SM (fun k => s / 2 ^ k &&& 1) i ≤ i := by
  have : SM (fun k => s / 2 ^ k &&& 1) i ≤ i * 1 := SM_le (fun q _ => by have := bt_lt s q; omega)
  omega
theorem s_ones {g : Nat → Int32} {A : Nat → Nat → Int32} {v : Nat} (hv : v < 2 ^ 31) : RR 0 247 0 [some (.int (nI v)), none, none] [] g A (rP (some (.int (nI (onN v)))) g A) := by
  refine rn_ic (v := 0) d_247_0 (by decide) ?_
  refine rr_nx (pc' := 2) (al' := [some (.int (nI v)), some (.int (nI 0)), none]) (st' := []) d_247_1 (fun _ => rfl) ?_
  refine rn_ic (v := 0) d_247_2 (by decide) ?_
  refine rr_nx (pc' := 4) (al' := [some (.int (nI v)), some (.int (nI 0)), some (.int (nI 0))]) (st' := []) d_247_3 (fun _ => rfl) ?_
  refine rr_al (congrArg (fun z__ : Nat => ([some (.int (nI v)), some (.int (nI z__)), some (.int (nI 0))] : AL)) (show 0 = SM (fun k => v / 2 ^ k &&& 1) 0 by first | rfl | omega | (simp only [SM_s]; omega) | (simp [SM_s, *]; done) | (simp [SM_s, *]; omega))) ?_
  refine rr_up (al := fun i => [some (.int (nI v)), some (.int (nI (SM (fun k => v / 2 ^ k &&& 1) i))), some (.int (nI i))]) (G := fun i => g) (B := fun i => A) (P := fun i => True) (n := 16) (fun i hi pi ihi => ?_) (fun pi => ?_) 0  (by omega) (trivial)
  · show RR _ _ 4 [some (.int (nI v)), some (.int (nI (SM (fun k => v / 2 ^ k &&& 1) i))), some (.int (nI i))] [] g A _
    refine rr_nx (pc' := 5) (al' := [some (.int (nI v)), some (.int (nI (SM (fun k => v / 2 ^ k &&& 1) i))), some (.int (nI i))]) (st' := [.int (nI i)]) d_247_4 (fun _ => rfl) ?_
    refine rn_bp (v := 16) d_247_5 (by decide) ?_
    refine rn_cge (t := 24) d_247_7 (by decide) (by first | omega | assumption | exact cu_36 (by omega) (cu_lt (by omega) (by omega))) (by first | omega | assumption | exact cu_36 (by omega) (cu_lt (by omega) (by omega))) (fun c7 => ?_) (fun c7 => ?_)
    · omega
    · refine rr_nx (pc' := 11) (al' := [some (.int (nI v)), some (.int (nI (SM (fun k => v / 2 ^ k &&& 1) i))), some (.int (nI i))]) (st' := [.int (nI (SM (fun k => v / 2 ^ k &&& 1) i))]) d_247_10 (fun _ => rfl) ?_
      refine rr_nx (pc' := 12) (al' := [some (.int (nI v)), some (.int (nI (SM (fun k => v / 2 ^ k &&& 1) i))), some (.int (nI i))]) (st' := [.int (nI v), .int (nI (SM (fun k => v / 2 ^ k &&& 1) i))]) d_247_11 (fun _ => rfl) ?_
      refine rr_nx (pc' := 13) (al' := [some (.int (nI v)), some (.int (nI (SM (fun k => v / 2 ^ k &&& 1) i))), some (.int (nI i))]) (st' := [.int (nI i), .int (nI v), .int (nI (SM (fun k => v / 2 ^ k &&& 1) i))]) d_247_12 (fun _ => rfl) ?_
      refine rn_shr d_247_13 (by first | omega | assumption | exact cu_36 (by omega) (cu_lt (by omega) (by omega))) (by first | omega | assumption | exact cu_36 (by omega) (cu_lt (by omega) (by omega))) ?_
      refine rn_ic (v := 1) d_247_14 (by decide) ?_
      refine rn_and d_247_15 ?_
      refine rn_add d_247_16  ?_
      refine rr_nx (pc' := 18) (al' := [some (.int (nI v)), some (.int (nI ((SM (fun k => v / 2 ^ k &&& 1) i) + ((v / 2 ^ i) &&& 1)))), some (.int (nI i))]) (st' := []) d_247_17 (fun _ => rfl) ?_
      refine rn_inc d_247_18 rfl rfl ?_
      show RR _ _ 21 [some (.int (nI v)), some (.int (nI ((SM (fun k => v / 2 ^ k &&& 1) i) + ((v / 2 ^ i) &&& 1)))), some (.int (nI (i + 1)))] [] g A _
      refine rr_nx (pc' := 4) (al' := [some (.int (nI v)), some (.int (nI ((SM (fun k => v / 2 ^ k &&& 1) i) + ((v / 2 ^ i) &&& 1)))), some (.int (nI (i + 1)))]) (st' := []) d_247_21 (fun _ => rfl) ?_
      refine rr_al (congrArg (fun z__ : Nat => ([some (.int (nI v)), some (.int (nI z__)), some (.int (nI (i + 1)))] : AL)) (show (SM (fun k => v / 2 ^ k &&& 1) i) + ((v / 2 ^ i) &&& 1) = SM (fun k => v / 2 ^ k &&& 1) (i + 1) by first | rfl | omega | (simp only [SM_s]; omega) | (simp [SM_s, *]; done) | (simp [SM_s, *]; omega))) ?_
      exact ihi  (trivial)
  · show RR _ _ 4 [some (.int (nI v)), some (.int (nI (SM (fun k => v / 2 ^ k &&& 1) 16))), some (.int (nI 16))] [] g A _
    refine rr_nx (pc' := 5) (al' := [some (.int (nI v)), some (.int (nI (SM (fun k => v / 2 ^ k &&& 1) 16))), some (.int (nI 16))]) (st' := [.int (nI 16)]) d_247_4 (fun _ => rfl) ?_
    refine rn_bp (v := 16) d_247_5 (by decide) ?_
    refine rn_cge (t := 24) d_247_7 (by decide) (by first | omega | assumption | exact cu_36 (by omega) (cu_lt (by omega) (by omega))) (by first | omega | assumption | exact cu_36 (by omega) (cu_lt (by omega) (by omega))) (fun c7 => ?_) (fun c7 => ?_)
    · refine rr_nx (pc' := 25) (al' := [some (.int (nI v)), some (.int (nI (SM (fun k => v / 2 ^ k &&& 1) 16))), some (.int (nI 16))]) (st' := [.int (nI (SM (fun k => v / 2 ^ k &&& 1) 16))]) d_247_24 (fun _ => rfl) ?_
      exact rr_ri d_247_25 mr_247 rfl ⟨rfl, rfl, rfl⟩
    · omega
/-- what two of a set make, joined to it -/
def jnf (n : Nat) (c : Nat → Nat) (s x y : Nat) : Nat := if s.testBit x ∧ s.testBit y then 1 * 2 ^ c (n * x + y) else 0
def jnS (n : Nat) (c : Nat → Nat) (s : Nat) : Nat := s ||| ORs (fun x => ORs (jnf n c s x) n) n
def jnT (n : Nat) (c : Nat → Nat) (s : Nat) : Nat → Nat
  | 0 => s
  | k + 1 => jnS n c (jnT n c s k)
theorem jnf_lt {n : Nat} {c : Nat → Nat} {s : Nat} (hn : n ≤ 6) (hc : ∀ q, q < n * n → c q < n) {x y : Nat} (hx : x < n) (hy : y < n) : jnf n c s x y < 2 ^ n := by
  unfold jnf
  split
  · rw [Nat.one_mul]
    exact tw_lt (hc _ (cu_lt hx hy))
  · exact Nat.two_pow_pos n
theorem jnS_lt {n : Nat} {c : Nat → Nat} {s : Nat} (hn : n ≤ 6) (hc : ∀ q, q < n * n → c q < n) (hs : s < 2 ^ n) : jnS n c s < 2 ^ n := Nat.or_lt_two_pow hs (ORs_lt fun _ hx => ORs_lt fun _ hy => jnf_lt hn hc hx hy)
theorem jnT_lt {n : Nat} {c : Nat → Nat} {s : Nat} (hn : n ≤ 6) (hc : ∀ q, q < n * n → c q < n) (hs : s < 2 ^ n) : ∀ k, jnT n c s k < 2 ^ n
  | 0 => hs
  | k + 1 => jnS_lt hn hc (jnT_lt hn hc hs k)
theorem le_64 {n s : Nat} (hn : n ≤ 6) (h : s < 2 ^ n) : s < 64 := Nat.lt_of_lt_of_le h (Nat.pow_le_pow_right (by decide) hn)
theorem bt_2 (s x y : Nat) : s / 2 ^ x &&& s / 2 ^ y &&& 1 = 1 ↔ s.testBit x = true ∧ s.testBit y = true := by
  rw [Nat.and_assoc, bt_1]
  by_cases h : s.testBit y
  · simp only [h, if_true, and_true]
    exact bt_e1
  · simp [h]
def jnB (n : Nat) (c : Nat → Nat) (s : Nat) : Nat → Nat
  | 0 => 0
  | k + 1 => jnT n c s k
theorem all_s {p : Nat → Prop} {i : Nat} (h : ∀ q, q < i → p q) (h1 : p i) : ∀ q, q < i + 1 → p q := fun q hq => (Nat.lt_succ_iff_lt_or_eq.mp hq).elim (fun e => h q e) (fun e => e ▸ h1)
theorem all_0 {p : Nat → Prop} : ∀ q, q < 0 → p q := fun q hq => absurd hq (Nat.not_lt_zero q)
theorem no_s {p : Nat → Prop} {i : Nat} (h : ¬ ∀ q, q < i → p q) : ¬ ∀ q, q < i + 1 → p q := fun e => h (fun q hq => e q (by omega))
theorem s_closedOf_ {g : Nat → Int32} {A : Nat → Nat → Int32} {n : Nat} {c : Nat → Nat} (hc : Cur g A n c) {p d : Nat} (hp : p < 2 ^ n) (hd : jnT n c p d = jnB n c p d) (hu : ∀ i, i < d → ¬ jnT n c p i = jnB n c p i) : RR 1 246 0 [some (.ref 146), some (.int (nI p)), none, none, none, none] [] g A (rP (some (.int (nI (jnT n c p d)))) g A) := by
  have hn6 := hc.2.1
  refine rr_nx (pc' := 1) (al' := [some (.ref 146), some (.int (nI p)), none, none, none, none]) (st' := [.int (nI p)]) d_246_0 (fun _ => rfl) ?_
  refine rr_nx (pc' := 2) (al' := [some (.ref 146), some (.int (nI p)), some (.int (nI p)), none, none, none]) (st' := []) d_246_1 (fun _ => rfl) ?_
  refine rn_ic (v := 0) d_246_2 (by decide) ?_
  refine rr_nx (pc' := 4) (al' := [some (.ref 146), some (.int (nI p)), some (.int (nI p)), some (.int (nI 0)), none, none]) (st' := []) d_246_3 (fun _ => rfl) ?_
  refine rr_al (congrArg (fun z__ : Nat => ([some (.ref 146), some (.int (nI p)), some (.int (nI z__)), some (.int (nI 0)), none, none] : AL)) (show p = jnT n c p 0 by rfl)) ?_
  refine rr_al (congrArg (fun z__ : Nat => ([some (.ref 146), some (.int (nI p)), some (.int (nI (jnT n c p 0))), some (.int (nI z__)), none, none] : AL)) (show 0 = jnB n c p 0 by rfl)) ?_
  refine rr_up (al := fun i => [some (.ref 146), some (.int (nI p)), some (.int (nI (jnT n c p i))), some (.int (nI (jnB n c p i))), none, none]) (G := fun i => g) (B := fun i => A) (P := fun i => True) (n := d) (fun i hi pi ihi => ?_) (fun pi => ?_) 0  (by omega) (trivial)
  · show RR _ _ 4 [some (.ref 146), some (.int (nI p)), some (.int (nI (jnT n c p i))), some (.int (nI (jnB n c p i))), none, none] [] g A _
    have hti : ∀ i, jnT n c p i < 64 := fun i => le_64 hn6 (jnT_lt hn6 (fun q hq => (hc.2.2 q hq).2) hp i)
    have hbi : ∀ i, jnB n c p i < 64 := fun i => match i with | 0 => by show (0 : Nat) < 64; omega | i + 1 => hti i
    have ht1 := hti i
    have hb1 := hbi i
    refine rr_nx (pc' := 5) (al' := [some (.ref 146), some (.int (nI p)), some (.int (nI (jnT n c p i))), some (.int (nI (jnB n c p i))), none, none]) (st' := [.int (nI (jnT n c p i))]) d_246_4 (fun _ => rfl) ?_
    refine rr_nx (pc' := 6) (al' := [some (.ref 146), some (.int (nI p)), some (.int (nI (jnT n c p i))), some (.int (nI (jnB n c p i))), none, none]) (st' := [.int (nI (jnB n c p i)), .int (nI (jnT n c p i))]) d_246_5 (fun _ => rfl) ?_
    refine rn_ceq (t := 78) d_246_6 (by decide) (by first | omega | assumption | exact cu_36 (by omega) (cu_lt (by omega) (by omega))) (by first | omega | assumption | exact cu_36 (by omega) (cu_lt (by omega) (by omega))) (fun c6 => ?_) (fun c6 => ?_)
    · exact absurd c6 (hu i hi)
    · refine rr_nx (pc' := 10) (al' := [some (.ref 146), some (.int (nI p)), some (.int (nI (jnT n c p i))), some (.int (nI (jnB n c p i))), none, none]) (st' := [.int (nI (jnT n c p i))]) d_246_9 (fun _ => rfl) ?_
      refine rr_nx (pc' := 11) (al' := [some (.ref 146), some (.int (nI p)), some (.int (nI (jnT n c p i))), some (.int (nI (jnT n c p i))), none, none]) (st' := []) d_246_10 (fun _ => rfl) ?_
      refine rn_ic (v := 0) d_246_11 (by decide) ?_
      refine rr_nx (pc' := 14) (al' := [some (.ref 146), some (.int (nI p)), some (.int (nI (jnT n c p i))), some (.int (nI (jnT n c p i))), some (.int (nI 0)), none]) (st' := []) d_246_12 (fun _ => rfl) ?_
      refine rr_al (congrArg (fun z__ : Nat => ([some (.ref 146), some (.int (nI p)), some (.int (nI z__)), some (.int (nI (jnT n c p i))), some (.int (nI 0)), none] : AL)) (show jnT n c p i = jnT n c p i ||| ORs (fun x => ORs (jnf n c (jnT n c p i) x) n) 0 by exact (Nat.or_zero _).symm)) ?_
      refine rr_up (al := fun x => [some (.ref 146), some (.int (nI p)), some (.int (nI (jnT n c p i ||| ORs (fun x => ORs (jnf n c (jnT n c p i) x) n) x))), some (.int (nI (jnT n c p i))), some (.int (nI x)), none]) (G := fun x => g) (B := fun x => A) (P := fun x => True) (n := n) (fun x hx px ihx => ?_) (fun px => ?_) 0  (by omega) (trivial)
      · show RR _ _ 14 [some (.ref 146), some (.int (nI p)), some (.int (nI (jnT n c p i ||| ORs (fun x => ORs (jnf n c (jnT n c p i) x) n) x))), some (.int (nI (jnT n c p i))), some (.int (nI x)), none] [] g A _
        refine rr_nx (pc' := 16) (al' := [some (.ref 146), some (.int (nI p)), some (.int (nI (jnT n c p i ||| ORs (fun x => ORs (jnf n c (jnT n c p i) x) n) x))), some (.int (nI (jnT n c p i))), some (.int (nI x)), none]) (st' := [.int (nI x)]) d_246_14 (fun _ => rfl) ?_
        refine rr_nx (pc' := 17) (al' := [some (.ref 146), some (.int (nI p)), some (.int (nI (jnT n c p i ||| ORs (fun x => ORs (jnf n c (jnT n c p i) x) n) x))), some (.int (nI (jnT n c p i))), some (.int (nI x)), none]) (st' := [.ref 146, .int (nI x)]) d_246_16 (fun _ => rfl) ?_
        refine rr_gn d_246_17 mo_246 fl_127 rfl hc.1 ?_
        refine rn_cge (t := 75) d_246_20 (by decide) (by first | omega | assumption | exact cu_36 (by omega) (cu_lt (by omega) (by omega))) (by first | omega | assumption | exact cu_36 (by omega) (cu_lt (by omega) (by omega))) (fun c20 => ?_) (fun c20 => ?_)
        · omega
        · refine rn_ic (v := 0) d_246_23 (by decide) ?_
          refine rr_nx (pc' := 26) (al' := [some (.ref 146), some (.int (nI p)), some (.int (nI (jnT n c p i ||| ORs (fun x => ORs (jnf n c (jnT n c p i) x) n) x))), some (.int (nI (jnT n c p i))), some (.int (nI x)), some (.int (nI 0))]) (st' := []) d_246_24 (fun _ => rfl) ?_
          refine rr_al (congrArg (fun z__ : Nat => ([some (.ref 146), some (.int (nI p)), some (.int (nI z__)), some (.int (nI (jnT n c p i))), some (.int (nI x)), some (.int (nI 0))] : AL)) (show jnT n c p i ||| ORs (fun x => ORs (jnf n c (jnT n c p i) x) n) x = jnT n c p i ||| ORs (fun x => ORs (jnf n c (jnT n c p i) x) n) x ||| ORs (jnf n c (jnT n c p i) x) 0 by exact (Nat.or_zero _).symm)) ?_
          refine rr_up (al := fun y => [some (.ref 146), some (.int (nI p)), some (.int (nI (jnT n c p i ||| ORs (fun x => ORs (jnf n c (jnT n c p i) x) n) x ||| ORs (jnf n c (jnT n c p i) x) y))), some (.int (nI (jnT n c p i))), some (.int (nI x)), some (.int (nI y))]) (G := fun y => g) (B := fun y => A) (P := fun y => True) (n := n) (fun y hy py ihy => ?_) (fun py => ?_) 0  (by omega) (trivial)
          · show RR _ _ 26 [some (.ref 146), some (.int (nI p)), some (.int (nI (jnT n c p i ||| ORs (fun x => ORs (jnf n c (jnT n c p i) x) n) x ||| ORs (jnf n c (jnT n c p i) x) y))), some (.int (nI (jnT n c p i))), some (.int (nI x)), some (.int (nI y))] [] g A _
            refine rr_nx (pc' := 28) (al' := [some (.ref 146), some (.int (nI p)), some (.int (nI (jnT n c p i ||| ORs (fun x => ORs (jnf n c (jnT n c p i) x) n) x ||| ORs (jnf n c (jnT n c p i) x) y))), some (.int (nI (jnT n c p i))), some (.int (nI x)), some (.int (nI y))]) (st' := [.int (nI y)]) d_246_26 (fun _ => rfl) ?_
            refine rr_nx (pc' := 29) (al' := [some (.ref 146), some (.int (nI p)), some (.int (nI (jnT n c p i ||| ORs (fun x => ORs (jnf n c (jnT n c p i) x) n) x ||| ORs (jnf n c (jnT n c p i) x) y))), some (.int (nI (jnT n c p i))), some (.int (nI x)), some (.int (nI y))]) (st' := [.ref 146, .int (nI y)]) d_246_28 (fun _ => rfl) ?_
            refine rr_gn d_246_29 mo_246 fl_127 rfl hc.1 ?_
            refine rn_cge (t := 69) d_246_32 (by decide) (by first | omega | assumption | exact cu_36 (by omega) (cu_lt (by omega) (by omega))) (by first | omega | assumption | exact cu_36 (by omega) (cu_lt (by omega) (by omega))) (fun c32 => ?_) (fun c32 => ?_)
            · omega
            · refine rr_nx (pc' := 36) (al' := [some (.ref 146), some (.int (nI p)), some (.int (nI (jnT n c p i ||| ORs (fun x => ORs (jnf n c (jnT n c p i) x) n) x ||| ORs (jnf n c (jnT n c p i) x) y))), some (.int (nI (jnT n c p i))), some (.int (nI x)), some (.int (nI y))]) (st' := [.int (nI (jnT n c p i))]) d_246_35 (fun _ => rfl) ?_
              refine rr_nx (pc' := 38) (al' := [some (.ref 146), some (.int (nI p)), some (.int (nI (jnT n c p i ||| ORs (fun x => ORs (jnf n c (jnT n c p i) x) n) x ||| ORs (jnf n c (jnT n c p i) x) y))), some (.int (nI (jnT n c p i))), some (.int (nI x)), some (.int (nI y))]) (st' := [.int (nI x), .int (nI (jnT n c p i))]) d_246_36 (fun _ => rfl) ?_
              refine rn_shr d_246_38 (by first | omega | assumption | exact cu_36 (by omega) (cu_lt (by omega) (by omega))) (by first | omega | assumption | exact cu_36 (by omega) (cu_lt (by omega) (by omega))) ?_
              refine rr_nx (pc' := 40) (al' := [some (.ref 146), some (.int (nI p)), some (.int (nI (jnT n c p i ||| ORs (fun x => ORs (jnf n c (jnT n c p i) x) n) x ||| ORs (jnf n c (jnT n c p i) x) y))), some (.int (nI (jnT n c p i))), some (.int (nI x)), some (.int (nI y))]) (st' := [.int (nI (jnT n c p i)), .int (nI ((jnT n c p i) / 2 ^ x))]) d_246_39 (fun _ => rfl) ?_
              refine rr_nx (pc' := 42) (al' := [some (.ref 146), some (.int (nI p)), some (.int (nI (jnT n c p i ||| ORs (fun x => ORs (jnf n c (jnT n c p i) x) n) x ||| ORs (jnf n c (jnT n c p i) x) y))), some (.int (nI (jnT n c p i))), some (.int (nI x)), some (.int (nI y))]) (st' := [.int (nI y), .int (nI (jnT n c p i)), .int (nI ((jnT n c p i) / 2 ^ x))]) d_246_40 (fun _ => rfl) ?_
              refine rn_shr d_246_42 (by first | omega | assumption | exact cu_36 (by omega) (cu_lt (by omega) (by omega))) (by first | omega | assumption | exact cu_36 (by omega) (cu_lt (by omega) (by omega))) ?_
              refine rn_and d_246_43 ?_
              refine rn_ic (v := 1) d_246_44 (by decide) ?_
              refine rn_and d_246_45 ?_
              refine rn_ic (v := 1) d_246_46 (by decide) ?_
              refine rn_cne (t := 63) d_246_47 (by decide) (by have := bt_lt (jnT n c p i / 2 ^ x &&& jnT n c p i) 0; exact Nat.lt_of_le_of_lt (Nat.and_le_right) (by decide)) (by decide) (fun c47 => ?_) (fun c47 => ?_)
              · refine rn_inc d_246_63 rfl rfl ?_
                show RR _ _ 66 [some (.ref 146), some (.int (nI p)), some (.int (nI (jnT n c p i ||| ORs (fun x => ORs (jnf n c (jnT n c p i) x) n) x ||| ORs (jnf n c (jnT n c p i) x) y))), some (.int (nI (jnT n c p i))), some (.int (nI x)), some (.int (nI (y + 1)))] [] g A _
                refine rr_nx (pc' := 26) (al' := [some (.ref 146), some (.int (nI p)), some (.int (nI (jnT n c p i ||| ORs (fun x => ORs (jnf n c (jnT n c p i) x) n) x ||| ORs (jnf n c (jnT n c p i) x) y))), some (.int (nI (jnT n c p i))), some (.int (nI x)), some (.int (nI (y + 1)))]) (st' := []) d_246_66 (fun _ => rfl) ?_
                refine rr_al (congrArg (fun z__ : Nat => ([some (.ref 146), some (.int (nI p)), some (.int (nI z__)), some (.int (nI (jnT n c p i))), some (.int (nI x)), some (.int (nI (y + 1)))] : AL)) (show jnT n c p i ||| ORs (fun x => ORs (jnf n c (jnT n c p i) x) n) x ||| ORs (jnf n c (jnT n c p i) x) y = jnT n c p i ||| ORs (fun x => ORs (jnf n c (jnT n c p i) x) n) x ||| ORs (jnf n c (jnT n c p i) x) (y + 1) by first | rw [ORs_s, jnf, if_pos ((bt_2 _ _ _).mp c47), Nat.or_assoc] | rw [ORs_s, jnf, if_neg (fun e => c47 ((bt_2 _ _ _).mpr e)), Nat.or_zero])) ?_
                exact ihy  (trivial)
              · refine rr_nx (pc' := 51) (al' := [some (.ref 146), some (.int (nI p)), some (.int (nI (jnT n c p i ||| ORs (fun x => ORs (jnf n c (jnT n c p i) x) n) x ||| ORs (jnf n c (jnT n c p i) x) y))), some (.int (nI (jnT n c p i))), some (.int (nI x)), some (.int (nI y))]) (st' := [.int (nI (jnT n c p i ||| ORs (fun x => ORs (jnf n c (jnT n c p i) x) n) x ||| ORs (jnf n c (jnT n c p i) x) y))]) d_246_50 (fun _ => rfl) ?_
                refine rn_ic (v := 1) d_246_51 (by decide) ?_
                refine rr_nx (pc' := 53) (al' := [some (.ref 146), some (.int (nI p)), some (.int (nI (jnT n c p i ||| ORs (fun x => ORs (jnf n c (jnT n c p i) x) n) x ||| ORs (jnf n c (jnT n c p i) x) y))), some (.int (nI (jnT n c p i))), some (.int (nI x)), some (.int (nI y))]) (st' := [.ref 146, .int (nI 1), .int (nI (jnT n c p i ||| ORs (fun x => ORs (jnf n c (jnT n c p i) x) n) x ||| ORs (jnf n c (jnT n c p i) x) y))]) d_246_52 (fun _ => rfl) ?_
                refine rr_nx (pc' := 55) (al' := [some (.ref 146), some (.int (nI p)), some (.int (nI (jnT n c p i ||| ORs (fun x => ORs (jnf n c (jnT n c p i) x) n) x ||| ORs (jnf n c (jnT n c p i) x) y))), some (.int (nI (jnT n c p i))), some (.int (nI x)), some (.int (nI y))]) (st' := [.int (nI x), .ref 146, .int (nI 1), .int (nI (jnT n c p i ||| ORs (fun x => ORs (jnf n c (jnT n c p i) x) n) x ||| ORs (jnf n c (jnT n c p i) x) y))]) d_246_53 (fun _ => rfl) ?_
                refine rr_nx (pc' := 57) (al' := [some (.ref 146), some (.int (nI p)), some (.int (nI (jnT n c p i ||| ORs (fun x => ORs (jnf n c (jnT n c p i) x) n) x ||| ORs (jnf n c (jnT n c p i) x) y))), some (.int (nI (jnT n c p i))), some (.int (nI x)), some (.int (nI y))]) (st' := [.int (nI y), .int (nI x), .ref 146, .int (nI 1), .int (nI (jnT n c p i ||| ORs (fun x => ORs (jnf n c (jnT n c p i) x) n) x ||| ORs (jnf n c (jnT n c p i) x) y))]) d_246_55 (fun _ => rfl) ?_
                refine rr_pv (as := [.int (nI x), .int (nI y)]) (al0 := [some (.ref 146), some (.int (nI x)), some (.int (nI y))]) (r := [.int (nI 1), .int (nI (jnT n c p i ||| ORs (fun x => ORs (jnf n c (jnT n c p i) x) n) x ||| ORs (jnf n c (jnT n c p i) x) y))]) d_246_57 mo_246 ml_130 mz_213 rfl rfl rfl (Nat.le_of_ble_eq_true rfl) (s_times hc (by omega) (by omega)) ?_
                show RR _ _ 60 [some (.ref 146), some (.int (nI p)), some (.int (nI (jnT n c p i ||| ORs (fun x => ORs (jnf n c (jnT n c p i) x) n) x ||| ORs (jnf n c (jnT n c p i) x) y))), some (.int (nI (jnT n c p i))), some (.int (nI x)), some (.int (nI y))] [.int (nI (c (n * x + y))), .int (nI 1), .int (nI (jnT n c p i ||| ORs (fun x => ORs (jnf n c (jnT n c p i) x) n) x ||| ORs (jnf n c (jnT n c p i) x) y))] g A _
                have b57 : c (n * x + y) < n := (hc.2.2 _ (cu_lt (by omega) (by omega))).2
                refine rn_shl d_246_60 (by first | omega | assumption | exact cu_36 (by omega) (cu_lt (by omega) (by omega))) ?_
                refine rn_or d_246_61 ?_
                refine rr_nx (pc' := 63) (al' := [some (.ref 146), some (.int (nI p)), some (.int (nI ((jnT n c p i ||| ORs (fun x => ORs (jnf n c (jnT n c p i) x) n) x ||| ORs (jnf n c (jnT n c p i) x) y) ||| (1 * 2 ^ (c (n * x + y)))))), some (.int (nI (jnT n c p i))), some (.int (nI x)), some (.int (nI y))]) (st' := []) d_246_62 (fun _ => rfl) ?_
                refine rn_inc d_246_63 rfl rfl ?_
                show RR _ _ 66 [some (.ref 146), some (.int (nI p)), some (.int (nI ((jnT n c p i ||| ORs (fun x => ORs (jnf n c (jnT n c p i) x) n) x ||| ORs (jnf n c (jnT n c p i) x) y) ||| (1 * 2 ^ (c (n * x + y)))))), some (.int (nI (jnT n c p i))), some (.int (nI x)), some (.int (nI (y + 1)))] [] g A _
                refine rr_nx (pc' := 26) (al' := [some (.ref 146), some (.int (nI p)), some (.int (nI ((jnT n c p i ||| ORs (fun x => ORs (jnf n c (jnT n c p i) x) n) x ||| ORs (jnf n c (jnT n c p i) x) y) ||| (1 * 2 ^ (c (n * x + y)))))), some (.int (nI (jnT n c p i))), some (.int (nI x)), some (.int (nI (y + 1)))]) (st' := []) d_246_66 (fun _ => rfl) ?_
                refine rr_al (congrArg (fun z__ : Nat => ([some (.ref 146), some (.int (nI p)), some (.int (nI z__)), some (.int (nI (jnT n c p i))), some (.int (nI x)), some (.int (nI (y + 1)))] : AL)) (show (jnT n c p i ||| ORs (fun x => ORs (jnf n c (jnT n c p i) x) n) x ||| ORs (jnf n c (jnT n c p i) x) y) ||| (1 * 2 ^ (c (n * x + y))) = jnT n c p i ||| ORs (fun x => ORs (jnf n c (jnT n c p i) x) n) x ||| ORs (jnf n c (jnT n c p i) x) (y + 1) by first | rw [ORs_s, jnf, if_pos ((bt_2 _ _ _).mp c47), Nat.or_assoc] | rw [ORs_s, jnf, if_neg (fun e => c47 ((bt_2 _ _ _).mpr e)), Nat.or_zero])) ?_
                exact ihy  (trivial)
          · show RR _ _ 26 [some (.ref 146), some (.int (nI p)), some (.int (nI (jnT n c p i ||| ORs (fun x => ORs (jnf n c (jnT n c p i) x) n) x ||| ORs (jnf n c (jnT n c p i) x) n))), some (.int (nI (jnT n c p i))), some (.int (nI x)), some (.int (nI n))] [] g A _
            refine rr_nx (pc' := 28) (al' := [some (.ref 146), some (.int (nI p)), some (.int (nI (jnT n c p i ||| ORs (fun x => ORs (jnf n c (jnT n c p i) x) n) x ||| ORs (jnf n c (jnT n c p i) x) n))), some (.int (nI (jnT n c p i))), some (.int (nI x)), some (.int (nI n))]) (st' := [.int (nI n)]) d_246_26 (fun _ => rfl) ?_
            refine rr_nx (pc' := 29) (al' := [some (.ref 146), some (.int (nI p)), some (.int (nI (jnT n c p i ||| ORs (fun x => ORs (jnf n c (jnT n c p i) x) n) x ||| ORs (jnf n c (jnT n c p i) x) n))), some (.int (nI (jnT n c p i))), some (.int (nI x)), some (.int (nI n))]) (st' := [.ref 146, .int (nI n)]) d_246_28 (fun _ => rfl) ?_
            refine rr_gn d_246_29 mo_246 fl_127 rfl hc.1 ?_
            refine rn_cge (t := 69) d_246_32 (by decide) (by first | omega | assumption | exact cu_36 (by omega) (cu_lt (by omega) (by omega))) (by first | omega | assumption | exact cu_36 (by omega) (cu_lt (by omega) (by omega))) (fun c32 => ?_) (fun c32 => ?_)
            · refine rn_inc d_246_69 rfl rfl ?_
              show RR _ _ 72 [some (.ref 146), some (.int (nI p)), some (.int (nI (jnT n c p i ||| ORs (fun x => ORs (jnf n c (jnT n c p i) x) n) x ||| ORs (jnf n c (jnT n c p i) x) n))), some (.int (nI (jnT n c p i))), some (.int (nI (x + 1))), some (.int (nI n))] [] g A _
              refine rr_nx (pc' := 14) (al' := [some (.ref 146), some (.int (nI p)), some (.int (nI (jnT n c p i ||| ORs (fun x => ORs (jnf n c (jnT n c p i) x) n) x ||| ORs (jnf n c (jnT n c p i) x) n))), some (.int (nI (jnT n c p i))), some (.int (nI (x + 1))), some (.int (nI n))]) (st' := []) d_246_72 (fun _ => rfl) ?_
              refine rr_al (congrArg (fun z__ : Nat => ([some (.ref 146), some (.int (nI p)), some (.int (nI z__)), some (.int (nI (jnT n c p i))), some (.int (nI (x + 1))), some (.int (nI n))] : AL)) (show jnT n c p i ||| ORs (fun x => ORs (jnf n c (jnT n c p i) x) n) x ||| ORs (jnf n c (jnT n c p i) x) n = jnT n c p i ||| ORs (fun x => ORs (jnf n c (jnT n c p i) x) n) (x + 1) by rw [ORs_s, ← Nat.or_assoc])) ?_
              refine rr_dr (al1 := [some (.ref 146), some (.int (nI p)), some (.int (nI (jnT n c p i ||| ORs (fun x => ORs (jnf n c (jnT n c p i) x) n) (x + 1)))), some (.int (nI (jnT n c p i))), some (.int (nI (x + 1))), none]) (le_s (le_s (le_s (le_s (le_s (le_d rfl (le_n))))))) ?_
              exact ihx  (trivial)
            · omega
      · show RR _ _ 14 [some (.ref 146), some (.int (nI p)), some (.int (nI (jnT n c p i ||| ORs (fun x => ORs (jnf n c (jnT n c p i) x) n) n))), some (.int (nI (jnT n c p i))), some (.int (nI n)), none] [] g A _
        refine rr_nx (pc' := 16) (al' := [some (.ref 146), some (.int (nI p)), some (.int (nI (jnT n c p i ||| ORs (fun x => ORs (jnf n c (jnT n c p i) x) n) n))), some (.int (nI (jnT n c p i))), some (.int (nI n)), none]) (st' := [.int (nI n)]) d_246_14 (fun _ => rfl) ?_
        refine rr_nx (pc' := 17) (al' := [some (.ref 146), some (.int (nI p)), some (.int (nI (jnT n c p i ||| ORs (fun x => ORs (jnf n c (jnT n c p i) x) n) n))), some (.int (nI (jnT n c p i))), some (.int (nI n)), none]) (st' := [.ref 146, .int (nI n)]) d_246_16 (fun _ => rfl) ?_
        refine rr_gn d_246_17 mo_246 fl_127 rfl hc.1 ?_
        refine rn_cge (t := 75) d_246_20 (by decide) (by first | omega | assumption | exact cu_36 (by omega) (cu_lt (by omega) (by omega))) (by first | omega | assumption | exact cu_36 (by omega) (cu_lt (by omega) (by omega))) (fun c20 => ?_) (fun c20 => ?_)
        · refine rr_nx (pc' := 4) (al' := [some (.ref 146), some (.int (nI p)), some (.int (nI (jnT n c p i ||| ORs (fun x => ORs (jnf n c (jnT n c p i) x) n) n))), some (.int (nI (jnT n c p i))), some (.int (nI n)), none]) (st' := []) d_246_75 (fun _ => rfl) ?_
          refine rr_al (congrArg (fun z__ : Nat => ([some (.ref 146), some (.int (nI p)), some (.int (nI z__)), some (.int (nI (jnT n c p i))), some (.int (nI n)), none] : AL)) (show jnT n c p i ||| ORs (fun x => ORs (jnf n c (jnT n c p i) x) n) n = jnT n c p (i + 1) by rfl)) ?_
          refine rr_al (congrArg (fun z__ : Nat => ([some (.ref 146), some (.int (nI p)), some (.int (nI (jnT n c p (i + 1)))), some (.int (nI z__)), some (.int (nI n)), none] : AL)) (show jnT n c p i = jnB n c p (i + 1) by rfl)) ?_
          refine rr_dr (al1 := [some (.ref 146), some (.int (nI p)), some (.int (nI (jnT n c p (i + 1)))), some (.int (nI (jnB n c p (i + 1)))), none, none]) (le_s (le_s (le_s (le_s (le_d rfl (le_s (le_n))))))) ?_
          exact ihi  (trivial)
        · omega
  · show RR _ _ 4 [some (.ref 146), some (.int (nI p)), some (.int (nI (jnT n c p d))), some (.int (nI (jnB n c p d))), none, none] [] g A _
    have hti : ∀ i, jnT n c p i < 64 := fun i => le_64 hn6 (jnT_lt hn6 (fun q hq => (hc.2.2 q hq).2) hp i)
    have hbi : ∀ i, jnB n c p i < 64 := fun i => match i with | 0 => by show (0 : Nat) < 64; omega | i + 1 => hti i
    have ht1 := hti d
    have hb1 := hbi d
    refine rr_nx (pc' := 5) (al' := [some (.ref 146), some (.int (nI p)), some (.int (nI (jnT n c p d))), some (.int (nI (jnB n c p d))), none, none]) (st' := [.int (nI (jnT n c p d))]) d_246_4 (fun _ => rfl) ?_
    refine rr_nx (pc' := 6) (al' := [some (.ref 146), some (.int (nI p)), some (.int (nI (jnT n c p d))), some (.int (nI (jnB n c p d))), none, none]) (st' := [.int (nI (jnB n c p d)), .int (nI (jnT n c p d))]) d_246_5 (fun _ => rfl) ?_
    refine rn_ceq (t := 78) d_246_6 (by decide) (by first | omega | assumption | exact cu_36 (by omega) (cu_lt (by omega) (by omega))) (by first | omega | assumption | exact cu_36 (by omega) (cu_lt (by omega) (by omega))) (fun c6 => ?_) (fun c6 => ?_)
    · refine rr_nx (pc' := 79) (al' := [some (.ref 146), some (.int (nI p)), some (.int (nI (jnT n c p d))), some (.int (nI (jnB n c p d))), none, none]) (st' := [.int (nI (jnT n c p d))]) d_246_78 (fun _ => rfl) ?_
      exact rr_ri d_246_79 mr_246 rfl ⟨rfl, rfl, rfl⟩
    · exact absurd hd c6
theorem SM_mono {f h : Nat → Nat} : ∀ {n : Nat}, (∀ i, i < n → f i ≤ h i) → SM f n ≤ SM h n
  | 0, _ => Nat.le_refl _
  | n + 1, e => by
    have := SM_mono (n := n) (fun i hi => e i (by omega))
    have := e n (by omega)
    rw [SM_s, SM_s]
    omega
theorem SM_lt {f h : Nat → Nat} : ∀ {n k : Nat}, k < n → (∀ i, i < n → f i ≤ h i) → f k < h k → SM f n < SM h n
  | 0, k, hk, _, _ => absurd hk (Nat.not_lt_zero k)
  | n + 1, k, hk, e, s => by
    rw [SM_s, SM_s]
    have h1 := e n (by omega)
    rcases Nat.lt_succ_iff_lt_or_eq.mp hk with h2 | h2
    · have := SM_lt h2 (fun i hi => e i (by omega)) s
      omega
    · subst h2
      have : SM f k ≤ SM h k := SM_mono (fun i hi => e i (by omega))
      omega
theorem bit_lt {s n : Nat} (h : s < 2 ^ n) {q : Nat} (hq : s.testBit q = true) : q < n := by
  rcases Nat.lt_or_ge q n with h1 | h1
  · exact h1
  · have := Nat.testBit_lt_two_pow (Nat.lt_of_lt_of_le h (Nat.pow_le_pow_right (by decide) h1))
    rw [this] at hq
    cases hq
theorem bset_eq {s t n : Nat} (hs : s < 2 ^ n) (ht : t < 2 ^ n) (h : ∀ q, q < n → s.testBit q = t.testBit q) : s = t := by
  apply Nat.eq_of_testBit_eq
  intro q
  rcases Nat.lt_or_ge q n with h1 | h1
  · exact h q h1
  · rw [Nat.testBit_lt_two_pow (Nat.lt_of_lt_of_le hs (Nat.pow_le_pow_right (by decide) h1)), Nat.testBit_lt_two_pow (Nat.lt_of_lt_of_le ht (Nat.pow_le_pow_right (by decide) h1))]
theorem onN_lt {s t n : Nat} (hn : n ≤ 16) (hs : s < 2 ^ n) (ht : t < 2 ^ n) (h : ∀ q, s.testBit q = true → t.testBit q = true) (hne : s ≠ t) : onN s < onN t := by
  obtain ⟨q, hq, h1, h2⟩ : ∃ q, q < n ∧ s.testBit q = false ∧ t.testBit q = true := by
    apply Decidable.byContradiction
    intro hno
    apply hne
    apply bset_eq hs ht
    intro q hq
    cases hsq : s.testBit q
    · cases htq : t.testBit q
      · rfl
      · exact absurd ⟨q, hq, hsq, htq⟩ hno
    · rw [h q hsq]
  apply SM_lt (k := q) (by omega)
  · intro i _
    show s / 2 ^ i &&& 1 ≤ t / 2 ^ i &&& 1
    rw [bt_1, bt_1]
    cases hsi : s.testBit i
    · simp
    · simp [h i hsi]
  · show s / 2 ^ q &&& 1 < t / 2 ^ q &&& 1
    rw [bt_1, bt_1, h1, h2]
    decide
theorem onN_le {s n : Nat} (hn : n ≤ 16) (hs : s < 2 ^ n) : onN s ≤ n := by
  unfold onN
  have key : ∀ k, n ≤ k → SM (fun k => s / 2 ^ k &&& 1) k ≤ n := by
    intro k hk
    induction k with
    | zero => exact Nat.zero_le _
    | succ k ih =>
      rw [SM_s]
      rcases Nat.lt_or_ge k n with h | h
      · have : k + 1 = n := by omega
        have h2 := SMb_le (s := s) (i := k)
        have h3 := bt_lt s k
        omega
      · have h2 := ih h
        have : s.testBit k = false := by
          cases hb : s.testBit k
          · rfl
          · have := bit_lt hs hb
            omega
        rw [bt_1, this]
        simpa using h2
  exact key 16 hn
theorem jnS_sub {n : Nat} {c : Nat → Nat} {s q : Nat} (h : s.testBit q = true) : (jnS n c s).testBit q = true := by
  unfold jnS
  rw [Nat.testBit_or, h]
  rfl
/-- the least closed part that holds a part -/
def clN (n : Nat) (c : Nat → Nat) (s : Nat) : Nat := jnT n c s n
theorem jnT_fix {n : Nat} {c : Nat → Nat} {s k : Nat} (h : jnT n c s (k + 1) = jnT n c s k) : ∀ m, k ≤ m → jnT n c s m = jnT n c s k := by
  intro m hm
  induction m with
  | zero => rw [Nat.le_zero.mp hm]
  | succ m ih =>
    rcases Nat.lt_or_ge k (m + 1) with h1 | h1
    · have h2 := ih (by omega)
      show jnS n c (jnT n c s m) = _
      rw [h2]
      exact h
    · rw [show m + 1 = k by omega]
theorem jnT_end {n : Nat} {c : Nat → Nat} {s : Nat} (hn : n ≤ 6) (hc : ∀ q, q < n * n → c q < n) (h0 : 0 < s) (hs : s < 2 ^ n) : ∃ d, jnT n c s d = jnB n c s d ∧ (∀ i, i < d → ¬ jnT n c s i = jnB n c s i) ∧ jnT n c s d = clN n c s := by
  have hex : ∃ k, k < n ∧ jnT n c s (k + 1) = jnT n c s k := by
    apply Decidable.byContradiction
    intro hno
    have grow : ∀ k, k ≤ n → k + 1 ≤ onN (jnT n c s k) := by
      intro k
      induction k with
      | zero =>
        intro _
        obtain ⟨q, hq⟩ := Nat.exists_testBit_of_ne_zero (Nat.pos_iff_ne_zero.mp h0)
        have h1 : onN 0 < onN s := onN_lt (n := n) (by omega) (Nat.two_pow_pos n) hs (fun q h => by simp at h) (by omega)
        show 1 ≤ onN s
        omega
      | succ k ih =>
        intro hk
        have h1 := ih (by omega)
        have h2 : onN (jnT n c s k) < onN (jnT n c s (k + 1)) := onN_lt (n := n) (by omega) (jnT_lt hn hc hs _) (jnT_lt hn hc hs _) (fun q h => jnS_sub h) (fun e => hno ⟨k, by omega, e.symm⟩)
        omega
    have h1 := grow n (Nat.le_refl n)
    have h2 := onN_le (by omega) (jnT_lt hn hc hs n)
    omega
  obtain ⟨k0, hk0, hf0⟩ := hex
  obtain ⟨k, ⟨hk, hf⟩, hmin⟩ := pk_least (fun k => k < n ∧ jnT n c s (k + 1) = jnT n c s k) ⟨k0, hk0, hf0⟩
  refine ⟨k + 1, hf, ?_, ?_⟩
  · intro i hi
    cases i with
    | zero =>
      show ¬ s = 0
      omega
    | succ i => exact fun e => hmin i (by omega) ⟨by omega, e⟩
  · rw [hf]
    exact (jnT_fix hf n (by omega)).symm
theorem clN_lt {n : Nat} {c : Nat → Nat} {s : Nat} (hn : n ≤ 6) (hc : ∀ q, q < n * n → c q < n) (hs : s < 2 ^ n) : clN n c s < 64 := le_64 hn (jnT_lt hn hc hs n)
theorem s_closedOf {g : Nat → Int32} {A : Nat → Nat → Int32} {n : Nat} {c : Nat → Nat} (hc : Cur g A n c) {p : Nat} (h0 : 0 < p) (hp : p < 2 ^ n) : RR 1 246 0 [some (.ref 146), some (.int (nI p)), none, none, none, none] [] g A (rP (some (.int (nI (clN n c p)))) g A) := by
  obtain ⟨d, hd, hu, he⟩ := jnT_end hc.2.1 (fun q hq => (hc.2.2 q hq).2) h0 hp
  rw [← he]
  exact s_closedOf_ hc hp hd hu
theorem s_isPart {g : Nat → Int32} {A : Nat → Nat → Int32} {n : Nat} {c : Nat → Nat} (hc : Cur g A n c) (v : Int32) : RR 1 245 0 [some (.ref 146), some (.int v)] [] g A (rP (some (.int (bI (nI 1 ≤ v ∧ v ≤ nI (1 * 2 ^ n - 1))))) g A) := by
  have hn6 := hc.2.1
  refine rr_nx (pc' := 1) (al' := [some (.ref 146), some (.int v)]) (st' := [.int v]) d_245_0 (fun _ => rfl) ?_
  refine rn_ic (v := 1) d_245_1 (by decide) ?_
  refine rn_ic (v := 1) d_245_2 (by decide) ?_
  refine rr_nx (pc' := 4) (al' := [some (.ref 146), some (.int v)]) (st' := [.ref 146, .int (nI 1), .int (nI 1), .int v]) d_245_3 (fun _ => rfl) ?_
  refine rr_gn d_245_4 mo_245 fl_127 rfl hc.1 ?_
  refine rn_shl d_245_7 (by first | omega | assumption | exact cu_36 (by omega) (cu_lt (by omega) (by omega))) ?_
  refine rn_ic (v := 1) d_245_8 (by decide) ?_
  refine rn_sub d_245_9 (by rw [Nat.one_mul]; exact Nat.two_pow_pos n) ?_
  refine rr_ps (as := [.int v, .int (nI 1), .int (nI ((1 * 2 ^ n) - 1))]) (al0 := [some (.int v), some (.int (nI 1)), some (.int (nI ((1 * 2 ^ n) - 1)))]) (r := []) d_245_10 mo_245 ml_106 mz_179 rfl rfl rfl (Nat.le_of_ble_eq_true rfl) (s_lies v (nI 1) (nI ((1 * 2 ^ n) - 1))) ?_
  show RR _ _ 13 [some (.ref 146), some (.int v)] [.int (bI ((nI 1) ≤ v ∧ v ≤ (nI ((1 * 2 ^ n) - 1))))] g A _
  exact rr_ri d_245_13 mr_245 (bI_nar _) ⟨rfl, rfl, rfl⟩
theorem pt_iff {n p : Nat} (hn : n ≤ 6) (hp : p < 2 ^ 31) : (nI 1 ≤ nI p ∧ nI p ≤ nI (1 * 2 ^ n - 1)) ↔ (0 < p ∧ p < 2 ^ n) := by
  have h1 : 1 * 2 ^ n ≤ 64 := by rw [Nat.one_mul]; exact Nat.pow_le_pow_right (by decide) hn
  have h2 := Nat.two_pow_pos n
  rw [nI_leI (by decide) hp, nI_leI hp (by omega)]
  constructor <;> intro h <;> omega
theorem pt_nat {n : Nat} {v : Int32} (hn : n ≤ 6) (h : nI 1 ≤ v ∧ v ≤ nI (1 * 2 ^ n - 1)) : ∃ p : Nat, v = nI p ∧ 0 < p ∧ p < 2 ^ n := by
  have h1 : 1 * 2 ^ n ≤ 64 := by rw [Nat.one_mul]; exact Nat.pow_le_pow_right (by decide) hn
  obtain ⟨p, hp, rfl⟩ := ia_nat (m := 1 * 2 ^ n - 1) (by omega) ⟨Int32.le_trans (nI_le (by decide) (by decide)) h.1, h.2⟩
  exact ⟨p, rfl, (pt_iff hn (by omega)).mp h⟩
/-- closed, as a fact -/
def clB (n : Nat) (c : Nat → Nat) (p : Nat) : Bool := decide (0 < p ∧ p < 2 ^ n) && decide (clN n c p = p)
theorem s_isClosed {g : Nat → Int32} {A : Nat → Nat → Int32} {n : Nat} {c : Nat → Nat} (hc : Cur g A n c) {p : Nat} (hp : p < 2 ^ 31) : RR 2 244 0 [some (.ref 146), some (.int (nI p))] [] g A (rP (some (.int (bI (clB n c p = true)))) g A) := by
  have hn6 := hc.2.1
  refine rr_nx (pc' := 1) (al' := [some (.ref 146), some (.int (nI p))]) (st' := [.ref 146]) d_244_0 (fun _ => rfl) ?_
  refine rr_nx (pc' := 2) (al' := [some (.ref 146), some (.int (nI p))]) (st' := [.int (nI p), .ref 146]) d_244_1 (fun _ => rfl) ?_
  refine rr_pv (as := [.int (nI p)]) (al0 := [some (.ref 146), some (.int (nI p))]) (r := []) d_244_2 mo_244 ml_283 mz_245 rfl rfl rfl (Nat.le_of_ble_eq_true rfl) (s_isPart hc (nI p)) ?_
  show RR _ _ 5 [some (.ref 146), some (.int (nI p))] [.int (bI (nI 1 ≤ (nI p) ∧ (nI p) ≤ nI (1 * 2 ^ n - 1)))] g A _
  refine rr_beq (t := 21) d_244_5 (by decide) (fun c5 => ?_) (fun c5 => ?_)
  · refine rn_ic (v := 0) d_244_21 (by decide) ?_
    exact rr_ri d_244_22 mr_244 (by decide) (rq_f (by unfold clB; first | (rw [decide_eq_false c14, Bool.and_false]; exact Bool.false_ne_true) | (rw [decide_eq_false (fun e => c5 ((pt_iff hn6 hp).mpr e)), Bool.false_and]; exact Bool.false_ne_true)))
  · have hq := (pt_iff hn6 hp).mp c5
    have hq1 := hq.1
    have hq2 := hq.2
    refine rr_nx (pc' := 9) (al' := [some (.ref 146), some (.int (nI p))]) (st' := [.ref 146]) d_244_8 (fun _ => rfl) ?_
    refine rr_nx (pc' := 10) (al' := [some (.ref 146), some (.int (nI p))]) (st' := [.int (nI p), .ref 146]) d_244_9 (fun _ => rfl) ?_
    refine rr_pv (as := [.int (nI p)]) (al0 := [some (.ref 146), some (.int (nI p)), none, none, none, none]) (r := []) d_244_10 mo_244 ml_286 mz_246 rfl rfl rfl (Nat.le_of_ble_eq_true rfl) (s_closedOf hc (by first | omega | assumption | exact cu_36 (by omega) (cu_lt (by omega) (by omega))) (by first | omega | assumption | exact cu_36 (by omega) (cu_lt (by omega) (by omega)))) ?_
    show RR _ _ 13 [some (.ref 146), some (.int (nI p))] [.int (nI (clN n c p))] g A _
    have b10 : clN n c p < 64 := clN_lt (by omega) (fun q hq => (hc.2.2 q hq).2) (by first | omega | assumption | exact cu_36 (by omega) (cu_lt (by omega) (by omega)))
    refine rr_nx (pc' := 14) (al' := [some (.ref 146), some (.int (nI p))]) (st' := [.int (nI p), .int (nI (clN n c p))]) d_244_13 (fun _ => rfl) ?_
    refine rn_cne (t := 21) d_244_14 (by decide) (by first | omega | assumption | exact cu_36 (by omega) (cu_lt (by omega) (by omega))) (by first | omega | assumption | exact cu_36 (by omega) (cu_lt (by omega) (by omega))) (fun c14 => ?_) (fun c14 => ?_)
    · refine rn_ic (v := 0) d_244_21 (by decide) ?_
      exact rr_ri d_244_22 mr_244 (by decide) (rq_f (by unfold clB; first | (rw [decide_eq_false c14, Bool.and_false]; exact Bool.false_ne_true) | (rw [decide_eq_false (fun e => c5 ((pt_iff hn6 hp).mpr e)), Bool.false_and]; exact Bool.false_ne_true)))
    · refine rn_ic (v := 1) d_244_17 (by decide) ?_
      refine rr_nx (pc' := 22) (al' := [some (.ref 146), some (.int (nI p))]) (st' := [.int (nI 1)]) d_244_18 (fun _ => rfl) ?_
      exact rr_ri d_244_22 mr_244 (by decide) (rq_t (by unfold clB; rw [decide_eq_true hq, decide_eq_true c14]; rfl))
/-- nuclei: seat 0, 1, 2; 3: commutes with all -/
def nuB (w n : Nat) (c : Nat → Nat) (a : Nat) : Bool := match w with
  | 0 => decide (∀ x, x < n → ∀ y, y < n → c (n * a + c (n * x + y)) = c (n * c (n * a + x) + y))
  | 1 => decide (∀ x, x < n → ∀ y, y < n → c (n * x + c (n * a + y)) = c (n * c (n * x + a) + y))
  | 2 => decide (∀ x, x < n → ∀ y, y < n → c (n * x + c (n * y + a)) = c (n * c (n * x + y) + a))
  | _ => decide (∀ x, x < n → c (n * a + x) = c (n * x + a))
theorem s_isNuclear0 {g : Nat → Int32} {A : Nat → Nat → Int32} {n : Nat} {c : Nat → Nat} (hc : Cur g A n c) {a : Nat} (ha : a < n) : RR 1 252 0 [some (.ref 146), some (.int (nI a)), some (.int (nI 0)), none, none, none, none] [] g A (rP (some (.int (bI (nuB 0 n c a = true)))) g A) := by
  have hn6 := hc.2.1
  refine rn_ic (v := 0) d_252_0 (by decide) ?_
  refine rr_nx (pc' := 2) (al' := [some (.ref 146), some (.int (nI a)), some (.int (nI 0)), some (.int (nI 0)), none, none, none]) (st' := []) d_252_1 (fun _ => rfl) ?_
  refine rr_up (al := fun x => [some (.ref 146), some (.int (nI a)), some (.int (nI 0)), some (.int (nI x)), none, none, none]) (G := fun x => g) (B := fun x => A) (P := fun x => ∀ q, q < x → ∀ r, r < n → c (n * a + c (n * q + r)) = c (n * c (n * a + q) + r)) (n := n) (fun x hx px ihx => ?_) (fun px => ?_) 0  (by omega) (all_0)
  · show RR _ _ 2 [some (.ref 146), some (.int (nI a)), some (.int (nI 0)), some (.int (nI x)), none, none, none] [] g A _
    refine rr_nx (pc' := 3) (al' := [some (.ref 146), some (.int (nI a)), some (.int (nI 0)), some (.int (nI x)), none, none, none]) (st' := [.int (nI x)]) d_252_2 (fun _ => rfl) ?_
    refine rr_nx (pc' := 4) (al' := [some (.ref 146), some (.int (nI a)), some (.int (nI 0)), some (.int (nI x)), none, none, none]) (st' := [.ref 146, .int (nI x)]) d_252_3 (fun _ => rfl) ?_
    refine rr_gn d_252_4 mo_252 fl_127 rfl hc.1 ?_
    refine rn_cge (t := 176) d_252_7 (by decide) (by first | omega | assumption | exact cu_36 (by omega) (cu_lt (by omega) (by omega))) (by first | omega | assumption | exact cu_36 (by omega) (cu_lt (by omega) (by omega))) (fun c7 => ?_) (fun c7 => ?_)
    · omega
    · refine rr_nx (pc' := 11) (al' := [some (.ref 146), some (.int (nI a)), some (.int (nI 0)), some (.int (nI x)), none, none, none]) (st' := [.int (nI 0)]) d_252_10 (fun _ => rfl) ?_
      refine rn_ic (v := 3) d_252_11 (by decide) ?_
      refine rn_cne (t := 32) d_252_12 (by decide) (by first | omega | assumption | exact cu_36 (by omega) (cu_lt (by omega) (by omega))) (by first | omega | assumption | exact cu_36 (by omega) (cu_lt (by omega) (by omega))) (fun c12 => ?_) (fun c12 => ?_)
      · refine rn_ic (v := 0) d_252_32 (by decide) ?_
        refine rr_nx (pc' := 35) (al' := [some (.ref 146), some (.int (nI a)), some (.int (nI 0)), some (.int (nI x)), some (.int (nI 0)), none, none]) (st' := []) d_252_33 (fun _ => rfl) ?_
        refine rr_up (al := fun y => [some (.ref 146), some (.int (nI a)), some (.int (nI 0)), some (.int (nI x)), some (.int (nI y)), none, none]) (G := fun y => g) (B := fun y => A) (P := fun y => ∀ r, r < y → c (n * a + c (n * x + r)) = c (n * c (n * a + x) + r)) (n := n) (fun y hy py ihy => ?_) (fun py => ?_) 0  (by omega) (all_0)
        · show RR _ _ 35 [some (.ref 146), some (.int (nI a)), some (.int (nI 0)), some (.int (nI x)), some (.int (nI y)), none, none] [] g A _
          refine rr_nx (pc' := 37) (al' := [some (.ref 146), some (.int (nI a)), some (.int (nI 0)), some (.int (nI x)), some (.int (nI y)), none, none]) (st' := [.int (nI y)]) d_252_35 (fun _ => rfl) ?_
          refine rr_nx (pc' := 38) (al' := [some (.ref 146), some (.int (nI a)), some (.int (nI 0)), some (.int (nI x)), some (.int (nI y)), none, none]) (st' := [.ref 146, .int (nI y)]) d_252_37 (fun _ => rfl) ?_
          refine rr_gn d_252_38 mo_252 fl_127 rfl hc.1 ?_
          refine rn_cge (t := 170) d_252_41 (by decide) (by first | omega | assumption | exact cu_36 (by omega) (cu_lt (by omega) (by omega))) (by first | omega | assumption | exact cu_36 (by omega) (cu_lt (by omega) (by omega))) (fun c41 => ?_) (fun c41 => ?_)
          · omega
          · refine rr_nx (pc' := 45) (al' := [some (.ref 146), some (.int (nI a)), some (.int (nI 0)), some (.int (nI x)), some (.int (nI y)), none, none]) (st' := [.int (nI 0)]) d_252_44 (fun _ => rfl) ?_
            refine rn_ic (v := 3) d_252_45 (by decide) ?_
            refine rn_cge (t := 170) d_252_46 (by decide) (by first | omega | assumption | exact cu_36 (by omega) (cu_lt (by omega) (by omega))) (by first | omega | assumption | exact cu_36 (by omega) (cu_lt (by omega) (by omega))) (fun c46 => ?_) (fun c46 => ?_)
            · omega
            · refine rr_nx (pc' := 50) (al' := [some (.ref 146), some (.int (nI a)), some (.int (nI 0)), some (.int (nI x)), some (.int (nI y)), none, none]) (st' := [.int (nI 0)]) d_252_49 (fun _ => rfl) ?_
              refine rn_ine (t := 68) d_252_50 (by decide) (by first | omega | assumption | exact cu_36 (by omega) (cu_lt (by omega) (by omega))) (fun c50 => ?_) (fun c50 => ?_)
              · omega
              · refine rr_nx (pc' := 54) (al' := [some (.ref 146), some (.int (nI a)), some (.int (nI 0)), some (.int (nI x)), some (.int (nI y)), none, none]) (st' := [.ref 146]) d_252_53 (fun _ => rfl) ?_
                refine rr_nx (pc' := 55) (al' := [some (.ref 146), some (.int (nI a)), some (.int (nI 0)), some (.int (nI x)), some (.int (nI y)), none, none]) (st' := [.int (nI a), .ref 146]) d_252_54 (fun _ => rfl) ?_
                refine rr_nx (pc' := 56) (al' := [some (.ref 146), some (.int (nI a)), some (.int (nI 0)), some (.int (nI x)), some (.int (nI y)), none, none]) (st' := [.ref 146, .int (nI a), .ref 146]) d_252_55 (fun _ => rfl) ?_
                refine rr_nx (pc' := 57) (al' := [some (.ref 146), some (.int (nI a)), some (.int (nI 0)), some (.int (nI x)), some (.int (nI y)), none, none]) (st' := [.int (nI x), .ref 146, .int (nI a), .ref 146]) d_252_56 (fun _ => rfl) ?_
                refine rr_nx (pc' := 59) (al' := [some (.ref 146), some (.int (nI a)), some (.int (nI 0)), some (.int (nI x)), some (.int (nI y)), none, none]) (st' := [.int (nI y), .int (nI x), .ref 146, .int (nI a), .ref 146]) d_252_57 (fun _ => rfl) ?_
                refine rr_pv (as := [.int (nI x), .int (nI y)]) (al0 := [some (.ref 146), some (.int (nI x)), some (.int (nI y))]) (r := [.int (nI a), .ref 146]) d_252_59 mo_252 ml_130 mz_213 rfl rfl rfl (Nat.le_of_ble_eq_true rfl) (s_times hc (by omega) (by omega)) ?_
                show RR _ _ 62 [some (.ref 146), some (.int (nI a)), some (.int (nI 0)), some (.int (nI x)), some (.int (nI y)), none, none] [.int (nI (c (n * x + y))), .int (nI a), .ref 146] g A _
                have b59 : c (n * x + y) < n := (hc.2.2 _ (cu_lt (by omega) (by omega))).2
                refine rr_pv (as := [.int (nI a), .int (nI (c (n * x + y)))]) (al0 := [some (.ref 146), some (.int (nI a)), some (.int (nI (c (n * x + y))))]) (r := []) d_252_62 mo_252 ml_130 mz_213 rfl rfl rfl (Nat.le_of_ble_eq_true rfl) (s_times hc (by omega) (by omega)) ?_
                show RR _ _ 65 [some (.ref 146), some (.int (nI a)), some (.int (nI 0)), some (.int (nI x)), some (.int (nI y)), none, none] [.int (nI (c (n * a + (c (n * x + y)))))] g A _
                have b62 : c (n * a + (c (n * x + y))) < n := (hc.2.2 _ (cu_lt (by omega) (by omega))).2
                refine rr_nx (pc' := 100) (al' := [some (.ref 146), some (.int (nI a)), some (.int (nI 0)), some (.int (nI x)), some (.int (nI y)), none, none]) (st' := [.int (nI (c (n * a + (c (n * x + y)))))]) d_252_65 (fun _ => rfl) ?_
                refine rr_nx (pc' := 102) (al' := [some (.ref 146), some (.int (nI a)), some (.int (nI 0)), some (.int (nI x)), some (.int (nI y)), some (.int (nI (c (n * a + (c (n * x + y)))))), none]) (st' := []) d_252_100 (fun _ => rfl) ?_
                refine rr_nx (pc' := 103) (al' := [some (.ref 146), some (.int (nI a)), some (.int (nI 0)), some (.int (nI x)), some (.int (nI y)), some (.int (nI (c (n * a + (c (n * x + y)))))), none]) (st' := [.int (nI 0)]) d_252_102 (fun _ => rfl) ?_
                refine rn_ine (t := 121) d_252_103 (by decide) (by first | omega | assumption | exact cu_36 (by omega) (cu_lt (by omega) (by omega))) (fun c103 => ?_) (fun c103 => ?_)
                · omega
                · refine rr_nx (pc' := 107) (al' := [some (.ref 146), some (.int (nI a)), some (.int (nI 0)), some (.int (nI x)), some (.int (nI y)), some (.int (nI (c (n * a + (c (n * x + y)))))), none]) (st' := [.ref 146]) d_252_106 (fun _ => rfl) ?_
                  refine rr_nx (pc' := 108) (al' := [some (.ref 146), some (.int (nI a)), some (.int (nI 0)), some (.int (nI x)), some (.int (nI y)), some (.int (nI (c (n * a + (c (n * x + y)))))), none]) (st' := [.ref 146, .ref 146]) d_252_107 (fun _ => rfl) ?_
                  refine rr_nx (pc' := 109) (al' := [some (.ref 146), some (.int (nI a)), some (.int (nI 0)), some (.int (nI x)), some (.int (nI y)), some (.int (nI (c (n * a + (c (n * x + y)))))), none]) (st' := [.int (nI a), .ref 146, .ref 146]) d_252_108 (fun _ => rfl) ?_
                  refine rr_nx (pc' := 110) (al' := [some (.ref 146), some (.int (nI a)), some (.int (nI 0)), some (.int (nI x)), some (.int (nI y)), some (.int (nI (c (n * a + (c (n * x + y)))))), none]) (st' := [.int (nI x), .int (nI a), .ref 146, .ref 146]) d_252_109 (fun _ => rfl) ?_
                  refine rr_pv (as := [.int (nI a), .int (nI x)]) (al0 := [some (.ref 146), some (.int (nI a)), some (.int (nI x))]) (r := [.ref 146]) d_252_110 mo_252 ml_130 mz_213 rfl rfl rfl (Nat.le_of_ble_eq_true rfl) (s_times hc (by omega) (by omega)) ?_
                  show RR _ _ 113 [some (.ref 146), some (.int (nI a)), some (.int (nI 0)), some (.int (nI x)), some (.int (nI y)), some (.int (nI (c (n * a + (c (n * x + y)))))), none] [.int (nI (c (n * a + x))), .ref 146] g A _
                  have b110 : c (n * a + x) < n := (hc.2.2 _ (cu_lt (by omega) (by omega))).2
                  refine rr_nx (pc' := 115) (al' := [some (.ref 146), some (.int (nI a)), some (.int (nI 0)), some (.int (nI x)), some (.int (nI y)), some (.int (nI (c (n * a + (c (n * x + y)))))), none]) (st' := [.int (nI y), .int (nI (c (n * a + x))), .ref 146]) d_252_113 (fun _ => rfl) ?_
                  refine rr_pv (as := [.int (nI (c (n * a + x))), .int (nI y)]) (al0 := [some (.ref 146), some (.int (nI (c (n * a + x)))), some (.int (nI y))]) (r := []) d_252_115 mo_252 ml_130 mz_213 rfl rfl rfl (Nat.le_of_ble_eq_true rfl) (s_times hc (by omega) (by omega)) ?_
                  show RR _ _ 118 [some (.ref 146), some (.int (nI a)), some (.int (nI 0)), some (.int (nI x)), some (.int (nI y)), some (.int (nI (c (n * a + (c (n * x + y)))))), none] [.int (nI (c (n * (c (n * a + x)) + y)))] g A _
                  have b115 : c (n * (c (n * a + x)) + y) < n := (hc.2.2 _ (cu_lt (by omega) (by omega))).2
                  refine rr_nx (pc' := 153) (al' := [some (.ref 146), some (.int (nI a)), some (.int (nI 0)), some (.int (nI x)), some (.int (nI y)), some (.int (nI (c (n * a + (c (n * x + y)))))), none]) (st' := [.int (nI (c (n * (c (n * a + x)) + y)))]) d_252_118 (fun _ => rfl) ?_
                  refine rr_nx (pc' := 155) (al' := [some (.ref 146), some (.int (nI a)), some (.int (nI 0)), some (.int (nI x)), some (.int (nI y)), some (.int (nI (c (n * a + (c (n * x + y)))))), some (.int (nI (c (n * (c (n * a + x)) + y))))]) (st' := []) d_252_153 (fun _ => rfl) ?_
                  refine rr_nx (pc' := 157) (al' := [some (.ref 146), some (.int (nI a)), some (.int (nI 0)), some (.int (nI x)), some (.int (nI y)), some (.int (nI (c (n * a + (c (n * x + y)))))), some (.int (nI (c (n * (c (n * a + x)) + y))))]) (st' := [.int (nI (c (n * a + (c (n * x + y)))))]) d_252_155 (fun _ => rfl) ?_
                  refine rr_nx (pc' := 159) (al' := [some (.ref 146), some (.int (nI a)), some (.int (nI 0)), some (.int (nI x)), some (.int (nI y)), some (.int (nI (c (n * a + (c (n * x + y)))))), some (.int (nI (c (n * (c (n * a + x)) + y))))]) (st' := [.int (nI (c (n * (c (n * a + x)) + y))), .int (nI (c (n * a + (c (n * x + y)))))]) d_252_157 (fun _ => rfl) ?_
                  refine rn_ceq (t := 164) d_252_159 (by decide) (by first | omega | assumption | exact cu_36 (by omega) (cu_lt (by omega) (by omega))) (by first | omega | assumption | exact cu_36 (by omega) (cu_lt (by omega) (by omega))) (fun c159 => ?_) (fun c159 => ?_)
                  · refine rn_inc d_252_164 rfl rfl ?_
                    show RR _ _ 167 [some (.ref 146), some (.int (nI a)), some (.int (nI 0)), some (.int (nI x)), some (.int (nI (y + 1))), some (.int (nI (c (n * a + (c (n * x + y)))))), some (.int (nI (c (n * (c (n * a + x)) + y))))] [] g A _
                    refine rr_nx (pc' := 35) (al' := [some (.ref 146), some (.int (nI a)), some (.int (nI 0)), some (.int (nI x)), some (.int (nI (y + 1))), some (.int (nI (c (n * a + (c (n * x + y)))))), some (.int (nI (c (n * (c (n * a + x)) + y))))]) (st' := []) d_252_167 (fun _ => rfl) ?_
                    refine rr_dr (al1 := [some (.ref 146), some (.int (nI a)), some (.int (nI 0)), some (.int (nI x)), some (.int (nI (y + 1))), none, none]) (le_s (le_s (le_s (le_s (le_s (le_d rfl (le_d rfl (le_n)))))))) ?_
                    exact ihy  (all_s (p := fun r => c (n * a + c (n * x + r)) = c (n * c (n * a + x) + r)) py c159)
                  · refine rn_ic (v := 0) d_252_162 (by decide) ?_
                    exact rr_ri d_252_163 mr_252 (by decide) (rq_f (fun e => c159 (of_decide_eq_true e x hx y hy)))
        · show RR _ _ 35 [some (.ref 146), some (.int (nI a)), some (.int (nI 0)), some (.int (nI x)), some (.int (nI n)), none, none] [] g A _
          refine rr_nx (pc' := 37) (al' := [some (.ref 146), some (.int (nI a)), some (.int (nI 0)), some (.int (nI x)), some (.int (nI n)), none, none]) (st' := [.int (nI n)]) d_252_35 (fun _ => rfl) ?_
          refine rr_nx (pc' := 38) (al' := [some (.ref 146), some (.int (nI a)), some (.int (nI 0)), some (.int (nI x)), some (.int (nI n)), none, none]) (st' := [.ref 146, .int (nI n)]) d_252_37 (fun _ => rfl) ?_
          refine rr_gn d_252_38 mo_252 fl_127 rfl hc.1 ?_
          refine rn_cge (t := 170) d_252_41 (by decide) (by first | omega | assumption | exact cu_36 (by omega) (cu_lt (by omega) (by omega))) (by first | omega | assumption | exact cu_36 (by omega) (cu_lt (by omega) (by omega))) (fun c41 => ?_) (fun c41 => ?_)
          · refine rn_inc d_252_170 rfl rfl ?_
            show RR _ _ 173 [some (.ref 146), some (.int (nI a)), some (.int (nI 0)), some (.int (nI (x + 1))), some (.int (nI n)), none, none] [] g A _
            refine rr_nx (pc' := 2) (al' := [some (.ref 146), some (.int (nI a)), some (.int (nI 0)), some (.int (nI (x + 1))), some (.int (nI n)), none, none]) (st' := []) d_252_173 (fun _ => rfl) ?_
            refine rr_dr (al1 := [some (.ref 146), some (.int (nI a)), some (.int (nI 0)), some (.int (nI (x + 1))), none, none, none]) (le_s (le_s (le_s (le_s (le_d rfl (le_s (le_s (le_n)))))))) ?_
            exact ihx  (all_s px py)
          · omega
      · omega
  · show RR _ _ 2 [some (.ref 146), some (.int (nI a)), some (.int (nI 0)), some (.int (nI n)), none, none, none] [] g A _
    refine rr_nx (pc' := 3) (al' := [some (.ref 146), some (.int (nI a)), some (.int (nI 0)), some (.int (nI n)), none, none, none]) (st' := [.int (nI n)]) d_252_2 (fun _ => rfl) ?_
    refine rr_nx (pc' := 4) (al' := [some (.ref 146), some (.int (nI a)), some (.int (nI 0)), some (.int (nI n)), none, none, none]) (st' := [.ref 146, .int (nI n)]) d_252_3 (fun _ => rfl) ?_
    refine rr_gn d_252_4 mo_252 fl_127 rfl hc.1 ?_
    refine rn_cge (t := 176) d_252_7 (by decide) (by first | omega | assumption | exact cu_36 (by omega) (cu_lt (by omega) (by omega))) (by first | omega | assumption | exact cu_36 (by omega) (cu_lt (by omega) (by omega))) (fun c7 => ?_) (fun c7 => ?_)
    · refine rn_ic (v := 1) d_252_176 (by decide) ?_
      exact rr_ri d_252_177 mr_252 (by decide) (rq_t (decide_eq_true px))
    · omega
theorem s_isNuclear1 {g : Nat → Int32} {A : Nat → Nat → Int32} {n : Nat} {c : Nat → Nat} (hc : Cur g A n c) {a : Nat} (ha : a < n) : RR 1 252 0 [some (.ref 146), some (.int (nI a)), some (.int (nI 1)), none, none, none, none] [] g A (rP (some (.int (bI (nuB 1 n c a = true)))) g A) := by
  have hn6 := hc.2.1
  refine rn_ic (v := 0) d_252_0 (by decide) ?_
  refine rr_nx (pc' := 2) (al' := [some (.ref 146), some (.int (nI a)), some (.int (nI 1)), some (.int (nI 0)), none, none, none]) (st' := []) d_252_1 (fun _ => rfl) ?_
  refine rr_up (al := fun x => [some (.ref 146), some (.int (nI a)), some (.int (nI 1)), some (.int (nI x)), none, none, none]) (G := fun x => g) (B := fun x => A) (P := fun x => ∀ q, q < x → ∀ r, r < n → c (n * q + c (n * a + r)) = c (n * c (n * q + a) + r)) (n := n) (fun x hx px ihx => ?_) (fun px => ?_) 0  (by omega) (all_0)
  · show RR _ _ 2 [some (.ref 146), some (.int (nI a)), some (.int (nI 1)), some (.int (nI x)), none, none, none] [] g A _
    refine rr_nx (pc' := 3) (al' := [some (.ref 146), some (.int (nI a)), some (.int (nI 1)), some (.int (nI x)), none, none, none]) (st' := [.int (nI x)]) d_252_2 (fun _ => rfl) ?_
    refine rr_nx (pc' := 4) (al' := [some (.ref 146), some (.int (nI a)), some (.int (nI 1)), some (.int (nI x)), none, none, none]) (st' := [.ref 146, .int (nI x)]) d_252_3 (fun _ => rfl) ?_
    refine rr_gn d_252_4 mo_252 fl_127 rfl hc.1 ?_
    refine rn_cge (t := 176) d_252_7 (by decide) (by first | omega | assumption | exact cu_36 (by omega) (cu_lt (by omega) (by omega))) (by first | omega | assumption | exact cu_36 (by omega) (cu_lt (by omega) (by omega))) (fun c7 => ?_) (fun c7 => ?_)
    · omega
    · refine rr_nx (pc' := 11) (al' := [some (.ref 146), some (.int (nI a)), some (.int (nI 1)), some (.int (nI x)), none, none, none]) (st' := [.int (nI 1)]) d_252_10 (fun _ => rfl) ?_
      refine rn_ic (v := 3) d_252_11 (by decide) ?_
      refine rn_cne (t := 32) d_252_12 (by decide) (by first | omega | assumption | exact cu_36 (by omega) (cu_lt (by omega) (by omega))) (by first | omega | assumption | exact cu_36 (by omega) (cu_lt (by omega) (by omega))) (fun c12 => ?_) (fun c12 => ?_)
      · refine rn_ic (v := 0) d_252_32 (by decide) ?_
        refine rr_nx (pc' := 35) (al' := [some (.ref 146), some (.int (nI a)), some (.int (nI 1)), some (.int (nI x)), some (.int (nI 0)), none, none]) (st' := []) d_252_33 (fun _ => rfl) ?_
        refine rr_up (al := fun y => [some (.ref 146), some (.int (nI a)), some (.int (nI 1)), some (.int (nI x)), some (.int (nI y)), none, none]) (G := fun y => g) (B := fun y => A) (P := fun y => ∀ r, r < y → c (n * x + c (n * a + r)) = c (n * c (n * x + a) + r)) (n := n) (fun y hy py ihy => ?_) (fun py => ?_) 0  (by omega) (all_0)
        · show RR _ _ 35 [some (.ref 146), some (.int (nI a)), some (.int (nI 1)), some (.int (nI x)), some (.int (nI y)), none, none] [] g A _
          refine rr_nx (pc' := 37) (al' := [some (.ref 146), some (.int (nI a)), some (.int (nI 1)), some (.int (nI x)), some (.int (nI y)), none, none]) (st' := [.int (nI y)]) d_252_35 (fun _ => rfl) ?_
          refine rr_nx (pc' := 38) (al' := [some (.ref 146), some (.int (nI a)), some (.int (nI 1)), some (.int (nI x)), some (.int (nI y)), none, none]) (st' := [.ref 146, .int (nI y)]) d_252_37 (fun _ => rfl) ?_
          refine rr_gn d_252_38 mo_252 fl_127 rfl hc.1 ?_
          refine rn_cge (t := 170) d_252_41 (by decide) (by first | omega | assumption | exact cu_36 (by omega) (cu_lt (by omega) (by omega))) (by first | omega | assumption | exact cu_36 (by omega) (cu_lt (by omega) (by omega))) (fun c41 => ?_) (fun c41 => ?_)
          · omega
          · refine rr_nx (pc' := 45) (al' := [some (.ref 146), some (.int (nI a)), some (.int (nI 1)), some (.int (nI x)), some (.int (nI y)), none, none]) (st' := [.int (nI 1)]) d_252_44 (fun _ => rfl) ?_
            refine rn_ic (v := 3) d_252_45 (by decide) ?_
            refine rn_cge (t := 170) d_252_46 (by decide) (by first | omega | assumption | exact cu_36 (by omega) (cu_lt (by omega) (by omega))) (by first | omega | assumption | exact cu_36 (by omega) (cu_lt (by omega) (by omega))) (fun c46 => ?_) (fun c46 => ?_)
            · omega
            · refine rr_nx (pc' := 50) (al' := [some (.ref 146), some (.int (nI a)), some (.int (nI 1)), some (.int (nI x)), some (.int (nI y)), none, none]) (st' := [.int (nI 1)]) d_252_49 (fun _ => rfl) ?_
              refine rn_ine (t := 68) d_252_50 (by decide) (by first | omega | assumption | exact cu_36 (by omega) (cu_lt (by omega) (by omega))) (fun c50 => ?_) (fun c50 => ?_)
              · refine rr_nx (pc' := 69) (al' := [some (.ref 146), some (.int (nI a)), some (.int (nI 1)), some (.int (nI x)), some (.int (nI y)), none, none]) (st' := [.int (nI 1)]) d_252_68 (fun _ => rfl) ?_
                refine rn_ic (v := 1) d_252_69 (by decide) ?_
                refine rn_cne (t := 88) d_252_70 (by decide) (by first | omega | assumption | exact cu_36 (by omega) (cu_lt (by omega) (by omega))) (by first | omega | assumption | exact cu_36 (by omega) (cu_lt (by omega) (by omega))) (fun c70 => ?_) (fun c70 => ?_)
                · omega
                · refine rr_nx (pc' := 74) (al' := [some (.ref 146), some (.int (nI a)), some (.int (nI 1)), some (.int (nI x)), some (.int (nI y)), none, none]) (st' := [.ref 146]) d_252_73 (fun _ => rfl) ?_
                  refine rr_nx (pc' := 75) (al' := [some (.ref 146), some (.int (nI a)), some (.int (nI 1)), some (.int (nI x)), some (.int (nI y)), none, none]) (st' := [.int (nI x), .ref 146]) d_252_74 (fun _ => rfl) ?_
                  refine rr_nx (pc' := 76) (al' := [some (.ref 146), some (.int (nI a)), some (.int (nI 1)), some (.int (nI x)), some (.int (nI y)), none, none]) (st' := [.ref 146, .int (nI x), .ref 146]) d_252_75 (fun _ => rfl) ?_
                  refine rr_nx (pc' := 77) (al' := [some (.ref 146), some (.int (nI a)), some (.int (nI 1)), some (.int (nI x)), some (.int (nI y)), none, none]) (st' := [.int (nI a), .ref 146, .int (nI x), .ref 146]) d_252_76 (fun _ => rfl) ?_
                  refine rr_nx (pc' := 79) (al' := [some (.ref 146), some (.int (nI a)), some (.int (nI 1)), some (.int (nI x)), some (.int (nI y)), none, none]) (st' := [.int (nI y), .int (nI a), .ref 146, .int (nI x), .ref 146]) d_252_77 (fun _ => rfl) ?_
                  refine rr_pv (as := [.int (nI a), .int (nI y)]) (al0 := [some (.ref 146), some (.int (nI a)), some (.int (nI y))]) (r := [.int (nI x), .ref 146]) d_252_79 mo_252 ml_130 mz_213 rfl rfl rfl (Nat.le_of_ble_eq_true rfl) (s_times hc (by omega) (by omega)) ?_
                  show RR _ _ 82 [some (.ref 146), some (.int (nI a)), some (.int (nI 1)), some (.int (nI x)), some (.int (nI y)), none, none] [.int (nI (c (n * a + y))), .int (nI x), .ref 146] g A _
                  have b79 : c (n * a + y) < n := (hc.2.2 _ (cu_lt (by omega) (by omega))).2
                  refine rr_pv (as := [.int (nI x), .int (nI (c (n * a + y)))]) (al0 := [some (.ref 146), some (.int (nI x)), some (.int (nI (c (n * a + y))))]) (r := []) d_252_82 mo_252 ml_130 mz_213 rfl rfl rfl (Nat.le_of_ble_eq_true rfl) (s_times hc (by omega) (by omega)) ?_
                  show RR _ _ 85 [some (.ref 146), some (.int (nI a)), some (.int (nI 1)), some (.int (nI x)), some (.int (nI y)), none, none] [.int (nI (c (n * x + (c (n * a + y)))))] g A _
                  have b82 : c (n * x + (c (n * a + y))) < n := (hc.2.2 _ (cu_lt (by omega) (by omega))).2
                  refine rr_nx (pc' := 100) (al' := [some (.ref 146), some (.int (nI a)), some (.int (nI 1)), some (.int (nI x)), some (.int (nI y)), none, none]) (st' := [.int (nI (c (n * x + (c (n * a + y)))))]) d_252_85 (fun _ => rfl) ?_
                  refine rr_nx (pc' := 102) (al' := [some (.ref 146), some (.int (nI a)), some (.int (nI 1)), some (.int (nI x)), some (.int (nI y)), some (.int (nI (c (n * x + (c (n * a + y)))))), none]) (st' := []) d_252_100 (fun _ => rfl) ?_
                  refine rr_nx (pc' := 103) (al' := [some (.ref 146), some (.int (nI a)), some (.int (nI 1)), some (.int (nI x)), some (.int (nI y)), some (.int (nI (c (n * x + (c (n * a + y)))))), none]) (st' := [.int (nI 1)]) d_252_102 (fun _ => rfl) ?_
                  refine rn_ine (t := 121) d_252_103 (by decide) (by first | omega | assumption | exact cu_36 (by omega) (cu_lt (by omega) (by omega))) (fun c103 => ?_) (fun c103 => ?_)
                  · refine rr_nx (pc' := 122) (al' := [some (.ref 146), some (.int (nI a)), some (.int (nI 1)), some (.int (nI x)), some (.int (nI y)), some (.int (nI (c (n * x + (c (n * a + y)))))), none]) (st' := [.int (nI 1)]) d_252_121 (fun _ => rfl) ?_
                    refine rn_ic (v := 1) d_252_122 (by decide) ?_
                    refine rn_cne (t := 141) d_252_123 (by decide) (by first | omega | assumption | exact cu_36 (by omega) (cu_lt (by omega) (by omega))) (by first | omega | assumption | exact cu_36 (by omega) (cu_lt (by omega) (by omega))) (fun c123 => ?_) (fun c123 => ?_)
                    · omega
                    · refine rr_nx (pc' := 127) (al' := [some (.ref 146), some (.int (nI a)), some (.int (nI 1)), some (.int (nI x)), some (.int (nI y)), some (.int (nI (c (n * x + (c (n * a + y)))))), none]) (st' := [.ref 146]) d_252_126 (fun _ => rfl) ?_
                      refine rr_nx (pc' := 128) (al' := [some (.ref 146), some (.int (nI a)), some (.int (nI 1)), some (.int (nI x)), some (.int (nI y)), some (.int (nI (c (n * x + (c (n * a + y)))))), none]) (st' := [.ref 146, .ref 146]) d_252_127 (fun _ => rfl) ?_
                      refine rr_nx (pc' := 129) (al' := [some (.ref 146), some (.int (nI a)), some (.int (nI 1)), some (.int (nI x)), some (.int (nI y)), some (.int (nI (c (n * x + (c (n * a + y)))))), none]) (st' := [.int (nI x), .ref 146, .ref 146]) d_252_128 (fun _ => rfl) ?_
                      refine rr_nx (pc' := 130) (al' := [some (.ref 146), some (.int (nI a)), some (.int (nI 1)), some (.int (nI x)), some (.int (nI y)), some (.int (nI (c (n * x + (c (n * a + y)))))), none]) (st' := [.int (nI a), .int (nI x), .ref 146, .ref 146]) d_252_129 (fun _ => rfl) ?_
                      refine rr_pv (as := [.int (nI x), .int (nI a)]) (al0 := [some (.ref 146), some (.int (nI x)), some (.int (nI a))]) (r := [.ref 146]) d_252_130 mo_252 ml_130 mz_213 rfl rfl rfl (Nat.le_of_ble_eq_true rfl) (s_times hc (by omega) (by omega)) ?_
                      show RR _ _ 133 [some (.ref 146), some (.int (nI a)), some (.int (nI 1)), some (.int (nI x)), some (.int (nI y)), some (.int (nI (c (n * x + (c (n * a + y)))))), none] [.int (nI (c (n * x + a))), .ref 146] g A _
                      have b130 : c (n * x + a) < n := (hc.2.2 _ (cu_lt (by omega) (by omega))).2
                      refine rr_nx (pc' := 135) (al' := [some (.ref 146), some (.int (nI a)), some (.int (nI 1)), some (.int (nI x)), some (.int (nI y)), some (.int (nI (c (n * x + (c (n * a + y)))))), none]) (st' := [.int (nI y), .int (nI (c (n * x + a))), .ref 146]) d_252_133 (fun _ => rfl) ?_
                      refine rr_pv (as := [.int (nI (c (n * x + a))), .int (nI y)]) (al0 := [some (.ref 146), some (.int (nI (c (n * x + a)))), some (.int (nI y))]) (r := []) d_252_135 mo_252 ml_130 mz_213 rfl rfl rfl (Nat.le_of_ble_eq_true rfl) (s_times hc (by omega) (by omega)) ?_
                      show RR _ _ 138 [some (.ref 146), some (.int (nI a)), some (.int (nI 1)), some (.int (nI x)), some (.int (nI y)), some (.int (nI (c (n * x + (c (n * a + y)))))), none] [.int (nI (c (n * (c (n * x + a)) + y)))] g A _
                      have b135 : c (n * (c (n * x + a)) + y) < n := (hc.2.2 _ (cu_lt (by omega) (by omega))).2
                      refine rr_nx (pc' := 153) (al' := [some (.ref 146), some (.int (nI a)), some (.int (nI 1)), some (.int (nI x)), some (.int (nI y)), some (.int (nI (c (n * x + (c (n * a + y)))))), none]) (st' := [.int (nI (c (n * (c (n * x + a)) + y)))]) d_252_138 (fun _ => rfl) ?_
                      refine rr_nx (pc' := 155) (al' := [some (.ref 146), some (.int (nI a)), some (.int (nI 1)), some (.int (nI x)), some (.int (nI y)), some (.int (nI (c (n * x + (c (n * a + y)))))), some (.int (nI (c (n * (c (n * x + a)) + y))))]) (st' := []) d_252_153 (fun _ => rfl) ?_
                      refine rr_nx (pc' := 157) (al' := [some (.ref 146), some (.int (nI a)), some (.int (nI 1)), some (.int (nI x)), some (.int (nI y)), some (.int (nI (c (n * x + (c (n * a + y)))))), some (.int (nI (c (n * (c (n * x + a)) + y))))]) (st' := [.int (nI (c (n * x + (c (n * a + y)))))]) d_252_155 (fun _ => rfl) ?_
                      refine rr_nx (pc' := 159) (al' := [some (.ref 146), some (.int (nI a)), some (.int (nI 1)), some (.int (nI x)), some (.int (nI y)), some (.int (nI (c (n * x + (c (n * a + y)))))), some (.int (nI (c (n * (c (n * x + a)) + y))))]) (st' := [.int (nI (c (n * (c (n * x + a)) + y))), .int (nI (c (n * x + (c (n * a + y)))))]) d_252_157 (fun _ => rfl) ?_
                      refine rn_ceq (t := 164) d_252_159 (by decide) (by first | omega | assumption | exact cu_36 (by omega) (cu_lt (by omega) (by omega))) (by first | omega | assumption | exact cu_36 (by omega) (cu_lt (by omega) (by omega))) (fun c159 => ?_) (fun c159 => ?_)
                      · refine rn_inc d_252_164 rfl rfl ?_
                        show RR _ _ 167 [some (.ref 146), some (.int (nI a)), some (.int (nI 1)), some (.int (nI x)), some (.int (nI (y + 1))), some (.int (nI (c (n * x + (c (n * a + y)))))), some (.int (nI (c (n * (c (n * x + a)) + y))))] [] g A _
                        refine rr_nx (pc' := 35) (al' := [some (.ref 146), some (.int (nI a)), some (.int (nI 1)), some (.int (nI x)), some (.int (nI (y + 1))), some (.int (nI (c (n * x + (c (n * a + y)))))), some (.int (nI (c (n * (c (n * x + a)) + y))))]) (st' := []) d_252_167 (fun _ => rfl) ?_
                        refine rr_dr (al1 := [some (.ref 146), some (.int (nI a)), some (.int (nI 1)), some (.int (nI x)), some (.int (nI (y + 1))), none, none]) (le_s (le_s (le_s (le_s (le_s (le_d rfl (le_d rfl (le_n)))))))) ?_
                        exact ihy  (all_s (p := fun r => c (n * x + c (n * a + r)) = c (n * c (n * x + a) + r)) py c159)
                      · refine rn_ic (v := 0) d_252_162 (by decide) ?_
                        exact rr_ri d_252_163 mr_252 (by decide) (rq_f (fun e => c159 (of_decide_eq_true e x hx y hy)))
                  · omega
              · omega
        · show RR _ _ 35 [some (.ref 146), some (.int (nI a)), some (.int (nI 1)), some (.int (nI x)), some (.int (nI n)), none, none] [] g A _
          refine rr_nx (pc' := 37) (al' := [some (.ref 146), some (.int (nI a)), some (.int (nI 1)), some (.int (nI x)), some (.int (nI n)), none, none]) (st' := [.int (nI n)]) d_252_35 (fun _ => rfl) ?_
          refine rr_nx (pc' := 38) (al' := [some (.ref 146), some (.int (nI a)), some (.int (nI 1)), some (.int (nI x)), some (.int (nI n)), none, none]) (st' := [.ref 146, .int (nI n)]) d_252_37 (fun _ => rfl) ?_
          refine rr_gn d_252_38 mo_252 fl_127 rfl hc.1 ?_
          refine rn_cge (t := 170) d_252_41 (by decide) (by first | omega | assumption | exact cu_36 (by omega) (cu_lt (by omega) (by omega))) (by first | omega | assumption | exact cu_36 (by omega) (cu_lt (by omega) (by omega))) (fun c41 => ?_) (fun c41 => ?_)
          · refine rn_inc d_252_170 rfl rfl ?_
            show RR _ _ 173 [some (.ref 146), some (.int (nI a)), some (.int (nI 1)), some (.int (nI (x + 1))), some (.int (nI n)), none, none] [] g A _
            refine rr_nx (pc' := 2) (al' := [some (.ref 146), some (.int (nI a)), some (.int (nI 1)), some (.int (nI (x + 1))), some (.int (nI n)), none, none]) (st' := []) d_252_173 (fun _ => rfl) ?_
            refine rr_dr (al1 := [some (.ref 146), some (.int (nI a)), some (.int (nI 1)), some (.int (nI (x + 1))), none, none, none]) (le_s (le_s (le_s (le_s (le_d rfl (le_s (le_s (le_n)))))))) ?_
            exact ihx  (all_s px py)
          · omega
      · omega
  · show RR _ _ 2 [some (.ref 146), some (.int (nI a)), some (.int (nI 1)), some (.int (nI n)), none, none, none] [] g A _
    refine rr_nx (pc' := 3) (al' := [some (.ref 146), some (.int (nI a)), some (.int (nI 1)), some (.int (nI n)), none, none, none]) (st' := [.int (nI n)]) d_252_2 (fun _ => rfl) ?_
    refine rr_nx (pc' := 4) (al' := [some (.ref 146), some (.int (nI a)), some (.int (nI 1)), some (.int (nI n)), none, none, none]) (st' := [.ref 146, .int (nI n)]) d_252_3 (fun _ => rfl) ?_
    refine rr_gn d_252_4 mo_252 fl_127 rfl hc.1 ?_
    refine rn_cge (t := 176) d_252_7 (by decide) (by first | omega | assumption | exact cu_36 (by omega) (cu_lt (by omega) (by omega))) (by first | omega | assumption | exact cu_36 (by omega) (cu_lt (by omega) (by omega))) (fun c7 => ?_) (fun c7 => ?_)
    · refine rn_ic (v := 1) d_252_176 (by decide) ?_
      exact rr_ri d_252_177 mr_252 (by decide) (rq_t (decide_eq_true px))
    · omega
theorem s_isNuclear2 {g : Nat → Int32} {A : Nat → Nat → Int32} {n : Nat} {c : Nat → Nat} (hc : Cur g A n c) {a : Nat} (ha : a < n) : RR 1 252 0 [some (.ref 146), some (.int (nI a)), some (.int (nI 2)), none, none, none, none] [] g A (rP (some (.int (bI (nuB 2 n c a = true)))) g A) := by
  have hn6 := hc.2.1
  refine rn_ic (v := 0) d_252_0 (by decide) ?_
  refine rr_nx (pc' := 2) (al' := [some (.ref 146), some (.int (nI a)), some (.int (nI 2)), some (.int (nI 0)), none, none, none]) (st' := []) d_252_1 (fun _ => rfl) ?_
  refine rr_up (al := fun x => [some (.ref 146), some (.int (nI a)), some (.int (nI 2)), some (.int (nI x)), none, none, none]) (G := fun x => g) (B := fun x => A) (P := fun x => ∀ q, q < x → ∀ r, r < n → c (n * q + c (n * r + a)) = c (n * c (n * q + r) + a)) (n := n) (fun x hx px ihx => ?_) (fun px => ?_) 0  (by omega) (all_0)
  · show RR _ _ 2 [some (.ref 146), some (.int (nI a)), some (.int (nI 2)), some (.int (nI x)), none, none, none] [] g A _
    refine rr_nx (pc' := 3) (al' := [some (.ref 146), some (.int (nI a)), some (.int (nI 2)), some (.int (nI x)), none, none, none]) (st' := [.int (nI x)]) d_252_2 (fun _ => rfl) ?_
    refine rr_nx (pc' := 4) (al' := [some (.ref 146), some (.int (nI a)), some (.int (nI 2)), some (.int (nI x)), none, none, none]) (st' := [.ref 146, .int (nI x)]) d_252_3 (fun _ => rfl) ?_
    refine rr_gn d_252_4 mo_252 fl_127 rfl hc.1 ?_
    refine rn_cge (t := 176) d_252_7 (by decide) (by first | omega | assumption | exact cu_36 (by omega) (cu_lt (by omega) (by omega))) (by first | omega | assumption | exact cu_36 (by omega) (cu_lt (by omega) (by omega))) (fun c7 => ?_) (fun c7 => ?_)
    · omega
    · refine rr_nx (pc' := 11) (al' := [some (.ref 146), some (.int (nI a)), some (.int (nI 2)), some (.int (nI x)), none, none, none]) (st' := [.int (nI 2)]) d_252_10 (fun _ => rfl) ?_
      refine rn_ic (v := 3) d_252_11 (by decide) ?_
      refine rn_cne (t := 32) d_252_12 (by decide) (by first | omega | assumption | exact cu_36 (by omega) (cu_lt (by omega) (by omega))) (by first | omega | assumption | exact cu_36 (by omega) (cu_lt (by omega) (by omega))) (fun c12 => ?_) (fun c12 => ?_)
      · refine rn_ic (v := 0) d_252_32 (by decide) ?_
        refine rr_nx (pc' := 35) (al' := [some (.ref 146), some (.int (nI a)), some (.int (nI 2)), some (.int (nI x)), some (.int (nI 0)), none, none]) (st' := []) d_252_33 (fun _ => rfl) ?_
        refine rr_up (al := fun y => [some (.ref 146), some (.int (nI a)), some (.int (nI 2)), some (.int (nI x)), some (.int (nI y)), none, none]) (G := fun y => g) (B := fun y => A) (P := fun y => ∀ r, r < y → c (n * x + c (n * r + a)) = c (n * c (n * x + r) + a)) (n := n) (fun y hy py ihy => ?_) (fun py => ?_) 0  (by omega) (all_0)
        · show RR _ _ 35 [some (.ref 146), some (.int (nI a)), some (.int (nI 2)), some (.int (nI x)), some (.int (nI y)), none, none] [] g A _
          refine rr_nx (pc' := 37) (al' := [some (.ref 146), some (.int (nI a)), some (.int (nI 2)), some (.int (nI x)), some (.int (nI y)), none, none]) (st' := [.int (nI y)]) d_252_35 (fun _ => rfl) ?_
          refine rr_nx (pc' := 38) (al' := [some (.ref 146), some (.int (nI a)), some (.int (nI 2)), some (.int (nI x)), some (.int (nI y)), none, none]) (st' := [.ref 146, .int (nI y)]) d_252_37 (fun _ => rfl) ?_
          refine rr_gn d_252_38 mo_252 fl_127 rfl hc.1 ?_
          refine rn_cge (t := 170) d_252_41 (by decide) (by first | omega | assumption | exact cu_36 (by omega) (cu_lt (by omega) (by omega))) (by first | omega | assumption | exact cu_36 (by omega) (cu_lt (by omega) (by omega))) (fun c41 => ?_) (fun c41 => ?_)
          · omega
          · refine rr_nx (pc' := 45) (al' := [some (.ref 146), some (.int (nI a)), some (.int (nI 2)), some (.int (nI x)), some (.int (nI y)), none, none]) (st' := [.int (nI 2)]) d_252_44 (fun _ => rfl) ?_
            refine rn_ic (v := 3) d_252_45 (by decide) ?_
            refine rn_cge (t := 170) d_252_46 (by decide) (by first | omega | assumption | exact cu_36 (by omega) (cu_lt (by omega) (by omega))) (by first | omega | assumption | exact cu_36 (by omega) (cu_lt (by omega) (by omega))) (fun c46 => ?_) (fun c46 => ?_)
            · omega
            · refine rr_nx (pc' := 50) (al' := [some (.ref 146), some (.int (nI a)), some (.int (nI 2)), some (.int (nI x)), some (.int (nI y)), none, none]) (st' := [.int (nI 2)]) d_252_49 (fun _ => rfl) ?_
              refine rn_ine (t := 68) d_252_50 (by decide) (by first | omega | assumption | exact cu_36 (by omega) (cu_lt (by omega) (by omega))) (fun c50 => ?_) (fun c50 => ?_)
              · refine rr_nx (pc' := 69) (al' := [some (.ref 146), some (.int (nI a)), some (.int (nI 2)), some (.int (nI x)), some (.int (nI y)), none, none]) (st' := [.int (nI 2)]) d_252_68 (fun _ => rfl) ?_
                refine rn_ic (v := 1) d_252_69 (by decide) ?_
                refine rn_cne (t := 88) d_252_70 (by decide) (by first | omega | assumption | exact cu_36 (by omega) (cu_lt (by omega) (by omega))) (by first | omega | assumption | exact cu_36 (by omega) (cu_lt (by omega) (by omega))) (fun c70 => ?_) (fun c70 => ?_)
                · refine rr_nx (pc' := 89) (al' := [some (.ref 146), some (.int (nI a)), some (.int (nI 2)), some (.int (nI x)), some (.int (nI y)), none, none]) (st' := [.ref 146]) d_252_88 (fun _ => rfl) ?_
                  refine rr_nx (pc' := 90) (al' := [some (.ref 146), some (.int (nI a)), some (.int (nI 2)), some (.int (nI x)), some (.int (nI y)), none, none]) (st' := [.int (nI x), .ref 146]) d_252_89 (fun _ => rfl) ?_
                  refine rr_nx (pc' := 91) (al' := [some (.ref 146), some (.int (nI a)), some (.int (nI 2)), some (.int (nI x)), some (.int (nI y)), none, none]) (st' := [.ref 146, .int (nI x), .ref 146]) d_252_90 (fun _ => rfl) ?_
                  refine rr_nx (pc' := 93) (al' := [some (.ref 146), some (.int (nI a)), some (.int (nI 2)), some (.int (nI x)), some (.int (nI y)), none, none]) (st' := [.int (nI y), .ref 146, .int (nI x), .ref 146]) d_252_91 (fun _ => rfl) ?_
                  refine rr_nx (pc' := 94) (al' := [some (.ref 146), some (.int (nI a)), some (.int (nI 2)), some (.int (nI x)), some (.int (nI y)), none, none]) (st' := [.int (nI a), .int (nI y), .ref 146, .int (nI x), .ref 146]) d_252_93 (fun _ => rfl) ?_
                  refine rr_pv (as := [.int (nI y), .int (nI a)]) (al0 := [some (.ref 146), some (.int (nI y)), some (.int (nI a))]) (r := [.int (nI x), .ref 146]) d_252_94 mo_252 ml_130 mz_213 rfl rfl rfl (Nat.le_of_ble_eq_true rfl) (s_times hc (by omega) (by omega)) ?_
                  show RR _ _ 97 [some (.ref 146), some (.int (nI a)), some (.int (nI 2)), some (.int (nI x)), some (.int (nI y)), none, none] [.int (nI (c (n * y + a))), .int (nI x), .ref 146] g A _
                  have b94 : c (n * y + a) < n := (hc.2.2 _ (cu_lt (by omega) (by omega))).2
                  refine rr_pv (as := [.int (nI x), .int (nI (c (n * y + a)))]) (al0 := [some (.ref 146), some (.int (nI x)), some (.int (nI (c (n * y + a))))]) (r := []) d_252_97 mo_252 ml_130 mz_213 rfl rfl rfl (Nat.le_of_ble_eq_true rfl) (s_times hc (by omega) (by omega)) ?_
                  show RR _ _ 100 [some (.ref 146), some (.int (nI a)), some (.int (nI 2)), some (.int (nI x)), some (.int (nI y)), none, none] [.int (nI (c (n * x + (c (n * y + a)))))] g A _
                  have b97 : c (n * x + (c (n * y + a))) < n := (hc.2.2 _ (cu_lt (by omega) (by omega))).2
                  refine rr_nx (pc' := 102) (al' := [some (.ref 146), some (.int (nI a)), some (.int (nI 2)), some (.int (nI x)), some (.int (nI y)), some (.int (nI (c (n * x + (c (n * y + a)))))), none]) (st' := []) d_252_100 (fun _ => rfl) ?_
                  refine rr_nx (pc' := 103) (al' := [some (.ref 146), some (.int (nI a)), some (.int (nI 2)), some (.int (nI x)), some (.int (nI y)), some (.int (nI (c (n * x + (c (n * y + a)))))), none]) (st' := [.int (nI 2)]) d_252_102 (fun _ => rfl) ?_
                  refine rn_ine (t := 121) d_252_103 (by decide) (by first | omega | assumption | exact cu_36 (by omega) (cu_lt (by omega) (by omega))) (fun c103 => ?_) (fun c103 => ?_)
                  · refine rr_nx (pc' := 122) (al' := [some (.ref 146), some (.int (nI a)), some (.int (nI 2)), some (.int (nI x)), some (.int (nI y)), some (.int (nI (c (n * x + (c (n * y + a)))))), none]) (st' := [.int (nI 2)]) d_252_121 (fun _ => rfl) ?_
                    refine rn_ic (v := 1) d_252_122 (by decide) ?_
                    refine rn_cne (t := 141) d_252_123 (by decide) (by first | omega | assumption | exact cu_36 (by omega) (cu_lt (by omega) (by omega))) (by first | omega | assumption | exact cu_36 (by omega) (cu_lt (by omega) (by omega))) (fun c123 => ?_) (fun c123 => ?_)
                    · refine rr_nx (pc' := 142) (al' := [some (.ref 146), some (.int (nI a)), some (.int (nI 2)), some (.int (nI x)), some (.int (nI y)), some (.int (nI (c (n * x + (c (n * y + a)))))), none]) (st' := [.ref 146]) d_252_141 (fun _ => rfl) ?_
                      refine rr_nx (pc' := 143) (al' := [some (.ref 146), some (.int (nI a)), some (.int (nI 2)), some (.int (nI x)), some (.int (nI y)), some (.int (nI (c (n * x + (c (n * y + a)))))), none]) (st' := [.ref 146, .ref 146]) d_252_142 (fun _ => rfl) ?_
                      refine rr_nx (pc' := 144) (al' := [some (.ref 146), some (.int (nI a)), some (.int (nI 2)), some (.int (nI x)), some (.int (nI y)), some (.int (nI (c (n * x + (c (n * y + a)))))), none]) (st' := [.int (nI x), .ref 146, .ref 146]) d_252_143 (fun _ => rfl) ?_
                      refine rr_nx (pc' := 146) (al' := [some (.ref 146), some (.int (nI a)), some (.int (nI 2)), some (.int (nI x)), some (.int (nI y)), some (.int (nI (c (n * x + (c (n * y + a)))))), none]) (st' := [.int (nI y), .int (nI x), .ref 146, .ref 146]) d_252_144 (fun _ => rfl) ?_
                      refine rr_pv (as := [.int (nI x), .int (nI y)]) (al0 := [some (.ref 146), some (.int (nI x)), some (.int (nI y))]) (r := [.ref 146]) d_252_146 mo_252 ml_130 mz_213 rfl rfl rfl (Nat.le_of_ble_eq_true rfl) (s_times hc (by omega) (by omega)) ?_
                      show RR _ _ 149 [some (.ref 146), some (.int (nI a)), some (.int (nI 2)), some (.int (nI x)), some (.int (nI y)), some (.int (nI (c (n * x + (c (n * y + a)))))), none] [.int (nI (c (n * x + y))), .ref 146] g A _
                      have b146 : c (n * x + y) < n := (hc.2.2 _ (cu_lt (by omega) (by omega))).2
                      refine rr_nx (pc' := 150) (al' := [some (.ref 146), some (.int (nI a)), some (.int (nI 2)), some (.int (nI x)), some (.int (nI y)), some (.int (nI (c (n * x + (c (n * y + a)))))), none]) (st' := [.int (nI a), .int (nI (c (n * x + y))), .ref 146]) d_252_149 (fun _ => rfl) ?_
                      refine rr_pv (as := [.int (nI (c (n * x + y))), .int (nI a)]) (al0 := [some (.ref 146), some (.int (nI (c (n * x + y)))), some (.int (nI a))]) (r := []) d_252_150 mo_252 ml_130 mz_213 rfl rfl rfl (Nat.le_of_ble_eq_true rfl) (s_times hc (by omega) (by omega)) ?_
                      show RR _ _ 153 [some (.ref 146), some (.int (nI a)), some (.int (nI 2)), some (.int (nI x)), some (.int (nI y)), some (.int (nI (c (n * x + (c (n * y + a)))))), none] [.int (nI (c (n * (c (n * x + y)) + a)))] g A _
                      have b150 : c (n * (c (n * x + y)) + a) < n := (hc.2.2 _ (cu_lt (by omega) (by omega))).2
                      refine rr_nx (pc' := 155) (al' := [some (.ref 146), some (.int (nI a)), some (.int (nI 2)), some (.int (nI x)), some (.int (nI y)), some (.int (nI (c (n * x + (c (n * y + a)))))), some (.int (nI (c (n * (c (n * x + y)) + a))))]) (st' := []) d_252_153 (fun _ => rfl) ?_
                      refine rr_nx (pc' := 157) (al' := [some (.ref 146), some (.int (nI a)), some (.int (nI 2)), some (.int (nI x)), some (.int (nI y)), some (.int (nI (c (n * x + (c (n * y + a)))))), some (.int (nI (c (n * (c (n * x + y)) + a))))]) (st' := [.int (nI (c (n * x + (c (n * y + a)))))]) d_252_155 (fun _ => rfl) ?_
                      refine rr_nx (pc' := 159) (al' := [some (.ref 146), some (.int (nI a)), some (.int (nI 2)), some (.int (nI x)), some (.int (nI y)), some (.int (nI (c (n * x + (c (n * y + a)))))), some (.int (nI (c (n * (c (n * x + y)) + a))))]) (st' := [.int (nI (c (n * (c (n * x + y)) + a))), .int (nI (c (n * x + (c (n * y + a)))))]) d_252_157 (fun _ => rfl) ?_
                      refine rn_ceq (t := 164) d_252_159 (by decide) (by first | omega | assumption | exact cu_36 (by omega) (cu_lt (by omega) (by omega))) (by first | omega | assumption | exact cu_36 (by omega) (cu_lt (by omega) (by omega))) (fun c159 => ?_) (fun c159 => ?_)
                      · refine rn_inc d_252_164 rfl rfl ?_
                        show RR _ _ 167 [some (.ref 146), some (.int (nI a)), some (.int (nI 2)), some (.int (nI x)), some (.int (nI (y + 1))), some (.int (nI (c (n * x + (c (n * y + a)))))), some (.int (nI (c (n * (c (n * x + y)) + a))))] [] g A _
                        refine rr_nx (pc' := 35) (al' := [some (.ref 146), some (.int (nI a)), some (.int (nI 2)), some (.int (nI x)), some (.int (nI (y + 1))), some (.int (nI (c (n * x + (c (n * y + a)))))), some (.int (nI (c (n * (c (n * x + y)) + a))))]) (st' := []) d_252_167 (fun _ => rfl) ?_
                        refine rr_dr (al1 := [some (.ref 146), some (.int (nI a)), some (.int (nI 2)), some (.int (nI x)), some (.int (nI (y + 1))), none, none]) (le_s (le_s (le_s (le_s (le_s (le_d rfl (le_d rfl (le_n)))))))) ?_
                        exact ihy  (all_s (p := fun r => c (n * x + c (n * r + a)) = c (n * c (n * x + r) + a)) py c159)
                      · refine rn_ic (v := 0) d_252_162 (by decide) ?_
                        exact rr_ri d_252_163 mr_252 (by decide) (rq_f (fun e => c159 (of_decide_eq_true e x hx y hy)))
                    · omega
                  · omega
                · omega
              · omega
        · show RR _ _ 35 [some (.ref 146), some (.int (nI a)), some (.int (nI 2)), some (.int (nI x)), some (.int (nI n)), none, none] [] g A _
          refine rr_nx (pc' := 37) (al' := [some (.ref 146), some (.int (nI a)), some (.int (nI 2)), some (.int (nI x)), some (.int (nI n)), none, none]) (st' := [.int (nI n)]) d_252_35 (fun _ => rfl) ?_
          refine rr_nx (pc' := 38) (al' := [some (.ref 146), some (.int (nI a)), some (.int (nI 2)), some (.int (nI x)), some (.int (nI n)), none, none]) (st' := [.ref 146, .int (nI n)]) d_252_37 (fun _ => rfl) ?_
          refine rr_gn d_252_38 mo_252 fl_127 rfl hc.1 ?_
          refine rn_cge (t := 170) d_252_41 (by decide) (by first | omega | assumption | exact cu_36 (by omega) (cu_lt (by omega) (by omega))) (by first | omega | assumption | exact cu_36 (by omega) (cu_lt (by omega) (by omega))) (fun c41 => ?_) (fun c41 => ?_)
          · refine rn_inc d_252_170 rfl rfl ?_
            show RR _ _ 173 [some (.ref 146), some (.int (nI a)), some (.int (nI 2)), some (.int (nI (x + 1))), some (.int (nI n)), none, none] [] g A _
            refine rr_nx (pc' := 2) (al' := [some (.ref 146), some (.int (nI a)), some (.int (nI 2)), some (.int (nI (x + 1))), some (.int (nI n)), none, none]) (st' := []) d_252_173 (fun _ => rfl) ?_
            refine rr_dr (al1 := [some (.ref 146), some (.int (nI a)), some (.int (nI 2)), some (.int (nI (x + 1))), none, none, none]) (le_s (le_s (le_s (le_s (le_d rfl (le_s (le_s (le_n)))))))) ?_
            exact ihx  (all_s px py)
          · omega
      · omega
  · show RR _ _ 2 [some (.ref 146), some (.int (nI a)), some (.int (nI 2)), some (.int (nI n)), none, none, none] [] g A _
    refine rr_nx (pc' := 3) (al' := [some (.ref 146), some (.int (nI a)), some (.int (nI 2)), some (.int (nI n)), none, none, none]) (st' := [.int (nI n)]) d_252_2 (fun _ => rfl) ?_
    refine rr_nx (pc' := 4) (al' := [some (.ref 146), some (.int (nI a)), some (.int (nI 2)), some (.int (nI n)), none, none, none]) (st' := [.ref 146, .int (nI n)]) d_252_3 (fun _ => rfl) ?_
    refine rr_gn d_252_4 mo_252 fl_127 rfl hc.1 ?_
    refine rn_cge (t := 176) d_252_7 (by decide) (by first | omega | assumption | exact cu_36 (by omega) (cu_lt (by omega) (by omega))) (by first | omega | assumption | exact cu_36 (by omega) (cu_lt (by omega) (by omega))) (fun c7 => ?_) (fun c7 => ?_)
    · refine rn_ic (v := 1) d_252_176 (by decide) ?_
      exact rr_ri d_252_177 mr_252 (by decide) (rq_t (decide_eq_true px))
    · omega
theorem s_isNuclear3 {g : Nat → Int32} {A : Nat → Nat → Int32} {n : Nat} {c : Nat → Nat} (hc : Cur g A n c) {a : Nat} (ha : a < n) : RR 1 252 0 [some (.ref 146), some (.int (nI a)), some (.int (nI 3)), none, none, none, none] [] g A (rP (some (.int (bI (nuB 3 n c a = true)))) g A) := by
  have hn6 := hc.2.1
  refine rn_ic (v := 0) d_252_0 (by decide) ?_
  refine rr_nx (pc' := 2) (al' := [some (.ref 146), some (.int (nI a)), some (.int (nI 3)), some (.int (nI 0)), none, none, none]) (st' := []) d_252_1 (fun _ => rfl) ?_
  refine rr_up (al := fun x => [some (.ref 146), some (.int (nI a)), some (.int (nI 3)), some (.int (nI x)), none, none, none]) (G := fun x => g) (B := fun x => A) (P := fun x => ∀ q, q < x → c (n * a + q) = c (n * q + a)) (n := n) (fun x hx px ihx => ?_) (fun px => ?_) 0  (by omega) (all_0)
  · show RR _ _ 2 [some (.ref 146), some (.int (nI a)), some (.int (nI 3)), some (.int (nI x)), none, none, none] [] g A _
    refine rr_nx (pc' := 3) (al' := [some (.ref 146), some (.int (nI a)), some (.int (nI 3)), some (.int (nI x)), none, none, none]) (st' := [.int (nI x)]) d_252_2 (fun _ => rfl) ?_
    refine rr_nx (pc' := 4) (al' := [some (.ref 146), some (.int (nI a)), some (.int (nI 3)), some (.int (nI x)), none, none, none]) (st' := [.ref 146, .int (nI x)]) d_252_3 (fun _ => rfl) ?_
    refine rr_gn d_252_4 mo_252 fl_127 rfl hc.1 ?_
    refine rn_cge (t := 176) d_252_7 (by decide) (by first | omega | assumption | exact cu_36 (by omega) (cu_lt (by omega) (by omega))) (by first | omega | assumption | exact cu_36 (by omega) (cu_lt (by omega) (by omega))) (fun c7 => ?_) (fun c7 => ?_)
    · omega
    · refine rr_nx (pc' := 11) (al' := [some (.ref 146), some (.int (nI a)), some (.int (nI 3)), some (.int (nI x)), none, none, none]) (st' := [.int (nI 3)]) d_252_10 (fun _ => rfl) ?_
      refine rn_ic (v := 3) d_252_11 (by decide) ?_
      refine rn_cne (t := 32) d_252_12 (by decide) (by first | omega | assumption | exact cu_36 (by omega) (cu_lt (by omega) (by omega))) (by first | omega | assumption | exact cu_36 (by omega) (cu_lt (by omega) (by omega))) (fun c12 => ?_) (fun c12 => ?_)
      · omega
      · refine rr_nx (pc' := 16) (al' := [some (.ref 146), some (.int (nI a)), some (.int (nI 3)), some (.int (nI x)), none, none, none]) (st' := [.ref 146]) d_252_15 (fun _ => rfl) ?_
        refine rr_nx (pc' := 17) (al' := [some (.ref 146), some (.int (nI a)), some (.int (nI 3)), some (.int (nI x)), none, none, none]) (st' := [.int (nI a), .ref 146]) d_252_16 (fun _ => rfl) ?_
        refine rr_nx (pc' := 18) (al' := [some (.ref 146), some (.int (nI a)), some (.int (nI 3)), some (.int (nI x)), none, none, none]) (st' := [.int (nI x), .int (nI a), .ref 146]) d_252_17 (fun _ => rfl) ?_
        refine rr_pv (as := [.int (nI a), .int (nI x)]) (al0 := [some (.ref 146), some (.int (nI a)), some (.int (nI x))]) (r := []) d_252_18 mo_252 ml_130 mz_213 rfl rfl rfl (Nat.le_of_ble_eq_true rfl) (s_times hc (by omega) (by omega)) ?_
        show RR _ _ 21 [some (.ref 146), some (.int (nI a)), some (.int (nI 3)), some (.int (nI x)), none, none, none] [.int (nI (c (n * a + x)))] g A _
        have b18 : c (n * a + x) < n := (hc.2.2 _ (cu_lt (by omega) (by omega))).2
        refine rr_nx (pc' := 22) (al' := [some (.ref 146), some (.int (nI a)), some (.int (nI 3)), some (.int (nI x)), none, none, none]) (st' := [.ref 146, .int (nI (c (n * a + x)))]) d_252_21 (fun _ => rfl) ?_
        refine rr_nx (pc' := 23) (al' := [some (.ref 146), some (.int (nI a)), some (.int (nI 3)), some (.int (nI x)), none, none, none]) (st' := [.int (nI x), .ref 146, .int (nI (c (n * a + x)))]) d_252_22 (fun _ => rfl) ?_
        refine rr_nx (pc' := 24) (al' := [some (.ref 146), some (.int (nI a)), some (.int (nI 3)), some (.int (nI x)), none, none, none]) (st' := [.int (nI a), .int (nI x), .ref 146, .int (nI (c (n * a + x)))]) d_252_23 (fun _ => rfl) ?_
        refine rr_pv (as := [.int (nI x), .int (nI a)]) (al0 := [some (.ref 146), some (.int (nI x)), some (.int (nI a))]) (r := [.int (nI (c (n * a + x)))]) d_252_24 mo_252 ml_130 mz_213 rfl rfl rfl (Nat.le_of_ble_eq_true rfl) (s_times hc (by omega) (by omega)) ?_
        show RR _ _ 27 [some (.ref 146), some (.int (nI a)), some (.int (nI 3)), some (.int (nI x)), none, none, none] [.int (nI (c (n * x + a))), .int (nI (c (n * a + x)))] g A _
        have b24 : c (n * x + a) < n := (hc.2.2 _ (cu_lt (by omega) (by omega))).2
        refine rn_ceq (t := 32) d_252_27 (by decide) (by first | omega | assumption | exact cu_36 (by omega) (cu_lt (by omega) (by omega))) (by first | omega | assumption | exact cu_36 (by omega) (cu_lt (by omega) (by omega))) (fun c27 => ?_) (fun c27 => ?_)
        · refine rn_ic (v := 0) d_252_32 (by decide) ?_
          refine rr_nx (pc' := 35) (al' := [some (.ref 146), some (.int (nI a)), some (.int (nI 3)), some (.int (nI x)), some (.int (nI 0)), none, none]) (st' := []) d_252_33 (fun _ => rfl) ?_
          refine rr_nx (pc' := 37) (al' := [some (.ref 146), some (.int (nI a)), some (.int (nI 3)), some (.int (nI x)), some (.int (nI 0)), none, none]) (st' := [.int (nI 0)]) d_252_35 (fun _ => rfl) ?_
          refine rr_nx (pc' := 38) (al' := [some (.ref 146), some (.int (nI a)), some (.int (nI 3)), some (.int (nI x)), some (.int (nI 0)), none, none]) (st' := [.ref 146, .int (nI 0)]) d_252_37 (fun _ => rfl) ?_
          refine rr_gn d_252_38 mo_252 fl_127 rfl hc.1 ?_
          refine rn_cge (t := 170) d_252_41 (by decide) (by first | omega | assumption | exact cu_36 (by omega) (cu_lt (by omega) (by omega))) (by first | omega | assumption | exact cu_36 (by omega) (cu_lt (by omega) (by omega))) (fun c41 => ?_) (fun c41 => ?_)
          · refine rn_inc d_252_170 rfl rfl ?_
            show RR _ _ 173 [some (.ref 146), some (.int (nI a)), some (.int (nI 3)), some (.int (nI (x + 1))), some (.int (nI 0)), none, none] [] g A _
            refine rr_nx (pc' := 2) (al' := [some (.ref 146), some (.int (nI a)), some (.int (nI 3)), some (.int (nI (x + 1))), some (.int (nI 0)), none, none]) (st' := []) d_252_173 (fun _ => rfl) ?_
            refine rr_dr (al1 := [some (.ref 146), some (.int (nI a)), some (.int (nI 3)), some (.int (nI (x + 1))), none, none, none]) (le_s (le_s (le_s (le_s (le_d rfl (le_s (le_s (le_n)))))))) ?_
            exact ihx  (all_s (p := fun q => c (n * a + q) = c (n * q + a)) px c27)
          · refine rr_nx (pc' := 45) (al' := [some (.ref 146), some (.int (nI a)), some (.int (nI 3)), some (.int (nI x)), some (.int (nI 0)), none, none]) (st' := [.int (nI 3)]) d_252_44 (fun _ => rfl) ?_
            refine rn_ic (v := 3) d_252_45 (by decide) ?_
            refine rn_cge (t := 170) d_252_46 (by decide) (by first | omega | assumption | exact cu_36 (by omega) (cu_lt (by omega) (by omega))) (by first | omega | assumption | exact cu_36 (by omega) (cu_lt (by omega) (by omega))) (fun c46 => ?_) (fun c46 => ?_)
            · refine rn_inc d_252_170 rfl rfl ?_
              show RR _ _ 173 [some (.ref 146), some (.int (nI a)), some (.int (nI 3)), some (.int (nI (x + 1))), some (.int (nI 0)), none, none] [] g A _
              refine rr_nx (pc' := 2) (al' := [some (.ref 146), some (.int (nI a)), some (.int (nI 3)), some (.int (nI (x + 1))), some (.int (nI 0)), none, none]) (st' := []) d_252_173 (fun _ => rfl) ?_
              refine rr_dr (al1 := [some (.ref 146), some (.int (nI a)), some (.int (nI 3)), some (.int (nI (x + 1))), none, none, none]) (le_s (le_s (le_s (le_s (le_d rfl (le_s (le_s (le_n)))))))) ?_
              exact ihx  (all_s (p := fun q => c (n * a + q) = c (n * q + a)) px c27)
            · omega
        · refine rn_ic (v := 0) d_252_30 (by decide) ?_
          exact rr_ri d_252_31 mr_252 (by decide) (rq_f (fun e => c27 (of_decide_eq_true e x hx)))
  · show RR _ _ 2 [some (.ref 146), some (.int (nI a)), some (.int (nI 3)), some (.int (nI n)), none, none, none] [] g A _
    refine rr_nx (pc' := 3) (al' := [some (.ref 146), some (.int (nI a)), some (.int (nI 3)), some (.int (nI n)), none, none, none]) (st' := [.int (nI n)]) d_252_2 (fun _ => rfl) ?_
    refine rr_nx (pc' := 4) (al' := [some (.ref 146), some (.int (nI a)), some (.int (nI 3)), some (.int (nI n)), none, none, none]) (st' := [.ref 146, .int (nI n)]) d_252_3 (fun _ => rfl) ?_
    refine rr_gn d_252_4 mo_252 fl_127 rfl hc.1 ?_
    refine rn_cge (t := 176) d_252_7 (by decide) (by first | omega | assumption | exact cu_36 (by omega) (cu_lt (by omega) (by omega))) (by first | omega | assumption | exact cu_36 (by omega) (cu_lt (by omega) (by omega))) (fun c7 => ?_) (fun c7 => ?_)
    · refine rn_ic (v := 1) d_252_176 (by decide) ?_
      exact rr_ri d_252_177 mr_252 (by decide) (rq_t (decide_eq_true px))
    · omega
def setN (p : Nat → Bool) (n : Nat) : Nat := ORs (fun a => if p a = true then 1 * 2 ^ a else 0) n
theorem setN_bit {p : Nat → Bool} {n q : Nat} : (setN p n).testBit q = true ↔ q < n ∧ p q = true := by
  unfold setN
  rw [ORs_bit]
  constructor
  · rintro ⟨i, hi, h⟩
    by_cases hp : p i = true
    · rw [if_pos hp, Nat.one_mul, Nat.testBit_two_pow] at h
      have : i = q := of_decide_eq_true h
      exact this ▸ ⟨hi, hp⟩
    · rw [if_neg hp] at h
      simp at h
  · rintro ⟨h, hp⟩
    refine ⟨q, h, ?_⟩
    rw [if_pos hp, Nat.one_mul, Nat.testBit_two_pow]
    exact decide_eq_true rfl
theorem setN_lt {p : Nat → Bool} {n : Nat} : setN p n < 2 ^ n := ORs_lt fun i hi => by
  by_cases h : p i = true
  · rw [if_pos h, Nat.one_mul]
    exact tw_lt hi
  · rw [if_neg h]
    exact Nat.two_pow_pos n
def nuF (w n : Nat) (c : Nat → Nat) (a : Nat) : Bool := match w with
  | 0 => nuB 0 n c a
  | 1 => nuB 1 n c a
  | 2 => nuB 2 n c a
  | 3 => nuB 0 n c a && nuB 1 n c a && nuB 2 n c a
  | 4 => nuB 3 n c a
  | _ => nuB 0 n c a && nuB 1 n c a && nuB 2 n c a && nuB 3 n c a
def nuV (w n : Nat) (c : Nat → Nat) : Nat := setN (nuF w n c) n
theorem s_nucleus0_24 {g : Nat → Int32} {A : Nat → Nat → Int32} {n : Nat} {c : Nat → Nat} (hc : Cur g A n c) : RR 2 251 24 [some (.ref 146), none, some (.int (nI 0)), none, none, none, none] [] g A (rP (some (.int (nI (nuV 0 n c)))) g A) := by
  have hn6 := hc.2.1
  refine rn_ic (v := 0) d_251_24 (by decide) ?_
  refine rr_nx (pc' := 26) (al' := [some (.ref 146), none, some (.int (nI 0)), some (.int (nI 0)), none, none, none]) (st' := []) d_251_25 (fun _ => rfl) ?_
  refine rn_ic (v := 0) d_251_26 (by decide) ?_
  refine rr_nx (pc' := 29) (al' := [some (.ref 146), none, some (.int (nI 0)), some (.int (nI 0)), some (.int (nI 0)), none, none]) (st' := []) d_251_27 (fun _ => rfl) ?_
  refine rr_al (congrArg (fun z__ : Nat => ([some (.ref 146), none, some (.int (nI 0)), some (.int (nI z__)), some (.int (nI 0)), none, none] : AL)) (show 0 = setN (nuF 0 n c) 0 by first | rfl | omega | (simp only [SM_s]; omega) | (simp [SM_s, *]; done) | (simp [SM_s, *]; omega))) ?_
  refine rr_up (al := fun a => [some (.ref 146), none, some (.int (nI 0)), some (.int (nI (setN (nuF 0 n c) a))), some (.int (nI a)), none, none]) (G := fun a => g) (B := fun a => A) (P := fun a => True) (n := n) (fun a ha pa iha => ?_) (fun pa => ?_) 0  (by omega) (trivial)
  · show RR _ _ 29 [some (.ref 146), none, some (.int (nI 0)), some (.int (nI (setN (nuF 0 n c) a))), some (.int (nI a)), none, none] [] g A _
    refine rr_nx (pc' := 31) (al' := [some (.ref 146), none, some (.int (nI 0)), some (.int (nI (setN (nuF 0 n c) a))), some (.int (nI a)), none, none]) (st' := [.int (nI a)]) d_251_29 (fun _ => rfl) ?_
    refine rr_nx (pc' := 32) (al' := [some (.ref 146), none, some (.int (nI 0)), some (.int (nI (setN (nuF 0 n c) a))), some (.int (nI a)), none, none]) (st' := [.ref 146, .int (nI a)]) d_251_31 (fun _ => rfl) ?_
    refine rr_gn d_251_32 mo_251 fl_127 rfl hc.1 ?_
    refine rn_cge (t := 159) d_251_35 (by decide) (by first | omega | assumption | exact cu_36 (by omega) (cu_lt (by omega) (by omega))) (by first | omega | assumption | exact cu_36 (by omega) (cu_lt (by omega) (by omega))) (fun c35 => ?_) (fun c35 => ?_)
    · omega
    · refine rr_nx (pc' := 39) (al' := [some (.ref 146), none, some (.int (nI 0)), some (.int (nI (setN (nuF 0 n c) a))), some (.int (nI a)), none, none]) (st' := [.ref 146]) d_251_38 (fun _ => rfl) ?_
      refine rr_nx (pc' := 41) (al' := [some (.ref 146), none, some (.int (nI 0)), some (.int (nI (setN (nuF 0 n c) a))), some (.int (nI a)), none, none]) (st' := [.int (nI a), .ref 146]) d_251_39 (fun _ => rfl) ?_
      refine rn_ic (v := 0) d_251_41 (by decide) ?_
      refine rr_pv (as := [.int (nI a), .int (nI 0)]) (al0 := [some (.ref 146), some (.int (nI a)), some (.int (nI 0)), none, none, none, none]) (r := []) d_251_42 mo_251 ml_298 mz_252 rfl rfl rfl (Nat.le_of_ble_eq_true rfl) (s_isNuclear0 hc (by omega)) ?_
      show RR _ _ 45 [some (.ref 146), none, some (.int (nI 0)), some (.int (nI (setN (nuF 0 n c) a))), some (.int (nI a)), none, none] [.int (bI (nuB 0 n c a = true))] g A _
      refine rr_beq (t := 72) d_251_45 (by decide) (fun c45 => ?_) (fun c45 => ?_)
      · refine rn_ic (v := 0) d_251_72 (by decide) ?_
        refine rr_nx (pc' := 75) (al' := [some (.ref 146), none, some (.int (nI 0)), some (.int (nI (setN (nuF 0 n c) a))), some (.int (nI a)), some (.int (nI 0)), none]) (st' := []) d_251_73 (fun _ => rfl) ?_
        refine rr_nx (pc' := 76) (al' := [some (.ref 146), none, some (.int (nI 0)), some (.int (nI (setN (nuF 0 n c) a))), some (.int (nI a)), some (.int (nI 0)), none]) (st' := [.int (nI 0)]) d_251_75 (fun _ => rfl) ?_
        refine rn_ic (v := 3) d_251_76 (by decide) ?_
        refine rn_cge (t := 90) d_251_77 (by decide) (by first | omega | assumption | exact cu_36 (by omega) (cu_lt (by omega) (by omega))) (by first | omega | assumption | exact cu_36 (by omega) (cu_lt (by omega) (by omega))) (fun c77 => ?_) (fun c77 => ?_)
        · omega
        · refine rr_nx (pc' := 81) (al' := [some (.ref 146), none, some (.int (nI 0)), some (.int (nI (setN (nuF 0 n c) a))), some (.int (nI a)), some (.int (nI 0)), none]) (st' := [.ref 146]) d_251_80 (fun _ => rfl) ?_
          refine rr_nx (pc' := 83) (al' := [some (.ref 146), none, some (.int (nI 0)), some (.int (nI (setN (nuF 0 n c) a))), some (.int (nI a)), some (.int (nI 0)), none]) (st' := [.int (nI a), .ref 146]) d_251_81 (fun _ => rfl) ?_
          refine rr_nx (pc' := 84) (al' := [some (.ref 146), none, some (.int (nI 0)), some (.int (nI (setN (nuF 0 n c) a))), some (.int (nI a)), some (.int (nI 0)), none]) (st' := [.int (nI 0), .int (nI a), .ref 146]) d_251_83 (fun _ => rfl) ?_
          refine rr_pv (as := [.int (nI a), .int (nI 0)]) (al0 := [some (.ref 146), some (.int (nI a)), some (.int (nI 0)), none, none, none, none]) (r := []) d_251_84 mo_251 ml_298 mz_252 rfl rfl rfl (Nat.le_of_ble_eq_true rfl) (s_isNuclear0 hc (by omega)) ?_
          show RR _ _ 87 [some (.ref 146), none, some (.int (nI 0)), some (.int (nI (setN (nuF 0 n c) a))), some (.int (nI a)), some (.int (nI 0)), none] [.int (bI (nuB 0 n c a = true))] g A _
          refine rr_nx (pc' := 135) (al' := [some (.ref 146), none, some (.int (nI 0)), some (.int (nI (setN (nuF 0 n c) a))), some (.int (nI a)), some (.int (nI 0)), none]) (st' := [.int (bI (nuB 0 n c a = true))]) d_251_87 (fun _ => rfl) ?_
          refine rr_nx (pc' := 137) (al' := [some (.ref 146), none, some (.int (nI 0)), some (.int (nI (setN (nuF 0 n c) a))), some (.int (nI a)), some (.int (nI 0)), some (.int (bI (nuB 0 n c a = true)))]) (st' := []) d_251_135 (fun _ => rfl) ?_
          refine rr_nx (pc' := 138) (al' := [some (.ref 146), none, some (.int (nI 0)), some (.int (nI (setN (nuF 0 n c) a))), some (.int (nI a)), some (.int (nI 0)), some (.int (bI (nuB 0 n c a = true)))]) (st' := [.int (nI (setN (nuF 0 n c) a))]) d_251_137 (fun _ => rfl) ?_
          refine rr_nx (pc' := 140) (al' := [some (.ref 146), none, some (.int (nI 0)), some (.int (nI (setN (nuF 0 n c) a))), some (.int (nI a)), some (.int (nI 0)), some (.int (bI (nuB 0 n c a = true)))]) (st' := [.int (bI (nuB 0 n c a = true)), .int (nI (setN (nuF 0 n c) a))]) d_251_138 (fun _ => rfl) ?_
          refine rr_beq (t := 150) d_251_140 (by decide) (fun c140 => ?_) (fun c140 => ?_)
          · refine rn_ic (v := 0) d_251_150 (by decide) ?_
            refine rn_or d_251_151 ?_
            refine rr_nx (pc' := 153) (al' := [some (.ref 146), none, some (.int (nI 0)), some (.int (nI ((setN (nuF 0 n c) a) ||| 0))), some (.int (nI a)), some (.int (nI 0)), some (.int (bI (nuB 0 n c a = true)))]) (st' := []) d_251_152 (fun _ => rfl) ?_
            refine rn_inc d_251_153 rfl rfl ?_
            show RR _ _ 156 [some (.ref 146), none, some (.int (nI 0)), some (.int (nI ((setN (nuF 0 n c) a) ||| 0))), some (.int (nI (a + 1))), some (.int (nI 0)), some (.int (bI (nuB 0 n c a = true)))] [] g A _
            refine rr_nx (pc' := 29) (al' := [some (.ref 146), none, some (.int (nI 0)), some (.int (nI ((setN (nuF 0 n c) a) ||| 0))), some (.int (nI (a + 1))), some (.int (nI 0)), some (.int (bI (nuB 0 n c a = true)))]) (st' := []) d_251_156 (fun _ => rfl) ?_
            refine rr_al (congrArg (fun z__ : Nat => ([some (.ref 146), none, some (.int (nI 0)), some (.int (nI z__)), some (.int (nI (a + 1))), some (.int (nI 0)), some (.int (bI (nuB 0 n c a = true)))] : AL)) (show (setN (nuF 0 n c) a) ||| 0 = setN (nuF 0 n c) (a + 1) by first | contradiction | (rw [setN, setN, ORs_s]; congr 1; simp only [nuF]; simp [*]))) ?_
            refine rr_dr (al1 := [some (.ref 146), none, some (.int (nI 0)), some (.int (nI (setN (nuF 0 n c) (a + 1)))), some (.int (nI (a + 1))), none, none]) (le_s (le_s (le_s (le_s (le_s (le_d rfl (le_d rfl (le_n)))))))) ?_
            exact iha  (trivial)
          · refine rn_ic (v := 1) d_251_143 (by decide) ?_
            refine rr_nx (pc' := 146) (al' := [some (.ref 146), none, some (.int (nI 0)), some (.int (nI (setN (nuF 0 n c) a))), some (.int (nI a)), some (.int (nI 0)), some (.int (bI (nuB 0 n c a = true)))]) (st' := [.int (nI a), .int (nI 1), .int (nI (setN (nuF 0 n c) a))]) d_251_144 (fun _ => rfl) ?_
            refine rn_shl d_251_146 (by first | omega | assumption | exact cu_36 (by omega) (cu_lt (by omega) (by omega))) ?_
            refine rr_nx (pc' := 151) (al' := [some (.ref 146), none, some (.int (nI 0)), some (.int (nI (setN (nuF 0 n c) a))), some (.int (nI a)), some (.int (nI 0)), some (.int (bI (nuB 0 n c a = true)))]) (st' := [.int (nI (1 * 2 ^ a)), .int (nI (setN (nuF 0 n c) a))]) d_251_147 (fun _ => rfl) ?_
            refine rn_or d_251_151 ?_
            refine rr_nx (pc' := 153) (al' := [some (.ref 146), none, some (.int (nI 0)), some (.int (nI ((setN (nuF 0 n c) a) ||| (1 * 2 ^ a)))), some (.int (nI a)), some (.int (nI 0)), some (.int (bI (nuB 0 n c a = true)))]) (st' := []) d_251_152 (fun _ => rfl) ?_
            refine rn_inc d_251_153 rfl rfl ?_
            show RR _ _ 156 [some (.ref 146), none, some (.int (nI 0)), some (.int (nI ((setN (nuF 0 n c) a) ||| (1 * 2 ^ a)))), some (.int (nI (a + 1))), some (.int (nI 0)), some (.int (bI (nuB 0 n c a = true)))] [] g A _
            refine rr_nx (pc' := 29) (al' := [some (.ref 146), none, some (.int (nI 0)), some (.int (nI ((setN (nuF 0 n c) a) ||| (1 * 2 ^ a)))), some (.int (nI (a + 1))), some (.int (nI 0)), some (.int (bI (nuB 0 n c a = true)))]) (st' := []) d_251_156 (fun _ => rfl) ?_
            refine rr_al (congrArg (fun z__ : Nat => ([some (.ref 146), none, some (.int (nI 0)), some (.int (nI z__)), some (.int (nI (a + 1))), some (.int (nI 0)), some (.int (bI (nuB 0 n c a = true)))] : AL)) (show (setN (nuF 0 n c) a) ||| (1 * 2 ^ a) = setN (nuF 0 n c) (a + 1) by first | contradiction | (rw [setN, setN, ORs_s]; congr 1; simp only [nuF]; simp [*]))) ?_
            refine rr_dr (al1 := [some (.ref 146), none, some (.int (nI 0)), some (.int (nI (setN (nuF 0 n c) (a + 1)))), some (.int (nI (a + 1))), none, none]) (le_s (le_s (le_s (le_s (le_s (le_d rfl (le_d rfl (le_n)))))))) ?_
            exact iha  (trivial)
      · refine rr_nx (pc' := 49) (al' := [some (.ref 146), none, some (.int (nI 0)), some (.int (nI (setN (nuF 0 n c) a))), some (.int (nI a)), none, none]) (st' := [.ref 146]) d_251_48 (fun _ => rfl) ?_
        refine rr_nx (pc' := 51) (al' := [some (.ref 146), none, some (.int (nI 0)), some (.int (nI (setN (nuF 0 n c) a))), some (.int (nI a)), none, none]) (st' := [.int (nI a), .ref 146]) d_251_49 (fun _ => rfl) ?_
        refine rn_ic (v := 1) d_251_51 (by decide) ?_
        refine rr_pv (as := [.int (nI a), .int (nI 1)]) (al0 := [some (.ref 146), some (.int (nI a)), some (.int (nI 1)), none, none, none, none]) (r := []) d_251_52 mo_251 ml_298 mz_252 rfl rfl rfl (Nat.le_of_ble_eq_true rfl) (s_isNuclear1 hc (by omega)) ?_
        show RR _ _ 55 [some (.ref 146), none, some (.int (nI 0)), some (.int (nI (setN (nuF 0 n c) a))), some (.int (nI a)), none, none] [.int (bI (nuB 1 n c a = true))] g A _
        refine rr_beq (t := 72) d_251_55 (by decide) (fun c55 => ?_) (fun c55 => ?_)
        · refine rn_ic (v := 0) d_251_72 (by decide) ?_
          refine rr_nx (pc' := 75) (al' := [some (.ref 146), none, some (.int (nI 0)), some (.int (nI (setN (nuF 0 n c) a))), some (.int (nI a)), some (.int (nI 0)), none]) (st' := []) d_251_73 (fun _ => rfl) ?_
          refine rr_nx (pc' := 76) (al' := [some (.ref 146), none, some (.int (nI 0)), some (.int (nI (setN (nuF 0 n c) a))), some (.int (nI a)), some (.int (nI 0)), none]) (st' := [.int (nI 0)]) d_251_75 (fun _ => rfl) ?_
          refine rn_ic (v := 3) d_251_76 (by decide) ?_
          refine rn_cge (t := 90) d_251_77 (by decide) (by first | omega | assumption | exact cu_36 (by omega) (cu_lt (by omega) (by omega))) (by first | omega | assumption | exact cu_36 (by omega) (cu_lt (by omega) (by omega))) (fun c77 => ?_) (fun c77 => ?_)
          · omega
          · refine rr_nx (pc' := 81) (al' := [some (.ref 146), none, some (.int (nI 0)), some (.int (nI (setN (nuF 0 n c) a))), some (.int (nI a)), some (.int (nI 0)), none]) (st' := [.ref 146]) d_251_80 (fun _ => rfl) ?_
            refine rr_nx (pc' := 83) (al' := [some (.ref 146), none, some (.int (nI 0)), some (.int (nI (setN (nuF 0 n c) a))), some (.int (nI a)), some (.int (nI 0)), none]) (st' := [.int (nI a), .ref 146]) d_251_81 (fun _ => rfl) ?_
            refine rr_nx (pc' := 84) (al' := [some (.ref 146), none, some (.int (nI 0)), some (.int (nI (setN (nuF 0 n c) a))), some (.int (nI a)), some (.int (nI 0)), none]) (st' := [.int (nI 0), .int (nI a), .ref 146]) d_251_83 (fun _ => rfl) ?_
            refine rr_pv (as := [.int (nI a), .int (nI 0)]) (al0 := [some (.ref 146), some (.int (nI a)), some (.int (nI 0)), none, none, none, none]) (r := []) d_251_84 mo_251 ml_298 mz_252 rfl rfl rfl (Nat.le_of_ble_eq_true rfl) (s_isNuclear0 hc (by omega)) ?_
            show RR _ _ 87 [some (.ref 146), none, some (.int (nI 0)), some (.int (nI (setN (nuF 0 n c) a))), some (.int (nI a)), some (.int (nI 0)), none] [.int (bI (nuB 0 n c a = true))] g A _
            refine rr_nx (pc' := 135) (al' := [some (.ref 146), none, some (.int (nI 0)), some (.int (nI (setN (nuF 0 n c) a))), some (.int (nI a)), some (.int (nI 0)), none]) (st' := [.int (bI (nuB 0 n c a = true))]) d_251_87 (fun _ => rfl) ?_
            refine rr_nx (pc' := 137) (al' := [some (.ref 146), none, some (.int (nI 0)), some (.int (nI (setN (nuF 0 n c) a))), some (.int (nI a)), some (.int (nI 0)), some (.int (bI (nuB 0 n c a = true)))]) (st' := []) d_251_135 (fun _ => rfl) ?_
            refine rr_nx (pc' := 138) (al' := [some (.ref 146), none, some (.int (nI 0)), some (.int (nI (setN (nuF 0 n c) a))), some (.int (nI a)), some (.int (nI 0)), some (.int (bI (nuB 0 n c a = true)))]) (st' := [.int (nI (setN (nuF 0 n c) a))]) d_251_137 (fun _ => rfl) ?_
            refine rr_nx (pc' := 140) (al' := [some (.ref 146), none, some (.int (nI 0)), some (.int (nI (setN (nuF 0 n c) a))), some (.int (nI a)), some (.int (nI 0)), some (.int (bI (nuB 0 n c a = true)))]) (st' := [.int (bI (nuB 0 n c a = true)), .int (nI (setN (nuF 0 n c) a))]) d_251_138 (fun _ => rfl) ?_
            refine rr_beq (t := 150) d_251_140 (by decide) (fun c140 => ?_) (fun c140 => ?_)
            · refine rn_ic (v := 0) d_251_150 (by decide) ?_
              refine rn_or d_251_151 ?_
              refine rr_nx (pc' := 153) (al' := [some (.ref 146), none, some (.int (nI 0)), some (.int (nI ((setN (nuF 0 n c) a) ||| 0))), some (.int (nI a)), some (.int (nI 0)), some (.int (bI (nuB 0 n c a = true)))]) (st' := []) d_251_152 (fun _ => rfl) ?_
              refine rn_inc d_251_153 rfl rfl ?_
              show RR _ _ 156 [some (.ref 146), none, some (.int (nI 0)), some (.int (nI ((setN (nuF 0 n c) a) ||| 0))), some (.int (nI (a + 1))), some (.int (nI 0)), some (.int (bI (nuB 0 n c a = true)))] [] g A _
              refine rr_nx (pc' := 29) (al' := [some (.ref 146), none, some (.int (nI 0)), some (.int (nI ((setN (nuF 0 n c) a) ||| 0))), some (.int (nI (a + 1))), some (.int (nI 0)), some (.int (bI (nuB 0 n c a = true)))]) (st' := []) d_251_156 (fun _ => rfl) ?_
              refine rr_al (congrArg (fun z__ : Nat => ([some (.ref 146), none, some (.int (nI 0)), some (.int (nI z__)), some (.int (nI (a + 1))), some (.int (nI 0)), some (.int (bI (nuB 0 n c a = true)))] : AL)) (show (setN (nuF 0 n c) a) ||| 0 = setN (nuF 0 n c) (a + 1) by first | contradiction | (rw [setN, setN, ORs_s]; congr 1; simp only [nuF]; simp [*]))) ?_
              refine rr_dr (al1 := [some (.ref 146), none, some (.int (nI 0)), some (.int (nI (setN (nuF 0 n c) (a + 1)))), some (.int (nI (a + 1))), none, none]) (le_s (le_s (le_s (le_s (le_s (le_d rfl (le_d rfl (le_n)))))))) ?_
              exact iha  (trivial)
            · refine rn_ic (v := 1) d_251_143 (by decide) ?_
              refine rr_nx (pc' := 146) (al' := [some (.ref 146), none, some (.int (nI 0)), some (.int (nI (setN (nuF 0 n c) a))), some (.int (nI a)), some (.int (nI 0)), some (.int (bI (nuB 0 n c a = true)))]) (st' := [.int (nI a), .int (nI 1), .int (nI (setN (nuF 0 n c) a))]) d_251_144 (fun _ => rfl) ?_
              refine rn_shl d_251_146 (by first | omega | assumption | exact cu_36 (by omega) (cu_lt (by omega) (by omega))) ?_
              refine rr_nx (pc' := 151) (al' := [some (.ref 146), none, some (.int (nI 0)), some (.int (nI (setN (nuF 0 n c) a))), some (.int (nI a)), some (.int (nI 0)), some (.int (bI (nuB 0 n c a = true)))]) (st' := [.int (nI (1 * 2 ^ a)), .int (nI (setN (nuF 0 n c) a))]) d_251_147 (fun _ => rfl) ?_
              refine rn_or d_251_151 ?_
              refine rr_nx (pc' := 153) (al' := [some (.ref 146), none, some (.int (nI 0)), some (.int (nI ((setN (nuF 0 n c) a) ||| (1 * 2 ^ a)))), some (.int (nI a)), some (.int (nI 0)), some (.int (bI (nuB 0 n c a = true)))]) (st' := []) d_251_152 (fun _ => rfl) ?_
              refine rn_inc d_251_153 rfl rfl ?_
              show RR _ _ 156 [some (.ref 146), none, some (.int (nI 0)), some (.int (nI ((setN (nuF 0 n c) a) ||| (1 * 2 ^ a)))), some (.int (nI (a + 1))), some (.int (nI 0)), some (.int (bI (nuB 0 n c a = true)))] [] g A _
              refine rr_nx (pc' := 29) (al' := [some (.ref 146), none, some (.int (nI 0)), some (.int (nI ((setN (nuF 0 n c) a) ||| (1 * 2 ^ a)))), some (.int (nI (a + 1))), some (.int (nI 0)), some (.int (bI (nuB 0 n c a = true)))]) (st' := []) d_251_156 (fun _ => rfl) ?_
              refine rr_al (congrArg (fun z__ : Nat => ([some (.ref 146), none, some (.int (nI 0)), some (.int (nI z__)), some (.int (nI (a + 1))), some (.int (nI 0)), some (.int (bI (nuB 0 n c a = true)))] : AL)) (show (setN (nuF 0 n c) a) ||| (1 * 2 ^ a) = setN (nuF 0 n c) (a + 1) by first | contradiction | (rw [setN, setN, ORs_s]; congr 1; simp only [nuF]; simp [*]))) ?_
              refine rr_dr (al1 := [some (.ref 146), none, some (.int (nI 0)), some (.int (nI (setN (nuF 0 n c) (a + 1)))), some (.int (nI (a + 1))), none, none]) (le_s (le_s (le_s (le_s (le_s (le_d rfl (le_d rfl (le_n)))))))) ?_
              exact iha  (trivial)
        · refine rr_nx (pc' := 59) (al' := [some (.ref 146), none, some (.int (nI 0)), some (.int (nI (setN (nuF 0 n c) a))), some (.int (nI a)), none, none]) (st' := [.ref 146]) d_251_58 (fun _ => rfl) ?_
          refine rr_nx (pc' := 61) (al' := [some (.ref 146), none, some (.int (nI 0)), some (.int (nI (setN (nuF 0 n c) a))), some (.int (nI a)), none, none]) (st' := [.int (nI a), .ref 146]) d_251_59 (fun _ => rfl) ?_
          refine rn_ic (v := 2) d_251_61 (by decide) ?_
          refine rr_pv (as := [.int (nI a), .int (nI 2)]) (al0 := [some (.ref 146), some (.int (nI a)), some (.int (nI 2)), none, none, none, none]) (r := []) d_251_62 mo_251 ml_298 mz_252 rfl rfl rfl (Nat.le_of_ble_eq_true rfl) (s_isNuclear2 hc (by omega)) ?_
          show RR _ _ 65 [some (.ref 146), none, some (.int (nI 0)), some (.int (nI (setN (nuF 0 n c) a))), some (.int (nI a)), none, none] [.int (bI (nuB 2 n c a = true))] g A _
          refine rr_beq (t := 72) d_251_65 (by decide) (fun c65 => ?_) (fun c65 => ?_)
          · refine rn_ic (v := 0) d_251_72 (by decide) ?_
            refine rr_nx (pc' := 75) (al' := [some (.ref 146), none, some (.int (nI 0)), some (.int (nI (setN (nuF 0 n c) a))), some (.int (nI a)), some (.int (nI 0)), none]) (st' := []) d_251_73 (fun _ => rfl) ?_
            refine rr_nx (pc' := 76) (al' := [some (.ref 146), none, some (.int (nI 0)), some (.int (nI (setN (nuF 0 n c) a))), some (.int (nI a)), some (.int (nI 0)), none]) (st' := [.int (nI 0)]) d_251_75 (fun _ => rfl) ?_
            refine rn_ic (v := 3) d_251_76 (by decide) ?_
            refine rn_cge (t := 90) d_251_77 (by decide) (by first | omega | assumption | exact cu_36 (by omega) (cu_lt (by omega) (by omega))) (by first | omega | assumption | exact cu_36 (by omega) (cu_lt (by omega) (by omega))) (fun c77 => ?_) (fun c77 => ?_)
            · omega
            · refine rr_nx (pc' := 81) (al' := [some (.ref 146), none, some (.int (nI 0)), some (.int (nI (setN (nuF 0 n c) a))), some (.int (nI a)), some (.int (nI 0)), none]) (st' := [.ref 146]) d_251_80 (fun _ => rfl) ?_
              refine rr_nx (pc' := 83) (al' := [some (.ref 146), none, some (.int (nI 0)), some (.int (nI (setN (nuF 0 n c) a))), some (.int (nI a)), some (.int (nI 0)), none]) (st' := [.int (nI a), .ref 146]) d_251_81 (fun _ => rfl) ?_
              refine rr_nx (pc' := 84) (al' := [some (.ref 146), none, some (.int (nI 0)), some (.int (nI (setN (nuF 0 n c) a))), some (.int (nI a)), some (.int (nI 0)), none]) (st' := [.int (nI 0), .int (nI a), .ref 146]) d_251_83 (fun _ => rfl) ?_
              refine rr_pv (as := [.int (nI a), .int (nI 0)]) (al0 := [some (.ref 146), some (.int (nI a)), some (.int (nI 0)), none, none, none, none]) (r := []) d_251_84 mo_251 ml_298 mz_252 rfl rfl rfl (Nat.le_of_ble_eq_true rfl) (s_isNuclear0 hc (by omega)) ?_
              show RR _ _ 87 [some (.ref 146), none, some (.int (nI 0)), some (.int (nI (setN (nuF 0 n c) a))), some (.int (nI a)), some (.int (nI 0)), none] [.int (bI (nuB 0 n c a = true))] g A _
              refine rr_nx (pc' := 135) (al' := [some (.ref 146), none, some (.int (nI 0)), some (.int (nI (setN (nuF 0 n c) a))), some (.int (nI a)), some (.int (nI 0)), none]) (st' := [.int (bI (nuB 0 n c a = true))]) d_251_87 (fun _ => rfl) ?_
              refine rr_nx (pc' := 137) (al' := [some (.ref 146), none, some (.int (nI 0)), some (.int (nI (setN (nuF 0 n c) a))), some (.int (nI a)), some (.int (nI 0)), some (.int (bI (nuB 0 n c a = true)))]) (st' := []) d_251_135 (fun _ => rfl) ?_
              refine rr_nx (pc' := 138) (al' := [some (.ref 146), none, some (.int (nI 0)), some (.int (nI (setN (nuF 0 n c) a))), some (.int (nI a)), some (.int (nI 0)), some (.int (bI (nuB 0 n c a = true)))]) (st' := [.int (nI (setN (nuF 0 n c) a))]) d_251_137 (fun _ => rfl) ?_
              refine rr_nx (pc' := 140) (al' := [some (.ref 146), none, some (.int (nI 0)), some (.int (nI (setN (nuF 0 n c) a))), some (.int (nI a)), some (.int (nI 0)), some (.int (bI (nuB 0 n c a = true)))]) (st' := [.int (bI (nuB 0 n c a = true)), .int (nI (setN (nuF 0 n c) a))]) d_251_138 (fun _ => rfl) ?_
              refine rr_beq (t := 150) d_251_140 (by decide) (fun c140 => ?_) (fun c140 => ?_)
              · refine rn_ic (v := 0) d_251_150 (by decide) ?_
                refine rn_or d_251_151 ?_
                refine rr_nx (pc' := 153) (al' := [some (.ref 146), none, some (.int (nI 0)), some (.int (nI ((setN (nuF 0 n c) a) ||| 0))), some (.int (nI a)), some (.int (nI 0)), some (.int (bI (nuB 0 n c a = true)))]) (st' := []) d_251_152 (fun _ => rfl) ?_
                refine rn_inc d_251_153 rfl rfl ?_
                show RR _ _ 156 [some (.ref 146), none, some (.int (nI 0)), some (.int (nI ((setN (nuF 0 n c) a) ||| 0))), some (.int (nI (a + 1))), some (.int (nI 0)), some (.int (bI (nuB 0 n c a = true)))] [] g A _
                refine rr_nx (pc' := 29) (al' := [some (.ref 146), none, some (.int (nI 0)), some (.int (nI ((setN (nuF 0 n c) a) ||| 0))), some (.int (nI (a + 1))), some (.int (nI 0)), some (.int (bI (nuB 0 n c a = true)))]) (st' := []) d_251_156 (fun _ => rfl) ?_
                refine rr_al (congrArg (fun z__ : Nat => ([some (.ref 146), none, some (.int (nI 0)), some (.int (nI z__)), some (.int (nI (a + 1))), some (.int (nI 0)), some (.int (bI (nuB 0 n c a = true)))] : AL)) (show (setN (nuF 0 n c) a) ||| 0 = setN (nuF 0 n c) (a + 1) by first | contradiction | (rw [setN, setN, ORs_s]; congr 1; simp only [nuF]; simp [*]))) ?_
                refine rr_dr (al1 := [some (.ref 146), none, some (.int (nI 0)), some (.int (nI (setN (nuF 0 n c) (a + 1)))), some (.int (nI (a + 1))), none, none]) (le_s (le_s (le_s (le_s (le_s (le_d rfl (le_d rfl (le_n)))))))) ?_
                exact iha  (trivial)
              · refine rn_ic (v := 1) d_251_143 (by decide) ?_
                refine rr_nx (pc' := 146) (al' := [some (.ref 146), none, some (.int (nI 0)), some (.int (nI (setN (nuF 0 n c) a))), some (.int (nI a)), some (.int (nI 0)), some (.int (bI (nuB 0 n c a = true)))]) (st' := [.int (nI a), .int (nI 1), .int (nI (setN (nuF 0 n c) a))]) d_251_144 (fun _ => rfl) ?_
                refine rn_shl d_251_146 (by first | omega | assumption | exact cu_36 (by omega) (cu_lt (by omega) (by omega))) ?_
                refine rr_nx (pc' := 151) (al' := [some (.ref 146), none, some (.int (nI 0)), some (.int (nI (setN (nuF 0 n c) a))), some (.int (nI a)), some (.int (nI 0)), some (.int (bI (nuB 0 n c a = true)))]) (st' := [.int (nI (1 * 2 ^ a)), .int (nI (setN (nuF 0 n c) a))]) d_251_147 (fun _ => rfl) ?_
                refine rn_or d_251_151 ?_
                refine rr_nx (pc' := 153) (al' := [some (.ref 146), none, some (.int (nI 0)), some (.int (nI ((setN (nuF 0 n c) a) ||| (1 * 2 ^ a)))), some (.int (nI a)), some (.int (nI 0)), some (.int (bI (nuB 0 n c a = true)))]) (st' := []) d_251_152 (fun _ => rfl) ?_
                refine rn_inc d_251_153 rfl rfl ?_
                show RR _ _ 156 [some (.ref 146), none, some (.int (nI 0)), some (.int (nI ((setN (nuF 0 n c) a) ||| (1 * 2 ^ a)))), some (.int (nI (a + 1))), some (.int (nI 0)), some (.int (bI (nuB 0 n c a = true)))] [] g A _
                refine rr_nx (pc' := 29) (al' := [some (.ref 146), none, some (.int (nI 0)), some (.int (nI ((setN (nuF 0 n c) a) ||| (1 * 2 ^ a)))), some (.int (nI (a + 1))), some (.int (nI 0)), some (.int (bI (nuB 0 n c a = true)))]) (st' := []) d_251_156 (fun _ => rfl) ?_
                refine rr_al (congrArg (fun z__ : Nat => ([some (.ref 146), none, some (.int (nI 0)), some (.int (nI z__)), some (.int (nI (a + 1))), some (.int (nI 0)), some (.int (bI (nuB 0 n c a = true)))] : AL)) (show (setN (nuF 0 n c) a) ||| (1 * 2 ^ a) = setN (nuF 0 n c) (a + 1) by first | contradiction | (rw [setN, setN, ORs_s]; congr 1; simp only [nuF]; simp [*]))) ?_
                refine rr_dr (al1 := [some (.ref 146), none, some (.int (nI 0)), some (.int (nI (setN (nuF 0 n c) (a + 1)))), some (.int (nI (a + 1))), none, none]) (le_s (le_s (le_s (le_s (le_s (le_d rfl (le_d rfl (le_n)))))))) ?_
                exact iha  (trivial)
          · refine rn_ic (v := 1) d_251_68 (by decide) ?_
            refine rr_nx (pc' := 73) (al' := [some (.ref 146), none, some (.int (nI 0)), some (.int (nI (setN (nuF 0 n c) a))), some (.int (nI a)), none, none]) (st' := [.int (nI 1)]) d_251_69 (fun _ => rfl) ?_
            refine rr_nx (pc' := 75) (al' := [some (.ref 146), none, some (.int (nI 0)), some (.int (nI (setN (nuF 0 n c) a))), some (.int (nI a)), some (.int (nI 1)), none]) (st' := []) d_251_73 (fun _ => rfl) ?_
            refine rr_nx (pc' := 76) (al' := [some (.ref 146), none, some (.int (nI 0)), some (.int (nI (setN (nuF 0 n c) a))), some (.int (nI a)), some (.int (nI 1)), none]) (st' := [.int (nI 0)]) d_251_75 (fun _ => rfl) ?_
            refine rn_ic (v := 3) d_251_76 (by decide) ?_
            refine rn_cge (t := 90) d_251_77 (by decide) (by first | omega | assumption | exact cu_36 (by omega) (cu_lt (by omega) (by omega))) (by first | omega | assumption | exact cu_36 (by omega) (cu_lt (by omega) (by omega))) (fun c77 => ?_) (fun c77 => ?_)
            · omega
            · refine rr_nx (pc' := 81) (al' := [some (.ref 146), none, some (.int (nI 0)), some (.int (nI (setN (nuF 0 n c) a))), some (.int (nI a)), some (.int (nI 1)), none]) (st' := [.ref 146]) d_251_80 (fun _ => rfl) ?_
              refine rr_nx (pc' := 83) (al' := [some (.ref 146), none, some (.int (nI 0)), some (.int (nI (setN (nuF 0 n c) a))), some (.int (nI a)), some (.int (nI 1)), none]) (st' := [.int (nI a), .ref 146]) d_251_81 (fun _ => rfl) ?_
              refine rr_nx (pc' := 84) (al' := [some (.ref 146), none, some (.int (nI 0)), some (.int (nI (setN (nuF 0 n c) a))), some (.int (nI a)), some (.int (nI 1)), none]) (st' := [.int (nI 0), .int (nI a), .ref 146]) d_251_83 (fun _ => rfl) ?_
              refine rr_pv (as := [.int (nI a), .int (nI 0)]) (al0 := [some (.ref 146), some (.int (nI a)), some (.int (nI 0)), none, none, none, none]) (r := []) d_251_84 mo_251 ml_298 mz_252 rfl rfl rfl (Nat.le_of_ble_eq_true rfl) (s_isNuclear0 hc (by omega)) ?_
              show RR _ _ 87 [some (.ref 146), none, some (.int (nI 0)), some (.int (nI (setN (nuF 0 n c) a))), some (.int (nI a)), some (.int (nI 1)), none] [.int (bI (nuB 0 n c a = true))] g A _
              refine rr_nx (pc' := 135) (al' := [some (.ref 146), none, some (.int (nI 0)), some (.int (nI (setN (nuF 0 n c) a))), some (.int (nI a)), some (.int (nI 1)), none]) (st' := [.int (bI (nuB 0 n c a = true))]) d_251_87 (fun _ => rfl) ?_
              refine rr_nx (pc' := 137) (al' := [some (.ref 146), none, some (.int (nI 0)), some (.int (nI (setN (nuF 0 n c) a))), some (.int (nI a)), some (.int (nI 1)), some (.int (bI (nuB 0 n c a = true)))]) (st' := []) d_251_135 (fun _ => rfl) ?_
              refine rr_nx (pc' := 138) (al' := [some (.ref 146), none, some (.int (nI 0)), some (.int (nI (setN (nuF 0 n c) a))), some (.int (nI a)), some (.int (nI 1)), some (.int (bI (nuB 0 n c a = true)))]) (st' := [.int (nI (setN (nuF 0 n c) a))]) d_251_137 (fun _ => rfl) ?_
              refine rr_nx (pc' := 140) (al' := [some (.ref 146), none, some (.int (nI 0)), some (.int (nI (setN (nuF 0 n c) a))), some (.int (nI a)), some (.int (nI 1)), some (.int (bI (nuB 0 n c a = true)))]) (st' := [.int (bI (nuB 0 n c a = true)), .int (nI (setN (nuF 0 n c) a))]) d_251_138 (fun _ => rfl) ?_
              refine rr_beq (t := 150) d_251_140 (by decide) (fun c140 => ?_) (fun c140 => ?_)
              · refine rn_ic (v := 0) d_251_150 (by decide) ?_
                refine rn_or d_251_151 ?_
                refine rr_nx (pc' := 153) (al' := [some (.ref 146), none, some (.int (nI 0)), some (.int (nI ((setN (nuF 0 n c) a) ||| 0))), some (.int (nI a)), some (.int (nI 1)), some (.int (bI (nuB 0 n c a = true)))]) (st' := []) d_251_152 (fun _ => rfl) ?_
                refine rn_inc d_251_153 rfl rfl ?_
                show RR _ _ 156 [some (.ref 146), none, some (.int (nI 0)), some (.int (nI ((setN (nuF 0 n c) a) ||| 0))), some (.int (nI (a + 1))), some (.int (nI 1)), some (.int (bI (nuB 0 n c a = true)))] [] g A _
                refine rr_nx (pc' := 29) (al' := [some (.ref 146), none, some (.int (nI 0)), some (.int (nI ((setN (nuF 0 n c) a) ||| 0))), some (.int (nI (a + 1))), some (.int (nI 1)), some (.int (bI (nuB 0 n c a = true)))]) (st' := []) d_251_156 (fun _ => rfl) ?_
                refine rr_al (congrArg (fun z__ : Nat => ([some (.ref 146), none, some (.int (nI 0)), some (.int (nI z__)), some (.int (nI (a + 1))), some (.int (nI 1)), some (.int (bI (nuB 0 n c a = true)))] : AL)) (show (setN (nuF 0 n c) a) ||| 0 = setN (nuF 0 n c) (a + 1) by first | contradiction | (rw [setN, setN, ORs_s]; congr 1; simp only [nuF]; simp [*]))) ?_
                refine rr_dr (al1 := [some (.ref 146), none, some (.int (nI 0)), some (.int (nI (setN (nuF 0 n c) (a + 1)))), some (.int (nI (a + 1))), none, none]) (le_s (le_s (le_s (le_s (le_s (le_d rfl (le_d rfl (le_n)))))))) ?_
                exact iha  (trivial)
              · refine rn_ic (v := 1) d_251_143 (by decide) ?_
                refine rr_nx (pc' := 146) (al' := [some (.ref 146), none, some (.int (nI 0)), some (.int (nI (setN (nuF 0 n c) a))), some (.int (nI a)), some (.int (nI 1)), some (.int (bI (nuB 0 n c a = true)))]) (st' := [.int (nI a), .int (nI 1), .int (nI (setN (nuF 0 n c) a))]) d_251_144 (fun _ => rfl) ?_
                refine rn_shl d_251_146 (by first | omega | assumption | exact cu_36 (by omega) (cu_lt (by omega) (by omega))) ?_
                refine rr_nx (pc' := 151) (al' := [some (.ref 146), none, some (.int (nI 0)), some (.int (nI (setN (nuF 0 n c) a))), some (.int (nI a)), some (.int (nI 1)), some (.int (bI (nuB 0 n c a = true)))]) (st' := [.int (nI (1 * 2 ^ a)), .int (nI (setN (nuF 0 n c) a))]) d_251_147 (fun _ => rfl) ?_
                refine rn_or d_251_151 ?_
                refine rr_nx (pc' := 153) (al' := [some (.ref 146), none, some (.int (nI 0)), some (.int (nI ((setN (nuF 0 n c) a) ||| (1 * 2 ^ a)))), some (.int (nI a)), some (.int (nI 1)), some (.int (bI (nuB 0 n c a = true)))]) (st' := []) d_251_152 (fun _ => rfl) ?_
                refine rn_inc d_251_153 rfl rfl ?_
                show RR _ _ 156 [some (.ref 146), none, some (.int (nI 0)), some (.int (nI ((setN (nuF 0 n c) a) ||| (1 * 2 ^ a)))), some (.int (nI (a + 1))), some (.int (nI 1)), some (.int (bI (nuB 0 n c a = true)))] [] g A _
                refine rr_nx (pc' := 29) (al' := [some (.ref 146), none, some (.int (nI 0)), some (.int (nI ((setN (nuF 0 n c) a) ||| (1 * 2 ^ a)))), some (.int (nI (a + 1))), some (.int (nI 1)), some (.int (bI (nuB 0 n c a = true)))]) (st' := []) d_251_156 (fun _ => rfl) ?_
                refine rr_al (congrArg (fun z__ : Nat => ([some (.ref 146), none, some (.int (nI 0)), some (.int (nI z__)), some (.int (nI (a + 1))), some (.int (nI 1)), some (.int (bI (nuB 0 n c a = true)))] : AL)) (show (setN (nuF 0 n c) a) ||| (1 * 2 ^ a) = setN (nuF 0 n c) (a + 1) by first | contradiction | (rw [setN, setN, ORs_s]; congr 1; simp only [nuF]; simp [*]))) ?_
                refine rr_dr (al1 := [some (.ref 146), none, some (.int (nI 0)), some (.int (nI (setN (nuF 0 n c) (a + 1)))), some (.int (nI (a + 1))), none, none]) (le_s (le_s (le_s (le_s (le_s (le_d rfl (le_d rfl (le_n)))))))) ?_
                exact iha  (trivial)
  · show RR _ _ 29 [some (.ref 146), none, some (.int (nI 0)), some (.int (nI (setN (nuF 0 n c) n))), some (.int (nI n)), none, none] [] g A _
    refine rr_nx (pc' := 31) (al' := [some (.ref 146), none, some (.int (nI 0)), some (.int (nI (setN (nuF 0 n c) n))), some (.int (nI n)), none, none]) (st' := [.int (nI n)]) d_251_29 (fun _ => rfl) ?_
    refine rr_nx (pc' := 32) (al' := [some (.ref 146), none, some (.int (nI 0)), some (.int (nI (setN (nuF 0 n c) n))), some (.int (nI n)), none, none]) (st' := [.ref 146, .int (nI n)]) d_251_31 (fun _ => rfl) ?_
    refine rr_gn d_251_32 mo_251 fl_127 rfl hc.1 ?_
    refine rn_cge (t := 159) d_251_35 (by decide) (by first | omega | assumption | exact cu_36 (by omega) (cu_lt (by omega) (by omega))) (by first | omega | assumption | exact cu_36 (by omega) (cu_lt (by omega) (by omega))) (fun c35 => ?_) (fun c35 => ?_)
    · refine rr_nx (pc' := 160) (al' := [some (.ref 146), none, some (.int (nI 0)), some (.int (nI (setN (nuF 0 n c) n))), some (.int (nI n)), none, none]) (st' := [.int (nI (setN (nuF 0 n c) n))]) d_251_159 (fun _ => rfl) ?_
      exact rr_ri d_251_160 mr_251 rfl ⟨rfl, rfl, rfl⟩
    · omega
theorem s_nucleus1_24 {g : Nat → Int32} {A : Nat → Nat → Int32} {n : Nat} {c : Nat → Nat} (hc : Cur g A n c) : RR 2 251 24 [some (.ref 146), none, some (.int (nI 1)), none, none, none, none] [] g A (rP (some (.int (nI (nuV 1 n c)))) g A) := by
  have hn6 := hc.2.1
  refine rn_ic (v := 0) d_251_24 (by decide) ?_
  refine rr_nx (pc' := 26) (al' := [some (.ref 146), none, some (.int (nI 1)), some (.int (nI 0)), none, none, none]) (st' := []) d_251_25 (fun _ => rfl) ?_
  refine rn_ic (v := 0) d_251_26 (by decide) ?_
  refine rr_nx (pc' := 29) (al' := [some (.ref 146), none, some (.int (nI 1)), some (.int (nI 0)), some (.int (nI 0)), none, none]) (st' := []) d_251_27 (fun _ => rfl) ?_
  refine rr_al (congrArg (fun z__ : Nat => ([some (.ref 146), none, some (.int (nI 1)), some (.int (nI z__)), some (.int (nI 0)), none, none] : AL)) (show 0 = setN (nuF 1 n c) 0 by first | rfl | omega | (simp only [SM_s]; omega) | (simp [SM_s, *]; done) | (simp [SM_s, *]; omega))) ?_
  refine rr_up (al := fun a => [some (.ref 146), none, some (.int (nI 1)), some (.int (nI (setN (nuF 1 n c) a))), some (.int (nI a)), none, none]) (G := fun a => g) (B := fun a => A) (P := fun a => True) (n := n) (fun a ha pa iha => ?_) (fun pa => ?_) 0  (by omega) (trivial)
  · show RR _ _ 29 [some (.ref 146), none, some (.int (nI 1)), some (.int (nI (setN (nuF 1 n c) a))), some (.int (nI a)), none, none] [] g A _
    refine rr_nx (pc' := 31) (al' := [some (.ref 146), none, some (.int (nI 1)), some (.int (nI (setN (nuF 1 n c) a))), some (.int (nI a)), none, none]) (st' := [.int (nI a)]) d_251_29 (fun _ => rfl) ?_
    refine rr_nx (pc' := 32) (al' := [some (.ref 146), none, some (.int (nI 1)), some (.int (nI (setN (nuF 1 n c) a))), some (.int (nI a)), none, none]) (st' := [.ref 146, .int (nI a)]) d_251_31 (fun _ => rfl) ?_
    refine rr_gn d_251_32 mo_251 fl_127 rfl hc.1 ?_
    refine rn_cge (t := 159) d_251_35 (by decide) (by first | omega | assumption | exact cu_36 (by omega) (cu_lt (by omega) (by omega))) (by first | omega | assumption | exact cu_36 (by omega) (cu_lt (by omega) (by omega))) (fun c35 => ?_) (fun c35 => ?_)
    · omega
    · refine rr_nx (pc' := 39) (al' := [some (.ref 146), none, some (.int (nI 1)), some (.int (nI (setN (nuF 1 n c) a))), some (.int (nI a)), none, none]) (st' := [.ref 146]) d_251_38 (fun _ => rfl) ?_
      refine rr_nx (pc' := 41) (al' := [some (.ref 146), none, some (.int (nI 1)), some (.int (nI (setN (nuF 1 n c) a))), some (.int (nI a)), none, none]) (st' := [.int (nI a), .ref 146]) d_251_39 (fun _ => rfl) ?_
      refine rn_ic (v := 0) d_251_41 (by decide) ?_
      refine rr_pv (as := [.int (nI a), .int (nI 0)]) (al0 := [some (.ref 146), some (.int (nI a)), some (.int (nI 0)), none, none, none, none]) (r := []) d_251_42 mo_251 ml_298 mz_252 rfl rfl rfl (Nat.le_of_ble_eq_true rfl) (s_isNuclear0 hc (by omega)) ?_
      show RR _ _ 45 [some (.ref 146), none, some (.int (nI 1)), some (.int (nI (setN (nuF 1 n c) a))), some (.int (nI a)), none, none] [.int (bI (nuB 0 n c a = true))] g A _
      refine rr_beq (t := 72) d_251_45 (by decide) (fun c45 => ?_) (fun c45 => ?_)
      · refine rn_ic (v := 0) d_251_72 (by decide) ?_
        refine rr_nx (pc' := 75) (al' := [some (.ref 146), none, some (.int (nI 1)), some (.int (nI (setN (nuF 1 n c) a))), some (.int (nI a)), some (.int (nI 0)), none]) (st' := []) d_251_73 (fun _ => rfl) ?_
        refine rr_nx (pc' := 76) (al' := [some (.ref 146), none, some (.int (nI 1)), some (.int (nI (setN (nuF 1 n c) a))), some (.int (nI a)), some (.int (nI 0)), none]) (st' := [.int (nI 1)]) d_251_75 (fun _ => rfl) ?_
        refine rn_ic (v := 3) d_251_76 (by decide) ?_
        refine rn_cge (t := 90) d_251_77 (by decide) (by first | omega | assumption | exact cu_36 (by omega) (cu_lt (by omega) (by omega))) (by first | omega | assumption | exact cu_36 (by omega) (cu_lt (by omega) (by omega))) (fun c77 => ?_) (fun c77 => ?_)
        · omega
        · refine rr_nx (pc' := 81) (al' := [some (.ref 146), none, some (.int (nI 1)), some (.int (nI (setN (nuF 1 n c) a))), some (.int (nI a)), some (.int (nI 0)), none]) (st' := [.ref 146]) d_251_80 (fun _ => rfl) ?_
          refine rr_nx (pc' := 83) (al' := [some (.ref 146), none, some (.int (nI 1)), some (.int (nI (setN (nuF 1 n c) a))), some (.int (nI a)), some (.int (nI 0)), none]) (st' := [.int (nI a), .ref 146]) d_251_81 (fun _ => rfl) ?_
          refine rr_nx (pc' := 84) (al' := [some (.ref 146), none, some (.int (nI 1)), some (.int (nI (setN (nuF 1 n c) a))), some (.int (nI a)), some (.int (nI 0)), none]) (st' := [.int (nI 1), .int (nI a), .ref 146]) d_251_83 (fun _ => rfl) ?_
          refine rr_pv (as := [.int (nI a), .int (nI 1)]) (al0 := [some (.ref 146), some (.int (nI a)), some (.int (nI 1)), none, none, none, none]) (r := []) d_251_84 mo_251 ml_298 mz_252 rfl rfl rfl (Nat.le_of_ble_eq_true rfl) (s_isNuclear1 hc (by omega)) ?_
          show RR _ _ 87 [some (.ref 146), none, some (.int (nI 1)), some (.int (nI (setN (nuF 1 n c) a))), some (.int (nI a)), some (.int (nI 0)), none] [.int (bI (nuB 1 n c a = true))] g A _
          refine rr_nx (pc' := 135) (al' := [some (.ref 146), none, some (.int (nI 1)), some (.int (nI (setN (nuF 1 n c) a))), some (.int (nI a)), some (.int (nI 0)), none]) (st' := [.int (bI (nuB 1 n c a = true))]) d_251_87 (fun _ => rfl) ?_
          refine rr_nx (pc' := 137) (al' := [some (.ref 146), none, some (.int (nI 1)), some (.int (nI (setN (nuF 1 n c) a))), some (.int (nI a)), some (.int (nI 0)), some (.int (bI (nuB 1 n c a = true)))]) (st' := []) d_251_135 (fun _ => rfl) ?_
          refine rr_nx (pc' := 138) (al' := [some (.ref 146), none, some (.int (nI 1)), some (.int (nI (setN (nuF 1 n c) a))), some (.int (nI a)), some (.int (nI 0)), some (.int (bI (nuB 1 n c a = true)))]) (st' := [.int (nI (setN (nuF 1 n c) a))]) d_251_137 (fun _ => rfl) ?_
          refine rr_nx (pc' := 140) (al' := [some (.ref 146), none, some (.int (nI 1)), some (.int (nI (setN (nuF 1 n c) a))), some (.int (nI a)), some (.int (nI 0)), some (.int (bI (nuB 1 n c a = true)))]) (st' := [.int (bI (nuB 1 n c a = true)), .int (nI (setN (nuF 1 n c) a))]) d_251_138 (fun _ => rfl) ?_
          refine rr_beq (t := 150) d_251_140 (by decide) (fun c140 => ?_) (fun c140 => ?_)
          · refine rn_ic (v := 0) d_251_150 (by decide) ?_
            refine rn_or d_251_151 ?_
            refine rr_nx (pc' := 153) (al' := [some (.ref 146), none, some (.int (nI 1)), some (.int (nI ((setN (nuF 1 n c) a) ||| 0))), some (.int (nI a)), some (.int (nI 0)), some (.int (bI (nuB 1 n c a = true)))]) (st' := []) d_251_152 (fun _ => rfl) ?_
            refine rn_inc d_251_153 rfl rfl ?_
            show RR _ _ 156 [some (.ref 146), none, some (.int (nI 1)), some (.int (nI ((setN (nuF 1 n c) a) ||| 0))), some (.int (nI (a + 1))), some (.int (nI 0)), some (.int (bI (nuB 1 n c a = true)))] [] g A _
            refine rr_nx (pc' := 29) (al' := [some (.ref 146), none, some (.int (nI 1)), some (.int (nI ((setN (nuF 1 n c) a) ||| 0))), some (.int (nI (a + 1))), some (.int (nI 0)), some (.int (bI (nuB 1 n c a = true)))]) (st' := []) d_251_156 (fun _ => rfl) ?_
            refine rr_al (congrArg (fun z__ : Nat => ([some (.ref 146), none, some (.int (nI 1)), some (.int (nI z__)), some (.int (nI (a + 1))), some (.int (nI 0)), some (.int (bI (nuB 1 n c a = true)))] : AL)) (show (setN (nuF 1 n c) a) ||| 0 = setN (nuF 1 n c) (a + 1) by first | contradiction | (rw [setN, setN, ORs_s]; congr 1; simp only [nuF]; simp [*]))) ?_
            refine rr_dr (al1 := [some (.ref 146), none, some (.int (nI 1)), some (.int (nI (setN (nuF 1 n c) (a + 1)))), some (.int (nI (a + 1))), none, none]) (le_s (le_s (le_s (le_s (le_s (le_d rfl (le_d rfl (le_n)))))))) ?_
            exact iha  (trivial)
          · refine rn_ic (v := 1) d_251_143 (by decide) ?_
            refine rr_nx (pc' := 146) (al' := [some (.ref 146), none, some (.int (nI 1)), some (.int (nI (setN (nuF 1 n c) a))), some (.int (nI a)), some (.int (nI 0)), some (.int (bI (nuB 1 n c a = true)))]) (st' := [.int (nI a), .int (nI 1), .int (nI (setN (nuF 1 n c) a))]) d_251_144 (fun _ => rfl) ?_
            refine rn_shl d_251_146 (by first | omega | assumption | exact cu_36 (by omega) (cu_lt (by omega) (by omega))) ?_
            refine rr_nx (pc' := 151) (al' := [some (.ref 146), none, some (.int (nI 1)), some (.int (nI (setN (nuF 1 n c) a))), some (.int (nI a)), some (.int (nI 0)), some (.int (bI (nuB 1 n c a = true)))]) (st' := [.int (nI (1 * 2 ^ a)), .int (nI (setN (nuF 1 n c) a))]) d_251_147 (fun _ => rfl) ?_
            refine rn_or d_251_151 ?_
            refine rr_nx (pc' := 153) (al' := [some (.ref 146), none, some (.int (nI 1)), some (.int (nI ((setN (nuF 1 n c) a) ||| (1 * 2 ^ a)))), some (.int (nI a)), some (.int (nI 0)), some (.int (bI (nuB 1 n c a = true)))]) (st' := []) d_251_152 (fun _ => rfl) ?_
            refine rn_inc d_251_153 rfl rfl ?_
            show RR _ _ 156 [some (.ref 146), none, some (.int (nI 1)), some (.int (nI ((setN (nuF 1 n c) a) ||| (1 * 2 ^ a)))), some (.int (nI (a + 1))), some (.int (nI 0)), some (.int (bI (nuB 1 n c a = true)))] [] g A _
            refine rr_nx (pc' := 29) (al' := [some (.ref 146), none, some (.int (nI 1)), some (.int (nI ((setN (nuF 1 n c) a) ||| (1 * 2 ^ a)))), some (.int (nI (a + 1))), some (.int (nI 0)), some (.int (bI (nuB 1 n c a = true)))]) (st' := []) d_251_156 (fun _ => rfl) ?_
            refine rr_al (congrArg (fun z__ : Nat => ([some (.ref 146), none, some (.int (nI 1)), some (.int (nI z__)), some (.int (nI (a + 1))), some (.int (nI 0)), some (.int (bI (nuB 1 n c a = true)))] : AL)) (show (setN (nuF 1 n c) a) ||| (1 * 2 ^ a) = setN (nuF 1 n c) (a + 1) by first | contradiction | (rw [setN, setN, ORs_s]; congr 1; simp only [nuF]; simp [*]))) ?_
            refine rr_dr (al1 := [some (.ref 146), none, some (.int (nI 1)), some (.int (nI (setN (nuF 1 n c) (a + 1)))), some (.int (nI (a + 1))), none, none]) (le_s (le_s (le_s (le_s (le_s (le_d rfl (le_d rfl (le_n)))))))) ?_
            exact iha  (trivial)
      · refine rr_nx (pc' := 49) (al' := [some (.ref 146), none, some (.int (nI 1)), some (.int (nI (setN (nuF 1 n c) a))), some (.int (nI a)), none, none]) (st' := [.ref 146]) d_251_48 (fun _ => rfl) ?_
        refine rr_nx (pc' := 51) (al' := [some (.ref 146), none, some (.int (nI 1)), some (.int (nI (setN (nuF 1 n c) a))), some (.int (nI a)), none, none]) (st' := [.int (nI a), .ref 146]) d_251_49 (fun _ => rfl) ?_
        refine rn_ic (v := 1) d_251_51 (by decide) ?_
        refine rr_pv (as := [.int (nI a), .int (nI 1)]) (al0 := [some (.ref 146), some (.int (nI a)), some (.int (nI 1)), none, none, none, none]) (r := []) d_251_52 mo_251 ml_298 mz_252 rfl rfl rfl (Nat.le_of_ble_eq_true rfl) (s_isNuclear1 hc (by omega)) ?_
        show RR _ _ 55 [some (.ref 146), none, some (.int (nI 1)), some (.int (nI (setN (nuF 1 n c) a))), some (.int (nI a)), none, none] [.int (bI (nuB 1 n c a = true))] g A _
        refine rr_beq (t := 72) d_251_55 (by decide) (fun c55 => ?_) (fun c55 => ?_)
        · refine rn_ic (v := 0) d_251_72 (by decide) ?_
          refine rr_nx (pc' := 75) (al' := [some (.ref 146), none, some (.int (nI 1)), some (.int (nI (setN (nuF 1 n c) a))), some (.int (nI a)), some (.int (nI 0)), none]) (st' := []) d_251_73 (fun _ => rfl) ?_
          refine rr_nx (pc' := 76) (al' := [some (.ref 146), none, some (.int (nI 1)), some (.int (nI (setN (nuF 1 n c) a))), some (.int (nI a)), some (.int (nI 0)), none]) (st' := [.int (nI 1)]) d_251_75 (fun _ => rfl) ?_
          refine rn_ic (v := 3) d_251_76 (by decide) ?_
          refine rn_cge (t := 90) d_251_77 (by decide) (by first | omega | assumption | exact cu_36 (by omega) (cu_lt (by omega) (by omega))) (by first | omega | assumption | exact cu_36 (by omega) (cu_lt (by omega) (by omega))) (fun c77 => ?_) (fun c77 => ?_)
          · omega
          · refine rr_nx (pc' := 81) (al' := [some (.ref 146), none, some (.int (nI 1)), some (.int (nI (setN (nuF 1 n c) a))), some (.int (nI a)), some (.int (nI 0)), none]) (st' := [.ref 146]) d_251_80 (fun _ => rfl) ?_
            refine rr_nx (pc' := 83) (al' := [some (.ref 146), none, some (.int (nI 1)), some (.int (nI (setN (nuF 1 n c) a))), some (.int (nI a)), some (.int (nI 0)), none]) (st' := [.int (nI a), .ref 146]) d_251_81 (fun _ => rfl) ?_
            refine rr_nx (pc' := 84) (al' := [some (.ref 146), none, some (.int (nI 1)), some (.int (nI (setN (nuF 1 n c) a))), some (.int (nI a)), some (.int (nI 0)), none]) (st' := [.int (nI 1), .int (nI a), .ref 146]) d_251_83 (fun _ => rfl) ?_
            refine rr_pv (as := [.int (nI a), .int (nI 1)]) (al0 := [some (.ref 146), some (.int (nI a)), some (.int (nI 1)), none, none, none, none]) (r := []) d_251_84 mo_251 ml_298 mz_252 rfl rfl rfl (Nat.le_of_ble_eq_true rfl) (s_isNuclear1 hc (by omega)) ?_
            show RR _ _ 87 [some (.ref 146), none, some (.int (nI 1)), some (.int (nI (setN (nuF 1 n c) a))), some (.int (nI a)), some (.int (nI 0)), none] [.int (bI (nuB 1 n c a = true))] g A _
            refine rr_nx (pc' := 135) (al' := [some (.ref 146), none, some (.int (nI 1)), some (.int (nI (setN (nuF 1 n c) a))), some (.int (nI a)), some (.int (nI 0)), none]) (st' := [.int (bI (nuB 1 n c a = true))]) d_251_87 (fun _ => rfl) ?_
            refine rr_nx (pc' := 137) (al' := [some (.ref 146), none, some (.int (nI 1)), some (.int (nI (setN (nuF 1 n c) a))), some (.int (nI a)), some (.int (nI 0)), some (.int (bI (nuB 1 n c a = true)))]) (st' := []) d_251_135 (fun _ => rfl) ?_
            refine rr_nx (pc' := 138) (al' := [some (.ref 146), none, some (.int (nI 1)), some (.int (nI (setN (nuF 1 n c) a))), some (.int (nI a)), some (.int (nI 0)), some (.int (bI (nuB 1 n c a = true)))]) (st' := [.int (nI (setN (nuF 1 n c) a))]) d_251_137 (fun _ => rfl) ?_
            refine rr_nx (pc' := 140) (al' := [some (.ref 146), none, some (.int (nI 1)), some (.int (nI (setN (nuF 1 n c) a))), some (.int (nI a)), some (.int (nI 0)), some (.int (bI (nuB 1 n c a = true)))]) (st' := [.int (bI (nuB 1 n c a = true)), .int (nI (setN (nuF 1 n c) a))]) d_251_138 (fun _ => rfl) ?_
            refine rr_beq (t := 150) d_251_140 (by decide) (fun c140 => ?_) (fun c140 => ?_)
            · refine rn_ic (v := 0) d_251_150 (by decide) ?_
              refine rn_or d_251_151 ?_
              refine rr_nx (pc' := 153) (al' := [some (.ref 146), none, some (.int (nI 1)), some (.int (nI ((setN (nuF 1 n c) a) ||| 0))), some (.int (nI a)), some (.int (nI 0)), some (.int (bI (nuB 1 n c a = true)))]) (st' := []) d_251_152 (fun _ => rfl) ?_
              refine rn_inc d_251_153 rfl rfl ?_
              show RR _ _ 156 [some (.ref 146), none, some (.int (nI 1)), some (.int (nI ((setN (nuF 1 n c) a) ||| 0))), some (.int (nI (a + 1))), some (.int (nI 0)), some (.int (bI (nuB 1 n c a = true)))] [] g A _
              refine rr_nx (pc' := 29) (al' := [some (.ref 146), none, some (.int (nI 1)), some (.int (nI ((setN (nuF 1 n c) a) ||| 0))), some (.int (nI (a + 1))), some (.int (nI 0)), some (.int (bI (nuB 1 n c a = true)))]) (st' := []) d_251_156 (fun _ => rfl) ?_
              refine rr_al (congrArg (fun z__ : Nat => ([some (.ref 146), none, some (.int (nI 1)), some (.int (nI z__)), some (.int (nI (a + 1))), some (.int (nI 0)), some (.int (bI (nuB 1 n c a = true)))] : AL)) (show (setN (nuF 1 n c) a) ||| 0 = setN (nuF 1 n c) (a + 1) by first | contradiction | (rw [setN, setN, ORs_s]; congr 1; simp only [nuF]; simp [*]))) ?_
              refine rr_dr (al1 := [some (.ref 146), none, some (.int (nI 1)), some (.int (nI (setN (nuF 1 n c) (a + 1)))), some (.int (nI (a + 1))), none, none]) (le_s (le_s (le_s (le_s (le_s (le_d rfl (le_d rfl (le_n)))))))) ?_
              exact iha  (trivial)
            · refine rn_ic (v := 1) d_251_143 (by decide) ?_
              refine rr_nx (pc' := 146) (al' := [some (.ref 146), none, some (.int (nI 1)), some (.int (nI (setN (nuF 1 n c) a))), some (.int (nI a)), some (.int (nI 0)), some (.int (bI (nuB 1 n c a = true)))]) (st' := [.int (nI a), .int (nI 1), .int (nI (setN (nuF 1 n c) a))]) d_251_144 (fun _ => rfl) ?_
              refine rn_shl d_251_146 (by first | omega | assumption | exact cu_36 (by omega) (cu_lt (by omega) (by omega))) ?_
              refine rr_nx (pc' := 151) (al' := [some (.ref 146), none, some (.int (nI 1)), some (.int (nI (setN (nuF 1 n c) a))), some (.int (nI a)), some (.int (nI 0)), some (.int (bI (nuB 1 n c a = true)))]) (st' := [.int (nI (1 * 2 ^ a)), .int (nI (setN (nuF 1 n c) a))]) d_251_147 (fun _ => rfl) ?_
              refine rn_or d_251_151 ?_
              refine rr_nx (pc' := 153) (al' := [some (.ref 146), none, some (.int (nI 1)), some (.int (nI ((setN (nuF 1 n c) a) ||| (1 * 2 ^ a)))), some (.int (nI a)), some (.int (nI 0)), some (.int (bI (nuB 1 n c a = true)))]) (st' := []) d_251_152 (fun _ => rfl) ?_
              refine rn_inc d_251_153 rfl rfl ?_
              show RR _ _ 156 [some (.ref 146), none, some (.int (nI 1)), some (.int (nI ((setN (nuF 1 n c) a) ||| (1 * 2 ^ a)))), some (.int (nI (a + 1))), some (.int (nI 0)), some (.int (bI (nuB 1 n c a = true)))] [] g A _
              refine rr_nx (pc' := 29) (al' := [some (.ref 146), none, some (.int (nI 1)), some (.int (nI ((setN (nuF 1 n c) a) ||| (1 * 2 ^ a)))), some (.int (nI (a + 1))), some (.int (nI 0)), some (.int (bI (nuB 1 n c a = true)))]) (st' := []) d_251_156 (fun _ => rfl) ?_
              refine rr_al (congrArg (fun z__ : Nat => ([some (.ref 146), none, some (.int (nI 1)), some (.int (nI z__)), some (.int (nI (a + 1))), some (.int (nI 0)), some (.int (bI (nuB 1 n c a = true)))] : AL)) (show (setN (nuF 1 n c) a) ||| (1 * 2 ^ a) = setN (nuF 1 n c) (a + 1) by first | contradiction | (rw [setN, setN, ORs_s]; congr 1; simp only [nuF]; simp [*]))) ?_
              refine rr_dr (al1 := [some (.ref 146), none, some (.int (nI 1)), some (.int (nI (setN (nuF 1 n c) (a + 1)))), some (.int (nI (a + 1))), none, none]) (le_s (le_s (le_s (le_s (le_s (le_d rfl (le_d rfl (le_n)))))))) ?_
              exact iha  (trivial)
        · refine rr_nx (pc' := 59) (al' := [some (.ref 146), none, some (.int (nI 1)), some (.int (nI (setN (nuF 1 n c) a))), some (.int (nI a)), none, none]) (st' := [.ref 146]) d_251_58 (fun _ => rfl) ?_
          refine rr_nx (pc' := 61) (al' := [some (.ref 146), none, some (.int (nI 1)), some (.int (nI (setN (nuF 1 n c) a))), some (.int (nI a)), none, none]) (st' := [.int (nI a), .ref 146]) d_251_59 (fun _ => rfl) ?_
          refine rn_ic (v := 2) d_251_61 (by decide) ?_
          refine rr_pv (as := [.int (nI a), .int (nI 2)]) (al0 := [some (.ref 146), some (.int (nI a)), some (.int (nI 2)), none, none, none, none]) (r := []) d_251_62 mo_251 ml_298 mz_252 rfl rfl rfl (Nat.le_of_ble_eq_true rfl) (s_isNuclear2 hc (by omega)) ?_
          show RR _ _ 65 [some (.ref 146), none, some (.int (nI 1)), some (.int (nI (setN (nuF 1 n c) a))), some (.int (nI a)), none, none] [.int (bI (nuB 2 n c a = true))] g A _
          refine rr_beq (t := 72) d_251_65 (by decide) (fun c65 => ?_) (fun c65 => ?_)
          · refine rn_ic (v := 0) d_251_72 (by decide) ?_
            refine rr_nx (pc' := 75) (al' := [some (.ref 146), none, some (.int (nI 1)), some (.int (nI (setN (nuF 1 n c) a))), some (.int (nI a)), some (.int (nI 0)), none]) (st' := []) d_251_73 (fun _ => rfl) ?_
            refine rr_nx (pc' := 76) (al' := [some (.ref 146), none, some (.int (nI 1)), some (.int (nI (setN (nuF 1 n c) a))), some (.int (nI a)), some (.int (nI 0)), none]) (st' := [.int (nI 1)]) d_251_75 (fun _ => rfl) ?_
            refine rn_ic (v := 3) d_251_76 (by decide) ?_
            refine rn_cge (t := 90) d_251_77 (by decide) (by first | omega | assumption | exact cu_36 (by omega) (cu_lt (by omega) (by omega))) (by first | omega | assumption | exact cu_36 (by omega) (cu_lt (by omega) (by omega))) (fun c77 => ?_) (fun c77 => ?_)
            · omega
            · refine rr_nx (pc' := 81) (al' := [some (.ref 146), none, some (.int (nI 1)), some (.int (nI (setN (nuF 1 n c) a))), some (.int (nI a)), some (.int (nI 0)), none]) (st' := [.ref 146]) d_251_80 (fun _ => rfl) ?_
              refine rr_nx (pc' := 83) (al' := [some (.ref 146), none, some (.int (nI 1)), some (.int (nI (setN (nuF 1 n c) a))), some (.int (nI a)), some (.int (nI 0)), none]) (st' := [.int (nI a), .ref 146]) d_251_81 (fun _ => rfl) ?_
              refine rr_nx (pc' := 84) (al' := [some (.ref 146), none, some (.int (nI 1)), some (.int (nI (setN (nuF 1 n c) a))), some (.int (nI a)), some (.int (nI 0)), none]) (st' := [.int (nI 1), .int (nI a), .ref 146]) d_251_83 (fun _ => rfl) ?_
              refine rr_pv (as := [.int (nI a), .int (nI 1)]) (al0 := [some (.ref 146), some (.int (nI a)), some (.int (nI 1)), none, none, none, none]) (r := []) d_251_84 mo_251 ml_298 mz_252 rfl rfl rfl (Nat.le_of_ble_eq_true rfl) (s_isNuclear1 hc (by omega)) ?_
              show RR _ _ 87 [some (.ref 146), none, some (.int (nI 1)), some (.int (nI (setN (nuF 1 n c) a))), some (.int (nI a)), some (.int (nI 0)), none] [.int (bI (nuB 1 n c a = true))] g A _
              refine rr_nx (pc' := 135) (al' := [some (.ref 146), none, some (.int (nI 1)), some (.int (nI (setN (nuF 1 n c) a))), some (.int (nI a)), some (.int (nI 0)), none]) (st' := [.int (bI (nuB 1 n c a = true))]) d_251_87 (fun _ => rfl) ?_
              refine rr_nx (pc' := 137) (al' := [some (.ref 146), none, some (.int (nI 1)), some (.int (nI (setN (nuF 1 n c) a))), some (.int (nI a)), some (.int (nI 0)), some (.int (bI (nuB 1 n c a = true)))]) (st' := []) d_251_135 (fun _ => rfl) ?_
              refine rr_nx (pc' := 138) (al' := [some (.ref 146), none, some (.int (nI 1)), some (.int (nI (setN (nuF 1 n c) a))), some (.int (nI a)), some (.int (nI 0)), some (.int (bI (nuB 1 n c a = true)))]) (st' := [.int (nI (setN (nuF 1 n c) a))]) d_251_137 (fun _ => rfl) ?_
              refine rr_nx (pc' := 140) (al' := [some (.ref 146), none, some (.int (nI 1)), some (.int (nI (setN (nuF 1 n c) a))), some (.int (nI a)), some (.int (nI 0)), some (.int (bI (nuB 1 n c a = true)))]) (st' := [.int (bI (nuB 1 n c a = true)), .int (nI (setN (nuF 1 n c) a))]) d_251_138 (fun _ => rfl) ?_
              refine rr_beq (t := 150) d_251_140 (by decide) (fun c140 => ?_) (fun c140 => ?_)
              · refine rn_ic (v := 0) d_251_150 (by decide) ?_
                refine rn_or d_251_151 ?_
                refine rr_nx (pc' := 153) (al' := [some (.ref 146), none, some (.int (nI 1)), some (.int (nI ((setN (nuF 1 n c) a) ||| 0))), some (.int (nI a)), some (.int (nI 0)), some (.int (bI (nuB 1 n c a = true)))]) (st' := []) d_251_152 (fun _ => rfl) ?_
                refine rn_inc d_251_153 rfl rfl ?_
                show RR _ _ 156 [some (.ref 146), none, some (.int (nI 1)), some (.int (nI ((setN (nuF 1 n c) a) ||| 0))), some (.int (nI (a + 1))), some (.int (nI 0)), some (.int (bI (nuB 1 n c a = true)))] [] g A _
                refine rr_nx (pc' := 29) (al' := [some (.ref 146), none, some (.int (nI 1)), some (.int (nI ((setN (nuF 1 n c) a) ||| 0))), some (.int (nI (a + 1))), some (.int (nI 0)), some (.int (bI (nuB 1 n c a = true)))]) (st' := []) d_251_156 (fun _ => rfl) ?_
                refine rr_al (congrArg (fun z__ : Nat => ([some (.ref 146), none, some (.int (nI 1)), some (.int (nI z__)), some (.int (nI (a + 1))), some (.int (nI 0)), some (.int (bI (nuB 1 n c a = true)))] : AL)) (show (setN (nuF 1 n c) a) ||| 0 = setN (nuF 1 n c) (a + 1) by first | contradiction | (rw [setN, setN, ORs_s]; congr 1; simp only [nuF]; simp [*]))) ?_
                refine rr_dr (al1 := [some (.ref 146), none, some (.int (nI 1)), some (.int (nI (setN (nuF 1 n c) (a + 1)))), some (.int (nI (a + 1))), none, none]) (le_s (le_s (le_s (le_s (le_s (le_d rfl (le_d rfl (le_n)))))))) ?_
                exact iha  (trivial)
              · refine rn_ic (v := 1) d_251_143 (by decide) ?_
                refine rr_nx (pc' := 146) (al' := [some (.ref 146), none, some (.int (nI 1)), some (.int (nI (setN (nuF 1 n c) a))), some (.int (nI a)), some (.int (nI 0)), some (.int (bI (nuB 1 n c a = true)))]) (st' := [.int (nI a), .int (nI 1), .int (nI (setN (nuF 1 n c) a))]) d_251_144 (fun _ => rfl) ?_
                refine rn_shl d_251_146 (by first | omega | assumption | exact cu_36 (by omega) (cu_lt (by omega) (by omega))) ?_
                refine rr_nx (pc' := 151) (al' := [some (.ref 146), none, some (.int (nI 1)), some (.int (nI (setN (nuF 1 n c) a))), some (.int (nI a)), some (.int (nI 0)), some (.int (bI (nuB 1 n c a = true)))]) (st' := [.int (nI (1 * 2 ^ a)), .int (nI (setN (nuF 1 n c) a))]) d_251_147 (fun _ => rfl) ?_
                refine rn_or d_251_151 ?_
                refine rr_nx (pc' := 153) (al' := [some (.ref 146), none, some (.int (nI 1)), some (.int (nI ((setN (nuF 1 n c) a) ||| (1 * 2 ^ a)))), some (.int (nI a)), some (.int (nI 0)), some (.int (bI (nuB 1 n c a = true)))]) (st' := []) d_251_152 (fun _ => rfl) ?_
                refine rn_inc d_251_153 rfl rfl ?_
                show RR _ _ 156 [some (.ref 146), none, some (.int (nI 1)), some (.int (nI ((setN (nuF 1 n c) a) ||| (1 * 2 ^ a)))), some (.int (nI (a + 1))), some (.int (nI 0)), some (.int (bI (nuB 1 n c a = true)))] [] g A _
                refine rr_nx (pc' := 29) (al' := [some (.ref 146), none, some (.int (nI 1)), some (.int (nI ((setN (nuF 1 n c) a) ||| (1 * 2 ^ a)))), some (.int (nI (a + 1))), some (.int (nI 0)), some (.int (bI (nuB 1 n c a = true)))]) (st' := []) d_251_156 (fun _ => rfl) ?_
                refine rr_al (congrArg (fun z__ : Nat => ([some (.ref 146), none, some (.int (nI 1)), some (.int (nI z__)), some (.int (nI (a + 1))), some (.int (nI 0)), some (.int (bI (nuB 1 n c a = true)))] : AL)) (show (setN (nuF 1 n c) a) ||| (1 * 2 ^ a) = setN (nuF 1 n c) (a + 1) by first | contradiction | (rw [setN, setN, ORs_s]; congr 1; simp only [nuF]; simp [*]))) ?_
                refine rr_dr (al1 := [some (.ref 146), none, some (.int (nI 1)), some (.int (nI (setN (nuF 1 n c) (a + 1)))), some (.int (nI (a + 1))), none, none]) (le_s (le_s (le_s (le_s (le_s (le_d rfl (le_d rfl (le_n)))))))) ?_
                exact iha  (trivial)
          · refine rn_ic (v := 1) d_251_68 (by decide) ?_
            refine rr_nx (pc' := 73) (al' := [some (.ref 146), none, some (.int (nI 1)), some (.int (nI (setN (nuF 1 n c) a))), some (.int (nI a)), none, none]) (st' := [.int (nI 1)]) d_251_69 (fun _ => rfl) ?_
            refine rr_nx (pc' := 75) (al' := [some (.ref 146), none, some (.int (nI 1)), some (.int (nI (setN (nuF 1 n c) a))), some (.int (nI a)), some (.int (nI 1)), none]) (st' := []) d_251_73 (fun _ => rfl) ?_
            refine rr_nx (pc' := 76) (al' := [some (.ref 146), none, some (.int (nI 1)), some (.int (nI (setN (nuF 1 n c) a))), some (.int (nI a)), some (.int (nI 1)), none]) (st' := [.int (nI 1)]) d_251_75 (fun _ => rfl) ?_
            refine rn_ic (v := 3) d_251_76 (by decide) ?_
            refine rn_cge (t := 90) d_251_77 (by decide) (by first | omega | assumption | exact cu_36 (by omega) (cu_lt (by omega) (by omega))) (by first | omega | assumption | exact cu_36 (by omega) (cu_lt (by omega) (by omega))) (fun c77 => ?_) (fun c77 => ?_)
            · omega
            · refine rr_nx (pc' := 81) (al' := [some (.ref 146), none, some (.int (nI 1)), some (.int (nI (setN (nuF 1 n c) a))), some (.int (nI a)), some (.int (nI 1)), none]) (st' := [.ref 146]) d_251_80 (fun _ => rfl) ?_
              refine rr_nx (pc' := 83) (al' := [some (.ref 146), none, some (.int (nI 1)), some (.int (nI (setN (nuF 1 n c) a))), some (.int (nI a)), some (.int (nI 1)), none]) (st' := [.int (nI a), .ref 146]) d_251_81 (fun _ => rfl) ?_
              refine rr_nx (pc' := 84) (al' := [some (.ref 146), none, some (.int (nI 1)), some (.int (nI (setN (nuF 1 n c) a))), some (.int (nI a)), some (.int (nI 1)), none]) (st' := [.int (nI 1), .int (nI a), .ref 146]) d_251_83 (fun _ => rfl) ?_
              refine rr_pv (as := [.int (nI a), .int (nI 1)]) (al0 := [some (.ref 146), some (.int (nI a)), some (.int (nI 1)), none, none, none, none]) (r := []) d_251_84 mo_251 ml_298 mz_252 rfl rfl rfl (Nat.le_of_ble_eq_true rfl) (s_isNuclear1 hc (by omega)) ?_
              show RR _ _ 87 [some (.ref 146), none, some (.int (nI 1)), some (.int (nI (setN (nuF 1 n c) a))), some (.int (nI a)), some (.int (nI 1)), none] [.int (bI (nuB 1 n c a = true))] g A _
              refine rr_nx (pc' := 135) (al' := [some (.ref 146), none, some (.int (nI 1)), some (.int (nI (setN (nuF 1 n c) a))), some (.int (nI a)), some (.int (nI 1)), none]) (st' := [.int (bI (nuB 1 n c a = true))]) d_251_87 (fun _ => rfl) ?_
              refine rr_nx (pc' := 137) (al' := [some (.ref 146), none, some (.int (nI 1)), some (.int (nI (setN (nuF 1 n c) a))), some (.int (nI a)), some (.int (nI 1)), some (.int (bI (nuB 1 n c a = true)))]) (st' := []) d_251_135 (fun _ => rfl) ?_
              refine rr_nx (pc' := 138) (al' := [some (.ref 146), none, some (.int (nI 1)), some (.int (nI (setN (nuF 1 n c) a))), some (.int (nI a)), some (.int (nI 1)), some (.int (bI (nuB 1 n c a = true)))]) (st' := [.int (nI (setN (nuF 1 n c) a))]) d_251_137 (fun _ => rfl) ?_
              refine rr_nx (pc' := 140) (al' := [some (.ref 146), none, some (.int (nI 1)), some (.int (nI (setN (nuF 1 n c) a))), some (.int (nI a)), some (.int (nI 1)), some (.int (bI (nuB 1 n c a = true)))]) (st' := [.int (bI (nuB 1 n c a = true)), .int (nI (setN (nuF 1 n c) a))]) d_251_138 (fun _ => rfl) ?_
              refine rr_beq (t := 150) d_251_140 (by decide) (fun c140 => ?_) (fun c140 => ?_)
              · refine rn_ic (v := 0) d_251_150 (by decide) ?_
                refine rn_or d_251_151 ?_
                refine rr_nx (pc' := 153) (al' := [some (.ref 146), none, some (.int (nI 1)), some (.int (nI ((setN (nuF 1 n c) a) ||| 0))), some (.int (nI a)), some (.int (nI 1)), some (.int (bI (nuB 1 n c a = true)))]) (st' := []) d_251_152 (fun _ => rfl) ?_
                refine rn_inc d_251_153 rfl rfl ?_
                show RR _ _ 156 [some (.ref 146), none, some (.int (nI 1)), some (.int (nI ((setN (nuF 1 n c) a) ||| 0))), some (.int (nI (a + 1))), some (.int (nI 1)), some (.int (bI (nuB 1 n c a = true)))] [] g A _
                refine rr_nx (pc' := 29) (al' := [some (.ref 146), none, some (.int (nI 1)), some (.int (nI ((setN (nuF 1 n c) a) ||| 0))), some (.int (nI (a + 1))), some (.int (nI 1)), some (.int (bI (nuB 1 n c a = true)))]) (st' := []) d_251_156 (fun _ => rfl) ?_
                refine rr_al (congrArg (fun z__ : Nat => ([some (.ref 146), none, some (.int (nI 1)), some (.int (nI z__)), some (.int (nI (a + 1))), some (.int (nI 1)), some (.int (bI (nuB 1 n c a = true)))] : AL)) (show (setN (nuF 1 n c) a) ||| 0 = setN (nuF 1 n c) (a + 1) by first | contradiction | (rw [setN, setN, ORs_s]; congr 1; simp only [nuF]; simp [*]))) ?_
                refine rr_dr (al1 := [some (.ref 146), none, some (.int (nI 1)), some (.int (nI (setN (nuF 1 n c) (a + 1)))), some (.int (nI (a + 1))), none, none]) (le_s (le_s (le_s (le_s (le_s (le_d rfl (le_d rfl (le_n)))))))) ?_
                exact iha  (trivial)
              · refine rn_ic (v := 1) d_251_143 (by decide) ?_
                refine rr_nx (pc' := 146) (al' := [some (.ref 146), none, some (.int (nI 1)), some (.int (nI (setN (nuF 1 n c) a))), some (.int (nI a)), some (.int (nI 1)), some (.int (bI (nuB 1 n c a = true)))]) (st' := [.int (nI a), .int (nI 1), .int (nI (setN (nuF 1 n c) a))]) d_251_144 (fun _ => rfl) ?_
                refine rn_shl d_251_146 (by first | omega | assumption | exact cu_36 (by omega) (cu_lt (by omega) (by omega))) ?_
                refine rr_nx (pc' := 151) (al' := [some (.ref 146), none, some (.int (nI 1)), some (.int (nI (setN (nuF 1 n c) a))), some (.int (nI a)), some (.int (nI 1)), some (.int (bI (nuB 1 n c a = true)))]) (st' := [.int (nI (1 * 2 ^ a)), .int (nI (setN (nuF 1 n c) a))]) d_251_147 (fun _ => rfl) ?_
                refine rn_or d_251_151 ?_
                refine rr_nx (pc' := 153) (al' := [some (.ref 146), none, some (.int (nI 1)), some (.int (nI ((setN (nuF 1 n c) a) ||| (1 * 2 ^ a)))), some (.int (nI a)), some (.int (nI 1)), some (.int (bI (nuB 1 n c a = true)))]) (st' := []) d_251_152 (fun _ => rfl) ?_
                refine rn_inc d_251_153 rfl rfl ?_
                show RR _ _ 156 [some (.ref 146), none, some (.int (nI 1)), some (.int (nI ((setN (nuF 1 n c) a) ||| (1 * 2 ^ a)))), some (.int (nI (a + 1))), some (.int (nI 1)), some (.int (bI (nuB 1 n c a = true)))] [] g A _
                refine rr_nx (pc' := 29) (al' := [some (.ref 146), none, some (.int (nI 1)), some (.int (nI ((setN (nuF 1 n c) a) ||| (1 * 2 ^ a)))), some (.int (nI (a + 1))), some (.int (nI 1)), some (.int (bI (nuB 1 n c a = true)))]) (st' := []) d_251_156 (fun _ => rfl) ?_
                refine rr_al (congrArg (fun z__ : Nat => ([some (.ref 146), none, some (.int (nI 1)), some (.int (nI z__)), some (.int (nI (a + 1))), some (.int (nI 1)), some (.int (bI (nuB 1 n c a = true)))] : AL)) (show (setN (nuF 1 n c) a) ||| (1 * 2 ^ a) = setN (nuF 1 n c) (a + 1) by first | contradiction | (rw [setN, setN, ORs_s]; congr 1; simp only [nuF]; simp [*]))) ?_
                refine rr_dr (al1 := [some (.ref 146), none, some (.int (nI 1)), some (.int (nI (setN (nuF 1 n c) (a + 1)))), some (.int (nI (a + 1))), none, none]) (le_s (le_s (le_s (le_s (le_s (le_d rfl (le_d rfl (le_n)))))))) ?_
                exact iha  (trivial)
  · show RR _ _ 29 [some (.ref 146), none, some (.int (nI 1)), some (.int (nI (setN (nuF 1 n c) n))), some (.int (nI n)), none, none] [] g A _
    refine rr_nx (pc' := 31) (al' := [some (.ref 146), none, some (.int (nI 1)), some (.int (nI (setN (nuF 1 n c) n))), some (.int (nI n)), none, none]) (st' := [.int (nI n)]) d_251_29 (fun _ => rfl) ?_
    refine rr_nx (pc' := 32) (al' := [some (.ref 146), none, some (.int (nI 1)), some (.int (nI (setN (nuF 1 n c) n))), some (.int (nI n)), none, none]) (st' := [.ref 146, .int (nI n)]) d_251_31 (fun _ => rfl) ?_
    refine rr_gn d_251_32 mo_251 fl_127 rfl hc.1 ?_
    refine rn_cge (t := 159) d_251_35 (by decide) (by first | omega | assumption | exact cu_36 (by omega) (cu_lt (by omega) (by omega))) (by first | omega | assumption | exact cu_36 (by omega) (cu_lt (by omega) (by omega))) (fun c35 => ?_) (fun c35 => ?_)
    · refine rr_nx (pc' := 160) (al' := [some (.ref 146), none, some (.int (nI 1)), some (.int (nI (setN (nuF 1 n c) n))), some (.int (nI n)), none, none]) (st' := [.int (nI (setN (nuF 1 n c) n))]) d_251_159 (fun _ => rfl) ?_
      exact rr_ri d_251_160 mr_251 rfl ⟨rfl, rfl, rfl⟩
    · omega
theorem s_nucleus2_24 {g : Nat → Int32} {A : Nat → Nat → Int32} {n : Nat} {c : Nat → Nat} (hc : Cur g A n c) : RR 2 251 24 [some (.ref 146), none, some (.int (nI 2)), none, none, none, none] [] g A (rP (some (.int (nI (nuV 2 n c)))) g A) := by
  have hn6 := hc.2.1
  refine rn_ic (v := 0) d_251_24 (by decide) ?_
  refine rr_nx (pc' := 26) (al' := [some (.ref 146), none, some (.int (nI 2)), some (.int (nI 0)), none, none, none]) (st' := []) d_251_25 (fun _ => rfl) ?_
  refine rn_ic (v := 0) d_251_26 (by decide) ?_
  refine rr_nx (pc' := 29) (al' := [some (.ref 146), none, some (.int (nI 2)), some (.int (nI 0)), some (.int (nI 0)), none, none]) (st' := []) d_251_27 (fun _ => rfl) ?_
  refine rr_al (congrArg (fun z__ : Nat => ([some (.ref 146), none, some (.int (nI 2)), some (.int (nI z__)), some (.int (nI 0)), none, none] : AL)) (show 0 = setN (nuF 2 n c) 0 by first | rfl | omega | (simp only [SM_s]; omega) | (simp [SM_s, *]; done) | (simp [SM_s, *]; omega))) ?_
  refine rr_up (al := fun a => [some (.ref 146), none, some (.int (nI 2)), some (.int (nI (setN (nuF 2 n c) a))), some (.int (nI a)), none, none]) (G := fun a => g) (B := fun a => A) (P := fun a => True) (n := n) (fun a ha pa iha => ?_) (fun pa => ?_) 0  (by omega) (trivial)
  · show RR _ _ 29 [some (.ref 146), none, some (.int (nI 2)), some (.int (nI (setN (nuF 2 n c) a))), some (.int (nI a)), none, none] [] g A _
    refine rr_nx (pc' := 31) (al' := [some (.ref 146), none, some (.int (nI 2)), some (.int (nI (setN (nuF 2 n c) a))), some (.int (nI a)), none, none]) (st' := [.int (nI a)]) d_251_29 (fun _ => rfl) ?_
    refine rr_nx (pc' := 32) (al' := [some (.ref 146), none, some (.int (nI 2)), some (.int (nI (setN (nuF 2 n c) a))), some (.int (nI a)), none, none]) (st' := [.ref 146, .int (nI a)]) d_251_31 (fun _ => rfl) ?_
    refine rr_gn d_251_32 mo_251 fl_127 rfl hc.1 ?_
    refine rn_cge (t := 159) d_251_35 (by decide) (by first | omega | assumption | exact cu_36 (by omega) (cu_lt (by omega) (by omega))) (by first | omega | assumption | exact cu_36 (by omega) (cu_lt (by omega) (by omega))) (fun c35 => ?_) (fun c35 => ?_)
    · omega
    · refine rr_nx (pc' := 39) (al' := [some (.ref 146), none, some (.int (nI 2)), some (.int (nI (setN (nuF 2 n c) a))), some (.int (nI a)), none, none]) (st' := [.ref 146]) d_251_38 (fun _ => rfl) ?_
      refine rr_nx (pc' := 41) (al' := [some (.ref 146), none, some (.int (nI 2)), some (.int (nI (setN (nuF 2 n c) a))), some (.int (nI a)), none, none]) (st' := [.int (nI a), .ref 146]) d_251_39 (fun _ => rfl) ?_
      refine rn_ic (v := 0) d_251_41 (by decide) ?_
      refine rr_pv (as := [.int (nI a), .int (nI 0)]) (al0 := [some (.ref 146), some (.int (nI a)), some (.int (nI 0)), none, none, none, none]) (r := []) d_251_42 mo_251 ml_298 mz_252 rfl rfl rfl (Nat.le_of_ble_eq_true rfl) (s_isNuclear0 hc (by omega)) ?_
      show RR _ _ 45 [some (.ref 146), none, some (.int (nI 2)), some (.int (nI (setN (nuF 2 n c) a))), some (.int (nI a)), none, none] [.int (bI (nuB 0 n c a = true))] g A _
      refine rr_beq (t := 72) d_251_45 (by decide) (fun c45 => ?_) (fun c45 => ?_)
      · refine rn_ic (v := 0) d_251_72 (by decide) ?_
        refine rr_nx (pc' := 75) (al' := [some (.ref 146), none, some (.int (nI 2)), some (.int (nI (setN (nuF 2 n c) a))), some (.int (nI a)), some (.int (nI 0)), none]) (st' := []) d_251_73 (fun _ => rfl) ?_
        refine rr_nx (pc' := 76) (al' := [some (.ref 146), none, some (.int (nI 2)), some (.int (nI (setN (nuF 2 n c) a))), some (.int (nI a)), some (.int (nI 0)), none]) (st' := [.int (nI 2)]) d_251_75 (fun _ => rfl) ?_
        refine rn_ic (v := 3) d_251_76 (by decide) ?_
        refine rn_cge (t := 90) d_251_77 (by decide) (by first | omega | assumption | exact cu_36 (by omega) (cu_lt (by omega) (by omega))) (by first | omega | assumption | exact cu_36 (by omega) (cu_lt (by omega) (by omega))) (fun c77 => ?_) (fun c77 => ?_)
        · omega
        · refine rr_nx (pc' := 81) (al' := [some (.ref 146), none, some (.int (nI 2)), some (.int (nI (setN (nuF 2 n c) a))), some (.int (nI a)), some (.int (nI 0)), none]) (st' := [.ref 146]) d_251_80 (fun _ => rfl) ?_
          refine rr_nx (pc' := 83) (al' := [some (.ref 146), none, some (.int (nI 2)), some (.int (nI (setN (nuF 2 n c) a))), some (.int (nI a)), some (.int (nI 0)), none]) (st' := [.int (nI a), .ref 146]) d_251_81 (fun _ => rfl) ?_
          refine rr_nx (pc' := 84) (al' := [some (.ref 146), none, some (.int (nI 2)), some (.int (nI (setN (nuF 2 n c) a))), some (.int (nI a)), some (.int (nI 0)), none]) (st' := [.int (nI 2), .int (nI a), .ref 146]) d_251_83 (fun _ => rfl) ?_
          refine rr_pv (as := [.int (nI a), .int (nI 2)]) (al0 := [some (.ref 146), some (.int (nI a)), some (.int (nI 2)), none, none, none, none]) (r := []) d_251_84 mo_251 ml_298 mz_252 rfl rfl rfl (Nat.le_of_ble_eq_true rfl) (s_isNuclear2 hc (by omega)) ?_
          show RR _ _ 87 [some (.ref 146), none, some (.int (nI 2)), some (.int (nI (setN (nuF 2 n c) a))), some (.int (nI a)), some (.int (nI 0)), none] [.int (bI (nuB 2 n c a = true))] g A _
          refine rr_nx (pc' := 135) (al' := [some (.ref 146), none, some (.int (nI 2)), some (.int (nI (setN (nuF 2 n c) a))), some (.int (nI a)), some (.int (nI 0)), none]) (st' := [.int (bI (nuB 2 n c a = true))]) d_251_87 (fun _ => rfl) ?_
          refine rr_nx (pc' := 137) (al' := [some (.ref 146), none, some (.int (nI 2)), some (.int (nI (setN (nuF 2 n c) a))), some (.int (nI a)), some (.int (nI 0)), some (.int (bI (nuB 2 n c a = true)))]) (st' := []) d_251_135 (fun _ => rfl) ?_
          refine rr_nx (pc' := 138) (al' := [some (.ref 146), none, some (.int (nI 2)), some (.int (nI (setN (nuF 2 n c) a))), some (.int (nI a)), some (.int (nI 0)), some (.int (bI (nuB 2 n c a = true)))]) (st' := [.int (nI (setN (nuF 2 n c) a))]) d_251_137 (fun _ => rfl) ?_
          refine rr_nx (pc' := 140) (al' := [some (.ref 146), none, some (.int (nI 2)), some (.int (nI (setN (nuF 2 n c) a))), some (.int (nI a)), some (.int (nI 0)), some (.int (bI (nuB 2 n c a = true)))]) (st' := [.int (bI (nuB 2 n c a = true)), .int (nI (setN (nuF 2 n c) a))]) d_251_138 (fun _ => rfl) ?_
          refine rr_beq (t := 150) d_251_140 (by decide) (fun c140 => ?_) (fun c140 => ?_)
          · refine rn_ic (v := 0) d_251_150 (by decide) ?_
            refine rn_or d_251_151 ?_
            refine rr_nx (pc' := 153) (al' := [some (.ref 146), none, some (.int (nI 2)), some (.int (nI ((setN (nuF 2 n c) a) ||| 0))), some (.int (nI a)), some (.int (nI 0)), some (.int (bI (nuB 2 n c a = true)))]) (st' := []) d_251_152 (fun _ => rfl) ?_
            refine rn_inc d_251_153 rfl rfl ?_
            show RR _ _ 156 [some (.ref 146), none, some (.int (nI 2)), some (.int (nI ((setN (nuF 2 n c) a) ||| 0))), some (.int (nI (a + 1))), some (.int (nI 0)), some (.int (bI (nuB 2 n c a = true)))] [] g A _
            refine rr_nx (pc' := 29) (al' := [some (.ref 146), none, some (.int (nI 2)), some (.int (nI ((setN (nuF 2 n c) a) ||| 0))), some (.int (nI (a + 1))), some (.int (nI 0)), some (.int (bI (nuB 2 n c a = true)))]) (st' := []) d_251_156 (fun _ => rfl) ?_
            refine rr_al (congrArg (fun z__ : Nat => ([some (.ref 146), none, some (.int (nI 2)), some (.int (nI z__)), some (.int (nI (a + 1))), some (.int (nI 0)), some (.int (bI (nuB 2 n c a = true)))] : AL)) (show (setN (nuF 2 n c) a) ||| 0 = setN (nuF 2 n c) (a + 1) by first | contradiction | (rw [setN, setN, ORs_s]; congr 1; simp only [nuF]; simp [*]))) ?_
            refine rr_dr (al1 := [some (.ref 146), none, some (.int (nI 2)), some (.int (nI (setN (nuF 2 n c) (a + 1)))), some (.int (nI (a + 1))), none, none]) (le_s (le_s (le_s (le_s (le_s (le_d rfl (le_d rfl (le_n)))))))) ?_
            exact iha  (trivial)
          · refine rn_ic (v := 1) d_251_143 (by decide) ?_
            refine rr_nx (pc' := 146) (al' := [some (.ref 146), none, some (.int (nI 2)), some (.int (nI (setN (nuF 2 n c) a))), some (.int (nI a)), some (.int (nI 0)), some (.int (bI (nuB 2 n c a = true)))]) (st' := [.int (nI a), .int (nI 1), .int (nI (setN (nuF 2 n c) a))]) d_251_144 (fun _ => rfl) ?_
            refine rn_shl d_251_146 (by first | omega | assumption | exact cu_36 (by omega) (cu_lt (by omega) (by omega))) ?_
            refine rr_nx (pc' := 151) (al' := [some (.ref 146), none, some (.int (nI 2)), some (.int (nI (setN (nuF 2 n c) a))), some (.int (nI a)), some (.int (nI 0)), some (.int (bI (nuB 2 n c a = true)))]) (st' := [.int (nI (1 * 2 ^ a)), .int (nI (setN (nuF 2 n c) a))]) d_251_147 (fun _ => rfl) ?_
            refine rn_or d_251_151 ?_
            refine rr_nx (pc' := 153) (al' := [some (.ref 146), none, some (.int (nI 2)), some (.int (nI ((setN (nuF 2 n c) a) ||| (1 * 2 ^ a)))), some (.int (nI a)), some (.int (nI 0)), some (.int (bI (nuB 2 n c a = true)))]) (st' := []) d_251_152 (fun _ => rfl) ?_
            refine rn_inc d_251_153 rfl rfl ?_
            show RR _ _ 156 [some (.ref 146), none, some (.int (nI 2)), some (.int (nI ((setN (nuF 2 n c) a) ||| (1 * 2 ^ a)))), some (.int (nI (a + 1))), some (.int (nI 0)), some (.int (bI (nuB 2 n c a = true)))] [] g A _
            refine rr_nx (pc' := 29) (al' := [some (.ref 146), none, some (.int (nI 2)), some (.int (nI ((setN (nuF 2 n c) a) ||| (1 * 2 ^ a)))), some (.int (nI (a + 1))), some (.int (nI 0)), some (.int (bI (nuB 2 n c a = true)))]) (st' := []) d_251_156 (fun _ => rfl) ?_
            refine rr_al (congrArg (fun z__ : Nat => ([some (.ref 146), none, some (.int (nI 2)), some (.int (nI z__)), some (.int (nI (a + 1))), some (.int (nI 0)), some (.int (bI (nuB 2 n c a = true)))] : AL)) (show (setN (nuF 2 n c) a) ||| (1 * 2 ^ a) = setN (nuF 2 n c) (a + 1) by first | contradiction | (rw [setN, setN, ORs_s]; congr 1; simp only [nuF]; simp [*]))) ?_
            refine rr_dr (al1 := [some (.ref 146), none, some (.int (nI 2)), some (.int (nI (setN (nuF 2 n c) (a + 1)))), some (.int (nI (a + 1))), none, none]) (le_s (le_s (le_s (le_s (le_s (le_d rfl (le_d rfl (le_n)))))))) ?_
            exact iha  (trivial)
      · refine rr_nx (pc' := 49) (al' := [some (.ref 146), none, some (.int (nI 2)), some (.int (nI (setN (nuF 2 n c) a))), some (.int (nI a)), none, none]) (st' := [.ref 146]) d_251_48 (fun _ => rfl) ?_
        refine rr_nx (pc' := 51) (al' := [some (.ref 146), none, some (.int (nI 2)), some (.int (nI (setN (nuF 2 n c) a))), some (.int (nI a)), none, none]) (st' := [.int (nI a), .ref 146]) d_251_49 (fun _ => rfl) ?_
        refine rn_ic (v := 1) d_251_51 (by decide) ?_
        refine rr_pv (as := [.int (nI a), .int (nI 1)]) (al0 := [some (.ref 146), some (.int (nI a)), some (.int (nI 1)), none, none, none, none]) (r := []) d_251_52 mo_251 ml_298 mz_252 rfl rfl rfl (Nat.le_of_ble_eq_true rfl) (s_isNuclear1 hc (by omega)) ?_
        show RR _ _ 55 [some (.ref 146), none, some (.int (nI 2)), some (.int (nI (setN (nuF 2 n c) a))), some (.int (nI a)), none, none] [.int (bI (nuB 1 n c a = true))] g A _
        refine rr_beq (t := 72) d_251_55 (by decide) (fun c55 => ?_) (fun c55 => ?_)
        · refine rn_ic (v := 0) d_251_72 (by decide) ?_
          refine rr_nx (pc' := 75) (al' := [some (.ref 146), none, some (.int (nI 2)), some (.int (nI (setN (nuF 2 n c) a))), some (.int (nI a)), some (.int (nI 0)), none]) (st' := []) d_251_73 (fun _ => rfl) ?_
          refine rr_nx (pc' := 76) (al' := [some (.ref 146), none, some (.int (nI 2)), some (.int (nI (setN (nuF 2 n c) a))), some (.int (nI a)), some (.int (nI 0)), none]) (st' := [.int (nI 2)]) d_251_75 (fun _ => rfl) ?_
          refine rn_ic (v := 3) d_251_76 (by decide) ?_
          refine rn_cge (t := 90) d_251_77 (by decide) (by first | omega | assumption | exact cu_36 (by omega) (cu_lt (by omega) (by omega))) (by first | omega | assumption | exact cu_36 (by omega) (cu_lt (by omega) (by omega))) (fun c77 => ?_) (fun c77 => ?_)
          · omega
          · refine rr_nx (pc' := 81) (al' := [some (.ref 146), none, some (.int (nI 2)), some (.int (nI (setN (nuF 2 n c) a))), some (.int (nI a)), some (.int (nI 0)), none]) (st' := [.ref 146]) d_251_80 (fun _ => rfl) ?_
            refine rr_nx (pc' := 83) (al' := [some (.ref 146), none, some (.int (nI 2)), some (.int (nI (setN (nuF 2 n c) a))), some (.int (nI a)), some (.int (nI 0)), none]) (st' := [.int (nI a), .ref 146]) d_251_81 (fun _ => rfl) ?_
            refine rr_nx (pc' := 84) (al' := [some (.ref 146), none, some (.int (nI 2)), some (.int (nI (setN (nuF 2 n c) a))), some (.int (nI a)), some (.int (nI 0)), none]) (st' := [.int (nI 2), .int (nI a), .ref 146]) d_251_83 (fun _ => rfl) ?_
            refine rr_pv (as := [.int (nI a), .int (nI 2)]) (al0 := [some (.ref 146), some (.int (nI a)), some (.int (nI 2)), none, none, none, none]) (r := []) d_251_84 mo_251 ml_298 mz_252 rfl rfl rfl (Nat.le_of_ble_eq_true rfl) (s_isNuclear2 hc (by omega)) ?_
            show RR _ _ 87 [some (.ref 146), none, some (.int (nI 2)), some (.int (nI (setN (nuF 2 n c) a))), some (.int (nI a)), some (.int (nI 0)), none] [.int (bI (nuB 2 n c a = true))] g A _
            refine rr_nx (pc' := 135) (al' := [some (.ref 146), none, some (.int (nI 2)), some (.int (nI (setN (nuF 2 n c) a))), some (.int (nI a)), some (.int (nI 0)), none]) (st' := [.int (bI (nuB 2 n c a = true))]) d_251_87 (fun _ => rfl) ?_
            refine rr_nx (pc' := 137) (al' := [some (.ref 146), none, some (.int (nI 2)), some (.int (nI (setN (nuF 2 n c) a))), some (.int (nI a)), some (.int (nI 0)), some (.int (bI (nuB 2 n c a = true)))]) (st' := []) d_251_135 (fun _ => rfl) ?_
            refine rr_nx (pc' := 138) (al' := [some (.ref 146), none, some (.int (nI 2)), some (.int (nI (setN (nuF 2 n c) a))), some (.int (nI a)), some (.int (nI 0)), some (.int (bI (nuB 2 n c a = true)))]) (st' := [.int (nI (setN (nuF 2 n c) a))]) d_251_137 (fun _ => rfl) ?_
            refine rr_nx (pc' := 140) (al' := [some (.ref 146), none, some (.int (nI 2)), some (.int (nI (setN (nuF 2 n c) a))), some (.int (nI a)), some (.int (nI 0)), some (.int (bI (nuB 2 n c a = true)))]) (st' := [.int (bI (nuB 2 n c a = true)), .int (nI (setN (nuF 2 n c) a))]) d_251_138 (fun _ => rfl) ?_
            refine rr_beq (t := 150) d_251_140 (by decide) (fun c140 => ?_) (fun c140 => ?_)
            · refine rn_ic (v := 0) d_251_150 (by decide) ?_
              refine rn_or d_251_151 ?_
              refine rr_nx (pc' := 153) (al' := [some (.ref 146), none, some (.int (nI 2)), some (.int (nI ((setN (nuF 2 n c) a) ||| 0))), some (.int (nI a)), some (.int (nI 0)), some (.int (bI (nuB 2 n c a = true)))]) (st' := []) d_251_152 (fun _ => rfl) ?_
              refine rn_inc d_251_153 rfl rfl ?_
              show RR _ _ 156 [some (.ref 146), none, some (.int (nI 2)), some (.int (nI ((setN (nuF 2 n c) a) ||| 0))), some (.int (nI (a + 1))), some (.int (nI 0)), some (.int (bI (nuB 2 n c a = true)))] [] g A _
              refine rr_nx (pc' := 29) (al' := [some (.ref 146), none, some (.int (nI 2)), some (.int (nI ((setN (nuF 2 n c) a) ||| 0))), some (.int (nI (a + 1))), some (.int (nI 0)), some (.int (bI (nuB 2 n c a = true)))]) (st' := []) d_251_156 (fun _ => rfl) ?_
              refine rr_al (congrArg (fun z__ : Nat => ([some (.ref 146), none, some (.int (nI 2)), some (.int (nI z__)), some (.int (nI (a + 1))), some (.int (nI 0)), some (.int (bI (nuB 2 n c a = true)))] : AL)) (show (setN (nuF 2 n c) a) ||| 0 = setN (nuF 2 n c) (a + 1) by first | contradiction | (rw [setN, setN, ORs_s]; congr 1; simp only [nuF]; simp [*]))) ?_
              refine rr_dr (al1 := [some (.ref 146), none, some (.int (nI 2)), some (.int (nI (setN (nuF 2 n c) (a + 1)))), some (.int (nI (a + 1))), none, none]) (le_s (le_s (le_s (le_s (le_s (le_d rfl (le_d rfl (le_n)))))))) ?_
              exact iha  (trivial)
            · refine rn_ic (v := 1) d_251_143 (by decide) ?_
              refine rr_nx (pc' := 146) (al' := [some (.ref 146), none, some (.int (nI 2)), some (.int (nI (setN (nuF 2 n c) a))), some (.int (nI a)), some (.int (nI 0)), some (.int (bI (nuB 2 n c a = true)))]) (st' := [.int (nI a), .int (nI 1), .int (nI (setN (nuF 2 n c) a))]) d_251_144 (fun _ => rfl) ?_
              refine rn_shl d_251_146 (by first | omega | assumption | exact cu_36 (by omega) (cu_lt (by omega) (by omega))) ?_
              refine rr_nx (pc' := 151) (al' := [some (.ref 146), none, some (.int (nI 2)), some (.int (nI (setN (nuF 2 n c) a))), some (.int (nI a)), some (.int (nI 0)), some (.int (bI (nuB 2 n c a = true)))]) (st' := [.int (nI (1 * 2 ^ a)), .int (nI (setN (nuF 2 n c) a))]) d_251_147 (fun _ => rfl) ?_
              refine rn_or d_251_151 ?_
              refine rr_nx (pc' := 153) (al' := [some (.ref 146), none, some (.int (nI 2)), some (.int (nI ((setN (nuF 2 n c) a) ||| (1 * 2 ^ a)))), some (.int (nI a)), some (.int (nI 0)), some (.int (bI (nuB 2 n c a = true)))]) (st' := []) d_251_152 (fun _ => rfl) ?_
              refine rn_inc d_251_153 rfl rfl ?_
              show RR _ _ 156 [some (.ref 146), none, some (.int (nI 2)), some (.int (nI ((setN (nuF 2 n c) a) ||| (1 * 2 ^ a)))), some (.int (nI (a + 1))), some (.int (nI 0)), some (.int (bI (nuB 2 n c a = true)))] [] g A _
              refine rr_nx (pc' := 29) (al' := [some (.ref 146), none, some (.int (nI 2)), some (.int (nI ((setN (nuF 2 n c) a) ||| (1 * 2 ^ a)))), some (.int (nI (a + 1))), some (.int (nI 0)), some (.int (bI (nuB 2 n c a = true)))]) (st' := []) d_251_156 (fun _ => rfl) ?_
              refine rr_al (congrArg (fun z__ : Nat => ([some (.ref 146), none, some (.int (nI 2)), some (.int (nI z__)), some (.int (nI (a + 1))), some (.int (nI 0)), some (.int (bI (nuB 2 n c a = true)))] : AL)) (show (setN (nuF 2 n c) a) ||| (1 * 2 ^ a) = setN (nuF 2 n c) (a + 1) by first | contradiction | (rw [setN, setN, ORs_s]; congr 1; simp only [nuF]; simp [*]))) ?_
              refine rr_dr (al1 := [some (.ref 146), none, some (.int (nI 2)), some (.int (nI (setN (nuF 2 n c) (a + 1)))), some (.int (nI (a + 1))), none, none]) (le_s (le_s (le_s (le_s (le_s (le_d rfl (le_d rfl (le_n)))))))) ?_
              exact iha  (trivial)
        · refine rr_nx (pc' := 59) (al' := [some (.ref 146), none, some (.int (nI 2)), some (.int (nI (setN (nuF 2 n c) a))), some (.int (nI a)), none, none]) (st' := [.ref 146]) d_251_58 (fun _ => rfl) ?_
          refine rr_nx (pc' := 61) (al' := [some (.ref 146), none, some (.int (nI 2)), some (.int (nI (setN (nuF 2 n c) a))), some (.int (nI a)), none, none]) (st' := [.int (nI a), .ref 146]) d_251_59 (fun _ => rfl) ?_
          refine rn_ic (v := 2) d_251_61 (by decide) ?_
          refine rr_pv (as := [.int (nI a), .int (nI 2)]) (al0 := [some (.ref 146), some (.int (nI a)), some (.int (nI 2)), none, none, none, none]) (r := []) d_251_62 mo_251 ml_298 mz_252 rfl rfl rfl (Nat.le_of_ble_eq_true rfl) (s_isNuclear2 hc (by omega)) ?_
          show RR _ _ 65 [some (.ref 146), none, some (.int (nI 2)), some (.int (nI (setN (nuF 2 n c) a))), some (.int (nI a)), none, none] [.int (bI (nuB 2 n c a = true))] g A _
          refine rr_beq (t := 72) d_251_65 (by decide) (fun c65 => ?_) (fun c65 => ?_)
          · refine rn_ic (v := 0) d_251_72 (by decide) ?_
            refine rr_nx (pc' := 75) (al' := [some (.ref 146), none, some (.int (nI 2)), some (.int (nI (setN (nuF 2 n c) a))), some (.int (nI a)), some (.int (nI 0)), none]) (st' := []) d_251_73 (fun _ => rfl) ?_
            refine rr_nx (pc' := 76) (al' := [some (.ref 146), none, some (.int (nI 2)), some (.int (nI (setN (nuF 2 n c) a))), some (.int (nI a)), some (.int (nI 0)), none]) (st' := [.int (nI 2)]) d_251_75 (fun _ => rfl) ?_
            refine rn_ic (v := 3) d_251_76 (by decide) ?_
            refine rn_cge (t := 90) d_251_77 (by decide) (by first | omega | assumption | exact cu_36 (by omega) (cu_lt (by omega) (by omega))) (by first | omega | assumption | exact cu_36 (by omega) (cu_lt (by omega) (by omega))) (fun c77 => ?_) (fun c77 => ?_)
            · omega
            · refine rr_nx (pc' := 81) (al' := [some (.ref 146), none, some (.int (nI 2)), some (.int (nI (setN (nuF 2 n c) a))), some (.int (nI a)), some (.int (nI 0)), none]) (st' := [.ref 146]) d_251_80 (fun _ => rfl) ?_
              refine rr_nx (pc' := 83) (al' := [some (.ref 146), none, some (.int (nI 2)), some (.int (nI (setN (nuF 2 n c) a))), some (.int (nI a)), some (.int (nI 0)), none]) (st' := [.int (nI a), .ref 146]) d_251_81 (fun _ => rfl) ?_
              refine rr_nx (pc' := 84) (al' := [some (.ref 146), none, some (.int (nI 2)), some (.int (nI (setN (nuF 2 n c) a))), some (.int (nI a)), some (.int (nI 0)), none]) (st' := [.int (nI 2), .int (nI a), .ref 146]) d_251_83 (fun _ => rfl) ?_
              refine rr_pv (as := [.int (nI a), .int (nI 2)]) (al0 := [some (.ref 146), some (.int (nI a)), some (.int (nI 2)), none, none, none, none]) (r := []) d_251_84 mo_251 ml_298 mz_252 rfl rfl rfl (Nat.le_of_ble_eq_true rfl) (s_isNuclear2 hc (by omega)) ?_
              show RR _ _ 87 [some (.ref 146), none, some (.int (nI 2)), some (.int (nI (setN (nuF 2 n c) a))), some (.int (nI a)), some (.int (nI 0)), none] [.int (bI (nuB 2 n c a = true))] g A _
              refine rr_nx (pc' := 135) (al' := [some (.ref 146), none, some (.int (nI 2)), some (.int (nI (setN (nuF 2 n c) a))), some (.int (nI a)), some (.int (nI 0)), none]) (st' := [.int (bI (nuB 2 n c a = true))]) d_251_87 (fun _ => rfl) ?_
              refine rr_nx (pc' := 137) (al' := [some (.ref 146), none, some (.int (nI 2)), some (.int (nI (setN (nuF 2 n c) a))), some (.int (nI a)), some (.int (nI 0)), some (.int (bI (nuB 2 n c a = true)))]) (st' := []) d_251_135 (fun _ => rfl) ?_
              refine rr_nx (pc' := 138) (al' := [some (.ref 146), none, some (.int (nI 2)), some (.int (nI (setN (nuF 2 n c) a))), some (.int (nI a)), some (.int (nI 0)), some (.int (bI (nuB 2 n c a = true)))]) (st' := [.int (nI (setN (nuF 2 n c) a))]) d_251_137 (fun _ => rfl) ?_
              refine rr_nx (pc' := 140) (al' := [some (.ref 146), none, some (.int (nI 2)), some (.int (nI (setN (nuF 2 n c) a))), some (.int (nI a)), some (.int (nI 0)), some (.int (bI (nuB 2 n c a = true)))]) (st' := [.int (bI (nuB 2 n c a = true)), .int (nI (setN (nuF 2 n c) a))]) d_251_138 (fun _ => rfl) ?_
              refine rr_beq (t := 150) d_251_140 (by decide) (fun c140 => ?_) (fun c140 => ?_)
              · refine rn_ic (v := 0) d_251_150 (by decide) ?_
                refine rn_or d_251_151 ?_
                refine rr_nx (pc' := 153) (al' := [some (.ref 146), none, some (.int (nI 2)), some (.int (nI ((setN (nuF 2 n c) a) ||| 0))), some (.int (nI a)), some (.int (nI 0)), some (.int (bI (nuB 2 n c a = true)))]) (st' := []) d_251_152 (fun _ => rfl) ?_
                refine rn_inc d_251_153 rfl rfl ?_
                show RR _ _ 156 [some (.ref 146), none, some (.int (nI 2)), some (.int (nI ((setN (nuF 2 n c) a) ||| 0))), some (.int (nI (a + 1))), some (.int (nI 0)), some (.int (bI (nuB 2 n c a = true)))] [] g A _
                refine rr_nx (pc' := 29) (al' := [some (.ref 146), none, some (.int (nI 2)), some (.int (nI ((setN (nuF 2 n c) a) ||| 0))), some (.int (nI (a + 1))), some (.int (nI 0)), some (.int (bI (nuB 2 n c a = true)))]) (st' := []) d_251_156 (fun _ => rfl) ?_
                refine rr_al (congrArg (fun z__ : Nat => ([some (.ref 146), none, some (.int (nI 2)), some (.int (nI z__)), some (.int (nI (a + 1))), some (.int (nI 0)), some (.int (bI (nuB 2 n c a = true)))] : AL)) (show (setN (nuF 2 n c) a) ||| 0 = setN (nuF 2 n c) (a + 1) by first | contradiction | (rw [setN, setN, ORs_s]; congr 1; simp only [nuF]; simp [*]))) ?_
                refine rr_dr (al1 := [some (.ref 146), none, some (.int (nI 2)), some (.int (nI (setN (nuF 2 n c) (a + 1)))), some (.int (nI (a + 1))), none, none]) (le_s (le_s (le_s (le_s (le_s (le_d rfl (le_d rfl (le_n)))))))) ?_
                exact iha  (trivial)
              · refine rn_ic (v := 1) d_251_143 (by decide) ?_
                refine rr_nx (pc' := 146) (al' := [some (.ref 146), none, some (.int (nI 2)), some (.int (nI (setN (nuF 2 n c) a))), some (.int (nI a)), some (.int (nI 0)), some (.int (bI (nuB 2 n c a = true)))]) (st' := [.int (nI a), .int (nI 1), .int (nI (setN (nuF 2 n c) a))]) d_251_144 (fun _ => rfl) ?_
                refine rn_shl d_251_146 (by first | omega | assumption | exact cu_36 (by omega) (cu_lt (by omega) (by omega))) ?_
                refine rr_nx (pc' := 151) (al' := [some (.ref 146), none, some (.int (nI 2)), some (.int (nI (setN (nuF 2 n c) a))), some (.int (nI a)), some (.int (nI 0)), some (.int (bI (nuB 2 n c a = true)))]) (st' := [.int (nI (1 * 2 ^ a)), .int (nI (setN (nuF 2 n c) a))]) d_251_147 (fun _ => rfl) ?_
                refine rn_or d_251_151 ?_
                refine rr_nx (pc' := 153) (al' := [some (.ref 146), none, some (.int (nI 2)), some (.int (nI ((setN (nuF 2 n c) a) ||| (1 * 2 ^ a)))), some (.int (nI a)), some (.int (nI 0)), some (.int (bI (nuB 2 n c a = true)))]) (st' := []) d_251_152 (fun _ => rfl) ?_
                refine rn_inc d_251_153 rfl rfl ?_
                show RR _ _ 156 [some (.ref 146), none, some (.int (nI 2)), some (.int (nI ((setN (nuF 2 n c) a) ||| (1 * 2 ^ a)))), some (.int (nI (a + 1))), some (.int (nI 0)), some (.int (bI (nuB 2 n c a = true)))] [] g A _
                refine rr_nx (pc' := 29) (al' := [some (.ref 146), none, some (.int (nI 2)), some (.int (nI ((setN (nuF 2 n c) a) ||| (1 * 2 ^ a)))), some (.int (nI (a + 1))), some (.int (nI 0)), some (.int (bI (nuB 2 n c a = true)))]) (st' := []) d_251_156 (fun _ => rfl) ?_
                refine rr_al (congrArg (fun z__ : Nat => ([some (.ref 146), none, some (.int (nI 2)), some (.int (nI z__)), some (.int (nI (a + 1))), some (.int (nI 0)), some (.int (bI (nuB 2 n c a = true)))] : AL)) (show (setN (nuF 2 n c) a) ||| (1 * 2 ^ a) = setN (nuF 2 n c) (a + 1) by first | contradiction | (rw [setN, setN, ORs_s]; congr 1; simp only [nuF]; simp [*]))) ?_
                refine rr_dr (al1 := [some (.ref 146), none, some (.int (nI 2)), some (.int (nI (setN (nuF 2 n c) (a + 1)))), some (.int (nI (a + 1))), none, none]) (le_s (le_s (le_s (le_s (le_s (le_d rfl (le_d rfl (le_n)))))))) ?_
                exact iha  (trivial)
          · refine rn_ic (v := 1) d_251_68 (by decide) ?_
            refine rr_nx (pc' := 73) (al' := [some (.ref 146), none, some (.int (nI 2)), some (.int (nI (setN (nuF 2 n c) a))), some (.int (nI a)), none, none]) (st' := [.int (nI 1)]) d_251_69 (fun _ => rfl) ?_
            refine rr_nx (pc' := 75) (al' := [some (.ref 146), none, some (.int (nI 2)), some (.int (nI (setN (nuF 2 n c) a))), some (.int (nI a)), some (.int (nI 1)), none]) (st' := []) d_251_73 (fun _ => rfl) ?_
            refine rr_nx (pc' := 76) (al' := [some (.ref 146), none, some (.int (nI 2)), some (.int (nI (setN (nuF 2 n c) a))), some (.int (nI a)), some (.int (nI 1)), none]) (st' := [.int (nI 2)]) d_251_75 (fun _ => rfl) ?_
            refine rn_ic (v := 3) d_251_76 (by decide) ?_
            refine rn_cge (t := 90) d_251_77 (by decide) (by first | omega | assumption | exact cu_36 (by omega) (cu_lt (by omega) (by omega))) (by first | omega | assumption | exact cu_36 (by omega) (cu_lt (by omega) (by omega))) (fun c77 => ?_) (fun c77 => ?_)
            · omega
            · refine rr_nx (pc' := 81) (al' := [some (.ref 146), none, some (.int (nI 2)), some (.int (nI (setN (nuF 2 n c) a))), some (.int (nI a)), some (.int (nI 1)), none]) (st' := [.ref 146]) d_251_80 (fun _ => rfl) ?_
              refine rr_nx (pc' := 83) (al' := [some (.ref 146), none, some (.int (nI 2)), some (.int (nI (setN (nuF 2 n c) a))), some (.int (nI a)), some (.int (nI 1)), none]) (st' := [.int (nI a), .ref 146]) d_251_81 (fun _ => rfl) ?_
              refine rr_nx (pc' := 84) (al' := [some (.ref 146), none, some (.int (nI 2)), some (.int (nI (setN (nuF 2 n c) a))), some (.int (nI a)), some (.int (nI 1)), none]) (st' := [.int (nI 2), .int (nI a), .ref 146]) d_251_83 (fun _ => rfl) ?_
              refine rr_pv (as := [.int (nI a), .int (nI 2)]) (al0 := [some (.ref 146), some (.int (nI a)), some (.int (nI 2)), none, none, none, none]) (r := []) d_251_84 mo_251 ml_298 mz_252 rfl rfl rfl (Nat.le_of_ble_eq_true rfl) (s_isNuclear2 hc (by omega)) ?_
              show RR _ _ 87 [some (.ref 146), none, some (.int (nI 2)), some (.int (nI (setN (nuF 2 n c) a))), some (.int (nI a)), some (.int (nI 1)), none] [.int (bI (nuB 2 n c a = true))] g A _
              refine rr_nx (pc' := 135) (al' := [some (.ref 146), none, some (.int (nI 2)), some (.int (nI (setN (nuF 2 n c) a))), some (.int (nI a)), some (.int (nI 1)), none]) (st' := [.int (bI (nuB 2 n c a = true))]) d_251_87 (fun _ => rfl) ?_
              refine rr_nx (pc' := 137) (al' := [some (.ref 146), none, some (.int (nI 2)), some (.int (nI (setN (nuF 2 n c) a))), some (.int (nI a)), some (.int (nI 1)), some (.int (bI (nuB 2 n c a = true)))]) (st' := []) d_251_135 (fun _ => rfl) ?_
              refine rr_nx (pc' := 138) (al' := [some (.ref 146), none, some (.int (nI 2)), some (.int (nI (setN (nuF 2 n c) a))), some (.int (nI a)), some (.int (nI 1)), some (.int (bI (nuB 2 n c a = true)))]) (st' := [.int (nI (setN (nuF 2 n c) a))]) d_251_137 (fun _ => rfl) ?_
              refine rr_nx (pc' := 140) (al' := [some (.ref 146), none, some (.int (nI 2)), some (.int (nI (setN (nuF 2 n c) a))), some (.int (nI a)), some (.int (nI 1)), some (.int (bI (nuB 2 n c a = true)))]) (st' := [.int (bI (nuB 2 n c a = true)), .int (nI (setN (nuF 2 n c) a))]) d_251_138 (fun _ => rfl) ?_
              refine rr_beq (t := 150) d_251_140 (by decide) (fun c140 => ?_) (fun c140 => ?_)
              · refine rn_ic (v := 0) d_251_150 (by decide) ?_
                refine rn_or d_251_151 ?_
                refine rr_nx (pc' := 153) (al' := [some (.ref 146), none, some (.int (nI 2)), some (.int (nI ((setN (nuF 2 n c) a) ||| 0))), some (.int (nI a)), some (.int (nI 1)), some (.int (bI (nuB 2 n c a = true)))]) (st' := []) d_251_152 (fun _ => rfl) ?_
                refine rn_inc d_251_153 rfl rfl ?_
                show RR _ _ 156 [some (.ref 146), none, some (.int (nI 2)), some (.int (nI ((setN (nuF 2 n c) a) ||| 0))), some (.int (nI (a + 1))), some (.int (nI 1)), some (.int (bI (nuB 2 n c a = true)))] [] g A _
                refine rr_nx (pc' := 29) (al' := [some (.ref 146), none, some (.int (nI 2)), some (.int (nI ((setN (nuF 2 n c) a) ||| 0))), some (.int (nI (a + 1))), some (.int (nI 1)), some (.int (bI (nuB 2 n c a = true)))]) (st' := []) d_251_156 (fun _ => rfl) ?_
                refine rr_al (congrArg (fun z__ : Nat => ([some (.ref 146), none, some (.int (nI 2)), some (.int (nI z__)), some (.int (nI (a + 1))), some (.int (nI 1)), some (.int (bI (nuB 2 n c a = true)))] : AL)) (show (setN (nuF 2 n c) a) ||| 0 = setN (nuF 2 n c) (a + 1) by first | contradiction | (rw [setN, setN, ORs_s]; congr 1; simp only [nuF]; simp [*]))) ?_
                refine rr_dr (al1 := [some (.ref 146), none, some (.int (nI 2)), some (.int (nI (setN (nuF 2 n c) (a + 1)))), some (.int (nI (a + 1))), none, none]) (le_s (le_s (le_s (le_s (le_s (le_d rfl (le_d rfl (le_n)))))))) ?_
                exact iha  (trivial)
              · refine rn_ic (v := 1) d_251_143 (by decide) ?_
                refine rr_nx (pc' := 146) (al' := [some (.ref 146), none, some (.int (nI 2)), some (.int (nI (setN (nuF 2 n c) a))), some (.int (nI a)), some (.int (nI 1)), some (.int (bI (nuB 2 n c a = true)))]) (st' := [.int (nI a), .int (nI 1), .int (nI (setN (nuF 2 n c) a))]) d_251_144 (fun _ => rfl) ?_
                refine rn_shl d_251_146 (by first | omega | assumption | exact cu_36 (by omega) (cu_lt (by omega) (by omega))) ?_
                refine rr_nx (pc' := 151) (al' := [some (.ref 146), none, some (.int (nI 2)), some (.int (nI (setN (nuF 2 n c) a))), some (.int (nI a)), some (.int (nI 1)), some (.int (bI (nuB 2 n c a = true)))]) (st' := [.int (nI (1 * 2 ^ a)), .int (nI (setN (nuF 2 n c) a))]) d_251_147 (fun _ => rfl) ?_
                refine rn_or d_251_151 ?_
                refine rr_nx (pc' := 153) (al' := [some (.ref 146), none, some (.int (nI 2)), some (.int (nI ((setN (nuF 2 n c) a) ||| (1 * 2 ^ a)))), some (.int (nI a)), some (.int (nI 1)), some (.int (bI (nuB 2 n c a = true)))]) (st' := []) d_251_152 (fun _ => rfl) ?_
                refine rn_inc d_251_153 rfl rfl ?_
                show RR _ _ 156 [some (.ref 146), none, some (.int (nI 2)), some (.int (nI ((setN (nuF 2 n c) a) ||| (1 * 2 ^ a)))), some (.int (nI (a + 1))), some (.int (nI 1)), some (.int (bI (nuB 2 n c a = true)))] [] g A _
                refine rr_nx (pc' := 29) (al' := [some (.ref 146), none, some (.int (nI 2)), some (.int (nI ((setN (nuF 2 n c) a) ||| (1 * 2 ^ a)))), some (.int (nI (a + 1))), some (.int (nI 1)), some (.int (bI (nuB 2 n c a = true)))]) (st' := []) d_251_156 (fun _ => rfl) ?_
                refine rr_al (congrArg (fun z__ : Nat => ([some (.ref 146), none, some (.int (nI 2)), some (.int (nI z__)), some (.int (nI (a + 1))), some (.int (nI 1)), some (.int (bI (nuB 2 n c a = true)))] : AL)) (show (setN (nuF 2 n c) a) ||| (1 * 2 ^ a) = setN (nuF 2 n c) (a + 1) by first | contradiction | (rw [setN, setN, ORs_s]; congr 1; simp only [nuF]; simp [*]))) ?_
                refine rr_dr (al1 := [some (.ref 146), none, some (.int (nI 2)), some (.int (nI (setN (nuF 2 n c) (a + 1)))), some (.int (nI (a + 1))), none, none]) (le_s (le_s (le_s (le_s (le_s (le_d rfl (le_d rfl (le_n)))))))) ?_
                exact iha  (trivial)
  · show RR _ _ 29 [some (.ref 146), none, some (.int (nI 2)), some (.int (nI (setN (nuF 2 n c) n))), some (.int (nI n)), none, none] [] g A _
    refine rr_nx (pc' := 31) (al' := [some (.ref 146), none, some (.int (nI 2)), some (.int (nI (setN (nuF 2 n c) n))), some (.int (nI n)), none, none]) (st' := [.int (nI n)]) d_251_29 (fun _ => rfl) ?_
    refine rr_nx (pc' := 32) (al' := [some (.ref 146), none, some (.int (nI 2)), some (.int (nI (setN (nuF 2 n c) n))), some (.int (nI n)), none, none]) (st' := [.ref 146, .int (nI n)]) d_251_31 (fun _ => rfl) ?_
    refine rr_gn d_251_32 mo_251 fl_127 rfl hc.1 ?_
    refine rn_cge (t := 159) d_251_35 (by decide) (by first | omega | assumption | exact cu_36 (by omega) (cu_lt (by omega) (by omega))) (by first | omega | assumption | exact cu_36 (by omega) (cu_lt (by omega) (by omega))) (fun c35 => ?_) (fun c35 => ?_)
    · refine rr_nx (pc' := 160) (al' := [some (.ref 146), none, some (.int (nI 2)), some (.int (nI (setN (nuF 2 n c) n))), some (.int (nI n)), none, none]) (st' := [.int (nI (setN (nuF 2 n c) n))]) d_251_159 (fun _ => rfl) ?_
      exact rr_ri d_251_160 mr_251 rfl ⟨rfl, rfl, rfl⟩
    · omega
theorem s_nucleus3_24 {g : Nat → Int32} {A : Nat → Nat → Int32} {n : Nat} {c : Nat → Nat} (hc : Cur g A n c) : RR 2 251 24 [some (.ref 146), none, some (.int (nI 3)), none, none, none, none] [] g A (rP (some (.int (nI (nuV 3 n c)))) g A) := by
  have hn6 := hc.2.1
  refine rn_ic (v := 0) d_251_24 (by decide) ?_
  refine rr_nx (pc' := 26) (al' := [some (.ref 146), none, some (.int (nI 3)), some (.int (nI 0)), none, none, none]) (st' := []) d_251_25 (fun _ => rfl) ?_
  refine rn_ic (v := 0) d_251_26 (by decide) ?_
  refine rr_nx (pc' := 29) (al' := [some (.ref 146), none, some (.int (nI 3)), some (.int (nI 0)), some (.int (nI 0)), none, none]) (st' := []) d_251_27 (fun _ => rfl) ?_
  refine rr_al (congrArg (fun z__ : Nat => ([some (.ref 146), none, some (.int (nI 3)), some (.int (nI z__)), some (.int (nI 0)), none, none] : AL)) (show 0 = setN (nuF 3 n c) 0 by first | rfl | omega | (simp only [SM_s]; omega) | (simp [SM_s, *]; done) | (simp [SM_s, *]; omega))) ?_
  refine rr_up (al := fun a => [some (.ref 146), none, some (.int (nI 3)), some (.int (nI (setN (nuF 3 n c) a))), some (.int (nI a)), none, none]) (G := fun a => g) (B := fun a => A) (P := fun a => True) (n := n) (fun a ha pa iha => ?_) (fun pa => ?_) 0  (by omega) (trivial)
  · show RR _ _ 29 [some (.ref 146), none, some (.int (nI 3)), some (.int (nI (setN (nuF 3 n c) a))), some (.int (nI a)), none, none] [] g A _
    refine rr_nx (pc' := 31) (al' := [some (.ref 146), none, some (.int (nI 3)), some (.int (nI (setN (nuF 3 n c) a))), some (.int (nI a)), none, none]) (st' := [.int (nI a)]) d_251_29 (fun _ => rfl) ?_
    refine rr_nx (pc' := 32) (al' := [some (.ref 146), none, some (.int (nI 3)), some (.int (nI (setN (nuF 3 n c) a))), some (.int (nI a)), none, none]) (st' := [.ref 146, .int (nI a)]) d_251_31 (fun _ => rfl) ?_
    refine rr_gn d_251_32 mo_251 fl_127 rfl hc.1 ?_
    refine rn_cge (t := 159) d_251_35 (by decide) (by first | omega | assumption | exact cu_36 (by omega) (cu_lt (by omega) (by omega))) (by first | omega | assumption | exact cu_36 (by omega) (cu_lt (by omega) (by omega))) (fun c35 => ?_) (fun c35 => ?_)
    · omega
    · refine rr_nx (pc' := 39) (al' := [some (.ref 146), none, some (.int (nI 3)), some (.int (nI (setN (nuF 3 n c) a))), some (.int (nI a)), none, none]) (st' := [.ref 146]) d_251_38 (fun _ => rfl) ?_
      refine rr_nx (pc' := 41) (al' := [some (.ref 146), none, some (.int (nI 3)), some (.int (nI (setN (nuF 3 n c) a))), some (.int (nI a)), none, none]) (st' := [.int (nI a), .ref 146]) d_251_39 (fun _ => rfl) ?_
      refine rn_ic (v := 0) d_251_41 (by decide) ?_
      refine rr_pv (as := [.int (nI a), .int (nI 0)]) (al0 := [some (.ref 146), some (.int (nI a)), some (.int (nI 0)), none, none, none, none]) (r := []) d_251_42 mo_251 ml_298 mz_252 rfl rfl rfl (Nat.le_of_ble_eq_true rfl) (s_isNuclear0 hc (by omega)) ?_
      show RR _ _ 45 [some (.ref 146), none, some (.int (nI 3)), some (.int (nI (setN (nuF 3 n c) a))), some (.int (nI a)), none, none] [.int (bI (nuB 0 n c a = true))] g A _
      refine rr_beq (t := 72) d_251_45 (by decide) (fun c45 => ?_) (fun c45 => ?_)
      · refine rn_ic (v := 0) d_251_72 (by decide) ?_
        refine rr_nx (pc' := 75) (al' := [some (.ref 146), none, some (.int (nI 3)), some (.int (nI (setN (nuF 3 n c) a))), some (.int (nI a)), some (.int (nI 0)), none]) (st' := []) d_251_73 (fun _ => rfl) ?_
        refine rr_nx (pc' := 76) (al' := [some (.ref 146), none, some (.int (nI 3)), some (.int (nI (setN (nuF 3 n c) a))), some (.int (nI a)), some (.int (nI 0)), none]) (st' := [.int (nI 3)]) d_251_75 (fun _ => rfl) ?_
        refine rn_ic (v := 3) d_251_76 (by decide) ?_
        refine rn_cge (t := 90) d_251_77 (by decide) (by first | omega | assumption | exact cu_36 (by omega) (cu_lt (by omega) (by omega))) (by first | omega | assumption | exact cu_36 (by omega) (cu_lt (by omega) (by omega))) (fun c77 => ?_) (fun c77 => ?_)
        · refine rr_nx (pc' := 91) (al' := [some (.ref 146), none, some (.int (nI 3)), some (.int (nI (setN (nuF 3 n c) a))), some (.int (nI a)), some (.int (nI 0)), none]) (st' := [.int (nI 3)]) d_251_90 (fun _ => rfl) ?_
          refine rn_ic (v := 3) d_251_91 (by decide) ?_
          refine rn_cne (t := 100) d_251_92 (by decide) (by first | omega | assumption | exact cu_36 (by omega) (cu_lt (by omega) (by omega))) (by first | omega | assumption | exact cu_36 (by omega) (cu_lt (by omega) (by omega))) (fun c92 => ?_) (fun c92 => ?_)
          · omega
          · refine rr_nx (pc' := 97) (al' := [some (.ref 146), none, some (.int (nI 3)), some (.int (nI (setN (nuF 3 n c) a))), some (.int (nI a)), some (.int (nI 0)), none]) (st' := [.int (nI 0)]) d_251_95 (fun _ => rfl) ?_
            refine rr_nx (pc' := 135) (al' := [some (.ref 146), none, some (.int (nI 3)), some (.int (nI (setN (nuF 3 n c) a))), some (.int (nI a)), some (.int (nI 0)), none]) (st' := [.int (nI 0)]) d_251_97 (fun _ => rfl) ?_
            refine rr_nx (pc' := 137) (al' := [some (.ref 146), none, some (.int (nI 3)), some (.int (nI (setN (nuF 3 n c) a))), some (.int (nI a)), some (.int (nI 0)), some (.int (nI 0))]) (st' := []) d_251_135 (fun _ => rfl) ?_
            refine rr_nx (pc' := 138) (al' := [some (.ref 146), none, some (.int (nI 3)), some (.int (nI (setN (nuF 3 n c) a))), some (.int (nI a)), some (.int (nI 0)), some (.int (nI 0))]) (st' := [.int (nI (setN (nuF 3 n c) a))]) d_251_137 (fun _ => rfl) ?_
            refine rr_nx (pc' := 140) (al' := [some (.ref 146), none, some (.int (nI 3)), some (.int (nI (setN (nuF 3 n c) a))), some (.int (nI a)), some (.int (nI 0)), some (.int (nI 0))]) (st' := [.int (nI 0), .int (nI (setN (nuF 3 n c) a))]) d_251_138 (fun _ => rfl) ?_
            refine rn_ieq (t := 150) d_251_140 (by decide) (by first | omega | assumption | exact cu_36 (by omega) (cu_lt (by omega) (by omega))) (fun c140 => ?_) (fun c140 => ?_)
            · refine rn_ic (v := 0) d_251_150 (by decide) ?_
              refine rn_or d_251_151 ?_
              refine rr_nx (pc' := 153) (al' := [some (.ref 146), none, some (.int (nI 3)), some (.int (nI ((setN (nuF 3 n c) a) ||| 0))), some (.int (nI a)), some (.int (nI 0)), some (.int (nI 0))]) (st' := []) d_251_152 (fun _ => rfl) ?_
              refine rn_inc d_251_153 rfl rfl ?_
              show RR _ _ 156 [some (.ref 146), none, some (.int (nI 3)), some (.int (nI ((setN (nuF 3 n c) a) ||| 0))), some (.int (nI (a + 1))), some (.int (nI 0)), some (.int (nI 0))] [] g A _
              refine rr_nx (pc' := 29) (al' := [some (.ref 146), none, some (.int (nI 3)), some (.int (nI ((setN (nuF 3 n c) a) ||| 0))), some (.int (nI (a + 1))), some (.int (nI 0)), some (.int (nI 0))]) (st' := []) d_251_156 (fun _ => rfl) ?_
              refine rr_al (congrArg (fun z__ : Nat => ([some (.ref 146), none, some (.int (nI 3)), some (.int (nI z__)), some (.int (nI (a + 1))), some (.int (nI 0)), some (.int (nI 0))] : AL)) (show (setN (nuF 3 n c) a) ||| 0 = setN (nuF 3 n c) (a + 1) by first | contradiction | (rw [setN, setN, ORs_s]; congr 1; simp only [nuF]; simp [*]))) ?_
              refine rr_dr (al1 := [some (.ref 146), none, some (.int (nI 3)), some (.int (nI (setN (nuF 3 n c) (a + 1)))), some (.int (nI (a + 1))), none, none]) (le_s (le_s (le_s (le_s (le_s (le_d rfl (le_d rfl (le_n)))))))) ?_
              exact iha  (trivial)
            · omega
        · omega
      · refine rr_nx (pc' := 49) (al' := [some (.ref 146), none, some (.int (nI 3)), some (.int (nI (setN (nuF 3 n c) a))), some (.int (nI a)), none, none]) (st' := [.ref 146]) d_251_48 (fun _ => rfl) ?_
        refine rr_nx (pc' := 51) (al' := [some (.ref 146), none, some (.int (nI 3)), some (.int (nI (setN (nuF 3 n c) a))), some (.int (nI a)), none, none]) (st' := [.int (nI a), .ref 146]) d_251_49 (fun _ => rfl) ?_
        refine rn_ic (v := 1) d_251_51 (by decide) ?_
        refine rr_pv (as := [.int (nI a), .int (nI 1)]) (al0 := [some (.ref 146), some (.int (nI a)), some (.int (nI 1)), none, none, none, none]) (r := []) d_251_52 mo_251 ml_298 mz_252 rfl rfl rfl (Nat.le_of_ble_eq_true rfl) (s_isNuclear1 hc (by omega)) ?_
        show RR _ _ 55 [some (.ref 146), none, some (.int (nI 3)), some (.int (nI (setN (nuF 3 n c) a))), some (.int (nI a)), none, none] [.int (bI (nuB 1 n c a = true))] g A _
        refine rr_beq (t := 72) d_251_55 (by decide) (fun c55 => ?_) (fun c55 => ?_)
        · refine rn_ic (v := 0) d_251_72 (by decide) ?_
          refine rr_nx (pc' := 75) (al' := [some (.ref 146), none, some (.int (nI 3)), some (.int (nI (setN (nuF 3 n c) a))), some (.int (nI a)), some (.int (nI 0)), none]) (st' := []) d_251_73 (fun _ => rfl) ?_
          refine rr_nx (pc' := 76) (al' := [some (.ref 146), none, some (.int (nI 3)), some (.int (nI (setN (nuF 3 n c) a))), some (.int (nI a)), some (.int (nI 0)), none]) (st' := [.int (nI 3)]) d_251_75 (fun _ => rfl) ?_
          refine rn_ic (v := 3) d_251_76 (by decide) ?_
          refine rn_cge (t := 90) d_251_77 (by decide) (by first | omega | assumption | exact cu_36 (by omega) (cu_lt (by omega) (by omega))) (by first | omega | assumption | exact cu_36 (by omega) (cu_lt (by omega) (by omega))) (fun c77 => ?_) (fun c77 => ?_)
          · refine rr_nx (pc' := 91) (al' := [some (.ref 146), none, some (.int (nI 3)), some (.int (nI (setN (nuF 3 n c) a))), some (.int (nI a)), some (.int (nI 0)), none]) (st' := [.int (nI 3)]) d_251_90 (fun _ => rfl) ?_
            refine rn_ic (v := 3) d_251_91 (by decide) ?_
            refine rn_cne (t := 100) d_251_92 (by decide) (by first | omega | assumption | exact cu_36 (by omega) (cu_lt (by omega) (by omega))) (by first | omega | assumption | exact cu_36 (by omega) (cu_lt (by omega) (by omega))) (fun c92 => ?_) (fun c92 => ?_)
            · omega
            · refine rr_nx (pc' := 97) (al' := [some (.ref 146), none, some (.int (nI 3)), some (.int (nI (setN (nuF 3 n c) a))), some (.int (nI a)), some (.int (nI 0)), none]) (st' := [.int (nI 0)]) d_251_95 (fun _ => rfl) ?_
              refine rr_nx (pc' := 135) (al' := [some (.ref 146), none, some (.int (nI 3)), some (.int (nI (setN (nuF 3 n c) a))), some (.int (nI a)), some (.int (nI 0)), none]) (st' := [.int (nI 0)]) d_251_97 (fun _ => rfl) ?_
              refine rr_nx (pc' := 137) (al' := [some (.ref 146), none, some (.int (nI 3)), some (.int (nI (setN (nuF 3 n c) a))), some (.int (nI a)), some (.int (nI 0)), some (.int (nI 0))]) (st' := []) d_251_135 (fun _ => rfl) ?_
              refine rr_nx (pc' := 138) (al' := [some (.ref 146), none, some (.int (nI 3)), some (.int (nI (setN (nuF 3 n c) a))), some (.int (nI a)), some (.int (nI 0)), some (.int (nI 0))]) (st' := [.int (nI (setN (nuF 3 n c) a))]) d_251_137 (fun _ => rfl) ?_
              refine rr_nx (pc' := 140) (al' := [some (.ref 146), none, some (.int (nI 3)), some (.int (nI (setN (nuF 3 n c) a))), some (.int (nI a)), some (.int (nI 0)), some (.int (nI 0))]) (st' := [.int (nI 0), .int (nI (setN (nuF 3 n c) a))]) d_251_138 (fun _ => rfl) ?_
              refine rn_ieq (t := 150) d_251_140 (by decide) (by first | omega | assumption | exact cu_36 (by omega) (cu_lt (by omega) (by omega))) (fun c140 => ?_) (fun c140 => ?_)
              · refine rn_ic (v := 0) d_251_150 (by decide) ?_
                refine rn_or d_251_151 ?_
                refine rr_nx (pc' := 153) (al' := [some (.ref 146), none, some (.int (nI 3)), some (.int (nI ((setN (nuF 3 n c) a) ||| 0))), some (.int (nI a)), some (.int (nI 0)), some (.int (nI 0))]) (st' := []) d_251_152 (fun _ => rfl) ?_
                refine rn_inc d_251_153 rfl rfl ?_
                show RR _ _ 156 [some (.ref 146), none, some (.int (nI 3)), some (.int (nI ((setN (nuF 3 n c) a) ||| 0))), some (.int (nI (a + 1))), some (.int (nI 0)), some (.int (nI 0))] [] g A _
                refine rr_nx (pc' := 29) (al' := [some (.ref 146), none, some (.int (nI 3)), some (.int (nI ((setN (nuF 3 n c) a) ||| 0))), some (.int (nI (a + 1))), some (.int (nI 0)), some (.int (nI 0))]) (st' := []) d_251_156 (fun _ => rfl) ?_
                refine rr_al (congrArg (fun z__ : Nat => ([some (.ref 146), none, some (.int (nI 3)), some (.int (nI z__)), some (.int (nI (a + 1))), some (.int (nI 0)), some (.int (nI 0))] : AL)) (show (setN (nuF 3 n c) a) ||| 0 = setN (nuF 3 n c) (a + 1) by first | contradiction | (rw [setN, setN, ORs_s]; congr 1; simp only [nuF]; simp [*]))) ?_
                refine rr_dr (al1 := [some (.ref 146), none, some (.int (nI 3)), some (.int (nI (setN (nuF 3 n c) (a + 1)))), some (.int (nI (a + 1))), none, none]) (le_s (le_s (le_s (le_s (le_s (le_d rfl (le_d rfl (le_n)))))))) ?_
                exact iha  (trivial)
              · omega
          · omega
        · refine rr_nx (pc' := 59) (al' := [some (.ref 146), none, some (.int (nI 3)), some (.int (nI (setN (nuF 3 n c) a))), some (.int (nI a)), none, none]) (st' := [.ref 146]) d_251_58 (fun _ => rfl) ?_
          refine rr_nx (pc' := 61) (al' := [some (.ref 146), none, some (.int (nI 3)), some (.int (nI (setN (nuF 3 n c) a))), some (.int (nI a)), none, none]) (st' := [.int (nI a), .ref 146]) d_251_59 (fun _ => rfl) ?_
          refine rn_ic (v := 2) d_251_61 (by decide) ?_
          refine rr_pv (as := [.int (nI a), .int (nI 2)]) (al0 := [some (.ref 146), some (.int (nI a)), some (.int (nI 2)), none, none, none, none]) (r := []) d_251_62 mo_251 ml_298 mz_252 rfl rfl rfl (Nat.le_of_ble_eq_true rfl) (s_isNuclear2 hc (by omega)) ?_
          show RR _ _ 65 [some (.ref 146), none, some (.int (nI 3)), some (.int (nI (setN (nuF 3 n c) a))), some (.int (nI a)), none, none] [.int (bI (nuB 2 n c a = true))] g A _
          refine rr_beq (t := 72) d_251_65 (by decide) (fun c65 => ?_) (fun c65 => ?_)
          · refine rn_ic (v := 0) d_251_72 (by decide) ?_
            refine rr_nx (pc' := 75) (al' := [some (.ref 146), none, some (.int (nI 3)), some (.int (nI (setN (nuF 3 n c) a))), some (.int (nI a)), some (.int (nI 0)), none]) (st' := []) d_251_73 (fun _ => rfl) ?_
            refine rr_nx (pc' := 76) (al' := [some (.ref 146), none, some (.int (nI 3)), some (.int (nI (setN (nuF 3 n c) a))), some (.int (nI a)), some (.int (nI 0)), none]) (st' := [.int (nI 3)]) d_251_75 (fun _ => rfl) ?_
            refine rn_ic (v := 3) d_251_76 (by decide) ?_
            refine rn_cge (t := 90) d_251_77 (by decide) (by first | omega | assumption | exact cu_36 (by omega) (cu_lt (by omega) (by omega))) (by first | omega | assumption | exact cu_36 (by omega) (cu_lt (by omega) (by omega))) (fun c77 => ?_) (fun c77 => ?_)
            · refine rr_nx (pc' := 91) (al' := [some (.ref 146), none, some (.int (nI 3)), some (.int (nI (setN (nuF 3 n c) a))), some (.int (nI a)), some (.int (nI 0)), none]) (st' := [.int (nI 3)]) d_251_90 (fun _ => rfl) ?_
              refine rn_ic (v := 3) d_251_91 (by decide) ?_
              refine rn_cne (t := 100) d_251_92 (by decide) (by first | omega | assumption | exact cu_36 (by omega) (cu_lt (by omega) (by omega))) (by first | omega | assumption | exact cu_36 (by omega) (cu_lt (by omega) (by omega))) (fun c92 => ?_) (fun c92 => ?_)
              · omega
              · refine rr_nx (pc' := 97) (al' := [some (.ref 146), none, some (.int (nI 3)), some (.int (nI (setN (nuF 3 n c) a))), some (.int (nI a)), some (.int (nI 0)), none]) (st' := [.int (nI 0)]) d_251_95 (fun _ => rfl) ?_
                refine rr_nx (pc' := 135) (al' := [some (.ref 146), none, some (.int (nI 3)), some (.int (nI (setN (nuF 3 n c) a))), some (.int (nI a)), some (.int (nI 0)), none]) (st' := [.int (nI 0)]) d_251_97 (fun _ => rfl) ?_
                refine rr_nx (pc' := 137) (al' := [some (.ref 146), none, some (.int (nI 3)), some (.int (nI (setN (nuF 3 n c) a))), some (.int (nI a)), some (.int (nI 0)), some (.int (nI 0))]) (st' := []) d_251_135 (fun _ => rfl) ?_
                refine rr_nx (pc' := 138) (al' := [some (.ref 146), none, some (.int (nI 3)), some (.int (nI (setN (nuF 3 n c) a))), some (.int (nI a)), some (.int (nI 0)), some (.int (nI 0))]) (st' := [.int (nI (setN (nuF 3 n c) a))]) d_251_137 (fun _ => rfl) ?_
                refine rr_nx (pc' := 140) (al' := [some (.ref 146), none, some (.int (nI 3)), some (.int (nI (setN (nuF 3 n c) a))), some (.int (nI a)), some (.int (nI 0)), some (.int (nI 0))]) (st' := [.int (nI 0), .int (nI (setN (nuF 3 n c) a))]) d_251_138 (fun _ => rfl) ?_
                refine rn_ieq (t := 150) d_251_140 (by decide) (by first | omega | assumption | exact cu_36 (by omega) (cu_lt (by omega) (by omega))) (fun c140 => ?_) (fun c140 => ?_)
                · refine rn_ic (v := 0) d_251_150 (by decide) ?_
                  refine rn_or d_251_151 ?_
                  refine rr_nx (pc' := 153) (al' := [some (.ref 146), none, some (.int (nI 3)), some (.int (nI ((setN (nuF 3 n c) a) ||| 0))), some (.int (nI a)), some (.int (nI 0)), some (.int (nI 0))]) (st' := []) d_251_152 (fun _ => rfl) ?_
                  refine rn_inc d_251_153 rfl rfl ?_
                  show RR _ _ 156 [some (.ref 146), none, some (.int (nI 3)), some (.int (nI ((setN (nuF 3 n c) a) ||| 0))), some (.int (nI (a + 1))), some (.int (nI 0)), some (.int (nI 0))] [] g A _
                  refine rr_nx (pc' := 29) (al' := [some (.ref 146), none, some (.int (nI 3)), some (.int (nI ((setN (nuF 3 n c) a) ||| 0))), some (.int (nI (a + 1))), some (.int (nI 0)), some (.int (nI 0))]) (st' := []) d_251_156 (fun _ => rfl) ?_
                  refine rr_al (congrArg (fun z__ : Nat => ([some (.ref 146), none, some (.int (nI 3)), some (.int (nI z__)), some (.int (nI (a + 1))), some (.int (nI 0)), some (.int (nI 0))] : AL)) (show (setN (nuF 3 n c) a) ||| 0 = setN (nuF 3 n c) (a + 1) by first | contradiction | (rw [setN, setN, ORs_s]; congr 1; simp only [nuF]; simp [*]))) ?_
                  refine rr_dr (al1 := [some (.ref 146), none, some (.int (nI 3)), some (.int (nI (setN (nuF 3 n c) (a + 1)))), some (.int (nI (a + 1))), none, none]) (le_s (le_s (le_s (le_s (le_s (le_d rfl (le_d rfl (le_n)))))))) ?_
                  exact iha  (trivial)
                · omega
            · omega
          · refine rn_ic (v := 1) d_251_68 (by decide) ?_
            refine rr_nx (pc' := 73) (al' := [some (.ref 146), none, some (.int (nI 3)), some (.int (nI (setN (nuF 3 n c) a))), some (.int (nI a)), none, none]) (st' := [.int (nI 1)]) d_251_69 (fun _ => rfl) ?_
            refine rr_nx (pc' := 75) (al' := [some (.ref 146), none, some (.int (nI 3)), some (.int (nI (setN (nuF 3 n c) a))), some (.int (nI a)), some (.int (nI 1)), none]) (st' := []) d_251_73 (fun _ => rfl) ?_
            refine rr_nx (pc' := 76) (al' := [some (.ref 146), none, some (.int (nI 3)), some (.int (nI (setN (nuF 3 n c) a))), some (.int (nI a)), some (.int (nI 1)), none]) (st' := [.int (nI 3)]) d_251_75 (fun _ => rfl) ?_
            refine rn_ic (v := 3) d_251_76 (by decide) ?_
            refine rn_cge (t := 90) d_251_77 (by decide) (by first | omega | assumption | exact cu_36 (by omega) (cu_lt (by omega) (by omega))) (by first | omega | assumption | exact cu_36 (by omega) (cu_lt (by omega) (by omega))) (fun c77 => ?_) (fun c77 => ?_)
            · refine rr_nx (pc' := 91) (al' := [some (.ref 146), none, some (.int (nI 3)), some (.int (nI (setN (nuF 3 n c) a))), some (.int (nI a)), some (.int (nI 1)), none]) (st' := [.int (nI 3)]) d_251_90 (fun _ => rfl) ?_
              refine rn_ic (v := 3) d_251_91 (by decide) ?_
              refine rn_cne (t := 100) d_251_92 (by decide) (by first | omega | assumption | exact cu_36 (by omega) (cu_lt (by omega) (by omega))) (by first | omega | assumption | exact cu_36 (by omega) (cu_lt (by omega) (by omega))) (fun c92 => ?_) (fun c92 => ?_)
              · omega
              · refine rr_nx (pc' := 97) (al' := [some (.ref 146), none, some (.int (nI 3)), some (.int (nI (setN (nuF 3 n c) a))), some (.int (nI a)), some (.int (nI 1)), none]) (st' := [.int (nI 1)]) d_251_95 (fun _ => rfl) ?_
                refine rr_nx (pc' := 135) (al' := [some (.ref 146), none, some (.int (nI 3)), some (.int (nI (setN (nuF 3 n c) a))), some (.int (nI a)), some (.int (nI 1)), none]) (st' := [.int (nI 1)]) d_251_97 (fun _ => rfl) ?_
                refine rr_nx (pc' := 137) (al' := [some (.ref 146), none, some (.int (nI 3)), some (.int (nI (setN (nuF 3 n c) a))), some (.int (nI a)), some (.int (nI 1)), some (.int (nI 1))]) (st' := []) d_251_135 (fun _ => rfl) ?_
                refine rr_nx (pc' := 138) (al' := [some (.ref 146), none, some (.int (nI 3)), some (.int (nI (setN (nuF 3 n c) a))), some (.int (nI a)), some (.int (nI 1)), some (.int (nI 1))]) (st' := [.int (nI (setN (nuF 3 n c) a))]) d_251_137 (fun _ => rfl) ?_
                refine rr_nx (pc' := 140) (al' := [some (.ref 146), none, some (.int (nI 3)), some (.int (nI (setN (nuF 3 n c) a))), some (.int (nI a)), some (.int (nI 1)), some (.int (nI 1))]) (st' := [.int (nI 1), .int (nI (setN (nuF 3 n c) a))]) d_251_138 (fun _ => rfl) ?_
                refine rn_ieq (t := 150) d_251_140 (by decide) (by first | omega | assumption | exact cu_36 (by omega) (cu_lt (by omega) (by omega))) (fun c140 => ?_) (fun c140 => ?_)
                · omega
                · refine rn_ic (v := 1) d_251_143 (by decide) ?_
                  refine rr_nx (pc' := 146) (al' := [some (.ref 146), none, some (.int (nI 3)), some (.int (nI (setN (nuF 3 n c) a))), some (.int (nI a)), some (.int (nI 1)), some (.int (nI 1))]) (st' := [.int (nI a), .int (nI 1), .int (nI (setN (nuF 3 n c) a))]) d_251_144 (fun _ => rfl) ?_
                  refine rn_shl d_251_146 (by first | omega | assumption | exact cu_36 (by omega) (cu_lt (by omega) (by omega))) ?_
                  refine rr_nx (pc' := 151) (al' := [some (.ref 146), none, some (.int (nI 3)), some (.int (nI (setN (nuF 3 n c) a))), some (.int (nI a)), some (.int (nI 1)), some (.int (nI 1))]) (st' := [.int (nI (1 * 2 ^ a)), .int (nI (setN (nuF 3 n c) a))]) d_251_147 (fun _ => rfl) ?_
                  refine rn_or d_251_151 ?_
                  refine rr_nx (pc' := 153) (al' := [some (.ref 146), none, some (.int (nI 3)), some (.int (nI ((setN (nuF 3 n c) a) ||| (1 * 2 ^ a)))), some (.int (nI a)), some (.int (nI 1)), some (.int (nI 1))]) (st' := []) d_251_152 (fun _ => rfl) ?_
                  refine rn_inc d_251_153 rfl rfl ?_
                  show RR _ _ 156 [some (.ref 146), none, some (.int (nI 3)), some (.int (nI ((setN (nuF 3 n c) a) ||| (1 * 2 ^ a)))), some (.int (nI (a + 1))), some (.int (nI 1)), some (.int (nI 1))] [] g A _
                  refine rr_nx (pc' := 29) (al' := [some (.ref 146), none, some (.int (nI 3)), some (.int (nI ((setN (nuF 3 n c) a) ||| (1 * 2 ^ a)))), some (.int (nI (a + 1))), some (.int (nI 1)), some (.int (nI 1))]) (st' := []) d_251_156 (fun _ => rfl) ?_
                  refine rr_al (congrArg (fun z__ : Nat => ([some (.ref 146), none, some (.int (nI 3)), some (.int (nI z__)), some (.int (nI (a + 1))), some (.int (nI 1)), some (.int (nI 1))] : AL)) (show (setN (nuF 3 n c) a) ||| (1 * 2 ^ a) = setN (nuF 3 n c) (a + 1) by first | contradiction | (rw [setN, setN, ORs_s]; congr 1; simp only [nuF]; simp [*]))) ?_
                  refine rr_dr (al1 := [some (.ref 146), none, some (.int (nI 3)), some (.int (nI (setN (nuF 3 n c) (a + 1)))), some (.int (nI (a + 1))), none, none]) (le_s (le_s (le_s (le_s (le_s (le_d rfl (le_d rfl (le_n)))))))) ?_
                  exact iha  (trivial)
            · omega
  · show RR _ _ 29 [some (.ref 146), none, some (.int (nI 3)), some (.int (nI (setN (nuF 3 n c) n))), some (.int (nI n)), none, none] [] g A _
    refine rr_nx (pc' := 31) (al' := [some (.ref 146), none, some (.int (nI 3)), some (.int (nI (setN (nuF 3 n c) n))), some (.int (nI n)), none, none]) (st' := [.int (nI n)]) d_251_29 (fun _ => rfl) ?_
    refine rr_nx (pc' := 32) (al' := [some (.ref 146), none, some (.int (nI 3)), some (.int (nI (setN (nuF 3 n c) n))), some (.int (nI n)), none, none]) (st' := [.ref 146, .int (nI n)]) d_251_31 (fun _ => rfl) ?_
    refine rr_gn d_251_32 mo_251 fl_127 rfl hc.1 ?_
    refine rn_cge (t := 159) d_251_35 (by decide) (by first | omega | assumption | exact cu_36 (by omega) (cu_lt (by omega) (by omega))) (by first | omega | assumption | exact cu_36 (by omega) (cu_lt (by omega) (by omega))) (fun c35 => ?_) (fun c35 => ?_)
    · refine rr_nx (pc' := 160) (al' := [some (.ref 146), none, some (.int (nI 3)), some (.int (nI (setN (nuF 3 n c) n))), some (.int (nI n)), none, none]) (st' := [.int (nI (setN (nuF 3 n c) n))]) d_251_159 (fun _ => rfl) ?_
      exact rr_ri d_251_160 mr_251 rfl ⟨rfl, rfl, rfl⟩
    · omega
theorem s_nucleus4_24 {g : Nat → Int32} {A : Nat → Nat → Int32} {n : Nat} {c : Nat → Nat} (hc : Cur g A n c) : RR 2 251 24 [some (.ref 146), none, some (.int (nI 4)), none, none, none, none] [] g A (rP (some (.int (nI (nuV 4 n c)))) g A) := by
  have hn6 := hc.2.1
  refine rn_ic (v := 0) d_251_24 (by decide) ?_
  refine rr_nx (pc' := 26) (al' := [some (.ref 146), none, some (.int (nI 4)), some (.int (nI 0)), none, none, none]) (st' := []) d_251_25 (fun _ => rfl) ?_
  refine rn_ic (v := 0) d_251_26 (by decide) ?_
  refine rr_nx (pc' := 29) (al' := [some (.ref 146), none, some (.int (nI 4)), some (.int (nI 0)), some (.int (nI 0)), none, none]) (st' := []) d_251_27 (fun _ => rfl) ?_
  refine rr_al (congrArg (fun z__ : Nat => ([some (.ref 146), none, some (.int (nI 4)), some (.int (nI z__)), some (.int (nI 0)), none, none] : AL)) (show 0 = setN (nuF 4 n c) 0 by first | rfl | omega | (simp only [SM_s]; omega) | (simp [SM_s, *]; done) | (simp [SM_s, *]; omega))) ?_
  refine rr_up (al := fun a => [some (.ref 146), none, some (.int (nI 4)), some (.int (nI (setN (nuF 4 n c) a))), some (.int (nI a)), none, none]) (G := fun a => g) (B := fun a => A) (P := fun a => True) (n := n) (fun a ha pa iha => ?_) (fun pa => ?_) 0  (by omega) (trivial)
  · show RR _ _ 29 [some (.ref 146), none, some (.int (nI 4)), some (.int (nI (setN (nuF 4 n c) a))), some (.int (nI a)), none, none] [] g A _
    refine rr_nx (pc' := 31) (al' := [some (.ref 146), none, some (.int (nI 4)), some (.int (nI (setN (nuF 4 n c) a))), some (.int (nI a)), none, none]) (st' := [.int (nI a)]) d_251_29 (fun _ => rfl) ?_
    refine rr_nx (pc' := 32) (al' := [some (.ref 146), none, some (.int (nI 4)), some (.int (nI (setN (nuF 4 n c) a))), some (.int (nI a)), none, none]) (st' := [.ref 146, .int (nI a)]) d_251_31 (fun _ => rfl) ?_
    refine rr_gn d_251_32 mo_251 fl_127 rfl hc.1 ?_
    refine rn_cge (t := 159) d_251_35 (by decide) (by first | omega | assumption | exact cu_36 (by omega) (cu_lt (by omega) (by omega))) (by first | omega | assumption | exact cu_36 (by omega) (cu_lt (by omega) (by omega))) (fun c35 => ?_) (fun c35 => ?_)
    · omega
    · refine rr_nx (pc' := 39) (al' := [some (.ref 146), none, some (.int (nI 4)), some (.int (nI (setN (nuF 4 n c) a))), some (.int (nI a)), none, none]) (st' := [.ref 146]) d_251_38 (fun _ => rfl) ?_
      refine rr_nx (pc' := 41) (al' := [some (.ref 146), none, some (.int (nI 4)), some (.int (nI (setN (nuF 4 n c) a))), some (.int (nI a)), none, none]) (st' := [.int (nI a), .ref 146]) d_251_39 (fun _ => rfl) ?_
      refine rn_ic (v := 0) d_251_41 (by decide) ?_
      refine rr_pv (as := [.int (nI a), .int (nI 0)]) (al0 := [some (.ref 146), some (.int (nI a)), some (.int (nI 0)), none, none, none, none]) (r := []) d_251_42 mo_251 ml_298 mz_252 rfl rfl rfl (Nat.le_of_ble_eq_true rfl) (s_isNuclear0 hc (by omega)) ?_
      show RR _ _ 45 [some (.ref 146), none, some (.int (nI 4)), some (.int (nI (setN (nuF 4 n c) a))), some (.int (nI a)), none, none] [.int (bI (nuB 0 n c a = true))] g A _
      refine rr_beq (t := 72) d_251_45 (by decide) (fun c45 => ?_) (fun c45 => ?_)
      · refine rn_ic (v := 0) d_251_72 (by decide) ?_
        refine rr_nx (pc' := 75) (al' := [some (.ref 146), none, some (.int (nI 4)), some (.int (nI (setN (nuF 4 n c) a))), some (.int (nI a)), some (.int (nI 0)), none]) (st' := []) d_251_73 (fun _ => rfl) ?_
        refine rr_nx (pc' := 76) (al' := [some (.ref 146), none, some (.int (nI 4)), some (.int (nI (setN (nuF 4 n c) a))), some (.int (nI a)), some (.int (nI 0)), none]) (st' := [.int (nI 4)]) d_251_75 (fun _ => rfl) ?_
        refine rn_ic (v := 3) d_251_76 (by decide) ?_
        refine rn_cge (t := 90) d_251_77 (by decide) (by first | omega | assumption | exact cu_36 (by omega) (cu_lt (by omega) (by omega))) (by first | omega | assumption | exact cu_36 (by omega) (cu_lt (by omega) (by omega))) (fun c77 => ?_) (fun c77 => ?_)
        · refine rr_nx (pc' := 91) (al' := [some (.ref 146), none, some (.int (nI 4)), some (.int (nI (setN (nuF 4 n c) a))), some (.int (nI a)), some (.int (nI 0)), none]) (st' := [.int (nI 4)]) d_251_90 (fun _ => rfl) ?_
          refine rn_ic (v := 3) d_251_91 (by decide) ?_
          refine rn_cne (t := 100) d_251_92 (by decide) (by first | omega | assumption | exact cu_36 (by omega) (cu_lt (by omega) (by omega))) (by first | omega | assumption | exact cu_36 (by omega) (cu_lt (by omega) (by omega))) (fun c92 => ?_) (fun c92 => ?_)
          · refine rr_nx (pc' := 101) (al' := [some (.ref 146), none, some (.int (nI 4)), some (.int (nI (setN (nuF 4 n c) a))), some (.int (nI a)), some (.int (nI 0)), none]) (st' := [.int (nI 4)]) d_251_100 (fun _ => rfl) ?_
            refine rn_ic (v := 4) d_251_101 (by decide) ?_
            refine rn_cne (t := 115) d_251_102 (by decide) (by first | omega | assumption | exact cu_36 (by omega) (cu_lt (by omega) (by omega))) (by first | omega | assumption | exact cu_36 (by omega) (cu_lt (by omega) (by omega))) (fun c102 => ?_) (fun c102 => ?_)
            · omega
            · refine rr_nx (pc' := 106) (al' := [some (.ref 146), none, some (.int (nI 4)), some (.int (nI (setN (nuF 4 n c) a))), some (.int (nI a)), some (.int (nI 0)), none]) (st' := [.ref 146]) d_251_105 (fun _ => rfl) ?_
              refine rr_nx (pc' := 108) (al' := [some (.ref 146), none, some (.int (nI 4)), some (.int (nI (setN (nuF 4 n c) a))), some (.int (nI a)), some (.int (nI 0)), none]) (st' := [.int (nI a), .ref 146]) d_251_106 (fun _ => rfl) ?_
              refine rn_ic (v := 3) d_251_108 (by decide) ?_
              refine rr_pv (as := [.int (nI a), .int (nI 3)]) (al0 := [some (.ref 146), some (.int (nI a)), some (.int (nI 3)), none, none, none, none]) (r := []) d_251_109 mo_251 ml_298 mz_252 rfl rfl rfl (Nat.le_of_ble_eq_true rfl) (s_isNuclear3 hc (by omega)) ?_
              show RR _ _ 112 [some (.ref 146), none, some (.int (nI 4)), some (.int (nI (setN (nuF 4 n c) a))), some (.int (nI a)), some (.int (nI 0)), none] [.int (bI (nuB 3 n c a = true))] g A _
              refine rr_nx (pc' := 135) (al' := [some (.ref 146), none, some (.int (nI 4)), some (.int (nI (setN (nuF 4 n c) a))), some (.int (nI a)), some (.int (nI 0)), none]) (st' := [.int (bI (nuB 3 n c a = true))]) d_251_112 (fun _ => rfl) ?_
              refine rr_nx (pc' := 137) (al' := [some (.ref 146), none, some (.int (nI 4)), some (.int (nI (setN (nuF 4 n c) a))), some (.int (nI a)), some (.int (nI 0)), some (.int (bI (nuB 3 n c a = true)))]) (st' := []) d_251_135 (fun _ => rfl) ?_
              refine rr_nx (pc' := 138) (al' := [some (.ref 146), none, some (.int (nI 4)), some (.int (nI (setN (nuF 4 n c) a))), some (.int (nI a)), some (.int (nI 0)), some (.int (bI (nuB 3 n c a = true)))]) (st' := [.int (nI (setN (nuF 4 n c) a))]) d_251_137 (fun _ => rfl) ?_
              refine rr_nx (pc' := 140) (al' := [some (.ref 146), none, some (.int (nI 4)), some (.int (nI (setN (nuF 4 n c) a))), some (.int (nI a)), some (.int (nI 0)), some (.int (bI (nuB 3 n c a = true)))]) (st' := [.int (bI (nuB 3 n c a = true)), .int (nI (setN (nuF 4 n c) a))]) d_251_138 (fun _ => rfl) ?_
              refine rr_beq (t := 150) d_251_140 (by decide) (fun c140 => ?_) (fun c140 => ?_)
              · refine rn_ic (v := 0) d_251_150 (by decide) ?_
                refine rn_or d_251_151 ?_
                refine rr_nx (pc' := 153) (al' := [some (.ref 146), none, some (.int (nI 4)), some (.int (nI ((setN (nuF 4 n c) a) ||| 0))), some (.int (nI a)), some (.int (nI 0)), some (.int (bI (nuB 3 n c a = true)))]) (st' := []) d_251_152 (fun _ => rfl) ?_
                refine rn_inc d_251_153 rfl rfl ?_
                show RR _ _ 156 [some (.ref 146), none, some (.int (nI 4)), some (.int (nI ((setN (nuF 4 n c) a) ||| 0))), some (.int (nI (a + 1))), some (.int (nI 0)), some (.int (bI (nuB 3 n c a = true)))] [] g A _
                refine rr_nx (pc' := 29) (al' := [some (.ref 146), none, some (.int (nI 4)), some (.int (nI ((setN (nuF 4 n c) a) ||| 0))), some (.int (nI (a + 1))), some (.int (nI 0)), some (.int (bI (nuB 3 n c a = true)))]) (st' := []) d_251_156 (fun _ => rfl) ?_
                refine rr_al (congrArg (fun z__ : Nat => ([some (.ref 146), none, some (.int (nI 4)), some (.int (nI z__)), some (.int (nI (a + 1))), some (.int (nI 0)), some (.int (bI (nuB 3 n c a = true)))] : AL)) (show (setN (nuF 4 n c) a) ||| 0 = setN (nuF 4 n c) (a + 1) by first | contradiction | (rw [setN, setN, ORs_s]; congr 1; simp only [nuF]; simp [*]))) ?_
                refine rr_dr (al1 := [some (.ref 146), none, some (.int (nI 4)), some (.int (nI (setN (nuF 4 n c) (a + 1)))), some (.int (nI (a + 1))), none, none]) (le_s (le_s (le_s (le_s (le_s (le_d rfl (le_d rfl (le_n)))))))) ?_
                exact iha  (trivial)
              · refine rn_ic (v := 1) d_251_143 (by decide) ?_
                refine rr_nx (pc' := 146) (al' := [some (.ref 146), none, some (.int (nI 4)), some (.int (nI (setN (nuF 4 n c) a))), some (.int (nI a)), some (.int (nI 0)), some (.int (bI (nuB 3 n c a = true)))]) (st' := [.int (nI a), .int (nI 1), .int (nI (setN (nuF 4 n c) a))]) d_251_144 (fun _ => rfl) ?_
                refine rn_shl d_251_146 (by first | omega | assumption | exact cu_36 (by omega) (cu_lt (by omega) (by omega))) ?_
                refine rr_nx (pc' := 151) (al' := [some (.ref 146), none, some (.int (nI 4)), some (.int (nI (setN (nuF 4 n c) a))), some (.int (nI a)), some (.int (nI 0)), some (.int (bI (nuB 3 n c a = true)))]) (st' := [.int (nI (1 * 2 ^ a)), .int (nI (setN (nuF 4 n c) a))]) d_251_147 (fun _ => rfl) ?_
                refine rn_or d_251_151 ?_
                refine rr_nx (pc' := 153) (al' := [some (.ref 146), none, some (.int (nI 4)), some (.int (nI ((setN (nuF 4 n c) a) ||| (1 * 2 ^ a)))), some (.int (nI a)), some (.int (nI 0)), some (.int (bI (nuB 3 n c a = true)))]) (st' := []) d_251_152 (fun _ => rfl) ?_
                refine rn_inc d_251_153 rfl rfl ?_
                show RR _ _ 156 [some (.ref 146), none, some (.int (nI 4)), some (.int (nI ((setN (nuF 4 n c) a) ||| (1 * 2 ^ a)))), some (.int (nI (a + 1))), some (.int (nI 0)), some (.int (bI (nuB 3 n c a = true)))] [] g A _
                refine rr_nx (pc' := 29) (al' := [some (.ref 146), none, some (.int (nI 4)), some (.int (nI ((setN (nuF 4 n c) a) ||| (1 * 2 ^ a)))), some (.int (nI (a + 1))), some (.int (nI 0)), some (.int (bI (nuB 3 n c a = true)))]) (st' := []) d_251_156 (fun _ => rfl) ?_
                refine rr_al (congrArg (fun z__ : Nat => ([some (.ref 146), none, some (.int (nI 4)), some (.int (nI z__)), some (.int (nI (a + 1))), some (.int (nI 0)), some (.int (bI (nuB 3 n c a = true)))] : AL)) (show (setN (nuF 4 n c) a) ||| (1 * 2 ^ a) = setN (nuF 4 n c) (a + 1) by first | contradiction | (rw [setN, setN, ORs_s]; congr 1; simp only [nuF]; simp [*]))) ?_
                refine rr_dr (al1 := [some (.ref 146), none, some (.int (nI 4)), some (.int (nI (setN (nuF 4 n c) (a + 1)))), some (.int (nI (a + 1))), none, none]) (le_s (le_s (le_s (le_s (le_s (le_d rfl (le_d rfl (le_n)))))))) ?_
                exact iha  (trivial)
          · omega
        · omega
      · refine rr_nx (pc' := 49) (al' := [some (.ref 146), none, some (.int (nI 4)), some (.int (nI (setN (nuF 4 n c) a))), some (.int (nI a)), none, none]) (st' := [.ref 146]) d_251_48 (fun _ => rfl) ?_
        refine rr_nx (pc' := 51) (al' := [some (.ref 146), none, some (.int (nI 4)), some (.int (nI (setN (nuF 4 n c) a))), some (.int (nI a)), none, none]) (st' := [.int (nI a), .ref 146]) d_251_49 (fun _ => rfl) ?_
        refine rn_ic (v := 1) d_251_51 (by decide) ?_
        refine rr_pv (as := [.int (nI a), .int (nI 1)]) (al0 := [some (.ref 146), some (.int (nI a)), some (.int (nI 1)), none, none, none, none]) (r := []) d_251_52 mo_251 ml_298 mz_252 rfl rfl rfl (Nat.le_of_ble_eq_true rfl) (s_isNuclear1 hc (by omega)) ?_
        show RR _ _ 55 [some (.ref 146), none, some (.int (nI 4)), some (.int (nI (setN (nuF 4 n c) a))), some (.int (nI a)), none, none] [.int (bI (nuB 1 n c a = true))] g A _
        refine rr_beq (t := 72) d_251_55 (by decide) (fun c55 => ?_) (fun c55 => ?_)
        · refine rn_ic (v := 0) d_251_72 (by decide) ?_
          refine rr_nx (pc' := 75) (al' := [some (.ref 146), none, some (.int (nI 4)), some (.int (nI (setN (nuF 4 n c) a))), some (.int (nI a)), some (.int (nI 0)), none]) (st' := []) d_251_73 (fun _ => rfl) ?_
          refine rr_nx (pc' := 76) (al' := [some (.ref 146), none, some (.int (nI 4)), some (.int (nI (setN (nuF 4 n c) a))), some (.int (nI a)), some (.int (nI 0)), none]) (st' := [.int (nI 4)]) d_251_75 (fun _ => rfl) ?_
          refine rn_ic (v := 3) d_251_76 (by decide) ?_
          refine rn_cge (t := 90) d_251_77 (by decide) (by first | omega | assumption | exact cu_36 (by omega) (cu_lt (by omega) (by omega))) (by first | omega | assumption | exact cu_36 (by omega) (cu_lt (by omega) (by omega))) (fun c77 => ?_) (fun c77 => ?_)
          · refine rr_nx (pc' := 91) (al' := [some (.ref 146), none, some (.int (nI 4)), some (.int (nI (setN (nuF 4 n c) a))), some (.int (nI a)), some (.int (nI 0)), none]) (st' := [.int (nI 4)]) d_251_90 (fun _ => rfl) ?_
            refine rn_ic (v := 3) d_251_91 (by decide) ?_
            refine rn_cne (t := 100) d_251_92 (by decide) (by first | omega | assumption | exact cu_36 (by omega) (cu_lt (by omega) (by omega))) (by first | omega | assumption | exact cu_36 (by omega) (cu_lt (by omega) (by omega))) (fun c92 => ?_) (fun c92 => ?_)
            · refine rr_nx (pc' := 101) (al' := [some (.ref 146), none, some (.int (nI 4)), some (.int (nI (setN (nuF 4 n c) a))), some (.int (nI a)), some (.int (nI 0)), none]) (st' := [.int (nI 4)]) d_251_100 (fun _ => rfl) ?_
              refine rn_ic (v := 4) d_251_101 (by decide) ?_
              refine rn_cne (t := 115) d_251_102 (by decide) (by first | omega | assumption | exact cu_36 (by omega) (cu_lt (by omega) (by omega))) (by first | omega | assumption | exact cu_36 (by omega) (cu_lt (by omega) (by omega))) (fun c102 => ?_) (fun c102 => ?_)
              · omega
              · refine rr_nx (pc' := 106) (al' := [some (.ref 146), none, some (.int (nI 4)), some (.int (nI (setN (nuF 4 n c) a))), some (.int (nI a)), some (.int (nI 0)), none]) (st' := [.ref 146]) d_251_105 (fun _ => rfl) ?_
                refine rr_nx (pc' := 108) (al' := [some (.ref 146), none, some (.int (nI 4)), some (.int (nI (setN (nuF 4 n c) a))), some (.int (nI a)), some (.int (nI 0)), none]) (st' := [.int (nI a), .ref 146]) d_251_106 (fun _ => rfl) ?_
                refine rn_ic (v := 3) d_251_108 (by decide) ?_
                refine rr_pv (as := [.int (nI a), .int (nI 3)]) (al0 := [some (.ref 146), some (.int (nI a)), some (.int (nI 3)), none, none, none, none]) (r := []) d_251_109 mo_251 ml_298 mz_252 rfl rfl rfl (Nat.le_of_ble_eq_true rfl) (s_isNuclear3 hc (by omega)) ?_
                show RR _ _ 112 [some (.ref 146), none, some (.int (nI 4)), some (.int (nI (setN (nuF 4 n c) a))), some (.int (nI a)), some (.int (nI 0)), none] [.int (bI (nuB 3 n c a = true))] g A _
                refine rr_nx (pc' := 135) (al' := [some (.ref 146), none, some (.int (nI 4)), some (.int (nI (setN (nuF 4 n c) a))), some (.int (nI a)), some (.int (nI 0)), none]) (st' := [.int (bI (nuB 3 n c a = true))]) d_251_112 (fun _ => rfl) ?_
                refine rr_nx (pc' := 137) (al' := [some (.ref 146), none, some (.int (nI 4)), some (.int (nI (setN (nuF 4 n c) a))), some (.int (nI a)), some (.int (nI 0)), some (.int (bI (nuB 3 n c a = true)))]) (st' := []) d_251_135 (fun _ => rfl) ?_
                refine rr_nx (pc' := 138) (al' := [some (.ref 146), none, some (.int (nI 4)), some (.int (nI (setN (nuF 4 n c) a))), some (.int (nI a)), some (.int (nI 0)), some (.int (bI (nuB 3 n c a = true)))]) (st' := [.int (nI (setN (nuF 4 n c) a))]) d_251_137 (fun _ => rfl) ?_
                refine rr_nx (pc' := 140) (al' := [some (.ref 146), none, some (.int (nI 4)), some (.int (nI (setN (nuF 4 n c) a))), some (.int (nI a)), some (.int (nI 0)), some (.int (bI (nuB 3 n c a = true)))]) (st' := [.int (bI (nuB 3 n c a = true)), .int (nI (setN (nuF 4 n c) a))]) d_251_138 (fun _ => rfl) ?_
                refine rr_beq (t := 150) d_251_140 (by decide) (fun c140 => ?_) (fun c140 => ?_)
                · refine rn_ic (v := 0) d_251_150 (by decide) ?_
                  refine rn_or d_251_151 ?_
                  refine rr_nx (pc' := 153) (al' := [some (.ref 146), none, some (.int (nI 4)), some (.int (nI ((setN (nuF 4 n c) a) ||| 0))), some (.int (nI a)), some (.int (nI 0)), some (.int (bI (nuB 3 n c a = true)))]) (st' := []) d_251_152 (fun _ => rfl) ?_
                  refine rn_inc d_251_153 rfl rfl ?_
                  show RR _ _ 156 [some (.ref 146), none, some (.int (nI 4)), some (.int (nI ((setN (nuF 4 n c) a) ||| 0))), some (.int (nI (a + 1))), some (.int (nI 0)), some (.int (bI (nuB 3 n c a = true)))] [] g A _
                  refine rr_nx (pc' := 29) (al' := [some (.ref 146), none, some (.int (nI 4)), some (.int (nI ((setN (nuF 4 n c) a) ||| 0))), some (.int (nI (a + 1))), some (.int (nI 0)), some (.int (bI (nuB 3 n c a = true)))]) (st' := []) d_251_156 (fun _ => rfl) ?_
                  refine rr_al (congrArg (fun z__ : Nat => ([some (.ref 146), none, some (.int (nI 4)), some (.int (nI z__)), some (.int (nI (a + 1))), some (.int (nI 0)), some (.int (bI (nuB 3 n c a = true)))] : AL)) (show (setN (nuF 4 n c) a) ||| 0 = setN (nuF 4 n c) (a + 1) by first | contradiction | (rw [setN, setN, ORs_s]; congr 1; simp only [nuF]; simp [*]))) ?_
                  refine rr_dr (al1 := [some (.ref 146), none, some (.int (nI 4)), some (.int (nI (setN (nuF 4 n c) (a + 1)))), some (.int (nI (a + 1))), none, none]) (le_s (le_s (le_s (le_s (le_s (le_d rfl (le_d rfl (le_n)))))))) ?_
                  exact iha  (trivial)
                · refine rn_ic (v := 1) d_251_143 (by decide) ?_
                  refine rr_nx (pc' := 146) (al' := [some (.ref 146), none, some (.int (nI 4)), some (.int (nI (setN (nuF 4 n c) a))), some (.int (nI a)), some (.int (nI 0)), some (.int (bI (nuB 3 n c a = true)))]) (st' := [.int (nI a), .int (nI 1), .int (nI (setN (nuF 4 n c) a))]) d_251_144 (fun _ => rfl) ?_
                  refine rn_shl d_251_146 (by first | omega | assumption | exact cu_36 (by omega) (cu_lt (by omega) (by omega))) ?_
                  refine rr_nx (pc' := 151) (al' := [some (.ref 146), none, some (.int (nI 4)), some (.int (nI (setN (nuF 4 n c) a))), some (.int (nI a)), some (.int (nI 0)), some (.int (bI (nuB 3 n c a = true)))]) (st' := [.int (nI (1 * 2 ^ a)), .int (nI (setN (nuF 4 n c) a))]) d_251_147 (fun _ => rfl) ?_
                  refine rn_or d_251_151 ?_
                  refine rr_nx (pc' := 153) (al' := [some (.ref 146), none, some (.int (nI 4)), some (.int (nI ((setN (nuF 4 n c) a) ||| (1 * 2 ^ a)))), some (.int (nI a)), some (.int (nI 0)), some (.int (bI (nuB 3 n c a = true)))]) (st' := []) d_251_152 (fun _ => rfl) ?_
                  refine rn_inc d_251_153 rfl rfl ?_
                  show RR _ _ 156 [some (.ref 146), none, some (.int (nI 4)), some (.int (nI ((setN (nuF 4 n c) a) ||| (1 * 2 ^ a)))), some (.int (nI (a + 1))), some (.int (nI 0)), some (.int (bI (nuB 3 n c a = true)))] [] g A _
                  refine rr_nx (pc' := 29) (al' := [some (.ref 146), none, some (.int (nI 4)), some (.int (nI ((setN (nuF 4 n c) a) ||| (1 * 2 ^ a)))), some (.int (nI (a + 1))), some (.int (nI 0)), some (.int (bI (nuB 3 n c a = true)))]) (st' := []) d_251_156 (fun _ => rfl) ?_
                  refine rr_al (congrArg (fun z__ : Nat => ([some (.ref 146), none, some (.int (nI 4)), some (.int (nI z__)), some (.int (nI (a + 1))), some (.int (nI 0)), some (.int (bI (nuB 3 n c a = true)))] : AL)) (show (setN (nuF 4 n c) a) ||| (1 * 2 ^ a) = setN (nuF 4 n c) (a + 1) by first | contradiction | (rw [setN, setN, ORs_s]; congr 1; simp only [nuF]; simp [*]))) ?_
                  refine rr_dr (al1 := [some (.ref 146), none, some (.int (nI 4)), some (.int (nI (setN (nuF 4 n c) (a + 1)))), some (.int (nI (a + 1))), none, none]) (le_s (le_s (le_s (le_s (le_s (le_d rfl (le_d rfl (le_n)))))))) ?_
                  exact iha  (trivial)
            · omega
          · omega
        · refine rr_nx (pc' := 59) (al' := [some (.ref 146), none, some (.int (nI 4)), some (.int (nI (setN (nuF 4 n c) a))), some (.int (nI a)), none, none]) (st' := [.ref 146]) d_251_58 (fun _ => rfl) ?_
          refine rr_nx (pc' := 61) (al' := [some (.ref 146), none, some (.int (nI 4)), some (.int (nI (setN (nuF 4 n c) a))), some (.int (nI a)), none, none]) (st' := [.int (nI a), .ref 146]) d_251_59 (fun _ => rfl) ?_
          refine rn_ic (v := 2) d_251_61 (by decide) ?_
          refine rr_pv (as := [.int (nI a), .int (nI 2)]) (al0 := [some (.ref 146), some (.int (nI a)), some (.int (nI 2)), none, none, none, none]) (r := []) d_251_62 mo_251 ml_298 mz_252 rfl rfl rfl (Nat.le_of_ble_eq_true rfl) (s_isNuclear2 hc (by omega)) ?_
          show RR _ _ 65 [some (.ref 146), none, some (.int (nI 4)), some (.int (nI (setN (nuF 4 n c) a))), some (.int (nI a)), none, none] [.int (bI (nuB 2 n c a = true))] g A _
          refine rr_beq (t := 72) d_251_65 (by decide) (fun c65 => ?_) (fun c65 => ?_)
          · refine rn_ic (v := 0) d_251_72 (by decide) ?_
            refine rr_nx (pc' := 75) (al' := [some (.ref 146), none, some (.int (nI 4)), some (.int (nI (setN (nuF 4 n c) a))), some (.int (nI a)), some (.int (nI 0)), none]) (st' := []) d_251_73 (fun _ => rfl) ?_
            refine rr_nx (pc' := 76) (al' := [some (.ref 146), none, some (.int (nI 4)), some (.int (nI (setN (nuF 4 n c) a))), some (.int (nI a)), some (.int (nI 0)), none]) (st' := [.int (nI 4)]) d_251_75 (fun _ => rfl) ?_
            refine rn_ic (v := 3) d_251_76 (by decide) ?_
            refine rn_cge (t := 90) d_251_77 (by decide) (by first | omega | assumption | exact cu_36 (by omega) (cu_lt (by omega) (by omega))) (by first | omega | assumption | exact cu_36 (by omega) (cu_lt (by omega) (by omega))) (fun c77 => ?_) (fun c77 => ?_)
            · refine rr_nx (pc' := 91) (al' := [some (.ref 146), none, some (.int (nI 4)), some (.int (nI (setN (nuF 4 n c) a))), some (.int (nI a)), some (.int (nI 0)), none]) (st' := [.int (nI 4)]) d_251_90 (fun _ => rfl) ?_
              refine rn_ic (v := 3) d_251_91 (by decide) ?_
              refine rn_cne (t := 100) d_251_92 (by decide) (by first | omega | assumption | exact cu_36 (by omega) (cu_lt (by omega) (by omega))) (by first | omega | assumption | exact cu_36 (by omega) (cu_lt (by omega) (by omega))) (fun c92 => ?_) (fun c92 => ?_)
              · refine rr_nx (pc' := 101) (al' := [some (.ref 146), none, some (.int (nI 4)), some (.int (nI (setN (nuF 4 n c) a))), some (.int (nI a)), some (.int (nI 0)), none]) (st' := [.int (nI 4)]) d_251_100 (fun _ => rfl) ?_
                refine rn_ic (v := 4) d_251_101 (by decide) ?_
                refine rn_cne (t := 115) d_251_102 (by decide) (by first | omega | assumption | exact cu_36 (by omega) (cu_lt (by omega) (by omega))) (by first | omega | assumption | exact cu_36 (by omega) (cu_lt (by omega) (by omega))) (fun c102 => ?_) (fun c102 => ?_)
                · omega
                · refine rr_nx (pc' := 106) (al' := [some (.ref 146), none, some (.int (nI 4)), some (.int (nI (setN (nuF 4 n c) a))), some (.int (nI a)), some (.int (nI 0)), none]) (st' := [.ref 146]) d_251_105 (fun _ => rfl) ?_
                  refine rr_nx (pc' := 108) (al' := [some (.ref 146), none, some (.int (nI 4)), some (.int (nI (setN (nuF 4 n c) a))), some (.int (nI a)), some (.int (nI 0)), none]) (st' := [.int (nI a), .ref 146]) d_251_106 (fun _ => rfl) ?_
                  refine rn_ic (v := 3) d_251_108 (by decide) ?_
                  refine rr_pv (as := [.int (nI a), .int (nI 3)]) (al0 := [some (.ref 146), some (.int (nI a)), some (.int (nI 3)), none, none, none, none]) (r := []) d_251_109 mo_251 ml_298 mz_252 rfl rfl rfl (Nat.le_of_ble_eq_true rfl) (s_isNuclear3 hc (by omega)) ?_
                  show RR _ _ 112 [some (.ref 146), none, some (.int (nI 4)), some (.int (nI (setN (nuF 4 n c) a))), some (.int (nI a)), some (.int (nI 0)), none] [.int (bI (nuB 3 n c a = true))] g A _
                  refine rr_nx (pc' := 135) (al' := [some (.ref 146), none, some (.int (nI 4)), some (.int (nI (setN (nuF 4 n c) a))), some (.int (nI a)), some (.int (nI 0)), none]) (st' := [.int (bI (nuB 3 n c a = true))]) d_251_112 (fun _ => rfl) ?_
                  refine rr_nx (pc' := 137) (al' := [some (.ref 146), none, some (.int (nI 4)), some (.int (nI (setN (nuF 4 n c) a))), some (.int (nI a)), some (.int (nI 0)), some (.int (bI (nuB 3 n c a = true)))]) (st' := []) d_251_135 (fun _ => rfl) ?_
                  refine rr_nx (pc' := 138) (al' := [some (.ref 146), none, some (.int (nI 4)), some (.int (nI (setN (nuF 4 n c) a))), some (.int (nI a)), some (.int (nI 0)), some (.int (bI (nuB 3 n c a = true)))]) (st' := [.int (nI (setN (nuF 4 n c) a))]) d_251_137 (fun _ => rfl) ?_
                  refine rr_nx (pc' := 140) (al' := [some (.ref 146), none, some (.int (nI 4)), some (.int (nI (setN (nuF 4 n c) a))), some (.int (nI a)), some (.int (nI 0)), some (.int (bI (nuB 3 n c a = true)))]) (st' := [.int (bI (nuB 3 n c a = true)), .int (nI (setN (nuF 4 n c) a))]) d_251_138 (fun _ => rfl) ?_
                  refine rr_beq (t := 150) d_251_140 (by decide) (fun c140 => ?_) (fun c140 => ?_)
                  · refine rn_ic (v := 0) d_251_150 (by decide) ?_
                    refine rn_or d_251_151 ?_
                    refine rr_nx (pc' := 153) (al' := [some (.ref 146), none, some (.int (nI 4)), some (.int (nI ((setN (nuF 4 n c) a) ||| 0))), some (.int (nI a)), some (.int (nI 0)), some (.int (bI (nuB 3 n c a = true)))]) (st' := []) d_251_152 (fun _ => rfl) ?_
                    refine rn_inc d_251_153 rfl rfl ?_
                    show RR _ _ 156 [some (.ref 146), none, some (.int (nI 4)), some (.int (nI ((setN (nuF 4 n c) a) ||| 0))), some (.int (nI (a + 1))), some (.int (nI 0)), some (.int (bI (nuB 3 n c a = true)))] [] g A _
                    refine rr_nx (pc' := 29) (al' := [some (.ref 146), none, some (.int (nI 4)), some (.int (nI ((setN (nuF 4 n c) a) ||| 0))), some (.int (nI (a + 1))), some (.int (nI 0)), some (.int (bI (nuB 3 n c a = true)))]) (st' := []) d_251_156 (fun _ => rfl) ?_
                    refine rr_al (congrArg (fun z__ : Nat => ([some (.ref 146), none, some (.int (nI 4)), some (.int (nI z__)), some (.int (nI (a + 1))), some (.int (nI 0)), some (.int (bI (nuB 3 n c a = true)))] : AL)) (show (setN (nuF 4 n c) a) ||| 0 = setN (nuF 4 n c) (a + 1) by first | contradiction | (rw [setN, setN, ORs_s]; congr 1; simp only [nuF]; simp [*]))) ?_
                    refine rr_dr (al1 := [some (.ref 146), none, some (.int (nI 4)), some (.int (nI (setN (nuF 4 n c) (a + 1)))), some (.int (nI (a + 1))), none, none]) (le_s (le_s (le_s (le_s (le_s (le_d rfl (le_d rfl (le_n)))))))) ?_
                    exact iha  (trivial)
                  · refine rn_ic (v := 1) d_251_143 (by decide) ?_
                    refine rr_nx (pc' := 146) (al' := [some (.ref 146), none, some (.int (nI 4)), some (.int (nI (setN (nuF 4 n c) a))), some (.int (nI a)), some (.int (nI 0)), some (.int (bI (nuB 3 n c a = true)))]) (st' := [.int (nI a), .int (nI 1), .int (nI (setN (nuF 4 n c) a))]) d_251_144 (fun _ => rfl) ?_
                    refine rn_shl d_251_146 (by first | omega | assumption | exact cu_36 (by omega) (cu_lt (by omega) (by omega))) ?_
                    refine rr_nx (pc' := 151) (al' := [some (.ref 146), none, some (.int (nI 4)), some (.int (nI (setN (nuF 4 n c) a))), some (.int (nI a)), some (.int (nI 0)), some (.int (bI (nuB 3 n c a = true)))]) (st' := [.int (nI (1 * 2 ^ a)), .int (nI (setN (nuF 4 n c) a))]) d_251_147 (fun _ => rfl) ?_
                    refine rn_or d_251_151 ?_
                    refine rr_nx (pc' := 153) (al' := [some (.ref 146), none, some (.int (nI 4)), some (.int (nI ((setN (nuF 4 n c) a) ||| (1 * 2 ^ a)))), some (.int (nI a)), some (.int (nI 0)), some (.int (bI (nuB 3 n c a = true)))]) (st' := []) d_251_152 (fun _ => rfl) ?_
                    refine rn_inc d_251_153 rfl rfl ?_
                    show RR _ _ 156 [some (.ref 146), none, some (.int (nI 4)), some (.int (nI ((setN (nuF 4 n c) a) ||| (1 * 2 ^ a)))), some (.int (nI (a + 1))), some (.int (nI 0)), some (.int (bI (nuB 3 n c a = true)))] [] g A _
                    refine rr_nx (pc' := 29) (al' := [some (.ref 146), none, some (.int (nI 4)), some (.int (nI ((setN (nuF 4 n c) a) ||| (1 * 2 ^ a)))), some (.int (nI (a + 1))), some (.int (nI 0)), some (.int (bI (nuB 3 n c a = true)))]) (st' := []) d_251_156 (fun _ => rfl) ?_
                    refine rr_al (congrArg (fun z__ : Nat => ([some (.ref 146), none, some (.int (nI 4)), some (.int (nI z__)), some (.int (nI (a + 1))), some (.int (nI 0)), some (.int (bI (nuB 3 n c a = true)))] : AL)) (show (setN (nuF 4 n c) a) ||| (1 * 2 ^ a) = setN (nuF 4 n c) (a + 1) by first | contradiction | (rw [setN, setN, ORs_s]; congr 1; simp only [nuF]; simp [*]))) ?_
                    refine rr_dr (al1 := [some (.ref 146), none, some (.int (nI 4)), some (.int (nI (setN (nuF 4 n c) (a + 1)))), some (.int (nI (a + 1))), none, none]) (le_s (le_s (le_s (le_s (le_s (le_d rfl (le_d rfl (le_n)))))))) ?_
                    exact iha  (trivial)
              · omega
            · omega
          · refine rn_ic (v := 1) d_251_68 (by decide) ?_
            refine rr_nx (pc' := 73) (al' := [some (.ref 146), none, some (.int (nI 4)), some (.int (nI (setN (nuF 4 n c) a))), some (.int (nI a)), none, none]) (st' := [.int (nI 1)]) d_251_69 (fun _ => rfl) ?_
            refine rr_nx (pc' := 75) (al' := [some (.ref 146), none, some (.int (nI 4)), some (.int (nI (setN (nuF 4 n c) a))), some (.int (nI a)), some (.int (nI 1)), none]) (st' := []) d_251_73 (fun _ => rfl) ?_
            refine rr_nx (pc' := 76) (al' := [some (.ref 146), none, some (.int (nI 4)), some (.int (nI (setN (nuF 4 n c) a))), some (.int (nI a)), some (.int (nI 1)), none]) (st' := [.int (nI 4)]) d_251_75 (fun _ => rfl) ?_
            refine rn_ic (v := 3) d_251_76 (by decide) ?_
            refine rn_cge (t := 90) d_251_77 (by decide) (by first | omega | assumption | exact cu_36 (by omega) (cu_lt (by omega) (by omega))) (by first | omega | assumption | exact cu_36 (by omega) (cu_lt (by omega) (by omega))) (fun c77 => ?_) (fun c77 => ?_)
            · refine rr_nx (pc' := 91) (al' := [some (.ref 146), none, some (.int (nI 4)), some (.int (nI (setN (nuF 4 n c) a))), some (.int (nI a)), some (.int (nI 1)), none]) (st' := [.int (nI 4)]) d_251_90 (fun _ => rfl) ?_
              refine rn_ic (v := 3) d_251_91 (by decide) ?_
              refine rn_cne (t := 100) d_251_92 (by decide) (by first | omega | assumption | exact cu_36 (by omega) (cu_lt (by omega) (by omega))) (by first | omega | assumption | exact cu_36 (by omega) (cu_lt (by omega) (by omega))) (fun c92 => ?_) (fun c92 => ?_)
              · refine rr_nx (pc' := 101) (al' := [some (.ref 146), none, some (.int (nI 4)), some (.int (nI (setN (nuF 4 n c) a))), some (.int (nI a)), some (.int (nI 1)), none]) (st' := [.int (nI 4)]) d_251_100 (fun _ => rfl) ?_
                refine rn_ic (v := 4) d_251_101 (by decide) ?_
                refine rn_cne (t := 115) d_251_102 (by decide) (by first | omega | assumption | exact cu_36 (by omega) (cu_lt (by omega) (by omega))) (by first | omega | assumption | exact cu_36 (by omega) (cu_lt (by omega) (by omega))) (fun c102 => ?_) (fun c102 => ?_)
                · omega
                · refine rr_nx (pc' := 106) (al' := [some (.ref 146), none, some (.int (nI 4)), some (.int (nI (setN (nuF 4 n c) a))), some (.int (nI a)), some (.int (nI 1)), none]) (st' := [.ref 146]) d_251_105 (fun _ => rfl) ?_
                  refine rr_nx (pc' := 108) (al' := [some (.ref 146), none, some (.int (nI 4)), some (.int (nI (setN (nuF 4 n c) a))), some (.int (nI a)), some (.int (nI 1)), none]) (st' := [.int (nI a), .ref 146]) d_251_106 (fun _ => rfl) ?_
                  refine rn_ic (v := 3) d_251_108 (by decide) ?_
                  refine rr_pv (as := [.int (nI a), .int (nI 3)]) (al0 := [some (.ref 146), some (.int (nI a)), some (.int (nI 3)), none, none, none, none]) (r := []) d_251_109 mo_251 ml_298 mz_252 rfl rfl rfl (Nat.le_of_ble_eq_true rfl) (s_isNuclear3 hc (by omega)) ?_
                  show RR _ _ 112 [some (.ref 146), none, some (.int (nI 4)), some (.int (nI (setN (nuF 4 n c) a))), some (.int (nI a)), some (.int (nI 1)), none] [.int (bI (nuB 3 n c a = true))] g A _
                  refine rr_nx (pc' := 135) (al' := [some (.ref 146), none, some (.int (nI 4)), some (.int (nI (setN (nuF 4 n c) a))), some (.int (nI a)), some (.int (nI 1)), none]) (st' := [.int (bI (nuB 3 n c a = true))]) d_251_112 (fun _ => rfl) ?_
                  refine rr_nx (pc' := 137) (al' := [some (.ref 146), none, some (.int (nI 4)), some (.int (nI (setN (nuF 4 n c) a))), some (.int (nI a)), some (.int (nI 1)), some (.int (bI (nuB 3 n c a = true)))]) (st' := []) d_251_135 (fun _ => rfl) ?_
                  refine rr_nx (pc' := 138) (al' := [some (.ref 146), none, some (.int (nI 4)), some (.int (nI (setN (nuF 4 n c) a))), some (.int (nI a)), some (.int (nI 1)), some (.int (bI (nuB 3 n c a = true)))]) (st' := [.int (nI (setN (nuF 4 n c) a))]) d_251_137 (fun _ => rfl) ?_
                  refine rr_nx (pc' := 140) (al' := [some (.ref 146), none, some (.int (nI 4)), some (.int (nI (setN (nuF 4 n c) a))), some (.int (nI a)), some (.int (nI 1)), some (.int (bI (nuB 3 n c a = true)))]) (st' := [.int (bI (nuB 3 n c a = true)), .int (nI (setN (nuF 4 n c) a))]) d_251_138 (fun _ => rfl) ?_
                  refine rr_beq (t := 150) d_251_140 (by decide) (fun c140 => ?_) (fun c140 => ?_)
                  · refine rn_ic (v := 0) d_251_150 (by decide) ?_
                    refine rn_or d_251_151 ?_
                    refine rr_nx (pc' := 153) (al' := [some (.ref 146), none, some (.int (nI 4)), some (.int (nI ((setN (nuF 4 n c) a) ||| 0))), some (.int (nI a)), some (.int (nI 1)), some (.int (bI (nuB 3 n c a = true)))]) (st' := []) d_251_152 (fun _ => rfl) ?_
                    refine rn_inc d_251_153 rfl rfl ?_
                    show RR _ _ 156 [some (.ref 146), none, some (.int (nI 4)), some (.int (nI ((setN (nuF 4 n c) a) ||| 0))), some (.int (nI (a + 1))), some (.int (nI 1)), some (.int (bI (nuB 3 n c a = true)))] [] g A _
                    refine rr_nx (pc' := 29) (al' := [some (.ref 146), none, some (.int (nI 4)), some (.int (nI ((setN (nuF 4 n c) a) ||| 0))), some (.int (nI (a + 1))), some (.int (nI 1)), some (.int (bI (nuB 3 n c a = true)))]) (st' := []) d_251_156 (fun _ => rfl) ?_
                    refine rr_al (congrArg (fun z__ : Nat => ([some (.ref 146), none, some (.int (nI 4)), some (.int (nI z__)), some (.int (nI (a + 1))), some (.int (nI 1)), some (.int (bI (nuB 3 n c a = true)))] : AL)) (show (setN (nuF 4 n c) a) ||| 0 = setN (nuF 4 n c) (a + 1) by first | contradiction | (rw [setN, setN, ORs_s]; congr 1; simp only [nuF]; simp [*]))) ?_
                    refine rr_dr (al1 := [some (.ref 146), none, some (.int (nI 4)), some (.int (nI (setN (nuF 4 n c) (a + 1)))), some (.int (nI (a + 1))), none, none]) (le_s (le_s (le_s (le_s (le_s (le_d rfl (le_d rfl (le_n)))))))) ?_
                    exact iha  (trivial)
                  · refine rn_ic (v := 1) d_251_143 (by decide) ?_
                    refine rr_nx (pc' := 146) (al' := [some (.ref 146), none, some (.int (nI 4)), some (.int (nI (setN (nuF 4 n c) a))), some (.int (nI a)), some (.int (nI 1)), some (.int (bI (nuB 3 n c a = true)))]) (st' := [.int (nI a), .int (nI 1), .int (nI (setN (nuF 4 n c) a))]) d_251_144 (fun _ => rfl) ?_
                    refine rn_shl d_251_146 (by first | omega | assumption | exact cu_36 (by omega) (cu_lt (by omega) (by omega))) ?_
                    refine rr_nx (pc' := 151) (al' := [some (.ref 146), none, some (.int (nI 4)), some (.int (nI (setN (nuF 4 n c) a))), some (.int (nI a)), some (.int (nI 1)), some (.int (bI (nuB 3 n c a = true)))]) (st' := [.int (nI (1 * 2 ^ a)), .int (nI (setN (nuF 4 n c) a))]) d_251_147 (fun _ => rfl) ?_
                    refine rn_or d_251_151 ?_
                    refine rr_nx (pc' := 153) (al' := [some (.ref 146), none, some (.int (nI 4)), some (.int (nI ((setN (nuF 4 n c) a) ||| (1 * 2 ^ a)))), some (.int (nI a)), some (.int (nI 1)), some (.int (bI (nuB 3 n c a = true)))]) (st' := []) d_251_152 (fun _ => rfl) ?_
                    refine rn_inc d_251_153 rfl rfl ?_
                    show RR _ _ 156 [some (.ref 146), none, some (.int (nI 4)), some (.int (nI ((setN (nuF 4 n c) a) ||| (1 * 2 ^ a)))), some (.int (nI (a + 1))), some (.int (nI 1)), some (.int (bI (nuB 3 n c a = true)))] [] g A _
                    refine rr_nx (pc' := 29) (al' := [some (.ref 146), none, some (.int (nI 4)), some (.int (nI ((setN (nuF 4 n c) a) ||| (1 * 2 ^ a)))), some (.int (nI (a + 1))), some (.int (nI 1)), some (.int (bI (nuB 3 n c a = true)))]) (st' := []) d_251_156 (fun _ => rfl) ?_
                    refine rr_al (congrArg (fun z__ : Nat => ([some (.ref 146), none, some (.int (nI 4)), some (.int (nI z__)), some (.int (nI (a + 1))), some (.int (nI 1)), some (.int (bI (nuB 3 n c a = true)))] : AL)) (show (setN (nuF 4 n c) a) ||| (1 * 2 ^ a) = setN (nuF 4 n c) (a + 1) by first | contradiction | (rw [setN, setN, ORs_s]; congr 1; simp only [nuF]; simp [*]))) ?_
                    refine rr_dr (al1 := [some (.ref 146), none, some (.int (nI 4)), some (.int (nI (setN (nuF 4 n c) (a + 1)))), some (.int (nI (a + 1))), none, none]) (le_s (le_s (le_s (le_s (le_s (le_d rfl (le_d rfl (le_n)))))))) ?_
                    exact iha  (trivial)
              · omega
            · omega
  · show RR _ _ 29 [some (.ref 146), none, some (.int (nI 4)), some (.int (nI (setN (nuF 4 n c) n))), some (.int (nI n)), none, none] [] g A _
    refine rr_nx (pc' := 31) (al' := [some (.ref 146), none, some (.int (nI 4)), some (.int (nI (setN (nuF 4 n c) n))), some (.int (nI n)), none, none]) (st' := [.int (nI n)]) d_251_29 (fun _ => rfl) ?_
    refine rr_nx (pc' := 32) (al' := [some (.ref 146), none, some (.int (nI 4)), some (.int (nI (setN (nuF 4 n c) n))), some (.int (nI n)), none, none]) (st' := [.ref 146, .int (nI n)]) d_251_31 (fun _ => rfl) ?_
    refine rr_gn d_251_32 mo_251 fl_127 rfl hc.1 ?_
    refine rn_cge (t := 159) d_251_35 (by decide) (by first | omega | assumption | exact cu_36 (by omega) (cu_lt (by omega) (by omega))) (by first | omega | assumption | exact cu_36 (by omega) (cu_lt (by omega) (by omega))) (fun c35 => ?_) (fun c35 => ?_)
    · refine rr_nx (pc' := 160) (al' := [some (.ref 146), none, some (.int (nI 4)), some (.int (nI (setN (nuF 4 n c) n))), some (.int (nI n)), none, none]) (st' := [.int (nI (setN (nuF 4 n c) n))]) d_251_159 (fun _ => rfl) ?_
      exact rr_ri d_251_160 mr_251 rfl ⟨rfl, rfl, rfl⟩
    · omega
theorem s_nucleus5_24 {g : Nat → Int32} {A : Nat → Nat → Int32} {n : Nat} {c : Nat → Nat} (hc : Cur g A n c) : RR 2 251 24 [some (.ref 146), none, some (.int (nI 5)), none, none, none, none] [] g A (rP (some (.int (nI (nuV 5 n c)))) g A) := by
  have hn6 := hc.2.1
  refine rn_ic (v := 0) d_251_24 (by decide) ?_
  refine rr_nx (pc' := 26) (al' := [some (.ref 146), none, some (.int (nI 5)), some (.int (nI 0)), none, none, none]) (st' := []) d_251_25 (fun _ => rfl) ?_
  refine rn_ic (v := 0) d_251_26 (by decide) ?_
  refine rr_nx (pc' := 29) (al' := [some (.ref 146), none, some (.int (nI 5)), some (.int (nI 0)), some (.int (nI 0)), none, none]) (st' := []) d_251_27 (fun _ => rfl) ?_
  refine rr_al (congrArg (fun z__ : Nat => ([some (.ref 146), none, some (.int (nI 5)), some (.int (nI z__)), some (.int (nI 0)), none, none] : AL)) (show 0 = setN (nuF 5 n c) 0 by first | rfl | omega | (simp only [SM_s]; omega) | (simp [SM_s, *]; done) | (simp [SM_s, *]; omega))) ?_
  refine rr_up (al := fun a => [some (.ref 146), none, some (.int (nI 5)), some (.int (nI (setN (nuF 5 n c) a))), some (.int (nI a)), none, none]) (G := fun a => g) (B := fun a => A) (P := fun a => True) (n := n) (fun a ha pa iha => ?_) (fun pa => ?_) 0  (by omega) (trivial)
  · show RR _ _ 29 [some (.ref 146), none, some (.int (nI 5)), some (.int (nI (setN (nuF 5 n c) a))), some (.int (nI a)), none, none] [] g A _
    refine rr_nx (pc' := 31) (al' := [some (.ref 146), none, some (.int (nI 5)), some (.int (nI (setN (nuF 5 n c) a))), some (.int (nI a)), none, none]) (st' := [.int (nI a)]) d_251_29 (fun _ => rfl) ?_
    refine rr_nx (pc' := 32) (al' := [some (.ref 146), none, some (.int (nI 5)), some (.int (nI (setN (nuF 5 n c) a))), some (.int (nI a)), none, none]) (st' := [.ref 146, .int (nI a)]) d_251_31 (fun _ => rfl) ?_
    refine rr_gn d_251_32 mo_251 fl_127 rfl hc.1 ?_
    refine rn_cge (t := 159) d_251_35 (by decide) (by first | omega | assumption | exact cu_36 (by omega) (cu_lt (by omega) (by omega))) (by first | omega | assumption | exact cu_36 (by omega) (cu_lt (by omega) (by omega))) (fun c35 => ?_) (fun c35 => ?_)
    · omega
    · refine rr_nx (pc' := 39) (al' := [some (.ref 146), none, some (.int (nI 5)), some (.int (nI (setN (nuF 5 n c) a))), some (.int (nI a)), none, none]) (st' := [.ref 146]) d_251_38 (fun _ => rfl) ?_
      refine rr_nx (pc' := 41) (al' := [some (.ref 146), none, some (.int (nI 5)), some (.int (nI (setN (nuF 5 n c) a))), some (.int (nI a)), none, none]) (st' := [.int (nI a), .ref 146]) d_251_39 (fun _ => rfl) ?_
      refine rn_ic (v := 0) d_251_41 (by decide) ?_
      refine rr_pv (as := [.int (nI a), .int (nI 0)]) (al0 := [some (.ref 146), some (.int (nI a)), some (.int (nI 0)), none, none, none, none]) (r := []) d_251_42 mo_251 ml_298 mz_252 rfl rfl rfl (Nat.le_of_ble_eq_true rfl) (s_isNuclear0 hc (by omega)) ?_
      show RR _ _ 45 [some (.ref 146), none, some (.int (nI 5)), some (.int (nI (setN (nuF 5 n c) a))), some (.int (nI a)), none, none] [.int (bI (nuB 0 n c a = true))] g A _
      refine rr_beq (t := 72) d_251_45 (by decide) (fun c45 => ?_) (fun c45 => ?_)
      · refine rn_ic (v := 0) d_251_72 (by decide) ?_
        refine rr_nx (pc' := 75) (al' := [some (.ref 146), none, some (.int (nI 5)), some (.int (nI (setN (nuF 5 n c) a))), some (.int (nI a)), some (.int (nI 0)), none]) (st' := []) d_251_73 (fun _ => rfl) ?_
        refine rr_nx (pc' := 76) (al' := [some (.ref 146), none, some (.int (nI 5)), some (.int (nI (setN (nuF 5 n c) a))), some (.int (nI a)), some (.int (nI 0)), none]) (st' := [.int (nI 5)]) d_251_75 (fun _ => rfl) ?_
        refine rn_ic (v := 3) d_251_76 (by decide) ?_
        refine rn_cge (t := 90) d_251_77 (by decide) (by first | omega | assumption | exact cu_36 (by omega) (cu_lt (by omega) (by omega))) (by first | omega | assumption | exact cu_36 (by omega) (cu_lt (by omega) (by omega))) (fun c77 => ?_) (fun c77 => ?_)
        · refine rr_nx (pc' := 91) (al' := [some (.ref 146), none, some (.int (nI 5)), some (.int (nI (setN (nuF 5 n c) a))), some (.int (nI a)), some (.int (nI 0)), none]) (st' := [.int (nI 5)]) d_251_90 (fun _ => rfl) ?_
          refine rn_ic (v := 3) d_251_91 (by decide) ?_
          refine rn_cne (t := 100) d_251_92 (by decide) (by first | omega | assumption | exact cu_36 (by omega) (cu_lt (by omega) (by omega))) (by first | omega | assumption | exact cu_36 (by omega) (cu_lt (by omega) (by omega))) (fun c92 => ?_) (fun c92 => ?_)
          · refine rr_nx (pc' := 101) (al' := [some (.ref 146), none, some (.int (nI 5)), some (.int (nI (setN (nuF 5 n c) a))), some (.int (nI a)), some (.int (nI 0)), none]) (st' := [.int (nI 5)]) d_251_100 (fun _ => rfl) ?_
            refine rn_ic (v := 4) d_251_101 (by decide) ?_
            refine rn_cne (t := 115) d_251_102 (by decide) (by first | omega | assumption | exact cu_36 (by omega) (cu_lt (by omega) (by omega))) (by first | omega | assumption | exact cu_36 (by omega) (cu_lt (by omega) (by omega))) (fun c102 => ?_) (fun c102 => ?_)
            · refine rr_nx (pc' := 117) (al' := [some (.ref 146), none, some (.int (nI 5)), some (.int (nI (setN (nuF 5 n c) a))), some (.int (nI a)), some (.int (nI 0)), none]) (st' := [.int (nI 0)]) d_251_115 (fun _ => rfl) ?_
              refine rn_ieq (t := 134) d_251_117 (by decide) (by first | omega | assumption | exact cu_36 (by omega) (cu_lt (by omega) (by omega))) (fun c117 => ?_) (fun c117 => ?_)
              · refine rn_ic (v := 0) d_251_134 (by decide) ?_
                refine rr_nx (pc' := 137) (al' := [some (.ref 146), none, some (.int (nI 5)), some (.int (nI (setN (nuF 5 n c) a))), some (.int (nI a)), some (.int (nI 0)), some (.int (nI 0))]) (st' := []) d_251_135 (fun _ => rfl) ?_
                refine rr_nx (pc' := 138) (al' := [some (.ref 146), none, some (.int (nI 5)), some (.int (nI (setN (nuF 5 n c) a))), some (.int (nI a)), some (.int (nI 0)), some (.int (nI 0))]) (st' := [.int (nI (setN (nuF 5 n c) a))]) d_251_137 (fun _ => rfl) ?_
                refine rr_nx (pc' := 140) (al' := [some (.ref 146), none, some (.int (nI 5)), some (.int (nI (setN (nuF 5 n c) a))), some (.int (nI a)), some (.int (nI 0)), some (.int (nI 0))]) (st' := [.int (nI 0), .int (nI (setN (nuF 5 n c) a))]) d_251_138 (fun _ => rfl) ?_
                refine rn_ieq (t := 150) d_251_140 (by decide) (by first | omega | assumption | exact cu_36 (by omega) (cu_lt (by omega) (by omega))) (fun c140 => ?_) (fun c140 => ?_)
                · refine rn_ic (v := 0) d_251_150 (by decide) ?_
                  refine rn_or d_251_151 ?_
                  refine rr_nx (pc' := 153) (al' := [some (.ref 146), none, some (.int (nI 5)), some (.int (nI ((setN (nuF 5 n c) a) ||| 0))), some (.int (nI a)), some (.int (nI 0)), some (.int (nI 0))]) (st' := []) d_251_152 (fun _ => rfl) ?_
                  refine rn_inc d_251_153 rfl rfl ?_
                  show RR _ _ 156 [some (.ref 146), none, some (.int (nI 5)), some (.int (nI ((setN (nuF 5 n c) a) ||| 0))), some (.int (nI (a + 1))), some (.int (nI 0)), some (.int (nI 0))] [] g A _
                  refine rr_nx (pc' := 29) (al' := [some (.ref 146), none, some (.int (nI 5)), some (.int (nI ((setN (nuF 5 n c) a) ||| 0))), some (.int (nI (a + 1))), some (.int (nI 0)), some (.int (nI 0))]) (st' := []) d_251_156 (fun _ => rfl) ?_
                  refine rr_al (congrArg (fun z__ : Nat => ([some (.ref 146), none, some (.int (nI 5)), some (.int (nI z__)), some (.int (nI (a + 1))), some (.int (nI 0)), some (.int (nI 0))] : AL)) (show (setN (nuF 5 n c) a) ||| 0 = setN (nuF 5 n c) (a + 1) by first | contradiction | (rw [setN, setN, ORs_s]; congr 1; simp only [nuF]; simp [*]))) ?_
                  refine rr_dr (al1 := [some (.ref 146), none, some (.int (nI 5)), some (.int (nI (setN (nuF 5 n c) (a + 1)))), some (.int (nI (a + 1))), none, none]) (le_s (le_s (le_s (le_s (le_s (le_d rfl (le_d rfl (le_n)))))))) ?_
                  exact iha  (trivial)
                · omega
              · omega
            · omega
          · omega
        · omega
      · refine rr_nx (pc' := 49) (al' := [some (.ref 146), none, some (.int (nI 5)), some (.int (nI (setN (nuF 5 n c) a))), some (.int (nI a)), none, none]) (st' := [.ref 146]) d_251_48 (fun _ => rfl) ?_
        refine rr_nx (pc' := 51) (al' := [some (.ref 146), none, some (.int (nI 5)), some (.int (nI (setN (nuF 5 n c) a))), some (.int (nI a)), none, none]) (st' := [.int (nI a), .ref 146]) d_251_49 (fun _ => rfl) ?_
        refine rn_ic (v := 1) d_251_51 (by decide) ?_
        refine rr_pv (as := [.int (nI a), .int (nI 1)]) (al0 := [some (.ref 146), some (.int (nI a)), some (.int (nI 1)), none, none, none, none]) (r := []) d_251_52 mo_251 ml_298 mz_252 rfl rfl rfl (Nat.le_of_ble_eq_true rfl) (s_isNuclear1 hc (by omega)) ?_
        show RR _ _ 55 [some (.ref 146), none, some (.int (nI 5)), some (.int (nI (setN (nuF 5 n c) a))), some (.int (nI a)), none, none] [.int (bI (nuB 1 n c a = true))] g A _
        refine rr_beq (t := 72) d_251_55 (by decide) (fun c55 => ?_) (fun c55 => ?_)
        · refine rn_ic (v := 0) d_251_72 (by decide) ?_
          refine rr_nx (pc' := 75) (al' := [some (.ref 146), none, some (.int (nI 5)), some (.int (nI (setN (nuF 5 n c) a))), some (.int (nI a)), some (.int (nI 0)), none]) (st' := []) d_251_73 (fun _ => rfl) ?_
          refine rr_nx (pc' := 76) (al' := [some (.ref 146), none, some (.int (nI 5)), some (.int (nI (setN (nuF 5 n c) a))), some (.int (nI a)), some (.int (nI 0)), none]) (st' := [.int (nI 5)]) d_251_75 (fun _ => rfl) ?_
          refine rn_ic (v := 3) d_251_76 (by decide) ?_
          refine rn_cge (t := 90) d_251_77 (by decide) (by first | omega | assumption | exact cu_36 (by omega) (cu_lt (by omega) (by omega))) (by first | omega | assumption | exact cu_36 (by omega) (cu_lt (by omega) (by omega))) (fun c77 => ?_) (fun c77 => ?_)
          · refine rr_nx (pc' := 91) (al' := [some (.ref 146), none, some (.int (nI 5)), some (.int (nI (setN (nuF 5 n c) a))), some (.int (nI a)), some (.int (nI 0)), none]) (st' := [.int (nI 5)]) d_251_90 (fun _ => rfl) ?_
            refine rn_ic (v := 3) d_251_91 (by decide) ?_
            refine rn_cne (t := 100) d_251_92 (by decide) (by first | omega | assumption | exact cu_36 (by omega) (cu_lt (by omega) (by omega))) (by first | omega | assumption | exact cu_36 (by omega) (cu_lt (by omega) (by omega))) (fun c92 => ?_) (fun c92 => ?_)
            · refine rr_nx (pc' := 101) (al' := [some (.ref 146), none, some (.int (nI 5)), some (.int (nI (setN (nuF 5 n c) a))), some (.int (nI a)), some (.int (nI 0)), none]) (st' := [.int (nI 5)]) d_251_100 (fun _ => rfl) ?_
              refine rn_ic (v := 4) d_251_101 (by decide) ?_
              refine rn_cne (t := 115) d_251_102 (by decide) (by first | omega | assumption | exact cu_36 (by omega) (cu_lt (by omega) (by omega))) (by first | omega | assumption | exact cu_36 (by omega) (cu_lt (by omega) (by omega))) (fun c102 => ?_) (fun c102 => ?_)
              · refine rr_nx (pc' := 117) (al' := [some (.ref 146), none, some (.int (nI 5)), some (.int (nI (setN (nuF 5 n c) a))), some (.int (nI a)), some (.int (nI 0)), none]) (st' := [.int (nI 0)]) d_251_115 (fun _ => rfl) ?_
                refine rn_ieq (t := 134) d_251_117 (by decide) (by first | omega | assumption | exact cu_36 (by omega) (cu_lt (by omega) (by omega))) (fun c117 => ?_) (fun c117 => ?_)
                · refine rn_ic (v := 0) d_251_134 (by decide) ?_
                  refine rr_nx (pc' := 137) (al' := [some (.ref 146), none, some (.int (nI 5)), some (.int (nI (setN (nuF 5 n c) a))), some (.int (nI a)), some (.int (nI 0)), some (.int (nI 0))]) (st' := []) d_251_135 (fun _ => rfl) ?_
                  refine rr_nx (pc' := 138) (al' := [some (.ref 146), none, some (.int (nI 5)), some (.int (nI (setN (nuF 5 n c) a))), some (.int (nI a)), some (.int (nI 0)), some (.int (nI 0))]) (st' := [.int (nI (setN (nuF 5 n c) a))]) d_251_137 (fun _ => rfl) ?_
                  refine rr_nx (pc' := 140) (al' := [some (.ref 146), none, some (.int (nI 5)), some (.int (nI (setN (nuF 5 n c) a))), some (.int (nI a)), some (.int (nI 0)), some (.int (nI 0))]) (st' := [.int (nI 0), .int (nI (setN (nuF 5 n c) a))]) d_251_138 (fun _ => rfl) ?_
                  refine rn_ieq (t := 150) d_251_140 (by decide) (by first | omega | assumption | exact cu_36 (by omega) (cu_lt (by omega) (by omega))) (fun c140 => ?_) (fun c140 => ?_)
                  · refine rn_ic (v := 0) d_251_150 (by decide) ?_
                    refine rn_or d_251_151 ?_
                    refine rr_nx (pc' := 153) (al' := [some (.ref 146), none, some (.int (nI 5)), some (.int (nI ((setN (nuF 5 n c) a) ||| 0))), some (.int (nI a)), some (.int (nI 0)), some (.int (nI 0))]) (st' := []) d_251_152 (fun _ => rfl) ?_
                    refine rn_inc d_251_153 rfl rfl ?_
                    show RR _ _ 156 [some (.ref 146), none, some (.int (nI 5)), some (.int (nI ((setN (nuF 5 n c) a) ||| 0))), some (.int (nI (a + 1))), some (.int (nI 0)), some (.int (nI 0))] [] g A _
                    refine rr_nx (pc' := 29) (al' := [some (.ref 146), none, some (.int (nI 5)), some (.int (nI ((setN (nuF 5 n c) a) ||| 0))), some (.int (nI (a + 1))), some (.int (nI 0)), some (.int (nI 0))]) (st' := []) d_251_156 (fun _ => rfl) ?_
                    refine rr_al (congrArg (fun z__ : Nat => ([some (.ref 146), none, some (.int (nI 5)), some (.int (nI z__)), some (.int (nI (a + 1))), some (.int (nI 0)), some (.int (nI 0))] : AL)) (show (setN (nuF 5 n c) a) ||| 0 = setN (nuF 5 n c) (a + 1) by first | contradiction | (rw [setN, setN, ORs_s]; congr 1; simp only [nuF]; simp [*]))) ?_
                    refine rr_dr (al1 := [some (.ref 146), none, some (.int (nI 5)), some (.int (nI (setN (nuF 5 n c) (a + 1)))), some (.int (nI (a + 1))), none, none]) (le_s (le_s (le_s (le_s (le_s (le_d rfl (le_d rfl (le_n)))))))) ?_
                    exact iha  (trivial)
                  · omega
                · omega
              · omega
            · omega
          · omega
        · refine rr_nx (pc' := 59) (al' := [some (.ref 146), none, some (.int (nI 5)), some (.int (nI (setN (nuF 5 n c) a))), some (.int (nI a)), none, none]) (st' := [.ref 146]) d_251_58 (fun _ => rfl) ?_
          refine rr_nx (pc' := 61) (al' := [some (.ref 146), none, some (.int (nI 5)), some (.int (nI (setN (nuF 5 n c) a))), some (.int (nI a)), none, none]) (st' := [.int (nI a), .ref 146]) d_251_59 (fun _ => rfl) ?_
          refine rn_ic (v := 2) d_251_61 (by decide) ?_
          refine rr_pv (as := [.int (nI a), .int (nI 2)]) (al0 := [some (.ref 146), some (.int (nI a)), some (.int (nI 2)), none, none, none, none]) (r := []) d_251_62 mo_251 ml_298 mz_252 rfl rfl rfl (Nat.le_of_ble_eq_true rfl) (s_isNuclear2 hc (by omega)) ?_
          show RR _ _ 65 [some (.ref 146), none, some (.int (nI 5)), some (.int (nI (setN (nuF 5 n c) a))), some (.int (nI a)), none, none] [.int (bI (nuB 2 n c a = true))] g A _
          refine rr_beq (t := 72) d_251_65 (by decide) (fun c65 => ?_) (fun c65 => ?_)
          · refine rn_ic (v := 0) d_251_72 (by decide) ?_
            refine rr_nx (pc' := 75) (al' := [some (.ref 146), none, some (.int (nI 5)), some (.int (nI (setN (nuF 5 n c) a))), some (.int (nI a)), some (.int (nI 0)), none]) (st' := []) d_251_73 (fun _ => rfl) ?_
            refine rr_nx (pc' := 76) (al' := [some (.ref 146), none, some (.int (nI 5)), some (.int (nI (setN (nuF 5 n c) a))), some (.int (nI a)), some (.int (nI 0)), none]) (st' := [.int (nI 5)]) d_251_75 (fun _ => rfl) ?_
            refine rn_ic (v := 3) d_251_76 (by decide) ?_
            refine rn_cge (t := 90) d_251_77 (by decide) (by first | omega | assumption | exact cu_36 (by omega) (cu_lt (by omega) (by omega))) (by first | omega | assumption | exact cu_36 (by omega) (cu_lt (by omega) (by omega))) (fun c77 => ?_) (fun c77 => ?_)
            · refine rr_nx (pc' := 91) (al' := [some (.ref 146), none, some (.int (nI 5)), some (.int (nI (setN (nuF 5 n c) a))), some (.int (nI a)), some (.int (nI 0)), none]) (st' := [.int (nI 5)]) d_251_90 (fun _ => rfl) ?_
              refine rn_ic (v := 3) d_251_91 (by decide) ?_
              refine rn_cne (t := 100) d_251_92 (by decide) (by first | omega | assumption | exact cu_36 (by omega) (cu_lt (by omega) (by omega))) (by first | omega | assumption | exact cu_36 (by omega) (cu_lt (by omega) (by omega))) (fun c92 => ?_) (fun c92 => ?_)
              · refine rr_nx (pc' := 101) (al' := [some (.ref 146), none, some (.int (nI 5)), some (.int (nI (setN (nuF 5 n c) a))), some (.int (nI a)), some (.int (nI 0)), none]) (st' := [.int (nI 5)]) d_251_100 (fun _ => rfl) ?_
                refine rn_ic (v := 4) d_251_101 (by decide) ?_
                refine rn_cne (t := 115) d_251_102 (by decide) (by first | omega | assumption | exact cu_36 (by omega) (cu_lt (by omega) (by omega))) (by first | omega | assumption | exact cu_36 (by omega) (cu_lt (by omega) (by omega))) (fun c102 => ?_) (fun c102 => ?_)
                · refine rr_nx (pc' := 117) (al' := [some (.ref 146), none, some (.int (nI 5)), some (.int (nI (setN (nuF 5 n c) a))), some (.int (nI a)), some (.int (nI 0)), none]) (st' := [.int (nI 0)]) d_251_115 (fun _ => rfl) ?_
                  refine rn_ieq (t := 134) d_251_117 (by decide) (by first | omega | assumption | exact cu_36 (by omega) (cu_lt (by omega) (by omega))) (fun c117 => ?_) (fun c117 => ?_)
                  · refine rn_ic (v := 0) d_251_134 (by decide) ?_
                    refine rr_nx (pc' := 137) (al' := [some (.ref 146), none, some (.int (nI 5)), some (.int (nI (setN (nuF 5 n c) a))), some (.int (nI a)), some (.int (nI 0)), some (.int (nI 0))]) (st' := []) d_251_135 (fun _ => rfl) ?_
                    refine rr_nx (pc' := 138) (al' := [some (.ref 146), none, some (.int (nI 5)), some (.int (nI (setN (nuF 5 n c) a))), some (.int (nI a)), some (.int (nI 0)), some (.int (nI 0))]) (st' := [.int (nI (setN (nuF 5 n c) a))]) d_251_137 (fun _ => rfl) ?_
                    refine rr_nx (pc' := 140) (al' := [some (.ref 146), none, some (.int (nI 5)), some (.int (nI (setN (nuF 5 n c) a))), some (.int (nI a)), some (.int (nI 0)), some (.int (nI 0))]) (st' := [.int (nI 0), .int (nI (setN (nuF 5 n c) a))]) d_251_138 (fun _ => rfl) ?_
                    refine rn_ieq (t := 150) d_251_140 (by decide) (by first | omega | assumption | exact cu_36 (by omega) (cu_lt (by omega) (by omega))) (fun c140 => ?_) (fun c140 => ?_)
                    · refine rn_ic (v := 0) d_251_150 (by decide) ?_
                      refine rn_or d_251_151 ?_
                      refine rr_nx (pc' := 153) (al' := [some (.ref 146), none, some (.int (nI 5)), some (.int (nI ((setN (nuF 5 n c) a) ||| 0))), some (.int (nI a)), some (.int (nI 0)), some (.int (nI 0))]) (st' := []) d_251_152 (fun _ => rfl) ?_
                      refine rn_inc d_251_153 rfl rfl ?_
                      show RR _ _ 156 [some (.ref 146), none, some (.int (nI 5)), some (.int (nI ((setN (nuF 5 n c) a) ||| 0))), some (.int (nI (a + 1))), some (.int (nI 0)), some (.int (nI 0))] [] g A _
                      refine rr_nx (pc' := 29) (al' := [some (.ref 146), none, some (.int (nI 5)), some (.int (nI ((setN (nuF 5 n c) a) ||| 0))), some (.int (nI (a + 1))), some (.int (nI 0)), some (.int (nI 0))]) (st' := []) d_251_156 (fun _ => rfl) ?_
                      refine rr_al (congrArg (fun z__ : Nat => ([some (.ref 146), none, some (.int (nI 5)), some (.int (nI z__)), some (.int (nI (a + 1))), some (.int (nI 0)), some (.int (nI 0))] : AL)) (show (setN (nuF 5 n c) a) ||| 0 = setN (nuF 5 n c) (a + 1) by first | contradiction | (rw [setN, setN, ORs_s]; congr 1; simp only [nuF]; simp [*]))) ?_
                      refine rr_dr (al1 := [some (.ref 146), none, some (.int (nI 5)), some (.int (nI (setN (nuF 5 n c) (a + 1)))), some (.int (nI (a + 1))), none, none]) (le_s (le_s (le_s (le_s (le_s (le_d rfl (le_d rfl (le_n)))))))) ?_
                      exact iha  (trivial)
                    · omega
                  · omega
                · omega
              · omega
            · omega
          · refine rn_ic (v := 1) d_251_68 (by decide) ?_
            refine rr_nx (pc' := 73) (al' := [some (.ref 146), none, some (.int (nI 5)), some (.int (nI (setN (nuF 5 n c) a))), some (.int (nI a)), none, none]) (st' := [.int (nI 1)]) d_251_69 (fun _ => rfl) ?_
            refine rr_nx (pc' := 75) (al' := [some (.ref 146), none, some (.int (nI 5)), some (.int (nI (setN (nuF 5 n c) a))), some (.int (nI a)), some (.int (nI 1)), none]) (st' := []) d_251_73 (fun _ => rfl) ?_
            refine rr_nx (pc' := 76) (al' := [some (.ref 146), none, some (.int (nI 5)), some (.int (nI (setN (nuF 5 n c) a))), some (.int (nI a)), some (.int (nI 1)), none]) (st' := [.int (nI 5)]) d_251_75 (fun _ => rfl) ?_
            refine rn_ic (v := 3) d_251_76 (by decide) ?_
            refine rn_cge (t := 90) d_251_77 (by decide) (by first | omega | assumption | exact cu_36 (by omega) (cu_lt (by omega) (by omega))) (by first | omega | assumption | exact cu_36 (by omega) (cu_lt (by omega) (by omega))) (fun c77 => ?_) (fun c77 => ?_)
            · refine rr_nx (pc' := 91) (al' := [some (.ref 146), none, some (.int (nI 5)), some (.int (nI (setN (nuF 5 n c) a))), some (.int (nI a)), some (.int (nI 1)), none]) (st' := [.int (nI 5)]) d_251_90 (fun _ => rfl) ?_
              refine rn_ic (v := 3) d_251_91 (by decide) ?_
              refine rn_cne (t := 100) d_251_92 (by decide) (by first | omega | assumption | exact cu_36 (by omega) (cu_lt (by omega) (by omega))) (by first | omega | assumption | exact cu_36 (by omega) (cu_lt (by omega) (by omega))) (fun c92 => ?_) (fun c92 => ?_)
              · refine rr_nx (pc' := 101) (al' := [some (.ref 146), none, some (.int (nI 5)), some (.int (nI (setN (nuF 5 n c) a))), some (.int (nI a)), some (.int (nI 1)), none]) (st' := [.int (nI 5)]) d_251_100 (fun _ => rfl) ?_
                refine rn_ic (v := 4) d_251_101 (by decide) ?_
                refine rn_cne (t := 115) d_251_102 (by decide) (by first | omega | assumption | exact cu_36 (by omega) (cu_lt (by omega) (by omega))) (by first | omega | assumption | exact cu_36 (by omega) (cu_lt (by omega) (by omega))) (fun c102 => ?_) (fun c102 => ?_)
                · refine rr_nx (pc' := 117) (al' := [some (.ref 146), none, some (.int (nI 5)), some (.int (nI (setN (nuF 5 n c) a))), some (.int (nI a)), some (.int (nI 1)), none]) (st' := [.int (nI 1)]) d_251_115 (fun _ => rfl) ?_
                  refine rn_ieq (t := 134) d_251_117 (by decide) (by first | omega | assumption | exact cu_36 (by omega) (cu_lt (by omega) (by omega))) (fun c117 => ?_) (fun c117 => ?_)
                  · omega
                  · refine rr_nx (pc' := 121) (al' := [some (.ref 146), none, some (.int (nI 5)), some (.int (nI (setN (nuF 5 n c) a))), some (.int (nI a)), some (.int (nI 1)), none]) (st' := [.ref 146]) d_251_120 (fun _ => rfl) ?_
                    refine rr_nx (pc' := 123) (al' := [some (.ref 146), none, some (.int (nI 5)), some (.int (nI (setN (nuF 5 n c) a))), some (.int (nI a)), some (.int (nI 1)), none]) (st' := [.int (nI a), .ref 146]) d_251_121 (fun _ => rfl) ?_
                    refine rn_ic (v := 3) d_251_123 (by decide) ?_
                    refine rr_pv (as := [.int (nI a), .int (nI 3)]) (al0 := [some (.ref 146), some (.int (nI a)), some (.int (nI 3)), none, none, none, none]) (r := []) d_251_124 mo_251 ml_298 mz_252 rfl rfl rfl (Nat.le_of_ble_eq_true rfl) (s_isNuclear3 hc (by omega)) ?_
                    show RR _ _ 127 [some (.ref 146), none, some (.int (nI 5)), some (.int (nI (setN (nuF 5 n c) a))), some (.int (nI a)), some (.int (nI 1)), none] [.int (bI (nuB 3 n c a = true))] g A _
                    refine rr_beq (t := 134) d_251_127 (by decide) (fun c127 => ?_) (fun c127 => ?_)
                    · refine rn_ic (v := 0) d_251_134 (by decide) ?_
                      refine rr_nx (pc' := 137) (al' := [some (.ref 146), none, some (.int (nI 5)), some (.int (nI (setN (nuF 5 n c) a))), some (.int (nI a)), some (.int (nI 1)), some (.int (nI 0))]) (st' := []) d_251_135 (fun _ => rfl) ?_
                      refine rr_nx (pc' := 138) (al' := [some (.ref 146), none, some (.int (nI 5)), some (.int (nI (setN (nuF 5 n c) a))), some (.int (nI a)), some (.int (nI 1)), some (.int (nI 0))]) (st' := [.int (nI (setN (nuF 5 n c) a))]) d_251_137 (fun _ => rfl) ?_
                      refine rr_nx (pc' := 140) (al' := [some (.ref 146), none, some (.int (nI 5)), some (.int (nI (setN (nuF 5 n c) a))), some (.int (nI a)), some (.int (nI 1)), some (.int (nI 0))]) (st' := [.int (nI 0), .int (nI (setN (nuF 5 n c) a))]) d_251_138 (fun _ => rfl) ?_
                      refine rn_ieq (t := 150) d_251_140 (by decide) (by first | omega | assumption | exact cu_36 (by omega) (cu_lt (by omega) (by omega))) (fun c140 => ?_) (fun c140 => ?_)
                      · refine rn_ic (v := 0) d_251_150 (by decide) ?_
                        refine rn_or d_251_151 ?_
                        refine rr_nx (pc' := 153) (al' := [some (.ref 146), none, some (.int (nI 5)), some (.int (nI ((setN (nuF 5 n c) a) ||| 0))), some (.int (nI a)), some (.int (nI 1)), some (.int (nI 0))]) (st' := []) d_251_152 (fun _ => rfl) ?_
                        refine rn_inc d_251_153 rfl rfl ?_
                        show RR _ _ 156 [some (.ref 146), none, some (.int (nI 5)), some (.int (nI ((setN (nuF 5 n c) a) ||| 0))), some (.int (nI (a + 1))), some (.int (nI 1)), some (.int (nI 0))] [] g A _
                        refine rr_nx (pc' := 29) (al' := [some (.ref 146), none, some (.int (nI 5)), some (.int (nI ((setN (nuF 5 n c) a) ||| 0))), some (.int (nI (a + 1))), some (.int (nI 1)), some (.int (nI 0))]) (st' := []) d_251_156 (fun _ => rfl) ?_
                        refine rr_al (congrArg (fun z__ : Nat => ([some (.ref 146), none, some (.int (nI 5)), some (.int (nI z__)), some (.int (nI (a + 1))), some (.int (nI 1)), some (.int (nI 0))] : AL)) (show (setN (nuF 5 n c) a) ||| 0 = setN (nuF 5 n c) (a + 1) by first | contradiction | (rw [setN, setN, ORs_s]; congr 1; simp only [nuF]; simp [*]))) ?_
                        refine rr_dr (al1 := [some (.ref 146), none, some (.int (nI 5)), some (.int (nI (setN (nuF 5 n c) (a + 1)))), some (.int (nI (a + 1))), none, none]) (le_s (le_s (le_s (le_s (le_s (le_d rfl (le_d rfl (le_n)))))))) ?_
                        exact iha  (trivial)
                      · omega
                    · refine rn_ic (v := 1) d_251_130 (by decide) ?_
                      refine rr_nx (pc' := 135) (al' := [some (.ref 146), none, some (.int (nI 5)), some (.int (nI (setN (nuF 5 n c) a))), some (.int (nI a)), some (.int (nI 1)), none]) (st' := [.int (nI 1)]) d_251_131 (fun _ => rfl) ?_
                      refine rr_nx (pc' := 137) (al' := [some (.ref 146), none, some (.int (nI 5)), some (.int (nI (setN (nuF 5 n c) a))), some (.int (nI a)), some (.int (nI 1)), some (.int (nI 1))]) (st' := []) d_251_135 (fun _ => rfl) ?_
                      refine rr_nx (pc' := 138) (al' := [some (.ref 146), none, some (.int (nI 5)), some (.int (nI (setN (nuF 5 n c) a))), some (.int (nI a)), some (.int (nI 1)), some (.int (nI 1))]) (st' := [.int (nI (setN (nuF 5 n c) a))]) d_251_137 (fun _ => rfl) ?_
                      refine rr_nx (pc' := 140) (al' := [some (.ref 146), none, some (.int (nI 5)), some (.int (nI (setN (nuF 5 n c) a))), some (.int (nI a)), some (.int (nI 1)), some (.int (nI 1))]) (st' := [.int (nI 1), .int (nI (setN (nuF 5 n c) a))]) d_251_138 (fun _ => rfl) ?_
                      refine rn_ieq (t := 150) d_251_140 (by decide) (by first | omega | assumption | exact cu_36 (by omega) (cu_lt (by omega) (by omega))) (fun c140 => ?_) (fun c140 => ?_)
                      · omega
                      · refine rn_ic (v := 1) d_251_143 (by decide) ?_
                        refine rr_nx (pc' := 146) (al' := [some (.ref 146), none, some (.int (nI 5)), some (.int (nI (setN (nuF 5 n c) a))), some (.int (nI a)), some (.int (nI 1)), some (.int (nI 1))]) (st' := [.int (nI a), .int (nI 1), .int (nI (setN (nuF 5 n c) a))]) d_251_144 (fun _ => rfl) ?_
                        refine rn_shl d_251_146 (by first | omega | assumption | exact cu_36 (by omega) (cu_lt (by omega) (by omega))) ?_
                        refine rr_nx (pc' := 151) (al' := [some (.ref 146), none, some (.int (nI 5)), some (.int (nI (setN (nuF 5 n c) a))), some (.int (nI a)), some (.int (nI 1)), some (.int (nI 1))]) (st' := [.int (nI (1 * 2 ^ a)), .int (nI (setN (nuF 5 n c) a))]) d_251_147 (fun _ => rfl) ?_
                        refine rn_or d_251_151 ?_
                        refine rr_nx (pc' := 153) (al' := [some (.ref 146), none, some (.int (nI 5)), some (.int (nI ((setN (nuF 5 n c) a) ||| (1 * 2 ^ a)))), some (.int (nI a)), some (.int (nI 1)), some (.int (nI 1))]) (st' := []) d_251_152 (fun _ => rfl) ?_
                        refine rn_inc d_251_153 rfl rfl ?_
                        show RR _ _ 156 [some (.ref 146), none, some (.int (nI 5)), some (.int (nI ((setN (nuF 5 n c) a) ||| (1 * 2 ^ a)))), some (.int (nI (a + 1))), some (.int (nI 1)), some (.int (nI 1))] [] g A _
                        refine rr_nx (pc' := 29) (al' := [some (.ref 146), none, some (.int (nI 5)), some (.int (nI ((setN (nuF 5 n c) a) ||| (1 * 2 ^ a)))), some (.int (nI (a + 1))), some (.int (nI 1)), some (.int (nI 1))]) (st' := []) d_251_156 (fun _ => rfl) ?_
                        refine rr_al (congrArg (fun z__ : Nat => ([some (.ref 146), none, some (.int (nI 5)), some (.int (nI z__)), some (.int (nI (a + 1))), some (.int (nI 1)), some (.int (nI 1))] : AL)) (show (setN (nuF 5 n c) a) ||| (1 * 2 ^ a) = setN (nuF 5 n c) (a + 1) by first | contradiction | (rw [setN, setN, ORs_s]; congr 1; simp only [nuF]; simp [*]))) ?_
                        refine rr_dr (al1 := [some (.ref 146), none, some (.int (nI 5)), some (.int (nI (setN (nuF 5 n c) (a + 1)))), some (.int (nI (a + 1))), none, none]) (le_s (le_s (le_s (le_s (le_s (le_d rfl (le_d rfl (le_n)))))))) ?_
                        exact iha  (trivial)
                · omega
              · omega
            · omega
  · show RR _ _ 29 [some (.ref 146), none, some (.int (nI 5)), some (.int (nI (setN (nuF 5 n c) n))), some (.int (nI n)), none, none] [] g A _
    refine rr_nx (pc' := 31) (al' := [some (.ref 146), none, some (.int (nI 5)), some (.int (nI (setN (nuF 5 n c) n))), some (.int (nI n)), none, none]) (st' := [.int (nI n)]) d_251_29 (fun _ => rfl) ?_
    refine rr_nx (pc' := 32) (al' := [some (.ref 146), none, some (.int (nI 5)), some (.int (nI (setN (nuF 5 n c) n))), some (.int (nI n)), none, none]) (st' := [.ref 146, .int (nI n)]) d_251_31 (fun _ => rfl) ?_
    refine rr_gn d_251_32 mo_251 fl_127 rfl hc.1 ?_
    refine rn_cge (t := 159) d_251_35 (by decide) (by first | omega | assumption | exact cu_36 (by omega) (cu_lt (by omega) (by omega))) (by first | omega | assumption | exact cu_36 (by omega) (cu_lt (by omega) (by omega))) (fun c35 => ?_) (fun c35 => ?_)
    · refine rr_nx (pc' := 160) (al' := [some (.ref 146), none, some (.int (nI 5)), some (.int (nI (setN (nuF 5 n c) n))), some (.int (nI n)), none, none]) (st' := [.int (nI (setN (nuF 5 n c) n))]) d_251_159 (fun _ => rfl) ?_
      exact rr_ri d_251_160 mr_251 rfl ⟨rfl, rfl, rfl⟩
    · omega
