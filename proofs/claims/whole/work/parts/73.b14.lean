/-! Squares, transversals, mates: rules for longs, theory, the reference; printed by wip/whole/gen_b14.py. -/
theorem lz_or (a b : Nat) : lN a ||| lN b = lN (a ||| b) := by
  apply Int64.toBitVec_inj.mp
  show BitVec.ofNat 64 a ||| BitVec.ofNat 64 b = BitVec.ofNat 64 (a ||| b)
  rw [BitVec.ofNat_or]
theorem lz_and (a b : Nat) : lN a &&& lN b = lN (a &&& b) := by
  apply Int64.toBitVec_inj.mp
  show BitVec.ofNat 64 a &&& BitVec.ofNat 64 b = BitVec.ofNat 64 (a &&& b)
  rw [BitVec.ofNat_and]
theorem lz_c : ∀ k, k < 64 → ((nI k).toInt64 &&& 63) = lN k := by decide +kernel
theorem lz_sm : ∀ k, k < 64 → (BitVec.ofNat 64 k).smod 64 = BitVec.ofNat 64 k := by decide +kernel
theorem lz_tb (n : Nat) : (lN n).toBitVec = BitVec.ofNat 64 n := rfl
theorem lz_shl (n : Nat) {k : Nat} (hk : k < 64) : lN n <<< ((nI k).toInt64 &&& 63) = lN (n * 2 ^ k) := by
  rw [lz_c k hk]
  apply Int64.toBitVec_inj.mp
  rw [Int64.toBitVec_shiftLeft, lz_tb, lz_tb, lz_tb, lz_sm k hk]
  apply BitVec.eq_of_toNat_eq
  rw [BitVec.shiftLeft_eq', BitVec.toNat_shiftLeft, BitVec.toNat_ofNat, BitVec.toNat_ofNat, BitVec.toNat_ofNat, Nat.mod_eq_of_lt (show k < 2 ^ 64 by omega), Nat.shiftLeft_eq, Nat.mul_mod, Nat.mod_mod, ← Nat.mul_mod]
theorem lz_shr {n k : Nat} (hk : k < 64) (hn : n < 2 ^ 63) : lN n >>> ((nI k).toInt64 &&& 63) = lN (n / 2 ^ k) := by
  rw [lz_c k hk]
  apply Int64.toBitVec_inj.mp
  rw [Int64.toBitVec_shiftRight, lz_tb, lz_tb, lz_tb, lz_sm k hk]
  have hm : (BitVec.ofNat 64 n).msb = false := by
    rw [BitVec.msb_eq_false_iff_two_mul_lt, BitVec.toNat_ofNat, Nat.mod_eq_of_lt (by omega)]
    omega
  rw [BitVec.sshiftRight_eq', BitVec.sshiftRight_eq_of_msb_false hm]
  apply BitVec.eq_of_toNat_eq
  rw [BitVec.toNat_ushiftRight, BitVec.toNat_ofNat, BitVec.toNat_ofNat, BitVec.toNat_ofNat, Nat.mod_eq_of_lt (show k < 2 ^ 64 by omega), Nat.mod_eq_of_lt (show n < 2 ^ 64 by omega), Nat.shiftRight_eq_div_pow, Nat.mod_eq_of_lt (Nat.lt_of_le_of_lt (Nat.div_le_self _ _) (show n < 2 ^ 64 by omega))]
theorem lg_0 {a : Nat} (h : a < 2 ^ 63) : lg_cmp (lN a) (lN 0) = 0 ↔ a = 0 := by
  unfold lg_cmp
  constructor
  · intro e
    by_cases h1 : lN a > lN 0
    · rw [if_pos h1] at e
      exact absurd e (by decide)
    · rw [if_neg h1] at e
      by_cases h2 : lN a = lN 0
      · have := congrArg (fun x : Int64 => x.toBitVec.toNat) h2
        simp only [lz_tb, BitVec.toNat_ofNat] at this
        rw [Nat.mod_eq_of_lt (by omega)] at this
        simpa using this
      · rw [if_neg h2] at e
        exact absurd e (by decide)
  · intro e
    subst e
    rw [if_neg (by decide), if_pos rfl]
section longs
variable {k y pc : Nat} {al : AL} {r : List Value} {S : CS} {G : Nat → Nat → Value} {B : Nat → Nat → Int32} {J : Nat → Nat → Int64} {R : Nat → Nat → Option Nat} {Q : CQ}
theorem cr_lor {a b : Nat} (hd : decode (am_b y) pc = .ok (.lor, 1)) (kk : CR k y (pc + 1) al (.long (lN (a ||| b)) :: r) S G B J R Q) : CR k y pc al (.long (lN b) :: .long (lN a) :: r) S G B J R Q := by
  refine cr_nx (pc' := pc + 1) (al' := al) (st' := .long (lN a ||| lN b) :: r) hd (fun _ => rfl) ?_
  rw [lz_or]
  exact kk
theorem cr_land {a b : Nat} (hd : decode (am_b y) pc = .ok (.land, 1)) (kk : CR k y (pc + 1) al (.long (lN (a &&& b)) :: r) S G B J R Q) : CR k y pc al (.long (lN b) :: .long (lN a) :: r) S G B J R Q := by
  refine cr_nx (pc' := pc + 1) (al' := al) (st' := .long (lN a &&& lN b) :: r) hd (fun _ => rfl) ?_
  rw [lz_and]
  exact kk
theorem cr_lshl {a b : Nat} (hd : decode (am_b y) pc = .ok (.lshl, 1)) (hb : b < 64) (kk : CR k y (pc + 1) al (.long (lN (a * 2 ^ b)) :: r) S G B J R Q) : CR k y pc al (.int (nI b) :: .long (lN a) :: r) S G B J R Q := by
  refine cr_nx (pc' := pc + 1) (al' := al) (st' := .long (lN a <<< ((nI b).toInt64 &&& 63)) :: r) hd (fun _ => rfl) ?_
  rw [lz_shl a hb]
  exact kk
theorem cr_lshr {a b : Nat} (hd : decode (am_b y) pc = .ok (.lshr, 1)) (hb : b < 64) (ha : a < 2 ^ 63) (kk : CR k y (pc + 1) al (.long (lN (a / 2 ^ b)) :: r) S G B J R Q) : CR k y pc al (.int (nI b) :: .long (lN a) :: r) S G B J R Q := by
  refine cr_nx (pc' := pc + 1) (al' := al) (st' := .long (lN a >>> ((nI b).toInt64 &&& 63)) :: r) hd (fun _ => rfl) ?_
  rw [lz_shr hb ha]
  exact kk
end longs
/-- squares: two rows s < l, two columns u < v -/
def sqF (n : Nat) (c : Nat → Nat) (s l u v : Nat) : Nat := if c (n * s + u) = c (n * l + v) ∧ c (n * s + v) = c (n * l + u) then 1 else 0
def tri (f : Nat → Nat → Nat) (n : Nat) : Nat := SM (fun l => SM (fun s => f s l) l) n
def trR (f : Nat → Nat → Nat) (n : Nat) : Nat := SM (fun s => SM (fun l => if s < l then f s l else 0) n) n
theorem SM_0s : ∀ {f : Nat → Nat} {n : Nat}, (∀ i, i < n → f i = 0) → SM f n = 0
  | f, 0, _ => rfl
  | f, n + 1, h => by rw [SM_s, SM_0s (fun i hi => h i (by omega)), h n (by omega)]
theorem tri_R (f : Nat → Nat → Nat) : ∀ n, trR f n = tri f n
  | 0 => rfl
  | n + 1 => by
    have h := tri_R f n
    unfold trR at h ⊢
    unfold tri at h ⊢
    rw [SM_s (fun s => SM (fun l => if s < l then f s l else 0) (n + 1)) n, SM_s (fun l => SM (fun s => f s l) l) n, ← h]
    have h0 : SM (fun l => if n < l then f n l else 0) (n + 1) = 0 := SM_0s (fun i hi => if_neg (by omega))
    rw [h0, Nat.add_zero, SM_c (h := fun s => SM (fun l => if s < l then f s l else 0) n + f s n) (fun s hs => by rw [SM_s, if_pos hs]), SM_add]
def sqC (n : Nat) (c : Nat → Nat) (s l : Nat) : Nat := tri (fun u v => sqF n c s l u v) n
def sqN (n : Nat) (c : Nat → Nat) : Nat := tri (sqC n c) n
theorem sq_R {n : Nat} {c : Nat → Nat} : trR (fun s l => trR (fun u v => sqF n c s l u v) n) n = sqN n c := by
  rw [tri_R]
  unfold sqN sqC
  congr 1
  funext s l
  exact tri_R _ n
theorem s_crossings2_24 {g : Nat → Int32} {A : Nat → Nat → Int32} {n : Nat} {c : Nat → Nat} (hc : Cur g A n c) : RR 1 264 24 [some (.ref 146), none, some (.int (nI 2)), none, none, none, none, none] [] g A (rP (some (.int (nI (sqN n c)))) g A) := by
  have hn6 := hc.2.1
  refine rn_ic (v := 0) d_264_24 (by decide) ?_
  refine rr_nx (pc' := 26) (al' := [some (.ref 146), none, some (.int (nI 2)), some (.int (nI 0)), none, none, none, none]) (st' := []) d_264_25 (fun _ => rfl) ?_
  refine rr_nx (pc' := 27) (al' := [some (.ref 146), none, some (.int (nI 2)), some (.int (nI 0)), none, none, none, none]) (st' := [.int (nI 2)]) d_264_26 (fun _ => rfl) ?_
  refine rn_ic (v := 2) d_264_27 (by decide) ?_
  refine rn_cne (t := 157) d_264_28 (by decide) (by first | omega | assumption | exact cu_36 (by omega) (cu_lt (by omega) (by omega))) (by first | omega | assumption | exact cu_36 (by omega) (cu_lt (by omega) (by omega))) (fun c28 => ?_) (fun c28 => ?_)
  · omega
  · refine rn_ic (v := 0) d_264_31 (by decide) ?_
    refine rr_nx (pc' := 34) (al' := [some (.ref 146), none, some (.int (nI 2)), some (.int (nI 0)), some (.int (nI 0)), none, none, none]) (st' := []) d_264_32 (fun _ => rfl) ?_
    refine rr_al (congrArg (fun z__ : Nat => ([some (.ref 146), none, some (.int (nI 2)), some (.int (nI z__)), some (.int (nI 0)), none, none, none] : AL)) (show 0 = SM (fun a => SM (fun b => if a < b then trR (fun u v => sqF n c a b u v) n else 0) n) 0 by rfl)) ?_
    refine rr_up (al := fun a => [some (.ref 146), none, some (.int (nI 2)), some (.int (nI (SM (fun a => SM (fun b => if a < b then trR (fun u v => sqF n c a b u v) n else 0) n) a))), some (.int (nI a)), none, none, none]) (G := fun a => g) (B := fun a => A) (P := fun a => True) (n := n) (fun a ha pa iha => ?_) (fun pa => ?_) 0  (by omega) (trivial)
    · show RR _ _ 34 [some (.ref 146), none, some (.int (nI 2)), some (.int (nI (SM (fun a => SM (fun b => if a < b then trR (fun u v => sqF n c a b u v) n else 0) n) a))), some (.int (nI a)), none, none, none] [] g A _
      refine rr_nx (pc' := 36) (al' := [some (.ref 146), none, some (.int (nI 2)), some (.int (nI (SM (fun a => SM (fun b => if a < b then trR (fun u v => sqF n c a b u v) n else 0) n) a))), some (.int (nI a)), none, none, none]) (st' := [.int (nI a)]) d_264_34 (fun _ => rfl) ?_
      refine rr_nx (pc' := 37) (al' := [some (.ref 146), none, some (.int (nI 2)), some (.int (nI (SM (fun a => SM (fun b => if a < b then trR (fun u v => sqF n c a b u v) n else 0) n) a))), some (.int (nI a)), none, none, none]) (st' := [.ref 146, .int (nI a)]) d_264_36 (fun _ => rfl) ?_
      refine rr_gn d_264_37 mo_264 fl_127 rfl hc.1 ?_
      refine rn_cge (t := 155) d_264_40 (by decide) (by first | omega | assumption | exact cu_36 (by omega) (cu_lt (by omega) (by omega))) (by first | omega | assumption | exact cu_36 (by omega) (cu_lt (by omega) (by omega))) (fun c40 => ?_) (fun c40 => ?_)
      · omega
      · refine rr_nx (pc' := 45) (al' := [some (.ref 146), none, some (.int (nI 2)), some (.int (nI (SM (fun a => SM (fun b => if a < b then trR (fun u v => sqF n c a b u v) n else 0) n) a))), some (.int (nI a)), none, none, none]) (st' := [.int (nI a)]) d_264_43 (fun _ => rfl) ?_
        refine rn_ic (v := 1) d_264_45 (by decide) ?_
        refine rn_add d_264_46  ?_
        refine rr_nx (pc' := 49) (al' := [some (.ref 146), none, some (.int (nI 2)), some (.int (nI (SM (fun a => SM (fun b => if a < b then trR (fun u v => sqF n c a b u v) n else 0) n) a))), some (.int (nI a)), some (.int (nI (a + 1))), none, none]) (st' := []) d_264_47 (fun _ => rfl) ?_
        refine rr_al (congrArg (fun z__ : Nat => ([some (.ref 146), none, some (.int (nI 2)), some (.int (nI z__)), some (.int (nI a)), some (.int (nI (a + 1))), none, none] : AL)) (show SM (fun a => SM (fun b => if a < b then trR (fun u v => sqF n c a b u v) n else 0) n) a = SM (fun a => SM (fun b => if a < b then trR (fun u v => sqF n c a b u v) n else 0) n) a + SM (fun b => if a < b then trR (fun u v => sqF n c a b u v) n else 0) (a + 1) by rw [SM_0s (f := (fun b => if a < b then trR (fun u v => sqF n c a b u v) n else 0)) (n := a + 1) (fun i hi => if_neg (by omega))]; rfl)) ?_
        refine rr_up (al := fun b => [some (.ref 146), none, some (.int (nI 2)), some (.int (nI (SM (fun a => SM (fun b => if a < b then trR (fun u v => sqF n c a b u v) n else 0) n) a + SM (fun b => if a < b then trR (fun u v => sqF n c a b u v) n else 0) b))), some (.int (nI a)), some (.int (nI b)), none, none]) (G := fun b => g) (B := fun b => A) (P := fun b => a + 1 ≤ b) (n := n) (fun b hb pb ihb => ?_) (fun pb => ?_) (a + 1)  (by omega) (Nat.le_refl _)
        · show RR _ _ 49 [some (.ref 146), none, some (.int (nI 2)), some (.int (nI (SM (fun a => SM (fun b => if a < b then trR (fun u v => sqF n c a b u v) n else 0) n) a + SM (fun b => if a < b then trR (fun u v => sqF n c a b u v) n else 0) b))), some (.int (nI a)), some (.int (nI b)), none, none] [] g A _
          refine rr_nx (pc' := 51) (al' := [some (.ref 146), none, some (.int (nI 2)), some (.int (nI (SM (fun a => SM (fun b => if a < b then trR (fun u v => sqF n c a b u v) n else 0) n) a + SM (fun b => if a < b then trR (fun u v => sqF n c a b u v) n else 0) b))), some (.int (nI a)), some (.int (nI b)), none, none]) (st' := [.int (nI b)]) d_264_49 (fun _ => rfl) ?_
          refine rr_nx (pc' := 52) (al' := [some (.ref 146), none, some (.int (nI 2)), some (.int (nI (SM (fun a => SM (fun b => if a < b then trR (fun u v => sqF n c a b u v) n else 0) n) a + SM (fun b => if a < b then trR (fun u v => sqF n c a b u v) n else 0) b))), some (.int (nI a)), some (.int (nI b)), none, none]) (st' := [.ref 146, .int (nI b)]) d_264_51 (fun _ => rfl) ?_
          refine rr_gn d_264_52 mo_264 fl_127 rfl hc.1 ?_
          refine rn_cge (t := 149) d_264_55 (by decide) (by first | omega | assumption | exact cu_36 (by omega) (cu_lt (by omega) (by omega))) (by first | omega | assumption | exact cu_36 (by omega) (cu_lt (by omega) (by omega))) (fun c55 => ?_) (fun c55 => ?_)
          · omega
          · refine rn_ic (v := 0) d_264_58 (by decide) ?_
            refine rr_nx (pc' := 61) (al' := [some (.ref 146), none, some (.int (nI 2)), some (.int (nI (SM (fun a => SM (fun b => if a < b then trR (fun u v => sqF n c a b u v) n else 0) n) a + SM (fun b => if a < b then trR (fun u v => sqF n c a b u v) n else 0) b))), some (.int (nI a)), some (.int (nI b)), some (.int (nI 0)), none]) (st' := []) d_264_59 (fun _ => rfl) ?_
            refine rr_al (congrArg (fun z__ : Nat => ([some (.ref 146), none, some (.int (nI 2)), some (.int (nI z__)), some (.int (nI a)), some (.int (nI b)), some (.int (nI 0)), none] : AL)) (show SM (fun a => SM (fun b => if a < b then trR (fun u v => sqF n c a b u v) n else 0) n) a + SM (fun b => if a < b then trR (fun u v => sqF n c a b u v) n else 0) b = SM (fun a => SM (fun b => if a < b then trR (fun u v => sqF n c a b u v) n else 0) n) a + SM (fun b => if a < b then trR (fun u v => sqF n c a b u v) n else 0) b + SM (fun cc => SM (fun d => if cc < d then sqF n c a b cc d else 0) n) 0 by rfl)) ?_
            refine rr_up (al := fun cc => [some (.ref 146), none, some (.int (nI 2)), some (.int (nI (SM (fun a => SM (fun b => if a < b then trR (fun u v => sqF n c a b u v) n else 0) n) a + SM (fun b => if a < b then trR (fun u v => sqF n c a b u v) n else 0) b + SM (fun cc => SM (fun d => if cc < d then sqF n c a b cc d else 0) n) cc))), some (.int (nI a)), some (.int (nI b)), some (.int (nI cc)), none]) (G := fun cc => g) (B := fun cc => A) (P := fun cc => True) (n := n) (fun cc hcc pcc ihcc => ?_) (fun pcc => ?_) 0  (by omega) (trivial)
            · show RR _ _ 61 [some (.ref 146), none, some (.int (nI 2)), some (.int (nI (SM (fun a => SM (fun b => if a < b then trR (fun u v => sqF n c a b u v) n else 0) n) a + SM (fun b => if a < b then trR (fun u v => sqF n c a b u v) n else 0) b + SM (fun cc => SM (fun d => if cc < d then sqF n c a b cc d else 0) n) cc))), some (.int (nI a)), some (.int (nI b)), some (.int (nI cc)), none] [] g A _
              refine rr_nx (pc' := 63) (al' := [some (.ref 146), none, some (.int (nI 2)), some (.int (nI (SM (fun a => SM (fun b => if a < b then trR (fun u v => sqF n c a b u v) n else 0) n) a + SM (fun b => if a < b then trR (fun u v => sqF n c a b u v) n else 0) b + SM (fun cc => SM (fun d => if cc < d then sqF n c a b cc d else 0) n) cc))), some (.int (nI a)), some (.int (nI b)), some (.int (nI cc)), none]) (st' := [.int (nI cc)]) d_264_61 (fun _ => rfl) ?_
              refine rr_nx (pc' := 64) (al' := [some (.ref 146), none, some (.int (nI 2)), some (.int (nI (SM (fun a => SM (fun b => if a < b then trR (fun u v => sqF n c a b u v) n else 0) n) a + SM (fun b => if a < b then trR (fun u v => sqF n c a b u v) n else 0) b + SM (fun cc => SM (fun d => if cc < d then sqF n c a b cc d else 0) n) cc))), some (.int (nI a)), some (.int (nI b)), some (.int (nI cc)), none]) (st' := [.ref 146, .int (nI cc)]) d_264_63 (fun _ => rfl) ?_
              refine rr_gn d_264_64 mo_264 fl_127 rfl hc.1 ?_
              refine rn_cge (t := 143) d_264_67 (by decide) (by first | omega | assumption | exact cu_36 (by omega) (cu_lt (by omega) (by omega))) (by first | omega | assumption | exact cu_36 (by omega) (cu_lt (by omega) (by omega))) (fun c67 => ?_) (fun c67 => ?_)
              · omega
              · refine rr_nx (pc' := 72) (al' := [some (.ref 146), none, some (.int (nI 2)), some (.int (nI (SM (fun a => SM (fun b => if a < b then trR (fun u v => sqF n c a b u v) n else 0) n) a + SM (fun b => if a < b then trR (fun u v => sqF n c a b u v) n else 0) b + SM (fun cc => SM (fun d => if cc < d then sqF n c a b cc d else 0) n) cc))), some (.int (nI a)), some (.int (nI b)), some (.int (nI cc)), none]) (st' := [.int (nI cc)]) d_264_70 (fun _ => rfl) ?_
                refine rn_ic (v := 1) d_264_72 (by decide) ?_
                refine rn_add d_264_73  ?_
                refine rr_nx (pc' := 76) (al' := [some (.ref 146), none, some (.int (nI 2)), some (.int (nI (SM (fun a => SM (fun b => if a < b then trR (fun u v => sqF n c a b u v) n else 0) n) a + SM (fun b => if a < b then trR (fun u v => sqF n c a b u v) n else 0) b + SM (fun cc => SM (fun d => if cc < d then sqF n c a b cc d else 0) n) cc))), some (.int (nI a)), some (.int (nI b)), some (.int (nI cc)), some (.int (nI (cc + 1)))]) (st' := []) d_264_74 (fun _ => rfl) ?_
                refine rr_al (congrArg (fun z__ : Nat => ([some (.ref 146), none, some (.int (nI 2)), some (.int (nI z__)), some (.int (nI a)), some (.int (nI b)), some (.int (nI cc)), some (.int (nI (cc + 1)))] : AL)) (show SM (fun a => SM (fun b => if a < b then trR (fun u v => sqF n c a b u v) n else 0) n) a + SM (fun b => if a < b then trR (fun u v => sqF n c a b u v) n else 0) b + SM (fun cc => SM (fun d => if cc < d then sqF n c a b cc d else 0) n) cc = SM (fun a => SM (fun b => if a < b then trR (fun u v => sqF n c a b u v) n else 0) n) a + SM (fun b => if a < b then trR (fun u v => sqF n c a b u v) n else 0) b + SM (fun cc => SM (fun d => if cc < d then sqF n c a b cc d else 0) n) cc + SM (fun d => if cc < d then sqF n c a b cc d else 0) (cc + 1) by rw [SM_0s (f := (fun d => if cc < d then sqF n c a b cc d else 0)) (n := cc + 1) (fun i hi => if_neg (by omega))]; rfl)) ?_
                refine rr_up (al := fun d => [some (.ref 146), none, some (.int (nI 2)), some (.int (nI (SM (fun a => SM (fun b => if a < b then trR (fun u v => sqF n c a b u v) n else 0) n) a + SM (fun b => if a < b then trR (fun u v => sqF n c a b u v) n else 0) b + SM (fun cc => SM (fun d => if cc < d then sqF n c a b cc d else 0) n) cc + SM (fun d => if cc < d then sqF n c a b cc d else 0) d))), some (.int (nI a)), some (.int (nI b)), some (.int (nI cc)), some (.int (nI d))]) (G := fun d => g) (B := fun d => A) (P := fun d => cc + 1 ≤ d) (n := n) (fun d hd pd ihd => ?_) (fun pd => ?_) (cc + 1)  (by omega) (Nat.le_refl _)
                · show RR _ _ 76 [some (.ref 146), none, some (.int (nI 2)), some (.int (nI (SM (fun a => SM (fun b => if a < b then trR (fun u v => sqF n c a b u v) n else 0) n) a + SM (fun b => if a < b then trR (fun u v => sqF n c a b u v) n else 0) b + SM (fun cc => SM (fun d => if cc < d then sqF n c a b cc d else 0) n) cc + SM (fun d => if cc < d then sqF n c a b cc d else 0) d))), some (.int (nI a)), some (.int (nI b)), some (.int (nI cc)), some (.int (nI d))] [] g A _
                  refine rr_nx (pc' := 78) (al' := [some (.ref 146), none, some (.int (nI 2)), some (.int (nI (SM (fun a => SM (fun b => if a < b then trR (fun u v => sqF n c a b u v) n else 0) n) a + SM (fun b => if a < b then trR (fun u v => sqF n c a b u v) n else 0) b + SM (fun cc => SM (fun d => if cc < d then sqF n c a b cc d else 0) n) cc + SM (fun d => if cc < d then sqF n c a b cc d else 0) d))), some (.int (nI a)), some (.int (nI b)), some (.int (nI cc)), some (.int (nI d))]) (st' := [.int (nI d)]) d_264_76 (fun _ => rfl) ?_
                  refine rr_nx (pc' := 79) (al' := [some (.ref 146), none, some (.int (nI 2)), some (.int (nI (SM (fun a => SM (fun b => if a < b then trR (fun u v => sqF n c a b u v) n else 0) n) a + SM (fun b => if a < b then trR (fun u v => sqF n c a b u v) n else 0) b + SM (fun cc => SM (fun d => if cc < d then sqF n c a b cc d else 0) n) cc + SM (fun d => if cc < d then sqF n c a b cc d else 0) d))), some (.int (nI a)), some (.int (nI b)), some (.int (nI cc)), some (.int (nI d))]) (st' := [.ref 146, .int (nI d)]) d_264_78 (fun _ => rfl) ?_
                  refine rr_gn d_264_79 mo_264 fl_127 rfl hc.1 ?_
                  refine rn_cge (t := 137) d_264_82 (by decide) (by first | omega | assumption | exact cu_36 (by omega) (cu_lt (by omega) (by omega))) (by first | omega | assumption | exact cu_36 (by omega) (cu_lt (by omega) (by omega))) (fun c82 => ?_) (fun c82 => ?_)
                  · omega
                  · refine rr_nx (pc' := 86) (al' := [some (.ref 146), none, some (.int (nI 2)), some (.int (nI (SM (fun a => SM (fun b => if a < b then trR (fun u v => sqF n c a b u v) n else 0) n) a + SM (fun b => if a < b then trR (fun u v => sqF n c a b u v) n else 0) b + SM (fun cc => SM (fun d => if cc < d then sqF n c a b cc d else 0) n) cc + SM (fun d => if cc < d then sqF n c a b cc d else 0) d))), some (.int (nI a)), some (.int (nI b)), some (.int (nI cc)), some (.int (nI d))]) (st' := [.int (nI (SM (fun a => SM (fun b => if a < b then trR (fun u v => sqF n c a b u v) n else 0) n) a + SM (fun b => if a < b then trR (fun u v => sqF n c a b u v) n else 0) b + SM (fun cc => SM (fun d => if cc < d then sqF n c a b cc d else 0) n) cc + SM (fun d => if cc < d then sqF n c a b cc d else 0) d))]) d_264_85 (fun _ => rfl) ?_
                    refine rr_nx (pc' := 87) (al' := [some (.ref 146), none, some (.int (nI 2)), some (.int (nI (SM (fun a => SM (fun b => if a < b then trR (fun u v => sqF n c a b u v) n else 0) n) a + SM (fun b => if a < b then trR (fun u v => sqF n c a b u v) n else 0) b + SM (fun cc => SM (fun d => if cc < d then sqF n c a b cc d else 0) n) cc + SM (fun d => if cc < d then sqF n c a b cc d else 0) d))), some (.int (nI a)), some (.int (nI b)), some (.int (nI cc)), some (.int (nI d))]) (st' := [.ref 146, .int (nI (SM (fun a => SM (fun b => if a < b then trR (fun u v => sqF n c a b u v) n else 0) n) a + SM (fun b => if a < b then trR (fun u v => sqF n c a b u v) n else 0) b + SM (fun cc => SM (fun d => if cc < d then sqF n c a b cc d else 0) n) cc + SM (fun d => if cc < d then sqF n c a b cc d else 0) d))]) d_264_86 (fun _ => rfl) ?_
                    refine rr_nx (pc' := 89) (al' := [some (.ref 146), none, some (.int (nI 2)), some (.int (nI (SM (fun a => SM (fun b => if a < b then trR (fun u v => sqF n c a b u v) n else 0) n) a + SM (fun b => if a < b then trR (fun u v => sqF n c a b u v) n else 0) b + SM (fun cc => SM (fun d => if cc < d then sqF n c a b cc d else 0) n) cc + SM (fun d => if cc < d then sqF n c a b cc d else 0) d))), some (.int (nI a)), some (.int (nI b)), some (.int (nI cc)), some (.int (nI d))]) (st' := [.int (nI a), .ref 146, .int (nI (SM (fun a => SM (fun b => if a < b then trR (fun u v => sqF n c a b u v) n else 0) n) a + SM (fun b => if a < b then trR (fun u v => sqF n c a b u v) n else 0) b + SM (fun cc => SM (fun d => if cc < d then sqF n c a b cc d else 0) n) cc + SM (fun d => if cc < d then sqF n c a b cc d else 0) d))]) d_264_87 (fun _ => rfl) ?_
                    refine rr_nx (pc' := 91) (al' := [some (.ref 146), none, some (.int (nI 2)), some (.int (nI (SM (fun a => SM (fun b => if a < b then trR (fun u v => sqF n c a b u v) n else 0) n) a + SM (fun b => if a < b then trR (fun u v => sqF n c a b u v) n else 0) b + SM (fun cc => SM (fun d => if cc < d then sqF n c a b cc d else 0) n) cc + SM (fun d => if cc < d then sqF n c a b cc d else 0) d))), some (.int (nI a)), some (.int (nI b)), some (.int (nI cc)), some (.int (nI d))]) (st' := [.int (nI cc), .int (nI a), .ref 146, .int (nI (SM (fun a => SM (fun b => if a < b then trR (fun u v => sqF n c a b u v) n else 0) n) a + SM (fun b => if a < b then trR (fun u v => sqF n c a b u v) n else 0) b + SM (fun cc => SM (fun d => if cc < d then sqF n c a b cc d else 0) n) cc + SM (fun d => if cc < d then sqF n c a b cc d else 0) d))]) d_264_89 (fun _ => rfl) ?_
                    refine rr_pv (as := [.int (nI a), .int (nI cc)]) (al0 := [some (.ref 146), some (.int (nI a)), some (.int (nI cc))]) (r := [.int (nI (SM (fun a => SM (fun b => if a < b then trR (fun u v => sqF n c a b u v) n else 0) n) a + SM (fun b => if a < b then trR (fun u v => sqF n c a b u v) n else 0) b + SM (fun cc => SM (fun d => if cc < d then sqF n c a b cc d else 0) n) cc + SM (fun d => if cc < d then sqF n c a b cc d else 0) d))]) d_264_91 mo_264 ml_130 mz_213 rfl rfl rfl (Nat.le_of_ble_eq_true rfl) (s_times hc (by omega) (by omega)) ?_
                    show RR _ _ 94 [some (.ref 146), none, some (.int (nI 2)), some (.int (nI (SM (fun a => SM (fun b => if a < b then trR (fun u v => sqF n c a b u v) n else 0) n) a + SM (fun b => if a < b then trR (fun u v => sqF n c a b u v) n else 0) b + SM (fun cc => SM (fun d => if cc < d then sqF n c a b cc d else 0) n) cc + SM (fun d => if cc < d then sqF n c a b cc d else 0) d))), some (.int (nI a)), some (.int (nI b)), some (.int (nI cc)), some (.int (nI d))] [.int (nI (c (n * a + cc))), .int (nI (SM (fun a => SM (fun b => if a < b then trR (fun u v => sqF n c a b u v) n else 0) n) a + SM (fun b => if a < b then trR (fun u v => sqF n c a b u v) n else 0) b + SM (fun cc => SM (fun d => if cc < d then sqF n c a b cc d else 0) n) cc + SM (fun d => if cc < d then sqF n c a b cc d else 0) d))] g A _
                    have b91 : c (n * a + cc) < n := (hc.2.2 _ (cu_lt (by omega) (by omega))).2
                    refine rr_nx (pc' := 95) (al' := [some (.ref 146), none, some (.int (nI 2)), some (.int (nI (SM (fun a => SM (fun b => if a < b then trR (fun u v => sqF n c a b u v) n else 0) n) a + SM (fun b => if a < b then trR (fun u v => sqF n c a b u v) n else 0) b + SM (fun cc => SM (fun d => if cc < d then sqF n c a b cc d else 0) n) cc + SM (fun d => if cc < d then sqF n c a b cc d else 0) d))), some (.int (nI a)), some (.int (nI b)), some (.int (nI cc)), some (.int (nI d))]) (st' := [.ref 146, .int (nI (c (n * a + cc))), .int (nI (SM (fun a => SM (fun b => if a < b then trR (fun u v => sqF n c a b u v) n else 0) n) a + SM (fun b => if a < b then trR (fun u v => sqF n c a b u v) n else 0) b + SM (fun cc => SM (fun d => if cc < d then sqF n c a b cc d else 0) n) cc + SM (fun d => if cc < d then sqF n c a b cc d else 0) d))]) d_264_94 (fun _ => rfl) ?_
                    refine rr_nx (pc' := 97) (al' := [some (.ref 146), none, some (.int (nI 2)), some (.int (nI (SM (fun a => SM (fun b => if a < b then trR (fun u v => sqF n c a b u v) n else 0) n) a + SM (fun b => if a < b then trR (fun u v => sqF n c a b u v) n else 0) b + SM (fun cc => SM (fun d => if cc < d then sqF n c a b cc d else 0) n) cc + SM (fun d => if cc < d then sqF n c a b cc d else 0) d))), some (.int (nI a)), some (.int (nI b)), some (.int (nI cc)), some (.int (nI d))]) (st' := [.int (nI b), .ref 146, .int (nI (c (n * a + cc))), .int (nI (SM (fun a => SM (fun b => if a < b then trR (fun u v => sqF n c a b u v) n else 0) n) a + SM (fun b => if a < b then trR (fun u v => sqF n c a b u v) n else 0) b + SM (fun cc => SM (fun d => if cc < d then sqF n c a b cc d else 0) n) cc + SM (fun d => if cc < d then sqF n c a b cc d else 0) d))]) d_264_95 (fun _ => rfl) ?_
                    refine rr_nx (pc' := 99) (al' := [some (.ref 146), none, some (.int (nI 2)), some (.int (nI (SM (fun a => SM (fun b => if a < b then trR (fun u v => sqF n c a b u v) n else 0) n) a + SM (fun b => if a < b then trR (fun u v => sqF n c a b u v) n else 0) b + SM (fun cc => SM (fun d => if cc < d then sqF n c a b cc d else 0) n) cc + SM (fun d => if cc < d then sqF n c a b cc d else 0) d))), some (.int (nI a)), some (.int (nI b)), some (.int (nI cc)), some (.int (nI d))]) (st' := [.int (nI d), .int (nI b), .ref 146, .int (nI (c (n * a + cc))), .int (nI (SM (fun a => SM (fun b => if a < b then trR (fun u v => sqF n c a b u v) n else 0) n) a + SM (fun b => if a < b then trR (fun u v => sqF n c a b u v) n else 0) b + SM (fun cc => SM (fun d => if cc < d then sqF n c a b cc d else 0) n) cc + SM (fun d => if cc < d then sqF n c a b cc d else 0) d))]) d_264_97 (fun _ => rfl) ?_
                    refine rr_pv (as := [.int (nI b), .int (nI d)]) (al0 := [some (.ref 146), some (.int (nI b)), some (.int (nI d))]) (r := [.int (nI (c (n * a + cc))), .int (nI (SM (fun a => SM (fun b => if a < b then trR (fun u v => sqF n c a b u v) n else 0) n) a + SM (fun b => if a < b then trR (fun u v => sqF n c a b u v) n else 0) b + SM (fun cc => SM (fun d => if cc < d then sqF n c a b cc d else 0) n) cc + SM (fun d => if cc < d then sqF n c a b cc d else 0) d))]) d_264_99 mo_264 ml_130 mz_213 rfl rfl rfl (Nat.le_of_ble_eq_true rfl) (s_times hc (by omega) (by omega)) ?_
                    show RR _ _ 102 [some (.ref 146), none, some (.int (nI 2)), some (.int (nI (SM (fun a => SM (fun b => if a < b then trR (fun u v => sqF n c a b u v) n else 0) n) a + SM (fun b => if a < b then trR (fun u v => sqF n c a b u v) n else 0) b + SM (fun cc => SM (fun d => if cc < d then sqF n c a b cc d else 0) n) cc + SM (fun d => if cc < d then sqF n c a b cc d else 0) d))), some (.int (nI a)), some (.int (nI b)), some (.int (nI cc)), some (.int (nI d))] [.int (nI (c (n * b + d))), .int (nI (c (n * a + cc))), .int (nI (SM (fun a => SM (fun b => if a < b then trR (fun u v => sqF n c a b u v) n else 0) n) a + SM (fun b => if a < b then trR (fun u v => sqF n c a b u v) n else 0) b + SM (fun cc => SM (fun d => if cc < d then sqF n c a b cc d else 0) n) cc + SM (fun d => if cc < d then sqF n c a b cc d else 0) d))] g A _
                    have b99 : c (n * b + d) < n := (hc.2.2 _ (cu_lt (by omega) (by omega))).2
                    refine rn_cne (t := 128) d_264_102 (by decide) (by first | omega | assumption | exact cu_36 (by omega) (cu_lt (by omega) (by omega))) (by first | omega | assumption | exact cu_36 (by omega) (cu_lt (by omega) (by omega))) (fun c102 => ?_) (fun c102 => ?_)
                    · refine rn_ic (v := 0) d_264_128 (by decide) ?_
                      refine rn_add d_264_129  ?_
                      refine rr_nx (pc' := 131) (al' := [some (.ref 146), none, some (.int (nI 2)), some (.int (nI ((SM (fun a => SM (fun b => if a < b then trR (fun u v => sqF n c a b u v) n else 0) n) a + SM (fun b => if a < b then trR (fun u v => sqF n c a b u v) n else 0) b + SM (fun cc => SM (fun d => if cc < d then sqF n c a b cc d else 0) n) cc + SM (fun d => if cc < d then sqF n c a b cc d else 0) d) + 0))), some (.int (nI a)), some (.int (nI b)), some (.int (nI cc)), some (.int (nI d))]) (st' := []) d_264_130 (fun _ => rfl) ?_
                      refine rn_inc d_264_131 rfl rfl ?_
                      show RR _ _ 134 [some (.ref 146), none, some (.int (nI 2)), some (.int (nI ((SM (fun a => SM (fun b => if a < b then trR (fun u v => sqF n c a b u v) n else 0) n) a + SM (fun b => if a < b then trR (fun u v => sqF n c a b u v) n else 0) b + SM (fun cc => SM (fun d => if cc < d then sqF n c a b cc d else 0) n) cc + SM (fun d => if cc < d then sqF n c a b cc d else 0) d) + 0))), some (.int (nI a)), some (.int (nI b)), some (.int (nI cc)), some (.int (nI (d + 1)))] [] g A _
                      refine rr_nx (pc' := 76) (al' := [some (.ref 146), none, some (.int (nI 2)), some (.int (nI ((SM (fun a => SM (fun b => if a < b then trR (fun u v => sqF n c a b u v) n else 0) n) a + SM (fun b => if a < b then trR (fun u v => sqF n c a b u v) n else 0) b + SM (fun cc => SM (fun d => if cc < d then sqF n c a b cc d else 0) n) cc + SM (fun d => if cc < d then sqF n c a b cc d else 0) d) + 0))), some (.int (nI a)), some (.int (nI b)), some (.int (nI cc)), some (.int (nI (d + 1)))]) (st' := []) d_264_134 (fun _ => rfl) ?_
                      refine rr_al (congrArg (fun z__ : Nat => ([some (.ref 146), none, some (.int (nI 2)), some (.int (nI z__)), some (.int (nI a)), some (.int (nI b)), some (.int (nI cc)), some (.int (nI (d + 1)))] : AL)) (show (SM (fun a => SM (fun b => if a < b then trR (fun u v => sqF n c a b u v) n else 0) n) a + SM (fun b => if a < b then trR (fun u v => sqF n c a b u v) n else 0) b + SM (fun cc => SM (fun d => if cc < d then sqF n c a b cc d else 0) n) cc + SM (fun d => if cc < d then sqF n c a b cc d else 0) d) + 0 = SM (fun a => SM (fun b => if a < b then trR (fun u v => sqF n c a b u v) n else 0) n) a + SM (fun b => if a < b then trR (fun u v => sqF n c a b u v) n else 0) b + SM (fun cc => SM (fun d => if cc < d then sqF n c a b cc d else 0) n) cc + SM (fun d => if cc < d then sqF n c a b cc d else 0) (d + 1) by rw [SM_s]; (try dsimp only); rw [if_pos (show cc < d by have := pd; omega), sqF]; first | (rw [if_pos ⟨c102, c121⟩]; omega) | (rw [if_neg (fun e => c121 e.2)]; omega) | (rw [if_neg (fun e => c102 e.1)]; omega))) ?_
                      exact ihd  (by omega)
                    · refine rr_nx (pc' := 106) (al' := [some (.ref 146), none, some (.int (nI 2)), some (.int (nI (SM (fun a => SM (fun b => if a < b then trR (fun u v => sqF n c a b u v) n else 0) n) a + SM (fun b => if a < b then trR (fun u v => sqF n c a b u v) n else 0) b + SM (fun cc => SM (fun d => if cc < d then sqF n c a b cc d else 0) n) cc + SM (fun d => if cc < d then sqF n c a b cc d else 0) d))), some (.int (nI a)), some (.int (nI b)), some (.int (nI cc)), some (.int (nI d))]) (st' := [.ref 146, .int (nI (SM (fun a => SM (fun b => if a < b then trR (fun u v => sqF n c a b u v) n else 0) n) a + SM (fun b => if a < b then trR (fun u v => sqF n c a b u v) n else 0) b + SM (fun cc => SM (fun d => if cc < d then sqF n c a b cc d else 0) n) cc + SM (fun d => if cc < d then sqF n c a b cc d else 0) d))]) d_264_105 (fun _ => rfl) ?_
                      refine rr_nx (pc' := 108) (al' := [some (.ref 146), none, some (.int (nI 2)), some (.int (nI (SM (fun a => SM (fun b => if a < b then trR (fun u v => sqF n c a b u v) n else 0) n) a + SM (fun b => if a < b then trR (fun u v => sqF n c a b u v) n else 0) b + SM (fun cc => SM (fun d => if cc < d then sqF n c a b cc d else 0) n) cc + SM (fun d => if cc < d then sqF n c a b cc d else 0) d))), some (.int (nI a)), some (.int (nI b)), some (.int (nI cc)), some (.int (nI d))]) (st' := [.int (nI a), .ref 146, .int (nI (SM (fun a => SM (fun b => if a < b then trR (fun u v => sqF n c a b u v) n else 0) n) a + SM (fun b => if a < b then trR (fun u v => sqF n c a b u v) n else 0) b + SM (fun cc => SM (fun d => if cc < d then sqF n c a b cc d else 0) n) cc + SM (fun d => if cc < d then sqF n c a b cc d else 0) d))]) d_264_106 (fun _ => rfl) ?_
                      refine rr_nx (pc' := 110) (al' := [some (.ref 146), none, some (.int (nI 2)), some (.int (nI (SM (fun a => SM (fun b => if a < b then trR (fun u v => sqF n c a b u v) n else 0) n) a + SM (fun b => if a < b then trR (fun u v => sqF n c a b u v) n else 0) b + SM (fun cc => SM (fun d => if cc < d then sqF n c a b cc d else 0) n) cc + SM (fun d => if cc < d then sqF n c a b cc d else 0) d))), some (.int (nI a)), some (.int (nI b)), some (.int (nI cc)), some (.int (nI d))]) (st' := [.int (nI d), .int (nI a), .ref 146, .int (nI (SM (fun a => SM (fun b => if a < b then trR (fun u v => sqF n c a b u v) n else 0) n) a + SM (fun b => if a < b then trR (fun u v => sqF n c a b u v) n else 0) b + SM (fun cc => SM (fun d => if cc < d then sqF n c a b cc d else 0) n) cc + SM (fun d => if cc < d then sqF n c a b cc d else 0) d))]) d_264_108 (fun _ => rfl) ?_
                      refine rr_pv (as := [.int (nI a), .int (nI d)]) (al0 := [some (.ref 146), some (.int (nI a)), some (.int (nI d))]) (r := [.int (nI (SM (fun a => SM (fun b => if a < b then trR (fun u v => sqF n c a b u v) n else 0) n) a + SM (fun b => if a < b then trR (fun u v => sqF n c a b u v) n else 0) b + SM (fun cc => SM (fun d => if cc < d then sqF n c a b cc d else 0) n) cc + SM (fun d => if cc < d then sqF n c a b cc d else 0) d))]) d_264_110 mo_264 ml_130 mz_213 rfl rfl rfl (Nat.le_of_ble_eq_true rfl) (s_times hc (by omega) (by omega)) ?_
                      show RR _ _ 113 [some (.ref 146), none, some (.int (nI 2)), some (.int (nI (SM (fun a => SM (fun b => if a < b then trR (fun u v => sqF n c a b u v) n else 0) n) a + SM (fun b => if a < b then trR (fun u v => sqF n c a b u v) n else 0) b + SM (fun cc => SM (fun d => if cc < d then sqF n c a b cc d else 0) n) cc + SM (fun d => if cc < d then sqF n c a b cc d else 0) d))), some (.int (nI a)), some (.int (nI b)), some (.int (nI cc)), some (.int (nI d))] [.int (nI (c (n * a + d))), .int (nI (SM (fun a => SM (fun b => if a < b then trR (fun u v => sqF n c a b u v) n else 0) n) a + SM (fun b => if a < b then trR (fun u v => sqF n c a b u v) n else 0) b + SM (fun cc => SM (fun d => if cc < d then sqF n c a b cc d else 0) n) cc + SM (fun d => if cc < d then sqF n c a b cc d else 0) d))] g A _
                      have b110 : c (n * a + d) < n := (hc.2.2 _ (cu_lt (by omega) (by omega))).2
                      refine rr_nx (pc' := 114) (al' := [some (.ref 146), none, some (.int (nI 2)), some (.int (nI (SM (fun a => SM (fun b => if a < b then trR (fun u v => sqF n c a b u v) n else 0) n) a + SM (fun b => if a < b then trR (fun u v => sqF n c a b u v) n else 0) b + SM (fun cc => SM (fun d => if cc < d then sqF n c a b cc d else 0) n) cc + SM (fun d => if cc < d then sqF n c a b cc d else 0) d))), some (.int (nI a)), some (.int (nI b)), some (.int (nI cc)), some (.int (nI d))]) (st' := [.ref 146, .int (nI (c (n * a + d))), .int (nI (SM (fun a => SM (fun b => if a < b then trR (fun u v => sqF n c a b u v) n else 0) n) a + SM (fun b => if a < b then trR (fun u v => sqF n c a b u v) n else 0) b + SM (fun cc => SM (fun d => if cc < d then sqF n c a b cc d else 0) n) cc + SM (fun d => if cc < d then sqF n c a b cc d else 0) d))]) d_264_113 (fun _ => rfl) ?_
                      refine rr_nx (pc' := 116) (al' := [some (.ref 146), none, some (.int (nI 2)), some (.int (nI (SM (fun a => SM (fun b => if a < b then trR (fun u v => sqF n c a b u v) n else 0) n) a + SM (fun b => if a < b then trR (fun u v => sqF n c a b u v) n else 0) b + SM (fun cc => SM (fun d => if cc < d then sqF n c a b cc d else 0) n) cc + SM (fun d => if cc < d then sqF n c a b cc d else 0) d))), some (.int (nI a)), some (.int (nI b)), some (.int (nI cc)), some (.int (nI d))]) (st' := [.int (nI b), .ref 146, .int (nI (c (n * a + d))), .int (nI (SM (fun a => SM (fun b => if a < b then trR (fun u v => sqF n c a b u v) n else 0) n) a + SM (fun b => if a < b then trR (fun u v => sqF n c a b u v) n else 0) b + SM (fun cc => SM (fun d => if cc < d then sqF n c a b cc d else 0) n) cc + SM (fun d => if cc < d then sqF n c a b cc d else 0) d))]) d_264_114 (fun _ => rfl) ?_
                      refine rr_nx (pc' := 118) (al' := [some (.ref 146), none, some (.int (nI 2)), some (.int (nI (SM (fun a => SM (fun b => if a < b then trR (fun u v => sqF n c a b u v) n else 0) n) a + SM (fun b => if a < b then trR (fun u v => sqF n c a b u v) n else 0) b + SM (fun cc => SM (fun d => if cc < d then sqF n c a b cc d else 0) n) cc + SM (fun d => if cc < d then sqF n c a b cc d else 0) d))), some (.int (nI a)), some (.int (nI b)), some (.int (nI cc)), some (.int (nI d))]) (st' := [.int (nI cc), .int (nI b), .ref 146, .int (nI (c (n * a + d))), .int (nI (SM (fun a => SM (fun b => if a < b then trR (fun u v => sqF n c a b u v) n else 0) n) a + SM (fun b => if a < b then trR (fun u v => sqF n c a b u v) n else 0) b + SM (fun cc => SM (fun d => if cc < d then sqF n c a b cc d else 0) n) cc + SM (fun d => if cc < d then sqF n c a b cc d else 0) d))]) d_264_116 (fun _ => rfl) ?_
                      refine rr_pv (as := [.int (nI b), .int (nI cc)]) (al0 := [some (.ref 146), some (.int (nI b)), some (.int (nI cc))]) (r := [.int (nI (c (n * a + d))), .int (nI (SM (fun a => SM (fun b => if a < b then trR (fun u v => sqF n c a b u v) n else 0) n) a + SM (fun b => if a < b then trR (fun u v => sqF n c a b u v) n else 0) b + SM (fun cc => SM (fun d => if cc < d then sqF n c a b cc d else 0) n) cc + SM (fun d => if cc < d then sqF n c a b cc d else 0) d))]) d_264_118 mo_264 ml_130 mz_213 rfl rfl rfl (Nat.le_of_ble_eq_true rfl) (s_times hc (by omega) (by omega)) ?_
                      show RR _ _ 121 [some (.ref 146), none, some (.int (nI 2)), some (.int (nI (SM (fun a => SM (fun b => if a < b then trR (fun u v => sqF n c a b u v) n else 0) n) a + SM (fun b => if a < b then trR (fun u v => sqF n c a b u v) n else 0) b + SM (fun cc => SM (fun d => if cc < d then sqF n c a b cc d else 0) n) cc + SM (fun d => if cc < d then sqF n c a b cc d else 0) d))), some (.int (nI a)), some (.int (nI b)), some (.int (nI cc)), some (.int (nI d))] [.int (nI (c (n * b + cc))), .int (nI (c (n * a + d))), .int (nI (SM (fun a => SM (fun b => if a < b then trR (fun u v => sqF n c a b u v) n else 0) n) a + SM (fun b => if a < b then trR (fun u v => sqF n c a b u v) n else 0) b + SM (fun cc => SM (fun d => if cc < d then sqF n c a b cc d else 0) n) cc + SM (fun d => if cc < d then sqF n c a b cc d else 0) d))] g A _
                      have b118 : c (n * b + cc) < n := (hc.2.2 _ (cu_lt (by omega) (by omega))).2
                      refine rn_cne (t := 128) d_264_121 (by decide) (by first | omega | assumption | exact cu_36 (by omega) (cu_lt (by omega) (by omega))) (by first | omega | assumption | exact cu_36 (by omega) (cu_lt (by omega) (by omega))) (fun c121 => ?_) (fun c121 => ?_)
                      · refine rn_ic (v := 0) d_264_128 (by decide) ?_
                        refine rn_add d_264_129  ?_
                        refine rr_nx (pc' := 131) (al' := [some (.ref 146), none, some (.int (nI 2)), some (.int (nI ((SM (fun a => SM (fun b => if a < b then trR (fun u v => sqF n c a b u v) n else 0) n) a + SM (fun b => if a < b then trR (fun u v => sqF n c a b u v) n else 0) b + SM (fun cc => SM (fun d => if cc < d then sqF n c a b cc d else 0) n) cc + SM (fun d => if cc < d then sqF n c a b cc d else 0) d) + 0))), some (.int (nI a)), some (.int (nI b)), some (.int (nI cc)), some (.int (nI d))]) (st' := []) d_264_130 (fun _ => rfl) ?_
                        refine rn_inc d_264_131 rfl rfl ?_
                        show RR _ _ 134 [some (.ref 146), none, some (.int (nI 2)), some (.int (nI ((SM (fun a => SM (fun b => if a < b then trR (fun u v => sqF n c a b u v) n else 0) n) a + SM (fun b => if a < b then trR (fun u v => sqF n c a b u v) n else 0) b + SM (fun cc => SM (fun d => if cc < d then sqF n c a b cc d else 0) n) cc + SM (fun d => if cc < d then sqF n c a b cc d else 0) d) + 0))), some (.int (nI a)), some (.int (nI b)), some (.int (nI cc)), some (.int (nI (d + 1)))] [] g A _
                        refine rr_nx (pc' := 76) (al' := [some (.ref 146), none, some (.int (nI 2)), some (.int (nI ((SM (fun a => SM (fun b => if a < b then trR (fun u v => sqF n c a b u v) n else 0) n) a + SM (fun b => if a < b then trR (fun u v => sqF n c a b u v) n else 0) b + SM (fun cc => SM (fun d => if cc < d then sqF n c a b cc d else 0) n) cc + SM (fun d => if cc < d then sqF n c a b cc d else 0) d) + 0))), some (.int (nI a)), some (.int (nI b)), some (.int (nI cc)), some (.int (nI (d + 1)))]) (st' := []) d_264_134 (fun _ => rfl) ?_
                        refine rr_al (congrArg (fun z__ : Nat => ([some (.ref 146), none, some (.int (nI 2)), some (.int (nI z__)), some (.int (nI a)), some (.int (nI b)), some (.int (nI cc)), some (.int (nI (d + 1)))] : AL)) (show (SM (fun a => SM (fun b => if a < b then trR (fun u v => sqF n c a b u v) n else 0) n) a + SM (fun b => if a < b then trR (fun u v => sqF n c a b u v) n else 0) b + SM (fun cc => SM (fun d => if cc < d then sqF n c a b cc d else 0) n) cc + SM (fun d => if cc < d then sqF n c a b cc d else 0) d) + 0 = SM (fun a => SM (fun b => if a < b then trR (fun u v => sqF n c a b u v) n else 0) n) a + SM (fun b => if a < b then trR (fun u v => sqF n c a b u v) n else 0) b + SM (fun cc => SM (fun d => if cc < d then sqF n c a b cc d else 0) n) cc + SM (fun d => if cc < d then sqF n c a b cc d else 0) (d + 1) by rw [SM_s]; (try dsimp only); rw [if_pos (show cc < d by have := pd; omega), sqF]; first | (rw [if_pos ⟨c102, c121⟩]; omega) | (rw [if_neg (fun e => c121 e.2)]; omega) | (rw [if_neg (fun e => c102 e.1)]; omega))) ?_
                        exact ihd  (by omega)
                      · refine rn_ic (v := 1) d_264_124 (by decide) ?_
                        refine rr_nx (pc' := 129) (al' := [some (.ref 146), none, some (.int (nI 2)), some (.int (nI (SM (fun a => SM (fun b => if a < b then trR (fun u v => sqF n c a b u v) n else 0) n) a + SM (fun b => if a < b then trR (fun u v => sqF n c a b u v) n else 0) b + SM (fun cc => SM (fun d => if cc < d then sqF n c a b cc d else 0) n) cc + SM (fun d => if cc < d then sqF n c a b cc d else 0) d))), some (.int (nI a)), some (.int (nI b)), some (.int (nI cc)), some (.int (nI d))]) (st' := [.int (nI 1), .int (nI (SM (fun a => SM (fun b => if a < b then trR (fun u v => sqF n c a b u v) n else 0) n) a + SM (fun b => if a < b then trR (fun u v => sqF n c a b u v) n else 0) b + SM (fun cc => SM (fun d => if cc < d then sqF n c a b cc d else 0) n) cc + SM (fun d => if cc < d then sqF n c a b cc d else 0) d))]) d_264_125 (fun _ => rfl) ?_
                        refine rn_add d_264_129  ?_
                        refine rr_nx (pc' := 131) (al' := [some (.ref 146), none, some (.int (nI 2)), some (.int (nI ((SM (fun a => SM (fun b => if a < b then trR (fun u v => sqF n c a b u v) n else 0) n) a + SM (fun b => if a < b then trR (fun u v => sqF n c a b u v) n else 0) b + SM (fun cc => SM (fun d => if cc < d then sqF n c a b cc d else 0) n) cc + SM (fun d => if cc < d then sqF n c a b cc d else 0) d) + 1))), some (.int (nI a)), some (.int (nI b)), some (.int (nI cc)), some (.int (nI d))]) (st' := []) d_264_130 (fun _ => rfl) ?_
                        refine rn_inc d_264_131 rfl rfl ?_
                        show RR _ _ 134 [some (.ref 146), none, some (.int (nI 2)), some (.int (nI ((SM (fun a => SM (fun b => if a < b then trR (fun u v => sqF n c a b u v) n else 0) n) a + SM (fun b => if a < b then trR (fun u v => sqF n c a b u v) n else 0) b + SM (fun cc => SM (fun d => if cc < d then sqF n c a b cc d else 0) n) cc + SM (fun d => if cc < d then sqF n c a b cc d else 0) d) + 1))), some (.int (nI a)), some (.int (nI b)), some (.int (nI cc)), some (.int (nI (d + 1)))] [] g A _
                        refine rr_nx (pc' := 76) (al' := [some (.ref 146), none, some (.int (nI 2)), some (.int (nI ((SM (fun a => SM (fun b => if a < b then trR (fun u v => sqF n c a b u v) n else 0) n) a + SM (fun b => if a < b then trR (fun u v => sqF n c a b u v) n else 0) b + SM (fun cc => SM (fun d => if cc < d then sqF n c a b cc d else 0) n) cc + SM (fun d => if cc < d then sqF n c a b cc d else 0) d) + 1))), some (.int (nI a)), some (.int (nI b)), some (.int (nI cc)), some (.int (nI (d + 1)))]) (st' := []) d_264_134 (fun _ => rfl) ?_
                        refine rr_al (congrArg (fun z__ : Nat => ([some (.ref 146), none, some (.int (nI 2)), some (.int (nI z__)), some (.int (nI a)), some (.int (nI b)), some (.int (nI cc)), some (.int (nI (d + 1)))] : AL)) (show (SM (fun a => SM (fun b => if a < b then trR (fun u v => sqF n c a b u v) n else 0) n) a + SM (fun b => if a < b then trR (fun u v => sqF n c a b u v) n else 0) b + SM (fun cc => SM (fun d => if cc < d then sqF n c a b cc d else 0) n) cc + SM (fun d => if cc < d then sqF n c a b cc d else 0) d) + 1 = SM (fun a => SM (fun b => if a < b then trR (fun u v => sqF n c a b u v) n else 0) n) a + SM (fun b => if a < b then trR (fun u v => sqF n c a b u v) n else 0) b + SM (fun cc => SM (fun d => if cc < d then sqF n c a b cc d else 0) n) cc + SM (fun d => if cc < d then sqF n c a b cc d else 0) (d + 1) by rw [SM_s]; (try dsimp only); rw [if_pos (show cc < d by have := pd; omega), sqF]; first | (rw [if_pos ⟨c102, c121⟩]; omega) | (rw [if_neg (fun e => c121 e.2)]; omega) | (rw [if_neg (fun e => c102 e.1)]; omega))) ?_
                        exact ihd  (by omega)
                · show RR _ _ 76 [some (.ref 146), none, some (.int (nI 2)), some (.int (nI (SM (fun a => SM (fun b => if a < b then trR (fun u v => sqF n c a b u v) n else 0) n) a + SM (fun b => if a < b then trR (fun u v => sqF n c a b u v) n else 0) b + SM (fun cc => SM (fun d => if cc < d then sqF n c a b cc d else 0) n) cc + SM (fun d => if cc < d then sqF n c a b cc d else 0) n))), some (.int (nI a)), some (.int (nI b)), some (.int (nI cc)), some (.int (nI n))] [] g A _
                  refine rr_nx (pc' := 78) (al' := [some (.ref 146), none, some (.int (nI 2)), some (.int (nI (SM (fun a => SM (fun b => if a < b then trR (fun u v => sqF n c a b u v) n else 0) n) a + SM (fun b => if a < b then trR (fun u v => sqF n c a b u v) n else 0) b + SM (fun cc => SM (fun d => if cc < d then sqF n c a b cc d else 0) n) cc + SM (fun d => if cc < d then sqF n c a b cc d else 0) n))), some (.int (nI a)), some (.int (nI b)), some (.int (nI cc)), some (.int (nI n))]) (st' := [.int (nI n)]) d_264_76 (fun _ => rfl) ?_
                  refine rr_nx (pc' := 79) (al' := [some (.ref 146), none, some (.int (nI 2)), some (.int (nI (SM (fun a => SM (fun b => if a < b then trR (fun u v => sqF n c a b u v) n else 0) n) a + SM (fun b => if a < b then trR (fun u v => sqF n c a b u v) n else 0) b + SM (fun cc => SM (fun d => if cc < d then sqF n c a b cc d else 0) n) cc + SM (fun d => if cc < d then sqF n c a b cc d else 0) n))), some (.int (nI a)), some (.int (nI b)), some (.int (nI cc)), some (.int (nI n))]) (st' := [.ref 146, .int (nI n)]) d_264_78 (fun _ => rfl) ?_
                  refine rr_gn d_264_79 mo_264 fl_127 rfl hc.1 ?_
                  refine rn_cge (t := 137) d_264_82 (by decide) (by first | omega | assumption | exact cu_36 (by omega) (cu_lt (by omega) (by omega))) (by first | omega | assumption | exact cu_36 (by omega) (cu_lt (by omega) (by omega))) (fun c82 => ?_) (fun c82 => ?_)
                  · refine rn_inc d_264_137 rfl rfl ?_
                    show RR _ _ 140 [some (.ref 146), none, some (.int (nI 2)), some (.int (nI (SM (fun a => SM (fun b => if a < b then trR (fun u v => sqF n c a b u v) n else 0) n) a + SM (fun b => if a < b then trR (fun u v => sqF n c a b u v) n else 0) b + SM (fun cc => SM (fun d => if cc < d then sqF n c a b cc d else 0) n) cc + SM (fun d => if cc < d then sqF n c a b cc d else 0) n))), some (.int (nI a)), some (.int (nI b)), some (.int (nI (cc + 1))), some (.int (nI n))] [] g A _
                    refine rr_nx (pc' := 61) (al' := [some (.ref 146), none, some (.int (nI 2)), some (.int (nI (SM (fun a => SM (fun b => if a < b then trR (fun u v => sqF n c a b u v) n else 0) n) a + SM (fun b => if a < b then trR (fun u v => sqF n c a b u v) n else 0) b + SM (fun cc => SM (fun d => if cc < d then sqF n c a b cc d else 0) n) cc + SM (fun d => if cc < d then sqF n c a b cc d else 0) n))), some (.int (nI a)), some (.int (nI b)), some (.int (nI (cc + 1))), some (.int (nI n))]) (st' := []) d_264_140 (fun _ => rfl) ?_
                    refine rr_al (congrArg (fun z__ : Nat => ([some (.ref 146), none, some (.int (nI 2)), some (.int (nI z__)), some (.int (nI a)), some (.int (nI b)), some (.int (nI (cc + 1))), some (.int (nI n))] : AL)) (show SM (fun a => SM (fun b => if a < b then trR (fun u v => sqF n c a b u v) n else 0) n) a + SM (fun b => if a < b then trR (fun u v => sqF n c a b u v) n else 0) b + SM (fun cc => SM (fun d => if cc < d then sqF n c a b cc d else 0) n) cc + SM (fun d => if cc < d then sqF n c a b cc d else 0) n = SM (fun a => SM (fun b => if a < b then trR (fun u v => sqF n c a b u v) n else 0) n) a + SM (fun b => if a < b then trR (fun u v => sqF n c a b u v) n else 0) b + SM (fun cc => SM (fun d => if cc < d then sqF n c a b cc d else 0) n) (cc + 1) by rw [SM_s]; omega)) ?_
                    refine rr_dr (al1 := [some (.ref 146), none, some (.int (nI 2)), some (.int (nI (SM (fun a => SM (fun b => if a < b then trR (fun u v => sqF n c a b u v) n else 0) n) a + SM (fun b => if a < b then trR (fun u v => sqF n c a b u v) n else 0) b + SM (fun cc => SM (fun d => if cc < d then sqF n c a b cc d else 0) n) (cc + 1)))), some (.int (nI a)), some (.int (nI b)), some (.int (nI (cc + 1))), none]) (le_s (le_s (le_s (le_s (le_s (le_s (le_s (le_d rfl (le_n))))))))) ?_
                    exact ihcc  (trivial)
                  · omega
            · show RR _ _ 61 [some (.ref 146), none, some (.int (nI 2)), some (.int (nI (SM (fun a => SM (fun b => if a < b then trR (fun u v => sqF n c a b u v) n else 0) n) a + SM (fun b => if a < b then trR (fun u v => sqF n c a b u v) n else 0) b + SM (fun cc => SM (fun d => if cc < d then sqF n c a b cc d else 0) n) n))), some (.int (nI a)), some (.int (nI b)), some (.int (nI n)), none] [] g A _
              refine rr_nx (pc' := 63) (al' := [some (.ref 146), none, some (.int (nI 2)), some (.int (nI (SM (fun a => SM (fun b => if a < b then trR (fun u v => sqF n c a b u v) n else 0) n) a + SM (fun b => if a < b then trR (fun u v => sqF n c a b u v) n else 0) b + SM (fun cc => SM (fun d => if cc < d then sqF n c a b cc d else 0) n) n))), some (.int (nI a)), some (.int (nI b)), some (.int (nI n)), none]) (st' := [.int (nI n)]) d_264_61 (fun _ => rfl) ?_
              refine rr_nx (pc' := 64) (al' := [some (.ref 146), none, some (.int (nI 2)), some (.int (nI (SM (fun a => SM (fun b => if a < b then trR (fun u v => sqF n c a b u v) n else 0) n) a + SM (fun b => if a < b then trR (fun u v => sqF n c a b u v) n else 0) b + SM (fun cc => SM (fun d => if cc < d then sqF n c a b cc d else 0) n) n))), some (.int (nI a)), some (.int (nI b)), some (.int (nI n)), none]) (st' := [.ref 146, .int (nI n)]) d_264_63 (fun _ => rfl) ?_
              refine rr_gn d_264_64 mo_264 fl_127 rfl hc.1 ?_
              refine rn_cge (t := 143) d_264_67 (by decide) (by first | omega | assumption | exact cu_36 (by omega) (cu_lt (by omega) (by omega))) (by first | omega | assumption | exact cu_36 (by omega) (cu_lt (by omega) (by omega))) (fun c67 => ?_) (fun c67 => ?_)
              · refine rn_inc d_264_143 rfl rfl ?_
                show RR _ _ 146 [some (.ref 146), none, some (.int (nI 2)), some (.int (nI (SM (fun a => SM (fun b => if a < b then trR (fun u v => sqF n c a b u v) n else 0) n) a + SM (fun b => if a < b then trR (fun u v => sqF n c a b u v) n else 0) b + SM (fun cc => SM (fun d => if cc < d then sqF n c a b cc d else 0) n) n))), some (.int (nI a)), some (.int (nI (b + 1))), some (.int (nI n)), none] [] g A _
                refine rr_nx (pc' := 49) (al' := [some (.ref 146), none, some (.int (nI 2)), some (.int (nI (SM (fun a => SM (fun b => if a < b then trR (fun u v => sqF n c a b u v) n else 0) n) a + SM (fun b => if a < b then trR (fun u v => sqF n c a b u v) n else 0) b + SM (fun cc => SM (fun d => if cc < d then sqF n c a b cc d else 0) n) n))), some (.int (nI a)), some (.int (nI (b + 1))), some (.int (nI n)), none]) (st' := []) d_264_146 (fun _ => rfl) ?_
                refine rr_al (congrArg (fun z__ : Nat => ([some (.ref 146), none, some (.int (nI 2)), some (.int (nI z__)), some (.int (nI a)), some (.int (nI (b + 1))), some (.int (nI n)), none] : AL)) (show SM (fun a => SM (fun b => if a < b then trR (fun u v => sqF n c a b u v) n else 0) n) a + SM (fun b => if a < b then trR (fun u v => sqF n c a b u v) n else 0) b + SM (fun cc => SM (fun d => if cc < d then sqF n c a b cc d else 0) n) n = SM (fun a => SM (fun b => if a < b then trR (fun u v => sqF n c a b u v) n else 0) n) a + SM (fun b => if a < b then trR (fun u v => sqF n c a b u v) n else 0) (b + 1) by rw [SM_s]; (try dsimp only); rw [if_pos (show a < b by have := pb; omega)]; first | omega | exact Nat.add_assoc _ _ _)) ?_
                refine rr_dr (al1 := [some (.ref 146), none, some (.int (nI 2)), some (.int (nI (SM (fun a => SM (fun b => if a < b then trR (fun u v => sqF n c a b u v) n else 0) n) a + SM (fun b => if a < b then trR (fun u v => sqF n c a b u v) n else 0) (b + 1)))), some (.int (nI a)), some (.int (nI (b + 1))), none, none]) (le_s (le_s (le_s (le_s (le_s (le_s (le_d rfl (le_s (le_n))))))))) ?_
                exact ihb  (by omega)
              · omega
        · show RR _ _ 49 [some (.ref 146), none, some (.int (nI 2)), some (.int (nI (SM (fun a => SM (fun b => if a < b then trR (fun u v => sqF n c a b u v) n else 0) n) a + SM (fun b => if a < b then trR (fun u v => sqF n c a b u v) n else 0) n))), some (.int (nI a)), some (.int (nI n)), none, none] [] g A _
          refine rr_nx (pc' := 51) (al' := [some (.ref 146), none, some (.int (nI 2)), some (.int (nI (SM (fun a => SM (fun b => if a < b then trR (fun u v => sqF n c a b u v) n else 0) n) a + SM (fun b => if a < b then trR (fun u v => sqF n c a b u v) n else 0) n))), some (.int (nI a)), some (.int (nI n)), none, none]) (st' := [.int (nI n)]) d_264_49 (fun _ => rfl) ?_
          refine rr_nx (pc' := 52) (al' := [some (.ref 146), none, some (.int (nI 2)), some (.int (nI (SM (fun a => SM (fun b => if a < b then trR (fun u v => sqF n c a b u v) n else 0) n) a + SM (fun b => if a < b then trR (fun u v => sqF n c a b u v) n else 0) n))), some (.int (nI a)), some (.int (nI n)), none, none]) (st' := [.ref 146, .int (nI n)]) d_264_51 (fun _ => rfl) ?_
          refine rr_gn d_264_52 mo_264 fl_127 rfl hc.1 ?_
          refine rn_cge (t := 149) d_264_55 (by decide) (by first | omega | assumption | exact cu_36 (by omega) (cu_lt (by omega) (by omega))) (by first | omega | assumption | exact cu_36 (by omega) (cu_lt (by omega) (by omega))) (fun c55 => ?_) (fun c55 => ?_)
          · refine rn_inc d_264_149 rfl rfl ?_
            show RR _ _ 152 [some (.ref 146), none, some (.int (nI 2)), some (.int (nI (SM (fun a => SM (fun b => if a < b then trR (fun u v => sqF n c a b u v) n else 0) n) a + SM (fun b => if a < b then trR (fun u v => sqF n c a b u v) n else 0) n))), some (.int (nI (a + 1))), some (.int (nI n)), none, none] [] g A _
            refine rr_nx (pc' := 34) (al' := [some (.ref 146), none, some (.int (nI 2)), some (.int (nI (SM (fun a => SM (fun b => if a < b then trR (fun u v => sqF n c a b u v) n else 0) n) a + SM (fun b => if a < b then trR (fun u v => sqF n c a b u v) n else 0) n))), some (.int (nI (a + 1))), some (.int (nI n)), none, none]) (st' := []) d_264_152 (fun _ => rfl) ?_
            refine rr_al (congrArg (fun z__ : Nat => ([some (.ref 146), none, some (.int (nI 2)), some (.int (nI z__)), some (.int (nI (a + 1))), some (.int (nI n)), none, none] : AL)) (show SM (fun a => SM (fun b => if a < b then trR (fun u v => sqF n c a b u v) n else 0) n) a + SM (fun b => if a < b then trR (fun u v => sqF n c a b u v) n else 0) n = SM (fun a => SM (fun b => if a < b then trR (fun u v => sqF n c a b u v) n else 0) n) (a + 1) by rfl)) ?_
            refine rr_dr (al1 := [some (.ref 146), none, some (.int (nI 2)), some (.int (nI (SM (fun a => SM (fun b => if a < b then trR (fun u v => sqF n c a b u v) n else 0) n) (a + 1)))), some (.int (nI (a + 1))), none, none, none]) (le_s (le_s (le_s (le_s (le_s (le_d rfl (le_s (le_s (le_n))))))))) ?_
            exact iha  (trivial)
          · omega
    · show RR _ _ 34 [some (.ref 146), none, some (.int (nI 2)), some (.int (nI (SM (fun a => SM (fun b => if a < b then trR (fun u v => sqF n c a b u v) n else 0) n) n))), some (.int (nI n)), none, none, none] [] g A _
      refine rr_nx (pc' := 36) (al' := [some (.ref 146), none, some (.int (nI 2)), some (.int (nI (SM (fun a => SM (fun b => if a < b then trR (fun u v => sqF n c a b u v) n else 0) n) n))), some (.int (nI n)), none, none, none]) (st' := [.int (nI n)]) d_264_34 (fun _ => rfl) ?_
      refine rr_nx (pc' := 37) (al' := [some (.ref 146), none, some (.int (nI 2)), some (.int (nI (SM (fun a => SM (fun b => if a < b then trR (fun u v => sqF n c a b u v) n else 0) n) n))), some (.int (nI n)), none, none, none]) (st' := [.ref 146, .int (nI n)]) d_264_36 (fun _ => rfl) ?_
      refine rr_gn d_264_37 mo_264 fl_127 rfl hc.1 ?_
      refine rn_cge (t := 155) d_264_40 (by decide) (by first | omega | assumption | exact cu_36 (by omega) (cu_lt (by omega) (by omega))) (by first | omega | assumption | exact cu_36 (by omega) (cu_lt (by omega) (by omega))) (fun c40 => ?_) (fun c40 => ?_)
      · refine rr_nx (pc' := 156) (al' := [some (.ref 146), none, some (.int (nI 2)), some (.int (nI (SM (fun a => SM (fun b => if a < b then trR (fun u v => sqF n c a b u v) n else 0) n) n))), some (.int (nI n)), none, none, none]) (st' := [.int (nI (SM (fun a => SM (fun b => if a < b then trR (fun u v => sqF n c a b u v) n else 0) n) n))]) d_264_155 (fun _ => rfl) ?_
        exact rr_ri d_264_156 mr_264 rfl ⟨by rw [← sq_R]; rfl, rfl, rfl⟩
      · omega
theorem k_squaresOf {S : CS} {G : Nat → Nat → Value} {B : Nat → Nat → Int32} {J : Nat → Nat → Int64} {R : Nat → Nat → Option Nat} {a n : Nat} (ht : TabAt S G a) (hn : G a 0 = .int (nI n)) {c : Nat → Nat} (hc : TabC B a n c) {l s : Nat} (hl : l < n) (hs : s < n) : CR 1 15 0 [some (.ref a), some (.int (nI l)), some (.int (nI s)), none, none, none] [] S G B J R (cP (some (.int (nI (sqC n c s l)))) S G B J R) := by
  have hn6 := hc.1
  refine cn_ic (v := 0) d_15_0 (by decide) ?_
  refine cr_nx (pc' := 2) (al' := [some (.ref a), some (.int (nI l)), some (.int (nI s)), some (.int (nI 0)), none, none]) (st' := []) d_15_1 (fun _ => rfl) ?_
  refine cn_ic (v := 0) d_15_2 (by decide) ?_
  refine cr_nx (pc' := 5) (al' := [some (.ref a), some (.int (nI l)), some (.int (nI s)), some (.int (nI 0)), some (.int (nI 0)), none]) (st' := []) d_15_3 (fun _ => rfl) ?_
  refine cr_al (congrArg (fun z__ : Nat => ([some (.ref a), some (.int (nI l)), some (.int (nI s)), some (.int (nI z__)), some (.int (nI 0)), none] : AL)) (show 0 = SM (fun v => SM (fun u => sqF n c s l u v) v) 0 by rfl)) ?_
  refine cr_up (al := fun v => [some (.ref a), some (.int (nI l)), some (.int (nI s)), some (.int (nI (SM (fun v => SM (fun u => sqF n c s l u v) v) v))), some (.int (nI v)), none]) (S := fun v => S) (G := fun v => G) (B := fun v => B) (J := fun v => J) (R := fun v => R) (P := fun v => True) (n := n) (fun v hv pv ihv => ?_) (fun pv => ?_) 0  (by omega) (trivial)
  · show CR _ _ 5 [some (.ref a), some (.int (nI l)), some (.int (nI s)), some (.int (nI (SM (fun v => SM (fun u => sqF n c s l u v) v) v))), some (.int (nI v)), none] [] S G B J R _
    refine cr_nx (pc' := 7) (al' := [some (.ref a), some (.int (nI l)), some (.int (nI s)), some (.int (nI (SM (fun v => SM (fun u => sqF n c s l u v) v) v))), some (.int (nI v)), none]) (st' := [.int (nI v)]) d_15_5 (fun _ => rfl) ?_
    refine cr_nx (pc' := 8) (al' := [some (.ref a), some (.int (nI l)), some (.int (nI s)), some (.int (nI (SM (fun v => SM (fun u => sqF n c s l u v) v) v))), some (.int (nI v)), none]) (st' := [.ref a, .int (nI v)]) d_15_7 (fun _ => rfl) ?_
    refine cr_gf (v := .int (nI n)) d_15_8 cw_15 cf_1_28 ht.1 ht.2.2.1 (by decide) hn ?_
    refine cn_cge (t := 73) d_15_11 (by decide) (by first | omega | assumption | exact cu_36 (by omega) (cu_lt (by omega) (by omega))) (by first | omega | assumption | exact cu_36 (by omega) (cu_lt (by omega) (by omega))) (fun c11 => ?_) (fun c11 => ?_)
    · omega
    · refine cn_ic (v := 0) d_15_14 (by decide) ?_
      refine cr_nx (pc' := 17) (al' := [some (.ref a), some (.int (nI l)), some (.int (nI s)), some (.int (nI (SM (fun v => SM (fun u => sqF n c s l u v) v) v))), some (.int (nI v)), some (.int (nI 0))]) (st' := []) d_15_15 (fun _ => rfl) ?_
      refine cr_al (congrArg (fun z__ : Nat => ([some (.ref a), some (.int (nI l)), some (.int (nI s)), some (.int (nI z__)), some (.int (nI v)), some (.int (nI 0))] : AL)) (show SM (fun v => SM (fun u => sqF n c s l u v) v) v = SM (fun v => SM (fun u => sqF n c s l u v) v) v + SM (fun u => sqF n c s l u v) 0 by rfl)) ?_
      refine cr_up (al := fun u => [some (.ref a), some (.int (nI l)), some (.int (nI s)), some (.int (nI (SM (fun v => SM (fun u => sqF n c s l u v) v) v + SM (fun u => sqF n c s l u v) u))), some (.int (nI v)), some (.int (nI u))]) (S := fun u => S) (G := fun u => G) (B := fun u => B) (J := fun u => J) (R := fun u => R) (P := fun u => True) (n := v) (fun u hu pu ihu => ?_) (fun pu => ?_) 0  (by omega) (trivial)
      · show CR _ _ 17 [some (.ref a), some (.int (nI l)), some (.int (nI s)), some (.int (nI (SM (fun v => SM (fun u => sqF n c s l u v) v) v + SM (fun u => sqF n c s l u v) u))), some (.int (nI v)), some (.int (nI u))] [] S G B J R _
        refine cr_nx (pc' := 19) (al' := [some (.ref a), some (.int (nI l)), some (.int (nI s)), some (.int (nI (SM (fun v => SM (fun u => sqF n c s l u v) v) v + SM (fun u => sqF n c s l u v) u))), some (.int (nI v)), some (.int (nI u))]) (st' := [.int (nI u)]) d_15_17 (fun _ => rfl) ?_
        refine cr_nx (pc' := 21) (al' := [some (.ref a), some (.int (nI l)), some (.int (nI s)), some (.int (nI (SM (fun v => SM (fun u => sqF n c s l u v) v) v + SM (fun u => sqF n c s l u v) u))), some (.int (nI v)), some (.int (nI u))]) (st' := [.int (nI v), .int (nI u)]) d_15_19 (fun _ => rfl) ?_
        refine cn_cge (t := 67) d_15_21 (by decide) (by first | omega | assumption | exact cu_36 (by omega) (cu_lt (by omega) (by omega))) (by first | omega | assumption | exact cu_36 (by omega) (cu_lt (by omega) (by omega))) (fun c21 => ?_) (fun c21 => ?_)
        · omega
        · refine cr_nx (pc' := 25) (al' := [some (.ref a), some (.int (nI l)), some (.int (nI s)), some (.int (nI (SM (fun v => SM (fun u => sqF n c s l u v) v) v + SM (fun u => sqF n c s l u v) u))), some (.int (nI v)), some (.int (nI u))]) (st' := [.ref a]) d_15_24 (fun _ => rfl) ?_
          refine cr_nx (pc' := 26) (al' := [some (.ref a), some (.int (nI l)), some (.int (nI s)), some (.int (nI (SM (fun v => SM (fun u => sqF n c s l u v) v) v + SM (fun u => sqF n c s l u v) u))), some (.int (nI v)), some (.int (nI u))]) (st' := [.int (nI l), .ref a]) d_15_25 (fun _ => rfl) ?_
          refine cr_nx (pc' := 28) (al' := [some (.ref a), some (.int (nI l)), some (.int (nI s)), some (.int (nI (SM (fun v => SM (fun u => sqF n c s l u v) v) v + SM (fun u => sqF n c s l u v) u))), some (.int (nI v)), some (.int (nI u))]) (st' := [.int (nI v), .int (nI l), .ref a]) d_15_26 (fun _ => rfl) ?_
          refine cr_pv (b := a) (as := [.int (nI l), .int (nI v)]) (al0 := [some (.ref a), some (.int (nI l)), some (.int (nI v))]) (r := []) d_15_28 cw_15 cm_1_31 cz_91 rfl rfl ht.1 (by rw [cw_91]; exact ht.2.2.1) (by rw [cw_91]; decide) rfl (Nat.le_of_ble_eq_true rfl) (k_times ht hn hc (by omega) (by omega)) ?_
          show CR _ _ 31 [some (.ref a), some (.int (nI l)), some (.int (nI s)), some (.int (nI (SM (fun v => SM (fun u => sqF n c s l u v) v) v + SM (fun u => sqF n c s l u v) u))), some (.int (nI v)), some (.int (nI u))] [.int (nI (c (n * l + v)))] S G B J R _
          have b28 : c (n * l + v) < n := (hc.2 _ (cu_lt (by omega) (by omega))).2
          refine cr_nx (pc' := 32) (al' := [some (.ref a), some (.int (nI l)), some (.int (nI s)), some (.int (nI (SM (fun v => SM (fun u => sqF n c s l u v) v) v + SM (fun u => sqF n c s l u v) u))), some (.int (nI v)), some (.int (nI u))]) (st' := [.ref a, .int (nI (c (n * l + v)))]) d_15_31 (fun _ => rfl) ?_
          refine cr_nx (pc' := 33) (al' := [some (.ref a), some (.int (nI l)), some (.int (nI s)), some (.int (nI (SM (fun v => SM (fun u => sqF n c s l u v) v) v + SM (fun u => sqF n c s l u v) u))), some (.int (nI v)), some (.int (nI u))]) (st' := [.int (nI s), .ref a, .int (nI (c (n * l + v)))]) d_15_32 (fun _ => rfl) ?_
          refine cr_nx (pc' := 35) (al' := [some (.ref a), some (.int (nI l)), some (.int (nI s)), some (.int (nI (SM (fun v => SM (fun u => sqF n c s l u v) v) v + SM (fun u => sqF n c s l u v) u))), some (.int (nI v)), some (.int (nI u))]) (st' := [.int (nI u), .int (nI s), .ref a, .int (nI (c (n * l + v)))]) d_15_33 (fun _ => rfl) ?_
          refine cr_pv (b := a) (as := [.int (nI s), .int (nI u)]) (al0 := [some (.ref a), some (.int (nI s)), some (.int (nI u))]) (r := [.int (nI (c (n * l + v)))]) d_15_35 cw_15 cm_1_31 cz_91 rfl rfl ht.1 (by rw [cw_91]; exact ht.2.2.1) (by rw [cw_91]; decide) rfl (Nat.le_of_ble_eq_true rfl) (k_times ht hn hc (by omega) (by omega)) ?_
          show CR _ _ 38 [some (.ref a), some (.int (nI l)), some (.int (nI s)), some (.int (nI (SM (fun v => SM (fun u => sqF n c s l u v) v) v + SM (fun u => sqF n c s l u v) u))), some (.int (nI v)), some (.int (nI u))] [.int (nI (c (n * s + u))), .int (nI (c (n * l + v)))] S G B J R _
          have b35 : c (n * s + u) < n := (hc.2 _ (cu_lt (by omega) (by omega))).2
          refine cn_cne (t := 61) d_15_38 (by decide) (by first | omega | assumption | exact cu_36 (by omega) (cu_lt (by omega) (by omega))) (by first | omega | assumption | exact cu_36 (by omega) (cu_lt (by omega) (by omega))) (fun c38 => ?_) (fun c38 => ?_)
          · refine cn_inc d_15_61 rfl rfl ?_
            show CR _ _ 64 [some (.ref a), some (.int (nI l)), some (.int (nI s)), some (.int (nI (SM (fun v => SM (fun u => sqF n c s l u v) v) v + SM (fun u => sqF n c s l u v) u))), some (.int (nI v)), some (.int (nI (u + 1)))] [] S G B J R _
            refine cr_nx (pc' := 17) (al' := [some (.ref a), some (.int (nI l)), some (.int (nI s)), some (.int (nI (SM (fun v => SM (fun u => sqF n c s l u v) v) v + SM (fun u => sqF n c s l u v) u))), some (.int (nI v)), some (.int (nI (u + 1)))]) (st' := []) d_15_64 (fun _ => rfl) ?_
            refine cr_al (congrArg (fun z__ : Nat => ([some (.ref a), some (.int (nI l)), some (.int (nI s)), some (.int (nI z__)), some (.int (nI v)), some (.int (nI (u + 1)))] : AL)) (show SM (fun v => SM (fun u => sqF n c s l u v) v) v + SM (fun u => sqF n c s l u v) u = SM (fun v => SM (fun u => sqF n c s l u v) v) v + SM (fun u => sqF n c s l u v) (u + 1) by rw [SM_s]; (try dsimp only); rw [sqF]; first | (rw [if_pos ⟨c38.symm, c55.symm⟩]; omega) | (rw [if_neg (fun e => c55 e.2.symm)]; omega) | (rw [if_neg (fun e => c38 e.1.symm)]; omega))) ?_
            exact ihu  (trivial)
          · refine cr_nx (pc' := 42) (al' := [some (.ref a), some (.int (nI l)), some (.int (nI s)), some (.int (nI (SM (fun v => SM (fun u => sqF n c s l u v) v) v + SM (fun u => sqF n c s l u v) u))), some (.int (nI v)), some (.int (nI u))]) (st' := [.ref a]) d_15_41 (fun _ => rfl) ?_
            refine cr_nx (pc' := 43) (al' := [some (.ref a), some (.int (nI l)), some (.int (nI s)), some (.int (nI (SM (fun v => SM (fun u => sqF n c s l u v) v) v + SM (fun u => sqF n c s l u v) u))), some (.int (nI v)), some (.int (nI u))]) (st' := [.int (nI l), .ref a]) d_15_42 (fun _ => rfl) ?_
            refine cr_nx (pc' := 45) (al' := [some (.ref a), some (.int (nI l)), some (.int (nI s)), some (.int (nI (SM (fun v => SM (fun u => sqF n c s l u v) v) v + SM (fun u => sqF n c s l u v) u))), some (.int (nI v)), some (.int (nI u))]) (st' := [.int (nI u), .int (nI l), .ref a]) d_15_43 (fun _ => rfl) ?_
            refine cr_pv (b := a) (as := [.int (nI l), .int (nI u)]) (al0 := [some (.ref a), some (.int (nI l)), some (.int (nI u))]) (r := []) d_15_45 cw_15 cm_1_31 cz_91 rfl rfl ht.1 (by rw [cw_91]; exact ht.2.2.1) (by rw [cw_91]; decide) rfl (Nat.le_of_ble_eq_true rfl) (k_times ht hn hc (by omega) (by omega)) ?_
            show CR _ _ 48 [some (.ref a), some (.int (nI l)), some (.int (nI s)), some (.int (nI (SM (fun v => SM (fun u => sqF n c s l u v) v) v + SM (fun u => sqF n c s l u v) u))), some (.int (nI v)), some (.int (nI u))] [.int (nI (c (n * l + u)))] S G B J R _
            have b45 : c (n * l + u) < n := (hc.2 _ (cu_lt (by omega) (by omega))).2
            refine cr_nx (pc' := 49) (al' := [some (.ref a), some (.int (nI l)), some (.int (nI s)), some (.int (nI (SM (fun v => SM (fun u => sqF n c s l u v) v) v + SM (fun u => sqF n c s l u v) u))), some (.int (nI v)), some (.int (nI u))]) (st' := [.ref a, .int (nI (c (n * l + u)))]) d_15_48 (fun _ => rfl) ?_
            refine cr_nx (pc' := 50) (al' := [some (.ref a), some (.int (nI l)), some (.int (nI s)), some (.int (nI (SM (fun v => SM (fun u => sqF n c s l u v) v) v + SM (fun u => sqF n c s l u v) u))), some (.int (nI v)), some (.int (nI u))]) (st' := [.int (nI s), .ref a, .int (nI (c (n * l + u)))]) d_15_49 (fun _ => rfl) ?_
            refine cr_nx (pc' := 52) (al' := [some (.ref a), some (.int (nI l)), some (.int (nI s)), some (.int (nI (SM (fun v => SM (fun u => sqF n c s l u v) v) v + SM (fun u => sqF n c s l u v) u))), some (.int (nI v)), some (.int (nI u))]) (st' := [.int (nI v), .int (nI s), .ref a, .int (nI (c (n * l + u)))]) d_15_50 (fun _ => rfl) ?_
            refine cr_pv (b := a) (as := [.int (nI s), .int (nI v)]) (al0 := [some (.ref a), some (.int (nI s)), some (.int (nI v))]) (r := [.int (nI (c (n * l + u)))]) d_15_52 cw_15 cm_1_31 cz_91 rfl rfl ht.1 (by rw [cw_91]; exact ht.2.2.1) (by rw [cw_91]; decide) rfl (Nat.le_of_ble_eq_true rfl) (k_times ht hn hc (by omega) (by omega)) ?_
            show CR _ _ 55 [some (.ref a), some (.int (nI l)), some (.int (nI s)), some (.int (nI (SM (fun v => SM (fun u => sqF n c s l u v) v) v + SM (fun u => sqF n c s l u v) u))), some (.int (nI v)), some (.int (nI u))] [.int (nI (c (n * s + v))), .int (nI (c (n * l + u)))] S G B J R _
            have b52 : c (n * s + v) < n := (hc.2 _ (cu_lt (by omega) (by omega))).2
            refine cn_cne (t := 61) d_15_55 (by decide) (by first | omega | assumption | exact cu_36 (by omega) (cu_lt (by omega) (by omega))) (by first | omega | assumption | exact cu_36 (by omega) (cu_lt (by omega) (by omega))) (fun c55 => ?_) (fun c55 => ?_)
            · refine cn_inc d_15_61 rfl rfl ?_
              show CR _ _ 64 [some (.ref a), some (.int (nI l)), some (.int (nI s)), some (.int (nI (SM (fun v => SM (fun u => sqF n c s l u v) v) v + SM (fun u => sqF n c s l u v) u))), some (.int (nI v)), some (.int (nI (u + 1)))] [] S G B J R _
              refine cr_nx (pc' := 17) (al' := [some (.ref a), some (.int (nI l)), some (.int (nI s)), some (.int (nI (SM (fun v => SM (fun u => sqF n c s l u v) v) v + SM (fun u => sqF n c s l u v) u))), some (.int (nI v)), some (.int (nI (u + 1)))]) (st' := []) d_15_64 (fun _ => rfl) ?_
              refine cr_al (congrArg (fun z__ : Nat => ([some (.ref a), some (.int (nI l)), some (.int (nI s)), some (.int (nI z__)), some (.int (nI v)), some (.int (nI (u + 1)))] : AL)) (show SM (fun v => SM (fun u => sqF n c s l u v) v) v + SM (fun u => sqF n c s l u v) u = SM (fun v => SM (fun u => sqF n c s l u v) v) v + SM (fun u => sqF n c s l u v) (u + 1) by rw [SM_s]; (try dsimp only); rw [sqF]; first | (rw [if_pos ⟨c38.symm, c55.symm⟩]; omega) | (rw [if_neg (fun e => c55 e.2.symm)]; omega) | (rw [if_neg (fun e => c38 e.1.symm)]; omega))) ?_
              exact ihu  (trivial)
            · refine cn_inc d_15_58 rfl rfl ?_
              show CR _ _ 61 [some (.ref a), some (.int (nI l)), some (.int (nI s)), some (.int (nI ((SM (fun v => SM (fun u => sqF n c s l u v) v) v + SM (fun u => sqF n c s l u v) u) + 1))), some (.int (nI v)), some (.int (nI u))] [] S G B J R _
              refine cn_inc d_15_61 rfl rfl ?_
              show CR _ _ 64 [some (.ref a), some (.int (nI l)), some (.int (nI s)), some (.int (nI ((SM (fun v => SM (fun u => sqF n c s l u v) v) v + SM (fun u => sqF n c s l u v) u) + 1))), some (.int (nI v)), some (.int (nI (u + 1)))] [] S G B J R _
              refine cr_nx (pc' := 17) (al' := [some (.ref a), some (.int (nI l)), some (.int (nI s)), some (.int (nI ((SM (fun v => SM (fun u => sqF n c s l u v) v) v + SM (fun u => sqF n c s l u v) u) + 1))), some (.int (nI v)), some (.int (nI (u + 1)))]) (st' := []) d_15_64 (fun _ => rfl) ?_
              refine cr_al (congrArg (fun z__ : Nat => ([some (.ref a), some (.int (nI l)), some (.int (nI s)), some (.int (nI z__)), some (.int (nI v)), some (.int (nI (u + 1)))] : AL)) (show (SM (fun v => SM (fun u => sqF n c s l u v) v) v + SM (fun u => sqF n c s l u v) u) + 1 = SM (fun v => SM (fun u => sqF n c s l u v) v) v + SM (fun u => sqF n c s l u v) (u + 1) by rw [SM_s]; (try dsimp only); rw [sqF]; first | (rw [if_pos ⟨c38.symm, c55.symm⟩]; omega) | (rw [if_neg (fun e => c55 e.2.symm)]; omega) | (rw [if_neg (fun e => c38 e.1.symm)]; omega))) ?_
              exact ihu  (trivial)
      · show CR _ _ 17 [some (.ref a), some (.int (nI l)), some (.int (nI s)), some (.int (nI (SM (fun v => SM (fun u => sqF n c s l u v) v) v + SM (fun u => sqF n c s l u v) v))), some (.int (nI v)), some (.int (nI v))] [] S G B J R _
        refine cr_nx (pc' := 19) (al' := [some (.ref a), some (.int (nI l)), some (.int (nI s)), some (.int (nI (SM (fun v => SM (fun u => sqF n c s l u v) v) v + SM (fun u => sqF n c s l u v) v))), some (.int (nI v)), some (.int (nI v))]) (st' := [.int (nI v)]) d_15_17 (fun _ => rfl) ?_
        refine cr_nx (pc' := 21) (al' := [some (.ref a), some (.int (nI l)), some (.int (nI s)), some (.int (nI (SM (fun v => SM (fun u => sqF n c s l u v) v) v + SM (fun u => sqF n c s l u v) v))), some (.int (nI v)), some (.int (nI v))]) (st' := [.int (nI v), .int (nI v)]) d_15_19 (fun _ => rfl) ?_
        refine cn_cge (t := 67) d_15_21 (by decide) (by first | omega | assumption | exact cu_36 (by omega) (cu_lt (by omega) (by omega))) (by first | omega | assumption | exact cu_36 (by omega) (cu_lt (by omega) (by omega))) (fun c21 => ?_) (fun c21 => ?_)
        · refine cn_inc d_15_67 rfl rfl ?_
          show CR _ _ 70 [some (.ref a), some (.int (nI l)), some (.int (nI s)), some (.int (nI (SM (fun v => SM (fun u => sqF n c s l u v) v) v + SM (fun u => sqF n c s l u v) v))), some (.int (nI (v + 1))), some (.int (nI v))] [] S G B J R _
          refine cr_nx (pc' := 5) (al' := [some (.ref a), some (.int (nI l)), some (.int (nI s)), some (.int (nI (SM (fun v => SM (fun u => sqF n c s l u v) v) v + SM (fun u => sqF n c s l u v) v))), some (.int (nI (v + 1))), some (.int (nI v))]) (st' := []) d_15_70 (fun _ => rfl) ?_
          refine cr_al (congrArg (fun z__ : Nat => ([some (.ref a), some (.int (nI l)), some (.int (nI s)), some (.int (nI z__)), some (.int (nI (v + 1))), some (.int (nI v))] : AL)) (show SM (fun v => SM (fun u => sqF n c s l u v) v) v + SM (fun u => sqF n c s l u v) v = SM (fun v => SM (fun u => sqF n c s l u v) v) (v + 1) by rfl)) ?_
          refine cr_dr (al1 := [some (.ref a), some (.int (nI l)), some (.int (nI s)), some (.int (nI (SM (fun v => SM (fun u => sqF n c s l u v) v) (v + 1)))), some (.int (nI (v + 1))), none]) (le_s (le_s (le_s (le_s (le_s (le_d rfl (le_n))))))) ?_
          exact ihv  (trivial)
        · omega
  · show CR _ _ 5 [some (.ref a), some (.int (nI l)), some (.int (nI s)), some (.int (nI (SM (fun v => SM (fun u => sqF n c s l u v) v) n))), some (.int (nI n)), none] [] S G B J R _
    refine cr_nx (pc' := 7) (al' := [some (.ref a), some (.int (nI l)), some (.int (nI s)), some (.int (nI (SM (fun v => SM (fun u => sqF n c s l u v) v) n))), some (.int (nI n)), none]) (st' := [.int (nI n)]) d_15_5 (fun _ => rfl) ?_
    refine cr_nx (pc' := 8) (al' := [some (.ref a), some (.int (nI l)), some (.int (nI s)), some (.int (nI (SM (fun v => SM (fun u => sqF n c s l u v) v) n))), some (.int (nI n)), none]) (st' := [.ref a, .int (nI n)]) d_15_7 (fun _ => rfl) ?_
    refine cr_gf (v := .int (nI n)) d_15_8 cw_15 cf_1_28 ht.1 ht.2.2.1 (by decide) hn ?_
    refine cn_cge (t := 73) d_15_11 (by decide) (by first | omega | assumption | exact cu_36 (by omega) (cu_lt (by omega) (by omega))) (by first | omega | assumption | exact cu_36 (by omega) (cu_lt (by omega) (by omega))) (fun c11 => ?_) (fun c11 => ?_)
    · refine cr_nx (pc' := 74) (al' := [some (.ref a), some (.int (nI l)), some (.int (nI s)), some (.int (nI (SM (fun v => SM (fun u => sqF n c s l u v) v) n))), some (.int (nI n)), none]) (st' := [.int (nI (SM (fun v => SM (fun u => sqF n c s l u v) v) n))]) d_15_73 (fun _ => rfl) ?_
      exact cr_ri d_15_74 cx_15 rfl ⟨rfl, rfl, rfl, rfl, rfl, rfl⟩
    · omega
theorem k_squares {S : CS} {G : Nat → Nat → Value} {B : Nat → Nat → Int32} {J : Nat → Nat → Int64} {R : Nat → Nat → Option Nat} {a n : Nat} (ht : TabAt S G a) (hn : G a 0 = .int (nI n)) {c : Nat → Nat} (hc : TabC B a n c) : CR 2 14 0 [some (.ref a), none, none, none] [] S G B J R (cP (some (.int (nI (sqN n c)))) S G B J R) := by
  have hn6 := hc.1
  refine cn_ic (v := 0) d_14_0 (by decide) ?_
  refine cr_nx (pc' := 2) (al' := [some (.ref a), some (.int (nI 0)), none, none]) (st' := []) d_14_1 (fun _ => rfl) ?_
  refine cn_ic (v := 0) d_14_2 (by decide) ?_
  refine cr_nx (pc' := 4) (al' := [some (.ref a), some (.int (nI 0)), some (.int (nI 0)), none]) (st' := []) d_14_3 (fun _ => rfl) ?_
  refine cr_al (congrArg (fun z__ : Nat => ([some (.ref a), some (.int (nI z__)), some (.int (nI 0)), none] : AL)) (show 0 = SM (fun l => SM (fun s => sqC n c s l) l) 0 by rfl)) ?_
  refine cr_up (al := fun l => [some (.ref a), some (.int (nI (SM (fun l => SM (fun s => sqC n c s l) l) l))), some (.int (nI l)), none]) (S := fun l => S) (G := fun l => G) (B := fun l => B) (J := fun l => J) (R := fun l => R) (P := fun l => True) (n := n) (fun l hl pl ihl => ?_) (fun pl => ?_) 0  (by omega) (trivial)
  · show CR _ _ 4 [some (.ref a), some (.int (nI (SM (fun l => SM (fun s => sqC n c s l) l) l))), some (.int (nI l)), none] [] S G B J R _
    refine cr_nx (pc' := 5) (al' := [some (.ref a), some (.int (nI (SM (fun l => SM (fun s => sqC n c s l) l) l))), some (.int (nI l)), none]) (st' := [.int (nI l)]) d_14_4 (fun _ => rfl) ?_
    refine cr_nx (pc' := 6) (al' := [some (.ref a), some (.int (nI (SM (fun l => SM (fun s => sqC n c s l) l) l))), some (.int (nI l)), none]) (st' := [.ref a, .int (nI l)]) d_14_5 (fun _ => rfl) ?_
    refine cr_gf (v := .int (nI n)) d_14_6 cw_14 cf_1_28 ht.1 ht.2.2.1 (by decide) hn ?_
    refine cn_cge (t := 40) d_14_9 (by decide) (by first | omega | assumption | exact cu_36 (by omega) (cu_lt (by omega) (by omega))) (by first | omega | assumption | exact cu_36 (by omega) (cu_lt (by omega) (by omega))) (fun c9 => ?_) (fun c9 => ?_)
    · omega
    · refine cn_ic (v := 0) d_14_12 (by decide) ?_
      refine cr_nx (pc' := 14) (al' := [some (.ref a), some (.int (nI (SM (fun l => SM (fun s => sqC n c s l) l) l))), some (.int (nI l)), some (.int (nI 0))]) (st' := []) d_14_13 (fun _ => rfl) ?_
      refine cr_al (congrArg (fun z__ : Nat => ([some (.ref a), some (.int (nI z__)), some (.int (nI l)), some (.int (nI 0))] : AL)) (show SM (fun l => SM (fun s => sqC n c s l) l) l = SM (fun l => SM (fun s => sqC n c s l) l) l + SM (fun s => sqC n c s l) 0 by rfl)) ?_
      refine cr_up (al := fun s => [some (.ref a), some (.int (nI (SM (fun l => SM (fun s => sqC n c s l) l) l + SM (fun s => sqC n c s l) s))), some (.int (nI l)), some (.int (nI s))]) (S := fun s => S) (G := fun s => G) (B := fun s => B) (J := fun s => J) (R := fun s => R) (P := fun s => True) (n := l) (fun s hs ps ihs => ?_) (fun ps => ?_) 0  (by omega) (trivial)
      · show CR _ _ 14 [some (.ref a), some (.int (nI (SM (fun l => SM (fun s => sqC n c s l) l) l + SM (fun s => sqC n c s l) s))), some (.int (nI l)), some (.int (nI s))] [] S G B J R _
        refine cr_nx (pc' := 15) (al' := [some (.ref a), some (.int (nI (SM (fun l => SM (fun s => sqC n c s l) l) l + SM (fun s => sqC n c s l) s))), some (.int (nI l)), some (.int (nI s))]) (st' := [.int (nI s)]) d_14_14 (fun _ => rfl) ?_
        refine cr_nx (pc' := 16) (al' := [some (.ref a), some (.int (nI (SM (fun l => SM (fun s => sqC n c s l) l) l + SM (fun s => sqC n c s l) s))), some (.int (nI l)), some (.int (nI s))]) (st' := [.int (nI l), .int (nI s)]) d_14_15 (fun _ => rfl) ?_
        refine cn_cge (t := 34) d_14_16 (by decide) (by first | omega | assumption | exact cu_36 (by omega) (cu_lt (by omega) (by omega))) (by first | omega | assumption | exact cu_36 (by omega) (cu_lt (by omega) (by omega))) (fun c16 => ?_) (fun c16 => ?_)
        · omega
        · refine cr_nx (pc' := 20) (al' := [some (.ref a), some (.int (nI (SM (fun l => SM (fun s => sqC n c s l) l) l + SM (fun s => sqC n c s l) s))), some (.int (nI l)), some (.int (nI s))]) (st' := [.int (nI (SM (fun l => SM (fun s => sqC n c s l) l) l + SM (fun s => sqC n c s l) s))]) d_14_19 (fun _ => rfl) ?_
          refine cr_nx (pc' := 21) (al' := [some (.ref a), some (.int (nI (SM (fun l => SM (fun s => sqC n c s l) l) l + SM (fun s => sqC n c s l) s))), some (.int (nI l)), some (.int (nI s))]) (st' := [.ref a, .int (nI (SM (fun l => SM (fun s => sqC n c s l) l) l + SM (fun s => sqC n c s l) s))]) d_14_20 (fun _ => rfl) ?_
          refine cr_nx (pc' := 22) (al' := [some (.ref a), some (.int (nI (SM (fun l => SM (fun s => sqC n c s l) l) l + SM (fun s => sqC n c s l) s))), some (.int (nI l)), some (.int (nI s))]) (st' := [.int (nI l), .ref a, .int (nI (SM (fun l => SM (fun s => sqC n c s l) l) l + SM (fun s => sqC n c s l) s))]) d_14_21 (fun _ => rfl) ?_
          refine cr_nx (pc' := 23) (al' := [some (.ref a), some (.int (nI (SM (fun l => SM (fun s => sqC n c s l) l) l + SM (fun s => sqC n c s l) s))), some (.int (nI l)), some (.int (nI s))]) (st' := [.int (nI s), .int (nI l), .ref a, .int (nI (SM (fun l => SM (fun s => sqC n c s l) l) l + SM (fun s => sqC n c s l) s))]) d_14_22 (fun _ => rfl) ?_
          refine cr_ps (as := [.ref a, .int (nI l), .int (nI s)]) (al0 := [some (.ref a), some (.int (nI l)), some (.int (nI s)), none, none, none]) (r := [.int (nI (SM (fun l => SM (fun s => sqC n c s l) l) l + SM (fun s => sqC n c s l) s))]) d_14_23 cw_14 cm_1_43 (by decide) cz_15 rfl rfl rfl (Nat.le_of_ble_eq_true rfl) (k_squaresOf ht hn hc (by omega) (by omega)) ?_
          show CR _ _ 26 [some (.ref a), some (.int (nI (SM (fun l => SM (fun s => sqC n c s l) l) l + SM (fun s => sqC n c s l) s))), some (.int (nI l)), some (.int (nI s))] [.int (nI (sqC n c s l)), .int (nI (SM (fun l => SM (fun s => sqC n c s l) l) l + SM (fun s => sqC n c s l) s))] S G B J R _
          refine cn_add d_14_26  ?_
          refine cr_nx (pc' := 28) (al' := [some (.ref a), some (.int (nI ((SM (fun l => SM (fun s => sqC n c s l) l) l + SM (fun s => sqC n c s l) s) + (sqC n c s l)))), some (.int (nI l)), some (.int (nI s))]) (st' := []) d_14_27 (fun _ => rfl) ?_
          refine cn_inc d_14_28 rfl rfl ?_
          show CR _ _ 31 [some (.ref a), some (.int (nI ((SM (fun l => SM (fun s => sqC n c s l) l) l + SM (fun s => sqC n c s l) s) + (sqC n c s l)))), some (.int (nI l)), some (.int (nI (s + 1)))] [] S G B J R _
          refine cr_nx (pc' := 14) (al' := [some (.ref a), some (.int (nI ((SM (fun l => SM (fun s => sqC n c s l) l) l + SM (fun s => sqC n c s l) s) + (sqC n c s l)))), some (.int (nI l)), some (.int (nI (s + 1)))]) (st' := []) d_14_31 (fun _ => rfl) ?_
          refine cr_al (congrArg (fun z__ : Nat => ([some (.ref a), some (.int (nI z__)), some (.int (nI l)), some (.int (nI (s + 1)))] : AL)) (show (SM (fun l => SM (fun s => sqC n c s l) l) l + SM (fun s => sqC n c s l) s) + (sqC n c s l) = SM (fun l => SM (fun s => sqC n c s l) l) l + SM (fun s => sqC n c s l) (s + 1) by rw [SM_s]; exact Nat.add_assoc _ _ _)) ?_
          exact ihs  (trivial)
      · show CR _ _ 14 [some (.ref a), some (.int (nI (SM (fun l => SM (fun s => sqC n c s l) l) l + SM (fun s => sqC n c s l) l))), some (.int (nI l)), some (.int (nI l))] [] S G B J R _
        refine cr_nx (pc' := 15) (al' := [some (.ref a), some (.int (nI (SM (fun l => SM (fun s => sqC n c s l) l) l + SM (fun s => sqC n c s l) l))), some (.int (nI l)), some (.int (nI l))]) (st' := [.int (nI l)]) d_14_14 (fun _ => rfl) ?_
        refine cr_nx (pc' := 16) (al' := [some (.ref a), some (.int (nI (SM (fun l => SM (fun s => sqC n c s l) l) l + SM (fun s => sqC n c s l) l))), some (.int (nI l)), some (.int (nI l))]) (st' := [.int (nI l), .int (nI l)]) d_14_15 (fun _ => rfl) ?_
        refine cn_cge (t := 34) d_14_16 (by decide) (by first | omega | assumption | exact cu_36 (by omega) (cu_lt (by omega) (by omega))) (by first | omega | assumption | exact cu_36 (by omega) (cu_lt (by omega) (by omega))) (fun c16 => ?_) (fun c16 => ?_)
        · refine cn_inc d_14_34 rfl rfl ?_
          show CR _ _ 37 [some (.ref a), some (.int (nI (SM (fun l => SM (fun s => sqC n c s l) l) l + SM (fun s => sqC n c s l) l))), some (.int (nI (l + 1))), some (.int (nI l))] [] S G B J R _
          refine cr_nx (pc' := 4) (al' := [some (.ref a), some (.int (nI (SM (fun l => SM (fun s => sqC n c s l) l) l + SM (fun s => sqC n c s l) l))), some (.int (nI (l + 1))), some (.int (nI l))]) (st' := []) d_14_37 (fun _ => rfl) ?_
          refine cr_al (congrArg (fun z__ : Nat => ([some (.ref a), some (.int (nI z__)), some (.int (nI (l + 1))), some (.int (nI l))] : AL)) (show SM (fun l => SM (fun s => sqC n c s l) l) l + SM (fun s => sqC n c s l) l = SM (fun l => SM (fun s => sqC n c s l) l) (l + 1) by rfl)) ?_
          refine cr_dr (al1 := [some (.ref a), some (.int (nI (SM (fun l => SM (fun s => sqC n c s l) l) (l + 1)))), some (.int (nI (l + 1))), none]) (le_s (le_s (le_s (le_d rfl (le_n))))) ?_
          exact ihl  (trivial)
        · omega
  · show CR _ _ 4 [some (.ref a), some (.int (nI (SM (fun l => SM (fun s => sqC n c s l) l) n))), some (.int (nI n)), none] [] S G B J R _
    refine cr_nx (pc' := 5) (al' := [some (.ref a), some (.int (nI (SM (fun l => SM (fun s => sqC n c s l) l) n))), some (.int (nI n)), none]) (st' := [.int (nI n)]) d_14_4 (fun _ => rfl) ?_
    refine cr_nx (pc' := 6) (al' := [some (.ref a), some (.int (nI (SM (fun l => SM (fun s => sqC n c s l) l) n))), some (.int (nI n)), none]) (st' := [.ref a, .int (nI n)]) d_14_5 (fun _ => rfl) ?_
    refine cr_gf (v := .int (nI n)) d_14_6 cw_14 cf_1_28 ht.1 ht.2.2.1 (by decide) hn ?_
    refine cn_cge (t := 40) d_14_9 (by decide) (by first | omega | assumption | exact cu_36 (by omega) (cu_lt (by omega) (by omega))) (by first | omega | assumption | exact cu_36 (by omega) (cu_lt (by omega) (by omega))) (fun c9 => ?_) (fun c9 => ?_)
    · refine cr_nx (pc' := 41) (al' := [some (.ref a), some (.int (nI (SM (fun l => SM (fun s => sqC n c s l) l) n))), some (.int (nI n)), none]) (st' := [.int (nI (SM (fun l => SM (fun s => sqC n c s l) l) n))]) d_14_40 (fun _ => rfl) ?_
      exact cr_ri d_14_41 cx_14 rfl ⟨rfl, rfl, rfl, rfl, rfl, rfl⟩
    · omega
def tvS (n : Nat) (c : Nat → Nat) (r : Nat) : Nat := ORs (fun x => 1 * 2 ^ c (n * x + pmE n r x)) n
def TVb (n : Nat) (c : Nat → Nat) (r : Nat) : Bool := decide (tvS n c r = 1 * 2 ^ n - 1)
def mkM (n r : Nat) : Nat := ORs (fun x => 1 * 2 ^ (n * x + pmE n r x)) n
def tvL (n : Nat) (c : Nat → Nat) : List Nat := (List.range (FA n)).filter (TVb n c)
def tvR (n : Nat) (c : Nat → Nat) (r : Nat) : List Nat := (List.range r).filter (TVb n c)
theorem tvR_s {n : Nat} {c : Nat → Nat} {r : Nat} : tvR n c (r + 1) = tvR n c r ++ (if TVb n c r = true then [r] else []) := by
  unfold tvR
  rw [List.range_succ, List.filter_append]
  congr 1
  by_cases h : TVb n c r = true
  · rw [if_pos h, List.filter_cons, if_pos h]
    rfl
  · rw [if_neg h, List.filter_cons, if_neg h]
    rfl
theorem tvR_len {n : Nat} {c : Nat → Nat} {r : Nat} : (tvR n c r).length ≤ r := by
  have := List.length_filter_le (TVb n c) (List.range r)
  rw [List.length_range] at this
  exact this
theorem tvR_mem {n : Nat} {c : Nat → Nat} {r j : Nat} (h : j < (tvR n c r).length) : (tvR n c r).getD j 0 < r := by
  have := gD_mem h
  unfold tvR at this ⊢
  exact List.mem_range.mp (List.mem_filter.mp this).1
theorem mkM_bit {n r q : Nat} : (mkM n r).testBit q = true ↔ ∃ x, x < n ∧ n * x + pmE n r x = q := by
  unfold mkM
  rw [ORs_bit]
  constructor
  · rintro ⟨x, hx, h⟩
    rw [Nat.one_mul, Nat.testBit_two_pow] at h
    exact ⟨x, hx, of_decide_eq_true h⟩
  · rintro ⟨x, hx, h⟩
    exact ⟨x, hx, by rw [Nat.one_mul, Nat.testBit_two_pow]; exact decide_eq_true h⟩
theorem mkM_lt {n r : Nat} (hn : n ≤ 6) (hr : r < FA n) : mkM n r < 2 ^ 36 := ORs_lt fun x hx => by
  rw [Nat.one_mul]
  exact tw_lt (cu_36 hn (cu_lt hx ((pm_per hn hr).1 x hx)))
theorem mkM_0 {n r k : Nat} (hn : n ≤ 6) (hr : r < FA n) (hk : k < n) : (mkM n r).testBit k = true ↔ pmE n r 0 = k := by
  rw [mkM_bit]
  constructor
  · rintro ⟨x, hx, e⟩
    rcases Nat.eq_zero_or_pos x with h | h
    · subst h
      rw [Nat.mul_zero, Nat.zero_add] at e
      exact e
    · have : n * 1 ≤ n * x := Nat.mul_le_mul_left n h
      omega
  · intro e
    exact ⟨0, by omega, by rw [Nat.mul_zero, Nat.zero_add]; exact e⟩
theorem and_0 {a b : Nat} : a &&& b = 0 ↔ ∀ q, a.testBit q = true → b.testBit q = false := by
  constructor
  · intro h q hq
    have := congrArg (fun z => z.testBit q) h
    simp only [Nat.testBit_and, Nat.zero_testBit, hq, Bool.true_and] at this
    exact this
  · intro h
    apply Nat.eq_of_testBit_eq
    intro q
    rw [Nat.testBit_and, Nat.zero_testBit]
    cases ha : a.testBit q
    · rfl
    · rw [h q ha]
      rfl
theorem mkM_and {n r u : Nat} : mkM n r &&& u = 0 ↔ ∀ x, x < n → u.testBit (n * x + pmE n r x) = false := by
  rw [and_0]
  constructor
  · exact fun h x hx => h _ (mkM_bit.mpr ⟨x, hx, rfl⟩)
  · intro h q hq
    obtain ⟨x, hx, e⟩ := mkM_bit.mp hq
    rw [← e]
    exact h x hx
/-- mates: the ways to go on from a column, over a list of transversals -/
def mtM (n : Nat) (L : List Nat) : Nat → Nat → Nat → Nat
  | 0, _, _ => 1
  | k + 1, col, u => SM (fun j => if pmE n (L.getD j 0) 0 = col ∧ mkM n (L.getD j 0) &&& u = 0 then mtM n L k (col + 1) (u ||| mkM n (L.getD j 0)) else 0) L.length
def mtF (n : Nat) (L : List Nat) (k col u j : Nat) : Nat := if pmE n (L.getD j 0) 0 = col ∧ mkM n (L.getD j 0) &&& u = 0 then mtM n L k (col + 1) (u ||| mkM n (L.getD j 0)) else 0
theorem mtM_s {n : Nat} {L : List Nat} {k col u : Nat} : mtM n L (k + 1) col u = SM (mtF n L k col u) L.length := rfl
theorem s_crosses {g : Nat → Int32} {A : Nat → Nat → Int32} {n : Nat} {c : Nat → Nat} (hc : Cur g A n c) (hl : Lat n c) : RR 2 265 0 [some (.ref 146), none, none, none, none] [] g A (fun r_ g' A' => r_ = none ∧ Gsm g g' ∧ Ksm A A' ∧ g' 6 = nI n ∧ A' 4 = A 4 ∧ g' 40 = nI (tvL n c).length ∧ ∀ j, j < (tvL n c).length → A' 21 j = nI ((tvL n c).getD j 0)) := by
  have hn6 := hc.2.1
  have h720 := FA_720 hn6
  have h2n := m_lt hn6
  refine rr_nx (pc' := 1) (al' := [some (.ref 146), none, none, none, none]) (st' := [.ref 146]) d_265_0 (fun _ => rfl) ?_
  refine rn_ic (v := 0) d_265_1 (by decide) ?_
  refine rp_40 d_265_2 mo_265 fl_325  ?_
  refine rr_nx (pc' := 6) (al' := [some (.ref 146), none, none, none, none]) (st' := [.ref 146]) d_265_5 (fun _ => rfl) ?_
  refine rr_gf (v := .int (g 6)) d_265_6 mo_265 fl_127 rfl ?_
  refine rr_tp (z := nI n) (by first | exact hc.1 | exact pr.1) ?_
  refine rr_ps (as := [.int (nI n)]) (al0 := [some (.int (nI n)), none, none]) (r := []) d_265_9 mo_265 ml_270 mz_233 rfl rfl rfl (Nat.le_of_ble_eq_true rfl) (s_factorial (by omega)) ?_
  show RR _ _ 12 [some (.ref 146), none, none, none, none] [.int (nI (FA n))] (upd g 40 (nI 0)) A _
  refine rr_nx (pc' := 13) (al' := [some (.ref 146), some (.int (nI (FA n))), none, none, none]) (st' := []) d_265_12 (fun _ => rfl) ?_
  refine rn_ic (v := 0) d_265_13 (by decide) ?_
  refine rr_nx (pc' := 15) (al' := [some (.ref 146), some (.int (nI (FA n))), some (.int (nI 0)), none, none]) (st' := []) d_265_14 (fun _ => rfl) ?_
  refine rr_upw (al := fun r w_ => [some (.ref 146), some (.int (nI (FA n))), some (.int (nI r)), none, none]) (G := fun r w_ => w_.1) (B := fun r w_ => w_.2) (P := fun r w_ => w_.1 6 = nI n ∧ w_.1 40 = nI (tvR n c r).length ∧ Gsm g w_.1 ∧ Ksm A w_.2 ∧ w_.2 4 = A 4 ∧ ∀ j, j < (tvR n c r).length → w_.2 21 j = nI ((tvR n c r).getD j 0)) (n := FA n) (fun r w_ hr pr ihr => ?_) (fun w_ pr => ?_) 0 ((upd g 40 (nI 0)), A) (by omega) (⟨by dsimp only; rw [pk_un (by decide)]; exact hc.1, by dsimp only; rw [pk_us]; rfl, Gsm.rf.u (by decide), Ksm.rf, rfl, fun j hj => absurd hj (Nat.not_lt_zero j)⟩)
  · show RR _ _ 15 [some (.ref 146), some (.int (nI (FA n))), some (.int (nI r)), none, none] [] w_.1 w_.2 _
    have hP := pm_per hn6 hr
    have hlen := tvR_len (n := n) (c := c) (r := r)
    refine rr_nx (pc' := 16) (al' := [some (.ref 146), some (.int (nI (FA n))), some (.int (nI r)), none, none]) (st' := [.int (nI r)]) d_265_15 (fun _ => rfl) ?_
    refine rr_nx (pc' := 17) (al' := [some (.ref 146), some (.int (nI (FA n))), some (.int (nI r)), none, none]) (st' := [.int (nI (FA n)), .int (nI r)]) d_265_16 (fun _ => rfl) ?_
    refine rn_cge (t := 108) d_265_17 (by decide) (by first | omega | assumption | exact cu_36 (by omega) (cu_lt (by omega) (by omega))) (by first | omega | assumption | exact cu_36 (by omega) (cu_lt (by omega) (by omega))) (fun c17 => ?_) (fun c17 => ?_)
    · omega
    · refine rr_nx (pc' := 21) (al' := [some (.ref 146), some (.int (nI (FA n))), some (.int (nI r)), none, none]) (st' := [.ref 146]) d_265_20 (fun _ => rfl) ?_
      refine rr_nx (pc' := 22) (al' := [some (.ref 146), some (.int (nI (FA n))), some (.int (nI r)), none, none]) (st' := [.int (nI r), .ref 146]) d_265_21 (fun _ => rfl) ?_
      refine rr_nx (pc' := 23) (al' := [some (.ref 146), some (.int (nI (FA n))), some (.int (nI r)), none, none]) (st' := [.ref 146, .int (nI r), .ref 146]) d_265_22 (fun _ => rfl) ?_
      refine rr_gn d_265_23 mo_265 fl_127 rfl (by first | exact hc.1 | exact pr.1) ?_
      refine rr_cv (as := [.int (nI r), .int (nI n)]) (al0 := [some (.ref 146), some (.int (nI r)), some (.int (nI n)), none, none, none, none, none, none]) (r := []) d_265_26 mo_265 ml_273 mz_234 rfl rfl rfl (rr_wk (Nat.le_of_ble_eq_true rfl) (s_permutes (n := n) (r := r) (by omega) (by first | omega | assumption | exact cu_36 (by omega) (cu_lt (by omega) (by omega))))) (fun v1 g1 A1 h1 => ?_)
      obtain ⟨q0_, q1_, w26, q9_, hw26⟩ := h1
      obtain rfl := q0_
      obtain rfl := q1_.symm
      obtain rfl := q9_
      show RR _ _ 29 [some (.ref 146), some (.int (nI (FA n))), some (.int (nI r)), none, none] [] w_.1 (rf_u w_.2 13 w26) _
      refine rn_ic (v := 0) d_265_29 (by decide) ?_
      refine rr_nx (pc' := 31) (al' := [some (.ref 146), some (.int (nI (FA n))), some (.int (nI r)), some (.int (nI 0)), none]) (st' := []) d_265_30 (fun _ => rfl) ?_
      refine rn_ic (v := 0) d_265_31 (by decide) ?_
      refine rr_nx (pc' := 34) (al' := [some (.ref 146), some (.int (nI (FA n))), some (.int (nI r)), some (.int (nI 0)), some (.int (nI 0))]) (st' := []) d_265_32 (fun _ => rfl) ?_
      refine rr_al (congrArg (fun z__ : Nat => ([some (.ref 146), some (.int (nI (FA n))), some (.int (nI r)), some (.int (nI z__)), some (.int (nI 0))] : AL)) (show 0 = ORs (fun x => 1 * 2 ^ c (n * x + pmE n r x)) 0 by rfl)) ?_
      refine rr_up (al := fun x => [some (.ref 146), some (.int (nI (FA n))), some (.int (nI r)), some (.int (nI (ORs (fun x => 1 * 2 ^ c (n * x + pmE n r x)) x))), some (.int (nI x))]) (G := fun x => w_.1) (B := fun x => (rf_u w_.2 13 w26)) (P := fun x => True) (n := n) (fun x hx px ihx => ?_) (fun px => ?_) 0  (by omega) (trivial)
      · show RR _ _ 34 [some (.ref 146), some (.int (nI (FA n))), some (.int (nI r)), some (.int (nI (ORs (fun x => 1 * 2 ^ c (n * x + pmE n r x)) x))), some (.int (nI x))] [] w_.1 (rf_u w_.2 13 w26) _
        have hpx := hP.1 x hx
        refine rr_nx (pc' := 36) (al' := [some (.ref 146), some (.int (nI (FA n))), some (.int (nI r)), some (.int (nI (ORs (fun x => 1 * 2 ^ c (n * x + pmE n r x)) x))), some (.int (nI x))]) (st' := [.int (nI x)]) d_265_34 (fun _ => rfl) ?_
        refine rr_nx (pc' := 37) (al' := [some (.ref 146), some (.int (nI (FA n))), some (.int (nI r)), some (.int (nI (ORs (fun x => 1 * 2 ^ c (n * x + pmE n r x)) x))), some (.int (nI x))]) (st' := [.ref 146, .int (nI x)]) d_265_36 (fun _ => rfl) ?_
        refine rr_gn d_265_37 mo_265 fl_127 rfl (by first | exact hc.1 | exact pr.1) ?_
        refine rn_cge (t := 67) d_265_40 (by decide) (by first | omega | assumption | exact cu_36 (by omega) (cu_lt (by omega) (by omega))) (by first | omega | assumption | exact cu_36 (by omega) (cu_lt (by omega) (by omega))) (fun c40 => ?_) (fun c40 => ?_)
        · omega
        · refine rr_nx (pc' := 44) (al' := [some (.ref 146), some (.int (nI (FA n))), some (.int (nI r)), some (.int (nI (ORs (fun x => 1 * 2 ^ c (n * x + pmE n r x)) x))), some (.int (nI x))]) (st' := [.int (nI (ORs (fun x => 1 * 2 ^ c (n * x + pmE n r x)) x))]) d_265_43 (fun _ => rfl) ?_
          refine rn_ic (v := 1) d_265_44 (by decide) ?_
          refine rr_nx (pc' := 46) (al' := [some (.ref 146), some (.int (nI (FA n))), some (.int (nI r)), some (.int (nI (ORs (fun x => 1 * 2 ^ c (n * x + pmE n r x)) x))), some (.int (nI x))]) (st' := [.ref 146, .int (nI 1), .int (nI (ORs (fun x => 1 * 2 ^ c (n * x + pmE n r x)) x))]) d_265_45 (fun _ => rfl) ?_
          refine rr_nx (pc' := 48) (al' := [some (.ref 146), some (.int (nI (FA n))), some (.int (nI r)), some (.int (nI (ORs (fun x => 1 * 2 ^ c (n * x + pmE n r x)) x))), some (.int (nI x))]) (st' := [.int (nI x), .ref 146, .int (nI 1), .int (nI (ORs (fun x => 1 * 2 ^ c (n * x + pmE n r x)) x))]) d_265_46 (fun _ => rfl) ?_
          refine rr_nx (pc' := 49) (al' := [some (.ref 146), some (.int (nI (FA n))), some (.int (nI r)), some (.int (nI (ORs (fun x => 1 * 2 ^ c (n * x + pmE n r x)) x))), some (.int (nI x))]) (st' := [.ref 146, .int (nI x), .ref 146, .int (nI 1), .int (nI (ORs (fun x => 1 * 2 ^ c (n * x + pmE n r x)) x))]) d_265_48 (fun _ => rfl) ?_
          refine rr_gf (v := .ref (147 + 13)) d_265_49 mo_265 fl_55 rfl ?_
          refine rr_nx (pc' := 54) (al' := [some (.ref 146), some (.int (nI (FA n))), some (.int (nI r)), some (.int (nI (ORs (fun x => 1 * 2 ^ c (n * x + pmE n r x)) x))), some (.int (nI x))]) (st' := [.int (nI x), .ref (147 + 13), .int (nI x), .ref 146, .int (nI 1), .int (nI (ORs (fun x => 1 * 2 ^ c (n * x + pmE n r x)) x))]) d_265_52 (fun _ => rfl) ?_
          refine rr_ia (j := 13) (v := (nI (pmE n r x))) d_265_54 (by decide) rfl (by decide) (show x < 6 by first | omega | assumption | exact cu_36 (by omega) (cu_lt (by omega) (by omega))) (hw26 x hx) ?_
          refine rr_pv (as := [.int (nI x), .int (nI (pmE n r x))]) (al0 := [some (.ref 146), some (.int (nI x)), some (.int (nI (pmE n r x)))]) (r := [.int (nI 1), .int (nI (ORs (fun x => 1 * 2 ^ c (n * x + pmE n r x)) x))]) d_265_55 mo_265 ml_130 mz_213 rfl rfl rfl (Nat.le_of_ble_eq_true rfl) (s_times ⟨pr.1, hn6, fun q hq => by rw [rf_u_n (by decide), pr.2.2.2.2.1]; exact hc.2.2 q hq⟩ (by omega) (by omega)) ?_
          show RR _ _ 58 [some (.ref 146), some (.int (nI (FA n))), some (.int (nI r)), some (.int (nI (ORs (fun x => 1 * 2 ^ c (n * x + pmE n r x)) x))), some (.int (nI x))] [.int (nI (c (n * x + pmE n r x))), .int (nI 1), .int (nI (ORs (fun x => 1 * 2 ^ c (n * x + pmE n r x)) x))] w_.1 (rf_u w_.2 13 w26) _
          have b55 := hl.b hx hpx
          refine rn_shl d_265_58 (by first | omega | assumption | exact cu_36 (by omega) (cu_lt (by omega) (by omega))) ?_
          refine rn_or d_265_59 ?_
          refine rr_nx (pc' := 61) (al' := [some (.ref 146), some (.int (nI (FA n))), some (.int (nI r)), some (.int (nI ((ORs (fun x => 1 * 2 ^ c (n * x + pmE n r x)) x) ||| (1 * 2 ^ (c (n * x + pmE n r x)))))), some (.int (nI x))]) (st' := []) d_265_60 (fun _ => rfl) ?_
          refine rn_inc d_265_61 rfl rfl ?_
          show RR _ _ 64 [some (.ref 146), some (.int (nI (FA n))), some (.int (nI r)), some (.int (nI ((ORs (fun x => 1 * 2 ^ c (n * x + pmE n r x)) x) ||| (1 * 2 ^ (c (n * x + pmE n r x)))))), some (.int (nI (x + 1)))] [] w_.1 (rf_u w_.2 13 w26) _
          refine rr_nx (pc' := 34) (al' := [some (.ref 146), some (.int (nI (FA n))), some (.int (nI r)), some (.int (nI ((ORs (fun x => 1 * 2 ^ c (n * x + pmE n r x)) x) ||| (1 * 2 ^ (c (n * x + pmE n r x)))))), some (.int (nI (x + 1)))]) (st' := []) d_265_64 (fun _ => rfl) ?_
          refine rr_al (congrArg (fun z__ : Nat => ([some (.ref 146), some (.int (nI (FA n))), some (.int (nI r)), some (.int (nI z__)), some (.int (nI (x + 1)))] : AL)) (show (ORs (fun x => 1 * 2 ^ c (n * x + pmE n r x)) x) ||| (1 * 2 ^ (c (n * x + pmE n r x))) = ORs (fun x => 1 * 2 ^ c (n * x + pmE n r x)) (x + 1) by rfl)) ?_
          exact ihx  (trivial)
      · show RR _ _ 34 [some (.ref 146), some (.int (nI (FA n))), some (.int (nI r)), some (.int (nI (ORs (fun x => 1 * 2 ^ c (n * x + pmE n r x)) n))), some (.int (nI n))] [] w_.1 (rf_u w_.2 13 w26) _
        have hts : ORs (fun x => 1 * 2 ^ c (n * x + pmE n r x)) n < 2 ^ n := ORs_lt fun x hx => by
          rw [Nat.one_mul]
          exact tw_lt (hl.b hx (hP.1 x hx))
        refine rr_nx (pc' := 36) (al' := [some (.ref 146), some (.int (nI (FA n))), some (.int (nI r)), some (.int (nI (ORs (fun x => 1 * 2 ^ c (n * x + pmE n r x)) n))), some (.int (nI n))]) (st' := [.int (nI n)]) d_265_34 (fun _ => rfl) ?_
        refine rr_nx (pc' := 37) (al' := [some (.ref 146), some (.int (nI (FA n))), some (.int (nI r)), some (.int (nI (ORs (fun x => 1 * 2 ^ c (n * x + pmE n r x)) n))), some (.int (nI n))]) (st' := [.ref 146, .int (nI n)]) d_265_36 (fun _ => rfl) ?_
        refine rr_gn d_265_37 mo_265 fl_127 rfl (by first | exact hc.1 | exact pr.1) ?_
        refine rn_cge (t := 67) d_265_40 (by decide) (by first | omega | assumption | exact cu_36 (by omega) (cu_lt (by omega) (by omega))) (by first | omega | assumption | exact cu_36 (by omega) (cu_lt (by omega) (by omega))) (fun c40 => ?_) (fun c40 => ?_)
        · refine rr_nx (pc' := 68) (al' := [some (.ref 146), some (.int (nI (FA n))), some (.int (nI r)), some (.int (nI (ORs (fun x => 1 * 2 ^ c (n * x + pmE n r x)) n))), some (.int (nI n))]) (st' := [.int (nI (ORs (fun x => 1 * 2 ^ c (n * x + pmE n r x)) n))]) d_265_67 (fun _ => rfl) ?_
          refine rn_ic (v := 1) d_265_68 (by decide) ?_
          refine rr_nx (pc' := 70) (al' := [some (.ref 146), some (.int (nI (FA n))), some (.int (nI r)), some (.int (nI (ORs (fun x => 1 * 2 ^ c (n * x + pmE n r x)) n))), some (.int (nI n))]) (st' := [.ref 146, .int (nI 1), .int (nI (ORs (fun x => 1 * 2 ^ c (n * x + pmE n r x)) n))]) d_265_69 (fun _ => rfl) ?_
          refine rr_gn d_265_70 mo_265 fl_127 rfl (by first | exact hc.1 | exact pr.1) ?_
          refine rn_shl d_265_73 (by first | omega | assumption | exact cu_36 (by omega) (cu_lt (by omega) (by omega))) ?_
          refine rn_ic (v := 1) d_265_74 (by decide) ?_
          refine rn_sub d_265_75 (by first | omega | assumption | exact cu_36 (by omega) (cu_lt (by omega) (by omega))) ?_
          refine rn_ceq (t := 82) d_265_76 (by decide) (by first | omega | assumption | exact cu_36 (by omega) (cu_lt (by omega) (by omega))) (by first | omega | assumption | exact cu_36 (by omega) (cu_lt (by omega) (by omega))) (fun c76 => ?_) (fun c76 => ?_)
          · have hyes : TVb n c r = true := decide_eq_true c76
            refine rr_nx (pc' := 83) (al' := [some (.ref 146), some (.int (nI (FA n))), some (.int (nI r)), some (.int (nI (ORs (fun x => 1 * 2 ^ c (n * x + pmE n r x)) n))), some (.int (nI n))]) (st' := [.ref 146]) d_265_82 (fun _ => rfl) ?_
            refine rr_gf (v := .ref (147 + 21)) d_265_83 mo_265 fl_79 rfl ?_
            refine rr_nx (pc' := 87) (al' := [some (.ref 146), some (.int (nI (FA n))), some (.int (nI r)), some (.int (nI (ORs (fun x => 1 * 2 ^ c (n * x + pmE n r x)) n))), some (.int (nI n))]) (st' := [.ref 146, .ref (147 + 21)]) d_265_86 (fun _ => rfl) ?_
            refine rr_gn d_265_87 mo_265 fl_325 rfl pr.2.1 ?_
            refine rr_nx (pc' := 91) (al' := [some (.ref 146), some (.int (nI (FA n))), some (.int (nI r)), some (.int (nI (ORs (fun x => 1 * 2 ^ c (n * x + pmE n r x)) n))), some (.int (nI n))]) (st' := [.int (nI r), .int (nI ((tvR n c r).length)), .ref (147 + 21)]) d_265_90 (fun _ => rfl) ?_
            refine rr_iS (j := 21) (A1 := (rf_u (rf_u w_.2 13 w26) 21 (upd (w_.2 21) ((tvR n c r).length) (nI r)))) d_265_91 (by decide) rfl (by decide) (show (tvR n c r).length < 720 by first | omega | assumption | exact cu_36 (by omega) (cu_lt (by omega) (by omega))) rfl ?_
            refine rr_nx (pc' := 93) (al' := [some (.ref 146), some (.int (nI (FA n))), some (.int (nI r)), some (.int (nI (ORs (fun x => 1 * 2 ^ c (n * x + pmE n r x)) n))), some (.int (nI n))]) (st' := [.ref 146]) d_265_92 (fun _ => rfl) ?_
            refine rr_nx (pc' := 94) (al' := [some (.ref 146), some (.int (nI (FA n))), some (.int (nI r)), some (.int (nI (ORs (fun x => 1 * 2 ^ c (n * x + pmE n r x)) n))), some (.int (nI n))]) (st' := [.ref 146, .ref 146]) d_265_93 (fun _ => rfl) ?_
            refine rr_gn d_265_94 mo_265 fl_325 rfl pr.2.1 ?_
            refine rn_ic (v := 1) d_265_97 (by decide) ?_
            refine rn_add d_265_98  ?_
            refine rp_40 d_265_99 mo_265 fl_325  ?_
            refine rn_inc d_265_102 rfl rfl ?_
            show RR _ _ 105 [some (.ref 146), some (.int (nI (FA n))), some (.int (nI (r + 1))), some (.int (nI (ORs (fun x => 1 * 2 ^ c (n * x + pmE n r x)) n))), some (.int (nI n))] [] (upd w_.1 40 (nI (((tvR n c r).length) + 1))) (rf_u (rf_u w_.2 13 w26) 21 (upd (w_.2 21) ((tvR n c r).length) (nI r))) _
            refine rr_nx (pc' := 15) (al' := [some (.ref 146), some (.int (nI (FA n))), some (.int (nI (r + 1))), some (.int (nI (ORs (fun x => 1 * 2 ^ c (n * x + pmE n r x)) n))), some (.int (nI n))]) (st' := []) d_265_105 (fun _ => rfl) ?_
            refine rr_dr (al1 := [some (.ref 146), some (.int (nI (FA n))), some (.int (nI (r + 1))), none, none]) (le_s (le_s (le_s (le_d rfl (le_d rfl (le_n)))))) ?_
            exact ihr ((upd w_.1 40 (nI (((tvR n c r).length) + 1))), (rf_u (rf_u w_.2 13 w26) 21 (upd (w_.2 21) ((tvR n c r).length) (nI r)))) (⟨by dsimp only; rw [pk_un (by decide)]; exact pr.1, by dsimp only; rw [pk_us, tvR_s, if_pos hyes, List.length_append]; rfl, pr.2.2.1.u (by decide), (pr.2.2.2.1.u (by decide)).u (by decide), pr.2.2.2.2.1, fun j hj => by
                dsimp only
                rw [tvR_s, if_pos hyes] at hj ⊢
                rw [List.length_append] at hj
                rw [rf_u_s]
                by_cases e : j = (tvR n c r).length
                · subst e
                  rw [pk_us, gD_end]
                · have hj2 : j < (tvR n c r).length := by simp at hj; omega
                  rw [pk_un e, gD_app hj2]
                  exact pr.2.2.2.2.2 j hj2⟩)
          · have hno : ¬ TVb n c r = true := fun e => c76 (of_decide_eq_true e)
            refine rr_nx (pc' := 102) (al' := [some (.ref 146), some (.int (nI (FA n))), some (.int (nI r)), some (.int (nI (ORs (fun x => 1 * 2 ^ c (n * x + pmE n r x)) n))), some (.int (nI n))]) (st' := []) d_265_79 (fun _ => rfl) ?_
            refine rn_inc d_265_102 rfl rfl ?_
            show RR _ _ 105 [some (.ref 146), some (.int (nI (FA n))), some (.int (nI (r + 1))), some (.int (nI (ORs (fun x => 1 * 2 ^ c (n * x + pmE n r x)) n))), some (.int (nI n))] [] w_.1 (rf_u w_.2 13 w26) _
            refine rr_nx (pc' := 15) (al' := [some (.ref 146), some (.int (nI (FA n))), some (.int (nI (r + 1))), some (.int (nI (ORs (fun x => 1 * 2 ^ c (n * x + pmE n r x)) n))), some (.int (nI n))]) (st' := []) d_265_105 (fun _ => rfl) ?_
            refine rr_dr (al1 := [some (.ref 146), some (.int (nI (FA n))), some (.int (nI (r + 1))), none, none]) (le_s (le_s (le_s (le_d rfl (le_d rfl (le_n)))))) ?_
            exact ihr (w_.1, (rf_u w_.2 13 w26)) (⟨pr.1, by rw [tvR_s, if_neg hno, List.append_nil]; exact pr.2.1, pr.2.2.1, pr.2.2.2.1.u (by decide), pr.2.2.2.2.1, fun j hj => by rw [tvR_s, if_neg hno, List.append_nil] at hj ⊢; exact pr.2.2.2.2.2 j hj⟩)
        · omega
  · show RR _ _ 15 [some (.ref 146), some (.int (nI (FA n))), some (.int (nI (FA n))), none, none] [] w_.1 w_.2 _
    refine rr_nx (pc' := 16) (al' := [some (.ref 146), some (.int (nI (FA n))), some (.int (nI (FA n))), none, none]) (st' := [.int (nI (FA n))]) d_265_15 (fun _ => rfl) ?_
    refine rr_nx (pc' := 17) (al' := [some (.ref 146), some (.int (nI (FA n))), some (.int (nI (FA n))), none, none]) (st' := [.int (nI (FA n)), .int (nI (FA n))]) d_265_16 (fun _ => rfl) ?_
    refine rn_cge (t := 108) d_265_17 (by decide) (by first | omega | assumption | exact cu_36 (by omega) (cu_lt (by omega) (by omega))) (by first | omega | assumption | exact cu_36 (by omega) (cu_lt (by omega) (by omega))) (fun c17 => ?_) (fun c17 => ?_)
    · exact rr_rv d_265_108 mr_265 ⟨rfl, pr.2.2.1, pr.2.2.2.1, pr.1, pr.2.2.2.2.1, pr.2.1, pr.2.2.2.2.2⟩
    · omega
