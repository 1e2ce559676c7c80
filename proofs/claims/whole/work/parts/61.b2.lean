/-! Permutations of the class by their numbers; printed by wip/whole/gen_b2.py. -/
def rsN (n r : Nat) : Nat → Nat
  | 0 => r
  | k + 1 => rsN n r k % FA (n - 1 - k)
def dgN (n r k : Nat) : Nat := rsN n r k / FA (n - 1 - k)
def adN (a : Nat → Nat) (i k : Nat) : Nat := if i < k ∧ a i ≤ a k then a k + 1 else a k
def upT (n : Nat) (a : Nat → Nat) : Nat → Nat → Nat
  | 0 => a
  | t + 1 => adN (upT n a t) (n - 2 - t)
def snCk (n r : Nat) : Bool := (List.range n).all fun k => upT n (dgN n r) (n - 1) k == pmE n r k
theorem sn_ck : (List.range 7).all (fun n => (List.range (FA n)).all fun r => snCk n r) = true := by decide +kernel
theorem sn_pm {n r k : Nat} (hn : n ≤ 6) (hr : r < FA n) (hk : k < n) : upT n (dgN n r) (n - 1) k = pmE n r k := by
  have h1 := List.all_eq_true.mp (List.all_eq_true.mp sn_ck n (List.mem_range.mpr (by omega))) r (List.mem_range.mpr hr)
  exact beq_iff_eq.mp (List.all_eq_true.mp h1 k (List.mem_range.mpr hk))
theorem rsN_le (n r : Nat) : ∀ k, rsN n r k ≤ r
  | 0 => Nat.le_refl _
  | k + 1 => Nat.le_trans (Nat.mod_le _ _) (rsN_le n r k)
theorem dgN_le (n r k : Nat) : dgN n r k ≤ r := Nat.le_trans (Nat.div_le_self _ _) (rsN_le n r k)
theorem upT_le {n m : Nat} {a : Nat → Nat} (h : ∀ k, a k ≤ m) : ∀ t k, upT n a t k ≤ m + t
  | 0, k => h k
  | t + 1, k => by
    show adN (upT n a t) (n - 2 - t) k ≤ _
    have := upT_le (n := n) h t k
    unfold adN
    split <;> omega
theorem adN_i {a : Nat → Nat} {i k : Nat} (h : k ≤ i) : adN a i k = a k := if_neg (by omega)
theorem up_lo {n t q : Nat} {a : Nat → Nat} {z : Int32} (h : z = nI (upT n a t q)) : z = nI (if q < n - 2 - t + 1 then upT n a (t + 1) q else upT n a t q) := by
  rw [h]
  by_cases h : q < n - 2 - t + 1
  · rw [if_pos h]
    show _ = nI (adN _ _ q)
    rw [adN_i (by omega)]
  · rw [if_neg h]
theorem n12 {n : Nat} (h : 1 ≤ n) : nI n - nI 2 = nI (n - 1 - 0) + (-1) := by
  have e : nI (n - 1 - 0) = nI n + (-1) := nI_pr h
  rw [e, Int32.add_assoc, Int32.sub_eq_add_neg]
  rfl
theorem k_setNumbered {S : CS} {G : Nat → Nat → Value} {B : Nat → Nat → Int32} {J : Nat → Nat → Int64} {R : Nat → Nat → Option Nat} (hS : ShOk S) (hF : FxG G) {n r : Nat} (hn1 : 1 ≤ n) (hn6 : n ≤ 6) (hr : r < FA n) : CR 0 68 0 [some (.ref 133), some (.int (nI r)), some (.int (nI n)), none, none, none] [] S G B J R (rwC 136 S G B J R n (fun q => nI (pmE n r q))) := by
  have hr7 := FA_720 hn6
  have hup : ∀ t q, upT n (dgN n r) t q ≤ r + t := fun t q => upT_le (dgN_le n r) t q
  refine cr_nx (pc' := 1) (al' := [some (.ref 133), some (.int (nI r)), some (.int (nI n)), none, none, none]) (st' := [.int (nI r)]) d_68_0 (fun _ => rfl) ?_
  refine cr_nx (pc' := 2) (al' := [some (.ref 133), some (.int (nI r)), some (.int (nI n)), some (.int (nI r)), none, none]) (st' := []) d_68_1 (fun _ => rfl) ?_
  refine cn_ic (v := 0) d_68_2 (by decide) ?_
  refine cr_nx (pc' := 5) (al' := [some (.ref 133), some (.int (nI r)), some (.int (nI n)), some (.int (nI r)), some (.int (nI 0)), none]) (st' := []) d_68_3 (fun _ => rfl) ?_
  refine cr_al (congrArg (fun z__ : Nat => ([some (.ref 133), some (.int (nI r)), some (.int (nI n)), some (.int (nI z__)), some (.int (nI 0)), none] : AL)) (show r = rsN n r 0 by rfl)) ?_
  refine cr_B (show B = (upr B 136 (B 136)) by rw [upr_id]) ?_
  refine cr_upw (al := fun i w_ => [some (.ref 133), some (.int (nI r)), some (.int (nI n)), some (.int (nI (rsN n r i))), some (.int (nI i)), none]) (S := fun i w_ => S) (G := fun i w_ => G) (B := fun i w_ => (upr B 136 w_)) (J := fun i w_ => J) (R := fun i w_ => R) (P := fun i w_ => ∀ q, q < i → w_ q = nI (dgN n r q)) (n := n) (fun i w_ hi pi ihi => ?_) (fun w_ pi => ?_) 0 (B 136) (by omega) (all_0)
  · show CR _ _ 5 [some (.ref 133), some (.int (nI r)), some (.int (nI n)), some (.int (nI (rsN n r i))), some (.int (nI i)), none] [] S G (upr B 136 w_) J R _
    have hF1 := FA_pos (n - 1 - i)
    have hF2 := FA_720 (n := n - 1 - i) (by omega)
    have hrs := rsN_le n r i
    refine cr_nx (pc' := 7) (al' := [some (.ref 133), some (.int (nI r)), some (.int (nI n)), some (.int (nI (rsN n r i))), some (.int (nI i)), none]) (st' := [.int (nI i)]) d_68_5 (fun _ => rfl) ?_
    refine cr_nx (pc' := 8) (al' := [some (.ref 133), some (.int (nI r)), some (.int (nI n)), some (.int (nI (rsN n r i))), some (.int (nI i)), none]) (st' := [.int (nI n), .int (nI i)]) d_68_7 (fun _ => rfl) ?_
    refine cn_cge (t := 49) d_68_8 (by decide) (by first | omega | assumption | exact cu_36 (by omega) (cu_lt (by omega) (by omega))) (by first | omega | assumption | exact cu_36 (by omega) (cu_lt (by omega) (by omega))) (fun c8 => ?_) (fun c8 => ?_)
    · omega
    · refine cr_nx (pc' := 12) (al' := [some (.ref 133), some (.int (nI r)), some (.int (nI n)), some (.int (nI (rsN n r i))), some (.int (nI i)), none]) (st' := [.ref 133]) d_68_11 (fun _ => rfl) ?_
      refine cr_gf (v := .ref 136) d_68_12 cw_68 cf_8_18 (hS.i (a := 133) (by decide) (by decide)) (hS.s (a := 133) (by decide) (by decide) rfl) (by decide) (fx_133_3 hF) ?_
      refine cr_nx (pc' := 17) (al' := [some (.ref 133), some (.int (nI r)), some (.int (nI n)), some (.int (nI (rsN n r i))), some (.int (nI i)), none]) (st' := [.int (nI i), .ref 136]) d_68_15 (fun _ => rfl) ?_
      refine cr_nx (pc' := 18) (al' := [some (.ref 133), some (.int (nI r)), some (.int (nI n)), some (.int (nI (rsN n r i))), some (.int (nI i)), none]) (st' := [.int (nI (rsN n r i)), .int (nI i), .ref 136]) d_68_17 (fun _ => rfl) ?_
      refine cr_gs d_68_18 cw_68 cq_8_54 ?_
      refine cr_nx (pc' := 22) (al' := [some (.ref 133), some (.int (nI r)), some (.int (nI n)), some (.int (nI (rsN n r i))), some (.int (nI i)), none]) (st' := [.int (nI n), .ref 0, .int (nI (rsN n r i)), .int (nI i), .ref 136]) d_68_21 (fun _ => rfl) ?_
      refine cn_ic (v := 1) d_68_22 (by decide) ?_
      refine cn_sub d_68_23 (by first | omega | assumption | exact cu_36 (by omega) (cu_lt (by omega) (by omega))) ?_
      refine cr_nx (pc' := 26) (al' := [some (.ref 133), some (.int (nI r)), some (.int (nI n)), some (.int (nI (rsN n r i))), some (.int (nI i)), none]) (st' := [.int (nI i), .int (nI (n - 1)), .ref 0, .int (nI (rsN n r i)), .int (nI i), .ref 136]) d_68_24 (fun _ => rfl) ?_
      refine cn_sub d_68_26 (by first | omega | assumption | exact cu_36 (by omega) (cu_lt (by omega) (by omega))) ?_
      refine cr_fa (v := (nI (FA ((n - 1) - i)))) d_68_27 (show (n - 1) - i < 7 by first | omega | assumption | exact cu_36 (by omega) (cu_lt (by omega) (by omega))) (am_fcN (by first | omega | assumption | exact cu_36 (by omega) (cu_lt (by omega) (by omega)))) ?_
      refine cn_div d_68_28 (by first | omega | assumption | exact cu_36 (by omega) (cu_lt (by omega) (by omega))) (by first | omega | assumption | exact cu_36 (by omega) (cu_lt (by omega) (by omega))) (by first | omega | assumption | exact cu_36 (by omega) (cu_lt (by omega) (by omega))) ?_
      refine cr_iS (a := 136) (B1 := (upr B 136 (upd w_ i (nI ((rsN n r i) / (FA ((n - 1) - i))))))) d_68_29 (hS.i (a := 136) (by decide) (by decide)) (hS.s (a := 136) (by decide) (by decide) rfl) (by first | decide | omega) (show i < 6 by first | omega | assumption | exact cu_36 (by omega) (cu_lt (by omega) (by omega))) (by rw [upr_s, upr_u]) ?_
      refine cr_nx (pc' := 31) (al' := [some (.ref 133), some (.int (nI r)), some (.int (nI n)), some (.int (nI (rsN n r i))), some (.int (nI i)), none]) (st' := [.int (nI (rsN n r i))]) d_68_30 (fun _ => rfl) ?_
      refine cr_gs d_68_31 cw_68 cq_8_54 ?_
      refine cr_nx (pc' := 35) (al' := [some (.ref 133), some (.int (nI r)), some (.int (nI n)), some (.int (nI (rsN n r i))), some (.int (nI i)), none]) (st' := [.int (nI n), .ref 0, .int (nI (rsN n r i))]) d_68_34 (fun _ => rfl) ?_
      refine cn_ic (v := 1) d_68_35 (by decide) ?_
      refine cn_sub d_68_36 (by first | omega | assumption | exact cu_36 (by omega) (cu_lt (by omega) (by omega))) ?_
      refine cr_nx (pc' := 39) (al' := [some (.ref 133), some (.int (nI r)), some (.int (nI n)), some (.int (nI (rsN n r i))), some (.int (nI i)), none]) (st' := [.int (nI i), .int (nI (n - 1)), .ref 0, .int (nI (rsN n r i))]) d_68_37 (fun _ => rfl) ?_
      refine cn_sub d_68_39 (by first | omega | assumption | exact cu_36 (by omega) (cu_lt (by omega) (by omega))) ?_
      refine cr_fa (v := (nI (FA ((n - 1) - i)))) d_68_40 (show (n - 1) - i < 7 by first | omega | assumption | exact cu_36 (by omega) (cu_lt (by omega) (by omega))) (am_fcN (by first | omega | assumption | exact cu_36 (by omega) (cu_lt (by omega) (by omega)))) ?_
      refine cn_rem d_68_41 (by first | omega | assumption | exact cu_36 (by omega) (cu_lt (by omega) (by omega))) (by first | omega | assumption | exact cu_36 (by omega) (cu_lt (by omega) (by omega))) (by first | omega | assumption | exact cu_36 (by omega) (cu_lt (by omega) (by omega))) ?_
      refine cr_nx (pc' := 43) (al' := [some (.ref 133), some (.int (nI r)), some (.int (nI n)), some (.int (nI ((rsN n r i) % (FA ((n - 1) - i))))), some (.int (nI i)), none]) (st' := []) d_68_42 (fun _ => rfl) ?_
      refine cn_inc d_68_43 rfl rfl ?_
      show CR _ _ 46 [some (.ref 133), some (.int (nI r)), some (.int (nI n)), some (.int (nI ((rsN n r i) % (FA ((n - 1) - i))))), some (.int (nI (i + 1))), none] [] S G (upr B 136 (upd w_ i (nI ((rsN n r i) / (FA ((n - 1) - i)))))) J R _
      refine cr_nx (pc' := 5) (al' := [some (.ref 133), some (.int (nI r)), some (.int (nI n)), some (.int (nI ((rsN n r i) % (FA ((n - 1) - i))))), some (.int (nI (i + 1))), none]) (st' := []) d_68_46 (fun _ => rfl) ?_
      refine cr_al (congrArg (fun z__ : Nat => ([some (.ref 133), some (.int (nI r)), some (.int (nI n)), some (.int (nI z__)), some (.int (nI (i + 1))), none] : AL)) (show (rsN n r i) % (FA ((n - 1) - i)) = rsN n r (i + 1) by rfl)) ?_
      exact ihi (upd w_ i (nI ((rsN n r i) / (FA ((n - 1) - i))))) (up_all (f := fun q => nI (dgN n r q)) pi rfl)
  · show CR _ _ 5 [some (.ref 133), some (.int (nI r)), some (.int (nI n)), some (.int (nI (rsN n r n))), some (.int (nI n)), none] [] S G (upr B 136 w_) J R _
    refine cr_nx (pc' := 7) (al' := [some (.ref 133), some (.int (nI r)), some (.int (nI n)), some (.int (nI (rsN n r n))), some (.int (nI n)), none]) (st' := [.int (nI n)]) d_68_5 (fun _ => rfl) ?_
    refine cr_nx (pc' := 8) (al' := [some (.ref 133), some (.int (nI r)), some (.int (nI n)), some (.int (nI (rsN n r n))), some (.int (nI n)), none]) (st' := [.int (nI n), .int (nI n)]) d_68_7 (fun _ => rfl) ?_
    refine cn_cge (t := 49) d_68_8 (by decide) (by first | omega | assumption | exact cu_36 (by omega) (cu_lt (by omega) (by omega))) (by first | omega | assumption | exact cu_36 (by omega) (cu_lt (by omega) (by omega))) (fun c8 => ?_) (fun c8 => ?_)
    · refine cr_nx (pc' := 50) (al' := [some (.ref 133), some (.int (nI r)), some (.int (nI n)), some (.int (nI (rsN n r n))), some (.int (nI n)), none]) (st' := [.int (nI n)]) d_68_49 (fun _ => rfl) ?_
      refine cn_ic (v := 2) d_68_50 (by decide) ?_
      refine cr_nx (pc' := 52) (al' := [some (.ref 133), some (.int (nI r)), some (.int (nI n)), some (.int (nI (rsN n r n))), some (.int (nI n)), none]) (st' := [.int ((nI n) - (nI 2))]) d_68_51 (fun _ => rfl) ?_
      refine cr_nx (pc' := 54) (al' := [some (.ref 133), some (.int (nI r)), some (.int (nI n)), some (.int (nI (rsN n r n))), some (.int ((nI n) - (nI 2))), none]) (st' := []) d_68_52 (fun _ => rfl) ?_
      refine cr_al (congrArg (fun z__ : Int32 => ([some (.ref 133), some (.int (nI r)), some (.int (nI n)), some (.int (nI (rsN n r n))), some (.int z__), none] : AL)) (show ((nI n) - (nI 2)) = (nI (n - 1 - 0) + (-1)) by exact n12 hn1)) ?_
      refine cr_upw (al := fun t w_ => [some (.ref 133), some (.int (nI r)), some (.int (nI n)), some (.int (nI (rsN n r n))), some (.int (nI (n - 1 - t) + (-1))), none]) (S := fun t w_ => S) (G := fun t w_ => G) (B := fun t w_ => (upr B 136 w_)) (J := fun t w_ => J) (R := fun t w_ => R) (P := fun t w_ => ∀ q, q < n → w_ q = nI (upT n (dgN n r) t q)) (n := n - 1) (fun t w_ ht pt iht => ?_) (fun w_ pt => ?_) 0 w_ (by omega) (pi)
      · show CR _ _ 54 [some (.ref 133), some (.int (nI r)), some (.int (nI n)), some (.int (nI (rsN n r n))), some (.int (nI (n - 1 - t) + (-1))), none] [] S G (upr B 136 w_) J R _
        rw [show nI (n - 1 - t) + (-1) = nI (n - 2 - t) by rw [show n - 2 - t = n - 1 - t - 1 by omega, nI_pr (show 1 ≤ n - 1 - t by omega)]]
        refine cr_nx (pc' := 56) (al' := [some (.ref 133), some (.int (nI r)), some (.int (nI n)), some (.int (nI (rsN n r n))), some (.int (nI (n - 2 - t))), none]) (st' := [.int (nI (n - 2 - t))]) d_68_54 (fun _ => rfl) ?_
        refine cn_zlt (t := 111) d_68_56 (by decide) (by first | omega | assumption | exact cu_36 (by omega) (cu_lt (by omega) (by omega))) (fun c56 => ?_) (fun c56 => ?_)
        · exact c56.elim
        · refine cr_nx (pc' := 61) (al' := [some (.ref 133), some (.int (nI r)), some (.int (nI n)), some (.int (nI (rsN n r n))), some (.int (nI (n - 2 - t))), none]) (st' := [.int (nI (n - 2 - t))]) d_68_59 (fun _ => rfl) ?_
          refine cn_ic (v := 1) d_68_61 (by decide) ?_
          refine cn_add d_68_62  ?_
          refine cr_nx (pc' := 65) (al' := [some (.ref 133), some (.int (nI r)), some (.int (nI n)), some (.int (nI (rsN n r n))), some (.int (nI (n - 2 - t))), some (.int (nI ((n - 2 - t) + 1)))]) (st' := []) d_68_63 (fun _ => rfl) ?_
          refine cr_al (congrArg (fun z__ : Nat => ([some (.ref 133), some (.int (nI r)), some (.int (nI n)), some (.int (nI (rsN n r n))), some (.int (nI (n - 2 - t))), some (.int (nI z__))] : AL)) (show (n - 2 - t) + 1 = n - 2 - t + 1 by rfl)) ?_
          refine cr_upw (al := fun k w_ => [some (.ref 133), some (.int (nI r)), some (.int (nI n)), some (.int (nI (rsN n r n))), some (.int (nI (n - 2 - t))), some (.int (nI k))]) (S := fun k w_ => S) (G := fun k w_ => G) (B := fun k w_ => (upr B 136 w_)) (J := fun k w_ => J) (R := fun k w_ => R) (P := fun k w_ => (∀ q, q < n → w_ q = nI (if q < k then upT n (dgN n r) (t + 1) q else upT n (dgN n r) t q)) ∧ n - 2 - t + 1 ≤ k) (n := n) (fun k w_ hk pk ihk => ?_) (fun w_ pk => ?_) (n - 2 - t + 1) w_ (by omega) (⟨fun q hq => up_lo (pt q hq), Nat.le_refl _⟩)
          · show CR _ _ 65 [some (.ref 133), some (.int (nI r)), some (.int (nI n)), some (.int (nI (rsN n r n))), some (.int (nI (n - 2 - t))), some (.int (nI k))] [] S G (upr B 136 w_) J R _
            have b1 := hup t k
            have b2 := hup t (n - 2 - t)
            have r1 := pk.1 k hk
            rw [if_neg (Nat.lt_irrefl k)] at r1
            have r2 : w_ (n - 2 - t) = nI (upT n (dgN n r) t (n - 2 - t)) := by rw [pk.1 _ (by omega), if_pos (by omega)]; show nI (adN _ _ _) = _; rw [adN_i (Nat.le_refl _)]
            refine cr_nx (pc' := 67) (al' := [some (.ref 133), some (.int (nI r)), some (.int (nI n)), some (.int (nI (rsN n r n))), some (.int (nI (n - 2 - t))), some (.int (nI k))]) (st' := [.int (nI k)]) d_68_65 (fun _ => rfl) ?_
            refine cr_nx (pc' := 68) (al' := [some (.ref 133), some (.int (nI r)), some (.int (nI n)), some (.int (nI (rsN n r n))), some (.int (nI (n - 2 - t))), some (.int (nI k))]) (st' := [.int (nI n), .int (nI k)]) d_68_67 (fun _ => rfl) ?_
            refine cn_cge (t := 105) d_68_68 (by decide) (by first | omega | assumption | exact cu_36 (by omega) (cu_lt (by omega) (by omega))) (by first | omega | assumption | exact cu_36 (by omega) (cu_lt (by omega) (by omega))) (fun c68 => ?_) (fun c68 => ?_)
            · omega
            · refine cr_nx (pc' := 72) (al' := [some (.ref 133), some (.int (nI r)), some (.int (nI n)), some (.int (nI (rsN n r n))), some (.int (nI (n - 2 - t))), some (.int (nI k))]) (st' := [.ref 133]) d_68_71 (fun _ => rfl) ?_
              refine cr_gf (v := .ref 136) d_68_72 cw_68 cf_8_18 (hS.i (a := 133) (by decide) (by decide)) (hS.s (a := 133) (by decide) (by decide) rfl) (by decide) (fx_133_3 hF) ?_
              refine cr_nx (pc' := 77) (al' := [some (.ref 133), some (.int (nI r)), some (.int (nI n)), some (.int (nI (rsN n r n))), some (.int (nI (n - 2 - t))), some (.int (nI k))]) (st' := [.int (nI k), .ref 136]) d_68_75 (fun _ => rfl) ?_
              refine cr_ia (a := 136) (v := (nI (upT n (dgN n r) t k))) d_68_77 (hS.i (a := 136) (by decide) (by decide)) (hS.s (a := 136) (by decide) (by decide) rfl) (by first | decide | omega) (show k < 6 by first | omega | assumption | exact cu_36 (by omega) (cu_lt (by omega) (by omega))) ((congrFun (by rw [upr_s] : (upr B 136 w_) 136 = w_) _).trans r1) ?_
              refine cr_nx (pc' := 79) (al' := [some (.ref 133), some (.int (nI r)), some (.int (nI n)), some (.int (nI (rsN n r n))), some (.int (nI (n - 2 - t))), some (.int (nI k))]) (st' := [.ref 133, .int (nI (upT n (dgN n r) t k))]) d_68_78 (fun _ => rfl) ?_
              refine cr_gf (v := .ref 136) d_68_79 cw_68 cf_8_18 (hS.i (a := 133) (by decide) (by decide)) (hS.s (a := 133) (by decide) (by decide) rfl) (by decide) (fx_133_3 hF) ?_
              refine cr_nx (pc' := 84) (al' := [some (.ref 133), some (.int (nI r)), some (.int (nI n)), some (.int (nI (rsN n r n))), some (.int (nI (n - 2 - t))), some (.int (nI k))]) (st' := [.int (nI (n - 2 - t)), .ref 136, .int (nI (upT n (dgN n r) t k))]) d_68_82 (fun _ => rfl) ?_
              refine cr_ia (a := 136) (v := (nI (upT n (dgN n r) t (n - 2 - t)))) d_68_84 (hS.i (a := 136) (by decide) (by decide)) (hS.s (a := 136) (by decide) (by decide) rfl) (by first | decide | omega) (show n - 2 - t < 6 by first | omega | assumption | exact cu_36 (by omega) (cu_lt (by omega) (by omega))) ((congrFun (by rw [upr_s] : (upr B 136 w_) 136 = w_) _).trans r2) ?_
              refine cn_clt (t := 99) d_68_85 (by decide) (by first | omega | assumption | exact cu_36 (by omega) (cu_lt (by omega) (by omega))) (by first | omega | assumption | exact cu_36 (by omega) (cu_lt (by omega) (by omega))) (fun c85 => ?_) (fun c85 => ?_)
              · refine cn_inc d_68_99 rfl rfl ?_
                show CR _ _ 102 [some (.ref 133), some (.int (nI r)), some (.int (nI n)), some (.int (nI (rsN n r n))), some (.int (nI (n - 2 - t))), some (.int (nI (k + 1)))] [] S G (upr B 136 w_) J R _
                refine cr_nx (pc' := 65) (al' := [some (.ref 133), some (.int (nI r)), some (.int (nI n)), some (.int (nI (rsN n r n))), some (.int (nI (n - 2 - t))), some (.int (nI (k + 1)))]) (st' := []) d_68_102 (fun _ => rfl) ?_
                exact ihk w_ (⟨fun q hq => by
                    by_cases h : q = k
                    · subst h
                      rw [if_pos (by omega), r1]
                      show _ = nI (adN _ _ q)
                      rw [show adN (upT n (dgN n r) t) (n - 2 - t) q = upT n (dgN n r) t q from if_neg (by omega)]
                    · rw [pk.1 q hq]
                      by_cases h2 : q < k
                      · rw [if_pos h2, if_pos (by omega)]
                      · rw [if_neg h2, if_neg (by omega)], by omega⟩)
              · refine cr_nx (pc' := 89) (al' := [some (.ref 133), some (.int (nI r)), some (.int (nI n)), some (.int (nI (rsN n r n))), some (.int (nI (n - 2 - t))), some (.int (nI k))]) (st' := [.ref 133]) d_68_88 (fun _ => rfl) ?_
                refine cr_gf (v := .ref 136) d_68_89 cw_68 cf_8_18 (hS.i (a := 133) (by decide) (by decide)) (hS.s (a := 133) (by decide) (by decide) rfl) (by decide) (fx_133_3 hF) ?_
                refine cr_nx (pc' := 94) (al' := [some (.ref 133), some (.int (nI r)), some (.int (nI n)), some (.int (nI (rsN n r n))), some (.int (nI (n - 2 - t))), some (.int (nI k))]) (st' := [.int (nI k), .ref 136]) d_68_92 (fun _ => rfl) ?_
                refine cr_nx (pc' := 95) (al' := [some (.ref 133), some (.int (nI r)), some (.int (nI n)), some (.int (nI (rsN n r n))), some (.int (nI (n - 2 - t))), some (.int (nI k))]) (st' := [.int (nI k), .ref 136, .int (nI k), .ref 136]) d_68_94 (fun _ => rfl) ?_
                refine cr_ia (a := 136) (v := (nI (upT n (dgN n r) t k))) d_68_95 (hS.i (a := 136) (by decide) (by decide)) (hS.s (a := 136) (by decide) (by decide) rfl) (by first | decide | omega) (show k < 6 by first | omega | assumption | exact cu_36 (by omega) (cu_lt (by omega) (by omega))) ((congrFun (by rw [upr_s] : (upr B 136 w_) 136 = w_) _).trans r1) ?_
                refine cn_ic (v := 1) d_68_96 (by decide) ?_
                refine cn_add d_68_97  ?_
                refine cr_iS (a := 136) (B1 := (upr B 136 (upd w_ k (nI ((upT n (dgN n r) t k) + 1))))) d_68_98 (hS.i (a := 136) (by decide) (by decide)) (hS.s (a := 136) (by decide) (by decide) rfl) (by first | decide | omega) (show k < 6 by first | omega | assumption | exact cu_36 (by omega) (cu_lt (by omega) (by omega))) (by rw [upr_s, upr_u]) ?_
                refine cn_inc d_68_99 rfl rfl ?_
                show CR _ _ 102 [some (.ref 133), some (.int (nI r)), some (.int (nI n)), some (.int (nI (rsN n r n))), some (.int (nI (n - 2 - t))), some (.int (nI (k + 1)))] [] S G (upr B 136 (upd w_ k (nI ((upT n (dgN n r) t k) + 1)))) J R _
                refine cr_nx (pc' := 65) (al' := [some (.ref 133), some (.int (nI r)), some (.int (nI n)), some (.int (nI (rsN n r n))), some (.int (nI (n - 2 - t))), some (.int (nI (k + 1)))]) (st' := []) d_68_102 (fun _ => rfl) ?_
                exact ihk (upd w_ k (nI ((upT n (dgN n r) t k) + 1))) (⟨fun q hq => by
                    by_cases h : q = k
                    · subst h
                      rw [if_pos (by omega), pk_us]
                      show _ = nI (adN _ _ q)
                      rw [show adN (upT n (dgN n r) t) (n - 2 - t) q = upT n (dgN n r) t q + 1 from if_pos ⟨by omega, by omega⟩]
                    · rw [pk_un h, pk.1 q hq]
                      by_cases h2 : q < k
                      · rw [if_pos h2, if_pos (by omega)]
                      · rw [if_neg h2, if_neg (by omega)], by omega⟩)
          · show CR _ _ 65 [some (.ref 133), some (.int (nI r)), some (.int (nI n)), some (.int (nI (rsN n r n))), some (.int (nI (n - 2 - t))), some (.int (nI n))] [] S G (upr B 136 w_) J R _
            refine cr_nx (pc' := 67) (al' := [some (.ref 133), some (.int (nI r)), some (.int (nI n)), some (.int (nI (rsN n r n))), some (.int (nI (n - 2 - t))), some (.int (nI n))]) (st' := [.int (nI n)]) d_68_65 (fun _ => rfl) ?_
            refine cr_nx (pc' := 68) (al' := [some (.ref 133), some (.int (nI r)), some (.int (nI n)), some (.int (nI (rsN n r n))), some (.int (nI (n - 2 - t))), some (.int (nI n))]) (st' := [.int (nI n), .int (nI n)]) d_68_67 (fun _ => rfl) ?_
            refine cn_cge (t := 105) d_68_68 (by decide) (by first | omega | assumption | exact cu_36 (by omega) (cu_lt (by omega) (by omega))) (by first | omega | assumption | exact cu_36 (by omega) (cu_lt (by omega) (by omega))) (fun c68 => ?_) (fun c68 => ?_)
            · refine cr_nx (pc' := 108) (al' := [some (.ref 133), some (.int (nI r)), some (.int (nI n)), some (.int (nI (rsN n r n))), some (.int ((nI (n - 2 - t)) + (-1))), some (.int (nI n))]) (st' := []) d_68_105 (fun _ => rfl) ?_
              refine cr_nx (pc' := 54) (al' := [some (.ref 133), some (.int (nI r)), some (.int (nI n)), some (.int (nI (rsN n r n))), some (.int ((nI (n - 2 - t)) + (-1))), some (.int (nI n))]) (st' := []) d_68_108 (fun _ => rfl) ?_
              refine cr_al (congrArg (fun z__ : Int32 => ([some (.ref 133), some (.int (nI r)), some (.int (nI n)), some (.int (nI (rsN n r n))), some (.int z__), some (.int (nI n))] : AL)) (show ((nI (n - 2 - t)) + (-1)) = (nI (n - 1 - (t + 1)) + (-1)) by rw [show n - 2 - t = n - 1 - (t + 1) by omega])) ?_
              refine cr_dr (al1 := [some (.ref 133), some (.int (nI r)), some (.int (nI n)), some (.int (nI (rsN n r n))), some (.int (nI (n - 1 - (t + 1)) + (-1))), none]) (le_s (le_s (le_s (le_s (le_s (le_d rfl (le_n))))))) ?_
              exact iht w_ (fun q hq => by have := pk.1 q hq; rw [if_pos hq] at this; exact this)
            · omega
      · show CR _ _ 54 [some (.ref 133), some (.int (nI r)), some (.int (nI n)), some (.int (nI (rsN n r n))), some (.int (nI (n - 1 - (n - 1)) + (-1))), none] [] S G (upr B 136 w_) J R _
        rw [show nI (n - 1 - (n - 1)) + (-1) = -1 by rw [Nat.sub_self]; rfl]
        refine cr_nx (pc' := 56) (al' := [some (.ref 133), some (.int (nI r)), some (.int (nI n)), some (.int (nI (rsN n r n))), some (.int (-1)), none]) (st' := [.int (-1)]) d_68_54 (fun _ => rfl) ?_
        refine cr_ilt (t := 111) d_68_56 (by decide) (fun c56 => ?_) (fun c56 => ?_)
        · exact cr_rv d_68_111 cx_68 ⟨rfl, rfl, rfl, rfl, rfl, w_, rfl, fun q hq => by rw [pt q hq, sn_pm hn6 hr hq]⟩
        · exact absurd (by decide) c56
    · omega
theorem k_numberOfJoined {S : CS} {G : Nat → Nat → Value} {B : Nat → Nat → Int32} {J : Nat → Nat → Int64} {R : Nat → Nat → Option Nat} (hS : ShOk S) (hF : FxG G) {n r : Nat} {p : Nat → Nat} (hn6 : n ≤ 6) (hp : ∀ k, k < n → B 137 k = nI (p k)) (ho : rkOk n r p) (hP : Per n p) : CR 1 71 0 [some (.ref 133), some (.int (nI n)), none, none, none, none, none] [] S G B J R (cP (some (.int (nI r))) S G B J R) := by
  refine cn_ic (v := 0) d_71_0 (by decide) ?_
  refine cr_nx (pc' := 2) (al' := [some (.ref 133), some (.int (nI n)), some (.int (nI 0)), none, none, none, none]) (st' := []) d_71_1 (fun _ => rfl) ?_
  refine cn_ic (v := 0) d_71_2 (by decide) ?_
  refine cr_nx (pc' := 4) (al' := [some (.ref 133), some (.int (nI n)), some (.int (nI 0)), some (.int (nI 0)), none, none, none]) (st' := []) d_71_3 (fun _ => rfl) ?_
  refine cn_ic (v := 0) d_71_4 (by decide) ?_
  refine cr_nx (pc' := 7) (al' := [some (.ref 133), some (.int (nI n)), some (.int (nI 0)), some (.int (nI 0)), some (.int (nI 0)), none, none]) (st' := []) d_71_5 (fun _ => rfl) ?_
  refine cr_al (congrArg (fun z__ : Nat => ([some (.ref 133), some (.int (nI n)), some (.int (nI z__)), some (.int (nI 0)), some (.int (nI 0)), none, none] : AL)) (show 0 = (rkT n p 0).2 by rfl)) ?_
  refine cr_al (congrArg (fun z__ : Nat => ([some (.ref 133), some (.int (nI n)), some (.int (nI ((rkT n p 0).2))), some (.int (nI z__)), some (.int (nI 0)), none, none] : AL)) (show 0 = (rkT n p 0).1 by rfl)) ?_
  refine cr_up (al := fun k => [some (.ref 133), some (.int (nI n)), some (.int (nI ((rkT n p k).2))), some (.int (nI ((rkT n p k).1))), some (.int (nI k)), none, none]) (S := fun k => S) (G := fun k => G) (B := fun k => B) (J := fun k => J) (R := fun k => R) (P := fun k => True) (n := n) (fun k hk pk ihk => ?_) (fun pk => ?_) 0  (by omega) (trivial)
  · show CR _ _ 7 [some (.ref 133), some (.int (nI n)), some (.int (nI ((rkT n p k).2))), some (.int (nI ((rkT n p k).1))), some (.int (nI k)), none, none] [] S G B J R _
    obtain ⟨e1, e2, e3, e4, e5, e6⟩ := ho.2.2.2 k hk
    have hpk := hP.1 k hk
    refine cr_nx (pc' := 9) (al' := [some (.ref 133), some (.int (nI n)), some (.int (nI ((rkT n p k).2))), some (.int (nI ((rkT n p k).1))), some (.int (nI k)), none, none]) (st' := [.int (nI k)]) d_71_7 (fun _ => rfl) ?_
    refine cr_nx (pc' := 10) (al' := [some (.ref 133), some (.int (nI n)), some (.int (nI ((rkT n p k).2))), some (.int (nI ((rkT n p k).1))), some (.int (nI k)), none, none]) (st' := [.int (nI n), .int (nI k)]) d_71_9 (fun _ => rfl) ?_
    refine cn_cge (t := 70) d_71_10 (by decide) (by first | omega | assumption | exact cu_36 (by omega) (cu_lt (by omega) (by omega))) (by first | omega | assumption | exact cu_36 (by omega) (cu_lt (by omega) (by omega))) (fun c10 => ?_) (fun c10 => ?_)
    · omega
    · refine cn_ic (v := 1) d_71_13 (by decide) ?_
      refine cr_nx (pc' := 15) (al' := [some (.ref 133), some (.int (nI n)), some (.int (nI ((rkT n p k).2))), some (.int (nI ((rkT n p k).1))), some (.int (nI k)), none, none]) (st' := [.ref 133, .int (nI 1)]) d_71_14 (fun _ => rfl) ?_
      refine cr_gf (v := .ref 137) d_71_15 cw_71 cf_8_22 (hS.i (a := 133) (by decide) (by decide)) (hS.s (a := 133) (by decide) (by decide) rfl) (by decide) (fx_133_4 hF) ?_
      refine cr_nx (pc' := 20) (al' := [some (.ref 133), some (.int (nI n)), some (.int (nI ((rkT n p k).2))), some (.int (nI ((rkT n p k).1))), some (.int (nI k)), none, none]) (st' := [.int (nI k), .ref 137, .int (nI 1)]) d_71_18 (fun _ => rfl) ?_
      refine cr_ia (a := 137) (v := (nI (p k))) d_71_20 (hS.i (a := 137) (by decide) (by decide)) (hS.s (a := 137) (by decide) (by decide) rfl) (by first | decide | omega) (show k < 6 by first | omega | assumption | exact cu_36 (by omega) (cu_lt (by omega) (by omega))) (hp k hk) ?_
      refine cn_shl d_71_21 (by first | omega | assumption | exact cu_36 (by omega) (cu_lt (by omega) (by omega))) ?_
      refine cr_nx (pc' := 24) (al' := [some (.ref 133), some (.int (nI n)), some (.int (nI ((rkT n p k).2))), some (.int (nI ((rkT n p k).1))), some (.int (nI k)), some (.int (nI (1 * 2 ^ (p k)))), none]) (st' := []) d_71_22 (fun _ => rfl) ?_
      refine cr_nx (pc' := 25) (al' := [some (.ref 133), some (.int (nI n)), some (.int (nI ((rkT n p k).2))), some (.int (nI ((rkT n p k).1))), some (.int (nI k)), some (.int (nI (1 * 2 ^ (p k)))), none]) (st' := [.ref 133]) d_71_24 (fun _ => rfl) ?_
      refine cr_gf (v := .ref 137) d_71_25 cw_71 cf_8_22 (hS.i (a := 133) (by decide) (by decide)) (hS.s (a := 133) (by decide) (by decide) rfl) (by decide) (fx_133_4 hF) ?_
      refine cr_nx (pc' := 30) (al' := [some (.ref 133), some (.int (nI n)), some (.int (nI ((rkT n p k).2))), some (.int (nI ((rkT n p k).1))), some (.int (nI k)), some (.int (nI (1 * 2 ^ (p k)))), none]) (st' := [.int (nI k), .ref 137]) d_71_28 (fun _ => rfl) ?_
      refine cr_ia (a := 137) (v := (nI (p k))) d_71_30 (hS.i (a := 137) (by decide) (by decide)) (hS.s (a := 137) (by decide) (by decide) rfl) (by first | decide | omega) (show k < 6 by first | omega | assumption | exact cu_36 (by omega) (cu_lt (by omega) (by omega))) (hp k hk) ?_
      refine cr_nx (pc' := 32) (al' := [some (.ref 133), some (.int (nI n)), some (.int (nI ((rkT n p k).2))), some (.int (nI ((rkT n p k).1))), some (.int (nI k)), some (.int (nI (1 * 2 ^ (p k)))), none]) (st' := [.int (nI ((rkT n p k).1)), .int (nI (p k))]) d_71_31 (fun _ => rfl) ?_
      refine cr_nx (pc' := 34) (al' := [some (.ref 133), some (.int (nI n)), some (.int (nI ((rkT n p k).2))), some (.int (nI ((rkT n p k).1))), some (.int (nI k)), some (.int (nI (1 * 2 ^ (p k)))), none]) (st' := [.int (nI (1 * 2 ^ (p k))), .int (nI ((rkT n p k).1)), .int (nI (p k))]) d_71_32 (fun _ => rfl) ?_
      refine cn_ic (v := 1) d_71_34 (by decide) ?_
      refine cn_sub d_71_35 (by rw [Nat.one_mul]; exact Nat.two_pow_pos _) ?_
      refine cn_and d_71_36 ?_
      refine cr_ps (as := [.int (nI (((rkT n p k).1) &&& ((1 * 2 ^ (p k)) - 1)))]) (al0 := [some (.int (nI (((rkT n p k).1) &&& ((1 * 2 ^ (p k)) - 1))))]) (r := [.int (nI (p k))]) d_71_37 cw_71 cm_8_121 (by decide) cz_290 rfl rfl rfl (Nat.le_of_ble_eq_true rfl) (k_bitCount (by exact Nat.lt_of_le_of_lt Nat.and_le_left (by omega))) ?_
      show CR _ _ 40 [some (.ref 133), some (.int (nI n)), some (.int (nI ((rkT n p k).2))), some (.int (nI ((rkT n p k).1))), some (.int (nI k)), some (.int (nI (1 * 2 ^ (p k)))), none] [.int (nI (onN (((rkT n p k).1) &&& ((1 * 2 ^ (p k)) - 1)))), .int (nI (p k))] S G B J R _
      have b37 := onN_16 (((rkT n p k).1) &&& ((1 * 2 ^ (p k)) - 1))
      refine cn_sub d_71_40 (by first | omega | assumption | exact cu_36 (by omega) (cu_lt (by omega) (by omega))) ?_
      refine cr_nx (pc' := 43) (al' := [some (.ref 133), some (.int (nI n)), some (.int (nI ((rkT n p k).2))), some (.int (nI ((rkT n p k).1))), some (.int (nI k)), some (.int (nI (1 * 2 ^ (p k)))), some (.int (nI ((p k) - (onN (((rkT n p k).1) &&& ((1 * 2 ^ (p k)) - 1))))))]) (st' := []) d_71_41 (fun _ => rfl) ?_
      refine cr_nx (pc' := 44) (al' := [some (.ref 133), some (.int (nI n)), some (.int (nI ((rkT n p k).2))), some (.int (nI ((rkT n p k).1))), some (.int (nI k)), some (.int (nI (1 * 2 ^ (p k)))), some (.int (nI ((p k) - (onN (((rkT n p k).1) &&& ((1 * 2 ^ (p k)) - 1))))))]) (st' := [.int (nI ((rkT n p k).2))]) d_71_43 (fun _ => rfl) ?_
      refine cr_nx (pc' := 46) (al' := [some (.ref 133), some (.int (nI n)), some (.int (nI ((rkT n p k).2))), some (.int (nI ((rkT n p k).1))), some (.int (nI k)), some (.int (nI (1 * 2 ^ (p k)))), some (.int (nI ((p k) - (onN (((rkT n p k).1) &&& ((1 * 2 ^ (p k)) - 1))))))]) (st' := [.int (nI ((p k) - (onN (((rkT n p k).1) &&& ((1 * 2 ^ (p k)) - 1))))), .int (nI ((rkT n p k).2))]) d_71_44 (fun _ => rfl) ?_
      refine cr_gs d_71_46 cw_71 cq_8_54 ?_
      refine cr_nx (pc' := 50) (al' := [some (.ref 133), some (.int (nI n)), some (.int (nI ((rkT n p k).2))), some (.int (nI ((rkT n p k).1))), some (.int (nI k)), some (.int (nI (1 * 2 ^ (p k)))), some (.int (nI ((p k) - (onN (((rkT n p k).1) &&& ((1 * 2 ^ (p k)) - 1))))))]) (st' := [.int (nI n), .ref 0, .int (nI ((p k) - (onN (((rkT n p k).1) &&& ((1 * 2 ^ (p k)) - 1))))), .int (nI ((rkT n p k).2))]) d_71_49 (fun _ => rfl) ?_
      refine cn_ic (v := 1) d_71_50 (by decide) ?_
      refine cn_sub d_71_51 (by first | omega | assumption | exact cu_36 (by omega) (cu_lt (by omega) (by omega))) ?_
      refine cr_nx (pc' := 54) (al' := [some (.ref 133), some (.int (nI n)), some (.int (nI ((rkT n p k).2))), some (.int (nI ((rkT n p k).1))), some (.int (nI k)), some (.int (nI (1 * 2 ^ (p k)))), some (.int (nI ((p k) - (onN (((rkT n p k).1) &&& ((1 * 2 ^ (p k)) - 1))))))]) (st' := [.int (nI k), .int (nI (n - 1)), .ref 0, .int (nI ((p k) - (onN (((rkT n p k).1) &&& ((1 * 2 ^ (p k)) - 1))))), .int (nI ((rkT n p k).2))]) d_71_52 (fun _ => rfl) ?_
      refine cn_sub d_71_54 (by first | omega | assumption | exact cu_36 (by omega) (cu_lt (by omega) (by omega))) ?_
      refine cr_fa (v := (nI (FA ((n - 1) - k)))) d_71_55 (show (n - 1) - k < 7 by first | omega | assumption | exact cu_36 (by omega) (cu_lt (by omega) (by omega))) (am_fcN (by first | omega | assumption | exact cu_36 (by omega) (cu_lt (by omega) (by omega)))) ?_
      refine cn_mul d_71_56  ?_
      refine cn_add d_71_57  ?_
      refine cr_nx (pc' := 59) (al' := [some (.ref 133), some (.int (nI n)), some (.int (nI (((rkT n p k).2) + (((p k) - (onN (((rkT n p k).1) &&& ((1 * 2 ^ (p k)) - 1)))) * (FA ((n - 1) - k)))))), some (.int (nI ((rkT n p k).1))), some (.int (nI k)), some (.int (nI (1 * 2 ^ (p k)))), some (.int (nI ((p k) - (onN (((rkT n p k).1) &&& ((1 * 2 ^ (p k)) - 1))))))]) (st' := []) d_71_58 (fun _ => rfl) ?_
      refine cr_nx (pc' := 60) (al' := [some (.ref 133), some (.int (nI n)), some (.int (nI (((rkT n p k).2) + (((p k) - (onN (((rkT n p k).1) &&& ((1 * 2 ^ (p k)) - 1)))) * (FA ((n - 1) - k)))))), some (.int (nI ((rkT n p k).1))), some (.int (nI k)), some (.int (nI (1 * 2 ^ (p k)))), some (.int (nI ((p k) - (onN (((rkT n p k).1) &&& ((1 * 2 ^ (p k)) - 1))))))]) (st' := [.int (nI ((rkT n p k).1))]) d_71_59 (fun _ => rfl) ?_
      refine cr_nx (pc' := 62) (al' := [some (.ref 133), some (.int (nI n)), some (.int (nI (((rkT n p k).2) + (((p k) - (onN (((rkT n p k).1) &&& ((1 * 2 ^ (p k)) - 1)))) * (FA ((n - 1) - k)))))), some (.int (nI ((rkT n p k).1))), some (.int (nI k)), some (.int (nI (1 * 2 ^ (p k)))), some (.int (nI ((p k) - (onN (((rkT n p k).1) &&& ((1 * 2 ^ (p k)) - 1))))))]) (st' := [.int (nI (1 * 2 ^ (p k))), .int (nI ((rkT n p k).1))]) d_71_60 (fun _ => rfl) ?_
      refine cn_or d_71_62 ?_
      refine cr_nx (pc' := 64) (al' := [some (.ref 133), some (.int (nI n)), some (.int (nI (((rkT n p k).2) + (((p k) - (onN (((rkT n p k).1) &&& ((1 * 2 ^ (p k)) - 1)))) * (FA ((n - 1) - k)))))), some (.int (nI (((rkT n p k).1) ||| (1 * 2 ^ (p k))))), some (.int (nI k)), some (.int (nI (1 * 2 ^ (p k)))), some (.int (nI ((p k) - (onN (((rkT n p k).1) &&& ((1 * 2 ^ (p k)) - 1))))))]) (st' := []) d_71_63 (fun _ => rfl) ?_
      refine cn_inc d_71_64 rfl rfl ?_
      show CR _ _ 67 [some (.ref 133), some (.int (nI n)), some (.int (nI (((rkT n p k).2) + (((p k) - (onN (((rkT n p k).1) &&& ((1 * 2 ^ (p k)) - 1)))) * (FA ((n - 1) - k)))))), some (.int (nI (((rkT n p k).1) ||| (1 * 2 ^ (p k))))), some (.int (nI (k + 1))), some (.int (nI (1 * 2 ^ (p k)))), some (.int (nI ((p k) - (onN (((rkT n p k).1) &&& ((1 * 2 ^ (p k)) - 1))))))] [] S G B J R _
      refine cr_nx (pc' := 7) (al' := [some (.ref 133), some (.int (nI n)), some (.int (nI (((rkT n p k).2) + (((p k) - (onN (((rkT n p k).1) &&& ((1 * 2 ^ (p k)) - 1)))) * (FA ((n - 1) - k)))))), some (.int (nI (((rkT n p k).1) ||| (1 * 2 ^ (p k))))), some (.int (nI (k + 1))), some (.int (nI (1 * 2 ^ (p k)))), some (.int (nI ((p k) - (onN (((rkT n p k).1) &&& ((1 * 2 ^ (p k)) - 1))))))]) (st' := []) d_71_67 (fun _ => rfl) ?_
      refine cr_al (congrArg (fun z__ : Nat => ([some (.ref 133), some (.int (nI n)), some (.int (nI z__)), some (.int (nI (((rkT n p k).1) ||| (1 * 2 ^ (p k))))), some (.int (nI (k + 1))), some (.int (nI (1 * 2 ^ (p k)))), some (.int (nI ((p k) - (onN (((rkT n p k).1) &&& ((1 * 2 ^ (p k)) - 1))))))] : AL)) (show ((rkT n p k).2) + (((p k) - (onN (((rkT n p k).1) &&& ((1 * 2 ^ (p k)) - 1)))) * (FA ((n - 1) - k))) = (rkT n p (k + 1)).2 by rfl)) ?_
      refine cr_al (congrArg (fun z__ : Nat => ([some (.ref 133), some (.int (nI n)), some (.int (nI ((rkT n p (k + 1)).2))), some (.int (nI z__)), some (.int (nI (k + 1))), some (.int (nI (1 * 2 ^ (p k)))), some (.int (nI ((p k) - (onN (((rkT n p k).1) &&& ((1 * 2 ^ (p k)) - 1))))))] : AL)) (show ((rkT n p k).1) ||| (1 * 2 ^ (p k)) = (rkT n p (k + 1)).1 by rfl)) ?_
      refine cr_dr (al1 := [some (.ref 133), some (.int (nI n)), some (.int (nI ((rkT n p (k + 1)).2))), some (.int (nI ((rkT n p (k + 1)).1))), some (.int (nI (k + 1))), none, none]) (le_s (le_s (le_s (le_s (le_s (le_d rfl (le_d rfl (le_n)))))))) ?_
      exact ihk  (trivial)
  · show CR _ _ 7 [some (.ref 133), some (.int (nI n)), some (.int (nI ((rkT n p n).2))), some (.int (nI ((rkT n p n).1))), some (.int (nI n)), none, none] [] S G B J R _
    refine cr_nx (pc' := 9) (al' := [some (.ref 133), some (.int (nI n)), some (.int (nI ((rkT n p n).2))), some (.int (nI ((rkT n p n).1))), some (.int (nI n)), none, none]) (st' := [.int (nI n)]) d_71_7 (fun _ => rfl) ?_
    refine cr_nx (pc' := 10) (al' := [some (.ref 133), some (.int (nI n)), some (.int (nI ((rkT n p n).2))), some (.int (nI ((rkT n p n).1))), some (.int (nI n)), none, none]) (st' := [.int (nI n), .int (nI n)]) d_71_9 (fun _ => rfl) ?_
    refine cn_cge (t := 70) d_71_10 (by decide) (by first | omega | assumption | exact cu_36 (by omega) (cu_lt (by omega) (by omega))) (by first | omega | assumption | exact cu_36 (by omega) (cu_lt (by omega) (by omega))) (fun c10 => ?_) (fun c10 => ?_)
    · refine cr_nx (pc' := 71) (al' := [some (.ref 133), some (.int (nI n)), some (.int (nI ((rkT n p n).2))), some (.int (nI ((rkT n p n).1))), some (.int (nI n)), none, none]) (st' := [.int (nI ((rkT n p n).2))]) d_71_70 (fun _ => rfl) ?_
      exact cr_ri d_71_71 cx_71 rfl ⟨by rw [ho.2.2.1], rfl, rfl, rfl, rfl, rfl⟩
    · omega
theorem TabC.u1 {B : Nat → Nat → Int32} {a d n : Nat} {c : Nat → Nat} {w : Nat → Int32} (hne : a + 1 ≠ d) (h : TabC B a n c) : TabC (upr B d w) a n c := ⟨h.1, fun q hq => by rw [upr_n hne]; exact h.2 q hq⟩
theorem upr_idn {α : Type} {B : Nat → α} {a b : Nat} {w : α} (h : a ≠ b) : upr B b w = upr (upr B b w) a (B a) := by rw [← upr_n (B := B) (f := w) h, upr_id]
theorem k_makeRenamed {S : CS} {G : Nat → Nat → Value} {B : Nat → Nat → Int32} {J : Nat → Nat → Int64} {R : Nat → Nat → Option Nat} {a d n : Nat} (ht : TabAt S G a) (hn : G a 0 = .int (nI n)) {c : Nat → Nat} (hc : TabC B a n c) (hd : TabAt S G d) (hne : a ≠ d) (hS : ShOk S) (hF : FxG G) {r : Nat} (hn1 : 1 ≤ n) (hr : r < FA n) (hap : a + 1 ≠ 136) (hdp : 136 ≠ d + 1) : CR 1 67 0 [some (.ref 133), some (.ref d), some (.ref a), some (.int (nI r)), none, none, none] [] S G B J R (fun r_ S' G' B' J' R' => r_ = none ∧ S' = S ∧ G' = up2 G d 0 (.int (nI n)) ∧ J' = J ∧ R' = R ∧ ∃ wp w, B' = upr (upr B 136 wp) (d + 1) w ∧ ∀ q, q < n * n → w q = nI (rnN n c (pmE n r) q)) := by
  have hn6 := hc.1
  have ht' : TabAt S (up2 G d 0 (.int (nI n))) a := ht.up
  have hd' : TabAt S (up2 G d 0 (.int (nI n))) d := hd.up
  have hn' : up2 G d 0 (.int (nI n)) a 0 = .int (nI n) := up2_0 hne hn
  have hdn' : up2 G d 0 (.int (nI n)) d 0 = .int (nI n) := up2_s
  have hP := pm_per hn6 hr
  refine cr_nx (pc' := 1) (al' := [some (.ref 133), some (.ref d), some (.ref a), some (.int (nI r)), none, none, none]) (st' := [.ref a]) d_67_0 (fun _ => rfl) ?_
  refine cr_gf (v := .int (nI n)) d_67_1 cw_67 cf_8_34 ht.1 ht.2.2.1 (by decide) hn ?_
  refine cr_nx (pc' := 6) (al' := [some (.ref 133), some (.ref d), some (.ref a), some (.int (nI r)), some (.int (nI n)), none, none]) (st' := []) d_67_4 (fun _ => rfl) ?_
  refine cr_nx (pc' := 7) (al' := [some (.ref 133), some (.ref d), some (.ref a), some (.int (nI r)), some (.int (nI n)), none, none]) (st' := [.ref 133]) d_67_6 (fun _ => rfl) ?_
  refine cr_nx (pc' := 8) (al' := [some (.ref 133), some (.ref d), some (.ref a), some (.int (nI r)), some (.int (nI n)), none, none]) (st' := [.int (nI r), .ref 133]) d_67_7 (fun _ => rfl) ?_
  refine cr_nx (pc' := 10) (al' := [some (.ref 133), some (.ref d), some (.ref a), some (.int (nI r)), some (.int (nI n)), none, none]) (st' := [.int (nI n), .int (nI r), .ref 133]) d_67_8 (fun _ => rfl) ?_
  refine cr_cv (b := 133) (as := [.int (nI r), .int (nI n)]) (al0 := [some (.ref 133), some (.int (nI r)), some (.int (nI n)), none, none, none]) (r := []) d_67_10 cw_67 cm_8_38 cz_68 rfl rfl (hS.i (a := 133) (by decide) (by decide)) (by rw [cw_68]; exact (hS.s (a := 133) (by decide) (by decide) rfl)) (by rw [cw_68]; decide) rfl (cr_wk (Nat.le_of_ble_eq_true rfl) (k_setNumbered hS hF (by omega) hn6 hr)) (fun v1 S1 G1 B1 J1 R1 h1 => ?_)
  obtain ⟨q0_, q1_, q2_, q3_, q4_, wp, q9_, hwp⟩ := h1
  obtain rfl := q0_
  obtain rfl := q1_.symm
  obtain rfl := q2_.symm
  obtain rfl := q3_.symm
  obtain rfl := q4_.symm
  obtain rfl := q9_
  show CR _ _ 13 [some (.ref 133), some (.ref d), some (.ref a), some (.int (nI r)), some (.int (nI n)), none, none] [] S G (upr B 136 wp) J R _
  refine cr_nx (pc' := 14) (al' := [some (.ref 133), some (.ref d), some (.ref a), some (.int (nI r)), some (.int (nI n)), none, none]) (st' := [.ref d]) d_67_13 (fun _ => rfl) ?_
  refine cr_nx (pc' := 16) (al' := [some (.ref 133), some (.ref d), some (.ref a), some (.int (nI r)), some (.int (nI n)), none, none]) (st' := [.int (nI n), .ref d]) d_67_14 (fun _ => rfl) ?_
  refine cp_10_0  d_67_16 cw_67 cf_8_34 hd.1 hd.2.2.1 (by decide) ?_
  refine cn_ic (v := 0) d_67_19 (by decide) ?_
  refine cr_nx (pc' := 22) (al' := [some (.ref 133), some (.ref d), some (.ref a), some (.int (nI r)), some (.int (nI n)), some (.int (nI 0)), none]) (st' := []) d_67_20 (fun _ => rfl) ?_
  refine cr_B (show (upr B 136 wp) = (upr (upr B 136 wp) (d + 1) (B (d + 1))) by exact upr_idn hdp.symm) ?_
  refine cr_upw (al := fun x w_ => [some (.ref 133), some (.ref d), some (.ref a), some (.int (nI r)), some (.int (nI n)), some (.int (nI x)), none]) (S := fun x w_ => S) (G := fun x w_ => (up2 G d 0 (.int (nI n)))) (B := fun x w_ => (upr (upr B 136 wp) (d + 1) w_)) (J := fun x w_ => J) (R := fun x w_ => R) (P := fun x w_ => ScP (fun q => nI (rnN n c (pmE n r) q)) (fun x y => n * pmE n r x + pmE n r y) n x 0 w_) (n := n) (fun x w_ hx px ihx => ?_) (fun w_ px => ?_) 0 (B (d + 1)) (by omega) (sc_0)
  · show CR _ _ 22 [some (.ref 133), some (.ref d), some (.ref a), some (.int (nI r)), some (.int (nI n)), some (.int (nI x)), none] [] S (up2 G d 0 (.int (nI n))) (upr (upr B 136 wp) (d + 1) w_) J R _
    refine cr_nx (pc' := 24) (al' := [some (.ref 133), some (.ref d), some (.ref a), some (.int (nI r)), some (.int (nI n)), some (.int (nI x)), none]) (st' := [.int (nI x)]) d_67_22 (fun _ => rfl) ?_
    refine cr_nx (pc' := 26) (al' := [some (.ref 133), some (.ref d), some (.ref a), some (.int (nI r)), some (.int (nI n)), some (.int (nI x)), none]) (st' := [.int (nI n), .int (nI x)]) d_67_24 (fun _ => rfl) ?_
    refine cn_cge (t := 82) d_67_26 (by decide) (by first | omega | assumption | exact cu_36 (by omega) (cu_lt (by omega) (by omega))) (by first | omega | assumption | exact cu_36 (by omega) (cu_lt (by omega) (by omega))) (fun c26 => ?_) (fun c26 => ?_)
    · omega
    · refine cn_ic (v := 0) d_67_29 (by decide) ?_
      refine cr_nx (pc' := 32) (al' := [some (.ref 133), some (.ref d), some (.ref a), some (.int (nI r)), some (.int (nI n)), some (.int (nI x)), some (.int (nI 0))]) (st' := []) d_67_30 (fun _ => rfl) ?_
      refine cr_upw (al := fun y w_ => [some (.ref 133), some (.ref d), some (.ref a), some (.int (nI r)), some (.int (nI n)), some (.int (nI x)), some (.int (nI y))]) (S := fun y w_ => S) (G := fun y w_ => (up2 G d 0 (.int (nI n)))) (B := fun y w_ => (upr (upr B 136 wp) (d + 1) w_)) (J := fun y w_ => J) (R := fun y w_ => R) (P := fun y w_ => ScP (fun q => nI (rnN n c (pmE n r) q)) (fun x y => n * pmE n r x + pmE n r y) n x y w_) (n := n) (fun y w_ hy py ihy => ?_) (fun w_ py => ?_) 0 w_ (by omega) (px)
      · show CR _ _ 32 [some (.ref 133), some (.ref d), some (.ref a), some (.int (nI r)), some (.int (nI n)), some (.int (nI x)), some (.int (nI y))] [] S (up2 G d 0 (.int (nI n))) (upr (upr B 136 wp) (d + 1) w_) J R _
        refine cr_nx (pc' := 34) (al' := [some (.ref 133), some (.ref d), some (.ref a), some (.int (nI r)), some (.int (nI n)), some (.int (nI x)), some (.int (nI y))]) (st' := [.int (nI y)]) d_67_32 (fun _ => rfl) ?_
        refine cr_nx (pc' := 36) (al' := [some (.ref 133), some (.ref d), some (.ref a), some (.int (nI r)), some (.int (nI n)), some (.int (nI x)), some (.int (nI y))]) (st' := [.int (nI n), .int (nI y)]) d_67_34 (fun _ => rfl) ?_
        refine cn_cge (t := 76) d_67_36 (by decide) (by first | omega | assumption | exact cu_36 (by omega) (cu_lt (by omega) (by omega))) (by first | omega | assumption | exact cu_36 (by omega) (cu_lt (by omega) (by omega))) (fun c36 => ?_) (fun c36 => ?_)
        · omega
        · refine cr_nx (pc' := 40) (al' := [some (.ref 133), some (.ref d), some (.ref a), some (.int (nI r)), some (.int (nI n)), some (.int (nI x)), some (.int (nI y))]) (st' := [.ref d]) d_67_39 (fun _ => rfl) ?_
          refine cr_nx (pc' := 41) (al' := [some (.ref 133), some (.ref d), some (.ref a), some (.int (nI r)), some (.int (nI n)), some (.int (nI x)), some (.int (nI y))]) (st' := [.ref 133, .ref d]) d_67_40 (fun _ => rfl) ?_
          refine cr_gf (v := .ref 136) d_67_41 cw_67 cf_8_18 (hS.i (a := 133) (by decide) (by decide)) (hS.s (a := 133) (by decide) (by decide) rfl) (by decide) (by simp [up2, hne, hdp, hdp.symm]; exact (fx_133_3 hF)) ?_
          refine cr_nx (pc' := 46) (al' := [some (.ref 133), some (.ref d), some (.ref a), some (.int (nI r)), some (.int (nI n)), some (.int (nI x)), some (.int (nI y))]) (st' := [.int (nI x), .ref 136, .ref d]) d_67_44 (fun _ => rfl) ?_
          refine cr_ia (a := 136) (v := (nI (pmE n r x))) d_67_46 (hS.i (a := 136) (by decide) (by decide)) (hS.s (a := 136) (by decide) (by decide) rfl) (by first | decide | omega) (show x < 6 by omega) ((congrFun (by rw [upr_n (hdp), upr_s] : (upr (upr B 136 wp) (d + 1) w_) 136 = wp) _).trans (hwp x hx)) ?_
          refine cr_nx (pc' := 48) (al' := [some (.ref 133), some (.ref d), some (.ref a), some (.int (nI r)), some (.int (nI n)), some (.int (nI x)), some (.int (nI y))]) (st' := [.ref 133, .int (nI (pmE n r x)), .ref d]) d_67_47 (fun _ => rfl) ?_
          refine cr_gf (v := .ref 136) d_67_48 cw_67 cf_8_18 (hS.i (a := 133) (by decide) (by decide)) (hS.s (a := 133) (by decide) (by decide) rfl) (by decide) (by simp [up2, hne, hdp, hdp.symm]; exact (fx_133_3 hF)) ?_
          refine cr_nx (pc' := 53) (al' := [some (.ref 133), some (.ref d), some (.ref a), some (.int (nI r)), some (.int (nI n)), some (.int (nI x)), some (.int (nI y))]) (st' := [.int (nI y), .ref 136, .int (nI (pmE n r x)), .ref d]) d_67_51 (fun _ => rfl) ?_
          refine cr_ia (a := 136) (v := (nI (pmE n r y))) d_67_53 (hS.i (a := 136) (by decide) (by decide)) (hS.s (a := 136) (by decide) (by decide) rfl) (by first | decide | omega) (show y < 6 by omega) ((congrFun (by rw [upr_n (hdp), upr_s] : (upr (upr B 136 wp) (d + 1) w_) 136 = wp) _).trans (hwp y hy)) ?_
          refine cr_nx (pc' := 55) (al' := [some (.ref 133), some (.ref d), some (.ref a), some (.int (nI r)), some (.int (nI n)), some (.int (nI x)), some (.int (nI y))]) (st' := [.ref 133, .int (nI (pmE n r y)), .int (nI (pmE n r x)), .ref d]) d_67_54 (fun _ => rfl) ?_
          refine cr_gf (v := .ref 136) d_67_55 cw_67 cf_8_18 (hS.i (a := 133) (by decide) (by decide)) (hS.s (a := 133) (by decide) (by decide) rfl) (by decide) (by simp [up2, hne, hdp, hdp.symm]; exact (fx_133_3 hF)) ?_
          refine cr_nx (pc' := 59) (al' := [some (.ref 133), some (.ref d), some (.ref a), some (.int (nI r)), some (.int (nI n)), some (.int (nI x)), some (.int (nI y))]) (st' := [.ref a, .ref 136, .int (nI (pmE n r y)), .int (nI (pmE n r x)), .ref d]) d_67_58 (fun _ => rfl) ?_
          refine cr_nx (pc' := 61) (al' := [some (.ref 133), some (.ref d), some (.ref a), some (.int (nI r)), some (.int (nI n)), some (.int (nI x)), some (.int (nI y))]) (st' := [.int (nI x), .ref a, .ref 136, .int (nI (pmE n r y)), .int (nI (pmE n r x)), .ref d]) d_67_59 (fun _ => rfl) ?_
          refine cr_nx (pc' := 63) (al' := [some (.ref 133), some (.ref d), some (.ref a), some (.int (nI r)), some (.int (nI n)), some (.int (nI x)), some (.int (nI y))]) (st' := [.int (nI y), .int (nI x), .ref a, .ref 136, .int (nI (pmE n r y)), .int (nI (pmE n r x)), .ref d]) d_67_61 (fun _ => rfl) ?_
          refine cr_pv (b := a) (as := [.int (nI x), .int (nI y)]) (al0 := [some (.ref a), some (.int (nI x)), some (.int (nI y))]) (r := [.ref 136, .int (nI (pmE n r y)), .int (nI (pmE n r x)), .ref d]) d_67_63 cw_67 cm_8_42 cz_91 rfl rfl ht.1 (by rw [cw_91]; exact ht.2.2.1) (by rw [cw_91]; decide) rfl (Nat.le_of_ble_eq_true rfl) (k_times ht' hn' (TabC.up hne (TabC.u1 hap hc)) (by omega) (by omega)) ?_
          show CR _ _ 66 [some (.ref 133), some (.ref d), some (.ref a), some (.int (nI r)), some (.int (nI n)), some (.int (nI x)), some (.int (nI y))] [.int (nI (c (n * x + y))), .ref 136, .int (nI (pmE n r y)), .int (nI (pmE n r x)), .ref d] S (up2 G d 0 (.int (nI n))) (upr (upr B 136 wp) (d + 1) w_) J R _
          have b63 : c (n * x + y) < n := (hc.2 _ (cu_lt (by omega) (by omega))).2
          refine cr_ia (a := 136) (v := (nI (pmE n r (c (n * x + y))))) d_67_66 (hS.i (a := 136) (by decide) (by decide)) (hS.s (a := 136) (by decide) (by decide) rfl) (by first | decide | omega) (show c (n * x + y) < 6 by omega) ((congrFun (by rw [upr_n (hdp), upr_s] : (upr (upr B 136 wp) (d + 1) w_) 136 = wp) _).trans (hwp _ b63)) ?_
          refine cr_pv (b := d) (as := [.int (nI (pmE n r x)), .int (nI (pmE n r y)), .int (nI (pmE n r (c (n * x + y))))]) (al0 := [some (.ref d), some (.int (nI (pmE n r x))), some (.int (nI (pmE n r y))), some (.int (nI (pmE n r (c (n * x + y)))))]) (r := []) d_67_67 cw_67 cm_8_46 cz_95 rfl rfl hd.1 (by rw [cw_95]; exact hd.2.2.1) (by rw [cw_95]; decide) rfl (Nat.le_of_ble_eq_true rfl) (k_put hd' hdn' (nI (pmE n r (c (n * x + y)))) (cu_36 hn6 (cu_lt (hP.1 x hx) (hP.1 y hy)))) ?_
          rw [upr_s, upr_u]
          show CR _ _ 70 [some (.ref 133), some (.ref d), some (.ref a), some (.int (nI r)), some (.int (nI n)), some (.int (nI x)), some (.int (nI y))] [] S (up2 G d 0 (.int (nI n))) (upr (upr B 136 wp) (d + 1) (upd w_ (n * (pmE n r x) + (pmE n r y)) (nI (pmE n r (c (n * x + y)))))) J R _
          refine cn_inc d_67_70 rfl rfl ?_
          show CR _ _ 73 [some (.ref 133), some (.ref d), some (.ref a), some (.int (nI r)), some (.int (nI n)), some (.int (nI x)), some (.int (nI (y + 1)))] [] S (up2 G d 0 (.int (nI n))) (upr (upr B 136 wp) (d + 1) (upd w_ (n * (pmE n r x) + (pmE n r y)) (nI (pmE n r (c (n * x + y)))))) J R _
          refine cr_nx (pc' := 32) (al' := [some (.ref 133), some (.ref d), some (.ref a), some (.int (nI r)), some (.int (nI n)), some (.int (nI x)), some (.int (nI (y + 1)))]) (st' := []) d_67_73 (fun _ => rfl) ?_
          exact ihy (upd w_ (n * (pmE n r x) + (pmE n r y)) (nI (pmE n r (c (n * x + y))))) (sc_in py rfl (by rw [rn_at hP hx hy]))
      · show CR _ _ 32 [some (.ref 133), some (.ref d), some (.ref a), some (.int (nI r)), some (.int (nI n)), some (.int (nI x)), some (.int (nI n))] [] S (up2 G d 0 (.int (nI n))) (upr (upr B 136 wp) (d + 1) w_) J R _
        refine cr_nx (pc' := 34) (al' := [some (.ref 133), some (.ref d), some (.ref a), some (.int (nI r)), some (.int (nI n)), some (.int (nI x)), some (.int (nI n))]) (st' := [.int (nI n)]) d_67_32 (fun _ => rfl) ?_
        refine cr_nx (pc' := 36) (al' := [some (.ref 133), some (.ref d), some (.ref a), some (.int (nI r)), some (.int (nI n)), some (.int (nI x)), some (.int (nI n))]) (st' := [.int (nI n), .int (nI n)]) d_67_34 (fun _ => rfl) ?_
        refine cn_cge (t := 76) d_67_36 (by decide) (by first | omega | assumption | exact cu_36 (by omega) (cu_lt (by omega) (by omega))) (by first | omega | assumption | exact cu_36 (by omega) (cu_lt (by omega) (by omega))) (fun c36 => ?_) (fun c36 => ?_)
        · refine cn_inc d_67_76 rfl rfl ?_
          show CR _ _ 79 [some (.ref 133), some (.ref d), some (.ref a), some (.int (nI r)), some (.int (nI n)), some (.int (nI (x + 1))), some (.int (nI n))] [] S (up2 G d 0 (.int (nI n))) (upr (upr B 136 wp) (d + 1) w_) J R _
          refine cr_nx (pc' := 22) (al' := [some (.ref 133), some (.ref d), some (.ref a), some (.int (nI r)), some (.int (nI n)), some (.int (nI (x + 1))), some (.int (nI n))]) (st' := []) d_67_79 (fun _ => rfl) ?_
          refine cr_dr (al1 := [some (.ref 133), some (.ref d), some (.ref a), some (.int (nI r)), some (.int (nI n)), some (.int (nI (x + 1))), none]) (le_s (le_s (le_s (le_s (le_s (le_s (le_d rfl (le_n)))))))) ?_
          exact ihx w_ (sc_out py)
        · omega
  · show CR _ _ 22 [some (.ref 133), some (.ref d), some (.ref a), some (.int (nI r)), some (.int (nI n)), some (.int (nI n)), none] [] S (up2 G d 0 (.int (nI n))) (upr (upr B 136 wp) (d + 1) w_) J R _
    refine cr_nx (pc' := 24) (al' := [some (.ref 133), some (.ref d), some (.ref a), some (.int (nI r)), some (.int (nI n)), some (.int (nI n)), none]) (st' := [.int (nI n)]) d_67_22 (fun _ => rfl) ?_
    refine cr_nx (pc' := 26) (al' := [some (.ref 133), some (.ref d), some (.ref a), some (.int (nI r)), some (.int (nI n)), some (.int (nI n)), none]) (st' := [.int (nI n), .int (nI n)]) d_67_24 (fun _ => rfl) ?_
    refine cn_cge (t := 82) d_67_26 (by decide) (by first | omega | assumption | exact cu_36 (by omega) (cu_lt (by omega) (by omega))) (by first | omega | assumption | exact cu_36 (by omega) (cu_lt (by omega) (by omega))) (fun c26 => ?_) (fun c26 => ?_)
    · exact cr_rv d_67_82 cx_67 ⟨rfl, rfl, rfl, rfl, rfl, wp, w_, rfl, sc_all px (rn_on hP)⟩
    · omega
