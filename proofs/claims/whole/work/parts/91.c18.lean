/-! Listed loops: seek; printed by wip/whole/gen_c18.py. -/
def SkQ (wt : Option Nat) (l : List (Nat → Nat)) (n : Nat) (S : CS) (G : Nat → Nat → Value) (B : Nat → Nat → Int32) (J : Nat → Nat → Int64) (R : Nat → Nat → Option Nat) : CQ := fun r S' G' B' J' R' => (S' = S ∧ J' = J ∧ R' = R) ∧ Gfr [96, 97, 99] G G' ∧ FxG G' ∧ Bfr [98, 101, 102, 103, 104, 105] B B' ∧ G' 97 0 = .int (nI n) ∧ ((r = some (.int (nI 0)) ∧ (∀ w, wt = some w → l.length ≤ w) ∧ G' 96 1 = .int (nI l.length)) ∨ (r = some (.int (nI 1)) ∧ ∃ w, wt = some w ∧ w < l.length ∧ ∀ q, q < n * n → B' 98 q = nI ((l.getD w (fun _ => 0)) q)))
theorem PlQ.sk {wt : Option Nat} {l : List (Nat → Nat)} {n k : Nat} {c : Nat → Nat} {S : CS} {G : Nat → Nat → Value} {B : Nat → Nat → Int32} {J : Nat → Nat → Int64} {R : Nat → Nat → Option Nat} (h97 : G 97 0 = .int (nI n)) {r : Option Value} {S' : CS} {G' : Nat → Nat → Value} {B' : Nat → Nat → Int32} {J' : Nat → Nat → Int64} {R' : Nat → Nat → Option Nat} (h : PlQ wt 0 l n k c S G B J R r S' G' B' J' R') : SkQ wt l n S G B J R r S' G' B' J' R' := by
  obtain ⟨h1, h2, h3, h4, h5, h6⟩ := h
  refine ⟨h1, h2.mo (by simp), h3, h4, by rw [h2 97 (by decide)]; exact h97, h6.imp (fun q => ⟨q.1, fun w hw => ?_, ?_⟩) (fun q => ?_)⟩
  · have := q.2.1 w hw
    omega
  · have := q.2.2.1
    rw [Nat.zero_add] at this
    exact this
  · obtain ⟨q1, w, q2, q3, q4, q5⟩ := q
    exact ⟨q1, w, q2, by omega, fun z hz => by rw [q5 z hz]; rfl⟩
def h00 (n q : Nat) : Nat := if q < n then q else q / n
theorem h00_p {n : Nat} (hn : 2 ≤ n) : PLat n (h00 n) (n + 1) := by
  have key : ∀ x y, n * x + y < n + 1 → x = 0 ∨ (x = 1 ∧ y = 0) := fun x y h => by
    have h3 : x = 0 ∨ x = 1 ∨ 2 ≤ x := by omega
    rcases h3 with rfl | rfl | q
    · exact Or.inl rfl
    · rw [Nat.mul_one] at h
      exact Or.inr ⟨rfl, by omega⟩
    · have := Nat.mul_le_mul_left n q
      omega
  refine ⟨fun q hq => ?_, fun x y z hy hz a b e => ?_, fun x y z hz a b e => ?_⟩
  · unfold h00
    split
    · assumption
    · rw [show q = n by omega, Nat.div_self (by omega)]
      omega
  · rcases key x y a with q | q
    · rw [q, Nat.mul_zero, Nat.zero_add, Nat.zero_add] at e
      unfold h00 at e
      rw [if_pos hy, if_pos hz] at e
      exact e
    · rcases key x z b with r | r <;> omega
  · have h0 : ∀ z, z < n → h00 n (n * 0 + z) = z := fun z hz => by
      unfold h00
      rw [Nat.mul_zero, Nat.zero_add, if_pos hz]
    have h1 : h00 n (n * 1 + 0) = 1 := by
      unfold h00
      rw [Nat.mul_one, Nat.add_zero, if_neg (by omega), Nat.div_self (by omega)]
    rcases key x z a with q | q
    · rcases key y z b with r | r
      · omega
      · rw [q, r.1, r.2, h0 0 (by omega), h1] at e
        omega
    · rcases key y z b with r | r
      · rw [r, q.1, q.2, h0 0 (by omega), h1] at e
        omega
      · omega
theorem h00_T {n : Nat} (hn : 2 ≤ n) : ∀ q, q < n + 1 → T00 n q = some (h00 n q) := by
  intro q hq
  by_cases e : q < n
  · rw [T0_row e]
    unfold h00
    rw [if_pos e]
  · have : q = n := by omega
    have h := T0_col (n := n) (x := 1) (by omega) (by omega)
    rw [Nat.mul_one] at h
    rw [this, h]
    unfold h00
    rw [if_neg (by omega), Nat.div_self (by omega)]
/-- rows as seek has them -/
def SkB (n x : Nat) (w u : Nat → Int32) : Prop := (∀ z, z < x → w (n * z) = nI z ∧ w z = nI z) ∧ ∀ z, z < x → u z = nI (1 * 2 ^ z)
theorem SkB.s {n x : Nat} {w u : Nat → Int32} (h : SkB n x w u) (hx : x < n) : SkB n (x + 1) (upd (upd w (n * x + 0) (nI x)) (n * 0 + x) (nI x)) (upd u x (nI (1 * 2 ^ x))) := by
  rw [show n * x + 0 = n * x from rfl, show n * 0 + x = x by omega]
  have big : ∀ z, 1 ≤ z → n ≤ n * z := fun z hz => Nat.le_mul_of_pos_right n hz
  refine ⟨fun z hz => ⟨?_, ?_⟩, fun z hz => ?_⟩
  · by_cases e : n * z = x
    · rw [e, pk_us]
      rcases Nat.eq_zero_or_pos z with q | q
      · rw [q, Nat.mul_zero] at e
        rw [q, ← e]
      · have := big z q
        omega
    · rw [pk_un e]
      by_cases e2 : z = x
      · rw [e2, pk_us]
      · rw [pk_un (fun q => e2 (Nat.eq_of_mul_eq_mul_left (by omega) q))]
        exact (h.1 z (by omega)).1
  · by_cases e : z = x
    · rw [e, pk_us]
    · rw [pk_un e]
      rw [pk_un]
      · exact (h.1 z (by omega)).2
      · intro q
        rcases Nat.eq_zero_or_pos x with r | r
        · omega
        · have := big x r
          omega
  · by_cases e : z = x
    · rw [e, pk_us]
    · rw [pk_un e]
      exact h.2 z (by omega)
theorem cl_00 {n y : Nat} {c : Nat → Nat} (hy1 : 1 ≤ y) (hy : y < n) (hc : c y = y) : clM n c (n + 1) y = 1 * 2 ^ y := by
  apply Nat.eq_of_testBit_eq
  intro i
  rw [Bool.eq_iff_iff, cl_bit, Nat.one_mul, Nat.testBit_two_pow, decide_eq_true_iff]
  constructor
  · rintro ⟨x, hx, h, e⟩
    have : x = 0 := by
      rcases Nat.eq_zero_or_pos x with q | q
      · exact q
      · have := Nat.le_mul_of_pos_right n q
        omega
    rw [this, Nat.mul_zero, Nat.zero_add, hc] at e
    exact e
  · intro e
    exact ⟨0, by omega, by rw [Nat.mul_zero]; omega, by rw [Nat.mul_zero, Nat.zero_add, hc, e]⟩
theorem k_seek60 {S : CS} {G : Nat → Nat → Value} {B : Nat → Nat → Int32} {J : Nat → Nat → Int64} {R : Nat → Nat → Option Nat} {wt : Option Nat} {n : Nat} {P : (Nat → Nat) → Bool} (hS : ShOk S) (hF : FxG G) (hn6 : n ≤ 6) (hn : 0 < n) (hwt : ∀ u, wt = some u → u < 2 ^ 31) (hn97 : G 97 0 = .int (nI n)) (h7 : G 96 7 = .int (stI wt)) (h1 : G 96 1 = .int (nI 0)) (hLs : LsC n P S G B J R) (hB : SkB n n (B 98) (B 105)) (hL : (flA n (T00 n)).length ≤ 100000) : CR 41 37 0 [some (.ref 96), some (.int (nI 1)), some (.int (nI 1)), some (.int (nI 2)), none, none, none, none, none] [] S G B J R (SkQ wt ((flA n (T00 n)).filter P) n S G B J R) := by
  by_cases h2 : 2 ≤ n
  · have hnn : n + 1 ≤ n * n := by
      have := Nat.mul_le_mul_left n h2
      omega
    obtain ⟨f, hf⟩ : ∃ f, n + 1 + f = n * n := ⟨n * n - (n + 1), by omega⟩
    have hfl : flA n (T00 n) = flL n (T00 n) f (n + 1) (mixC (h00 n) (n + 1)) := fl_preL hn (n + 1) f hf (h00_p h2) (h00_T h2)
    rw [hfl] at hL ⊢
    have hmul : n * 1 + 1 = n + 1 := by rw [Nat.mul_one]
    have hc1 : ∀ q, q < n → mixC (h00 n) (n + 1) q = q := fun q hq => by rw [mixC_l (by omega)]; exact if_pos hq
    have hcn : mixC (h00 n) (n + 1) n = 1 := by
      rw [mixC_l (by omega)]
      unfold h00
      rw [if_neg (by omega), Nat.div_self hn]
    have hLi : LiB n (n * 1 + 1) (mixC (h00 n) (n + 1)) B := by
      rw [hmul]
      refine ⟨fun q hq => ?_, fun x hx => (hB.1 x hx).1, fun y hy1 hy => ?_⟩
      · by_cases e : q < n
        · rw [hc1 q e]
          exact (hB.1 q e).2
        · have e : q = n := by omega
          rw [e, hcn]
          have := (hB.1 1 (by omega)).1
          rw [Nat.mul_one] at this
          exact this
      · rw [cl_00 hy1 hy (hc1 y hy)]
        exact hB.2 y hy
    have h36 := Nat.mul_le_mul hn6 hn6
    have ih := k_place hS hn6 hn hwt hn97 h7 hLs 36 f 1 1 0 (mixC (h00 n) (n + 1)) G B (by omega) (by omega) (Nat.le_refl _) (by omega) (Nat.le_refl _) (by omega) Gfr.rf hF Bfr.rf (fun _ _ => rfl) hLi (by rw [hmul]; exact (h00_p h2).cg (fun q hq => mixC_l hq)) (fun q u hq hq2 => by
      rw [hmul] at hq
      rw [mixC_l hq]
      rw [h00_T h2 q hq] at hq2
      exact Option.some.inj hq2) (fun w _ => Nat.zero_le w) h1 (by rw [hmul, Nat.zero_add]; exact hL)
    have hr2 : rwM n (mixC (h00 n) (n + 1)) (n * 1 + 1) 1 = 2 := by
      rw [← mixC_s, show h00 n n = 1 from by unfold h00; rw [if_neg (by omega), Nat.div_self hn]]
      have := rw_new (n := n) (x := 1) (c := mixC (h00 n) n) (v := 1) hn
      rw [Nat.mul_one] at this ⊢
      rw [this]
    rw [hr2, hmul] at ih
    exact cr_cq (cr_wk (by omega) ih) (fun _ _ _ _ _ _ q => q.sk hn97)
  · have h1n : n = 1 := by omega
    subst h1n
    have hfl : flA 1 (T00 1) = [mixC (h00 1) 1] := fl_preL (h := h00 1) (by decide) 1 0 rfl ⟨fun q hq => by rw [show q = 0 by omega]; decide, fun x y z hy hz _ _ _ => by omega, fun x y z hz a b _ => by omega⟩ (fun q hq => by rw [show q = 0 by omega]; decide)
    rw [hfl, ft_1]
    have h00b : B 98 0 = nI 0 := (hB.1 0 (by decide)).2
    have hv : ∀ q, q < 1 * 1 → B 98 q = nI (mixC (h00 1) 1 q) := fun q hq => by
      rw [show q = 0 by omega]
      exact h00b
    exact cr_cq (cr_wk (by omega) (k_pl_0 (n := 1) (c := mixC (h00 1) 1) hS hF (by decide) (by decide) hwt hn97 h7 h1 (fun w _ => Nat.zero_le w) (by decide) ⟨hv, fun x hx => by rw [show x = 0 by omega]; exact h00b, fun y a b => by omega⟩ (hLs (mixC (h00 1) 1) G B ⟨fun q hq => by rw [show q = 0 by omega]; decide, fun x y z _ hy hz _ => by omega, fun x y z hx hy _ _ => by omega⟩ hv Gfr.rf hF (fun _ _ => rfl) Bfr.rf))) (fun _ _ _ _ _ _ q => q.sk hn97)
theorem FxG.u9 {G : Nat → Nat → Value} {a k : Nat} {v : Value} (hk : (a = 96 ∧ (k = 1 ∨ 4 ≤ k)) ∨ (a = 97 ∧ k = 0)) (h : FxG G) : FxG (up2 G a k v) := fun e he => by
  rw [up2_n]
  · exact h e he
  · intro q
    simp only [List.mem_cons, List.mem_nil_iff, or_false, Prod.ext_iff] at he
    omega
theorem k_seek {S : CS} {G : Nat → Nat → Value} {B : Nat → Nat → Int32} {J : Nat → Nat → Int64} {R : Nat → Nat → Option Nat} {wt : Option Nat} {n : Nat} {P : (Nat → Nat) → Bool} (hS : ShOk S) (hF : FxG G) (hn6 : n ≤ 6) (hn : 0 < n) (hwt : ∀ u, wt = some u → u < 2 ^ 31) (hLs : ∀ G1 B1, G1 = up2 (up2 (up2 G 96 7 (.int (stI wt))) 96 1 (.int (nI 0))) 97 0 (.int (nI n)) → Bfr [98, 105] B B1 → LsC n P S G1 B1 J R) (hL : (flA n (T00 n)).length ≤ 100000) : CR 42 36 0 [some (.ref 96), some (.int (nI n)), some (.int (stI wt)), none] [] S G B J R (SkQ wt ((flA n (T00 n)).filter P) n S G B J R) := by
  refine cr_nx (pc' := 1) (al' := [some (.ref 96), some (.int (nI n)), some (.int (stI wt)), none]) (st' := [.ref 96]) d_36_0 (fun _ => rfl) ?_
  refine cr_nx (pc' := 2) (al' := [some (.ref 96), some (.int (nI n)), some (.int (stI wt)), none]) (st' := [.int (stI wt), .ref 96]) d_36_1 (fun _ => rfl) ?_
  refine cp_5_7  d_36_2 cw_36 cf_5_42 (hS.i (a := 96) (by decide) (by decide)) (hS.s (a := 96) (by decide) (by decide) rfl) (by decide) ?_
  refine cr_nx (pc' := 6) (al' := [some (.ref 96), some (.int (nI n)), some (.int (stI wt)), none]) (st' := [.ref 96]) d_36_5 (fun _ => rfl) ?_
  refine cn_ic (v := 0) d_36_6 (by decide) ?_
  refine cp_5_1  d_36_7 cw_36 cf_5_45 (hS.i (a := 96) (by decide) (by decide)) (hS.s (a := 96) (by decide) (by decide) rfl) (by decide) ?_
  refine cr_nx (pc' := 11) (al' := [some (.ref 96), some (.int (nI n)), some (.int (stI wt)), none]) (st' := [.ref 96]) d_36_10 (fun _ => rfl) ?_
  refine cr_gf (v := .ref 97) d_36_11 cw_36 cf_5_12 (hS.i (a := 96) (by decide) (by decide)) (hS.s (a := 96) (by decide) (by decide) rfl) (by decide) (by simp [up2]; exact (fx_96_0 hF)) ?_
  refine cr_nx (pc' := 15) (al' := [some (.ref 96), some (.int (nI n)), some (.int (stI wt)), none]) (st' := [.int (nI n), .ref 97]) d_36_14 (fun _ => rfl) ?_
  refine cp_10_0  d_36_15 cw_36 cf_5_48 (hS.i (a := 97) (by decide) (by decide)) (hS.s (a := 97) (by decide) (by decide) rfl) (by decide) ?_
  obtain ⟨G1, hG1⟩ : ∃ G1, G1 = (up2 (up2 (up2 G 96 7 (.int (stI wt))) 96 1 (.int (nI 0))) 97 0 (.int (nI n))) := ⟨_, rfl⟩
  rw [← hG1]
  have hF1 : FxG G1 := by rw [hG1]; exact ((hF.u9 (by omega)).u9 (by omega)).u9 (by omega)
  have hn1 : G1 97 0 = .int (nI n) := by rw [hG1, up2_s]
  have h71 : G1 96 7 = .int (stI wt) := by rw [hG1, up2_n (by omega), up2_n (by omega), up2_s]
  have h11 : G1 96 1 = .int (nI 0) := by rw [hG1, up2_n (by omega), up2_s]
  have hgf : Gfr [96, 97, 99] G G1 := by rw [hG1]; exact ((Gfr.rf.u (by simp)).u (by simp)).u (by simp)
  refine cn_ic (v := 0) d_36_18 (by decide) ?_
  refine cr_nx (pc' := 20) (al' := [some (.ref 96), some (.int (nI n)), some (.int (stI wt)), some (.int (nI 0))]) (st' := []) d_36_19 (fun _ => rfl) ?_
  refine cr_B (show B = (upr (upr B 98 ((B 98, B 105).1)) 105 ((B 98, B 105).2)) by rw [upr_id, upr_id]) ?_
  refine cr_upw (al := fun x w_ => [some (.ref 96), some (.int (nI n)), some (.int (stI wt)), some (.int (nI x))]) (S := fun x w_ => S) (G := fun x w_ => G1) (B := fun x w_ => (upr (upr B 98 w_.1) 105 w_.2)) (J := fun x w_ => J) (R := fun x w_ => R) (P := fun x w_ => SkB n x w_.1 w_.2) (n := n) (fun x w_ hx px ihx => ?_) (fun w_ px => ?_) 0 (B 98, B 105) (by omega) (⟨fun z h_ => absurd h_ (Nat.not_lt_zero z), fun z h_ => absurd h_ (Nat.not_lt_zero z)⟩)
  · show CR _ _ 20 [some (.ref 96), some (.int (nI n)), some (.int (stI wt)), some (.int (nI x))] [] S G1 (upr (upr B 98 w_.1) 105 w_.2) J R _
    refine cr_nx (pc' := 21) (al' := [some (.ref 96), some (.int (nI n)), some (.int (stI wt)), some (.int (nI x))]) (st' := [.int (nI x)]) d_36_20 (fun _ => rfl) ?_
    refine cr_nx (pc' := 22) (al' := [some (.ref 96), some (.int (nI n)), some (.int (stI wt)), some (.int (nI x))]) (st' := [.int (nI n), .int (nI x)]) d_36_21 (fun _ => rfl) ?_
    refine cn_cge (t := 60) d_36_22 (by decide) (by first | omega | assumption | exact cu_36 (by omega) (cu_lt (by omega) (by omega))) (by first | omega | assumption | exact cu_36 (by omega) (cu_lt (by omega) (by omega))) (fun c22 => ?_) (fun c22 => ?_)
    · omega
    · refine cr_nx (pc' := 26) (al' := [some (.ref 96), some (.int (nI n)), some (.int (stI wt)), some (.int (nI x))]) (st' := [.ref 96]) d_36_25 (fun _ => rfl) ?_
      refine cr_gf (v := .ref 97) d_36_26 cw_36 cf_5_12 (hS.i (a := 96) (by decide) (by decide)) (hS.s (a := 96) (by decide) (by decide) rfl) (by decide) (fx_96_0 hF1) ?_
      refine cr_nx (pc' := 30) (al' := [some (.ref 96), some (.int (nI n)), some (.int (stI wt)), some (.int (nI x))]) (st' := [.int (nI x), .ref 97]) d_36_29 (fun _ => rfl) ?_
      refine cn_ic (v := 0) d_36_30 (by decide) ?_
      refine cr_nx (pc' := 32) (al' := [some (.ref 96), some (.int (nI n)), some (.int (stI wt)), some (.int (nI x))]) (st' := [.int (nI x), .int (nI 0), .int (nI x), .ref 97]) d_36_31 (fun _ => rfl) ?_
      refine cr_pv (b := 97) (as := [.int (nI x), .int (nI 0), .int (nI x)]) (al0 := [some (.ref 97), some (.int (nI x)), some (.int (nI 0)), some (.int (nI x))]) (r := []) d_36_32 cw_36 cm_5_51 cz_95 rfl rfl (hS.i (a := 97) (by decide) (by decide)) (by rw [cw_95]; exact (hS.s (a := 97) (by decide) (by decide) rfl)) (by rw [cw_95]; decide) rfl (Nat.le_of_ble_eq_true rfl) (k_put (tb_97 hS hF1) hn1 (nI x) (cu_36 hn6 (cu_lt (by omega) (by omega)))) ?_
      rw [show (97 + 1 : Nat) = 98 from rfl, upr_n (show (98 : Nat) ≠ 105 by decide), upr_s, upr_sw (show (98 : Nat) ≠ 105 by decide)]
      show CR _ _ 35 [some (.ref 96), some (.int (nI n)), some (.int (stI wt)), some (.int (nI x))] [] S G1 (upr (upr B 98 (upd w_.1 (n * x + 0) (nI x))) 105 w_.2) J R _
      refine cr_nx (pc' := 36) (al' := [some (.ref 96), some (.int (nI n)), some (.int (stI wt)), some (.int (nI x))]) (st' := [.ref 96]) d_36_35 (fun _ => rfl) ?_
      refine cr_gf (v := .ref 97) d_36_36 cw_36 cf_5_12 (hS.i (a := 96) (by decide) (by decide)) (hS.s (a := 96) (by decide) (by decide) rfl) (by decide) (fx_96_0 hF1) ?_
      refine cn_ic (v := 0) d_36_39 (by decide) ?_
      refine cr_nx (pc' := 41) (al' := [some (.ref 96), some (.int (nI n)), some (.int (stI wt)), some (.int (nI x))]) (st' := [.int (nI x), .int (nI 0), .ref 97]) d_36_40 (fun _ => rfl) ?_
      refine cr_nx (pc' := 42) (al' := [some (.ref 96), some (.int (nI n)), some (.int (stI wt)), some (.int (nI x))]) (st' := [.int (nI x), .int (nI x), .int (nI 0), .ref 97]) d_36_41 (fun _ => rfl) ?_
      refine cr_pv (b := 97) (as := [.int (nI 0), .int (nI x), .int (nI x)]) (al0 := [some (.ref 97), some (.int (nI 0)), some (.int (nI x)), some (.int (nI x))]) (r := []) d_36_42 cw_36 cm_5_51 cz_95 rfl rfl (hS.i (a := 97) (by decide) (by decide)) (by rw [cw_95]; exact (hS.s (a := 97) (by decide) (by decide) rfl)) (by rw [cw_95]; decide) rfl (Nat.le_of_ble_eq_true rfl) (k_put (tb_97 hS hF1) hn1 (nI x) (cu_36 hn6 (cu_lt (by omega) (by omega)))) ?_
      rw [show (97 + 1 : Nat) = 98 from rfl, upr_n (show (98 : Nat) ≠ 105 by decide), upr_s, upr_sw (show (98 : Nat) ≠ 105 by decide)]
      show CR _ _ 45 [some (.ref 96), some (.int (nI n)), some (.int (stI wt)), some (.int (nI x))] [] S G1 (upr (upr B 98 (upd (upd w_.1 (n * x + 0) (nI x)) (n * 0 + x) (nI x))) 105 w_.2) J R _
      refine cr_nx (pc' := 46) (al' := [some (.ref 96), some (.int (nI n)), some (.int (stI wt)), some (.int (nI x))]) (st' := [.ref 96]) d_36_45 (fun _ => rfl) ?_
      refine cr_gf (v := .ref 105) d_36_46 cw_36 cf_5_25 (hS.i (a := 96) (by decide) (by decide)) (hS.s (a := 96) (by decide) (by decide) rfl) (by decide) (fx_96_3 hF1) ?_
      refine cr_nx (pc' := 50) (al' := [some (.ref 96), some (.int (nI n)), some (.int (stI wt)), some (.int (nI x))]) (st' := [.int (nI x), .ref 105]) d_36_49 (fun _ => rfl) ?_
      refine cn_ic (v := 1) d_36_50 (by decide) ?_
      refine cr_nx (pc' := 52) (al' := [some (.ref 96), some (.int (nI n)), some (.int (stI wt)), some (.int (nI x))]) (st' := [.int (nI x), .int (nI 1), .int (nI x), .ref 105]) d_36_51 (fun _ => rfl) ?_
      refine cn_shl d_36_52 (by omega) ?_
      refine cr_iS (a := 105) (B1 := (upr (upr B 98 (upd (upd w_.1 (n * x + 0) (nI x)) (n * 0 + x) (nI x))) 105 (upd w_.2 x (nI (1 * 2 ^ x))))) d_36_53 (hS.i (a := 105) (by decide) (by decide)) (hS.s (a := 105) (by decide) (by decide) rfl) (by first | decide | omega) (show x < 6 by first | omega | assumption | exact cu_36 (by omega) (cu_lt (by omega) (by omega))) (by rw [upr_s, upr_u]) ?_
      refine cn_inc d_36_54 rfl rfl ?_
      show CR _ _ 57 [some (.ref 96), some (.int (nI n)), some (.int (stI wt)), some (.int (nI (x + 1)))] [] S G1 (upr (upr B 98 (upd (upd w_.1 (n * x + 0) (nI x)) (n * 0 + x) (nI x))) 105 (upd w_.2 x (nI (1 * 2 ^ x)))) J R _
      refine cr_nx (pc' := 20) (al' := [some (.ref 96), some (.int (nI n)), some (.int (stI wt)), some (.int (nI (x + 1)))]) (st' := []) d_36_57 (fun _ => rfl) ?_
      exact ihx ((upd (upd w_.1 (n * x + 0) (nI x)) (n * 0 + x) (nI x)), (upd w_.2 x (nI (1 * 2 ^ x)))) (px.s hx)
  · show CR _ _ 20 [some (.ref 96), some (.int (nI n)), some (.int (stI wt)), some (.int (nI n))] [] S G1 (upr (upr B 98 w_.1) 105 w_.2) J R _
    refine cr_nx (pc' := 21) (al' := [some (.ref 96), some (.int (nI n)), some (.int (stI wt)), some (.int (nI n))]) (st' := [.int (nI n)]) d_36_20 (fun _ => rfl) ?_
    refine cr_nx (pc' := 22) (al' := [some (.ref 96), some (.int (nI n)), some (.int (stI wt)), some (.int (nI n))]) (st' := [.int (nI n), .int (nI n)]) d_36_21 (fun _ => rfl) ?_
    refine cn_cge (t := 60) d_36_22 (by decide) (by first | omega | assumption | exact cu_36 (by omega) (cu_lt (by omega) (by omega))) (by first | omega | assumption | exact cu_36 (by omega) (cu_lt (by omega) (by omega))) (fun c22 => ?_) (fun c22 => ?_)
    · refine cr_nx (pc' := 61) (al' := [some (.ref 96), some (.int (nI n)), some (.int (stI wt)), some (.int (nI n))]) (st' := [.ref 96]) d_36_60 (fun _ => rfl) ?_
      refine cn_ic (v := 1) d_36_61 (by decide) ?_
      refine cn_ic (v := 1) d_36_62 (by decide) ?_
      refine cn_ic (v := 2) d_36_63 (by decide) ?_
      refine cr_cv (b := 96) (as := [.int (nI 1), .int (nI 1), .int (nI 2)]) (al0 := [some (.ref 96), some (.int (nI 1)), some (.int (nI 1)), some (.int (nI 2)), none, none, none, none, none]) (r := []) d_36_64 cw_36 cm_5_55 cz_37 rfl rfl (hS.i (a := 96) (by decide) (by decide)) (by rw [cw_37]; exact (hS.s (a := 96) (by decide) (by decide) rfl)) (by rw [cw_37]; decide) rfl (cr_wk (Nat.le_of_ble_eq_true rfl) (k_seek60 hS hF1 hn6 hn hwt hn1 h71 h11 (hLs G1 _ hG1 ((Bfr.rf.u (by simp)).u (by simp))) ⟨by rw [upr_n (show (98 : Nat) ≠ 105 by decide), upr_s]; exact px.1, by rw [upr_s]; exact px.2⟩ hL)) (fun v1 S1 G2 B2 J1 R1 h1 => ?_)
      obtain ⟨⟨q1_, q2_, q3_⟩, hg2, hf2, hb2, hn2, hor⟩ := h1
      obtain rfl := q1_.symm
      obtain rfl := q2_.symm
      obtain rfl := q3_.symm
      obtain ⟨z, hz, hor2⟩ : ∃ z, v1 = some (.int (nI z)) ∧ z ≤ 1 := hor.elim (fun h_ => ⟨0, h_.1, by omega⟩) (fun h_ => ⟨1, h_.1, by omega⟩)
      obtain rfl := hz
      show CR _ _ 67 [some (.ref 96), some (.int (nI n)), some (.int (stI wt)), some (.int (nI n))] [.int (nI z)] S G2 B2 J R _
      exact cr_ri d_36_67 cx_36 (nar_bl hor2) ⟨⟨rfl, rfl, rfl⟩, hgf.tr hg2, hf2, ((Bfr.rf.u (by simp)).u (by simp)).tr hb2, hn2, hor⟩
    · omega
