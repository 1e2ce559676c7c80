/-! Listed loops: the class places cells; printed by wip/whole/gen_c16.py. -/
def LiB (n k : Nat) (c : Nat → Nat) (B : Nat → Nat → Int32) : Prop := (∀ q, q < k → B 98 q = nI (c q)) ∧ (∀ x, x < n → B 98 (n * x) = nI x) ∧ ∀ y, 1 ≤ y → y < n → B 105 y = nI (clM n c k y)
def PlQ (wt : Option Nat) (m : Nat) (l : List (Nat → Nat)) (n k : Nat) (c : Nat → Nat) (S : CS) (G : Nat → Nat → Value) (B : Nat → Nat → Int32) (J : Nat → Nat → Int64) (R : Nat → Nat → Option Nat) : CQ := fun r S' G' B' J' R' => (S' = S ∧ J' = J ∧ R' = R) ∧ Gfr [96, 99] G G' ∧ FxG G' ∧ Bfr [98, 101, 102, 103, 104, 105] B B' ∧ (∀ j, j ≠ 1 → G' 96 j = G 96 j) ∧ ((r = some (.int (nI 0)) ∧ (∀ w, wt = some w → m + l.length ≤ w) ∧ G' 96 1 = .int (nI (m + l.length)) ∧ LiB n k c B') ∨ (r = some (.int (nI 1)) ∧ ∃ w, wt = some w ∧ m ≤ w ∧ w < m + l.length ∧ ∀ q, q < n * n → B' 98 q = nI ((l.getD (w - m) (fun _ => 0)) q)))
theorem wd_e {s : Option Nat} {x : Nat} (h : ∀ u, s = some u → u < 2 ^ 31) (hx : x < 2 ^ 31) : nI x = stI s ↔ s = some x := by
  cases s with
  | none => exact ⟨fun e => absurd e (by
      intro e
      have : (nI x).toInt = (-1 : Int32).toInt := congrArg _ e
      rw [nI_toInt hx] at this
      have h2 : (-1 : Int32).toInt = -1 := by decide
      omega), fun e => by cases e⟩
  | some u => exact ⟨fun e => by rw [(nI_eq (a := x) (b := u) hx (h u rfl)).mp e], fun e => by cases e; rfl⟩
theorem fr_xy {n : Nat} {c : Nat → Nat} {x y v : Nat} (hy : y < n) : (rwM n c (n * x + y) x ||| clM n c (n * x + y) y) &&& 1 * 2 ^ v = 0 ↔ frB n c (n * x + y) v = true := by
  have h := fr_e (n := n) (c := c) (k := n * x + y) (v := v)
  rw [dm_d hy, dm_m hy] at h
  exact h
theorem LiB.put {n : Nat} {c : Nat → Nat} {B : Nat → Nat → Int32} {x y v : Nat} (h : LiB n (n * x + y) c B) (hx : x < n) (hy : y < n) (hy1 : 1 ≤ y) : LiB n (n * x + y + 1) (upN c (n * x + y) v) (upr (upr B 98 (upd (B 98) (n * x + y) (nI v))) 105 (upd (B 105) y (nI (clM n c (n * x + y) y ||| 1 * 2 ^ v)))) := by
  refine ⟨fun q hq => ?_, fun z hz => ?_, fun z hz1 hz => ?_⟩
  · rw [upr_n (by decide), upr_s]
    by_cases e : q = n * x + y
    · rw [e, pk_us, upN_s]
    · rw [pk_un e, upN_n e]
      exact h.1 q (by omega)
  · rw [upr_n (by decide), upr_s, pk_un]
    · exact h.2.1 z hz
    · intro e
      have := (cx_i (n := n) (x := z) (y := 0) (u := x) (v := y) (by omega) hy).mp (by omega)
      omega
  · rw [upr_s]
    have hp := cl_put (c := c) (v := v) (cu_lt hx hy)
    by_cases e : z = y
    · rw [dm_m hy] at hp
      rw [e, pk_us, hp]
    · rw [pk_un e, cl_oth hz (by rw [dm_m hy]; exact e)]
      exact h.2.2 z hz1 hz
theorem LiB.bk {n : Nat} {c : Nat → Nat} {B : Nat → Nat → Int32} {x y v : Nat} (h : LiB n (n * x + y + 1) (upN c (n * x + y) v) B) (hn6 : n ≤ 6) (hx : x < n) (hy : y < n) (hv : v < n) (hl : PLat n c (n * x + y)) (hf : frB n c (n * x + y) v = true) : LiB n (n * x + y) c (upr B 105 (upd (B 105) y (nI (clM n (upN c (n * x + y) v) (n * x + y + 1) y &&& (1 * 2 ^ v ^^^ 4294967295))))) := by
  unfold frB at hf
  rw [Bool.and_eq_true, Bool.not_eq_true', Bool.not_eq_true', dm_m hy] at hf
  have hp := cl_put (c := c) (v := v) (cu_lt hx hy)
  rw [dm_m hy] at hp
  refine ⟨fun q hq => ?_, fun z hz => ?_, fun z hz1 hz => ?_⟩
  · rw [upr_n (by decide), h.1 q (by omega), upN_n (by omega)]
  · rw [upr_n (by decide)]
    exact h.2.1 z hz
  · rw [upr_s]
    by_cases e : z = y
    · rw [e, pk_us, hp, un_mark _ (cl_64 hn6 hl.1) v (by omega) hf.2]
    · rw [pk_un e, h.2.2 z hz1 hz, cl_oth hz (by rw [dm_m hy]; exact e)]
theorem FxG.u96 {G : Nat → Nat → Value} {v : Value} (h : FxG G) : FxG (up2 G 96 1 v) := fun e he => by
  rw [up2_n]
  · exact h e he
  · intro q
    simp only [List.mem_cons, List.mem_nil_iff, or_false, Prod.ext_iff] at he
    omega
theorem k_pl_0 {S : CS} {G : Nat → Nat → Value} {B : Nat → Nat → Int32} {J : Nat → Nat → Int64} {R : Nat → Nat → Option Nat} {wt : Option Nat} {m n : Nat} (hS : ShOk S) (hF : FxG G) (hn6 : n ≤ 6) (hn : 0 < n) (hwt : ∀ u, wt = some u → u < 2 ^ 31) (hn97 : G 97 0 = .int (nI n)) (h7 : G 96 7 = .int (stI wt)) (h1 : G 96 1 = .int (nI m)) (hmw : ∀ w, wt = some w → m ≤ w) (hm5 : m ≤ 100000) {c : Nat → Nat} {mk : Int32} (hLi : LiB n (n * n) c B) {Pb : Bool} (hP : CR 4 38 0 [some (.ref 96), none, none, none, none] [] S G B J R (fun r S' G' B' J' R' => r = some (.int (bI (Pb = true))) ∧ (S' = S ∧ J' = J ∧ R' = R) ∧ Gfr [99] G G' ∧ FxG G' ∧ Bfr [101, 102, 103, 104] B B')) : CR 5 37 0 [some (.ref 96), some (.int (nI n)), some (.int (nI 1)), some (.int mk), none, none, none, none, none] [] S G B J R (PlQ wt m ([c].filter (fun _ => Pb)) n (n * n) c S G B J R) := by
  refine cr_nx (pc' := 1) (al' := [some (.ref 96), some (.int (nI n)), some (.int (nI 1)), some (.int mk), none, none, none, none, none]) (st' := [.int (nI n)]) d_37_0 (fun _ => rfl) ?_
  refine cr_nx (pc' := 2) (al' := [some (.ref 96), some (.int (nI n)), some (.int (nI 1)), some (.int mk), none, none, none, none, none]) (st' := [.ref 96, .int (nI n)]) d_37_1 (fun _ => rfl) ?_
  refine cr_gf (v := .ref 97) d_37_2 cw_37 cf_5_12 (hS.i (a := 96) (by decide) (by decide)) (hS.s (a := 96) (by decide) (by decide) rfl) (by decide) (fx_96_0 hF) ?_
  refine cr_gf (v := .int (nI n)) d_37_5 cw_37 cf_5_48 (hS.i (a := 97) (by decide) (by decide)) (hS.s (a := 97) (by decide) (by decide) rfl) (by decide) hn97 ?_
  refine cn_clt (t := 49) d_37_8 (by decide) (by omega) (by omega) (fun c8 => ?_) (fun c8 => ?_)
  · omega
  · refine cr_nx (pc' := 12) (al' := [some (.ref 96), some (.int (nI n)), some (.int (nI 1)), some (.int mk), none, none, none, none, none]) (st' := [.ref 96]) d_37_11 (fun _ => rfl) ?_
    refine cr_cv (b := 96) (as := []) (al0 := [some (.ref 96), none, none, none, none]) (r := []) d_37_12 cw_37 cm_5_59 cz_38 rfl rfl (hS.i (a := 96) (by decide) (by decide)) (by rw [cw_38]; exact (hS.s (a := 96) (by decide) (by decide) rfl)) (by rw [cw_38]; decide) rfl (cr_wk (Nat.le_of_ble_eq_true rfl) (hP)) (fun v1 S1 G1 B1 J1 R1 h1 => ?_)
    obtain ⟨q0_, ⟨q1_, q2_, q3_⟩, hg1, hf1, hb1⟩ := h1
    obtain rfl := q0_
    obtain rfl := q1_.symm
    obtain rfl := q2_.symm
    obtain rfl := q3_.symm
    have h1 : G1 96 1 = .int (nI m) := by rw [hg1 96 (by decide)]; exact h1
    have h7 : G1 96 7 = .int (stI wt) := by rw [hg1 96 (by decide)]; exact h7
    show CR _ _ 15 [some (.ref 96), some (.int (nI n)), some (.int (nI 1)), some (.int mk), none, none, none, none, none] [.int (bI (Pb = true))] S G1 B1 J R _
    refine cr_bne (t := 20) d_37_15 (by decide) (fun c15 => ?_) (fun c15 => ?_)
    · refine cr_nx (pc' := 21) (al' := [some (.ref 96), some (.int (nI n)), some (.int (nI 1)), some (.int mk), none, none, none, none, none]) (st' := [.ref 96]) d_37_20 (fun _ => rfl) ?_
      refine cr_nx (pc' := 22) (al' := [some (.ref 96), some (.int (nI n)), some (.int (nI 1)), some (.int mk), none, none, none, none, none]) (st' := [.ref 96, .ref 96]) d_37_21 (fun _ => rfl) ?_
      refine cr_gf (v := .int (nI m)) d_37_22 cw_37 cf_5_45 (hS.i (a := 96) (by decide) (by decide)) (hS.s (a := 96) (by decide) (by decide) rfl) (by decide) h1 ?_
      refine cn_ic (v := 1) d_37_25 (by decide) ?_
      refine cn_add d_37_26  ?_
      refine cp_5_1  d_37_27 cw_37 cf_5_45 (hS.i (a := 96) (by decide) (by decide)) (hS.s (a := 96) (by decide) (by decide) rfl) (by decide) ?_
      refine cr_nx (pc' := 31) (al' := [some (.ref 96), some (.int (nI n)), some (.int (nI 1)), some (.int mk), none, none, none, none, none]) (st' := [.ref 96]) d_37_30 (fun _ => rfl) ?_
      refine cr_gf (v := .int (nI (m + 1))) d_37_31 cw_37 cf_5_45 (hS.i (a := 96) (by decide) (by decide)) (hS.s (a := 96) (by decide) (by decide) rfl) (by decide) (by simp [up2]) ?_
      refine cn_ic (v := 1) d_37_34 (by decide) ?_
      refine cn_sub d_37_35 (by omega) ?_
      refine cr_nx (pc' := 37) (al' := [some (.ref 96), some (.int (nI n)), some (.int (nI 1)), some (.int mk), none, none, none, none, none]) (st' := [.ref 96, .int (nI ((m + 1) - 1))]) d_37_36 (fun _ => rfl) ?_
      refine cr_gf (v := .int (stI wt)) d_37_37 cw_37 cf_5_42 (hS.i (a := 96) (by decide) (by decide)) (hS.s (a := 96) (by decide) (by decide) rfl) (by decide) (by simp [up2]; exact h7) ?_
      refine cr_cne (t := 47) d_37_40 (by decide) (fun c40 => ?_) (fun c40 => ?_)
      · rw [show m + 1 - 1 = m by omega, wd_e hwt (by omega)] at c40
        refine cn_ic (v := 0) d_37_47 (by decide) ?_
        exact cr_ri d_37_48 cx_37 (by decide) ⟨⟨rfl, rfl, rfl⟩, (hg1.mo (by simp)).u (by simp), FxG.u96 hf1, hb1.mo (by simp), fun j hj => by rw [up2_n (fun e_ => hj e_.2), hg1 96 (by decide)], Or.inl ⟨rfl, fun w h_ => by rw [show [c].filter (fun _ => Pb) = [c] by rw [c15]; rfl]; have := hmw w h_; have : w ≠ m := fun e_ => c40 (e_ ▸ h_); show m + 1 ≤ w; omega, by rw [show [c].filter (fun _ => Pb) = [c] by rw [c15]; rfl]; exact up2_s, ⟨fun q hq => by rw [hb1 98 (by decide)]; exact hLi.1 q hq, fun q hq => by rw [hb1 98 (by decide)]; exact hLi.2.1 q hq, fun q h_ hq => by rw [hb1 105 (by decide)]; exact hLi.2.2 q h_ hq⟩⟩⟩
      · rw [show m + 1 - 1 = m by omega, wd_e hwt (by omega)] at c40
        refine cn_ic (v := 1) d_37_43 (by decide) ?_
        refine cr_nx (pc' := 48) (al' := [some (.ref 96), some (.int (nI n)), some (.int (nI 1)), some (.int mk), none, none, none, none, none]) (st' := [.int (nI 1)]) d_37_44 (fun _ => rfl) ?_
        exact cr_ri d_37_48 cx_37 (by decide) ⟨⟨rfl, rfl, rfl⟩, (hg1.mo (by simp)).u (by simp), FxG.u96 hf1, hb1.mo (by simp), fun j hj => by rw [up2_n (fun e_ => hj e_.2), hg1 96 (by decide)], Or.inr ⟨rfl, m, c40, Nat.le_refl _, by rw [show [c].filter (fun _ => Pb) = [c] by rw [c15]; rfl]; exact Nat.lt_succ_self m, fun q hq => by rw [show [c].filter (fun _ => Pb) = [c] by rw [c15]; rfl, Nat.sub_self, hb1 98 (by decide)]; exact hLi.1 q hq⟩⟩
    · refine cn_ic (v := 0) d_37_18 (by decide) ?_
      exact cr_ri d_37_19 cx_37 (by decide) ⟨⟨rfl, rfl, rfl⟩, hg1.mo (by simp), hf1, hb1.mo (by simp), fun j _ => by rw [hg1 96 (by decide)], Or.inl ⟨rfl, by rw [show [c].filter (fun _ => Pb) = [] by rw [Bool.eq_false_iff.mpr c15]; rfl]; exact fun w h_ => hmw w h_, by rw [show [c].filter (fun _ => Pb) = [] by rw [Bool.eq_false_iff.mpr c15]; rfl]; exact h1, ⟨fun q hq => by rw [hb1 98 (by decide)]; exact hLi.1 q hq, fun q hq => by rw [hb1 98 (by decide)]; exact hLi.2.1 q hq, fun q h_ hq => by rw [hb1 105 (by decide)]; exact hLi.2.2 q h_ hq⟩⟩⟩
theorem nI_all (x : Int32) : ∃ k : Nat, x = nI k := ⟨x.toUInt32.toNat, by
  show x = Int32.ofNat x.toUInt32.toNat
  apply Int32.toBitVec_inj.mp
  apply BitVec.eq_of_toNat_eq
  simp [Int32.ofNat]⟩
theorem pl_bd {n : Nat} {T : Nat → Option Nat} {f k : Nat} {c : Nat → Nat} {P : (Nat → Nat) → Bool} {v m : Nat} (h : m + (flL n T (f + 1) k c).length ≤ 100000) (hv : v < n) : m + ((flV n T f k c v).filter P).length + (flX n T f k c v).length ≤ 100000 := by
  have h1 := flv_le (n := n) (T := T) (f := f) (k := k) (c := c) (show v + 1 ≤ n from hv)
  rw [flV_s, List.length_append] at h1
  have h2 := fl_fi (n := n) (T := T) (f := f) (k := k) (c := c) (P := P) (v := v) (m := m)
  rw [flL_s] at h
  omega
theorem pl_ap {n : Nat} {T : Nat → Option Nat} {f k : Nat} {c : Nat → Nat} {P : (Nat → Nat) → Bool} {v : Nat} (hv : v < n) : ∃ r, (flL n T (f + 1) k c).filter P = (flV n T f k c v).filter P ++ ((flX n T f k c v).filter P ++ r) := by
  obtain ⟨r, e⟩ := flV_pre (n := n) (T := T) (f := f) (k := k) (c := c) (show v + 1 ≤ n from hv)
  exact ⟨r.filter P, by rw [flL_s, e, flV_s, List.filter_append, List.filter_append, List.append_assoc]⟩
theorem pl_lt {n : Nat} {T : Nat → Option Nat} {f k : Nat} {c : Nat → Nat} {P : (Nat → Nat) → Bool} {v m w : Nat} (hv : v < n) (h1 : m + ((flV n T f k c v).filter P).length ≤ w) (h2 : w < m + ((flV n T f k c v).filter P).length + ((flX n T f k c v).filter P).length) : w < m + ((flL n T (f + 1) k c).filter P).length := by
  obtain ⟨r, e⟩ := pl_ap (n := n) (T := T) (f := f) (k := k) (c := c) (P := P) hv
  rw [e, List.length_append, List.length_append]
  omega
theorem pl_at {n : Nat} {T : Nat → Option Nat} {f k : Nat} {c : Nat → Nat} {P : (Nat → Nat) → Bool} {v m w : Nat} (hv : v < n) (h1 : m + ((flV n T f k c v).filter P).length ≤ w) (h2 : w < m + ((flV n T f k c v).filter P).length + ((flX n T f k c v).filter P).length) : ((flL n T (f + 1) k c).filter P).getD (w - m) (fun _ => 0) = ((flX n T f k c v).filter P).getD (w - (m + ((flV n T f k c v).filter P).length)) (fun _ => 0) := by
  obtain ⟨r, e⟩ := pl_ap (n := n) (T := T) (f := f) (k := k) (c := c) (P := P) hv
  rw [e, List.getD_eq_getElem?_getD, List.getD_eq_getElem?_getD, List.getElem?_append_right (by omega), List.getElem?_append_left (by omega), show w - m - ((flV n T f k c v).filter P).length = w - (m + ((flV n T f k c v).filter P).length) by omega]
theorem k_pl_E {S : CS} {G : Nat → Nat → Value} {B : Nat → Nat → Int32} {J : Nat → Nat → Int64} {R : Nat → Nat → Option Nat} {wt : Option Nat} {m n : Nat} (hS : ShOk S) (hF : FxG G) (hn6 : n ≤ 6) (hn : 0 < n) (hwt : ∀ u, wt = some u → u < 2 ^ 31) (hn97 : G 97 0 = .int (nI n)) (h7 : G 96 7 = .int (stI wt)) (h1 : G 96 1 = .int (nI m)) (hmw : ∀ w, wt = some w → m ≤ w) {x y f K : Nat} {T : Nat → Option Nat} {c : Nat → Nat} {P : (Nat → Nat) → Bool} (hx : x < n) (hy : y < n) (hy1 : 1 ≤ y) (hye : y + 1 = n) (hl : PLat n c (n * x + y)) (htd : ∀ v, tdB T (n * x + y) v = true) (hLi : LiB n (n * x + y) c B) (hL : m + (flL n T (f + 1) (n * x + y) c).length ≤ 100000) (hI : ∀ v, v < n → frB n c (n * x + y) v = true → tdB T (n * x + y) v = true → ∀ G1 B1, Gfr [96, 99] G G1 → FxG G1 → Bfr [98, 101, 102, 103, 104, 105] B B1 → (∀ j, j ≠ 1 → G1 96 j = G 96 j) → LiB n (n * x + y + 1) (upN c (n * x + y) v) B1 → (∀ w, wt = some w → m + ((flV n T f (n * x + y) c v).filter P).length ≤ w) → G1 96 1 = .int (nI (m + ((flV n T f (n * x + y) c v).filter P).length)) → m + ((flV n T f (n * x + y) c v).filter P).length + (flX n T f (n * x + y) c v).length ≤ 100000 → CR K 37 0 [some (.ref 96), some (.int (nI (x + 1))), some (.int (nI 1)), some (.int (nI (1 * 2 ^ (x + 1)))), none, none, none, none, none] [] S G1 B1 J R (PlQ wt (m + ((flV n T f (n * x + y) c v).filter P).length) ((flX n T f (n * x + y) c v).filter P) n (n * x + y + 1) (upN c (n * x + y) v) S G1 B1 J R)) : CR (K + 1) 37 0 [some (.ref 96), some (.int (nI x)), some (.int (nI y)), some (.int (nI (rwM n c (n * x + y) x))), none, none, none, none, none] [] S G B J R (PlQ wt m ((flL n T (f + 1) (n * x + y) c).filter P) n (n * x + y) c S G B J R) := by
  have hn4 : n * x + y < n * n := cu_lt hx hy
  have r64 : rwM n c (n * x + y) x < 64 := rw_64 hn6 hl.1
  have c64 : clM n c (n * x + y) y < 64 := cl_64 hn6 hl.1
  refine cr_nx (pc' := 1) (al' := [some (.ref 96), some (.int (nI x)), some (.int (nI y)), some (.int (nI (rwM n c (n * x + y) x))), none, none, none, none, none]) (st' := [.int (nI x)]) d_37_0 (fun _ => rfl) ?_
  refine cr_nx (pc' := 2) (al' := [some (.ref 96), some (.int (nI x)), some (.int (nI y)), some (.int (nI (rwM n c (n * x + y) x))), none, none, none, none, none]) (st' := [.ref 96, .int (nI x)]) d_37_1 (fun _ => rfl) ?_
  refine cr_gf (v := .ref 97) d_37_2 cw_37 cf_5_12 (hS.i (a := 96) (by decide) (by decide)) (hS.s (a := 96) (by decide) (by decide) rfl) (by decide) (fx_96_0 hF) ?_
  refine cr_gf (v := .int (nI n)) d_37_5 cw_37 cf_5_48 (hS.i (a := 97) (by decide) (by decide)) (hS.s (a := 97) (by decide) (by decide) rfl) (by decide) hn97 ?_
  refine cn_clt (t := 49) d_37_8 (by decide) (by omega) (by omega) (fun c8 => ?_) (fun c8 => ?_)
  · refine cr_nx (pc' := 50) (al' := [some (.ref 96), some (.int (nI x)), some (.int (nI y)), some (.int (nI (rwM n c (n * x + y) x))), none, none, none, none, none]) (st' := [.int (nI (rwM n c (n * x + y) x))]) d_37_49 (fun _ => rfl) ?_
    refine cr_nx (pc' := 51) (al' := [some (.ref 96), some (.int (nI x)), some (.int (nI y)), some (.int (nI (rwM n c (n * x + y) x))), none, none, none, none, none]) (st' := [.ref 96, .int (nI (rwM n c (n * x + y) x))]) d_37_50 (fun _ => rfl) ?_
    refine cr_gf (v := .ref 105) d_37_51 cw_37 cf_5_25 (hS.i (a := 96) (by decide) (by decide)) (hS.s (a := 96) (by decide) (by decide) rfl) (by decide) (fx_96_3 hF) ?_
    refine cr_nx (pc' := 55) (al' := [some (.ref 96), some (.int (nI x)), some (.int (nI y)), some (.int (nI (rwM n c (n * x + y) x))), none, none, none, none, none]) (st' := [.int (nI y), .ref 105, .int (nI (rwM n c (n * x + y) x))]) d_37_54 (fun _ => rfl) ?_
    refine cr_ia (a := 105) (v := (nI (clM n c (n * x + y) y))) d_37_55 (hS.i (a := 105) (by decide) (by decide)) (hS.s (a := 105) (by decide) (by decide) rfl) (by first | decide | omega) (show y < 6 by first | omega | assumption | exact cu_36 (by omega) (cu_lt (by omega) (by omega))) (hLi.2.2 y hy1 hy) ?_
    refine cn_or d_37_56 ?_
    refine cr_nx (pc' := 59) (al' := [some (.ref 96), some (.int (nI x)), some (.int (nI y)), some (.int (nI (rwM n c (n * x + y) x))), some (.int (nI ((rwM n c (n * x + y) x) ||| (clM n c (n * x + y) y)))), none, none, none, none]) (st' := []) d_37_57 (fun _ => rfl) ?_
    refine cr_nx (pc' := 60) (al' := [some (.ref 96), some (.int (nI x)), some (.int (nI y)), some (.int (nI (rwM n c (n * x + y) x))), some (.int (nI ((rwM n c (n * x + y) x) ||| (clM n c (n * x + y) y)))), none, none, none, none]) (st' := [.int (nI y)]) d_37_59 (fun _ => rfl) ?_
    refine cr_nx (pc' := 61) (al' := [some (.ref 96), some (.int (nI x)), some (.int (nI y)), some (.int (nI (rwM n c (n * x + y) x))), some (.int (nI ((rwM n c (n * x + y) x) ||| (clM n c (n * x + y) y)))), none, none, none, none]) (st' := [.ref 96, .int (nI y)]) d_37_60 (fun _ => rfl) ?_
    refine cr_gf (v := .ref 97) d_37_61 cw_37 cf_5_12 (hS.i (a := 96) (by decide) (by decide)) (hS.s (a := 96) (by decide) (by decide) rfl) (by decide) (fx_96_0 hF) ?_
    refine cr_gf (v := .int (nI n)) d_37_64 cw_37 cf_5_48 (hS.i (a := 97) (by decide) (by decide)) (hS.s (a := 97) (by decide) (by decide) rfl) (by decide) hn97 ?_
    refine cn_ic (v := 1) d_37_67 (by decide) ?_
    refine cn_sub d_37_68 (by omega) ?_
    refine cn_cne (t := 76) d_37_69 (by decide) (by omega) (by omega) (fun c69 => ?_) (fun c69 => ?_)
    · omega
    · refine cn_ic (v := 1) d_37_72 (by decide) ?_
      refine cr_nx (pc' := 77) (al' := [some (.ref 96), some (.int (nI x)), some (.int (nI y)), some (.int (nI (rwM n c (n * x + y) x))), some (.int (nI ((rwM n c (n * x + y) x) ||| (clM n c (n * x + y) y)))), none, none, none, none]) (st' := [.int (nI 1)]) d_37_73 (fun _ => rfl) ?_
      refine cr_nx (pc' := 79) (al' := [some (.ref 96), some (.int (nI x)), some (.int (nI y)), some (.int (nI (rwM n c (n * x + y) x))), some (.int (nI ((rwM n c (n * x + y) x) ||| (clM n c (n * x + y) y)))), some (.int (nI 1)), none, none, none]) (st' := []) d_37_77 (fun _ => rfl) ?_
      refine cn_ic (v := 0) d_37_79 (by decide) ?_
      refine cr_nx (pc' := 82) (al' := [some (.ref 96), some (.int (nI x)), some (.int (nI y)), some (.int (nI (rwM n c (n * x + y) x))), some (.int (nI ((rwM n c (n * x + y) x) ||| (clM n c (n * x + y) y)))), some (.int (nI 1)), some (.int (nI 0)), none, none]) (st' := []) d_37_80 (fun _ => rfl) ?_
      refine cr_upw (al := fun v w_ => [some (.ref 96), some (.int (nI x)), some (.int (nI y)), some (.int (nI (rwM n c (n * x + y) x))), some (.int (nI ((rwM n c (n * x + y) x) ||| (clM n c (n * x + y) y)))), some (.int (nI 1)), some (.int (nI v)), none, none]) (S := fun v w_ => S) (G := fun v w_ => w_.1) (B := fun v w_ => w_.2) (J := fun v w_ => J) (R := fun v w_ => R) (P := fun v w_ => Gfr [96, 99] G w_.1 ∧ FxG w_.1 ∧ Bfr [98, 101, 102, 103, 104, 105] B w_.2 ∧ (∀ j, j ≠ 1 → w_.1 96 j = G 96 j) ∧ (∀ w, wt = some w → m + ((flV n T f (n * x + y) c v).filter P).length ≤ w) ∧ w_.1 96 1 = .int (nI (m + ((flV n T f (n * x + y) c v).filter P).length)) ∧ LiB n (n * x + y) c w_.2) (n := n) (fun v w_ hv pv ihv => ?_) (fun w_ pv => ?_) 0 (G, B) (by omega) (⟨Gfr.rf, hF, Bfr.rf, fun _ _ => rfl, fun w h_ => by rw [flV_0]; exact hmw w h_, by rw [flV_0]; exact h1, hLi⟩)
      · show CR _ _ 82 [some (.ref 96), some (.int (nI x)), some (.int (nI y)), some (.int (nI (rwM n c (n * x + y) x))), some (.int (nI ((rwM n c (n * x + y) x) ||| (clM n c (n * x + y) y)))), some (.int (nI 1)), some (.int (nI v)), none, none] [] S w_.1 w_.2 J R _
        have hn97 : w_.1 97 0 = .int (nI n) := by rw [pv.1 97 (by decide)]; exact hn97
        refine cr_nx (pc' := 84) (al' := [some (.ref 96), some (.int (nI x)), some (.int (nI y)), some (.int (nI (rwM n c (n * x + y) x))), some (.int (nI ((rwM n c (n * x + y) x) ||| (clM n c (n * x + y) y)))), some (.int (nI 1)), some (.int (nI v)), none, none]) (st' := [.int (nI v)]) d_37_82 (fun _ => rfl) ?_
        refine cr_nx (pc' := 85) (al' := [some (.ref 96), some (.int (nI x)), some (.int (nI y)), some (.int (nI (rwM n c (n * x + y) x))), some (.int (nI ((rwM n c (n * x + y) x) ||| (clM n c (n * x + y) y)))), some (.int (nI 1)), some (.int (nI v)), none, none]) (st' := [.ref 96, .int (nI v)]) d_37_84 (fun _ => rfl) ?_
        refine cr_gf (v := .ref 97) d_37_85 cw_37 cf_5_12 (hS.i (a := 96) (by decide) (by decide)) (hS.s (a := 96) (by decide) (by decide) rfl) (by decide) (fx_96_0 pv.2.1) ?_
        refine cr_gf (v := .int (nI n)) d_37_88 cw_37 cf_5_48 (hS.i (a := 97) (by decide) (by decide)) (hS.s (a := 97) (by decide) (by decide) rfl) (by decide) hn97 ?_
        refine cn_cge (t := 194) d_37_91 (by decide) (by first | omega | assumption | exact cu_36 (by omega) (cu_lt (by omega) (by omega))) (by first | omega | assumption | exact cu_36 (by omega) (cu_lt (by omega) (by omega))) (fun c91 => ?_) (fun c91 => ?_)
        · omega
        · refine cn_ic (v := 1) d_37_94 (by decide) ?_
          refine cr_nx (pc' := 97) (al' := [some (.ref 96), some (.int (nI x)), some (.int (nI y)), some (.int (nI (rwM n c (n * x + y) x))), some (.int (nI ((rwM n c (n * x + y) x) ||| (clM n c (n * x + y) y)))), some (.int (nI 1)), some (.int (nI v)), none, none]) (st' := [.int (nI v), .int (nI 1)]) d_37_95 (fun _ => rfl) ?_
          refine cn_shl d_37_97 (by omega) ?_
          refine cr_nx (pc' := 100) (al' := [some (.ref 96), some (.int (nI x)), some (.int (nI y)), some (.int (nI (rwM n c (n * x + y) x))), some (.int (nI ((rwM n c (n * x + y) x) ||| (clM n c (n * x + y) y)))), some (.int (nI 1)), some (.int (nI v)), some (.int (nI (1 * 2 ^ v))), none]) (st' := []) d_37_98 (fun _ => rfl) ?_
          refine cr_nx (pc' := 102) (al' := [some (.ref 96), some (.int (nI x)), some (.int (nI y)), some (.int (nI (rwM n c (n * x + y) x))), some (.int (nI ((rwM n c (n * x + y) x) ||| (clM n c (n * x + y) y)))), some (.int (nI 1)), some (.int (nI v)), some (.int (nI (1 * 2 ^ v))), none]) (st' := [.int (nI ((rwM n c (n * x + y) x) ||| (clM n c (n * x + y) y)))]) d_37_100 (fun _ => rfl) ?_
          refine cr_nx (pc' := 104) (al' := [some (.ref 96), some (.int (nI x)), some (.int (nI y)), some (.int (nI (rwM n c (n * x + y) x))), some (.int (nI ((rwM n c (n * x + y) x) ||| (clM n c (n * x + y) y)))), some (.int (nI 1)), some (.int (nI v)), some (.int (nI (1 * 2 ^ v))), none]) (st' := [.int (nI (1 * 2 ^ v)), .int (nI ((rwM n c (n * x + y) x) ||| (clM n c (n * x + y) y)))]) d_37_102 (fun _ => rfl) ?_
          refine cn_and d_37_104 ?_
          refine cn_ieq (t := 111) d_37_105 (by decide) (Nat.lt_of_le_of_lt Nat.and_le_left (by have := or_64 r64 c64; omega)) (fun c105 => ?_) (fun c105 => ?_)
          · have hfr := (fr_xy hy).mp c105
            have hbd : m + ((flV n T f (n * x + y) c v).filter P).length + (flX n T f (n * x + y) c v).length ≤ 100000 := pl_bd hL hv
            refine cr_nx (pc' := 112) (al' := [some (.ref 96), some (.int (nI x)), some (.int (nI y)), some (.int (nI (rwM n c (n * x + y) x))), some (.int (nI ((rwM n c (n * x + y) x) ||| (clM n c (n * x + y) y)))), some (.int (nI 1)), some (.int (nI v)), some (.int (nI (1 * 2 ^ v))), none]) (st' := [.ref 96]) d_37_111 (fun _ => rfl) ?_
            refine cr_gf (v := .ref 97) d_37_112 cw_37 cf_5_12 (hS.i (a := 96) (by decide) (by decide)) (hS.s (a := 96) (by decide) (by decide) rfl) (by decide) (fx_96_0 pv.2.1) ?_
            refine cr_nx (pc' := 116) (al' := [some (.ref 96), some (.int (nI x)), some (.int (nI y)), some (.int (nI (rwM n c (n * x + y) x))), some (.int (nI ((rwM n c (n * x + y) x) ||| (clM n c (n * x + y) y)))), some (.int (nI 1)), some (.int (nI v)), some (.int (nI (1 * 2 ^ v))), none]) (st' := [.int (nI x), .ref 97]) d_37_115 (fun _ => rfl) ?_
            refine cr_nx (pc' := 117) (al' := [some (.ref 96), some (.int (nI x)), some (.int (nI y)), some (.int (nI (rwM n c (n * x + y) x))), some (.int (nI ((rwM n c (n * x + y) x) ||| (clM n c (n * x + y) y)))), some (.int (nI 1)), some (.int (nI v)), some (.int (nI (1 * 2 ^ v))), none]) (st' := [.int (nI y), .int (nI x), .ref 97]) d_37_116 (fun _ => rfl) ?_
            refine cr_nx (pc' := 119) (al' := [some (.ref 96), some (.int (nI x)), some (.int (nI y)), some (.int (nI (rwM n c (n * x + y) x))), some (.int (nI ((rwM n c (n * x + y) x) ||| (clM n c (n * x + y) y)))), some (.int (nI 1)), some (.int (nI v)), some (.int (nI (1 * 2 ^ v))), none]) (st' := [.int (nI v), .int (nI y), .int (nI x), .ref 97]) d_37_117 (fun _ => rfl) ?_
            refine cr_pv (b := 97) (as := [.int (nI x), .int (nI y), .int (nI v)]) (al0 := [some (.ref 97), some (.int (nI x)), some (.int (nI y)), some (.int (nI v))]) (r := []) d_37_119 cw_37 cm_5_51 cz_95 rfl rfl (hS.i (a := 97) (by decide) (by decide)) (by rw [cw_95]; exact (hS.s (a := 97) (by decide) (by decide) rfl)) (by rw [cw_95]; decide) rfl (Nat.zero_le _) (k_put (tb_97 hS pv.2.1) hn97 (nI v) (cu_36 hn6 (cu_lt hx hy))) ?_
            show CR _ _ 122 [some (.ref 96), some (.int (nI x)), some (.int (nI y)), some (.int (nI (rwM n c (n * x + y) x))), some (.int (nI ((rwM n c (n * x + y) x) ||| (clM n c (n * x + y) y)))), some (.int (nI 1)), some (.int (nI v)), some (.int (nI (1 * 2 ^ v))), none] [] S w_.1 (upr w_.2 98 (upd (w_.2 98) (n * x + y) (nI v))) J R _
            refine cr_nx (pc' := 123) (al' := [some (.ref 96), some (.int (nI x)), some (.int (nI y)), some (.int (nI (rwM n c (n * x + y) x))), some (.int (nI ((rwM n c (n * x + y) x) ||| (clM n c (n * x + y) y)))), some (.int (nI 1)), some (.int (nI v)), some (.int (nI (1 * 2 ^ v))), none]) (st' := [.ref 96]) d_37_122 (fun _ => rfl) ?_
            refine cr_gf (v := .ref 105) d_37_123 cw_37 cf_5_25 (hS.i (a := 96) (by decide) (by decide)) (hS.s (a := 96) (by decide) (by decide) rfl) (by decide) (fx_96_3 pv.2.1) ?_
            refine cr_nx (pc' := 127) (al' := [some (.ref 96), some (.int (nI x)), some (.int (nI y)), some (.int (nI (rwM n c (n * x + y) x))), some (.int (nI ((rwM n c (n * x + y) x) ||| (clM n c (n * x + y) y)))), some (.int (nI 1)), some (.int (nI v)), some (.int (nI (1 * 2 ^ v))), none]) (st' := [.int (nI y), .ref 105]) d_37_126 (fun _ => rfl) ?_
            refine cr_nx (pc' := 128) (al' := [some (.ref 96), some (.int (nI x)), some (.int (nI y)), some (.int (nI (rwM n c (n * x + y) x))), some (.int (nI ((rwM n c (n * x + y) x) ||| (clM n c (n * x + y) y)))), some (.int (nI 1)), some (.int (nI v)), some (.int (nI (1 * 2 ^ v))), none]) (st' := [.int (nI y), .ref 105, .int (nI y), .ref 105]) d_37_127 (fun _ => rfl) ?_
            refine cr_ia (a := 105) (v := (nI (clM n c (n * x + y) y))) d_37_128 (hS.i (a := 105) (by decide) (by decide)) (hS.s (a := 105) (by decide) (by decide) rfl) (by first | decide | omega) (show y < 6 by first | omega | assumption | exact cu_36 (by omega) (cu_lt (by omega) (by omega))) ((congrFun (by rw [upr_n (show (105 : Nat) ≠ 98 by decide)] : (upr w_.2 98 (upd (w_.2 98) (n * x + y) (nI v))) 105 = w_.2 105) _).trans (pv.2.2.2.2.2.2.2.2 y hy1 hy)) ?_
            refine cr_nx (pc' := 131) (al' := [some (.ref 96), some (.int (nI x)), some (.int (nI y)), some (.int (nI (rwM n c (n * x + y) x))), some (.int (nI ((rwM n c (n * x + y) x) ||| (clM n c (n * x + y) y)))), some (.int (nI 1)), some (.int (nI v)), some (.int (nI (1 * 2 ^ v))), none]) (st' := [.int (nI (1 * 2 ^ v)), .int (nI (clM n c (n * x + y) y)), .int (nI y), .ref 105]) d_37_129 (fun _ => rfl) ?_
            refine cn_or d_37_131 ?_
            refine cr_iS (a := 105) (B1 := (upr (upr w_.2 98 (upd (w_.2 98) (n * x + y) (nI v))) 105 (upd (w_.2 105) y (nI ((clM n c (n * x + y) y) ||| (1 * 2 ^ v)))))) d_37_132 (hS.i (a := 105) (by decide) (by decide)) (hS.s (a := 105) (by decide) (by decide) rfl) (by first | decide | omega) (show y < 6 by first | omega | assumption | exact cu_36 (by omega) (cu_lt (by omega) (by omega))) (by rw [show (upr w_.2 98 (upd (w_.2 98) (n * x + y) (nI v))) 105 = w_.2 105 from by rw [upr_n (show (105 : Nat) ≠ 98 by decide)]]) ?_
            refine cr_nx (pc' := 135) (al' := [some (.ref 96), some (.int (nI x)), some (.int (nI y)), some (.int (nI (rwM n c (n * x + y) x))), some (.int (nI ((rwM n c (n * x + y) x) ||| (clM n c (n * x + y) y)))), some (.int (nI 1)), some (.int (nI v)), some (.int (nI (1 * 2 ^ v))), none]) (st' := [.int (nI 1)]) d_37_133 (fun _ => rfl) ?_
            refine cn_ieq (t := 154) d_37_135 (by decide) (by first | omega | assumption | exact cu_36 (by omega) (cu_lt (by omega) (by omega))) (fun c135 => ?_) (fun c135 => ?_)
            · omega
            · refine cr_nx (pc' := 139) (al' := [some (.ref 96), some (.int (nI x)), some (.int (nI y)), some (.int (nI (rwM n c (n * x + y) x))), some (.int (nI ((rwM n c (n * x + y) x) ||| (clM n c (n * x + y) y)))), some (.int (nI 1)), some (.int (nI v)), some (.int (nI (1 * 2 ^ v))), none]) (st' := [.ref 96]) d_37_138 (fun _ => rfl) ?_
              refine cr_nx (pc' := 140) (al' := [some (.ref 96), some (.int (nI x)), some (.int (nI y)), some (.int (nI (rwM n c (n * x + y) x))), some (.int (nI ((rwM n c (n * x + y) x) ||| (clM n c (n * x + y) y)))), some (.int (nI 1)), some (.int (nI v)), some (.int (nI (1 * 2 ^ v))), none]) (st' := [.int (nI x), .ref 96]) d_37_139 (fun _ => rfl) ?_
              refine cn_ic (v := 1) d_37_140 (by decide) ?_
              refine cn_add d_37_141  ?_
              refine cn_ic (v := 1) d_37_142 (by decide) ?_
              refine cn_ic (v := 1) d_37_143 (by decide) ?_
              refine cr_nx (pc' := 145) (al' := [some (.ref 96), some (.int (nI x)), some (.int (nI y)), some (.int (nI (rwM n c (n * x + y) x))), some (.int (nI ((rwM n c (n * x + y) x) ||| (clM n c (n * x + y) y)))), some (.int (nI 1)), some (.int (nI v)), some (.int (nI (1 * 2 ^ v))), none]) (st' := [.int (nI x), .int (nI 1), .int (nI 1), .int (nI (x + 1)), .ref 96]) d_37_144 (fun _ => rfl) ?_
              refine cn_ic (v := 1) d_37_145 (by decide) ?_
              refine cn_add d_37_146  ?_
              refine cn_shl d_37_147 (by omega) ?_
              refine cr_cv (b := 96) (as := [.int (nI (x + 1)), .int (nI 1), .int (nI (1 * 2 ^ (x + 1)))]) (al0 := [some (.ref 96), some (.int (nI (x + 1))), some (.int (nI 1)), some (.int (nI (1 * 2 ^ (x + 1)))), none, none, none, none, none]) (r := []) d_37_148 cw_37 cm_5_55 cz_37 rfl rfl (hS.i (a := 96) (by decide) (by decide)) (by rw [cw_37]; exact (hS.s (a := 96) (by decide) (by decide) rfl)) (by rw [cw_37]; decide) rfl (cr_wk (Nat.le_refl _) (hI v hv hfr (htd v) w_.1 _ pv.1 pv.2.1 ((pv.2.2.1.u (by simp)).u (by simp)) pv.2.2.2.1 (pv.2.2.2.2.2.2.put hx hy hy1) pv.2.2.2.2.1 pv.2.2.2.2.2.1 hbd)) (fun v1 S1 G1 B1 J1 R1 h1 => ?_)
              obtain ⟨⟨q1_, q2_, q3_⟩, hg1, hf1, hb1, hj1, hor⟩ := h1
              obtain rfl := q1_.symm
              obtain rfl := q2_.symm
              obtain rfl := q3_.symm
              obtain ⟨z, hz, hor2⟩ : ∃ z, v1 = some (.int (nI z)) ∧ ((z = 0 ∧ (∀ w, wt = some w → m + ((flV n T f (n * x + y) c v).filter P).length + ((flX n T f (n * x + y) c v).filter P).length ≤ w) ∧ G1 96 1 = .int (nI (m + ((flV n T f (n * x + y) c v).filter P).length + ((flX n T f (n * x + y) c v).filter P).length)) ∧ LiB n (n * x + y + 1) (upN c (n * x + y) v) B1) ∨ (z = 1 ∧ ∃ w, wt = some w ∧ m + ((flV n T f (n * x + y) c v).filter P).length ≤ w ∧ w < m + ((flV n T f (n * x + y) c v).filter P).length + ((flX n T f (n * x + y) c v).filter P).length ∧ ∀ q, q < n * n → B1 98 q = nI ((((flX n T f (n * x + y) c v).filter P).getD (w - (m + ((flV n T f (n * x + y) c v).filter P).length)) (fun _ => 0)) q))) := hor.elim (fun h_ => ⟨0, h_.1, Or.inl ⟨rfl, h_.2⟩⟩) (fun h_ => ⟨1, h_.1, Or.inr ⟨rfl, h_.2⟩⟩)
              clear hor
              obtain rfl := hz
              have hz1 : z ≤ 1 := by rcases hor2 with h_ | h_ <;> omega
              show CR _ _ 151 [some (.ref 96), some (.int (nI x)), some (.int (nI y)), some (.int (nI (rwM n c (n * x + y) x))), some (.int (nI ((rwM n c (n * x + y) x) ||| (clM n c (n * x + y) y)))), some (.int (nI 1)), some (.int (nI v)), some (.int (nI (1 * 2 ^ v))), none] [.int (nI z)] S G1 B1 J R _
              refine cr_nx (pc' := 166) (al' := [some (.ref 96), some (.int (nI x)), some (.int (nI y)), some (.int (nI (rwM n c (n * x + y) x))), some (.int (nI ((rwM n c (n * x + y) x) ||| (clM n c (n * x + y) y)))), some (.int (nI 1)), some (.int (nI v)), some (.int (nI (1 * 2 ^ v))), none]) (st' := [.int (nI z)]) d_37_151 (fun _ => rfl) ?_
              refine cr_nx (pc' := 168) (al' := [some (.ref 96), some (.int (nI x)), some (.int (nI y)), some (.int (nI (rwM n c (n * x + y) x))), some (.int (nI ((rwM n c (n * x + y) x) ||| (clM n c (n * x + y) y)))), some (.int (nI 1)), some (.int (nI v)), some (.int (nI (1 * 2 ^ v))), some (.int (nI z))]) (st' := []) d_37_166 (fun _ => rfl) ?_
              obtain ⟨cz, hcz, hcz2⟩ : ∃ cz, B1 105 y = nI cz ∧ (z = 0 → cz = clM n (upN c (n * x + y) v) (n * x + y + 1) y) := hor2.elim (fun h_ => ⟨clM n (upN c (n * x + y) v) (n * x + y + 1) y, h_.2.2.2.2.2 y hy1 hy, fun _ => rfl⟩) (fun h_ => by obtain ⟨cz, hcz⟩ := nI_all (B1 105 y); exact ⟨cz, hcz, fun e_ => absurd (e_.symm.trans h_.1) (by decide)⟩)
              refine cr_nx (pc' := 169) (al' := [some (.ref 96), some (.int (nI x)), some (.int (nI y)), some (.int (nI (rwM n c (n * x + y) x))), some (.int (nI ((rwM n c (n * x + y) x) ||| (clM n c (n * x + y) y)))), some (.int (nI 1)), some (.int (nI v)), some (.int (nI (1 * 2 ^ v))), some (.int (nI z))]) (st' := [.ref 96]) d_37_168 (fun _ => rfl) ?_
              refine cr_gf (v := .ref 105) d_37_169 cw_37 cf_5_25 (hS.i (a := 96) (by decide) (by decide)) (hS.s (a := 96) (by decide) (by decide) rfl) (by decide) (fx_96_3 hf1) ?_
              refine cr_nx (pc' := 173) (al' := [some (.ref 96), some (.int (nI x)), some (.int (nI y)), some (.int (nI (rwM n c (n * x + y) x))), some (.int (nI ((rwM n c (n * x + y) x) ||| (clM n c (n * x + y) y)))), some (.int (nI 1)), some (.int (nI v)), some (.int (nI (1 * 2 ^ v))), some (.int (nI z))]) (st' := [.int (nI y), .ref 105]) d_37_172 (fun _ => rfl) ?_
              refine cr_nx (pc' := 174) (al' := [some (.ref 96), some (.int (nI x)), some (.int (nI y)), some (.int (nI (rwM n c (n * x + y) x))), some (.int (nI ((rwM n c (n * x + y) x) ||| (clM n c (n * x + y) y)))), some (.int (nI 1)), some (.int (nI v)), some (.int (nI (1 * 2 ^ v))), some (.int (nI z))]) (st' := [.int (nI y), .ref 105, .int (nI y), .ref 105]) d_37_173 (fun _ => rfl) ?_
              refine cr_ia (a := 105) (v := (nI cz)) d_37_174 (hS.i (a := 105) (by decide) (by decide)) (hS.s (a := 105) (by decide) (by decide) rfl) (by first | decide | omega) (show y < 6 by first | omega | assumption | exact cu_36 (by omega) (cu_lt (by omega) (by omega))) hcz ?_
              refine cr_nx (pc' := 177) (al' := [some (.ref 96), some (.int (nI x)), some (.int (nI y)), some (.int (nI (rwM n c (n * x + y) x))), some (.int (nI ((rwM n c (n * x + y) x) ||| (clM n c (n * x + y) y)))), some (.int (nI 1)), some (.int (nI v)), some (.int (nI (1 * 2 ^ v))), some (.int (nI z))]) (st' := [.int (nI (1 * 2 ^ v)), .int (nI cz), .int (nI y), .ref 105]) d_37_175 (fun _ => rfl) ?_
              refine cr_nx (pc' := 178) (al' := [some (.ref 96), some (.int (nI x)), some (.int (nI y)), some (.int (nI (rwM n c (n * x + y) x))), some (.int (nI ((rwM n c (n * x + y) x) ||| (clM n c (n * x + y) y)))), some (.int (nI 1)), some (.int (nI v)), some (.int (nI (1 * 2 ^ v))), some (.int (nI z))]) (st' := [.int (-1), .int (nI (1 * 2 ^ v)), .int (nI cz), .int (nI y), .ref 105]) d_37_177 (fun _ => rfl) ?_
              refine cn_not d_37_178 ?_
              refine cn_and d_37_179 ?_
              refine cr_iS (a := 105) (B1 := (upr B1 105 (upd (B1 105) y (nI (cz &&& ((1 * 2 ^ v) ^^^ 4294967295)))))) d_37_180 (hS.i (a := 105) (by decide) (by decide)) (hS.s (a := 105) (by decide) (by decide) rfl) (by first | decide | omega) (show y < 6 by first | omega | assumption | exact cu_36 (by omega) (cu_lt (by omega) (by omega))) rfl ?_
              refine cr_nx (pc' := 183) (al' := [some (.ref 96), some (.int (nI x)), some (.int (nI y)), some (.int (nI (rwM n c (n * x + y) x))), some (.int (nI ((rwM n c (n * x + y) x) ||| (clM n c (n * x + y) y)))), some (.int (nI 1)), some (.int (nI v)), some (.int (nI (1 * 2 ^ v))), some (.int (nI z))]) (st' := [.int (nI z)]) d_37_181 (fun _ => rfl) ?_
              refine cn_ieq (t := 188) d_37_183 (by decide) (by omega) (fun c183 => ?_) (fun c183 => ?_)
              · have ho := hor2.elim (fun h_ => h_.2) (fun h_ => absurd (h_.1.symm.trans c183) (by decide))
                refine cn_inc d_37_188 rfl rfl ?_
                show CR _ _ 191 [some (.ref 96), some (.int (nI x)), some (.int (nI y)), some (.int (nI (rwM n c (n * x + y) x))), some (.int (nI ((rwM n c (n * x + y) x) ||| (clM n c (n * x + y) y)))), some (.int (nI 1)), some (.int (nI (v + 1))), some (.int (nI (1 * 2 ^ v))), some (.int (nI z))] [] S G1 (upr B1 105 (upd (B1 105) y (nI (cz &&& ((1 * 2 ^ v) ^^^ 4294967295))))) J R _
                refine cr_nx (pc' := 82) (al' := [some (.ref 96), some (.int (nI x)), some (.int (nI y)), some (.int (nI (rwM n c (n * x + y) x))), some (.int (nI ((rwM n c (n * x + y) x) ||| (clM n c (n * x + y) y)))), some (.int (nI 1)), some (.int (nI (v + 1))), some (.int (nI (1 * 2 ^ v))), some (.int (nI z))]) (st' := []) d_37_191 (fun _ => rfl) ?_
                refine cr_dr (al1 := [some (.ref 96), some (.int (nI x)), some (.int (nI y)), some (.int (nI (rwM n c (n * x + y) x))), some (.int (nI ((rwM n c (n * x + y) x) ||| (clM n c (n * x + y) y)))), some (.int (nI 1)), some (.int (nI (v + 1))), none, none]) (le_s (le_s (le_s (le_s (le_s (le_s (le_s (le_d rfl (le_d rfl (le_n)))))))))) ?_
                exact ihv (G1, (upr B1 105 (upd (B1 105) y (nI (cz &&& ((1 * 2 ^ v) ^^^ 4294967295)))))) (⟨pv.1.tr hg1, hf1, (((pv.2.2.1.u (by simp)).u (by simp)).tr hb1).u (by simp), fun j hj => (hj1 j hj).trans (pv.2.2.2.1 j hj), by rw [flV_s, List.filter_append, List.length_append, ← Nat.add_assoc]; exact ho.1, by rw [flV_s, List.filter_append, List.length_append, ← Nat.add_assoc]; exact ho.2.1, by dsimp only; rw [hcz2 c183]; exact ho.2.2.bk hn6 hx hy hv hl hfr⟩)
              · obtain ⟨w, ho1, ho2, ho3, ho4⟩ := hor2.elim (fun h_ => absurd h_.1 (by omega)) (fun h_ => h_.2)
                refine cn_ic (v := 1) d_37_186 (by decide) ?_
                exact cr_ri d_37_187 cx_37 (by decide) ⟨⟨rfl, rfl, rfl⟩, pv.1.tr hg1, hf1, (((pv.2.2.1.u (by simp)).u (by simp)).tr hb1).u (by simp), fun j hj => (hj1 j hj).trans (pv.2.2.2.1 j hj), Or.inr ⟨rfl, w, ho1, by omega, pl_lt hv ho2 ho3, fun q hq => by rw [upr_n (by decide), ho4 q hq, pl_at hv ho2 ho3]⟩⟩
          · refine cr_nx (pc' := 188) (al' := [some (.ref 96), some (.int (nI x)), some (.int (nI y)), some (.int (nI (rwM n c (n * x + y) x))), some (.int (nI ((rwM n c (n * x + y) x) ||| (clM n c (n * x + y) y)))), some (.int (nI 1)), some (.int (nI v)), some (.int (nI (1 * 2 ^ v))), none]) (st' := []) d_37_108 (fun _ => rfl) ?_
            refine cn_inc d_37_188 rfl rfl ?_
            show CR _ _ 191 [some (.ref 96), some (.int (nI x)), some (.int (nI y)), some (.int (nI (rwM n c (n * x + y) x))), some (.int (nI ((rwM n c (n * x + y) x) ||| (clM n c (n * x + y) y)))), some (.int (nI 1)), some (.int (nI (v + 1))), some (.int (nI (1 * 2 ^ v))), none] [] S w_.1 w_.2 J R _
            refine cr_nx (pc' := 82) (al' := [some (.ref 96), some (.int (nI x)), some (.int (nI y)), some (.int (nI (rwM n c (n * x + y) x))), some (.int (nI ((rwM n c (n * x + y) x) ||| (clM n c (n * x + y) y)))), some (.int (nI 1)), some (.int (nI (v + 1))), some (.int (nI (1 * 2 ^ v))), none]) (st' := []) d_37_191 (fun _ => rfl) ?_
            refine cr_dr (al1 := [some (.ref 96), some (.int (nI x)), some (.int (nI y)), some (.int (nI (rwM n c (n * x + y) x))), some (.int (nI ((rwM n c (n * x + y) x) ||| (clM n c (n * x + y) y)))), some (.int (nI 1)), some (.int (nI (v + 1))), none, none]) (le_s (le_s (le_s (le_s (le_s (le_s (le_s (le_d rfl (le_s (le_n)))))))))) ?_
            exact ihv w_ (⟨pv.1, pv.2.1, pv.2.2.1, pv.2.2.2.1, by rw [flV_s, flX_f (fun h_ => absurd (fr_xy (x := x) hy |>.mpr h_.2) (by omega)), List.append_nil]; exact pv.2.2.2.2.1, by rw [flV_s, flX_f (fun h_ => absurd (fr_xy (x := x) hy |>.mpr h_.2) (by omega)), List.append_nil]; exact pv.2.2.2.2.2.1, pv.2.2.2.2.2.2⟩)
      · show CR _ _ 82 [some (.ref 96), some (.int (nI x)), some (.int (nI y)), some (.int (nI (rwM n c (n * x + y) x))), some (.int (nI ((rwM n c (n * x + y) x) ||| (clM n c (n * x + y) y)))), some (.int (nI 1)), some (.int (nI n)), none, none] [] S w_.1 w_.2 J R _
        have hn97 : w_.1 97 0 = .int (nI n) := by rw [pv.1 97 (by decide)]; exact hn97
        refine cr_nx (pc' := 84) (al' := [some (.ref 96), some (.int (nI x)), some (.int (nI y)), some (.int (nI (rwM n c (n * x + y) x))), some (.int (nI ((rwM n c (n * x + y) x) ||| (clM n c (n * x + y) y)))), some (.int (nI 1)), some (.int (nI n)), none, none]) (st' := [.int (nI n)]) d_37_82 (fun _ => rfl) ?_
        refine cr_nx (pc' := 85) (al' := [some (.ref 96), some (.int (nI x)), some (.int (nI y)), some (.int (nI (rwM n c (n * x + y) x))), some (.int (nI ((rwM n c (n * x + y) x) ||| (clM n c (n * x + y) y)))), some (.int (nI 1)), some (.int (nI n)), none, none]) (st' := [.ref 96, .int (nI n)]) d_37_84 (fun _ => rfl) ?_
        refine cr_gf (v := .ref 97) d_37_85 cw_37 cf_5_12 (hS.i (a := 96) (by decide) (by decide)) (hS.s (a := 96) (by decide) (by decide) rfl) (by decide) (fx_96_0 pv.2.1) ?_
        refine cr_gf (v := .int (nI n)) d_37_88 cw_37 cf_5_48 (hS.i (a := 97) (by decide) (by decide)) (hS.s (a := 97) (by decide) (by decide) rfl) (by decide) hn97 ?_
        refine cn_cge (t := 194) d_37_91 (by decide) (by first | omega | assumption | exact cu_36 (by omega) (cu_lt (by omega) (by omega))) (by first | omega | assumption | exact cu_36 (by omega) (cu_lt (by omega) (by omega))) (fun c91 => ?_) (fun c91 => ?_)
        · refine cn_ic (v := 0) d_37_194 (by decide) ?_
          exact cr_ri d_37_195 cx_37 (by decide) ⟨⟨rfl, rfl, rfl⟩, pv.1, pv.2.1, pv.2.2.1, pv.2.2.2.1, Or.inl ⟨rfl, pv.2.2.2.2.1, pv.2.2.2.2.2.1, pv.2.2.2.2.2.2⟩⟩
        · omega
  · omega
theorem k_pl_I {S : CS} {G : Nat → Nat → Value} {B : Nat → Nat → Int32} {J : Nat → Nat → Int64} {R : Nat → Nat → Option Nat} {wt : Option Nat} {m n : Nat} (hS : ShOk S) (hF : FxG G) (hn6 : n ≤ 6) (hn : 0 < n) (hwt : ∀ u, wt = some u → u < 2 ^ 31) (hn97 : G 97 0 = .int (nI n)) (h7 : G 96 7 = .int (stI wt)) (h1 : G 96 1 = .int (nI m)) (hmw : ∀ w, wt = some w → m ≤ w) {x y f K : Nat} {T : Nat → Option Nat} {c : Nat → Nat} {P : (Nat → Nat) → Bool} (hx : x < n) (hy : y < n) (hy1 : 1 ≤ y) (hye : y + 1 < n) (hl : PLat n c (n * x + y)) (htd : ∀ v, tdB T (n * x + y) v = true) (hLi : LiB n (n * x + y) c B) (hL : m + (flL n T (f + 1) (n * x + y) c).length ≤ 100000) (hI : ∀ v, v < n → frB n c (n * x + y) v = true → tdB T (n * x + y) v = true → ∀ G1 B1, Gfr [96, 99] G G1 → FxG G1 → Bfr [98, 101, 102, 103, 104, 105] B B1 → (∀ j, j ≠ 1 → G1 96 j = G 96 j) → LiB n (n * x + y + 1) (upN c (n * x + y) v) B1 → (∀ w, wt = some w → m + ((flV n T f (n * x + y) c v).filter P).length ≤ w) → G1 96 1 = .int (nI (m + ((flV n T f (n * x + y) c v).filter P).length)) → m + ((flV n T f (n * x + y) c v).filter P).length + (flX n T f (n * x + y) c v).length ≤ 100000 → CR K 37 0 [some (.ref 96), some (.int (nI x)), some (.int (nI (y + 1))), some (.int (nI (rwM n c (n * x + y) x ||| 1 * 2 ^ v))), none, none, none, none, none] [] S G1 B1 J R (PlQ wt (m + ((flV n T f (n * x + y) c v).filter P).length) ((flX n T f (n * x + y) c v).filter P) n (n * x + y + 1) (upN c (n * x + y) v) S G1 B1 J R)) : CR (K + 1) 37 0 [some (.ref 96), some (.int (nI x)), some (.int (nI y)), some (.int (nI (rwM n c (n * x + y) x))), none, none, none, none, none] [] S G B J R (PlQ wt m ((flL n T (f + 1) (n * x + y) c).filter P) n (n * x + y) c S G B J R) := by
  have hn4 : n * x + y < n * n := cu_lt hx hy
  have r64 : rwM n c (n * x + y) x < 64 := rw_64 hn6 hl.1
  have c64 : clM n c (n * x + y) y < 64 := cl_64 hn6 hl.1
  refine cr_nx (pc' := 1) (al' := [some (.ref 96), some (.int (nI x)), some (.int (nI y)), some (.int (nI (rwM n c (n * x + y) x))), none, none, none, none, none]) (st' := [.int (nI x)]) d_37_0 (fun _ => rfl) ?_
  refine cr_nx (pc' := 2) (al' := [some (.ref 96), some (.int (nI x)), some (.int (nI y)), some (.int (nI (rwM n c (n * x + y) x))), none, none, none, none, none]) (st' := [.ref 96, .int (nI x)]) d_37_1 (fun _ => rfl) ?_
  refine cr_gf (v := .ref 97) d_37_2 cw_37 cf_5_12 (hS.i (a := 96) (by decide) (by decide)) (hS.s (a := 96) (by decide) (by decide) rfl) (by decide) (fx_96_0 hF) ?_
  refine cr_gf (v := .int (nI n)) d_37_5 cw_37 cf_5_48 (hS.i (a := 97) (by decide) (by decide)) (hS.s (a := 97) (by decide) (by decide) rfl) (by decide) hn97 ?_
  refine cn_clt (t := 49) d_37_8 (by decide) (by omega) (by omega) (fun c8 => ?_) (fun c8 => ?_)
  · refine cr_nx (pc' := 50) (al' := [some (.ref 96), some (.int (nI x)), some (.int (nI y)), some (.int (nI (rwM n c (n * x + y) x))), none, none, none, none, none]) (st' := [.int (nI (rwM n c (n * x + y) x))]) d_37_49 (fun _ => rfl) ?_
    refine cr_nx (pc' := 51) (al' := [some (.ref 96), some (.int (nI x)), some (.int (nI y)), some (.int (nI (rwM n c (n * x + y) x))), none, none, none, none, none]) (st' := [.ref 96, .int (nI (rwM n c (n * x + y) x))]) d_37_50 (fun _ => rfl) ?_
    refine cr_gf (v := .ref 105) d_37_51 cw_37 cf_5_25 (hS.i (a := 96) (by decide) (by decide)) (hS.s (a := 96) (by decide) (by decide) rfl) (by decide) (fx_96_3 hF) ?_
    refine cr_nx (pc' := 55) (al' := [some (.ref 96), some (.int (nI x)), some (.int (nI y)), some (.int (nI (rwM n c (n * x + y) x))), none, none, none, none, none]) (st' := [.int (nI y), .ref 105, .int (nI (rwM n c (n * x + y) x))]) d_37_54 (fun _ => rfl) ?_
    refine cr_ia (a := 105) (v := (nI (clM n c (n * x + y) y))) d_37_55 (hS.i (a := 105) (by decide) (by decide)) (hS.s (a := 105) (by decide) (by decide) rfl) (by first | decide | omega) (show y < 6 by first | omega | assumption | exact cu_36 (by omega) (cu_lt (by omega) (by omega))) (hLi.2.2 y hy1 hy) ?_
    refine cn_or d_37_56 ?_
    refine cr_nx (pc' := 59) (al' := [some (.ref 96), some (.int (nI x)), some (.int (nI y)), some (.int (nI (rwM n c (n * x + y) x))), some (.int (nI ((rwM n c (n * x + y) x) ||| (clM n c (n * x + y) y)))), none, none, none, none]) (st' := []) d_37_57 (fun _ => rfl) ?_
    refine cr_nx (pc' := 60) (al' := [some (.ref 96), some (.int (nI x)), some (.int (nI y)), some (.int (nI (rwM n c (n * x + y) x))), some (.int (nI ((rwM n c (n * x + y) x) ||| (clM n c (n * x + y) y)))), none, none, none, none]) (st' := [.int (nI y)]) d_37_59 (fun _ => rfl) ?_
    refine cr_nx (pc' := 61) (al' := [some (.ref 96), some (.int (nI x)), some (.int (nI y)), some (.int (nI (rwM n c (n * x + y) x))), some (.int (nI ((rwM n c (n * x + y) x) ||| (clM n c (n * x + y) y)))), none, none, none, none]) (st' := [.ref 96, .int (nI y)]) d_37_60 (fun _ => rfl) ?_
    refine cr_gf (v := .ref 97) d_37_61 cw_37 cf_5_12 (hS.i (a := 96) (by decide) (by decide)) (hS.s (a := 96) (by decide) (by decide) rfl) (by decide) (fx_96_0 hF) ?_
    refine cr_gf (v := .int (nI n)) d_37_64 cw_37 cf_5_48 (hS.i (a := 97) (by decide) (by decide)) (hS.s (a := 97) (by decide) (by decide) rfl) (by decide) hn97 ?_
    refine cn_ic (v := 1) d_37_67 (by decide) ?_
    refine cn_sub d_37_68 (by omega) ?_
    refine cn_cne (t := 76) d_37_69 (by decide) (by omega) (by omega) (fun c69 => ?_) (fun c69 => ?_)
    · refine cn_ic (v := 0) d_37_76 (by decide) ?_
      refine cr_nx (pc' := 79) (al' := [some (.ref 96), some (.int (nI x)), some (.int (nI y)), some (.int (nI (rwM n c (n * x + y) x))), some (.int (nI ((rwM n c (n * x + y) x) ||| (clM n c (n * x + y) y)))), some (.int (nI 0)), none, none, none]) (st' := []) d_37_77 (fun _ => rfl) ?_
      refine cn_ic (v := 0) d_37_79 (by decide) ?_
      refine cr_nx (pc' := 82) (al' := [some (.ref 96), some (.int (nI x)), some (.int (nI y)), some (.int (nI (rwM n c (n * x + y) x))), some (.int (nI ((rwM n c (n * x + y) x) ||| (clM n c (n * x + y) y)))), some (.int (nI 0)), some (.int (nI 0)), none, none]) (st' := []) d_37_80 (fun _ => rfl) ?_
      refine cr_upw (al := fun v w_ => [some (.ref 96), some (.int (nI x)), some (.int (nI y)), some (.int (nI (rwM n c (n * x + y) x))), some (.int (nI ((rwM n c (n * x + y) x) ||| (clM n c (n * x + y) y)))), some (.int (nI 0)), some (.int (nI v)), none, none]) (S := fun v w_ => S) (G := fun v w_ => w_.1) (B := fun v w_ => w_.2) (J := fun v w_ => J) (R := fun v w_ => R) (P := fun v w_ => Gfr [96, 99] G w_.1 ∧ FxG w_.1 ∧ Bfr [98, 101, 102, 103, 104, 105] B w_.2 ∧ (∀ j, j ≠ 1 → w_.1 96 j = G 96 j) ∧ (∀ w, wt = some w → m + ((flV n T f (n * x + y) c v).filter P).length ≤ w) ∧ w_.1 96 1 = .int (nI (m + ((flV n T f (n * x + y) c v).filter P).length)) ∧ LiB n (n * x + y) c w_.2) (n := n) (fun v w_ hv pv ihv => ?_) (fun w_ pv => ?_) 0 (G, B) (by omega) (⟨Gfr.rf, hF, Bfr.rf, fun _ _ => rfl, fun w h_ => by rw [flV_0]; exact hmw w h_, by rw [flV_0]; exact h1, hLi⟩)
      · show CR _ _ 82 [some (.ref 96), some (.int (nI x)), some (.int (nI y)), some (.int (nI (rwM n c (n * x + y) x))), some (.int (nI ((rwM n c (n * x + y) x) ||| (clM n c (n * x + y) y)))), some (.int (nI 0)), some (.int (nI v)), none, none] [] S w_.1 w_.2 J R _
        have hn97 : w_.1 97 0 = .int (nI n) := by rw [pv.1 97 (by decide)]; exact hn97
        refine cr_nx (pc' := 84) (al' := [some (.ref 96), some (.int (nI x)), some (.int (nI y)), some (.int (nI (rwM n c (n * x + y) x))), some (.int (nI ((rwM n c (n * x + y) x) ||| (clM n c (n * x + y) y)))), some (.int (nI 0)), some (.int (nI v)), none, none]) (st' := [.int (nI v)]) d_37_82 (fun _ => rfl) ?_
        refine cr_nx (pc' := 85) (al' := [some (.ref 96), some (.int (nI x)), some (.int (nI y)), some (.int (nI (rwM n c (n * x + y) x))), some (.int (nI ((rwM n c (n * x + y) x) ||| (clM n c (n * x + y) y)))), some (.int (nI 0)), some (.int (nI v)), none, none]) (st' := [.ref 96, .int (nI v)]) d_37_84 (fun _ => rfl) ?_
        refine cr_gf (v := .ref 97) d_37_85 cw_37 cf_5_12 (hS.i (a := 96) (by decide) (by decide)) (hS.s (a := 96) (by decide) (by decide) rfl) (by decide) (fx_96_0 pv.2.1) ?_
        refine cr_gf (v := .int (nI n)) d_37_88 cw_37 cf_5_48 (hS.i (a := 97) (by decide) (by decide)) (hS.s (a := 97) (by decide) (by decide) rfl) (by decide) hn97 ?_
        refine cn_cge (t := 194) d_37_91 (by decide) (by first | omega | assumption | exact cu_36 (by omega) (cu_lt (by omega) (by omega))) (by first | omega | assumption | exact cu_36 (by omega) (cu_lt (by omega) (by omega))) (fun c91 => ?_) (fun c91 => ?_)
        · omega
        · refine cn_ic (v := 1) d_37_94 (by decide) ?_
          refine cr_nx (pc' := 97) (al' := [some (.ref 96), some (.int (nI x)), some (.int (nI y)), some (.int (nI (rwM n c (n * x + y) x))), some (.int (nI ((rwM n c (n * x + y) x) ||| (clM n c (n * x + y) y)))), some (.int (nI 0)), some (.int (nI v)), none, none]) (st' := [.int (nI v), .int (nI 1)]) d_37_95 (fun _ => rfl) ?_
          refine cn_shl d_37_97 (by omega) ?_
          refine cr_nx (pc' := 100) (al' := [some (.ref 96), some (.int (nI x)), some (.int (nI y)), some (.int (nI (rwM n c (n * x + y) x))), some (.int (nI ((rwM n c (n * x + y) x) ||| (clM n c (n * x + y) y)))), some (.int (nI 0)), some (.int (nI v)), some (.int (nI (1 * 2 ^ v))), none]) (st' := []) d_37_98 (fun _ => rfl) ?_
          refine cr_nx (pc' := 102) (al' := [some (.ref 96), some (.int (nI x)), some (.int (nI y)), some (.int (nI (rwM n c (n * x + y) x))), some (.int (nI ((rwM n c (n * x + y) x) ||| (clM n c (n * x + y) y)))), some (.int (nI 0)), some (.int (nI v)), some (.int (nI (1 * 2 ^ v))), none]) (st' := [.int (nI ((rwM n c (n * x + y) x) ||| (clM n c (n * x + y) y)))]) d_37_100 (fun _ => rfl) ?_
          refine cr_nx (pc' := 104) (al' := [some (.ref 96), some (.int (nI x)), some (.int (nI y)), some (.int (nI (rwM n c (n * x + y) x))), some (.int (nI ((rwM n c (n * x + y) x) ||| (clM n c (n * x + y) y)))), some (.int (nI 0)), some (.int (nI v)), some (.int (nI (1 * 2 ^ v))), none]) (st' := [.int (nI (1 * 2 ^ v)), .int (nI ((rwM n c (n * x + y) x) ||| (clM n c (n * x + y) y)))]) d_37_102 (fun _ => rfl) ?_
          refine cn_and d_37_104 ?_
          refine cn_ieq (t := 111) d_37_105 (by decide) (Nat.lt_of_le_of_lt Nat.and_le_left (by have := or_64 r64 c64; omega)) (fun c105 => ?_) (fun c105 => ?_)
          · have hfr := (fr_xy hy).mp c105
            have hbd : m + ((flV n T f (n * x + y) c v).filter P).length + (flX n T f (n * x + y) c v).length ≤ 100000 := pl_bd hL hv
            refine cr_nx (pc' := 112) (al' := [some (.ref 96), some (.int (nI x)), some (.int (nI y)), some (.int (nI (rwM n c (n * x + y) x))), some (.int (nI ((rwM n c (n * x + y) x) ||| (clM n c (n * x + y) y)))), some (.int (nI 0)), some (.int (nI v)), some (.int (nI (1 * 2 ^ v))), none]) (st' := [.ref 96]) d_37_111 (fun _ => rfl) ?_
            refine cr_gf (v := .ref 97) d_37_112 cw_37 cf_5_12 (hS.i (a := 96) (by decide) (by decide)) (hS.s (a := 96) (by decide) (by decide) rfl) (by decide) (fx_96_0 pv.2.1) ?_
            refine cr_nx (pc' := 116) (al' := [some (.ref 96), some (.int (nI x)), some (.int (nI y)), some (.int (nI (rwM n c (n * x + y) x))), some (.int (nI ((rwM n c (n * x + y) x) ||| (clM n c (n * x + y) y)))), some (.int (nI 0)), some (.int (nI v)), some (.int (nI (1 * 2 ^ v))), none]) (st' := [.int (nI x), .ref 97]) d_37_115 (fun _ => rfl) ?_
            refine cr_nx (pc' := 117) (al' := [some (.ref 96), some (.int (nI x)), some (.int (nI y)), some (.int (nI (rwM n c (n * x + y) x))), some (.int (nI ((rwM n c (n * x + y) x) ||| (clM n c (n * x + y) y)))), some (.int (nI 0)), some (.int (nI v)), some (.int (nI (1 * 2 ^ v))), none]) (st' := [.int (nI y), .int (nI x), .ref 97]) d_37_116 (fun _ => rfl) ?_
            refine cr_nx (pc' := 119) (al' := [some (.ref 96), some (.int (nI x)), some (.int (nI y)), some (.int (nI (rwM n c (n * x + y) x))), some (.int (nI ((rwM n c (n * x + y) x) ||| (clM n c (n * x + y) y)))), some (.int (nI 0)), some (.int (nI v)), some (.int (nI (1 * 2 ^ v))), none]) (st' := [.int (nI v), .int (nI y), .int (nI x), .ref 97]) d_37_117 (fun _ => rfl) ?_
            refine cr_pv (b := 97) (as := [.int (nI x), .int (nI y), .int (nI v)]) (al0 := [some (.ref 97), some (.int (nI x)), some (.int (nI y)), some (.int (nI v))]) (r := []) d_37_119 cw_37 cm_5_51 cz_95 rfl rfl (hS.i (a := 97) (by decide) (by decide)) (by rw [cw_95]; exact (hS.s (a := 97) (by decide) (by decide) rfl)) (by rw [cw_95]; decide) rfl (Nat.zero_le _) (k_put (tb_97 hS pv.2.1) hn97 (nI v) (cu_36 hn6 (cu_lt hx hy))) ?_
            show CR _ _ 122 [some (.ref 96), some (.int (nI x)), some (.int (nI y)), some (.int (nI (rwM n c (n * x + y) x))), some (.int (nI ((rwM n c (n * x + y) x) ||| (clM n c (n * x + y) y)))), some (.int (nI 0)), some (.int (nI v)), some (.int (nI (1 * 2 ^ v))), none] [] S w_.1 (upr w_.2 98 (upd (w_.2 98) (n * x + y) (nI v))) J R _
            refine cr_nx (pc' := 123) (al' := [some (.ref 96), some (.int (nI x)), some (.int (nI y)), some (.int (nI (rwM n c (n * x + y) x))), some (.int (nI ((rwM n c (n * x + y) x) ||| (clM n c (n * x + y) y)))), some (.int (nI 0)), some (.int (nI v)), some (.int (nI (1 * 2 ^ v))), none]) (st' := [.ref 96]) d_37_122 (fun _ => rfl) ?_
            refine cr_gf (v := .ref 105) d_37_123 cw_37 cf_5_25 (hS.i (a := 96) (by decide) (by decide)) (hS.s (a := 96) (by decide) (by decide) rfl) (by decide) (fx_96_3 pv.2.1) ?_
            refine cr_nx (pc' := 127) (al' := [some (.ref 96), some (.int (nI x)), some (.int (nI y)), some (.int (nI (rwM n c (n * x + y) x))), some (.int (nI ((rwM n c (n * x + y) x) ||| (clM n c (n * x + y) y)))), some (.int (nI 0)), some (.int (nI v)), some (.int (nI (1 * 2 ^ v))), none]) (st' := [.int (nI y), .ref 105]) d_37_126 (fun _ => rfl) ?_
            refine cr_nx (pc' := 128) (al' := [some (.ref 96), some (.int (nI x)), some (.int (nI y)), some (.int (nI (rwM n c (n * x + y) x))), some (.int (nI ((rwM n c (n * x + y) x) ||| (clM n c (n * x + y) y)))), some (.int (nI 0)), some (.int (nI v)), some (.int (nI (1 * 2 ^ v))), none]) (st' := [.int (nI y), .ref 105, .int (nI y), .ref 105]) d_37_127 (fun _ => rfl) ?_
            refine cr_ia (a := 105) (v := (nI (clM n c (n * x + y) y))) d_37_128 (hS.i (a := 105) (by decide) (by decide)) (hS.s (a := 105) (by decide) (by decide) rfl) (by first | decide | omega) (show y < 6 by first | omega | assumption | exact cu_36 (by omega) (cu_lt (by omega) (by omega))) ((congrFun (by rw [upr_n (show (105 : Nat) ≠ 98 by decide)] : (upr w_.2 98 (upd (w_.2 98) (n * x + y) (nI v))) 105 = w_.2 105) _).trans (pv.2.2.2.2.2.2.2.2 y hy1 hy)) ?_
            refine cr_nx (pc' := 131) (al' := [some (.ref 96), some (.int (nI x)), some (.int (nI y)), some (.int (nI (rwM n c (n * x + y) x))), some (.int (nI ((rwM n c (n * x + y) x) ||| (clM n c (n * x + y) y)))), some (.int (nI 0)), some (.int (nI v)), some (.int (nI (1 * 2 ^ v))), none]) (st' := [.int (nI (1 * 2 ^ v)), .int (nI (clM n c (n * x + y) y)), .int (nI y), .ref 105]) d_37_129 (fun _ => rfl) ?_
            refine cn_or d_37_131 ?_
            refine cr_iS (a := 105) (B1 := (upr (upr w_.2 98 (upd (w_.2 98) (n * x + y) (nI v))) 105 (upd (w_.2 105) y (nI ((clM n c (n * x + y) y) ||| (1 * 2 ^ v)))))) d_37_132 (hS.i (a := 105) (by decide) (by decide)) (hS.s (a := 105) (by decide) (by decide) rfl) (by first | decide | omega) (show y < 6 by first | omega | assumption | exact cu_36 (by omega) (cu_lt (by omega) (by omega))) (by rw [show (upr w_.2 98 (upd (w_.2 98) (n * x + y) (nI v))) 105 = w_.2 105 from by rw [upr_n (show (105 : Nat) ≠ 98 by decide)]]) ?_
            refine cr_nx (pc' := 135) (al' := [some (.ref 96), some (.int (nI x)), some (.int (nI y)), some (.int (nI (rwM n c (n * x + y) x))), some (.int (nI ((rwM n c (n * x + y) x) ||| (clM n c (n * x + y) y)))), some (.int (nI 0)), some (.int (nI v)), some (.int (nI (1 * 2 ^ v))), none]) (st' := [.int (nI 0)]) d_37_133 (fun _ => rfl) ?_
            refine cn_ieq (t := 154) d_37_135 (by decide) (by first | omega | assumption | exact cu_36 (by omega) (cu_lt (by omega) (by omega))) (fun c135 => ?_) (fun c135 => ?_)
            · refine cr_nx (pc' := 155) (al' := [some (.ref 96), some (.int (nI x)), some (.int (nI y)), some (.int (nI (rwM n c (n * x + y) x))), some (.int (nI ((rwM n c (n * x + y) x) ||| (clM n c (n * x + y) y)))), some (.int (nI 0)), some (.int (nI v)), some (.int (nI (1 * 2 ^ v))), none]) (st' := [.ref 96]) d_37_154 (fun _ => rfl) ?_
              refine cr_nx (pc' := 156) (al' := [some (.ref 96), some (.int (nI x)), some (.int (nI y)), some (.int (nI (rwM n c (n * x + y) x))), some (.int (nI ((rwM n c (n * x + y) x) ||| (clM n c (n * x + y) y)))), some (.int (nI 0)), some (.int (nI v)), some (.int (nI (1 * 2 ^ v))), none]) (st' := [.int (nI x), .ref 96]) d_37_155 (fun _ => rfl) ?_
              refine cr_nx (pc' := 157) (al' := [some (.ref 96), some (.int (nI x)), some (.int (nI y)), some (.int (nI (rwM n c (n * x + y) x))), some (.int (nI ((rwM n c (n * x + y) x) ||| (clM n c (n * x + y) y)))), some (.int (nI 0)), some (.int (nI v)), some (.int (nI (1 * 2 ^ v))), none]) (st' := [.int (nI y), .int (nI x), .ref 96]) d_37_156 (fun _ => rfl) ?_
              refine cn_ic (v := 1) d_37_157 (by decide) ?_
              refine cn_add d_37_158  ?_
              refine cr_nx (pc' := 160) (al' := [some (.ref 96), some (.int (nI x)), some (.int (nI y)), some (.int (nI (rwM n c (n * x + y) x))), some (.int (nI ((rwM n c (n * x + y) x) ||| (clM n c (n * x + y) y)))), some (.int (nI 0)), some (.int (nI v)), some (.int (nI (1 * 2 ^ v))), none]) (st' := [.int (nI (rwM n c (n * x + y) x)), .int (nI (y + 1)), .int (nI x), .ref 96]) d_37_159 (fun _ => rfl) ?_
              refine cr_nx (pc' := 162) (al' := [some (.ref 96), some (.int (nI x)), some (.int (nI y)), some (.int (nI (rwM n c (n * x + y) x))), some (.int (nI ((rwM n c (n * x + y) x) ||| (clM n c (n * x + y) y)))), some (.int (nI 0)), some (.int (nI v)), some (.int (nI (1 * 2 ^ v))), none]) (st' := [.int (nI (1 * 2 ^ v)), .int (nI (rwM n c (n * x + y) x)), .int (nI (y + 1)), .int (nI x), .ref 96]) d_37_160 (fun _ => rfl) ?_
              refine cn_or d_37_162 ?_
              refine cr_cv (b := 96) (as := [.int (nI x), .int (nI (y + 1)), .int (nI ((rwM n c (n * x + y) x) ||| (1 * 2 ^ v)))]) (al0 := [some (.ref 96), some (.int (nI x)), some (.int (nI (y + 1))), some (.int (nI ((rwM n c (n * x + y) x) ||| (1 * 2 ^ v)))), none, none, none, none, none]) (r := []) d_37_163 cw_37 cm_5_55 cz_37 rfl rfl (hS.i (a := 96) (by decide) (by decide)) (by rw [cw_37]; exact (hS.s (a := 96) (by decide) (by decide) rfl)) (by rw [cw_37]; decide) rfl (cr_wk (Nat.le_refl _) (hI v hv hfr (htd v) w_.1 _ pv.1 pv.2.1 ((pv.2.2.1.u (by simp)).u (by simp)) pv.2.2.2.1 (pv.2.2.2.2.2.2.put hx hy hy1) pv.2.2.2.2.1 pv.2.2.2.2.2.1 hbd)) (fun v1 S1 G1 B1 J1 R1 h1 => ?_)
              obtain ⟨⟨q1_, q2_, q3_⟩, hg1, hf1, hb1, hj1, hor⟩ := h1
              obtain rfl := q1_.symm
              obtain rfl := q2_.symm
              obtain rfl := q3_.symm
              obtain ⟨z, hz, hor2⟩ : ∃ z, v1 = some (.int (nI z)) ∧ ((z = 0 ∧ (∀ w, wt = some w → m + ((flV n T f (n * x + y) c v).filter P).length + ((flX n T f (n * x + y) c v).filter P).length ≤ w) ∧ G1 96 1 = .int (nI (m + ((flV n T f (n * x + y) c v).filter P).length + ((flX n T f (n * x + y) c v).filter P).length)) ∧ LiB n (n * x + y + 1) (upN c (n * x + y) v) B1) ∨ (z = 1 ∧ ∃ w, wt = some w ∧ m + ((flV n T f (n * x + y) c v).filter P).length ≤ w ∧ w < m + ((flV n T f (n * x + y) c v).filter P).length + ((flX n T f (n * x + y) c v).filter P).length ∧ ∀ q, q < n * n → B1 98 q = nI ((((flX n T f (n * x + y) c v).filter P).getD (w - (m + ((flV n T f (n * x + y) c v).filter P).length)) (fun _ => 0)) q))) := hor.elim (fun h_ => ⟨0, h_.1, Or.inl ⟨rfl, h_.2⟩⟩) (fun h_ => ⟨1, h_.1, Or.inr ⟨rfl, h_.2⟩⟩)
              clear hor
              obtain rfl := hz
              have hz1 : z ≤ 1 := by rcases hor2 with h_ | h_ <;> omega
              show CR _ _ 166 [some (.ref 96), some (.int (nI x)), some (.int (nI y)), some (.int (nI (rwM n c (n * x + y) x))), some (.int (nI ((rwM n c (n * x + y) x) ||| (clM n c (n * x + y) y)))), some (.int (nI 0)), some (.int (nI v)), some (.int (nI (1 * 2 ^ v))), none] [.int (nI z)] S G1 B1 J R _
              refine cr_nx (pc' := 168) (al' := [some (.ref 96), some (.int (nI x)), some (.int (nI y)), some (.int (nI (rwM n c (n * x + y) x))), some (.int (nI ((rwM n c (n * x + y) x) ||| (clM n c (n * x + y) y)))), some (.int (nI 0)), some (.int (nI v)), some (.int (nI (1 * 2 ^ v))), some (.int (nI z))]) (st' := []) d_37_166 (fun _ => rfl) ?_
              obtain ⟨cz, hcz, hcz2⟩ : ∃ cz, B1 105 y = nI cz ∧ (z = 0 → cz = clM n (upN c (n * x + y) v) (n * x + y + 1) y) := hor2.elim (fun h_ => ⟨clM n (upN c (n * x + y) v) (n * x + y + 1) y, h_.2.2.2.2.2 y hy1 hy, fun _ => rfl⟩) (fun h_ => by obtain ⟨cz, hcz⟩ := nI_all (B1 105 y); exact ⟨cz, hcz, fun e_ => absurd (e_.symm.trans h_.1) (by decide)⟩)
              refine cr_nx (pc' := 169) (al' := [some (.ref 96), some (.int (nI x)), some (.int (nI y)), some (.int (nI (rwM n c (n * x + y) x))), some (.int (nI ((rwM n c (n * x + y) x) ||| (clM n c (n * x + y) y)))), some (.int (nI 0)), some (.int (nI v)), some (.int (nI (1 * 2 ^ v))), some (.int (nI z))]) (st' := [.ref 96]) d_37_168 (fun _ => rfl) ?_
              refine cr_gf (v := .ref 105) d_37_169 cw_37 cf_5_25 (hS.i (a := 96) (by decide) (by decide)) (hS.s (a := 96) (by decide) (by decide) rfl) (by decide) (fx_96_3 hf1) ?_
              refine cr_nx (pc' := 173) (al' := [some (.ref 96), some (.int (nI x)), some (.int (nI y)), some (.int (nI (rwM n c (n * x + y) x))), some (.int (nI ((rwM n c (n * x + y) x) ||| (clM n c (n * x + y) y)))), some (.int (nI 0)), some (.int (nI v)), some (.int (nI (1 * 2 ^ v))), some (.int (nI z))]) (st' := [.int (nI y), .ref 105]) d_37_172 (fun _ => rfl) ?_
              refine cr_nx (pc' := 174) (al' := [some (.ref 96), some (.int (nI x)), some (.int (nI y)), some (.int (nI (rwM n c (n * x + y) x))), some (.int (nI ((rwM n c (n * x + y) x) ||| (clM n c (n * x + y) y)))), some (.int (nI 0)), some (.int (nI v)), some (.int (nI (1 * 2 ^ v))), some (.int (nI z))]) (st' := [.int (nI y), .ref 105, .int (nI y), .ref 105]) d_37_173 (fun _ => rfl) ?_
              refine cr_ia (a := 105) (v := (nI cz)) d_37_174 (hS.i (a := 105) (by decide) (by decide)) (hS.s (a := 105) (by decide) (by decide) rfl) (by first | decide | omega) (show y < 6 by first | omega | assumption | exact cu_36 (by omega) (cu_lt (by omega) (by omega))) hcz ?_
              refine cr_nx (pc' := 177) (al' := [some (.ref 96), some (.int (nI x)), some (.int (nI y)), some (.int (nI (rwM n c (n * x + y) x))), some (.int (nI ((rwM n c (n * x + y) x) ||| (clM n c (n * x + y) y)))), some (.int (nI 0)), some (.int (nI v)), some (.int (nI (1 * 2 ^ v))), some (.int (nI z))]) (st' := [.int (nI (1 * 2 ^ v)), .int (nI cz), .int (nI y), .ref 105]) d_37_175 (fun _ => rfl) ?_
              refine cr_nx (pc' := 178) (al' := [some (.ref 96), some (.int (nI x)), some (.int (nI y)), some (.int (nI (rwM n c (n * x + y) x))), some (.int (nI ((rwM n c (n * x + y) x) ||| (clM n c (n * x + y) y)))), some (.int (nI 0)), some (.int (nI v)), some (.int (nI (1 * 2 ^ v))), some (.int (nI z))]) (st' := [.int (-1), .int (nI (1 * 2 ^ v)), .int (nI cz), .int (nI y), .ref 105]) d_37_177 (fun _ => rfl) ?_
              refine cn_not d_37_178 ?_
              refine cn_and d_37_179 ?_
              refine cr_iS (a := 105) (B1 := (upr B1 105 (upd (B1 105) y (nI (cz &&& ((1 * 2 ^ v) ^^^ 4294967295)))))) d_37_180 (hS.i (a := 105) (by decide) (by decide)) (hS.s (a := 105) (by decide) (by decide) rfl) (by first | decide | omega) (show y < 6 by first | omega | assumption | exact cu_36 (by omega) (cu_lt (by omega) (by omega))) rfl ?_
              refine cr_nx (pc' := 183) (al' := [some (.ref 96), some (.int (nI x)), some (.int (nI y)), some (.int (nI (rwM n c (n * x + y) x))), some (.int (nI ((rwM n c (n * x + y) x) ||| (clM n c (n * x + y) y)))), some (.int (nI 0)), some (.int (nI v)), some (.int (nI (1 * 2 ^ v))), some (.int (nI z))]) (st' := [.int (nI z)]) d_37_181 (fun _ => rfl) ?_
              refine cn_ieq (t := 188) d_37_183 (by decide) (by omega) (fun c183 => ?_) (fun c183 => ?_)
              · have ho := hor2.elim (fun h_ => h_.2) (fun h_ => absurd (h_.1.symm.trans c183) (by decide))
                refine cn_inc d_37_188 rfl rfl ?_
                show CR _ _ 191 [some (.ref 96), some (.int (nI x)), some (.int (nI y)), some (.int (nI (rwM n c (n * x + y) x))), some (.int (nI ((rwM n c (n * x + y) x) ||| (clM n c (n * x + y) y)))), some (.int (nI 0)), some (.int (nI (v + 1))), some (.int (nI (1 * 2 ^ v))), some (.int (nI z))] [] S G1 (upr B1 105 (upd (B1 105) y (nI (cz &&& ((1 * 2 ^ v) ^^^ 4294967295))))) J R _
                refine cr_nx (pc' := 82) (al' := [some (.ref 96), some (.int (nI x)), some (.int (nI y)), some (.int (nI (rwM n c (n * x + y) x))), some (.int (nI ((rwM n c (n * x + y) x) ||| (clM n c (n * x + y) y)))), some (.int (nI 0)), some (.int (nI (v + 1))), some (.int (nI (1 * 2 ^ v))), some (.int (nI z))]) (st' := []) d_37_191 (fun _ => rfl) ?_
                refine cr_dr (al1 := [some (.ref 96), some (.int (nI x)), some (.int (nI y)), some (.int (nI (rwM n c (n * x + y) x))), some (.int (nI ((rwM n c (n * x + y) x) ||| (clM n c (n * x + y) y)))), some (.int (nI 0)), some (.int (nI (v + 1))), none, none]) (le_s (le_s (le_s (le_s (le_s (le_s (le_s (le_d rfl (le_d rfl (le_n)))))))))) ?_
                exact ihv (G1, (upr B1 105 (upd (B1 105) y (nI (cz &&& ((1 * 2 ^ v) ^^^ 4294967295)))))) (⟨pv.1.tr hg1, hf1, (((pv.2.2.1.u (by simp)).u (by simp)).tr hb1).u (by simp), fun j hj => (hj1 j hj).trans (pv.2.2.2.1 j hj), by rw [flV_s, List.filter_append, List.length_append, ← Nat.add_assoc]; exact ho.1, by rw [flV_s, List.filter_append, List.length_append, ← Nat.add_assoc]; exact ho.2.1, by dsimp only; rw [hcz2 c183]; exact ho.2.2.bk hn6 hx hy hv hl hfr⟩)
              · obtain ⟨w, ho1, ho2, ho3, ho4⟩ := hor2.elim (fun h_ => absurd h_.1 (by omega)) (fun h_ => h_.2)
                refine cn_ic (v := 1) d_37_186 (by decide) ?_
                exact cr_ri d_37_187 cx_37 (by decide) ⟨⟨rfl, rfl, rfl⟩, pv.1.tr hg1, hf1, (((pv.2.2.1.u (by simp)).u (by simp)).tr hb1).u (by simp), fun j hj => (hj1 j hj).trans (pv.2.2.2.1 j hj), Or.inr ⟨rfl, w, ho1, by omega, pl_lt hv ho2 ho3, fun q hq => by rw [upr_n (by decide), ho4 q hq, pl_at hv ho2 ho3]⟩⟩
            · omega
          · refine cr_nx (pc' := 188) (al' := [some (.ref 96), some (.int (nI x)), some (.int (nI y)), some (.int (nI (rwM n c (n * x + y) x))), some (.int (nI ((rwM n c (n * x + y) x) ||| (clM n c (n * x + y) y)))), some (.int (nI 0)), some (.int (nI v)), some (.int (nI (1 * 2 ^ v))), none]) (st' := []) d_37_108 (fun _ => rfl) ?_
            refine cn_inc d_37_188 rfl rfl ?_
            show CR _ _ 191 [some (.ref 96), some (.int (nI x)), some (.int (nI y)), some (.int (nI (rwM n c (n * x + y) x))), some (.int (nI ((rwM n c (n * x + y) x) ||| (clM n c (n * x + y) y)))), some (.int (nI 0)), some (.int (nI (v + 1))), some (.int (nI (1 * 2 ^ v))), none] [] S w_.1 w_.2 J R _
            refine cr_nx (pc' := 82) (al' := [some (.ref 96), some (.int (nI x)), some (.int (nI y)), some (.int (nI (rwM n c (n * x + y) x))), some (.int (nI ((rwM n c (n * x + y) x) ||| (clM n c (n * x + y) y)))), some (.int (nI 0)), some (.int (nI (v + 1))), some (.int (nI (1 * 2 ^ v))), none]) (st' := []) d_37_191 (fun _ => rfl) ?_
            refine cr_dr (al1 := [some (.ref 96), some (.int (nI x)), some (.int (nI y)), some (.int (nI (rwM n c (n * x + y) x))), some (.int (nI ((rwM n c (n * x + y) x) ||| (clM n c (n * x + y) y)))), some (.int (nI 0)), some (.int (nI (v + 1))), none, none]) (le_s (le_s (le_s (le_s (le_s (le_s (le_s (le_d rfl (le_s (le_n)))))))))) ?_
            exact ihv w_ (⟨pv.1, pv.2.1, pv.2.2.1, pv.2.2.2.1, by rw [flV_s, flX_f (fun h_ => absurd (fr_xy (x := x) hy |>.mpr h_.2) (by omega)), List.append_nil]; exact pv.2.2.2.2.1, by rw [flV_s, flX_f (fun h_ => absurd (fr_xy (x := x) hy |>.mpr h_.2) (by omega)), List.append_nil]; exact pv.2.2.2.2.2.1, pv.2.2.2.2.2.2⟩)
      · show CR _ _ 82 [some (.ref 96), some (.int (nI x)), some (.int (nI y)), some (.int (nI (rwM n c (n * x + y) x))), some (.int (nI ((rwM n c (n * x + y) x) ||| (clM n c (n * x + y) y)))), some (.int (nI 0)), some (.int (nI n)), none, none] [] S w_.1 w_.2 J R _
        have hn97 : w_.1 97 0 = .int (nI n) := by rw [pv.1 97 (by decide)]; exact hn97
        refine cr_nx (pc' := 84) (al' := [some (.ref 96), some (.int (nI x)), some (.int (nI y)), some (.int (nI (rwM n c (n * x + y) x))), some (.int (nI ((rwM n c (n * x + y) x) ||| (clM n c (n * x + y) y)))), some (.int (nI 0)), some (.int (nI n)), none, none]) (st' := [.int (nI n)]) d_37_82 (fun _ => rfl) ?_
        refine cr_nx (pc' := 85) (al' := [some (.ref 96), some (.int (nI x)), some (.int (nI y)), some (.int (nI (rwM n c (n * x + y) x))), some (.int (nI ((rwM n c (n * x + y) x) ||| (clM n c (n * x + y) y)))), some (.int (nI 0)), some (.int (nI n)), none, none]) (st' := [.ref 96, .int (nI n)]) d_37_84 (fun _ => rfl) ?_
        refine cr_gf (v := .ref 97) d_37_85 cw_37 cf_5_12 (hS.i (a := 96) (by decide) (by decide)) (hS.s (a := 96) (by decide) (by decide) rfl) (by decide) (fx_96_0 pv.2.1) ?_
        refine cr_gf (v := .int (nI n)) d_37_88 cw_37 cf_5_48 (hS.i (a := 97) (by decide) (by decide)) (hS.s (a := 97) (by decide) (by decide) rfl) (by decide) hn97 ?_
        refine cn_cge (t := 194) d_37_91 (by decide) (by first | omega | assumption | exact cu_36 (by omega) (cu_lt (by omega) (by omega))) (by first | omega | assumption | exact cu_36 (by omega) (cu_lt (by omega) (by omega))) (fun c91 => ?_) (fun c91 => ?_)
        · refine cn_ic (v := 0) d_37_194 (by decide) ?_
          exact cr_ri d_37_195 cx_37 (by decide) ⟨⟨rfl, rfl, rfl⟩, pv.1, pv.2.1, pv.2.2.1, pv.2.2.2.1, Or.inl ⟨rfl, pv.2.2.2.2.1, pv.2.2.2.2.2.1, pv.2.2.2.2.2.2⟩⟩
        · omega
    · omega
  · omega
