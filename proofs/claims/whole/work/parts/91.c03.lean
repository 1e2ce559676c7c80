/-! Laws: the class counts failures, loops; printed by wip/whole/gen_c03.py. -/
/-- how many triples -/
def f1N (br : Nat → Nat → Nat → Bool) (x y z : Nat) : Nat := SM (fun k => if br x y k = true then 1 else 0) z
def f2N (br : Nat → Nat → Nat → Bool) (zs x y : Nat) : Nat := SM (fun k => f1N br x k zs) y
def f3N (br : Nat → Nat → Nat → Bool) (ys zs x : Nat) : Nat := SM (fun k => f2N br zs k ys) x
theorem f1_le {br : Nat → Nat → Nat → Bool} {x y z : Nat} : f1N br x y z ≤ z := SM_1 (fun i => by split <;> omega)
theorem f2_le {br : Nat → Nat → Nat → Bool} {zs x y : Nat} : f2N br zs x y ≤ y * zs := SM_le (fun i _ => f1_le)
theorem f3_le {br : Nat → Nat → Nat → Bool} {ys zs x : Nat} : f3N br ys zs x ≤ x * (ys * zs) := SM_le (fun i _ => f2_le)
theorem f_216 {br : Nat → Nat → Nat → Bool} {xs ys zs : Nat} (hx : xs ≤ 6) (hy : ys ≤ 6) (hz : zs ≤ 6) : f3N br ys zs xs ≤ 216 := Nat.le_trans f3_le (Nat.mul_le_mul hx (Nat.mul_le_mul hy hz))
theorem f_le {br : Nat → Nat → Nat → Bool} {xs ys zs x y z : Nat} (hx : x < xs) (hy : y < ys) (hz : z ≤ zs) : f3N br ys zs x + f2N br zs x y + f1N br x y z ≤ f3N br ys zs xs := by
  have h1 : f1N br x y z ≤ f1N br x y zs := SM_gr hz
  have h2 : f2N br zs x y + f1N br x y zs ≤ f2N br zs x ys := SM_gr (f := fun k => f1N br x k zs) (show y + 1 ≤ ys from hy)
  have h3 : f3N br ys zs x + f2N br zs x ys ≤ f3N br ys zs xs := SM_gr (f := fun k => f2N br zs k ys) (show x + 1 ≤ xs from hx)
  omega
theorem f1_t {br : Nat → Nat → Nat → Bool} {x y z : Nat} (h : br x y z = true) : f1N br x y (z + 1) = f1N br x y z + 1 := by unfold f1N; rw [SM_s, if_pos h]
theorem f1_f {br : Nat → Nat → Nat → Bool} {x y z : Nat} (h : ¬ br x y z = true) : f1N br x y (z + 1) = f1N br x y z := by unfold f1N; rw [SM_s, if_neg h]; rfl
/-- the first triple; no triple -/
def FsT (br : Nat → Nat → Nat → Bool) (xs ys zs x y z : Nat) : Prop := (x < xs ∧ y < ys ∧ z < zs) ∧ br x y z = true ∧ (∀ p, p < x → ∀ q, q < ys → ∀ r, r < zs → br p q r = false) ∧ (∀ q, q < y → ∀ r, r < zs → br x q r = false) ∧ ∀ r, r < z → br x y r = false
def NoT (br : Nat → Nat → Nat → Bool) (xs ys zs : Nat) : Prop := ∀ p, p < xs → ∀ q, q < ys → ∀ r, r < zs → br p q r = false
theorem FsT.no {br : Nat → Nat → Nat → Bool} {xs ys zs x y z : Nat} (h : FsT br xs ys zs x y z) : ¬ NoT br xs ys zs := fun n => by
  have := n x h.1.1 y h.1.2.1 z h.1.2.2
  rw [h.2.1] at this
  cases this
theorem FsT.un {br : Nat → Nat → Nat → Bool} {xs ys zs x y z u v t : Nat} (h : FsT br xs ys zs x y z) (k : FsT br xs ys zs u v t) : x = u ∧ y = v ∧ z = t := by
  obtain ⟨⟨a1, a2, a3⟩, a4, a5, a6, a7⟩ := h
  obtain ⟨⟨b1, b2, b3⟩, b4, b5, b6, b7⟩ := k
  have hx : x = u := by
    rcases Nat.lt_trichotomy x u with q | q | q
    · have := b5 x q y a2 z a3
      rw [a4] at this
      cases this
    · exact q
    · have := a5 u q v b2 t b3
      rw [b4] at this
      cases this
  subst hx
  have hy : y = v := by
    rcases Nat.lt_trichotomy y v with q | q | q
    · have := b6 y q z a3
      rw [a4] at this
      cases this
    · exact q
    · have := a6 v q t b3
      rw [b4] at this
      cases this
  subst hy
  refine ⟨rfl, rfl, ?_⟩
  rcases Nat.lt_trichotomy z t with q | q | q
  · have := b7 z q
    rw [a4] at this
    cases this
  · exact q
  · have := a7 t q
    rw [b4] at this
    cases this
theorem LawAt.cg {S : CS} {G G' : Nat → Nat → Value} {B B' : Nat → Nat → Int32} {l i : Nat} {w : List Nat} (h : LawAt S G B l w i) (hg : G' l = G l) (hb : B' (l + 1) = B (l + 1)) : LawAt S G' B' l w i := by
  unfold LawAt
  rw [hg, hb]
  exact h
def CdOk (w : List Nat) (i : Nat) : Prop := i ≤ w.length ∧ w.length < 64 ∧ wfC (w.take i) 0 = true ∧ wfC (w.drop i) 0 = true ∧ lcC w ≤ 32
theorem CdOk.us {w : List Nat} {i : Nat} (h : CdOk w i) : usN w < 256 := usN_lt (fun k hk => by
  rw [← List.take_append_drop i w] at hk
  rcases List.mem_append.mp hk with e | e
  · exact wf_le h.2.2.1 k e
  · exact wf_le h.2.2.2.1 k e)
/-- rows in the loops -/
def FlB (B : Nat → Nat → Int32) (a e : Nat) (w : Nat → Nat → Int32) : Prop := Bfr [a + 4, a + 5] B w ∧ w (a + 4) 3 = nI e
theorem FlB.v {B w : Nat → Nat → Int32} {a e k : Nat} {v : Int32} (h : FlB B a e w) (hk : k < 3) : FlB B a e (upr w (a + 4) (upd (w (a + 4)) k v)) := ⟨h.1.u (by simp), by rw [upr_s, pk_un (by omega)]; exact h.2⟩
theorem FlB.s {B w : Nat → Nat → Int32} {a e : Nat} {f : Nat → Int32} (h : FlB B a e w) : FlB B a e (upr w (a + 5) f) := ⟨h.1.u (by simp), by rw [upr_n (by omega)]; exact h.2⟩
theorem FlB.r {B w : Nat → Nat → Int32} {a e b : Nat} (h : FlB B a e w) (h4 : b ≠ a + 4) (h5 : b ≠ a + 5) : w b = B b := h.1 b (by simp [h4, h5])
theorem vu_n {w : Nat → Nat → Int32} {a k j : Nat} {v x : Int32} (h : j ≠ k) (e : w a j = x) : upr w a (upd (w a) k v) a j = x := by rw [upr_s, pk_un h]; exact e
theorem vu_s {w : Nat → Nat → Int32} {a k : Nat} {v : Int32} : upr w a (upd (w a) k v) a k = v := by rw [upr_s, pk_us]
theorem vs_n {w : Nat → Nat → Int32} {a j : Nat} {f : Nat → Int32} {x : Int32} (e : w (a + 4) j = x) : upr w (a + 5) f (a + 4) j = x := by rw [upr_n (by omega)]; exact e
theorem fl_ck {B w_ : Nat → Nat → Int32} {a m n e x y z : Nat} {c : Nat → Nat} {w : List Nat} (hl : Lat n c) (hx : x < n) (hy : y < n) (hz : z < n) (he : e < n) (hmn : m ≠ a + 2 ∧ m ≠ a + 3 ∧ m ≠ a + 4 ∧ m ≠ a + 5) (hm : ∀ q, q < n * n → B m q = nI (c q)) (hd : 5 ∈ w ∨ 6 ∈ w → DvB B a n c) (h : FlB B a e w_) (h0 : w_ (a + 4) 0 = nI x) (h1 : w_ (a + 4) 1 = nI y) : CkB (upr w_ (a + 4) (upd (w_ (a + 4)) 2 (nI z))) a m n (vlF x y z e) (jnW n c) w := by
  have hv := h.v (k := 2) (v := nI z) (by decide)
  refine ck_mk hl hx hy hz he (fun q hq => ?_) (fun q => ?_) (vu_n (by decide) h0) (vu_n (by decide) h1) vu_s hv.2
  · rw [hv.r hmn.2.2.1 hmn.2.2.2]
    exact hm q hq
  · intro j hj
    rw [hv.r (by omega) (by omega), hv.r (by omega) (by omega)]
    exact hd q j hj
theorem DvB.mk {B : Nat → Nat → Int32} {a n : Nat} {c : Nat → Nat} {w2 w3 : Nat → Int32} (h2 : ∀ q, q < n * n → w2 q = nI (ovrI n c (q / n) (q % n))) (h3 : ∀ q, q < n * n → w3 q = nI (undI n c (q / n) (q % n))) : DvB (upr (upr B (a + 2) w2) (a + 3) w3) a n c := fun q hq => by
  rw [upr_n (show a + 2 ≠ a + 3 by omega), upr_s, upr_s]
  exact ⟨h2 q hq, h3 q hq⟩
theorem CkL.dv {S : CS} {G : Nat → Nat → Value} {B : Nat → Nat → Int32} {a m n e : Nat} {c : Nat → Nat} {w2 w3 : Nat → Int32} (h : CkL S G B a m n c e) (hmn : m ≠ a + 2 ∧ m ≠ a + 3 ∧ m ≠ a + 4 ∧ m ≠ a + 5) (h2 : ∀ q, q < n * n → w2 q = nI (ovrI n c (q / n) (q % n))) (h3 : ∀ q, q < n * n → w3 q = nI (undI n c (q / n) (q % n))) : CkL S (up2 G a 2 (.int (nI 1))) (upr (upr B (a + 2) w2) (a + 3) w3) a m n c e := by
  refine ⟨h.1.u (by decide), ?_, ?_, h.2.2.2.1, Or.inr ⟨up2_s, DvB.mk h2 h3⟩, ?_, fun q hq => ?_⟩
  · rw [up2_n (by omega)]
    exact h.2.1
  · rw [up2_n (by omega)]
    exact h.2.2.1
  · rw [upr_n (by omega), upr_n (by omega)]
    exact h.2.2.2.2.2.1
  · rw [upr_n hmn.2.1, upr_n hmn.1]
    exact h.2.2.2.2.2.2 q hq
/-- the rows that count for it are the same -/
theorem CkL.fr {S : CS} {G : Nat → Nat → Value} {B w : Nat → Nat → Int32} {a m n e : Nat} {c : Nat → Nat} (h : CkL S G B a m n c e) (hmn : m ≠ a + 2 ∧ m ≠ a + 3 ∧ m ≠ a + 4 ∧ m ≠ a + 5) (hw : FlB B a e w) : CkL S G w a m n c e := by
  refine ⟨h.1, h.2.1, h.2.2.1, h.2.2.2.1, h.2.2.2.2.1.imp id (fun q => ⟨q.1, fun j hj => ?_⟩), hw.2, fun q hq => ?_⟩
  · rw [hw.r (by omega) (by omega), hw.r (by omega) (by omega)]
    exact q.2 j hj
  · rw [hw.r hmn.2.2.1 hmn.2.2.2]
    exact h.2.2.2.2.2.2 q hq
theorem k_fl0a {S : CS} {G : Nat → Nat → Value} {B : Nat → Nat → Int32} {J : Nat → Nat → Int64} {R : Nat → Nat → Option Nat} {Q : CQ} {a m n l i e : Nat} {c : Nat → Nat} {w : List Nat} (hn6 : n ≤ 6) (h1n : 1 ≤ n) (hl : Lat n c) (he : e < n) (hla : l ≠ a) (hln : l + 1 ≠ a + 2 ∧ l + 1 ≠ a + 3 ∧ l + 1 ≠ a + 4 ∧ l + 1 ≠ a + 5) (hmn : m ≠ a + 2 ∧ m ≠ a + 3 ∧ m ≠ a + 4 ∧ m ≠ a + 5) (hV : CdOk w i) (hL : CkL S G B a m n c e) (hLw : LawAt S G B l w i) {t : Nat} (hdv : G a 2 = .int (nI 1)) (hD : DvB B a n c) (hk : ∀ G1 B1, Gfr [a] G G1 → Bfr [a + 2, a + 3] B B1 → CkL S G1 B1 a m n c e → LawAt S G1 B1 l w i → (5 ∈ w ∨ 6 ∈ w → DvB B1 a n c) → CR 3 2 21 [some (.ref a), some (.ref l), some (.int (nI t)), none, none, none, none, none, none, none] [] S G1 B1 J R Q) : CR 3 2 0 [some (.ref a), some (.ref l), some (.int (nI t)), none, none, none, none, none, none, none] [] S G B J R Q := by
  have hC := hL.1
  have hn := hL.2.1
  have hm1 := hL.2.2.1
  have hm := hL.2.2.2.1
  have hu := hV.us
  refine cr_nx (pc' := 1) (al' := [some (.ref a), some (.ref l), some (.int (nI t)), none, none, none, none, none, none, none]) (st' := [.ref a]) d_2_0 (fun _ => rfl) ?_
  refine cr_gf (v := .int (nI 1)) d_2_1 cw_2 cf_0_41 hC.1.1 hC.1.2 (by decide) hdv ?_
  refine cn_ine (t := 21) d_2_4 (by decide) (by first | omega | assumption | exact cu_36 (by omega) (cu_lt (by omega) (by omega))) (fun c4 => ?_) (fun c4 => ?_)
  · exact hk _ _ Gfr.rf Bfr.rf hL hLw (fun _ => hD)
  · omega
theorem k_fl0b {S : CS} {G : Nat → Nat → Value} {B : Nat → Nat → Int32} {J : Nat → Nat → Int64} {R : Nat → Nat → Option Nat} {Q : CQ} {a m n l i e : Nat} {c : Nat → Nat} {w : List Nat} (hn6 : n ≤ 6) (h1n : 1 ≤ n) (hl : Lat n c) (he : e < n) (hla : l ≠ a) (hln : l + 1 ≠ a + 2 ∧ l + 1 ≠ a + 3 ∧ l + 1 ≠ a + 4 ∧ l + 1 ≠ a + 5) (hmn : m ≠ a + 2 ∧ m ≠ a + 3 ∧ m ≠ a + 4 ∧ m ≠ a + 5) (hV : CdOk w i) (hL : CkL S G B a m n c e) (hLw : LawAt S G B l w i) {t : Nat} (hdv : G a 2 = .int (nI 0)) (hk : ∀ G1 B1, Gfr [a] G G1 → Bfr [a + 2, a + 3] B B1 → CkL S G1 B1 a m n c e → LawAt S G1 B1 l w i → (5 ∈ w ∨ 6 ∈ w → DvB B1 a n c) → CR 3 2 21 [some (.ref a), some (.ref l), some (.int (nI t)), none, none, none, none, none, none, none] [] S G1 B1 J R Q) : CR 3 2 0 [some (.ref a), some (.ref l), some (.int (nI t)), none, none, none, none, none, none, none] [] S G B J R Q := by
  have hC := hL.1
  have hn := hL.2.1
  have hm1 := hL.2.2.1
  have hm := hL.2.2.2.1
  have hu := hV.us
  refine cr_nx (pc' := 1) (al' := [some (.ref a), some (.ref l), some (.int (nI t)), none, none, none, none, none, none, none]) (st' := [.ref a]) d_2_0 (fun _ => rfl) ?_
  refine cr_gf (v := .int (nI 0)) d_2_1 cw_2 cf_0_41 hC.1.1 hC.1.2 (by decide) hdv ?_
  refine cn_ine (t := 21) d_2_4 (by decide) (by first | omega | assumption | exact cu_36 (by omega) (cu_lt (by omega) (by omega))) (fun c4 => ?_) (fun c4 => ?_)
  · omega
  · refine cr_nx (pc' := 8) (al' := [some (.ref a), some (.ref l), some (.int (nI t)), none, none, none, none, none, none, none]) (st' := [.ref l]) d_2_7 (fun _ => rfl) ?_
    refine cr_gf (v := .int (nI (usN w))) d_2_8 cw_2 cf_0_51 hLw.1 hLw.2.1 (by decide) hLw.2.2.2.2.2.2.1 ?_
    refine cn_bp (v := 96) d_2_11 (by decide) ?_
    refine cn_and d_2_13 ?_
    refine cn_ieq (t := 21) d_2_14 (by decide) us_96l (fun c14 => ?_) (fun c14 => ?_)
    · exact hk _ _ Gfr.rf Bfr.rf hL hLw (fun h_ => absurd h_ (us_96.mp c14))
    · refine cr_nx (pc' := 18) (al' := [some (.ref a), some (.ref l), some (.int (nI t)), none, none, none, none, none, none, none]) (st' := [.ref a]) d_2_17 (fun _ => rfl) ?_
      refine cr_cv (b := a) (as := []) (al0 := [some (.ref a), none, none, none]) (r := []) d_2_18 cw_2 cm_0_56 cz_3 rfl rfl hC.1.1 (by rw [cw_3]; exact hC.1.2) (by rw [cw_3]; decide) rfl (cr_wk (Nat.le_of_ble_eq_true rfl) (k_divide hC hn hm1 hm hn6 ⟨hmn.1, hmn.2.1⟩ hL.2.2.2.2.2.2 hl)) (fun v1 S1 G1 B1 J1 R1 h1 => ?_)
      obtain ⟨q0_, q1_, q2_, q3_, q4_, w2, w3, q9_, hw2, hw3⟩ := h1
      obtain rfl := q0_
      obtain rfl := q1_.symm
      obtain rfl := q2_.symm
      obtain rfl := q3_.symm
      obtain rfl := q4_.symm
      obtain rfl := q9_
      show CR _ _ 21 [some (.ref a), some (.ref l), some (.int (nI t)), none, none, none, none, none, none, none] [] S (up2 G a 2 (.int (nI 1))) (upr (upr B (a + 2) w2) (a + 3) w3) J R _
      exact hk _ _ (Gfr.rf.u (by simp)) ((Bfr.rf.u (by simp)).u (by simp)) (CkL.dv hL hmn hw2 hw3) (hLw.cg (by funext q; exact up2_n (fun e => hla e.1)) (by rw [upr_n hln.2.1, upr_n hln.1])) (fun _ => DvB.mk hw2 hw3)
theorem k_fl0 {S : CS} {G : Nat → Nat → Value} {B : Nat → Nat → Int32} {J : Nat → Nat → Int64} {R : Nat → Nat → Option Nat} {Q : CQ} {a m n l i e : Nat} {c : Nat → Nat} {w : List Nat} (hn6 : n ≤ 6) (h1n : 1 ≤ n) (hl : Lat n c) (he : e < n) (hla : l ≠ a) (hln : l + 1 ≠ a + 2 ∧ l + 1 ≠ a + 3 ∧ l + 1 ≠ a + 4 ∧ l + 1 ≠ a + 5) (hmn : m ≠ a + 2 ∧ m ≠ a + 3 ∧ m ≠ a + 4 ∧ m ≠ a + 5) (hV : CdOk w i) (hL : CkL S G B a m n c e) (hLw : LawAt S G B l w i) {t : Nat} (hk : ∀ G1 B1, Gfr [a] G G1 → Bfr [a + 2, a + 3] B B1 → CkL S G1 B1 a m n c e → LawAt S G1 B1 l w i → (5 ∈ w ∨ 6 ∈ w → DvB B1 a n c) → CR 3 2 21 [some (.ref a), some (.ref l), some (.int (nI t)), none, none, none, none, none, none, none] [] S G1 B1 J R Q) : CR 3 2 0 [some (.ref a), some (.ref l), some (.int (nI t)), none, none, none, none, none, none, none] [] S G B J R Q := by
  rcases hL.2.2.2.2.1 with h | h
  · exact k_fl0b hn6 h1n hl he hla hln hmn hV hL hLw h hk
  · exact k_fl0a hn6 h1n hl he hla hln hmn hV hL hLw h.1 h.2 hk
theorem k_fl1 {S : CS} {G : Nat → Nat → Value} {B : Nat → Nat → Int32} {J : Nat → Nat → Int64} {R : Nat → Nat → Option Nat} {a m n l i e : Nat} {c : Nat → Nat} {w : List Nat} (hn6 : n ≤ 6) (h1n : 1 ≤ n) (hl : Lat n c) (he : e < n) (hla : l ≠ a) (hln : l + 1 ≠ a + 2 ∧ l + 1 ≠ a + 3 ∧ l + 1 ≠ a + 4 ∧ l + 1 ≠ a + 5) (hmn : m ≠ a + 2 ∧ m ≠ a + 3 ∧ m ≠ a + 4 ∧ m ≠ a + 5) (hV : CdOk w i) (hL : CkL S G B a m n c e) (hLw : LawAt S G B l w i) (hD : 5 ∈ w ∨ 6 ∈ w → DvB B a n c) : CR 3 2 21 [some (.ref a), some (.ref l), some (.int (nI 1)), none, none, none, none, none, none, none] [] S G B J R (fun r S' G' B' J' R' => (S' = S ∧ G' = G ∧ J' = J ∧ R' = R) ∧ FlB B a e B' ∧ ((r = some (.int (nI 0)) ∧ NoT (lbT w i n c e) (spN n w 0) (spN n w 1) (spN n w 2)) ∨ (r = some (.int (nI 1)) ∧ ∃ x y z, FsT (lbT w i n c e) (spN n w 0) (spN n w 1) (spN n w 2) x y z ∧ B' (a + 4) 0 = nI x ∧ B' (a + 4) 1 = nI y ∧ B' (a + 4) 2 = nI z))) := by
  have hC := hL.1
  have hn := hL.2.1
  have hm1 := hL.2.2.1
  have hm := hL.2.2.2.1
  have hu := hV.us
  refine cr_nx (pc' := 22) (al' := [some (.ref a), some (.ref l), some (.int (nI 1)), none, none, none, none, none, none, none]) (st' := [.ref a]) d_2_21 (fun _ => rfl) ?_
  refine cr_nx (pc' := 23) (al' := [some (.ref a), some (.ref l), some (.int (nI 1)), none, none, none, none, none, none, none]) (st' := [.ref l, .ref a]) d_2_22 (fun _ => rfl) ?_
  refine cn_ic (v := 0) d_2_23 (by decide) ?_
  refine cr_pv (b := a) (as := [.ref l, .int (nI 0)]) (al0 := [some (.ref a), some (.ref l), some (.int (nI 0))]) (r := []) d_2_24 cw_2 cm_0_59 cz_4 rfl rfl hC.1.1 (by rw [cw_4]; exact hC.1.2) (by rw [cw_4]; decide) rfl (Nat.le_of_ble_eq_true rfl) (k_span hC hn hLw (by decide) hu) ?_
  show CR _ _ 27 [some (.ref a), some (.ref l), some (.int (nI 1)), none, none, none, none, none, none, none] [.int (nI (spN n w 0))] S G B J R _
  refine cr_nx (pc' := 28) (al' := [some (.ref a), some (.ref l), some (.int (nI 1)), some (.int (nI (spN n w 0))), none, none, none, none, none, none]) (st' := []) d_2_27 (fun _ => rfl) ?_
  refine cr_nx (pc' := 29) (al' := [some (.ref a), some (.ref l), some (.int (nI 1)), some (.int (nI (spN n w 0))), none, none, none, none, none, none]) (st' := [.ref a]) d_2_28 (fun _ => rfl) ?_
  refine cr_nx (pc' := 30) (al' := [some (.ref a), some (.ref l), some (.int (nI 1)), some (.int (nI (spN n w 0))), none, none, none, none, none, none]) (st' := [.ref l, .ref a]) d_2_29 (fun _ => rfl) ?_
  refine cn_ic (v := 1) d_2_30 (by decide) ?_
  refine cr_pv (b := a) (as := [.ref l, .int (nI 1)]) (al0 := [some (.ref a), some (.ref l), some (.int (nI 1))]) (r := []) d_2_31 cw_2 cm_0_59 cz_4 rfl rfl hC.1.1 (by rw [cw_4]; exact hC.1.2) (by rw [cw_4]; decide) rfl (Nat.le_of_ble_eq_true rfl) (k_span hC hn hLw (by decide) hu) ?_
  show CR _ _ 34 [some (.ref a), some (.ref l), some (.int (nI 1)), some (.int (nI (spN n w 0))), none, none, none, none, none, none] [.int (nI (spN n w 1))] S G B J R _
  refine cr_nx (pc' := 36) (al' := [some (.ref a), some (.ref l), some (.int (nI 1)), some (.int (nI (spN n w 0))), some (.int (nI (spN n w 1))), none, none, none, none, none]) (st' := []) d_2_34 (fun _ => rfl) ?_
  refine cr_nx (pc' := 37) (al' := [some (.ref a), some (.ref l), some (.int (nI 1)), some (.int (nI (spN n w 0))), some (.int (nI (spN n w 1))), none, none, none, none, none]) (st' := [.ref a]) d_2_36 (fun _ => rfl) ?_
  refine cr_nx (pc' := 38) (al' := [some (.ref a), some (.ref l), some (.int (nI 1)), some (.int (nI (spN n w 0))), some (.int (nI (spN n w 1))), none, none, none, none, none]) (st' := [.ref l, .ref a]) d_2_37 (fun _ => rfl) ?_
  refine cn_ic (v := 2) d_2_38 (by decide) ?_
  refine cr_pv (b := a) (as := [.ref l, .int (nI 2)]) (al0 := [some (.ref a), some (.ref l), some (.int (nI 2))]) (r := []) d_2_39 cw_2 cm_0_59 cz_4 rfl rfl hC.1.1 (by rw [cw_4]; exact hC.1.2) (by rw [cw_4]; decide) rfl (Nat.le_of_ble_eq_true rfl) (k_span hC hn hLw (by decide) hu) ?_
  show CR _ _ 42 [some (.ref a), some (.ref l), some (.int (nI 1)), some (.int (nI (spN n w 0))), some (.int (nI (spN n w 1))), none, none, none, none, none] [.int (nI (spN n w 2))] S G B J R _
  refine cr_nx (pc' := 44) (al' := [some (.ref a), some (.ref l), some (.int (nI 1)), some (.int (nI (spN n w 0))), some (.int (nI (spN n w 1))), some (.int (nI (spN n w 2))), none, none, none, none]) (st' := []) d_2_42 (fun _ => rfl) ?_
  refine cn_ic (v := 0) d_2_44 (by decide) ?_
  refine cr_nx (pc' := 47) (al' := [some (.ref a), some (.ref l), some (.int (nI 1)), some (.int (nI (spN n w 0))), some (.int (nI (spN n w 1))), some (.int (nI (spN n w 2))), some (.int (nI 0)), none, none, none]) (st' := []) d_2_45 (fun _ => rfl) ?_
  refine cn_ic (v := 0) d_2_47 (by decide) ?_
  refine cr_nx (pc' := 50) (al' := [some (.ref a), some (.ref l), some (.int (nI 1)), some (.int (nI (spN n w 0))), some (.int (nI (spN n w 1))), some (.int (nI (spN n w 2))), some (.int (nI 0)), some (.int (nI 0)), none, none]) (st' := []) d_2_48 (fun _ => rfl) ?_
  refine cr_upw (al := fun x w_ => [some (.ref a), some (.ref l), some (.int (nI 1)), some (.int (nI (spN n w 0))), some (.int (nI (spN n w 1))), some (.int (nI (spN n w 2))), some (.int (nI 0)), some (.int (nI x)), none, none]) (S := fun x w_ => S) (G := fun x w_ => G) (B := fun x w_ => w_) (J := fun x w_ => J) (R := fun x w_ => R) (P := fun x w_ => FlB B a e w_ ∧ (∀ p, p < x → ∀ q, q < spN n w 1 → ∀ r, r < spN n w 2 → lbT w i n c e p q r = false)) (n := spN n w 0) (fun x w_ hx px ihx => ?_) (fun w_ px => ?_) 0 B (by omega) (⟨⟨Bfr.rf, hL.2.2.2.2.2.1⟩, all_0⟩)
  · show CR _ _ 50 [some (.ref a), some (.ref l), some (.int (nI 1)), some (.int (nI (spN n w 0))), some (.int (nI (spN n w 1))), some (.int (nI (spN n w 2))), some (.int (nI 0)), some (.int (nI x)), none, none] [] S G w_ J R _
    have s0 := sp_6 (k := 0) (w := w) hn6
    have s1 := sp_6 (k := 1) (w := w) hn6
    have s2 := sp_6 (k := 2) (w := w) hn6
    refine cr_nx (pc' := 52) (al' := [some (.ref a), some (.ref l), some (.int (nI 1)), some (.int (nI (spN n w 0))), some (.int (nI (spN n w 1))), some (.int (nI (spN n w 2))), some (.int (nI 0)), some (.int (nI x)), none, none]) (st' := [.int (nI x)]) d_2_50 (fun _ => rfl) ?_
    refine cr_nx (pc' := 53) (al' := [some (.ref a), some (.ref l), some (.int (nI 1)), some (.int (nI (spN n w 0))), some (.int (nI (spN n w 1))), some (.int (nI (spN n w 2))), some (.int (nI 0)), some (.int (nI x)), none, none]) (st' := [.int (nI (spN n w 0)), .int (nI x)]) d_2_52 (fun _ => rfl) ?_
    refine cn_cge (t := 138) d_2_53 (by decide) (by first | omega | assumption | exact cu_36 (by omega) (cu_lt (by omega) (by omega))) (by first | omega | assumption | exact cu_36 (by omega) (cu_lt (by omega) (by omega))) (fun c53 => ?_) (fun c53 => ?_)
    · omega
    · refine cr_nx (pc' := 57) (al' := [some (.ref a), some (.ref l), some (.int (nI 1)), some (.int (nI (spN n w 0))), some (.int (nI (spN n w 1))), some (.int (nI (spN n w 2))), some (.int (nI 0)), some (.int (nI x)), none, none]) (st' := [.ref a]) d_2_56 (fun _ => rfl) ?_
      refine cr_gf (v := .ref (a + 4)) d_2_57 cw_2 cf_0_23 hC.1.1 hC.1.2 (by decide) hC.2.2.2.2.2.2.2.1 ?_
      refine cn_ic (v := 0) d_2_60 (by decide) ?_
      refine cr_nx (pc' := 63) (al' := [some (.ref a), some (.ref l), some (.int (nI 1)), some (.int (nI (spN n w 0))), some (.int (nI (spN n w 1))), some (.int (nI (spN n w 2))), some (.int (nI 0)), some (.int (nI x)), none, none]) (st' := [.int (nI x), .int (nI 0), .ref (a + 4)]) d_2_61 (fun _ => rfl) ?_
      refine cr_iS (a := (a + 4)) (B1 := (upr w_ (a + 4) (upd (w_ (a + 4)) 0 (nI x)))) d_2_63 hC.2.2.2.1.1 hC.2.2.2.1.2 (by first | decide | omega) (show 0 < 4 by first | omega | assumption | exact cu_36 (by omega) (cu_lt (by omega) (by omega))) rfl ?_
      refine cn_ic (v := 0) d_2_64 (by decide) ?_
      refine cr_nx (pc' := 67) (al' := [some (.ref a), some (.ref l), some (.int (nI 1)), some (.int (nI (spN n w 0))), some (.int (nI (spN n w 1))), some (.int (nI (spN n w 2))), some (.int (nI 0)), some (.int (nI x)), some (.int (nI 0)), none]) (st' := []) d_2_65 (fun _ => rfl) ?_
      refine cr_upw (al := fun y w_ => [some (.ref a), some (.ref l), some (.int (nI 1)), some (.int (nI (spN n w 0))), some (.int (nI (spN n w 1))), some (.int (nI (spN n w 2))), some (.int (nI 0)), some (.int (nI x)), some (.int (nI y)), none]) (S := fun y w_ => S) (G := fun y w_ => G) (B := fun y w_ => w_) (J := fun y w_ => J) (R := fun y w_ => R) (P := fun y w_ => FlB B a e w_ ∧ w_ (a + 4) 0 = nI x ∧ (∀ q, q < y → ∀ r, r < spN n w 2 → lbT w i n c e x q r = false)) (n := spN n w 1) (fun y w_ hy py ihy => ?_) (fun w_ py => ?_) 0 (upr w_ (a + 4) (upd (w_ (a + 4)) 0 (nI x))) (by omega) (⟨px.1.v (by decide), vu_s, all_0⟩)
      · show CR _ _ 67 [some (.ref a), some (.ref l), some (.int (nI 1)), some (.int (nI (spN n w 0))), some (.int (nI (spN n w 1))), some (.int (nI (spN n w 2))), some (.int (nI 0)), some (.int (nI x)), some (.int (nI y)), none] [] S G w_ J R _
        refine cr_nx (pc' := 69) (al' := [some (.ref a), some (.ref l), some (.int (nI 1)), some (.int (nI (spN n w 0))), some (.int (nI (spN n w 1))), some (.int (nI (spN n w 2))), some (.int (nI 0)), some (.int (nI x)), some (.int (nI y)), none]) (st' := [.int (nI y)]) d_2_67 (fun _ => rfl) ?_
        refine cr_nx (pc' := 71) (al' := [some (.ref a), some (.ref l), some (.int (nI 1)), some (.int (nI (spN n w 0))), some (.int (nI (spN n w 1))), some (.int (nI (spN n w 2))), some (.int (nI 0)), some (.int (nI x)), some (.int (nI y)), none]) (st' := [.int (nI (spN n w 1)), .int (nI y)]) d_2_69 (fun _ => rfl) ?_
        refine cn_cge (t := 132) d_2_71 (by decide) (by first | omega | assumption | exact cu_36 (by omega) (cu_lt (by omega) (by omega))) (by first | omega | assumption | exact cu_36 (by omega) (cu_lt (by omega) (by omega))) (fun c71 => ?_) (fun c71 => ?_)
        · omega
        · refine cr_nx (pc' := 75) (al' := [some (.ref a), some (.ref l), some (.int (nI 1)), some (.int (nI (spN n w 0))), some (.int (nI (spN n w 1))), some (.int (nI (spN n w 2))), some (.int (nI 0)), some (.int (nI x)), some (.int (nI y)), none]) (st' := [.ref a]) d_2_74 (fun _ => rfl) ?_
          refine cr_gf (v := .ref (a + 4)) d_2_75 cw_2 cf_0_23 hC.1.1 hC.1.2 (by decide) hC.2.2.2.2.2.2.2.1 ?_
          refine cn_ic (v := 1) d_2_78 (by decide) ?_
          refine cr_nx (pc' := 81) (al' := [some (.ref a), some (.ref l), some (.int (nI 1)), some (.int (nI (spN n w 0))), some (.int (nI (spN n w 1))), some (.int (nI (spN n w 2))), some (.int (nI 0)), some (.int (nI x)), some (.int (nI y)), none]) (st' := [.int (nI y), .int (nI 1), .ref (a + 4)]) d_2_79 (fun _ => rfl) ?_
          refine cr_iS (a := (a + 4)) (B1 := (upr w_ (a + 4) (upd (w_ (a + 4)) 1 (nI y)))) d_2_81 hC.2.2.2.1.1 hC.2.2.2.1.2 (by first | decide | omega) (show 1 < 4 by first | omega | assumption | exact cu_36 (by omega) (cu_lt (by omega) (by omega))) rfl ?_
          refine cn_ic (v := 0) d_2_82 (by decide) ?_
          refine cr_nx (pc' := 85) (al' := [some (.ref a), some (.ref l), some (.int (nI 1)), some (.int (nI (spN n w 0))), some (.int (nI (spN n w 1))), some (.int (nI (spN n w 2))), some (.int (nI 0)), some (.int (nI x)), some (.int (nI y)), some (.int (nI 0))]) (st' := []) d_2_83 (fun _ => rfl) ?_
          refine cr_upw (al := fun z w_ => [some (.ref a), some (.ref l), some (.int (nI 1)), some (.int (nI (spN n w 0))), some (.int (nI (spN n w 1))), some (.int (nI (spN n w 2))), some (.int (nI 0)), some (.int (nI x)), some (.int (nI y)), some (.int (nI z))]) (S := fun z w_ => S) (G := fun z w_ => G) (B := fun z w_ => w_) (J := fun z w_ => J) (R := fun z w_ => R) (P := fun z w_ => FlB B a e w_ ∧ w_ (a + 4) 0 = nI x ∧ w_ (a + 4) 1 = nI y ∧ (∀ r, r < z → lbT w i n c e x y r = false)) (n := spN n w 2) (fun z w_ hz pz ihz => ?_) (fun w_ pz => ?_) 0 (upr w_ (a + 4) (upd (w_ (a + 4)) 1 (nI y))) (by omega) (⟨py.1.v (by decide), vu_n (by decide) py.2.1, vu_s, all_0⟩)
          · show CR _ _ 85 [some (.ref a), some (.ref l), some (.int (nI 1)), some (.int (nI (spN n w 0))), some (.int (nI (spN n w 1))), some (.int (nI (spN n w 2))), some (.int (nI 0)), some (.int (nI x)), some (.int (nI y)), some (.int (nI z))] [] S G w_ J R _
            have hfl := f_le (br := lbT w i n c e) hx hy (show z + 1 ≤ spN n w 2 from hz)
            have h216 := f_216 (br := lbT w i n c e) s0 s1 s2
            refine cr_nx (pc' := 87) (al' := [some (.ref a), some (.ref l), some (.int (nI 1)), some (.int (nI (spN n w 0))), some (.int (nI (spN n w 1))), some (.int (nI (spN n w 2))), some (.int (nI 0)), some (.int (nI x)), some (.int (nI y)), some (.int (nI z))]) (st' := [.int (nI z)]) d_2_85 (fun _ => rfl) ?_
            refine cr_nx (pc' := 89) (al' := [some (.ref a), some (.ref l), some (.int (nI 1)), some (.int (nI (spN n w 0))), some (.int (nI (spN n w 1))), some (.int (nI (spN n w 2))), some (.int (nI 0)), some (.int (nI x)), some (.int (nI y)), some (.int (nI z))]) (st' := [.int (nI (spN n w 2)), .int (nI z)]) d_2_87 (fun _ => rfl) ?_
            refine cn_cge (t := 126) d_2_89 (by decide) (by first | omega | assumption | exact cu_36 (by omega) (cu_lt (by omega) (by omega))) (by first | omega | assumption | exact cu_36 (by omega) (cu_lt (by omega) (by omega))) (fun c89 => ?_) (fun c89 => ?_)
            · omega
            · refine cr_nx (pc' := 93) (al' := [some (.ref a), some (.ref l), some (.int (nI 1)), some (.int (nI (spN n w 0))), some (.int (nI (spN n w 1))), some (.int (nI (spN n w 2))), some (.int (nI 0)), some (.int (nI x)), some (.int (nI y)), some (.int (nI z))]) (st' := [.ref a]) d_2_92 (fun _ => rfl) ?_
              refine cr_gf (v := .ref (a + 4)) d_2_93 cw_2 cf_0_23 hC.1.1 hC.1.2 (by decide) hC.2.2.2.2.2.2.2.1 ?_
              refine cn_ic (v := 2) d_2_96 (by decide) ?_
              refine cr_nx (pc' := 99) (al' := [some (.ref a), some (.ref l), some (.int (nI 1)), some (.int (nI (spN n w 0))), some (.int (nI (spN n w 1))), some (.int (nI (spN n w 2))), some (.int (nI 0)), some (.int (nI x)), some (.int (nI y)), some (.int (nI z))]) (st' := [.int (nI z), .int (nI 2), .ref (a + 4)]) d_2_97 (fun _ => rfl) ?_
              refine cr_iS (a := (a + 4)) (B1 := (upr w_ (a + 4) (upd (w_ (a + 4)) 2 (nI z)))) d_2_99 hC.2.2.2.1.1 hC.2.2.2.1.2 (by first | decide | omega) (show 2 < 4 by first | omega | assumption | exact cu_36 (by omega) (cu_lt (by omega) (by omega))) rfl ?_
              refine cr_nx (pc' := 101) (al' := [some (.ref a), some (.ref l), some (.int (nI 1)), some (.int (nI (spN n w 0))), some (.int (nI (spN n w 1))), some (.int (nI (spN n w 2))), some (.int (nI 0)), some (.int (nI x)), some (.int (nI y)), some (.int (nI z))]) (st' := [.ref a]) d_2_100 (fun _ => rfl) ?_
              refine cr_nx (pc' := 102) (al' := [some (.ref a), some (.ref l), some (.int (nI 1)), some (.int (nI (spN n w 0))), some (.int (nI (spN n w 1))), some (.int (nI (spN n w 2))), some (.int (nI 0)), some (.int (nI x)), some (.int (nI y)), some (.int (nI z))]) (st' := [.ref l, .ref a]) d_2_101 (fun _ => rfl) ?_
              refine cr_cv (b := a) (as := [.ref l]) (al0 := [some (.ref a), some (.ref l)]) (r := []) d_2_102 cw_2 cm_0_63 cz_5 rfl rfl hC.1.1 (by rw [cw_5]; exact hC.1.2) (by rw [cw_5]; decide) rfl (cr_wk (Nat.le_of_ble_eq_true rfl) (k_isBroken (vl := vlF x y z e) (jn := jnW n c) hC hn hm1 hm hn6 (hLw.cg rfl ((pz.1.v (k := 2) (v := nI z) (by decide)).r hln.2.2.1 hln.2.2.2)) hln.2.2.2 hmn.2.2.2 hV.1 hV.2.1 hV.2.2.1 hV.2.2.2.1 hV.2.2.2.2 (fl_ck hl (sp_lt h1n hx) (sp_lt h1n hy) (sp_lt h1n hz) he hmn hL.2.2.2.2.2.2 hD pz.1 pz.2.1 pz.2.2.1))) (fun v1 S1 G1 B1 J1 R1 h1 => ?_)
              obtain ⟨q0_, q1_, q2_, q3_, q4_, w5, q9_⟩ := h1
              obtain rfl := q0_
              obtain rfl := q1_.symm
              obtain rfl := q2_.symm
              obtain rfl := q3_.symm
              obtain rfl := q4_.symm
              obtain rfl := q9_
              show CR _ _ 105 [some (.ref a), some (.ref l), some (.int (nI 1)), some (.int (nI (spN n w 0))), some (.int (nI (spN n w 1))), some (.int (nI (spN n w 2))), some (.int (nI 0)), some (.int (nI x)), some (.int (nI y)), some (.int (nI z))] [.int (bI (lbT w i n c e x y z = true))] S G (upr (upr w_ (a + 4) (upd (w_ (a + 4)) 2 (nI z))) (a + 5) w5) J R _
              refine cr_beq (t := 111) d_2_105 (by decide) (fun c105 => ?_) (fun c105 => ?_)
              · refine cr_nx (pc' := 113) (al' := [some (.ref a), some (.ref l), some (.int (nI 1)), some (.int (nI (spN n w 0))), some (.int (nI (spN n w 1))), some (.int (nI (spN n w 2))), some (.int (nI 0)), some (.int (nI x)), some (.int (nI y)), some (.int (nI z))]) (st' := [.int (nI 0)]) d_2_111 (fun _ => rfl) ?_
                refine cr_nx (pc' := 114) (al' := [some (.ref a), some (.ref l), some (.int (nI 1)), some (.int (nI (spN n w 0))), some (.int (nI (spN n w 1))), some (.int (nI (spN n w 2))), some (.int (nI 0)), some (.int (nI x)), some (.int (nI y)), some (.int (nI z))]) (st' := [.int (nI 1), .int (nI 0)]) d_2_113 (fun _ => rfl) ?_
                refine cn_clt (t := 120) d_2_114 (by decide) (by first | omega | assumption | exact cu_36 (by omega) (cu_lt (by omega) (by omega))) (by first | omega | assumption | exact cu_36 (by omega) (cu_lt (by omega) (by omega))) (fun c114 => ?_) (fun c114 => ?_)
                · refine cn_inc d_2_120 rfl rfl ?_
                  show CR _ _ 123 [some (.ref a), some (.ref l), some (.int (nI 1)), some (.int (nI (spN n w 0))), some (.int (nI (spN n w 1))), some (.int (nI (spN n w 2))), some (.int (nI 0)), some (.int (nI x)), some (.int (nI y)), some (.int (nI (z + 1)))] [] S G (upr (upr w_ (a + 4) (upd (w_ (a + 4)) 2 (nI z))) (a + 5) w5) J R _
                  refine cr_nx (pc' := 85) (al' := [some (.ref a), some (.ref l), some (.int (nI 1)), some (.int (nI (spN n w 0))), some (.int (nI (spN n w 1))), some (.int (nI (spN n w 2))), some (.int (nI 0)), some (.int (nI x)), some (.int (nI y)), some (.int (nI (z + 1)))]) (st' := []) d_2_123 (fun _ => rfl) ?_
                  exact ihz (upr (upr w_ (a + 4) (upd (w_ (a + 4)) 2 (nI z))) (a + 5) w5) (⟨(pz.1.v (k := 2) (v := nI z) (by decide)).s, vs_n (vu_n (by decide) pz.2.1), vs_n (vu_n (by decide) pz.2.2.1), all_s (p := fun r => lbT w i n c e x y r = false) pz.2.2.2 (Bool.eq_false_iff.mpr c105)⟩)
                · omega
              · refine cn_inc d_2_108 rfl rfl ?_
                show CR _ _ 111 [some (.ref a), some (.ref l), some (.int (nI 1)), some (.int (nI (spN n w 0))), some (.int (nI (spN n w 1))), some (.int (nI (spN n w 2))), some (.int (nI 1)), some (.int (nI x)), some (.int (nI y)), some (.int (nI z))] [] S G (upr (upr w_ (a + 4) (upd (w_ (a + 4)) 2 (nI z))) (a + 5) w5) J R _
                refine cr_nx (pc' := 113) (al' := [some (.ref a), some (.ref l), some (.int (nI 1)), some (.int (nI (spN n w 0))), some (.int (nI (spN n w 1))), some (.int (nI (spN n w 2))), some (.int (nI 1)), some (.int (nI x)), some (.int (nI y)), some (.int (nI z))]) (st' := [.int (nI 1)]) d_2_111 (fun _ => rfl) ?_
                refine cr_nx (pc' := 114) (al' := [some (.ref a), some (.ref l), some (.int (nI 1)), some (.int (nI (spN n w 0))), some (.int (nI (spN n w 1))), some (.int (nI (spN n w 2))), some (.int (nI 1)), some (.int (nI x)), some (.int (nI y)), some (.int (nI z))]) (st' := [.int (nI 1), .int (nI 1)]) d_2_113 (fun _ => rfl) ?_
                refine cn_clt (t := 120) d_2_114 (by decide) (by first | omega | assumption | exact cu_36 (by omega) (cu_lt (by omega) (by omega))) (by first | omega | assumption | exact cu_36 (by omega) (cu_lt (by omega) (by omega))) (fun c114 => ?_) (fun c114 => ?_)
                · omega
                · refine cr_nx (pc' := 119) (al' := [some (.ref a), some (.ref l), some (.int (nI 1)), some (.int (nI (spN n w 0))), some (.int (nI (spN n w 1))), some (.int (nI (spN n w 2))), some (.int (nI 1)), some (.int (nI x)), some (.int (nI y)), some (.int (nI z))]) (st' := [.int (nI 1)]) d_2_117 (fun _ => rfl) ?_
                  exact cr_ri d_2_119 cx_2 rfl ⟨⟨rfl, rfl, rfl, rfl⟩, (pz.1.v (k := 2) (v := nI z) (by decide)).s, Or.inr ⟨rfl, x, y, z, ⟨⟨hx, hy, hz⟩, c105, px.2, py.2.2, pz.2.2.2⟩, vs_n (vu_n (by decide) pz.2.1), vs_n (vu_n (by decide) pz.2.2.1), vs_n vu_s⟩⟩
          · show CR _ _ 85 [some (.ref a), some (.ref l), some (.int (nI 1)), some (.int (nI (spN n w 0))), some (.int (nI (spN n w 1))), some (.int (nI (spN n w 2))), some (.int (nI 0)), some (.int (nI x)), some (.int (nI y)), some (.int (nI (spN n w 2)))] [] S G w_ J R _
            refine cr_nx (pc' := 87) (al' := [some (.ref a), some (.ref l), some (.int (nI 1)), some (.int (nI (spN n w 0))), some (.int (nI (spN n w 1))), some (.int (nI (spN n w 2))), some (.int (nI 0)), some (.int (nI x)), some (.int (nI y)), some (.int (nI (spN n w 2)))]) (st' := [.int (nI (spN n w 2))]) d_2_85 (fun _ => rfl) ?_
            refine cr_nx (pc' := 89) (al' := [some (.ref a), some (.ref l), some (.int (nI 1)), some (.int (nI (spN n w 0))), some (.int (nI (spN n w 1))), some (.int (nI (spN n w 2))), some (.int (nI 0)), some (.int (nI x)), some (.int (nI y)), some (.int (nI (spN n w 2)))]) (st' := [.int (nI (spN n w 2)), .int (nI (spN n w 2))]) d_2_87 (fun _ => rfl) ?_
            refine cn_cge (t := 126) d_2_89 (by decide) (by first | omega | assumption | exact cu_36 (by omega) (cu_lt (by omega) (by omega))) (by first | omega | assumption | exact cu_36 (by omega) (cu_lt (by omega) (by omega))) (fun c89 => ?_) (fun c89 => ?_)
            · refine cn_inc d_2_126 rfl rfl ?_
              show CR _ _ 129 [some (.ref a), some (.ref l), some (.int (nI 1)), some (.int (nI (spN n w 0))), some (.int (nI (spN n w 1))), some (.int (nI (spN n w 2))), some (.int (nI 0)), some (.int (nI x)), some (.int (nI (y + 1))), some (.int (nI (spN n w 2)))] [] S G w_ J R _
              refine cr_nx (pc' := 67) (al' := [some (.ref a), some (.ref l), some (.int (nI 1)), some (.int (nI (spN n w 0))), some (.int (nI (spN n w 1))), some (.int (nI (spN n w 2))), some (.int (nI 0)), some (.int (nI x)), some (.int (nI (y + 1))), some (.int (nI (spN n w 2)))]) (st' := []) d_2_129 (fun _ => rfl) ?_
              refine cr_dr (al1 := [some (.ref a), some (.ref l), some (.int (nI 1)), some (.int (nI (spN n w 0))), some (.int (nI (spN n w 1))), some (.int (nI (spN n w 2))), some (.int (nI 0)), some (.int (nI x)), some (.int (nI (y + 1))), none]) (le_s (le_s (le_s (le_s (le_s (le_s (le_s (le_s (le_s (le_d rfl (le_n))))))))))) ?_
              exact ihy w_ (⟨pz.1, pz.2.1, all_s (p := fun q => ∀ r, r < spN n w 2 → lbT w i n c e x q r = false) py.2.2 pz.2.2.2⟩)
            · omega
      · show CR _ _ 67 [some (.ref a), some (.ref l), some (.int (nI 1)), some (.int (nI (spN n w 0))), some (.int (nI (spN n w 1))), some (.int (nI (spN n w 2))), some (.int (nI 0)), some (.int (nI x)), some (.int (nI (spN n w 1))), none] [] S G w_ J R _
        refine cr_nx (pc' := 69) (al' := [some (.ref a), some (.ref l), some (.int (nI 1)), some (.int (nI (spN n w 0))), some (.int (nI (spN n w 1))), some (.int (nI (spN n w 2))), some (.int (nI 0)), some (.int (nI x)), some (.int (nI (spN n w 1))), none]) (st' := [.int (nI (spN n w 1))]) d_2_67 (fun _ => rfl) ?_
        refine cr_nx (pc' := 71) (al' := [some (.ref a), some (.ref l), some (.int (nI 1)), some (.int (nI (spN n w 0))), some (.int (nI (spN n w 1))), some (.int (nI (spN n w 2))), some (.int (nI 0)), some (.int (nI x)), some (.int (nI (spN n w 1))), none]) (st' := [.int (nI (spN n w 1)), .int (nI (spN n w 1))]) d_2_69 (fun _ => rfl) ?_
        refine cn_cge (t := 132) d_2_71 (by decide) (by first | omega | assumption | exact cu_36 (by omega) (cu_lt (by omega) (by omega))) (by first | omega | assumption | exact cu_36 (by omega) (cu_lt (by omega) (by omega))) (fun c71 => ?_) (fun c71 => ?_)
        · refine cn_inc d_2_132 rfl rfl ?_
          show CR _ _ 135 [some (.ref a), some (.ref l), some (.int (nI 1)), some (.int (nI (spN n w 0))), some (.int (nI (spN n w 1))), some (.int (nI (spN n w 2))), some (.int (nI 0)), some (.int (nI (x + 1))), some (.int (nI (spN n w 1))), none] [] S G w_ J R _
          refine cr_nx (pc' := 50) (al' := [some (.ref a), some (.ref l), some (.int (nI 1)), some (.int (nI (spN n w 0))), some (.int (nI (spN n w 1))), some (.int (nI (spN n w 2))), some (.int (nI 0)), some (.int (nI (x + 1))), some (.int (nI (spN n w 1))), none]) (st' := []) d_2_135 (fun _ => rfl) ?_
          refine cr_dr (al1 := [some (.ref a), some (.ref l), some (.int (nI 1)), some (.int (nI (spN n w 0))), some (.int (nI (spN n w 1))), some (.int (nI (spN n w 2))), some (.int (nI 0)), some (.int (nI (x + 1))), none, none]) (le_s (le_s (le_s (le_s (le_s (le_s (le_s (le_s (le_d rfl (le_s (le_n))))))))))) ?_
          exact ihx w_ (⟨py.1, all_s (p := fun p => ∀ q, q < spN n w 1 → ∀ r, r < spN n w 2 → lbT w i n c e p q r = false) px.2 py.2.2⟩)
        · omega
  · show CR _ _ 50 [some (.ref a), some (.ref l), some (.int (nI 1)), some (.int (nI (spN n w 0))), some (.int (nI (spN n w 1))), some (.int (nI (spN n w 2))), some (.int (nI 0)), some (.int (nI (spN n w 0))), none, none] [] S G w_ J R _
    have s0 := sp_6 (k := 0) (w := w) hn6
    have s1 := sp_6 (k := 1) (w := w) hn6
    have s2 := sp_6 (k := 2) (w := w) hn6
    refine cr_nx (pc' := 52) (al' := [some (.ref a), some (.ref l), some (.int (nI 1)), some (.int (nI (spN n w 0))), some (.int (nI (spN n w 1))), some (.int (nI (spN n w 2))), some (.int (nI 0)), some (.int (nI (spN n w 0))), none, none]) (st' := [.int (nI (spN n w 0))]) d_2_50 (fun _ => rfl) ?_
    refine cr_nx (pc' := 53) (al' := [some (.ref a), some (.ref l), some (.int (nI 1)), some (.int (nI (spN n w 0))), some (.int (nI (spN n w 1))), some (.int (nI (spN n w 2))), some (.int (nI 0)), some (.int (nI (spN n w 0))), none, none]) (st' := [.int (nI (spN n w 0)), .int (nI (spN n w 0))]) d_2_52 (fun _ => rfl) ?_
    refine cn_cge (t := 138) d_2_53 (by decide) (by first | omega | assumption | exact cu_36 (by omega) (cu_lt (by omega) (by omega))) (by first | omega | assumption | exact cu_36 (by omega) (cu_lt (by omega) (by omega))) (fun c53 => ?_) (fun c53 => ?_)
    · refine cr_nx (pc' := 140) (al' := [some (.ref a), some (.ref l), some (.int (nI 1)), some (.int (nI (spN n w 0))), some (.int (nI (spN n w 1))), some (.int (nI (spN n w 2))), some (.int (nI 0)), some (.int (nI (spN n w 0))), none, none]) (st' := [.int (nI 0)]) d_2_138 (fun _ => rfl) ?_
      exact cr_ri d_2_140 cx_2 rfl ⟨⟨rfl, rfl, rfl, rfl⟩, px.1, Or.inl ⟨rfl, px.2⟩⟩
    · omega
theorem k_flN {S : CS} {G : Nat → Nat → Value} {B : Nat → Nat → Int32} {J : Nat → Nat → Int64} {R : Nat → Nat → Option Nat} {a m n l i e : Nat} {c : Nat → Nat} {w : List Nat} (hn6 : n ≤ 6) (h1n : 1 ≤ n) (hl : Lat n c) (he : e < n) (hla : l ≠ a) (hln : l + 1 ≠ a + 2 ∧ l + 1 ≠ a + 3 ∧ l + 1 ≠ a + 4 ∧ l + 1 ≠ a + 5) (hmn : m ≠ a + 2 ∧ m ≠ a + 3 ∧ m ≠ a + 4 ∧ m ≠ a + 5) (hV : CdOk w i) (hL : CkL S G B a m n c e) (hLw : LawAt S G B l w i) (hD : 5 ∈ w ∨ 6 ∈ w → DvB B a n c) : CR 3 2 21 [some (.ref a), some (.ref l), some (.int (nI 216)), none, none, none, none, none, none, none] [] S G B J R (fun r S' G' B' J' R' => (S' = S ∧ G' = G ∧ J' = J ∧ R' = R) ∧ FlB B a e B' ∧ r = some (.int (nI (f3N (lbT w i n c e) (spN n w 1) (spN n w 2) (spN n w 0))))) := by
  have hC := hL.1
  have hn := hL.2.1
  have hm1 := hL.2.2.1
  have hm := hL.2.2.2.1
  have hu := hV.us
  refine cr_nx (pc' := 22) (al' := [some (.ref a), some (.ref l), some (.int (nI 216)), none, none, none, none, none, none, none]) (st' := [.ref a]) d_2_21 (fun _ => rfl) ?_
  refine cr_nx (pc' := 23) (al' := [some (.ref a), some (.ref l), some (.int (nI 216)), none, none, none, none, none, none, none]) (st' := [.ref l, .ref a]) d_2_22 (fun _ => rfl) ?_
  refine cn_ic (v := 0) d_2_23 (by decide) ?_
  refine cr_pv (b := a) (as := [.ref l, .int (nI 0)]) (al0 := [some (.ref a), some (.ref l), some (.int (nI 0))]) (r := []) d_2_24 cw_2 cm_0_59 cz_4 rfl rfl hC.1.1 (by rw [cw_4]; exact hC.1.2) (by rw [cw_4]; decide) rfl (Nat.le_of_ble_eq_true rfl) (k_span hC hn hLw (by decide) hu) ?_
  show CR _ _ 27 [some (.ref a), some (.ref l), some (.int (nI 216)), none, none, none, none, none, none, none] [.int (nI (spN n w 0))] S G B J R _
  refine cr_nx (pc' := 28) (al' := [some (.ref a), some (.ref l), some (.int (nI 216)), some (.int (nI (spN n w 0))), none, none, none, none, none, none]) (st' := []) d_2_27 (fun _ => rfl) ?_
  refine cr_nx (pc' := 29) (al' := [some (.ref a), some (.ref l), some (.int (nI 216)), some (.int (nI (spN n w 0))), none, none, none, none, none, none]) (st' := [.ref a]) d_2_28 (fun _ => rfl) ?_
  refine cr_nx (pc' := 30) (al' := [some (.ref a), some (.ref l), some (.int (nI 216)), some (.int (nI (spN n w 0))), none, none, none, none, none, none]) (st' := [.ref l, .ref a]) d_2_29 (fun _ => rfl) ?_
  refine cn_ic (v := 1) d_2_30 (by decide) ?_
  refine cr_pv (b := a) (as := [.ref l, .int (nI 1)]) (al0 := [some (.ref a), some (.ref l), some (.int (nI 1))]) (r := []) d_2_31 cw_2 cm_0_59 cz_4 rfl rfl hC.1.1 (by rw [cw_4]; exact hC.1.2) (by rw [cw_4]; decide) rfl (Nat.le_of_ble_eq_true rfl) (k_span hC hn hLw (by decide) hu) ?_
  show CR _ _ 34 [some (.ref a), some (.ref l), some (.int (nI 216)), some (.int (nI (spN n w 0))), none, none, none, none, none, none] [.int (nI (spN n w 1))] S G B J R _
  refine cr_nx (pc' := 36) (al' := [some (.ref a), some (.ref l), some (.int (nI 216)), some (.int (nI (spN n w 0))), some (.int (nI (spN n w 1))), none, none, none, none, none]) (st' := []) d_2_34 (fun _ => rfl) ?_
  refine cr_nx (pc' := 37) (al' := [some (.ref a), some (.ref l), some (.int (nI 216)), some (.int (nI (spN n w 0))), some (.int (nI (spN n w 1))), none, none, none, none, none]) (st' := [.ref a]) d_2_36 (fun _ => rfl) ?_
  refine cr_nx (pc' := 38) (al' := [some (.ref a), some (.ref l), some (.int (nI 216)), some (.int (nI (spN n w 0))), some (.int (nI (spN n w 1))), none, none, none, none, none]) (st' := [.ref l, .ref a]) d_2_37 (fun _ => rfl) ?_
  refine cn_ic (v := 2) d_2_38 (by decide) ?_
  refine cr_pv (b := a) (as := [.ref l, .int (nI 2)]) (al0 := [some (.ref a), some (.ref l), some (.int (nI 2))]) (r := []) d_2_39 cw_2 cm_0_59 cz_4 rfl rfl hC.1.1 (by rw [cw_4]; exact hC.1.2) (by rw [cw_4]; decide) rfl (Nat.le_of_ble_eq_true rfl) (k_span hC hn hLw (by decide) hu) ?_
  show CR _ _ 42 [some (.ref a), some (.ref l), some (.int (nI 216)), some (.int (nI (spN n w 0))), some (.int (nI (spN n w 1))), none, none, none, none, none] [.int (nI (spN n w 2))] S G B J R _
  refine cr_nx (pc' := 44) (al' := [some (.ref a), some (.ref l), some (.int (nI 216)), some (.int (nI (spN n w 0))), some (.int (nI (spN n w 1))), some (.int (nI (spN n w 2))), none, none, none, none]) (st' := []) d_2_42 (fun _ => rfl) ?_
  refine cn_ic (v := 0) d_2_44 (by decide) ?_
  refine cr_nx (pc' := 47) (al' := [some (.ref a), some (.ref l), some (.int (nI 216)), some (.int (nI (spN n w 0))), some (.int (nI (spN n w 1))), some (.int (nI (spN n w 2))), some (.int (nI 0)), none, none, none]) (st' := []) d_2_45 (fun _ => rfl) ?_
  refine cn_ic (v := 0) d_2_47 (by decide) ?_
  refine cr_nx (pc' := 50) (al' := [some (.ref a), some (.ref l), some (.int (nI 216)), some (.int (nI (spN n w 0))), some (.int (nI (spN n w 1))), some (.int (nI (spN n w 2))), some (.int (nI 0)), some (.int (nI 0)), none, none]) (st' := []) d_2_48 (fun _ => rfl) ?_
  refine cr_al (congrArg (fun z__ : Nat => ([some (.ref a), some (.ref l), some (.int (nI 216)), some (.int (nI (spN n w 0))), some (.int (nI (spN n w 1))), some (.int (nI (spN n w 2))), some (.int (nI z__)), some (.int (nI 0)), none, none] : AL)) (show 0 = f3N (lbT w i n c e) (spN n w 1) (spN n w 2) 0 by rfl)) ?_
  refine cr_upw (al := fun x w_ => [some (.ref a), some (.ref l), some (.int (nI 216)), some (.int (nI (spN n w 0))), some (.int (nI (spN n w 1))), some (.int (nI (spN n w 2))), some (.int (nI (f3N (lbT w i n c e) (spN n w 1) (spN n w 2) x))), some (.int (nI x)), none, none]) (S := fun x w_ => S) (G := fun x w_ => G) (B := fun x w_ => w_) (J := fun x w_ => J) (R := fun x w_ => R) (P := fun x w_ => FlB B a e w_ ∧ (0 ≤ x)) (n := spN n w 0) (fun x w_ hx px ihx => ?_) (fun w_ px => ?_) 0 B (by omega) (⟨⟨Bfr.rf, hL.2.2.2.2.2.1⟩, Nat.zero_le _⟩)
  · show CR _ _ 50 [some (.ref a), some (.ref l), some (.int (nI 216)), some (.int (nI (spN n w 0))), some (.int (nI (spN n w 1))), some (.int (nI (spN n w 2))), some (.int (nI (f3N (lbT w i n c e) (spN n w 1) (spN n w 2) x))), some (.int (nI x)), none, none] [] S G w_ J R _
    have s0 := sp_6 (k := 0) (w := w) hn6
    have s1 := sp_6 (k := 1) (w := w) hn6
    have s2 := sp_6 (k := 2) (w := w) hn6
    refine cr_nx (pc' := 52) (al' := [some (.ref a), some (.ref l), some (.int (nI 216)), some (.int (nI (spN n w 0))), some (.int (nI (spN n w 1))), some (.int (nI (spN n w 2))), some (.int (nI (f3N (lbT w i n c e) (spN n w 1) (spN n w 2) x))), some (.int (nI x)), none, none]) (st' := [.int (nI x)]) d_2_50 (fun _ => rfl) ?_
    refine cr_nx (pc' := 53) (al' := [some (.ref a), some (.ref l), some (.int (nI 216)), some (.int (nI (spN n w 0))), some (.int (nI (spN n w 1))), some (.int (nI (spN n w 2))), some (.int (nI (f3N (lbT w i n c e) (spN n w 1) (spN n w 2) x))), some (.int (nI x)), none, none]) (st' := [.int (nI (spN n w 0)), .int (nI x)]) d_2_52 (fun _ => rfl) ?_
    refine cn_cge (t := 138) d_2_53 (by decide) (by first | omega | assumption | exact cu_36 (by omega) (cu_lt (by omega) (by omega))) (by first | omega | assumption | exact cu_36 (by omega) (cu_lt (by omega) (by omega))) (fun c53 => ?_) (fun c53 => ?_)
    · omega
    · refine cr_nx (pc' := 57) (al' := [some (.ref a), some (.ref l), some (.int (nI 216)), some (.int (nI (spN n w 0))), some (.int (nI (spN n w 1))), some (.int (nI (spN n w 2))), some (.int (nI (f3N (lbT w i n c e) (spN n w 1) (spN n w 2) x))), some (.int (nI x)), none, none]) (st' := [.ref a]) d_2_56 (fun _ => rfl) ?_
      refine cr_gf (v := .ref (a + 4)) d_2_57 cw_2 cf_0_23 hC.1.1 hC.1.2 (by decide) hC.2.2.2.2.2.2.2.1 ?_
      refine cn_ic (v := 0) d_2_60 (by decide) ?_
      refine cr_nx (pc' := 63) (al' := [some (.ref a), some (.ref l), some (.int (nI 216)), some (.int (nI (spN n w 0))), some (.int (nI (spN n w 1))), some (.int (nI (spN n w 2))), some (.int (nI (f3N (lbT w i n c e) (spN n w 1) (spN n w 2) x))), some (.int (nI x)), none, none]) (st' := [.int (nI x), .int (nI 0), .ref (a + 4)]) d_2_61 (fun _ => rfl) ?_
      refine cr_iS (a := (a + 4)) (B1 := (upr w_ (a + 4) (upd (w_ (a + 4)) 0 (nI x)))) d_2_63 hC.2.2.2.1.1 hC.2.2.2.1.2 (by first | decide | omega) (show 0 < 4 by first | omega | assumption | exact cu_36 (by omega) (cu_lt (by omega) (by omega))) rfl ?_
      refine cn_ic (v := 0) d_2_64 (by decide) ?_
      refine cr_nx (pc' := 67) (al' := [some (.ref a), some (.ref l), some (.int (nI 216)), some (.int (nI (spN n w 0))), some (.int (nI (spN n w 1))), some (.int (nI (spN n w 2))), some (.int (nI (f3N (lbT w i n c e) (spN n w 1) (spN n w 2) x))), some (.int (nI x)), some (.int (nI 0)), none]) (st' := []) d_2_65 (fun _ => rfl) ?_
      refine cr_al (congrArg (fun z__ : Nat => ([some (.ref a), some (.ref l), some (.int (nI 216)), some (.int (nI (spN n w 0))), some (.int (nI (spN n w 1))), some (.int (nI (spN n w 2))), some (.int (nI z__)), some (.int (nI x)), some (.int (nI 0)), none] : AL)) (show f3N (lbT w i n c e) (spN n w 1) (spN n w 2) x = f3N (lbT w i n c e) (spN n w 1) (spN n w 2) x + f2N (lbT w i n c e) (spN n w 2) x 0 by rfl)) ?_
      refine cr_upw (al := fun y w_ => [some (.ref a), some (.ref l), some (.int (nI 216)), some (.int (nI (spN n w 0))), some (.int (nI (spN n w 1))), some (.int (nI (spN n w 2))), some (.int (nI (f3N (lbT w i n c e) (spN n w 1) (spN n w 2) x + f2N (lbT w i n c e) (spN n w 2) x y))), some (.int (nI x)), some (.int (nI y)), none]) (S := fun y w_ => S) (G := fun y w_ => G) (B := fun y w_ => w_) (J := fun y w_ => J) (R := fun y w_ => R) (P := fun y w_ => FlB B a e w_ ∧ w_ (a + 4) 0 = nI x ∧ (0 ≤ y)) (n := spN n w 1) (fun y w_ hy py ihy => ?_) (fun w_ py => ?_) 0 (upr w_ (a + 4) (upd (w_ (a + 4)) 0 (nI x))) (by omega) (⟨px.1.v (by decide), vu_s, Nat.zero_le _⟩)
      · show CR _ _ 67 [some (.ref a), some (.ref l), some (.int (nI 216)), some (.int (nI (spN n w 0))), some (.int (nI (spN n w 1))), some (.int (nI (spN n w 2))), some (.int (nI (f3N (lbT w i n c e) (spN n w 1) (spN n w 2) x + f2N (lbT w i n c e) (spN n w 2) x y))), some (.int (nI x)), some (.int (nI y)), none] [] S G w_ J R _
        refine cr_nx (pc' := 69) (al' := [some (.ref a), some (.ref l), some (.int (nI 216)), some (.int (nI (spN n w 0))), some (.int (nI (spN n w 1))), some (.int (nI (spN n w 2))), some (.int (nI (f3N (lbT w i n c e) (spN n w 1) (spN n w 2) x + f2N (lbT w i n c e) (spN n w 2) x y))), some (.int (nI x)), some (.int (nI y)), none]) (st' := [.int (nI y)]) d_2_67 (fun _ => rfl) ?_
        refine cr_nx (pc' := 71) (al' := [some (.ref a), some (.ref l), some (.int (nI 216)), some (.int (nI (spN n w 0))), some (.int (nI (spN n w 1))), some (.int (nI (spN n w 2))), some (.int (nI (f3N (lbT w i n c e) (spN n w 1) (spN n w 2) x + f2N (lbT w i n c e) (spN n w 2) x y))), some (.int (nI x)), some (.int (nI y)), none]) (st' := [.int (nI (spN n w 1)), .int (nI y)]) d_2_69 (fun _ => rfl) ?_
        refine cn_cge (t := 132) d_2_71 (by decide) (by first | omega | assumption | exact cu_36 (by omega) (cu_lt (by omega) (by omega))) (by first | omega | assumption | exact cu_36 (by omega) (cu_lt (by omega) (by omega))) (fun c71 => ?_) (fun c71 => ?_)
        · omega
        · refine cr_nx (pc' := 75) (al' := [some (.ref a), some (.ref l), some (.int (nI 216)), some (.int (nI (spN n w 0))), some (.int (nI (spN n w 1))), some (.int (nI (spN n w 2))), some (.int (nI (f3N (lbT w i n c e) (spN n w 1) (spN n w 2) x + f2N (lbT w i n c e) (spN n w 2) x y))), some (.int (nI x)), some (.int (nI y)), none]) (st' := [.ref a]) d_2_74 (fun _ => rfl) ?_
          refine cr_gf (v := .ref (a + 4)) d_2_75 cw_2 cf_0_23 hC.1.1 hC.1.2 (by decide) hC.2.2.2.2.2.2.2.1 ?_
          refine cn_ic (v := 1) d_2_78 (by decide) ?_
          refine cr_nx (pc' := 81) (al' := [some (.ref a), some (.ref l), some (.int (nI 216)), some (.int (nI (spN n w 0))), some (.int (nI (spN n w 1))), some (.int (nI (spN n w 2))), some (.int (nI (f3N (lbT w i n c e) (spN n w 1) (spN n w 2) x + f2N (lbT w i n c e) (spN n w 2) x y))), some (.int (nI x)), some (.int (nI y)), none]) (st' := [.int (nI y), .int (nI 1), .ref (a + 4)]) d_2_79 (fun _ => rfl) ?_
          refine cr_iS (a := (a + 4)) (B1 := (upr w_ (a + 4) (upd (w_ (a + 4)) 1 (nI y)))) d_2_81 hC.2.2.2.1.1 hC.2.2.2.1.2 (by first | decide | omega) (show 1 < 4 by first | omega | assumption | exact cu_36 (by omega) (cu_lt (by omega) (by omega))) rfl ?_
          refine cn_ic (v := 0) d_2_82 (by decide) ?_
          refine cr_nx (pc' := 85) (al' := [some (.ref a), some (.ref l), some (.int (nI 216)), some (.int (nI (spN n w 0))), some (.int (nI (spN n w 1))), some (.int (nI (spN n w 2))), some (.int (nI (f3N (lbT w i n c e) (spN n w 1) (spN n w 2) x + f2N (lbT w i n c e) (spN n w 2) x y))), some (.int (nI x)), some (.int (nI y)), some (.int (nI 0))]) (st' := []) d_2_83 (fun _ => rfl) ?_
          refine cr_al (congrArg (fun z__ : Nat => ([some (.ref a), some (.ref l), some (.int (nI 216)), some (.int (nI (spN n w 0))), some (.int (nI (spN n w 1))), some (.int (nI (spN n w 2))), some (.int (nI z__)), some (.int (nI x)), some (.int (nI y)), some (.int (nI 0))] : AL)) (show f3N (lbT w i n c e) (spN n w 1) (spN n w 2) x + f2N (lbT w i n c e) (spN n w 2) x y = f3N (lbT w i n c e) (spN n w 1) (spN n w 2) x + f2N (lbT w i n c e) (spN n w 2) x y + f1N (lbT w i n c e) x y 0 by rfl)) ?_
          refine cr_upw (al := fun z w_ => [some (.ref a), some (.ref l), some (.int (nI 216)), some (.int (nI (spN n w 0))), some (.int (nI (spN n w 1))), some (.int (nI (spN n w 2))), some (.int (nI (f3N (lbT w i n c e) (spN n w 1) (spN n w 2) x + f2N (lbT w i n c e) (spN n w 2) x y + f1N (lbT w i n c e) x y z))), some (.int (nI x)), some (.int (nI y)), some (.int (nI z))]) (S := fun z w_ => S) (G := fun z w_ => G) (B := fun z w_ => w_) (J := fun z w_ => J) (R := fun z w_ => R) (P := fun z w_ => FlB B a e w_ ∧ w_ (a + 4) 0 = nI x ∧ w_ (a + 4) 1 = nI y ∧ (0 ≤ z)) (n := spN n w 2) (fun z w_ hz pz ihz => ?_) (fun w_ pz => ?_) 0 (upr w_ (a + 4) (upd (w_ (a + 4)) 1 (nI y))) (by omega) (⟨py.1.v (by decide), vu_n (by decide) py.2.1, vu_s, Nat.zero_le _⟩)
          · show CR _ _ 85 [some (.ref a), some (.ref l), some (.int (nI 216)), some (.int (nI (spN n w 0))), some (.int (nI (spN n w 1))), some (.int (nI (spN n w 2))), some (.int (nI (f3N (lbT w i n c e) (spN n w 1) (spN n w 2) x + f2N (lbT w i n c e) (spN n w 2) x y + f1N (lbT w i n c e) x y z))), some (.int (nI x)), some (.int (nI y)), some (.int (nI z))] [] S G w_ J R _
            have hfl := f_le (br := lbT w i n c e) hx hy (show z + 1 ≤ spN n w 2 from hz)
            have h216 := f_216 (br := lbT w i n c e) s0 s1 s2
            refine cr_nx (pc' := 87) (al' := [some (.ref a), some (.ref l), some (.int (nI 216)), some (.int (nI (spN n w 0))), some (.int (nI (spN n w 1))), some (.int (nI (spN n w 2))), some (.int (nI (f3N (lbT w i n c e) (spN n w 1) (spN n w 2) x + f2N (lbT w i n c e) (spN n w 2) x y + f1N (lbT w i n c e) x y z))), some (.int (nI x)), some (.int (nI y)), some (.int (nI z))]) (st' := [.int (nI z)]) d_2_85 (fun _ => rfl) ?_
            refine cr_nx (pc' := 89) (al' := [some (.ref a), some (.ref l), some (.int (nI 216)), some (.int (nI (spN n w 0))), some (.int (nI (spN n w 1))), some (.int (nI (spN n w 2))), some (.int (nI (f3N (lbT w i n c e) (spN n w 1) (spN n w 2) x + f2N (lbT w i n c e) (spN n w 2) x y + f1N (lbT w i n c e) x y z))), some (.int (nI x)), some (.int (nI y)), some (.int (nI z))]) (st' := [.int (nI (spN n w 2)), .int (nI z)]) d_2_87 (fun _ => rfl) ?_
            refine cn_cge (t := 126) d_2_89 (by decide) (by first | omega | assumption | exact cu_36 (by omega) (cu_lt (by omega) (by omega))) (by first | omega | assumption | exact cu_36 (by omega) (cu_lt (by omega) (by omega))) (fun c89 => ?_) (fun c89 => ?_)
            · omega
            · refine cr_nx (pc' := 93) (al' := [some (.ref a), some (.ref l), some (.int (nI 216)), some (.int (nI (spN n w 0))), some (.int (nI (spN n w 1))), some (.int (nI (spN n w 2))), some (.int (nI (f3N (lbT w i n c e) (spN n w 1) (spN n w 2) x + f2N (lbT w i n c e) (spN n w 2) x y + f1N (lbT w i n c e) x y z))), some (.int (nI x)), some (.int (nI y)), some (.int (nI z))]) (st' := [.ref a]) d_2_92 (fun _ => rfl) ?_
              refine cr_gf (v := .ref (a + 4)) d_2_93 cw_2 cf_0_23 hC.1.1 hC.1.2 (by decide) hC.2.2.2.2.2.2.2.1 ?_
              refine cn_ic (v := 2) d_2_96 (by decide) ?_
              refine cr_nx (pc' := 99) (al' := [some (.ref a), some (.ref l), some (.int (nI 216)), some (.int (nI (spN n w 0))), some (.int (nI (spN n w 1))), some (.int (nI (spN n w 2))), some (.int (nI (f3N (lbT w i n c e) (spN n w 1) (spN n w 2) x + f2N (lbT w i n c e) (spN n w 2) x y + f1N (lbT w i n c e) x y z))), some (.int (nI x)), some (.int (nI y)), some (.int (nI z))]) (st' := [.int (nI z), .int (nI 2), .ref (a + 4)]) d_2_97 (fun _ => rfl) ?_
              refine cr_iS (a := (a + 4)) (B1 := (upr w_ (a + 4) (upd (w_ (a + 4)) 2 (nI z)))) d_2_99 hC.2.2.2.1.1 hC.2.2.2.1.2 (by first | decide | omega) (show 2 < 4 by first | omega | assumption | exact cu_36 (by omega) (cu_lt (by omega) (by omega))) rfl ?_
              refine cr_nx (pc' := 101) (al' := [some (.ref a), some (.ref l), some (.int (nI 216)), some (.int (nI (spN n w 0))), some (.int (nI (spN n w 1))), some (.int (nI (spN n w 2))), some (.int (nI (f3N (lbT w i n c e) (spN n w 1) (spN n w 2) x + f2N (lbT w i n c e) (spN n w 2) x y + f1N (lbT w i n c e) x y z))), some (.int (nI x)), some (.int (nI y)), some (.int (nI z))]) (st' := [.ref a]) d_2_100 (fun _ => rfl) ?_
              refine cr_nx (pc' := 102) (al' := [some (.ref a), some (.ref l), some (.int (nI 216)), some (.int (nI (spN n w 0))), some (.int (nI (spN n w 1))), some (.int (nI (spN n w 2))), some (.int (nI (f3N (lbT w i n c e) (spN n w 1) (spN n w 2) x + f2N (lbT w i n c e) (spN n w 2) x y + f1N (lbT w i n c e) x y z))), some (.int (nI x)), some (.int (nI y)), some (.int (nI z))]) (st' := [.ref l, .ref a]) d_2_101 (fun _ => rfl) ?_
              refine cr_cv (b := a) (as := [.ref l]) (al0 := [some (.ref a), some (.ref l)]) (r := []) d_2_102 cw_2 cm_0_63 cz_5 rfl rfl hC.1.1 (by rw [cw_5]; exact hC.1.2) (by rw [cw_5]; decide) rfl (cr_wk (Nat.le_of_ble_eq_true rfl) (k_isBroken (vl := vlF x y z e) (jn := jnW n c) hC hn hm1 hm hn6 (hLw.cg rfl ((pz.1.v (k := 2) (v := nI z) (by decide)).r hln.2.2.1 hln.2.2.2)) hln.2.2.2 hmn.2.2.2 hV.1 hV.2.1 hV.2.2.1 hV.2.2.2.1 hV.2.2.2.2 (fl_ck hl (sp_lt h1n hx) (sp_lt h1n hy) (sp_lt h1n hz) he hmn hL.2.2.2.2.2.2 hD pz.1 pz.2.1 pz.2.2.1))) (fun v1 S1 G1 B1 J1 R1 h1 => ?_)
              obtain ⟨q0_, q1_, q2_, q3_, q4_, w5, q9_⟩ := h1
              obtain rfl := q0_
              obtain rfl := q1_.symm
              obtain rfl := q2_.symm
              obtain rfl := q3_.symm
              obtain rfl := q4_.symm
              obtain rfl := q9_
              show CR _ _ 105 [some (.ref a), some (.ref l), some (.int (nI 216)), some (.int (nI (spN n w 0))), some (.int (nI (spN n w 1))), some (.int (nI (spN n w 2))), some (.int (nI (f3N (lbT w i n c e) (spN n w 1) (spN n w 2) x + f2N (lbT w i n c e) (spN n w 2) x y + f1N (lbT w i n c e) x y z))), some (.int (nI x)), some (.int (nI y)), some (.int (nI z))] [.int (bI (lbT w i n c e x y z = true))] S G (upr (upr w_ (a + 4) (upd (w_ (a + 4)) 2 (nI z))) (a + 5) w5) J R _
              refine cr_beq (t := 111) d_2_105 (by decide) (fun c105 => ?_) (fun c105 => ?_)
              · have hf1 := f1_f c105
                refine cr_nx (pc' := 113) (al' := [some (.ref a), some (.ref l), some (.int (nI 216)), some (.int (nI (spN n w 0))), some (.int (nI (spN n w 1))), some (.int (nI (spN n w 2))), some (.int (nI (f3N (lbT w i n c e) (spN n w 1) (spN n w 2) x + f2N (lbT w i n c e) (spN n w 2) x y + f1N (lbT w i n c e) x y z))), some (.int (nI x)), some (.int (nI y)), some (.int (nI z))]) (st' := [.int (nI (f3N (lbT w i n c e) (spN n w 1) (spN n w 2) x + f2N (lbT w i n c e) (spN n w 2) x y + f1N (lbT w i n c e) x y z))]) d_2_111 (fun _ => rfl) ?_
                refine cr_nx (pc' := 114) (al' := [some (.ref a), some (.ref l), some (.int (nI 216)), some (.int (nI (spN n w 0))), some (.int (nI (spN n w 1))), some (.int (nI (spN n w 2))), some (.int (nI (f3N (lbT w i n c e) (spN n w 1) (spN n w 2) x + f2N (lbT w i n c e) (spN n w 2) x y + f1N (lbT w i n c e) x y z))), some (.int (nI x)), some (.int (nI y)), some (.int (nI z))]) (st' := [.int (nI 216), .int (nI (f3N (lbT w i n c e) (spN n w 1) (spN n w 2) x + f2N (lbT w i n c e) (spN n w 2) x y + f1N (lbT w i n c e) x y z))]) d_2_113 (fun _ => rfl) ?_
                refine cn_clt (t := 120) d_2_114 (by decide) (by omega) (by decide) (fun c114 => ?_) (fun c114 => ?_)
                · refine cn_inc d_2_120 rfl rfl ?_
                  show CR _ _ 123 [some (.ref a), some (.ref l), some (.int (nI 216)), some (.int (nI (spN n w 0))), some (.int (nI (spN n w 1))), some (.int (nI (spN n w 2))), some (.int (nI (f3N (lbT w i n c e) (spN n w 1) (spN n w 2) x + f2N (lbT w i n c e) (spN n w 2) x y + f1N (lbT w i n c e) x y z))), some (.int (nI x)), some (.int (nI y)), some (.int (nI (z + 1)))] [] S G (upr (upr w_ (a + 4) (upd (w_ (a + 4)) 2 (nI z))) (a + 5) w5) J R _
                  refine cr_nx (pc' := 85) (al' := [some (.ref a), some (.ref l), some (.int (nI 216)), some (.int (nI (spN n w 0))), some (.int (nI (spN n w 1))), some (.int (nI (spN n w 2))), some (.int (nI (f3N (lbT w i n c e) (spN n w 1) (spN n w 2) x + f2N (lbT w i n c e) (spN n w 2) x y + f1N (lbT w i n c e) x y z))), some (.int (nI x)), some (.int (nI y)), some (.int (nI (z + 1)))]) (st' := []) d_2_123 (fun _ => rfl) ?_
                  refine cr_al (congrArg (fun z__ : Nat => ([some (.ref a), some (.ref l), some (.int (nI 216)), some (.int (nI (spN n w 0))), some (.int (nI (spN n w 1))), some (.int (nI (spN n w 2))), some (.int (nI z__)), some (.int (nI x)), some (.int (nI y)), some (.int (nI (z + 1)))] : AL)) (show f3N (lbT w i n c e) (spN n w 1) (spN n w 2) x + f2N (lbT w i n c e) (spN n w 2) x y + f1N (lbT w i n c e) x y z = f3N (lbT w i n c e) (spN n w 1) (spN n w 2) x + f2N (lbT w i n c e) (spN n w 2) x y + f1N (lbT w i n c e) x y (z + 1) by rw [f1_f c105])) ?_
                  exact ihz (upr (upr w_ (a + 4) (upd (w_ (a + 4)) 2 (nI z))) (a + 5) w5) (⟨(pz.1.v (k := 2) (v := nI z) (by decide)).s, vs_n (vu_n (by decide) pz.2.1), vs_n (vu_n (by decide) pz.2.2.1), Nat.zero_le _⟩)
                · refine cr_nx (pc' := 119) (al' := [some (.ref a), some (.ref l), some (.int (nI 216)), some (.int (nI (spN n w 0))), some (.int (nI (spN n w 1))), some (.int (nI (spN n w 2))), some (.int (nI (f3N (lbT w i n c e) (spN n w 1) (spN n w 2) x + f2N (lbT w i n c e) (spN n w 2) x y + f1N (lbT w i n c e) x y z))), some (.int (nI x)), some (.int (nI y)), some (.int (nI z))]) (st' := [.int (nI (f3N (lbT w i n c e) (spN n w 1) (spN n w 2) x + f2N (lbT w i n c e) (spN n w 2) x y + f1N (lbT w i n c e) x y z))]) d_2_117 (fun _ => rfl) ?_
                  exact cr_ri d_2_119 cx_2 rfl ⟨⟨rfl, rfl, rfl, rfl⟩, (pz.1.v (k := 2) (v := nI z) (by decide)).s, by rw [show f3N (lbT w i n c e) (spN n w 1) (spN n w 2) x + f2N (lbT w i n c e) (spN n w 2) x y + f1N (lbT w i n c e) x y z = f3N (lbT w i n c e) (spN n w 1) (spN n w 2) (spN n w 0) by omega]⟩
              · have hf1 := f1_t c105
                refine cn_inc d_2_108 rfl rfl ?_
                show CR _ _ 111 [some (.ref a), some (.ref l), some (.int (nI 216)), some (.int (nI (spN n w 0))), some (.int (nI (spN n w 1))), some (.int (nI (spN n w 2))), some (.int (nI ((f3N (lbT w i n c e) (spN n w 1) (spN n w 2) x + f2N (lbT w i n c e) (spN n w 2) x y + f1N (lbT w i n c e) x y z) + 1))), some (.int (nI x)), some (.int (nI y)), some (.int (nI z))] [] S G (upr (upr w_ (a + 4) (upd (w_ (a + 4)) 2 (nI z))) (a + 5) w5) J R _
                refine cr_nx (pc' := 113) (al' := [some (.ref a), some (.ref l), some (.int (nI 216)), some (.int (nI (spN n w 0))), some (.int (nI (spN n w 1))), some (.int (nI (spN n w 2))), some (.int (nI ((f3N (lbT w i n c e) (spN n w 1) (spN n w 2) x + f2N (lbT w i n c e) (spN n w 2) x y + f1N (lbT w i n c e) x y z) + 1))), some (.int (nI x)), some (.int (nI y)), some (.int (nI z))]) (st' := [.int (nI ((f3N (lbT w i n c e) (spN n w 1) (spN n w 2) x + f2N (lbT w i n c e) (spN n w 2) x y + f1N (lbT w i n c e) x y z) + 1))]) d_2_111 (fun _ => rfl) ?_
                refine cr_nx (pc' := 114) (al' := [some (.ref a), some (.ref l), some (.int (nI 216)), some (.int (nI (spN n w 0))), some (.int (nI (spN n w 1))), some (.int (nI (spN n w 2))), some (.int (nI ((f3N (lbT w i n c e) (spN n w 1) (spN n w 2) x + f2N (lbT w i n c e) (spN n w 2) x y + f1N (lbT w i n c e) x y z) + 1))), some (.int (nI x)), some (.int (nI y)), some (.int (nI z))]) (st' := [.int (nI 216), .int (nI ((f3N (lbT w i n c e) (spN n w 1) (spN n w 2) x + f2N (lbT w i n c e) (spN n w 2) x y + f1N (lbT w i n c e) x y z) + 1))]) d_2_113 (fun _ => rfl) ?_
                refine cn_clt (t := 120) d_2_114 (by decide) (by omega) (by decide) (fun c114 => ?_) (fun c114 => ?_)
                · refine cn_inc d_2_120 rfl rfl ?_
                  show CR _ _ 123 [some (.ref a), some (.ref l), some (.int (nI 216)), some (.int (nI (spN n w 0))), some (.int (nI (spN n w 1))), some (.int (nI (spN n w 2))), some (.int (nI ((f3N (lbT w i n c e) (spN n w 1) (spN n w 2) x + f2N (lbT w i n c e) (spN n w 2) x y + f1N (lbT w i n c e) x y z) + 1))), some (.int (nI x)), some (.int (nI y)), some (.int (nI (z + 1)))] [] S G (upr (upr w_ (a + 4) (upd (w_ (a + 4)) 2 (nI z))) (a + 5) w5) J R _
                  refine cr_nx (pc' := 85) (al' := [some (.ref a), some (.ref l), some (.int (nI 216)), some (.int (nI (spN n w 0))), some (.int (nI (spN n w 1))), some (.int (nI (spN n w 2))), some (.int (nI ((f3N (lbT w i n c e) (spN n w 1) (spN n w 2) x + f2N (lbT w i n c e) (spN n w 2) x y + f1N (lbT w i n c e) x y z) + 1))), some (.int (nI x)), some (.int (nI y)), some (.int (nI (z + 1)))]) (st' := []) d_2_123 (fun _ => rfl) ?_
                  refine cr_al (congrArg (fun z__ : Nat => ([some (.ref a), some (.ref l), some (.int (nI 216)), some (.int (nI (spN n w 0))), some (.int (nI (spN n w 1))), some (.int (nI (spN n w 2))), some (.int (nI z__)), some (.int (nI x)), some (.int (nI y)), some (.int (nI (z + 1)))] : AL)) (show (f3N (lbT w i n c e) (spN n w 1) (spN n w 2) x + f2N (lbT w i n c e) (spN n w 2) x y + f1N (lbT w i n c e) x y z) + 1 = f3N (lbT w i n c e) (spN n w 1) (spN n w 2) x + f2N (lbT w i n c e) (spN n w 2) x y + f1N (lbT w i n c e) x y (z + 1) by rw [f1_t c105]; rfl)) ?_
                  exact ihz (upr (upr w_ (a + 4) (upd (w_ (a + 4)) 2 (nI z))) (a + 5) w5) (⟨(pz.1.v (k := 2) (v := nI z) (by decide)).s, vs_n (vu_n (by decide) pz.2.1), vs_n (vu_n (by decide) pz.2.2.1), Nat.zero_le _⟩)
                · refine cr_nx (pc' := 119) (al' := [some (.ref a), some (.ref l), some (.int (nI 216)), some (.int (nI (spN n w 0))), some (.int (nI (spN n w 1))), some (.int (nI (spN n w 2))), some (.int (nI ((f3N (lbT w i n c e) (spN n w 1) (spN n w 2) x + f2N (lbT w i n c e) (spN n w 2) x y + f1N (lbT w i n c e) x y z) + 1))), some (.int (nI x)), some (.int (nI y)), some (.int (nI z))]) (st' := [.int (nI ((f3N (lbT w i n c e) (spN n w 1) (spN n w 2) x + f2N (lbT w i n c e) (spN n w 2) x y + f1N (lbT w i n c e) x y z) + 1))]) d_2_117 (fun _ => rfl) ?_
                  exact cr_ri d_2_119 cx_2 rfl ⟨⟨rfl, rfl, rfl, rfl⟩, (pz.1.v (k := 2) (v := nI z) (by decide)).s, by rw [show (f3N (lbT w i n c e) (spN n w 1) (spN n w 2) x + f2N (lbT w i n c e) (spN n w 2) x y + f1N (lbT w i n c e) x y z) + 1 = f3N (lbT w i n c e) (spN n w 1) (spN n w 2) (spN n w 0) by omega]⟩
          · show CR _ _ 85 [some (.ref a), some (.ref l), some (.int (nI 216)), some (.int (nI (spN n w 0))), some (.int (nI (spN n w 1))), some (.int (nI (spN n w 2))), some (.int (nI (f3N (lbT w i n c e) (spN n w 1) (spN n w 2) x + f2N (lbT w i n c e) (spN n w 2) x y + f1N (lbT w i n c e) x y (spN n w 2)))), some (.int (nI x)), some (.int (nI y)), some (.int (nI (spN n w 2)))] [] S G w_ J R _
            refine cr_nx (pc' := 87) (al' := [some (.ref a), some (.ref l), some (.int (nI 216)), some (.int (nI (spN n w 0))), some (.int (nI (spN n w 1))), some (.int (nI (spN n w 2))), some (.int (nI (f3N (lbT w i n c e) (spN n w 1) (spN n w 2) x + f2N (lbT w i n c e) (spN n w 2) x y + f1N (lbT w i n c e) x y (spN n w 2)))), some (.int (nI x)), some (.int (nI y)), some (.int (nI (spN n w 2)))]) (st' := [.int (nI (spN n w 2))]) d_2_85 (fun _ => rfl) ?_
            refine cr_nx (pc' := 89) (al' := [some (.ref a), some (.ref l), some (.int (nI 216)), some (.int (nI (spN n w 0))), some (.int (nI (spN n w 1))), some (.int (nI (spN n w 2))), some (.int (nI (f3N (lbT w i n c e) (spN n w 1) (spN n w 2) x + f2N (lbT w i n c e) (spN n w 2) x y + f1N (lbT w i n c e) x y (spN n w 2)))), some (.int (nI x)), some (.int (nI y)), some (.int (nI (spN n w 2)))]) (st' := [.int (nI (spN n w 2)), .int (nI (spN n w 2))]) d_2_87 (fun _ => rfl) ?_
            refine cn_cge (t := 126) d_2_89 (by decide) (by first | omega | assumption | exact cu_36 (by omega) (cu_lt (by omega) (by omega))) (by first | omega | assumption | exact cu_36 (by omega) (cu_lt (by omega) (by omega))) (fun c89 => ?_) (fun c89 => ?_)
            · refine cn_inc d_2_126 rfl rfl ?_
              show CR _ _ 129 [some (.ref a), some (.ref l), some (.int (nI 216)), some (.int (nI (spN n w 0))), some (.int (nI (spN n w 1))), some (.int (nI (spN n w 2))), some (.int (nI (f3N (lbT w i n c e) (spN n w 1) (spN n w 2) x + f2N (lbT w i n c e) (spN n w 2) x y + f1N (lbT w i n c e) x y (spN n w 2)))), some (.int (nI x)), some (.int (nI (y + 1))), some (.int (nI (spN n w 2)))] [] S G w_ J R _
              refine cr_nx (pc' := 67) (al' := [some (.ref a), some (.ref l), some (.int (nI 216)), some (.int (nI (spN n w 0))), some (.int (nI (spN n w 1))), some (.int (nI (spN n w 2))), some (.int (nI (f3N (lbT w i n c e) (spN n w 1) (spN n w 2) x + f2N (lbT w i n c e) (spN n w 2) x y + f1N (lbT w i n c e) x y (spN n w 2)))), some (.int (nI x)), some (.int (nI (y + 1))), some (.int (nI (spN n w 2)))]) (st' := []) d_2_129 (fun _ => rfl) ?_
              refine cr_al (congrArg (fun z__ : Nat => ([some (.ref a), some (.ref l), some (.int (nI 216)), some (.int (nI (spN n w 0))), some (.int (nI (spN n w 1))), some (.int (nI (spN n w 2))), some (.int (nI z__)), some (.int (nI x)), some (.int (nI (y + 1))), some (.int (nI (spN n w 2)))] : AL)) (show f3N (lbT w i n c e) (spN n w 1) (spN n w 2) x + f2N (lbT w i n c e) (spN n w 2) x y + f1N (lbT w i n c e) x y (spN n w 2) = f3N (lbT w i n c e) (spN n w 1) (spN n w 2) x + f2N (lbT w i n c e) (spN n w 2) x (y + 1) by exact Nat.add_assoc _ _ _)) ?_
              refine cr_dr (al1 := [some (.ref a), some (.ref l), some (.int (nI 216)), some (.int (nI (spN n w 0))), some (.int (nI (spN n w 1))), some (.int (nI (spN n w 2))), some (.int (nI (f3N (lbT w i n c e) (spN n w 1) (spN n w 2) x + f2N (lbT w i n c e) (spN n w 2) x (y + 1)))), some (.int (nI x)), some (.int (nI (y + 1))), none]) (le_s (le_s (le_s (le_s (le_s (le_s (le_s (le_s (le_s (le_d rfl (le_n))))))))))) ?_
              exact ihy w_ (⟨pz.1, pz.2.1, Nat.zero_le _⟩)
            · omega
      · show CR _ _ 67 [some (.ref a), some (.ref l), some (.int (nI 216)), some (.int (nI (spN n w 0))), some (.int (nI (spN n w 1))), some (.int (nI (spN n w 2))), some (.int (nI (f3N (lbT w i n c e) (spN n w 1) (spN n w 2) x + f2N (lbT w i n c e) (spN n w 2) x (spN n w 1)))), some (.int (nI x)), some (.int (nI (spN n w 1))), none] [] S G w_ J R _
        refine cr_nx (pc' := 69) (al' := [some (.ref a), some (.ref l), some (.int (nI 216)), some (.int (nI (spN n w 0))), some (.int (nI (spN n w 1))), some (.int (nI (spN n w 2))), some (.int (nI (f3N (lbT w i n c e) (spN n w 1) (spN n w 2) x + f2N (lbT w i n c e) (spN n w 2) x (spN n w 1)))), some (.int (nI x)), some (.int (nI (spN n w 1))), none]) (st' := [.int (nI (spN n w 1))]) d_2_67 (fun _ => rfl) ?_
        refine cr_nx (pc' := 71) (al' := [some (.ref a), some (.ref l), some (.int (nI 216)), some (.int (nI (spN n w 0))), some (.int (nI (spN n w 1))), some (.int (nI (spN n w 2))), some (.int (nI (f3N (lbT w i n c e) (spN n w 1) (spN n w 2) x + f2N (lbT w i n c e) (spN n w 2) x (spN n w 1)))), some (.int (nI x)), some (.int (nI (spN n w 1))), none]) (st' := [.int (nI (spN n w 1)), .int (nI (spN n w 1))]) d_2_69 (fun _ => rfl) ?_
        refine cn_cge (t := 132) d_2_71 (by decide) (by first | omega | assumption | exact cu_36 (by omega) (cu_lt (by omega) (by omega))) (by first | omega | assumption | exact cu_36 (by omega) (cu_lt (by omega) (by omega))) (fun c71 => ?_) (fun c71 => ?_)
        · refine cn_inc d_2_132 rfl rfl ?_
          show CR _ _ 135 [some (.ref a), some (.ref l), some (.int (nI 216)), some (.int (nI (spN n w 0))), some (.int (nI (spN n w 1))), some (.int (nI (spN n w 2))), some (.int (nI (f3N (lbT w i n c e) (spN n w 1) (spN n w 2) x + f2N (lbT w i n c e) (spN n w 2) x (spN n w 1)))), some (.int (nI (x + 1))), some (.int (nI (spN n w 1))), none] [] S G w_ J R _
          refine cr_nx (pc' := 50) (al' := [some (.ref a), some (.ref l), some (.int (nI 216)), some (.int (nI (spN n w 0))), some (.int (nI (spN n w 1))), some (.int (nI (spN n w 2))), some (.int (nI (f3N (lbT w i n c e) (spN n w 1) (spN n w 2) x + f2N (lbT w i n c e) (spN n w 2) x (spN n w 1)))), some (.int (nI (x + 1))), some (.int (nI (spN n w 1))), none]) (st' := []) d_2_135 (fun _ => rfl) ?_
          refine cr_al (congrArg (fun z__ : Nat => ([some (.ref a), some (.ref l), some (.int (nI 216)), some (.int (nI (spN n w 0))), some (.int (nI (spN n w 1))), some (.int (nI (spN n w 2))), some (.int (nI z__)), some (.int (nI (x + 1))), some (.int (nI (spN n w 1))), none] : AL)) (show f3N (lbT w i n c e) (spN n w 1) (spN n w 2) x + f2N (lbT w i n c e) (spN n w 2) x (spN n w 1) = f3N (lbT w i n c e) (spN n w 1) (spN n w 2) (x + 1) by rfl)) ?_
          refine cr_dr (al1 := [some (.ref a), some (.ref l), some (.int (nI 216)), some (.int (nI (spN n w 0))), some (.int (nI (spN n w 1))), some (.int (nI (spN n w 2))), some (.int (nI (f3N (lbT w i n c e) (spN n w 1) (spN n w 2) (x + 1)))), some (.int (nI (x + 1))), none, none]) (le_s (le_s (le_s (le_s (le_s (le_s (le_s (le_s (le_d rfl (le_s (le_n))))))))))) ?_
          exact ihx w_ (⟨py.1, Nat.zero_le _⟩)
        · omega
  · show CR _ _ 50 [some (.ref a), some (.ref l), some (.int (nI 216)), some (.int (nI (spN n w 0))), some (.int (nI (spN n w 1))), some (.int (nI (spN n w 2))), some (.int (nI (f3N (lbT w i n c e) (spN n w 1) (spN n w 2) (spN n w 0)))), some (.int (nI (spN n w 0))), none, none] [] S G w_ J R _
    have s0 := sp_6 (k := 0) (w := w) hn6
    have s1 := sp_6 (k := 1) (w := w) hn6
    have s2 := sp_6 (k := 2) (w := w) hn6
    refine cr_nx (pc' := 52) (al' := [some (.ref a), some (.ref l), some (.int (nI 216)), some (.int (nI (spN n w 0))), some (.int (nI (spN n w 1))), some (.int (nI (spN n w 2))), some (.int (nI (f3N (lbT w i n c e) (spN n w 1) (spN n w 2) (spN n w 0)))), some (.int (nI (spN n w 0))), none, none]) (st' := [.int (nI (spN n w 0))]) d_2_50 (fun _ => rfl) ?_
    refine cr_nx (pc' := 53) (al' := [some (.ref a), some (.ref l), some (.int (nI 216)), some (.int (nI (spN n w 0))), some (.int (nI (spN n w 1))), some (.int (nI (spN n w 2))), some (.int (nI (f3N (lbT w i n c e) (spN n w 1) (spN n w 2) (spN n w 0)))), some (.int (nI (spN n w 0))), none, none]) (st' := [.int (nI (spN n w 0)), .int (nI (spN n w 0))]) d_2_52 (fun _ => rfl) ?_
    refine cn_cge (t := 138) d_2_53 (by decide) (by first | omega | assumption | exact cu_36 (by omega) (cu_lt (by omega) (by omega))) (by first | omega | assumption | exact cu_36 (by omega) (cu_lt (by omega) (by omega))) (fun c53 => ?_) (fun c53 => ?_)
    · refine cr_nx (pc' := 140) (al' := [some (.ref a), some (.ref l), some (.int (nI 216)), some (.int (nI (spN n w 0))), some (.int (nI (spN n w 1))), some (.int (nI (spN n w 2))), some (.int (nI (f3N (lbT w i n c e) (spN n w 1) (spN n w 2) (spN n w 0)))), some (.int (nI (spN n w 0))), none, none]) (st' := [.int (nI (f3N (lbT w i n c e) (spN n w 1) (spN n w 2) (spN n w 0)))]) d_2_138 (fun _ => rfl) ?_
      exact cr_ri d_2_140 cx_2 rfl ⟨⟨rfl, rfl, rfl, rfl⟩, px.1, rfl⟩
    · omega
theorem k_failures1 {S : CS} {G : Nat → Nat → Value} {B : Nat → Nat → Int32} {J : Nat → Nat → Int64} {R : Nat → Nat → Option Nat} {a m n l i e : Nat} {c : Nat → Nat} {w : List Nat} (hn6 : n ≤ 6) (h1n : 1 ≤ n) (hl : Lat n c) (he : e < n) (hla : l ≠ a) (hln : l + 1 ≠ a + 2 ∧ l + 1 ≠ a + 3 ∧ l + 1 ≠ a + 4 ∧ l + 1 ≠ a + 5) (hmn : m ≠ a + 2 ∧ m ≠ a + 3 ∧ m ≠ a + 4 ∧ m ≠ a + 5) (hV : CdOk w i) (hL : CkL S G B a m n c e) (hLw : LawAt S G B l w i) : CR 3 2 0 [some (.ref a), some (.ref l), some (.int (nI 1)), none, none, none, none, none, none, none] [] S G B J R (fun r S' G' B' J' R' => (S' = S ∧ J' = J ∧ R' = R) ∧ Gfr [a] G G' ∧ Bfr [a + 2, a + 3, a + 4, a + 5] B B' ∧ CkL S G' B' a m n c e ∧ ((r = some (.int (nI 0)) ∧ NoT (lbT w i n c e) (spN n w 0) (spN n w 1) (spN n w 2)) ∨ (r = some (.int (nI 1)) ∧ ∃ x y z, FsT (lbT w i n c e) (spN n w 0) (spN n w 1) (spN n w 2) x y z ∧ B' (a + 4) 0 = nI x ∧ B' (a + 4) 1 = nI y ∧ B' (a + 4) 2 = nI z))) := by
  refine k_fl0 hn6 h1n hl he hla hln hmn hV hL hLw (fun G1 B1 hg hb hL1 hLw1 hD => ?_)
  refine cr_cq (k_fl1 hn6 h1n hl he hla hln hmn hV hL1 hLw1 hD) ?_
  rintro r S' G' B' J' R' ⟨⟨rfl, rfl, rfl, rfl⟩, hf, hq⟩
  exact ⟨⟨rfl, rfl, rfl⟩, hg, (hb.mo (by simp)).tr (hf.1.mo (by simp)), hL1.fr hmn hf, hq⟩
theorem k_failuresN {S : CS} {G : Nat → Nat → Value} {B : Nat → Nat → Int32} {J : Nat → Nat → Int64} {R : Nat → Nat → Option Nat} {a m n l i e : Nat} {c : Nat → Nat} {w : List Nat} (hn6 : n ≤ 6) (h1n : 1 ≤ n) (hl : Lat n c) (he : e < n) (hla : l ≠ a) (hln : l + 1 ≠ a + 2 ∧ l + 1 ≠ a + 3 ∧ l + 1 ≠ a + 4 ∧ l + 1 ≠ a + 5) (hmn : m ≠ a + 2 ∧ m ≠ a + 3 ∧ m ≠ a + 4 ∧ m ≠ a + 5) (hV : CdOk w i) (hL : CkL S G B a m n c e) (hLw : LawAt S G B l w i) : CR 3 2 0 [some (.ref a), some (.ref l), some (.int (nI 216)), none, none, none, none, none, none, none] [] S G B J R (fun r S' G' B' J' R' => (S' = S ∧ J' = J ∧ R' = R) ∧ Gfr [a] G G' ∧ Bfr [a + 2, a + 3, a + 4, a + 5] B B' ∧ CkL S G' B' a m n c e ∧ r = some (.int (nI (f3N (lbT w i n c e) (spN n w 1) (spN n w 2) (spN n w 0))))) := by
  refine k_fl0 hn6 h1n hl he hla hln hmn hV hL hLw (fun G1 B1 hg hb hL1 hLw1 hD => ?_)
  refine cr_cq (k_flN hn6 h1n hl he hla hln hmn hV hL1 hLw1 hD) ?_
  rintro r S' G' B' J' R' ⟨⟨rfl, rfl, rfl, rfl⟩, hf, hq⟩
  exact ⟨⟨rfl, rfl, rfl⟩, hg, (hb.mo (by simp)).tr (hf.1.mo (by simp)), hL1.fr hmn hf, hq⟩
