/-! Listed loops: the class seeks; printed by wip/whole/gen_c17.py. -/
theorem fm_one {α : Type} {g : Nat → List α} {a : Nat} : ∀ {n : Nat}, a < n → (∀ v, v < n → v ≠ a → g v = []) → (List.range n).flatMap g = g a
  | 0, h, _ => by omega
  | n + 1, h, hv => by
    rw [List.range_succ, List.flatMap_append]
    by_cases e : a = n
    · rw [List.flatMap_eq_nil_iff.mpr (fun v hv2 => hv v (by have := List.mem_range.mp hv2; omega) (by have := List.mem_range.mp hv2; omega)), e]
      simp
    · rw [fm_one (by omega) (fun v h1 h2 => hv v (by omega) h2)]
      simp [hv n (by omega) (fun q => e q.symm)]
theorem flL_td {n : Nat} {T : Nat → Option Nat} {f k v : Nat} {c : Nat → Nat} (hv : v < n) (ht : T k = some v) (hf : frB n c k v = true) : flL n T (f + 1) k c = flL n T f (k + 1) (upN c k v) := by
  conv => lhs; unfold flL
  rw [fm_one hv (fun u _ hu => if_neg (fun e => ?_))]
  · rw [(td_s ht).mpr rfl, hf]; rfl
  · rw [Bool.and_eq_true] at e
    exact hu ((td_s ht).mp e.1).symm
theorem fl_preL {n : Nat} {h : Nat → Nat} (hn : 0 < n) {U : Nat → Option Nat} : ∀ (k f : Nat), k + f = n * n → PLat n h k → (∀ q, q < k → U q = some (h q)) → flL n U (n * n) 0 c00 = flL n U f k (mixC h k)
  | 0, f, e, _, _ => by
    rw [mixC_0, show f = n * n by omega]
  | k + 1, f, e, hl, hU => by
    rw [fl_preL hn k (f + 1) (by omega) (hl.mo (by omega)) (fun q hq => hU q (by omega)), flL_td (hl.1 k (by omega)) (hU k (by omega)) (by rw [fr_cg (d := h) (fun q hq => mixC_l hq)]; exact hl.fr hn), mixC_s]
theorem T0_in {n x y : Nat} (hx : x < n) (hy : y < n) (hx1 : 1 ≤ x) (hy1 : 1 ≤ y) : T00 n (n * x + y) = none := by
  have := cu_lt hx hy
  have h2 : n ≤ n * x := Nat.le_mul_of_pos_right n hx1
  unfold T00
  rw [if_neg (by omega), if_neg (by omega), dm_m hy, if_neg (by omega)]
theorem T0_col {n x : Nat} (hx : x < n) (hn : 0 < n) : T00 n (n * x) = some x := by
  have := cu_lt hx hn
  unfold T00
  rw [if_neg (by omega)]
  by_cases e : n * x < n
  · rw [if_pos e]
    have : x = 0 := by
      rcases Nat.eq_zero_or_pos x with q | q
      · exact q
      · have := Nat.le_mul_of_pos_right n q
        omega
    rw [this, Nat.mul_zero]
  · rw [if_neg e, if_pos (Nat.mul_mod_right n x), Nat.mul_div_cancel_left x hn]
theorem T0_row {n x : Nat} (hx : x < n) : T00 n x = some x := by
  have : n ≤ n * n := Nat.le_mul_of_pos_left n (by omega)
  unfold T00
  rw [if_neg (by omega), if_pos hx]
theorem fr_col {n x : Nat} {c : Nat → Nat} (hn : 0 < n) (hx : x < n) (ht : ∀ q u, q < n * x → T00 n q = some u → c q = u) : frB n c (n * x) x = true := by
  rw [fr_iff, Nat.mul_div_cancel_left x hn, Nat.mul_mod_right]
  constructor
  · intro y hy h
    omega
  · intro z hz h e
    rw [Nat.add_zero] at h e
    rw [ht _ _ h (T0_col hz hn)] at e
    rw [e] at h
    omega
theorem LiB.up {n x : Nat} {c : Nat → Nat} {B : Nat → Nat → Int32} (h : LiB n (n * x) c B) (hx : x < n) (hn : 0 < n) : LiB n (n * x + 1) (upN c (n * x) x) B := by
  refine ⟨fun q hq => ?_, h.2.1, fun y hy1 hy => ?_⟩
  · by_cases e : q = n * x
    · rw [e, upN_s]
      exact h.2.1 x hx
    · rw [upN_n e]
      exact h.1 q (by omega)
  · rw [cl_oth hy (by rw [Nat.mul_mod_right]; omega)]
    exact h.2.2 y hy1 hy
theorem LiB.dn {n x : Nat} {c : Nat → Nat} {B : Nat → Nat → Int32} (h : LiB n (n * x + 1) (upN c (n * x) x) B) : LiB n (n * x) c B := by
  refine ⟨fun q hq => by rw [h.1 q (by omega), upN_n (by omega)], h.2.1, fun y hy1 hy => ?_⟩
  rw [h.2.2 y hy1 hy, cl_oth hy (by rw [Nat.mul_mod_right]; omega)]
theorem rw_new {n x : Nat} {c : Nat → Nat} {v : Nat} (hn : 0 < n) : rwM n (upN c (n * x) v) (n * x + 1) x = 1 * 2 ^ v := by
  have h := rw_put (n := n) (c := c) (k := n * x) (v := v) hn
  rw [Nat.mul_div_cancel_left x hn] at h
  rw [h]
  have : rwM n c (n * x) x = 0 := by
    apply Nat.eq_of_testBit_eq
    intro i
    rw [Nat.zero_testBit, Bool.eq_false_iff, Ne, rw_bit]
    rintro ⟨y, _, h, _⟩
    omega
  rw [this, Nat.zero_or]
theorem PlQ.cg {wt : Option Nat} {m : Nat} {l : List (Nat → Nat)} {n k k2 : Nat} {c c2 : Nat → Nat} {S : CS} {G : Nat → Nat → Value} {B : Nat → Nat → Int32} {J : Nat → Nat → Int64} {R : Nat → Nat → Option Nat} (hi : ∀ B', LiB n k c B' → LiB n k2 c2 B') {r : Option Value} {S' : CS} {G' : Nat → Nat → Value} {B' : Nat → Nat → Int32} {J' : Nat → Nat → Int64} {R' : Nat → Nat → Option Nat} (h : PlQ wt m l n k c S G B J R r S' G' B' J' R') : PlQ wt m l n k2 c2 S G B J R r S' G' B' J' R' := ⟨h.1, h.2.1, h.2.2.1, h.2.2.2.1, h.2.2.2.2.1, h.2.2.2.2.2.imp (fun q => ⟨q.1, q.2.1, q.2.2.1, hi _ q.2.2.2⟩) id⟩
/-- what a full table is told -/
def LsC (n : Nat) (P : (Nat → Nat) → Bool) (S : CS) (G0 : Nat → Nat → Value) (B0 : Nat → Nat → Int32) (J : Nat → Nat → Int64) (R : Nat → Nat → Option Nat) : Prop := ∀ (c : Nat → Nat) (G1 : Nat → Nat → Value) (B1 : Nat → Nat → Int32), Lat n c → (∀ q, q < n * n → B1 98 q = nI (c q)) → Gfr [96, 99] G0 G1 → FxG G1 → (∀ j, j ≠ 1 → G1 96 j = G0 96 j) → Bfr [98, 101, 102, 103, 104, 105] B0 B1 → CR 4 38 0 [some (.ref 96), none, none, none, none] [] S G1 B1 J R (fun r S' G' B' J' R' => r = some (.int (bI (P c = true))) ∧ (S' = S ∧ J' = J ∧ R' = R) ∧ Gfr [99] G1 G' ∧ FxG G' ∧ Bfr [101, 102, 103, 104] B1 B')
theorem k_place {S : CS} {G0 : Nat → Nat → Value} {B0 : Nat → Nat → Int32} {J : Nat → Nat → Int64} {R : Nat → Nat → Option Nat} {wt : Option Nat} {n : Nat} {P : (Nat → Nat) → Bool} (hS : ShOk S) (hn6 : n ≤ 6) (hn : 0 < n) (hwt : ∀ u, wt = some u → u < 2 ^ 31) (hn97 : G0 97 0 = .int (nI n)) (h7 : G0 96 7 = .int (stI wt)) (hLs : LsC n P S G0 B0 J R) : ∀ (N f x y m : Nat) (c : Nat → Nat) (G : Nat → Nat → Value) (B : Nat → Nat → Int32), f ≤ N → n * x + y + f = n * n → 1 ≤ x → x < n → 1 ≤ y → y < n → Gfr [96, 99] G0 G → FxG G → Bfr [98, 101, 102, 103, 104, 105] B0 B → (∀ j, j ≠ 1 → G 96 j = G0 96 j) → LiB n (n * x + y) c B → PLat n c (n * x + y) → (∀ q u, q < n * x + y → T00 n q = some u → c q = u) → (∀ w, wt = some w → m ≤ w) → G 96 1 = .int (nI m) → m + (flL n (T00 n) f (n * x + y) c).length ≤ 100000 → CR (N + 5) 37 0 [some (.ref 96), some (.int (nI x)), some (.int (nI y)), some (.int (nI (rwM n c (n * x + y) x))), none, none, none, none, none] [] S G B J R (PlQ wt m ((flL n (T00 n) f (n * x + y) c).filter P) n (n * x + y) c S G B J R)
  | 0, f, x, y, m, c, G, B, hN, hk, hx1, hx, hy1, hy, hg, hF, hb, hj, hLi, hl, ht, hmw, h1, hL => by
    have := cu_lt hx hy
    omega
  | N + 1, f, x, y, m, c, G, B, hN, hk, hx1, hx, hy1, hy, hg, hF, hb, hj, hLi, hl, ht, hmw, h1, hL => by
    have hlt := cu_lt hx hy
    obtain ⟨f1, rfl⟩ : ∃ f1, f = f1 + 1 := ⟨f - 1, by omega⟩
    have h97 : G 97 0 = .int (nI n) := by rw [hg 97 (by decide)]; exact hn97
    have h96 : G 96 7 = .int (stI wt) := by rw [hj 7 (by decide)]; exact h7
    have htd : ∀ v, tdB (T00 n) (n * x + y) v = true := fun v => td_n (T0_in hx hy hx1 hy1)
    have hag : ∀ v q u, q < n * x + y + 1 → T00 n q = some u → upN c (n * x + y) v q = u := fun v q u hq hq2 => by
      by_cases e : q = n * x + y
      · rw [e, T0_in hx hy hx1 hy1] at hq2
        cases hq2
      · rw [upN_n e]
        exact ht q u (by omega) hq2
    rw [show N + 1 + 5 = (N + 5) + 1 by omega]
    by_cases hye : y + 1 = n
    · refine k_pl_E hS hF hn6 hn hwt h97 h96 h1 hmw hx hy hy1 hye hl htd hLi hL (fun v hv hfr htd2 G1 B1 hg1 hF1 hb1 hj1 hLi1 hmw1 h11 hL1 => ?_)
      rw [flX_t htd2 hfr] at hL1 ⊢
      have hl1 := hl.s hlt hv hfr
      have ek : n * x + y + 1 = n * (x + 1) := by rw [Nat.mul_succ]; omega
      have hj2 : ∀ j, j ≠ 1 → G1 96 j = G0 96 j := fun j a => (hj1 j a).trans (hj j a)
      by_cases hxe : x + 1 = n
      · have ef : f1 = 0 := by rw [hxe] at ek; omega
        subst ef
        have e2 : n * x + y + 1 = n * n := by rw [ek, hxe]
        show CR (N + 5) 37 0 _ [] S G1 B1 J R (PlQ wt _ ([upN c (n * x + y) v].filter P) n (n * x + y + 1) (upN c (n * x + y) v) S G1 B1 J R)
        rw [ft_1, e2, hxe]
        rw [e2] at hLi1 hl1
        exact cr_wk (by omega) (k_pl_0 (n := n) hS hF1 hn6 hn hwt (by rw [hg1 97 (by decide)]; exact h97) (by rw [hj1 7 (by decide)]; exact h96) h11 hmw1 (by omega) hLi1 (hLs _ G1 B1 hl1.lat hLi1.1 (hg.tr hg1) hF1 hj2 (hb.tr hb1)))
      · obtain ⟨f2, rfl⟩ : ∃ f2, f1 = f2 + 1 := ⟨f1 - 1, by
          have : n * (x + 1) + n ≤ n * n := by rw [← Nat.mul_succ]; exact Nat.mul_le_mul_left n (by omega)
          omega⟩
        have hx2 : x + 1 < n := by omega
        rw [ek] at hLi1 hl1 hL1 ⊢
        have hag2 : ∀ q u, q < n * (x + 1) → T00 n q = some u → upN c (n * x + y) v q = u := fun q u hq hq2 => hag v q u (by omega) hq2
        have hfc := fr_col (c := upN c (n * x + y) v) hn hx2 hag2
        have hT := T0_col (n := n) hx2 hn
        rw [flL_td hx2 hT hfc] at hL1 ⊢
        have hl2 := hl1.s (by have := cu_lt hx2 hn; omega) hx2 hfc
        have ih := k_place hS hn6 hn hwt hn97 h7 hLs N f2 (x + 1) 1 _ (upN (upN c (n * x + y) v) (n * (x + 1)) (x + 1)) G1 B1 (by omega) (by omega) (by omega) hx2 (Nat.le_refl _) (by omega) (hg.tr hg1) hF1 (hb.tr hb1) hj2 (hLi1.up hx2 hn) hl2 (fun q u hq hq2 => by
          by_cases e : q = n * (x + 1)
          · rw [e, upN_s]
            rw [e, hT] at hq2
            exact Option.some.inj hq2
          · rw [upN_n e]
            exact hag2 q u (by omega) hq2) hmw1 h11 hL1
        rw [rw_new hn] at ih
        exact cr_cq ih (fun _ _ _ _ _ _ => PlQ.cg (fun _ q => q.dn))
    · refine k_pl_I hS hF hn6 hn hwt h97 h96 h1 hmw hx hy hy1 (by omega) hl htd hLi hL (fun v hv hfr htd2 G1 B1 hg1 hF1 hb1 hj1 hLi1 hmw1 h11 hL1 => ?_)
      rw [flX_t htd2 hfr] at hL1 ⊢
      have hl1 := hl.s hlt hv hfr
      have ih := k_place hS hn6 hn hwt hn97 h7 hLs N f1 x (y + 1) _ (upN c (n * x + y) v) G1 B1 (by omega) (by omega) hx1 hx (by omega) (by omega) (hg.tr hg1) hF1 (hb.tr hb1) (fun j a => (hj1 j a).trans (hj j a)) hLi1 hl1 (hag v) hmw1 h11 hL1
      have hrw := rw_put (n := n) (c := c) (k := n * x + y) (v := v) hn
      rw [dm_d hy] at hrw
      rw [show n * x + (y + 1) = n * x + y + 1 from rfl, hrw] at ih
      exact ih
theorem k_choose {S : CS} {G : Nat → Nat → Value} {B : Nat → Nat → Int32} {J : Nat → Nat → Int64} {R : Nat → Nat → Option Nat} (hS : ShOk S) {hold no : Nat} : CR 0 35 0 [some (.ref 96), some (.ref 5), some (.int (nI hold)), some (.int (nI no))] [] S G B J R (cP none S (up2 (up2 (up2 G 96 4 (.ref 5)) 96 5 (.int (nI hold))) 96 6 (.int (nI no))) B J R) := by
  refine cr_nx (pc' := 1) (al' := [some (.ref 96), some (.ref 5), some (.int (nI hold)), some (.int (nI no))]) (st' := [.ref 96]) d_35_0 (fun _ => rfl) ?_
  refine cr_nx (pc' := 2) (al' := [some (.ref 96), some (.ref 5), some (.int (nI hold)), some (.int (nI no))]) (st' := [.ref 5, .ref 96]) d_35_1 (fun _ => rfl) ?_
  refine cp_5_4  d_35_2 cw_35 cf_5_31 (hS.i (a := 96) (by decide) (by decide)) (hS.s (a := 96) (by decide) (by decide) rfl) (by decide) ?_
  refine cr_nx (pc' := 6) (al' := [some (.ref 96), some (.ref 5), some (.int (nI hold)), some (.int (nI no))]) (st' := [.ref 96]) d_35_5 (fun _ => rfl) ?_
  refine cr_nx (pc' := 7) (al' := [some (.ref 96), some (.ref 5), some (.int (nI hold)), some (.int (nI no))]) (st' := [.int (nI hold), .ref 96]) d_35_6 (fun _ => rfl) ?_
  refine cp_5_5  d_35_7 cw_35 cf_5_35 (hS.i (a := 96) (by decide) (by decide)) (hS.s (a := 96) (by decide) (by decide) rfl) (by decide) ?_
  refine cr_nx (pc' := 11) (al' := [some (.ref 96), some (.ref 5), some (.int (nI hold)), some (.int (nI no))]) (st' := [.ref 96]) d_35_10 (fun _ => rfl) ?_
  refine cr_nx (pc' := 12) (al' := [some (.ref 96), some (.ref 5), some (.int (nI hold)), some (.int (nI no))]) (st' := [.int (nI no), .ref 96]) d_35_11 (fun _ => rfl) ?_
  refine cp_5_6  d_35_12 cw_35 cf_5_39 (hS.i (a := 96) (by decide) (by decide)) (hS.s (a := 96) (by decide) (by decide) rfl) (by decide) ?_
  exact cr_rv d_35_15 cx_35 ⟨rfl, rfl, rfl, rfl, rfl, rfl⟩
