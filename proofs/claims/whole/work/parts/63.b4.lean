/-! How far from a group: both; printed by wip/whole/gen_b4.py. -/
def Gfr (l : List Nat) (G G' : Nat → Nat → Value) : Prop := ∀ a, a ∉ l → G' a = G a
theorem Gfr.rf {l : List Nat} {G : Nat → Nat → Value} : Gfr l G G := fun _ _ => rfl
theorem Gfr.u {l : List Nat} {G G' : Nat → Nat → Value} {d k : Nat} {v : Value} (h : Gfr l G G') (hd : d ∈ l) : Gfr l G (up2 G' d k v) := fun a ha => by
  funext j
  rw [up2_n (show ¬ (a = d ∧ j = k) from fun e => ha (by rw [e.1]; exact hd)), h a ha]
theorem Gfr.tr {l : List Nat} {G H K : Nat → Nat → Value} (h : Gfr l G H) (h2 : Gfr l H K) : Gfr l G K := fun a ha => (h2 a ha).trans (h a ha)
theorem Bfr.tr {l : List Nat} {G H K : Nat → Nat → Int32} (h : Bfr l G H) (h2 : Bfr l H K) : Bfr l G K := fun a ha => (h2 a ha).trans (h a ha)
theorem Bfr.mo {l m : List Nat} {G H : Nat → Nat → Int32} (h : Bfr l G H) (hm : ∀ a, a ∈ l → a ∈ m) : Bfr m G H := fun a ha => h a (fun e => ha (hm a e))
theorem Gfr.mo {l m : List Nat} {G H : Nat → Nat → Value} (h : Gfr l G H) (hm : ∀ a, a ∈ l → a ∈ m) : Gfr m G H := fun a ha => h a (fun e => ha (hm a e))
theorem Gfr.t {l : List Nat} {S : CS} {G G' : Nat → Nat → Value} {a : Nat} (h : Gfr l G G') (ha : a ∉ l) (ht : TabAt S G a) : TabAt S G' a := ⟨ht.1, ht.2.1, ht.2.2.1, ht.2.2.2.1, by rw [h a ha]; exact ht.2.2.2.2⟩
def fxl : List (Nat × Nat × Nat) := [(2, 0, 3), (2, 1, 81), (2, 2, 82), (2, 4, 83), (2, 6, 86), (2, 7, 88), (2, 8, 90), (2, 9, 96), (2, 10, 107), (2, 11, 111), (2, 12, 122), (2, 13, 133), (2, 14, 141), (2, 15, 145), (3, 0, 4), (3, 1, 5), (3, 4, 6), (3, 5, 7), (3, 6, 8), (83, 5, 85), (86, 1, 87), (88, 1, 89), (90, 3, 92), (90, 4, 93), (90, 5, 94), (90, 6, 95), (96, 0, 97), (96, 2, 99), (96, 3, 105), (97, 1, 98), (99, 3, 101), (99, 4, 102), (99, 5, 103), (99, 6, 104), (107, 1, 108), (107, 2, 109), (107, 3, 110), (111, 0, 112), (111, 2, 114), (111, 3, 116), (111, 4, 118), (111, 5, 120), (111, 6, 121), (112, 1, 113), (114, 1, 115), (116, 1, 117), (118, 1, 119), (122, 0, 123), (122, 2, 125), (122, 3, 127), (122, 4, 129), (122, 5, 131), (122, 6, 132), (123, 1, 124), (125, 1, 126), (127, 1, 128), (129, 1, 130), (133, 2, 134), (133, 3, 136), (133, 4, 137), (133, 5, 138), (133, 6, 139), (133, 7, 140), (134, 1, 135), (141, 1, 144), (142, 1, 143)]
theorem FxG.up {G : Nat → Nat → Value} {a k : Nat} {v : Value} (h : FxG G) (hk : fxl.all (fun e => !(e.1 == a && e.2.1 == k)) = true) : FxG (up2 G a k v) := fun e he => by
  have h1 := List.all_eq_true.mp hk e he
  rw [up2_n (show ¬ (e.1 = a ∧ e.2.1 = k) from fun q => by rw [q.1, q.2] at h1; simp at h1)]
  exact h e he
/-- a table's size -/
theorem FxG.u0 {G : Nat → Nat → Value} {a : Nat} {v : Value} (h : FxG G) (ha : a ∉ [2, 3, 96, 111, 122]) : FxG (up2 G a 0 v) := fun e he => by
  have h1 : fxl.all (fun e => !(e.2.1 == 0) || [2, 3, 96, 111, 122].contains e.1) = true := by decide +kernel
  have h2 := List.all_eq_true.mp h1 e he
  rw [up2_n (show ¬ (e.1 = a ∧ e.2.1 = 0) from fun q => by
    rw [q.1, q.2] at h2
    simp only [beq_self_eq_true, Bool.not_true, Bool.false_or] at h2
    exact ha (List.contains_iff_mem.mp h2))]
  exact h e he
theorem TabAt.s0 {S : CS} {G : Nat → Nat → Value} {a d k : Nat} {v : Value} (h : TabAt S G a) (hk : ¬ (a = d ∧ 1 = k)) : TabAt S (up2 G d k v) a := ⟨h.1, h.2.1, h.2.2.1, h.2.2.2.1, by rw [up2_n hk]; exact h.2.2.2.2⟩
/-- the other group of order 4, of order 6 -/
def ogN (n q : Nat) : Nat := if n = 4 then q / n ^^^ q % n else (if q / n < 3 then (q / n % 3 + q % n % 3) % 3 else (q / n % 3 + 3 - q % n % 3) % 3) + (if (q / n < 3) = (q % n < 3) then 0 else 3)
theorem og4_tt : ∀ x, x < 4 → ∀ y, y < 4 → x < 2 → y < 2 → (x + y) % 2 = ogN 4 (4 * x + y) := by decide
theorem og4_tf : ∀ x, x < 4 → ∀ y, y < 4 → x < 2 → 2 ≤ y → 2 + (x + y) % 2 = ogN 4 (4 * x + y) := by decide
theorem og4_ft : ∀ x, x < 4 → ∀ y, y < 4 → 2 ≤ x → y < 2 → 2 + (x + 4 - y) % 2 = ogN 4 (4 * x + y) := by decide
theorem og4_ff : ∀ x, x < 4 → ∀ y, y < 4 → 2 ≤ x → 2 ≤ y → (x + 4 - y) % 2 = ogN 4 (4 * x + y) := by decide
theorem og4_lt : ∀ q, q < 4 * 4 → ogN 4 q < 4 := by decide
theorem og6_tt : ∀ x, x < 6 → ∀ y, y < 6 → x < 3 → y < 3 → (x + y) % 3 = ogN 6 (6 * x + y) := by decide
theorem og6_tf : ∀ x, x < 6 → ∀ y, y < 6 → x < 3 → 3 ≤ y → 3 + (x + y) % 3 = ogN 6 (6 * x + y) := by decide
theorem og6_ft : ∀ x, x < 6 → ∀ y, y < 6 → 3 ≤ x → y < 3 → 3 + (x + 6 - y) % 3 = ogN 6 (6 * x + y) := by decide
theorem og6_ff : ∀ x, x < 6 → ∀ y, y < 6 → 3 ≤ x → 3 ≤ y → (x + 6 - y) % 3 = ogN 6 (6 * x + y) := by decide
theorem og6_lt : ∀ q, q < 6 * 6 → ogN 6 q < 6 := by decide
theorem og4_x : ∀ x, x < 4 → ∀ y, y < 4 → x ^^^ y = ogN 4 (4 * x + y) := by decide
theorem os6_tt : ∀ x, x < 6 → ∀ y, y < 6 → x < 3 → y < 3 → (x % 3 + y % 3) % 3 + 0 = ogN 6 (6 * x + y) := by decide
theorem os6_tf : ∀ x, x < 6 → ∀ y, y < 6 → x < 3 → 3 ≤ y → (x % 3 + y % 3) % 3 + 3 = ogN 6 (6 * x + y) := by decide
theorem os6_ft : ∀ x, x < 6 → ∀ y, y < 6 → 3 ≤ x → y < 3 → (x % 3 + 3 - y % 3) % 3 + 3 = ogN 6 (6 * x + y) := by decide
theorem os6_ff : ∀ x, x < 6 → ∀ y, y < 6 → 3 ≤ x → 3 ≤ y → (x % 3 + 3 - y % 3) % 3 + 0 = ogN 6 (6 * x + y) := by decide
theorem k_makeOther4 {S : CS} {G : Nat → Nat → Value} {B : Nat → Nat → Int32} {J : Nat → Nat → Int64} {R : Nat → Nat → Option Nat} {d : Nat} (hd : TabAt S G d) : CR 1 112 0 [some (.ref d), some (.int (nI 4)), none, none, none, none, none] [] S G B J R (mkC d S G B J R 4 (ogN 4)) := by
  have hd' : TabAt S (up2 G d 0 (.int (nI 4))) d := hd.up
  have hdn' : up2 G d 0 (.int (nI 4)) d 0 = .int (nI 4) := up2_s
  refine cr_nx (pc' := 1) (al' := [some (.ref d), some (.int (nI 4)), none, none, none, none, none]) (st' := [.int (nI 4)]) d_112_0 (fun _ => rfl) ?_
  refine cn_ic (v := 2) d_112_1 (by decide) ?_
  refine cn_div d_112_2 (by first | omega | assumption | exact cu_36 (by omega) (cu_lt (by omega) (by omega))) (by first | omega | assumption | exact cu_36 (by omega) (cu_lt (by omega) (by omega))) (by first | omega | assumption | exact cu_36 (by omega) (cu_lt (by omega) (by omega))) ?_
  refine cn_ic (v := 1) d_112_3 (by decide) ?_
  refine cn_mx d_112_4 cw_112 cm_10_37 (by first | omega | assumption | exact cu_36 (by omega) (cu_lt (by omega) (by omega))) (by first | omega | assumption | exact cu_36 (by omega) (cu_lt (by omega) (by omega))) rfl ?_
  refine cr_tp (z := (nI 2)) rfl ?_
  refine cr_nx (pc' := 8) (al' := [some (.ref d), some (.int (nI 4)), some (.int (nI 2)), none, none, none, none]) (st' := []) d_112_7 (fun _ => rfl) ?_
  refine cr_nx (pc' := 9) (al' := [some (.ref d), some (.int (nI 4)), some (.int (nI 2)), none, none, none, none]) (st' := [.ref d]) d_112_8 (fun _ => rfl) ?_
  refine cr_nx (pc' := 10) (al' := [some (.ref d), some (.int (nI 4)), some (.int (nI 2)), none, none, none, none]) (st' := [.int (nI 4), .ref d]) d_112_9 (fun _ => rfl) ?_
  refine cp_10_0  d_112_10 cw_112 cf_10_15 hd.1 hd.2.2.1 (by decide) ?_
  refine cn_ic (v := 0) d_112_13 (by decide) ?_
  refine cr_nx (pc' := 15) (al' := [some (.ref d), some (.int (nI 4)), some (.int (nI 2)), some (.int (nI 0)), none, none, none]) (st' := []) d_112_14 (fun _ => rfl) ?_
  refine cr_B (show B = (upr B (d + 1) (B (d + 1))) by rw [upr_id]) ?_
  refine cr_upw (al := fun x w_ => [some (.ref d), some (.int (nI 4)), some (.int (nI 2)), some (.int (nI x)), none, none, none]) (S := fun x w_ => S) (G := fun x w_ => (up2 G d 0 (.int (nI 4)))) (B := fun x w_ => (upr B (d + 1) w_)) (J := fun x w_ => J) (R := fun x w_ => R) (P := fun x w_ => ScP (fun q => nI (ogN 4 q)) (fun x y => 4 * x + y) 4 x 0 w_) (n := 4) (fun x w_ hx px ihx => ?_) (fun w_ px => ?_) 0 (B (d + 1)) (by omega) (sc_0)
  · show CR _ _ 15 [some (.ref d), some (.int (nI 4)), some (.int (nI 2)), some (.int (nI x)), none, none, none] [] S (up2 G d 0 (.int (nI 4))) (upr B (d + 1) w_) J R _
    refine cr_nx (pc' := 16) (al' := [some (.ref d), some (.int (nI 4)), some (.int (nI 2)), some (.int (nI x)), none, none, none]) (st' := [.int (nI x)]) d_112_15 (fun _ => rfl) ?_
    refine cr_nx (pc' := 17) (al' := [some (.ref d), some (.int (nI 4)), some (.int (nI 2)), some (.int (nI x)), none, none, none]) (st' := [.int (nI 4), .int (nI x)]) d_112_16 (fun _ => rfl) ?_
    refine cn_cge (t := 117) d_112_17 (by decide) (by first | omega | assumption | exact cu_36 (by omega) (cu_lt (by omega) (by omega))) (by first | omega | assumption | exact cu_36 (by omega) (cu_lt (by omega) (by omega))) (fun c17 => ?_) (fun c17 => ?_)
    · omega
    · refine cn_ic (v := 0) d_112_20 (by decide) ?_
      refine cr_nx (pc' := 23) (al' := [some (.ref d), some (.int (nI 4)), some (.int (nI 2)), some (.int (nI x)), some (.int (nI 0)), none, none]) (st' := []) d_112_21 (fun _ => rfl) ?_
      refine cr_upw (al := fun y w_ => [some (.ref d), some (.int (nI 4)), some (.int (nI 2)), some (.int (nI x)), some (.int (nI y)), none, none]) (S := fun y w_ => S) (G := fun y w_ => (up2 G d 0 (.int (nI 4)))) (B := fun y w_ => (upr B (d + 1) w_)) (J := fun y w_ => J) (R := fun y w_ => R) (P := fun y w_ => ScP (fun q => nI (ogN 4 q)) (fun x y => 4 * x + y) 4 x y w_) (n := 4) (fun y w_ hy py ihy => ?_) (fun w_ py => ?_) 0 w_ (by omega) (px)
      · show CR _ _ 23 [some (.ref d), some (.int (nI 4)), some (.int (nI 2)), some (.int (nI x)), some (.int (nI y)), none, none] [] S (up2 G d 0 (.int (nI 4))) (upr B (d + 1) w_) J R _
        refine cr_nx (pc' := 25) (al' := [some (.ref d), some (.int (nI 4)), some (.int (nI 2)), some (.int (nI x)), some (.int (nI y)), none, none]) (st' := [.int (nI y)]) d_112_23 (fun _ => rfl) ?_
        refine cr_nx (pc' := 26) (al' := [some (.ref d), some (.int (nI 4)), some (.int (nI 2)), some (.int (nI x)), some (.int (nI y)), none, none]) (st' := [.int (nI 4), .int (nI y)]) d_112_25 (fun _ => rfl) ?_
        refine cn_cge (t := 111) d_112_26 (by decide) (by first | omega | assumption | exact cu_36 (by omega) (cu_lt (by omega) (by omega))) (by first | omega | assumption | exact cu_36 (by omega) (cu_lt (by omega) (by omega))) (fun c26 => ?_) (fun c26 => ?_)
        · omega
        · refine cr_nx (pc' := 30) (al' := [some (.ref d), some (.int (nI 4)), some (.int (nI 2)), some (.int (nI x)), some (.int (nI y)), none, none]) (st' := [.int (nI x)]) d_112_29 (fun _ => rfl) ?_
          refine cr_nx (pc' := 31) (al' := [some (.ref d), some (.int (nI 4)), some (.int (nI 2)), some (.int (nI x)), some (.int (nI y)), none, none]) (st' := [.int (nI 2), .int (nI x)]) d_112_30 (fun _ => rfl) ?_
          refine cn_cge (t := 41) d_112_31 (by decide) (by first | omega | assumption | exact cu_36 (by omega) (cu_lt (by omega) (by omega))) (by first | omega | assumption | exact cu_36 (by omega) (cu_lt (by omega) (by omega))) (fun c31 => ?_) (fun c31 => ?_)
          · refine cr_nx (pc' := 42) (al' := [some (.ref d), some (.int (nI 4)), some (.int (nI 2)), some (.int (nI x)), some (.int (nI y)), none, none]) (st' := [.int (nI x)]) d_112_41 (fun _ => rfl) ?_
            refine cr_nx (pc' := 43) (al' := [some (.ref d), some (.int (nI 4)), some (.int (nI 2)), some (.int (nI x)), some (.int (nI y)), none, none]) (st' := [.int (nI 4), .int (nI x)]) d_112_42 (fun _ => rfl) ?_
            refine cn_add d_112_43  ?_
            refine cr_nx (pc' := 46) (al' := [some (.ref d), some (.int (nI 4)), some (.int (nI 2)), some (.int (nI x)), some (.int (nI y)), none, none]) (st' := [.int (nI y), .int (nI (x + 4))]) d_112_44 (fun _ => rfl) ?_
            refine cn_sub d_112_46 (by first | omega | assumption | exact cu_36 (by omega) (cu_lt (by omega) (by omega))) ?_
            refine cr_nx (pc' := 49) (al' := [some (.ref d), some (.int (nI 4)), some (.int (nI 2)), some (.int (nI x)), some (.int (nI y)), some (.int (nI ((x + 4) - y))), none]) (st' := []) d_112_47 (fun _ => rfl) ?_
            refine cr_nx (pc' := 50) (al' := [some (.ref d), some (.int (nI 4)), some (.int (nI 2)), some (.int (nI x)), some (.int (nI y)), some (.int (nI ((x + 4) - y))), none]) (st' := [.int (nI x)]) d_112_49 (fun _ => rfl) ?_
            refine cr_nx (pc' := 51) (al' := [some (.ref d), some (.int (nI 4)), some (.int (nI 2)), some (.int (nI x)), some (.int (nI y)), some (.int (nI ((x + 4) - y))), none]) (st' := [.int (nI 2), .int (nI x)]) d_112_50 (fun _ => rfl) ?_
            refine cn_cge (t := 58) d_112_51 (by decide) (by first | omega | assumption | exact cu_36 (by omega) (cu_lt (by omega) (by omega))) (by first | omega | assumption | exact cu_36 (by omega) (cu_lt (by omega) (by omega))) (fun c51 => ?_) (fun c51 => ?_)
            · refine cn_ic (v := 0) d_112_58 (by decide) ?_
              refine cr_nx (pc' := 61) (al' := [some (.ref d), some (.int (nI 4)), some (.int (nI 2)), some (.int (nI x)), some (.int (nI y)), some (.int (nI ((x + 4) - y))), none]) (st' := [.int (nI y), .int (nI 0)]) d_112_59 (fun _ => rfl) ?_
              refine cr_nx (pc' := 62) (al' := [some (.ref d), some (.int (nI 4)), some (.int (nI 2)), some (.int (nI x)), some (.int (nI y)), some (.int (nI ((x + 4) - y))), none]) (st' := [.int (nI 2), .int (nI y), .int (nI 0)]) d_112_61 (fun _ => rfl) ?_
              refine cn_cge (t := 69) d_112_62 (by decide) (by first | omega | assumption | exact cu_36 (by omega) (cu_lt (by omega) (by omega))) (by first | omega | assumption | exact cu_36 (by omega) (cu_lt (by omega) (by omega))) (fun c62 => ?_) (fun c62 => ?_)
              · refine cn_ic (v := 0) d_112_69 (by decide) ?_
                refine cn_ceq (t := 77) d_112_70 (by decide) (by first | omega | assumption | exact cu_36 (by omega) (cu_lt (by omega) (by omega))) (by first | omega | assumption | exact cu_36 (by omega) (cu_lt (by omega) (by omega))) (fun c70 => ?_) (fun c70 => ?_)
                · refine cn_ic (v := 0) d_112_77 (by decide) ?_
                  refine cr_nx (pc' := 80) (al' := [some (.ref d), some (.int (nI 4)), some (.int (nI 2)), some (.int (nI x)), some (.int (nI y)), some (.int (nI ((x + 4) - y))), some (.int (nI 0))]) (st' := []) d_112_78 (fun _ => rfl) ?_
                  refine cr_nx (pc' := 81) (al' := [some (.ref d), some (.int (nI 4)), some (.int (nI 2)), some (.int (nI x)), some (.int (nI y)), some (.int (nI ((x + 4) - y))), some (.int (nI 0))]) (st' := [.ref d]) d_112_80 (fun _ => rfl) ?_
                  refine cr_nx (pc' := 82) (al' := [some (.ref d), some (.int (nI 4)), some (.int (nI 2)), some (.int (nI x)), some (.int (nI y)), some (.int (nI ((x + 4) - y))), some (.int (nI 0))]) (st' := [.int (nI x), .ref d]) d_112_81 (fun _ => rfl) ?_
                  refine cr_nx (pc' := 84) (al' := [some (.ref d), some (.int (nI 4)), some (.int (nI 2)), some (.int (nI x)), some (.int (nI y)), some (.int (nI ((x + 4) - y))), some (.int (nI 0))]) (st' := [.int (nI y), .int (nI x), .ref d]) d_112_82 (fun _ => rfl) ?_
                  refine cr_nx (pc' := 86) (al' := [some (.ref d), some (.int (nI 4)), some (.int (nI 2)), some (.int (nI x)), some (.int (nI y)), some (.int (nI ((x + 4) - y))), some (.int (nI 0))]) (st' := [.int (nI 0), .int (nI y), .int (nI x), .ref d]) d_112_84 (fun _ => rfl) ?_
                  refine cn_ieq (t := 98) d_112_86 (by decide) (by first | omega | assumption | exact cu_36 (by omega) (cu_lt (by omega) (by omega))) (fun c86 => ?_) (fun c86 => ?_)
                  · refine cr_nx (pc' := 100) (al' := [some (.ref d), some (.int (nI 4)), some (.int (nI 2)), some (.int (nI x)), some (.int (nI y)), some (.int (nI ((x + 4) - y))), some (.int (nI 0))]) (st' := [.int (nI ((x + 4) - y)), .int (nI y), .int (nI x), .ref d]) d_112_98 (fun _ => rfl) ?_
                    refine cr_nx (pc' := 101) (al' := [some (.ref d), some (.int (nI 4)), some (.int (nI 2)), some (.int (nI x)), some (.int (nI y)), some (.int (nI ((x + 4) - y))), some (.int (nI 0))]) (st' := [.int (nI 2), .int (nI ((x + 4) - y)), .int (nI y), .int (nI x), .ref d]) d_112_100 (fun _ => rfl) ?_
                    refine cn_rem d_112_101 (by first | omega | assumption | exact cu_36 (by omega) (cu_lt (by omega) (by omega))) (by first | omega | assumption | exact cu_36 (by omega) (cu_lt (by omega) (by omega))) (by first | omega | assumption | exact cu_36 (by omega) (cu_lt (by omega) (by omega))) ?_
                    refine cr_pv (b := d) (as := [.int (nI x), .int (nI y), .int (nI (((x + 4) - y) % 2))]) (al0 := [some (.ref d), some (.int (nI x)), some (.int (nI y)), some (.int (nI (((x + 4) - y) % 2)))]) (r := []) d_112_102 cw_112 cm_10_33 cz_95 rfl rfl hd.1 (by rw [cw_95]; exact hd.2.2.1) (by rw [cw_95]; decide) rfl (Nat.le_of_ble_eq_true rfl) (k_put hd' hdn' (nI (((x + 4) - y) % 2)) (cu_36 (n := 4) (by decide) (cu_lt hx hy))) ?_
                    rw [upr_s, upr_u]
                    show CR _ _ 105 [some (.ref d), some (.int (nI 4)), some (.int (nI 2)), some (.int (nI x)), some (.int (nI y)), some (.int (nI ((x + 4) - y))), some (.int (nI 0))] [] S (up2 G d 0 (.int (nI 4))) (upr B (d + 1) (upd w_ (4 * x + y) (nI (((x + 4) - y) % 2)))) J R _
                    refine cn_inc d_112_105 rfl rfl ?_
                    show CR _ _ 108 [some (.ref d), some (.int (nI 4)), some (.int (nI 2)), some (.int (nI x)), some (.int (nI (y + 1))), some (.int (nI ((x + 4) - y))), some (.int (nI 0))] [] S (up2 G d 0 (.int (nI 4))) (upr B (d + 1) (upd w_ (4 * x + y) (nI (((x + 4) - y) % 2)))) J R _
                    refine cr_nx (pc' := 23) (al' := [some (.ref d), some (.int (nI 4)), some (.int (nI 2)), some (.int (nI x)), some (.int (nI (y + 1))), some (.int (nI ((x + 4) - y))), some (.int (nI 0))]) (st' := []) d_112_108 (fun _ => rfl) ?_
                    refine cr_dr (al1 := [some (.ref d), some (.int (nI 4)), some (.int (nI 2)), some (.int (nI x)), some (.int (nI (y + 1))), none, none]) (le_s (le_s (le_s (le_s (le_s (le_d rfl (le_d rfl (le_n)))))))) ?_
                    exact ihy (upd w_ (4 * x + y) (nI (((x + 4) - y) % 2))) (sc_in py rfl (by first | exact congrArg nI (og4_tt x hx y hy (by omega) (by omega)) | exact congrArg nI (og4_tf x hx y hy (by omega) (by omega)) | exact congrArg nI (og4_ft x hx y hy (by omega) (by omega)) | exact congrArg nI (og4_ff x hx y hy (by omega) (by omega))))
                  · omega
                · omega
              · refine cn_ic (v := 1) d_112_65 (by decide) ?_
                refine cr_nx (pc' := 70) (al' := [some (.ref d), some (.int (nI 4)), some (.int (nI 2)), some (.int (nI x)), some (.int (nI y)), some (.int (nI ((x + 4) - y))), none]) (st' := [.int (nI 1), .int (nI 0)]) d_112_66 (fun _ => rfl) ?_
                refine cn_ceq (t := 77) d_112_70 (by decide) (by first | omega | assumption | exact cu_36 (by omega) (cu_lt (by omega) (by omega))) (by first | omega | assumption | exact cu_36 (by omega) (cu_lt (by omega) (by omega))) (fun c70 => ?_) (fun c70 => ?_)
                · omega
                · refine cn_ic (v := 1) d_112_73 (by decide) ?_
                  refine cr_nx (pc' := 78) (al' := [some (.ref d), some (.int (nI 4)), some (.int (nI 2)), some (.int (nI x)), some (.int (nI y)), some (.int (nI ((x + 4) - y))), none]) (st' := [.int (nI 1)]) d_112_74 (fun _ => rfl) ?_
                  refine cr_nx (pc' := 80) (al' := [some (.ref d), some (.int (nI 4)), some (.int (nI 2)), some (.int (nI x)), some (.int (nI y)), some (.int (nI ((x + 4) - y))), some (.int (nI 1))]) (st' := []) d_112_78 (fun _ => rfl) ?_
                  refine cr_nx (pc' := 81) (al' := [some (.ref d), some (.int (nI 4)), some (.int (nI 2)), some (.int (nI x)), some (.int (nI y)), some (.int (nI ((x + 4) - y))), some (.int (nI 1))]) (st' := [.ref d]) d_112_80 (fun _ => rfl) ?_
                  refine cr_nx (pc' := 82) (al' := [some (.ref d), some (.int (nI 4)), some (.int (nI 2)), some (.int (nI x)), some (.int (nI y)), some (.int (nI ((x + 4) - y))), some (.int (nI 1))]) (st' := [.int (nI x), .ref d]) d_112_81 (fun _ => rfl) ?_
                  refine cr_nx (pc' := 84) (al' := [some (.ref d), some (.int (nI 4)), some (.int (nI 2)), some (.int (nI x)), some (.int (nI y)), some (.int (nI ((x + 4) - y))), some (.int (nI 1))]) (st' := [.int (nI y), .int (nI x), .ref d]) d_112_82 (fun _ => rfl) ?_
                  refine cr_nx (pc' := 86) (al' := [some (.ref d), some (.int (nI 4)), some (.int (nI 2)), some (.int (nI x)), some (.int (nI y)), some (.int (nI ((x + 4) - y))), some (.int (nI 1))]) (st' := [.int (nI 1), .int (nI y), .int (nI x), .ref d]) d_112_84 (fun _ => rfl) ?_
                  refine cn_ieq (t := 98) d_112_86 (by decide) (by first | omega | assumption | exact cu_36 (by omega) (cu_lt (by omega) (by omega))) (fun c86 => ?_) (fun c86 => ?_)
                  · omega
                  · refine cr_nx (pc' := 90) (al' := [some (.ref d), some (.int (nI 4)), some (.int (nI 2)), some (.int (nI x)), some (.int (nI y)), some (.int (nI ((x + 4) - y))), some (.int (nI 1))]) (st' := [.int (nI 2), .int (nI y), .int (nI x), .ref d]) d_112_89 (fun _ => rfl) ?_
                    refine cr_nx (pc' := 92) (al' := [some (.ref d), some (.int (nI 4)), some (.int (nI 2)), some (.int (nI x)), some (.int (nI y)), some (.int (nI ((x + 4) - y))), some (.int (nI 1))]) (st' := [.int (nI ((x + 4) - y)), .int (nI 2), .int (nI y), .int (nI x), .ref d]) d_112_90 (fun _ => rfl) ?_
                    refine cr_nx (pc' := 93) (al' := [some (.ref d), some (.int (nI 4)), some (.int (nI 2)), some (.int (nI x)), some (.int (nI y)), some (.int (nI ((x + 4) - y))), some (.int (nI 1))]) (st' := [.int (nI 2), .int (nI ((x + 4) - y)), .int (nI 2), .int (nI y), .int (nI x), .ref d]) d_112_92 (fun _ => rfl) ?_
                    refine cn_rem d_112_93 (by first | omega | assumption | exact cu_36 (by omega) (cu_lt (by omega) (by omega))) (by first | omega | assumption | exact cu_36 (by omega) (cu_lt (by omega) (by omega))) (by first | omega | assumption | exact cu_36 (by omega) (cu_lt (by omega) (by omega))) ?_
                    refine cn_add d_112_94  ?_
                    refine cr_nx (pc' := 102) (al' := [some (.ref d), some (.int (nI 4)), some (.int (nI 2)), some (.int (nI x)), some (.int (nI y)), some (.int (nI ((x + 4) - y))), some (.int (nI 1))]) (st' := [.int (nI (2 + (((x + 4) - y) % 2))), .int (nI y), .int (nI x), .ref d]) d_112_95 (fun _ => rfl) ?_
                    refine cr_pv (b := d) (as := [.int (nI x), .int (nI y), .int (nI (2 + (((x + 4) - y) % 2)))]) (al0 := [some (.ref d), some (.int (nI x)), some (.int (nI y)), some (.int (nI (2 + (((x + 4) - y) % 2))))]) (r := []) d_112_102 cw_112 cm_10_33 cz_95 rfl rfl hd.1 (by rw [cw_95]; exact hd.2.2.1) (by rw [cw_95]; decide) rfl (Nat.le_of_ble_eq_true rfl) (k_put hd' hdn' (nI (2 + (((x + 4) - y) % 2))) (cu_36 (n := 4) (by decide) (cu_lt hx hy))) ?_
                    rw [upr_s, upr_u]
                    show CR _ _ 105 [some (.ref d), some (.int (nI 4)), some (.int (nI 2)), some (.int (nI x)), some (.int (nI y)), some (.int (nI ((x + 4) - y))), some (.int (nI 1))] [] S (up2 G d 0 (.int (nI 4))) (upr B (d + 1) (upd w_ (4 * x + y) (nI (2 + (((x + 4) - y) % 2))))) J R _
                    refine cn_inc d_112_105 rfl rfl ?_
                    show CR _ _ 108 [some (.ref d), some (.int (nI 4)), some (.int (nI 2)), some (.int (nI x)), some (.int (nI (y + 1))), some (.int (nI ((x + 4) - y))), some (.int (nI 1))] [] S (up2 G d 0 (.int (nI 4))) (upr B (d + 1) (upd w_ (4 * x + y) (nI (2 + (((x + 4) - y) % 2))))) J R _
                    refine cr_nx (pc' := 23) (al' := [some (.ref d), some (.int (nI 4)), some (.int (nI 2)), some (.int (nI x)), some (.int (nI (y + 1))), some (.int (nI ((x + 4) - y))), some (.int (nI 1))]) (st' := []) d_112_108 (fun _ => rfl) ?_
                    refine cr_dr (al1 := [some (.ref d), some (.int (nI 4)), some (.int (nI 2)), some (.int (nI x)), some (.int (nI (y + 1))), none, none]) (le_s (le_s (le_s (le_s (le_s (le_d rfl (le_d rfl (le_n)))))))) ?_
                    exact ihy (upd w_ (4 * x + y) (nI (2 + (((x + 4) - y) % 2)))) (sc_in py rfl (by first | exact congrArg nI (og4_tt x hx y hy (by omega) (by omega)) | exact congrArg nI (og4_tf x hx y hy (by omega) (by omega)) | exact congrArg nI (og4_ft x hx y hy (by omega) (by omega)) | exact congrArg nI (og4_ff x hx y hy (by omega) (by omega))))
            · refine cn_ic (v := 1) d_112_54 (by decide) ?_
              refine cr_nx (pc' := 59) (al' := [some (.ref d), some (.int (nI 4)), some (.int (nI 2)), some (.int (nI x)), some (.int (nI y)), some (.int (nI ((x + 4) - y))), none]) (st' := [.int (nI 1)]) d_112_55 (fun _ => rfl) ?_
              refine cr_nx (pc' := 61) (al' := [some (.ref d), some (.int (nI 4)), some (.int (nI 2)), some (.int (nI x)), some (.int (nI y)), some (.int (nI ((x + 4) - y))), none]) (st' := [.int (nI y), .int (nI 1)]) d_112_59 (fun _ => rfl) ?_
              refine cr_nx (pc' := 62) (al' := [some (.ref d), some (.int (nI 4)), some (.int (nI 2)), some (.int (nI x)), some (.int (nI y)), some (.int (nI ((x + 4) - y))), none]) (st' := [.int (nI 2), .int (nI y), .int (nI 1)]) d_112_61 (fun _ => rfl) ?_
              refine cn_cge (t := 69) d_112_62 (by decide) (by first | omega | assumption | exact cu_36 (by omega) (cu_lt (by omega) (by omega))) (by first | omega | assumption | exact cu_36 (by omega) (cu_lt (by omega) (by omega))) (fun c62 => ?_) (fun c62 => ?_)
              · refine cn_ic (v := 0) d_112_69 (by decide) ?_
                refine cn_ceq (t := 77) d_112_70 (by decide) (by first | omega | assumption | exact cu_36 (by omega) (cu_lt (by omega) (by omega))) (by first | omega | assumption | exact cu_36 (by omega) (cu_lt (by omega) (by omega))) (fun c70 => ?_) (fun c70 => ?_)
                · omega
                · refine cn_ic (v := 1) d_112_73 (by decide) ?_
                  refine cr_nx (pc' := 78) (al' := [some (.ref d), some (.int (nI 4)), some (.int (nI 2)), some (.int (nI x)), some (.int (nI y)), some (.int (nI ((x + 4) - y))), none]) (st' := [.int (nI 1)]) d_112_74 (fun _ => rfl) ?_
                  refine cr_nx (pc' := 80) (al' := [some (.ref d), some (.int (nI 4)), some (.int (nI 2)), some (.int (nI x)), some (.int (nI y)), some (.int (nI ((x + 4) - y))), some (.int (nI 1))]) (st' := []) d_112_78 (fun _ => rfl) ?_
                  refine cr_nx (pc' := 81) (al' := [some (.ref d), some (.int (nI 4)), some (.int (nI 2)), some (.int (nI x)), some (.int (nI y)), some (.int (nI ((x + 4) - y))), some (.int (nI 1))]) (st' := [.ref d]) d_112_80 (fun _ => rfl) ?_
                  refine cr_nx (pc' := 82) (al' := [some (.ref d), some (.int (nI 4)), some (.int (nI 2)), some (.int (nI x)), some (.int (nI y)), some (.int (nI ((x + 4) - y))), some (.int (nI 1))]) (st' := [.int (nI x), .ref d]) d_112_81 (fun _ => rfl) ?_
                  refine cr_nx (pc' := 84) (al' := [some (.ref d), some (.int (nI 4)), some (.int (nI 2)), some (.int (nI x)), some (.int (nI y)), some (.int (nI ((x + 4) - y))), some (.int (nI 1))]) (st' := [.int (nI y), .int (nI x), .ref d]) d_112_82 (fun _ => rfl) ?_
                  refine cr_nx (pc' := 86) (al' := [some (.ref d), some (.int (nI 4)), some (.int (nI 2)), some (.int (nI x)), some (.int (nI y)), some (.int (nI ((x + 4) - y))), some (.int (nI 1))]) (st' := [.int (nI 1), .int (nI y), .int (nI x), .ref d]) d_112_84 (fun _ => rfl) ?_
                  refine cn_ieq (t := 98) d_112_86 (by decide) (by first | omega | assumption | exact cu_36 (by omega) (cu_lt (by omega) (by omega))) (fun c86 => ?_) (fun c86 => ?_)
                  · omega
                  · refine cr_nx (pc' := 90) (al' := [some (.ref d), some (.int (nI 4)), some (.int (nI 2)), some (.int (nI x)), some (.int (nI y)), some (.int (nI ((x + 4) - y))), some (.int (nI 1))]) (st' := [.int (nI 2), .int (nI y), .int (nI x), .ref d]) d_112_89 (fun _ => rfl) ?_
                    refine cr_nx (pc' := 92) (al' := [some (.ref d), some (.int (nI 4)), some (.int (nI 2)), some (.int (nI x)), some (.int (nI y)), some (.int (nI ((x + 4) - y))), some (.int (nI 1))]) (st' := [.int (nI ((x + 4) - y)), .int (nI 2), .int (nI y), .int (nI x), .ref d]) d_112_90 (fun _ => rfl) ?_
                    refine cr_nx (pc' := 93) (al' := [some (.ref d), some (.int (nI 4)), some (.int (nI 2)), some (.int (nI x)), some (.int (nI y)), some (.int (nI ((x + 4) - y))), some (.int (nI 1))]) (st' := [.int (nI 2), .int (nI ((x + 4) - y)), .int (nI 2), .int (nI y), .int (nI x), .ref d]) d_112_92 (fun _ => rfl) ?_
                    refine cn_rem d_112_93 (by first | omega | assumption | exact cu_36 (by omega) (cu_lt (by omega) (by omega))) (by first | omega | assumption | exact cu_36 (by omega) (cu_lt (by omega) (by omega))) (by first | omega | assumption | exact cu_36 (by omega) (cu_lt (by omega) (by omega))) ?_
                    refine cn_add d_112_94  ?_
                    refine cr_nx (pc' := 102) (al' := [some (.ref d), some (.int (nI 4)), some (.int (nI 2)), some (.int (nI x)), some (.int (nI y)), some (.int (nI ((x + 4) - y))), some (.int (nI 1))]) (st' := [.int (nI (2 + (((x + 4) - y) % 2))), .int (nI y), .int (nI x), .ref d]) d_112_95 (fun _ => rfl) ?_
                    refine cr_pv (b := d) (as := [.int (nI x), .int (nI y), .int (nI (2 + (((x + 4) - y) % 2)))]) (al0 := [some (.ref d), some (.int (nI x)), some (.int (nI y)), some (.int (nI (2 + (((x + 4) - y) % 2))))]) (r := []) d_112_102 cw_112 cm_10_33 cz_95 rfl rfl hd.1 (by rw [cw_95]; exact hd.2.2.1) (by rw [cw_95]; decide) rfl (Nat.le_of_ble_eq_true rfl) (k_put hd' hdn' (nI (2 + (((x + 4) - y) % 2))) (cu_36 (n := 4) (by decide) (cu_lt hx hy))) ?_
                    rw [upr_s, upr_u]
                    show CR _ _ 105 [some (.ref d), some (.int (nI 4)), some (.int (nI 2)), some (.int (nI x)), some (.int (nI y)), some (.int (nI ((x + 4) - y))), some (.int (nI 1))] [] S (up2 G d 0 (.int (nI 4))) (upr B (d + 1) (upd w_ (4 * x + y) (nI (2 + (((x + 4) - y) % 2))))) J R _
                    refine cn_inc d_112_105 rfl rfl ?_
                    show CR _ _ 108 [some (.ref d), some (.int (nI 4)), some (.int (nI 2)), some (.int (nI x)), some (.int (nI (y + 1))), some (.int (nI ((x + 4) - y))), some (.int (nI 1))] [] S (up2 G d 0 (.int (nI 4))) (upr B (d + 1) (upd w_ (4 * x + y) (nI (2 + (((x + 4) - y) % 2))))) J R _
                    refine cr_nx (pc' := 23) (al' := [some (.ref d), some (.int (nI 4)), some (.int (nI 2)), some (.int (nI x)), some (.int (nI (y + 1))), some (.int (nI ((x + 4) - y))), some (.int (nI 1))]) (st' := []) d_112_108 (fun _ => rfl) ?_
                    refine cr_dr (al1 := [some (.ref d), some (.int (nI 4)), some (.int (nI 2)), some (.int (nI x)), some (.int (nI (y + 1))), none, none]) (le_s (le_s (le_s (le_s (le_s (le_d rfl (le_d rfl (le_n)))))))) ?_
                    exact ihy (upd w_ (4 * x + y) (nI (2 + (((x + 4) - y) % 2)))) (sc_in py rfl (by first | exact congrArg nI (og4_tt x hx y hy (by omega) (by omega)) | exact congrArg nI (og4_tf x hx y hy (by omega) (by omega)) | exact congrArg nI (og4_ft x hx y hy (by omega) (by omega)) | exact congrArg nI (og4_ff x hx y hy (by omega) (by omega))))
              · refine cn_ic (v := 1) d_112_65 (by decide) ?_
                refine cr_nx (pc' := 70) (al' := [some (.ref d), some (.int (nI 4)), some (.int (nI 2)), some (.int (nI x)), some (.int (nI y)), some (.int (nI ((x + 4) - y))), none]) (st' := [.int (nI 1), .int (nI 1)]) d_112_66 (fun _ => rfl) ?_
                refine cn_ceq (t := 77) d_112_70 (by decide) (by first | omega | assumption | exact cu_36 (by omega) (cu_lt (by omega) (by omega))) (by first | omega | assumption | exact cu_36 (by omega) (cu_lt (by omega) (by omega))) (fun c70 => ?_) (fun c70 => ?_)
                · refine cn_ic (v := 0) d_112_77 (by decide) ?_
                  refine cr_nx (pc' := 80) (al' := [some (.ref d), some (.int (nI 4)), some (.int (nI 2)), some (.int (nI x)), some (.int (nI y)), some (.int (nI ((x + 4) - y))), some (.int (nI 0))]) (st' := []) d_112_78 (fun _ => rfl) ?_
                  refine cr_nx (pc' := 81) (al' := [some (.ref d), some (.int (nI 4)), some (.int (nI 2)), some (.int (nI x)), some (.int (nI y)), some (.int (nI ((x + 4) - y))), some (.int (nI 0))]) (st' := [.ref d]) d_112_80 (fun _ => rfl) ?_
                  refine cr_nx (pc' := 82) (al' := [some (.ref d), some (.int (nI 4)), some (.int (nI 2)), some (.int (nI x)), some (.int (nI y)), some (.int (nI ((x + 4) - y))), some (.int (nI 0))]) (st' := [.int (nI x), .ref d]) d_112_81 (fun _ => rfl) ?_
                  refine cr_nx (pc' := 84) (al' := [some (.ref d), some (.int (nI 4)), some (.int (nI 2)), some (.int (nI x)), some (.int (nI y)), some (.int (nI ((x + 4) - y))), some (.int (nI 0))]) (st' := [.int (nI y), .int (nI x), .ref d]) d_112_82 (fun _ => rfl) ?_
                  refine cr_nx (pc' := 86) (al' := [some (.ref d), some (.int (nI 4)), some (.int (nI 2)), some (.int (nI x)), some (.int (nI y)), some (.int (nI ((x + 4) - y))), some (.int (nI 0))]) (st' := [.int (nI 0), .int (nI y), .int (nI x), .ref d]) d_112_84 (fun _ => rfl) ?_
                  refine cn_ieq (t := 98) d_112_86 (by decide) (by first | omega | assumption | exact cu_36 (by omega) (cu_lt (by omega) (by omega))) (fun c86 => ?_) (fun c86 => ?_)
                  · refine cr_nx (pc' := 100) (al' := [some (.ref d), some (.int (nI 4)), some (.int (nI 2)), some (.int (nI x)), some (.int (nI y)), some (.int (nI ((x + 4) - y))), some (.int (nI 0))]) (st' := [.int (nI ((x + 4) - y)), .int (nI y), .int (nI x), .ref d]) d_112_98 (fun _ => rfl) ?_
                    refine cr_nx (pc' := 101) (al' := [some (.ref d), some (.int (nI 4)), some (.int (nI 2)), some (.int (nI x)), some (.int (nI y)), some (.int (nI ((x + 4) - y))), some (.int (nI 0))]) (st' := [.int (nI 2), .int (nI ((x + 4) - y)), .int (nI y), .int (nI x), .ref d]) d_112_100 (fun _ => rfl) ?_
                    refine cn_rem d_112_101 (by first | omega | assumption | exact cu_36 (by omega) (cu_lt (by omega) (by omega))) (by first | omega | assumption | exact cu_36 (by omega) (cu_lt (by omega) (by omega))) (by first | omega | assumption | exact cu_36 (by omega) (cu_lt (by omega) (by omega))) ?_
                    refine cr_pv (b := d) (as := [.int (nI x), .int (nI y), .int (nI (((x + 4) - y) % 2))]) (al0 := [some (.ref d), some (.int (nI x)), some (.int (nI y)), some (.int (nI (((x + 4) - y) % 2)))]) (r := []) d_112_102 cw_112 cm_10_33 cz_95 rfl rfl hd.1 (by rw [cw_95]; exact hd.2.2.1) (by rw [cw_95]; decide) rfl (Nat.le_of_ble_eq_true rfl) (k_put hd' hdn' (nI (((x + 4) - y) % 2)) (cu_36 (n := 4) (by decide) (cu_lt hx hy))) ?_
                    rw [upr_s, upr_u]
                    show CR _ _ 105 [some (.ref d), some (.int (nI 4)), some (.int (nI 2)), some (.int (nI x)), some (.int (nI y)), some (.int (nI ((x + 4) - y))), some (.int (nI 0))] [] S (up2 G d 0 (.int (nI 4))) (upr B (d + 1) (upd w_ (4 * x + y) (nI (((x + 4) - y) % 2)))) J R _
                    refine cn_inc d_112_105 rfl rfl ?_
                    show CR _ _ 108 [some (.ref d), some (.int (nI 4)), some (.int (nI 2)), some (.int (nI x)), some (.int (nI (y + 1))), some (.int (nI ((x + 4) - y))), some (.int (nI 0))] [] S (up2 G d 0 (.int (nI 4))) (upr B (d + 1) (upd w_ (4 * x + y) (nI (((x + 4) - y) % 2)))) J R _
                    refine cr_nx (pc' := 23) (al' := [some (.ref d), some (.int (nI 4)), some (.int (nI 2)), some (.int (nI x)), some (.int (nI (y + 1))), some (.int (nI ((x + 4) - y))), some (.int (nI 0))]) (st' := []) d_112_108 (fun _ => rfl) ?_
                    refine cr_dr (al1 := [some (.ref d), some (.int (nI 4)), some (.int (nI 2)), some (.int (nI x)), some (.int (nI (y + 1))), none, none]) (le_s (le_s (le_s (le_s (le_s (le_d rfl (le_d rfl (le_n)))))))) ?_
                    exact ihy (upd w_ (4 * x + y) (nI (((x + 4) - y) % 2))) (sc_in py rfl (by first | exact congrArg nI (og4_tt x hx y hy (by omega) (by omega)) | exact congrArg nI (og4_tf x hx y hy (by omega) (by omega)) | exact congrArg nI (og4_ft x hx y hy (by omega) (by omega)) | exact congrArg nI (og4_ff x hx y hy (by omega) (by omega))))
                  · omega
                · omega
          · refine cr_nx (pc' := 35) (al' := [some (.ref d), some (.int (nI 4)), some (.int (nI 2)), some (.int (nI x)), some (.int (nI y)), none, none]) (st' := [.int (nI x)]) d_112_34 (fun _ => rfl) ?_
            refine cr_nx (pc' := 37) (al' := [some (.ref d), some (.int (nI 4)), some (.int (nI 2)), some (.int (nI x)), some (.int (nI y)), none, none]) (st' := [.int (nI y), .int (nI x)]) d_112_35 (fun _ => rfl) ?_
            refine cn_add d_112_37  ?_
            refine cr_nx (pc' := 47) (al' := [some (.ref d), some (.int (nI 4)), some (.int (nI 2)), some (.int (nI x)), some (.int (nI y)), none, none]) (st' := [.int (nI (x + y))]) d_112_38 (fun _ => rfl) ?_
            refine cr_nx (pc' := 49) (al' := [some (.ref d), some (.int (nI 4)), some (.int (nI 2)), some (.int (nI x)), some (.int (nI y)), some (.int (nI (x + y))), none]) (st' := []) d_112_47 (fun _ => rfl) ?_
            refine cr_nx (pc' := 50) (al' := [some (.ref d), some (.int (nI 4)), some (.int (nI 2)), some (.int (nI x)), some (.int (nI y)), some (.int (nI (x + y))), none]) (st' := [.int (nI x)]) d_112_49 (fun _ => rfl) ?_
            refine cr_nx (pc' := 51) (al' := [some (.ref d), some (.int (nI 4)), some (.int (nI 2)), some (.int (nI x)), some (.int (nI y)), some (.int (nI (x + y))), none]) (st' := [.int (nI 2), .int (nI x)]) d_112_50 (fun _ => rfl) ?_
            refine cn_cge (t := 58) d_112_51 (by decide) (by first | omega | assumption | exact cu_36 (by omega) (cu_lt (by omega) (by omega))) (by first | omega | assumption | exact cu_36 (by omega) (cu_lt (by omega) (by omega))) (fun c51 => ?_) (fun c51 => ?_)
            · refine cn_ic (v := 0) d_112_58 (by decide) ?_
              refine cr_nx (pc' := 61) (al' := [some (.ref d), some (.int (nI 4)), some (.int (nI 2)), some (.int (nI x)), some (.int (nI y)), some (.int (nI (x + y))), none]) (st' := [.int (nI y), .int (nI 0)]) d_112_59 (fun _ => rfl) ?_
              refine cr_nx (pc' := 62) (al' := [some (.ref d), some (.int (nI 4)), some (.int (nI 2)), some (.int (nI x)), some (.int (nI y)), some (.int (nI (x + y))), none]) (st' := [.int (nI 2), .int (nI y), .int (nI 0)]) d_112_61 (fun _ => rfl) ?_
              refine cn_cge (t := 69) d_112_62 (by decide) (by first | omega | assumption | exact cu_36 (by omega) (cu_lt (by omega) (by omega))) (by first | omega | assumption | exact cu_36 (by omega) (cu_lt (by omega) (by omega))) (fun c62 => ?_) (fun c62 => ?_)
              · refine cn_ic (v := 0) d_112_69 (by decide) ?_
                refine cn_ceq (t := 77) d_112_70 (by decide) (by first | omega | assumption | exact cu_36 (by omega) (cu_lt (by omega) (by omega))) (by first | omega | assumption | exact cu_36 (by omega) (cu_lt (by omega) (by omega))) (fun c70 => ?_) (fun c70 => ?_)
                · refine cn_ic (v := 0) d_112_77 (by decide) ?_
                  refine cr_nx (pc' := 80) (al' := [some (.ref d), some (.int (nI 4)), some (.int (nI 2)), some (.int (nI x)), some (.int (nI y)), some (.int (nI (x + y))), some (.int (nI 0))]) (st' := []) d_112_78 (fun _ => rfl) ?_
                  refine cr_nx (pc' := 81) (al' := [some (.ref d), some (.int (nI 4)), some (.int (nI 2)), some (.int (nI x)), some (.int (nI y)), some (.int (nI (x + y))), some (.int (nI 0))]) (st' := [.ref d]) d_112_80 (fun _ => rfl) ?_
                  refine cr_nx (pc' := 82) (al' := [some (.ref d), some (.int (nI 4)), some (.int (nI 2)), some (.int (nI x)), some (.int (nI y)), some (.int (nI (x + y))), some (.int (nI 0))]) (st' := [.int (nI x), .ref d]) d_112_81 (fun _ => rfl) ?_
                  refine cr_nx (pc' := 84) (al' := [some (.ref d), some (.int (nI 4)), some (.int (nI 2)), some (.int (nI x)), some (.int (nI y)), some (.int (nI (x + y))), some (.int (nI 0))]) (st' := [.int (nI y), .int (nI x), .ref d]) d_112_82 (fun _ => rfl) ?_
                  refine cr_nx (pc' := 86) (al' := [some (.ref d), some (.int (nI 4)), some (.int (nI 2)), some (.int (nI x)), some (.int (nI y)), some (.int (nI (x + y))), some (.int (nI 0))]) (st' := [.int (nI 0), .int (nI y), .int (nI x), .ref d]) d_112_84 (fun _ => rfl) ?_
                  refine cn_ieq (t := 98) d_112_86 (by decide) (by first | omega | assumption | exact cu_36 (by omega) (cu_lt (by omega) (by omega))) (fun c86 => ?_) (fun c86 => ?_)
                  · refine cr_nx (pc' := 100) (al' := [some (.ref d), some (.int (nI 4)), some (.int (nI 2)), some (.int (nI x)), some (.int (nI y)), some (.int (nI (x + y))), some (.int (nI 0))]) (st' := [.int (nI (x + y)), .int (nI y), .int (nI x), .ref d]) d_112_98 (fun _ => rfl) ?_
                    refine cr_nx (pc' := 101) (al' := [some (.ref d), some (.int (nI 4)), some (.int (nI 2)), some (.int (nI x)), some (.int (nI y)), some (.int (nI (x + y))), some (.int (nI 0))]) (st' := [.int (nI 2), .int (nI (x + y)), .int (nI y), .int (nI x), .ref d]) d_112_100 (fun _ => rfl) ?_
                    refine cn_rem d_112_101 (by first | omega | assumption | exact cu_36 (by omega) (cu_lt (by omega) (by omega))) (by first | omega | assumption | exact cu_36 (by omega) (cu_lt (by omega) (by omega))) (by first | omega | assumption | exact cu_36 (by omega) (cu_lt (by omega) (by omega))) ?_
                    refine cr_pv (b := d) (as := [.int (nI x), .int (nI y), .int (nI ((x + y) % 2))]) (al0 := [some (.ref d), some (.int (nI x)), some (.int (nI y)), some (.int (nI ((x + y) % 2)))]) (r := []) d_112_102 cw_112 cm_10_33 cz_95 rfl rfl hd.1 (by rw [cw_95]; exact hd.2.2.1) (by rw [cw_95]; decide) rfl (Nat.le_of_ble_eq_true rfl) (k_put hd' hdn' (nI ((x + y) % 2)) (cu_36 (n := 4) (by decide) (cu_lt hx hy))) ?_
                    rw [upr_s, upr_u]
                    show CR _ _ 105 [some (.ref d), some (.int (nI 4)), some (.int (nI 2)), some (.int (nI x)), some (.int (nI y)), some (.int (nI (x + y))), some (.int (nI 0))] [] S (up2 G d 0 (.int (nI 4))) (upr B (d + 1) (upd w_ (4 * x + y) (nI ((x + y) % 2)))) J R _
                    refine cn_inc d_112_105 rfl rfl ?_
                    show CR _ _ 108 [some (.ref d), some (.int (nI 4)), some (.int (nI 2)), some (.int (nI x)), some (.int (nI (y + 1))), some (.int (nI (x + y))), some (.int (nI 0))] [] S (up2 G d 0 (.int (nI 4))) (upr B (d + 1) (upd w_ (4 * x + y) (nI ((x + y) % 2)))) J R _
                    refine cr_nx (pc' := 23) (al' := [some (.ref d), some (.int (nI 4)), some (.int (nI 2)), some (.int (nI x)), some (.int (nI (y + 1))), some (.int (nI (x + y))), some (.int (nI 0))]) (st' := []) d_112_108 (fun _ => rfl) ?_
                    refine cr_dr (al1 := [some (.ref d), some (.int (nI 4)), some (.int (nI 2)), some (.int (nI x)), some (.int (nI (y + 1))), none, none]) (le_s (le_s (le_s (le_s (le_s (le_d rfl (le_d rfl (le_n)))))))) ?_
                    exact ihy (upd w_ (4 * x + y) (nI ((x + y) % 2))) (sc_in py rfl (by first | exact congrArg nI (og4_tt x hx y hy (by omega) (by omega)) | exact congrArg nI (og4_tf x hx y hy (by omega) (by omega)) | exact congrArg nI (og4_ft x hx y hy (by omega) (by omega)) | exact congrArg nI (og4_ff x hx y hy (by omega) (by omega))))
                  · omega
                · omega
              · refine cn_ic (v := 1) d_112_65 (by decide) ?_
                refine cr_nx (pc' := 70) (al' := [some (.ref d), some (.int (nI 4)), some (.int (nI 2)), some (.int (nI x)), some (.int (nI y)), some (.int (nI (x + y))), none]) (st' := [.int (nI 1), .int (nI 0)]) d_112_66 (fun _ => rfl) ?_
                refine cn_ceq (t := 77) d_112_70 (by decide) (by first | omega | assumption | exact cu_36 (by omega) (cu_lt (by omega) (by omega))) (by first | omega | assumption | exact cu_36 (by omega) (cu_lt (by omega) (by omega))) (fun c70 => ?_) (fun c70 => ?_)
                · omega
                · refine cn_ic (v := 1) d_112_73 (by decide) ?_
                  refine cr_nx (pc' := 78) (al' := [some (.ref d), some (.int (nI 4)), some (.int (nI 2)), some (.int (nI x)), some (.int (nI y)), some (.int (nI (x + y))), none]) (st' := [.int (nI 1)]) d_112_74 (fun _ => rfl) ?_
                  refine cr_nx (pc' := 80) (al' := [some (.ref d), some (.int (nI 4)), some (.int (nI 2)), some (.int (nI x)), some (.int (nI y)), some (.int (nI (x + y))), some (.int (nI 1))]) (st' := []) d_112_78 (fun _ => rfl) ?_
                  refine cr_nx (pc' := 81) (al' := [some (.ref d), some (.int (nI 4)), some (.int (nI 2)), some (.int (nI x)), some (.int (nI y)), some (.int (nI (x + y))), some (.int (nI 1))]) (st' := [.ref d]) d_112_80 (fun _ => rfl) ?_
                  refine cr_nx (pc' := 82) (al' := [some (.ref d), some (.int (nI 4)), some (.int (nI 2)), some (.int (nI x)), some (.int (nI y)), some (.int (nI (x + y))), some (.int (nI 1))]) (st' := [.int (nI x), .ref d]) d_112_81 (fun _ => rfl) ?_
                  refine cr_nx (pc' := 84) (al' := [some (.ref d), some (.int (nI 4)), some (.int (nI 2)), some (.int (nI x)), some (.int (nI y)), some (.int (nI (x + y))), some (.int (nI 1))]) (st' := [.int (nI y), .int (nI x), .ref d]) d_112_82 (fun _ => rfl) ?_
                  refine cr_nx (pc' := 86) (al' := [some (.ref d), some (.int (nI 4)), some (.int (nI 2)), some (.int (nI x)), some (.int (nI y)), some (.int (nI (x + y))), some (.int (nI 1))]) (st' := [.int (nI 1), .int (nI y), .int (nI x), .ref d]) d_112_84 (fun _ => rfl) ?_
                  refine cn_ieq (t := 98) d_112_86 (by decide) (by first | omega | assumption | exact cu_36 (by omega) (cu_lt (by omega) (by omega))) (fun c86 => ?_) (fun c86 => ?_)
                  · omega
                  · refine cr_nx (pc' := 90) (al' := [some (.ref d), some (.int (nI 4)), some (.int (nI 2)), some (.int (nI x)), some (.int (nI y)), some (.int (nI (x + y))), some (.int (nI 1))]) (st' := [.int (nI 2), .int (nI y), .int (nI x), .ref d]) d_112_89 (fun _ => rfl) ?_
                    refine cr_nx (pc' := 92) (al' := [some (.ref d), some (.int (nI 4)), some (.int (nI 2)), some (.int (nI x)), some (.int (nI y)), some (.int (nI (x + y))), some (.int (nI 1))]) (st' := [.int (nI (x + y)), .int (nI 2), .int (nI y), .int (nI x), .ref d]) d_112_90 (fun _ => rfl) ?_
                    refine cr_nx (pc' := 93) (al' := [some (.ref d), some (.int (nI 4)), some (.int (nI 2)), some (.int (nI x)), some (.int (nI y)), some (.int (nI (x + y))), some (.int (nI 1))]) (st' := [.int (nI 2), .int (nI (x + y)), .int (nI 2), .int (nI y), .int (nI x), .ref d]) d_112_92 (fun _ => rfl) ?_
                    refine cn_rem d_112_93 (by first | omega | assumption | exact cu_36 (by omega) (cu_lt (by omega) (by omega))) (by first | omega | assumption | exact cu_36 (by omega) (cu_lt (by omega) (by omega))) (by first | omega | assumption | exact cu_36 (by omega) (cu_lt (by omega) (by omega))) ?_
                    refine cn_add d_112_94  ?_
                    refine cr_nx (pc' := 102) (al' := [some (.ref d), some (.int (nI 4)), some (.int (nI 2)), some (.int (nI x)), some (.int (nI y)), some (.int (nI (x + y))), some (.int (nI 1))]) (st' := [.int (nI (2 + ((x + y) % 2))), .int (nI y), .int (nI x), .ref d]) d_112_95 (fun _ => rfl) ?_
                    refine cr_pv (b := d) (as := [.int (nI x), .int (nI y), .int (nI (2 + ((x + y) % 2)))]) (al0 := [some (.ref d), some (.int (nI x)), some (.int (nI y)), some (.int (nI (2 + ((x + y) % 2))))]) (r := []) d_112_102 cw_112 cm_10_33 cz_95 rfl rfl hd.1 (by rw [cw_95]; exact hd.2.2.1) (by rw [cw_95]; decide) rfl (Nat.le_of_ble_eq_true rfl) (k_put hd' hdn' (nI (2 + ((x + y) % 2))) (cu_36 (n := 4) (by decide) (cu_lt hx hy))) ?_
                    rw [upr_s, upr_u]
                    show CR _ _ 105 [some (.ref d), some (.int (nI 4)), some (.int (nI 2)), some (.int (nI x)), some (.int (nI y)), some (.int (nI (x + y))), some (.int (nI 1))] [] S (up2 G d 0 (.int (nI 4))) (upr B (d + 1) (upd w_ (4 * x + y) (nI (2 + ((x + y) % 2))))) J R _
                    refine cn_inc d_112_105 rfl rfl ?_
                    show CR _ _ 108 [some (.ref d), some (.int (nI 4)), some (.int (nI 2)), some (.int (nI x)), some (.int (nI (y + 1))), some (.int (nI (x + y))), some (.int (nI 1))] [] S (up2 G d 0 (.int (nI 4))) (upr B (d + 1) (upd w_ (4 * x + y) (nI (2 + ((x + y) % 2))))) J R _
                    refine cr_nx (pc' := 23) (al' := [some (.ref d), some (.int (nI 4)), some (.int (nI 2)), some (.int (nI x)), some (.int (nI (y + 1))), some (.int (nI (x + y))), some (.int (nI 1))]) (st' := []) d_112_108 (fun _ => rfl) ?_
                    refine cr_dr (al1 := [some (.ref d), some (.int (nI 4)), some (.int (nI 2)), some (.int (nI x)), some (.int (nI (y + 1))), none, none]) (le_s (le_s (le_s (le_s (le_s (le_d rfl (le_d rfl (le_n)))))))) ?_
                    exact ihy (upd w_ (4 * x + y) (nI (2 + ((x + y) % 2)))) (sc_in py rfl (by first | exact congrArg nI (og4_tt x hx y hy (by omega) (by omega)) | exact congrArg nI (og4_tf x hx y hy (by omega) (by omega)) | exact congrArg nI (og4_ft x hx y hy (by omega) (by omega)) | exact congrArg nI (og4_ff x hx y hy (by omega) (by omega))))
            · refine cn_ic (v := 1) d_112_54 (by decide) ?_
              refine cr_nx (pc' := 59) (al' := [some (.ref d), some (.int (nI 4)), some (.int (nI 2)), some (.int (nI x)), some (.int (nI y)), some (.int (nI (x + y))), none]) (st' := [.int (nI 1)]) d_112_55 (fun _ => rfl) ?_
              refine cr_nx (pc' := 61) (al' := [some (.ref d), some (.int (nI 4)), some (.int (nI 2)), some (.int (nI x)), some (.int (nI y)), some (.int (nI (x + y))), none]) (st' := [.int (nI y), .int (nI 1)]) d_112_59 (fun _ => rfl) ?_
              refine cr_nx (pc' := 62) (al' := [some (.ref d), some (.int (nI 4)), some (.int (nI 2)), some (.int (nI x)), some (.int (nI y)), some (.int (nI (x + y))), none]) (st' := [.int (nI 2), .int (nI y), .int (nI 1)]) d_112_61 (fun _ => rfl) ?_
              refine cn_cge (t := 69) d_112_62 (by decide) (by first | omega | assumption | exact cu_36 (by omega) (cu_lt (by omega) (by omega))) (by first | omega | assumption | exact cu_36 (by omega) (cu_lt (by omega) (by omega))) (fun c62 => ?_) (fun c62 => ?_)
              · refine cn_ic (v := 0) d_112_69 (by decide) ?_
                refine cn_ceq (t := 77) d_112_70 (by decide) (by first | omega | assumption | exact cu_36 (by omega) (cu_lt (by omega) (by omega))) (by first | omega | assumption | exact cu_36 (by omega) (cu_lt (by omega) (by omega))) (fun c70 => ?_) (fun c70 => ?_)
                · omega
                · refine cn_ic (v := 1) d_112_73 (by decide) ?_
                  refine cr_nx (pc' := 78) (al' := [some (.ref d), some (.int (nI 4)), some (.int (nI 2)), some (.int (nI x)), some (.int (nI y)), some (.int (nI (x + y))), none]) (st' := [.int (nI 1)]) d_112_74 (fun _ => rfl) ?_
                  refine cr_nx (pc' := 80) (al' := [some (.ref d), some (.int (nI 4)), some (.int (nI 2)), some (.int (nI x)), some (.int (nI y)), some (.int (nI (x + y))), some (.int (nI 1))]) (st' := []) d_112_78 (fun _ => rfl) ?_
                  refine cr_nx (pc' := 81) (al' := [some (.ref d), some (.int (nI 4)), some (.int (nI 2)), some (.int (nI x)), some (.int (nI y)), some (.int (nI (x + y))), some (.int (nI 1))]) (st' := [.ref d]) d_112_80 (fun _ => rfl) ?_
                  refine cr_nx (pc' := 82) (al' := [some (.ref d), some (.int (nI 4)), some (.int (nI 2)), some (.int (nI x)), some (.int (nI y)), some (.int (nI (x + y))), some (.int (nI 1))]) (st' := [.int (nI x), .ref d]) d_112_81 (fun _ => rfl) ?_
                  refine cr_nx (pc' := 84) (al' := [some (.ref d), some (.int (nI 4)), some (.int (nI 2)), some (.int (nI x)), some (.int (nI y)), some (.int (nI (x + y))), some (.int (nI 1))]) (st' := [.int (nI y), .int (nI x), .ref d]) d_112_82 (fun _ => rfl) ?_
                  refine cr_nx (pc' := 86) (al' := [some (.ref d), some (.int (nI 4)), some (.int (nI 2)), some (.int (nI x)), some (.int (nI y)), some (.int (nI (x + y))), some (.int (nI 1))]) (st' := [.int (nI 1), .int (nI y), .int (nI x), .ref d]) d_112_84 (fun _ => rfl) ?_
                  refine cn_ieq (t := 98) d_112_86 (by decide) (by first | omega | assumption | exact cu_36 (by omega) (cu_lt (by omega) (by omega))) (fun c86 => ?_) (fun c86 => ?_)
                  · omega
                  · refine cr_nx (pc' := 90) (al' := [some (.ref d), some (.int (nI 4)), some (.int (nI 2)), some (.int (nI x)), some (.int (nI y)), some (.int (nI (x + y))), some (.int (nI 1))]) (st' := [.int (nI 2), .int (nI y), .int (nI x), .ref d]) d_112_89 (fun _ => rfl) ?_
                    refine cr_nx (pc' := 92) (al' := [some (.ref d), some (.int (nI 4)), some (.int (nI 2)), some (.int (nI x)), some (.int (nI y)), some (.int (nI (x + y))), some (.int (nI 1))]) (st' := [.int (nI (x + y)), .int (nI 2), .int (nI y), .int (nI x), .ref d]) d_112_90 (fun _ => rfl) ?_
                    refine cr_nx (pc' := 93) (al' := [some (.ref d), some (.int (nI 4)), some (.int (nI 2)), some (.int (nI x)), some (.int (nI y)), some (.int (nI (x + y))), some (.int (nI 1))]) (st' := [.int (nI 2), .int (nI (x + y)), .int (nI 2), .int (nI y), .int (nI x), .ref d]) d_112_92 (fun _ => rfl) ?_
                    refine cn_rem d_112_93 (by first | omega | assumption | exact cu_36 (by omega) (cu_lt (by omega) (by omega))) (by first | omega | assumption | exact cu_36 (by omega) (cu_lt (by omega) (by omega))) (by first | omega | assumption | exact cu_36 (by omega) (cu_lt (by omega) (by omega))) ?_
                    refine cn_add d_112_94  ?_
                    refine cr_nx (pc' := 102) (al' := [some (.ref d), some (.int (nI 4)), some (.int (nI 2)), some (.int (nI x)), some (.int (nI y)), some (.int (nI (x + y))), some (.int (nI 1))]) (st' := [.int (nI (2 + ((x + y) % 2))), .int (nI y), .int (nI x), .ref d]) d_112_95 (fun _ => rfl) ?_
                    refine cr_pv (b := d) (as := [.int (nI x), .int (nI y), .int (nI (2 + ((x + y) % 2)))]) (al0 := [some (.ref d), some (.int (nI x)), some (.int (nI y)), some (.int (nI (2 + ((x + y) % 2))))]) (r := []) d_112_102 cw_112 cm_10_33 cz_95 rfl rfl hd.1 (by rw [cw_95]; exact hd.2.2.1) (by rw [cw_95]; decide) rfl (Nat.le_of_ble_eq_true rfl) (k_put hd' hdn' (nI (2 + ((x + y) % 2))) (cu_36 (n := 4) (by decide) (cu_lt hx hy))) ?_
                    rw [upr_s, upr_u]
                    show CR _ _ 105 [some (.ref d), some (.int (nI 4)), some (.int (nI 2)), some (.int (nI x)), some (.int (nI y)), some (.int (nI (x + y))), some (.int (nI 1))] [] S (up2 G d 0 (.int (nI 4))) (upr B (d + 1) (upd w_ (4 * x + y) (nI (2 + ((x + y) % 2))))) J R _
                    refine cn_inc d_112_105 rfl rfl ?_
                    show CR _ _ 108 [some (.ref d), some (.int (nI 4)), some (.int (nI 2)), some (.int (nI x)), some (.int (nI (y + 1))), some (.int (nI (x + y))), some (.int (nI 1))] [] S (up2 G d 0 (.int (nI 4))) (upr B (d + 1) (upd w_ (4 * x + y) (nI (2 + ((x + y) % 2))))) J R _
                    refine cr_nx (pc' := 23) (al' := [some (.ref d), some (.int (nI 4)), some (.int (nI 2)), some (.int (nI x)), some (.int (nI (y + 1))), some (.int (nI (x + y))), some (.int (nI 1))]) (st' := []) d_112_108 (fun _ => rfl) ?_
                    refine cr_dr (al1 := [some (.ref d), some (.int (nI 4)), some (.int (nI 2)), some (.int (nI x)), some (.int (nI (y + 1))), none, none]) (le_s (le_s (le_s (le_s (le_s (le_d rfl (le_d rfl (le_n)))))))) ?_
                    exact ihy (upd w_ (4 * x + y) (nI (2 + ((x + y) % 2)))) (sc_in py rfl (by first | exact congrArg nI (og4_tt x hx y hy (by omega) (by omega)) | exact congrArg nI (og4_tf x hx y hy (by omega) (by omega)) | exact congrArg nI (og4_ft x hx y hy (by omega) (by omega)) | exact congrArg nI (og4_ff x hx y hy (by omega) (by omega))))
              · refine cn_ic (v := 1) d_112_65 (by decide) ?_
                refine cr_nx (pc' := 70) (al' := [some (.ref d), some (.int (nI 4)), some (.int (nI 2)), some (.int (nI x)), some (.int (nI y)), some (.int (nI (x + y))), none]) (st' := [.int (nI 1), .int (nI 1)]) d_112_66 (fun _ => rfl) ?_
                refine cn_ceq (t := 77) d_112_70 (by decide) (by first | omega | assumption | exact cu_36 (by omega) (cu_lt (by omega) (by omega))) (by first | omega | assumption | exact cu_36 (by omega) (cu_lt (by omega) (by omega))) (fun c70 => ?_) (fun c70 => ?_)
                · refine cn_ic (v := 0) d_112_77 (by decide) ?_
                  refine cr_nx (pc' := 80) (al' := [some (.ref d), some (.int (nI 4)), some (.int (nI 2)), some (.int (nI x)), some (.int (nI y)), some (.int (nI (x + y))), some (.int (nI 0))]) (st' := []) d_112_78 (fun _ => rfl) ?_
                  refine cr_nx (pc' := 81) (al' := [some (.ref d), some (.int (nI 4)), some (.int (nI 2)), some (.int (nI x)), some (.int (nI y)), some (.int (nI (x + y))), some (.int (nI 0))]) (st' := [.ref d]) d_112_80 (fun _ => rfl) ?_
                  refine cr_nx (pc' := 82) (al' := [some (.ref d), some (.int (nI 4)), some (.int (nI 2)), some (.int (nI x)), some (.int (nI y)), some (.int (nI (x + y))), some (.int (nI 0))]) (st' := [.int (nI x), .ref d]) d_112_81 (fun _ => rfl) ?_
                  refine cr_nx (pc' := 84) (al' := [some (.ref d), some (.int (nI 4)), some (.int (nI 2)), some (.int (nI x)), some (.int (nI y)), some (.int (nI (x + y))), some (.int (nI 0))]) (st' := [.int (nI y), .int (nI x), .ref d]) d_112_82 (fun _ => rfl) ?_
                  refine cr_nx (pc' := 86) (al' := [some (.ref d), some (.int (nI 4)), some (.int (nI 2)), some (.int (nI x)), some (.int (nI y)), some (.int (nI (x + y))), some (.int (nI 0))]) (st' := [.int (nI 0), .int (nI y), .int (nI x), .ref d]) d_112_84 (fun _ => rfl) ?_
                  refine cn_ieq (t := 98) d_112_86 (by decide) (by first | omega | assumption | exact cu_36 (by omega) (cu_lt (by omega) (by omega))) (fun c86 => ?_) (fun c86 => ?_)
                  · refine cr_nx (pc' := 100) (al' := [some (.ref d), some (.int (nI 4)), some (.int (nI 2)), some (.int (nI x)), some (.int (nI y)), some (.int (nI (x + y))), some (.int (nI 0))]) (st' := [.int (nI (x + y)), .int (nI y), .int (nI x), .ref d]) d_112_98 (fun _ => rfl) ?_
                    refine cr_nx (pc' := 101) (al' := [some (.ref d), some (.int (nI 4)), some (.int (nI 2)), some (.int (nI x)), some (.int (nI y)), some (.int (nI (x + y))), some (.int (nI 0))]) (st' := [.int (nI 2), .int (nI (x + y)), .int (nI y), .int (nI x), .ref d]) d_112_100 (fun _ => rfl) ?_
                    refine cn_rem d_112_101 (by first | omega | assumption | exact cu_36 (by omega) (cu_lt (by omega) (by omega))) (by first | omega | assumption | exact cu_36 (by omega) (cu_lt (by omega) (by omega))) (by first | omega | assumption | exact cu_36 (by omega) (cu_lt (by omega) (by omega))) ?_
                    refine cr_pv (b := d) (as := [.int (nI x), .int (nI y), .int (nI ((x + y) % 2))]) (al0 := [some (.ref d), some (.int (nI x)), some (.int (nI y)), some (.int (nI ((x + y) % 2)))]) (r := []) d_112_102 cw_112 cm_10_33 cz_95 rfl rfl hd.1 (by rw [cw_95]; exact hd.2.2.1) (by rw [cw_95]; decide) rfl (Nat.le_of_ble_eq_true rfl) (k_put hd' hdn' (nI ((x + y) % 2)) (cu_36 (n := 4) (by decide) (cu_lt hx hy))) ?_
                    rw [upr_s, upr_u]
                    show CR _ _ 105 [some (.ref d), some (.int (nI 4)), some (.int (nI 2)), some (.int (nI x)), some (.int (nI y)), some (.int (nI (x + y))), some (.int (nI 0))] [] S (up2 G d 0 (.int (nI 4))) (upr B (d + 1) (upd w_ (4 * x + y) (nI ((x + y) % 2)))) J R _
                    refine cn_inc d_112_105 rfl rfl ?_
                    show CR _ _ 108 [some (.ref d), some (.int (nI 4)), some (.int (nI 2)), some (.int (nI x)), some (.int (nI (y + 1))), some (.int (nI (x + y))), some (.int (nI 0))] [] S (up2 G d 0 (.int (nI 4))) (upr B (d + 1) (upd w_ (4 * x + y) (nI ((x + y) % 2)))) J R _
                    refine cr_nx (pc' := 23) (al' := [some (.ref d), some (.int (nI 4)), some (.int (nI 2)), some (.int (nI x)), some (.int (nI (y + 1))), some (.int (nI (x + y))), some (.int (nI 0))]) (st' := []) d_112_108 (fun _ => rfl) ?_
                    refine cr_dr (al1 := [some (.ref d), some (.int (nI 4)), some (.int (nI 2)), some (.int (nI x)), some (.int (nI (y + 1))), none, none]) (le_s (le_s (le_s (le_s (le_s (le_d rfl (le_d rfl (le_n)))))))) ?_
                    exact ihy (upd w_ (4 * x + y) (nI ((x + y) % 2))) (sc_in py rfl (by first | exact congrArg nI (og4_tt x hx y hy (by omega) (by omega)) | exact congrArg nI (og4_tf x hx y hy (by omega) (by omega)) | exact congrArg nI (og4_ft x hx y hy (by omega) (by omega)) | exact congrArg nI (og4_ff x hx y hy (by omega) (by omega))))
                  · omega
                · omega
      · show CR _ _ 23 [some (.ref d), some (.int (nI 4)), some (.int (nI 2)), some (.int (nI x)), some (.int (nI 4)), none, none] [] S (up2 G d 0 (.int (nI 4))) (upr B (d + 1) w_) J R _
        refine cr_nx (pc' := 25) (al' := [some (.ref d), some (.int (nI 4)), some (.int (nI 2)), some (.int (nI x)), some (.int (nI 4)), none, none]) (st' := [.int (nI 4)]) d_112_23 (fun _ => rfl) ?_
        refine cr_nx (pc' := 26) (al' := [some (.ref d), some (.int (nI 4)), some (.int (nI 2)), some (.int (nI x)), some (.int (nI 4)), none, none]) (st' := [.int (nI 4), .int (nI 4)]) d_112_25 (fun _ => rfl) ?_
        refine cn_cge (t := 111) d_112_26 (by decide) (by first | omega | assumption | exact cu_36 (by omega) (cu_lt (by omega) (by omega))) (by first | omega | assumption | exact cu_36 (by omega) (cu_lt (by omega) (by omega))) (fun c26 => ?_) (fun c26 => ?_)
        · refine cn_inc d_112_111 rfl rfl ?_
          show CR _ _ 114 [some (.ref d), some (.int (nI 4)), some (.int (nI 2)), some (.int (nI (x + 1))), some (.int (nI 4)), none, none] [] S (up2 G d 0 (.int (nI 4))) (upr B (d + 1) w_) J R _
          refine cr_nx (pc' := 15) (al' := [some (.ref d), some (.int (nI 4)), some (.int (nI 2)), some (.int (nI (x + 1))), some (.int (nI 4)), none, none]) (st' := []) d_112_114 (fun _ => rfl) ?_
          refine cr_dr (al1 := [some (.ref d), some (.int (nI 4)), some (.int (nI 2)), some (.int (nI (x + 1))), none, none, none]) (le_s (le_s (le_s (le_s (le_d rfl (le_s (le_s (le_n)))))))) ?_
          exact ihx w_ (sc_out py)
        · omega
  · show CR _ _ 15 [some (.ref d), some (.int (nI 4)), some (.int (nI 2)), some (.int (nI 4)), none, none, none] [] S (up2 G d 0 (.int (nI 4))) (upr B (d + 1) w_) J R _
    refine cr_nx (pc' := 16) (al' := [some (.ref d), some (.int (nI 4)), some (.int (nI 2)), some (.int (nI 4)), none, none, none]) (st' := [.int (nI 4)]) d_112_15 (fun _ => rfl) ?_
    refine cr_nx (pc' := 17) (al' := [some (.ref d), some (.int (nI 4)), some (.int (nI 2)), some (.int (nI 4)), none, none, none]) (st' := [.int (nI 4), .int (nI 4)]) d_112_16 (fun _ => rfl) ?_
    refine cn_cge (t := 117) d_112_17 (by decide) (by first | omega | assumption | exact cu_36 (by omega) (cu_lt (by omega) (by omega))) (by first | omega | assumption | exact cu_36 (by omega) (cu_lt (by omega) (by omega))) (fun c17 => ?_) (fun c17 => ?_)
    · exact cr_rv d_112_117 cx_112 ⟨rfl, rfl, rfl, rfl, rfl, w_, rfl, sc_all px sc_rm⟩
    · omega
theorem k_makeOther6 {S : CS} {G : Nat → Nat → Value} {B : Nat → Nat → Int32} {J : Nat → Nat → Int64} {R : Nat → Nat → Option Nat} {d : Nat} (hd : TabAt S G d) : CR 1 112 0 [some (.ref d), some (.int (nI 6)), none, none, none, none, none] [] S G B J R (mkC d S G B J R 6 (ogN 6)) := by
  have hd' : TabAt S (up2 G d 0 (.int (nI 6))) d := hd.up
  have hdn' : up2 G d 0 (.int (nI 6)) d 0 = .int (nI 6) := up2_s
  refine cr_nx (pc' := 1) (al' := [some (.ref d), some (.int (nI 6)), none, none, none, none, none]) (st' := [.int (nI 6)]) d_112_0 (fun _ => rfl) ?_
  refine cn_ic (v := 2) d_112_1 (by decide) ?_
  refine cn_div d_112_2 (by first | omega | assumption | exact cu_36 (by omega) (cu_lt (by omega) (by omega))) (by first | omega | assumption | exact cu_36 (by omega) (cu_lt (by omega) (by omega))) (by first | omega | assumption | exact cu_36 (by omega) (cu_lt (by omega) (by omega))) ?_
  refine cn_ic (v := 1) d_112_3 (by decide) ?_
  refine cn_mx d_112_4 cw_112 cm_10_37 (by first | omega | assumption | exact cu_36 (by omega) (cu_lt (by omega) (by omega))) (by first | omega | assumption | exact cu_36 (by omega) (cu_lt (by omega) (by omega))) rfl ?_
  refine cr_tp (z := (nI 3)) rfl ?_
  refine cr_nx (pc' := 8) (al' := [some (.ref d), some (.int (nI 6)), some (.int (nI 3)), none, none, none, none]) (st' := []) d_112_7 (fun _ => rfl) ?_
  refine cr_nx (pc' := 9) (al' := [some (.ref d), some (.int (nI 6)), some (.int (nI 3)), none, none, none, none]) (st' := [.ref d]) d_112_8 (fun _ => rfl) ?_
  refine cr_nx (pc' := 10) (al' := [some (.ref d), some (.int (nI 6)), some (.int (nI 3)), none, none, none, none]) (st' := [.int (nI 6), .ref d]) d_112_9 (fun _ => rfl) ?_
  refine cp_10_0  d_112_10 cw_112 cf_10_15 hd.1 hd.2.2.1 (by decide) ?_
  refine cn_ic (v := 0) d_112_13 (by decide) ?_
  refine cr_nx (pc' := 15) (al' := [some (.ref d), some (.int (nI 6)), some (.int (nI 3)), some (.int (nI 0)), none, none, none]) (st' := []) d_112_14 (fun _ => rfl) ?_
  refine cr_B (show B = (upr B (d + 1) (B (d + 1))) by rw [upr_id]) ?_
  refine cr_upw (al := fun x w_ => [some (.ref d), some (.int (nI 6)), some (.int (nI 3)), some (.int (nI x)), none, none, none]) (S := fun x w_ => S) (G := fun x w_ => (up2 G d 0 (.int (nI 6)))) (B := fun x w_ => (upr B (d + 1) w_)) (J := fun x w_ => J) (R := fun x w_ => R) (P := fun x w_ => ScP (fun q => nI (ogN 6 q)) (fun x y => 6 * x + y) 6 x 0 w_) (n := 6) (fun x w_ hx px ihx => ?_) (fun w_ px => ?_) 0 (B (d + 1)) (by omega) (sc_0)
  · show CR _ _ 15 [some (.ref d), some (.int (nI 6)), some (.int (nI 3)), some (.int (nI x)), none, none, none] [] S (up2 G d 0 (.int (nI 6))) (upr B (d + 1) w_) J R _
    refine cr_nx (pc' := 16) (al' := [some (.ref d), some (.int (nI 6)), some (.int (nI 3)), some (.int (nI x)), none, none, none]) (st' := [.int (nI x)]) d_112_15 (fun _ => rfl) ?_
    refine cr_nx (pc' := 17) (al' := [some (.ref d), some (.int (nI 6)), some (.int (nI 3)), some (.int (nI x)), none, none, none]) (st' := [.int (nI 6), .int (nI x)]) d_112_16 (fun _ => rfl) ?_
    refine cn_cge (t := 117) d_112_17 (by decide) (by first | omega | assumption | exact cu_36 (by omega) (cu_lt (by omega) (by omega))) (by first | omega | assumption | exact cu_36 (by omega) (cu_lt (by omega) (by omega))) (fun c17 => ?_) (fun c17 => ?_)
    · omega
    · refine cn_ic (v := 0) d_112_20 (by decide) ?_
      refine cr_nx (pc' := 23) (al' := [some (.ref d), some (.int (nI 6)), some (.int (nI 3)), some (.int (nI x)), some (.int (nI 0)), none, none]) (st' := []) d_112_21 (fun _ => rfl) ?_
      refine cr_upw (al := fun y w_ => [some (.ref d), some (.int (nI 6)), some (.int (nI 3)), some (.int (nI x)), some (.int (nI y)), none, none]) (S := fun y w_ => S) (G := fun y w_ => (up2 G d 0 (.int (nI 6)))) (B := fun y w_ => (upr B (d + 1) w_)) (J := fun y w_ => J) (R := fun y w_ => R) (P := fun y w_ => ScP (fun q => nI (ogN 6 q)) (fun x y => 6 * x + y) 6 x y w_) (n := 6) (fun y w_ hy py ihy => ?_) (fun w_ py => ?_) 0 w_ (by omega) (px)
      · show CR _ _ 23 [some (.ref d), some (.int (nI 6)), some (.int (nI 3)), some (.int (nI x)), some (.int (nI y)), none, none] [] S (up2 G d 0 (.int (nI 6))) (upr B (d + 1) w_) J R _
        refine cr_nx (pc' := 25) (al' := [some (.ref d), some (.int (nI 6)), some (.int (nI 3)), some (.int (nI x)), some (.int (nI y)), none, none]) (st' := [.int (nI y)]) d_112_23 (fun _ => rfl) ?_
        refine cr_nx (pc' := 26) (al' := [some (.ref d), some (.int (nI 6)), some (.int (nI 3)), some (.int (nI x)), some (.int (nI y)), none, none]) (st' := [.int (nI 6), .int (nI y)]) d_112_25 (fun _ => rfl) ?_
        refine cn_cge (t := 111) d_112_26 (by decide) (by first | omega | assumption | exact cu_36 (by omega) (cu_lt (by omega) (by omega))) (by first | omega | assumption | exact cu_36 (by omega) (cu_lt (by omega) (by omega))) (fun c26 => ?_) (fun c26 => ?_)
        · omega
        · refine cr_nx (pc' := 30) (al' := [some (.ref d), some (.int (nI 6)), some (.int (nI 3)), some (.int (nI x)), some (.int (nI y)), none, none]) (st' := [.int (nI x)]) d_112_29 (fun _ => rfl) ?_
          refine cr_nx (pc' := 31) (al' := [some (.ref d), some (.int (nI 6)), some (.int (nI 3)), some (.int (nI x)), some (.int (nI y)), none, none]) (st' := [.int (nI 3), .int (nI x)]) d_112_30 (fun _ => rfl) ?_
          refine cn_cge (t := 41) d_112_31 (by decide) (by first | omega | assumption | exact cu_36 (by omega) (cu_lt (by omega) (by omega))) (by first | omega | assumption | exact cu_36 (by omega) (cu_lt (by omega) (by omega))) (fun c31 => ?_) (fun c31 => ?_)
          · refine cr_nx (pc' := 42) (al' := [some (.ref d), some (.int (nI 6)), some (.int (nI 3)), some (.int (nI x)), some (.int (nI y)), none, none]) (st' := [.int (nI x)]) d_112_41 (fun _ => rfl) ?_
            refine cr_nx (pc' := 43) (al' := [some (.ref d), some (.int (nI 6)), some (.int (nI 3)), some (.int (nI x)), some (.int (nI y)), none, none]) (st' := [.int (nI 6), .int (nI x)]) d_112_42 (fun _ => rfl) ?_
            refine cn_add d_112_43  ?_
            refine cr_nx (pc' := 46) (al' := [some (.ref d), some (.int (nI 6)), some (.int (nI 3)), some (.int (nI x)), some (.int (nI y)), none, none]) (st' := [.int (nI y), .int (nI (x + 6))]) d_112_44 (fun _ => rfl) ?_
            refine cn_sub d_112_46 (by first | omega | assumption | exact cu_36 (by omega) (cu_lt (by omega) (by omega))) ?_
            refine cr_nx (pc' := 49) (al' := [some (.ref d), some (.int (nI 6)), some (.int (nI 3)), some (.int (nI x)), some (.int (nI y)), some (.int (nI ((x + 6) - y))), none]) (st' := []) d_112_47 (fun _ => rfl) ?_
            refine cr_nx (pc' := 50) (al' := [some (.ref d), some (.int (nI 6)), some (.int (nI 3)), some (.int (nI x)), some (.int (nI y)), some (.int (nI ((x + 6) - y))), none]) (st' := [.int (nI x)]) d_112_49 (fun _ => rfl) ?_
            refine cr_nx (pc' := 51) (al' := [some (.ref d), some (.int (nI 6)), some (.int (nI 3)), some (.int (nI x)), some (.int (nI y)), some (.int (nI ((x + 6) - y))), none]) (st' := [.int (nI 3), .int (nI x)]) d_112_50 (fun _ => rfl) ?_
            refine cn_cge (t := 58) d_112_51 (by decide) (by first | omega | assumption | exact cu_36 (by omega) (cu_lt (by omega) (by omega))) (by first | omega | assumption | exact cu_36 (by omega) (cu_lt (by omega) (by omega))) (fun c51 => ?_) (fun c51 => ?_)
            · refine cn_ic (v := 0) d_112_58 (by decide) ?_
              refine cr_nx (pc' := 61) (al' := [some (.ref d), some (.int (nI 6)), some (.int (nI 3)), some (.int (nI x)), some (.int (nI y)), some (.int (nI ((x + 6) - y))), none]) (st' := [.int (nI y), .int (nI 0)]) d_112_59 (fun _ => rfl) ?_
              refine cr_nx (pc' := 62) (al' := [some (.ref d), some (.int (nI 6)), some (.int (nI 3)), some (.int (nI x)), some (.int (nI y)), some (.int (nI ((x + 6) - y))), none]) (st' := [.int (nI 3), .int (nI y), .int (nI 0)]) d_112_61 (fun _ => rfl) ?_
              refine cn_cge (t := 69) d_112_62 (by decide) (by first | omega | assumption | exact cu_36 (by omega) (cu_lt (by omega) (by omega))) (by first | omega | assumption | exact cu_36 (by omega) (cu_lt (by omega) (by omega))) (fun c62 => ?_) (fun c62 => ?_)
              · refine cn_ic (v := 0) d_112_69 (by decide) ?_
                refine cn_ceq (t := 77) d_112_70 (by decide) (by first | omega | assumption | exact cu_36 (by omega) (cu_lt (by omega) (by omega))) (by first | omega | assumption | exact cu_36 (by omega) (cu_lt (by omega) (by omega))) (fun c70 => ?_) (fun c70 => ?_)
                · refine cn_ic (v := 0) d_112_77 (by decide) ?_
                  refine cr_nx (pc' := 80) (al' := [some (.ref d), some (.int (nI 6)), some (.int (nI 3)), some (.int (nI x)), some (.int (nI y)), some (.int (nI ((x + 6) - y))), some (.int (nI 0))]) (st' := []) d_112_78 (fun _ => rfl) ?_
                  refine cr_nx (pc' := 81) (al' := [some (.ref d), some (.int (nI 6)), some (.int (nI 3)), some (.int (nI x)), some (.int (nI y)), some (.int (nI ((x + 6) - y))), some (.int (nI 0))]) (st' := [.ref d]) d_112_80 (fun _ => rfl) ?_
                  refine cr_nx (pc' := 82) (al' := [some (.ref d), some (.int (nI 6)), some (.int (nI 3)), some (.int (nI x)), some (.int (nI y)), some (.int (nI ((x + 6) - y))), some (.int (nI 0))]) (st' := [.int (nI x), .ref d]) d_112_81 (fun _ => rfl) ?_
                  refine cr_nx (pc' := 84) (al' := [some (.ref d), some (.int (nI 6)), some (.int (nI 3)), some (.int (nI x)), some (.int (nI y)), some (.int (nI ((x + 6) - y))), some (.int (nI 0))]) (st' := [.int (nI y), .int (nI x), .ref d]) d_112_82 (fun _ => rfl) ?_
                  refine cr_nx (pc' := 86) (al' := [some (.ref d), some (.int (nI 6)), some (.int (nI 3)), some (.int (nI x)), some (.int (nI y)), some (.int (nI ((x + 6) - y))), some (.int (nI 0))]) (st' := [.int (nI 0), .int (nI y), .int (nI x), .ref d]) d_112_84 (fun _ => rfl) ?_
                  refine cn_ieq (t := 98) d_112_86 (by decide) (by first | omega | assumption | exact cu_36 (by omega) (cu_lt (by omega) (by omega))) (fun c86 => ?_) (fun c86 => ?_)
                  · refine cr_nx (pc' := 100) (al' := [some (.ref d), some (.int (nI 6)), some (.int (nI 3)), some (.int (nI x)), some (.int (nI y)), some (.int (nI ((x + 6) - y))), some (.int (nI 0))]) (st' := [.int (nI ((x + 6) - y)), .int (nI y), .int (nI x), .ref d]) d_112_98 (fun _ => rfl) ?_
                    refine cr_nx (pc' := 101) (al' := [some (.ref d), some (.int (nI 6)), some (.int (nI 3)), some (.int (nI x)), some (.int (nI y)), some (.int (nI ((x + 6) - y))), some (.int (nI 0))]) (st' := [.int (nI 3), .int (nI ((x + 6) - y)), .int (nI y), .int (nI x), .ref d]) d_112_100 (fun _ => rfl) ?_
                    refine cn_rem d_112_101 (by first | omega | assumption | exact cu_36 (by omega) (cu_lt (by omega) (by omega))) (by first | omega | assumption | exact cu_36 (by omega) (cu_lt (by omega) (by omega))) (by first | omega | assumption | exact cu_36 (by omega) (cu_lt (by omega) (by omega))) ?_
                    refine cr_pv (b := d) (as := [.int (nI x), .int (nI y), .int (nI (((x + 6) - y) % 3))]) (al0 := [some (.ref d), some (.int (nI x)), some (.int (nI y)), some (.int (nI (((x + 6) - y) % 3)))]) (r := []) d_112_102 cw_112 cm_10_33 cz_95 rfl rfl hd.1 (by rw [cw_95]; exact hd.2.2.1) (by rw [cw_95]; decide) rfl (Nat.le_of_ble_eq_true rfl) (k_put hd' hdn' (nI (((x + 6) - y) % 3)) (cu_36 (n := 6) (by decide) (cu_lt hx hy))) ?_
                    rw [upr_s, upr_u]
                    show CR _ _ 105 [some (.ref d), some (.int (nI 6)), some (.int (nI 3)), some (.int (nI x)), some (.int (nI y)), some (.int (nI ((x + 6) - y))), some (.int (nI 0))] [] S (up2 G d 0 (.int (nI 6))) (upr B (d + 1) (upd w_ (6 * x + y) (nI (((x + 6) - y) % 3)))) J R _
                    refine cn_inc d_112_105 rfl rfl ?_
                    show CR _ _ 108 [some (.ref d), some (.int (nI 6)), some (.int (nI 3)), some (.int (nI x)), some (.int (nI (y + 1))), some (.int (nI ((x + 6) - y))), some (.int (nI 0))] [] S (up2 G d 0 (.int (nI 6))) (upr B (d + 1) (upd w_ (6 * x + y) (nI (((x + 6) - y) % 3)))) J R _
                    refine cr_nx (pc' := 23) (al' := [some (.ref d), some (.int (nI 6)), some (.int (nI 3)), some (.int (nI x)), some (.int (nI (y + 1))), some (.int (nI ((x + 6) - y))), some (.int (nI 0))]) (st' := []) d_112_108 (fun _ => rfl) ?_
                    refine cr_dr (al1 := [some (.ref d), some (.int (nI 6)), some (.int (nI 3)), some (.int (nI x)), some (.int (nI (y + 1))), none, none]) (le_s (le_s (le_s (le_s (le_s (le_d rfl (le_d rfl (le_n)))))))) ?_
                    exact ihy (upd w_ (6 * x + y) (nI (((x + 6) - y) % 3))) (sc_in py rfl (by first | exact congrArg nI (og6_tt x hx y hy (by omega) (by omega)) | exact congrArg nI (og6_tf x hx y hy (by omega) (by omega)) | exact congrArg nI (og6_ft x hx y hy (by omega) (by omega)) | exact congrArg nI (og6_ff x hx y hy (by omega) (by omega))))
                  · omega
                · omega
              · refine cn_ic (v := 1) d_112_65 (by decide) ?_
                refine cr_nx (pc' := 70) (al' := [some (.ref d), some (.int (nI 6)), some (.int (nI 3)), some (.int (nI x)), some (.int (nI y)), some (.int (nI ((x + 6) - y))), none]) (st' := [.int (nI 1), .int (nI 0)]) d_112_66 (fun _ => rfl) ?_
                refine cn_ceq (t := 77) d_112_70 (by decide) (by first | omega | assumption | exact cu_36 (by omega) (cu_lt (by omega) (by omega))) (by first | omega | assumption | exact cu_36 (by omega) (cu_lt (by omega) (by omega))) (fun c70 => ?_) (fun c70 => ?_)
                · omega
                · refine cn_ic (v := 1) d_112_73 (by decide) ?_
                  refine cr_nx (pc' := 78) (al' := [some (.ref d), some (.int (nI 6)), some (.int (nI 3)), some (.int (nI x)), some (.int (nI y)), some (.int (nI ((x + 6) - y))), none]) (st' := [.int (nI 1)]) d_112_74 (fun _ => rfl) ?_
                  refine cr_nx (pc' := 80) (al' := [some (.ref d), some (.int (nI 6)), some (.int (nI 3)), some (.int (nI x)), some (.int (nI y)), some (.int (nI ((x + 6) - y))), some (.int (nI 1))]) (st' := []) d_112_78 (fun _ => rfl) ?_
                  refine cr_nx (pc' := 81) (al' := [some (.ref d), some (.int (nI 6)), some (.int (nI 3)), some (.int (nI x)), some (.int (nI y)), some (.int (nI ((x + 6) - y))), some (.int (nI 1))]) (st' := [.ref d]) d_112_80 (fun _ => rfl) ?_
                  refine cr_nx (pc' := 82) (al' := [some (.ref d), some (.int (nI 6)), some (.int (nI 3)), some (.int (nI x)), some (.int (nI y)), some (.int (nI ((x + 6) - y))), some (.int (nI 1))]) (st' := [.int (nI x), .ref d]) d_112_81 (fun _ => rfl) ?_
                  refine cr_nx (pc' := 84) (al' := [some (.ref d), some (.int (nI 6)), some (.int (nI 3)), some (.int (nI x)), some (.int (nI y)), some (.int (nI ((x + 6) - y))), some (.int (nI 1))]) (st' := [.int (nI y), .int (nI x), .ref d]) d_112_82 (fun _ => rfl) ?_
                  refine cr_nx (pc' := 86) (al' := [some (.ref d), some (.int (nI 6)), some (.int (nI 3)), some (.int (nI x)), some (.int (nI y)), some (.int (nI ((x + 6) - y))), some (.int (nI 1))]) (st' := [.int (nI 1), .int (nI y), .int (nI x), .ref d]) d_112_84 (fun _ => rfl) ?_
                  refine cn_ieq (t := 98) d_112_86 (by decide) (by first | omega | assumption | exact cu_36 (by omega) (cu_lt (by omega) (by omega))) (fun c86 => ?_) (fun c86 => ?_)
                  · omega
                  · refine cr_nx (pc' := 90) (al' := [some (.ref d), some (.int (nI 6)), some (.int (nI 3)), some (.int (nI x)), some (.int (nI y)), some (.int (nI ((x + 6) - y))), some (.int (nI 1))]) (st' := [.int (nI 3), .int (nI y), .int (nI x), .ref d]) d_112_89 (fun _ => rfl) ?_
                    refine cr_nx (pc' := 92) (al' := [some (.ref d), some (.int (nI 6)), some (.int (nI 3)), some (.int (nI x)), some (.int (nI y)), some (.int (nI ((x + 6) - y))), some (.int (nI 1))]) (st' := [.int (nI ((x + 6) - y)), .int (nI 3), .int (nI y), .int (nI x), .ref d]) d_112_90 (fun _ => rfl) ?_
                    refine cr_nx (pc' := 93) (al' := [some (.ref d), some (.int (nI 6)), some (.int (nI 3)), some (.int (nI x)), some (.int (nI y)), some (.int (nI ((x + 6) - y))), some (.int (nI 1))]) (st' := [.int (nI 3), .int (nI ((x + 6) - y)), .int (nI 3), .int (nI y), .int (nI x), .ref d]) d_112_92 (fun _ => rfl) ?_
                    refine cn_rem d_112_93 (by first | omega | assumption | exact cu_36 (by omega) (cu_lt (by omega) (by omega))) (by first | omega | assumption | exact cu_36 (by omega) (cu_lt (by omega) (by omega))) (by first | omega | assumption | exact cu_36 (by omega) (cu_lt (by omega) (by omega))) ?_
                    refine cn_add d_112_94  ?_
                    refine cr_nx (pc' := 102) (al' := [some (.ref d), some (.int (nI 6)), some (.int (nI 3)), some (.int (nI x)), some (.int (nI y)), some (.int (nI ((x + 6) - y))), some (.int (nI 1))]) (st' := [.int (nI (3 + (((x + 6) - y) % 3))), .int (nI y), .int (nI x), .ref d]) d_112_95 (fun _ => rfl) ?_
                    refine cr_pv (b := d) (as := [.int (nI x), .int (nI y), .int (nI (3 + (((x + 6) - y) % 3)))]) (al0 := [some (.ref d), some (.int (nI x)), some (.int (nI y)), some (.int (nI (3 + (((x + 6) - y) % 3))))]) (r := []) d_112_102 cw_112 cm_10_33 cz_95 rfl rfl hd.1 (by rw [cw_95]; exact hd.2.2.1) (by rw [cw_95]; decide) rfl (Nat.le_of_ble_eq_true rfl) (k_put hd' hdn' (nI (3 + (((x + 6) - y) % 3))) (cu_36 (n := 6) (by decide) (cu_lt hx hy))) ?_
                    rw [upr_s, upr_u]
                    show CR _ _ 105 [some (.ref d), some (.int (nI 6)), some (.int (nI 3)), some (.int (nI x)), some (.int (nI y)), some (.int (nI ((x + 6) - y))), some (.int (nI 1))] [] S (up2 G d 0 (.int (nI 6))) (upr B (d + 1) (upd w_ (6 * x + y) (nI (3 + (((x + 6) - y) % 3))))) J R _
                    refine cn_inc d_112_105 rfl rfl ?_
                    show CR _ _ 108 [some (.ref d), some (.int (nI 6)), some (.int (nI 3)), some (.int (nI x)), some (.int (nI (y + 1))), some (.int (nI ((x + 6) - y))), some (.int (nI 1))] [] S (up2 G d 0 (.int (nI 6))) (upr B (d + 1) (upd w_ (6 * x + y) (nI (3 + (((x + 6) - y) % 3))))) J R _
                    refine cr_nx (pc' := 23) (al' := [some (.ref d), some (.int (nI 6)), some (.int (nI 3)), some (.int (nI x)), some (.int (nI (y + 1))), some (.int (nI ((x + 6) - y))), some (.int (nI 1))]) (st' := []) d_112_108 (fun _ => rfl) ?_
                    refine cr_dr (al1 := [some (.ref d), some (.int (nI 6)), some (.int (nI 3)), some (.int (nI x)), some (.int (nI (y + 1))), none, none]) (le_s (le_s (le_s (le_s (le_s (le_d rfl (le_d rfl (le_n)))))))) ?_
                    exact ihy (upd w_ (6 * x + y) (nI (3 + (((x + 6) - y) % 3)))) (sc_in py rfl (by first | exact congrArg nI (og6_tt x hx y hy (by omega) (by omega)) | exact congrArg nI (og6_tf x hx y hy (by omega) (by omega)) | exact congrArg nI (og6_ft x hx y hy (by omega) (by omega)) | exact congrArg nI (og6_ff x hx y hy (by omega) (by omega))))
            · refine cn_ic (v := 1) d_112_54 (by decide) ?_
              refine cr_nx (pc' := 59) (al' := [some (.ref d), some (.int (nI 6)), some (.int (nI 3)), some (.int (nI x)), some (.int (nI y)), some (.int (nI ((x + 6) - y))), none]) (st' := [.int (nI 1)]) d_112_55 (fun _ => rfl) ?_
              refine cr_nx (pc' := 61) (al' := [some (.ref d), some (.int (nI 6)), some (.int (nI 3)), some (.int (nI x)), some (.int (nI y)), some (.int (nI ((x + 6) - y))), none]) (st' := [.int (nI y), .int (nI 1)]) d_112_59 (fun _ => rfl) ?_
              refine cr_nx (pc' := 62) (al' := [some (.ref d), some (.int (nI 6)), some (.int (nI 3)), some (.int (nI x)), some (.int (nI y)), some (.int (nI ((x + 6) - y))), none]) (st' := [.int (nI 3), .int (nI y), .int (nI 1)]) d_112_61 (fun _ => rfl) ?_
              refine cn_cge (t := 69) d_112_62 (by decide) (by first | omega | assumption | exact cu_36 (by omega) (cu_lt (by omega) (by omega))) (by first | omega | assumption | exact cu_36 (by omega) (cu_lt (by omega) (by omega))) (fun c62 => ?_) (fun c62 => ?_)
              · refine cn_ic (v := 0) d_112_69 (by decide) ?_
                refine cn_ceq (t := 77) d_112_70 (by decide) (by first | omega | assumption | exact cu_36 (by omega) (cu_lt (by omega) (by omega))) (by first | omega | assumption | exact cu_36 (by omega) (cu_lt (by omega) (by omega))) (fun c70 => ?_) (fun c70 => ?_)
                · omega
                · refine cn_ic (v := 1) d_112_73 (by decide) ?_
                  refine cr_nx (pc' := 78) (al' := [some (.ref d), some (.int (nI 6)), some (.int (nI 3)), some (.int (nI x)), some (.int (nI y)), some (.int (nI ((x + 6) - y))), none]) (st' := [.int (nI 1)]) d_112_74 (fun _ => rfl) ?_
                  refine cr_nx (pc' := 80) (al' := [some (.ref d), some (.int (nI 6)), some (.int (nI 3)), some (.int (nI x)), some (.int (nI y)), some (.int (nI ((x + 6) - y))), some (.int (nI 1))]) (st' := []) d_112_78 (fun _ => rfl) ?_
                  refine cr_nx (pc' := 81) (al' := [some (.ref d), some (.int (nI 6)), some (.int (nI 3)), some (.int (nI x)), some (.int (nI y)), some (.int (nI ((x + 6) - y))), some (.int (nI 1))]) (st' := [.ref d]) d_112_80 (fun _ => rfl) ?_
                  refine cr_nx (pc' := 82) (al' := [some (.ref d), some (.int (nI 6)), some (.int (nI 3)), some (.int (nI x)), some (.int (nI y)), some (.int (nI ((x + 6) - y))), some (.int (nI 1))]) (st' := [.int (nI x), .ref d]) d_112_81 (fun _ => rfl) ?_
                  refine cr_nx (pc' := 84) (al' := [some (.ref d), some (.int (nI 6)), some (.int (nI 3)), some (.int (nI x)), some (.int (nI y)), some (.int (nI ((x + 6) - y))), some (.int (nI 1))]) (st' := [.int (nI y), .int (nI x), .ref d]) d_112_82 (fun _ => rfl) ?_
                  refine cr_nx (pc' := 86) (al' := [some (.ref d), some (.int (nI 6)), some (.int (nI 3)), some (.int (nI x)), some (.int (nI y)), some (.int (nI ((x + 6) - y))), some (.int (nI 1))]) (st' := [.int (nI 1), .int (nI y), .int (nI x), .ref d]) d_112_84 (fun _ => rfl) ?_
                  refine cn_ieq (t := 98) d_112_86 (by decide) (by first | omega | assumption | exact cu_36 (by omega) (cu_lt (by omega) (by omega))) (fun c86 => ?_) (fun c86 => ?_)
                  · omega
                  · refine cr_nx (pc' := 90) (al' := [some (.ref d), some (.int (nI 6)), some (.int (nI 3)), some (.int (nI x)), some (.int (nI y)), some (.int (nI ((x + 6) - y))), some (.int (nI 1))]) (st' := [.int (nI 3), .int (nI y), .int (nI x), .ref d]) d_112_89 (fun _ => rfl) ?_
                    refine cr_nx (pc' := 92) (al' := [some (.ref d), some (.int (nI 6)), some (.int (nI 3)), some (.int (nI x)), some (.int (nI y)), some (.int (nI ((x + 6) - y))), some (.int (nI 1))]) (st' := [.int (nI ((x + 6) - y)), .int (nI 3), .int (nI y), .int (nI x), .ref d]) d_112_90 (fun _ => rfl) ?_
                    refine cr_nx (pc' := 93) (al' := [some (.ref d), some (.int (nI 6)), some (.int (nI 3)), some (.int (nI x)), some (.int (nI y)), some (.int (nI ((x + 6) - y))), some (.int (nI 1))]) (st' := [.int (nI 3), .int (nI ((x + 6) - y)), .int (nI 3), .int (nI y), .int (nI x), .ref d]) d_112_92 (fun _ => rfl) ?_
                    refine cn_rem d_112_93 (by first | omega | assumption | exact cu_36 (by omega) (cu_lt (by omega) (by omega))) (by first | omega | assumption | exact cu_36 (by omega) (cu_lt (by omega) (by omega))) (by first | omega | assumption | exact cu_36 (by omega) (cu_lt (by omega) (by omega))) ?_
                    refine cn_add d_112_94  ?_
                    refine cr_nx (pc' := 102) (al' := [some (.ref d), some (.int (nI 6)), some (.int (nI 3)), some (.int (nI x)), some (.int (nI y)), some (.int (nI ((x + 6) - y))), some (.int (nI 1))]) (st' := [.int (nI (3 + (((x + 6) - y) % 3))), .int (nI y), .int (nI x), .ref d]) d_112_95 (fun _ => rfl) ?_
                    refine cr_pv (b := d) (as := [.int (nI x), .int (nI y), .int (nI (3 + (((x + 6) - y) % 3)))]) (al0 := [some (.ref d), some (.int (nI x)), some (.int (nI y)), some (.int (nI (3 + (((x + 6) - y) % 3))))]) (r := []) d_112_102 cw_112 cm_10_33 cz_95 rfl rfl hd.1 (by rw [cw_95]; exact hd.2.2.1) (by rw [cw_95]; decide) rfl (Nat.le_of_ble_eq_true rfl) (k_put hd' hdn' (nI (3 + (((x + 6) - y) % 3))) (cu_36 (n := 6) (by decide) (cu_lt hx hy))) ?_
                    rw [upr_s, upr_u]
                    show CR _ _ 105 [some (.ref d), some (.int (nI 6)), some (.int (nI 3)), some (.int (nI x)), some (.int (nI y)), some (.int (nI ((x + 6) - y))), some (.int (nI 1))] [] S (up2 G d 0 (.int (nI 6))) (upr B (d + 1) (upd w_ (6 * x + y) (nI (3 + (((x + 6) - y) % 3))))) J R _
                    refine cn_inc d_112_105 rfl rfl ?_
                    show CR _ _ 108 [some (.ref d), some (.int (nI 6)), some (.int (nI 3)), some (.int (nI x)), some (.int (nI (y + 1))), some (.int (nI ((x + 6) - y))), some (.int (nI 1))] [] S (up2 G d 0 (.int (nI 6))) (upr B (d + 1) (upd w_ (6 * x + y) (nI (3 + (((x + 6) - y) % 3))))) J R _
                    refine cr_nx (pc' := 23) (al' := [some (.ref d), some (.int (nI 6)), some (.int (nI 3)), some (.int (nI x)), some (.int (nI (y + 1))), some (.int (nI ((x + 6) - y))), some (.int (nI 1))]) (st' := []) d_112_108 (fun _ => rfl) ?_
                    refine cr_dr (al1 := [some (.ref d), some (.int (nI 6)), some (.int (nI 3)), some (.int (nI x)), some (.int (nI (y + 1))), none, none]) (le_s (le_s (le_s (le_s (le_s (le_d rfl (le_d rfl (le_n)))))))) ?_
                    exact ihy (upd w_ (6 * x + y) (nI (3 + (((x + 6) - y) % 3)))) (sc_in py rfl (by first | exact congrArg nI (og6_tt x hx y hy (by omega) (by omega)) | exact congrArg nI (og6_tf x hx y hy (by omega) (by omega)) | exact congrArg nI (og6_ft x hx y hy (by omega) (by omega)) | exact congrArg nI (og6_ff x hx y hy (by omega) (by omega))))
              · refine cn_ic (v := 1) d_112_65 (by decide) ?_
                refine cr_nx (pc' := 70) (al' := [some (.ref d), some (.int (nI 6)), some (.int (nI 3)), some (.int (nI x)), some (.int (nI y)), some (.int (nI ((x + 6) - y))), none]) (st' := [.int (nI 1), .int (nI 1)]) d_112_66 (fun _ => rfl) ?_
                refine cn_ceq (t := 77) d_112_70 (by decide) (by first | omega | assumption | exact cu_36 (by omega) (cu_lt (by omega) (by omega))) (by first | omega | assumption | exact cu_36 (by omega) (cu_lt (by omega) (by omega))) (fun c70 => ?_) (fun c70 => ?_)
                · refine cn_ic (v := 0) d_112_77 (by decide) ?_
                  refine cr_nx (pc' := 80) (al' := [some (.ref d), some (.int (nI 6)), some (.int (nI 3)), some (.int (nI x)), some (.int (nI y)), some (.int (nI ((x + 6) - y))), some (.int (nI 0))]) (st' := []) d_112_78 (fun _ => rfl) ?_
                  refine cr_nx (pc' := 81) (al' := [some (.ref d), some (.int (nI 6)), some (.int (nI 3)), some (.int (nI x)), some (.int (nI y)), some (.int (nI ((x + 6) - y))), some (.int (nI 0))]) (st' := [.ref d]) d_112_80 (fun _ => rfl) ?_
                  refine cr_nx (pc' := 82) (al' := [some (.ref d), some (.int (nI 6)), some (.int (nI 3)), some (.int (nI x)), some (.int (nI y)), some (.int (nI ((x + 6) - y))), some (.int (nI 0))]) (st' := [.int (nI x), .ref d]) d_112_81 (fun _ => rfl) ?_
                  refine cr_nx (pc' := 84) (al' := [some (.ref d), some (.int (nI 6)), some (.int (nI 3)), some (.int (nI x)), some (.int (nI y)), some (.int (nI ((x + 6) - y))), some (.int (nI 0))]) (st' := [.int (nI y), .int (nI x), .ref d]) d_112_82 (fun _ => rfl) ?_
                  refine cr_nx (pc' := 86) (al' := [some (.ref d), some (.int (nI 6)), some (.int (nI 3)), some (.int (nI x)), some (.int (nI y)), some (.int (nI ((x + 6) - y))), some (.int (nI 0))]) (st' := [.int (nI 0), .int (nI y), .int (nI x), .ref d]) d_112_84 (fun _ => rfl) ?_
                  refine cn_ieq (t := 98) d_112_86 (by decide) (by first | omega | assumption | exact cu_36 (by omega) (cu_lt (by omega) (by omega))) (fun c86 => ?_) (fun c86 => ?_)
                  · refine cr_nx (pc' := 100) (al' := [some (.ref d), some (.int (nI 6)), some (.int (nI 3)), some (.int (nI x)), some (.int (nI y)), some (.int (nI ((x + 6) - y))), some (.int (nI 0))]) (st' := [.int (nI ((x + 6) - y)), .int (nI y), .int (nI x), .ref d]) d_112_98 (fun _ => rfl) ?_
                    refine cr_nx (pc' := 101) (al' := [some (.ref d), some (.int (nI 6)), some (.int (nI 3)), some (.int (nI x)), some (.int (nI y)), some (.int (nI ((x + 6) - y))), some (.int (nI 0))]) (st' := [.int (nI 3), .int (nI ((x + 6) - y)), .int (nI y), .int (nI x), .ref d]) d_112_100 (fun _ => rfl) ?_
                    refine cn_rem d_112_101 (by first | omega | assumption | exact cu_36 (by omega) (cu_lt (by omega) (by omega))) (by first | omega | assumption | exact cu_36 (by omega) (cu_lt (by omega) (by omega))) (by first | omega | assumption | exact cu_36 (by omega) (cu_lt (by omega) (by omega))) ?_
                    refine cr_pv (b := d) (as := [.int (nI x), .int (nI y), .int (nI (((x + 6) - y) % 3))]) (al0 := [some (.ref d), some (.int (nI x)), some (.int (nI y)), some (.int (nI (((x + 6) - y) % 3)))]) (r := []) d_112_102 cw_112 cm_10_33 cz_95 rfl rfl hd.1 (by rw [cw_95]; exact hd.2.2.1) (by rw [cw_95]; decide) rfl (Nat.le_of_ble_eq_true rfl) (k_put hd' hdn' (nI (((x + 6) - y) % 3)) (cu_36 (n := 6) (by decide) (cu_lt hx hy))) ?_
                    rw [upr_s, upr_u]
                    show CR _ _ 105 [some (.ref d), some (.int (nI 6)), some (.int (nI 3)), some (.int (nI x)), some (.int (nI y)), some (.int (nI ((x + 6) - y))), some (.int (nI 0))] [] S (up2 G d 0 (.int (nI 6))) (upr B (d + 1) (upd w_ (6 * x + y) (nI (((x + 6) - y) % 3)))) J R _
                    refine cn_inc d_112_105 rfl rfl ?_
                    show CR _ _ 108 [some (.ref d), some (.int (nI 6)), some (.int (nI 3)), some (.int (nI x)), some (.int (nI (y + 1))), some (.int (nI ((x + 6) - y))), some (.int (nI 0))] [] S (up2 G d 0 (.int (nI 6))) (upr B (d + 1) (upd w_ (6 * x + y) (nI (((x + 6) - y) % 3)))) J R _
                    refine cr_nx (pc' := 23) (al' := [some (.ref d), some (.int (nI 6)), some (.int (nI 3)), some (.int (nI x)), some (.int (nI (y + 1))), some (.int (nI ((x + 6) - y))), some (.int (nI 0))]) (st' := []) d_112_108 (fun _ => rfl) ?_
                    refine cr_dr (al1 := [some (.ref d), some (.int (nI 6)), some (.int (nI 3)), some (.int (nI x)), some (.int (nI (y + 1))), none, none]) (le_s (le_s (le_s (le_s (le_s (le_d rfl (le_d rfl (le_n)))))))) ?_
                    exact ihy (upd w_ (6 * x + y) (nI (((x + 6) - y) % 3))) (sc_in py rfl (by first | exact congrArg nI (og6_tt x hx y hy (by omega) (by omega)) | exact congrArg nI (og6_tf x hx y hy (by omega) (by omega)) | exact congrArg nI (og6_ft x hx y hy (by omega) (by omega)) | exact congrArg nI (og6_ff x hx y hy (by omega) (by omega))))
                  · omega
                · omega
          · refine cr_nx (pc' := 35) (al' := [some (.ref d), some (.int (nI 6)), some (.int (nI 3)), some (.int (nI x)), some (.int (nI y)), none, none]) (st' := [.int (nI x)]) d_112_34 (fun _ => rfl) ?_
            refine cr_nx (pc' := 37) (al' := [some (.ref d), some (.int (nI 6)), some (.int (nI 3)), some (.int (nI x)), some (.int (nI y)), none, none]) (st' := [.int (nI y), .int (nI x)]) d_112_35 (fun _ => rfl) ?_
            refine cn_add d_112_37  ?_
            refine cr_nx (pc' := 47) (al' := [some (.ref d), some (.int (nI 6)), some (.int (nI 3)), some (.int (nI x)), some (.int (nI y)), none, none]) (st' := [.int (nI (x + y))]) d_112_38 (fun _ => rfl) ?_
            refine cr_nx (pc' := 49) (al' := [some (.ref d), some (.int (nI 6)), some (.int (nI 3)), some (.int (nI x)), some (.int (nI y)), some (.int (nI (x + y))), none]) (st' := []) d_112_47 (fun _ => rfl) ?_
            refine cr_nx (pc' := 50) (al' := [some (.ref d), some (.int (nI 6)), some (.int (nI 3)), some (.int (nI x)), some (.int (nI y)), some (.int (nI (x + y))), none]) (st' := [.int (nI x)]) d_112_49 (fun _ => rfl) ?_
            refine cr_nx (pc' := 51) (al' := [some (.ref d), some (.int (nI 6)), some (.int (nI 3)), some (.int (nI x)), some (.int (nI y)), some (.int (nI (x + y))), none]) (st' := [.int (nI 3), .int (nI x)]) d_112_50 (fun _ => rfl) ?_
            refine cn_cge (t := 58) d_112_51 (by decide) (by first | omega | assumption | exact cu_36 (by omega) (cu_lt (by omega) (by omega))) (by first | omega | assumption | exact cu_36 (by omega) (cu_lt (by omega) (by omega))) (fun c51 => ?_) (fun c51 => ?_)
            · refine cn_ic (v := 0) d_112_58 (by decide) ?_
              refine cr_nx (pc' := 61) (al' := [some (.ref d), some (.int (nI 6)), some (.int (nI 3)), some (.int (nI x)), some (.int (nI y)), some (.int (nI (x + y))), none]) (st' := [.int (nI y), .int (nI 0)]) d_112_59 (fun _ => rfl) ?_
              refine cr_nx (pc' := 62) (al' := [some (.ref d), some (.int (nI 6)), some (.int (nI 3)), some (.int (nI x)), some (.int (nI y)), some (.int (nI (x + y))), none]) (st' := [.int (nI 3), .int (nI y), .int (nI 0)]) d_112_61 (fun _ => rfl) ?_
              refine cn_cge (t := 69) d_112_62 (by decide) (by first | omega | assumption | exact cu_36 (by omega) (cu_lt (by omega) (by omega))) (by first | omega | assumption | exact cu_36 (by omega) (cu_lt (by omega) (by omega))) (fun c62 => ?_) (fun c62 => ?_)
              · refine cn_ic (v := 0) d_112_69 (by decide) ?_
                refine cn_ceq (t := 77) d_112_70 (by decide) (by first | omega | assumption | exact cu_36 (by omega) (cu_lt (by omega) (by omega))) (by first | omega | assumption | exact cu_36 (by omega) (cu_lt (by omega) (by omega))) (fun c70 => ?_) (fun c70 => ?_)
                · refine cn_ic (v := 0) d_112_77 (by decide) ?_
                  refine cr_nx (pc' := 80) (al' := [some (.ref d), some (.int (nI 6)), some (.int (nI 3)), some (.int (nI x)), some (.int (nI y)), some (.int (nI (x + y))), some (.int (nI 0))]) (st' := []) d_112_78 (fun _ => rfl) ?_
                  refine cr_nx (pc' := 81) (al' := [some (.ref d), some (.int (nI 6)), some (.int (nI 3)), some (.int (nI x)), some (.int (nI y)), some (.int (nI (x + y))), some (.int (nI 0))]) (st' := [.ref d]) d_112_80 (fun _ => rfl) ?_
                  refine cr_nx (pc' := 82) (al' := [some (.ref d), some (.int (nI 6)), some (.int (nI 3)), some (.int (nI x)), some (.int (nI y)), some (.int (nI (x + y))), some (.int (nI 0))]) (st' := [.int (nI x), .ref d]) d_112_81 (fun _ => rfl) ?_
                  refine cr_nx (pc' := 84) (al' := [some (.ref d), some (.int (nI 6)), some (.int (nI 3)), some (.int (nI x)), some (.int (nI y)), some (.int (nI (x + y))), some (.int (nI 0))]) (st' := [.int (nI y), .int (nI x), .ref d]) d_112_82 (fun _ => rfl) ?_
                  refine cr_nx (pc' := 86) (al' := [some (.ref d), some (.int (nI 6)), some (.int (nI 3)), some (.int (nI x)), some (.int (nI y)), some (.int (nI (x + y))), some (.int (nI 0))]) (st' := [.int (nI 0), .int (nI y), .int (nI x), .ref d]) d_112_84 (fun _ => rfl) ?_
                  refine cn_ieq (t := 98) d_112_86 (by decide) (by first | omega | assumption | exact cu_36 (by omega) (cu_lt (by omega) (by omega))) (fun c86 => ?_) (fun c86 => ?_)
                  · refine cr_nx (pc' := 100) (al' := [some (.ref d), some (.int (nI 6)), some (.int (nI 3)), some (.int (nI x)), some (.int (nI y)), some (.int (nI (x + y))), some (.int (nI 0))]) (st' := [.int (nI (x + y)), .int (nI y), .int (nI x), .ref d]) d_112_98 (fun _ => rfl) ?_
                    refine cr_nx (pc' := 101) (al' := [some (.ref d), some (.int (nI 6)), some (.int (nI 3)), some (.int (nI x)), some (.int (nI y)), some (.int (nI (x + y))), some (.int (nI 0))]) (st' := [.int (nI 3), .int (nI (x + y)), .int (nI y), .int (nI x), .ref d]) d_112_100 (fun _ => rfl) ?_
                    refine cn_rem d_112_101 (by first | omega | assumption | exact cu_36 (by omega) (cu_lt (by omega) (by omega))) (by first | omega | assumption | exact cu_36 (by omega) (cu_lt (by omega) (by omega))) (by first | omega | assumption | exact cu_36 (by omega) (cu_lt (by omega) (by omega))) ?_
                    refine cr_pv (b := d) (as := [.int (nI x), .int (nI y), .int (nI ((x + y) % 3))]) (al0 := [some (.ref d), some (.int (nI x)), some (.int (nI y)), some (.int (nI ((x + y) % 3)))]) (r := []) d_112_102 cw_112 cm_10_33 cz_95 rfl rfl hd.1 (by rw [cw_95]; exact hd.2.2.1) (by rw [cw_95]; decide) rfl (Nat.le_of_ble_eq_true rfl) (k_put hd' hdn' (nI ((x + y) % 3)) (cu_36 (n := 6) (by decide) (cu_lt hx hy))) ?_
                    rw [upr_s, upr_u]
                    show CR _ _ 105 [some (.ref d), some (.int (nI 6)), some (.int (nI 3)), some (.int (nI x)), some (.int (nI y)), some (.int (nI (x + y))), some (.int (nI 0))] [] S (up2 G d 0 (.int (nI 6))) (upr B (d + 1) (upd w_ (6 * x + y) (nI ((x + y) % 3)))) J R _
                    refine cn_inc d_112_105 rfl rfl ?_
                    show CR _ _ 108 [some (.ref d), some (.int (nI 6)), some (.int (nI 3)), some (.int (nI x)), some (.int (nI (y + 1))), some (.int (nI (x + y))), some (.int (nI 0))] [] S (up2 G d 0 (.int (nI 6))) (upr B (d + 1) (upd w_ (6 * x + y) (nI ((x + y) % 3)))) J R _
                    refine cr_nx (pc' := 23) (al' := [some (.ref d), some (.int (nI 6)), some (.int (nI 3)), some (.int (nI x)), some (.int (nI (y + 1))), some (.int (nI (x + y))), some (.int (nI 0))]) (st' := []) d_112_108 (fun _ => rfl) ?_
                    refine cr_dr (al1 := [some (.ref d), some (.int (nI 6)), some (.int (nI 3)), some (.int (nI x)), some (.int (nI (y + 1))), none, none]) (le_s (le_s (le_s (le_s (le_s (le_d rfl (le_d rfl (le_n)))))))) ?_
                    exact ihy (upd w_ (6 * x + y) (nI ((x + y) % 3))) (sc_in py rfl (by first | exact congrArg nI (og6_tt x hx y hy (by omega) (by omega)) | exact congrArg nI (og6_tf x hx y hy (by omega) (by omega)) | exact congrArg nI (og6_ft x hx y hy (by omega) (by omega)) | exact congrArg nI (og6_ff x hx y hy (by omega) (by omega))))
                  · omega
                · omega
              · refine cn_ic (v := 1) d_112_65 (by decide) ?_
                refine cr_nx (pc' := 70) (al' := [some (.ref d), some (.int (nI 6)), some (.int (nI 3)), some (.int (nI x)), some (.int (nI y)), some (.int (nI (x + y))), none]) (st' := [.int (nI 1), .int (nI 0)]) d_112_66 (fun _ => rfl) ?_
                refine cn_ceq (t := 77) d_112_70 (by decide) (by first | omega | assumption | exact cu_36 (by omega) (cu_lt (by omega) (by omega))) (by first | omega | assumption | exact cu_36 (by omega) (cu_lt (by omega) (by omega))) (fun c70 => ?_) (fun c70 => ?_)
                · omega
                · refine cn_ic (v := 1) d_112_73 (by decide) ?_
                  refine cr_nx (pc' := 78) (al' := [some (.ref d), some (.int (nI 6)), some (.int (nI 3)), some (.int (nI x)), some (.int (nI y)), some (.int (nI (x + y))), none]) (st' := [.int (nI 1)]) d_112_74 (fun _ => rfl) ?_
                  refine cr_nx (pc' := 80) (al' := [some (.ref d), some (.int (nI 6)), some (.int (nI 3)), some (.int (nI x)), some (.int (nI y)), some (.int (nI (x + y))), some (.int (nI 1))]) (st' := []) d_112_78 (fun _ => rfl) ?_
                  refine cr_nx (pc' := 81) (al' := [some (.ref d), some (.int (nI 6)), some (.int (nI 3)), some (.int (nI x)), some (.int (nI y)), some (.int (nI (x + y))), some (.int (nI 1))]) (st' := [.ref d]) d_112_80 (fun _ => rfl) ?_
                  refine cr_nx (pc' := 82) (al' := [some (.ref d), some (.int (nI 6)), some (.int (nI 3)), some (.int (nI x)), some (.int (nI y)), some (.int (nI (x + y))), some (.int (nI 1))]) (st' := [.int (nI x), .ref d]) d_112_81 (fun _ => rfl) ?_
                  refine cr_nx (pc' := 84) (al' := [some (.ref d), some (.int (nI 6)), some (.int (nI 3)), some (.int (nI x)), some (.int (nI y)), some (.int (nI (x + y))), some (.int (nI 1))]) (st' := [.int (nI y), .int (nI x), .ref d]) d_112_82 (fun _ => rfl) ?_
                  refine cr_nx (pc' := 86) (al' := [some (.ref d), some (.int (nI 6)), some (.int (nI 3)), some (.int (nI x)), some (.int (nI y)), some (.int (nI (x + y))), some (.int (nI 1))]) (st' := [.int (nI 1), .int (nI y), .int (nI x), .ref d]) d_112_84 (fun _ => rfl) ?_
                  refine cn_ieq (t := 98) d_112_86 (by decide) (by first | omega | assumption | exact cu_36 (by omega) (cu_lt (by omega) (by omega))) (fun c86 => ?_) (fun c86 => ?_)
                  · omega
                  · refine cr_nx (pc' := 90) (al' := [some (.ref d), some (.int (nI 6)), some (.int (nI 3)), some (.int (nI x)), some (.int (nI y)), some (.int (nI (x + y))), some (.int (nI 1))]) (st' := [.int (nI 3), .int (nI y), .int (nI x), .ref d]) d_112_89 (fun _ => rfl) ?_
                    refine cr_nx (pc' := 92) (al' := [some (.ref d), some (.int (nI 6)), some (.int (nI 3)), some (.int (nI x)), some (.int (nI y)), some (.int (nI (x + y))), some (.int (nI 1))]) (st' := [.int (nI (x + y)), .int (nI 3), .int (nI y), .int (nI x), .ref d]) d_112_90 (fun _ => rfl) ?_
                    refine cr_nx (pc' := 93) (al' := [some (.ref d), some (.int (nI 6)), some (.int (nI 3)), some (.int (nI x)), some (.int (nI y)), some (.int (nI (x + y))), some (.int (nI 1))]) (st' := [.int (nI 3), .int (nI (x + y)), .int (nI 3), .int (nI y), .int (nI x), .ref d]) d_112_92 (fun _ => rfl) ?_
                    refine cn_rem d_112_93 (by first | omega | assumption | exact cu_36 (by omega) (cu_lt (by omega) (by omega))) (by first | omega | assumption | exact cu_36 (by omega) (cu_lt (by omega) (by omega))) (by first | omega | assumption | exact cu_36 (by omega) (cu_lt (by omega) (by omega))) ?_
                    refine cn_add d_112_94  ?_
                    refine cr_nx (pc' := 102) (al' := [some (.ref d), some (.int (nI 6)), some (.int (nI 3)), some (.int (nI x)), some (.int (nI y)), some (.int (nI (x + y))), some (.int (nI 1))]) (st' := [.int (nI (3 + ((x + y) % 3))), .int (nI y), .int (nI x), .ref d]) d_112_95 (fun _ => rfl) ?_
                    refine cr_pv (b := d) (as := [.int (nI x), .int (nI y), .int (nI (3 + ((x + y) % 3)))]) (al0 := [some (.ref d), some (.int (nI x)), some (.int (nI y)), some (.int (nI (3 + ((x + y) % 3))))]) (r := []) d_112_102 cw_112 cm_10_33 cz_95 rfl rfl hd.1 (by rw [cw_95]; exact hd.2.2.1) (by rw [cw_95]; decide) rfl (Nat.le_of_ble_eq_true rfl) (k_put hd' hdn' (nI (3 + ((x + y) % 3))) (cu_36 (n := 6) (by decide) (cu_lt hx hy))) ?_
                    rw [upr_s, upr_u]
                    show CR _ _ 105 [some (.ref d), some (.int (nI 6)), some (.int (nI 3)), some (.int (nI x)), some (.int (nI y)), some (.int (nI (x + y))), some (.int (nI 1))] [] S (up2 G d 0 (.int (nI 6))) (upr B (d + 1) (upd w_ (6 * x + y) (nI (3 + ((x + y) % 3))))) J R _
                    refine cn_inc d_112_105 rfl rfl ?_
                    show CR _ _ 108 [some (.ref d), some (.int (nI 6)), some (.int (nI 3)), some (.int (nI x)), some (.int (nI (y + 1))), some (.int (nI (x + y))), some (.int (nI 1))] [] S (up2 G d 0 (.int (nI 6))) (upr B (d + 1) (upd w_ (6 * x + y) (nI (3 + ((x + y) % 3))))) J R _
                    refine cr_nx (pc' := 23) (al' := [some (.ref d), some (.int (nI 6)), some (.int (nI 3)), some (.int (nI x)), some (.int (nI (y + 1))), some (.int (nI (x + y))), some (.int (nI 1))]) (st' := []) d_112_108 (fun _ => rfl) ?_
                    refine cr_dr (al1 := [some (.ref d), some (.int (nI 6)), some (.int (nI 3)), some (.int (nI x)), some (.int (nI (y + 1))), none, none]) (le_s (le_s (le_s (le_s (le_s (le_d rfl (le_d rfl (le_n)))))))) ?_
                    exact ihy (upd w_ (6 * x + y) (nI (3 + ((x + y) % 3)))) (sc_in py rfl (by first | exact congrArg nI (og6_tt x hx y hy (by omega) (by omega)) | exact congrArg nI (og6_tf x hx y hy (by omega) (by omega)) | exact congrArg nI (og6_ft x hx y hy (by omega) (by omega)) | exact congrArg nI (og6_ff x hx y hy (by omega) (by omega))))
            · refine cn_ic (v := 1) d_112_54 (by decide) ?_
              refine cr_nx (pc' := 59) (al' := [some (.ref d), some (.int (nI 6)), some (.int (nI 3)), some (.int (nI x)), some (.int (nI y)), some (.int (nI (x + y))), none]) (st' := [.int (nI 1)]) d_112_55 (fun _ => rfl) ?_
              refine cr_nx (pc' := 61) (al' := [some (.ref d), some (.int (nI 6)), some (.int (nI 3)), some (.int (nI x)), some (.int (nI y)), some (.int (nI (x + y))), none]) (st' := [.int (nI y), .int (nI 1)]) d_112_59 (fun _ => rfl) ?_
              refine cr_nx (pc' := 62) (al' := [some (.ref d), some (.int (nI 6)), some (.int (nI 3)), some (.int (nI x)), some (.int (nI y)), some (.int (nI (x + y))), none]) (st' := [.int (nI 3), .int (nI y), .int (nI 1)]) d_112_61 (fun _ => rfl) ?_
              refine cn_cge (t := 69) d_112_62 (by decide) (by first | omega | assumption | exact cu_36 (by omega) (cu_lt (by omega) (by omega))) (by first | omega | assumption | exact cu_36 (by omega) (cu_lt (by omega) (by omega))) (fun c62 => ?_) (fun c62 => ?_)
              · refine cn_ic (v := 0) d_112_69 (by decide) ?_
                refine cn_ceq (t := 77) d_112_70 (by decide) (by first | omega | assumption | exact cu_36 (by omega) (cu_lt (by omega) (by omega))) (by first | omega | assumption | exact cu_36 (by omega) (cu_lt (by omega) (by omega))) (fun c70 => ?_) (fun c70 => ?_)
                · omega
                · refine cn_ic (v := 1) d_112_73 (by decide) ?_
                  refine cr_nx (pc' := 78) (al' := [some (.ref d), some (.int (nI 6)), some (.int (nI 3)), some (.int (nI x)), some (.int (nI y)), some (.int (nI (x + y))), none]) (st' := [.int (nI 1)]) d_112_74 (fun _ => rfl) ?_
                  refine cr_nx (pc' := 80) (al' := [some (.ref d), some (.int (nI 6)), some (.int (nI 3)), some (.int (nI x)), some (.int (nI y)), some (.int (nI (x + y))), some (.int (nI 1))]) (st' := []) d_112_78 (fun _ => rfl) ?_
                  refine cr_nx (pc' := 81) (al' := [some (.ref d), some (.int (nI 6)), some (.int (nI 3)), some (.int (nI x)), some (.int (nI y)), some (.int (nI (x + y))), some (.int (nI 1))]) (st' := [.ref d]) d_112_80 (fun _ => rfl) ?_
                  refine cr_nx (pc' := 82) (al' := [some (.ref d), some (.int (nI 6)), some (.int (nI 3)), some (.int (nI x)), some (.int (nI y)), some (.int (nI (x + y))), some (.int (nI 1))]) (st' := [.int (nI x), .ref d]) d_112_81 (fun _ => rfl) ?_
                  refine cr_nx (pc' := 84) (al' := [some (.ref d), some (.int (nI 6)), some (.int (nI 3)), some (.int (nI x)), some (.int (nI y)), some (.int (nI (x + y))), some (.int (nI 1))]) (st' := [.int (nI y), .int (nI x), .ref d]) d_112_82 (fun _ => rfl) ?_
                  refine cr_nx (pc' := 86) (al' := [some (.ref d), some (.int (nI 6)), some (.int (nI 3)), some (.int (nI x)), some (.int (nI y)), some (.int (nI (x + y))), some (.int (nI 1))]) (st' := [.int (nI 1), .int (nI y), .int (nI x), .ref d]) d_112_84 (fun _ => rfl) ?_
                  refine cn_ieq (t := 98) d_112_86 (by decide) (by first | omega | assumption | exact cu_36 (by omega) (cu_lt (by omega) (by omega))) (fun c86 => ?_) (fun c86 => ?_)
                  · omega
                  · refine cr_nx (pc' := 90) (al' := [some (.ref d), some (.int (nI 6)), some (.int (nI 3)), some (.int (nI x)), some (.int (nI y)), some (.int (nI (x + y))), some (.int (nI 1))]) (st' := [.int (nI 3), .int (nI y), .int (nI x), .ref d]) d_112_89 (fun _ => rfl) ?_
                    refine cr_nx (pc' := 92) (al' := [some (.ref d), some (.int (nI 6)), some (.int (nI 3)), some (.int (nI x)), some (.int (nI y)), some (.int (nI (x + y))), some (.int (nI 1))]) (st' := [.int (nI (x + y)), .int (nI 3), .int (nI y), .int (nI x), .ref d]) d_112_90 (fun _ => rfl) ?_
                    refine cr_nx (pc' := 93) (al' := [some (.ref d), some (.int (nI 6)), some (.int (nI 3)), some (.int (nI x)), some (.int (nI y)), some (.int (nI (x + y))), some (.int (nI 1))]) (st' := [.int (nI 3), .int (nI (x + y)), .int (nI 3), .int (nI y), .int (nI x), .ref d]) d_112_92 (fun _ => rfl) ?_
                    refine cn_rem d_112_93 (by first | omega | assumption | exact cu_36 (by omega) (cu_lt (by omega) (by omega))) (by first | omega | assumption | exact cu_36 (by omega) (cu_lt (by omega) (by omega))) (by first | omega | assumption | exact cu_36 (by omega) (cu_lt (by omega) (by omega))) ?_
                    refine cn_add d_112_94  ?_
                    refine cr_nx (pc' := 102) (al' := [some (.ref d), some (.int (nI 6)), some (.int (nI 3)), some (.int (nI x)), some (.int (nI y)), some (.int (nI (x + y))), some (.int (nI 1))]) (st' := [.int (nI (3 + ((x + y) % 3))), .int (nI y), .int (nI x), .ref d]) d_112_95 (fun _ => rfl) ?_
                    refine cr_pv (b := d) (as := [.int (nI x), .int (nI y), .int (nI (3 + ((x + y) % 3)))]) (al0 := [some (.ref d), some (.int (nI x)), some (.int (nI y)), some (.int (nI (3 + ((x + y) % 3))))]) (r := []) d_112_102 cw_112 cm_10_33 cz_95 rfl rfl hd.1 (by rw [cw_95]; exact hd.2.2.1) (by rw [cw_95]; decide) rfl (Nat.le_of_ble_eq_true rfl) (k_put hd' hdn' (nI (3 + ((x + y) % 3))) (cu_36 (n := 6) (by decide) (cu_lt hx hy))) ?_
                    rw [upr_s, upr_u]
                    show CR _ _ 105 [some (.ref d), some (.int (nI 6)), some (.int (nI 3)), some (.int (nI x)), some (.int (nI y)), some (.int (nI (x + y))), some (.int (nI 1))] [] S (up2 G d 0 (.int (nI 6))) (upr B (d + 1) (upd w_ (6 * x + y) (nI (3 + ((x + y) % 3))))) J R _
                    refine cn_inc d_112_105 rfl rfl ?_
                    show CR _ _ 108 [some (.ref d), some (.int (nI 6)), some (.int (nI 3)), some (.int (nI x)), some (.int (nI (y + 1))), some (.int (nI (x + y))), some (.int (nI 1))] [] S (up2 G d 0 (.int (nI 6))) (upr B (d + 1) (upd w_ (6 * x + y) (nI (3 + ((x + y) % 3))))) J R _
                    refine cr_nx (pc' := 23) (al' := [some (.ref d), some (.int (nI 6)), some (.int (nI 3)), some (.int (nI x)), some (.int (nI (y + 1))), some (.int (nI (x + y))), some (.int (nI 1))]) (st' := []) d_112_108 (fun _ => rfl) ?_
                    refine cr_dr (al1 := [some (.ref d), some (.int (nI 6)), some (.int (nI 3)), some (.int (nI x)), some (.int (nI (y + 1))), none, none]) (le_s (le_s (le_s (le_s (le_s (le_d rfl (le_d rfl (le_n)))))))) ?_
                    exact ihy (upd w_ (6 * x + y) (nI (3 + ((x + y) % 3)))) (sc_in py rfl (by first | exact congrArg nI (og6_tt x hx y hy (by omega) (by omega)) | exact congrArg nI (og6_tf x hx y hy (by omega) (by omega)) | exact congrArg nI (og6_ft x hx y hy (by omega) (by omega)) | exact congrArg nI (og6_ff x hx y hy (by omega) (by omega))))
              · refine cn_ic (v := 1) d_112_65 (by decide) ?_
                refine cr_nx (pc' := 70) (al' := [some (.ref d), some (.int (nI 6)), some (.int (nI 3)), some (.int (nI x)), some (.int (nI y)), some (.int (nI (x + y))), none]) (st' := [.int (nI 1), .int (nI 1)]) d_112_66 (fun _ => rfl) ?_
                refine cn_ceq (t := 77) d_112_70 (by decide) (by first | omega | assumption | exact cu_36 (by omega) (cu_lt (by omega) (by omega))) (by first | omega | assumption | exact cu_36 (by omega) (cu_lt (by omega) (by omega))) (fun c70 => ?_) (fun c70 => ?_)
                · refine cn_ic (v := 0) d_112_77 (by decide) ?_
                  refine cr_nx (pc' := 80) (al' := [some (.ref d), some (.int (nI 6)), some (.int (nI 3)), some (.int (nI x)), some (.int (nI y)), some (.int (nI (x + y))), some (.int (nI 0))]) (st' := []) d_112_78 (fun _ => rfl) ?_
                  refine cr_nx (pc' := 81) (al' := [some (.ref d), some (.int (nI 6)), some (.int (nI 3)), some (.int (nI x)), some (.int (nI y)), some (.int (nI (x + y))), some (.int (nI 0))]) (st' := [.ref d]) d_112_80 (fun _ => rfl) ?_
                  refine cr_nx (pc' := 82) (al' := [some (.ref d), some (.int (nI 6)), some (.int (nI 3)), some (.int (nI x)), some (.int (nI y)), some (.int (nI (x + y))), some (.int (nI 0))]) (st' := [.int (nI x), .ref d]) d_112_81 (fun _ => rfl) ?_
                  refine cr_nx (pc' := 84) (al' := [some (.ref d), some (.int (nI 6)), some (.int (nI 3)), some (.int (nI x)), some (.int (nI y)), some (.int (nI (x + y))), some (.int (nI 0))]) (st' := [.int (nI y), .int (nI x), .ref d]) d_112_82 (fun _ => rfl) ?_
                  refine cr_nx (pc' := 86) (al' := [some (.ref d), some (.int (nI 6)), some (.int (nI 3)), some (.int (nI x)), some (.int (nI y)), some (.int (nI (x + y))), some (.int (nI 0))]) (st' := [.int (nI 0), .int (nI y), .int (nI x), .ref d]) d_112_84 (fun _ => rfl) ?_
                  refine cn_ieq (t := 98) d_112_86 (by decide) (by first | omega | assumption | exact cu_36 (by omega) (cu_lt (by omega) (by omega))) (fun c86 => ?_) (fun c86 => ?_)
                  · refine cr_nx (pc' := 100) (al' := [some (.ref d), some (.int (nI 6)), some (.int (nI 3)), some (.int (nI x)), some (.int (nI y)), some (.int (nI (x + y))), some (.int (nI 0))]) (st' := [.int (nI (x + y)), .int (nI y), .int (nI x), .ref d]) d_112_98 (fun _ => rfl) ?_
                    refine cr_nx (pc' := 101) (al' := [some (.ref d), some (.int (nI 6)), some (.int (nI 3)), some (.int (nI x)), some (.int (nI y)), some (.int (nI (x + y))), some (.int (nI 0))]) (st' := [.int (nI 3), .int (nI (x + y)), .int (nI y), .int (nI x), .ref d]) d_112_100 (fun _ => rfl) ?_
                    refine cn_rem d_112_101 (by first | omega | assumption | exact cu_36 (by omega) (cu_lt (by omega) (by omega))) (by first | omega | assumption | exact cu_36 (by omega) (cu_lt (by omega) (by omega))) (by first | omega | assumption | exact cu_36 (by omega) (cu_lt (by omega) (by omega))) ?_
                    refine cr_pv (b := d) (as := [.int (nI x), .int (nI y), .int (nI ((x + y) % 3))]) (al0 := [some (.ref d), some (.int (nI x)), some (.int (nI y)), some (.int (nI ((x + y) % 3)))]) (r := []) d_112_102 cw_112 cm_10_33 cz_95 rfl rfl hd.1 (by rw [cw_95]; exact hd.2.2.1) (by rw [cw_95]; decide) rfl (Nat.le_of_ble_eq_true rfl) (k_put hd' hdn' (nI ((x + y) % 3)) (cu_36 (n := 6) (by decide) (cu_lt hx hy))) ?_
                    rw [upr_s, upr_u]
                    show CR _ _ 105 [some (.ref d), some (.int (nI 6)), some (.int (nI 3)), some (.int (nI x)), some (.int (nI y)), some (.int (nI (x + y))), some (.int (nI 0))] [] S (up2 G d 0 (.int (nI 6))) (upr B (d + 1) (upd w_ (6 * x + y) (nI ((x + y) % 3)))) J R _
                    refine cn_inc d_112_105 rfl rfl ?_
                    show CR _ _ 108 [some (.ref d), some (.int (nI 6)), some (.int (nI 3)), some (.int (nI x)), some (.int (nI (y + 1))), some (.int (nI (x + y))), some (.int (nI 0))] [] S (up2 G d 0 (.int (nI 6))) (upr B (d + 1) (upd w_ (6 * x + y) (nI ((x + y) % 3)))) J R _
                    refine cr_nx (pc' := 23) (al' := [some (.ref d), some (.int (nI 6)), some (.int (nI 3)), some (.int (nI x)), some (.int (nI (y + 1))), some (.int (nI (x + y))), some (.int (nI 0))]) (st' := []) d_112_108 (fun _ => rfl) ?_
                    refine cr_dr (al1 := [some (.ref d), some (.int (nI 6)), some (.int (nI 3)), some (.int (nI x)), some (.int (nI (y + 1))), none, none]) (le_s (le_s (le_s (le_s (le_s (le_d rfl (le_d rfl (le_n)))))))) ?_
                    exact ihy (upd w_ (6 * x + y) (nI ((x + y) % 3))) (sc_in py rfl (by first | exact congrArg nI (og6_tt x hx y hy (by omega) (by omega)) | exact congrArg nI (og6_tf x hx y hy (by omega) (by omega)) | exact congrArg nI (og6_ft x hx y hy (by omega) (by omega)) | exact congrArg nI (og6_ff x hx y hy (by omega) (by omega))))
                  · omega
                · omega
      · show CR _ _ 23 [some (.ref d), some (.int (nI 6)), some (.int (nI 3)), some (.int (nI x)), some (.int (nI 6)), none, none] [] S (up2 G d 0 (.int (nI 6))) (upr B (d + 1) w_) J R _
        refine cr_nx (pc' := 25) (al' := [some (.ref d), some (.int (nI 6)), some (.int (nI 3)), some (.int (nI x)), some (.int (nI 6)), none, none]) (st' := [.int (nI 6)]) d_112_23 (fun _ => rfl) ?_
        refine cr_nx (pc' := 26) (al' := [some (.ref d), some (.int (nI 6)), some (.int (nI 3)), some (.int (nI x)), some (.int (nI 6)), none, none]) (st' := [.int (nI 6), .int (nI 6)]) d_112_25 (fun _ => rfl) ?_
        refine cn_cge (t := 111) d_112_26 (by decide) (by first | omega | assumption | exact cu_36 (by omega) (cu_lt (by omega) (by omega))) (by first | omega | assumption | exact cu_36 (by omega) (cu_lt (by omega) (by omega))) (fun c26 => ?_) (fun c26 => ?_)
        · refine cn_inc d_112_111 rfl rfl ?_
          show CR _ _ 114 [some (.ref d), some (.int (nI 6)), some (.int (nI 3)), some (.int (nI (x + 1))), some (.int (nI 6)), none, none] [] S (up2 G d 0 (.int (nI 6))) (upr B (d + 1) w_) J R _
          refine cr_nx (pc' := 15) (al' := [some (.ref d), some (.int (nI 6)), some (.int (nI 3)), some (.int (nI (x + 1))), some (.int (nI 6)), none, none]) (st' := []) d_112_114 (fun _ => rfl) ?_
          refine cr_dr (al1 := [some (.ref d), some (.int (nI 6)), some (.int (nI 3)), some (.int (nI (x + 1))), none, none, none]) (le_s (le_s (le_s (le_s (le_d rfl (le_s (le_s (le_n)))))))) ?_
          exact ihx w_ (sc_out py)
        · omega
  · show CR _ _ 15 [some (.ref d), some (.int (nI 6)), some (.int (nI 3)), some (.int (nI 6)), none, none, none] [] S (up2 G d 0 (.int (nI 6))) (upr B (d + 1) w_) J R _
    refine cr_nx (pc' := 16) (al' := [some (.ref d), some (.int (nI 6)), some (.int (nI 3)), some (.int (nI 6)), none, none, none]) (st' := [.int (nI 6)]) d_112_15 (fun _ => rfl) ?_
    refine cr_nx (pc' := 17) (al' := [some (.ref d), some (.int (nI 6)), some (.int (nI 3)), some (.int (nI 6)), none, none, none]) (st' := [.int (nI 6), .int (nI 6)]) d_112_16 (fun _ => rfl) ?_
    refine cn_cge (t := 117) d_112_17 (by decide) (by first | omega | assumption | exact cu_36 (by omega) (cu_lt (by omega) (by omega))) (by first | omega | assumption | exact cu_36 (by omega) (cu_lt (by omega) (by omega))) (fun c17 => ?_) (fun c17 => ?_)
    · exact cr_rv d_112_117 cx_112 ⟨rfl, rfl, rfl, rfl, rfl, w_, rfl, sc_all px sc_rm⟩
    · omega
theorem s_isGroup0 {g : Nat → Int32} {A : Nat → Nat → Int32} {n : Nat} (hn6 : n ≤ 6) : RR 0 270 0 [some (.ref 146), some (.int (nI n)), some (.int (nI 0)), none, none, none] [] g A (fun r g' A' => r = some (.int (nI 1)) ∧ g' = upd g 6 (nI n) ∧ ∃ w, A' = rf_u A 4 w ∧ ∀ q, q < n * n → w q = nI (cyN n q)) := by
  refine rr_nx (pc' := 1) (al' := [some (.ref 146), some (.int (nI n)), some (.int (nI 0)), none, none, none]) (st' := [.int (nI 0)]) d_270_0 (fun _ => rfl) ?_
  refine rn_ic (v := 1) d_270_1 (by decide) ?_
  refine rn_cne (t := 18) d_270_2 (by decide) (by first | omega | assumption | exact cu_36 (by omega) (cu_lt (by omega) (by omega))) (by first | omega | assumption | exact cu_36 (by omega) (cu_lt (by omega) (by omega))) (fun c2 => ?_) (fun c2 => ?_)
  · refine rr_nx (pc' := 19) (al' := [some (.ref 146), some (.int (nI n)), some (.int (nI 0)), none, none, none]) (st' := [.ref 146]) d_270_18 (fun _ => rfl) ?_
    refine rr_nx (pc' := 20) (al' := [some (.ref 146), some (.int (nI n)), some (.int (nI 0)), none, none, none]) (st' := [.int (nI n), .ref 146]) d_270_19 (fun _ => rfl) ?_
    refine rp_6 d_270_20 mo_270 fl_127  ?_
    refine rn_ic (v := 0) d_270_23 (by decide) ?_
    refine rr_nx (pc' := 25) (al' := [some (.ref 146), some (.int (nI n)), some (.int (nI 0)), some (.int (nI 0)), none, none]) (st' := []) d_270_24 (fun _ => rfl) ?_
    refine rr_A (show A = (rf_u A 4 (A 4)) by rw [rf_u_id]) ?_
    refine rr_upw (al := fun x w_ => [some (.ref 146), some (.int (nI n)), some (.int (nI 0)), some (.int (nI x)), none, none]) (G := fun x w_ => (upd g 6 (nI n))) (B := fun x w_ => (rf_u A 4 w_)) (P := fun x w_ => ScP (fun q => nI (cyN n q)) (fun x y => n * x + y) n x 0 w_) (n := n) (fun x w_ hx px ihx => ?_) (fun w_ px => ?_) 0 (A 4) (by omega) (sc_0)
    · show RR _ _ 25 [some (.ref 146), some (.int (nI n)), some (.int (nI 0)), some (.int (nI x)), none, none] [] (upd g 6 (nI n)) (rf_u A 4 w_) _
      refine rr_nx (pc' := 26) (al' := [some (.ref 146), some (.int (nI n)), some (.int (nI 0)), some (.int (nI x)), none, none]) (st' := [.int (nI x)]) d_270_25 (fun _ => rfl) ?_
      refine rr_nx (pc' := 27) (al' := [some (.ref 146), some (.int (nI n)), some (.int (nI 0)), some (.int (nI x)), none, none]) (st' := [.ref 146, .int (nI x)]) d_270_26 (fun _ => rfl) ?_
      refine rr_gf (v := .int (nI n)) d_270_27 mo_270 fl_127 rfl ?_
      refine rn_cge (t := 166) d_270_30 (by decide) (by first | omega | assumption | exact cu_36 (by omega) (cu_lt (by omega) (by omega))) (by first | omega | assumption | exact cu_36 (by omega) (cu_lt (by omega) (by omega))) (fun c30 => ?_) (fun c30 => ?_)
      · omega
      · refine rn_ic (v := 0) d_270_33 (by decide) ?_
        refine rr_nx (pc' := 36) (al' := [some (.ref 146), some (.int (nI n)), some (.int (nI 0)), some (.int (nI x)), some (.int (nI 0)), none]) (st' := []) d_270_34 (fun _ => rfl) ?_
        refine rr_upw (al := fun y w_ => [some (.ref 146), some (.int (nI n)), some (.int (nI 0)), some (.int (nI x)), some (.int (nI y)), none]) (G := fun y w_ => (upd g 6 (nI n))) (B := fun y w_ => (rf_u A 4 w_)) (P := fun y w_ => ScP (fun q => nI (cyN n q)) (fun x y => n * x + y) n x y w_) (n := n) (fun y w_ hy py ihy => ?_) (fun w_ py => ?_) 0 w_ (by omega) (px)
        · show RR _ _ 36 [some (.ref 146), some (.int (nI n)), some (.int (nI 0)), some (.int (nI x)), some (.int (nI y)), none] [] (upd g 6 (nI n)) (rf_u A 4 w_) _
          have hyy : n * x + y < 36 := cu_36 (by omega) (cu_lt hx hy)
          have hm3 := Nat.mod_lt y (show 3 > 0 by decide)
          refine rr_nx (pc' := 38) (al' := [some (.ref 146), some (.int (nI n)), some (.int (nI 0)), some (.int (nI x)), some (.int (nI y)), none]) (st' := [.int (nI y)]) d_270_36 (fun _ => rfl) ?_
          refine rr_nx (pc' := 39) (al' := [some (.ref 146), some (.int (nI n)), some (.int (nI 0)), some (.int (nI x)), some (.int (nI y)), none]) (st' := [.ref 146, .int (nI y)]) d_270_38 (fun _ => rfl) ?_
          refine rr_gf (v := .int (nI n)) d_270_39 mo_270 fl_127 rfl ?_
          refine rn_cge (t := 160) d_270_42 (by decide) (by first | omega | assumption | exact cu_36 (by omega) (cu_lt (by omega) (by omega))) (by first | omega | assumption | exact cu_36 (by omega) (cu_lt (by omega) (by omega))) (fun c42 => ?_) (fun c42 => ?_)
          · omega
          · refine rr_nx (pc' := 46) (al' := [some (.ref 146), some (.int (nI n)), some (.int (nI 0)), some (.int (nI x)), some (.int (nI y)), none]) (st' := [.int (nI x)]) d_270_45 (fun _ => rfl) ?_
            refine rn_ic (v := 3) d_270_46 (by decide) ?_
            refine rn_cge (t := 63) d_270_47 (by decide) (by first | omega | assumption | exact cu_36 (by omega) (cu_lt (by omega) (by omega))) (by first | omega | assumption | exact cu_36 (by omega) (cu_lt (by omega) (by omega))) (fun c47 => ?_) (fun c47 => ?_)
            · refine rr_nx (pc' := 64) (al' := [some (.ref 146), some (.int (nI n)), some (.int (nI 0)), some (.int (nI x)), some (.int (nI y)), none]) (st' := [.int (nI x)]) d_270_63 (fun _ => rfl) ?_
              refine rn_ic (v := 3) d_270_64 (by decide) ?_
              refine rn_rem d_270_65 (by first | omega | assumption | exact cu_36 (by omega) (cu_lt (by omega) (by omega))) (by first | omega | assumption | exact cu_36 (by omega) (cu_lt (by omega) (by omega))) (by first | omega | assumption | exact cu_36 (by omega) (cu_lt (by omega) (by omega))) ?_
              refine rn_ic (v := 3) d_270_66 (by decide) ?_
              refine rn_add d_270_67  ?_
              refine rr_nx (pc' := 70) (al' := [some (.ref 146), some (.int (nI n)), some (.int (nI 0)), some (.int (nI x)), some (.int (nI y)), none]) (st' := [.int (nI y), .int (nI ((x % 3) + 3))]) d_270_68 (fun _ => rfl) ?_
              refine rn_ic (v := 3) d_270_70 (by decide) ?_
              refine rn_rem d_270_71 (by first | omega | assumption | exact cu_36 (by omega) (cu_lt (by omega) (by omega))) (by first | omega | assumption | exact cu_36 (by omega) (cu_lt (by omega) (by omega))) (by first | omega | assumption | exact cu_36 (by omega) (cu_lt (by omega) (by omega))) ?_
              refine rn_sub d_270_72 (by first | omega | assumption | exact cu_36 (by omega) (cu_lt (by omega) (by omega))) ?_
              refine rn_ic (v := 3) d_270_73 (by decide) ?_
              refine rn_rem d_270_74 (by first | omega | assumption | exact cu_36 (by omega) (cu_lt (by omega) (by omega))) (by first | omega | assumption | exact cu_36 (by omega) (cu_lt (by omega) (by omega))) (by first | omega | assumption | exact cu_36 (by omega) (cu_lt (by omega) (by omega))) ?_
              refine rr_nx (pc' := 77) (al' := [some (.ref 146), some (.int (nI n)), some (.int (nI 0)), some (.int (nI x)), some (.int (nI y)), some (.int (nI ((((x % 3) + 3) - (y % 3)) % 3)))]) (st' := []) d_270_75 (fun _ => rfl) ?_
              refine rr_nx (pc' := 78) (al' := [some (.ref 146), some (.int (nI n)), some (.int (nI 0)), some (.int (nI x)), some (.int (nI y)), some (.int (nI ((((x % 3) + 3) - (y % 3)) % 3)))]) (st' := [.ref 146]) d_270_77 (fun _ => rfl) ?_
              refine rr_gf (v := .ref (147 + 4)) d_270_78 mo_270 fl_23 rfl ?_
              refine rr_nx (pc' := 82) (al' := [some (.ref 146), some (.int (nI n)), some (.int (nI 0)), some (.int (nI x)), some (.int (nI y)), some (.int (nI ((((x % 3) + 3) - (y % 3)) % 3)))]) (st' := [.ref 146, .ref (147 + 4)]) d_270_81 (fun _ => rfl) ?_
              refine rr_gf (v := .int (nI n)) d_270_82 mo_270 fl_127 rfl ?_
              refine rr_nx (pc' := 86) (al' := [some (.ref 146), some (.int (nI n)), some (.int (nI 0)), some (.int (nI x)), some (.int (nI y)), some (.int (nI ((((x % 3) + 3) - (y % 3)) % 3)))]) (st' := [.int (nI x), .int (nI n), .ref (147 + 4)]) d_270_85 (fun _ => rfl) ?_
              refine rn_mul d_270_86  ?_
              refine rr_nx (pc' := 89) (al' := [some (.ref 146), some (.int (nI n)), some (.int (nI 0)), some (.int (nI x)), some (.int (nI y)), some (.int (nI ((((x % 3) + 3) - (y % 3)) % 3)))]) (st' := [.int (nI y), .int (nI (n * x)), .ref (147 + 4)]) d_270_87 (fun _ => rfl) ?_
              refine rn_add d_270_89  ?_
              refine rr_nx (pc' := 91) (al' := [some (.ref 146), some (.int (nI n)), some (.int (nI 0)), some (.int (nI x)), some (.int (nI y)), some (.int (nI ((((x % 3) + 3) - (y % 3)) % 3)))]) (st' := [.int (nI 0), .int (nI ((n * x) + y)), .ref (147 + 4)]) d_270_90 (fun _ => rfl) ?_
              refine rn_ine (t := 106) d_270_91 (by decide) (by first | omega | assumption | exact cu_36 (by omega) (cu_lt (by omega) (by omega))) (fun c91 => ?_) (fun c91 => ?_)
              · omega
              · refine rr_nx (pc' := 95) (al' := [some (.ref 146), some (.int (nI n)), some (.int (nI 0)), some (.int (nI x)), some (.int (nI y)), some (.int (nI ((((x % 3) + 3) - (y % 3)) % 3)))]) (st' := [.int (nI x), .int (nI ((n * x) + y)), .ref (147 + 4)]) d_270_94 (fun _ => rfl) ?_
                refine rr_nx (pc' := 97) (al' := [some (.ref 146), some (.int (nI n)), some (.int (nI 0)), some (.int (nI x)), some (.int (nI y)), some (.int (nI ((((x % 3) + 3) - (y % 3)) % 3)))]) (st' := [.int (nI y), .int (nI x), .int (nI ((n * x) + y)), .ref (147 + 4)]) d_270_95 (fun _ => rfl) ?_
                refine rn_add d_270_97  ?_
                refine rr_nx (pc' := 99) (al' := [some (.ref 146), some (.int (nI n)), some (.int (nI 0)), some (.int (nI x)), some (.int (nI y)), some (.int (nI ((((x % 3) + 3) - (y % 3)) % 3)))]) (st' := [.ref 146, .int (nI (x + y)), .int (nI ((n * x) + y)), .ref (147 + 4)]) d_270_98 (fun _ => rfl) ?_
                refine rr_gf (v := .int (nI n)) d_270_99 mo_270 fl_127 rfl ?_
                refine rn_rem d_270_102 (by first | omega | assumption | exact cu_36 (by omega) (cu_lt (by omega) (by omega))) (by first | omega | assumption | exact cu_36 (by omega) (cu_lt (by omega) (by omega))) (by first | omega | assumption | exact cu_36 (by omega) (cu_lt (by omega) (by omega))) ?_
                refine rr_nx (pc' := 153) (al' := [some (.ref 146), some (.int (nI n)), some (.int (nI 0)), some (.int (nI x)), some (.int (nI y)), some (.int (nI ((((x % 3) + 3) - (y % 3)) % 3)))]) (st' := [.int (nI ((x + y) % n)), .int (nI ((n * x) + y)), .ref (147 + 4)]) d_270_103 (fun _ => rfl) ?_
                refine rr_iS (j := 4) (A1 := (rf_u A 4 (upd w_ ((n * x) + y) (nI ((x + y) % n))))) d_270_153 (by decide) rfl (by decide) (show (n * x) + y < 36 by first | omega | assumption | exact cu_36 (by omega) (cu_lt (by omega) (by omega))) rf_uw ?_
                refine rn_inc d_270_154 rfl rfl ?_
                show RR _ _ 157 [some (.ref 146), some (.int (nI n)), some (.int (nI 0)), some (.int (nI x)), some (.int (nI (y + 1))), some (.int (nI ((((x % 3) + 3) - (y % 3)) % 3)))] [] (upd g 6 (nI n)) (rf_u A 4 (upd w_ ((n * x) + y) (nI ((x + y) % n)))) _
                refine rr_nx (pc' := 36) (al' := [some (.ref 146), some (.int (nI n)), some (.int (nI 0)), some (.int (nI x)), some (.int (nI (y + 1))), some (.int (nI ((((x % 3) + 3) - (y % 3)) % 3)))]) (st' := []) d_270_157 (fun _ => rfl) ?_
                refine rr_dr (al1 := [some (.ref 146), some (.int (nI n)), some (.int (nI 0)), some (.int (nI x)), some (.int (nI (y + 1))), none]) (le_s (le_s (le_s (le_s (le_s (le_d rfl (le_n))))))) ?_
                exact ihy (upd w_ ((n * x) + y) (nI ((x + y) % n))) (sc_in py rfl (by show _ = nI (cyN n (n * x + y)); unfold cyN; rw [dm_d hy, dm_m hy]))
            · refine rr_nx (pc' := 51) (al' := [some (.ref 146), some (.int (nI n)), some (.int (nI 0)), some (.int (nI x)), some (.int (nI y)), none]) (st' := [.int (nI x)]) d_270_50 (fun _ => rfl) ?_
              refine rn_ic (v := 3) d_270_51 (by decide) ?_
              refine rn_rem d_270_52 (by first | omega | assumption | exact cu_36 (by omega) (cu_lt (by omega) (by omega))) (by first | omega | assumption | exact cu_36 (by omega) (cu_lt (by omega) (by omega))) (by first | omega | assumption | exact cu_36 (by omega) (cu_lt (by omega) (by omega))) ?_
              refine rr_nx (pc' := 55) (al' := [some (.ref 146), some (.int (nI n)), some (.int (nI 0)), some (.int (nI x)), some (.int (nI y)), none]) (st' := [.int (nI y), .int (nI (x % 3))]) d_270_53 (fun _ => rfl) ?_
              refine rn_ic (v := 3) d_270_55 (by decide) ?_
              refine rn_rem d_270_56 (by first | omega | assumption | exact cu_36 (by omega) (cu_lt (by omega) (by omega))) (by first | omega | assumption | exact cu_36 (by omega) (cu_lt (by omega) (by omega))) (by first | omega | assumption | exact cu_36 (by omega) (cu_lt (by omega) (by omega))) ?_
              refine rn_add d_270_57  ?_
              refine rn_ic (v := 3) d_270_58 (by decide) ?_
              refine rn_rem d_270_59 (by first | omega | assumption | exact cu_36 (by omega) (cu_lt (by omega) (by omega))) (by first | omega | assumption | exact cu_36 (by omega) (cu_lt (by omega) (by omega))) (by first | omega | assumption | exact cu_36 (by omega) (cu_lt (by omega) (by omega))) ?_
              refine rr_nx (pc' := 75) (al' := [some (.ref 146), some (.int (nI n)), some (.int (nI 0)), some (.int (nI x)), some (.int (nI y)), none]) (st' := [.int (nI (((x % 3) + (y % 3)) % 3))]) d_270_60 (fun _ => rfl) ?_
              refine rr_nx (pc' := 77) (al' := [some (.ref 146), some (.int (nI n)), some (.int (nI 0)), some (.int (nI x)), some (.int (nI y)), some (.int (nI (((x % 3) + (y % 3)) % 3)))]) (st' := []) d_270_75 (fun _ => rfl) ?_
              refine rr_nx (pc' := 78) (al' := [some (.ref 146), some (.int (nI n)), some (.int (nI 0)), some (.int (nI x)), some (.int (nI y)), some (.int (nI (((x % 3) + (y % 3)) % 3)))]) (st' := [.ref 146]) d_270_77 (fun _ => rfl) ?_
              refine rr_gf (v := .ref (147 + 4)) d_270_78 mo_270 fl_23 rfl ?_
              refine rr_nx (pc' := 82) (al' := [some (.ref 146), some (.int (nI n)), some (.int (nI 0)), some (.int (nI x)), some (.int (nI y)), some (.int (nI (((x % 3) + (y % 3)) % 3)))]) (st' := [.ref 146, .ref (147 + 4)]) d_270_81 (fun _ => rfl) ?_
              refine rr_gf (v := .int (nI n)) d_270_82 mo_270 fl_127 rfl ?_
              refine rr_nx (pc' := 86) (al' := [some (.ref 146), some (.int (nI n)), some (.int (nI 0)), some (.int (nI x)), some (.int (nI y)), some (.int (nI (((x % 3) + (y % 3)) % 3)))]) (st' := [.int (nI x), .int (nI n), .ref (147 + 4)]) d_270_85 (fun _ => rfl) ?_
              refine rn_mul d_270_86  ?_
              refine rr_nx (pc' := 89) (al' := [some (.ref 146), some (.int (nI n)), some (.int (nI 0)), some (.int (nI x)), some (.int (nI y)), some (.int (nI (((x % 3) + (y % 3)) % 3)))]) (st' := [.int (nI y), .int (nI (n * x)), .ref (147 + 4)]) d_270_87 (fun _ => rfl) ?_
              refine rn_add d_270_89  ?_
              refine rr_nx (pc' := 91) (al' := [some (.ref 146), some (.int (nI n)), some (.int (nI 0)), some (.int (nI x)), some (.int (nI y)), some (.int (nI (((x % 3) + (y % 3)) % 3)))]) (st' := [.int (nI 0), .int (nI ((n * x) + y)), .ref (147 + 4)]) d_270_90 (fun _ => rfl) ?_
              refine rn_ine (t := 106) d_270_91 (by decide) (by first | omega | assumption | exact cu_36 (by omega) (cu_lt (by omega) (by omega))) (fun c91 => ?_) (fun c91 => ?_)
              · omega
              · refine rr_nx (pc' := 95) (al' := [some (.ref 146), some (.int (nI n)), some (.int (nI 0)), some (.int (nI x)), some (.int (nI y)), some (.int (nI (((x % 3) + (y % 3)) % 3)))]) (st' := [.int (nI x), .int (nI ((n * x) + y)), .ref (147 + 4)]) d_270_94 (fun _ => rfl) ?_
                refine rr_nx (pc' := 97) (al' := [some (.ref 146), some (.int (nI n)), some (.int (nI 0)), some (.int (nI x)), some (.int (nI y)), some (.int (nI (((x % 3) + (y % 3)) % 3)))]) (st' := [.int (nI y), .int (nI x), .int (nI ((n * x) + y)), .ref (147 + 4)]) d_270_95 (fun _ => rfl) ?_
                refine rn_add d_270_97  ?_
                refine rr_nx (pc' := 99) (al' := [some (.ref 146), some (.int (nI n)), some (.int (nI 0)), some (.int (nI x)), some (.int (nI y)), some (.int (nI (((x % 3) + (y % 3)) % 3)))]) (st' := [.ref 146, .int (nI (x + y)), .int (nI ((n * x) + y)), .ref (147 + 4)]) d_270_98 (fun _ => rfl) ?_
                refine rr_gf (v := .int (nI n)) d_270_99 mo_270 fl_127 rfl ?_
                refine rn_rem d_270_102 (by first | omega | assumption | exact cu_36 (by omega) (cu_lt (by omega) (by omega))) (by first | omega | assumption | exact cu_36 (by omega) (cu_lt (by omega) (by omega))) (by first | omega | assumption | exact cu_36 (by omega) (cu_lt (by omega) (by omega))) ?_
                refine rr_nx (pc' := 153) (al' := [some (.ref 146), some (.int (nI n)), some (.int (nI 0)), some (.int (nI x)), some (.int (nI y)), some (.int (nI (((x % 3) + (y % 3)) % 3)))]) (st' := [.int (nI ((x + y) % n)), .int (nI ((n * x) + y)), .ref (147 + 4)]) d_270_103 (fun _ => rfl) ?_
                refine rr_iS (j := 4) (A1 := (rf_u A 4 (upd w_ ((n * x) + y) (nI ((x + y) % n))))) d_270_153 (by decide) rfl (by decide) (show (n * x) + y < 36 by first | omega | assumption | exact cu_36 (by omega) (cu_lt (by omega) (by omega))) rf_uw ?_
                refine rn_inc d_270_154 rfl rfl ?_
                show RR _ _ 157 [some (.ref 146), some (.int (nI n)), some (.int (nI 0)), some (.int (nI x)), some (.int (nI (y + 1))), some (.int (nI (((x % 3) + (y % 3)) % 3)))] [] (upd g 6 (nI n)) (rf_u A 4 (upd w_ ((n * x) + y) (nI ((x + y) % n)))) _
                refine rr_nx (pc' := 36) (al' := [some (.ref 146), some (.int (nI n)), some (.int (nI 0)), some (.int (nI x)), some (.int (nI (y + 1))), some (.int (nI (((x % 3) + (y % 3)) % 3)))]) (st' := []) d_270_157 (fun _ => rfl) ?_
                refine rr_dr (al1 := [some (.ref 146), some (.int (nI n)), some (.int (nI 0)), some (.int (nI x)), some (.int (nI (y + 1))), none]) (le_s (le_s (le_s (le_s (le_s (le_d rfl (le_n))))))) ?_
                exact ihy (upd w_ ((n * x) + y) (nI ((x + y) % n))) (sc_in py rfl (by show _ = nI (cyN n (n * x + y)); unfold cyN; rw [dm_d hy, dm_m hy]))
        · show RR _ _ 36 [some (.ref 146), some (.int (nI n)), some (.int (nI 0)), some (.int (nI x)), some (.int (nI n)), none] [] (upd g 6 (nI n)) (rf_u A 4 w_) _
          refine rr_nx (pc' := 38) (al' := [some (.ref 146), some (.int (nI n)), some (.int (nI 0)), some (.int (nI x)), some (.int (nI n)), none]) (st' := [.int (nI n)]) d_270_36 (fun _ => rfl) ?_
          refine rr_nx (pc' := 39) (al' := [some (.ref 146), some (.int (nI n)), some (.int (nI 0)), some (.int (nI x)), some (.int (nI n)), none]) (st' := [.ref 146, .int (nI n)]) d_270_38 (fun _ => rfl) ?_
          refine rr_gf (v := .int (nI n)) d_270_39 mo_270 fl_127 rfl ?_
          refine rn_cge (t := 160) d_270_42 (by decide) (by first | omega | assumption | exact cu_36 (by omega) (cu_lt (by omega) (by omega))) (by first | omega | assumption | exact cu_36 (by omega) (cu_lt (by omega) (by omega))) (fun c42 => ?_) (fun c42 => ?_)
          · refine rn_inc d_270_160 rfl rfl ?_
            show RR _ _ 163 [some (.ref 146), some (.int (nI n)), some (.int (nI 0)), some (.int (nI (x + 1))), some (.int (nI n)), none] [] (upd g 6 (nI n)) (rf_u A 4 w_) _
            refine rr_nx (pc' := 25) (al' := [some (.ref 146), some (.int (nI n)), some (.int (nI 0)), some (.int (nI (x + 1))), some (.int (nI n)), none]) (st' := []) d_270_163 (fun _ => rfl) ?_
            refine rr_dr (al1 := [some (.ref 146), some (.int (nI n)), some (.int (nI 0)), some (.int (nI (x + 1))), none, none]) (le_s (le_s (le_s (le_s (le_d rfl (le_s (le_n))))))) ?_
            exact ihx w_ (sc_out py)
          · omega
    · show RR _ _ 25 [some (.ref 146), some (.int (nI n)), some (.int (nI 0)), some (.int (nI n)), none, none] [] (upd g 6 (nI n)) (rf_u A 4 w_) _
      refine rr_nx (pc' := 26) (al' := [some (.ref 146), some (.int (nI n)), some (.int (nI 0)), some (.int (nI n)), none, none]) (st' := [.int (nI n)]) d_270_25 (fun _ => rfl) ?_
      refine rr_nx (pc' := 27) (al' := [some (.ref 146), some (.int (nI n)), some (.int (nI 0)), some (.int (nI n)), none, none]) (st' := [.ref 146, .int (nI n)]) d_270_26 (fun _ => rfl) ?_
      refine rr_gf (v := .int (nI n)) d_270_27 mo_270 fl_127 rfl ?_
      refine rn_cge (t := 166) d_270_30 (by decide) (by first | omega | assumption | exact cu_36 (by omega) (cu_lt (by omega) (by omega))) (by first | omega | assumption | exact cu_36 (by omega) (cu_lt (by omega) (by omega))) (fun c30 => ?_) (fun c30 => ?_)
      · refine rn_ic (v := 1) d_270_166 (by decide) ?_
        exact rr_ri d_270_167 mr_270 (by decide) ⟨rfl, rfl, w_, rfl, sc_all px sc_rm⟩
      · omega
  · omega
theorem s_isGroup4 {g : Nat → Int32} {A : Nat → Nat → Int32}  : RR 0 270 0 [some (.ref 146), some (.int (nI 4)), some (.int (nI 1)), none, none, none] [] g A (fun r g' A' => r = some (.int (nI 1)) ∧ g' = upd g 6 (nI 4) ∧ ∃ w, A' = rf_u A 4 w ∧ ∀ q, q < 4 * 4 → w q = nI (ogN 4 q)) := by
  refine rr_nx (pc' := 1) (al' := [some (.ref 146), some (.int (nI 4)), some (.int (nI 1)), none, none, none]) (st' := [.int (nI 1)]) d_270_0 (fun _ => rfl) ?_
  refine rn_ic (v := 1) d_270_1 (by decide) ?_
  refine rn_cne (t := 18) d_270_2 (by decide) (by first | omega | assumption | exact cu_36 (by omega) (cu_lt (by omega) (by omega))) (by first | omega | assumption | exact cu_36 (by omega) (cu_lt (by omega) (by omega))) (fun c2 => ?_) (fun c2 => ?_)
  · omega
  · refine rr_nx (pc' := 6) (al' := [some (.ref 146), some (.int (nI 4)), some (.int (nI 1)), none, none, none]) (st' := [.int (nI 4)]) d_270_5 (fun _ => rfl) ?_
    refine rn_ic (v := 4) d_270_6 (by decide) ?_
    refine rn_ceq (t := 18) d_270_7 (by decide) (by first | omega | assumption | exact cu_36 (by omega) (cu_lt (by omega) (by omega))) (by first | omega | assumption | exact cu_36 (by omega) (cu_lt (by omega) (by omega))) (fun c7 => ?_) (fun c7 => ?_)
    · refine rr_nx (pc' := 19) (al' := [some (.ref 146), some (.int (nI 4)), some (.int (nI 1)), none, none, none]) (st' := [.ref 146]) d_270_18 (fun _ => rfl) ?_
      refine rr_nx (pc' := 20) (al' := [some (.ref 146), some (.int (nI 4)), some (.int (nI 1)), none, none, none]) (st' := [.int (nI 4), .ref 146]) d_270_19 (fun _ => rfl) ?_
      refine rp_6 d_270_20 mo_270 fl_127  ?_
      refine rn_ic (v := 0) d_270_23 (by decide) ?_
      refine rr_nx (pc' := 25) (al' := [some (.ref 146), some (.int (nI 4)), some (.int (nI 1)), some (.int (nI 0)), none, none]) (st' := []) d_270_24 (fun _ => rfl) ?_
      refine rr_A (show A = (rf_u A 4 (A 4)) by rw [rf_u_id]) ?_
      refine rr_upw (al := fun x w_ => [some (.ref 146), some (.int (nI 4)), some (.int (nI 1)), some (.int (nI x)), none, none]) (G := fun x w_ => (upd g 6 (nI 4))) (B := fun x w_ => (rf_u A 4 w_)) (P := fun x w_ => ScP (fun q => nI (ogN 4 q)) (fun x y => 4 * x + y) 4 x 0 w_) (n := 4) (fun x w_ hx px ihx => ?_) (fun w_ px => ?_) 0 (A 4) (by omega) (sc_0)
      · show RR _ _ 25 [some (.ref 146), some (.int (nI 4)), some (.int (nI 1)), some (.int (nI x)), none, none] [] (upd g 6 (nI 4)) (rf_u A 4 w_) _
        refine rr_nx (pc' := 26) (al' := [some (.ref 146), some (.int (nI 4)), some (.int (nI 1)), some (.int (nI x)), none, none]) (st' := [.int (nI x)]) d_270_25 (fun _ => rfl) ?_
        refine rr_nx (pc' := 27) (al' := [some (.ref 146), some (.int (nI 4)), some (.int (nI 1)), some (.int (nI x)), none, none]) (st' := [.ref 146, .int (nI x)]) d_270_26 (fun _ => rfl) ?_
        refine rr_gf (v := .int (nI 4)) d_270_27 mo_270 fl_127 rfl ?_
        refine rn_cge (t := 166) d_270_30 (by decide) (by first | omega | assumption | exact cu_36 (by omega) (cu_lt (by omega) (by omega))) (by first | omega | assumption | exact cu_36 (by omega) (cu_lt (by omega) (by omega))) (fun c30 => ?_) (fun c30 => ?_)
        · omega
        · refine rn_ic (v := 0) d_270_33 (by decide) ?_
          refine rr_nx (pc' := 36) (al' := [some (.ref 146), some (.int (nI 4)), some (.int (nI 1)), some (.int (nI x)), some (.int (nI 0)), none]) (st' := []) d_270_34 (fun _ => rfl) ?_
          refine rr_upw (al := fun y w_ => [some (.ref 146), some (.int (nI 4)), some (.int (nI 1)), some (.int (nI x)), some (.int (nI y)), none]) (G := fun y w_ => (upd g 6 (nI 4))) (B := fun y w_ => (rf_u A 4 w_)) (P := fun y w_ => ScP (fun q => nI (ogN 4 q)) (fun x y => 4 * x + y) 4 x y w_) (n := 4) (fun y w_ hy py ihy => ?_) (fun w_ py => ?_) 0 w_ (by omega) (px)
          · show RR _ _ 36 [some (.ref 146), some (.int (nI 4)), some (.int (nI 1)), some (.int (nI x)), some (.int (nI y)), none] [] (upd g 6 (nI 4)) (rf_u A 4 w_) _
            have hyy : 4 * x + y < 36 := cu_36 (by omega) (cu_lt hx hy)
            have hm3 := Nat.mod_lt y (show 3 > 0 by decide)
            refine rr_nx (pc' := 38) (al' := [some (.ref 146), some (.int (nI 4)), some (.int (nI 1)), some (.int (nI x)), some (.int (nI y)), none]) (st' := [.int (nI y)]) d_270_36 (fun _ => rfl) ?_
            refine rr_nx (pc' := 39) (al' := [some (.ref 146), some (.int (nI 4)), some (.int (nI 1)), some (.int (nI x)), some (.int (nI y)), none]) (st' := [.ref 146, .int (nI y)]) d_270_38 (fun _ => rfl) ?_
            refine rr_gf (v := .int (nI 4)) d_270_39 mo_270 fl_127 rfl ?_
            refine rn_cge (t := 160) d_270_42 (by decide) (by first | omega | assumption | exact cu_36 (by omega) (cu_lt (by omega) (by omega))) (by first | omega | assumption | exact cu_36 (by omega) (cu_lt (by omega) (by omega))) (fun c42 => ?_) (fun c42 => ?_)
            · omega
            · refine rr_nx (pc' := 46) (al' := [some (.ref 146), some (.int (nI 4)), some (.int (nI 1)), some (.int (nI x)), some (.int (nI y)), none]) (st' := [.int (nI x)]) d_270_45 (fun _ => rfl) ?_
              refine rn_ic (v := 3) d_270_46 (by decide) ?_
              refine rn_cge (t := 63) d_270_47 (by decide) (by first | omega | assumption | exact cu_36 (by omega) (cu_lt (by omega) (by omega))) (by first | omega | assumption | exact cu_36 (by omega) (cu_lt (by omega) (by omega))) (fun c47 => ?_) (fun c47 => ?_)
              · refine rr_nx (pc' := 64) (al' := [some (.ref 146), some (.int (nI 4)), some (.int (nI 1)), some (.int (nI x)), some (.int (nI y)), none]) (st' := [.int (nI x)]) d_270_63 (fun _ => rfl) ?_
                refine rn_ic (v := 3) d_270_64 (by decide) ?_
                refine rn_rem d_270_65 (by first | omega | assumption | exact cu_36 (by omega) (cu_lt (by omega) (by omega))) (by first | omega | assumption | exact cu_36 (by omega) (cu_lt (by omega) (by omega))) (by first | omega | assumption | exact cu_36 (by omega) (cu_lt (by omega) (by omega))) ?_
                refine rn_ic (v := 3) d_270_66 (by decide) ?_
                refine rn_add d_270_67  ?_
                refine rr_nx (pc' := 70) (al' := [some (.ref 146), some (.int (nI 4)), some (.int (nI 1)), some (.int (nI x)), some (.int (nI y)), none]) (st' := [.int (nI y), .int (nI ((x % 3) + 3))]) d_270_68 (fun _ => rfl) ?_
                refine rn_ic (v := 3) d_270_70 (by decide) ?_
                refine rn_rem d_270_71 (by first | omega | assumption | exact cu_36 (by omega) (cu_lt (by omega) (by omega))) (by first | omega | assumption | exact cu_36 (by omega) (cu_lt (by omega) (by omega))) (by first | omega | assumption | exact cu_36 (by omega) (cu_lt (by omega) (by omega))) ?_
                refine rn_sub d_270_72 (by first | omega | assumption | exact cu_36 (by omega) (cu_lt (by omega) (by omega))) ?_
                refine rn_ic (v := 3) d_270_73 (by decide) ?_
                refine rn_rem d_270_74 (by first | omega | assumption | exact cu_36 (by omega) (cu_lt (by omega) (by omega))) (by first | omega | assumption | exact cu_36 (by omega) (cu_lt (by omega) (by omega))) (by first | omega | assumption | exact cu_36 (by omega) (cu_lt (by omega) (by omega))) ?_
                refine rr_nx (pc' := 77) (al' := [some (.ref 146), some (.int (nI 4)), some (.int (nI 1)), some (.int (nI x)), some (.int (nI y)), some (.int (nI ((((x % 3) + 3) - (y % 3)) % 3)))]) (st' := []) d_270_75 (fun _ => rfl) ?_
                refine rr_nx (pc' := 78) (al' := [some (.ref 146), some (.int (nI 4)), some (.int (nI 1)), some (.int (nI x)), some (.int (nI y)), some (.int (nI ((((x % 3) + 3) - (y % 3)) % 3)))]) (st' := [.ref 146]) d_270_77 (fun _ => rfl) ?_
                refine rr_gf (v := .ref (147 + 4)) d_270_78 mo_270 fl_23 rfl ?_
                refine rr_nx (pc' := 82) (al' := [some (.ref 146), some (.int (nI 4)), some (.int (nI 1)), some (.int (nI x)), some (.int (nI y)), some (.int (nI ((((x % 3) + 3) - (y % 3)) % 3)))]) (st' := [.ref 146, .ref (147 + 4)]) d_270_81 (fun _ => rfl) ?_
                refine rr_gf (v := .int (nI 4)) d_270_82 mo_270 fl_127 rfl ?_
                refine rr_nx (pc' := 86) (al' := [some (.ref 146), some (.int (nI 4)), some (.int (nI 1)), some (.int (nI x)), some (.int (nI y)), some (.int (nI ((((x % 3) + 3) - (y % 3)) % 3)))]) (st' := [.int (nI x), .int (nI 4), .ref (147 + 4)]) d_270_85 (fun _ => rfl) ?_
                refine rn_mul d_270_86  ?_
                refine rr_nx (pc' := 89) (al' := [some (.ref 146), some (.int (nI 4)), some (.int (nI 1)), some (.int (nI x)), some (.int (nI y)), some (.int (nI ((((x % 3) + 3) - (y % 3)) % 3)))]) (st' := [.int (nI y), .int (nI (4 * x)), .ref (147 + 4)]) d_270_87 (fun _ => rfl) ?_
                refine rn_add d_270_89  ?_
                refine rr_nx (pc' := 91) (al' := [some (.ref 146), some (.int (nI 4)), some (.int (nI 1)), some (.int (nI x)), some (.int (nI y)), some (.int (nI ((((x % 3) + 3) - (y % 3)) % 3)))]) (st' := [.int (nI 1), .int (nI ((4 * x) + y)), .ref (147 + 4)]) d_270_90 (fun _ => rfl) ?_
                refine rn_ine (t := 106) d_270_91 (by decide) (by first | omega | assumption | exact cu_36 (by omega) (cu_lt (by omega) (by omega))) (fun c91 => ?_) (fun c91 => ?_)
                · refine rr_nx (pc' := 107) (al' := [some (.ref 146), some (.int (nI 4)), some (.int (nI 1)), some (.int (nI x)), some (.int (nI y)), some (.int (nI ((((x % 3) + 3) - (y % 3)) % 3)))]) (st' := [.ref 146, .int (nI ((4 * x) + y)), .ref (147 + 4)]) d_270_106 (fun _ => rfl) ?_
                  refine rr_gf (v := .int (nI 4)) d_270_107 mo_270 fl_127 rfl ?_
                  refine rn_ic (v := 4) d_270_110 (by decide) ?_
                  refine rn_cne (t := 121) d_270_111 (by decide) (by first | omega | assumption | exact cu_36 (by omega) (cu_lt (by omega) (by omega))) (by first | omega | assumption | exact cu_36 (by omega) (cu_lt (by omega) (by omega))) (fun c111 => ?_) (fun c111 => ?_)
                  · omega
                  · refine rr_nx (pc' := 115) (al' := [some (.ref 146), some (.int (nI 4)), some (.int (nI 1)), some (.int (nI x)), some (.int (nI y)), some (.int (nI ((((x % 3) + 3) - (y % 3)) % 3)))]) (st' := [.int (nI x), .int (nI ((4 * x) + y)), .ref (147 + 4)]) d_270_114 (fun _ => rfl) ?_
                    refine rr_nx (pc' := 117) (al' := [some (.ref 146), some (.int (nI 4)), some (.int (nI 1)), some (.int (nI x)), some (.int (nI y)), some (.int (nI ((((x % 3) + 3) - (y % 3)) % 3)))]) (st' := [.int (nI y), .int (nI x), .int (nI ((4 * x) + y)), .ref (147 + 4)]) d_270_115 (fun _ => rfl) ?_
                    refine rn_xor d_270_117 ?_
                    refine rr_nx (pc' := 153) (al' := [some (.ref 146), some (.int (nI 4)), some (.int (nI 1)), some (.int (nI x)), some (.int (nI y)), some (.int (nI ((((x % 3) + 3) - (y % 3)) % 3)))]) (st' := [.int (nI (x ^^^ y)), .int (nI ((4 * x) + y)), .ref (147 + 4)]) d_270_118 (fun _ => rfl) ?_
                    refine rr_iS (j := 4) (A1 := (rf_u A 4 (upd w_ ((4 * x) + y) (nI (x ^^^ y))))) d_270_153 (by decide) rfl (by decide) (show (4 * x) + y < 36 by first | omega | assumption | exact cu_36 (by omega) (cu_lt (by omega) (by omega))) rf_uw ?_
                    refine rn_inc d_270_154 rfl rfl ?_
                    show RR _ _ 157 [some (.ref 146), some (.int (nI 4)), some (.int (nI 1)), some (.int (nI x)), some (.int (nI (y + 1))), some (.int (nI ((((x % 3) + 3) - (y % 3)) % 3)))] [] (upd g 6 (nI 4)) (rf_u A 4 (upd w_ ((4 * x) + y) (nI (x ^^^ y)))) _
                    refine rr_nx (pc' := 36) (al' := [some (.ref 146), some (.int (nI 4)), some (.int (nI 1)), some (.int (nI x)), some (.int (nI (y + 1))), some (.int (nI ((((x % 3) + 3) - (y % 3)) % 3)))]) (st' := []) d_270_157 (fun _ => rfl) ?_
                    refine rr_dr (al1 := [some (.ref 146), some (.int (nI 4)), some (.int (nI 1)), some (.int (nI x)), some (.int (nI (y + 1))), none]) (le_s (le_s (le_s (le_s (le_s (le_d rfl (le_n))))))) ?_
                    exact ihy (upd w_ ((4 * x) + y) (nI (x ^^^ y))) (sc_in py rfl (congrArg nI (og4_x x hx y hy)))
                · omega
              · refine rr_nx (pc' := 51) (al' := [some (.ref 146), some (.int (nI 4)), some (.int (nI 1)), some (.int (nI x)), some (.int (nI y)), none]) (st' := [.int (nI x)]) d_270_50 (fun _ => rfl) ?_
                refine rn_ic (v := 3) d_270_51 (by decide) ?_
                refine rn_rem d_270_52 (by first | omega | assumption | exact cu_36 (by omega) (cu_lt (by omega) (by omega))) (by first | omega | assumption | exact cu_36 (by omega) (cu_lt (by omega) (by omega))) (by first | omega | assumption | exact cu_36 (by omega) (cu_lt (by omega) (by omega))) ?_
                refine rr_nx (pc' := 55) (al' := [some (.ref 146), some (.int (nI 4)), some (.int (nI 1)), some (.int (nI x)), some (.int (nI y)), none]) (st' := [.int (nI y), .int (nI (x % 3))]) d_270_53 (fun _ => rfl) ?_
                refine rn_ic (v := 3) d_270_55 (by decide) ?_
                refine rn_rem d_270_56 (by first | omega | assumption | exact cu_36 (by omega) (cu_lt (by omega) (by omega))) (by first | omega | assumption | exact cu_36 (by omega) (cu_lt (by omega) (by omega))) (by first | omega | assumption | exact cu_36 (by omega) (cu_lt (by omega) (by omega))) ?_
                refine rn_add d_270_57  ?_
                refine rn_ic (v := 3) d_270_58 (by decide) ?_
                refine rn_rem d_270_59 (by first | omega | assumption | exact cu_36 (by omega) (cu_lt (by omega) (by omega))) (by first | omega | assumption | exact cu_36 (by omega) (cu_lt (by omega) (by omega))) (by first | omega | assumption | exact cu_36 (by omega) (cu_lt (by omega) (by omega))) ?_
                refine rr_nx (pc' := 75) (al' := [some (.ref 146), some (.int (nI 4)), some (.int (nI 1)), some (.int (nI x)), some (.int (nI y)), none]) (st' := [.int (nI (((x % 3) + (y % 3)) % 3))]) d_270_60 (fun _ => rfl) ?_
                refine rr_nx (pc' := 77) (al' := [some (.ref 146), some (.int (nI 4)), some (.int (nI 1)), some (.int (nI x)), some (.int (nI y)), some (.int (nI (((x % 3) + (y % 3)) % 3)))]) (st' := []) d_270_75 (fun _ => rfl) ?_
                refine rr_nx (pc' := 78) (al' := [some (.ref 146), some (.int (nI 4)), some (.int (nI 1)), some (.int (nI x)), some (.int (nI y)), some (.int (nI (((x % 3) + (y % 3)) % 3)))]) (st' := [.ref 146]) d_270_77 (fun _ => rfl) ?_
                refine rr_gf (v := .ref (147 + 4)) d_270_78 mo_270 fl_23 rfl ?_
                refine rr_nx (pc' := 82) (al' := [some (.ref 146), some (.int (nI 4)), some (.int (nI 1)), some (.int (nI x)), some (.int (nI y)), some (.int (nI (((x % 3) + (y % 3)) % 3)))]) (st' := [.ref 146, .ref (147 + 4)]) d_270_81 (fun _ => rfl) ?_
                refine rr_gf (v := .int (nI 4)) d_270_82 mo_270 fl_127 rfl ?_
                refine rr_nx (pc' := 86) (al' := [some (.ref 146), some (.int (nI 4)), some (.int (nI 1)), some (.int (nI x)), some (.int (nI y)), some (.int (nI (((x % 3) + (y % 3)) % 3)))]) (st' := [.int (nI x), .int (nI 4), .ref (147 + 4)]) d_270_85 (fun _ => rfl) ?_
                refine rn_mul d_270_86  ?_
                refine rr_nx (pc' := 89) (al' := [some (.ref 146), some (.int (nI 4)), some (.int (nI 1)), some (.int (nI x)), some (.int (nI y)), some (.int (nI (((x % 3) + (y % 3)) % 3)))]) (st' := [.int (nI y), .int (nI (4 * x)), .ref (147 + 4)]) d_270_87 (fun _ => rfl) ?_
                refine rn_add d_270_89  ?_
                refine rr_nx (pc' := 91) (al' := [some (.ref 146), some (.int (nI 4)), some (.int (nI 1)), some (.int (nI x)), some (.int (nI y)), some (.int (nI (((x % 3) + (y % 3)) % 3)))]) (st' := [.int (nI 1), .int (nI ((4 * x) + y)), .ref (147 + 4)]) d_270_90 (fun _ => rfl) ?_
                refine rn_ine (t := 106) d_270_91 (by decide) (by first | omega | assumption | exact cu_36 (by omega) (cu_lt (by omega) (by omega))) (fun c91 => ?_) (fun c91 => ?_)
                · refine rr_nx (pc' := 107) (al' := [some (.ref 146), some (.int (nI 4)), some (.int (nI 1)), some (.int (nI x)), some (.int (nI y)), some (.int (nI (((x % 3) + (y % 3)) % 3)))]) (st' := [.ref 146, .int (nI ((4 * x) + y)), .ref (147 + 4)]) d_270_106 (fun _ => rfl) ?_
                  refine rr_gf (v := .int (nI 4)) d_270_107 mo_270 fl_127 rfl ?_
                  refine rn_ic (v := 4) d_270_110 (by decide) ?_
                  refine rn_cne (t := 121) d_270_111 (by decide) (by first | omega | assumption | exact cu_36 (by omega) (cu_lt (by omega) (by omega))) (by first | omega | assumption | exact cu_36 (by omega) (cu_lt (by omega) (by omega))) (fun c111 => ?_) (fun c111 => ?_)
                  · omega
                  · refine rr_nx (pc' := 115) (al' := [some (.ref 146), some (.int (nI 4)), some (.int (nI 1)), some (.int (nI x)), some (.int (nI y)), some (.int (nI (((x % 3) + (y % 3)) % 3)))]) (st' := [.int (nI x), .int (nI ((4 * x) + y)), .ref (147 + 4)]) d_270_114 (fun _ => rfl) ?_
                    refine rr_nx (pc' := 117) (al' := [some (.ref 146), some (.int (nI 4)), some (.int (nI 1)), some (.int (nI x)), some (.int (nI y)), some (.int (nI (((x % 3) + (y % 3)) % 3)))]) (st' := [.int (nI y), .int (nI x), .int (nI ((4 * x) + y)), .ref (147 + 4)]) d_270_115 (fun _ => rfl) ?_
                    refine rn_xor d_270_117 ?_
                    refine rr_nx (pc' := 153) (al' := [some (.ref 146), some (.int (nI 4)), some (.int (nI 1)), some (.int (nI x)), some (.int (nI y)), some (.int (nI (((x % 3) + (y % 3)) % 3)))]) (st' := [.int (nI (x ^^^ y)), .int (nI ((4 * x) + y)), .ref (147 + 4)]) d_270_118 (fun _ => rfl) ?_
                    refine rr_iS (j := 4) (A1 := (rf_u A 4 (upd w_ ((4 * x) + y) (nI (x ^^^ y))))) d_270_153 (by decide) rfl (by decide) (show (4 * x) + y < 36 by first | omega | assumption | exact cu_36 (by omega) (cu_lt (by omega) (by omega))) rf_uw ?_
                    refine rn_inc d_270_154 rfl rfl ?_
                    show RR _ _ 157 [some (.ref 146), some (.int (nI 4)), some (.int (nI 1)), some (.int (nI x)), some (.int (nI (y + 1))), some (.int (nI (((x % 3) + (y % 3)) % 3)))] [] (upd g 6 (nI 4)) (rf_u A 4 (upd w_ ((4 * x) + y) (nI (x ^^^ y)))) _
                    refine rr_nx (pc' := 36) (al' := [some (.ref 146), some (.int (nI 4)), some (.int (nI 1)), some (.int (nI x)), some (.int (nI (y + 1))), some (.int (nI (((x % 3) + (y % 3)) % 3)))]) (st' := []) d_270_157 (fun _ => rfl) ?_
                    refine rr_dr (al1 := [some (.ref 146), some (.int (nI 4)), some (.int (nI 1)), some (.int (nI x)), some (.int (nI (y + 1))), none]) (le_s (le_s (le_s (le_s (le_s (le_d rfl (le_n))))))) ?_
                    exact ihy (upd w_ ((4 * x) + y) (nI (x ^^^ y))) (sc_in py rfl (congrArg nI (og4_x x hx y hy)))
                · omega
          · show RR _ _ 36 [some (.ref 146), some (.int (nI 4)), some (.int (nI 1)), some (.int (nI x)), some (.int (nI 4)), none] [] (upd g 6 (nI 4)) (rf_u A 4 w_) _
            refine rr_nx (pc' := 38) (al' := [some (.ref 146), some (.int (nI 4)), some (.int (nI 1)), some (.int (nI x)), some (.int (nI 4)), none]) (st' := [.int (nI 4)]) d_270_36 (fun _ => rfl) ?_
            refine rr_nx (pc' := 39) (al' := [some (.ref 146), some (.int (nI 4)), some (.int (nI 1)), some (.int (nI x)), some (.int (nI 4)), none]) (st' := [.ref 146, .int (nI 4)]) d_270_38 (fun _ => rfl) ?_
            refine rr_gf (v := .int (nI 4)) d_270_39 mo_270 fl_127 rfl ?_
            refine rn_cge (t := 160) d_270_42 (by decide) (by first | omega | assumption | exact cu_36 (by omega) (cu_lt (by omega) (by omega))) (by first | omega | assumption | exact cu_36 (by omega) (cu_lt (by omega) (by omega))) (fun c42 => ?_) (fun c42 => ?_)
            · refine rn_inc d_270_160 rfl rfl ?_
              show RR _ _ 163 [some (.ref 146), some (.int (nI 4)), some (.int (nI 1)), some (.int (nI (x + 1))), some (.int (nI 4)), none] [] (upd g 6 (nI 4)) (rf_u A 4 w_) _
              refine rr_nx (pc' := 25) (al' := [some (.ref 146), some (.int (nI 4)), some (.int (nI 1)), some (.int (nI (x + 1))), some (.int (nI 4)), none]) (st' := []) d_270_163 (fun _ => rfl) ?_
              refine rr_dr (al1 := [some (.ref 146), some (.int (nI 4)), some (.int (nI 1)), some (.int (nI (x + 1))), none, none]) (le_s (le_s (le_s (le_s (le_d rfl (le_s (le_n))))))) ?_
              exact ihx w_ (sc_out py)
            · omega
      · show RR _ _ 25 [some (.ref 146), some (.int (nI 4)), some (.int (nI 1)), some (.int (nI 4)), none, none] [] (upd g 6 (nI 4)) (rf_u A 4 w_) _
        refine rr_nx (pc' := 26) (al' := [some (.ref 146), some (.int (nI 4)), some (.int (nI 1)), some (.int (nI 4)), none, none]) (st' := [.int (nI 4)]) d_270_25 (fun _ => rfl) ?_
        refine rr_nx (pc' := 27) (al' := [some (.ref 146), some (.int (nI 4)), some (.int (nI 1)), some (.int (nI 4)), none, none]) (st' := [.ref 146, .int (nI 4)]) d_270_26 (fun _ => rfl) ?_
        refine rr_gf (v := .int (nI 4)) d_270_27 mo_270 fl_127 rfl ?_
        refine rn_cge (t := 166) d_270_30 (by decide) (by first | omega | assumption | exact cu_36 (by omega) (cu_lt (by omega) (by omega))) (by first | omega | assumption | exact cu_36 (by omega) (cu_lt (by omega) (by omega))) (fun c30 => ?_) (fun c30 => ?_)
        · refine rn_ic (v := 1) d_270_166 (by decide) ?_
          exact rr_ri d_270_167 mr_270 (by decide) ⟨rfl, rfl, w_, rfl, sc_all px sc_rm⟩
        · omega
    · omega
theorem s_isGroup6 {g : Nat → Int32} {A : Nat → Nat → Int32}  : RR 0 270 0 [some (.ref 146), some (.int (nI 6)), some (.int (nI 1)), none, none, none] [] g A (fun r g' A' => r = some (.int (nI 1)) ∧ g' = upd g 6 (nI 6) ∧ ∃ w, A' = rf_u A 4 w ∧ ∀ q, q < 6 * 6 → w q = nI (ogN 6 q)) := by
  refine rr_nx (pc' := 1) (al' := [some (.ref 146), some (.int (nI 6)), some (.int (nI 1)), none, none, none]) (st' := [.int (nI 1)]) d_270_0 (fun _ => rfl) ?_
  refine rn_ic (v := 1) d_270_1 (by decide) ?_
  refine rn_cne (t := 18) d_270_2 (by decide) (by first | omega | assumption | exact cu_36 (by omega) (cu_lt (by omega) (by omega))) (by first | omega | assumption | exact cu_36 (by omega) (cu_lt (by omega) (by omega))) (fun c2 => ?_) (fun c2 => ?_)
  · omega
  · refine rr_nx (pc' := 6) (al' := [some (.ref 146), some (.int (nI 6)), some (.int (nI 1)), none, none, none]) (st' := [.int (nI 6)]) d_270_5 (fun _ => rfl) ?_
    refine rn_ic (v := 4) d_270_6 (by decide) ?_
    refine rn_ceq (t := 18) d_270_7 (by decide) (by first | omega | assumption | exact cu_36 (by omega) (cu_lt (by omega) (by omega))) (by first | omega | assumption | exact cu_36 (by omega) (cu_lt (by omega) (by omega))) (fun c7 => ?_) (fun c7 => ?_)
    · omega
    · refine rr_nx (pc' := 11) (al' := [some (.ref 146), some (.int (nI 6)), some (.int (nI 1)), none, none, none]) (st' := [.int (nI 6)]) d_270_10 (fun _ => rfl) ?_
      refine rn_bp (v := 6) d_270_11 (by decide) ?_
      refine rn_ceq (t := 18) d_270_13 (by decide) (by first | omega | assumption | exact cu_36 (by omega) (cu_lt (by omega) (by omega))) (by first | omega | assumption | exact cu_36 (by omega) (cu_lt (by omega) (by omega))) (fun c13 => ?_) (fun c13 => ?_)
      · refine rr_nx (pc' := 19) (al' := [some (.ref 146), some (.int (nI 6)), some (.int (nI 1)), none, none, none]) (st' := [.ref 146]) d_270_18 (fun _ => rfl) ?_
        refine rr_nx (pc' := 20) (al' := [some (.ref 146), some (.int (nI 6)), some (.int (nI 1)), none, none, none]) (st' := [.int (nI 6), .ref 146]) d_270_19 (fun _ => rfl) ?_
        refine rp_6 d_270_20 mo_270 fl_127  ?_
        refine rn_ic (v := 0) d_270_23 (by decide) ?_
        refine rr_nx (pc' := 25) (al' := [some (.ref 146), some (.int (nI 6)), some (.int (nI 1)), some (.int (nI 0)), none, none]) (st' := []) d_270_24 (fun _ => rfl) ?_
        refine rr_A (show A = (rf_u A 4 (A 4)) by rw [rf_u_id]) ?_
        refine rr_upw (al := fun x w_ => [some (.ref 146), some (.int (nI 6)), some (.int (nI 1)), some (.int (nI x)), none, none]) (G := fun x w_ => (upd g 6 (nI 6))) (B := fun x w_ => (rf_u A 4 w_)) (P := fun x w_ => ScP (fun q => nI (ogN 6 q)) (fun x y => 6 * x + y) 6 x 0 w_) (n := 6) (fun x w_ hx px ihx => ?_) (fun w_ px => ?_) 0 (A 4) (by omega) (sc_0)
        · show RR _ _ 25 [some (.ref 146), some (.int (nI 6)), some (.int (nI 1)), some (.int (nI x)), none, none] [] (upd g 6 (nI 6)) (rf_u A 4 w_) _
          refine rr_nx (pc' := 26) (al' := [some (.ref 146), some (.int (nI 6)), some (.int (nI 1)), some (.int (nI x)), none, none]) (st' := [.int (nI x)]) d_270_25 (fun _ => rfl) ?_
          refine rr_nx (pc' := 27) (al' := [some (.ref 146), some (.int (nI 6)), some (.int (nI 1)), some (.int (nI x)), none, none]) (st' := [.ref 146, .int (nI x)]) d_270_26 (fun _ => rfl) ?_
          refine rr_gf (v := .int (nI 6)) d_270_27 mo_270 fl_127 rfl ?_
          refine rn_cge (t := 166) d_270_30 (by decide) (by first | omega | assumption | exact cu_36 (by omega) (cu_lt (by omega) (by omega))) (by first | omega | assumption | exact cu_36 (by omega) (cu_lt (by omega) (by omega))) (fun c30 => ?_) (fun c30 => ?_)
          · omega
          · refine rn_ic (v := 0) d_270_33 (by decide) ?_
            refine rr_nx (pc' := 36) (al' := [some (.ref 146), some (.int (nI 6)), some (.int (nI 1)), some (.int (nI x)), some (.int (nI 0)), none]) (st' := []) d_270_34 (fun _ => rfl) ?_
            refine rr_upw (al := fun y w_ => [some (.ref 146), some (.int (nI 6)), some (.int (nI 1)), some (.int (nI x)), some (.int (nI y)), none]) (G := fun y w_ => (upd g 6 (nI 6))) (B := fun y w_ => (rf_u A 4 w_)) (P := fun y w_ => ScP (fun q => nI (ogN 6 q)) (fun x y => 6 * x + y) 6 x y w_) (n := 6) (fun y w_ hy py ihy => ?_) (fun w_ py => ?_) 0 w_ (by omega) (px)
            · show RR _ _ 36 [some (.ref 146), some (.int (nI 6)), some (.int (nI 1)), some (.int (nI x)), some (.int (nI y)), none] [] (upd g 6 (nI 6)) (rf_u A 4 w_) _
              have hyy : 6 * x + y < 36 := cu_36 (by omega) (cu_lt hx hy)
              have hm3 := Nat.mod_lt y (show 3 > 0 by decide)
              refine rr_nx (pc' := 38) (al' := [some (.ref 146), some (.int (nI 6)), some (.int (nI 1)), some (.int (nI x)), some (.int (nI y)), none]) (st' := [.int (nI y)]) d_270_36 (fun _ => rfl) ?_
              refine rr_nx (pc' := 39) (al' := [some (.ref 146), some (.int (nI 6)), some (.int (nI 1)), some (.int (nI x)), some (.int (nI y)), none]) (st' := [.ref 146, .int (nI y)]) d_270_38 (fun _ => rfl) ?_
              refine rr_gf (v := .int (nI 6)) d_270_39 mo_270 fl_127 rfl ?_
              refine rn_cge (t := 160) d_270_42 (by decide) (by first | omega | assumption | exact cu_36 (by omega) (cu_lt (by omega) (by omega))) (by first | omega | assumption | exact cu_36 (by omega) (cu_lt (by omega) (by omega))) (fun c42 => ?_) (fun c42 => ?_)
              · omega
              · refine rr_nx (pc' := 46) (al' := [some (.ref 146), some (.int (nI 6)), some (.int (nI 1)), some (.int (nI x)), some (.int (nI y)), none]) (st' := [.int (nI x)]) d_270_45 (fun _ => rfl) ?_
                refine rn_ic (v := 3) d_270_46 (by decide) ?_
                refine rn_cge (t := 63) d_270_47 (by decide) (by first | omega | assumption | exact cu_36 (by omega) (cu_lt (by omega) (by omega))) (by first | omega | assumption | exact cu_36 (by omega) (cu_lt (by omega) (by omega))) (fun c47 => ?_) (fun c47 => ?_)
                · refine rr_nx (pc' := 64) (al' := [some (.ref 146), some (.int (nI 6)), some (.int (nI 1)), some (.int (nI x)), some (.int (nI y)), none]) (st' := [.int (nI x)]) d_270_63 (fun _ => rfl) ?_
                  refine rn_ic (v := 3) d_270_64 (by decide) ?_
                  refine rn_rem d_270_65 (by first | omega | assumption | exact cu_36 (by omega) (cu_lt (by omega) (by omega))) (by first | omega | assumption | exact cu_36 (by omega) (cu_lt (by omega) (by omega))) (by first | omega | assumption | exact cu_36 (by omega) (cu_lt (by omega) (by omega))) ?_
                  refine rn_ic (v := 3) d_270_66 (by decide) ?_
                  refine rn_add d_270_67  ?_
                  refine rr_nx (pc' := 70) (al' := [some (.ref 146), some (.int (nI 6)), some (.int (nI 1)), some (.int (nI x)), some (.int (nI y)), none]) (st' := [.int (nI y), .int (nI ((x % 3) + 3))]) d_270_68 (fun _ => rfl) ?_
                  refine rn_ic (v := 3) d_270_70 (by decide) ?_
                  refine rn_rem d_270_71 (by first | omega | assumption | exact cu_36 (by omega) (cu_lt (by omega) (by omega))) (by first | omega | assumption | exact cu_36 (by omega) (cu_lt (by omega) (by omega))) (by first | omega | assumption | exact cu_36 (by omega) (cu_lt (by omega) (by omega))) ?_
                  refine rn_sub d_270_72 (by first | omega | assumption | exact cu_36 (by omega) (cu_lt (by omega) (by omega))) ?_
                  refine rn_ic (v := 3) d_270_73 (by decide) ?_
                  refine rn_rem d_270_74 (by first | omega | assumption | exact cu_36 (by omega) (cu_lt (by omega) (by omega))) (by first | omega | assumption | exact cu_36 (by omega) (cu_lt (by omega) (by omega))) (by first | omega | assumption | exact cu_36 (by omega) (cu_lt (by omega) (by omega))) ?_
                  refine rr_nx (pc' := 77) (al' := [some (.ref 146), some (.int (nI 6)), some (.int (nI 1)), some (.int (nI x)), some (.int (nI y)), some (.int (nI ((((x % 3) + 3) - (y % 3)) % 3)))]) (st' := []) d_270_75 (fun _ => rfl) ?_
                  refine rr_nx (pc' := 78) (al' := [some (.ref 146), some (.int (nI 6)), some (.int (nI 1)), some (.int (nI x)), some (.int (nI y)), some (.int (nI ((((x % 3) + 3) - (y % 3)) % 3)))]) (st' := [.ref 146]) d_270_77 (fun _ => rfl) ?_
                  refine rr_gf (v := .ref (147 + 4)) d_270_78 mo_270 fl_23 rfl ?_
                  refine rr_nx (pc' := 82) (al' := [some (.ref 146), some (.int (nI 6)), some (.int (nI 1)), some (.int (nI x)), some (.int (nI y)), some (.int (nI ((((x % 3) + 3) - (y % 3)) % 3)))]) (st' := [.ref 146, .ref (147 + 4)]) d_270_81 (fun _ => rfl) ?_
                  refine rr_gf (v := .int (nI 6)) d_270_82 mo_270 fl_127 rfl ?_
                  refine rr_nx (pc' := 86) (al' := [some (.ref 146), some (.int (nI 6)), some (.int (nI 1)), some (.int (nI x)), some (.int (nI y)), some (.int (nI ((((x % 3) + 3) - (y % 3)) % 3)))]) (st' := [.int (nI x), .int (nI 6), .ref (147 + 4)]) d_270_85 (fun _ => rfl) ?_
                  refine rn_mul d_270_86  ?_
                  refine rr_nx (pc' := 89) (al' := [some (.ref 146), some (.int (nI 6)), some (.int (nI 1)), some (.int (nI x)), some (.int (nI y)), some (.int (nI ((((x % 3) + 3) - (y % 3)) % 3)))]) (st' := [.int (nI y), .int (nI (6 * x)), .ref (147 + 4)]) d_270_87 (fun _ => rfl) ?_
                  refine rn_add d_270_89  ?_
                  refine rr_nx (pc' := 91) (al' := [some (.ref 146), some (.int (nI 6)), some (.int (nI 1)), some (.int (nI x)), some (.int (nI y)), some (.int (nI ((((x % 3) + 3) - (y % 3)) % 3)))]) (st' := [.int (nI 1), .int (nI ((6 * x) + y)), .ref (147 + 4)]) d_270_90 (fun _ => rfl) ?_
                  refine rn_ine (t := 106) d_270_91 (by decide) (by first | omega | assumption | exact cu_36 (by omega) (cu_lt (by omega) (by omega))) (fun c91 => ?_) (fun c91 => ?_)
                  · refine rr_nx (pc' := 107) (al' := [some (.ref 146), some (.int (nI 6)), some (.int (nI 1)), some (.int (nI x)), some (.int (nI y)), some (.int (nI ((((x % 3) + 3) - (y % 3)) % 3)))]) (st' := [.ref 146, .int (nI ((6 * x) + y)), .ref (147 + 4)]) d_270_106 (fun _ => rfl) ?_
                    refine rr_gf (v := .int (nI 6)) d_270_107 mo_270 fl_127 rfl ?_
                    refine rn_ic (v := 4) d_270_110 (by decide) ?_
                    refine rn_cne (t := 121) d_270_111 (by decide) (by first | omega | assumption | exact cu_36 (by omega) (cu_lt (by omega) (by omega))) (by first | omega | assumption | exact cu_36 (by omega) (cu_lt (by omega) (by omega))) (fun c111 => ?_) (fun c111 => ?_)
                    · refine rr_nx (pc' := 123) (al' := [some (.ref 146), some (.int (nI 6)), some (.int (nI 1)), some (.int (nI x)), some (.int (nI y)), some (.int (nI ((((x % 3) + 3) - (y % 3)) % 3)))]) (st' := [.int (nI ((((x % 3) + 3) - (y % 3)) % 3)), .int (nI ((6 * x) + y)), .ref (147 + 4)]) d_270_121 (fun _ => rfl) ?_
                      refine rr_nx (pc' := 124) (al' := [some (.ref 146), some (.int (nI 6)), some (.int (nI 1)), some (.int (nI x)), some (.int (nI y)), some (.int (nI ((((x % 3) + 3) - (y % 3)) % 3)))]) (st' := [.int (nI x), .int (nI ((((x % 3) + 3) - (y % 3)) % 3)), .int (nI ((6 * x) + y)), .ref (147 + 4)]) d_270_123 (fun _ => rfl) ?_
                      refine rn_ic (v := 3) d_270_124 (by decide) ?_
                      refine rn_cge (t := 132) d_270_125 (by decide) (by first | omega | assumption | exact cu_36 (by omega) (cu_lt (by omega) (by omega))) (by first | omega | assumption | exact cu_36 (by omega) (cu_lt (by omega) (by omega))) (fun c125 => ?_) (fun c125 => ?_)
                      · refine rn_ic (v := 0) d_270_132 (by decide) ?_
                        refine rr_nx (pc' := 135) (al' := [some (.ref 146), some (.int (nI 6)), some (.int (nI 1)), some (.int (nI x)), some (.int (nI y)), some (.int (nI ((((x % 3) + 3) - (y % 3)) % 3)))]) (st' := [.int (nI y), .int (nI 0), .int (nI ((((x % 3) + 3) - (y % 3)) % 3)), .int (nI ((6 * x) + y)), .ref (147 + 4)]) d_270_133 (fun _ => rfl) ?_
                        refine rn_ic (v := 3) d_270_135 (by decide) ?_
                        refine rn_cge (t := 143) d_270_136 (by decide) (by first | omega | assumption | exact cu_36 (by omega) (cu_lt (by omega) (by omega))) (by first | omega | assumption | exact cu_36 (by omega) (cu_lt (by omega) (by omega))) (fun c136 => ?_) (fun c136 => ?_)
                        · refine rn_ic (v := 0) d_270_143 (by decide) ?_
                          refine rn_cne (t := 151) d_270_144 (by decide) (by first | omega | assumption | exact cu_36 (by omega) (cu_lt (by omega) (by omega))) (by first | omega | assumption | exact cu_36 (by omega) (cu_lt (by omega) (by omega))) (fun c144 => ?_) (fun c144 => ?_)
                          · omega
                          · refine rn_ic (v := 0) d_270_147 (by decide) ?_
                            refine rr_nx (pc' := 152) (al' := [some (.ref 146), some (.int (nI 6)), some (.int (nI 1)), some (.int (nI x)), some (.int (nI y)), some (.int (nI ((((x % 3) + 3) - (y % 3)) % 3)))]) (st' := [.int (nI 0), .int (nI ((((x % 3) + 3) - (y % 3)) % 3)), .int (nI ((6 * x) + y)), .ref (147 + 4)]) d_270_148 (fun _ => rfl) ?_
                            refine rn_add d_270_152  ?_
                            refine rr_iS (j := 4) (A1 := (rf_u A 4 (upd w_ ((6 * x) + y) (nI (((((x % 3) + 3) - (y % 3)) % 3) + 0))))) d_270_153 (by decide) rfl (by decide) (show (6 * x) + y < 36 by first | omega | assumption | exact cu_36 (by omega) (cu_lt (by omega) (by omega))) rf_uw ?_
                            refine rn_inc d_270_154 rfl rfl ?_
                            show RR _ _ 157 [some (.ref 146), some (.int (nI 6)), some (.int (nI 1)), some (.int (nI x)), some (.int (nI (y + 1))), some (.int (nI ((((x % 3) + 3) - (y % 3)) % 3)))] [] (upd g 6 (nI 6)) (rf_u A 4 (upd w_ ((6 * x) + y) (nI (((((x % 3) + 3) - (y % 3)) % 3) + 0)))) _
                            refine rr_nx (pc' := 36) (al' := [some (.ref 146), some (.int (nI 6)), some (.int (nI 1)), some (.int (nI x)), some (.int (nI (y + 1))), some (.int (nI ((((x % 3) + 3) - (y % 3)) % 3)))]) (st' := []) d_270_157 (fun _ => rfl) ?_
                            refine rr_dr (al1 := [some (.ref 146), some (.int (nI 6)), some (.int (nI 1)), some (.int (nI x)), some (.int (nI (y + 1))), none]) (le_s (le_s (le_s (le_s (le_s (le_d rfl (le_n))))))) ?_
                            exact ihy (upd w_ ((6 * x) + y) (nI (((((x % 3) + 3) - (y % 3)) % 3) + 0))) (sc_in py rfl (by first | exact congrArg nI (os6_tt x hx y hy (by omega) (by omega)) | exact congrArg nI (os6_tf x hx y hy (by omega) (by omega)) | exact congrArg nI (os6_ft x hx y hy (by omega) (by omega)) | exact congrArg nI (os6_ff x hx y hy (by omega) (by omega))))
                        · refine rn_ic (v := 1) d_270_139 (by decide) ?_
                          refine rr_nx (pc' := 144) (al' := [some (.ref 146), some (.int (nI 6)), some (.int (nI 1)), some (.int (nI x)), some (.int (nI y)), some (.int (nI ((((x % 3) + 3) - (y % 3)) % 3)))]) (st' := [.int (nI 1), .int (nI 0), .int (nI ((((x % 3) + 3) - (y % 3)) % 3)), .int (nI ((6 * x) + y)), .ref (147 + 4)]) d_270_140 (fun _ => rfl) ?_
                          refine rn_cne (t := 151) d_270_144 (by decide) (by first | omega | assumption | exact cu_36 (by omega) (cu_lt (by omega) (by omega))) (by first | omega | assumption | exact cu_36 (by omega) (cu_lt (by omega) (by omega))) (fun c144 => ?_) (fun c144 => ?_)
                          · refine rn_ic (v := 3) d_270_151 (by decide) ?_
                            refine rn_add d_270_152  ?_
                            refine rr_iS (j := 4) (A1 := (rf_u A 4 (upd w_ ((6 * x) + y) (nI (((((x % 3) + 3) - (y % 3)) % 3) + 3))))) d_270_153 (by decide) rfl (by decide) (show (6 * x) + y < 36 by first | omega | assumption | exact cu_36 (by omega) (cu_lt (by omega) (by omega))) rf_uw ?_
                            refine rn_inc d_270_154 rfl rfl ?_
                            show RR _ _ 157 [some (.ref 146), some (.int (nI 6)), some (.int (nI 1)), some (.int (nI x)), some (.int (nI (y + 1))), some (.int (nI ((((x % 3) + 3) - (y % 3)) % 3)))] [] (upd g 6 (nI 6)) (rf_u A 4 (upd w_ ((6 * x) + y) (nI (((((x % 3) + 3) - (y % 3)) % 3) + 3)))) _
                            refine rr_nx (pc' := 36) (al' := [some (.ref 146), some (.int (nI 6)), some (.int (nI 1)), some (.int (nI x)), some (.int (nI (y + 1))), some (.int (nI ((((x % 3) + 3) - (y % 3)) % 3)))]) (st' := []) d_270_157 (fun _ => rfl) ?_
                            refine rr_dr (al1 := [some (.ref 146), some (.int (nI 6)), some (.int (nI 1)), some (.int (nI x)), some (.int (nI (y + 1))), none]) (le_s (le_s (le_s (le_s (le_s (le_d rfl (le_n))))))) ?_
                            exact ihy (upd w_ ((6 * x) + y) (nI (((((x % 3) + 3) - (y % 3)) % 3) + 3))) (sc_in py rfl (by first | exact congrArg nI (os6_tt x hx y hy (by omega) (by omega)) | exact congrArg nI (os6_tf x hx y hy (by omega) (by omega)) | exact congrArg nI (os6_ft x hx y hy (by omega) (by omega)) | exact congrArg nI (os6_ff x hx y hy (by omega) (by omega))))
                          · omega
                      · refine rn_ic (v := 1) d_270_128 (by decide) ?_
                        refine rr_nx (pc' := 133) (al' := [some (.ref 146), some (.int (nI 6)), some (.int (nI 1)), some (.int (nI x)), some (.int (nI y)), some (.int (nI ((((x % 3) + 3) - (y % 3)) % 3)))]) (st' := [.int (nI 1), .int (nI ((((x % 3) + 3) - (y % 3)) % 3)), .int (nI ((6 * x) + y)), .ref (147 + 4)]) d_270_129 (fun _ => rfl) ?_
                        refine rr_nx (pc' := 135) (al' := [some (.ref 146), some (.int (nI 6)), some (.int (nI 1)), some (.int (nI x)), some (.int (nI y)), some (.int (nI ((((x % 3) + 3) - (y % 3)) % 3)))]) (st' := [.int (nI y), .int (nI 1), .int (nI ((((x % 3) + 3) - (y % 3)) % 3)), .int (nI ((6 * x) + y)), .ref (147 + 4)]) d_270_133 (fun _ => rfl) ?_
                        refine rn_ic (v := 3) d_270_135 (by decide) ?_
                        refine rn_cge (t := 143) d_270_136 (by decide) (by first | omega | assumption | exact cu_36 (by omega) (cu_lt (by omega) (by omega))) (by first | omega | assumption | exact cu_36 (by omega) (cu_lt (by omega) (by omega))) (fun c136 => ?_) (fun c136 => ?_)
                        · refine rn_ic (v := 0) d_270_143 (by decide) ?_
                          refine rn_cne (t := 151) d_270_144 (by decide) (by first | omega | assumption | exact cu_36 (by omega) (cu_lt (by omega) (by omega))) (by first | omega | assumption | exact cu_36 (by omega) (cu_lt (by omega) (by omega))) (fun c144 => ?_) (fun c144 => ?_)
                          · refine rn_ic (v := 3) d_270_151 (by decide) ?_
                            refine rn_add d_270_152  ?_
                            refine rr_iS (j := 4) (A1 := (rf_u A 4 (upd w_ ((6 * x) + y) (nI (((((x % 3) + 3) - (y % 3)) % 3) + 3))))) d_270_153 (by decide) rfl (by decide) (show (6 * x) + y < 36 by first | omega | assumption | exact cu_36 (by omega) (cu_lt (by omega) (by omega))) rf_uw ?_
                            refine rn_inc d_270_154 rfl rfl ?_
                            show RR _ _ 157 [some (.ref 146), some (.int (nI 6)), some (.int (nI 1)), some (.int (nI x)), some (.int (nI (y + 1))), some (.int (nI ((((x % 3) + 3) - (y % 3)) % 3)))] [] (upd g 6 (nI 6)) (rf_u A 4 (upd w_ ((6 * x) + y) (nI (((((x % 3) + 3) - (y % 3)) % 3) + 3)))) _
                            refine rr_nx (pc' := 36) (al' := [some (.ref 146), some (.int (nI 6)), some (.int (nI 1)), some (.int (nI x)), some (.int (nI (y + 1))), some (.int (nI ((((x % 3) + 3) - (y % 3)) % 3)))]) (st' := []) d_270_157 (fun _ => rfl) ?_
                            refine rr_dr (al1 := [some (.ref 146), some (.int (nI 6)), some (.int (nI 1)), some (.int (nI x)), some (.int (nI (y + 1))), none]) (le_s (le_s (le_s (le_s (le_s (le_d rfl (le_n))))))) ?_
                            exact ihy (upd w_ ((6 * x) + y) (nI (((((x % 3) + 3) - (y % 3)) % 3) + 3))) (sc_in py rfl (by first | exact congrArg nI (os6_tt x hx y hy (by omega) (by omega)) | exact congrArg nI (os6_tf x hx y hy (by omega) (by omega)) | exact congrArg nI (os6_ft x hx y hy (by omega) (by omega)) | exact congrArg nI (os6_ff x hx y hy (by omega) (by omega))))
                          · omega
                        · refine rn_ic (v := 1) d_270_139 (by decide) ?_
                          refine rr_nx (pc' := 144) (al' := [some (.ref 146), some (.int (nI 6)), some (.int (nI 1)), some (.int (nI x)), some (.int (nI y)), some (.int (nI ((((x % 3) + 3) - (y % 3)) % 3)))]) (st' := [.int (nI 1), .int (nI 1), .int (nI ((((x % 3) + 3) - (y % 3)) % 3)), .int (nI ((6 * x) + y)), .ref (147 + 4)]) d_270_140 (fun _ => rfl) ?_
                          refine rn_cne (t := 151) d_270_144 (by decide) (by first | omega | assumption | exact cu_36 (by omega) (cu_lt (by omega) (by omega))) (by first | omega | assumption | exact cu_36 (by omega) (cu_lt (by omega) (by omega))) (fun c144 => ?_) (fun c144 => ?_)
                          · omega
                          · refine rn_ic (v := 0) d_270_147 (by decide) ?_
                            refine rr_nx (pc' := 152) (al' := [some (.ref 146), some (.int (nI 6)), some (.int (nI 1)), some (.int (nI x)), some (.int (nI y)), some (.int (nI ((((x % 3) + 3) - (y % 3)) % 3)))]) (st' := [.int (nI 0), .int (nI ((((x % 3) + 3) - (y % 3)) % 3)), .int (nI ((6 * x) + y)), .ref (147 + 4)]) d_270_148 (fun _ => rfl) ?_
                            refine rn_add d_270_152  ?_
                            refine rr_iS (j := 4) (A1 := (rf_u A 4 (upd w_ ((6 * x) + y) (nI (((((x % 3) + 3) - (y % 3)) % 3) + 0))))) d_270_153 (by decide) rfl (by decide) (show (6 * x) + y < 36 by first | omega | assumption | exact cu_36 (by omega) (cu_lt (by omega) (by omega))) rf_uw ?_
                            refine rn_inc d_270_154 rfl rfl ?_
                            show RR _ _ 157 [some (.ref 146), some (.int (nI 6)), some (.int (nI 1)), some (.int (nI x)), some (.int (nI (y + 1))), some (.int (nI ((((x % 3) + 3) - (y % 3)) % 3)))] [] (upd g 6 (nI 6)) (rf_u A 4 (upd w_ ((6 * x) + y) (nI (((((x % 3) + 3) - (y % 3)) % 3) + 0)))) _
                            refine rr_nx (pc' := 36) (al' := [some (.ref 146), some (.int (nI 6)), some (.int (nI 1)), some (.int (nI x)), some (.int (nI (y + 1))), some (.int (nI ((((x % 3) + 3) - (y % 3)) % 3)))]) (st' := []) d_270_157 (fun _ => rfl) ?_
                            refine rr_dr (al1 := [some (.ref 146), some (.int (nI 6)), some (.int (nI 1)), some (.int (nI x)), some (.int (nI (y + 1))), none]) (le_s (le_s (le_s (le_s (le_s (le_d rfl (le_n))))))) ?_
                            exact ihy (upd w_ ((6 * x) + y) (nI (((((x % 3) + 3) - (y % 3)) % 3) + 0))) (sc_in py rfl (by first | exact congrArg nI (os6_tt x hx y hy (by omega) (by omega)) | exact congrArg nI (os6_tf x hx y hy (by omega) (by omega)) | exact congrArg nI (os6_ft x hx y hy (by omega) (by omega)) | exact congrArg nI (os6_ff x hx y hy (by omega) (by omega))))
                    · omega
                  · omega
                · refine rr_nx (pc' := 51) (al' := [some (.ref 146), some (.int (nI 6)), some (.int (nI 1)), some (.int (nI x)), some (.int (nI y)), none]) (st' := [.int (nI x)]) d_270_50 (fun _ => rfl) ?_
                  refine rn_ic (v := 3) d_270_51 (by decide) ?_
                  refine rn_rem d_270_52 (by first | omega | assumption | exact cu_36 (by omega) (cu_lt (by omega) (by omega))) (by first | omega | assumption | exact cu_36 (by omega) (cu_lt (by omega) (by omega))) (by first | omega | assumption | exact cu_36 (by omega) (cu_lt (by omega) (by omega))) ?_
                  refine rr_nx (pc' := 55) (al' := [some (.ref 146), some (.int (nI 6)), some (.int (nI 1)), some (.int (nI x)), some (.int (nI y)), none]) (st' := [.int (nI y), .int (nI (x % 3))]) d_270_53 (fun _ => rfl) ?_
                  refine rn_ic (v := 3) d_270_55 (by decide) ?_
                  refine rn_rem d_270_56 (by first | omega | assumption | exact cu_36 (by omega) (cu_lt (by omega) (by omega))) (by first | omega | assumption | exact cu_36 (by omega) (cu_lt (by omega) (by omega))) (by first | omega | assumption | exact cu_36 (by omega) (cu_lt (by omega) (by omega))) ?_
                  refine rn_add d_270_57  ?_
                  refine rn_ic (v := 3) d_270_58 (by decide) ?_
                  refine rn_rem d_270_59 (by first | omega | assumption | exact cu_36 (by omega) (cu_lt (by omega) (by omega))) (by first | omega | assumption | exact cu_36 (by omega) (cu_lt (by omega) (by omega))) (by first | omega | assumption | exact cu_36 (by omega) (cu_lt (by omega) (by omega))) ?_
                  refine rr_nx (pc' := 75) (al' := [some (.ref 146), some (.int (nI 6)), some (.int (nI 1)), some (.int (nI x)), some (.int (nI y)), none]) (st' := [.int (nI (((x % 3) + (y % 3)) % 3))]) d_270_60 (fun _ => rfl) ?_
                  refine rr_nx (pc' := 77) (al' := [some (.ref 146), some (.int (nI 6)), some (.int (nI 1)), some (.int (nI x)), some (.int (nI y)), some (.int (nI (((x % 3) + (y % 3)) % 3)))]) (st' := []) d_270_75 (fun _ => rfl) ?_
                  refine rr_nx (pc' := 78) (al' := [some (.ref 146), some (.int (nI 6)), some (.int (nI 1)), some (.int (nI x)), some (.int (nI y)), some (.int (nI (((x % 3) + (y % 3)) % 3)))]) (st' := [.ref 146]) d_270_77 (fun _ => rfl) ?_
                  refine rr_gf (v := .ref (147 + 4)) d_270_78 mo_270 fl_23 rfl ?_
                  refine rr_nx (pc' := 82) (al' := [some (.ref 146), some (.int (nI 6)), some (.int (nI 1)), some (.int (nI x)), some (.int (nI y)), some (.int (nI (((x % 3) + (y % 3)) % 3)))]) (st' := [.ref 146, .ref (147 + 4)]) d_270_81 (fun _ => rfl) ?_
                  refine rr_gf (v := .int (nI 6)) d_270_82 mo_270 fl_127 rfl ?_
                  refine rr_nx (pc' := 86) (al' := [some (.ref 146), some (.int (nI 6)), some (.int (nI 1)), some (.int (nI x)), some (.int (nI y)), some (.int (nI (((x % 3) + (y % 3)) % 3)))]) (st' := [.int (nI x), .int (nI 6), .ref (147 + 4)]) d_270_85 (fun _ => rfl) ?_
                  refine rn_mul d_270_86  ?_
                  refine rr_nx (pc' := 89) (al' := [some (.ref 146), some (.int (nI 6)), some (.int (nI 1)), some (.int (nI x)), some (.int (nI y)), some (.int (nI (((x % 3) + (y % 3)) % 3)))]) (st' := [.int (nI y), .int (nI (6 * x)), .ref (147 + 4)]) d_270_87 (fun _ => rfl) ?_
                  refine rn_add d_270_89  ?_
                  refine rr_nx (pc' := 91) (al' := [some (.ref 146), some (.int (nI 6)), some (.int (nI 1)), some (.int (nI x)), some (.int (nI y)), some (.int (nI (((x % 3) + (y % 3)) % 3)))]) (st' := [.int (nI 1), .int (nI ((6 * x) + y)), .ref (147 + 4)]) d_270_90 (fun _ => rfl) ?_
                  refine rn_ine (t := 106) d_270_91 (by decide) (by first | omega | assumption | exact cu_36 (by omega) (cu_lt (by omega) (by omega))) (fun c91 => ?_) (fun c91 => ?_)
                  · refine rr_nx (pc' := 107) (al' := [some (.ref 146), some (.int (nI 6)), some (.int (nI 1)), some (.int (nI x)), some (.int (nI y)), some (.int (nI (((x % 3) + (y % 3)) % 3)))]) (st' := [.ref 146, .int (nI ((6 * x) + y)), .ref (147 + 4)]) d_270_106 (fun _ => rfl) ?_
                    refine rr_gf (v := .int (nI 6)) d_270_107 mo_270 fl_127 rfl ?_
                    refine rn_ic (v := 4) d_270_110 (by decide) ?_
                    refine rn_cne (t := 121) d_270_111 (by decide) (by first | omega | assumption | exact cu_36 (by omega) (cu_lt (by omega) (by omega))) (by first | omega | assumption | exact cu_36 (by omega) (cu_lt (by omega) (by omega))) (fun c111 => ?_) (fun c111 => ?_)
                    · refine rr_nx (pc' := 123) (al' := [some (.ref 146), some (.int (nI 6)), some (.int (nI 1)), some (.int (nI x)), some (.int (nI y)), some (.int (nI (((x % 3) + (y % 3)) % 3)))]) (st' := [.int (nI (((x % 3) + (y % 3)) % 3)), .int (nI ((6 * x) + y)), .ref (147 + 4)]) d_270_121 (fun _ => rfl) ?_
                      refine rr_nx (pc' := 124) (al' := [some (.ref 146), some (.int (nI 6)), some (.int (nI 1)), some (.int (nI x)), some (.int (nI y)), some (.int (nI (((x % 3) + (y % 3)) % 3)))]) (st' := [.int (nI x), .int (nI (((x % 3) + (y % 3)) % 3)), .int (nI ((6 * x) + y)), .ref (147 + 4)]) d_270_123 (fun _ => rfl) ?_
                      refine rn_ic (v := 3) d_270_124 (by decide) ?_
                      refine rn_cge (t := 132) d_270_125 (by decide) (by first | omega | assumption | exact cu_36 (by omega) (cu_lt (by omega) (by omega))) (by first | omega | assumption | exact cu_36 (by omega) (cu_lt (by omega) (by omega))) (fun c125 => ?_) (fun c125 => ?_)
                      · refine rn_ic (v := 0) d_270_132 (by decide) ?_
                        refine rr_nx (pc' := 135) (al' := [some (.ref 146), some (.int (nI 6)), some (.int (nI 1)), some (.int (nI x)), some (.int (nI y)), some (.int (nI (((x % 3) + (y % 3)) % 3)))]) (st' := [.int (nI y), .int (nI 0), .int (nI (((x % 3) + (y % 3)) % 3)), .int (nI ((6 * x) + y)), .ref (147 + 4)]) d_270_133 (fun _ => rfl) ?_
                        refine rn_ic (v := 3) d_270_135 (by decide) ?_
                        refine rn_cge (t := 143) d_270_136 (by decide) (by first | omega | assumption | exact cu_36 (by omega) (cu_lt (by omega) (by omega))) (by first | omega | assumption | exact cu_36 (by omega) (cu_lt (by omega) (by omega))) (fun c136 => ?_) (fun c136 => ?_)
                        · refine rn_ic (v := 0) d_270_143 (by decide) ?_
                          refine rn_cne (t := 151) d_270_144 (by decide) (by first | omega | assumption | exact cu_36 (by omega) (cu_lt (by omega) (by omega))) (by first | omega | assumption | exact cu_36 (by omega) (cu_lt (by omega) (by omega))) (fun c144 => ?_) (fun c144 => ?_)
                          · omega
                          · refine rn_ic (v := 0) d_270_147 (by decide) ?_
                            refine rr_nx (pc' := 152) (al' := [some (.ref 146), some (.int (nI 6)), some (.int (nI 1)), some (.int (nI x)), some (.int (nI y)), some (.int (nI (((x % 3) + (y % 3)) % 3)))]) (st' := [.int (nI 0), .int (nI (((x % 3) + (y % 3)) % 3)), .int (nI ((6 * x) + y)), .ref (147 + 4)]) d_270_148 (fun _ => rfl) ?_
                            refine rn_add d_270_152  ?_
                            refine rr_iS (j := 4) (A1 := (rf_u A 4 (upd w_ ((6 * x) + y) (nI ((((x % 3) + (y % 3)) % 3) + 0))))) d_270_153 (by decide) rfl (by decide) (show (6 * x) + y < 36 by first | omega | assumption | exact cu_36 (by omega) (cu_lt (by omega) (by omega))) rf_uw ?_
                            refine rn_inc d_270_154 rfl rfl ?_
                            show RR _ _ 157 [some (.ref 146), some (.int (nI 6)), some (.int (nI 1)), some (.int (nI x)), some (.int (nI (y + 1))), some (.int (nI (((x % 3) + (y % 3)) % 3)))] [] (upd g 6 (nI 6)) (rf_u A 4 (upd w_ ((6 * x) + y) (nI ((((x % 3) + (y % 3)) % 3) + 0)))) _
                            refine rr_nx (pc' := 36) (al' := [some (.ref 146), some (.int (nI 6)), some (.int (nI 1)), some (.int (nI x)), some (.int (nI (y + 1))), some (.int (nI (((x % 3) + (y % 3)) % 3)))]) (st' := []) d_270_157 (fun _ => rfl) ?_
                            refine rr_dr (al1 := [some (.ref 146), some (.int (nI 6)), some (.int (nI 1)), some (.int (nI x)), some (.int (nI (y + 1))), none]) (le_s (le_s (le_s (le_s (le_s (le_d rfl (le_n))))))) ?_
                            exact ihy (upd w_ ((6 * x) + y) (nI ((((x % 3) + (y % 3)) % 3) + 0))) (sc_in py rfl (by first | exact congrArg nI (os6_tt x hx y hy (by omega) (by omega)) | exact congrArg nI (os6_tf x hx y hy (by omega) (by omega)) | exact congrArg nI (os6_ft x hx y hy (by omega) (by omega)) | exact congrArg nI (os6_ff x hx y hy (by omega) (by omega))))
                        · refine rn_ic (v := 1) d_270_139 (by decide) ?_
                          refine rr_nx (pc' := 144) (al' := [some (.ref 146), some (.int (nI 6)), some (.int (nI 1)), some (.int (nI x)), some (.int (nI y)), some (.int (nI (((x % 3) + (y % 3)) % 3)))]) (st' := [.int (nI 1), .int (nI 0), .int (nI (((x % 3) + (y % 3)) % 3)), .int (nI ((6 * x) + y)), .ref (147 + 4)]) d_270_140 (fun _ => rfl) ?_
                          refine rn_cne (t := 151) d_270_144 (by decide) (by first | omega | assumption | exact cu_36 (by omega) (cu_lt (by omega) (by omega))) (by first | omega | assumption | exact cu_36 (by omega) (cu_lt (by omega) (by omega))) (fun c144 => ?_) (fun c144 => ?_)
                          · refine rn_ic (v := 3) d_270_151 (by decide) ?_
                            refine rn_add d_270_152  ?_
                            refine rr_iS (j := 4) (A1 := (rf_u A 4 (upd w_ ((6 * x) + y) (nI ((((x % 3) + (y % 3)) % 3) + 3))))) d_270_153 (by decide) rfl (by decide) (show (6 * x) + y < 36 by first | omega | assumption | exact cu_36 (by omega) (cu_lt (by omega) (by omega))) rf_uw ?_
                            refine rn_inc d_270_154 rfl rfl ?_
                            show RR _ _ 157 [some (.ref 146), some (.int (nI 6)), some (.int (nI 1)), some (.int (nI x)), some (.int (nI (y + 1))), some (.int (nI (((x % 3) + (y % 3)) % 3)))] [] (upd g 6 (nI 6)) (rf_u A 4 (upd w_ ((6 * x) + y) (nI ((((x % 3) + (y % 3)) % 3) + 3)))) _
                            refine rr_nx (pc' := 36) (al' := [some (.ref 146), some (.int (nI 6)), some (.int (nI 1)), some (.int (nI x)), some (.int (nI (y + 1))), some (.int (nI (((x % 3) + (y % 3)) % 3)))]) (st' := []) d_270_157 (fun _ => rfl) ?_
                            refine rr_dr (al1 := [some (.ref 146), some (.int (nI 6)), some (.int (nI 1)), some (.int (nI x)), some (.int (nI (y + 1))), none]) (le_s (le_s (le_s (le_s (le_s (le_d rfl (le_n))))))) ?_
                            exact ihy (upd w_ ((6 * x) + y) (nI ((((x % 3) + (y % 3)) % 3) + 3))) (sc_in py rfl (by first | exact congrArg nI (os6_tt x hx y hy (by omega) (by omega)) | exact congrArg nI (os6_tf x hx y hy (by omega) (by omega)) | exact congrArg nI (os6_ft x hx y hy (by omega) (by omega)) | exact congrArg nI (os6_ff x hx y hy (by omega) (by omega))))
                          · omega
                      · refine rn_ic (v := 1) d_270_128 (by decide) ?_
                        refine rr_nx (pc' := 133) (al' := [some (.ref 146), some (.int (nI 6)), some (.int (nI 1)), some (.int (nI x)), some (.int (nI y)), some (.int (nI (((x % 3) + (y % 3)) % 3)))]) (st' := [.int (nI 1), .int (nI (((x % 3) + (y % 3)) % 3)), .int (nI ((6 * x) + y)), .ref (147 + 4)]) d_270_129 (fun _ => rfl) ?_
                        refine rr_nx (pc' := 135) (al' := [some (.ref 146), some (.int (nI 6)), some (.int (nI 1)), some (.int (nI x)), some (.int (nI y)), some (.int (nI (((x % 3) + (y % 3)) % 3)))]) (st' := [.int (nI y), .int (nI 1), .int (nI (((x % 3) + (y % 3)) % 3)), .int (nI ((6 * x) + y)), .ref (147 + 4)]) d_270_133 (fun _ => rfl) ?_
                        refine rn_ic (v := 3) d_270_135 (by decide) ?_
                        refine rn_cge (t := 143) d_270_136 (by decide) (by first | omega | assumption | exact cu_36 (by omega) (cu_lt (by omega) (by omega))) (by first | omega | assumption | exact cu_36 (by omega) (cu_lt (by omega) (by omega))) (fun c136 => ?_) (fun c136 => ?_)
                        · refine rn_ic (v := 0) d_270_143 (by decide) ?_
                          refine rn_cne (t := 151) d_270_144 (by decide) (by first | omega | assumption | exact cu_36 (by omega) (cu_lt (by omega) (by omega))) (by first | omega | assumption | exact cu_36 (by omega) (cu_lt (by omega) (by omega))) (fun c144 => ?_) (fun c144 => ?_)
                          · refine rn_ic (v := 3) d_270_151 (by decide) ?_
                            refine rn_add d_270_152  ?_
                            refine rr_iS (j := 4) (A1 := (rf_u A 4 (upd w_ ((6 * x) + y) (nI ((((x % 3) + (y % 3)) % 3) + 3))))) d_270_153 (by decide) rfl (by decide) (show (6 * x) + y < 36 by first | omega | assumption | exact cu_36 (by omega) (cu_lt (by omega) (by omega))) rf_uw ?_
                            refine rn_inc d_270_154 rfl rfl ?_
                            show RR _ _ 157 [some (.ref 146), some (.int (nI 6)), some (.int (nI 1)), some (.int (nI x)), some (.int (nI (y + 1))), some (.int (nI (((x % 3) + (y % 3)) % 3)))] [] (upd g 6 (nI 6)) (rf_u A 4 (upd w_ ((6 * x) + y) (nI ((((x % 3) + (y % 3)) % 3) + 3)))) _
                            refine rr_nx (pc' := 36) (al' := [some (.ref 146), some (.int (nI 6)), some (.int (nI 1)), some (.int (nI x)), some (.int (nI (y + 1))), some (.int (nI (((x % 3) + (y % 3)) % 3)))]) (st' := []) d_270_157 (fun _ => rfl) ?_
                            refine rr_dr (al1 := [some (.ref 146), some (.int (nI 6)), some (.int (nI 1)), some (.int (nI x)), some (.int (nI (y + 1))), none]) (le_s (le_s (le_s (le_s (le_s (le_d rfl (le_n))))))) ?_
                            exact ihy (upd w_ ((6 * x) + y) (nI ((((x % 3) + (y % 3)) % 3) + 3))) (sc_in py rfl (by first | exact congrArg nI (os6_tt x hx y hy (by omega) (by omega)) | exact congrArg nI (os6_tf x hx y hy (by omega) (by omega)) | exact congrArg nI (os6_ft x hx y hy (by omega) (by omega)) | exact congrArg nI (os6_ff x hx y hy (by omega) (by omega))))
                          · omega
                        · refine rn_ic (v := 1) d_270_139 (by decide) ?_
                          refine rr_nx (pc' := 144) (al' := [some (.ref 146), some (.int (nI 6)), some (.int (nI 1)), some (.int (nI x)), some (.int (nI y)), some (.int (nI (((x % 3) + (y % 3)) % 3)))]) (st' := [.int (nI 1), .int (nI 1), .int (nI (((x % 3) + (y % 3)) % 3)), .int (nI ((6 * x) + y)), .ref (147 + 4)]) d_270_140 (fun _ => rfl) ?_
                          refine rn_cne (t := 151) d_270_144 (by decide) (by first | omega | assumption | exact cu_36 (by omega) (cu_lt (by omega) (by omega))) (by first | omega | assumption | exact cu_36 (by omega) (cu_lt (by omega) (by omega))) (fun c144 => ?_) (fun c144 => ?_)
                          · omega
                          · refine rn_ic (v := 0) d_270_147 (by decide) ?_
                            refine rr_nx (pc' := 152) (al' := [some (.ref 146), some (.int (nI 6)), some (.int (nI 1)), some (.int (nI x)), some (.int (nI y)), some (.int (nI (((x % 3) + (y % 3)) % 3)))]) (st' := [.int (nI 0), .int (nI (((x % 3) + (y % 3)) % 3)), .int (nI ((6 * x) + y)), .ref (147 + 4)]) d_270_148 (fun _ => rfl) ?_
                            refine rn_add d_270_152  ?_
                            refine rr_iS (j := 4) (A1 := (rf_u A 4 (upd w_ ((6 * x) + y) (nI ((((x % 3) + (y % 3)) % 3) + 0))))) d_270_153 (by decide) rfl (by decide) (show (6 * x) + y < 36 by first | omega | assumption | exact cu_36 (by omega) (cu_lt (by omega) (by omega))) rf_uw ?_
                            refine rn_inc d_270_154 rfl rfl ?_
                            show RR _ _ 157 [some (.ref 146), some (.int (nI 6)), some (.int (nI 1)), some (.int (nI x)), some (.int (nI (y + 1))), some (.int (nI (((x % 3) + (y % 3)) % 3)))] [] (upd g 6 (nI 6)) (rf_u A 4 (upd w_ ((6 * x) + y) (nI ((((x % 3) + (y % 3)) % 3) + 0)))) _
                            refine rr_nx (pc' := 36) (al' := [some (.ref 146), some (.int (nI 6)), some (.int (nI 1)), some (.int (nI x)), some (.int (nI (y + 1))), some (.int (nI (((x % 3) + (y % 3)) % 3)))]) (st' := []) d_270_157 (fun _ => rfl) ?_
                            refine rr_dr (al1 := [some (.ref 146), some (.int (nI 6)), some (.int (nI 1)), some (.int (nI x)), some (.int (nI (y + 1))), none]) (le_s (le_s (le_s (le_s (le_s (le_d rfl (le_n))))))) ?_
                            exact ihy (upd w_ ((6 * x) + y) (nI ((((x % 3) + (y % 3)) % 3) + 0))) (sc_in py rfl (by first | exact congrArg nI (os6_tt x hx y hy (by omega) (by omega)) | exact congrArg nI (os6_tf x hx y hy (by omega) (by omega)) | exact congrArg nI (os6_ft x hx y hy (by omega) (by omega)) | exact congrArg nI (os6_ff x hx y hy (by omega) (by omega))))
                    · omega
                  · omega
            · show RR _ _ 36 [some (.ref 146), some (.int (nI 6)), some (.int (nI 1)), some (.int (nI x)), some (.int (nI 6)), none] [] (upd g 6 (nI 6)) (rf_u A 4 w_) _
              refine rr_nx (pc' := 38) (al' := [some (.ref 146), some (.int (nI 6)), some (.int (nI 1)), some (.int (nI x)), some (.int (nI 6)), none]) (st' := [.int (nI 6)]) d_270_36 (fun _ => rfl) ?_
              refine rr_nx (pc' := 39) (al' := [some (.ref 146), some (.int (nI 6)), some (.int (nI 1)), some (.int (nI x)), some (.int (nI 6)), none]) (st' := [.ref 146, .int (nI 6)]) d_270_38 (fun _ => rfl) ?_
              refine rr_gf (v := .int (nI 6)) d_270_39 mo_270 fl_127 rfl ?_
              refine rn_cge (t := 160) d_270_42 (by decide) (by first | omega | assumption | exact cu_36 (by omega) (cu_lt (by omega) (by omega))) (by first | omega | assumption | exact cu_36 (by omega) (cu_lt (by omega) (by omega))) (fun c42 => ?_) (fun c42 => ?_)
              · refine rn_inc d_270_160 rfl rfl ?_
                show RR _ _ 163 [some (.ref 146), some (.int (nI 6)), some (.int (nI 1)), some (.int (nI (x + 1))), some (.int (nI 6)), none] [] (upd g 6 (nI 6)) (rf_u A 4 w_) _
                refine rr_nx (pc' := 25) (al' := [some (.ref 146), some (.int (nI 6)), some (.int (nI 1)), some (.int (nI (x + 1))), some (.int (nI 6)), none]) (st' := []) d_270_163 (fun _ => rfl) ?_
                refine rr_dr (al1 := [some (.ref 146), some (.int (nI 6)), some (.int (nI 1)), some (.int (nI (x + 1))), none, none]) (le_s (le_s (le_s (le_s (le_d rfl (le_s (le_n))))))) ?_
                exact ihx w_ (sc_out py)
              · omega
        · show RR _ _ 25 [some (.ref 146), some (.int (nI 6)), some (.int (nI 1)), some (.int (nI 6)), none, none] [] (upd g 6 (nI 6)) (rf_u A 4 w_) _
          refine rr_nx (pc' := 26) (al' := [some (.ref 146), some (.int (nI 6)), some (.int (nI 1)), some (.int (nI 6)), none, none]) (st' := [.int (nI 6)]) d_270_25 (fun _ => rfl) ?_
          refine rr_nx (pc' := 27) (al' := [some (.ref 146), some (.int (nI 6)), some (.int (nI 1)), some (.int (nI 6)), none, none]) (st' := [.ref 146, .int (nI 6)]) d_270_26 (fun _ => rfl) ?_
          refine rr_gf (v := .int (nI 6)) d_270_27 mo_270 fl_127 rfl ?_
          refine rn_cge (t := 166) d_270_30 (by decide) (by first | omega | assumption | exact cu_36 (by omega) (cu_lt (by omega) (by omega))) (by first | omega | assumption | exact cu_36 (by omega) (cu_lt (by omega) (by omega))) (fun c30 => ?_) (fun c30 => ?_)
          · refine rn_ic (v := 1) d_270_166 (by decide) ?_
            exact rr_ri d_270_167 mr_270 (by decide) ⟨rfl, rfl, w_, rfl, sc_all px sc_rm⟩
          · omega
      · omega
theorem s_isGroupX {g : Nat → Int32} {A : Nat → Nat → Int32} {n : Nat} (hn6 : n ≤ 6) (h4 : n ≠ 4) (h6 : n ≠ 6) : RR 0 270 0 [some (.ref 146), some (.int (nI n)), some (.int (nI 1)), none, none, none] [] g A (rP (some (.int (nI 0))) g A) := by
  refine rr_nx (pc' := 1) (al' := [some (.ref 146), some (.int (nI n)), some (.int (nI 1)), none, none, none]) (st' := [.int (nI 1)]) d_270_0 (fun _ => rfl) ?_
  refine rn_ic (v := 1) d_270_1 (by decide) ?_
  refine rn_cne (t := 18) d_270_2 (by decide) (by first | omega | assumption | exact cu_36 (by omega) (cu_lt (by omega) (by omega))) (by first | omega | assumption | exact cu_36 (by omega) (cu_lt (by omega) (by omega))) (fun c2 => ?_) (fun c2 => ?_)
  · omega
  · refine rr_nx (pc' := 6) (al' := [some (.ref 146), some (.int (nI n)), some (.int (nI 1)), none, none, none]) (st' := [.int (nI n)]) d_270_5 (fun _ => rfl) ?_
    refine rn_ic (v := 4) d_270_6 (by decide) ?_
    refine rn_ceq (t := 18) d_270_7 (by decide) (by first | omega | assumption | exact cu_36 (by omega) (cu_lt (by omega) (by omega))) (by first | omega | assumption | exact cu_36 (by omega) (cu_lt (by omega) (by omega))) (fun c7 => ?_) (fun c7 => ?_)
    · omega
    · refine rr_nx (pc' := 11) (al' := [some (.ref 146), some (.int (nI n)), some (.int (nI 1)), none, none, none]) (st' := [.int (nI n)]) d_270_10 (fun _ => rfl) ?_
      refine rn_bp (v := 6) d_270_11 (by decide) ?_
      refine rn_ceq (t := 18) d_270_13 (by decide) (by first | omega | assumption | exact cu_36 (by omega) (cu_lt (by omega) (by omega))) (by first | omega | assumption | exact cu_36 (by omega) (cu_lt (by omega) (by omega))) (fun c13 => ?_) (fun c13 => ?_)
      · omega
      · refine rn_ic (v := 0) d_270_16 (by decide) ?_
        exact rr_ri d_270_17 mr_270 (by decide) ⟨rfl, rfl, rfl⟩
theorem SM_add (f h : Nat → Nat) : ∀ n, SM (fun i => f i + h i) n = SM f n + SM h n
  | 0 => rfl
  | n + 1 => by rw [SM_s, SM_s, SM_s, SM_add f h n]; omega
/-- a sum over all cells -/
theorem SM_cells (f : Nat → Nat) (n : Nat) : ∀ m, SM f (m * n) = SM (fun x => SM (fun y => f (n * x + y)) n) m
  | 0 => by rw [Nat.zero_mul]; rfl
  | m + 1 => by
    have key : ∀ k, SM f (m * n + k) = SM f (m * n) + SM (fun y => f (n * m + y)) k := by
      intro k
      induction k with
      | zero => rfl
      | succ k ih =>
        rw [SM_s, ← Nat.add_assoc, SM_s, ih, Nat.mul_comm n m]
        omega
    rw [Nat.succ_mul, key, SM_s, SM_cells f n m]
theorem SM_rm {f : Nat → Nat} {i : Nat} : ∀ {n : Nat}, i < n → SM f n = SM (fun k => if k = i then 0 else f k) n + f i
  | 0, h => absurd h (Nat.not_lt_zero i)
  | n + 1, h => by
    rw [SM_s, SM_s]
    by_cases e : n = i
    · subst e
      rw [if_pos rfl]
      rw [SM_c (h := fun k => if k = n then 0 else f k) (fun k hk => by rw [if_neg (by omega)])]
      omega
    · rw [if_neg e, SM_rm (show i < n by omega)]
      omega
/-- a sum in another order -/
theorem SM_per : ∀ {n : Nat} {f p : Nat → Nat}, Per n p → SM (fun i => f (p i)) n = SM f n := by
  intro n
  -- over any injection into m places, what is reached is summed
  have key : ∀ m k (f p : Nat → Nat), k ≤ m → (∀ i, i < k → p i < m) → (∀ i j, i < k → j < k → p i = p j → i = j) → (∀ v, v < m → (∀ i, i < k → p i ≠ v) → f v = 0) → SM (fun i => f (p i)) k = SM f m := by
    intro m k
    induction k with
    | zero =>
      intro f p _ _ _ hz
      have : ∀ m, (∀ v, v < m → f v = 0) → SM f m = 0 := by
        intro m
        induction m with
        | zero => intro _; rfl
        | succ m ih => intro h; rw [SM_s, ih (fun v hv => h v (by omega)), h m (by omega)]
      rw [this m (fun v hv => hz v hv (fun i hi => absurd hi (Nat.not_lt_zero i)))]
      rfl
    | succ k ih =>
      intro f p hk hb hi hz
      rw [SM_s, SM_rm (f := f) (hb k (by omega)), ← ih (fun v => if v = p k then 0 else f v) p (by omega) (fun i hi => hb i (by omega)) (fun i j a b => hi i j (by omega) (by omega)) ?_]
      · rw [SM_c (h := fun i => if p i = p k then 0 else f (p i)) (fun i h => by
          rw [if_neg (fun e => by have := hi i k (by omega) (by omega) e; omega)])]
      · intro v hv hno
        by_cases e : v = p k
        · exact if_pos e
        · show (if v = p k then 0 else f v) = 0
          rw [if_neg e]
          exact hz v hv (fun i hi2 e2 => by
            by_cases e3 : i = k
            · subst e3
              exact e e2.symm
            · exact hno i (by omega) e2)
  intro f p h
  exact key n n f p (Nat.le_refl n) h.1 h.2 (fun v hv hno => absurd (h.v hv).2 (hno _ (h.v hv).1))
/-- cells that differ, counted in the table's order or the renaming's -/
theorem df_ho {n : Nat} {c e p : Nat → Nat} (h : Per n p) : dfN (n * n) (rnN n c p) e = hoN n c e p := by
  unfold dfN hoN
  rw [SM_cells]
  rw [← SM_per (f := fun x => SM (fun y => dfF (rnN n c p) e (n * x + y)) n) h]
  refine SM_c (fun x hx => ?_)
  show SM (fun y => dfF (rnN n c p) e (n * p x + y)) n = hoS n c e p x
  rw [← SM_per (f := fun y => dfF (rnN n c p) e (n * p x + y)) h]
  refine SM_c (fun y hy => ?_)
  show dfF (rnN n c p) e (n * p x + p y) = hoF n c e p x y
  unfold dfF hoF
  rw [rn_at h hx hy]
def nrT (n : Nat) (c e : Nat → Nat) : Nat → Nat × Nat
  | 0 => (37, 0)
  | r + 1 => if (nrT n c e r).1 < hoN n c e (pmE n r) then nrT n c e r else (hoN n c e (pmE n r), if hoN n c e (pmE n r) < (nrT n c e r).1 then 1 else (nrT n c e r).2 + 1)
theorem hoN_le {n : Nat} {c e p : Nat → Nat} (hn : n ≤ 6) : hoN n c e p ≤ 36 := by
  have h1 : hoN n c e p ≤ n * n := SM_le (fun x _ => by
    have : hoS n c e p x ≤ n := SM_1 (fun y => hoF_1 y)
    exact this)
  have := Nat.mul_le_mul hn hn
  omega
theorem nrT_b {n : Nat} {c e : Nat → Nat} (hn : n ≤ 6) : ∀ r, (nrT n c e r).1 ≤ 37 ∧ (nrT n c e r).2 ≤ r ∧ ((nrT n c e r).1 = 37 → r = 0)
  | 0 => ⟨Nat.le_refl _, Nat.le_refl _, fun _ => rfl⟩
  | r + 1 => by
    have h1 := nrT_b (c := c) (e := e) hn r
    have h2 := hoN_le (c := c) (e := e) (p := pmE n r) hn
    unfold nrT
    split
    · refine ⟨by omega, by omega, fun h => by omega⟩
    · refine ⟨by omega, ?_, fun h => by dsimp only at h; omega⟩
      dsimp only
      split <;> omega
theorem wy_pos {n : Nat} {c : Nat → Nat} (hn : n ≤ 6) (hc : ∀ q, q < n * n → c q < n) : 1 ≤ wyN n c c := by
  have h0 := FA_pos n
  have h1 : wyF n c c 0 ≤ wyN n c c := by
    have := SM_gr (f := wyF n c c) (show 1 ≤ FA n from h0)
    show _ ≤ SM (wyF n c c) (FA n)
    have e : SM (wyF n c c) 1 = wyF n c c 0 := by rw [SM_s]; show 0 + _ = _; omega
    omega
  have h2 : wyF n c c 0 = 1 := by
    unfold wyF
    have : hoN n c c (pmE n 0) = 0 := by
      have z : ∀ x, x < n → hoS n c c (pmE n 0) x = 0 := fun x hx => by
        have z2 : ∀ y, y < n → hoF n c c (pmE n 0) x y = 0 := fun y hy => by
          unfold hoF
          rw [pm_id hn (hc _ (cu_lt hx hy)), pm_id hn hx, pm_id hn hy, if_pos rfl]
        unfold hoS
        rw [SM_c z2]
        clear z2
        have : ∀ m, SM (fun _ => 0) m = 0 := fun m => by
          induction m with
          | zero => rfl
          | succ m ih => rw [SM_s, ih]
        exact this n
      unfold hoN
      rw [SM_c z]
      have : ∀ m, SM (fun _ => 0) m = 0 := fun m => by
        induction m with
        | zero => rfl
        | succ m ih => rw [SM_s, ih]
      exact this n
    rw [this]
    rfl
  omega
/-- one more group -/
def nrG (n : Nat) (c e : Nat → Nat) (s : Nat × Nat) : Nat × Nat := match nrT n c e (FA n) with
  | (low, here) => if s.1 < low then s else (low, if low < s.1 then here / wyN n c c else s.2 + here / wyN n c c)
def nrV (n : Nat) (e : Nat → Nat) : Nat × Nat := if n = 4 ∨ n = 6 then nrG n (ogN n) e (nrG n (cyN n) e (37, 0)) else nrG n (cyN n) e (37, 0)
