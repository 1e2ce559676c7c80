/-! Told cells: the class fills; printed by wip/whole/gen_c12.py. -/
def FoB (n : Nat) (rw cl op : Nat → Nat) (m : Nat) (B : Nat → Nat → Int32) : Prop := (∀ x, x < n → B 108 x = nI (rw x)) ∧ (∀ y, y < n → B 109 y = nI (cl y)) ∧ ∀ i, i < m → B 110 i = nI (op i)
theorem up2_id {G : Nat → Nat → Value} {a k : Nat} {v : Value} (h : G a k = v) : up2 G a k v = G := by
  funext b j
  unfold up2
  split
  next e => rw [e.1, e.2]; exact h.symm
  next e => rfl
theorem or_64 {a b : Nat} (ha : a < 64) (hb : b < 64) : a ||| b < 64 := Nat.or_lt_two_pow (n := 6) ha hb
theorem k_tightest {S : CS} {G : Nat → Nat → Value} {B : Nat → Nat → Int32} {J : Nat → Nat → Int64} {R : Nat → Nat → Option Nat} (hS : ShOk S) (hF : FxG G) {n m : Nat} {T : Nat → Option Nat} {rw cl op : Nat → Nat} (hn6 : n ≤ 6) (hn : 0 < n) (hI : FoI n T rw cl op m) (hB : FoB n rw cl op m B) (hm : m ≤ 36) (hgn : G 107 0 = .int (nI n)) (h0 : 0 < m) : CR 1 20 0 [some (.ref 107), some (.int (nI m)), none, none, none, none, none] [] S G B J R (fun r S' G' B' J' R' => ∃ ch, ch < m ∧ r = some (.int (nI ch)) ∧ S' = S ∧ G' = G ∧ B' = B ∧ J' = J ∧ R' = R) := by
  refine cn_ic (v := 0) d_20_0 (by decide) ?_
  refine cr_nx (pc' := 2) (al' := [some (.ref 107), some (.int (nI m)), some (.int (nI 0)), none, none, none, none]) (st' := []) d_20_1 (fun _ => rfl) ?_
  refine cr_nx (pc' := 3) (al' := [some (.ref 107), some (.int (nI m)), some (.int (nI 0)), none, none, none, none]) (st' := [.int (-1)]) d_20_2 (fun _ => rfl) ?_
  refine cr_nx (pc' := 4) (al' := [some (.ref 107), some (.int (nI m)), some (.int (nI 0)), some (.int (-1)), none, none, none]) (st' := []) d_20_3 (fun _ => rfl) ?_
  refine cn_ic (v := 0) d_20_4 (by decide) ?_
  refine cr_nx (pc' := 7) (al' := [some (.ref 107), some (.int (nI m)), some (.int (nI 0)), some (.int (-1)), some (.int (nI 0)), none, none]) (st' := []) d_20_5 (fun _ => rfl) ?_
  refine cr_al (congrArg (fun z__ : Nat => ([some (.ref 107), some (.int (nI m)), some (.int (nI z__)), some (.int (-1)), some (.int (nI 0)), none, none] : AL)) (show 0 = (0, -1).1 by first | rfl | omega | (simp only [SM_s]; omega) | (simp [SM_s, *]; done) | (simp [SM_s, *]; omega))) ?_
  refine cr_al (congrArg (fun z__ : Int32 => ([some (.ref 107), some (.int (nI m)), some (.int (nI ((0, -1).1))), some (.int z__), some (.int (nI 0)), none, none] : AL)) (show (-1) = ((0, -1).2) by first | rfl | exact bI_t (by assumption) | exact bI_f (by assumption))) ?_
  refine cr_upw (al := fun i w_ => [some (.ref 107), some (.int (nI m)), some (.int (nI w_.1)), some (.int w_.2), some (.int (nI i)), none, none]) (S := fun i w_ => S) (G := fun i w_ => G) (B := fun i w_ => B) (J := fun i w_ => J) (R := fun i w_ => R) (P := fun i w_ => w_.1 < m) (n := m) (fun i w_ hi pi ihi => ?_) (fun w_ pi => ?_) 0 (0, -1) (by omega) (by omega)
  · show CR _ _ 7 [some (.ref 107), some (.int (nI m)), some (.int (nI w_.1)), some (.int w_.2), some (.int (nI i)), none, none] [] S G B J R _
    obtain ⟨a1, a2, a3⟩ := hI.1 i hi
    refine cr_nx (pc' := 9) (al' := [some (.ref 107), some (.int (nI m)), some (.int (nI w_.1)), some (.int w_.2), some (.int (nI i)), none, none]) (st' := [.int (nI i)]) d_20_7 (fun _ => rfl) ?_
    refine cr_nx (pc' := 10) (al' := [some (.ref 107), some (.int (nI m)), some (.int (nI w_.1)), some (.int w_.2), some (.int (nI i)), none, none]) (st' := [.int (nI m), .int (nI i)]) d_20_9 (fun _ => rfl) ?_
    refine cn_cge (t := 81) d_20_10 (by decide) (by first | omega | assumption | exact cu_36 (by omega) (cu_lt (by omega) (by omega))) (by first | omega | assumption | exact cu_36 (by omega) (cu_lt (by omega) (by omega))) (fun c10 => ?_) (fun c10 => ?_)
    · omega
    · refine cr_nx (pc' := 14) (al' := [some (.ref 107), some (.int (nI m)), some (.int (nI w_.1)), some (.int w_.2), some (.int (nI i)), none, none]) (st' := [.int w_.2]) d_20_13 (fun _ => rfl) ?_
      refine cr_nx (pc' := 15) (al' := [some (.ref 107), some (.int (nI m)), some (.int (nI w_.1)), some (.int w_.2), some (.int (nI i)), none, none]) (st' := [.ref 107, .int w_.2]) d_20_14 (fun _ => rfl) ?_
      refine cr_gf (v := .int (nI n)) d_20_15 cw_20 cf_2_61 (hS.i (a := 107) (by decide) (by decide)) (hS.s (a := 107) (by decide) (by decide) rfl) (by decide) hgn ?_
      refine cn_ic (v := 1) d_20_18 (by decide) ?_
      refine cn_sub d_20_19 (by first | omega | assumption | exact cu_36 (by omega) (cu_lt (by omega) (by omega))) ?_
      refine cr_cge (t := 81) d_20_20 (by decide) (fun c20 => ?_) (fun c20 => ?_)
      · refine cr_nx (pc' := 82) (al' := [some (.ref 107), some (.int (nI m)), some (.int (nI w_.1)), some (.int w_.2), some (.int (nI i)), none, none]) (st' := [.int (nI w_.1)]) d_20_81 (fun _ => rfl) ?_
        exact cr_ri d_20_82 cx_20 rfl ⟨w_.1, pi, rfl, rfl, rfl, rfl, rfl, rfl⟩
      · refine cr_nx (pc' := 24) (al' := [some (.ref 107), some (.int (nI m)), some (.int (nI w_.1)), some (.int w_.2), some (.int (nI i)), none, none]) (st' := [.ref 107]) d_20_23 (fun _ => rfl) ?_
        refine cr_gf (v := .ref 108) d_20_24 cw_20 cf_2_9 (hS.i (a := 107) (by decide) (by decide)) (hS.s (a := 107) (by decide) (by decide) rfl) (by decide) (fx_107_1 hF) ?_
        refine cr_nx (pc' := 28) (al' := [some (.ref 107), some (.int (nI m)), some (.int (nI w_.1)), some (.int w_.2), some (.int (nI i)), none, none]) (st' := [.ref 107, .ref 108]) d_20_27 (fun _ => rfl) ?_
        refine cr_gf (v := .ref 110) d_20_28 cw_20 cf_2_18 (hS.i (a := 107) (by decide) (by decide)) (hS.s (a := 107) (by decide) (by decide) rfl) (by decide) (fx_107_3 hF) ?_
        refine cr_nx (pc' := 33) (al' := [some (.ref 107), some (.int (nI m)), some (.int (nI w_.1)), some (.int w_.2), some (.int (nI i)), none, none]) (st' := [.int (nI i), .ref 110, .ref 108]) d_20_31 (fun _ => rfl) ?_
        refine cr_ia (a := 110) (v := (nI (op i))) d_20_33 (hS.i (a := 110) (by decide) (by decide)) (hS.s (a := 110) (by decide) (by decide) rfl) (by first | decide | omega) (show i < 36 by first | omega | assumption | exact cu_36 (by omega) (cu_lt (by omega) (by omega))) (hB.2.2 i hi) ?_
        refine cn_bp (v := 6) d_20_34 (by decide) ?_
        refine cn_div d_20_36 (by first | omega | assumption | exact cu_36 (by omega) (cu_lt (by omega) (by omega))) (by first | omega | assumption | exact cu_36 (by omega) (cu_lt (by omega) (by omega))) (by first | omega | assumption | exact cu_36 (by omega) (cu_lt (by omega) (by omega))) ?_
        refine cr_ia (a := 108) (v := (nI (rw (op i / 6)))) d_20_37 (hS.i (a := 108) (by decide) (by decide)) (hS.s (a := 108) (by decide) (by decide) rfl) (by first | decide | omega) (show (op i) / 6 < 6 by first | omega | assumption | exact cu_36 (by omega) (cu_lt (by omega) (by omega))) (hB.1 _ a1) ?_
        refine cr_nx (pc' := 39) (al' := [some (.ref 107), some (.int (nI m)), some (.int (nI w_.1)), some (.int w_.2), some (.int (nI i)), none, none]) (st' := [.ref 107, .int (nI (rw (op i / 6)))]) d_20_38 (fun _ => rfl) ?_
        refine cr_gf (v := .ref 109) d_20_39 cw_20 cf_2_15 (hS.i (a := 107) (by decide) (by decide)) (hS.s (a := 107) (by decide) (by decide) rfl) (by decide) (fx_107_2 hF) ?_
        refine cr_nx (pc' := 43) (al' := [some (.ref 107), some (.int (nI m)), some (.int (nI w_.1)), some (.int w_.2), some (.int (nI i)), none, none]) (st' := [.ref 107, .ref 109, .int (nI (rw (op i / 6)))]) d_20_42 (fun _ => rfl) ?_
        refine cr_gf (v := .ref 110) d_20_43 cw_20 cf_2_18 (hS.i (a := 107) (by decide) (by decide)) (hS.s (a := 107) (by decide) (by decide) rfl) (by decide) (fx_107_3 hF) ?_
        refine cr_nx (pc' := 48) (al' := [some (.ref 107), some (.int (nI m)), some (.int (nI w_.1)), some (.int w_.2), some (.int (nI i)), none, none]) (st' := [.int (nI i), .ref 110, .ref 109, .int (nI (rw (op i / 6)))]) d_20_46 (fun _ => rfl) ?_
        refine cr_ia (a := 110) (v := (nI (op i))) d_20_48 (hS.i (a := 110) (by decide) (by decide)) (hS.s (a := 110) (by decide) (by decide) rfl) (by first | decide | omega) (show i < 36 by first | omega | assumption | exact cu_36 (by omega) (cu_lt (by omega) (by omega))) (hB.2.2 i hi) ?_
        refine cn_bp (v := 6) d_20_49 (by decide) ?_
        refine cn_rem d_20_51 (by first | omega | assumption | exact cu_36 (by omega) (cu_lt (by omega) (by omega))) (by first | omega | assumption | exact cu_36 (by omega) (cu_lt (by omega) (by omega))) (by first | omega | assumption | exact cu_36 (by omega) (cu_lt (by omega) (by omega))) ?_
        refine cr_ia (a := 109) (v := (nI (cl (op i % 6)))) d_20_52 (hS.i (a := 109) (by decide) (by decide)) (hS.s (a := 109) (by decide) (by decide) rfl) (by first | decide | omega) (show (op i) % 6 < 6 by first | omega | assumption | exact cu_36 (by omega) (cu_lt (by omega) (by omega))) (hB.2.1 _ a2) ?_
        refine cn_or d_20_53 ?_
        refine cr_nx (pc' := 56) (al' := [some (.ref 107), some (.int (nI m)), some (.int (nI w_.1)), some (.int w_.2), some (.int (nI i)), some (.int (nI ((rw (op i / 6)) ||| (cl (op i % 6))))), none]) (st' := []) d_20_54 (fun _ => rfl) ?_
        refine cr_nx (pc' := 58) (al' := [some (.ref 107), some (.int (nI m)), some (.int (nI w_.1)), some (.int w_.2), some (.int (nI i)), some (.int (nI ((rw (op i / 6)) ||| (cl (op i % 6))))), none]) (st' := [.int (nI ((rw (op i / 6)) ||| (cl (op i % 6))))]) d_20_56 (fun _ => rfl) ?_
        refine cr_ps (as := [.int (nI ((rw (op i / 6)) ||| (cl (op i % 6))))]) (al0 := [some (.int (nI ((rw (op i / 6)) ||| (cl (op i % 6)))))]) (r := []) d_20_58 cw_20 cm_2_78 (by decide) cz_290 rfl rfl rfl (Nat.le_of_ble_eq_true rfl) (k_bitCount (by have := or_64 (hI.2.2.2.1 _ a1).1 (hI.2.2.2.2.1 _ a2).1; omega)) ?_
        show CR _ _ 61 [some (.ref 107), some (.int (nI m)), some (.int (nI w_.1)), some (.int w_.2), some (.int (nI i)), some (.int (nI ((rw (op i / 6)) ||| (cl (op i % 6))))), none] [.int (nI (onN ((rw (op i / 6)) ||| (cl (op i % 6)))))] S G B J R _
        have b58 := onN_16 ((rw (op i / 6)) ||| (cl (op i % 6)))
        refine cr_nx (pc' := 63) (al' := [some (.ref 107), some (.int (nI m)), some (.int (nI w_.1)), some (.int w_.2), some (.int (nI i)), some (.int (nI ((rw (op i / 6)) ||| (cl (op i % 6))))), some (.int (nI (onN ((rw (op i / 6)) ||| (cl (op i % 6))))))]) (st' := []) d_20_61 (fun _ => rfl) ?_
        refine cr_nx (pc' := 65) (al' := [some (.ref 107), some (.int (nI m)), some (.int (nI w_.1)), some (.int w_.2), some (.int (nI i)), some (.int (nI ((rw (op i / 6)) ||| (cl (op i % 6))))), some (.int (nI (onN ((rw (op i / 6)) ||| (cl (op i % 6))))))]) (st' := [.int (nI (onN ((rw (op i / 6)) ||| (cl (op i % 6)))))]) d_20_63 (fun _ => rfl) ?_
        refine cr_nx (pc' := 66) (al' := [some (.ref 107), some (.int (nI m)), some (.int (nI w_.1)), some (.int w_.2), some (.int (nI i)), some (.int (nI ((rw (op i / 6)) ||| (cl (op i % 6))))), some (.int (nI (onN ((rw (op i / 6)) ||| (cl (op i % 6))))))]) (st' := [.int w_.2, .int (nI (onN ((rw (op i / 6)) ||| (cl (op i % 6)))))]) d_20_65 (fun _ => rfl) ?_
        refine cr_cle (t := 75) d_20_66 (by decide) (fun c66 => ?_) (fun c66 => ?_)
        · refine cn_inc d_20_75 rfl rfl ?_
          show CR _ _ 78 [some (.ref 107), some (.int (nI m)), some (.int (nI w_.1)), some (.int w_.2), some (.int (nI (i + 1))), some (.int (nI ((rw (op i / 6)) ||| (cl (op i % 6))))), some (.int (nI (onN ((rw (op i / 6)) ||| (cl (op i % 6))))))] [] S G B J R _
          refine cr_nx (pc' := 7) (al' := [some (.ref 107), some (.int (nI m)), some (.int (nI w_.1)), some (.int w_.2), some (.int (nI (i + 1))), some (.int (nI ((rw (op i / 6)) ||| (cl (op i % 6))))), some (.int (nI (onN ((rw (op i / 6)) ||| (cl (op i % 6))))))]) (st' := []) d_20_78 (fun _ => rfl) ?_
          refine cr_dr (al1 := [some (.ref 107), some (.int (nI m)), some (.int (nI w_.1)), some (.int w_.2), some (.int (nI (i + 1))), none, none]) (le_s (le_s (le_s (le_s (le_s (le_d rfl (le_d rfl (le_n)))))))) ?_
          exact ihi w_ (pi)
        · refine cr_nx (pc' := 71) (al' := [some (.ref 107), some (.int (nI m)), some (.int (nI w_.1)), some (.int w_.2), some (.int (nI i)), some (.int (nI ((rw (op i / 6)) ||| (cl (op i % 6))))), some (.int (nI (onN ((rw (op i / 6)) ||| (cl (op i % 6))))))]) (st' := [.int (nI (onN ((rw (op i / 6)) ||| (cl (op i % 6)))))]) d_20_69 (fun _ => rfl) ?_
          refine cr_nx (pc' := 72) (al' := [some (.ref 107), some (.int (nI m)), some (.int (nI w_.1)), some (.int (nI (onN ((rw (op i / 6)) ||| (cl (op i % 6)))))), some (.int (nI i)), some (.int (nI ((rw (op i / 6)) ||| (cl (op i % 6))))), some (.int (nI (onN ((rw (op i / 6)) ||| (cl (op i % 6))))))]) (st' := []) d_20_71 (fun _ => rfl) ?_
          refine cr_nx (pc' := 74) (al' := [some (.ref 107), some (.int (nI m)), some (.int (nI w_.1)), some (.int (nI (onN ((rw (op i / 6)) ||| (cl (op i % 6)))))), some (.int (nI i)), some (.int (nI ((rw (op i / 6)) ||| (cl (op i % 6))))), some (.int (nI (onN ((rw (op i / 6)) ||| (cl (op i % 6))))))]) (st' := [.int (nI i)]) d_20_72 (fun _ => rfl) ?_
          refine cr_nx (pc' := 75) (al' := [some (.ref 107), some (.int (nI m)), some (.int (nI i)), some (.int (nI (onN ((rw (op i / 6)) ||| (cl (op i % 6)))))), some (.int (nI i)), some (.int (nI ((rw (op i / 6)) ||| (cl (op i % 6))))), some (.int (nI (onN ((rw (op i / 6)) ||| (cl (op i % 6))))))]) (st' := []) d_20_74 (fun _ => rfl) ?_
          refine cn_inc d_20_75 rfl rfl ?_
          show CR _ _ 78 [some (.ref 107), some (.int (nI m)), some (.int (nI i)), some (.int (nI (onN ((rw (op i / 6)) ||| (cl (op i % 6)))))), some (.int (nI (i + 1))), some (.int (nI ((rw (op i / 6)) ||| (cl (op i % 6))))), some (.int (nI (onN ((rw (op i / 6)) ||| (cl (op i % 6))))))] [] S G B J R _
          refine cr_nx (pc' := 7) (al' := [some (.ref 107), some (.int (nI m)), some (.int (nI i)), some (.int (nI (onN ((rw (op i / 6)) ||| (cl (op i % 6)))))), some (.int (nI (i + 1))), some (.int (nI ((rw (op i / 6)) ||| (cl (op i % 6))))), some (.int (nI (onN ((rw (op i / 6)) ||| (cl (op i % 6))))))]) (st' := []) d_20_78 (fun _ => rfl) ?_
          refine cr_al (congrArg (fun z__ : Nat => ([some (.ref 107), some (.int (nI m)), some (.int (nI z__)), some (.int (nI (onN ((rw (op i / 6)) ||| (cl (op i % 6)))))), some (.int (nI (i + 1))), some (.int (nI ((rw (op i / 6)) ||| (cl (op i % 6))))), some (.int (nI (onN ((rw (op i / 6)) ||| (cl (op i % 6))))))] : AL)) (show i = (i, nI (onN (rw (op i / 6) ||| cl (op i % 6)))).1 by first | rfl | omega | (simp only [SM_s]; omega) | (simp [SM_s, *]; done) | (simp [SM_s, *]; omega))) ?_
          refine cr_al (congrArg (fun z__ : Int32 => ([some (.ref 107), some (.int (nI m)), some (.int (nI ((i, nI (onN (rw (op i / 6) ||| cl (op i % 6)))).1))), some (.int z__), some (.int (nI (i + 1))), some (.int (nI ((rw (op i / 6)) ||| (cl (op i % 6))))), some (.int (nI (onN ((rw (op i / 6)) ||| (cl (op i % 6))))))] : AL)) (show (nI (onN ((rw (op i / 6)) ||| (cl (op i % 6))))) = ((i, nI (onN (rw (op i / 6) ||| cl (op i % 6)))).2) by first | rfl | exact bI_t (by assumption) | exact bI_f (by assumption))) ?_
          refine cr_dr (al1 := [some (.ref 107), some (.int (nI m)), some (.int (nI ((i, nI (onN (rw (op i / 6) ||| cl (op i % 6)))).1))), some (.int ((i, nI (onN (rw (op i / 6) ||| cl (op i % 6)))).2)), some (.int (nI (i + 1))), none, none]) (le_s (le_s (le_s (le_s (le_s (le_d rfl (le_d rfl (le_n)))))))) ?_
          exact ihi (i, nI (onN (rw (op i / 6) ||| cl (op i % 6)))) (hi)
  · show CR _ _ 7 [some (.ref 107), some (.int (nI m)), some (.int (nI w_.1)), some (.int w_.2), some (.int (nI m)), none, none] [] S G B J R _
    refine cr_nx (pc' := 9) (al' := [some (.ref 107), some (.int (nI m)), some (.int (nI w_.1)), some (.int w_.2), some (.int (nI m)), none, none]) (st' := [.int (nI m)]) d_20_7 (fun _ => rfl) ?_
    refine cr_nx (pc' := 10) (al' := [some (.ref 107), some (.int (nI m)), some (.int (nI w_.1)), some (.int w_.2), some (.int (nI m)), none, none]) (st' := [.int (nI m), .int (nI m)]) d_20_9 (fun _ => rfl) ?_
    refine cn_cge (t := 81) d_20_10 (by decide) (by first | omega | assumption | exact cu_36 (by omega) (cu_lt (by omega) (by omega))) (by first | omega | assumption | exact cu_36 (by omega) (cu_lt (by omega) (by omega))) (fun c10 => ?_) (fun c10 => ?_)
    · refine cr_nx (pc' := 82) (al' := [some (.ref 107), some (.int (nI m)), some (.int (nI w_.1)), some (.int w_.2), some (.int (nI m)), none, none]) (st' := [.int (nI w_.1)]) d_20_81 (fun _ => rfl) ?_
      exact cr_ri d_20_82 cx_20 rfl ⟨w_.1, pi, rfl, rfl, rfl, rfl, rfl, rfl⟩
    · omega
theorem fo_r1 {B : Nat → Nat → Int32} {g : Nat → Int32} {x r v : Nat} (h : B 108 x = nI r) (hr : r < 64) (hv : v < 6) (hb : r.testBit v = false) : upr (upr (upr B 108 (upd (B 108) x (nI (r ||| 1 * 2 ^ v)))) 109 g) 108 (upd (upr (upr B 108 (upd (B 108) x (nI (r ||| 1 * 2 ^ v)))) 109 g 108) x (nI ((r ||| 1 * 2 ^ v) &&& ((1 * 2 ^ v) ^^^ 4294967295)))) = upr B 109 g := by
  rw [upr_n (show (108 : Nat) ≠ 109 by decide), upr_s, un_mark r hr v hv hb, upr_sw (by decide), upd_u, ← h, upd_id, upr_id]
theorem fo_r2 {B : Nat → Nat → Int32} {x r v : Nat} (h : B 109 x = nI r) (hr : r < 64) (hv : v < 6) (hb : r.testBit v = false) : upr (upr B 109 (upd (B 109) x (nI (r ||| 1 * 2 ^ v)))) 109 (upd (upr B 109 (upd (B 109) x (nI (r ||| 1 * 2 ^ v))) 109) x (nI ((r ||| 1 * 2 ^ v) &&& ((1 * 2 ^ v) ^^^ 4294967295)))) = B := by
  rw [upr_s, un_mark r hr v hv hb, upr_u, upd_u, ← h, upd_id, upr_id]
theorem mn_s {t f a b : Nat} (h : min t (f + a) < t) : min t (f + (a + b)) = min t (min t (f + a) + b) := by omega
theorem fo_e {t f a b : Nat} (h : t ≤ min t (f + a)) (hab : a ≤ b) : min t (f + a) = min t (f + b) := by omega
theorem k_fo32 {S : CS} {G : Nat → Nat → Value} {B : Nat → Nat → Int32} {J : Nat → Nat → Int64} {R : Nat → Nat → Option Nat} (hS : ShOk S) (hF : FxG G) {n m : Nat} {T : Nat → Option Nat} {rw cl op : Nat → Nat} (hn6 : n ≤ 6) (hn : 0 < n) (hI : FoI n T rw cl op (m + 1)) (hB : FoB n rw cl op (m + 1) B) (hm : m + 1 ≤ 36) (hgn : G 107 0 = .int (nI n)) {K x y ch f t : Nat} (hch : ch < 36) (hx : op m / 6 = x) (hy : op m % 6 = y) (hf : G 107 5 = .int (nI f)) (ht : G 107 6 = .int (nI t)) (hft : f < t) (ht2 : t ≤ 100000) (hR : ∀ v c, v < n → c < t → (rw x ||| cl y) &&& 1 * 2 ^ v = 0 → CR K 19 0 [some (.ref 107), some (.int (nI m)), none, none, none, none, none, none] [] S (up2 G 107 5 (.int (nI c))) (upr (upr B 108 (upd (B 108) x (nI (rw x ||| 1 * 2 ^ v)))) 109 (upd (B 109) y (nI (cl y ||| 1 * 2 ^ v)))) J R (cP none S (up2 G 107 5 (.int (nI (min t (c + nB n (seT T (n * x + y) v)))))) (upr (upr B 108 (upd (B 108) x (nI (rw x ||| 1 * 2 ^ v)))) 109 (upd (B 109) y (nI (cl y ||| 1 * 2 ^ v)))) J R)) : CR (K + 1) 19 32 [some (.ref 107), some (.int (nI (m + 1))), some (.int (nI ch)), none, none, none, none, none] [] S G B J R (cP none S (up2 G 107 5 (.int (nI (min t (f + nB n T))))) (upr B 110 (upd (upd (B 110) ch (B 110 m)) m (B 110 ch))) J R) := by
  obtain ⟨a1, a2, a3⟩ := hI.1 m (by omega)
  rw [hx] at a1
  rw [hy] at a2
  have r64 := (hI.2.2.2.1 x a1).1
  have c64 := (hI.2.2.2.2.1 y a2).1
  refine cr_nx (pc' := 33) (al' := [some (.ref 107), some (.int (nI (m + 1))), some (.int (nI ch)), none, none, none, none, none]) (st' := [.ref 107]) d_19_32 (fun _ => rfl) ?_
  refine cr_gf (v := .ref 110) d_19_33 cw_19 cf_2_18 (hS.i (a := 107) (by decide) (by decide)) (hS.s (a := 107) (by decide) (by decide) rfl) (by decide) (fx_107_3 hF) ?_
  refine cr_nx (pc' := 37) (al' := [some (.ref 107), some (.int (nI (m + 1))), some (.int (nI ch)), none, none, none, none, none]) (st' := [.int (nI (m + 1)), .ref 110]) d_19_36 (fun _ => rfl) ?_
  refine cn_ic (v := 1) d_19_37 (by decide) ?_
  refine cn_sub d_19_38 (by omega) ?_
  refine cr_ia (a := 110) (v := (nI (op m))) d_19_39 (hS.i (a := 110) (by decide) (by decide)) (hS.s (a := 110) (by decide) (by decide) rfl) (by first | decide | omega) (show (m + 1) - 1 < 36 by first | omega | assumption | exact cu_36 (by omega) (cu_lt (by omega) (by omega))) (hB.2.2 m (by omega)) ?_
  refine cn_bp (v := 6) d_19_40 (by decide) ?_
  refine cn_div d_19_42 (by first | omega | assumption | exact cu_36 (by omega) (cu_lt (by omega) (by omega))) (by first | omega | assumption | exact cu_36 (by omega) (cu_lt (by omega) (by omega))) (by first | omega | assumption | exact cu_36 (by omega) (cu_lt (by omega) (by omega))) ?_
  refine cr_tp (z := (nI x)) (congrArg nI hx) ?_
  refine cr_nx (pc' := 44) (al' := [some (.ref 107), some (.int (nI (m + 1))), some (.int (nI ch)), some (.int (nI x)), none, none, none, none]) (st' := []) d_19_43 (fun _ => rfl) ?_
  refine cr_nx (pc' := 45) (al' := [some (.ref 107), some (.int (nI (m + 1))), some (.int (nI ch)), some (.int (nI x)), none, none, none, none]) (st' := [.ref 107]) d_19_44 (fun _ => rfl) ?_
  refine cr_gf (v := .ref 110) d_19_45 cw_19 cf_2_18 (hS.i (a := 107) (by decide) (by decide)) (hS.s (a := 107) (by decide) (by decide) rfl) (by decide) (fx_107_3 hF) ?_
  refine cr_nx (pc' := 49) (al' := [some (.ref 107), some (.int (nI (m + 1))), some (.int (nI ch)), some (.int (nI x)), none, none, none, none]) (st' := [.int (nI (m + 1)), .ref 110]) d_19_48 (fun _ => rfl) ?_
  refine cn_ic (v := 1) d_19_49 (by decide) ?_
  refine cn_sub d_19_50 (by omega) ?_
  refine cr_ia (a := 110) (v := (nI (op m))) d_19_51 (hS.i (a := 110) (by decide) (by decide)) (hS.s (a := 110) (by decide) (by decide) rfl) (by first | decide | omega) (show (m + 1) - 1 < 36 by first | omega | assumption | exact cu_36 (by omega) (cu_lt (by omega) (by omega))) (hB.2.2 m (by omega)) ?_
  refine cn_bp (v := 6) d_19_52 (by decide) ?_
  refine cn_rem d_19_54 (by first | omega | assumption | exact cu_36 (by omega) (cu_lt (by omega) (by omega))) (by first | omega | assumption | exact cu_36 (by omega) (cu_lt (by omega) (by omega))) (by first | omega | assumption | exact cu_36 (by omega) (cu_lt (by omega) (by omega))) ?_
  refine cr_tp (z := (nI y)) (congrArg nI hy) ?_
  refine cr_nx (pc' := 57) (al' := [some (.ref 107), some (.int (nI (m + 1))), some (.int (nI ch)), some (.int (nI x)), some (.int (nI y)), none, none, none]) (st' := []) d_19_55 (fun _ => rfl) ?_
  refine cr_nx (pc' := 58) (al' := [some (.ref 107), some (.int (nI (m + 1))), some (.int (nI ch)), some (.int (nI x)), some (.int (nI y)), none, none, none]) (st' := [.ref 107]) d_19_57 (fun _ => rfl) ?_
  refine cr_gf (v := .ref 108) d_19_58 cw_19 cf_2_9 (hS.i (a := 107) (by decide) (by decide)) (hS.s (a := 107) (by decide) (by decide) rfl) (by decide) (fx_107_1 hF) ?_
  refine cr_nx (pc' := 62) (al' := [some (.ref 107), some (.int (nI (m + 1))), some (.int (nI ch)), some (.int (nI x)), some (.int (nI y)), none, none, none]) (st' := [.int (nI x), .ref 108]) d_19_61 (fun _ => rfl) ?_
  refine cr_ia (a := 108) (v := (nI (rw x))) d_19_62 (hS.i (a := 108) (by decide) (by decide)) (hS.s (a := 108) (by decide) (by decide) rfl) (by first | decide | omega) (show x < 6 by first | omega | assumption | exact cu_36 (by omega) (cu_lt (by omega) (by omega))) (hB.1 x a1) ?_
  refine cr_nx (pc' := 64) (al' := [some (.ref 107), some (.int (nI (m + 1))), some (.int (nI ch)), some (.int (nI x)), some (.int (nI y)), none, none, none]) (st' := [.ref 107, .int (nI (rw x))]) d_19_63 (fun _ => rfl) ?_
  refine cr_gf (v := .ref 109) d_19_64 cw_19 cf_2_15 (hS.i (a := 107) (by decide) (by decide)) (hS.s (a := 107) (by decide) (by decide) rfl) (by decide) (fx_107_2 hF) ?_
  refine cr_nx (pc' := 69) (al' := [some (.ref 107), some (.int (nI (m + 1))), some (.int (nI ch)), some (.int (nI x)), some (.int (nI y)), none, none, none]) (st' := [.int (nI y), .ref 109, .int (nI (rw x))]) d_19_67 (fun _ => rfl) ?_
  refine cr_ia (a := 109) (v := (nI (cl y))) d_19_69 (hS.i (a := 109) (by decide) (by decide)) (hS.s (a := 109) (by decide) (by decide) rfl) (by first | decide | omega) (show y < 6 by first | omega | assumption | exact cu_36 (by omega) (cu_lt (by omega) (by omega))) (hB.2.1 y a2) ?_
  refine cn_or d_19_70 ?_
  refine cr_nx (pc' := 73) (al' := [some (.ref 107), some (.int (nI (m + 1))), some (.int (nI ch)), some (.int (nI x)), some (.int (nI y)), some (.int (nI ((rw x) ||| (cl y)))), none, none]) (st' := []) d_19_71 (fun _ => rfl) ?_
  refine cn_ic (v := 0) d_19_73 (by decide) ?_
  refine cr_nx (pc' := 76) (al' := [some (.ref 107), some (.int (nI (m + 1))), some (.int (nI ch)), some (.int (nI x)), some (.int (nI y)), some (.int (nI ((rw x) ||| (cl y)))), some (.int (nI 0)), none]) (st' := []) d_19_74 (fun _ => rfl) ?_
  refine cr_G (show G = (up2 G 107 5 (.int (nI (min t (f + SM (fun u => nB n (seT T (n * x + y) u)) 0))))) by rw [show min t (f + SM (fun u => nB n (seT T (n * x + y) u)) 0) = f by rw [SM_0]; omega]; exact (up2_id hf).symm) ?_
  refine cr_up (al := fun v => [some (.ref 107), some (.int (nI (m + 1))), some (.int (nI ch)), some (.int (nI x)), some (.int (nI y)), some (.int (nI ((rw x) ||| (cl y)))), some (.int (nI v)), none]) (S := fun v => S) (G := fun v => (up2 G 107 5 (.int (nI (min t (f + SM (fun u => nB n (seT T (n * x + y) u)) v)))))) (B := fun v => B) (J := fun v => J) (R := fun v => R) (P := fun v => True) (n := n) (fun v hv pv ihv => ?_) (fun pv => ?_) 0  (by omega) (trivial)
  · show CR _ _ 76 [some (.ref 107), some (.int (nI (m + 1))), some (.int (nI ch)), some (.int (nI x)), some (.int (nI y)), some (.int (nI ((rw x) ||| (cl y)))), some (.int (nI v)), none] [] S (up2 G 107 5 (.int (nI (min t (f + SM (fun u => nB n (seT T (n * x + y) u)) v))))) B J R _
    refine cr_nx (pc' := 78) (al' := [some (.ref 107), some (.int (nI (m + 1))), some (.int (nI ch)), some (.int (nI x)), some (.int (nI y)), some (.int (nI ((rw x) ||| (cl y)))), some (.int (nI v)), none]) (st' := [.int (nI v)]) d_19_76 (fun _ => rfl) ?_
    refine cr_nx (pc' := 79) (al' := [some (.ref 107), some (.int (nI (m + 1))), some (.int (nI ch)), some (.int (nI x)), some (.int (nI y)), some (.int (nI ((rw x) ||| (cl y)))), some (.int (nI v)), none]) (st' := [.ref 107, .int (nI v)]) d_19_78 (fun _ => rfl) ?_
    refine cr_gf (v := .int (nI n)) d_19_79 cw_19 cf_2_61 (hS.i (a := 107) (by decide) (by decide)) (hS.s (a := 107) (by decide) (by decide) rfl) (by decide) (by simp [up2]; exact hgn) ?_
    refine cn_cge (t := 173) d_19_82 (by decide) (by first | omega | assumption | exact cu_36 (by omega) (cu_lt (by omega) (by omega))) (by first | omega | assumption | exact cu_36 (by omega) (cu_lt (by omega) (by omega))) (fun c82 => ?_) (fun c82 => ?_)
    · omega
    · refine cr_nx (pc' := 86) (al' := [some (.ref 107), some (.int (nI (m + 1))), some (.int (nI ch)), some (.int (nI x)), some (.int (nI y)), some (.int (nI ((rw x) ||| (cl y)))), some (.int (nI v)), none]) (st' := [.ref 107]) d_19_85 (fun _ => rfl) ?_
      refine cr_gf (v := .int (nI (min t (f + SM (fun u => nB n (seT T (n * x + y) u)) v)))) d_19_86 cw_19 cf_2_21 (hS.i (a := 107) (by decide) (by decide)) (hS.s (a := 107) (by decide) (by decide) rfl) (by decide) (by simp [up2]) ?_
      refine cr_nx (pc' := 90) (al' := [some (.ref 107), some (.int (nI (m + 1))), some (.int (nI ch)), some (.int (nI x)), some (.int (nI y)), some (.int (nI ((rw x) ||| (cl y)))), some (.int (nI v)), none]) (st' := [.ref 107, .int (nI (min t (f + SM (fun u => nB n (seT T (n * x + y) u)) v)))]) d_19_89 (fun _ => rfl) ?_
      refine cr_gf (v := .int (nI t)) d_19_90 cw_19 cf_2_25 (hS.i (a := 107) (by decide) (by decide)) (hS.s (a := 107) (by decide) (by decide) rfl) (by decide) (by simp [up2]; exact ht) ?_
      refine cn_cge (t := 173) d_19_93 (by decide) (by omega) (by omega) (fun c93 => ?_) (fun c93 => ?_)
      · refine cr_nx (pc' := 174) (al' := [some (.ref 107), some (.int (nI (m + 1))), some (.int (nI ch)), some (.int (nI x)), some (.int (nI y)), some (.int (nI ((rw x) ||| (cl y)))), some (.int (nI v)), none]) (st' := [.ref 107]) d_19_173 (fun _ => rfl) ?_
        refine cr_gf (v := .ref 110) d_19_174 cw_19 cf_2_18 (hS.i (a := 107) (by decide) (by decide)) (hS.s (a := 107) (by decide) (by decide) rfl) (by decide) (by simp [up2]; exact (fx_107_3 hF)) ?_
        refine cr_nx (pc' := 178) (al' := [some (.ref 107), some (.int (nI (m + 1))), some (.int (nI ch)), some (.int (nI x)), some (.int (nI y)), some (.int (nI ((rw x) ||| (cl y)))), some (.int (nI v)), none]) (st' := [.int (nI ch), .ref 110]) d_19_177 (fun _ => rfl) ?_
        refine cr_nx (pc' := 179) (al' := [some (.ref 107), some (.int (nI (m + 1))), some (.int (nI ch)), some (.int (nI x)), some (.int (nI y)), some (.int (nI ((rw x) ||| (cl y)))), some (.int (nI v)), none]) (st' := [.int (nI (m + 1)), .int (nI ch), .ref 110]) d_19_178 (fun _ => rfl) ?_
        refine cn_ic (v := 1) d_19_179 (by decide) ?_
        refine cn_sub d_19_180 (by omega) ?_
        refine cr_ps (as := [.ref 110, .int (nI ch), .int (nI ((m + 1) - 1))]) (al0 := [some (.ref 110), some (.int (nI ch)), some (.int (nI ((m + 1) - 1))), none]) (r := []) d_19_181 cw_19 cm_2_74 (by decide) cz_131 rfl rfl rfl (Nat.le_of_ble_eq_true rfl) (k_exchange (hS.i (a := 110) (by decide) (by decide)) (hS.s (a := 110) (by decide) (by decide) rfl) (by omega) (by omega) (by omega)) ?_
        show CR _ _ 184 [some (.ref 107), some (.int (nI (m + 1))), some (.int (nI ch)), some (.int (nI x)), some (.int (nI y)), some (.int (nI ((rw x) ||| (cl y)))), some (.int (nI v)), none] [] S (up2 G 107 5 (.int (nI (min t (f + SM (fun u => nB n (seT T (n * x + y) u)) v))))) (upr B 110 (upd (upd (B 110) ch (B 110 ((m + 1) - 1))) ((m + 1) - 1) (B 110 ch))) J R _
        exact cr_rv d_19_184 cx_19 ⟨rfl, rfl, by rw [hI.br hx hy, fo_e c93 (SM_gr (Nat.le_of_lt hv))], rfl, rfl, rfl⟩
      · refine cn_ic (v := 1) d_19_96 (by decide) ?_
        refine cr_nx (pc' := 99) (al' := [some (.ref 107), some (.int (nI (m + 1))), some (.int (nI ch)), some (.int (nI x)), some (.int (nI y)), some (.int (nI ((rw x) ||| (cl y)))), some (.int (nI v)), none]) (st' := [.int (nI v), .int (nI 1)]) d_19_97 (fun _ => rfl) ?_
        refine cn_shl d_19_99 (by first | omega | assumption | exact cu_36 (by omega) (cu_lt (by omega) (by omega))) ?_
        refine cr_nx (pc' := 102) (al' := [some (.ref 107), some (.int (nI (m + 1))), some (.int (nI ch)), some (.int (nI x)), some (.int (nI y)), some (.int (nI ((rw x) ||| (cl y)))), some (.int (nI v)), some (.int (nI (1 * 2 ^ v)))]) (st' := []) d_19_100 (fun _ => rfl) ?_
        refine cr_nx (pc' := 104) (al' := [some (.ref 107), some (.int (nI (m + 1))), some (.int (nI ch)), some (.int (nI x)), some (.int (nI y)), some (.int (nI ((rw x) ||| (cl y)))), some (.int (nI v)), some (.int (nI (1 * 2 ^ v)))]) (st' := [.int (nI ((rw x) ||| (cl y)))]) d_19_102 (fun _ => rfl) ?_
        refine cr_nx (pc' := 106) (al' := [some (.ref 107), some (.int (nI (m + 1))), some (.int (nI ch)), some (.int (nI x)), some (.int (nI y)), some (.int (nI ((rw x) ||| (cl y)))), some (.int (nI v)), some (.int (nI (1 * 2 ^ v)))]) (st' := [.int (nI (1 * 2 ^ v)), .int (nI ((rw x) ||| (cl y)))]) d_19_104 (fun _ => rfl) ?_
        refine cn_and d_19_106 ?_
        refine cn_ine (t := 167) d_19_107 (by decide) (Nat.lt_of_le_of_lt Nat.and_le_left (by have := or_64 r64 c64; omega)) (fun c107 => ?_) (fun c107 => ?_)
        · refine cn_inc d_19_167 rfl rfl ?_
          show CR _ _ 170 [some (.ref 107), some (.int (nI (m + 1))), some (.int (nI ch)), some (.int (nI x)), some (.int (nI y)), some (.int (nI ((rw x) ||| (cl y)))), some (.int (nI (v + 1))), some (.int (nI (1 * 2 ^ v)))] [] S (up2 G 107 5 (.int (nI (min t (f + SM (fun u => nB n (seT T (n * x + y) u)) v))))) B J R _
          refine cr_nx (pc' := 76) (al' := [some (.ref 107), some (.int (nI (m + 1))), some (.int (nI ch)), some (.int (nI x)), some (.int (nI y)), some (.int (nI ((rw x) ||| (cl y)))), some (.int (nI (v + 1))), some (.int (nI (1 * 2 ^ v)))]) (st' := []) d_19_170 (fun _ => rfl) ?_
          refine cr_G (show (up2 G 107 5 (.int (nI (min t (f + SM (fun u => nB n (seT T (n * x + y) u)) v))))) = (up2 G 107 5 (.int (nI (min t (f + SM (fun u => nB n (seT T (n * x + y) u)) (v + 1)))))) by rw [SM_s, hI.us hx hy (by omega)]; rfl) ?_
          refine cr_dr (al1 := [some (.ref 107), some (.int (nI (m + 1))), some (.int (nI ch)), some (.int (nI x)), some (.int (nI y)), some (.int (nI ((rw x) ||| (cl y)))), some (.int (nI (v + 1))), none]) (le_s (le_s (le_s (le_s (le_s (le_s (le_s (le_d rfl (le_n))))))))) ?_
          exact ihv  (trivial)
        · have hb := c107
          rw [and_p, Nat.testBit_or, Bool.or_eq_false_iff] at hb
          refine cr_nx (pc' := 111) (al' := [some (.ref 107), some (.int (nI (m + 1))), some (.int (nI ch)), some (.int (nI x)), some (.int (nI y)), some (.int (nI ((rw x) ||| (cl y)))), some (.int (nI v)), some (.int (nI (1 * 2 ^ v)))]) (st' := [.ref 107]) d_19_110 (fun _ => rfl) ?_
          refine cr_gf (v := .ref 108) d_19_111 cw_19 cf_2_9 (hS.i (a := 107) (by decide) (by decide)) (hS.s (a := 107) (by decide) (by decide) rfl) (by decide) (by simp [up2]; exact (fx_107_1 hF)) ?_
          refine cr_nx (pc' := 115) (al' := [some (.ref 107), some (.int (nI (m + 1))), some (.int (nI ch)), some (.int (nI x)), some (.int (nI y)), some (.int (nI ((rw x) ||| (cl y)))), some (.int (nI v)), some (.int (nI (1 * 2 ^ v)))]) (st' := [.int (nI x), .ref 108]) d_19_114 (fun _ => rfl) ?_
          refine cr_nx (pc' := 116) (al' := [some (.ref 107), some (.int (nI (m + 1))), some (.int (nI ch)), some (.int (nI x)), some (.int (nI y)), some (.int (nI ((rw x) ||| (cl y)))), some (.int (nI v)), some (.int (nI (1 * 2 ^ v)))]) (st' := [.int (nI x), .ref 108, .int (nI x), .ref 108]) d_19_115 (fun _ => rfl) ?_
          refine cr_ia (a := 108) (v := (nI (rw x))) d_19_116 (hS.i (a := 108) (by decide) (by decide)) (hS.s (a := 108) (by decide) (by decide) rfl) (by first | decide | omega) (show x < 6 by first | omega | assumption | exact cu_36 (by omega) (cu_lt (by omega) (by omega))) (hB.1 x a1) ?_
          refine cr_nx (pc' := 119) (al' := [some (.ref 107), some (.int (nI (m + 1))), some (.int (nI ch)), some (.int (nI x)), some (.int (nI y)), some (.int (nI ((rw x) ||| (cl y)))), some (.int (nI v)), some (.int (nI (1 * 2 ^ v)))]) (st' := [.int (nI (1 * 2 ^ v)), .int (nI (rw x)), .int (nI x), .ref 108]) d_19_117 (fun _ => rfl) ?_
          refine cn_or d_19_119 ?_
          refine cr_iS (a := 108) (B1 := (upr B 108 (upd (B 108) x (nI ((rw x) ||| (1 * 2 ^ v)))))) d_19_120 (hS.i (a := 108) (by decide) (by decide)) (hS.s (a := 108) (by decide) (by decide) rfl) (by first | decide | omega) (show x < 6 by first | omega | assumption | exact cu_36 (by omega) (cu_lt (by omega) (by omega))) rfl ?_
          refine cr_nx (pc' := 122) (al' := [some (.ref 107), some (.int (nI (m + 1))), some (.int (nI ch)), some (.int (nI x)), some (.int (nI y)), some (.int (nI ((rw x) ||| (cl y)))), some (.int (nI v)), some (.int (nI (1 * 2 ^ v)))]) (st' := [.ref 107]) d_19_121 (fun _ => rfl) ?_
          refine cr_gf (v := .ref 109) d_19_122 cw_19 cf_2_15 (hS.i (a := 107) (by decide) (by decide)) (hS.s (a := 107) (by decide) (by decide) rfl) (by decide) (by simp [up2]; exact (fx_107_2 hF)) ?_
          refine cr_nx (pc' := 127) (al' := [some (.ref 107), some (.int (nI (m + 1))), some (.int (nI ch)), some (.int (nI x)), some (.int (nI y)), some (.int (nI ((rw x) ||| (cl y)))), some (.int (nI v)), some (.int (nI (1 * 2 ^ v)))]) (st' := [.int (nI y), .ref 109]) d_19_125 (fun _ => rfl) ?_
          refine cr_nx (pc' := 128) (al' := [some (.ref 107), some (.int (nI (m + 1))), some (.int (nI ch)), some (.int (nI x)), some (.int (nI y)), some (.int (nI ((rw x) ||| (cl y)))), some (.int (nI v)), some (.int (nI (1 * 2 ^ v)))]) (st' := [.int (nI y), .ref 109, .int (nI y), .ref 109]) d_19_127 (fun _ => rfl) ?_
          refine cr_ia (a := 109) (v := (nI (cl y))) d_19_128 (hS.i (a := 109) (by decide) (by decide)) (hS.s (a := 109) (by decide) (by decide) rfl) (by first | decide | omega) (show y < 6 by first | omega | assumption | exact cu_36 (by omega) (cu_lt (by omega) (by omega))) ((congrFun (by rw [upr_n (show (109 : Nat) ≠ 108 by decide)] : (upr B 108 (upd (B 108) x (nI ((rw x) ||| (1 * 2 ^ v))))) 109 = B 109) _).trans (hB.2.1 y a2)) ?_
          refine cr_nx (pc' := 131) (al' := [some (.ref 107), some (.int (nI (m + 1))), some (.int (nI ch)), some (.int (nI x)), some (.int (nI y)), some (.int (nI ((rw x) ||| (cl y)))), some (.int (nI v)), some (.int (nI (1 * 2 ^ v)))]) (st' := [.int (nI (1 * 2 ^ v)), .int (nI (cl y)), .int (nI y), .ref 109]) d_19_129 (fun _ => rfl) ?_
          refine cn_or d_19_131 ?_
          refine cr_iS (a := 109) (B1 := (upr (upr B 108 (upd (B 108) x (nI ((rw x) ||| (1 * 2 ^ v))))) 109 (upd (B 109) y (nI ((cl y) ||| (1 * 2 ^ v)))))) d_19_132 (hS.i (a := 109) (by decide) (by decide)) (hS.s (a := 109) (by decide) (by decide) rfl) (by first | decide | omega) (show y < 6 by first | omega | assumption | exact cu_36 (by omega) (cu_lt (by omega) (by omega))) (by rw [show (upr B 108 (upd (B 108) x (nI ((rw x) ||| (1 * 2 ^ v))))) 109 = B 109 from by rw [upr_n (show (109 : Nat) ≠ 108 by decide)]]) ?_
          refine cr_nx (pc' := 134) (al' := [some (.ref 107), some (.int (nI (m + 1))), some (.int (nI ch)), some (.int (nI x)), some (.int (nI y)), some (.int (nI ((rw x) ||| (cl y)))), some (.int (nI v)), some (.int (nI (1 * 2 ^ v)))]) (st' := [.ref 107]) d_19_133 (fun _ => rfl) ?_
          refine cr_nx (pc' := 135) (al' := [some (.ref 107), some (.int (nI (m + 1))), some (.int (nI ch)), some (.int (nI x)), some (.int (nI y)), some (.int (nI ((rw x) ||| (cl y)))), some (.int (nI v)), some (.int (nI (1 * 2 ^ v)))]) (st' := [.int (nI (m + 1)), .ref 107]) d_19_134 (fun _ => rfl) ?_
          refine cn_ic (v := 1) d_19_135 (by decide) ?_
          refine cn_sub d_19_136 (by omega) ?_
          refine cr_pv (b := 107) (as := [.int (nI ((m + 1) - 1))]) (al0 := [some (.ref 107), some (.int (nI ((m + 1) - 1))), none, none, none, none, none, none]) (r := []) d_19_137 cw_19 cm_2_35 cz_19 rfl rfl (hS.i (a := 107) (by decide) (by decide)) (by rw [cw_19]; exact (hS.s (a := 107) (by decide) (by decide) rfl)) (by rw [cw_19]; decide) rfl (Nat.le_refl _) (hR v _ hv c93 c107) ?_
          show CR _ _ 140 [some (.ref 107), some (.int (nI (m + 1))), some (.int (nI ch)), some (.int (nI x)), some (.int (nI y)), some (.int (nI ((rw x) ||| (cl y)))), some (.int (nI v)), some (.int (nI (1 * 2 ^ v)))] [] S (up2 G 107 5 (.int (nI (min t (min t (f + SM (fun u => nB n (seT T (n * x + y) u)) v) + nB n (seT T (n * x + y) v)))))) (upr (upr B 108 (upd (B 108) x (nI ((rw x) ||| (1 * 2 ^ v))))) 109 (upd (B 109) y (nI ((cl y) ||| (1 * 2 ^ v))))) J R _
          refine cr_nx (pc' := 141) (al' := [some (.ref 107), some (.int (nI (m + 1))), some (.int (nI ch)), some (.int (nI x)), some (.int (nI y)), some (.int (nI ((rw x) ||| (cl y)))), some (.int (nI v)), some (.int (nI (1 * 2 ^ v)))]) (st' := [.ref 107]) d_19_140 (fun _ => rfl) ?_
          refine cr_gf (v := .ref 108) d_19_141 cw_19 cf_2_9 (hS.i (a := 107) (by decide) (by decide)) (hS.s (a := 107) (by decide) (by decide) rfl) (by decide) (by simp [up2]; exact (fx_107_1 hF)) ?_
          refine cr_nx (pc' := 145) (al' := [some (.ref 107), some (.int (nI (m + 1))), some (.int (nI ch)), some (.int (nI x)), some (.int (nI y)), some (.int (nI ((rw x) ||| (cl y)))), some (.int (nI v)), some (.int (nI (1 * 2 ^ v)))]) (st' := [.int (nI x), .ref 108]) d_19_144 (fun _ => rfl) ?_
          refine cr_nx (pc' := 146) (al' := [some (.ref 107), some (.int (nI (m + 1))), some (.int (nI ch)), some (.int (nI x)), some (.int (nI y)), some (.int (nI ((rw x) ||| (cl y)))), some (.int (nI v)), some (.int (nI (1 * 2 ^ v)))]) (st' := [.int (nI x), .ref 108, .int (nI x), .ref 108]) d_19_145 (fun _ => rfl) ?_
          refine cr_ia (a := 108) (v := (nI (rw x ||| 1 * 2 ^ v))) d_19_146 (hS.i (a := 108) (by decide) (by decide)) (hS.s (a := 108) (by decide) (by decide) rfl) (by first | decide | omega) (show x < 6 by first | omega | assumption | exact cu_36 (by omega) (cu_lt (by omega) (by omega))) ((congrFun (by rw [upr_n (show (108 : Nat) ≠ 109 by decide), upr_s] : (upr (upr B 108 (upd (B 108) x (nI ((rw x) ||| (1 * 2 ^ v))))) 109 (upd (B 109) y (nI ((cl y) ||| (1 * 2 ^ v))))) 108 = (upd (B 108) x (nI ((rw x) ||| (1 * 2 ^ v))))) _).trans pk_us) ?_
          refine cr_nx (pc' := 149) (al' := [some (.ref 107), some (.int (nI (m + 1))), some (.int (nI ch)), some (.int (nI x)), some (.int (nI y)), some (.int (nI ((rw x) ||| (cl y)))), some (.int (nI v)), some (.int (nI (1 * 2 ^ v)))]) (st' := [.int (nI (1 * 2 ^ v)), .int (nI (rw x ||| 1 * 2 ^ v)), .int (nI x), .ref 108]) d_19_147 (fun _ => rfl) ?_
          refine cr_nx (pc' := 150) (al' := [some (.ref 107), some (.int (nI (m + 1))), some (.int (nI ch)), some (.int (nI x)), some (.int (nI y)), some (.int (nI ((rw x) ||| (cl y)))), some (.int (nI v)), some (.int (nI (1 * 2 ^ v)))]) (st' := [.int (-1), .int (nI (1 * 2 ^ v)), .int (nI (rw x ||| 1 * 2 ^ v)), .int (nI x), .ref 108]) d_19_149 (fun _ => rfl) ?_
          refine cn_not d_19_150 ?_
          refine cn_and d_19_151 ?_
          refine cr_iS (a := 108) (B1 := (upr B 109 (upd (B 109) y (nI ((cl y) ||| (1 * 2 ^ v)))))) d_19_152 (hS.i (a := 108) (by decide) (by decide)) (hS.s (a := 108) (by decide) (by decide) rfl) (by first | decide | omega) (show x < 6 by first | omega | assumption | exact cu_36 (by omega) (cu_lt (by omega) (by omega))) (fo_r1 (hB.1 x a1) r64 (by omega) hb.1) ?_
          refine cr_nx (pc' := 154) (al' := [some (.ref 107), some (.int (nI (m + 1))), some (.int (nI ch)), some (.int (nI x)), some (.int (nI y)), some (.int (nI ((rw x) ||| (cl y)))), some (.int (nI v)), some (.int (nI (1 * 2 ^ v)))]) (st' := [.ref 107]) d_19_153 (fun _ => rfl) ?_
          refine cr_gf (v := .ref 109) d_19_154 cw_19 cf_2_15 (hS.i (a := 107) (by decide) (by decide)) (hS.s (a := 107) (by decide) (by decide) rfl) (by decide) (by simp [up2]; exact (fx_107_2 hF)) ?_
          refine cr_nx (pc' := 159) (al' := [some (.ref 107), some (.int (nI (m + 1))), some (.int (nI ch)), some (.int (nI x)), some (.int (nI y)), some (.int (nI ((rw x) ||| (cl y)))), some (.int (nI v)), some (.int (nI (1 * 2 ^ v)))]) (st' := [.int (nI y), .ref 109]) d_19_157 (fun _ => rfl) ?_
          refine cr_nx (pc' := 160) (al' := [some (.ref 107), some (.int (nI (m + 1))), some (.int (nI ch)), some (.int (nI x)), some (.int (nI y)), some (.int (nI ((rw x) ||| (cl y)))), some (.int (nI v)), some (.int (nI (1 * 2 ^ v)))]) (st' := [.int (nI y), .ref 109, .int (nI y), .ref 109]) d_19_159 (fun _ => rfl) ?_
          refine cr_ia (a := 109) (v := (nI (cl y ||| 1 * 2 ^ v))) d_19_160 (hS.i (a := 109) (by decide) (by decide)) (hS.s (a := 109) (by decide) (by decide) rfl) (by first | decide | omega) (show y < 6 by first | omega | assumption | exact cu_36 (by omega) (cu_lt (by omega) (by omega))) ((congrFun (by rw [upr_s] : (upr B 109 (upd (B 109) y (nI ((cl y) ||| (1 * 2 ^ v))))) 109 = (upd (B 109) y (nI ((cl y) ||| (1 * 2 ^ v))))) _).trans pk_us) ?_
          refine cr_nx (pc' := 163) (al' := [some (.ref 107), some (.int (nI (m + 1))), some (.int (nI ch)), some (.int (nI x)), some (.int (nI y)), some (.int (nI ((rw x) ||| (cl y)))), some (.int (nI v)), some (.int (nI (1 * 2 ^ v)))]) (st' := [.int (nI (1 * 2 ^ v)), .int (nI (cl y ||| 1 * 2 ^ v)), .int (nI y), .ref 109]) d_19_161 (fun _ => rfl) ?_
          refine cr_nx (pc' := 164) (al' := [some (.ref 107), some (.int (nI (m + 1))), some (.int (nI ch)), some (.int (nI x)), some (.int (nI y)), some (.int (nI ((rw x) ||| (cl y)))), some (.int (nI v)), some (.int (nI (1 * 2 ^ v)))]) (st' := [.int (-1), .int (nI (1 * 2 ^ v)), .int (nI (cl y ||| 1 * 2 ^ v)), .int (nI y), .ref 109]) d_19_163 (fun _ => rfl) ?_
          refine cn_not d_19_164 ?_
          refine cn_and d_19_165 ?_
          refine cr_iS (a := 109) (B1 := B) d_19_166 (hS.i (a := 109) (by decide) (by decide)) (hS.s (a := 109) (by decide) (by decide) rfl) (by first | decide | omega) (show y < 6 by first | omega | assumption | exact cu_36 (by omega) (cu_lt (by omega) (by omega))) (fo_r2 (hB.2.1 y a2) c64 (by omega) hb.2) ?_
          refine cn_inc d_19_167 rfl rfl ?_
          show CR _ _ 170 [some (.ref 107), some (.int (nI (m + 1))), some (.int (nI ch)), some (.int (nI x)), some (.int (nI y)), some (.int (nI ((rw x) ||| (cl y)))), some (.int (nI (v + 1))), some (.int (nI (1 * 2 ^ v)))] [] S (up2 G 107 5 (.int (nI (min t (min t (f + SM (fun u => nB n (seT T (n * x + y) u)) v) + nB n (seT T (n * x + y) v)))))) B J R _
          refine cr_nx (pc' := 76) (al' := [some (.ref 107), some (.int (nI (m + 1))), some (.int (nI ch)), some (.int (nI x)), some (.int (nI y)), some (.int (nI ((rw x) ||| (cl y)))), some (.int (nI (v + 1))), some (.int (nI (1 * 2 ^ v)))]) (st' := []) d_19_170 (fun _ => rfl) ?_
          refine cr_G (show (up2 G 107 5 (.int (nI (min t (min t (f + SM (fun u => nB n (seT T (n * x + y) u)) v) + nB n (seT T (n * x + y) v)))))) = (up2 G 107 5 (.int (nI (min t (f + SM (fun u => nB n (seT T (n * x + y) u)) (v + 1)))))) by rw [SM_s, mn_s c93]) ?_
          refine cr_dr (al1 := [some (.ref 107), some (.int (nI (m + 1))), some (.int (nI ch)), some (.int (nI x)), some (.int (nI y)), some (.int (nI ((rw x) ||| (cl y)))), some (.int (nI (v + 1))), none]) (le_s (le_s (le_s (le_s (le_s (le_s (le_s (le_d rfl (le_n))))))))) ?_
          exact ihv  (trivial)
  · show CR _ _ 76 [some (.ref 107), some (.int (nI (m + 1))), some (.int (nI ch)), some (.int (nI x)), some (.int (nI y)), some (.int (nI ((rw x) ||| (cl y)))), some (.int (nI n)), none] [] S (up2 G 107 5 (.int (nI (min t (f + SM (fun u => nB n (seT T (n * x + y) u)) n))))) B J R _
    refine cr_nx (pc' := 78) (al' := [some (.ref 107), some (.int (nI (m + 1))), some (.int (nI ch)), some (.int (nI x)), some (.int (nI y)), some (.int (nI ((rw x) ||| (cl y)))), some (.int (nI n)), none]) (st' := [.int (nI n)]) d_19_76 (fun _ => rfl) ?_
    refine cr_nx (pc' := 79) (al' := [some (.ref 107), some (.int (nI (m + 1))), some (.int (nI ch)), some (.int (nI x)), some (.int (nI y)), some (.int (nI ((rw x) ||| (cl y)))), some (.int (nI n)), none]) (st' := [.ref 107, .int (nI n)]) d_19_78 (fun _ => rfl) ?_
    refine cr_gf (v := .int (nI n)) d_19_79 cw_19 cf_2_61 (hS.i (a := 107) (by decide) (by decide)) (hS.s (a := 107) (by decide) (by decide) rfl) (by decide) (by simp [up2]; exact hgn) ?_
    refine cn_cge (t := 173) d_19_82 (by decide) (by first | omega | assumption | exact cu_36 (by omega) (cu_lt (by omega) (by omega))) (by first | omega | assumption | exact cu_36 (by omega) (cu_lt (by omega) (by omega))) (fun c82 => ?_) (fun c82 => ?_)
    · refine cr_nx (pc' := 174) (al' := [some (.ref 107), some (.int (nI (m + 1))), some (.int (nI ch)), some (.int (nI x)), some (.int (nI y)), some (.int (nI ((rw x) ||| (cl y)))), some (.int (nI n)), none]) (st' := [.ref 107]) d_19_173 (fun _ => rfl) ?_
      refine cr_gf (v := .ref 110) d_19_174 cw_19 cf_2_18 (hS.i (a := 107) (by decide) (by decide)) (hS.s (a := 107) (by decide) (by decide) rfl) (by decide) (by simp [up2]; exact (fx_107_3 hF)) ?_
      refine cr_nx (pc' := 178) (al' := [some (.ref 107), some (.int (nI (m + 1))), some (.int (nI ch)), some (.int (nI x)), some (.int (nI y)), some (.int (nI ((rw x) ||| (cl y)))), some (.int (nI n)), none]) (st' := [.int (nI ch), .ref 110]) d_19_177 (fun _ => rfl) ?_
      refine cr_nx (pc' := 179) (al' := [some (.ref 107), some (.int (nI (m + 1))), some (.int (nI ch)), some (.int (nI x)), some (.int (nI y)), some (.int (nI ((rw x) ||| (cl y)))), some (.int (nI n)), none]) (st' := [.int (nI (m + 1)), .int (nI ch), .ref 110]) d_19_178 (fun _ => rfl) ?_
      refine cn_ic (v := 1) d_19_179 (by decide) ?_
      refine cn_sub d_19_180 (by omega) ?_
      refine cr_ps (as := [.ref 110, .int (nI ch), .int (nI ((m + 1) - 1))]) (al0 := [some (.ref 110), some (.int (nI ch)), some (.int (nI ((m + 1) - 1))), none]) (r := []) d_19_181 cw_19 cm_2_74 (by decide) cz_131 rfl rfl rfl (Nat.le_of_ble_eq_true rfl) (k_exchange (hS.i (a := 110) (by decide) (by decide)) (hS.s (a := 110) (by decide) (by decide) rfl) (by omega) (by omega) (by omega)) ?_
      show CR _ _ 184 [some (.ref 107), some (.int (nI (m + 1))), some (.int (nI ch)), some (.int (nI x)), some (.int (nI y)), some (.int (nI ((rw x) ||| (cl y)))), some (.int (nI n)), none] [] S (up2 G 107 5 (.int (nI (min t (f + SM (fun u => nB n (seT T (n * x + y) u)) n))))) (upr B 110 (upd (upd (B 110) ch (B 110 ((m + 1) - 1))) ((m + 1) - 1) (B 110 ch))) J R _
      exact cr_rv d_19_184 cx_19 ⟨rfl, rfl, by rw [hI.br hx hy], rfl, rfl, rfl⟩
    · omega
theorem k_fo_0 {S : CS} {G : Nat → Nat → Value} {B : Nat → Nat → Int32} {J : Nat → Nat → Int64} {R : Nat → Nat → Option Nat} {Q : CQ} (hS : ShOk S) (hF : FxG G) {n m : Nat} {T : Nat → Option Nat} {rw cl op : Nat → Nat} (hn6 : n ≤ 6) (hn : 0 < n) (hI : FoI n T rw cl op (m + 1)) (hB : FoB n rw cl op (m + 1) B) (hm : m + 1 ≤ 36) (hgn : G 107 0 = .int (nI n)) {K : Nat} (hK : 1 ≤ K) (hk : ∀ ch, ch < m + 1 → CR (K + 1) 19 32 [some (.ref 107), some (.int (nI (m + 1))), some (.int (nI ch)), none, none, none, none, none] [] S G (upr B 110 (upd (upd (B 110) ch (B 110 (m + 1 - 1))) (m + 1 - 1) (B 110 ch))) J R Q) : CR (K + 1) 19 0 [some (.ref 107), some (.int (nI (m + 1))), none, none, none, none, none, none] [] S G B J R Q := by
  refine cr_nx (pc' := 1) (al' := [some (.ref 107), some (.int (nI (m + 1))), none, none, none, none, none, none]) (st' := [.int (nI (m + 1))]) d_19_0 (fun _ => rfl) ?_
  refine cn_ine (t := 15) d_19_1 (by decide) (by first | omega | assumption | exact cu_36 (by omega) (cu_lt (by omega) (by omega))) (fun c1 => ?_) (fun c1 => ?_)
  · refine cr_nx (pc' := 16) (al' := [some (.ref 107), some (.int (nI (m + 1))), none, none, none, none, none, none]) (st' := [.ref 107]) d_19_15 (fun _ => rfl) ?_
    refine cr_nx (pc' := 17) (al' := [some (.ref 107), some (.int (nI (m + 1))), none, none, none, none, none, none]) (st' := [.int (nI (m + 1)), .ref 107]) d_19_16 (fun _ => rfl) ?_
    refine cr_cv (b := 107) (as := [.int (nI (m + 1))]) (al0 := [some (.ref 107), some (.int (nI (m + 1))), none, none, none, none, none]) (r := []) d_19_17 cw_19 cm_2_70 cz_20 rfl rfl (hS.i (a := 107) (by decide) (by decide)) (by rw [cw_20]; exact (hS.s (a := 107) (by decide) (by decide) rfl)) (by rw [cw_20]; decide) rfl (cr_wk (by omega) (k_tightest hS hF hn6 hn hI hB (by omega) hgn (by omega))) (fun v1 S1 G1 B1 J1 R1 h1 => ?_)
    obtain ⟨ch, hch, q0_, q1_, q2_, q3_, q4_, q5_⟩ := h1
    obtain rfl := q0_
    obtain rfl := q1_.symm
    obtain rfl := q2_.symm
    obtain rfl := q3_.symm
    obtain rfl := q4_.symm
    obtain rfl := q5_.symm
    show CR _ _ 20 [some (.ref 107), some (.int (nI (m + 1))), none, none, none, none, none, none] [.int (nI ch)] S G B J R _
    refine cr_nx (pc' := 21) (al' := [some (.ref 107), some (.int (nI (m + 1))), some (.int (nI ch)), none, none, none, none, none]) (st' := []) d_19_20 (fun _ => rfl) ?_
    refine cr_nx (pc' := 22) (al' := [some (.ref 107), some (.int (nI (m + 1))), some (.int (nI ch)), none, none, none, none, none]) (st' := [.ref 107]) d_19_21 (fun _ => rfl) ?_
    refine cr_gf (v := .ref 110) d_19_22 cw_19 cf_2_18 (hS.i (a := 107) (by decide) (by decide)) (hS.s (a := 107) (by decide) (by decide) rfl) (by decide) (fx_107_3 hF) ?_
    refine cr_nx (pc' := 26) (al' := [some (.ref 107), some (.int (nI (m + 1))), some (.int (nI ch)), none, none, none, none, none]) (st' := [.int (nI ch), .ref 110]) d_19_25 (fun _ => rfl) ?_
    refine cr_nx (pc' := 27) (al' := [some (.ref 107), some (.int (nI (m + 1))), some (.int (nI ch)), none, none, none, none, none]) (st' := [.int (nI (m + 1)), .int (nI ch), .ref 110]) d_19_26 (fun _ => rfl) ?_
    refine cn_ic (v := 1) d_19_27 (by decide) ?_
    refine cn_sub d_19_28 (by omega) ?_
    refine cr_ps (as := [.ref 110, .int (nI ch), .int (nI ((m + 1) - 1))]) (al0 := [some (.ref 110), some (.int (nI ch)), some (.int (nI ((m + 1) - 1))), none]) (r := []) d_19_29 cw_19 cm_2_74 (by decide) cz_131 rfl rfl rfl (Nat.le_of_ble_eq_true rfl) (k_exchange (hS.i (a := 110) (by decide) (by decide)) (hS.s (a := 110) (by decide) (by decide) rfl) (by omega) (by omega) (by omega)) ?_
    show CR _ _ 32 [some (.ref 107), some (.int (nI (m + 1))), some (.int (nI ch)), none, none, none, none, none] [] S G (upr B 110 (upd (upd (B 110) ch (B 110 ((m + 1) - 1))) ((m + 1) - 1) (B 110 ch))) J R _
    exact hk ch hch
  · omega
theorem k_fo_z {S : CS} {G : Nat → Nat → Value} {B : Nat → Nat → Int32} {J : Nat → Nat → Int64} {R : Nat → Nat → Option Nat} (hS : ShOk S) {f : Nat} (hf : G 107 5 = .int (nI f)) : CR 2 19 0 [some (.ref 107), some (.int (nI 0)), none, none, none, none, none, none] [] S G B J R (cP none S (up2 G 107 5 (.int (nI (f + 1)))) B J R) := by
  refine cr_nx (pc' := 1) (al' := [some (.ref 107), some (.int (nI 0)), none, none, none, none, none, none]) (st' := [.int (nI 0)]) d_19_0 (fun _ => rfl) ?_
  refine cn_ine (t := 15) d_19_1 (by decide) (by first | omega | assumption | exact cu_36 (by omega) (cu_lt (by omega) (by omega))) (fun c1 => ?_) (fun c1 => ?_)
  · omega
  · refine cr_nx (pc' := 5) (al' := [some (.ref 107), some (.int (nI 0)), none, none, none, none, none, none]) (st' := [.ref 107]) d_19_4 (fun _ => rfl) ?_
    refine cr_nx (pc' := 6) (al' := [some (.ref 107), some (.int (nI 0)), none, none, none, none, none, none]) (st' := [.ref 107, .ref 107]) d_19_5 (fun _ => rfl) ?_
    refine cr_gf (v := .int (nI f)) d_19_6 cw_19 cf_2_21 (hS.i (a := 107) (by decide) (by decide)) (hS.s (a := 107) (by decide) (by decide) rfl) (by decide) hf ?_
    refine cn_ic (v := 1) d_19_9 (by decide) ?_
    refine cn_add d_19_10  ?_
    refine cp_2_5  d_19_11 cw_19 cf_2_21 (hS.i (a := 107) (by decide) (by decide)) (hS.s (a := 107) (by decide) (by decide) rfl) (by decide) ?_
    exact cr_rv d_19_14 cx_19 ⟨rfl, rfl, rfl, rfl, rfl, rfl⟩
theorem FoB.ex {n : Nat} {rw cl op : Nat → Nat} {m ch : Nat} {B : Nat → Nat → Int32} (h : FoB n rw cl op (m + 1) B) (hch : ch < m + 1) : FoB n rw cl (xchN op ch m) (m + 1) (upr B 110 (upd (upd (B 110) ch (B 110 m)) m (B 110 ch))) := by
  refine ⟨fun x hx => by rw [upr_n (by decide)]; exact h.1 x hx, fun y hy => by rw [upr_n (by decide)]; exact h.2.1 y hy, fun i hi => ?_⟩
  rw [upr_s]
  unfold xchN
  by_cases e : i = m
  · rw [e, pk_us, upN_s]; exact h.2.2 ch hch
  · rw [pk_un e, upN_n e]
    by_cases e2 : i = ch
    · rw [e2, pk_us, upN_s]; exact h.2.2 m (by omega)
    · rw [pk_un e2, upN_n e2]; exact h.2.2 i hi
theorem ex_bk {B : Nat → Nat → Int32} {ch m : Nat} : upr (upr B 110 (upd (upd (B 110) ch (B 110 m)) m (B 110 ch))) 110 (upd (upd (upr B 110 (upd (upd (B 110) ch (B 110 m)) m (B 110 ch)) 110) ch (upr B 110 (upd (upd (B 110) ch (B 110 m)) m (B 110 ch)) 110 m)) m (upr B 110 (upd (upd (B 110) ch (B 110 m)) m (B 110 ch)) 110 ch)) = B := by
  rw [upr_s, upr_u]
  have : upd (upd (upd (upd (B 110) ch (B 110 m)) m (B 110 ch)) ch (upd (upd (B 110) ch (B 110 m)) m (B 110 ch) m)) m (upd (upd (B 110) ch (B 110 m)) m (B 110 ch) ch) = B 110 := by
    funext q
    by_cases e : q = m
    · rw [e, pk_us]
      by_cases e2 : ch = m
      · rw [e2, pk_us]
      · rw [pk_un e2, pk_us]
    · rw [pk_un e]
      by_cases e2 : q = ch
      · rw [e2, pk_us, pk_us]
      · rw [pk_un e2, pk_un e, pk_un e2]
  rw [this, upr_id]
theorem FoB.pt {n : Nat} {rw cl op : Nat → Nat} {m v x y : Nat} {B : Nat → Nat → Int32} (h : FoB n rw cl op (m + 1) B) : FoB n (upN rw x (rw x ||| 1 * 2 ^ v)) (upN cl y (cl y ||| 1 * 2 ^ v)) op m (upr (upr B 108 (upd (B 108) x (nI (rw x ||| 1 * 2 ^ v)))) 109 (upd (B 109) y (nI (cl y ||| 1 * 2 ^ v)))) := by
  refine ⟨fun z hz => ?_, fun z hz => ?_, fun i hi => ?_⟩
  · rw [upr_n (by decide), upr_s]
    by_cases e : z = x
    · rw [e, pk_us, upN_s]
    · rw [pk_un e, upN_n e]; exact h.1 z hz
  · rw [upr_s]
    by_cases e : z = y
    · rw [e, pk_us, upN_s]
    · rw [pk_un e, upN_n e]; exact h.2.1 z hz
  · rw [upr_n (by decide), upr_n (by decide)]
    exact h.2.2 i (by omega)
theorem FxG.u5 {G : Nat → Nat → Value} {k : Nat} {v : Value} (hk : k = 0 ∨ k = 4 ∨ k = 5 ∨ k = 6) (h : FxG G) : FxG (up2 G 107 k v) := fun e he => by
  rw [up2_n]
  · exact h e he
  · intro q
    simp only [List.mem_cons, List.mem_nil_iff, or_false, Prod.ext_iff] at he
    omega
theorem k_fillOpen {S : CS} {J : Nat → Nat → Int64} {R : Nat → Nat → Option Nat} (hS : ShOk S) {n : Nat} (hn6 : n ≤ 6) (hn : 0 < n) {t : Nat} (ht2 : t ≤ 100000) : ∀ (m : Nat) (T : Nat → Option Nat) (rw cl op : Nat → Nat) (f : Nat) (G : Nat → Nat → Value) (B : Nat → Nat → Int32), FxG G → FoI n T rw cl op m → FoB n rw cl op m B → m ≤ 36 → G 107 0 = .int (nI n) → G 107 5 = .int (nI f) → G 107 6 = .int (nI t) → f < t → CR (m + 2) 19 0 [some (.ref 107), some (.int (nI m)), none, none, none, none, none, none] [] S G B J R (cP none S (up2 G 107 5 (.int (nI (min t (f + nB n T))))) B J R)
  | 0, T, rw, cl, op, f, G, B, hF, hI, hB, hm, hgn, hf, ht, hft => by
    rw [hI.leaf hn, show min t (f + 1) = f + 1 by omega]
    exact k_fo_z hS hf
  | m + 1, T, rw, cl, op, f, G, B, hF, hI, hB, hm, hgn, hf, ht, hft => by
    refine k_fo_0 (K := m + 2) hS hF hn6 hn hI hB hm hgn (by omega) (fun ch hch => ?_)
    have hI' := hI.sw hch (show m < m + 1 by omega)
    have hB' := hB.ex hch
    have hft5 : ∀ c, up2 G 107 5 (.int (nI c)) 107 0 = .int (nI n) ∧ up2 G 107 5 (.int (nI c)) 107 6 = .int (nI t) := fun c => ⟨by rw [up2_n (by omega)]; exact hgn, by rw [up2_n (by omega)]; exact ht⟩
    refine cr_cq (k_fo32 (B := upr B 110 (upd (upd (B 110) ch (B 110 m)) m (B 110 ch))) hS hF hn6 hn hI' hB' hm hgn (show ch < 36 by omega) rfl rfl hf ht hft ht2 (fun v c hv hc hb => ?_)) ?_
    · have := k_fillOpen (J := J) (R := R) hS hn6 hn ht2 m _ _ _ _ c (up2 G 107 5 (.int (nI c))) _ (hF.u5 (by omega)) (hI'.put hn6 hv rfl rfl hb) hB'.pt (by omega) (hft5 c).1 up2_s (hft5 c).2 hc
      rw [up2_u] at this
      exact this
    · rintro r S' G' B' J' R' ⟨rfl, rfl, rfl, rfl, rfl, rfl⟩
      exact ⟨rfl, rfl, rfl, ex_bk, rfl, rfl⟩
