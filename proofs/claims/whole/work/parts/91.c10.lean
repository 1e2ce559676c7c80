/-! Tables filled in all ways: fillings and lists of the reference; printed by wip/whole/gen_c10.py. -/
theorem rwM_0 {n : Nat} {c : Nat → Nat} {x : Nat} : rwM n c 0 x = 0 := by
  apply Nat.eq_of_testBit_eq
  intro i
  rw [Nat.zero_testBit, Bool.eq_false_iff, Ne, rw_bit]
  rintro ⟨y, _, h, _⟩
  omega
theorem clM_0 {n : Nat} {c : Nat → Nat} {x : Nat} : clM n c 0 x = 0 := by
  apply Nat.eq_of_testBit_eq
  intro i
  rw [Nat.zero_testBit, Bool.eq_false_iff, Ne, cl_bit]
  rintro ⟨y, _, h, _⟩
  omega
theorem kp_r {k : Nat} (h : kpG k = true) : (k < 24 ∨ 30 ≤ k) ∧ k ≠ 44 ∧ k ≠ 45 ∧ k ≠ 46 ∧ k ≠ 47 ∧ k ≠ 6 ∧ k ≠ 8 := by
  unfold kpG at h
  simp only [List.contains_cons, Bool.or_eq_true, beq_iff_eq, List.contains_nil, Bool.false_eq_true, or_false] at h
  omega
theorem kp_a {k : Nat} (h : kpR k = true) : k ≠ 4 ∧ k ≠ 5 ∧ k ≠ 12 ∧ k ≠ 23 ∧ k ≠ 24 ∧ k ≠ 25 := by
  unfold kpR at h
  simp only [List.contains_cons, Bool.or_eq_true, beq_iff_eq, List.contains_nil, Bool.false_eq_true, or_false] at h
  omega
theorem FiF.gs {g : Nat → Int32} {A : Nat → Nat → Int32} {g' : Nat → Int32} {A' : Nat → Nat → Int32} (h : FiF g A g' A') : Gsm g g' := fun k hk => h.1 k (kp_r hk).1 (kp_r hk).2.1
theorem FiF.as {g : Nat → Int32} {A : Nat → Nat → Int32} {g' : Nat → Int32} {A' : Nat → Nat → Int32} (h : FiF g A g' A') : Ksm A A' := fun k hk => h.2 k (kp_a hk).1 (kp_a hk).2.1 (kp_a hk).2.2.1 (kp_a hk).2.2.2.1 (kp_a hk).2.2.2.2.1
theorem ft_1 {P : (Nat → Nat) → Bool} {c : Nat → Nat} : [c].filter P = [c].filter (fun _ => P c) := by
  rw [List.filter_cons, List.filter_cons]
  rfl
theorem ft_id {l : List (Nat → Nat)} : l.filter (fun _ => true) = l := by simp
def c00 : Nat → Nat := fun _ => 0
/-- the list of all fillings -/
def flA (n : Nat) (T : Nat → Option Nat) : List (Nat → Nat) := flL n T (n * n) 0 c00
theorem flA_n {n : Nat} {T : Nat → Option Nat} : (flA n T).length = nB n T := fl_len _ _ _
theorem flA_m {n : Nat} {T : Nat → Option Nat} {d : Nat → Nat} (h : d ∈ flA n T) : Lat n d ∧ ∀ q u, q < n * n → T q = some u → d q = u := by
  have := fl_mem (n * n) 0 c00 d (by omega) PLat.o (fun q u h => absurd h (Nat.not_lt_zero q)) h
  rw [Nat.zero_add] at this
  exact ⟨this.1.lat, this.2.1⟩
def LiQ (s : Option Nat) (l : List (Nat → Nat)) (n : Nat) (g : Nat → Int32) (A : Nat → Nat → Int32) : Option Value → (Nat → Int32) → (Nat → Nat → Int32) → Prop := fun v g' A' => v = some (.int (nI (capN s l.length))) ∧ g' 8 = nI n ∧ Gsm g g' ∧ Ksm A A' ∧ ∀ t, s = some t → t ≤ l.length → ∀ q, q < n * n → A' 5 q = nI ((l.getD (t - 1) (fun _ => 0)) q)
theorem s_fillings {g : Nat → Int32} {A : Nat → Nat → Int32} {n : Nat} {T : Nat → Option Nat} {s : Option Nat} (hn6 : n ≤ 6) (hn : 0 < n) (hT : ∀ q u, T q = some u → u < 6) (hB : A 1 222 = nI n ∧ ∀ q, q < n * n → A 1 (223 + q) = oI (T q)) (h48 : g 48 = nI 0) (hC : capO s 0 (flA n T).length) : RR 62 282 0 [some (.ref 146), some (.int (stI s)), none] [] g A (LiQ s (flA n T) n g A) := by
  refine rr_nx (pc' := 1) (al' := [some (.ref 146), some (.int (stI s)), none]) (st' := [.ref 146]) d_282_0 (fun _ => rfl) ?_
  refine rr_nx (pc' := 2) (al' := [some (.ref 146), some (.int (stI s)), none]) (st' := [.ref 146, .ref 146]) d_282_1 (fun _ => rfl) ?_
  refine rr_gf (v := .ref (147 + 1)) d_282_2 mo_282 fl_13 rfl ?_
  refine rn_sp (v := 222) d_282_5 (by decide) ?_
  refine rr_ia (j := 1) (v := (nI n)) d_282_8 (by decide) rfl (by decide) (show 222 < 5720 by first | omega | assumption | exact cu_36 (by omega) (cu_lt (by omega) (by omega))) hB.1 ?_
  refine rr_nx (pc' := 10) (al' := [some (.ref 146), some (.int (stI s)), none]) (st' := [.int (stI s), .int (nI n), .ref 146]) d_282_9 (fun _ => rfl) ?_
  refine rr_cv (as := [.int (nI n), .int (stI s)]) (al0 := [some (.ref 146), some (.int (nI n)), some (.int (stI s)), none]) (r := []) d_282_10 mo_282 ml_358 mz_274 rfl rfl rfl (rr_wk (Nat.le_of_ble_eq_true rfl) (s_starts)) (fun v1 g1 A1 h1 => ?_)
  obtain ⟨q0_, q1_, w23, w24, q9_, hw23, hw24⟩ := h1
  obtain rfl := q0_
  obtain rfl := q1_.symm
  obtain rfl := q9_
  show RR _ _ 13 [some (.ref 146), some (.int (stI s)), none] [] (upd (upd (upd (upd g 6 (nI n)) 8 (nI n)) 45 (stI s)) 44 (nI 0)) (rf_u (rf_u A 23 w23) 24 w24) _
  refine rn_ic (v := 0) d_282_13 (by decide) ?_
  refine rr_nx (pc' := 15) (al' := [some (.ref 146), some (.int (stI s)), some (.int (nI 0))]) (st' := []) d_282_14 (fun _ => rfl) ?_
  refine rr_A (show (rf_u (rf_u A 23 w23) 24 w24) = (rf_u (rf_u (rf_u A 23 w23) 24 w24) 25 (A 25)) by rw [show A 25 = rf_u (rf_u A 23 w23) 24 w24 25 by rw [rf_u_n (by decide), rf_u_n (by decide)], rf_u_id]) ?_
  refine rr_upw (al := fun i w_ => [some (.ref 146), some (.int (stI s)), some (.int (nI i))]) (G := fun i w_ => (upd (upd (upd (upd g 6 (nI n)) 8 (nI n)) 45 (stI s)) 44 (nI 0))) (B := fun i w_ => (rf_u (rf_u (rf_u A 23 w23) 24 w24) 25 w_)) (P := fun i w_ => ∀ q, q < i → w_ q = oI (T q)) (n := n * n) (fun i w_ hi pi ihi => ?_) (fun w_ pi => ?_) 0 (A 25) (by omega) (all_0)
  · show RR _ _ 15 [some (.ref 146), some (.int (stI s)), some (.int (nI i))] [] (upd (upd (upd (upd g 6 (nI n)) 8 (nI n)) 45 (stI s)) 44 (nI 0)) (rf_u (rf_u (rf_u A 23 w23) 24 w24) 25 w_) _
    refine rr_nx (pc' := 16) (al' := [some (.ref 146), some (.int (stI s)), some (.int (nI i))]) (st' := [.int (nI i)]) d_282_15 (fun _ => rfl) ?_
    refine rr_nx (pc' := 17) (al' := [some (.ref 146), some (.int (stI s)), some (.int (nI i))]) (st' := [.ref 146, .int (nI i)]) d_282_16 (fun _ => rfl) ?_
    refine rr_gf (v := .int (nI n)) d_282_17 mo_282 fl_127 rfl ?_
    refine rr_nx (pc' := 21) (al' := [some (.ref 146), some (.int (stI s)), some (.int (nI i))]) (st' := [.ref 146, .int (nI n), .int (nI i)]) d_282_20 (fun _ => rfl) ?_
    refine rr_gf (v := .int (nI n)) d_282_21 mo_282 fl_127 rfl ?_
    refine rn_mul d_282_24  ?_
    refine rn_cge (t := 50) d_282_25 (by decide) (by have := Nat.mul_le_mul hn6 hn6; omega) (by have := Nat.mul_le_mul hn6 hn6; omega) (fun c25 => ?_) (fun c25 => ?_)
    · omega
    · refine rr_nx (pc' := 29) (al' := [some (.ref 146), some (.int (stI s)), some (.int (nI i))]) (st' := [.ref 146]) d_282_28 (fun _ => rfl) ?_
      refine rr_gf (v := .ref (147 + 25)) d_282_29 mo_282 fl_91 rfl ?_
      refine rr_nx (pc' := 33) (al' := [some (.ref 146), some (.int (stI s)), some (.int (nI i))]) (st' := [.int (nI i), .ref (147 + 25)]) d_282_32 (fun _ => rfl) ?_
      refine rr_nx (pc' := 34) (al' := [some (.ref 146), some (.int (stI s)), some (.int (nI i))]) (st' := [.ref 146, .int (nI i), .ref (147 + 25)]) d_282_33 (fun _ => rfl) ?_
      refine rr_gf (v := .ref (147 + 1)) d_282_34 mo_282 fl_13 rfl ?_
      refine rn_sp (v := 223) d_282_37 (by decide) ?_
      refine rr_nx (pc' := 41) (al' := [some (.ref 146), some (.int (stI s)), some (.int (nI i))]) (st' := [.int (nI i), .int (nI 223), .ref (147 + 1), .int (nI i), .ref (147 + 25)]) d_282_40 (fun _ => rfl) ?_
      refine rn_add d_282_41  ?_
      refine rr_ia (j := 1) (v := (oI (T i))) d_282_42 (by decide) rfl (by decide) (show 223 + i < 5720 by have := Nat.mul_le_mul hn6 hn6; omega) (hB.2 i hi) ?_
      refine rr_iS (j := 25) (A1 := (rf_u (rf_u (rf_u A 23 w23) 24 w24) 25 (upd w_ i (oI (T i))))) d_282_43 (by decide) rfl (by decide) (show i < 36 by have := Nat.mul_le_mul hn6 hn6; omega) rf_uw ?_
      refine rn_inc d_282_44 rfl rfl ?_
      show RR _ _ 47 [some (.ref 146), some (.int (stI s)), some (.int (nI (i + 1)))] [] (upd (upd (upd (upd g 6 (nI n)) 8 (nI n)) 45 (stI s)) 44 (nI 0)) (rf_u (rf_u (rf_u A 23 w23) 24 w24) 25 (upd w_ i (oI (T i)))) _
      refine rr_nx (pc' := 15) (al' := [some (.ref 146), some (.int (stI s)), some (.int (nI (i + 1)))]) (st' := []) d_282_47 (fun _ => rfl) ?_
      exact ihi (upd w_ i (oI (T i))) (up_all (f := fun q => oI (T q)) pi rfl)
  · show RR _ _ 15 [some (.ref 146), some (.int (stI s)), some (.int (nI (n * n)))] [] (upd (upd (upd (upd g 6 (nI n)) 8 (nI n)) 45 (stI s)) 44 (nI 0)) (rf_u (rf_u (rf_u A 23 w23) 24 w24) 25 w_) _
    refine rr_nx (pc' := 16) (al' := [some (.ref 146), some (.int (stI s)), some (.int (nI (n * n)))]) (st' := [.int (nI (n * n))]) d_282_15 (fun _ => rfl) ?_
    refine rr_nx (pc' := 17) (al' := [some (.ref 146), some (.int (stI s)), some (.int (nI (n * n)))]) (st' := [.ref 146, .int (nI (n * n))]) d_282_16 (fun _ => rfl) ?_
    refine rr_gf (v := .int (nI n)) d_282_17 mo_282 fl_127 rfl ?_
    refine rr_nx (pc' := 21) (al' := [some (.ref 146), some (.int (stI s)), some (.int (nI (n * n)))]) (st' := [.ref 146, .int (nI n), .int (nI (n * n))]) d_282_20 (fun _ => rfl) ?_
    refine rr_gf (v := .int (nI n)) d_282_21 mo_282 fl_127 rfl ?_
    refine rn_mul d_282_24  ?_
    refine rn_cge (t := 50) d_282_25 (by decide) (by have := Nat.mul_le_mul hn6 hn6; omega) (by have := Nat.mul_le_mul hn6 hn6; omega) (fun c25 => ?_) (fun c25 => ?_)
    · refine rr_nx (pc' := 51) (al' := [some (.ref 146), some (.int (stI s)), some (.int (nI (n * n)))]) (st' := [.ref 146]) d_282_50 (fun _ => rfl) ?_
      refine rn_ic (v := 0) d_282_51 (by decide) ?_
      have hnn : n * n ≤ 36 := Nat.mul_le_mul hn6 hn6
      obtain ⟨G0, hG0⟩ : ∃ G0, G0 = (upd (upd (upd (upd g 6 (nI n)) 8 (nI n)) 45 (stI s)) 44 (nI 0)) := ⟨_, rfl⟩
      obtain ⟨A0, hA0⟩ : ∃ A0, A0 = (rf_u (rf_u (rf_u A 23 w23) 24 w24) 25 w_) := ⟨_, rfl⟩
      rw [← hG0, ← hA0]
      have h6 : G0 6 = nI n := by rw [hG0]; rfl
      have h44 : G0 44 = nI 0 := by rw [hG0]; rfl
      have h45 : G0 45 = stI s := by rw [hG0]; rfl
      have hg0 : ∀ k, kpG k = true → k ≠ 48 → G0 k = g k := fun k hk h48_ => by
        obtain ⟨_, a1, a2, a3, a4, a5, a6⟩ := kp_r hk
        rw [hG0]
        simp only [pk_un, ne_eq, a1, a2, a3, a4, a5, a6, h48_, not_false_eq_true]
      have ha0 : Ksm A A0 := fun j hj => by
        obtain ⟨a1, a2, a3, a4, a5, a6⟩ := kp_a hj
        rw [hA0, rf_u_n a6, rf_u_n a5, rf_u_n a4]
      have hS0 : FiS n T 0 c00 G0 A0 := ⟨h6, fun q hq => absurd hq (Nat.not_lt_zero q), fun x hx => by rw [hA0, rf_u_n (by decide), rf_u_n (by decide), rf_u_s, rwM_0]; exact hw23 x (by omega), fun x hx => by rw [hA0, rf_u_n (by decide), rf_u_s, clM_0]; exact hw24 x (by omega), fun q hq => by rw [hA0, rf_u_s]; exact pi q hq⟩
      have hLf : LfC n T (fun _ => true) G0 A0 := fun s_ m_ L_ c_ g_ A_ hl_ ht_ hS_ hC_ h44_ h45_ hF_ => s_leaf0 hn6 hn hS_ hC_ h44_ h45_ ((hF_.1 48 (by omega) (by decide)).trans (by rw [hG0]; exact h48))
      refine rr_cv (as := [.int (nI 0)]) (al0 := [some (.ref 146), some (.int (nI 0)), none, none, none, none]) (r := []) d_282_52 mo_282 ml_349 mz_275 rfl rfl rfl (rr_wk (by omega) (s_fi_a hn6 hn hT hLf (n * n) 0 0 c00 _ _ (by omega) PLat.o (fun q u h_ => absurd h_ (Nat.not_lt_zero q)) hS0 hC h44 h45 FiF.rf)) (fun v1 g1 A1 h1 => ?_)
      obtain ⟨q0_, hS1, hF1, hO1⟩ := h1
      obtain rfl := q0_
      show RR _ _ 55 [some (.ref 146), some (.int (stI s)), some (.int (nI (n * n)))] [] g1 A1 _
      refine rr_nx (pc' := 56) (al' := [some (.ref 146), some (.int (stI s)), some (.int (nI (n * n)))]) (st' := [.ref 146]) d_282_55 (fun _ => rfl) ?_
      refine rr_gn d_282_56 mo_282 fl_337 rfl hO1.1 ?_
      exact rr_ri d_282_59 mr_282 rfl ⟨by rw [Nat.zero_add, ft_id]; rfl, (hF1.1 8 (by omega) (by decide)).trans (by rw [hG0]; rfl), fun k hk => (hF1.gs k hk).trans (by by_cases e_ : k = 48; (rw [e_, hG0]; rfl); exact hg0 k hk e_), ha0.tr hF1.as, fun t ht hle q hq => by have h_ := hO1.2 t ht (by rw [Nat.zero_add, ft_id]; exact hle) q hq; rw [ft_id] at h_; exact h_⟩
    · omega
def T00 (n q : Nat) : Option Nat := if n * n ≤ q then none else if q < n then some q else if q % n = 0 then some (q / n) else none
theorem T00_6 {n : Nat} (hn : n ≤ 6) : ∀ q u, T00 n q = some u → u < 6 := by
  intro q u h
  unfold T00 at h
  split at h
  · cases h
  · split at h
    · cases h; omega
    · split at h
      · cases h
        have := dm_dl (n := n) (q := q) (by omega)
        omega
      · cases h
theorem T00_u {n : Nat} {c : Nat → Nat} (hn : 0 < n) (h : ∀ q u, q < n * n → T00 n q = some u → c q = u) : unV 0 n c = nI 0 := by
  have hnn : n ≤ n * n := Nat.le_mul_of_pos_left n hn
  have h0 : FX (fun e => decide (∀ x, x < n → okU 0 n c e x)) n = 0 := by
    rcases Nat.eq_zero_or_pos (FX (fun e => decide (∀ x, x < n → okU 0 n c e x)) n) with q | q
    · exact q
    · have := of_decide_eq_false (FX_no _ n 0 q)
      exfalso
      apply this
      intro x hx
      have r : c (n * 0 + x) = x := h _ _ (cu_lt hn hx) (by unfold T00; rw [Nat.mul_zero, Nat.zero_add, if_neg (by omega), if_pos hx])
      have l : c (n * x + 0) = x := by
        refine h _ _ (cu_lt hx hn) ?_
        have hlt := cu_lt hx hn
        unfold T00
        rw [Nat.add_zero] at hlt ⊢
        rw [if_neg (by omega)]
        by_cases e : n * x < n
        · rw [if_pos e]
          have : x = 0 := by
            rcases Nat.eq_zero_or_pos x with q | q
            · exact q
            · have := Nat.le_mul_of_pos_right n q
              omega
          rw [this, Nat.mul_zero]
        · rw [if_neg e, if_pos (Nat.mul_mod_right n x), Nat.mul_div_cancel_left x hn]
      exact ⟨Or.inr r, Or.inr l⟩
  unfold unV unI
  rw [h0, if_pos hn]
theorem T00_e {n : Nat} {c : Nat → Nat} (hn : 0 < n) (h : ∀ q u, q < n * n → T00 n q = some u → c q = u) : (if unV 0 n c = -1 then nI 0 else unV 0 n c) = nI 0 := by
  rw [T00_u hn h, if_neg (by decide)]
theorem LkA.f {K : Nat} {cds : Nat → Nat → Nat} {Ns : Nat → Nat} {g : Nat → Int32} {A : Nat → Nat → Int32} {g' : Nat → Int32} {A' : Nat → Nat → Int32} (h : LkA K cds Ns A) (hg : FiF g A g' A') : LkA K cds Ns A' := by
  unfold LkA LwO LwK
  rw [hg.2 1 (by decide) (by decide) (by decide) (by decide) (by decide)]
  exact h
theorem LkA.k {K : Nat} {cds : Nat → Nat → Nat} {Ns : Nat → Nat} {A A' : Nat → Nat → Int32} (h : LkA K cds Ns A) (hg : Ksm A A') : LkA K cds Ns A' := by
  unfold LkA LwO LwK
  rw [hg 1 rfl]
  exact h
theorem s_lists {g : Nat → Int32} {A : Nat → Nat → Int32} {n : Nat} {s : Option Nat} (hn6 : n ≤ 6) (hn : 0 < n) {K hold no : Nat} {cds : Nat → Nat → Nat} {Ns : Nat → Nat} (hK : LkA K cds Ns A) (hh : hold < 256) (hn2 : no < 256) (h48 : g 48 = nI 0) (hC : capO s 0 (flA n (T00 n)).length) : RR 62 273 0 [some (.ref 146), some (.int (nI n)), some (.int (nI hold)), some (.int (nI no)), some (.int (stI s)), none] [] g A (LiQ s ((flA n (T00 n)).filter (lsB K cds Ns hold no n)) n g A) := by
  have hT := T00_6 hn6
  refine rr_nx (pc' := 1) (al' := [some (.ref 146), some (.int (nI n)), some (.int (nI hold)), some (.int (nI no)), some (.int (stI s)), none]) (st' := [.ref 146]) d_273_0 (fun _ => rfl) ?_
  refine rr_nx (pc' := 2) (al' := [some (.ref 146), some (.int (nI n)), some (.int (nI hold)), some (.int (nI no)), some (.int (stI s)), none]) (st' := [.int (nI n), .ref 146]) d_273_1 (fun _ => rfl) ?_
  refine rr_nx (pc' := 4) (al' := [some (.ref 146), some (.int (nI n)), some (.int (nI hold)), some (.int (nI no)), some (.int (stI s)), none]) (st' := [.int (stI s), .int (nI n), .ref 146]) d_273_2 (fun _ => rfl) ?_
  refine rr_cv (as := [.int (nI n), .int (stI s)]) (al0 := [some (.ref 146), some (.int (nI n)), some (.int (stI s)), none]) (r := []) d_273_4 mo_273 ml_358 mz_274 rfl rfl rfl (rr_wk (Nat.le_of_ble_eq_true rfl) (s_starts)) (fun v1 g1 A1 h1 => ?_)
  obtain ⟨q0_, q1_, w23, w24, q9_, hw23, hw24⟩ := h1
  obtain rfl := q0_
  obtain rfl := q1_.symm
  obtain rfl := q9_
  show RR _ _ 7 [some (.ref 146), some (.int (nI n)), some (.int (nI hold)), some (.int (nI no)), some (.int (stI s)), none] [] (upd (upd (upd (upd g 6 (nI n)) 8 (nI n)) 45 (stI s)) 44 (nI 0)) (rf_u (rf_u A 23 w23) 24 w24) _
  refine rn_ic (v := 0) d_273_7 (by decide) ?_
  refine rr_nx (pc' := 10) (al' := [some (.ref 146), some (.int (nI n)), some (.int (nI hold)), some (.int (nI no)), some (.int (stI s)), some (.int (nI 0))]) (st' := []) d_273_8 (fun _ => rfl) ?_
  refine rr_A (show (rf_u (rf_u A 23 w23) 24 w24) = (rf_u (rf_u (rf_u A 23 w23) 24 w24) 25 (A 25)) by rw [show A 25 = rf_u (rf_u A 23 w23) 24 w24 25 by rw [rf_u_n (by decide), rf_u_n (by decide)], rf_u_id]) ?_
  refine rr_upw (al := fun i w_ => [some (.ref 146), some (.int (nI n)), some (.int (nI hold)), some (.int (nI no)), some (.int (stI s)), some (.int (nI i))]) (G := fun i w_ => (upd (upd (upd (upd g 6 (nI n)) 8 (nI n)) 45 (stI s)) 44 (nI 0))) (B := fun i w_ => (rf_u (rf_u (rf_u A 23 w23) 24 w24) 25 w_)) (P := fun i w_ => ∀ q, q < i → w_ q = oI (T00 n q)) (n := n * n) (fun i w_ hi pi ihi => ?_) (fun w_ pi => ?_) 0 (A 25) (by omega) (all_0)
  · show RR _ _ 10 [some (.ref 146), some (.int (nI n)), some (.int (nI hold)), some (.int (nI no)), some (.int (stI s)), some (.int (nI i))] [] (upd (upd (upd (upd g 6 (nI n)) 8 (nI n)) 45 (stI s)) 44 (nI 0)) (rf_u (rf_u (rf_u A 23 w23) 24 w24) 25 w_) _
    refine rr_nx (pc' := 12) (al' := [some (.ref 146), some (.int (nI n)), some (.int (nI hold)), some (.int (nI no)), some (.int (stI s)), some (.int (nI i))]) (st' := [.int (nI i)]) d_273_10 (fun _ => rfl) ?_
    refine rr_nx (pc' := 13) (al' := [some (.ref 146), some (.int (nI n)), some (.int (nI hold)), some (.int (nI no)), some (.int (stI s)), some (.int (nI i))]) (st' := [.ref 146, .int (nI i)]) d_273_12 (fun _ => rfl) ?_
    refine rr_gf (v := .int (nI n)) d_273_13 mo_273 fl_127 rfl ?_
    refine rr_nx (pc' := 17) (al' := [some (.ref 146), some (.int (nI n)), some (.int (nI hold)), some (.int (nI no)), some (.int (stI s)), some (.int (nI i))]) (st' := [.ref 146, .int (nI n), .int (nI i)]) d_273_16 (fun _ => rfl) ?_
    refine rr_gf (v := .int (nI n)) d_273_17 mo_273 fl_127 rfl ?_
    refine rn_mul d_273_20  ?_
    refine rn_cge (t := 72) d_273_21 (by decide) (by have := Nat.mul_le_mul hn6 hn6; omega) (by have := Nat.mul_le_mul hn6 hn6; omega) (fun c21 => ?_) (fun c21 => ?_)
    · omega
    · refine rr_nx (pc' := 25) (al' := [some (.ref 146), some (.int (nI n)), some (.int (nI hold)), some (.int (nI no)), some (.int (stI s)), some (.int (nI i))]) (st' := [.ref 146]) d_273_24 (fun _ => rfl) ?_
      refine rr_gf (v := .ref (147 + 25)) d_273_25 mo_273 fl_91 rfl ?_
      refine rr_nx (pc' := 30) (al' := [some (.ref 146), some (.int (nI n)), some (.int (nI hold)), some (.int (nI no)), some (.int (stI s)), some (.int (nI i))]) (st' := [.int (nI i), .ref (147 + 25)]) d_273_28 (fun _ => rfl) ?_
      refine rr_nx (pc' := 32) (al' := [some (.ref 146), some (.int (nI n)), some (.int (nI hold)), some (.int (nI no)), some (.int (stI s)), some (.int (nI i))]) (st' := [.int (nI i), .int (nI i), .ref (147 + 25)]) d_273_30 (fun _ => rfl) ?_
      refine rr_nx (pc' := 33) (al' := [some (.ref 146), some (.int (nI n)), some (.int (nI hold)), some (.int (nI no)), some (.int (stI s)), some (.int (nI i))]) (st' := [.ref 146, .int (nI i), .int (nI i), .ref (147 + 25)]) d_273_32 (fun _ => rfl) ?_
      refine rr_gf (v := .int (nI n)) d_273_33 mo_273 fl_127 rfl ?_
      refine rn_cge (t := 44) d_273_36 (by decide) (by have := Nat.mul_le_mul hn6 hn6; omega) (by omega) (fun c36 => ?_) (fun c36 => ?_)
      · refine rr_nx (pc' := 46) (al' := [some (.ref 146), some (.int (nI n)), some (.int (nI hold)), some (.int (nI no)), some (.int (stI s)), some (.int (nI i))]) (st' := [.int (nI i), .int (nI i), .ref (147 + 25)]) d_273_44 (fun _ => rfl) ?_
        refine rr_nx (pc' := 47) (al' := [some (.ref 146), some (.int (nI n)), some (.int (nI hold)), some (.int (nI no)), some (.int (stI s)), some (.int (nI i))]) (st' := [.ref 146, .int (nI i), .int (nI i), .ref (147 + 25)]) d_273_46 (fun _ => rfl) ?_
        refine rr_gf (v := .int (nI n)) d_273_47 mo_273 fl_127 rfl ?_
        refine rn_rem d_273_50 (by omega) (by have := Nat.mul_le_mul hn6 hn6; omega) (by omega) ?_
        refine rn_ine (t := 64) d_273_51 (by decide) (by have := Nat.mod_lt i hn; omega) (fun c51 => ?_) (fun c51 => ?_)
        · refine rr_nx (pc' := 65) (al' := [some (.ref 146), some (.int (nI n)), some (.int (nI hold)), some (.int (nI no)), some (.int (stI s)), some (.int (nI i))]) (st' := [.int (-1), .int (nI i), .ref (147 + 25)]) d_273_64 (fun _ => rfl) ?_
          refine rr_tp (z := oI (T00 n i)) (by unfold T00; rw [if_neg (by omega), if_neg (by omega), if_neg (by omega)]; rfl) ?_
          refine rr_iS (j := 25) (A1 := (rf_u (rf_u (rf_u A 23 w23) 24 w24) 25 (upd w_ i (oI (T00 n i))))) d_273_65 (by decide) rfl (by decide) (show i < 36 by have := Nat.mul_le_mul hn6 hn6; omega) rf_uw ?_
          refine rn_inc d_273_66 rfl rfl ?_
          show RR _ _ 69 [some (.ref 146), some (.int (nI n)), some (.int (nI hold)), some (.int (nI no)), some (.int (stI s)), some (.int (nI (i + 1)))] [] (upd (upd (upd (upd g 6 (nI n)) 8 (nI n)) 45 (stI s)) 44 (nI 0)) (rf_u (rf_u (rf_u A 23 w23) 24 w24) 25 (upd w_ i (oI (T00 n i)))) _
          refine rr_nx (pc' := 10) (al' := [some (.ref 146), some (.int (nI n)), some (.int (nI hold)), some (.int (nI no)), some (.int (stI s)), some (.int (nI (i + 1)))]) (st' := []) d_273_69 (fun _ => rfl) ?_
          exact ihi (upd w_ i (oI (T00 n i))) (up_all (f := fun q => oI (T00 n q)) pi rfl)
        · refine rr_nx (pc' := 56) (al' := [some (.ref 146), some (.int (nI n)), some (.int (nI hold)), some (.int (nI no)), some (.int (stI s)), some (.int (nI i))]) (st' := [.int (nI i), .int (nI i), .ref (147 + 25)]) d_273_54 (fun _ => rfl) ?_
          refine rr_nx (pc' := 57) (al' := [some (.ref 146), some (.int (nI n)), some (.int (nI hold)), some (.int (nI no)), some (.int (stI s)), some (.int (nI i))]) (st' := [.ref 146, .int (nI i), .int (nI i), .ref (147 + 25)]) d_273_56 (fun _ => rfl) ?_
          refine rr_gf (v := .int (nI n)) d_273_57 mo_273 fl_127 rfl ?_
          refine rn_div d_273_60 (by omega) (by have := Nat.mul_le_mul hn6 hn6; omega) (by omega) ?_
          refine rr_nx (pc' := 65) (al' := [some (.ref 146), some (.int (nI n)), some (.int (nI hold)), some (.int (nI no)), some (.int (stI s)), some (.int (nI i))]) (st' := [.int (nI (i / n)), .int (nI i), .ref (147 + 25)]) d_273_61 (fun _ => rfl) ?_
          refine rr_tp (z := oI (T00 n i)) (by unfold T00; rw [if_neg (by omega), if_neg (by omega), if_pos c51]; rfl) ?_
          refine rr_iS (j := 25) (A1 := (rf_u (rf_u (rf_u A 23 w23) 24 w24) 25 (upd w_ i (oI (T00 n i))))) d_273_65 (by decide) rfl (by decide) (show i < 36 by have := Nat.mul_le_mul hn6 hn6; omega) rf_uw ?_
          refine rn_inc d_273_66 rfl rfl ?_
          show RR _ _ 69 [some (.ref 146), some (.int (nI n)), some (.int (nI hold)), some (.int (nI no)), some (.int (stI s)), some (.int (nI (i + 1)))] [] (upd (upd (upd (upd g 6 (nI n)) 8 (nI n)) 45 (stI s)) 44 (nI 0)) (rf_u (rf_u (rf_u A 23 w23) 24 w24) 25 (upd w_ i (oI (T00 n i)))) _
          refine rr_nx (pc' := 10) (al' := [some (.ref 146), some (.int (nI n)), some (.int (nI hold)), some (.int (nI no)), some (.int (stI s)), some (.int (nI (i + 1)))]) (st' := []) d_273_69 (fun _ => rfl) ?_
          exact ihi (upd w_ i (oI (T00 n i))) (up_all (f := fun q => oI (T00 n q)) pi rfl)
      · refine rr_nx (pc' := 41) (al' := [some (.ref 146), some (.int (nI n)), some (.int (nI hold)), some (.int (nI no)), some (.int (stI s)), some (.int (nI i))]) (st' := [.int (nI i), .int (nI i), .ref (147 + 25)]) d_273_39 (fun _ => rfl) ?_
        refine rr_nx (pc' := 65) (al' := [some (.ref 146), some (.int (nI n)), some (.int (nI hold)), some (.int (nI no)), some (.int (stI s)), some (.int (nI i))]) (st' := [.int (nI i), .int (nI i), .ref (147 + 25)]) d_273_41 (fun _ => rfl) ?_
        refine rr_tp (z := oI (T00 n i)) (by unfold T00; rw [if_neg (by omega), if_pos c36]; rfl) ?_
        refine rr_iS (j := 25) (A1 := (rf_u (rf_u (rf_u A 23 w23) 24 w24) 25 (upd w_ i (oI (T00 n i))))) d_273_65 (by decide) rfl (by decide) (show i < 36 by have := Nat.mul_le_mul hn6 hn6; omega) rf_uw ?_
        refine rn_inc d_273_66 rfl rfl ?_
        show RR _ _ 69 [some (.ref 146), some (.int (nI n)), some (.int (nI hold)), some (.int (nI no)), some (.int (stI s)), some (.int (nI (i + 1)))] [] (upd (upd (upd (upd g 6 (nI n)) 8 (nI n)) 45 (stI s)) 44 (nI 0)) (rf_u (rf_u (rf_u A 23 w23) 24 w24) 25 (upd w_ i (oI (T00 n i)))) _
        refine rr_nx (pc' := 10) (al' := [some (.ref 146), some (.int (nI n)), some (.int (nI hold)), some (.int (nI no)), some (.int (stI s)), some (.int (nI (i + 1)))]) (st' := []) d_273_69 (fun _ => rfl) ?_
        exact ihi (upd w_ i (oI (T00 n i))) (up_all (f := fun q => oI (T00 n q)) pi rfl)
  · show RR _ _ 10 [some (.ref 146), some (.int (nI n)), some (.int (nI hold)), some (.int (nI no)), some (.int (stI s)), some (.int (nI (n * n)))] [] (upd (upd (upd (upd g 6 (nI n)) 8 (nI n)) 45 (stI s)) 44 (nI 0)) (rf_u (rf_u (rf_u A 23 w23) 24 w24) 25 w_) _
    refine rr_nx (pc' := 12) (al' := [some (.ref 146), some (.int (nI n)), some (.int (nI hold)), some (.int (nI no)), some (.int (stI s)), some (.int (nI (n * n)))]) (st' := [.int (nI (n * n))]) d_273_10 (fun _ => rfl) ?_
    refine rr_nx (pc' := 13) (al' := [some (.ref 146), some (.int (nI n)), some (.int (nI hold)), some (.int (nI no)), some (.int (stI s)), some (.int (nI (n * n)))]) (st' := [.ref 146, .int (nI (n * n))]) d_273_12 (fun _ => rfl) ?_
    refine rr_gf (v := .int (nI n)) d_273_13 mo_273 fl_127 rfl ?_
    refine rr_nx (pc' := 17) (al' := [some (.ref 146), some (.int (nI n)), some (.int (nI hold)), some (.int (nI no)), some (.int (stI s)), some (.int (nI (n * n)))]) (st' := [.ref 146, .int (nI n), .int (nI (n * n))]) d_273_16 (fun _ => rfl) ?_
    refine rr_gf (v := .int (nI n)) d_273_17 mo_273 fl_127 rfl ?_
    refine rn_mul d_273_20  ?_
    refine rn_cge (t := 72) d_273_21 (by decide) (by have := Nat.mul_le_mul hn6 hn6; omega) (by have := Nat.mul_le_mul hn6 hn6; omega) (fun c21 => ?_) (fun c21 => ?_)
    · refine rr_nx (pc' := 73) (al' := [some (.ref 146), some (.int (nI n)), some (.int (nI hold)), some (.int (nI no)), some (.int (stI s)), some (.int (nI (n * n)))]) (st' := [.ref 146]) d_273_72 (fun _ => rfl) ?_
      refine rn_ic (v := 1) d_273_73 (by decide) ?_
      refine rp_48 d_273_74 mo_273 fl_343 (Or.inr rfl) ?_
      refine rr_nx (pc' := 78) (al' := [some (.ref 146), some (.int (nI n)), some (.int (nI hold)), some (.int (nI no)), some (.int (stI s)), some (.int (nI (n * n)))]) (st' := [.ref 146]) d_273_77 (fun _ => rfl) ?_
      refine rr_nx (pc' := 79) (al' := [some (.ref 146), some (.int (nI n)), some (.int (nI hold)), some (.int (nI no)), some (.int (stI s)), some (.int (nI (n * n)))]) (st' := [.int (nI hold), .ref 146]) d_273_78 (fun _ => rfl) ?_
      refine rp_46 d_273_79 mo_273 fl_352  ?_
      refine rr_nx (pc' := 83) (al' := [some (.ref 146), some (.int (nI n)), some (.int (nI hold)), some (.int (nI no)), some (.int (stI s)), some (.int (nI (n * n)))]) (st' := [.ref 146]) d_273_82 (fun _ => rfl) ?_
      refine rr_nx (pc' := 84) (al' := [some (.ref 146), some (.int (nI n)), some (.int (nI hold)), some (.int (nI no)), some (.int (stI s)), some (.int (nI (n * n)))]) (st' := [.int (nI no), .ref 146]) d_273_83 (fun _ => rfl) ?_
      refine rp_47 d_273_84 mo_273 fl_355  ?_
      refine rr_nx (pc' := 88) (al' := [some (.ref 146), some (.int (nI n)), some (.int (nI hold)), some (.int (nI no)), some (.int (stI s)), some (.int (nI (n * n)))]) (st' := [.ref 146]) d_273_87 (fun _ => rfl) ?_
      refine rn_ic (v := 0) d_273_88 (by decide) ?_
      have hnn : n * n ≤ 36 := Nat.mul_le_mul hn6 hn6
      obtain ⟨G0, hG0⟩ : ∃ G0, G0 = (upd (upd (upd (upd (upd (upd (upd g 6 (nI n)) 8 (nI n)) 45 (stI s)) 44 (nI 0)) 48 (nI 1)) 46 (nI hold)) 47 (nI no)) := ⟨_, rfl⟩
      obtain ⟨A0, hA0⟩ : ∃ A0, A0 = (rf_u (rf_u (rf_u A 23 w23) 24 w24) 25 w_) := ⟨_, rfl⟩
      rw [← hG0, ← hA0]
      have h6 : G0 6 = nI n := by rw [hG0]; rfl
      have h44 : G0 44 = nI 0 := by rw [hG0]; rfl
      have h45 : G0 45 = stI s := by rw [hG0]; rfl
      have hg0 : ∀ k, kpG k = true → k ≠ 48 → G0 k = g k := fun k hk h48_ => by
        obtain ⟨_, a1, a2, a3, a4, a5, a6⟩ := kp_r hk
        rw [hG0]
        simp only [pk_un, ne_eq, a1, a2, a3, a4, a5, a6, h48_, not_false_eq_true]
      have ha0 : Ksm A A0 := fun j hj => by
        obtain ⟨a1, a2, a3, a4, a5, a6⟩ := kp_a hj
        rw [hA0, rf_u_n a6, rf_u_n a5, rf_u_n a4]
      have hS0 : FiS n (T00 n) 0 c00 G0 A0 := ⟨h6, fun q hq => absurd hq (Nat.not_lt_zero q), fun x hx => by rw [hA0, rf_u_n (by decide), rf_u_n (by decide), rf_u_s, rwM_0]; exact hw23 x (by omega), fun x hx => by rw [hA0, rf_u_n (by decide), rf_u_s, clM_0]; exact hw24 x (by omega), fun q hq => by rw [hA0, rf_u_s]; exact pi q hq⟩
      have hK0 : LkA K cds Ns A0 := hK.k ha0
      have hLf : LfC n (T00 n) (lsB K cds Ns hold no n) G0 A0 := fun s_ m_ L_ c_ g_ A_ hl_ ht_ hS_ hC_ h44_ h45_ hF_ => by
        rw [ft_1]
        exact s_leaf1 (P := lsB K cds Ns hold no n c_) hn6 hn hS_ hC_ h44_ h45_ ((hF_.1 48 (by omega) (by decide)).trans (by rw [hG0]; rfl)) (rr_cq (s_isListed (hK0.f hF_) ⟨hS_.1, hn6, fun q hq => ⟨hS_.2.1 q hq, hl_.1 q hq⟩⟩ hl_.lat hn (T00_e hn ht_) ((hF_.1 46 (by omega) (by decide)).trans (by rw [hG0]; rfl)) ((hF_.1 47 (by omega) (by decide)).trans (by rw [hG0]; rfl)) hh hn2) (fun _ _ _ h_ => ⟨h_.1, h_.2.1, h_.2.2⟩))
      refine rr_cv (as := [.int (nI 0)]) (al0 := [some (.ref 146), some (.int (nI 0)), none, none, none, none]) (r := []) d_273_89 mo_273 ml_349 mz_275 rfl rfl rfl (rr_wk (by omega) (s_fi_a hn6 hn hT hLf (n * n) 0 0 c00 _ _ (by omega) PLat.o (fun q u h_ => absurd h_ (Nat.not_lt_zero q)) hS0 hC h44 h45 FiF.rf)) (fun v1 g1 A1 h1 => ?_)
      obtain ⟨q0_, hS1, hF1, hO1⟩ := h1
      obtain rfl := q0_
      show RR _ _ 92 [some (.ref 146), some (.int (nI n)), some (.int (nI hold)), some (.int (nI no)), some (.int (stI s)), some (.int (nI (n * n)))] [] g1 A1 _
      refine rr_nx (pc' := 93) (al' := [some (.ref 146), some (.int (nI n)), some (.int (nI hold)), some (.int (nI no)), some (.int (stI s)), some (.int (nI (n * n)))]) (st' := [.ref 146]) d_273_92 (fun _ => rfl) ?_
      refine rn_ic (v := 0) d_273_93 (by decide) ?_
      refine rp_48 d_273_94 mo_273 fl_343 (Or.inl rfl) ?_
      refine rr_nx (pc' := 98) (al' := [some (.ref 146), some (.int (nI n)), some (.int (nI hold)), some (.int (nI no)), some (.int (stI s)), some (.int (nI (n * n)))]) (st' := [.ref 146]) d_273_97 (fun _ => rfl) ?_
      refine rr_gf (v := .int (g1 44)) d_273_98 mo_273 fl_337 rfl ?_
      refine rr_tp (z := nI (capN s (0 + ((flL n (T00 n) (n * n) 0 c00).filter (lsB K cds Ns hold no n)).length))) hO1.1 ?_
      exact rr_ri d_273_101 mr_273 rfl ⟨by rw [Nat.zero_add]; rfl, by rw [pk_un (by decide)]; exact (hF1.1 8 (by omega) (by decide)).trans (by rw [hG0]; rfl), fun k hk => by by_cases e_ : k = 48; (rw [e_, pk_us]; exact h48.symm); (rw [pk_un e_]; exact (hF1.gs k hk).trans (hg0 k hk e_)), ha0.tr hF1.as, fun t ht hle q hq => by have h_ := hO1.2 t ht (by rw [Nat.zero_add]; exact hle) q hq; exact h_⟩
    · omega
