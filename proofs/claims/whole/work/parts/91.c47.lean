/-! A State becomes another; printed by wip/whole/gen_c47.py. -/
theorem nI_ex (x : Int32) : ∃ n : Nat, x = nI n := ⟨x.toBitVec.toNat, by
  apply Int32.toBitVec_inj.mp
  unfold nI
  simp⟩
theorem cr_aO {k y pc n a i c : Nat} {al : AL} {r : List Value} {S : CS} {G : Nat → Nat → Value} {B : Nat → Nat → Int32} {J : Nat → Nat → Int64} {R : Nat → Nat → Option Nat} {R1 : Nat → Nat → Option Nat} {Q : CQ} {ov : Option Nat} (hd : decode (am_b y) pc = .ok (.aastore, 1)) (ha : cs_in S.1 a) (hq : 4 + c = 7 ∨ 4 + c = 13 ∨ 4 + c = 14) (hs : S.2 a = (4 + c, n)) (ho : ov = none ∨ ∃ b, ov = some b ∧ cs_in S.1 b ∧ S.2 b = (100 + c, 3)) (hn : n ≤ 100000) (hi : i < n) (hB : upr R a (va_up (R a) i ov) = R1) (kk : CR k y (pc + 1) al r S G B J R1 Q) : CR k y pc al (va_rf ov :: .int (nI i) :: .ref a :: r) S G B J R Q := by
  rcases ho with e | ⟨b, e, hb, hsb⟩
  · subst e
    exact cr_aN hd ha hq hs hn hi hB kk
  · subst e
    exact cr_aS hd ha hb hq hs hsb hn hi hB kk
/-- tables D q have become the tables E q, for q < i -/
def CpI (D E : Nat → Nat) (i : Nat) (G : Nat → Nat → Value) (B : Nat → Nat → Int32) (G' : Nat → Nat → Value) (B' : Nat → Nat → Int32) : Prop := (∀ x k, k ≠ 0 → G' x k = G x k) ∧ (∀ x, (∀ q, q < i → x ≠ D q) → G' x = G x) ∧ (∀ x, (∀ q, q < i → x ≠ D q + 1) → B' x = B x) ∧ ∀ q, q < i → G' (D q) 0 = G (E q) 0 ∧ ∀ c, c < 36 → B' (D q + 1) c = B (E q + 1) c
theorem CpI.z {D E : Nat → Nat} {G : Nat → Nat → Value} {B : Nat → Nat → Int32} : CpI D E 0 G B G B := ⟨fun _ _ _ => rfl, fun _ _ => rfl, fun _ _ => rfl, fun q hq => absurd hq (Nat.not_lt_zero q)⟩
theorem CpI.st {D E : Nat → Nat} {i : Nat} {G G' : Nat → Nat → Value} {B B' : Nat → Nat → Int32} {v : Value} (h : CpI D E i G B G' B') (hD : ∀ q, q < i → D q ≠ D i) (hE : ∀ q, q < i + 1 → E i ≠ D q) (hv : G (E i) 0 = v) : CpI D E (i + 1) G B (up2 G' (D i) 0 v) (upr B' (D i + 1) (va_cpy (B' (E i + 1)) (B' (D i + 1)) 0 0 36)) := by
  obtain ⟨h1, h2, h3, h4⟩ := h
  refine ⟨fun x k hk => ?_, fun x hx => ?_, fun x hx => ?_, fun q hq => ?_⟩
  · rw [up2_n (fun e => hk e.2)]
    exact h1 x k hk
  · rw [up2_g (hx i (by omega))]
    exact h2 x (fun q hq => hx q (by omega))
  · rw [upr_n (hx i (by omega))]
    exact h3 x (fun q hq => hx q (by omega))
  · by_cases e : q = i
    · rw [e]
      refine ⟨by rw [up2_s, hv], fun c hc => ?_⟩
      rw [upr_s, cpy_36 hc, h3 (E i + 1) (fun q hq e2 => hE q (by omega) (by omega))]
    · have hq : q < i := by omega
      have hne := hD q hq
      refine ⟨by rw [up2_n (fun e2 => hne e2.1)]; exact (h4 q hq).1, fun c hc => ?_⟩
      rw [upr_n (by omega)]
      exact (h4 q hq).2 c hc
def StT (S : CS) (G : Nat → Nat → Value) (R : Nat → Nat → Option Nat) (a : Nat) (ta ka : Nat → Nat) : Prop := (∀ z, z < 36 → TabAt S G (a + 6 + 2 * z)) ∧ (∀ j, j < 6 → R (a + 1) j = some (ta j) ∧ ∃ z, z < 36 ∧ ta j = a + 6 + 2 * z) ∧ (∀ i, i < 30 → R (a + 5) i = some (ka i) ∧ ∃ z, z < 36 ∧ ka i = a + 6 + 2 * z) ∧ (∀ i j, i < 6 → j < 6 → ta i = ta j → i = j) ∧ (∀ i j, i < 30 → j < 30 → ka i = ka j → i = j) ∧ ∀ i j, i < 6 → j < 30 → ta i ≠ ka j
theorem HiC.st {S : CS} {G : Nat → Nat → Value} {B : Nat → Nat → Int32} {R : Nat → Nat → Option Nat} {a : Nat} {H : Nat → Nat → Tb} {ch : Nat → Nat} {d t : Nat} {ta ka : Nat → Nat} (h : HiC S G B R a H ch d t ta ka) : StT S G R a ta ka := ⟨h.1, h.2.1, h.2.2.1, h.2.2.2.1, h.2.2.2.2.1, h.2.2.2.2.2.1⟩
theorem StSh.s {S : CS} {a : Nat} (h : StSh S a) (j : Nat) (hj : j < 78) {q : Nat × Nat} (e : cs_tab.getD (j + 1) (0, 0) = q) : S.2 (a + j) = q := (h j hj).2.trans e
theorem st_nl : ∀ j, j < 78 → cs_tab.getD (j + 1) (0, 0) ≠ (100 + 3, 3) := by decide
/-- laws lie outside -/
theorem StSh.lw {S : CS} {a l n : Nat} (h : StSh S a) (h1 : S.2 l = (100 + 3, 3)) (h2 : S.2 (l + 1) = (0, n)) : (l < a ∨ a + 78 ≤ l) ∧ (l + 1 < a ∨ a + 78 ≤ l + 1) := by
  have k1 : l < a ∨ a + 78 ≤ l := by
    refine Decidable.byContradiction (fun e => ?_)
    have := h.s (l - a) (by omega) rfl
    rw [show a + (l - a) = l by omega, h1] at this
    exact st_nl (l - a) (by omega) this.symm
  refine ⟨k1, ?_⟩
  refine Decidable.byContradiction (fun e => ?_)
  have e2 : l + 1 = a := by omega
  have := h.s 0 (by decide) rfl
  rw [show a + 0 = l + 1 by omega, h2] at this
  exact absurd (congrArg Prod.fst this) (by show ¬ (0 : Nat) = 109; decide)
theorem va_all {f g : Nat → Option Nat} {i : Nat} (h : ∀ q, q < i → f q = g q) : ∀ q, q < i + 1 → va_up f i (g i) q = g q := fun q hq => by
  unfold va_up
  by_cases e : q = i
  · rw [if_pos e, e]
  · rw [if_neg e]
    exact h q (by omega)
theorem cpy_30 {B : Nat → Int32} {f : Nat → Int32} {q : Nat} (h : q < 30) : va_cpy B f 0 0 30 q = B q := by
  unfold va_cpy
  rw [if_pos ⟨Nat.zero_le _, by omega⟩, Nat.sub_zero, Nat.zero_add]
def SbQ (a : Nat) (K : Core) (S : CS) (G : Nat → Nat → Value) (B : Nat → Nat → Int32) (J : Nat → Nat → Int64) (R : Nat → Nat → Option Nat) : CQ := fun r S' G' B' J' R' => r = none ∧ S' = S ∧ J' = J ∧ (∀ x, (x < a ∨ a + 78 ≤ x) → G' x = G x ∧ B' x = B x ∧ R' x = R x) ∧ (∀ k, k ≠ 2 → k ≠ 3 → k ≠ 7 → k ≠ 8 → G' a k = G a k) ∧ (CoC S G' B' R' a K ∧ StX S G' R' a) ∧ B' a = B a
theorem st_fin {S : CS} {G Gm : Nat → Nat → Value} {B Bm : Nat → Nat → Int32} {J : Nat → Nat → Int64} {R : Nat → Nat → Option Nat} {a b : Nat} {ta ka tb kb la : Nat → Nat} {K : Core} {w_ v_ : (Nat → Nat → Value) × (Nat → Nat → Int32)} {r_ : Nat → Option Nat} (hSa : StSh S a) (hT : StT S G R a ta ka) (hH : HiC S G B R b (kH K) (kC K) (kD K) (kT K) tb kb) (hLk : LkC (kL K) (kW K) (kN K) la S G B R (b + 2)) (hbd : ∀ q, q < kS K * kS K → B (b + 3) q = oI (kB K q)) (hXb : StX S G R b) (hO : CoOk K) (hab : a + 78 ≤ b ∨ b + 78 ≤ a) (hta : ∀ q, q < 6 → a + 6 ≤ ta q ∧ ta q + 1 < a + 78) (hka : ∀ q, q < 30 → a + 6 ≤ ka q ∧ ka q + 1 < a + 78) (htb : ∀ q, q < 6 → b + 6 ≤ tb q ∧ tb q + 1 < b + 78) (hkb : ∀ q, q < 30 → b + 6 ≤ kb q ∧ kb q + 1 < b + 78) (e1_ : CpI ta tb 6 G B w_.1 w_.2) (er_ : ∀ q, q < 8 → r_ q = R (b + 2) q) (eGm : Gm = (up2 (up2 w_.1 a 2 (.int (nI (kL K)))) a 3 (.int (nI (kS K))))) (eBm : Bm = (upr (upr w_.2 (a + 3) (va_cpy (w_.2 (b + 3)) (w_.2 (a + 3)) 0 0 36)) (a + 4) (va_cpy ((upr w_.2 (a + 3) (va_cpy (w_.2 (b + 3)) (w_.2 (a + 3)) 0 0 36)) (b + 4)) ((upr w_.2 (a + 3) (va_cpy (w_.2 (b + 3)) (w_.2 (a + 3)) 0 0 36)) (a + 4)) 0 0 30))) (pi : CpI ka kb 30 Gm Bm v_.1 v_.2) (hXa : ∀ z, z < 36 → ∃ x, G (a + 6 + 2 * z) 0 = .int x) : SbQ a K S G B J R none S (up2 (up2 v_.1 a 7 (.int (nI (kD K)))) a 8 (.int (nI (kT K - kD K)))) v_.2 J (upr R (a + 2) r_) := by
  have hS6 := hO.2.2.2.1
  have h36 := Nat.mul_le_mul hS6 hS6
  have ht := hO.1.2.1
  have hd := hO.1.1
  have hL8 := hO.2.1
  have out : ∀ x, (x < a ∨ a + 78 ≤ x) → up2 (up2 v_.1 a 7 (.int (nI (kD K)))) a 8 (.int (nI (kT K - kD K))) x = G x ∧ v_.2 x = B x := fun x hx => by
    refine ⟨?_, ?_⟩
    · rw [up2_g (by omega), up2_g (by omega), pi.2.1 x (fun q hq => by have := hka q hq; omega), eGm, up2_g (by omega), up2_g (by omega), e1_.2.1 x (fun q hq => by have := hta q hq; omega)]
    · rw [pi.2.2.1 x (fun q hq => by have := hka q hq; omega), eBm, upr_n (by omega), upr_n (by omega), e1_.2.2.1 x (fun q hq => by have := hta q hq; omega)]
  have tabG : ∀ x k, x ≠ a → k ≠ 0 → up2 (up2 v_.1 a 7 (.int (nI (kD K)))) a 8 (.int (nI (kT K - kD K))) x k = G x k := fun x k hx hk => by
    rw [up2_g hx, up2_g hx, pi.1 x k hk, eGm, up2_g hx, up2_g hx, e1_.1 x k hk]
  have gt : ∀ x, x ≠ a → up2 (up2 v_.1 a 7 (.int (nI (kD K)))) a 8 (.int (nI (kT K - kD K))) x = v_.1 x := fun x hx => by rw [up2_g hx, up2_g hx]
  have tT : ∀ j, j < 6 → v_.1 (ta j) 0 = G (tb j) 0 ∧ ∀ c, c < 36 → v_.2 (ta j + 1) c = B (tb j + 1) c := fun j hj => by
    have h1 := hta j hj
    have hx : ∀ q, q < 30 → ta j ≠ ka q := fun q hq => hT.2.2.2.2.2 j q hj hq
    refine ⟨?_, fun c hc => ?_⟩
    · rw [pi.2.1 _ hx, eGm, up2_g (by omega), up2_g (by omega)]
      exact (e1_.2.2.2 j hj).1
    · rw [pi.2.2.1 _ (fun q hq e => hx q hq (by omega)), eBm, upr_n (by omega), upr_n (by omega)]
      exact (e1_.2.2.2 j hj).2 c hc
  have tK : ∀ j, j < 30 → v_.1 (ka j) 0 = G (kb j) 0 ∧ ∀ c, c < 36 → v_.2 (ka j + 1) c = B (kb j + 1) c := fun j hj => by
    have h1 := hkb j hj
    refine ⟨?_, fun c hc => ?_⟩
    · rw [(pi.2.2.2 j hj).1, eGm, up2_g (by omega), up2_g (by omega), e1_.2.1 _ (fun q hq => by have := hta q hq; omega)]
    · rw [(pi.2.2.2 j hj).2 c hc, eBm, upr_n (by omega), upr_n (by omega), e1_.2.2.1 _ (fun q hq => by have := hta q hq; omega)]
  have rowB : ∀ j, j < 6 → v_.2 (a + j) = Bm (a + j) := fun j hj => pi.2.2.1 _ (fun q hq => by have := hka q hq; omega)
  have wB : ∀ x, (x < a + 6 ∨ a + 78 ≤ x) → w_.2 x = B x := fun x hx => e1_.2.2.1 x (fun q hq => by have := hta q hq; omega)
  have le36 : ∀ tb : Tb, TbOk tb → tb.1 * tb.1 ≤ 36 := fun tb h => Nat.mul_le_mul h.1 h.1
  refine ⟨rfl, rfl, rfl, fun x hx => ⟨(out x hx).1, (out x hx).2, upr_n (by omega)⟩, fun k k2 k3 k7 k8 => ?_, ⟨⟨ta, ka, la, ⟨fun z hz => ?_, fun j hj => ?_, fun i hi => ?_, hT.2.2.2.1, hT.2.2.2.2.1, hT.2.2.2.2.2, fun j hj => ?_, fun i hi => ?_, fun i hi1 hi2 => ?_, fun i hi => ?_, ?_, up2_s⟩, ⟨hLk.1, fun l hl => ?_⟩, ?_, ?_, fun q hq => ?_⟩, fun z hz => ?_, fun l hl => ?_⟩, ?_⟩
  · rw [up2_n (fun e => k8 e.2), up2_n (fun e => k7 e.2), pi.2.1 a (fun q hq => by have := hka q hq; omega), eGm, up2_n (fun e => k3 e.2), up2_n (fun e => k2 e.2), e1_.2.1 a (fun q hq => by have := hta q hq; omega)]
  · exact (hT.1 z hz).cg2 (fun _ h_ => ⟨h_, rfl⟩) (tabG _ _ (by omega) (by decide))
  · rw [upr_n (by omega)]
    exact hT.2.1 j hj
  · rw [upr_n (by omega)]
    exact hT.2.2.1 i hi
  · have hok := hO.1.2.2.1 (kD K) j hd hj
    have h7 := hH.2.2.2.2.2.2.1 j hj
    have hl := le36 _ hok
    have hne := hta j hj
    refine ⟨by rw [gt _ (by omega), (tT j hj).1]; exact h7.1, fun q hq => ?_⟩
    rw [(tT j hj).2 q (by omega)]
    exact h7.2 q hq
  · have hc2 := (hO.1.2.2.2 i (by omega)).1
    have hok := hO.1.2.2.1 i (kC K i) (by omega) hc2
    have h7 := hH.2.2.2.2.2.2.2.1 i hi
    have hl := le36 _ hok
    have hne := hka i (by omega)
    refine ⟨by rw [gt _ (by omega), (tK i (by omega)).1]; exact h7.1, fun q hq => ?_⟩
    rw [(tK i (by omega)).2 q (by omega)]
    exact h7.2 q hq
  · have hc2 := (hO.1.2.2.2 i (by omega)).1
    have hok := hO.1.2.2.1 (i + 1) (kC K i) (by omega) hc2
    have h7 := hH.2.2.2.2.2.2.2.2.1 i hi1 hi2
    have hl := le36 _ hok
    have hne := hka i (by omega)
    refine ⟨by rw [gt _ (by omega), (tK i (by omega)).1]; exact h7.1, fun q hq => ?_⟩
    rw [(tK i (by omega)).2 q (by omega)]
    exact h7.2 q hq
  · rw [rowB 4 (by decide), eBm, upr_s, cpy_30 (by omega), upr_n (by omega), wB _ (by omega)]
    exact hH.2.2.2.2.2.2.2.2.2.1 i hi
  · rw [up2_n (fun e => absurd e.2 (by decide)), up2_s]
  · obtain ⟨p1, p2⟩ := hLk.2 l hl
    have hlw := hSa.lw p2.1.2.1 p2.1.2.2.2.1
    refine ⟨?_, p2.cg (out _ hlw.1).1 (out _ hlw.2).2⟩
    rw [upr_s, er_ l (by omega)]
    exact p1
  · rw [up2_n (fun e => absurd e.2 (by decide)), up2_n (fun e => absurd e.2 (by decide)), pi.2.1 a (fun q hq => by have := hka q hq; omega), eGm, up2_n (fun e => absurd e.2 (by decide)), up2_s]
  · rw [up2_n (fun e => absurd e.2 (by decide)), up2_n (fun e => absurd e.2 (by decide)), pi.2.1 a (fun q hq => by have := hka q hq; omega), eGm, up2_s]
  · rw [rowB 3 (by decide), eBm, upr_n (by omega), upr_s, cpy_36 (by omega), wB _ (by omega)]
    exact hbd q hq
  · have key : ∀ x, (∃ q, q < 36 ∧ x = a + 6 + 2 * q) → (∃ y, G x 0 = .int y) → ∃ y, v_.1 x 0 = .int y := fun x hx hy => by
      by_cases e : ∃ q, q < 30 ∧ x = ka q
      · obtain ⟨q, hq, e⟩ := e
        obtain ⟨z2, hz2, e2⟩ := (hH.2.2.1 q hq).2
        rw [e, (tK q hq).1, e2]
        exact hXb.1 z2 hz2
      · rw [pi.2.1 x (fun q hq e2 => e ⟨q, hq, e2⟩), eGm, up2_g (by omega), up2_g (by omega)]
        by_cases e3 : ∃ q, q < 6 ∧ x = ta q
        · obtain ⟨q, hq, e3⟩ := e3
          obtain ⟨z2, hz2, e2⟩ := (hH.2.1 q hq).2
          rw [e3, (e1_.2.2.2 q hq).1, e2]
          exact hXb.1 z2 hz2
        · rw [e1_.2.1 x (fun q hq e2 => e3 ⟨q, hq, e2⟩)]
          exact hy
    rw [gt _ (by omega)]
    exact key _ ⟨z, hz, rfl⟩ (hXa z hz)
  · rw [upr_s, er_ l hl]
    exact hXb.2 l hl
  · rw [pi.2.2.1 a (fun q hq => by have := hka q hq; omega), eBm, upr_n (by omega), upr_n (by omega), wB _ (by omega)]
theorem k_stBecome {S : CS} {G : Nat → Nat → Value} {B : Nat → Nat → Int32} {J : Nat → Nat → Int64} {R : Nat → Nat → Option Nat} {a b : Nat} {ta ka : Nat → Nat} {K : Core} (hSa : StSh S a) (hGa : StG G a) (hT : StT S G R a ta ka) (hSb : StSh S b) (hGb : StG G b) (hCb : CoC S G B R b K) (hXb : StX S G R b) (hO : CoOk K) (hab : a + 78 ≤ b ∨ b + 78 ≤ a) (hXa : ∀ z, z < 36 → ∃ x, G (a + 6 + 2 * z) 0 = .int x) : CR 1 86 0 [some (.ref a), some (.ref b), none] [] S G B J R (SbQ a K S G B J R) := by
  obtain ⟨tb, kb, la, hH, hLk, hc2, hc3, hbd⟩ := hCb
  have hc7 := hH.2.2.2.2.2.2.2.2.2.2.1
  have hc8 := hH.2.2.2.2.2.2.2.2.2.2.2
  have hne : b ≠ a := by omega
  have hta : ∀ q, q < 6 → a + 6 ≤ ta q ∧ ta q + 1 < a + 78 := fun q hq => by obtain ⟨z, hz, e⟩ := (hT.2.1 q hq).2; omega
  have hka : ∀ q, q < 30 → a + 6 ≤ ka q ∧ ka q + 1 < a + 78 := fun q hq => by obtain ⟨z, hz, e⟩ := (hT.2.2.1 q hq).2; omega
  have htb : ∀ q, q < 6 → b + 6 ≤ tb q ∧ tb q + 1 < b + 78 := fun q hq => by obtain ⟨z, hz, e⟩ := (hH.2.1 q hq).2; omega
  have hkb : ∀ q, q < 30 → b + 6 ≤ kb q ∧ kb q + 1 < b + 78 := fun q hq => by obtain ⟨z, hz, e⟩ := (hH.2.2.1 q hq).2; omega
  have hA0 : G a 0 = .ref (a + 1) := hGa.1
  have hA1 : G a 1 = .ref (a + 2) := hGa.2.1
  have hA4 : G a 4 = .ref (a + 3) := hGa.2.2.1
  have hA5 : G a 5 = .ref (a + 4) := hGa.2.2.2.1
  have hA6 : G a 6 = .ref (a + 5) := hGa.2.2.2.2
  have hB0 : G b 0 = .ref (b + 1) := hGb.1
  have hB1 : G b 1 = .ref (b + 2) := hGb.2.1
  have hB4 : G b 4 = .ref (b + 3) := hGb.2.2.1
  have hB5 : G b 5 = .ref (b + 4) := hGb.2.2.2.1
  have hB6 : G b 6 = .ref (b + 5) := hGb.2.2.2.2
  have hB2 : G b 2 = .int (nI (kL K)) := hc2
  have hB3 : G b 3 = .int (nI (kS K)) := hc3
  have hB7 : G b 7 = .int (nI (kD K)) := hc7
  have hB8 : G b 8 = .int (nI (kT K - kD K)) := hc8
  have hTT := hT.1
  have hHH := hH.1
  have hXX := hXb.1
  refine cn_ic (v := 0) d_86_0 (by decide) ?_
  refine cr_nx (pc' := 2) (al' := [some (.ref a), some (.ref b), some (.int (nI 0))]) (st' := []) d_86_1 (fun _ => rfl) ?_
  refine cr_upw (al := fun i w_ => [some (.ref a), some (.ref b), some (.int (nI i))]) (S := fun i w_ => S) (G := fun i w_ => w_.1) (B := fun i w_ => w_.2) (J := fun i w_ => J) (R := fun i w_ => R) (P := fun i w_ => CpI ta tb (i) G B w_.1 w_.2) (n := 6) (fun i w_ hi pi ihi => ?_) (fun w_ pi => ?_) 0 (G, B) (by omega) (CpI.z)
  · show CR _ _ 2 [some (.ref a), some (.ref b), some (.int (nI i))] [] S w_.1 w_.2 J R _
    have hax : w_.1 a = G a := pi.2.1 a (fun q hq => by have := hta q (by omega); omega)
    have hbx : w_.1 b = G b := pi.2.1 b (fun q hq => by have := hta q (by omega); omega)
    have hA0 : w_.1 a 0 = .ref (a + 1) := by rw [hax]; exact hGa.1
    have hA1 : w_.1 a 1 = .ref (a + 2) := by rw [hax]; exact hGa.2.1
    have hA4 : w_.1 a 4 = .ref (a + 3) := by rw [hax]; exact hGa.2.2.1
    have hA5 : w_.1 a 5 = .ref (a + 4) := by rw [hax]; exact hGa.2.2.2.1
    have hA6 : w_.1 a 6 = .ref (a + 5) := by rw [hax]; exact hGa.2.2.2.2
    have hB0 : w_.1 b 0 = .ref (b + 1) := by rw [hbx]; exact hGb.1
    have hB1 : w_.1 b 1 = .ref (b + 2) := by rw [hbx]; exact hGb.2.1
    have hB4 : w_.1 b 4 = .ref (b + 3) := by rw [hbx]; exact hGb.2.2.1
    have hB5 : w_.1 b 5 = .ref (b + 4) := by rw [hbx]; exact hGb.2.2.2.1
    have hB6 : w_.1 b 6 = .ref (b + 5) := by rw [hbx]; exact hGb.2.2.2.2
    have hB2 : w_.1 b 2 = .int (nI (kL K)) := by rw [hbx]; exact hc2
    have hB3 : w_.1 b 3 = .int (nI (kS K)) := by rw [hbx]; exact hc3
    have hB7 : w_.1 b 7 = .int (nI (kD K)) := by rw [hbx]; exact hc7
    have hB8 : w_.1 b 8 = .int (nI (kT K - kD K)) := by rw [hbx]; exact hc8
    obtain ⟨z1, hz1, e1⟩ := (hT.2.1 i hi).2
    obtain ⟨z2, hz2, e2⟩ := (hH.2.1 i hi).2
    have htA : TabAt S w_.1 (ta i) := TabAt.cg2 (by rw [e1]; exact hTT z1 hz1) (fun _ h_ => ⟨h_, rfl⟩) (pi.1 _ 1 (by decide))
    have htB : TabAt S w_.1 (tb i) := TabAt.cg2 (by rw [e2]; exact hHH z2 hz2) (fun _ h_ => ⟨h_, rfl⟩) (pi.1 _ 1 (by decide))
    have hEi := htb i hi
    have hDi := hta i hi
    obtain ⟨x0, hx0⟩ := hXX z2 hz2
    obtain ⟨n0, en0⟩ := nI_ex x0
    have hv0 : G (tb i) 0 = .int (nI n0) := by rw [e2, hx0, en0]
    have hsz : w_.1 (tb i) 0 = .int (nI n0) := by rw [pi.2.1 (tb i) (fun q hq => by have := hta q (by omega); omega)]; exact hv0
    refine cr_nx (pc' := 3) (al' := [some (.ref a), some (.ref b), some (.int (nI i))]) (st' := [.int (nI i)]) d_86_2 (fun _ => rfl) ?_
    refine cn_bp (v := 6) d_86_3 (by decide) ?_
    refine cn_cge (t := 29) d_86_5 (by decide) (by omega) (by decide) (fun c5 => ?_) (fun c5 => ?_)
    · omega
    · refine cr_nx (pc' := 9) (al' := [some (.ref a), some (.ref b), some (.int (nI i))]) (st' := [.ref a]) d_86_8 (fun _ => rfl) ?_
      refine cr_gf (v := .ref (a + 1)) d_86_9 cw_86 cf_9_11 (hSa 0 (by decide)).1 (hSa.s 0 (by decide) rfl) (by decide) hA0 ?_
      refine cr_nx (pc' := 13) (al' := [some (.ref a), some (.ref b), some (.int (nI i))]) (st' := [.int (nI i), .ref (a + 1)]) d_86_12 (fun _ => rfl) ?_
      refine cr_aa (a := (a + 1)) (v := .ref (ta i)) d_86_13 (hSa 1 (by decide)).1 (by decide) (hSa.s 1 (by decide) rfl) (by decide) (show i < 6 by first | omega | assumption | exact cu_36 (by omega) (cu_lt (by omega) (by omega))) (show va_rf (R (a + 1) i) = _ by rw [(hT.2.1 i hi).1]; rfl) ?_
      refine cr_nx (pc' := 15) (al' := [some (.ref a), some (.ref b), some (.int (nI i))]) (st' := [.ref b, .ref (ta i)]) d_86_14 (fun _ => rfl) ?_
      refine cr_gf (v := .ref (b + 1)) d_86_15 cw_86 cf_9_11 (hSb 0 (by decide)).1 (hSb.s 0 (by decide) rfl) (by decide) hB0 ?_
      refine cr_nx (pc' := 19) (al' := [some (.ref a), some (.ref b), some (.int (nI i))]) (st' := [.int (nI i), .ref (b + 1), .ref (ta i)]) d_86_18 (fun _ => rfl) ?_
      refine cr_aa (a := (b + 1)) (v := .ref (tb i)) d_86_19 (hSb 1 (by decide)).1 (by decide) (hSb.s 1 (by decide) rfl) (by decide) (show i < 6 by first | omega | assumption | exact cu_36 (by omega) (cu_lt (by omega) (by omega))) (show va_rf (R (b + 1) i) = _ by rw [(hH.2.1 i hi).1]; rfl) ?_
      refine cr_pv (b := (ta i)) (as := [.ref (tb i)]) (al0 := [some (.ref (ta i)), some (.ref (tb i))]) (r := []) d_86_20 cw_86 cm_9_34 cz_93 rfl rfl htA.1 (by rw [cw_93]; exact htA.2.2.1) (by rw [cw_93]; decide) rfl (Nat.le_of_ble_eq_true rfl) (k_become htA htB (by omega) hsz) ?_
      show CR _ _ 23 [some (.ref a), some (.ref b), some (.int (nI i))] [] S (up2 w_.1 (ta i) 0 (.int (nI n0))) (upr w_.2 (ta i + 1) (va_cpy (w_.2 (tb i + 1)) (w_.2 (ta i + 1)) 0 0 36)) J R _
      refine cn_inc d_86_23 rfl rfl ?_
      show CR _ _ 26 [some (.ref a), some (.ref b), some (.int (nI (i + 1)))] [] S (up2 w_.1 (ta i) 0 (.int (nI n0))) (upr w_.2 (ta i + 1) (va_cpy (w_.2 (tb i + 1)) (w_.2 (ta i + 1)) 0 0 36)) J R _
      refine cr_nx (pc' := 2) (al' := [some (.ref a), some (.ref b), some (.int (nI (i + 1)))]) (st' := []) d_86_26 (fun _ => rfl) ?_
      exact ihi (up2 w_.1 (ta i) 0 (.int (nI n0)), upr w_.2 (ta i + 1) (va_cpy (w_.2 (tb i + 1)) (w_.2 (ta i + 1)) 0 0 36)) ((pi.st (fun q hq e_ => by have := hT.2.2.2.1 q i (by omega) (by omega) e_; omega) (fun q hq => by have := hta q (by omega); omega) hv0))
  · show CR _ _ 2 [some (.ref a), some (.ref b), some (.int (nI 6))] [] S w_.1 w_.2 J R _
    have hax : w_.1 a = G a := pi.2.1 a (fun q hq => by have := hta q (by omega); omega)
    have hbx : w_.1 b = G b := pi.2.1 b (fun q hq => by have := hta q (by omega); omega)
    have hA0 : w_.1 a 0 = .ref (a + 1) := by rw [hax]; exact hGa.1
    have hA1 : w_.1 a 1 = .ref (a + 2) := by rw [hax]; exact hGa.2.1
    have hA4 : w_.1 a 4 = .ref (a + 3) := by rw [hax]; exact hGa.2.2.1
    have hA5 : w_.1 a 5 = .ref (a + 4) := by rw [hax]; exact hGa.2.2.2.1
    have hA6 : w_.1 a 6 = .ref (a + 5) := by rw [hax]; exact hGa.2.2.2.2
    have hB0 : w_.1 b 0 = .ref (b + 1) := by rw [hbx]; exact hGb.1
    have hB1 : w_.1 b 1 = .ref (b + 2) := by rw [hbx]; exact hGb.2.1
    have hB4 : w_.1 b 4 = .ref (b + 3) := by rw [hbx]; exact hGb.2.2.1
    have hB5 : w_.1 b 5 = .ref (b + 4) := by rw [hbx]; exact hGb.2.2.2.1
    have hB6 : w_.1 b 6 = .ref (b + 5) := by rw [hbx]; exact hGb.2.2.2.2
    have hB2 : w_.1 b 2 = .int (nI (kL K)) := by rw [hbx]; exact hc2
    have hB3 : w_.1 b 3 = .int (nI (kS K)) := by rw [hbx]; exact hc3
    have hB7 : w_.1 b 7 = .int (nI (kD K)) := by rw [hbx]; exact hc7
    have hB8 : w_.1 b 8 = .int (nI (kT K - kD K)) := by rw [hbx]; exact hc8
    refine cr_nx (pc' := 3) (al' := [some (.ref a), some (.ref b), some (.int (nI 6))]) (st' := [.int (nI 6)]) d_86_2 (fun _ => rfl) ?_
    refine cn_bp (v := 6) d_86_3 (by decide) ?_
    refine cn_cge (t := 29) d_86_5 (by decide) (by omega) (by decide) (fun c5 => ?_) (fun c5 => ?_)
    · have pw := pi
      refine cn_ic (v := 0) d_86_29 (by decide) ?_
      refine cr_nx (pc' := 31) (al' := [some (.ref a), some (.ref b), some (.int (nI 0))]) (st' := []) d_86_30 (fun _ => rfl) ?_
      refine cr_R (show R = (upr R (a + 2) (R (a + 2))) by rw [upr_id]) ?_
      refine cr_upw (al := fun i r_ => [some (.ref a), some (.ref b), some (.int (nI i))]) (S := fun i r_ => S) (G := fun i r_ => w_.1) (B := fun i r_ => w_.2) (J := fun i r_ => J) (R := fun i r_ => (upr R (a + 2) r_)) (P := fun i r_ => ∀ q, q < i → r_ q = R (b + 2) q) (n := 8) (fun i r_ hi pi ihi => ?_) (fun r_ pi => ?_) 0 (R (a + 2)) (by omega) (all_0)
      · show CR _ _ 31 [some (.ref a), some (.ref b), some (.int (nI i))] [] S w_.1 w_.2 J (upr R (a + 2) r_) _
        refine cr_nx (pc' := 32) (al' := [some (.ref a), some (.ref b), some (.int (nI i))]) (st' := [.int (nI i)]) d_86_31 (fun _ => rfl) ?_
        refine cn_bp (v := 8) d_86_32 (by decide) ?_
        refine cn_cge (t := 55) d_86_34 (by decide) (by omega) (by decide) (fun c34 => ?_) (fun c34 => ?_)
        · omega
        · refine cr_nx (pc' := 38) (al' := [some (.ref a), some (.ref b), some (.int (nI i))]) (st' := [.ref a]) d_86_37 (fun _ => rfl) ?_
          refine cr_gf (v := .ref (a + 2)) d_86_38 cw_86 cf_9_19 (hSa 0 (by decide)).1 (hSa.s 0 (by decide) rfl) (by decide) hA1 ?_
          refine cr_nx (pc' := 42) (al' := [some (.ref a), some (.ref b), some (.int (nI i))]) (st' := [.int (nI i), .ref (a + 2)]) d_86_41 (fun _ => rfl) ?_
          refine cr_nx (pc' := 43) (al' := [some (.ref a), some (.ref b), some (.int (nI i))]) (st' := [.ref b, .int (nI i), .ref (a + 2)]) d_86_42 (fun _ => rfl) ?_
          refine cr_gf (v := .ref (b + 2)) d_86_43 cw_86 cf_9_19 (hSb 0 (by decide)).1 (hSb.s 0 (by decide) rfl) (by decide) hB1 ?_
          refine cr_nx (pc' := 47) (al' := [some (.ref a), some (.ref b), some (.int (nI i))]) (st' := [.int (nI i), .ref (b + 2), .int (nI i), .ref (a + 2)]) d_86_46 (fun _ => rfl) ?_
          refine cr_aa (a := (b + 2)) (v := va_rf (R (b + 2) i)) d_86_47 (hSb 2 (by decide)).1 (by decide) (hSb.s 2 (by decide) rfl) (by decide) (show i < 8 by first | omega | assumption | exact cu_36 (by omega) (cu_lt (by omega) (by omega))) (show va_rf (upr R (a + 2) r_ (b + 2) i) = _ by rw [upr_n (by omega)]) ?_
          refine cr_aO (a := (a + 2)) (c := 3) (R1 := (upr R (a + 2) (va_up r_ i (R (b + 2) i)))) d_86_48 (hSa 2 (by decide)).1 (by decide) (hSa.s 2 (by decide) rfl) (hXb.2 i (by omega)) (by decide) (show i < 8 by omega) (by rw [upr_s, upr_u]) ?_
          refine cn_inc d_86_49 rfl rfl ?_
          show CR _ _ 52 [some (.ref a), some (.ref b), some (.int (nI (i + 1)))] [] S w_.1 w_.2 J (upr R (a + 2) (va_up r_ i (R (b + 2) i))) _
          refine cr_nx (pc' := 31) (al' := [some (.ref a), some (.ref b), some (.int (nI (i + 1)))]) (st' := []) d_86_52 (fun _ => rfl) ?_
          exact ihi (va_up r_ i (R (b + 2) i)) (va_all pi)
      · show CR _ _ 31 [some (.ref a), some (.ref b), some (.int (nI 8))] [] S w_.1 w_.2 J (upr R (a + 2) r_) _
        refine cr_nx (pc' := 32) (al' := [some (.ref a), some (.ref b), some (.int (nI 8))]) (st' := [.int (nI 8)]) d_86_31 (fun _ => rfl) ?_
        refine cn_bp (v := 8) d_86_32 (by decide) ?_
        refine cn_cge (t := 55) d_86_34 (by decide) (by omega) (by decide) (fun c34 => ?_) (fun c34 => ?_)
        · have pr := pi
          refine cr_nx (pc' := 56) (al' := [some (.ref a), some (.ref b), some (.int (nI 8))]) (st' := [.ref a]) d_86_55 (fun _ => rfl) ?_
          refine cr_nx (pc' := 57) (al' := [some (.ref a), some (.ref b), some (.int (nI 8))]) (st' := [.ref b, .ref a]) d_86_56 (fun _ => rfl) ?_
          refine cr_gf (v := .int (nI (kL K))) d_86_57 cw_86 cf_9_38 (hSb 0 (by decide)).1 (hSb.s 0 (by decide) rfl) (by decide) hB2 ?_
          refine cp_9_2  d_86_60 cw_86 cf_9_38 (hSa 0 (by decide)).1 (hSa.s 0 (by decide) rfl) (by decide) ?_
          refine cr_nx (pc' := 64) (al' := [some (.ref a), some (.ref b), some (.int (nI 8))]) (st' := [.ref a]) d_86_63 (fun _ => rfl) ?_
          refine cr_nx (pc' := 65) (al' := [some (.ref a), some (.ref b), some (.int (nI 8))]) (st' := [.ref b, .ref a]) d_86_64 (fun _ => rfl) ?_
          refine cr_gf (v := .int (nI (kS K))) d_86_65 cw_86 cf_9_42 (hSb 0 (by decide)).1 (hSb.s 0 (by decide) rfl) (by decide) (by simp [up2, hne]; exact hB3) ?_
          refine cp_9_3  d_86_68 cw_86 cf_9_42 (hSa 0 (by decide)).1 (hSa.s 0 (by decide) rfl) (by decide) ?_
          refine cr_nx (pc' := 72) (al' := [some (.ref a), some (.ref b), some (.int (nI 8))]) (st' := [.ref b]) d_86_71 (fun _ => rfl) ?_
          refine cr_gf (v := .ref (b + 3)) d_86_72 cw_86 cf_9_23 (hSb 0 (by decide)).1 (hSb.s 0 (by decide) rfl) (by decide) (by simp [up2, hne]; exact hB4) ?_
          refine cn_ic (v := 0) d_86_75 (by decide) ?_
          refine cr_nx (pc' := 77) (al' := [some (.ref a), some (.ref b), some (.int (nI 8))]) (st' := [.ref a, .int (nI 0), .ref (b + 3)]) d_86_76 (fun _ => rfl) ?_
          refine cr_gf (v := .ref (a + 3)) d_86_77 cw_86 cf_9_23 (hSa 0 (by decide)).1 (hSa.s 0 (by decide) rfl) (by decide) (by simp [up2, hne]; exact hA4) ?_
          refine cn_ic (v := 0) d_86_80 (by decide) ?_
          refine cn_bp (v := 36) d_86_81 (by decide) ?_
          refine cr_cy (a := (a + 3)) (a0 := (b + 3)) (B1 := (upr w_.2 (a + 3) (va_cpy (w_.2 (b + 3)) (w_.2 (a + 3)) 0 0 36))) d_86_83 cw_86 cm_9_45 (hSa 3 (by decide)).1 (hSb 3 (by decide)).1 (hSa.s 3 (by decide) rfl) (hSb.s 3 (by decide) rfl) (by omega) (by omega) (by decide) (by decide) rfl rfl ?_
          refine cr_nx (pc' := 87) (al' := [some (.ref a), some (.ref b), some (.int (nI 8))]) (st' := [.ref b]) d_86_86 (fun _ => rfl) ?_
          refine cr_gf (v := .ref (b + 4)) d_86_87 cw_86 cf_9_27 (hSb 0 (by decide)).1 (hSb.s 0 (by decide) rfl) (by decide) (by simp [up2, hne]; exact hB5) ?_
          refine cn_ic (v := 0) d_86_90 (by decide) ?_
          refine cr_nx (pc' := 92) (al' := [some (.ref a), some (.ref b), some (.int (nI 8))]) (st' := [.ref a, .int (nI 0), .ref (b + 4)]) d_86_91 (fun _ => rfl) ?_
          refine cr_gf (v := .ref (a + 4)) d_86_92 cw_86 cf_9_27 (hSa 0 (by decide)).1 (hSa.s 0 (by decide) rfl) (by decide) (by simp [up2, hne]; exact hA5) ?_
          refine cn_ic (v := 0) d_86_95 (by decide) ?_
          refine cn_bp (v := 30) d_86_96 (by decide) ?_
          refine cr_cy (a := (a + 4)) (a0 := (b + 4)) (B1 := (upr (upr w_.2 (a + 3) (va_cpy (w_.2 (b + 3)) (w_.2 (a + 3)) 0 0 36)) (a + 4) (va_cpy ((upr w_.2 (a + 3) (va_cpy (w_.2 (b + 3)) (w_.2 (a + 3)) 0 0 36)) (b + 4)) ((upr w_.2 (a + 3) (va_cpy (w_.2 (b + 3)) (w_.2 (a + 3)) 0 0 36)) (a + 4)) 0 0 30))) d_86_98 cw_86 cm_9_45 (hSa 4 (by decide)).1 (hSb 4 (by decide)).1 (hSa.s 4 (by decide) rfl) (hSb.s 4 (by decide) rfl) (by omega) (by omega) (by decide) (by decide) rfl rfl ?_
          have e1_ := pw
          have er_ := pr
          obtain ⟨Gm, eGm⟩ : ∃ X_, X_ = (up2 (up2 w_.1 a 2 (.int (nI (kL K)))) a 3 (.int (nI (kS K)))) := ⟨_, rfl⟩
          obtain ⟨Bm, eBm⟩ : ∃ X_, X_ = (upr (upr w_.2 (a + 3) (va_cpy (w_.2 (b + 3)) (w_.2 (a + 3)) 0 0 36)) (a + 4) (va_cpy ((upr w_.2 (a + 3) (va_cpy (w_.2 (b + 3)) (w_.2 (a + 3)) 0 0 36)) (b + 4)) ((upr w_.2 (a + 3) (va_cpy (w_.2 (b + 3)) (w_.2 (a + 3)) 0 0 36)) (a + 4)) 0 0 30)) := ⟨_, rfl⟩
          rw [← eGm, ← eBm]
          have hbm : Gm b = w_.1 b := by rw [eGm, up2_g hne, up2_g hne]
          have ham : ∀ k, k ≠ 2 → k ≠ 3 → Gm a k = w_.1 a k := fun k k2 k3 => by rw [eGm, up2_n (fun e => k3 e.2), up2_n (fun e => k2 e.2)]
          have hom : ∀ x k, x ≠ a → Gm x k = w_.1 x k := fun x k hx => by rw [eGm, up2_n (fun e => hx e.1), up2_n (fun e => hx e.1)]
          have hA0 : Gm a 0 = .ref (a + 1) := (ham 0 (by decide) (by decide)).trans hA0
          have hA1 : Gm a 1 = .ref (a + 2) := (ham 1 (by decide) (by decide)).trans hA1
          have hA4 : Gm a 4 = .ref (a + 3) := (ham 4 (by decide) (by decide)).trans hA4
          have hA5 : Gm a 5 = .ref (a + 4) := (ham 5 (by decide) (by decide)).trans hA5
          have hA6 : Gm a 6 = .ref (a + 5) := (ham 6 (by decide) (by decide)).trans hA6
          have hB0 : Gm b 0 = .ref (b + 1) := by rw [hbm]; exact hB0
          have hB1 : Gm b 1 = .ref (b + 2) := by rw [hbm]; exact hB1
          have hB4 : Gm b 4 = .ref (b + 3) := by rw [hbm]; exact hB4
          have hB5 : Gm b 5 = .ref (b + 4) := by rw [hbm]; exact hB5
          have hB6 : Gm b 6 = .ref (b + 5) := by rw [hbm]; exact hB6
          have hB2 : Gm b 2 = .int (nI (kL K)) := by rw [hbm]; exact hB2
          have hB3 : Gm b 3 = .int (nI (kS K)) := by rw [hbm]; exact hB3
          have hB7 : Gm b 7 = .int (nI (kD K)) := by rw [hbm]; exact hB7
          have hB8 : Gm b 8 = .int (nI (kT K - kD K)) := by rw [hbm]; exact hB8
          have hTT : ∀ z, z < 36 → TabAt S Gm (a + 6 + 2 * z) := fun z hz => TabAt.cg2 (hTT z hz) (fun _ h_ => ⟨h_, rfl⟩) (by rw [hom _ _ (by omega), e1_.1 _ 1 (by decide)])
          have hHH : ∀ z, z < 36 → TabAt S Gm (b + 6 + 2 * z) := fun z hz => TabAt.cg2 (hHH z hz) (fun _ h_ => ⟨h_, rfl⟩) (by rw [hom _ _ (by omega), e1_.1 _ 1 (by decide)])
          have hXX : ∀ z, z < 36 → ∃ x, Gm (b + 6 + 2 * z) 0 = .int x := fun z hz => by rw [hom _ _ (by omega), e1_.2.1 _ (fun q hq => by have := hta q hq; omega)]; exact hXX z hz
          refine cn_ic (v := 0) d_86_101 (by decide) ?_
          refine cr_nx (pc' := 103) (al' := [some (.ref a), some (.ref b), some (.int (nI 0))]) (st' := []) d_86_102 (fun _ => rfl) ?_
          refine cr_upw (al := fun i v_ => [some (.ref a), some (.ref b), some (.int (nI i))]) (S := fun i v_ => S) (G := fun i v_ => v_.1) (B := fun i v_ => v_.2) (J := fun i v_ => J) (R := fun i v_ => (upr R (a + 2) r_)) (P := fun i v_ => CpI ka kb (i) Gm Bm v_.1 v_.2) (n := 30) (fun i v_ hi pi ihi => ?_) (fun v_ pi => ?_) 0 (Gm, Bm) (by omega) (CpI.z)
          · show CR _ _ 103 [some (.ref a), some (.ref b), some (.int (nI i))] [] S v_.1 v_.2 J (upr R (a + 2) r_) _
            have hax : v_.1 a = Gm a := pi.2.1 a (fun q hq => by have := hka q (by omega); omega)
            have hbx : v_.1 b = Gm b := pi.2.1 b (fun q hq => by have := hka q (by omega); omega)
            have hA0 : v_.1 a 0 = .ref (a + 1) := by rw [hax]; exact hA0
            have hA1 : v_.1 a 1 = .ref (a + 2) := by rw [hax]; exact hA1
            have hA4 : v_.1 a 4 = .ref (a + 3) := by rw [hax]; exact hA4
            have hA5 : v_.1 a 5 = .ref (a + 4) := by rw [hax]; exact hA5
            have hA6 : v_.1 a 6 = .ref (a + 5) := by rw [hax]; exact hA6
            have hB0 : v_.1 b 0 = .ref (b + 1) := by rw [hbx]; exact hB0
            have hB1 : v_.1 b 1 = .ref (b + 2) := by rw [hbx]; exact hB1
            have hB4 : v_.1 b 4 = .ref (b + 3) := by rw [hbx]; exact hB4
            have hB5 : v_.1 b 5 = .ref (b + 4) := by rw [hbx]; exact hB5
            have hB6 : v_.1 b 6 = .ref (b + 5) := by rw [hbx]; exact hB6
            have hB2 : v_.1 b 2 = .int (nI (kL K)) := by rw [hbx]; exact hB2
            have hB3 : v_.1 b 3 = .int (nI (kS K)) := by rw [hbx]; exact hB3
            have hB7 : v_.1 b 7 = .int (nI (kD K)) := by rw [hbx]; exact hB7
            have hB8 : v_.1 b 8 = .int (nI (kT K - kD K)) := by rw [hbx]; exact hB8
            obtain ⟨z1, hz1, e1⟩ := (hT.2.2.1 i hi).2
            obtain ⟨z2, hz2, e2⟩ := (hH.2.2.1 i hi).2
            have htA : TabAt S v_.1 (ka i) := TabAt.cg2 (by rw [e1]; exact hTT z1 hz1) (fun _ h_ => ⟨h_, rfl⟩) (pi.1 _ 1 (by decide))
            have htB : TabAt S v_.1 (kb i) := TabAt.cg2 (by rw [e2]; exact hHH z2 hz2) (fun _ h_ => ⟨h_, rfl⟩) (pi.1 _ 1 (by decide))
            have hEi := hkb i hi
            have hDi := hka i hi
            obtain ⟨x0, hx0⟩ := hXX z2 hz2
            obtain ⟨n0, en0⟩ := nI_ex x0
            have hv0 : Gm (kb i) 0 = .int (nI n0) := by rw [e2, hx0, en0]
            have hsz : v_.1 (kb i) 0 = .int (nI n0) := by rw [pi.2.1 (kb i) (fun q hq => by have := hka q (by omega); omega)]; exact hv0
            refine cr_nx (pc' := 104) (al' := [some (.ref a), some (.ref b), some (.int (nI i))]) (st' := [.int (nI i)]) d_86_103 (fun _ => rfl) ?_
            refine cn_bp (v := 30) d_86_104 (by decide) ?_
            refine cn_cge (t := 130) d_86_106 (by decide) (by omega) (by decide) (fun c106 => ?_) (fun c106 => ?_)
            · omega
            · refine cr_nx (pc' := 110) (al' := [some (.ref a), some (.ref b), some (.int (nI i))]) (st' := [.ref a]) d_86_109 (fun _ => rfl) ?_
              refine cr_gf (v := .ref (a + 5)) d_86_110 cw_86 cf_9_30 (hSa 0 (by decide)).1 (hSa.s 0 (by decide) rfl) (by decide) hA6 ?_
              refine cr_nx (pc' := 114) (al' := [some (.ref a), some (.ref b), some (.int (nI i))]) (st' := [.int (nI i), .ref (a + 5)]) d_86_113 (fun _ => rfl) ?_
              refine cr_aa (a := (a + 5)) (v := .ref (ka i)) d_86_114 (hSa 5 (by decide)).1 (by decide) (hSa.s 5 (by decide) rfl) (by decide) (show i < 30 by first | omega | assumption | exact cu_36 (by omega) (cu_lt (by omega) (by omega))) (show va_rf (upr R (a + 2) r_ (a + 5) i) = _ by rw [upr_n (by omega), (hT.2.2.1 i hi).1]; rfl) ?_
              refine cr_nx (pc' := 116) (al' := [some (.ref a), some (.ref b), some (.int (nI i))]) (st' := [.ref b, .ref (ka i)]) d_86_115 (fun _ => rfl) ?_
              refine cr_gf (v := .ref (b + 5)) d_86_116 cw_86 cf_9_30 (hSb 0 (by decide)).1 (hSb.s 0 (by decide) rfl) (by decide) hB6 ?_
              refine cr_nx (pc' := 120) (al' := [some (.ref a), some (.ref b), some (.int (nI i))]) (st' := [.int (nI i), .ref (b + 5), .ref (ka i)]) d_86_119 (fun _ => rfl) ?_
              refine cr_aa (a := (b + 5)) (v := .ref (kb i)) d_86_120 (hSb 5 (by decide)).1 (by decide) (hSb.s 5 (by decide) rfl) (by decide) (show i < 30 by first | omega | assumption | exact cu_36 (by omega) (cu_lt (by omega) (by omega))) (show va_rf (upr R (a + 2) r_ (b + 5) i) = _ by rw [upr_n (by omega), (hH.2.2.1 i hi).1]; rfl) ?_
              refine cr_pv (b := (ka i)) (as := [.ref (kb i)]) (al0 := [some (.ref (ka i)), some (.ref (kb i))]) (r := []) d_86_121 cw_86 cm_9_34 cz_93 rfl rfl htA.1 (by rw [cw_93]; exact htA.2.2.1) (by rw [cw_93]; decide) rfl (Nat.le_of_ble_eq_true rfl) (k_become htA htB (by omega) hsz) ?_
              show CR _ _ 124 [some (.ref a), some (.ref b), some (.int (nI i))] [] S (up2 v_.1 (ka i) 0 (.int (nI n0))) (upr v_.2 (ka i + 1) (va_cpy (v_.2 (kb i + 1)) (v_.2 (ka i + 1)) 0 0 36)) J (upr R (a + 2) r_) _
              refine cn_inc d_86_124 rfl rfl ?_
              show CR _ _ 127 [some (.ref a), some (.ref b), some (.int (nI (i + 1)))] [] S (up2 v_.1 (ka i) 0 (.int (nI n0))) (upr v_.2 (ka i + 1) (va_cpy (v_.2 (kb i + 1)) (v_.2 (ka i + 1)) 0 0 36)) J (upr R (a + 2) r_) _
              refine cr_nx (pc' := 103) (al' := [some (.ref a), some (.ref b), some (.int (nI (i + 1)))]) (st' := []) d_86_127 (fun _ => rfl) ?_
              exact ihi (up2 v_.1 (ka i) 0 (.int (nI n0)), upr v_.2 (ka i + 1) (va_cpy (v_.2 (kb i + 1)) (v_.2 (ka i + 1)) 0 0 36)) ((pi.st (fun q hq e_ => by have := hT.2.2.2.2.1 q i (by omega) (by omega) e_; omega) (fun q hq => by have := hka q (by omega); omega) hv0))
          · show CR _ _ 103 [some (.ref a), some (.ref b), some (.int (nI 30))] [] S v_.1 v_.2 J (upr R (a + 2) r_) _
            have hax : v_.1 a = Gm a := pi.2.1 a (fun q hq => by have := hka q (by omega); omega)
            have hbx : v_.1 b = Gm b := pi.2.1 b (fun q hq => by have := hka q (by omega); omega)
            have hA0 : v_.1 a 0 = .ref (a + 1) := by rw [hax]; exact hA0
            have hA1 : v_.1 a 1 = .ref (a + 2) := by rw [hax]; exact hA1
            have hA4 : v_.1 a 4 = .ref (a + 3) := by rw [hax]; exact hA4
            have hA5 : v_.1 a 5 = .ref (a + 4) := by rw [hax]; exact hA5
            have hA6 : v_.1 a 6 = .ref (a + 5) := by rw [hax]; exact hA6
            have hB0 : v_.1 b 0 = .ref (b + 1) := by rw [hbx]; exact hB0
            have hB1 : v_.1 b 1 = .ref (b + 2) := by rw [hbx]; exact hB1
            have hB4 : v_.1 b 4 = .ref (b + 3) := by rw [hbx]; exact hB4
            have hB5 : v_.1 b 5 = .ref (b + 4) := by rw [hbx]; exact hB5
            have hB6 : v_.1 b 6 = .ref (b + 5) := by rw [hbx]; exact hB6
            have hB2 : v_.1 b 2 = .int (nI (kL K)) := by rw [hbx]; exact hB2
            have hB3 : v_.1 b 3 = .int (nI (kS K)) := by rw [hbx]; exact hB3
            have hB7 : v_.1 b 7 = .int (nI (kD K)) := by rw [hbx]; exact hB7
            have hB8 : v_.1 b 8 = .int (nI (kT K - kD K)) := by rw [hbx]; exact hB8
            refine cr_nx (pc' := 104) (al' := [some (.ref a), some (.ref b), some (.int (nI 30))]) (st' := [.int (nI 30)]) d_86_103 (fun _ => rfl) ?_
            refine cn_bp (v := 30) d_86_104 (by decide) ?_
            refine cn_cge (t := 130) d_86_106 (by decide) (by omega) (by decide) (fun c106 => ?_) (fun c106 => ?_)
            · refine cr_nx (pc' := 131) (al' := [some (.ref a), some (.ref b), some (.int (nI 30))]) (st' := [.ref a]) d_86_130 (fun _ => rfl) ?_
              refine cr_nx (pc' := 132) (al' := [some (.ref a), some (.ref b), some (.int (nI 30))]) (st' := [.ref b, .ref a]) d_86_131 (fun _ => rfl) ?_
              refine cr_gf (v := .int (nI (kD K))) d_86_132 cw_86 cf_9_51 (hSb 0 (by decide)).1 (hSb.s 0 (by decide) rfl) (by decide) hB7 ?_
              refine cp_9_7  d_86_135 cw_86 cf_9_51 (hSa 0 (by decide)).1 (hSa.s 0 (by decide) rfl) (by decide) ?_
              refine cr_nx (pc' := 139) (al' := [some (.ref a), some (.ref b), some (.int (nI 30))]) (st' := [.ref a]) d_86_138 (fun _ => rfl) ?_
              refine cr_nx (pc' := 140) (al' := [some (.ref a), some (.ref b), some (.int (nI 30))]) (st' := [.ref b, .ref a]) d_86_139 (fun _ => rfl) ?_
              refine cr_gf (v := .int (nI (kT K - kD K))) d_86_140 cw_86 cf_9_54 (hSb 0 (by decide)).1 (hSb.s 0 (by decide) rfl) (by decide) (by simp [up2, hne]; exact hB8) ?_
              refine cp_9_8  d_86_143 cw_86 cf_9_54 (hSa 0 (by decide)).1 (hSa.s 0 (by decide) rfl) (by decide) ?_
              exact cr_rv d_86_146 cx_86 (st_fin hSa hT hH hLk hbd hXb hO hab hta hka htb hkb e1_ er_ eGm eBm pi hXa)
            · omega
        · omega
    · omega
