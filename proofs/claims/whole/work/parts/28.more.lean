/-! More rules: bits, loops with a ghost, a state under another name; printed by wip/whole/gen_more.py. -/
theorem nz_and (a b : Nat) : nI a &&& nI b = nI (a &&& b) := by
  apply Int32.toBitVec_inj.mp
  show BitVec.ofNat 32 a &&& BitVec.ofNat 32 b = BitVec.ofNat 32 (a &&& b)
  rw [BitVec.ofNat_and]
theorem nz_or (a b : Nat) : nI a ||| nI b = nI (a ||| b) := by
  apply Int32.toBitVec_inj.mp
  show BitVec.ofNat 32 a ||| BitVec.ofNat 32 b = BitVec.ofNat 32 (a ||| b)
  rw [BitVec.ofNat_or]
theorem nz_xor (a b : Nat) : nI a ^^^ nI b = nI (a ^^^ b) := by
  apply Int32.toBitVec_inj.mp
  show BitVec.ofNat 32 a ^^^ BitVec.ofNat 32 b = BitVec.ofNat 32 (a ^^^ b)
  rw [BitVec.ofNat_xor]
theorem nz_not (a : Nat) : nI a ^^^ (-1) = nI (a ^^^ 4294967295) := nz_xor a 4294967295
theorem nz_l : ∀ n, n < 32 → ((nI n &&& 31).toBitVec.smod 32).toNat = n := by decide
theorem nz_shl {a k : Nat} (hk : k < 32) : nI a <<< (nI k &&& 31) = nI (a * 2 ^ k) := by
  apply Int32.toBitVec_inj.mp
  apply BitVec.eq_of_toNat_eq
  rw [pk_shl _ _ k (nz_l k hk)]
  show (a % 2 ^ 32) * 2 ^ k % 2 ^ 32 = a * 2 ^ k % 2 ^ 32
  rw [Nat.mod_mul_mod]
theorem nz_shr {a k : Nat} (hk : k < 32) (ha : a < 2 ^ 31) : nI a >>> (nI k &&& 31) = nI (a / 2 ^ k) := pk_shrN ha _ k (nz_l k hk)
theorem upd_u {f : Nat → Int32} {k : Nat} {x z : Int32} : upd (upd f k x) k z = upd f k z := by
  funext j
  unfold upd
  by_cases h : j = k <;> simp [h]
theorem up2_u {G : Nat → Nat → Value} {a k : Nat} {x z : Value} : up2 (up2 G a k x) a k z = up2 G a k z := by
  funext b j
  unfold up2
  by_cases h : b = a ∧ j = k <;> simp [h]
theorem nI_pr {n : Nat} (h : 1 ≤ n) : nI (n - 1) = nI n + (-1) := by
  obtain ⟨m, rfl⟩ : ∃ m, n = m + 1 := ⟨n - 1, by omega⟩
  rw [pk_m1]
  rfl
/-- factorials -/
def FA : Nat → Nat
  | 0 => 1
  | n + 1 => (n + 1) * FA n
theorem am_fcN : ∀ {i : Nat}, i < 7 → am_fc i = nI (FA i) := by decide
section XR
variable {k y pc : Nat} {al al1 : AL} {st r : List Value} {g g1 : Nat → Int32} {A A1 : Nat → Nat → Int32} {Q : Option Value → (Nat → Int32) → (Nat → Nat → Int32) → Prop}
theorem rn_and {a b : Nat} (hd : decode (am_b y) pc = .ok (.iand, 1)) (kk : RR k y (pc + 1) al (.int (nI (a &&& b)) :: r) g A Q) : RR k y pc al (.int (nI b) :: .int (nI a) :: r) g A Q := by
  refine rr_nx hd (fun h => ?_) kk
  show am_bi _ pc al (.int (nI b) :: .int (nI a) :: r) h = _
  rw [← nz_and]
  rfl
theorem rn_or {a b : Nat} (hd : decode (am_b y) pc = .ok (.ior, 1)) (kk : RR k y (pc + 1) al (.int (nI (a ||| b)) :: r) g A Q) : RR k y pc al (.int (nI b) :: .int (nI a) :: r) g A Q := by
  refine rr_nx hd (fun h => ?_) kk
  show am_bi _ pc al (.int (nI b) :: .int (nI a) :: r) h = _
  rw [← nz_or]
  rfl
theorem rn_xor {a b : Nat} (hd : decode (am_b y) pc = .ok (.ixor, 1)) (kk : RR k y (pc + 1) al (.int (nI (a ^^^ b)) :: r) g A Q) : RR k y pc al (.int (nI b) :: .int (nI a) :: r) g A Q := by
  refine rr_nx hd (fun h => ?_) kk
  show am_bi _ pc al (.int (nI b) :: .int (nI a) :: r) h = _
  rw [← nz_xor]
  rfl
theorem rn_not {a : Nat} (hd : decode (am_b y) pc = .ok (.ixor, 1)) (kk : RR k y (pc + 1) al (.int (nI (a ^^^ 4294967295)) :: r) g A Q) : RR k y pc al (.int (-1) :: .int (nI a) :: r) g A Q := by
  refine rr_nx hd (fun h => ?_) kk
  show am_bi _ pc al (.int (-1) :: .int (nI a) :: r) h = _
  rw [← nz_not]
  rfl
theorem rn_shl {a b : Nat} (hd : decode (am_b y) pc = .ok (.ishl, 1)) (hb : b < 32) (kk : RR k y (pc + 1) al (.int (nI (a * 2 ^ b)) :: r) g A Q) : RR k y pc al (.int (nI b) :: .int (nI a) :: r) g A Q := by
  refine rr_nx hd (fun h => ?_) kk
  rw [← nz_shl hb]
  rfl
theorem rn_shr {a b : Nat} (hd : decode (am_b y) pc = .ok (.ishr, 1)) (hb : b < 32) (ha : a < 2 ^ 31) (kk : RR k y (pc + 1) al (.int (nI (a / 2 ^ b)) :: r) g A Q) : RR k y pc al (.int (nI b) :: .int (nI a) :: r) g A Q := by
  refine rr_nx hd (fun h => ?_) kk
  rw [← nz_shr hb ha]
  rfl
theorem rn_zgt {a : Nat} {off : Int} {t : Nat} (hd : decode (am_b y) pc = .ok (.ifCond .gt off, 3)) (ht : am_tg pc off = some t) (ha : a < 2 ^ 31) (kt : 0 < a → RR k y t al r g A Q) (kf : a = 0 → RR k y (pc + 3) al r g A Q) : RR k y pc al (.int (nI a) :: r) g A Q := rr_igt hd ht (fun q => kt ((nI_ltI (by decide) ha).mp (by rw [nI_0]; exact q))) (fun q => kf (Nat.le_zero.mp (Nat.not_lt.mp fun e => q (by rw [← nI_0]; exact (nI_ltI (by decide) ha).mpr e))))
theorem rn_zle {a : Nat} {off : Int} {t : Nat} (hd : decode (am_b y) pc = .ok (.ifCond .le off, 3)) (ht : am_tg pc off = some t) (ha : a < 2 ^ 31) (kt : a = 0 → RR k y t al r g A Q) (kf : 0 < a → RR k y (pc + 3) al r g A Q) : RR k y pc al (.int (nI a) :: r) g A Q := rr_ile hd ht (fun q => kt (Nat.le_zero.mp ((nI_leI ha (by decide)).mp (by rw [nI_0]; exact q)))) (fun q => kf (Nat.not_le.mp fun e => q (by rw [← nI_0]; exact (nI_leI ha (by decide)).mpr e)))
theorem rn_zlt {a : Nat} {off : Int} {t : Nat} (hd : decode (am_b y) pc = .ok (.ifCond .lt off, 3)) (ht : am_tg pc off = some t) (ha : a < 2 ^ 31) (kt : False → RR k y t al r g A Q) (kf : True → RR k y (pc + 3) al r g A Q) : RR k y pc al (.int (nI a) :: r) g A Q := rr_ilt hd ht (fun q => (nI_pos ha q).elim) (fun _ => kf trivial)
theorem rn_zge {a : Nat} {off : Int} {t : Nat} (hd : decode (am_b y) pc = .ok (.ifCond .ge off, 3)) (ht : am_tg pc off = some t) (ha : a < 2 ^ 31) (kt : True → RR k y t al r g A Q) (kf : False → RR k y (pc + 3) al r g A Q) : RR k y pc al (.int (nI a) :: r) g A Q := rr_ige hd ht (fun _ => kt trivial) (fun q => (q (nI_pos' ha)).elim)
/-- a loop with a counter and a ghost -/
theorem rr_upw {W : Type} {n : Nat} {al : Nat → W → AL} {G : Nat → W → Nat → Int32} {B : Nat → W → Nat → Nat → Int32} {P : Nat → W → Prop}
    (hs : ∀ i w, i < n → P i w → (∀ w', P (i + 1) w' → RR k y pc (al (i + 1) w') [] (G (i + 1) w') (B (i + 1) w') Q) → RR k y pc (al i w) [] (G i w) (B i w) Q) (he : ∀ w, P n w → RR k y pc (al n w) [] (G n w) (B n w) Q) : ∀ i w, i ≤ n → P i w → RR k y pc (al i w) [] (G i w) (B i w) Q := by
  have key : ∀ m i w, i + m = n → P i w → RR k y pc (al i w) [] (G i w) (B i w) Q := by
    intro m
    induction m with
    | zero =>
      intro i w hi hp
      have : i = n := by omega
      subst this
      exact he w hp
    | succ m ih =>
      intro i w hi hp
      exact hs i w (by omega) hp (fun w' hp1 => ih (i + 1) w' (by omega) hp1)
  intro i w hi hp
  exact key (n - i) i w (by omega) hp
end XR
section XC
variable {k y pc : Nat} {al al1 : AL} {st r : List Value} {S S1 : CS} {G G1 : Nat → Nat → Value} {B B1 : Nat → Nat → Int32} {J J1 : Nat → Nat → Int64} {R R1 : Nat → Nat → Option Nat} {Q : CQ}
theorem cn_and {a b : Nat} (hd : decode (am_b y) pc = .ok (.iand, 1)) (kk : CR k y (pc + 1) al (.int (nI (a &&& b)) :: r) S G B J R Q) : CR k y pc al (.int (nI b) :: .int (nI a) :: r) S G B J R Q := by
  refine cr_nx hd (fun h => ?_) kk
  show am_bi _ pc al (.int (nI b) :: .int (nI a) :: r) h = _
  rw [← nz_and]
  rfl
theorem cn_or {a b : Nat} (hd : decode (am_b y) pc = .ok (.ior, 1)) (kk : CR k y (pc + 1) al (.int (nI (a ||| b)) :: r) S G B J R Q) : CR k y pc al (.int (nI b) :: .int (nI a) :: r) S G B J R Q := by
  refine cr_nx hd (fun h => ?_) kk
  show am_bi _ pc al (.int (nI b) :: .int (nI a) :: r) h = _
  rw [← nz_or]
  rfl
theorem cn_xor {a b : Nat} (hd : decode (am_b y) pc = .ok (.ixor, 1)) (kk : CR k y (pc + 1) al (.int (nI (a ^^^ b)) :: r) S G B J R Q) : CR k y pc al (.int (nI b) :: .int (nI a) :: r) S G B J R Q := by
  refine cr_nx hd (fun h => ?_) kk
  show am_bi _ pc al (.int (nI b) :: .int (nI a) :: r) h = _
  rw [← nz_xor]
  rfl
theorem cn_not {a : Nat} (hd : decode (am_b y) pc = .ok (.ixor, 1)) (kk : CR k y (pc + 1) al (.int (nI (a ^^^ 4294967295)) :: r) S G B J R Q) : CR k y pc al (.int (-1) :: .int (nI a) :: r) S G B J R Q := by
  refine cr_nx hd (fun h => ?_) kk
  show am_bi _ pc al (.int (-1) :: .int (nI a) :: r) h = _
  rw [← nz_not]
  rfl
theorem cn_shl {a b : Nat} (hd : decode (am_b y) pc = .ok (.ishl, 1)) (hb : b < 32) (kk : CR k y (pc + 1) al (.int (nI (a * 2 ^ b)) :: r) S G B J R Q) : CR k y pc al (.int (nI b) :: .int (nI a) :: r) S G B J R Q := by
  refine cr_nx hd (fun h => ?_) kk
  rw [← nz_shl hb]
  rfl
theorem cn_shr {a b : Nat} (hd : decode (am_b y) pc = .ok (.ishr, 1)) (hb : b < 32) (ha : a < 2 ^ 31) (kk : CR k y (pc + 1) al (.int (nI (a / 2 ^ b)) :: r) S G B J R Q) : CR k y pc al (.int (nI b) :: .int (nI a) :: r) S G B J R Q := by
  refine cr_nx hd (fun h => ?_) kk
  rw [← nz_shr hb ha]
  rfl
theorem cn_zgt {a : Nat} {off : Int} {t : Nat} (hd : decode (am_b y) pc = .ok (.ifCond .gt off, 3)) (ht : am_tg pc off = some t) (ha : a < 2 ^ 31) (kt : 0 < a → CR k y t al r S G B J R Q) (kf : a = 0 → CR k y (pc + 3) al r S G B J R Q) : CR k y pc al (.int (nI a) :: r) S G B J R Q := cr_igt hd ht (fun q => kt ((nI_ltI (by decide) ha).mp (by rw [nI_0]; exact q))) (fun q => kf (Nat.le_zero.mp (Nat.not_lt.mp fun e => q (by rw [← nI_0]; exact (nI_ltI (by decide) ha).mpr e))))
theorem cn_zle {a : Nat} {off : Int} {t : Nat} (hd : decode (am_b y) pc = .ok (.ifCond .le off, 3)) (ht : am_tg pc off = some t) (ha : a < 2 ^ 31) (kt : a = 0 → CR k y t al r S G B J R Q) (kf : 0 < a → CR k y (pc + 3) al r S G B J R Q) : CR k y pc al (.int (nI a) :: r) S G B J R Q := cr_ile hd ht (fun q => kt (Nat.le_zero.mp ((nI_leI ha (by decide)).mp (by rw [nI_0]; exact q)))) (fun q => kf (Nat.not_le.mp fun e => q (by rw [← nI_0]; exact (nI_leI ha (by decide)).mpr e)))
theorem cn_zlt {a : Nat} {off : Int} {t : Nat} (hd : decode (am_b y) pc = .ok (.ifCond .lt off, 3)) (ht : am_tg pc off = some t) (ha : a < 2 ^ 31) (kt : False → CR k y t al r S G B J R Q) (kf : True → CR k y (pc + 3) al r S G B J R Q) : CR k y pc al (.int (nI a) :: r) S G B J R Q := cr_ilt hd ht (fun q => (nI_pos ha q).elim) (fun _ => kf trivial)
theorem cn_zge {a : Nat} {off : Int} {t : Nat} (hd : decode (am_b y) pc = .ok (.ifCond .ge off, 3)) (ht : am_tg pc off = some t) (ha : a < 2 ^ 31) (kt : True → CR k y t al r S G B J R Q) (kf : False → CR k y (pc + 3) al r S G B J R Q) : CR k y pc al (.int (nI a) :: r) S G B J R Q := cr_ige hd ht (fun _ => kt trivial) (fun q => (q (nI_pos' ha)).elim)
theorem cr_upw {W : Type} {n : Nat} {al : Nat → W → AL} {S : Nat → W → CS} {G : Nat → W → Nat → Nat → Value} {B : Nat → W → Nat → Nat → Int32} {J : Nat → W → Nat → Nat → Int64} {R : Nat → W → Nat → Nat → Option Nat} {P : Nat → W → Prop}
    (hs : ∀ i w, i < n → P i w → (∀ w', P (i + 1) w' → CR k y pc (al (i + 1) w') [] (S (i + 1) w') (G (i + 1) w') (B (i + 1) w') (J (i + 1) w') (R (i + 1) w') Q) → CR k y pc (al i w) [] (S i w) (G i w) (B i w) (J i w) (R i w) Q) (he : ∀ w, P n w → CR k y pc (al n w) [] (S n w) (G n w) (B n w) (J n w) (R n w) Q) : ∀ i w, i ≤ n → P i w → CR k y pc (al i w) [] (S i w) (G i w) (B i w) (J i w) (R i w) Q := by
  have key : ∀ m i w, i + m = n → P i w → CR k y pc (al i w) [] (S i w) (G i w) (B i w) (J i w) (R i w) Q := by
    intro m
    induction m with
    | zero =>
      intro i w hi hp
      have : i = n := by omega
      subst this
      exact he w hp
    | succ m ih =>
      intro i w hi hp
      exact hs i w (by omega) hp (fun w' hp1 => ih (i + 1) w' (by omega) hp1)
  intro i w hi hp
  exact key (n - i) i w (by omega) hp
theorem cr_al (e : al = al1) (kk : CR k y pc al1 st S G B J R Q) : CR k y pc al st S G B J R Q := by rw [e]; exact kk
theorem cr_G (e : G = G1) (kk : CR k y pc al st S G1 B J R Q) : CR k y pc al st S G B J R Q := by rw [e]; exact kk
theorem cr_B (e : B = B1) (kk : CR k y pc al st S G B1 J R Q) : CR k y pc al st S G B J R Q := by rw [e]; exact kk
theorem cr_J (e : J = J1) (kk : CR k y pc al st S G B J1 R Q) : CR k y pc al st S G B J R Q := by rw [e]; exact kk
theorem cr_R (e : R = R1) (kk : CR k y pc al st S G B J R1 Q) : CR k y pc al st S G B J R Q := by rw [e]; exact kk
theorem cn_mx {o x a b : Nat} (hd : decode (am_b y) pc = .ok (.invokestatic x, 3)) (ho : am_o y = o) (hl : am_ml o x = some (8, 0)) (ha : a < 2 ^ 31) (hb : b < 2 ^ 31) (h8 : am_ok8 r = true) (kk : CR k y (pc + 3) al (.int (nI (max a b)) :: r) S G B J R Q) : CR k y pc al (.int (nI b) :: .int (nI a) :: r) S G B J R Q := by
  refine cr_mx hd ho hl h8 ?_
  have : (if nI a < nI b then nI b else nI a) = nI (max a b) := by
    by_cases h : a < b
    · rw [if_pos ((nI_ltI ha hb).mpr h), Nat.max_eq_right (by omega)]
    · rw [if_neg (fun e => h ((nI_ltI ha hb).mp e)), Nat.max_eq_left (by omega)]
  rw [this]
  exact kk
end XC
/-- ors, and facts of bits -/
def ORs (f : Nat → Nat) : Nat → Nat
  | 0 => 0
  | n + 1 => ORs f n ||| f n
theorem ORs_s (f : Nat → Nat) (n : Nat) : ORs f (n + 1) = ORs f n ||| f n := rfl
theorem ORs_bit (f : Nat → Nat) (q : Nat) : ∀ n, (ORs f n).testBit q = true ↔ ∃ i, i < n ∧ (f i).testBit q = true
  | 0 => by simp [ORs]
  | n + 1 => by
    rw [ORs_s, Nat.testBit_or, Bool.or_eq_true, ORs_bit f q n]
    constructor
    · rintro (⟨i, hi, h⟩ | h)
      · exact ⟨i, by omega, h⟩
      · exact ⟨n, by omega, h⟩
    · rintro ⟨i, hi, h⟩
      rcases Nat.lt_succ_iff_lt_or_eq.mp hi with h2 | h2
      · exact Or.inl ⟨i, h2, h⟩
      · exact Or.inr (h2 ▸ h)
theorem ORs_lt {f : Nat → Nat} {m : Nat} : ∀ {n}, (∀ i, i < n → f i < 2 ^ m) → ORs f n < 2 ^ m
  | 0, _ => Nat.two_pow_pos m
  | n + 1, h => Nat.or_lt_two_pow (ORs_lt fun i hi => h i (by omega)) (h n (by omega))
theorem ORs_c {f h : Nat → Nat} : ∀ {n : Nat}, (∀ i, i < n → f i = h i) → ORs f n = ORs h n
  | 0, _ => rfl
  | n + 1, e => by rw [ORs_s, ORs_s, ORs_c (fun i hi => e i (by omega)), e n (by omega)]
/-- a bit of a set -/
theorem bt_1 (s k : Nat) : s / 2 ^ k &&& 1 = if s.testBit k then 1 else 0 := by
  rw [Nat.and_one_is_mod, Nat.testBit_eq_decide_div_mod_eq]
  by_cases h : s / 2 ^ k % 2 = 1
  · simp [h]
  · have : s / 2 ^ k % 2 = 0 := by omega
    simp [this]
theorem bt_e1 {s k : Nat} : s / 2 ^ k &&& 1 = 1 ↔ s.testBit k = true := by
  rw [bt_1]
  by_cases h : s.testBit k <;> simp [h]
theorem bt_e0 {s k : Nat} : s / 2 ^ k &&& 1 = 0 ↔ s.testBit k = false := by
  rw [bt_1]
  by_cases h : s.testBit k <;> simp [h]
theorem bt_lt (s k : Nat) : s / 2 ^ k &&& 1 < 2 := by
  rw [bt_1]
  split <;> omega
theorem bt_p0 {s k : Nat} : 0 < (s / 2 ^ k &&& 1) ↔ s.testBit k = true := by
  rw [bt_1]
  by_cases h : s.testBit k <;> simp [h]
theorem tw_lt {k m : Nat} (h : k < m) : 2 ^ k < 2 ^ m := Nat.pow_lt_pow_right (by decide) h
theorem tw_64 {k : Nat} (h : k < 6) : 1 * 2 ^ k < 64 := by rw [Nat.one_mul]; exact Nat.pow_lt_pow_right (by decide) h
