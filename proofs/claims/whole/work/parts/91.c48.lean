/-! Images: what they leave; printed by wip/whole/gen_c48.py. -/
/-- nothing told yet -/
def K00 : Core := (fun _ _ => (0, fun _ => 0), fun _ => 0, 0, 0, 0, fun _ _ => 0, fun _ => 0, 0, fun _ => none)
theorem lat_0 {c : Nat → Nat} : Lat 0 c := ⟨fun q hq => absurd hq (Nat.not_lt_zero q), fun x _ _ hx => absurd hx (Nat.not_lt_zero x), fun x _ _ hx => absurd hx (Nat.not_lt_zero x)⟩
theorem K00_ok : CoOk K00 := ⟨⟨Nat.le_refl _, Nat.zero_le _, fun _ _ _ _ => ⟨Nat.zero_le _, lat_0⟩, fun i hi => absurd hi (Nat.not_lt_zero i)⟩, Nat.zero_le _, fun l hl => absurd hl (Nat.not_lt_zero l), Nat.zero_le _, fun q u e => by cases e⟩
theorem st_64 : ∀ j, j < 78 → (cs_tab.getD (j + 1) (0, 0)).2 ≤ 64 := by decide
theorem st_dj : ∀ j, j < 78 → 1 ≤ j → cs_tab.getD (j + 1) (0, 0) ≠ (109, 9) := by decide
theorem StSh.dj {S : CS} {a b : Nat} (ha : StSh S a) (hb : StSh S b) (hab : a ≠ b) : a + 78 ≤ b ∨ b + 78 ≤ a := by
  refine Decidable.byContradiction (fun e => ?_)
  rcases Nat.lt_or_ge a b with h | h
  · have h1 := ha.s (b - a) (by omega) rfl
    have h2 := hb.s 0 (by decide) rfl
    rw [show a + (b - a) = b by omega] at h1
    rw [Nat.add_zero] at h2
    exact st_dj (b - a) (by omega) (by omega) (h1.symm.trans h2)
  · have h1 := hb.s (a - b) (by omega) rfl
    have h2 := ha.s 0 (by decide) rfl
    rw [show b + (a - b) = a by omega] at h1
    rw [Nat.add_zero] at h2
    exact st_dj (a - b) (by omega) (by omega) (h1.symm.trans h2)
theorem StSh.o {S : CS} {a l : Nat} (h : StSh S a) (h1 : S.2 l = (100 + 3, 3)) : l < a ∨ a + 78 ≤ l := by
  refine Decidable.byContradiction (fun e => ?_)
  have := h.s (l - a) (by omega) rfl
  rw [show a + (l - a) = l by omega, h1] at this
  exact st_nl (l - a) (by omega) this.symm
theorem sh_3 {S : CS} (h : ShOk S) : StSh S 3 := fun j hj => ⟨⟨by omega, by omega, by have := h.1; omega⟩, by have := h.2 (3 + j) (by omega) (by omega); rw [show 3 + j - 2 = j + 1 by omega] at this; exact this⟩
theorem sg_3 {G : Nat → Nat → Value} (h : FxG G) : StG G 3 := ⟨fx_3_0 h, fx_3_1 h, fx_3_4 h, fx_3_5 h, fx_3_6 h⟩
/-- a new State -/
theorem StI.co {S0 : CS} {G0 : Nat → Nat → Value} {B0 : Nat → Nat → Int32} {R0 : Nat → Nat → Option Nat} {a : Nat} {S : CS} {G : Nat → Nat → Value} {B : Nat → Nat → Int32} {R : Nat → Nat → Option Nat} (h : StI S0 G0 B0 R0 a 36 S G B R) (ha : 2 ≤ a ∧ (a + 78 ≤ 146 ∨ 174 ≤ a)) (hs : S0.2 a = (109, 9)) : StSh S a ∧ StG G a ∧ CoC S G B R a K00 ∧ StX S G R a := by
  obtain ⟨h1, h2, h3, h4, h5, h6, h7, h8, h9, h10⟩ := h
  have hsh : StSh S a := fun j hj => by
    refine ⟨⟨by omega, by omega, by omega⟩, ?_⟩
    by_cases e : j = 0
    · rw [e, Nat.add_zero, h2 a (Nat.le_refl _), hs]
      rfl
    · exact h3 j (by omega) (by omega)
  have htab : ∀ z, z < 36 → TabAt S G (a + 6 + 2 * z) := fun z hz => by
    have e1 := (hsh (6 + 2 * z) (by omega))
    have e2 := (hsh (6 + 2 * z + 1) (by omega))
    have q := st_tab z hz
    rw [show a + (6 + 2 * z) = a + 6 + 2 * z by omega] at e1
    rw [show a + (6 + 2 * z + 1) = a + 6 + 2 * z + 1 by omega] at e2
    exact ⟨e1.1, e2.1, e1.2.trans q.1, e2.2.trans q.2, (h7 z hz).2⟩
  refine ⟨hsh, h5, ⟨fun j => a + 6 + 2 * j, fun i => a + 6 + 2 * (i + 6), fun _ => 0, ⟨htab, fun j hj => ⟨h8 j (by omega) hj, j, by omega, rfl⟩, fun i hi => ⟨h10 i (by omega), i + 6, by omega, rfl⟩, fun i j _ _ e => by dsimp only at e; omega, fun i j _ _ e => by dsimp only at e; omega, fun i j _ _ e => by dsimp only at e; omega, fun j hj => ⟨(h7 j (by omega)).1, fun q hq => absurd hq (Nat.not_lt_zero q)⟩, fun i hi => absurd hi (Nat.not_lt_zero i), fun i _ hi => absurd hi (Nat.not_lt_zero i), fun i hi => absurd hi (Nat.not_lt_zero i), h6.2.2.1, h6.2.2.2⟩, ⟨Nat.zero_le _, fun l hl => absurd hl (Nat.not_lt_zero l)⟩, h6.1, h6.2.1, fun q hq => absurd hq (Nat.not_lt_zero q)⟩, fun z hz => ⟨_, (h7 z hz).1⟩, fun l hl => Or.inl (h9 l)⟩
def iiW (W : WS) (k : Nat) (K : Core) : WS := (wK W, fun i => if i = k then some K else wI W i, wT W, wL W, wF W, wS W, wR W, wW W)
def imW (W : WS) (k : Nat) : WS := (wK W, fun i => if i = k then some (wK W) else wI W i, wT W, wL W, wF W, nI 0, wR W, wW W)
def bkW (W : WS) (K : Core) : WS := (K, wI W, wT W, wL W, wF W, nI 0, wR W, wW W)
/-- a State more, for an image -/
theorem WC.nw {S S' : CS} {G G' : Nat → Nat → Value} {B B' : Nat → Nat → Int32} {R R' : Nat → Nat → Option Nat} {n : Nat} {W : WS} {k : Nat} (h : WC n S G B R W) (hk : k < 2) (hI : wI W k = none) (hst : StI (cs_pu S (100 + 9, 9)) (upr G S.1 (fun j => defaultValue (am_ty 9 j))) B R S.1 36 S' G' B' R') : WC (n + 1) S' G' B' (upr R' 81 (va_up (R' 81) k (some S.1))) (iiW W k K00) := by
  obtain ⟨⟨a1, a2, a3, a3x⟩, a4, a5, a6, a7, a8, a9, a10, a11, a12, a13, a14⟩ := h
  have h174 := a1.1
  obtain ⟨c1, c2, c3, c4⟩ := hst.co ⟨by omega, by omega⟩ upr_s
  have c4 : StX S' G' (upr R' 81 (va_up (R' 81) k (some S.1))) S.1 := c4.cg (fun x hx => ⟨hx, rfl⟩) (fun z hz => Or.inl rfl) (upr_n (by omega))
  have c3 : CoC S' G' B' (upr R' 81 (va_up (R' 81) k (some S.1))) S.1 K00 := c3.cg K00_ok (fun x hx => ⟨hx, rfl⟩) (fun b b1 b2 => ⟨rfl, rfl, upr_n (by omega)⟩) (fun b _ _ => ⟨fun _ => rfl, fun _ => rfl⟩)
  have e1 : S'.1 = S.1 + 6 + 2 * 36 := hst.1
  have eS : ∀ b, b < S.1 → S'.2 b = S.2 b := fun b hb => by
    rw [hst.2.1 b (by omega)]
    exact upr_n (by omega)
  have eG : ∀ b, b < S.1 → G' b = G b ∧ B' b = B b ∧ R' b = R b := fun b hb => by
    have := hst.2.2.2.1 b hb
    rw [upr_n (by omega)] at this
    exact this
  have hs : ∀ a, cs_in S.1 a → cs_in S'.1 a ∧ S'.2 a = S.2 a := fun a ha => ⟨⟨ha.1, ha.2.1, by have := ha.2.2; omega⟩, eS a ha.2.2⟩
  have eR : ∀ b, b < S.1 → b ≠ 81 → upr R' 81 (va_up (R' 81) k (some S.1)) b = R b := fun b hb hb2 => by
    rw [upr_n hb2]
    exact (eG b hb).2.2
  have e81 : ∀ i, i ≠ k → upr R' 81 (va_up (R' 81) k (some S.1)) 81 i = R 81 i := fun i hi => by
    rw [upr_s, (eG 81 (by omega)).2.2]
    unfold va_up
    rw [if_neg hi]
  have e81k : upr R' 81 (va_up (R' 81) k (some S.1)) 81 k = some S.1 := by
    rw [upr_s]
    unfold va_up
    rw [if_pos rfl]
  have cgB : ∀ a, (a = 3 ∨ (174 ≤ a ∧ StSh S a)) → ∀ K, CoC S G B R a K → CoOk K → CoC S' G' B' (upr R' 81 (va_up (R' 81) k (some S.1))) a K := fun a ha K hK hO => by
    have hr : ∀ b, a ≤ b → b < a + 78 → b < S.1 ∧ b ≠ 81 := fun b b1 b2 => by
      rcases ha with ha | ⟨ha, hsh⟩
      · omega
      · have := (hsh (b - a) (by omega)).1.2.2
        omega
    exact hK.cg hO hs (fun b b1 b2 => ⟨(eG b (hr b b1 b2).1).1, (eG b (hr b b1 b2).1).2.1, eR b (hr b b1 b2).1 (hr b b1 b2).2⟩) (fun b b1 b2 => ⟨fun _ => (eG b b2.2.2).1, fun _ => (eG b b2.2.2).2.1⟩)
  have cgX : ∀ a, (a = 3 ∨ (174 ≤ a ∧ StSh S a)) → StX S G R a → StX S' G' (upr R' 81 (va_up (R' 81) k (some S.1))) a := fun a ha hX => by
    have hr : ∀ j, j < 78 → a + j < S.1 ∧ a + j ≠ 81 := fun j hj => by
      rcases ha with ha | ⟨ha, hsh⟩
      · omega
      · have := (hsh j hj).1.2.2
        omega
    refine hX.cg hs (fun z hz => Or.inl ?_) (eR _ (hr 2 (by decide)).1 (hr 2 (by decide)).2)
    have := (hr (6 + 2 * z) (by omega)).1
    rw [(eG (a + 6 + 2 * z) (by omega)).1]
  refine ⟨⟨⟨by omega, fun a b1 b2 => by rw [eS a (by omega)]; exact a1.2 a b1 b2⟩, by omega, fun a b1 b2 => ?_, cgX 3 (Or.inl rfl) a3x.1, fun i b hi e => ?_⟩, fun e he => ?_, cgB 3 (Or.inl rfl) _ a5 a6, a6, ⟨fun i hi e => ?_, ?_⟩, ?_, ?_, ?_, ?_, ?_, ?_, ?_⟩
  · by_cases e : a < S.1
    · rw [eS a e]
      exact a3 a b1 e
    · have := c1.s (a - S.1) (by omega) rfl
      rw [show S.1 + (a - S.1) = a by omega] at this
      rw [this]
      exact st_64 _ (by omega)
  · by_cases ek : i = k
    · rw [ek, e81k] at e
      cases e
      exact ⟨h174, c4⟩
    · rw [e81 i ek] at e
      obtain ⟨p1, p2⟩ := a3x.2 i b hi e
      exact ⟨p1, cgX b (Or.inr ⟨p1, a7.sh hi e⟩) p2⟩
  · have hc : e.1 < 174 := by
      revert e
      decide
    rw [(eG e.1 (by omega)).1]
    exact a4 e he
  · have e : (if i = k then some K00 else wI W i) = none := e
    by_cases ek : i = k
    · rw [if_pos ek] at e
      cases e
    · rw [if_neg ek] at e
      rw [e81 i ek]
      exact a7.1 i hi e
  · obtain ⟨i1, ia, i2, i3⟩ := a7
    refine ⟨upN ia k S.1, fun q0 q1 => ?_, fun i K hi hK => ?_⟩
    · have q0 : (if 0 = k then some K00 else wI W 0) ≠ none := q0
      have q1 : (if 1 = k then some K00 else wI W 1) ≠ none := q1
      have lt : ∀ i, i < 2 → i ≠ k → (if i = k then some K00 else wI W i) ≠ none → ia i < S.1 := fun i hi hik hne => by
        rw [if_neg hik] at hne
        cases hw : wI W i with
        | none => exact absurd hw hne
        | some K =>
          have := ((i3 i K hi hw).2.2.1 0 (by decide)).1.2.2
          omega
      have hk2 : k = 0 ∨ k = 1 := by omega
      rcases hk2 with e | e
      · subst e
        rw [upN_s, upN_n (by decide)]
        have := lt 1 (by decide) (by decide) q1
        omega
      · subst e
        rw [upN_s, upN_n (by decide)]
        have := lt 0 (by decide) (by decide) q0
        omega
    · have hK : (if i = k then some K00 else wI W i) = some K := hK
      by_cases ek : i = k
      · rw [if_pos ek] at hK
        cases hK
        rw [ek, upN_s]
        exact ⟨e81k, h174, c1, c2, c3, K00_ok⟩
      · rw [if_neg ek] at hK
        obtain ⟨q1, q2, q3, q4, q5, q6⟩ := i3 i K hi hK
        rw [upN_n ek]
        refine ⟨(e81 i ek).trans q1, q2, fun j hj => ⟨(hs _ (q3 j hj).1).1, ((hs _ (q3 j hj).1).2).trans (q3 j hj).2⟩, ?_, cgB _ (Or.inr ⟨q2, q3⟩) _ q5 q6, q6⟩
        have := (q3 0 (by decide)).1.2.2
        unfold StG
        rw [(eG (ia i) (by omega)).1]
        exact q4
  · rw [(eG 2 (by omega)).1, (eG 82 (by omega)).2.1]
    exact a8
  · rw [(eG 2 (by omega)).1]
    exact a9
  · rw [(eG 2 (by omega)).1]
    exact a10
  · rw [(eG 145 (by omega)).2.1]
    exact a11
  · exact ⟨a12.1.cg (by rw [(eG 88 (by omega)).1]) (eG 89 (by omega)).2.1, a12.2⟩
  · exact nm_1 a13 (eG _ (by omega)).1 (eG _ (by omega)).1 (eG _ (by omega)).1 (eG _ (by omega)).2.1 (eG _ (by omega)).2.1
  · exact nm_2 a14 (eG _ (by omega)).1 (eG _ (by omega)).1 (eG _ (by omega)).1 (eG _ (by omega)).2.1 (eG _ (by omega)).2.1
/-- an image becomes what stands -/
theorem WC.ib {S : CS} {G G' : Nat → Nat → Value} {B B' : Nat → Nat → Int32} {J J' : Nat → Nat → Int64} {R R' : Nat → Nat → Option Nat} {n : Nat} {W : WS} {k a : Nat} {v : Option Value} (h : WC n S G B R W) (hk : k < 2) (hr : R 81 k = some a) (hq : SbQ a (wK W) S G B J R v S G' B' J' R') : WC n S (up2 G' 2 16 (.int (nI 0))) B' R' (imW W k) := by
  obtain ⟨⟨a1, a2, a3, a3x⟩, a4, a5, a6, a7, a8, a9, a10, a11, a12, a13, a14⟩ := h
  have h174 := (a3x.2 k a hk hr).1
  have hsa := a7.sh hk hr
  obtain ⟨q1, q2, q3, q4, q5, ⟨q6, q7⟩, q8⟩ := hq
  have eG : ∀ b, b < a ∨ a + 78 ≤ b → b ≠ 2 → up2 G' 2 16 (.int (nI 0)) b = G b ∧ B' b = B b ∧ R' b = R b := fun b hb b2 => ⟨by rw [up2_g b2]; exact (q4 b hb).1, (q4 b hb).2.1, (q4 b hb).2.2⟩
  have e2 : ∀ j, j ≠ 16 → up2 G' 2 16 (.int (nI 0)) 2 j = G 2 j := fun j hj => by rw [up2_n (fun e => hj e.2), (q4 2 (by omega)).1]
  have hs : ∀ x, cs_in S.1 x → cs_in S.1 x ∧ S.2 x = S.2 x := fun x hx => ⟨hx, rfl⟩
  have cgB : ∀ b, (b = 3 ∨ (174 ≤ b ∧ StSh S b ∧ b ≠ a)) → ∀ K, CoC S G B R b K → CoOk K → CoC S (up2 G' 2 16 (.int (nI 0))) B' R' b K := fun b hb K hK hO => by
    have hr2 : ∀ x, b ≤ x → x < b + 78 → x < a ∨ a + 78 ≤ x := fun x b1 b2 => by
      rcases hb with hb | ⟨hb, hsh, hne⟩
      · omega
      · rcases hsh.dj hsa hne with e | e <;> omega
    refine hK.cg hO hs (fun x b1 b2 => eG x (hr2 x b1 b2) (by omega)) (fun x b1 b2 => ⟨fun e => ?_, fun e => ?_⟩)
    · rcases e with e | e
      · exact (eG x (hr2 x (by omega) (by omega)) (by omega)).1
      · exact (eG x (hsa.o e) (by omega)).1
    · have := hsa.o e
      by_cases ex : x = a
      · rw [ex]
        exact q8
      · exact (eG x (by omega) (by omega)).2.1
  have cgX : ∀ b, (b = 3 ∨ (174 ≤ b ∧ StSh S b ∧ b ≠ a)) → StX S G R b → StX S (up2 G' 2 16 (.int (nI 0))) R' b := fun b hb hX => by
    have hr2 : ∀ j, j < 78 → b + j < a ∨ a + 78 ≤ b + j := fun j hj => by
      rcases hb with hb | ⟨hb, hsh, hne⟩
      · omega
      · rcases hsh.dj hsa hne with e | e <;> omega
    refine hX.cg hs (fun z hz => Or.inl ?_) (eG _ (hr2 2 (by decide)) (by omega)).2.2
    have := hr2 (6 + 2 * z) (by omega)
    rw [(eG (b + 6 + 2 * z) (by omega) (by omega)).1]
  have selfC : CoC S (up2 G' 2 16 (.int (nI 0))) B' R' a (wK W) := q6.cg a6 hs (fun x b1 b2 => ⟨up2_g (by omega), rfl, rfl⟩) (fun x b1 b2 => ⟨fun _ => up2_g (by omega), fun _ => rfl⟩)
  have selfX : StX S (up2 G' 2 16 (.int (nI 0))) R' a := q7.cg hs (fun z hz => Or.inl (by rw [up2_g (by omega)])) rfl
  refine ⟨⟨a1, a2, a3, cgX 3 (Or.inl rfl) a3x.1, fun i b hi e => ?_⟩, fun e he => ?_, cgB 3 (Or.inl rfl) _ a5 a6, a6, ⟨fun i hi e => ?_, ?_⟩, ?_, ?_, up2_s, ?_, ?_, ?_, ?_⟩
  · rw [(eG 81 (by omega) (by decide)).2.2] at e
    by_cases eb : b = a
    · rw [eb]
      exact ⟨h174, selfX⟩
    · obtain ⟨p1, p2⟩ := a3x.2 i b hi e
      exact ⟨p1, cgX b (Or.inr ⟨p1, a7.sh hi e, eb⟩) p2⟩
  · have hc : e.1 < 174 ∧ (e.1 = 2 → e.2.1 ≠ 16) := by
      revert e
      decide
    by_cases e2e : e.1 = 2
    · have := a4 e he
      rw [e2e] at this ⊢
      rw [e2 _ (hc.2 e2e)]
      exact this
    · rw [(eG e.1 (by omega) e2e).1]
      exact a4 e he
  · have e : (if i = k then some (wK W) else wI W i) = none := e
    by_cases ek : i = k
    · rw [if_pos ek] at e
      cases e
    · rw [if_neg ek] at e
      rw [(eG 81 (by omega) (by decide)).2.2]
      exact a7.1 i hi e
  · obtain ⟨i1, ia, i2, i3⟩ := a7
    have hik : ∃ K, wI W k = some K := by
      cases hw : wI W k with
      | none =>
        rw [i1 k hk hw] at hr
        cases hr
      | some K => exact ⟨K, rfl⟩
    obtain ⟨K1, hK1⟩ := hik
    have hia : ia k = a := by
      have := (i3 k K1 hk hK1).1
      rw [hr] at this
      cases this
      rfl
    refine ⟨ia, fun q0 q1 => ?_, fun i K hi hK => ?_⟩
    · have q0 : (if 0 = k then some (wK W) else wI W 0) ≠ none := q0
      have q1 : (if 1 = k then some (wK W) else wI W 1) ≠ none := q1
      refine i2 ?_ ?_
      · by_cases e0 : 0 = k
        · subst e0
          rw [hK1]
          exact fun e => by cases e
        · rw [if_neg e0] at q0
          exact q0
      · by_cases e0 : 1 = k
        · subst e0
          rw [hK1]
          exact fun e => by cases e
        · rw [if_neg e0] at q1
          exact q1
    · have hK : (if i = k then some (wK W) else wI W i) = some K := hK
      by_cases ek : i = k
      · rw [if_pos ek] at hK
        cases hK
        obtain ⟨p1, p2, p3, p4, p5, p6⟩ := i3 k K1 hk hK1
        rw [ek, hia]
        rw [hia] at p4
        refine ⟨by rw [(eG 81 (by omega) (by decide)).2.2]; exact hr, h174, hsa, ?_, selfC, a6⟩
        unfold StG at p4 ⊢
        rw [up2_g (by omega), q5 0 (by decide) (by decide) (by decide) (by decide), q5 1 (by decide) (by decide) (by decide) (by decide), q5 4 (by decide) (by decide) (by decide) (by decide), q5 5 (by decide) (by decide) (by decide) (by decide), q5 6 (by decide) (by decide) (by decide) (by decide)]
        exact p4
      · rw [if_neg ek] at hK
        have hKw : wI W i = some K := hK
        obtain ⟨p1, p2, p3, p4, p5, p6⟩ := i3 i K hi hK
        have hne : ia i ≠ a := fun e => by
          have h01 : (i = 0 ∧ k = 1) ∨ (i = 1 ∧ k = 0) := by omega
          rcases h01 with ⟨e1, e2⟩ | ⟨e1, e2⟩
          · subst e1
            subst e2
            exact i2 (by rw [hKw]; exact fun e => by cases e) (by rw [hK1]; exact fun e => by cases e) (e.trans hia.symm)
          · subst e1
            subst e2
            exact i2 (by rw [hK1]; exact fun e => by cases e) (by rw [hKw]; exact fun e => by cases e) (hia.trans e.symm)
        have hdj := p3.dj hsa hne
        refine ⟨by rw [(eG 81 (by omega) (by decide)).2.2]; exact p1, p2, p3, ?_, cgB _ (Or.inr ⟨p2, p3, hne⟩) _ p5 p6, p6⟩
        unfold StG
        rw [(eG (ia i) (by omega) (by omega)).1]
        exact p4
  · rw [e2 3 (by decide), (eG 82 (by omega) (by decide)).2.1]
    exact a8
  · rw [e2 5 (by decide)]
    exact a9
  · rw [(eG 145 (by omega) (by decide)).2.1]
    exact a11
  · exact ⟨a12.1.cg (by rw [(eG 88 (by omega) (by decide)).1]) (eG 89 (by omega) (by decide)).2.1, a12.2⟩
  · exact nm_1 a13 (eG _ (by omega) (by decide)).1 (eG _ (by omega) (by decide)).1 (eG _ (by omega) (by decide)).1 (eG _ (by omega) (by decide)).2.1 (eG _ (by omega) (by decide)).2.1
  · exact nm_2 a14 (eG _ (by omega) (by decide)).1 (eG _ (by omega) (by decide)).1 (eG _ (by omega) (by decide)).1 (eG _ (by omega) (by decide)).2.1 (eG _ (by omega) (by decide)).2.1
/-- what stands becomes an image -/
theorem WC.bk {S : CS} {G G' : Nat → Nat → Value} {B B' : Nat → Nat → Int32} {J J' : Nat → Nat → Int64} {R R' : Nat → Nat → Option Nat} {n : Nat} {W : WS} {K : Core} {v : Option Value} (h : WC n S G B R W) (hO : CoOk K) (hq : SbQ 3 K S G B J R v S G' B' J' R') : WC n S (up2 G' 2 16 (.int (nI 0))) B' R' (bkW W K) := by
  obtain ⟨⟨a1, a2, a3, a3x⟩, a4, a5, a6, a7, a8, a9, a10, a11, a12, a13, a14⟩ := h
  obtain ⟨q1, q2, q3, q4, q5, ⟨q6, q7⟩, q8⟩ := hq
  have eG : ∀ b, 81 ≤ b → up2 G' 2 16 (.int (nI 0)) b = G b ∧ B' b = B b ∧ R' b = R b := fun b hb => ⟨by rw [up2_g (by omega)]; exact (q4 b (by omega)).1, (q4 b (by omega)).2.1, (q4 b (by omega)).2.2⟩
  have e2 : ∀ j, j ≠ 16 → up2 G' 2 16 (.int (nI 0)) 2 j = G 2 j := fun j hj => by rw [up2_n (fun e => hj e.2), (q4 2 (by omega)).1]
  have hs : ∀ x, cs_in S.1 x → cs_in S.1 x ∧ S.2 x = S.2 x := fun x hx => ⟨hx, rfl⟩
  refine ⟨⟨a1, a2, a3, q7.cg hs (fun z hz => Or.inl (by rw [up2_g (by omega)])) rfl, fun i b hi e => ?_⟩, fun e he => ?_, q6.cg hO hs (fun x b1 b2 => ⟨up2_g (by omega), rfl, rfl⟩) (fun x b1 b2 => ⟨fun _ => up2_g (by omega), fun _ => rfl⟩), hO, a7.cs hs (fun b b1 _ => ⟨(eG b (by omega)).1, (eG b (by omega)).2.1⟩) (fun b b1 => (eG b b1).2.2), ?_, ?_, up2_s, ?_, ?_, ?_, ?_⟩
  · rw [(eG 81 (by omega)).2.2] at e
    obtain ⟨p1, p2⟩ := a3x.2 i b hi e
    exact ⟨p1, p2.cg hs (fun z hz => Or.inl (by rw [(eG (b + 6 + 2 * z) (by omega)).1])) (eG _ (by omega)).2.2⟩
  · have hc : (e.1 = 2 ∧ e.2.1 ≠ 16) ∨ (e.1 = 3 ∧ e.2.1 ≠ 2 ∧ e.2.1 ≠ 3 ∧ e.2.1 ≠ 7 ∧ e.2.1 ≠ 8) ∨ 81 ≤ e.1 := by
      revert e
      decide
    have := a4 e he
    rcases hc with ⟨c1, c2⟩ | ⟨c1, c2, c3, c4, c5⟩ | c
    · rw [c1] at this ⊢
      rw [e2 _ c2]
      exact this
    · rw [c1] at this ⊢
      rw [up2_g (by decide), q5 _ c2 c3 c4 c5]
      exact this
    · rw [(eG e.1 c).1]
      exact this
  · rw [e2 3 (by decide), (eG 82 (by omega)).2.1]
    exact a8
  · rw [e2 5 (by decide)]
    exact a9
  · rw [(eG 145 (by omega)).2.1]
    exact a11
  · exact ⟨a12.1.cg (by rw [(eG 88 (by omega)).1]) (eG 89 (by omega)).2.1, a12.2⟩
  · exact nm_1 a13 (eG _ (by omega)).1 (eG _ (by omega)).1 (eG _ (by omega)).1 (eG _ (by omega)).2.1 (eG _ (by omega)).2.1
  · exact nm_2 a14 (eG _ (by omega)).1 (eG _ (by omega)).1 (eG _ (by omega)).1 (eG _ (by omega)).2.1 (eG _ (by omega)).2.1
/-- the reference's copies -/
theorem CoR.cg {f f' : Nat → Int32} {K : Core} (h : CoR f K) (hO : CoOk K) (hf : ∀ i, i < 5720 → f' i = f i) : CoR f' K := by
  have hS6 := hO.2.2.2.1
  have h36 := Nat.mul_le_mul hS6 hS6
  have ht := hO.1.2.1
  have hd := hO.1.1
  have hL8 := hO.2.1
  refine ⟨⟨fun j hj => (h.1.1 j hj).cg (fun k hk => hf _ (by omega)) (hO.1.2.2.1 (kD K) j hd hj).1, fun i hi => ?_, by rw [hf _ (by omega)]; exact h.1.2.2.1, by rw [hf _ (by omega)]; exact h.1.2.2.2⟩, by rw [hf _ (by omega)]; exact h.2.1, fun l hl => ?_, by rw [hf _ (by omega)]; exact h.2.2.2.1, fun q hq => by rw [hf _ (by omega)]; exact h.2.2.2.2 q hq⟩
  · obtain ⟨p1, p2, p3⟩ := h.1.2.1 i hi
    have hc2 := (hO.1.2.2.2 i hi).1
    exact ⟨by rw [hf _ (by omega)]; exact p1, p2.cg (fun k hk => hf _ (by omega)) (hO.1.2.2.1 i _ (by omega) hc2).1, p3.cg (fun k hk => hf _ (by omega)) (hO.1.2.2.1 (i + 1) _ (by omega) hc2).1⟩
  · have h2 := h.2.2.1 l hl
    have h3 := (hO.2.2.1 l hl).1
    exact ⟨by rw [hf _ (by omega)]; exact h2.1, fun j hj => by rw [hf _ (by omega)]; exact h2.2 j hj⟩
theorem WR.im {n : Nat} {g g' : Nat → Int32} {A : Nat → Nat → Int32} {W : WS} {k : Nat} {f2 f3 : Nat → Int32} (h : WR n g A W) (hn : n ≤ 100000) (hO : CoOk (wK W)) (hIO : ∀ i K, i < 2 → wI W i = some K → CoOk K) (hk : k < 2) (h2 : ∀ i, i < 5720 → f2 (5720 * k + i) = A 1 i) (h2o : ∀ j, j < 2 → j ≠ k → ∀ i, i < 5720 → f2 (5720 * j + i) = A 2 (5720 * j + i)) (h3 : f3 k = nI 1) (h3o : ∀ j, j ≠ k → f3 j = A 3 j) (hg : g' = upd (upd g 0 (nI 0)) 1 (g 1 + nI 1)) : WR (n + 1) g' (rf_u (rf_u A 2 f2) 3 f3) (imW W k) := by
  obtain ⟨b1, b2, b3, b4, b5, b6, b7, b8, b9, b10⟩ := h
  subst hg
  refine ⟨?_, fun i hi => ?_, ?_, ?_, ?_, ?_, ?_, ?_, ?_, b10.gd hn pk_us (by rw [pk_un (by decide), pk_un (by decide)])⟩
  · rw [rf_u_n (by decide), rf_u_n (by decide)]
    exact b1
  · rw [rf_u_s, rf_u_n (show (2 : Nat) ≠ 3 by decide), rf_u_s]
    by_cases ek : i = k
    · subst ek
      refine ⟨fun e => ?_, fun K hK => ?_⟩
      · have e : (if i = i then some (wK W) else wI W i) = none := e
        rw [if_pos rfl] at e
        cases e
      · have hK : (if i = i then some (wK W) else wI W i) = some K := hK
        rw [if_pos rfl] at hK
        cases hK
        exact ⟨h3, b1.cg hO h2⟩
    · have hb := b2 i hi
      refine ⟨fun e => ?_, fun K hK => ?_⟩
      · have e : (if i = k then some (wK W) else wI W i) = none := e
        rw [if_neg ek] at e
        rw [h3o i ek]
        exact hb.1 e
      · have hK : (if i = k then some (wK W) else wI W i) = some K := hK
        rw [if_neg ek] at hK
        exact ⟨by rw [h3o i ek]; exact (hb.2 K hK).1, (hb.2 K hK).2.cg (hIO i K hi hK) (fun q hq => h2o i hi ek q hq)⟩
  · rw [rf_u_n (by decide), rf_u_n (by decide)]
    exact b3
  · rw [rf_u_n (by decide), rf_u_n (by decide), pk_un (by decide), pk_un (by decide)]
    exact b4
  · rw [pk_un (by decide), pk_un (by decide)]
    exact b5
  · rw [pk_un (by decide), pk_us]
    rfl
  · rw [rf_u_n (by decide), rf_u_n (by decide)]
    exact b7
  · rw [rf_u_n (by decide), rf_u_n (by decide), pk_un (by decide), pk_un (by decide)]
    exact b8
  · rw [pk_un (by decide), pk_un (by decide)]
    exact b9
