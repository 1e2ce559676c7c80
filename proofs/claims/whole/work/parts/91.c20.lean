/-! What is kept: tables and their history; printed by wip/whole/gen_c20.py. -/
abbrev Tb : Type := Nat × (Nat → Nat)
def TbOk (t : Tb) : Prop := t.1 ≤ 6 ∧ Lat t.1 t.2
def ShT (G : Nat → Nat → Value) (B : Nat → Nat → Int32) (b : Nat) (t : Tb) : Prop := G b 0 = .int (nI t.1) ∧ ∀ q, q < t.1 * t.1 → B (b + 1) q = nI (t.2 q)
theorem ShT.c {G : Nat → Nat → Value} {B : Nat → Nat → Int32} {b : Nat} {t : Tb} (h : ShT G B b t) (ho : TbOk t) : TabC B b t.1 t.2 := ⟨ho.1, fun q hq => ⟨h.2 q hq, ho.2.1 q hq⟩⟩
theorem ShT.cg {G G' : Nat → Nat → Value} {B B' : Nat → Nat → Int32} {b : Nat} {t : Tb} (h : ShT G B b t) (hg : G' b 0 = G b 0) (hb : B' (b + 1) = B (b + 1)) : ShT G' B' b t := by
  unfold ShT
  rw [hg, hb]
  exact h
def ShR (f : Nat → Int32) (b : Nat) (t : Tb) : Prop := f b = nI t.1 ∧ ∀ q, q < t.1 * t.1 → f (b + 1 + q) = nI (t.2 q)
/-- what history is: H i j is table j behind i changes -/
def HiOk (H : Nat → Nat → Tb) (ch : Nat → Nat) (d t : Nat) : Prop := d ≤ t ∧ t ≤ 30 ∧ (∀ i j, i ≤ t → j < 6 → TbOk (H i j)) ∧ ∀ i, i < t → ch i < 6 ∧ ∀ j, j < 6 → j ≠ ch i → H (i + 1) j = H i j
/-- the class's State at a shows it -/
def HiC (S : CS) (G : Nat → Nat → Value) (B : Nat → Nat → Int32) (R : Nat → Nat → Option Nat) (a : Nat) (H : Nat → Nat → Tb) (ch : Nat → Nat) (d t : Nat) (ta ka : Nat → Nat) : Prop := (∀ z, z < 36 → TabAt S G (a + 6 + 2 * z)) ∧ (∀ j, j < 6 → R (a + 1) j = some (ta j) ∧ ∃ z, z < 36 ∧ ta j = a + 6 + 2 * z) ∧ (∀ i, i < 30 → R (a + 5) i = some (ka i) ∧ ∃ z, z < 36 ∧ ka i = a + 6 + 2 * z) ∧ (∀ i j, i < 6 → j < 6 → ta i = ta j → i = j) ∧ (∀ i j, i < 30 → j < 30 → ka i = ka j → i = j) ∧ (∀ i j, i < 6 → j < 30 → ta i ≠ ka j) ∧ (∀ j, j < 6 → ShT G B (ta j) (H d j)) ∧ (∀ i, i < d → ShT G B (ka i) (H i (ch i))) ∧ (∀ i, d ≤ i → i < t → ShT G B (ka i) (H (i + 1) (ch i))) ∧ (∀ i, i < t → B (a + 4) i = nI (ch i)) ∧ G a 7 = .int (nI d) ∧ G a 8 = .int (nI (t - d))
def HiR (f : Nat → Int32) (H : Nat → Nat → Tb) (ch : Nat → Nat) (d t : Nat) : Prop := (∀ j, j < 6 → ShR f (37 * j) (H d j)) ∧ (∀ i, i < t → f (259 + 75 * i) = nI (ch i) ∧ ShR f (260 + 75 * i) (H i (ch i)) ∧ ShR f (297 + 75 * i) (H (i + 1) (ch i))) ∧ f 2510 = nI d ∧ f 2511 = nI t
/-- a change more -/
def pushH (H : Nat → Nat → Tb) (d n : Nat) (tb : Tb) : Nat → Nat → Tb := fun i j => if i ≤ d then H i j else if j = n then tb else H d j
theorem pushH_l {H : Nat → Nat → Tb} {d n i j : Nat} {tb : Tb} (h : i ≤ d) : pushH H d n tb i j = H i j := if_pos h
theorem pushH_s {H : Nat → Nat → Tb} {d n : Nat} {tb : Tb} : pushH H d n tb (d + 1) n = tb := by unfold pushH; rw [if_neg (by omega), if_pos rfl]
theorem pushH_o {H : Nat → Nat → Tb} {d n j : Nat} {tb : Tb} (h : j ≠ n) : pushH H d n tb (d + 1) j = H d j := by unfold pushH; rw [if_neg (by omega), if_neg h]
theorem HiOk.push {H : Nat → Nat → Tb} {ch : Nat → Nat} {d t n : Nat} {tb : Tb} (h : HiOk H ch d t) (hd : d < 30) (hn : n < 6) (hb : TbOk tb) : HiOk (pushH H d n tb) (upN ch d n) (d + 1) (d + 1) := by
  refine ⟨Nat.le_refl _, by omega, fun i j hi hj => ?_, fun i hi => ?_⟩
  · by_cases e : i ≤ d
    · rw [pushH_l e]
      exact h.2.2.1 i j (by have := h.1; omega) hj
    · have : i = d + 1 := by omega
      subst this
      by_cases e2 : j = n
      · rw [e2, pushH_s]; exact hb
      · rw [pushH_o e2]
        exact h.2.2.1 d j h.1 hj
  · by_cases e : i = d
    · rw [e, upN_s]
      exact ⟨hn, fun j hj e2 => by rw [pushH_o e2, pushH_l (Nat.le_refl _)]⟩
    · rw [upN_n e]
      have := h.2.2.2 i (by have := h.1; omega)
      exact ⟨this.1, fun j hj e2 => by rw [pushH_l (by omega), pushH_l (by omega)]; exact this.2 j hj e2⟩
/-- the oldest change goes -/
def shH (H : Nat → Nat → Tb) : Nat → Nat → Tb := fun i j => H (i + 1) j
def shC (ch : Nat → Nat) : Nat → Nat := fun i => ch (i + 1)
theorem HiOk.sh {H : Nat → Nat → Tb} {ch : Nat → Nat} {d t : Nat} (h : HiOk H ch (d + 1) (t + 1)) : HiOk (shH H) (shC ch) d t := ⟨by have := h.1; omega, by have := h.2.1; omega, fun i j hi hj => h.2.2.1 (i + 1) j (by omega) hj, fun i hi => h.2.2.2 (i + 1) (by omega)⟩
theorem HiOk.un {H : Nat → Nat → Tb} {ch : Nat → Nat} {d t e : Nat} (h : HiOk H ch d t) (he : e ≤ t) : HiOk H ch e t := ⟨he, h.2⟩
/-- frame of changes of history -/
def StF (G : Nat → Nat → Value) (B : Nat → Nat → Int32) (R : Nat → Nat → Option Nat) (G' : Nat → Nat → Value) (B' : Nat → Nat → Int32) (R' : Nat → Nat → Option Nat) : Prop := (∀ b, b < 3 ∨ 81 ≤ b → G' b = G b ∧ B' b = B b ∧ R' b = R b) ∧ (∀ k, k ≠ 7 → k ≠ 8 → G' 3 k = G 3 k) ∧ (∀ b, b ≠ 3 → ∀ k, k ≠ 0 → G' b k = G b k) ∧ B' 6 = B 6 ∧ R' 5 = R 5 ∧ ∀ b, G' b 0 = G b 0 ∨ ∃ x, G' b 0 = .int x
theorem StF.rf {G : Nat → Nat → Value} {B : Nat → Nat → Int32} {R : Nat → Nat → Option Nat} : StF G B R G B R := ⟨fun _ _ => ⟨rfl, rfl, rfl⟩, fun _ _ _ => rfl, fun _ _ _ _ => rfl, rfl, rfl, fun _ => Or.inl rfl⟩
theorem StF.tr {G : Nat → Nat → Value} {B : Nat → Nat → Int32} {R : Nat → Nat → Option Nat} {G' : Nat → Nat → Value} {B' : Nat → Nat → Int32} {R' : Nat → Nat → Option Nat} {G2 : Nat → Nat → Value} {B2 : Nat → Nat → Int32} {R2 : Nat → Nat → Option Nat} (h : StF G B R G' B' R') (k : StF G' B' R' G2 B2 R2) : StF G B R G2 B2 R2 := ⟨fun b hb => ⟨(k.1 b hb).1.trans (h.1 b hb).1, (k.1 b hb).2.1.trans (h.1 b hb).2.1, (k.1 b hb).2.2.trans (h.1 b hb).2.2⟩, fun j a b => (k.2.1 j a b).trans (h.2.1 j a b), fun b hb j hj => (k.2.2.1 b hb j hj).trans (h.2.2.1 b hb j hj), k.2.2.2.1.trans h.2.2.2.1, k.2.2.2.2.1.trans h.2.2.2.2.1, fun b => (k.2.2.2.2.2 b).elim (fun e => (h.2.2.2.2.2 b).elim (fun e2 => Or.inl (e.trans e2)) (fun ⟨x, e2⟩ => Or.inr ⟨x, e.trans e2⟩)) Or.inr⟩
theorem StF.fx {G : Nat → Nat → Value} {B : Nat → Nat → Int32} {R : Nat → Nat → Option Nat} {G' : Nat → Nat → Value} {B' : Nat → Nat → Int32} {R' : Nat → Nat → Option Nat} (h : StF G B R G' B' R') (hF : FxG G) : FxG G' := fun e he => by
  have hc : (e.1 < 3 ∨ 81 ≤ e.1) ∨ (e.1 = 3 ∧ e.2.1 ≠ 7 ∧ e.2.1 ≠ 8) := by
    revert e
    decide
  rcases hc with c | c
  · rw [(h.1 e.1 c).1]
    exact hF e he
  · rw [c.1, h.2.1 _ c.2.1 c.2.2, ← c.1]
    exact hF e he
theorem HiC.ta {S : CS} {G : Nat → Nat → Value} {B : Nat → Nat → Int32} {R : Nat → Nat → Option Nat} {a : Nat} {H : Nat → Nat → Tb} {ch : Nat → Nat} {d t : Nat} {ta ka : Nat → Nat} (h : HiC S G B R a H ch d t ta ka) {j : Nat} (hj : j < 6) : TabAt S G (ta j) := by
  obtain ⟨z, hz, e⟩ := (h.2.1 j hj).2
  rw [e]
  exact h.1 z hz
theorem HiC.ka {S : CS} {G : Nat → Nat → Value} {B : Nat → Nat → Int32} {R : Nat → Nat → Option Nat} {a : Nat} {H : Nat → Nat → Tb} {ch : Nat → Nat} {d t : Nat} {ta ka : Nat → Nat} (h : HiC S G B R a H ch d t ta ka) {j : Nat} (hj : j < 30) : TabAt S G (ka j) := by
  obtain ⟨z, hz, e⟩ := (h.2.2.1 j hj).2
  rw [e]
  exact h.1 z hz
/-- tables[c] and kept[e] change places; d moves -/
theorem HiC.ex {S : CS} {G G' : Nat → Nat → Value} {B : Nat → Nat → Int32} {R : Nat → Nat → Option Nat} {a : Nat} {H : Nat → Nat → Tb} {ch : Nat → Nat} {d d' t e : Nat} {ta ka : Nat → Nat} (h : HiC S G B R a H ch d t ta ka) (ho : HiOk H ch d t) (he : e < t) (hde : (d' = d + 1 ∧ e = d) ∨ (d = d' + 1 ∧ e = d')) (hg : ∀ b, b ≠ a → G' b = G b) (h7 : G' a 7 = .int (nI d')) (h8 : G' a 8 = .int (nI (t - d'))) : HiC S G' B (upr (upr R (a + 1) (va_up (R (a + 1)) (ch e) (some (ka e)))) (a + 5) (va_up (R (a + 5)) e (some (ta (ch e))))) a H ch d' t (upN ta (ch e) (ka e)) (upN ka e (ta (ch e))) := by
  obtain ⟨h0, h1, h2, h3, h4, h5, h6, h7a, h8a, h9, h10, h11⟩ := h
  have ht := ho.2.1
  have hc := (ho.2.2.2 e he)
  have hne : ∀ z, z < 36 → a + 6 + 2 * z ≠ a := fun z _ => by omega
  have hsh : ∀ b tb, (∃ z, z < 36 ∧ b = a + 6 + 2 * z) → ShT G B b tb → ShT G' B b tb := fun b tb ⟨z, hz, eb⟩ q => q.cg (by rw [hg b (by omega)]) rfl
  have hH : ∀ j, j < 6 → j ≠ ch e → H d' j = H d j := fun j hj hje => by
    rcases hde with ⟨rfl, rfl⟩ | ⟨rfl, rfl⟩
    · exact hc.2 j hj hje
    · exact (hc.2 j hj hje).symm
  refine ⟨fun z hz => ?_, fun j hj => ?_, fun i hi => ?_, fun i j hi hj q => ?_, fun i j hi hj q => ?_, fun i j hi hj q => ?_, fun j hj => ?_, fun i hi => ?_, fun i hi1 hi2 => ?_, h9, h7, h8⟩
  · obtain ⟨b1, b2, b3, b4, b5⟩ := h0 z hz
    exact ⟨b1, b2, b3, b4, by rw [hg _ (hne z hz)]; exact b5⟩
  · rw [upr_n (by omega), upr_s]
    unfold va_up
    by_cases q : j = ch e
    · rw [if_pos q, q, upN_s]
      exact ⟨rfl, (h2 e (by omega)).2⟩
    · rw [if_neg q, upN_n q]
      exact h1 j hj
  · rw [upr_s]
    unfold va_up
    by_cases q : i = e
    · rw [if_pos q, q, upN_s]
      exact ⟨rfl, (h1 (ch e) hc.1).2⟩
    · rw [if_neg q, upN_n q]
      exact h2 i hi
  · by_cases e1 : i = ch e
    · by_cases e2 : j = ch e
      · omega
      · rw [e1, upN_s, upN_n e2] at q
        exact absurd q.symm (h5 j e hj (by omega))
    · by_cases e2 : j = ch e
      · rw [e2, upN_s, upN_n e1] at q
        exact absurd q (h5 i e hi (by omega))
      · rw [upN_n e1, upN_n e2] at q
        exact h3 i j hi hj q
  · by_cases e1 : i = e
    · by_cases e2 : j = e
      · omega
      · rw [e1, upN_s, upN_n e2] at q
        exact absurd q (h5 (ch e) j hc.1 hj)
    · by_cases e2 : j = e
      · rw [e2, upN_s, upN_n e1] at q
        exact absurd q.symm (h5 (ch e) i hc.1 hi)
      · rw [upN_n e1, upN_n e2] at q
        exact h4 i j hi hj q
  · by_cases e1 : i = ch e
    · by_cases e2 : j = e
      · rw [e1, e2, upN_s, upN_s] at q
        exact h5 (ch e) e hc.1 (by omega) q.symm
      · rw [e1, upN_s, upN_n e2] at q
        exact e2 (h4 e j (by omega) hj q).symm
    · by_cases e2 : j = e
      · rw [e2, upN_s, upN_n e1] at q
        exact e1 (h3 i (ch e) hi hc.1 q)
      · rw [upN_n e1, upN_n e2] at q
        exact h5 i j hi hj q
  · by_cases q : j = ch e
    · rw [q, upN_s]
      refine hsh _ _ (h2 e (by omega)).2 ?_
      rcases hde with ⟨rfl, rfl⟩ | ⟨rfl, rfl⟩
      · exact h8a e (Nat.le_refl _) he
      · exact h7a e (by omega)
    · rw [upN_n q, hH j hj q]
      exact hsh _ _ (h1 j hj).2 (h6 j hj)
  · by_cases q : i = e
    · rcases hde with ⟨rfl, rfl⟩ | ⟨rfl, rfl⟩
      · rw [q, upN_s]
        exact hsh _ _ (h1 _ hc.1).2 (h6 _ hc.1)
      · omega
    · rw [upN_n q]
      exact hsh _ _ (h2 i (by omega)).2 (h7a i (by omega))
  · by_cases q : i = e
    · rcases hde with ⟨rfl, rfl⟩ | ⟨rfl, rfl⟩
      · omega
      · rw [q, upN_s]
        exact hsh _ _ (h1 _ hc.1).2 (h6 _ hc.1)
    · rw [upN_n q]
      exact hsh _ _ (h2 i (by omega)).2 (h8a i (by omega) hi2)
