/-! The state that both show; printed by wip/whole/gen_c24.py. -/
/-- tables in time, changes, done, there, laws told, their tokens, how many, board's size, board -/
abbrev Core : Type := (Nat → Nat → Tb) × (Nat → Nat) × Nat × Nat × Nat × (Nat → Nat → Nat) × (Nat → Nat) × Nat × (Nat → Option Nat)
abbrev kH (K : Core) : Nat → Nat → Tb := K.1
abbrev kC (K : Core) : Nat → Nat := K.2.1
abbrev kD (K : Core) : Nat := K.2.2.1
abbrev kT (K : Core) : Nat := K.2.2.2.1
abbrev kL (K : Core) : Nat := K.2.2.2.2.1
abbrev kW (K : Core) : Nat → Nat → Nat := K.2.2.2.2.2.1
abbrev kN (K : Core) : Nat → Nat := K.2.2.2.2.2.2.1
abbrev kS (K : Core) : Nat := K.2.2.2.2.2.2.2.1
abbrev kB (K : Core) : Nat → Option Nat := K.2.2.2.2.2.2.2.2
def CoOk (K : Core) : Prop := HiOk (kH K) (kC K) (kD K) (kT K) ∧ kL K ≤ 8 ∧ (∀ l, l < kL K → kN K l ≤ 400 ∧ kW K l (kN K l) = 0 ∧ (∀ j, kW K l j < 400) ∧ (lwR (kW K l) (kN K l) 401).1 = true) ∧ kS K ≤ 6 ∧ ∀ q u, kB K q = some u → q < kS K * kS K ∧ u < kS K
def CoC (S : CS) (G : Nat → Nat → Value) (B : Nat → Nat → Int32) (R : Nat → Nat → Option Nat) (a : Nat) (K : Core) : Prop := ∃ ta ka la, HiC S G B R a (kH K) (kC K) (kD K) (kT K) ta ka ∧ LkC (kL K) (kW K) (kN K) la S G B R (a + 2) ∧ G a 2 = .int (nI (kL K)) ∧ G a 3 = .int (nI (kS K)) ∧ ∀ q, q < kS K * kS K → B (a + 3) q = oI (kB K q)
def CoR (f : Nat → Int32) (K : Core) : Prop := HiR f (kH K) (kC K) (kD K) (kT K) ∧ f 2509 = nI (kL K) ∧ (∀ l, l < kL K → f (2512 + l) = nI (kN K l) ∧ ∀ j, j < kN K l → f (2520 + (400 * l + j)) = nI (kW K l j)) ∧ f 222 = nI (kS K) ∧ ∀ q, q < kS K * kS K → f (223 + q) = oI (kB K q)
def StSh (S : CS) (a : Nat) : Prop := ∀ j, j < 78 → cs_in S.1 (a + j) ∧ S.2 (a + j) = cs_tab.getD (j + 1) (0, 0)
def StG (G : Nat → Nat → Value) (a : Nat) : Prop := G a 0 = .ref (a + 1) ∧ G a 1 = .ref (a + 2) ∧ G a 4 = .ref (a + 3) ∧ G a 5 = .ref (a + 4) ∧ G a 6 = .ref (a + 5)
def ImC (S : CS) (G : Nat → Nat → Value) (B : Nat → Nat → Int32) (R : Nat → Nat → Option Nat) (im : Nat → Option Core) : Prop := (∀ k, k < 2 → im k = none → R 81 k = none) ∧ ∃ ia : Nat → Nat, (im 0 ≠ none → im 1 ≠ none → ia 0 ≠ ia 1) ∧ ∀ k K, k < 2 → im k = some K → R 81 k = some (ia k) ∧ 174 ≤ ia k ∧ StSh S (ia k) ∧ StG G (ia k) ∧ CoC S G B R (ia k) K ∧ CoOk K
/-- core, images, tape, its length, fault, status, refusals, walked table -/
abbrev WS : Type := Core × (Nat → Option Core) × (Nat → Nat) × Nat × Int32 × Int32 × (Nat → Int32) × Tb
abbrev wK (W : WS) : Core := W.1
abbrev wI (W : WS) : Nat → Option Core := W.2.1
abbrev wT (W : WS) : Nat → Nat := W.2.2.1
abbrev wL (W : WS) : Nat := W.2.2.2.1
abbrev wF (W : WS) : Int32 := W.2.2.2.2.1
abbrev wS (W : WS) : Int32 := W.2.2.2.2.2.1
abbrev wR (W : WS) : Nat → Int32 := W.2.2.2.2.2.2.1
abbrev wW (W : WS) : Tb := W.2.2.2.2.2.2.2
/-- of a State: tables have sizes, the row of laws holds laws or nothing -/
def StX (S : CS) (G : Nat → Nat → Value) (R : Nat → Nat → Option Nat) (a : Nat) : Prop := (∀ z, z < 36 → ∃ x, G (a + 6 + 2 * z) 0 = .int x) ∧ ∀ l, l < 8 → R (a + 2) l = none ∨ ∃ b, R (a + 2) l = some b ∧ cs_in S.1 b ∧ S.2 b = (100 + 3, 3)
def WX (S : CS) (G : Nat → Nat → Value) (R : Nat → Nat → Option Nat) : Prop := StX S G R 3 ∧ ∀ k b, k < 2 → R 81 k = some b → 174 ≤ b ∧ StX S G R b
theorem StX.cg {S S' : CS} {G G' : Nat → Nat → Value} {R R' : Nat → Nat → Option Nat} {a : Nat} (h : StX S G R a) (hs : ∀ b, cs_in S.1 b → cs_in S'.1 b ∧ S'.2 b = S.2 b) (hg : ∀ z, z < 36 → G' (a + 6 + 2 * z) 0 = G (a + 6 + 2 * z) 0 ∨ ∃ x, G' (a + 6 + 2 * z) 0 = .int x) (hr : R' (a + 2) = R (a + 2)) : StX S' G' R' a := by
  refine ⟨fun z hz => (hg z hz).elim (fun e => by rw [e]; exact h.1 z hz) id, fun l hl => ?_⟩
  rw [hr]
  rcases h.2 l hl with e | ⟨b, e1, e2, e3⟩
  · exact Or.inl e
  · exact Or.inr ⟨b, e1, (hs b e2).1, by rw [(hs b e2).2]; exact e3⟩
theorem WX.cg {S S' : CS} {G G' : Nat → Nat → Value} {R R' : Nat → Nat → Option Nat} (h : WX S G R) (hs : ∀ b, cs_in S.1 b → cs_in S'.1 b ∧ S'.2 b = S.2 b) (hg : ∀ b, (9 ≤ b ∧ b < 81) ∨ 174 ≤ b → G' b 0 = G b 0 ∨ ∃ x, G' b 0 = .int x) (hr5 : R' 5 = R 5) (hr : ∀ b, 81 ≤ b → R' b = R b) : WX S' G' R' := by
  refine ⟨h.1.cg hs (fun z hz => hg _ (by omega)) hr5, fun k b hk e => ?_⟩
  rw [hr 81 (by decide)] at e
  obtain ⟨h1, h2⟩ := h.2 k b hk e
  exact ⟨h1, h2.cg hs (fun z hz => hg _ (by omega)) (hr _ (by omega))⟩
def WC (n : Nat) (S : CS) (G : Nat → Nat → Value) (B : Nat → Nat → Int32) (R : Nat → Nat → Option Nat) (W : WS) : Prop := (ShOk S ∧ S.1 ≤ 174 + 80 * n ∧ (∀ a, 174 ≤ a → a < S.1 → (S.2 a).2 ≤ 64) ∧ WX S G R) ∧ FxG G ∧ CoC S G B R 3 (wK W) ∧ CoOk (wK W) ∧ ImC S G B R (wI W) ∧ (wL W ≤ 400 ∧ G 2 3 = .int (nI (wL W)) ∧ ∀ i, i < wL W → B 82 i = nI (wT W i) ∧ wT W i < 256) ∧ G 2 5 = .int (wF W) ∧ G 2 16 = .int (wS W) ∧ (∀ e, e < 7 → B 145 e = wR W e) ∧ (ShT G B 88 (wW W) ∧ TbOk (wW W)) ∧ NmOk111 G B ∧ NmOk122 G B
def ImR (A : Nat → Nat → Int32) (im : Nat → Option Core) : Prop := ∀ k, k < 2 → (im k = none → A 3 k = nI 0) ∧ ∀ K, im k = some K → A 3 k = nI 1 ∧ CoR (fun i => A 2 (5720 * k + i)) K
def VcR (n : Nat) (g : Nat → Int32) (K : Core) : Prop := ∃ ver, ver ≤ n ∧ g 1 = nI ver ∧ (g 50 = -1 ∨ ∃ v, v ≤ ver ∧ g 50 = nI v ∧ (v = ver → ∀ sz hold no, sz ≤ 6 → hold < 256 → no < 256 → g 51 = nI sz → g 52 = nI hold → g 53 = nI no → g 54 = nI ((flA sz (T00 sz)).filter (lsB (kL K) (kW K) (kN K) hold no sz)).length))
def WR (n : Nat) (g : Nat → Int32) (A : Nat → Nat → Int32) (W : WS) : Prop := CoR (A 1) (wK W) ∧ ImR A (wI W) ∧ (∀ i, i < 11 → A 6 i = wrd i) ∧ (g 13 = nI (wL W) ∧ ∀ i, i < wL W → A 7 i = bI8 (wT W i)) ∧ g 14 = wF W ∧ g 0 = wS W ∧ (∀ e, e < 7 → A 0 e = wR W e) ∧ (g 56 = nI (wW W).1 ∧ ∀ q, q < (wW W).1 * (wW W).1 → A 26 q = nI ((wW W).2 q)) ∧ g 48 = nI 0 ∧ VcR n g (wK W)
/-- a query of the reference -/
theorem WR.q {n : Nat} {g g' : Nat → Int32} {A A' : Nat → Nat → Int32} {W : WS} (h : WR n g A W) (hg : Gsm g g') (ha : Ksm A A') : WR n g' A' W := by
  obtain ⟨h1, h2, h3, h4, h5, h6, h7, h8, h9, ver, h10, h11, h12⟩ := h
  unfold WR ImR VcR
  rw [ha 1 rfl, ha 2 rfl, ha 3 rfl, ha 6 rfl, ha 7 rfl, ha 0 rfl, ha 26 rfl, hg 13 rfl, hg 14 rfl, hg 0 rfl, hg 56 rfl, hg 48 rfl, hg 1 rfl, hg 50 rfl, hg 51 rfl, hg 52 rfl, hg 53 rfl, hg 54 rfl]
  exact ⟨h1, h2, h3, h4, h5, h6, h7, h8, h9, ver, h10, h11, h12⟩
def scG : List Nat := [83, 86, 90, 96, 97, 99, 107, 133, 134, 141]
def scB : List Nat := [85, 87, 92, 93, 94, 95, 98, 101, 102, 103, 104, 105, 108, 109, 110, 135, 136, 137, 138, 139, 140]
theorem LwS.cg2 {cod : Nat → Nat} {N l : Nat} {S S' : CS} {G G' : Nat → Nat → Value} {B B' : Nat → Nat → Int32} (h : LwS cod N l S G B) (hs : ∀ a, cs_in S.1 a → cs_in S'.1 a ∧ S'.2 a = S.2 a) (hg : G' l = G l) (hb : B' (l + 1) = B (l + 1)) : LwS cod N l S' G' B' := by
  obtain ⟨⟨a1, a2, a3, a4, a5⟩, h2⟩ := h
  refine ⟨⟨(hs l a1).1, by rw [(hs l a1).2]; exact a2, (hs _ a3).1, by rw [(hs _ a3).2]; exact a4, ?_⟩, h2⟩
  rw [hg, hb]
  exact a5
theorem TabAt.cg2 {S S' : CS} {G G' : Nat → Nat → Value} {a : Nat} (h : TabAt S G a) (hs : ∀ a, cs_in S.1 a → cs_in S'.1 a ∧ S'.2 a = S.2 a) (hg : G' a 1 = G a 1) : TabAt S' G' a := ⟨(hs _ h.1).1, (hs _ h.2.1).1, by rw [(hs _ h.1).2]; exact h.2.2.1, by rw [(hs _ h.2.1).2]; exact h.2.2.2.1, by rw [hg]; exact h.2.2.2.2⟩
/-- a State that nothing has touched -/
theorem CoC.cg {S S' : CS} {G G' : Nat → Nat → Value} {B B' : Nat → Nat → Int32} {R R' : Nat → Nat → Option Nat} {a : Nat} {K : Core} (h : CoC S G B R a K) (ho : CoOk K) (hs : ∀ a, cs_in S.1 a → cs_in S'.1 a ∧ S'.2 a = S.2 a) (hr : ∀ b, a ≤ b → b < a + 78 → G' b = G b ∧ B' b = B b ∧ R' b = R b) (hl : ∀ b, 174 ≤ b → cs_in S.1 b → (b = a ∨ S.2 b = (100 + 3, 3) → G' b = G b) ∧ (S.2 (b - 1) = (100 + 3, 3) → B' b = B b)) : CoC S' G' B' R' a K := by
  obtain ⟨ta, ka, la, ⟨h0, h1, h2, h3, h4, h5, h6, h7, h8, h9, h10, h11⟩, hL, h12, h13, h14⟩ := h
  have hsh : ∀ b tb, (∃ z, z < 36 ∧ b = a + 6 + 2 * z) → ShT G B b tb → ShT G' B' b tb := fun b tb ⟨z, hz, eb⟩ q => q.cg (by rw [(hr b (by omega) (by omega)).1]) ((hr (b + 1) (by omega) (by omega)).2.1)
  have ha := hr a (by omega) (by omega)
  have ht := ho.1.2.1
  have hd := ho.1.1
  refine ⟨ta, ka, la, ⟨fun z hz => (h0 z hz).cg2 hs (by rw [(hr _ (by omega) (by omega)).1]), fun j hj => ?_, fun i hi => ?_, h3, h4, h5, fun j hj => hsh _ _ (h1 j hj).2 (h6 j hj), fun i hi => ?_, fun i hi1 hi2 => ?_, fun i hi => ?_, by rw [ha.1]; exact h10, by rw [ha.1]; exact h11⟩, ⟨hL.1, fun l hl2 => ⟨?_, ?_⟩⟩, by rw [ha.1]; exact h12, by rw [ha.1]; exact h13, fun q hq => by rw [(hr (a + 3) (by omega) (by omega)).2.1]; exact h14 q hq⟩
  · rw [(hr (a + 1) (by omega) (by omega)).2.2]
    exact h1 j hj
  · rw [(hr (a + 5) (by omega) (by omega)).2.2]
    exact h2 i hi
  · exact hsh _ _ (h2 i (by omega)).2 (h7 i hi)
  · exact hsh _ _ (h2 i (by omega)).2 (h8 i hi1 hi2)
  · rw [(hr (a + 4) (by omega) (by omega)).2.1]
    exact h9 i hi
  · rw [(hr (a + 2) (by omega) (by omega)).2.2]
    exact (hL.2 l hl2).1
  · obtain ⟨q1, q2, q3, q4⟩ := (hL.2 l hl2).2
    exact (hL.2 l hl2).2.cg2 hs ((hl (la l) q2 q1.1).1 (Or.inr q1.2.1)) ((hl (la l + 1) (by omega) q1.2.2.1).2 (by rw [Nat.add_sub_cancel]; exact q1.2.1))
def scGn : List Nat := [83, 86, 90, 96, 97, 99, 107, 133, 134, 141, 111, 112, 114, 116, 118, 122, 123, 125, 127, 129]
def scBn : List Nat := [85, 87, 92, 93, 94, 95, 98, 101, 102, 103, 104, 105, 108, 109, 110, 135, 136, 137, 138, 139, 140, 113, 115, 117, 119, 120, 121, 124, 126, 128, 130, 131, 132]
theorem sc_1 : ∀ b, b ≤ 82 ∨ b = 88 ∨ b = 89 ∨ 145 ≤ b → b ∉ scGn ∧ b ∉ scBn := by
  intro b hb
  unfold scGn scBn
  simp only [List.mem_cons, List.mem_nil_iff, or_false, not_or]
  omega
theorem sc_2 : (∀ a, a ∈ scG → a ∈ scGn) ∧ ∀ a, a ∈ scB → a ∈ scBn := by decide
theorem ImC.cg {S : CS} {G G' : Nat → Nat → Value} {B B' : Nat → Nat → Int32} {R : Nat → Nat → Option Nat} {im : Nat → Option Core} (h : ImC S G B R im) (hg : ∀ b, 174 ≤ b → G' b = G b ∧ B' b = B b) : ImC S G' B' R im := by
  obtain ⟨h1, ia, h2, h3⟩ := h
  refine ⟨h1, ia, h2, fun k K hk hK => ?_⟩
  obtain ⟨q1, q2, q3, q4, q5, q6⟩ := h3 k K hk hK
  refine ⟨q1, q2, q3, ?_, q5.cg q6 (fun a ha => ⟨ha, rfl⟩) (fun b hb _ => ⟨(hg b (by omega)).1, (hg b (by omega)).2, rfl⟩) (fun b hb _ => ⟨fun _ => (hg b hb).1, fun _ => (hg b hb).2⟩), q6⟩
  unfold StG
  rw [(hg (ia k) q2).1]
  exact q4
/-- a query of the class -/
theorem WC.qn {n : Nat} {S : CS} {G G' : Nat → Nat → Value} {B B' : Nat → Nat → Int32} {R : Nat → Nat → Option Nat} {W : WS} (h : WC n S G B R W) (hF : FxG G') (hg : Gfr scGn G G') (hb : Bfr scBn B B') (h1 : NmOk111 G' B') (h2 : NmOk122 G' B') : WC n S G' B' R W := by
  obtain ⟨⟨a1, a2, a3⟩, a4, a5, a6, a7, a8, a9, a10, a11, a12, a13, a14⟩ := h
  have gq : ∀ b, b ≤ 82 ∨ b = 88 ∨ b = 89 ∨ 145 ≤ b → G' b = G b ∧ B' b = B b := fun b hb2 => ⟨hg b (sc_1 b hb2).1, hb b (sc_1 b hb2).2⟩
  refine ⟨⟨a1, a2, a3.1, a3.2.cg (fun _ hb2 => ⟨hb2, rfl⟩) (fun b hb2 => Or.inl (by rw [(gq b (by omega)).1])) rfl (fun _ _ => rfl)⟩, hF, a5.cg a6 (fun a ha => ⟨ha, rfl⟩) (fun b _ hb2 => ⟨(gq b (by omega)).1, (gq b (by omega)).2, rfl⟩) (fun b hb2 _ => ⟨fun _ => (gq b (by omega)).1, fun _ => (gq b (by omega)).2⟩), a6, a7.cg (fun b hb2 => gq b (by omega)), ?_, ?_, ?_, ?_, ⟨a12.1.cg (by rw [(gq 88 (by omega)).1]) (gq 89 (by omega)).2, a12.2⟩, h1, h2⟩
  · rw [(gq 2 (by omega)).1, (gq 82 (by omega)).2]
    exact a8
  · rw [(gq 2 (by omega)).1]
    exact a9
  · rw [(gq 2 (by omega)).1]
    exact a10
  · rw [(gq 145 (by omega)).2]
    exact a11
theorem nm_1 {G G' : Nat → Nat → Value} {B B' : Nat → Nat → Int32} (h : NmOk111 G B) (g1 : G' 111 = G 111) (g2 : G' 112 = G 112) (g3 : G' 114 = G 114) (b1 : B' 113 = B 113) (b2 : B' 115 = B 115) : NmOk111 G' B' := by
  unfold NmOk111 TabC
  rw [g1, g2, g3, show (112 + 1 : Nat) = 113 from rfl, show (114 + 1 : Nat) = 115 from rfl, b1, b2]
  exact h
theorem nm_2 {G G' : Nat → Nat → Value} {B B' : Nat → Nat → Int32} (h : NmOk122 G B) (g1 : G' 122 = G 122) (g2 : G' 123 = G 123) (g3 : G' 125 = G 125) (b1 : B' 124 = B 124) (b2 : B' 126 = B 126) : NmOk122 G' B' := by
  unfold NmOk122 TabC
  rw [g1, g2, g3, show (123 + 1 : Nat) = 124 from rfl, show (125 + 1 : Nat) = 126 from rfl, b1, b2]
  exact h
theorem WC.q {n : Nat} {S : CS} {G G' : Nat → Nat → Value} {B B' : Nat → Nat → Int32} {R : Nat → Nat → Option Nat} {W : WS} (h : WC n S G B R W) (hF : FxG G') (hg : Gfr scG G G') (hb : Bfr scB B B') : WC n S G' B' R W :=
  h.qn hF (hg.mo sc_2.1) (hb.mo sc_2.2) (nm_1 h.2.2.2.2.2.2.2.2.2.2.1 (hg _ (by decide)) (hg _ (by decide)) (hg _ (by decide)) (hb _ (by decide)) (hb _ (by decide))) (nm_2 h.2.2.2.2.2.2.2.2.2.2.2 (hg _ (by decide)) (hg _ (by decide)) (hg _ (by decide)) (hb _ (by decide)) (hb _ (by decide)))
/-- a call on both -/
def Tie (n yc yr : Nat) (alc alr : AL) (S : CS) (G : Nat → Nat → Value) (B : Nat → Nat → Int32) (J : Nat → Nat → Int64) (R : Nat → Nat → Option Nat) (g : Nat → Int32) (A : Nat → Nat → Int32) (W : WS) : Prop := ∃ v W', CR 80 yc 0 alc [] S G B J R (fun r S' G' B' J' R' => r = some (.int v) ∧ WC (n + 1) S' G' B' R' W') ∧ RR 80 yr 0 alr [] g A (fun r g' A' => r = some (.int v) ∧ WR (n + 1) g' A' W')
/-- refusals -/
def refW (W : WS) (v : Int32) (e : Nat) : WS := (wK W, wI W, wT W, wL W, wF W, v, upd (wR W) e (wR W e + nI 1), wW W)
theorem FxG.u2 {G : Nat → Nat → Value} {k : Nat} {v : Value} (h : FxG G) (hk : k = 3 ∨ k = 5 ∨ k = 16 := by decide) : FxG (up2 G 2 k v) := fun e he => by
  rw [up2_n]
  · exact h e he
  · intro q
    simp only [List.mem_cons, List.mem_nil_iff, or_false, Prod.ext_iff] at he
    omega
/-- numbers of the object itself change -/
theorem WC.u2 {n : Nat} {S : CS} {G G' : Nat → Nat → Value} {B B' : Nat → Nat → Int32} {R : Nat → Nat → Option Nat} {W W' : WS} (h : WC n S G B R W) (hF : FxG G') (hg : ∀ b, b ≠ 2 → G' b = G b) (hb : ∀ b, b ≠ 145 → b ≠ 82 → B' b = B b) (hK : wK W' = wK W) (hI : wI W' = wI W) (hWw : wW W' = wW W) (hT : wL W' ≤ 400 ∧ G' 2 3 = .int (nI (wL W')) ∧ ∀ i, i < wL W' → B' 82 i = nI (wT W' i) ∧ wT W' i < 256) (h5 : G' 2 5 = .int (wF W')) (h16 : G' 2 16 = .int (wS W')) (hr : ∀ e, e < 7 → B' 145 e = wR W' e) : WC n S G' B' R W' := by
  obtain ⟨⟨a1, a2, a3⟩, a4, a5, a6, a7, a8, a9, a10, a11, a12, a13, a14⟩ := h
  refine ⟨⟨a1, a2, a3.1, a3.2.cg (fun _ hb2 => ⟨hb2, rfl⟩) (fun b hb2 => Or.inl (by rw [hg b (by omega)])) rfl (fun _ _ => rfl)⟩, hF, ?_, by rw [hK]; exact a6, ?_, hT, h5, h16, hr, ?_, nm_1 a13 (hg _ (by decide)) (hg _ (by decide)) (hg _ (by decide)) (hb _ (by decide) (by decide)) (hb _ (by decide) (by decide)), nm_2 a14 (hg _ (by decide)) (hg _ (by decide)) (hg _ (by decide)) (hb _ (by decide) (by decide)) (hb _ (by decide) (by decide))⟩
  · rw [hK]
    exact a5.cg a6 (fun a ha => ⟨ha, rfl⟩) (fun b hb1 hb2 => ⟨hg b (by omega), hb b (by omega) (by omega), rfl⟩) (fun b hb2 _ => ⟨fun _ => hg b (by omega), fun _ => hb b (by omega) (by omega)⟩)
  · rw [hI]
    exact a7.cg (fun b hb2 => ⟨hg b (by omega), hb b (by omega) (by omega)⟩)
  · rw [hWw]
    exact ⟨a12.1.cg (by rw [hg 88 (by decide)]) (hb 89 (by decide) (by decide)), a12.2⟩
theorem WC.rf {n : Nat} {S : CS} {G : Nat → Nat → Value} {B : Nat → Nat → Int32} {R : Nat → Nat → Option Nat} {W : WS} (h : WC n S G B R W) {v : Int32} {e : Nat} (he : e < 7) : WC n S (up2 G 2 16 (.int v)) (upr B 145 (upd (B 145) e (B 145 e + nI 1))) R (refW W v e) := by
  refine h.u2 h.2.1.u2 (fun b hb => up2_g hb) (fun b hb _ => upr_n hb) rfl rfl rfl ?_ ?_ up2_s (fun q hq => ?_)
  · rw [up2_n (by decide), upr_n (by decide)]
    exact h.2.2.2.2.2.1
  · rw [up2_n (by decide)]
    exact h.2.2.2.2.2.2.1
  · rw [upr_s]
    show _ = upd (wR W) e (wR W e + nI 1) q
    by_cases q1 : q = e
    · rw [q1, pk_us, pk_us, h.2.2.2.2.2.2.2.2.1 e he]
    · rw [pk_un q1, pk_un q1]
      exact h.2.2.2.2.2.2.2.2.1 q hq
theorem WR.rf {n : Nat} {g : Nat → Int32} {A : Nat → Nat → Int32} {W : WS} (h : WR n g A W) {v : Int32} {e : Nat} (he : e < 7) : WR n (upd g 0 v) (rf_u A 0 (upd (A 0) e (A 0 e + nI 1))) (refW W v e) := by
  obtain ⟨h1, h2, h3, h4, h5, h6, h7, h8, h9, ver, h10, h11, h12⟩ := h
  unfold WR ImR VcR
  rw [rf_u_n (show (1 : Nat) ≠ 0 by decide), rf_u_n (show (2 : Nat) ≠ 0 by decide), rf_u_n (show (3 : Nat) ≠ 0 by decide), rf_u_n (show (6 : Nat) ≠ 0 by decide), rf_u_n (show (7 : Nat) ≠ 0 by decide), rf_u_s, rf_u_n (show (26 : Nat) ≠ 0 by decide)]
  simp only [pk_un (show (13 : Nat) ≠ 0 by decide), pk_un (show (14 : Nat) ≠ 0 by decide), pk_un (show (56 : Nat) ≠ 0 by decide), pk_un (show (48 : Nat) ≠ 0 by decide), pk_un (show (1 : Nat) ≠ 0 by decide), pk_un (show (50 : Nat) ≠ 0 by decide), pk_un (show (51 : Nat) ≠ 0 by decide), pk_un (show (52 : Nat) ≠ 0 by decide), pk_un (show (53 : Nat) ≠ 0 by decide), pk_un (show (54 : Nat) ≠ 0 by decide)]
  refine ⟨h1, h2, h3, h4, h5, pk_us, fun q hq => ?_, h8, h9, ver, h10, h11, h12⟩
  show _ = upd (wR W) e (wR W e + nI 1) q
  by_cases q1 : q = e
  · rw [q1, pk_us, pk_us, h7 e he]
  · rw [pk_un q1, pk_un q1]
    exact h7 q hq
theorem WC.mo {n : Nat} {S : CS} {G : Nat → Nat → Value} {B : Nat → Nat → Int32} {R : Nat → Nat → Option Nat} {W : WS} (h : WC n S G B R W) : WC (n + 1) S G B R W := ⟨⟨h.1.1, by have := h.1.2.1; omega, h.1.2.2⟩, h.2⟩
theorem WR.mo {n : Nat} {g : Nat → Int32} {A : Nat → Nat → Int32} {W : WS} (h : WR n g A W) : WR (n + 1) g A W := by
  obtain ⟨h1, h2, h3, h4, h5, h6, h7, h8, h9, ver, h10, h11, h12⟩ := h
  exact ⟨h1, h2, h3, h4, h5, h6, h7, h8, h9, ver, by omega, h11, h12⟩
theorem VcR.gd {n : Nat} {g : Nat → Int32} {K K' : Core} (h : VcR n g K) (hn : n ≤ 100000) {g' : Nat → Int32} (h1 : g' 1 = g 1 + nI 1) (h50 : g' 50 = g 50) : VcR (n + 1) g' K' := by
  obtain ⟨ver, h10, h11, h12⟩ := h
  refine ⟨ver + 1, by omega, by rw [h1, h11, nI_add], ?_⟩
  rw [h50]
  rcases h12 with q | ⟨v, hv, q, _⟩
  · exact Or.inl q
  · exact Or.inr ⟨v, by omega, q, fun e => by omega⟩
