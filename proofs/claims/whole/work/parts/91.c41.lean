/-! Autotopies are counted alike; call: autos; printed by wip/whole/gen_c41.py. -/
theorem cn_le {Rel : Nat → Nat → Prop} {f : Nat → Nat} (hf : ∀ i, f i ≤ 1) {M : Nat} : ∀ (N : Nat) (h : Nat → Nat), (∀ i, i < N → f i = 1 → ∃ j, j < M ∧ h j = 1 ∧ Rel i j) → (∀ i i' j, i < N → i' < N → Rel i j → Rel i' j → i = i') → SM f N ≤ SM h M
  | 0, h, _, _ => Nat.zero_le _
  | N + 1, h, h1, h2 => by
    rw [SM_s]
    have hN := hf N
    by_cases e : f N = 1
    · obtain ⟨j, hj, hj1, hr⟩ := h1 N (by omega) e
      rw [SM_rm (f := h) hj, hj1, e]
      have := cn_le hf N (fun k => if k = j then 0 else h k) (fun i hi e1 => by
        obtain ⟨j2, hj2, hj3, hr2⟩ := h1 i (by omega) e1
        refine ⟨j2, hj2, ?_, hr2⟩
        have hne : ¬ j2 = j := fun q => by
          subst q
          have := h2 i N j2 (by omega) (by omega) hr2 hr
          omega
        show (if j2 = j then 0 else h j2) = 1
        rw [if_neg hne]
        exact hj3) (fun i i' k hi hi' a b => h2 i i' k (by omega) (by omega) a b)
      omega
    · have := cn_le hf N h (fun i hi e1 => h1 i (by omega) e1) (fun i i' k hi hi' a b => h2 i i' k (by omega) (by omega) a b)
      omega
theorem SM_z0 {f : Nat → Nat} : ∀ {n : Nat}, SM f n = 0 → ∀ i, i < n → f i = 0
  | 0, _, i, hi => absurd hi (Nat.not_lt_zero i)
  | n + 1, h, i, hi => by
    rw [SM_s] at h
    by_cases e : i = n
    · subst e
      omega
    · exact SM_z0 (n := n) (by omega) i (by omega)
theorem ho_iff {n : Nat} {c e p : Nat → Nat} : hoN n c e p = 0 ↔ ∀ x, x < n → ∀ y, y < n → p (c (n * x + y)) = e (n * p x + p y) := by
  constructor
  · intro h x hx y hy
    have h1 : hoS n c e p x = 0 := SM_z0 h x hx
    have h2 : hoF n c e p x y = 0 := SM_z0 h1 y hy
    unfold hoF at h2
    by_cases q : p (c (n * x + y)) = e (n * p x + p y)
    · exact q
    · rw [if_neg q] at h2
      cases h2
  · intro h
    exact SM_0s (fun x hx => SM_0s (fun y hy => if_pos (h x hx y hy)))
theorem wy_1 {n : Nat} {c e : Nat → Nat} {r : Nat} : wyF n c e r = 1 ↔ ∀ x, x < n → ∀ y, y < n → pmE n r (e (n * x + y)) = c (n * pmE n r x + pmE n r y) := by
  rw [← ho_iff]
  unfold wyF fl01
  constructor
  · intro h
    by_cases q : hoN n e c (pmE n r) = 0
    · exact q
    · rw [if_neg q] at h
      cases h
  · intro h
    rw [if_pos h]
theorem pm_rk : (List.range 7).all (fun n => (List.range (FA n)).all fun r => (rkS n (pmE n r) n).2 == r) = true := by decide +kernel
theorem pm_ij {n r s : Nat} (hn : n ≤ 6) (hr : r < FA n) (hs : s < FA n) (h : ∀ k, k < n → pmE n r k = pmE n s k) : r = s := by
  have h1 := beq_iff_eq.mp (List.all_eq_true.mp (List.all_eq_true.mp pm_rk n (List.mem_range.mpr (by omega))) r (List.mem_range.mpr hr))
  have h2 := beq_iff_eq.mp (List.all_eq_true.mp (List.all_eq_true.mp pm_rk n (List.mem_range.mpr (by omega))) s (List.mem_range.mpr hs))
  rw [rkS_c h] at h1
  exact h1.symm.trans h2
/-- an isomorphism p of the first isotope to another belongs to an autotopy (q, _, p) with b behind 0 -/
def atL (n : Nat) (c : Nat → Nat) (k : Nat) (p q : Nat → Nat) (b : Nat) : Prop := c (n * q 0 + 0) = k / n ∧ c (n * 0 + b) = k % n ∧ ∀ x, x < n → p (c (n * x + 0)) = c (n * q x + b)
theorem at_un {n : Nat} {c : Nat → Nat} (hl : Lat n c) (hn : 0 < n) {k : Nat} {p q q' : Nat → Nat} {b b' : Nat} (hq : Per n q) (hq' : Per n q') (hb : b < n) (hb' : b' < n) (h : atL n c k p q b) (h' : atL n c k p q' b') : b = b' ∧ ∀ x, x < n → q x = q' x := by
  have e : b = b' := hl.2.1 0 b b' hn hb hb' (h.2.1.trans h'.2.1.symm)
  subst e
  exact ⟨rfl, fun x hx => hl.2.2 (q x) (q' x) b (hq.1 x hx) (hq'.1 x hx) hb ((h.2.2 x hx).symm.trans (h'.2.2 x hx))⟩
theorem at_un2 {n : Nat} {c : Nat → Nat} (hl : Lat n c) (hn : 0 < n) {k k' : Nat} {p p' q : Nat → Nat} {b : Nat} (h : atL n c k p q b) (h' : atL n c k' p' q b) : k = k' ∧ ∀ v, v < n → p v = p' v := by
  refine ⟨?_, fun v hv => ?_⟩
  · rw [← Nat.div_add_mod k n, ← Nat.div_add_mod k' n, ← h.1, ← h.2.1, h'.1, h'.2.1]
  · have e := hl.o hn hv
    rw [← e.2]
    exact (h.2.2 _ e.1).trans (h'.2.2 _ e.1).symm
theorem is00 {n : Nat} {c : Nat → Nat} (hl : Lat n c) (hn : 0 < n) {a b : Nat} (ha : a < n) (hb : b < n) : isN n c 0 0 (n * c (n * a + 0) + c (n * 0 + b)) = c (n * a + b) := by
  rw [isN_at (hl.b hn hb), hl.oc ha hn, hl.uc hn hb]
theorem at_ex {n : Nat} {c : Nat → Nat} (hl : Lat n c) (hn : 0 < n) {k : Nat} (hk : k < n * n) {p : Nat → Nat} (hp : Per n p) (hw : ∀ x, x < n → ∀ y, y < n → p (isN n c 0 0 (n * x + y)) = isK n c k (n * p x + p y)) : ∃ q b, Per n q ∧ b < n ∧ atB n c q b ∧ atL n c k p q b := by
  have hu := dm_dl hk
  have hv := dm_ml hk
  have hL := isN_lat hl hn hn
  have hK : Lat n (isK n c k) := isN_lat hL hu hv
  obtain ⟨L, eL⟩ : ∃ L, L = isN n c 0 0 := ⟨_, rfl⟩
  obtain ⟨u, eu⟩ : ∃ u, u = k / n := ⟨_, rfl⟩
  obtain ⟨v, ev⟩ : ∃ v, v = k % n := ⟨_, rfl⟩
  have hKe : isK n c k = isN n L u v := by rw [eL, eu, ev]; rfl
  rw [hKe] at hw hK
  rw [← eL] at hw hL
  rw [← eu] at hu
  rw [← ev] at hv
  have hc0 : ∀ a, a < n → c (n * a + 0) < n := fun a ha => hl.b ha hn
  have hc1 : ∀ b, b < n → c (n * 0 + b) < n := fun b hb => hl.b hn hb
  have hpa : ∀ a, a < n → p (c (n * a + 0)) < n := fun a ha => hp.1 _ (hc0 a ha)
  have hpb : ∀ b, b < n → p (c (n * 0 + b)) < n := fun b hb => hp.1 _ (hc1 b hb)
  have hqa : ∀ a, a < n → ovrI n L (p (c (n * a + 0))) v < n := fun a ha => (hL.o hv (hpa a ha)).1
  have hqb : ∀ b, b < n → undI n L u (p (c (n * 0 + b))) < n := fun b hb => (hL.u hu (hpb b hb)).1
  have hq : ∀ a, a < n → ovrI n c (ovrI n L (p (c (n * a + 0))) v) 0 < n := fun a ha => (hl.o hn (hqa a ha)).1
  have hr : ∀ b, b < n → undI n c 0 (undI n L u (p (c (n * 0 + b)))) < n := fun b hb => (hl.u hn (hqb b hb)).1
  have E : ∀ a b, a < n → b < n → c (n * ovrI n c (ovrI n L (p (c (n * a + 0))) v) 0 + undI n c 0 (undI n L u (p (c (n * 0 + b))))) = p (c (n * a + b)) := fun a b ha hb => by
    have h1 := hw _ (hc0 a ha) _ (hc1 b hb)
    rw [show L (n * c (n * a + 0) + c (n * 0 + b)) = c (n * a + b) by rw [eL]; exact is00 hl hn ha hb] at h1
    rw [h1, isN_at (hpb b hb)]
    rw [show L (n * ovrI n L (p (c (n * a + 0))) v + undI n L u (p (c (n * 0 + b)))) = c (n * ovrI n c (ovrI n L (p (c (n * a + 0))) v) 0 + undI n c 0 (undI n L u (p (c (n * 0 + b))))) by rw [show L = isN n c 0 0 from eL, isN_at (by rw [← eL]; exact hqb b hb)]]
  have hun : p (c (n * 0 + 0)) = L (n * u + v) := by
    have hz := hc0 0 hn
    have h1 := hw _ hz _ hz
    have h2 : L (n * c (n * 0 + 0) + c (n * 0 + 0)) = c (n * 0 + 0) := by rw [eL]; exact is00 hl hn hn hn
    rw [h2] at h1
    have h3 : isN n L u v (n * p (c (n * 0 + 0)) + L (n * u + v)) = p (c (n * 0 + 0)) := by
      rw [isN_at (hL.b hu hv), hL.uc hu hv]
      exact (hL.o hv (hpa 0 hn)).2
    exact hK.2.1 _ _ _ (hpa 0 hn) (hpa 0 hn) (hL.b hu hv) (h1.symm.trans h3.symm)
  refine ⟨fun a => ovrI n c (ovrI n L (p (c (n * a + 0))) v) 0, undI n c 0 (undI n L u (p (c (n * 0 + 0)))), ⟨fun a ha => hq a ha, fun a a' ha ha' e => ?_⟩, hr 0 hn, ?_, ?_, ?_, fun x hx => (E x 0 hx hn).symm⟩
  · dsimp only at e
    have h1 := E a 0 ha hn
    rw [e, E a' 0 ha' hn] at h1
    exact (hl.2.2 _ _ 0 ha' ha hn (hp.2 _ _ (hc0 a' ha') (hc0 a ha) h1)).symm
  · have hg : ∀ w, w < n → gaN n c (fun a => ovrI n c (ovrI n L (p (c (n * a + 0))) v) 0) (undI n c 0 (undI n L u (p (c (n * 0 + 0))))) w = p w := fun w hw2 => by
      have h1 := hl.o hn hw2
      show c (n * ovrI n c (ovrI n L (p (c (n * ovrI n c w 0 + 0))) v) 0 + undI n c 0 (undI n L u (p (c (n * 0 + 0))))) = p w
      rw [E _ 0 h1.1 hn, h1.2]
    intro x hx y hy
    have hb : beN n c (fun a => ovrI n c (ovrI n L (p (c (n * a + 0))) v) 0) (undI n c 0 (undI n L u (p (c (n * 0 + 0))))) y = undI n c 0 (undI n L u (p (c (n * 0 + y)))) := by
      unfold beN
      rw [hg _ (hc1 y hy)]
      have h2 := hl.uc (hq 0 hn) (hr y hy)
      rw [E 0 y hn hy] at h2
      exact h2
    rw [hg _ (hl.b hx hy), hb]
    exact (E x y hx hy).symm
  · show c (n * ovrI n c (ovrI n L (p (c (n * 0 + 0))) v) 0 + 0) = k / n
    rw [(hl.o hn (hqa 0 hn)).2, hun, hL.oc hu hv, eu]
  · rw [(hl.u hn (hqb 0 hn)).2, hun, hL.uc hu hv, ev]
theorem at_xe {n : Nat} {c : Nat → Nat} (hl : Lat n c) (hn : 0 < n) {q : Nat → Nat} {b : Nat} (hq : Per n q) (hb : b < n) (ha : atB n c q b) : ∃ k p, k < n * n ∧ Per n p ∧ (∀ x, x < n → ∀ y, y < n → p (isN n c 0 0 (n * x + y)) = isK n c k (n * p x + p y)) ∧ atL n c k p q b := by
  have hu : c (n * q 0 + 0) < n := hl.b (hq.1 0 hn) hn
  have hv : c (n * 0 + b) < n := hl.b hn hb
  have hL := isN_lat hl hn hn
  have hg : ∀ x, x < n → gaN n c q b (c (n * x + 0)) = c (n * q x + b) := fun x hx => by
    unfold gaN
    rw [hl.oc hx hn]
  have hgl : ∀ w, w < n → gaN n c q b w < n := fun w hw => hl.b (hq.1 _ (hl.o hn hw).1) hb
  have hbl : ∀ y, y < n → beN n c q b y < n := fun y hy => (hl.u (hq.1 0 hn) (hgl _ (hl.b hn hy))).1
  refine ⟨n * c (n * q 0 + 0) + c (n * 0 + b), gaN n c q b, cu_lt hu hv, ⟨hgl, fun w w' hw hw' e => ?_⟩, fun x hx y hy => ?_, (dm_d hv).symm, (dm_m hv).symm, fun x hx => hg x hx⟩
  · unfold gaN at e
    have h1 := hl.o hn hw
    have h2 := hl.o hn hw'
    have h3 := hq.2 _ _ h1.1 h2.1 (hl.2.2 _ _ b (hq.1 _ h1.1) (hq.1 _ h2.1) hb e)
    rw [← h1.2, ← h2.2, h3]
  · have h1 := hl.o hn hx
    have h2 := hl.u hn hy
    obtain ⟨a, ea⟩ : ∃ a, a = ovrI n c x 0 := ⟨_, rfl⟩
    obtain ⟨d, ed⟩ : ∃ d, d = undI n c 0 y := ⟨_, rfl⟩
    rw [← ea] at h1
    rw [← ed] at h2
    have hqa := hq.1 a h1.1
    have e1 : isN n c 0 0 (n * x + y) = c (n * a + d) := by rw [isN_at hy, ea, ed]
    have e2 : gaN n c q b x = c (n * q a + b) := by rw [← h1.2]; exact hg a h1.1
    have e3 : gaN n c q b y = c (n * q 0 + beN n c q b d) := by rw [← h2.2]; exact ha 0 hn d h2.1
    rw [e1, ha a h1.1 d h2.1]
    unfold isK
    rw [dm_d hv, dm_m hv, isN_at (hgl y hy)]
    have e4 : ovrI n (isN n c 0 0) (gaN n c q b x) (c (n * 0 + b)) = c (n * q a + 0) := by
      rw [e2, ← is00 hl hn hqa hb]
      exact hL.oc (hl.b hqa hn) hv
    have e5 : undI n (isN n c 0 0) (c (n * q 0 + 0)) (gaN n c q b y) = c (n * 0 + beN n c q b d) := by
      rw [e3, ← is00 hl hn (hq.1 0 hn) (hbl d h2.1)]
      exact hL.uc hu (hl.b hn (hbl d h2.1))
    rw [e4, e5]
    exact (is00 hl hn hqa (hbl d h2.1)).symm
theorem at_eq {n : Nat} {c : Nat → Nat} (hn6 : n ≤ 6) (hn : 0 < n) (hl : Lat n c) : SM (atR n c) (n * n) = atN n c := by
  have hFp := FA_pos n
  have hA : SM (atR n c) (n * n) = SM (fun i => wyF n (isK n c (i / FA n)) (isN n c 0 0) (i % FA n)) (n * n * FA n) := by
    refine Eq.trans ?_ (SM_cells _ (FA n) (n * n)).symm
    refine SM_c (fun k hk => SM_c (fun r hr => ?_))
    show wyF n (isK n c k) (isN n c 0 0) r = wyF n (isK n c ((FA n * k + r) / FA n)) (isN n c 0 0) ((FA n * k + r) % FA n)
    rw [dm_d hr, dm_m hr]
  have hB : atN n c = SM (fun j => atF n c (j / n) (j % n)) (FA n * n) := by
    refine Eq.trans ?_ (SM_cells _ n (FA n)).symm
    refine SM_c (fun r hr => SM_c (fun b hb => ?_))
    show atF n c r b = atF n c ((n * r + b) / n) ((n * r + b) % n)
    rw [dm_d hb, dm_m hb]
  have a1 : ∀ r b, atF n c r b = 1 ↔ atB n c (pmE n r) b := fun r b => by
    unfold atF atD
    constructor
    · intro h
      by_cases q : atB n c (pmE n r) b
      · exact q
      · rw [if_neg q] at h
        cases h
    · intro h
      rw [if_pos h]
  have hR : ∀ i, i < n * n * FA n → i / FA n < n * n ∧ i % FA n < FA n := fun i hi => ⟨Nat.div_lt_of_lt_mul (by rw [Nat.mul_comm]; exact hi), Nat.mod_lt _ hFp⟩
  have hC : ∀ j, j < FA n * n → j / n < FA n ∧ j % n < n := fun j hj => ⟨Nat.div_lt_of_lt_mul (by rw [Nat.mul_comm]; exact hj), Nat.mod_lt _ hn⟩
  have bld : ∀ m k r, r < m → m * k + r = m * ((m * k + r) / m) + (m * k + r) % m := fun m k r _ => (Nat.div_add_mod _ _).symm
  have un1 : ∀ i i' j, i < n * n * FA n → i' < n * n * FA n → (j < FA n * n ∧ atL n c (i / FA n) (pmE n (i % FA n)) (pmE n (j / n)) (j % n)) → (j < FA n * n ∧ atL n c (i' / FA n) (pmE n (i' % FA n)) (pmE n (j / n)) (j % n)) → i = i' := fun i i' j hi hi' h h' => by
    obtain ⟨e1, e2⟩ := at_un2 hl hn h.2 h'.2
    have e3 := pm_ij hn6 (hR i hi).2 (hR i' hi').2 e2
    rw [← Nat.div_add_mod i (FA n), ← Nat.div_add_mod i' (FA n), e1, e3]
  have un2 : ∀ j j' i, j < FA n * n → j' < FA n * n → (i < n * n * FA n ∧ atL n c (i / FA n) (pmE n (i % FA n)) (pmE n (j / n)) (j % n)) → (i < n * n * FA n ∧ atL n c (i / FA n) (pmE n (i % FA n)) (pmE n (j' / n)) (j' % n)) → j = j' := fun j j' i hj hj' h h' => by
    obtain ⟨e1, e2⟩ := at_un hl hn (pm_per hn6 (hC j hj).1) (pm_per hn6 (hC j' hj').1) (hC j hj).2 (hC j' hj').2 h.2 h'.2
    have e3 := pm_ij hn6 (hC j hj).1 (hC j' hj').1 e2
    rw [← Nat.div_add_mod j n, ← Nat.div_add_mod j' n, e1, e3]
  rw [hA, hB]
  refine Nat.le_antisymm ?_ ?_
  · refine cn_le (Rel := fun i j => j < FA n * n ∧ atL n c (i / FA n) (pmE n (i % FA n)) (pmE n (j / n)) (j % n)) (fun i => fl_le _) _ _ (fun i hi e => ?_) un1
    obtain ⟨h1, h2⟩ := hR i hi
    obtain ⟨q, b, hq, hb, hab, hal⟩ := at_ex hl hn h1 (pm_per hn6 h2) (wy_1.mp e)
    obtain ⟨s, hs⟩ := per_num hn6 hq
    have hsq : ∀ x, x < n → pmE n s x = q x := fun x hx => (hs.2.2.2 x hx).1
    have hlt : n * s + b < FA n * n := by
      have : n * (s + 1) ≤ n * FA n := Nat.mul_le_mul_left n hs.1
      rw [Nat.mul_succ] at this
      rw [Nat.mul_comm (FA n) n]
      omega
    refine ⟨n * s + b, hlt, ?_, hlt, ?_⟩
    · show atF n c ((n * s + b) / n) ((n * s + b) % n) = 1
      rw [dm_d hb, dm_m hb]
      refine (a1 s b).mpr (fun x hx y hy => ?_)
      have := hab x hx y hy
      unfold beN gaN at this ⊢
      rw [hsq _ (hl.o hn (hl.b hx hy)).1, hsq x hx, hsq 0 hn, hsq _ (hl.o hn (hl.b hn hy)).1]
      exact this
    · rw [dm_d hb, dm_m hb]
      exact ⟨by rw [hsq 0 hn]; exact hal.1, hal.2.1, fun x hx => by rw [hsq x hx]; exact hal.2.2 x hx⟩
  · refine cn_le (Rel := fun j i => i < n * n * FA n ∧ atL n c (i / FA n) (pmE n (i % FA n)) (pmE n (j / n)) (j % n)) (fun j => by unfold atF atD; split <;> omega) _ _ (fun j hj e => ?_) un2
    obtain ⟨h1, h2⟩ := hC j hj
    obtain ⟨k, p, hk, hp, hw, hal⟩ := at_xe hl hn (pm_per hn6 h1) h2 ((a1 _ _).mp e)
    obtain ⟨s, hs⟩ := per_num hn6 hp
    have hsp : ∀ x, x < n → pmE n s x = p x := fun x hx => (hs.2.2.2 x hx).1
    have hL := isN_lat hl hn hn
    have hlt : FA n * k + s < n * n * FA n := by
      have : FA n * (k + 1) ≤ FA n * (n * n) := Nat.mul_le_mul_left (FA n) hk
      rw [Nat.mul_succ] at this
      rw [Nat.mul_comm (n * n) (FA n)]
      have := hs.1
      omega
    refine ⟨FA n * k + s, hlt, ?_, hlt, ?_⟩
    · show wyF n (isK n c ((FA n * k + s) / FA n)) (isN n c 0 0) ((FA n * k + s) % FA n) = 1
      rw [dm_d hs.1, dm_m hs.1]
      refine wy_1.mpr (fun x hx y hy => ?_)
      rw [hsp _ (hL.b hx hy), hsp x hx, hsp y hy]
      exact hw x hx y hy
    · rw [dm_d hs.1, dm_m hs.1]
      exact ⟨hal.1, hal.2.1, fun x hx => by rw [hsp _ (hl.b hx hn)]; exact hal.2.2 x hx⟩
theorem p_autosX {S : CS} {G : Nat → Nat → Value} {B : Nat → Nat → Int32} {J : Nat → Nat → Int64} {R : Nat → Nat → Option Nat} {n : Nat} {W : WS} (hW : WC n S G B R W) {j m : Nat} {c : Nat → Nat} (hj : j < 6) (htb : tbK (wK W) j = (m, c)) (h1 : 1 ≤ m) {w : Int32} (hw : ¬ inP w 2) : CR 80 159 0 [some (.ref 2), some (.int (nI j)), some (.int w)] [] S G B J R (fun r S' G' B' J' R' => r = some (.int (-1)) ∧ WC (n + 1) S' G' B' R' W) := by
  have hS := hW.1.1
  have hF := hW.2.1
  have hO := hW.2.2.2.1
  obtain ⟨ta, ka, la, hH, hLk, hl2, hs3, hbd⟩ := hW.2.2.1
  obtain ⟨zt, hzt, ezt⟩ := (hH.2.1 j hj).2
  have ht := hH.ta hj
  have hsh := hH.2.2.2.2.2.2.1 j hj
  rw [show kH (wK W) (kD (wK W)) j = (m, c) from htb] at hsh
  have hok := tb_ok hO hj
  rw [htb] at hok
  have hn : G (ta j) 0 = .int (nI m) := hsh.1
  have hc : TabC B (ta j) m c := hsh.c hok
  have hl : Lat m c := hok.2
  have hm6 : m ≤ 6 := hok.1
  have hyes : hasP (wK W) (nI j) := (has_i hj).mpr (by rw [htb]; exact h1)
  refine cr_nx (pc' := 1) (al' := [some (.ref 2), some (.int (nI j)), some (.int w)]) (st' := [.ref 2]) d_159_0 (fun _ => rfl) ?_
  refine cr_nx (pc' := 2) (al' := [some (.ref 2), some (.int (nI j)), some (.int w)]) (st' := [.int (nI j), .ref 2]) d_159_1 (fun _ => rfl) ?_
  refine cr_pv (b := 2) (as := [.int (nI j)]) (al0 := [some (.ref 2), some (.int (nI j))]) (r := []) d_159_2 cw_159 cm_11_137 cz_126 rfl rfl (hS.i (a := 2) (by decide) (by decide)) (by rw [cw_126]; exact (hS.s (a := 2) (by decide) (by decide) rfl)) (by rw [cw_126]; decide) rfl (Nat.le_of_ble_eq_true rfl) (k_has hS hF hH hO) ?_
  show CR _ _ 5 [some (.ref 2), some (.int (nI j)), some (.int w)] [.int (bI (hasP (wK W) (nI j)))] S G B J R _
  refine cr_bne (t := 10) d_159_5 (by decide) (fun c5 => ?_) (fun c5 => ?_)
  · refine cr_nx (pc' := 11) (al' := [some (.ref 2), some (.int (nI j)), some (.int w)]) (st' := [.int w]) d_159_10 (fun _ => rfl) ?_
    refine cr_ls (off := 59) (t := 70) d_159_11 (by decide) (ls_x hw) (by decide) ?_
    refine cr_nx (pc' := 71) (al' := [some (.ref 2), some (.int (nI j)), some (.int w)]) (st' := [.int (-1)]) d_159_70 (fun _ => rfl) ?_
    exact cr_ri d_159_71 cx_159 rfl ⟨rfl, hW.mo⟩
  · exact absurd hyes c5
theorem r_autosX {g : Nat → Int32} {A : Nat → Nat → Int32} {n : Nat} {W : WS} (hW : WR n g A W) (hO : CoOk (wK W)) {j m : Nat} {c : Nat → Nat} (hj : j < 6) (htb : tbK (wK W) j = (m, c)) (h1 : 1 ≤ m) {w : Int32} (hw : ¬ inP w 2) : RR 80 262 0 [some (.ref 146), some (.int (nI j)), some (.int w), none, none, none] [] g A (fun r g' A' => r = some (.int (-1)) ∧ WR (n + 1) g' A' W) := by
  have hsh := hW.1.1.1 j hj
  rw [show kH (wK W) (kD (wK W)) j = (m, c) from htb] at hsh
  have hok := tb_ok hO hj
  rw [htb] at hok
  have hk : A 1 (37 * j) = nI m := hsh.1
  have hl : Lat m c := hok.2
  have hm6 : m ≤ 6 := hok.1
  have hyes : isT A (nI j) := (has_r hW hO).mpr ((has_i hj).mpr (by rw [htb]; exact h1))
  refine rr_nx (pc' := 1) (al' := [some (.ref 146), some (.int (nI j)), some (.int w), none, none, none]) (st' := [.ref 146]) d_262_0 (fun _ => rfl) ?_
  refine rr_nx (pc' := 2) (al' := [some (.ref 146), some (.int (nI j)), some (.int w), none, none, none]) (st' := [.int (nI j), .ref 146]) d_262_1 (fun _ => rfl) ?_
  refine rr_pv (as := [.int (nI j)]) (al0 := [some (.ref 146), some (.int (nI j))]) (r := []) d_262_2 mo_262 ml_124 mz_184 rfl rfl rfl (Nat.le_of_ble_eq_true rfl) (s_isTable (nI j)) ?_
  show RR _ _ 5 [some (.ref 146), some (.int (nI j)), some (.int w), none, none, none] [.int (bI (isT A (nI j)))] g A _
  refine rr_beq (t := 17) d_262_5 (by decide) (fun c5 => ?_) (fun c5 => ?_)
  · exact absurd hyes c5
  · refine rr_nx (pc' := 9) (al' := [some (.ref 146), some (.int (nI j)), some (.int w), none, none, none]) (st' := [.int w]) d_262_8 (fun _ => rfl) ?_
    refine rn_ic (v := 0) d_262_9 (by decide) ?_
    refine rn_ic (v := 1) d_262_10 (by decide) ?_
    refine rr_ps (as := [.int w, .int (nI 0), .int (nI 1)]) (al0 := [some (.int w), some (.int (nI 0)), some (.int (nI 1))]) (r := []) d_262_11 mo_262 ml_106 mz_179 rfl rfl rfl (Nat.le_of_ble_eq_true rfl) (s_lies w (nI 0) (nI 1)) ?_
    show RR _ _ 14 [some (.ref 146), some (.int (nI j)), some (.int w), none, none, none] [.int (bI ((nI 0) ≤ w ∧ w ≤ (nI 1)))] g A _
    refine rr_bne (t := 19) d_262_14 (by decide) (fun c14 => ?_) (fun c14 => ?_)
    · exact absurd c14 (fun e_ => hw ((in_r (m := 1) (by decide)).mp e_))
    · refine rr_nx (pc' := 18) (al' := [some (.ref 146), some (.int (nI j)), some (.int w), none, none, none]) (st' := [.int (-1)]) d_262_17 (fun _ => rfl) ?_
      exact rr_ri d_262_18 mr_262 rfl ⟨rfl, hW.mo⟩
theorem p_autos0 {S : CS} {G : Nat → Nat → Value} {B : Nat → Nat → Int32} {J : Nat → Nat → Int64} {R : Nat → Nat → Option Nat} {n : Nat} {W : WS} (hW : WC n S G B R W) {j m : Nat} {c : Nat → Nat} (hj : j < 6) (htb : tbK (wK W) j = (m, c)) (h1 : 1 ≤ m) : CR 80 159 0 [some (.ref 2), some (.int (nI j)), some (.int (nI 0))] [] S G B J R (fun r S' G' B' J' R' => r = some (.int (nI (auN m c))) ∧ WC (n + 1) S' G' B' R' W) := by
  have hS := hW.1.1
  have hF := hW.2.1
  have hO := hW.2.2.2.1
  obtain ⟨ta, ka, la, hH, hLk, hl2, hs3, hbd⟩ := hW.2.2.1
  obtain ⟨zt, hzt, ezt⟩ := (hH.2.1 j hj).2
  have ht := hH.ta hj
  have hsh := hH.2.2.2.2.2.2.1 j hj
  rw [show kH (wK W) (kD (wK W)) j = (m, c) from htb] at hsh
  have hok := tb_ok hO hj
  rw [htb] at hok
  have hn : G (ta j) 0 = .int (nI m) := hsh.1
  have hc : TabC B (ta j) m c := hsh.c hok
  have hl : Lat m c := hok.2
  have hm6 : m ≤ 6 := hok.1
  have hyes : hasP (wK W) (nI j) := (has_i hj).mpr (by rw [htb]; exact h1)
  refine cr_nx (pc' := 1) (al' := [some (.ref 2), some (.int (nI j)), some (.int (nI 0))]) (st' := [.ref 2]) d_159_0 (fun _ => rfl) ?_
  refine cr_nx (pc' := 2) (al' := [some (.ref 2), some (.int (nI j)), some (.int (nI 0))]) (st' := [.int (nI j), .ref 2]) d_159_1 (fun _ => rfl) ?_
  refine cr_pv (b := 2) (as := [.int (nI j)]) (al0 := [some (.ref 2), some (.int (nI j))]) (r := []) d_159_2 cw_159 cm_11_137 cz_126 rfl rfl (hS.i (a := 2) (by decide) (by decide)) (by rw [cw_126]; exact (hS.s (a := 2) (by decide) (by decide) rfl)) (by rw [cw_126]; decide) rfl (Nat.le_of_ble_eq_true rfl) (k_has hS hF hH hO) ?_
  show CR _ _ 5 [some (.ref 2), some (.int (nI j)), some (.int (nI 0))] [.int (bI (hasP (wK W) (nI j)))] S G B J R _
  refine cr_bne (t := 10) d_159_5 (by decide) (fun c5 => ?_) (fun c5 => ?_)
  · refine cr_nx (pc' := 11) (al' := [some (.ref 2), some (.int (nI j)), some (.int (nI 0))]) (st' := [.int (nI 0)]) d_159_10 (fun _ => rfl) ?_
    refine cr_ls (off := 25) (t := 36) d_159_11 (by decide) (by decide) (by decide) ?_
    refine cr_nx (pc' := 37) (al' := [some (.ref 2), some (.int (nI j)), some (.int (nI 0))]) (st' := [.ref 2]) d_159_36 (fun _ => rfl) ?_
    refine cr_gf (v := .ref 133) d_159_37 cw_159 cf_11_79 (hS.i (a := 2) (by decide) (by decide)) (hS.s (a := 2) (by decide) (by decide) rfl) (by decide) (fx_2_13 hF) ?_
    refine cr_nx (pc' := 41) (al' := [some (.ref 2), some (.int (nI j)), some (.int (nI 0))]) (st' := [.ref 2, .ref 133]) d_159_40 (fun _ => rfl) ?_
    refine cr_gf (v := .ref 3) d_159_41 cw_159 cf_11_10 (hS.i (a := 2) (by decide) (by decide)) (hS.s (a := 2) (by decide) (by decide) rfl) (by decide) (fx_2_0 hF) ?_
    refine cr_gf (v := .ref 4) d_159_44 cw_159 cf_11_140 (hS.i (a := 3) (by decide) (by decide)) (hS.s (a := 3) (by decide) (by decide) rfl) (by decide) (fx_3_0 hF) ?_
    refine cr_nx (pc' := 48) (al' := [some (.ref 2), some (.int (nI j)), some (.int (nI 0))]) (st' := [.int (nI j), .ref 4, .ref 133]) d_159_47 (fun _ => rfl) ?_
    refine cr_aa (a := 4) (v := .ref (ta j)) d_159_48 (hS.i (a := 4) (by decide) (by decide)) (by decide) (hS.s (a := 4) (by decide) (by decide) rfl) (by decide) (show j < 6 by first | omega | assumption | exact cu_36 (by omega) (cu_lt (by omega) (by omega))) (show va_rf _ = _ by rw [(hH.2.1 j hj).1]; rfl) ?_
    refine cr_cv (b := 133) (as := [.ref (ta j)]) (al0 := [some (.ref 133), some (.ref (ta j)), none, none]) (r := []) d_159_49 cw_159 cm_11_312 cz_74 rfl rfl (hS.i (a := 133) (by decide) (by decide)) (by rw [cw_74]; exact (hS.s (a := 133) (by decide) (by decide) rfl)) (by rw [cw_74]; decide) rfl (cr_wk (Nat.le_of_ble_eq_true rfl) (k_automorphisms hS hF ht hn hc h1 (by omega))) (fun v1 S1 G1 B1 J1 R1 h1x => ?_)
    obtain ⟨q0_, q1_, q2_, q3_, q4_, w6, q9_⟩ := h1x
    obtain rfl := q0_
    obtain rfl := q1_.symm
    obtain rfl := q2_.symm
    obtain rfl := q3_.symm
    obtain rfl := q4_.symm
    obtain rfl := q9_
    have hb1 : Bfr [136, 137, 138] B (upr B 136 w6) := Bfr.rf.u (by decide)
    show CR _ _ 52 [some (.ref 2), some (.int (nI j)), some (.int (nI 0))] [.int (nI (auN m c))] S G (upr B 136 w6) J R _
    exact cr_ri d_159_52 cx_159 rfl ⟨rfl, (hW.q hF Gfr.rf (hb1.mo (by decide))).mo⟩
  · exact absurd hyes c5
theorem r_autos0 {g : Nat → Int32} {A : Nat → Nat → Int32} {n : Nat} {W : WS} (hW : WR n g A W) (hO : CoOk (wK W)) {j m : Nat} {c : Nat → Nat} (hj : j < 6) (htb : tbK (wK W) j = (m, c)) (h1 : 1 ≤ m) : RR 80 262 0 [some (.ref 146), some (.int (nI j)), some (.int (nI 0)), none, none, none] [] g A (fun r g' A' => r = some (.int (nI (auN m c))) ∧ WR (n + 1) g' A' W) := by
  have hsh := hW.1.1.1 j hj
  rw [show kH (wK W) (kD (wK W)) j = (m, c) from htb] at hsh
  have hok := tb_ok hO hj
  rw [htb] at hok
  have hk : A 1 (37 * j) = nI m := hsh.1
  have hl : Lat m c := hok.2
  have hm6 : m ≤ 6 := hok.1
  have hyes : isT A (nI j) := (has_r hW hO).mpr ((has_i hj).mpr (by rw [htb]; exact h1))
  refine rr_nx (pc' := 1) (al' := [some (.ref 146), some (.int (nI j)), some (.int (nI 0)), none, none, none]) (st' := [.ref 146]) d_262_0 (fun _ => rfl) ?_
  refine rr_nx (pc' := 2) (al' := [some (.ref 146), some (.int (nI j)), some (.int (nI 0)), none, none, none]) (st' := [.int (nI j), .ref 146]) d_262_1 (fun _ => rfl) ?_
  refine rr_pv (as := [.int (nI j)]) (al0 := [some (.ref 146), some (.int (nI j))]) (r := []) d_262_2 mo_262 ml_124 mz_184 rfl rfl rfl (Nat.le_of_ble_eq_true rfl) (s_isTable (nI j)) ?_
  show RR _ _ 5 [some (.ref 146), some (.int (nI j)), some (.int (nI 0)), none, none, none] [.int (bI (isT A (nI j)))] g A _
  refine rr_beq (t := 17) d_262_5 (by decide) (fun c5 => ?_) (fun c5 => ?_)
  · exact absurd hyes c5
  · refine rr_nx (pc' := 9) (al' := [some (.ref 146), some (.int (nI j)), some (.int (nI 0)), none, none, none]) (st' := [.int (nI 0)]) d_262_8 (fun _ => rfl) ?_
    refine rn_ic (v := 0) d_262_9 (by decide) ?_
    refine rn_ic (v := 1) d_262_10 (by decide) ?_
    refine rr_ps (as := [.int (nI 0), .int (nI 0), .int (nI 1)]) (al0 := [some (.int (nI 0)), some (.int (nI 0)), some (.int (nI 1))]) (r := []) d_262_11 mo_262 ml_106 mz_179 rfl rfl rfl (Nat.le_of_ble_eq_true rfl) (s_lies (nI 0) (nI 0) (nI 1)) ?_
    show RR _ _ 14 [some (.ref 146), some (.int (nI j)), some (.int (nI 0)), none, none, none] [.int (bI ((nI 0) ≤ (nI 0) ∧ (nI 0) ≤ (nI 1)))] g A _
    refine rr_bne (t := 19) d_262_14 (by decide) (fun c14 => ?_) (fun c14 => ?_)
    · refine rr_nx (pc' := 20) (al' := [some (.ref 146), some (.int (nI j)), some (.int (nI 0)), none, none, none]) (st' := [.ref 146]) d_262_19 (fun _ => rfl) ?_
      refine rr_nx (pc' := 21) (al' := [some (.ref 146), some (.int (nI j)), some (.int (nI 0)), none, none, none]) (st' := [.int (nI j), .ref 146]) d_262_20 (fun _ => rfl) ?_
      refine rr_pv (as := [.int (nI j)]) (al0 := [some (.ref 146), some (.int (nI j)), none]) (r := []) d_262_21 mo_262 ml_248 mz_208 rfl rfl rfl (Nat.le_of_ble_eq_true rfl) (s_lays (n := m) hj hm6 hk) ?_
      obtain ⟨wl21, hwl21⟩ : ∃ w_, w_ = rf_f (fun q => A 1 (37 * j + 1 + q)) (A 4) (m * m) := ⟨_, rfl⟩
      rw [← hwl21]
      show RR _ _ 24 [some (.ref 146), some (.int (nI j)), some (.int (nI 0)), none, none, none] [] (upd g 6 (nI m)) (rf_u A 4 wl21) _
      have hcu := cur_l (g := g) hsh hm6 hl hwl21
      refine rr_dr (al1 := [some (.ref 146), none, some (.int (nI 0)), none, none, none]) (le_s (le_d rfl (le_s (le_s (le_s (le_s (le_n))))))) ?_
      refine rr_cq (rr_wk (by decide) (s_autos0_24 hcu)) ?_
      rintro r_ g_ A_ ⟨rfl, h1_, h2_⟩
      exact ⟨rfl, (hW.q ((Gsm.rf.u rfl).tr h1_) ((Ksm.rf.u rfl).tr h2_)).mo⟩
    · exact absurd (show nI 0 ≤ nI 0 ∧ nI 0 ≤ nI 1 by decide) c14
theorem p_autos1 {S : CS} {G : Nat → Nat → Value} {B : Nat → Nat → Int32} {J : Nat → Nat → Int64} {R : Nat → Nat → Option Nat} {n : Nat} {W : WS} (hW : WC n S G B R W) {j m : Nat} {c : Nat → Nat} (hj : j < 6) (htb : tbK (wK W) j = (m, c)) (h1 : 1 ≤ m) : CR 80 159 0 [some (.ref 2), some (.int (nI j)), some (.int (nI 1))] [] S G B J R (fun r S' G' B' J' R' => r = some (.int (nI (atN m c))) ∧ WC (n + 1) S' G' B' R' W) := by
  have hS := hW.1.1
  have hF := hW.2.1
  have hO := hW.2.2.2.1
  obtain ⟨ta, ka, la, hH, hLk, hl2, hs3, hbd⟩ := hW.2.2.1
  obtain ⟨zt, hzt, ezt⟩ := (hH.2.1 j hj).2
  have ht := hH.ta hj
  have hsh := hH.2.2.2.2.2.2.1 j hj
  rw [show kH (wK W) (kD (wK W)) j = (m, c) from htb] at hsh
  have hok := tb_ok hO hj
  rw [htb] at hok
  have hn : G (ta j) 0 = .int (nI m) := hsh.1
  have hc : TabC B (ta j) m c := hsh.c hok
  have hl : Lat m c := hok.2
  have hm6 : m ≤ 6 := hok.1
  have hyes : hasP (wK W) (nI j) := (has_i hj).mpr (by rw [htb]; exact h1)
  refine cr_nx (pc' := 1) (al' := [some (.ref 2), some (.int (nI j)), some (.int (nI 1))]) (st' := [.ref 2]) d_159_0 (fun _ => rfl) ?_
  refine cr_nx (pc' := 2) (al' := [some (.ref 2), some (.int (nI j)), some (.int (nI 1))]) (st' := [.int (nI j), .ref 2]) d_159_1 (fun _ => rfl) ?_
  refine cr_pv (b := 2) (as := [.int (nI j)]) (al0 := [some (.ref 2), some (.int (nI j))]) (r := []) d_159_2 cw_159 cm_11_137 cz_126 rfl rfl (hS.i (a := 2) (by decide) (by decide)) (by rw [cw_126]; exact (hS.s (a := 2) (by decide) (by decide) rfl)) (by rw [cw_126]; decide) rfl (Nat.le_of_ble_eq_true rfl) (k_has hS hF hH hO) ?_
  show CR _ _ 5 [some (.ref 2), some (.int (nI j)), some (.int (nI 1))] [.int (bI (hasP (wK W) (nI j)))] S G B J R _
  refine cr_bne (t := 10) d_159_5 (by decide) (fun c5 => ?_) (fun c5 => ?_)
  · refine cr_nx (pc' := 11) (al' := [some (.ref 2), some (.int (nI j)), some (.int (nI 1))]) (st' := [.int (nI 1)]) d_159_10 (fun _ => rfl) ?_
    refine cr_ls (off := 42) (t := 53) d_159_11 (by decide) (by decide) (by decide) ?_
    refine cr_nx (pc' := 54) (al' := [some (.ref 2), some (.int (nI j)), some (.int (nI 1))]) (st' := [.ref 2]) d_159_53 (fun _ => rfl) ?_
    refine cr_gf (v := .ref 133) d_159_54 cw_159 cf_11_79 (hS.i (a := 2) (by decide) (by decide)) (hS.s (a := 2) (by decide) (by decide) rfl) (by decide) (fx_2_13 hF) ?_
    refine cr_nx (pc' := 58) (al' := [some (.ref 2), some (.int (nI j)), some (.int (nI 1))]) (st' := [.ref 2, .ref 133]) d_159_57 (fun _ => rfl) ?_
    refine cr_gf (v := .ref 3) d_159_58 cw_159 cf_11_10 (hS.i (a := 2) (by decide) (by decide)) (hS.s (a := 2) (by decide) (by decide) rfl) (by decide) (fx_2_0 hF) ?_
    refine cr_gf (v := .ref 4) d_159_61 cw_159 cf_11_140 (hS.i (a := 3) (by decide) (by decide)) (hS.s (a := 3) (by decide) (by decide) rfl) (by decide) (fx_3_0 hF) ?_
    refine cr_nx (pc' := 65) (al' := [some (.ref 2), some (.int (nI j)), some (.int (nI 1))]) (st' := [.int (nI j), .ref 4, .ref 133]) d_159_64 (fun _ => rfl) ?_
    refine cr_aa (a := 4) (v := .ref (ta j)) d_159_65 (hS.i (a := 4) (by decide) (by decide)) (by decide) (hS.s (a := 4) (by decide) (by decide) rfl) (by decide) (show j < 6 by first | omega | assumption | exact cu_36 (by omega) (cu_lt (by omega) (by omega))) (show va_rf _ = _ by rw [(hH.2.1 j hj).1]; rfl) ?_
    refine cr_cv (b := 133) (as := [.ref (ta j)]) (al0 := [some (.ref 133), some (.ref (ta j)), none, none, none]) (r := []) d_159_66 cw_159 cm_11_315 cz_76 rfl rfl (hS.i (a := 133) (by decide) (by decide)) (by rw [cw_76]; exact (hS.s (a := 133) (by decide) (by decide) rfl)) (by rw [cw_76]; decide) rfl (cr_wk (Nat.le_of_ble_eq_true rfl) (k_autotopies hS hF ht hn hc hl h1 (by simp; omega))) (fun v1 S1 G1 B1 J1 R1 h1x => ?_)
    obtain ⟨q0_, q1_, q2_, q3_, q4_, hb1⟩ := h1x
    obtain rfl := q0_
    obtain rfl := q1_.symm
    obtain rfl := q2_.symm
    obtain rfl := q3_.symm
    obtain rfl := q4_.symm
    show CR _ _ 69 [some (.ref 2), some (.int (nI j)), some (.int (nI 1))] [.int (nI (atN m c))] S G B1 J R _
    exact cr_ri d_159_69 cx_159 rfl ⟨rfl, (hW.q hF Gfr.rf (hb1.mo (by decide))).mo⟩
  · exact absurd hyes c5
theorem r_autos1 {g : Nat → Int32} {A : Nat → Nat → Int32} {n : Nat} {W : WS} (hW : WR n g A W) (hO : CoOk (wK W)) {j m : Nat} {c : Nat → Nat} (hj : j < 6) (htb : tbK (wK W) j = (m, c)) (h1 : 1 ≤ m) : RR 80 262 0 [some (.ref 146), some (.int (nI j)), some (.int (nI 1)), none, none, none] [] g A (fun r g' A' => r = some (.int (nI (atN m c))) ∧ WR (n + 1) g' A' W) := by
  have hsh := hW.1.1.1 j hj
  rw [show kH (wK W) (kD (wK W)) j = (m, c) from htb] at hsh
  have hok := tb_ok hO hj
  rw [htb] at hok
  have hk : A 1 (37 * j) = nI m := hsh.1
  have hl : Lat m c := hok.2
  have hm6 : m ≤ 6 := hok.1
  have hyes : isT A (nI j) := (has_r hW hO).mpr ((has_i hj).mpr (by rw [htb]; exact h1))
  refine rr_nx (pc' := 1) (al' := [some (.ref 146), some (.int (nI j)), some (.int (nI 1)), none, none, none]) (st' := [.ref 146]) d_262_0 (fun _ => rfl) ?_
  refine rr_nx (pc' := 2) (al' := [some (.ref 146), some (.int (nI j)), some (.int (nI 1)), none, none, none]) (st' := [.int (nI j), .ref 146]) d_262_1 (fun _ => rfl) ?_
  refine rr_pv (as := [.int (nI j)]) (al0 := [some (.ref 146), some (.int (nI j))]) (r := []) d_262_2 mo_262 ml_124 mz_184 rfl rfl rfl (Nat.le_of_ble_eq_true rfl) (s_isTable (nI j)) ?_
  show RR _ _ 5 [some (.ref 146), some (.int (nI j)), some (.int (nI 1)), none, none, none] [.int (bI (isT A (nI j)))] g A _
  refine rr_beq (t := 17) d_262_5 (by decide) (fun c5 => ?_) (fun c5 => ?_)
  · exact absurd hyes c5
  · refine rr_nx (pc' := 9) (al' := [some (.ref 146), some (.int (nI j)), some (.int (nI 1)), none, none, none]) (st' := [.int (nI 1)]) d_262_8 (fun _ => rfl) ?_
    refine rn_ic (v := 0) d_262_9 (by decide) ?_
    refine rn_ic (v := 1) d_262_10 (by decide) ?_
    refine rr_ps (as := [.int (nI 1), .int (nI 0), .int (nI 1)]) (al0 := [some (.int (nI 1)), some (.int (nI 0)), some (.int (nI 1))]) (r := []) d_262_11 mo_262 ml_106 mz_179 rfl rfl rfl (Nat.le_of_ble_eq_true rfl) (s_lies (nI 1) (nI 0) (nI 1)) ?_
    show RR _ _ 14 [some (.ref 146), some (.int (nI j)), some (.int (nI 1)), none, none, none] [.int (bI ((nI 0) ≤ (nI 1) ∧ (nI 1) ≤ (nI 1)))] g A _
    refine rr_bne (t := 19) d_262_14 (by decide) (fun c14 => ?_) (fun c14 => ?_)
    · refine rr_nx (pc' := 20) (al' := [some (.ref 146), some (.int (nI j)), some (.int (nI 1)), none, none, none]) (st' := [.ref 146]) d_262_19 (fun _ => rfl) ?_
      refine rr_nx (pc' := 21) (al' := [some (.ref 146), some (.int (nI j)), some (.int (nI 1)), none, none, none]) (st' := [.int (nI j), .ref 146]) d_262_20 (fun _ => rfl) ?_
      refine rr_pv (as := [.int (nI j)]) (al0 := [some (.ref 146), some (.int (nI j)), none]) (r := []) d_262_21 mo_262 ml_248 mz_208 rfl rfl rfl (Nat.le_of_ble_eq_true rfl) (s_lays (n := m) hj hm6 hk) ?_
      obtain ⟨wl21, hwl21⟩ : ∃ w_, w_ = rf_f (fun q => A 1 (37 * j + 1 + q)) (A 4) (m * m) := ⟨_, rfl⟩
      rw [← hwl21]
      show RR _ _ 24 [some (.ref 146), some (.int (nI j)), some (.int (nI 1)), none, none, none] [] (upd g 6 (nI m)) (rf_u A 4 wl21) _
      have hcu := cur_l (g := g) hsh hm6 hl hwl21
      refine rr_dr (al1 := [some (.ref 146), none, some (.int (nI 1)), none, none, none]) (le_s (le_d rfl (le_s (le_s (le_s (le_s (le_n))))))) ?_
      refine rr_cq (rr_wk (by decide) (s_autos1_24 hcu hl h1)) ?_
      rintro r_ g_ A_ ⟨rfl, h1_, h2_⟩
      exact ⟨by rw [at_eq hm6 h1 hl], (hW.q ((Gsm.rf.u rfl).tr h1_) ((Ksm.rf.u rfl).tr h2_)).mo⟩
    · exact absurd (show nI 0 ≤ nI 1 ∧ nI 1 ≤ nI 1 by decide) c14
theorem p_autos_n {S : CS} {G : Nat → Nat → Value} {B : Nat → Nat → Int32} {J : Nat → Nat → Int64} {R : Nat → Nat → Option Nat} {n : Nat} {W : WS} (hW : WC n S G B R W) {t : Int32} (hh : ¬ hasP (wK W) t) {w : Int32} : CR 80 159 0 [some (.ref 2), some (.int t), some (.int w)] [] S G B J R (fun r S' G' B' J' R' => r = some (.int (-1)) ∧ WC (n + 1) S' G' B' R' W) := by
  have hS := hW.1.1
  have hF := hW.2.1
  have hO := hW.2.2.2.1
  obtain ⟨ta, ka, la, hH, hLk, hl2, hs3, hbd⟩ := hW.2.2.1
  refine cr_nx (pc' := 1) (al' := [some (.ref 2), some (.int t), some (.int w)]) (st' := [.ref 2]) d_159_0 (fun _ => rfl) ?_
  refine cr_nx (pc' := 2) (al' := [some (.ref 2), some (.int t), some (.int w)]) (st' := [.int t, .ref 2]) d_159_1 (fun _ => rfl) ?_
  refine cr_pv (b := 2) (as := [.int t]) (al0 := [some (.ref 2), some (.int t)]) (r := []) d_159_2 cw_159 cm_11_137 cz_126 rfl rfl (hS.i (a := 2) (by decide) (by decide)) (by rw [cw_126]; exact (hS.s (a := 2) (by decide) (by decide) rfl)) (by rw [cw_126]; decide) rfl (Nat.le_of_ble_eq_true rfl) (k_has hS hF hH hO) ?_
  show CR _ _ 5 [some (.ref 2), some (.int t), some (.int w)] [.int (bI (hasP (wK W) t))] S G B J R _
  refine cr_bne (t := 10) d_159_5 (by decide) (fun c5 => ?_) (fun c5 => ?_)
  · exact absurd c5 hh
  · refine cr_nx (pc' := 9) (al' := [some (.ref 2), some (.int t), some (.int w)]) (st' := [.int (-1)]) d_159_8 (fun _ => rfl) ?_
    exact cr_ri d_159_9 cx_159 rfl ⟨rfl, hW.mo⟩
theorem r_autos_n {g : Nat → Int32} {A : Nat → Nat → Int32} {n : Nat} {W : WS} (hW : WR n g A W) (hO : CoOk (wK W)) {t : Int32} (hh : ¬ hasP (wK W) t) {w : Int32} : RR 80 262 0 [some (.ref 146), some (.int t), some (.int w), none, none, none] [] g A (fun r g' A' => r = some (.int (-1)) ∧ WR (n + 1) g' A' W) := by
  refine rr_nx (pc' := 1) (al' := [some (.ref 146), some (.int t), some (.int w), none, none, none]) (st' := [.ref 146]) d_262_0 (fun _ => rfl) ?_
  refine rr_nx (pc' := 2) (al' := [some (.ref 146), some (.int t), some (.int w), none, none, none]) (st' := [.int t, .ref 146]) d_262_1 (fun _ => rfl) ?_
  refine rr_pv (as := [.int t]) (al0 := [some (.ref 146), some (.int t)]) (r := []) d_262_2 mo_262 ml_124 mz_184 rfl rfl rfl (Nat.le_of_ble_eq_true rfl) (s_isTable t) ?_
  show RR _ _ 5 [some (.ref 146), some (.int t), some (.int w), none, none, none] [.int (bI (isT A t))] g A _
  refine rr_beq (t := 17) d_262_5 (by decide) (fun c5 => ?_) (fun c5 => ?_)
  · refine rr_nx (pc' := 18) (al' := [some (.ref 146), some (.int t), some (.int w), none, none, none]) (st' := [.int (-1)]) d_262_17 (fun _ => rfl) ?_
    exact rr_ri d_262_18 mr_262 rfl ⟨rfl, hW.mo⟩
  · exact absurd c5 (fun e_ => hh ((has_r hW hO).mp e_))
theorem T_autos {S : CS} {G : Nat → Nat → Value} {B : Nat → Nat → Int32} {J : Nat → Nat → Int64} {R : Nat → Nat → Option Nat} {g : Nat → Int32} {A : Nat → Nat → Int32} {n : Nat} {W : WS} (hC : WC n S G B R W) (hR : WR n g A W) (hn : n ≤ 10000) {t : Int32} {w : Int32} : Tie n 159 262 [some (.ref 2), some (.int t), some (.int w)] [some (.ref 146), some (.int t), some (.int w), none, none, none] S G B J R g A W := by
  have hO := hC.2.2.2.1
  by_cases hh : hasP (wK W) t
  · obtain ⟨j, hj, e_, h1⟩ := has_n hh
    subst e_
    obtain ⟨⟨m, c⟩, htb⟩ : ∃ tb, tbK (wK W) j = tb := ⟨_, rfl⟩
    rw [htb] at h1
    by_cases hw : inP w 2
    · obtain ⟨k, hk, e_⟩ := in_n hw
      subst e_
      have hk2 : k = 0 ∨ k = 1 := by omega
      rcases hk2 with rfl | rfl
      · exact ⟨_, W, p_autos0 hC hj htb h1, r_autos0 hR hO hj htb h1⟩
      · exact ⟨_, W, p_autos1 hC hj htb h1, r_autos1 hR hO hj htb h1⟩
    · exact ⟨_, W, p_autosX hC hj htb h1 hw, r_autosX hR hO hj htb h1 hw⟩
  · exact ⟨_, W, p_autos_n hC hh, r_autos_n hR hO hh⟩
