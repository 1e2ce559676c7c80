/-! Theory: injective and onto, latin tables, tables made of others. -/
theorem php_inj : ∀ {n : Nat} {f : Nat → Nat}, (∀ i, i < n → f i < n) → (∀ i j, i < n → j < n → f i = f j → i = j) → ∀ v, v < n → ∃ i, i < n ∧ f i = v
  | 0, _, _, _, v, hv => absurd hv (Nat.not_lt_zero v)
  | n + 1, f, hb, hi, v, hv => by
    have hg : ∀ i, i < n → (if f i = n then f n else f i) < n := by
      intro i h
      have h1 := hb i (by omega)
      have h2 := hb n (by omega)
      by_cases e : f i = n
      · rw [if_pos e]
        have : f n ≠ n := fun q => by
          have := hi i n (by omega) (by omega) (by omega)
          omega
        omega
      · rw [if_neg e]
        omega
    have hj : ∀ i j, i < n → j < n → (if f i = n then f n else f i) = (if f j = n then f n else f j) → i = j := by
      intro i j h1 h2 h
      by_cases e : f i = n <;> by_cases e2 : f j = n
      · exact hi i j (by omega) (by omega) (by omega)
      · rw [if_pos e, if_neg e2] at h
        have := hi n j (by omega) (by omega) h
        omega
      · rw [if_neg e, if_pos e2] at h
        have := hi i n (by omega) (by omega) h
        omega
      · rw [if_neg e, if_neg e2] at h
        exact hi i j (by omega) (by omega) h
    have ih := php_inj (n := n) (f := fun i => if f i = n then f n else f i) hg hj
    by_cases hw : v = f n
    · exact ⟨n, by omega, hw.symm⟩
    · by_cases hvn : v = n
      · have hfn := hb n (by omega)
        obtain ⟨i, h1, h2⟩ := ih (f n) (by omega)
        have h3 : (if f i = n then f n else f i) = f n := h2
        by_cases e : f i = n
        · exact ⟨i, by omega, by omega⟩
        · rw [if_neg e] at h3
          have := hi i n (by omega) (by omega) h3
          omega
      · obtain ⟨i, h1, h2⟩ := ih v (by omega)
        have h3 : (if f i = n then f n else f i) = v := h2
        by_cases e : f i = n
        · rw [if_pos e] at h3
          exact absurd h3.symm hw
        · rw [if_neg e] at h3
          exact ⟨i, by omega, h3⟩
theorem php_surj {n : Nat} {f : Nat → Nat} (hb : ∀ i, i < n → f i < n) (hs : ∀ v, v < n → ∃ i, i < n ∧ f i = v) : ∀ i j, i < n → j < n → f i = f j → i = j := by
  have hh : ∀ v, v < n → FX (fun i => decide (f i = v)) n < n ∧ f (FX (fun i => decide (f i = v)) n) = v := by
    intro v hv
    obtain ⟨i, h1, h2⟩ := hs v hv
    have h3 := FX_lt (p := fun i => decide (f i = v)) h1 (decide_eq_true h2)
    exact ⟨h3, of_decide_eq_true (FX_yes (fun i => decide (f i = v)) n h3)⟩
  have hinj : ∀ v w, v < n → w < n → FX (fun i => decide (f i = v)) n = FX (fun i => decide (f i = w)) n → v = w := by
    intro v w hv hw e
    have h1 := (hh v hv).2
    rw [e, (hh w hw).2] at h1
    exact h1.symm
  have hsur := php_inj (f := fun v => FX (fun i => decide (f i = v)) n) (fun v hv => (hh v hv).1) hinj
  intro i j hi hj e
  obtain ⟨v, hv, h1⟩ := hsur i hi
  obtain ⟨w, hw, h2⟩ := hsur j hj
  have e1 : FX (fun i => decide (f i = v)) n = i := h1
  have e2 : FX (fun i => decide (f i = w)) n = j := h2
  have h3 := (hh v hv).2
  have h4 := (hh w hw).2
  rw [e1] at h3
  rw [e2] at h4
  have : v = w := by omega
  subst this
  omega
/-- a place in a row of n -/
theorem dm_d {n x y : Nat} (hy : y < n) : (n * x + y) / n = x := by
  rw [Nat.mul_add_div (by omega), Nat.div_eq_of_lt hy, Nat.add_zero]
theorem dm_m {n x y : Nat} (hy : y < n) : (n * x + y) % n = y := by
  rw [Nat.mul_add_mod, Nat.mod_eq_of_lt hy]
theorem dm_q {n q : Nat} : n * (q / n) + q % n = q := Nat.div_add_mod q n
theorem dm_dl {n q : Nat} (h : q < n * n) : q / n < n := Nat.div_lt_of_lt_mul h
theorem dm_ml {n q : Nat} (h : q < n * n) : q % n < n := Nat.mod_lt _ (by
  rcases Nat.eq_zero_or_pos n with h0 | h0
  · subst h0
    omega
  · exact h0)
theorem dm_i {n x y u v : Nat} (hy : y < n) (hv : v < n) (h : n * x + y = n * u + v) : x = u ∧ y = v := by
  have h1 := dm_d (x := x) hy
  have h2 := dm_d (x := u) hv
  have h3 := dm_m (x := x) hy
  have h4 := dm_m (x := u) hv
  rw [h] at h1 h3
  exact ⟨by omega, by omega⟩
/-- a latin table: order n, cells c -/
def Lat (n : Nat) (c : Nat → Nat) : Prop := (∀ q, q < n * n → c q < n) ∧ (∀ x y z, x < n → y < n → z < n → c (n * x + y) = c (n * x + z) → y = z) ∧ (∀ x y z, x < n → y < n → z < n → c (n * x + z) = c (n * y + z) → x = y)
theorem Lat.b {n : Nat} {c : Nat → Nat} (h : Lat n c) {x y : Nat} (hx : x < n) (hy : y < n) : c (n * x + y) < n := h.1 _ (cu_lt hx hy)
theorem Lat.u {n : Nat} {c : Nat → Nat} (h : Lat n c) {x v : Nat} (hx : x < n) (hv : v < n) : undI n c x v < n ∧ c (n * x + undI n c x v) = v := by
  obtain ⟨z, hz, e⟩ := php_inj (f := fun y => c (n * x + y)) (fun y hy => h.b hx hy) (fun y z hy hz e => h.2.1 x y z hx hy hz e) v hv
  have h3 := FX_lt (p := fun z => decide (c (n * x + z) = v)) hz (decide_eq_true e)
  exact ⟨h3, of_decide_eq_true (FX_yes (fun z => decide (c (n * x + z) = v)) n h3)⟩
theorem Lat.o {n : Nat} {c : Nat → Nat} (h : Lat n c) {x v : Nat} (hx : x < n) (hv : v < n) : ovrI n c v x < n ∧ c (n * ovrI n c v x + x) = v := by
  obtain ⟨z, hz, e⟩ := php_inj (f := fun y => c (n * y + x)) (fun y hy => h.b hy hx) (fun y z hy hz e => h.2.2 y z x hy hz hx e) v hv
  have h3 := FX_lt (p := fun z => decide (c (n * z + x) = v)) hz (decide_eq_true e)
  exact ⟨h3, of_decide_eq_true (FX_yes (fun z => decide (c (n * z + x) = v)) n h3)⟩
theorem Lat.uc {n : Nat} {c : Nat → Nat} (h : Lat n c) {x y : Nat} (hx : x < n) (hy : y < n) : undI n c x (c (n * x + y)) = y := by
  have h1 := h.u hx (h.b hx hy)
  exact h.2.1 x _ y hx h1.1 hy h1.2
theorem Lat.oc {n : Nat} {c : Nat → Nat} (h : Lat n c) {x y : Nat} (hx : x < n) (hy : y < n) : ovrI n c (c (n * x + y)) y = x := by
  have h1 := h.o hy (h.b hx hy)
  exact h.2.2 _ x y h1.1 hx hy h1.2
theorem Lat.un {n : Nat} {c : Nat → Nat} (x v : Nat) : ∀ z, z < undI n c x v → ¬ c (n * x + z) = v := fun z hz => of_decide_eq_false (FX_no _ n z hz)
theorem Lat.on {n : Nat} {c : Nat → Nat} (x v : Nat) : ∀ z, z < ovrI n c v x → ¬ c (n * z + x) = v := fun z hz => of_decide_eq_false (FX_no _ n z hz)
/-- cells that agree make one table -/
theorem Lat.cg {n : Nat} {c d : Nat → Nat} (h : Lat n c) (e : ∀ q, q < n * n → d q = c q) : Lat n d := by
  refine ⟨fun q hq => by rw [e q hq]; exact h.1 q hq, fun x y z hx hy hz q => ?_, fun x y z hx hy hz q => ?_⟩
  · rw [e _ (cu_lt hx hy), e _ (cu_lt hx hz)] at q
    exact h.2.1 x y z hx hy hz q
  · rw [e _ (cu_lt hx hz), e _ (cu_lt hy hz)] at q
    exact h.2.2 x y z hx hy hz q
/-- rows and columns onto: enough -/
theorem Lat.mk' {n : Nat} {c : Nat → Nat} (hb : ∀ q, q < n * n → c q < n) (hr : ∀ x v, x < n → v < n → ∃ y, y < n ∧ c (n * x + y) = v) (hl : ∀ y v, y < n → v < n → ∃ x, x < n ∧ c (n * x + y) = v) : Lat n c :=
  ⟨hb, fun x y z hx hy hz e => php_surj (f := fun y => c (n * x + y)) (fun y hy => hb _ (cu_lt hx hy)) (fun v hv => hr x v hx hv) y z hy hz e, fun x y z hx hy hz e => php_surj (f := fun x => c (n * x + z)) (fun x hx => hb _ (cu_lt hx hz)) (fun v hv => hl z v hz hv) x y hx hy e⟩
/-- tables of tables -/
def cyN (n q : Nat) : Nat := (q / n + q % n) % n
theorem cyN_lat {n : Nat} (h : 0 < n) : Lat n (cyN n) := by
  have key : ∀ x y, x < n → y < n → cyN n (n * x + y) = (x + y) % n := fun x y _ hy => by unfold cyN; rw [dm_d hy, dm_m hy]
  have inj : ∀ x y z, x < n → y < n → z < n → (x + y) % n = (x + z) % n → y = z := by
    intro x y z hx hy hz e
    have h1 : ∀ s, s < n + n → s % n = if s < n then s else s - n := by
      intro s hs
      by_cases q : s < n
      · rw [if_pos q, Nat.mod_eq_of_lt q]
      · rw [if_neg q, Nat.mod_eq_sub_mod (by omega), Nat.mod_eq_of_lt (by omega)]
    rw [h1 _ (by omega), h1 _ (by omega)] at e
    split at e <;> split at e <;> omega
  refine ⟨fun q _ => Nat.mod_lt _ h, fun x y z hx hy hz e => ?_, fun x y z hx hy hz e => ?_⟩
  · rw [key x y hx hy, key x z hx hz] at e
    exact inj x y z hx hy hz e
  · rw [key x z hx hz, key y z hy hz, Nat.add_comm x, Nat.add_comm y] at e
    exact inj z x y hz hx hy e
def isN (n : Nat) (c : Nat → Nat) (a b q : Nat) : Nat := c (n * ovrI n c (q / n) b + undI n c a (q % n))
theorem isN_at {n : Nat} {c : Nat → Nat} {a b x y : Nat} (hy : y < n) : isN n c a b (n * x + y) = c (n * ovrI n c x b + undI n c a y) := by unfold isN; rw [dm_d hy, dm_m hy]
theorem isN_lat {n : Nat} {c : Nat → Nat} (h : Lat n c) {a b : Nat} (ha : a < n) (hb : b < n) : Lat n (isN n c a b) := by
  apply Lat.mk'
  · intro q hq
    exact h.b (h.o hb (dm_dl hq)).1 (h.u ha (dm_ml hq)).1
  · intro x v hx hv
    have h1 := h.o hb hx
    have h2 := h.u h1.1 hv
    refine ⟨c (n * a + undI n c (ovrI n c x b) v), h.b ha h2.1, ?_⟩
    rw [isN_at (h.b ha h2.1), h.uc ha h2.1]
    exact h2.2
  · intro y v hy hv
    have h1 := h.u ha hy
    have h2 := h.o h1.1 hv
    refine ⟨c (n * ovrI n c v (undI n c a y) + b), h.b h2.1 hb, ?_⟩
    rw [isN_at hy, h.oc h2.1 hb]
    exact h2.2
/-- conjugates -/
def cjN (w n : Nat) (c : Nat → Nat) (q : Nat) : Nat := match w with
  | 0 => c q
  | 1 => c (n * (q % n) + q / n)
  | 2 => undI n c (q / n) (q % n)
  | 3 => undI n c (q % n) (q / n)
  | 4 => ovrI n c (q % n) (q / n)
  | _ => ovrI n c (q / n) (q % n)
/-- where a cell goes, and what comes there -/
def cjI (w n x y z : Nat) : Nat := match w with
  | 0 => n * x + y
  | 1 => n * y + x
  | 2 => n * x + z
  | 3 => n * z + x
  | 4 => n * y + z
  | _ => n * z + y
def cjV (w x y z : Nat) : Nat := match w with
  | 0 => z
  | 1 => z
  | 2 => y
  | 3 => y
  | 4 => x
  | _ => x
theorem cj_at {w n : Nat} {c : Nat → Nat} (h : Lat n c) {x y : Nat} (hx : x < n) (hy : y < n) : cjN w n c (cjI w n x y (c (n * x + y))) = cjV w x y (c (n * x + y)) := by
  have hz := h.b hx hy
  match w with
  | 0 => rfl
  | 1 => show c (n * ((n * y + x) % n) + (n * y + x) / n) = _; rw [dm_d hx, dm_m hx]; rfl
  | 2 => show undI n c ((n * x + _) / n) ((n * x + _) % n) = _; rw [dm_d hz, dm_m hz]; exact h.uc hx hy
  | 3 => show undI n c ((n * _ + x) % n) ((n * _ + x) / n) = _; rw [dm_d hx, dm_m hx]; exact h.uc hx hy
  | 4 => show ovrI n c ((n * y + _) % n) ((n * y + _) / n) = _; rw [dm_d hz, dm_m hz]; exact h.oc hx hy
  | _ + 5 => show ovrI n c ((n * _ + y) / n) ((n * _ + y) % n) = _; rw [dm_d hy, dm_m hy]; exact h.oc hx hy
theorem cj_lt {w n : Nat} {c : Nat → Nat} (h : Lat n c) {x y : Nat} (hx : x < n) (hy : y < n) : cjI w n x y (c (n * x + y)) < n * n := by
  have hz := h.b hx hy
  match w with
  | 0 => exact cu_lt hx hy
  | 1 => exact cu_lt hy hx
  | 2 => exact cu_lt hx hz
  | 3 => exact cu_lt hz hx
  | 4 => exact cu_lt hy hz
  | _ + 5 => exact cu_lt hz hy
/-- each cell is come to -/
theorem cj_on {w n : Nat} {c : Nat → Nat} (h : Lat n c) {q : Nat} (hq : q < n * n) : ∃ x y, x < n ∧ y < n ∧ cjI w n x y (c (n * x + y)) = q := by
  have h1 := dm_dl hq
  have h2 := dm_ml hq
  have e : n * (q / n) + q % n = q := dm_q
  match w with
  | 0 => exact ⟨q / n, q % n, h1, h2, e⟩
  | 1 => exact ⟨q % n, q / n, h2, h1, e⟩
  | 2 => exact ⟨q / n, undI n c (q / n) (q % n), h1, (h.u h1 h2).1, by show n * _ + c _ = q; rw [(h.u h1 h2).2]; exact e⟩
  | 3 => exact ⟨q % n, undI n c (q % n) (q / n), h2, (h.u h2 h1).1, by show n * c _ + _ = q; rw [(h.u h2 h1).2]; exact e⟩
  | 4 => exact ⟨ovrI n c (q % n) (q / n), q / n, (h.o h1 h2).1, h1, by show n * _ + c _ = q; rw [(h.o h1 h2).2]; exact e⟩
  | _ + 5 => exact ⟨ovrI n c (q / n) (q % n), q % n, (h.o h2 h1).1, h2, by show n * c _ + _ = q; rw [(h.o h2 h1).2]; exact e⟩
theorem cj_lat {w n : Nat} {c : Nat → Nat} (h : Lat n c) : Lat n (cjN w n c) := by
  have at_ := fun {x y : Nat} (hx : x < n) (hy : y < n) => cj_at (w := w) h hx hy
  have b : ∀ q, q < n * n → cjN w n c q < n := by
    intro q hq
    obtain ⟨x, y, hx, hy, e⟩ := cj_on (w := w) h hq
    rw [← e, at_ hx hy]
    have hz := h.b hx hy
    match w with
    | 0 => exact hz
    | 1 => exact hz
    | 2 => exact hy
    | 3 => exact hy
    | 4 => exact hx
    | _ + 5 => exact hx
  apply Lat.mk' b
  · intro u v hu hv
    match w with
    | 0 => exact ⟨undI n c u v, (h.u hu hv).1, (h.u hu hv).2⟩
    | 1 =>
      have e := at_ (x := ovrI n c v u) (y := u) (h.o hu hv).1 hu
      exact ⟨ovrI n c v u, (h.o hu hv).1, by rw [(h.o hu hv).2] at e; exact e⟩
    | 2 => exact ⟨c (n * u + v), h.b hu hv, at_ hu hv⟩
    | 3 =>
      have e := at_ (x := ovrI n c u v) (y := v) (h.o hv hu).1 hv
      exact ⟨ovrI n c u v, (h.o hv hu).1, by rw [(h.o hv hu).2] at e; exact e⟩
    | 4 => exact ⟨c (n * v + u), h.b hv hu, at_ hv hu⟩
    | _ + 5 =>
      have e := at_ (x := v) (y := undI n c v u) hv (h.u hv hu).1
      exact ⟨undI n c v u, (h.u hv hu).1, by rw [(h.u hv hu).2] at e; exact e⟩
  · intro u v hu hv
    match w with
    | 0 => exact ⟨ovrI n c v u, (h.o hu hv).1, (h.o hu hv).2⟩
    | 1 =>
      have e := at_ (x := u) (y := undI n c u v) hu (h.u hu hv).1
      exact ⟨undI n c u v, (h.u hu hv).1, by rw [(h.u hu hv).2] at e; exact e⟩
    | 2 =>
      have e := at_ (x := ovrI n c u v) (y := v) (h.o hv hu).1 hv
      exact ⟨ovrI n c u v, (h.o hv hu).1, by rw [(h.o hv hu).2] at e; exact e⟩
    | 3 => exact ⟨c (n * u + v), h.b hu hv, at_ hu hv⟩
    | 4 =>
      have e := at_ (x := v) (y := undI n c v u) hv (h.u hv hu).1
      exact ⟨undI n c v u, (h.u hv hu).1, by rw [(h.u hv hu).2] at e; exact e⟩
    | _ + 5 => exact ⟨c (n * v + u), h.b hv hu, at_ hv hu⟩
