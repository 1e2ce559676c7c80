/-! Laws: tokens, the reader as a function; printed by wip/whole/gen_b21.py. -/
def isS (b : Nat) : Bool := decide (97 ≤ b ∧ b ≤ 122)
def isDg (b : Nat) : Bool := decide (48 ≤ b ∧ b ≤ 57)
/-- behind blanks -/
def skp (t : Nat → Nat) (len p : Nat) : Nat := p + FX (fun i => decide (¬ t (p + i) = 32)) (len - p)
def rnS (t : Nat → Nat) (len p : Nat) : Nat := p + FX (fun i => !isS (t (p + i))) (len - p)
def rnD (t : Nat → Nat) (len p : Nat) : Nat := p + FX (fun i => !isDg (t (p + i))) (len - p)
/-- where a token ends: the class's, the reference's -/
def enC (t : Nat → Nat) (len p : Nat) : Nat := if p < len then (if isS (t p) = true then rnS t len p else p + 1) else len
def enR (t : Nat → Nat) (len p : Nat) : Nat := if p < len then (if isS (t p) = true then rnS t len p else if isDg (t p) = true then rnD t len p else p + 1) else len
/-- words -/
def wdN (t : Nat → Nat) (p e : Nat) : Nat := if e = p + 1 then (if t p = 120 then 1 else if t p = 121 then 2 else if t p = 122 then 3 else if t p = 101 then 4 else 0) else if e = p + 2 ∧ t p = 105 ∧ t (p + 1) = 102 then 5 else 0
def cdR (t : Nat → Nat) (p e : Nat) : Nat := if isS (t p) = true then wdN t p e else if isDg (t p) = true then 90 else 100 + t p
def kdS (b : Nat) : Nat := if b = 120 then 0 else if b = 121 then 1 else if b = 122 then 2 else if b = 101 then 3 else if b = 42 then 4 else if b = 47 then 5 else if b = 92 then 6 else if b = 61 then 7 else if b = 44 then 8 else if b = 40 then 10 else if b = 41 then 11 else 13
def kdT (t : Nat → Nat) (len p : Nat) : Nat := if p < len then (if enC t len p = p + 1 then kdS (t p) else if enC t len p = p + 2 ∧ t p = 105 ∧ t (p + 1) = 102 then 9 else 13) else 12
/-- the class's kind for the reference's code -/
def kdC (k : Nat) : Nat := if k = 1 then 0 else if k = 2 then 1 else if k = 3 then 2 else if k = 4 then 3 else if k = 5 then 9 else if k = 142 then 4 else if k = 147 then 5 else if k = 192 then 6 else if k = 161 then 7 else if k = 144 then 8 else if k = 140 then 10 else if k = 141 then 11 else 13
theorem skp_f {t : Nat → Nat} {len p : Nat} (hp : p ≤ len) : p ≤ skp t len p ∧ skp t len p ≤ len ∧ (∀ q, p ≤ q → q < skp t len p → t q = 32) ∧ (skp t len p < len → ¬ t (skp t len p) = 32) := by
  unfold skp
  have h1 := FX_le (fun i => decide (¬ t (p + i) = 32)) (len - p)
  refine ⟨by omega, by omega, fun q h2 h3 => ?_, fun h => ?_⟩
  · have := of_decide_eq_false (FX_no (fun i => decide (¬ t (p + i) = 32)) (len - p) (q - p) (by omega))
    rw [show p + (q - p) = q by omega] at this
    exact Decidable.not_not.mp this
  · exact of_decide_eq_true (FX_yes (fun i => decide (¬ t (p + i) = 32)) (len - p) (by omega))
theorem rnS_f {t : Nat → Nat} {len p : Nat} (hp : p ≤ len) : p ≤ rnS t len p ∧ rnS t len p ≤ len ∧ (∀ q, p ≤ q → q < rnS t len p → isS (t q) = true) ∧ (rnS t len p < len → isS (t (rnS t len p)) = false) := by
  unfold rnS
  have h1 := FX_le (fun i => !isS (t (p + i))) (len - p)
  refine ⟨by omega, by omega, fun q h2 h3 => ?_, fun h => ?_⟩
  · have := FX_no (fun i => !isS (t (p + i))) (len - p) (q - p) (by omega)
    rw [show p + (q - p) = q by omega] at this
    simpa using this
  · have := FX_yes (fun i => !isS (t (p + i))) (len - p) (by omega)
    simpa using this
theorem rnD_f {t : Nat → Nat} {len p : Nat} (hp : p ≤ len) : p ≤ rnD t len p ∧ rnD t len p ≤ len ∧ (∀ q, p ≤ q → q < rnD t len p → isDg (t q) = true) ∧ (rnD t len p < len → isDg (t (rnD t len p)) = false) := by
  unfold rnD
  have h1 := FX_le (fun i => !isDg (t (p + i))) (len - p)
  refine ⟨by omega, by omega, fun q h2 h3 => ?_, fun h => ?_⟩
  · have := FX_no (fun i => !isDg (t (p + i))) (len - p) (q - p) (by omega)
    rw [show p + (q - p) = q by omega] at this
    simpa using this
  · have := FX_yes (fun i => !isDg (t (p + i))) (len - p) (by omega)
    simpa using this
/-- what a run of letters is, told from outside -/
theorem rnS_u {t : Nat → Nat} {len p e : Nat} (h1 : p ≤ e) (h2 : e ≤ len) (h3 : ∀ q, p ≤ q → q < e → isS (t q) = true) (h4 : e < len → isS (t e) = false) : rnS t len p = e := by
  obtain ⟨a1, a2, a3, a4⟩ := rnS_f (t := t) (len := len) (p := p) (by omega)
  rcases Nat.lt_trichotomy (rnS t len p) e with q | q | q
  · have := h3 _ a1 q
    rw [a4 (by omega)] at this
    cases this
  · exact q
  · have := a3 e h1 q
    rw [h4 (by omega)] at this
    cases this
theorem rnD_u {t : Nat → Nat} {len p e : Nat} (h1 : p ≤ e) (h2 : e ≤ len) (h3 : ∀ q, p ≤ q → q < e → isDg (t q) = true) (h4 : e < len → isDg (t e) = false) : rnD t len p = e := by
  obtain ⟨a1, a2, a3, a4⟩ := rnD_f (t := t) (len := len) (p := p) (by omega)
  rcases Nat.lt_trichotomy (rnD t len p) e with q | q | q
  · have := h3 _ a1 q
    rw [a4 (by omega)] at this
    cases this
  · exact q
  · have := a3 e h1 q
    rw [h4 (by omega)] at this
    cases this
theorem rnS_gt {t : Nat → Nat} {len p : Nat} (hp : p < len) (h : isS (t p) = true) : p < rnS t len p := by
  obtain ⟨a1, a2, a3, a4⟩ := rnS_f (t := t) (len := len) (p := p) (by omega)
  rcases Nat.lt_or_ge p (rnS t len p) with q | q
  · exact q
  · have e : rnS t len p = p := by omega
    have := a4 (by omega)
    rw [e, h] at this
    cases this
theorem rnD_gt {t : Nat → Nat} {len p : Nat} (hp : p < len) (h : isDg (t p) = true) : p < rnD t len p := by
  obtain ⟨a1, a2, a3, a4⟩ := rnD_f (t := t) (len := len) (p := p) (by omega)
  rcases Nat.lt_or_ge p (rnD t len p) with q | q
  · exact q
  · have e : rnD t len p = p := by omega
    have := a4 (by omega)
    rw [e, h] at this
    cases this
theorem enR_f {t : Nat → Nat} {len p : Nat} (hp : p < len) : p < enR t len p ∧ enR t len p ≤ len := by
  unfold enR
  rw [if_pos hp]
  by_cases h1 : isS (t p) = true
  · rw [if_pos h1]
    exact ⟨rnS_gt hp h1, (rnS_f (by omega)).2.1⟩
  · rw [if_neg h1]
    by_cases h2 : isDg (t p) = true
    · rw [if_pos h2]
      exact ⟨rnD_gt hp h2, (rnD_f (by omega)).2.1⟩
    · rw [if_neg h2]
      omega
theorem enC_f {t : Nat → Nat} {len p : Nat} (hp : p ≤ len) : p ≤ enC t len p ∧ enC t len p ≤ len ∧ (p < len → p < enC t len p) := by
  unfold enC
  split
  next h =>
    split
    next h1 => exact ⟨by have := rnS_gt h h1; omega, (rnS_f (by omega)).2.1, fun _ => rnS_gt h h1⟩
    next h1 => omega
  next h => omega
/-- the places of the tokens -/
def tkP (t : Nat → Nat) (len : Nat) : Nat → Nat
  | 0 => skp t len 0
  | j + 1 => skp t len (enR t len (tkP t len j))
theorem tkP_le {t : Nat → Nat} {len : Nat} : ∀ j, tkP t len j ≤ len
  | 0 => (skp_f (Nat.zero_le _)).2.1
  | j + 1 => by
    have h := tkP_le (t := t) (len := len) j
    refine (skp_f ?_).2.1
    rcases Nat.lt_or_ge (tkP t len j) len with q | q
    · exact (enR_f q).2
    · unfold enR
      rw [if_neg (by omega)]
      exact Nat.le_refl _
theorem tkP_ge {t : Nat → Nat} {len : Nat} : ∀ j, j ≤ tkP t len j ∨ tkP t len j = len
  | 0 => Or.inl (Nat.zero_le _)
  | j + 1 => by
    have hle := tkP_le (t := t) (len := len) j
    rcases Nat.lt_or_ge (tkP t len j) len with q | q
    · have h1 := enR_f (t := t) q
      have h2 := (skp_f (t := t) h1.2).1
      rcases tkP_ge (t := t) (len := len) j with r | r
      · left
        show j + 1 ≤ skp t len (enR t len (tkP t len j))
        omega
      · omega
    · right
      have e : tkP t len j = len := by omega
      show skp t len (enR t len (tkP t len j)) = len
      have : enR t len (tkP t len j) = len := by unfold enR; rw [if_neg (by omega)]
      rw [this]
      have := skp_f (t := t) (len := len) (p := len) (Nat.le_refl _)
      omega
/-- how many tokens -/
def tkN (t : Nat → Nat) (len : Nat) : Nat := FX (fun j => decide (tkP t len j = len)) len
theorem tkN_f {t : Nat → Nat} {len : Nat} : tkN t len ≤ len ∧ (∀ j, j < tkN t len → tkP t len j < len) ∧ tkP t len (tkN t len) = len := by
  unfold tkN
  have h1 := FX_le (fun j => decide (tkP t len j = len)) len
  refine ⟨h1, fun j hj => ?_, ?_⟩
  · have := of_decide_eq_false (FX_no (fun j => decide (tkP t len j = len)) len j hj)
    have := tkP_le (t := t) (len := len) j
    omega
  · rcases Nat.lt_or_ge (FX (fun j => decide (tkP t len j = len)) len) len with q | q
    · exact of_decide_eq_true (FX_yes (fun j => decide (tkP t len j = len)) len q)
    · have e : FX (fun j => decide (tkP t len j = len)) len = len := by omega
      rw [e]
      have := tkP_le (t := t) (len := len) len
      rcases tkP_ge (t := t) (len := len) len with r | r
      · omega
      · exact r
/-- the code of the j-th token; 0 at the end -/
def tkC (t : Nat → Nat) (len j : Nat) : Nat := if tkP t len j < len then cdR t (tkP t len j) (enR t len (tkP t len j)) else 0
theorem kd_cd {t : Nat → Nat} {len p : Nat} (hp : p < len) : kdT t len p = kdC (cdR t p (enR t len p)) := by
  unfold kdT
  rw [if_pos hp]
  unfold enC enR
  rw [if_pos hp, if_pos hp]
  by_cases h1 : isS (t p) = true
  · rw [if_pos h1, if_pos h1]
    unfold cdR
    rw [if_pos h1]
    unfold wdN
    have hb : 97 ≤ t p ∧ t p ≤ 122 := of_decide_eq_true h1
    by_cases e1 : rnS t len p = p + 1
    · rw [if_pos e1, if_pos e1]
      unfold kdS
      by_cases a1 : t p = 120
      · simp [a1, kdC]
      · by_cases a2 : t p = 121
        · simp [a2, kdC]
        · by_cases a3 : t p = 122
          · simp [a3, kdC]
          · by_cases a4 : t p = 101
            · simp [a4, kdC]
            · rw [if_neg a1, if_neg a2, if_neg a3, if_neg a4, if_neg (by omega), if_neg (by omega), if_neg (by omega), if_neg (by omega), if_neg (by omega), if_neg (by omega), if_neg (by omega), if_neg a1, if_neg a2, if_neg a3, if_neg a4]
              rfl
    · rw [if_neg e1, if_neg e1]
      by_cases e2 : rnS t len p = p + 2 ∧ t p = 105 ∧ t (p + 1) = 102
      · rw [if_pos e2, if_pos e2]
        rfl
      · rw [if_neg e2, if_neg e2]
        rfl
  · rw [if_neg h1, if_neg h1, if_pos rfl]
    unfold cdR
    rw [if_neg h1]
    have hb : ¬ (97 ≤ t p ∧ t p ≤ 122) := fun e => h1 (decide_eq_true e)
    by_cases h2 : isDg (t p) = true
    · rw [if_pos h2]
      have hd : 48 ≤ t p ∧ t p ≤ 57 := of_decide_eq_true h2
      unfold kdS
      rw [if_neg (by omega), if_neg (by omega), if_neg (by omega), if_neg (by omega), if_neg (by omega), if_neg (by omega), if_neg (by omega), if_neg (by omega), if_neg (by omega), if_neg (by omega), if_neg (by omega)]
      rfl
    · rw [if_neg h2]
      unfold kdS kdC
      rw [if_neg (show ¬ t p = 120 by omega), if_neg (show ¬ t p = 121 by omega), if_neg (show ¬ t p = 122 by omega), if_neg (show ¬ t p = 101 by omega), if_neg (show ¬ 100 + t p = 1 by omega), if_neg (show ¬ 100 + t p = 2 by omega), if_neg (show ¬ 100 + t p = 3 by omega), if_neg (show ¬ 100 + t p = 4 by omega), if_neg (show ¬ 100 + t p = 5 by omega)]
      by_cases b1 : t p = 42
      · rw [if_pos b1, if_pos (by omega)]
      · rw [if_neg b1, if_neg (show ¬ 100 + t p = 142 by omega)]
        by_cases b2 : t p = 47
        · rw [if_pos b2, if_pos (by omega)]
        · rw [if_neg b2, if_neg (show ¬ 100 + t p = 147 by omega)]
          by_cases b3 : t p = 92
          · rw [if_pos b3, if_pos (by omega)]
          · rw [if_neg b3, if_neg (show ¬ 100 + t p = 192 by omega)]
            by_cases b4 : t p = 61
            · rw [if_pos b4, if_pos (by omega)]
            · rw [if_neg b4, if_neg (show ¬ 100 + t p = 161 by omega)]
              by_cases b5 : t p = 44
              · rw [if_pos b5, if_pos (by omega)]
              · rw [if_neg b5, if_neg (show ¬ 100 + t p = 144 by omega)]
                by_cases b6 : t p = 40
                · rw [if_pos b6, if_pos (by omega)]
                · rw [if_neg b6, if_neg (show ¬ 100 + t p = 140 by omega)]
                  by_cases b7 : t p = 41
                  · rw [if_pos b7, if_pos (by omega)]
                  · rw [if_neg b7, if_neg (show ¬ 100 + t p = 141 by omega)]
/-- but for digits both end alike -/
theorem en_eq {t : Nat → Nat} {len p : Nat} (h : ¬ cdR t p (enR t len p) = 90) : enC t len p = enR t len p := by
  unfold enC enR at *
  split
  next hp =>
    rw [if_pos hp] at h
    split
    · rfl
    next h1 =>
      by_cases h2 : isDg (t p) = true
      · exfalso
        apply h
        unfold cdR
        rw [if_neg h1, if_pos h2]
      · rw [if_neg h2]
  · rfl
/-! The reader: token, letters, code so far; whether it goes on. -/
abbrev LSt : Type := Nat × Nat × List Nat
def isOp (k : Nat) : Bool := k == 142 || k == 147 || k == 192
def opN (k : Nat) : Nat := if k = 142 then 4 else if k = 147 then 5 else 6
def isLt (k : Nat) : Bool := decide (1 ≤ k ∧ k ≤ 4)
/-- what follows a part: operations and parts -/
def rst (cod : Nat → Nat) (pa : LSt → Bool × LSt) : Nat → LSt → Bool × LSt
  | 0, s => (true, s)
  | f + 1, s => if isOp (cod s.1) = true then (match pa (s.1 + 1, s.2.1, s.2.2) with
    | (true, u) => rst cod pa f (u.1, u.2.1, u.2.2 ++ [opN (cod s.1)])
    | (false, u) => (false, u)) else (true, s)
def trm (cod : Nat → Nat) (F : Nat) (pa : LSt → Bool × LSt) (s : LSt) : Bool × LSt := match pa s with
  | (true, u) => rst cod pa F u
  | (false, u) => (false, u)
/-- a part, where e more brackets may open -/
def prt (cod : Nat → Nat) (F : Nat) : Nat → LSt → Bool × LSt
  | 0, s => if isLt (cod s.1) = true ∧ s.2.1 < 32 then (true, s.1 + 1, s.2.1 + 1, s.2.2 ++ [cod s.1 - 1]) else (false, s)
  | e + 1, s => if isLt (cod s.1) = true ∧ s.2.1 < 32 then (true, s.1 + 1, s.2.1 + 1, s.2.2 ++ [cod s.1 - 1]) else if cod s.1 = 140 then (match trm cod F (prt cod F e) (s.1 + 1, s.2.1, s.2.2) with
    | (true, u) => if cod u.1 = 141 then (true, u.1 + 1, u.2.1, u.2.2) else (false, u)
    | (false, u) => (false, u)) else (false, s)
def eqn (cod : Nat → Nat) (F : Nat) (s : LSt) : Bool × LSt := match trm cod F (prt cod F 8) s with
  | (true, u) => if cod u.1 = 161 then (match trm cod F (prt cod F 8) (u.1 + 1, u.2.1, u.2.2) with
    | (true, v) => (true, v.1, v.2.1, v.2.2 ++ [7])
    | (false, v) => (false, v)) else (false, u)
  | (false, u) => (false, u)
def sdR (cod : Nat → Nat) (F : Nat) : Nat → LSt → Bool × LSt
  | 0, s => (true, s)
  | f + 1, s => if cod s.1 = 144 then (match eqn cod F (s.1 + 1, s.2.1, s.2.2) with
    | (true, u) => sdR cod F f u
    | (false, u) => (false, u)) else (true, s)
def sid (cod : Nat → Nat) (F : Nat) (s : LSt) : Bool × LSt := match eqn cod F s with
  | (true, u) => sdR cod F F u
  | (false, u) => (false, u)
/-- a law: whether it is one, the token where it ends or is at fault, the code, where its if-part begins -/
def lwR (cod : Nat → Nat) (N F : Nat) : Bool × Nat × List Nat × Nat := match sid cod F (0, 0, []) with
  | (false, u) => (false, u.1, [], 0)
  | (true, u) => if cod u.1 = 5 then (match sid cod F (u.1 + 1, u.2.1, u.2.2) with
    | (false, v) => (false, v.1, [], 0)
    | (true, v) => (decide (v.1 = N), v.1, v.2.2, u.2.2.length)) else (decide (u.1 = N), u.1, u.2.2, u.2.2.length)
/-- what reading keeps: tokens go up, the code grows by what the letters allow -/
def Okk (cod : Nat → Nat) (N : Nat) (k : Nat) (s : LSt) (r : Bool × LSt) : Prop := s.1 ≤ r.2.1 ∧ r.2.1 ≤ N ∧ (r.1 = true → s.1 < r.2.1) ∧ s.2.1 ≤ r.2.2.1 ∧ r.2.2.1 ≤ 32 ∧ (r.1 = true → r.2.2.2.length + 2 * s.2.1 + k = s.2.2.length + 2 * r.2.2.1)
/-- codes: only 0 stands at the end -/
def CdE (cod : Nat → Nat) (N : Nat) : Prop := cod N = 0
theorem cd_in {cod : Nat → Nat} {N j : Nat} (h : CdE cod N) (hj : j ≤ N) (hc : ¬ cod j = 0) : j < N := by
  rcases Nat.lt_or_ge j N with q | q
  · exact q
  · have : j = N := by omega
    rw [this] at hc
    exact absurd h hc
theorem ltt_0 {k : Nat} (h : isLt k = true) : ¬ k = 0 := by
  have := of_decide_eq_true h
  omega
theorem op_0 {k : Nat} (h : isOp k = true) : k = 142 ∨ k = 147 ∨ k = 192 := by
  unfold isOp at h
  simp only [Bool.or_eq_true, beq_iff_eq] at h
  omega
theorem rst_ok {cod : Nat → Nat} {N : Nat} (hE : CdE cod N) {pa : LSt → Bool × LSt} (hp : ∀ s, s.1 ≤ N → s.2.1 ≤ 32 → Okk cod N 1 s (pa s)) : ∀ f s, s.1 ≤ N → s.2.1 ≤ 32 → s.1 ≤ (rst cod pa f s).2.1 ∧ (rst cod pa f s).2.1 ≤ N ∧ s.2.1 ≤ (rst cod pa f s).2.2.1 ∧ (rst cod pa f s).2.2.1 ≤ 32 ∧ ((rst cod pa f s).1 = true → (rst cod pa f s).2.2.2.length + 2 * s.2.1 = s.2.2.length + 2 * (rst cod pa f s).2.2.1)
  | 0, s, h1, h2 => ⟨Nat.le_refl _, h1, Nat.le_refl _, h2, fun _ => rfl⟩
  | f + 1, s, h1, h2 => by
    unfold rst
    by_cases h : isOp (cod s.1) = true
    · rw [if_pos h]
      have hlt := cd_in hE h1 (by have := op_0 h; omega)
      have hq := hp (s.1 + 1, s.2.1, s.2.2) (by show s.1 + 1 ≤ N; omega) h2
      rcases hr : pa (s.1 + 1, s.2.1, s.2.2) with ⟨b, u⟩
      rw [hr] at hq
      obtain ⟨q1, q2, q3, q4, q5, q6⟩ := hq
      dsimp only at q1 q2 q3 q4 q5 q6
      cases b
      · dsimp only
        exact ⟨by omega, q2, q4, q5, fun e => absurd e Bool.false_ne_true⟩
      · dsimp only
        have ih := rst_ok hE hp f (u.1, u.2.1, u.2.2 ++ [opN (cod s.1)]) q2 q5
        obtain ⟨i1, i2, i3, i4, i5⟩ := ih
        dsimp only at i1 i2 i3 i4 i5
        refine ⟨by omega, i2, by omega, i4, fun e => ?_⟩
        have i5 := i5 e
        have q6 := q6 rfl
        rw [List.length_append] at i5
        simp only [List.length_singleton] at i5
        omega
    · rw [if_neg h]
      exact ⟨Nat.le_refl _, h1, Nat.le_refl _, h2, fun _ => rfl⟩
theorem trm_ok {cod : Nat → Nat} {N F : Nat} (hE : CdE cod N) {pa : LSt → Bool × LSt} (hp : ∀ s, s.1 ≤ N → s.2.1 ≤ 32 → Okk cod N 1 s (pa s)) (s : LSt) (h1 : s.1 ≤ N) (h2 : s.2.1 ≤ 32) : Okk cod N 1 s (trm cod F pa s) := by
  unfold trm
  have hq := hp s h1 h2
  rcases hr : pa s with ⟨b, u⟩
  rw [hr] at hq
  obtain ⟨q1, q2, q3, q4, q5, q6⟩ := hq
  dsimp only at q1 q2 q3 q4 q5 q6
  cases b
  · exact ⟨q1, q2, fun e => absurd e Bool.false_ne_true, q4, q5, fun e => absurd e Bool.false_ne_true⟩
  · have i := rst_ok hE hp F u q2 q5
    have q6 := q6 rfl
    have q3 := q3 rfl
    obtain ⟨i1, i2, i3, i4, i5⟩ := i
    exact ⟨by dsimp only; omega, i2, fun _ => by dsimp only; omega, by dsimp only; omega, i4, fun e => by have := i5 e; dsimp only; omega⟩
theorem prt_ok {cod : Nat → Nat} {N F : Nat} (hE : CdE cod N) : ∀ e s, s.1 ≤ N → s.2.1 ≤ 32 → Okk cod N 1 s (prt cod F e s) := by
  have lt : ∀ s : LSt, s.1 ≤ N → (isLt (cod s.1) = true ∧ s.2.1 < 32) → Okk cod N 1 s (true, s.1 + 1, s.2.1 + 1, s.2.2 ++ [cod s.1 - 1]) := by
    intro s h1 h
    have := cd_in hE h1 (ltt_0 h.1)
    refine ⟨by dsimp only; omega, by dsimp only; omega, fun _ => by dsimp only; omega, by dsimp only; omega, by dsimp only; omega, fun _ => ?_⟩
    dsimp only
    rw [List.length_append]
    simp only [List.length_singleton]
    omega
  have no : ∀ s : LSt, s.1 ≤ N → s.2.1 ≤ 32 → Okk cod N 1 s (false, s) := fun s h1 h2 => ⟨Nat.le_refl _, h1, fun e => absurd e Bool.false_ne_true, Nat.le_refl _, h2, fun e => absurd e Bool.false_ne_true⟩
  intro e
  induction e with
  | zero =>
    intro s h1 h2
    unfold prt
    by_cases h : isLt (cod s.1) = true ∧ s.2.1 < 32
    · rw [if_pos h]
      exact lt s h1 h
    · rw [if_neg h]
      exact no s h1 h2
  | succ e ih =>
    intro s h1 h2
    unfold prt
    by_cases h : isLt (cod s.1) = true ∧ s.2.1 < 32
    · rw [if_pos h]
      exact lt s h1 h
    · rw [if_neg h]
      by_cases hb : cod s.1 = 140
      · rw [if_pos hb]
        have hlt := cd_in hE h1 (by omega)
        have hq := trm_ok (F := F) hE ih (s.1 + 1, s.2.1, s.2.2) (by show s.1 + 1 ≤ N; omega) h2
        rcases hr : trm cod F (prt cod F e) (s.1 + 1, s.2.1, s.2.2) with ⟨b, u⟩
        rw [hr] at hq
        obtain ⟨q1, q2, q3, q4, q5, q6⟩ := hq
        dsimp only at q1 q2 q3 q4 q5 q6
        cases b
        · exact ⟨by dsimp only; omega, q2, fun e => absurd e Bool.false_ne_true, q4, q5, fun e => absurd e Bool.false_ne_true⟩
        · dsimp only
          by_cases hc : cod u.1 = 141
          · rw [if_pos hc]
            have := cd_in hE q2 (by omega)
            exact ⟨by dsimp only; omega, by dsimp only; omega, fun _ => by dsimp only; omega, q4, q5, fun _ => by have := q6 rfl; dsimp only; omega⟩
          · rw [if_neg hc]
            exact ⟨by dsimp only; omega, q2, fun e => absurd e Bool.false_ne_true, q4, q5, fun e => absurd e Bool.false_ne_true⟩
      · rw [if_neg hb]
        exact no s h1 h2
theorem tr8_ok {cod : Nat → Nat} {N F e : Nat} (hE : CdE cod N) (s : LSt) (h1 : s.1 ≤ N) (h2 : s.2.1 ≤ 32) : Okk cod N 1 s (trm cod F (prt cod F e) s) := trm_ok hE (prt_ok hE e) s h1 h2
theorem eqn_ok {cod : Nat → Nat} {N F : Nat} (hE : CdE cod N) (s : LSt) (h1 : s.1 ≤ N) (h2 : s.2.1 ≤ 32) : Okk cod N 1 s (eqn cod F s) := by
  unfold eqn
  have hq := tr8_ok (F := F) (e := 8) hE s h1 h2
  rcases hr : trm cod F (prt cod F 8) s with ⟨b, u⟩
  rw [hr] at hq
  obtain ⟨q1, q2, q3, q4, q5, q6⟩ := hq
  dsimp only at q1 q2 q3 q4 q5 q6
  cases b
  · exact ⟨q1, q2, fun e => absurd e Bool.false_ne_true, q4, q5, fun e => absurd e Bool.false_ne_true⟩
  · dsimp only
    by_cases hc : cod u.1 = 161
    · rw [if_pos hc]
      have hlt := cd_in hE q2 (by omega)
      have hw := tr8_ok (F := F) (e := 8) hE (u.1 + 1, u.2.1, u.2.2) (by show u.1 + 1 ≤ N; omega) q5
      rcases hr2 : trm cod F (prt cod F 8) (u.1 + 1, u.2.1, u.2.2) with ⟨b2, v⟩
      rw [hr2] at hw
      obtain ⟨w1, w2, w3, w4, w5, w6⟩ := hw
      dsimp only at w1 w2 w3 w4 w5 w6
      cases b2
      · exact ⟨by dsimp only; omega, w2, fun e => absurd e Bool.false_ne_true, by dsimp only; omega, w5, fun e => absurd e Bool.false_ne_true⟩
      · refine ⟨by dsimp only; omega, w2, fun _ => by dsimp only; omega, by dsimp only; omega, w5, fun _ => ?_⟩
        have := q6 rfl
        have := w6 rfl
        dsimp only
        rw [List.length_append]
        simp only [List.length_singleton]
        omega
    · rw [if_neg hc]
      exact ⟨q1, q2, fun e => absurd e Bool.false_ne_true, q4, q5, fun e => absurd e Bool.false_ne_true⟩
