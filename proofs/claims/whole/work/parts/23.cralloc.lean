/-! The class makes cells. -/
def cs_pu (S : CS) (s : Nat × Nat) : CS := (S.1 + 1, upr S.2 S.1 s)
theorem ClsAt.push {h : AH} {S : CS} {G : Nat → Nat → Value} {B : Nat → Nat → Int32} {J : Nat → Nat → Int64} {R : Nat → Nat → Option Nat} {c : AC} (hc : ClsAt h S G B J R) (s : Nat × Nat) (Ga : Nat → Value) (Ba : Nat → Int32) (Ja : Nat → Int64) (Ra : Nat → Option Nat) (h2 : 2 ≤ S.1) (e : c = cs_cell s Ga Ba Ja Ra) : ClsAt (h ++ [c]) (cs_pu S s) (upr G S.1 Ga) (upr B S.1 Ba) (upr J S.1 Ja) (upr R S.1 Ra) ∧ ClsFr h (h ++ [c]) := by
  obtain ⟨h1, h3, h4⟩ := hc
  refine ⟨⟨by rw [List.length_append, h1]; rfl, by rw [List.getElem?_append_left (by omega)]; exact h3, fun a ha => ?_⟩, by rw [List.length_append]; omega, fun b _ hb => by rw [List.getElem?_append_left hb]⟩
  have hlt : a < S.1 + 1 := ha.2.2
  by_cases ea : a = S.1
  · subst ea
    rw [List.getElem?_append_right (by omega), h1, Nat.sub_self]
    show some c = _
    rw [e]
    show _ = some (cs_cell (upr S.2 S.1 s S.1) (upr G S.1 Ga S.1) (upr B S.1 Ba S.1) (upr J S.1 Ja S.1) (upr R S.1 Ra S.1))
    rw [upr_s, upr_s, upr_s, upr_s, upr_s]
  · rw [List.getElem?_append_left (by omega), h4 a ⟨ha.1, ha.2.1, by omega⟩]
    show _ = some (cs_cell (upr S.2 S.1 s a) (upr G S.1 Ga a) (upr B S.1 Ba a) (upr J S.1 Ja a) (upr R S.1 Ra a))
    rw [upr_n ea, upr_n ea, upr_n ea, upr_n ea, upr_n ea]
section CR
variable {k y pc : Nat} {al : AL} {st r : List Value} {S : CS} {G : Nat → Nat → Value} {B : Nat → Nat → Int32} {J : Nat → Nat → Int64} {R : Nat → Nat → Option Nat} {Q : CQ}
theorem cr_nw {o x c : Nat} (hd : decode (am_b y) pc = .ok (.new x, 3)) (ho : am_o y = o) (hl : am_cl o x = some c) (hc : c < 13 ∧ c ≠ 7) (h2 : 2 ≤ S.1) (kk : CR k y (pc + 3) al (.ref S.1 :: st) (cs_pu S (100 + c, am_N c)) (upr G S.1 (fun j => defaultValue (am_ty c j))) B J R Q) : CR k y pc al st S G B J R Q := by
  intro h hr
  obtain ⟨p1, p2⟩ := hr.push (c := .inr (c, am_df c)) (100 + c, am_N c) (fun j => defaultValue (am_ty c j)) (B S.1) (J S.1) (R S.1) h2 (by rw [cs_o]; rfl)
  rw [upr_id, upr_id, upr_id] at p1
  refine rn_nx hd ?_ (cr_mv p2 (kk _ p1))
  show (if 3 = 3 then am_nw (am_o y) x pc al st h else none) = _
  rw [if_pos rfl, ho]
  simp only [am_nw, hl, Option.bind_some]
  rw [if_pos hc, hr.1]
  rfl
theorem cr_na {n : Nat} (hd : decode (am_b y) pc = .ok (.newarray .int, 2)) (hn : n ≤ 100000) (h2 : 2 ≤ S.1) (kk : CR k y (pc + 2) al (.ref S.1 :: r) (cs_pu S (0, n)) G (upr B S.1 (fun _ => 0)) J R Q) : CR k y pc al (.int (nI n) :: r) S G B J R Q := by
  intro h hr
  obtain ⟨p1, p2⟩ := hr.push (c := .inl (0, n, .inl (fun _ => 0))) (0, n) (G S.1) (fun _ => 0) (J S.1) (R S.1) h2 (by rw [cs_i (by decide)])
  rw [upr_id, upr_id, upr_id] at p1
  refine rn_nx hd ?_ (cr_mv p2 (kk _ p1))
  show (if 2 = 2 then am_na .int pc al (.int (nI n) :: r) h else none) = _
  have c1 : (nI n).toNatClampNeg = n := nI_clamp (by omega)
  rw [if_pos rfl]
  simp only [am_na]
  rw [if_neg (by rw [c1]; exact fun q => q.elim (nI_pos (by omega)) (by omega)), c1, hr.1]
  rfl
theorem cr_nl {n : Nat} (hd : decode (am_b y) pc = .ok (.newarray .long, 2)) (hn : n ≤ 100000) (h2 : 2 ≤ S.1) (kk : CR k y (pc + 2) al (.ref S.1 :: r) (cs_pu S (3, n)) G B (upr J S.1 (fun _ => 0)) R Q) : CR k y pc al (.int (nI n) :: r) S G B J R Q := by
  intro h hr
  obtain ⟨p1, p2⟩ := hr.push (c := .inl (3, n, .inr (.inl (fun _ => 0)))) (3, n) (G S.1) (B S.1) (fun _ => 0) (R S.1) h2 (by rw [cs_l])
  rw [upr_id, upr_id, upr_id] at p1
  refine rn_nx hd ?_ (cr_mv p2 (kk _ p1))
  show (if 2 = 2 then am_na .long pc al (.int (nI n) :: r) h else none) = _
  have c1 : (nI n).toNatClampNeg = n := nI_clamp (by omega)
  rw [if_pos rfl]
  simp only [am_na]
  rw [if_neg (by rw [c1]; exact fun q => q.elim (nI_pos (by omega)) (by omega)), c1, hr.1]
  rfl
theorem cr_nq {o x c n : Nat} (hd : decode (am_b y) pc = .ok (.anewarray x, 3)) (ho : am_o y = o) (hl : am_cl o x = some c) (hc : c = 3 ∨ c = 9 ∨ c = 10) (hn : n ≤ 100000) (h2 : 2 ≤ S.1) (kk : CR k y (pc + 3) al (.ref S.1 :: r) (cs_pu S (4 + c, n)) G B J (upr R S.1 (fun _ => none)) Q) : CR k y pc al (.int (nI n) :: r) S G B J R Q := by
  intro h hr
  obtain ⟨p1, p2⟩ := hr.push (c := .inl (4 + c, n, .inr (.inr (.inr (.inr (fun _ => none)))))) (4 + c, n) (G S.1) (B S.1) (J S.1) (fun _ => none) h2 (by rw [cs_r (by omega) (by omega)])
  rw [upr_id, upr_id, upr_id] at p1
  refine rn_nx hd ?_ (cr_mv p2 (kk _ p1))
  show (if 3 = 3 then am_nq (am_o y) x pc al (.int (nI n) :: r) h else none) = _
  have c1 : (nI n).toNatClampNeg = n := nI_clamp (by omega)
  rw [if_pos rfl, ho]
  simp only [am_nq, hl, Option.bind_some]
  rw [if_neg (by rw [c1]; exact fun q => q.elim (nI_pos (by omega)) (by omega)), if_pos hc, c1, hr.1]
  rfl
/-- a loop with a counter -/
theorem cr_up {n : Nat} {al : Nat → AL} {S : Nat → CS} {G : Nat → Nat → Nat → Value} {B : Nat → Nat → Nat → Int32} {J : Nat → Nat → Nat → Int64} {R : Nat → Nat → Nat → Option Nat} {P : Nat → Prop}
    (hs : ∀ i, i < n → P i → (P (i + 1) → CR k y pc (al (i + 1)) [] (S (i + 1)) (G (i + 1)) (B (i + 1)) (J (i + 1)) (R (i + 1)) Q) → CR k y pc (al i) [] (S i) (G i) (B i) (J i) (R i) Q) (he : P n → CR k y pc (al n) [] (S n) (G n) (B n) (J n) (R n) Q) : ∀ i, i ≤ n → P i → CR k y pc (al i) [] (S i) (G i) (B i) (J i) (R i) Q := by
  have key : ∀ m i, i + m = n → P i → CR k y pc (al i) [] (S i) (G i) (B i) (J i) (R i) Q := by
    intro m
    induction m with
    | zero =>
      intro i hi hp
      have : i = n := by omega
      subst this
      exact he hp
    | succ m ih =>
      intro i hi hp
      exact hs i (by omega) hp (fun hp1 => ih (i + 1) (by omega) hp1)
  intro i hi hp
  exact key (n - i) i (by omega) hp
end CR
