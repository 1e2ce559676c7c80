/-! Switches; printed by wip/whole/gen_sw.py. -/
section YR
variable {k y pc : Nat} {al al1 : AL} {st r : List Value} {g g1 : Nat → Int32} {A A1 : Nat → Nat → Int32} {Q : Option Value → (Nat → Int32) → (Nat → Nat → Int32) → Prop}
theorem rr_ts {d lo hi off : Int} {offs : Array Int} {l j t : Nat} (hd : decode (am_b y) pc = .ok (.tableswitch d lo hi offs, l)) (hj : j < 2 ^ 31) (h1 : ¬ ((j : Int) < lo ∨ hi < (j : Int))) (ho : offs[((j : Int) - lo).toNat]? = some off) (ht : am_tg pc off = some t) (kk : RR k y t al r g A Q) : RR k y pc al (.int (nI j) :: r) g A Q := by
  refine rr_nx hd (fun h => ?_) kk
  show am_ts d lo hi offs pc al (.int (nI j) :: r) h = _
  unfold am_ts
  simp only [nI_toInt hj]
  rw [if_neg h1, ho, Option.bind_some, am_jp, ht, Option.bind_some]
  rfl
theorem rr_td {d lo hi : Int} {offs : Array Int} {l t : Nat} {x : Int32} (hd : decode (am_b y) pc = .ok (.tableswitch d lo hi offs, l)) (h1 : x.toInt < lo ∨ hi < x.toInt) (ht : am_tg pc d = some t) (kk : RR k y t al r g A Q) : RR k y pc al (.int x :: r) g A Q := by
  refine rr_nx hd (fun h => ?_) kk
  show am_ts d lo hi offs pc al (.int x :: r) h = _
  unfold am_ts
  simp only []
  rw [if_pos h1, am_jp, ht, Option.bind_some]
  rfl
theorem rr_ls {d off : Int} {ps : Array (Int × Int)} {l t : Nat} {x : Int32} (hd : decode (am_b y) pc = .ok (.lookupswitch d ps, l)) (hs : (ps.toList.zip (ps.toList.drop 1)).all (fun (a, next) => a.1 < next.1) = true) (ho : Op.lookupswitch.offset ps.toList d x.toInt = off) (ht : am_tg pc off = some t) (kk : RR k y t al r g A Q) : RR k y pc al (.int x :: r) g A Q := by
  refine rr_nx hd (fun h => ?_) kk
  show am_ls d ps pc al (.int x :: r) h = _
  unfold am_ls
  simp only []
  rw [if_pos hs, ho, am_jp, ht, Option.bind_some]
  rfl
theorem rr_k2 {x o : Nat} {v : Int32} (hd : decode (am_b y) pc = .ok (.ldc x, 2)) (ho : am_o y = o) (hk : am_ki o x = some v) (kk : RR k y (pc + 2) al (.int v :: r) g A Q) : RR k y pc al r g A Q := by
  refine rr_nx hd (fun h => ?_) kk
  show (if 2 = 2 then (am_ki (am_o y) x).bind fun v => am_nx (pc + 2) al (.int v :: r) h else none) = _
  rw [ho, hk]
  rfl
theorem rr_k3 {x o : Nat} {v : Int32} (hd : decode (am_b y) pc = .ok (.ldc_w x, 3)) (ho : am_o y = o) (hk : am_ki o x = some v) (kk : RR k y (pc + 3) al (.int v :: r) g A Q) : RR k y pc al r g A Q := by
  refine rr_nx hd (fun h => ?_) kk
  show (if 3 = 3 then (am_ki (am_o y) x).bind fun v => am_nx (pc + 3) al (.int v :: r) h else none) = _
  rw [ho, hk]
  rfl
end YR
section YC
variable {k y pc : Nat} {al al1 : AL} {st r : List Value} {S S1 : CS} {G G1 : Nat → Nat → Value} {B B1 : Nat → Nat → Int32} {J J1 : Nat → Nat → Int64} {R R1 : Nat → Nat → Option Nat} {Q : CQ}
theorem cr_ts {d lo hi off : Int} {offs : Array Int} {l j t : Nat} (hd : decode (am_b y) pc = .ok (.tableswitch d lo hi offs, l)) (hj : j < 2 ^ 31) (h1 : ¬ ((j : Int) < lo ∨ hi < (j : Int))) (ho : offs[((j : Int) - lo).toNat]? = some off) (ht : am_tg pc off = some t) (kk : CR k y t al r S G B J R Q) : CR k y pc al (.int (nI j) :: r) S G B J R Q := by
  refine cr_nx hd (fun h => ?_) kk
  show am_ts d lo hi offs pc al (.int (nI j) :: r) h = _
  unfold am_ts
  simp only [nI_toInt hj]
  rw [if_neg h1, ho, Option.bind_some, am_jp, ht, Option.bind_some]
  rfl
theorem cr_td {d lo hi : Int} {offs : Array Int} {l t : Nat} {x : Int32} (hd : decode (am_b y) pc = .ok (.tableswitch d lo hi offs, l)) (h1 : x.toInt < lo ∨ hi < x.toInt) (ht : am_tg pc d = some t) (kk : CR k y t al r S G B J R Q) : CR k y pc al (.int x :: r) S G B J R Q := by
  refine cr_nx hd (fun h => ?_) kk
  show am_ts d lo hi offs pc al (.int x :: r) h = _
  unfold am_ts
  simp only []
  rw [if_pos h1, am_jp, ht, Option.bind_some]
  rfl
theorem cr_ls {d off : Int} {ps : Array (Int × Int)} {l t : Nat} {x : Int32} (hd : decode (am_b y) pc = .ok (.lookupswitch d ps, l)) (hs : (ps.toList.zip (ps.toList.drop 1)).all (fun (a, next) => a.1 < next.1) = true) (ho : Op.lookupswitch.offset ps.toList d x.toInt = off) (ht : am_tg pc off = some t) (kk : CR k y t al r S G B J R Q) : CR k y pc al (.int x :: r) S G B J R Q := by
  refine cr_nx hd (fun h => ?_) kk
  show am_ls d ps pc al (.int x :: r) h = _
  unfold am_ls
  simp only []
  rw [if_pos hs, ho, am_jp, ht, Option.bind_some]
  rfl
theorem cr_k2 {x o : Nat} {v : Int32} (hd : decode (am_b y) pc = .ok (.ldc x, 2)) (ho : am_o y = o) (hk : am_ki o x = some v) (kk : CR k y (pc + 2) al (.int v :: r) S G B J R Q) : CR k y pc al r S G B J R Q := by
  refine cr_nx hd (fun h => ?_) kk
  show (if 2 = 2 then (am_ki (am_o y) x).bind fun v => am_nx (pc + 2) al (.int v :: r) h else none) = _
  rw [ho, hk]
  rfl
theorem cr_k3 {x o : Nat} {v : Int32} (hd : decode (am_b y) pc = .ok (.ldc_w x, 3)) (ho : am_o y = o) (hk : am_ki o x = some v) (kk : CR k y (pc + 3) al (.int v :: r) S G B J R Q) : CR k y pc al r S G B J R Q := by
  refine cr_nx hd (fun h => ?_) kk
  show (if 3 = 3 then (am_ki (am_o y) x).bind fun v => am_nx (pc + 3) al (.int v :: r) h else none) = _
  rw [ho, hk]
  rfl
end YC
theorem sw_out {v : Int32} {m : Nat} (hm : m < 2 ^ 31) (h : ¬ (nI 0 ≤ v ∧ v ≤ nI m)) : v.toInt < 0 ∨ (m : Int) < v.toInt := by
  rcases Int.lt_or_le v.toInt 0 with h1 | h1
  · exact Or.inl h1
  · rcases Int.lt_or_le (m : Int) v.toInt with h2 | h2
    · exact Or.inr h2
    · refine absurd ⟨?_, ?_⟩ h
      · rw [Int32.le_iff_toInt_le, nI_toInt (by decide)]
        exact h1
      · rw [Int32.le_iff_toInt_le, nI_toInt hm]
        exact h2
theorem sw_le {v : Int32} {m : Nat} (hm : m < 2 ^ 31) : (nI 0 ≤ v ∧ v ≤ nI m) ∨ ¬ (nI 0 ≤ v ∧ v ≤ nI m) := Decidable.em _
