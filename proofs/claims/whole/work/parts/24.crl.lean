/-! Links, methods, field stores of the class; printed by wip/whole/gen_crl.py. -/
def cs_tab : List (Nat × Nat) := [(111, 17), (109, 9), (14, 6), (7, 8), (0, 36), (0, 30), (14, 30), (110, 2), (0, 36), (110, 2), (0, 36), (110, 2), (0, 36), (110, 2), (0, 36), (110, 2), (0, 36), (110, 2), (0, 36), (110, 2), (0, 36), (110, 2), (0, 36), (110, 2), (0, 36), (110, 2), (0, 36), (110, 2), (0, 36), (110, 2), (0, 36), (110, 2), (0, 36), (110, 2), (0, 36), (110, 2), (0, 36), (110, 2), (0, 36), (110, 2), (0, 36), (110, 2), (0, 36), (110, 2), (0, 36), (110, 2), (0, 36), (110, 2), (0, 36), (110, 2), (0, 36), (110, 2), (0, 36), (110, 2), (0, 36), (110, 2), (0, 36), (110, 2), (0, 36), (110, 2), (0, 36), (110, 2), (0, 36), (110, 2), (0, 36), (110, 2), (0, 36), (110, 2), (0, 36), (110, 2), (0, 36), (110, 2), (0, 36), (110, 2), (0, 36), (110, 2), (0, 36), (110, 2), (0, 36), (13, 2), (0, 400), (104, 9), (0, 0), (0, 64), (110, 2), (0, 36), (110, 2), (0, 36), (100, 7), (0, 36), (0, 36), (0, 36), (0, 4), (0, 33), (105, 8), (110, 2), (0, 36), (100, 7), (0, 36), (0, 36), (0, 36), (0, 4), (0, 33), (0, 6), (7, 0), (102, 7), (0, 6), (0, 6), (0, 36), (106, 7), (110, 2), (0, 36), (110, 2), (0, 36), (110, 2), (0, 36), (110, 2), (0, 36), (0, 6), (0, 6), (106, 7), (110, 2), (0, 36), (110, 2), (0, 36), (110, 2), (0, 36), (110, 2), (0, 36), (0, 6), (0, 6), (108, 9), (110, 2), (0, 36), (0, 6), (0, 6), (0, 6), (0, 720), (0, 720), (101, 3), (110, 2), (0, 36), (3, 720), (0, 7)]
def ShOk (S : CS) : Prop := 174 ≤ S.1 ∧ ∀ a : Nat, 2 ≤ a → a < 146 → S.2 a = cs_tab.getD (a - 2) (0, 0)
theorem ShOk.i {S : CS} (h : ShOk S) {a : Nat} (h2 : 2 ≤ a) (h3 : a < 146) : cs_in S.1 a := ⟨h2, Or.inl h3, Nat.lt_of_lt_of_le h3 (Nat.le_trans (by decide) h.1)⟩
theorem ShOk.s {S : CS} (h : ShOk S) {a : Nat} {s : Nat × Nat} (h2 : 2 ≤ a) (h3 : a < 146) (e : cs_tab.getD (a - 2) (0, 0) = s) : S.2 a = s := (h.2 a h2 h3).trans e
/-- a table: its object, its row behind it -/
def TabAt (S : CS) (G : Nat → Nat → Value) (a : Nat) : Prop := cs_in S.1 a ∧ cs_in S.1 (a + 1) ∧ S.2 a = (100 + 10, 2) ∧ S.2 (a + 1) = (0, 36) ∧ G a 1 = .ref (a + 1)
def cP (v : Option Value) (S : CS) (G : Nat → Nat → Value) (B : Nat → Nat → Int32) (J : Nat → Nat → Int64) (R : Nat → Nat → Option Nat) : CQ := fun r S' G' B' J' R' => r = v ∧ S' = S ∧ G' = G ∧ B' = B ∧ J' = J ∧ R' = R
section CR
variable {k y pc : Nat} {al : AL} {r : List Value} {S S1 : CS} {G G1 : Nat → Nat → Value} {B B1 : Nat → Nat → Int32} {J J1 : Nat → Nat → Int64} {R R1 : Nat → Nat → Option Nat} {Q : CQ}
theorem cr_pv {k0 o x z n m b : Nat} {as : List Value} {al0 : AL} {v : Option Value} (hd : decode (am_b y) pc = .ok (.invokevirtual x, 3)) (ho : am_o y = o) (hl : am_ml o x = some (0, z)) (hz : am_np z = n ∧ am_L z = al0.length) (hn : as.length = n) (hen : am_en (.ref b :: as) al0.length = al0) (hb : cs_in S.1 b) (hs : S.2 b = (100 + am_o z, m)) (h13 : am_o z < 13 ∧ am_o z ≠ 7) (h8 : am_ok8 r = true) (hk : k0 ≤ k) (hc : CR k0 z 0 al0 [] S G B J R (cP v S1 G1 B1 J1 R1)) (kk : CR (k + 1) y (pc + 3) al (v.toList ++ r) S1 G1 B1 J1 R1 Q) : CR (k + 1) y pc al (as.reverse ++ .ref b :: r) S G B J R Q :=
  cr_cv hd ho hl hz hn hen hb hs h13 h8 (cr_wk hk hc) (fun v S' G' B' J' R' ⟨a1, a2, a3, a4, a5, a6⟩ => by rw [a1, a2, a3, a4, a5, a6]; exact kk)
theorem cr_ps {k0 o x z n q : Nat} {as : List Value} {al0 : AL} {v : Option Value} (hd : decode (am_b y) pc = .ok (.invokestatic x, 3)) (ho : am_o y = o) (hl : am_ml o x = some (q, z)) (hq : q = 1 ∨ q = 3) (hz : am_np z = n ∧ am_L z = al0.length) (hn : as.length = n) (hen : am_en as al0.length = al0) (h8 : am_ok8 r = true) (hk : k0 ≤ k) (hc : CR k0 z 0 al0 [] S G B J R (cP v S1 G1 B1 J1 R1)) (kk : CR (k + 1) y (pc + 3) al (v.toList ++ r) S1 G1 B1 J1 R1 Q) : CR (k + 1) y pc al (as.reverse ++ r) S G B J R Q :=
  cr_cs hd ho hl hq hz hn hen h8 (cr_wk hk hc) (fun v S' G' B' J' R' ⟨a1, a2, a3, a4, a5, a6⟩ => by rw [a1, a2, a3, a4, a5, a6]; exact kk)
end CR
theorem cp_0_0 {k y pc o x n a : Nat} {al : AL} {r : List Value} {S : CS} {G : Nat → Nat → Value} {B : Nat → Nat → Int32} {J : Nat → Nat → Int64} {R : Nat → Nat → Option Nat} {Q : CQ} {v : Int32} (hd : decode (am_b y) pc = .ok (.putfield x, 3)) (ho : am_o y = o) (hl : am_fl o x = some (0, 0)) (ha : cs_in S.1 a) (hs : S.2 a = (100 + 0, n)) (hj : 0 < n) (kk : CR k y (pc + 3) al r S (up2 G a 0 (.int v)) B J R Q) : CR k y pc al (.int v :: .ref a :: r) S G B J R Q := cr_pf hd ho hl ha hs hj rfl rfl (Or.inl rfl) kk
theorem cp_0_1 {k y pc o x n a : Nat} {al : AL} {r : List Value} {S : CS} {G : Nat → Nat → Value} {B : Nat → Nat → Int32} {J : Nat → Nat → Int64} {R : Nat → Nat → Option Nat} {Q : CQ} {v : Nat} (hd : decode (am_b y) pc = .ok (.putfield x, 3)) (ho : am_o y = o) (hl : am_fl o x = some (0, 1)) (ha : cs_in S.1 a) (hs : S.2 a = (100 + 0, n)) (hj : 1 < n) (kk : CR k y (pc + 3) al r S (up2 G a 1 (.ref v)) B J R Q) : CR k y pc al (.ref v :: .ref a :: r) S G B J R Q := cr_pf hd ho hl ha hs hj rfl rfl (Or.inl rfl) kk
theorem cp_0_2 {k y pc o x n a : Nat} {al : AL} {r : List Value} {S : CS} {G : Nat → Nat → Value} {B : Nat → Nat → Int32} {J : Nat → Nat → Int64} {R : Nat → Nat → Option Nat} {Q : CQ} {v : Int32} (hv : v = 0 ∨ v = 1) (hd : decode (am_b y) pc = .ok (.putfield x, 3)) (ho : am_o y = o) (hl : am_fl o x = some (0, 2)) (ha : cs_in S.1 a) (hs : S.2 a = (100 + 0, n)) (hj : 2 < n) (kk : CR k y (pc + 3) al r S (up2 G a 2 (.int v)) B J R Q) : CR k y pc al (.int v :: .ref a :: r) S G B J R Q := cr_pf hd ho hl ha hs hj (by rcases hv with rfl | rfl <;> rfl) (by rcases hv with rfl | rfl <;> rfl) (Or.inl rfl) kk
theorem cp_1_0 {k y pc o x n a : Nat} {al : AL} {r : List Value} {S : CS} {G : Nat → Nat → Value} {B : Nat → Nat → Int32} {J : Nat → Nat → Int64} {R : Nat → Nat → Option Nat} {Q : CQ} {v : Nat} (hd : decode (am_b y) pc = .ok (.putfield x, 3)) (ho : am_o y = o) (hl : am_fl o x = some (1, 0)) (ha : cs_in S.1 a) (hs : S.2 a = (100 + 1, n)) (hj : 0 < n) (kk : CR k y (pc + 3) al r S (up2 G a 0 (.ref v)) B J R Q) : CR k y pc al (.ref v :: .ref a :: r) S G B J R Q := cr_pf hd ho hl ha hs hj rfl rfl (Or.inl rfl) kk
theorem cp_1_2 {k y pc o x n a : Nat} {al : AL} {r : List Value} {S : CS} {G : Nat → Nat → Value} {B : Nat → Nat → Int32} {J : Nat → Nat → Int64} {R : Nat → Nat → Option Nat} {Q : CQ} {v : Int32} (hd : decode (am_b y) pc = .ok (.putfield x, 3)) (ho : am_o y = o) (hl : am_fl o x = some (1, 2)) (ha : cs_in S.1 a) (hs : S.2 a = (100 + 1, n)) (hj : 2 < n) (kk : CR k y (pc + 3) al r S (up2 G a 2 (.int v)) B J R Q) : CR k y pc al (.int v :: .ref a :: r) S G B J R Q := cr_pf hd ho hl ha hs hj rfl rfl (Or.inl rfl) kk
theorem cp_2_0 {k y pc o x n a : Nat} {al : AL} {r : List Value} {S : CS} {G : Nat → Nat → Value} {B : Nat → Nat → Int32} {J : Nat → Nat → Int64} {R : Nat → Nat → Option Nat} {Q : CQ} {v : Int32} (hd : decode (am_b y) pc = .ok (.putfield x, 3)) (ho : am_o y = o) (hl : am_fl o x = some (2, 0)) (ha : cs_in S.1 a) (hs : S.2 a = (100 + 2, n)) (hj : 0 < n) (kk : CR k y (pc + 3) al r S (up2 G a 0 (.int v)) B J R Q) : CR k y pc al (.int v :: .ref a :: r) S G B J R Q := cr_pf hd ho hl ha hs hj rfl rfl (Or.inl rfl) kk
theorem cp_2_4 {k y pc o x n a : Nat} {al : AL} {r : List Value} {S : CS} {G : Nat → Nat → Value} {B : Nat → Nat → Int32} {J : Nat → Nat → Int64} {R : Nat → Nat → Option Nat} {Q : CQ} {v : Int32} (hd : decode (am_b y) pc = .ok (.putfield x, 3)) (ho : am_o y = o) (hl : am_fl o x = some (2, 4)) (ha : cs_in S.1 a) (hs : S.2 a = (100 + 2, n)) (hj : 4 < n) (kk : CR k y (pc + 3) al r S (up2 G a 4 (.int v)) B J R Q) : CR k y pc al (.int v :: .ref a :: r) S G B J R Q := cr_pf hd ho hl ha hs hj rfl rfl (Or.inl rfl) kk
theorem cp_2_5 {k y pc o x n a : Nat} {al : AL} {r : List Value} {S : CS} {G : Nat → Nat → Value} {B : Nat → Nat → Int32} {J : Nat → Nat → Int64} {R : Nat → Nat → Option Nat} {Q : CQ} {v : Int32} (hd : decode (am_b y) pc = .ok (.putfield x, 3)) (ho : am_o y = o) (hl : am_fl o x = some (2, 5)) (ha : cs_in S.1 a) (hs : S.2 a = (100 + 2, n)) (hj : 5 < n) (kk : CR k y (pc + 3) al r S (up2 G a 5 (.int v)) B J R Q) : CR k y pc al (.int v :: .ref a :: r) S G B J R Q := cr_pf hd ho hl ha hs hj rfl rfl (Or.inl rfl) kk
theorem cp_2_6 {k y pc o x n a : Nat} {al : AL} {r : List Value} {S : CS} {G : Nat → Nat → Value} {B : Nat → Nat → Int32} {J : Nat → Nat → Int64} {R : Nat → Nat → Option Nat} {Q : CQ} {v : Int32} (hd : decode (am_b y) pc = .ok (.putfield x, 3)) (ho : am_o y = o) (hl : am_fl o x = some (2, 6)) (ha : cs_in S.1 a) (hs : S.2 a = (100 + 2, n)) (hj : 6 < n) (kk : CR k y (pc + 3) al r S (up2 G a 6 (.int v)) B J R Q) : CR k y pc al (.int v :: .ref a :: r) S G B J R Q := cr_pf hd ho hl ha hs hj rfl rfl (Or.inl rfl) kk
theorem cp_4_0 {k y pc o x n a : Nat} {al : AL} {r : List Value} {S : CS} {G : Nat → Nat → Value} {B : Nat → Nat → Int32} {J : Nat → Nat → Int64} {R : Nat → Nat → Option Nat} {Q : CQ} {v : Nat} (hd : decode (am_b y) pc = .ok (.putfield x, 3)) (ho : am_o y = o) (hl : am_fl o x = some (4, 0)) (ha : cs_in S.1 a) (hs : S.2 a = (100 + 4, n)) (hj : 0 < n) (kk : CR k y (pc + 3) al r S (up2 G a 0 (.ref v)) B J R Q) : CR k y pc al (.ref v :: .ref a :: r) S G B J R Q := cr_pf hd ho hl ha hs hj rfl rfl (Or.inl rfl) kk
theorem cp_4_1 {k y pc o x n a : Nat} {al : AL} {r : List Value} {S : CS} {G : Nat → Nat → Value} {B : Nat → Nat → Int32} {J : Nat → Nat → Int64} {R : Nat → Nat → Option Nat} {Q : CQ} {v : Int32} (hd : decode (am_b y) pc = .ok (.putfield x, 3)) (ho : am_o y = o) (hl : am_fl o x = some (4, 1)) (ha : cs_in S.1 a) (hs : S.2 a = (100 + 4, n)) (hj : 1 < n) (kk : CR k y (pc + 3) al r S (up2 G a 1 (.int v)) B J R Q) : CR k y pc al (.int v :: .ref a :: r) S G B J R Q := cr_pf hd ho hl ha hs hj rfl rfl (Or.inl rfl) kk
theorem cp_4_2 {k y pc o x n a : Nat} {al : AL} {r : List Value} {S : CS} {G : Nat → Nat → Value} {B : Nat → Nat → Int32} {J : Nat → Nat → Int64} {R : Nat → Nat → Option Nat} {Q : CQ} {v : Int32} (hd : decode (am_b y) pc = .ok (.putfield x, 3)) (ho : am_o y = o) (hl : am_fl o x = some (4, 2)) (ha : cs_in S.1 a) (hs : S.2 a = (100 + 4, n)) (hj : 2 < n) (kk : CR k y (pc + 3) al r S (up2 G a 2 (.int v)) B J R Q) : CR k y pc al (.int v :: .ref a :: r) S G B J R Q := cr_pf hd ho hl ha hs hj rfl rfl (Or.inl rfl) kk
theorem cp_4_3 {k y pc o x n a : Nat} {al : AL} {r : List Value} {S : CS} {G : Nat → Nat → Value} {B : Nat → Nat → Int32} {J : Nat → Nat → Int64} {R : Nat → Nat → Option Nat} {Q : CQ} {v : Int32} (hd : decode (am_b y) pc = .ok (.putfield x, 3)) (ho : am_o y = o) (hl : am_fl o x = some (4, 3)) (ha : cs_in S.1 a) (hs : S.2 a = (100 + 4, n)) (hj : 3 < n) (kk : CR k y (pc + 3) al r S (up2 G a 3 (.int v)) B J R Q) : CR k y pc al (.int v :: .ref a :: r) S G B J R Q := cr_pf hd ho hl ha hs hj rfl rfl (Or.inl rfl) kk
theorem cp_4_4 {k y pc o x n a : Nat} {al : AL} {r : List Value} {S : CS} {G : Nat → Nat → Value} {B : Nat → Nat → Int32} {J : Nat → Nat → Int64} {R : Nat → Nat → Option Nat} {Q : CQ} {v : Int32} (hd : decode (am_b y) pc = .ok (.putfield x, 3)) (ho : am_o y = o) (hl : am_fl o x = some (4, 4)) (ha : cs_in S.1 a) (hs : S.2 a = (100 + 4, n)) (hj : 4 < n) (kk : CR k y (pc + 3) al r S (up2 G a 4 (.int v)) B J R Q) : CR k y pc al (.int v :: .ref a :: r) S G B J R Q := cr_pf hd ho hl ha hs hj rfl rfl (Or.inl rfl) kk
theorem cp_4_6 {k y pc o x n a : Nat} {al : AL} {r : List Value} {S : CS} {G : Nat → Nat → Value} {B : Nat → Nat → Int32} {J : Nat → Nat → Int64} {R : Nat → Nat → Option Nat} {Q : CQ} {v : Int32} (hd : decode (am_b y) pc = .ok (.putfield x, 3)) (ho : am_o y = o) (hl : am_fl o x = some (4, 6)) (ha : cs_in S.1 a) (hs : S.2 a = (100 + 4, n)) (hj : 6 < n) (kk : CR k y (pc + 3) al r S (up2 G a 6 (.int v)) B J R Q) : CR k y pc al (.int v :: .ref a :: r) S G B J R Q := cr_pf hd ho hl ha hs hj rfl rfl (Or.inl rfl) kk
theorem cp_4_7 {k y pc o x n a : Nat} {al : AL} {r : List Value} {S : CS} {G : Nat → Nat → Value} {B : Nat → Nat → Int32} {J : Nat → Nat → Int64} {R : Nat → Nat → Option Nat} {Q : CQ} {v : Int32} (hd : decode (am_b y) pc = .ok (.putfield x, 3)) (ho : am_o y = o) (hl : am_fl o x = some (4, 7)) (ha : cs_in S.1 a) (hs : S.2 a = (100 + 4, n)) (hj : 7 < n) (kk : CR k y (pc + 3) al r S (up2 G a 7 (.int v)) B J R Q) : CR k y pc al (.int v :: .ref a :: r) S G B J R Q := cr_pf hd ho hl ha hs hj rfl rfl (Or.inl rfl) kk
theorem cp_4_8 {k y pc o x n a : Nat} {al : AL} {r : List Value} {S : CS} {G : Nat → Nat → Value} {B : Nat → Nat → Int32} {J : Nat → Nat → Int64} {R : Nat → Nat → Option Nat} {Q : CQ} {v : Int32} (hd : decode (am_b y) pc = .ok (.putfield x, 3)) (ho : am_o y = o) (hl : am_fl o x = some (4, 8)) (ha : cs_in S.1 a) (hs : S.2 a = (100 + 4, n)) (hj : 8 < n) (kk : CR k y (pc + 3) al r S (up2 G a 8 (.int v)) B J R Q) : CR k y pc al (.int v :: .ref a :: r) S G B J R Q := cr_pf hd ho hl ha hs hj rfl rfl (Or.inl rfl) kk
theorem cp_5_1 {k y pc o x n a : Nat} {al : AL} {r : List Value} {S : CS} {G : Nat → Nat → Value} {B : Nat → Nat → Int32} {J : Nat → Nat → Int64} {R : Nat → Nat → Option Nat} {Q : CQ} {v : Int32} (hd : decode (am_b y) pc = .ok (.putfield x, 3)) (ho : am_o y = o) (hl : am_fl o x = some (5, 1)) (ha : cs_in S.1 a) (hs : S.2 a = (100 + 5, n)) (hj : 1 < n) (kk : CR k y (pc + 3) al r S (up2 G a 1 (.int v)) B J R Q) : CR k y pc al (.int v :: .ref a :: r) S G B J R Q := cr_pf hd ho hl ha hs hj rfl rfl (Or.inl rfl) kk
theorem cp_5_4 {k y pc o x n a : Nat} {al : AL} {r : List Value} {S : CS} {G : Nat → Nat → Value} {B : Nat → Nat → Int32} {J : Nat → Nat → Int64} {R : Nat → Nat → Option Nat} {Q : CQ} {v : Nat} (hd : decode (am_b y) pc = .ok (.putfield x, 3)) (ho : am_o y = o) (hl : am_fl o x = some (5, 4)) (ha : cs_in S.1 a) (hs : S.2 a = (100 + 5, n)) (hj : 4 < n) (kk : CR k y (pc + 3) al r S (up2 G a 4 (.ref v)) B J R Q) : CR k y pc al (.ref v :: .ref a :: r) S G B J R Q := cr_pf hd ho hl ha hs hj rfl rfl (Or.inl rfl) kk
theorem cp_5_5 {k y pc o x n a : Nat} {al : AL} {r : List Value} {S : CS} {G : Nat → Nat → Value} {B : Nat → Nat → Int32} {J : Nat → Nat → Int64} {R : Nat → Nat → Option Nat} {Q : CQ} {v : Int32} (hd : decode (am_b y) pc = .ok (.putfield x, 3)) (ho : am_o y = o) (hl : am_fl o x = some (5, 5)) (ha : cs_in S.1 a) (hs : S.2 a = (100 + 5, n)) (hj : 5 < n) (kk : CR k y (pc + 3) al r S (up2 G a 5 (.int v)) B J R Q) : CR k y pc al (.int v :: .ref a :: r) S G B J R Q := cr_pf hd ho hl ha hs hj rfl rfl (Or.inl rfl) kk
theorem cp_5_6 {k y pc o x n a : Nat} {al : AL} {r : List Value} {S : CS} {G : Nat → Nat → Value} {B : Nat → Nat → Int32} {J : Nat → Nat → Int64} {R : Nat → Nat → Option Nat} {Q : CQ} {v : Int32} (hd : decode (am_b y) pc = .ok (.putfield x, 3)) (ho : am_o y = o) (hl : am_fl o x = some (5, 6)) (ha : cs_in S.1 a) (hs : S.2 a = (100 + 5, n)) (hj : 6 < n) (kk : CR k y (pc + 3) al r S (up2 G a 6 (.int v)) B J R Q) : CR k y pc al (.int v :: .ref a :: r) S G B J R Q := cr_pf hd ho hl ha hs hj rfl rfl (Or.inl rfl) kk
theorem cp_5_7 {k y pc o x n a : Nat} {al : AL} {r : List Value} {S : CS} {G : Nat → Nat → Value} {B : Nat → Nat → Int32} {J : Nat → Nat → Int64} {R : Nat → Nat → Option Nat} {Q : CQ} {v : Int32} (hd : decode (am_b y) pc = .ok (.putfield x, 3)) (ho : am_o y = o) (hl : am_fl o x = some (5, 7)) (ha : cs_in S.1 a) (hs : S.2 a = (100 + 5, n)) (hj : 7 < n) (kk : CR k y (pc + 3) al r S (up2 G a 7 (.int v)) B J R Q) : CR k y pc al (.int v :: .ref a :: r) S G B J R Q := cr_pf hd ho hl ha hs hj rfl rfl (Or.inl rfl) kk
theorem cp_6_1 {k y pc o x n a : Nat} {al : AL} {r : List Value} {S : CS} {G : Nat → Nat → Value} {B : Nat → Nat → Int32} {J : Nat → Nat → Int64} {R : Nat → Nat → Option Nat} {Q : CQ} {v : Int32} (hd : decode (am_b y) pc = .ok (.putfield x, 3)) (ho : am_o y = o) (hl : am_fl o x = some (6, 1)) (ha : cs_in S.1 a) (hs : S.2 a = (100 + 6, n)) (hj : 1 < n) (kk : CR k y (pc + 3) al r S (up2 G a 1 (.int v)) B J R Q) : CR k y pc al (.int v :: .ref a :: r) S G B J R Q := cr_pf hd ho hl ha hs hj rfl rfl (Or.inl rfl) kk
theorem cp_8_0 {k y pc o x n a : Nat} {al : AL} {r : List Value} {S : CS} {G : Nat → Nat → Value} {B : Nat → Nat → Int32} {J : Nat → Nat → Int64} {R : Nat → Nat → Option Nat} {Q : CQ} {v : Int32} (hd : decode (am_b y) pc = .ok (.putfield x, 3)) (ho : am_o y = o) (hl : am_fl o x = some (8, 0)) (ha : cs_in S.1 a) (hs : S.2 a = (100 + 8, n)) (hj : 0 < n) (kk : CR k y (pc + 3) al r S (up2 G a 0 (.int v)) B J R Q) : CR k y pc al (.int v :: .ref a :: r) S G B J R Q := cr_pf hd ho hl ha hs hj rfl rfl (Or.inl rfl) kk
theorem cp_8_1 {k y pc o x n a : Nat} {al : AL} {r : List Value} {S : CS} {G : Nat → Nat → Value} {B : Nat → Nat → Int32} {J : Nat → Nat → Int64} {R : Nat → Nat → Option Nat} {Q : CQ} {v : Int32} (hd : decode (am_b y) pc = .ok (.putfield x, 3)) (ho : am_o y = o) (hl : am_fl o x = some (8, 1)) (ha : cs_in S.1 a) (hs : S.2 a = (100 + 8, n)) (hj : 1 < n) (kk : CR k y (pc + 3) al r S (up2 G a 1 (.int v)) B J R Q) : CR k y pc al (.int v :: .ref a :: r) S G B J R Q := cr_pf hd ho hl ha hs hj rfl rfl (Or.inl rfl) kk
theorem cp_8_8 {k y pc o x n a : Nat} {al : AL} {r : List Value} {S : CS} {G : Nat → Nat → Value} {B : Nat → Nat → Int32} {J : Nat → Nat → Int64} {R : Nat → Nat → Option Nat} {Q : CQ} {v : Int32} (hd : decode (am_b y) pc = .ok (.putfield x, 3)) (ho : am_o y = o) (hl : am_fl o x = some (8, 8)) (ha : cs_in S.1 a) (hs : S.2 a = (100 + 8, n)) (hj : 8 < n) (kk : CR k y (pc + 3) al r S (up2 G a 8 (.int v)) B J R Q) : CR k y pc al (.int v :: .ref a :: r) S G B J R Q := cr_pf hd ho hl ha hs hj rfl rfl (Or.inl rfl) kk
theorem cp_9_2 {k y pc o x n a : Nat} {al : AL} {r : List Value} {S : CS} {G : Nat → Nat → Value} {B : Nat → Nat → Int32} {J : Nat → Nat → Int64} {R : Nat → Nat → Option Nat} {Q : CQ} {v : Int32} (hd : decode (am_b y) pc = .ok (.putfield x, 3)) (ho : am_o y = o) (hl : am_fl o x = some (9, 2)) (ha : cs_in S.1 a) (hs : S.2 a = (100 + 9, n)) (hj : 2 < n) (kk : CR k y (pc + 3) al r S (up2 G a 2 (.int v)) B J R Q) : CR k y pc al (.int v :: .ref a :: r) S G B J R Q := cr_pf hd ho hl ha hs hj rfl rfl (Or.inl rfl) kk
theorem cp_9_3 {k y pc o x n a : Nat} {al : AL} {r : List Value} {S : CS} {G : Nat → Nat → Value} {B : Nat → Nat → Int32} {J : Nat → Nat → Int64} {R : Nat → Nat → Option Nat} {Q : CQ} {v : Int32} (hd : decode (am_b y) pc = .ok (.putfield x, 3)) (ho : am_o y = o) (hl : am_fl o x = some (9, 3)) (ha : cs_in S.1 a) (hs : S.2 a = (100 + 9, n)) (hj : 3 < n) (kk : CR k y (pc + 3) al r S (up2 G a 3 (.int v)) B J R Q) : CR k y pc al (.int v :: .ref a :: r) S G B J R Q := cr_pf hd ho hl ha hs hj rfl rfl (Or.inl rfl) kk
theorem cp_9_7 {k y pc o x n a : Nat} {al : AL} {r : List Value} {S : CS} {G : Nat → Nat → Value} {B : Nat → Nat → Int32} {J : Nat → Nat → Int64} {R : Nat → Nat → Option Nat} {Q : CQ} {v : Int32} (hd : decode (am_b y) pc = .ok (.putfield x, 3)) (ho : am_o y = o) (hl : am_fl o x = some (9, 7)) (ha : cs_in S.1 a) (hs : S.2 a = (100 + 9, n)) (hj : 7 < n) (kk : CR k y (pc + 3) al r S (up2 G a 7 (.int v)) B J R Q) : CR k y pc al (.int v :: .ref a :: r) S G B J R Q := cr_pf hd ho hl ha hs hj rfl rfl (Or.inl rfl) kk
theorem cp_9_8 {k y pc o x n a : Nat} {al : AL} {r : List Value} {S : CS} {G : Nat → Nat → Value} {B : Nat → Nat → Int32} {J : Nat → Nat → Int64} {R : Nat → Nat → Option Nat} {Q : CQ} {v : Int32} (hd : decode (am_b y) pc = .ok (.putfield x, 3)) (ho : am_o y = o) (hl : am_fl o x = some (9, 8)) (ha : cs_in S.1 a) (hs : S.2 a = (100 + 9, n)) (hj : 8 < n) (kk : CR k y (pc + 3) al r S (up2 G a 8 (.int v)) B J R Q) : CR k y pc al (.int v :: .ref a :: r) S G B J R Q := cr_pf hd ho hl ha hs hj rfl rfl (Or.inl rfl) kk
theorem cp_10_0 {k y pc o x n a : Nat} {al : AL} {r : List Value} {S : CS} {G : Nat → Nat → Value} {B : Nat → Nat → Int32} {J : Nat → Nat → Int64} {R : Nat → Nat → Option Nat} {Q : CQ} {v : Int32} (hd : decode (am_b y) pc = .ok (.putfield x, 3)) (ho : am_o y = o) (hl : am_fl o x = some (10, 0)) (ha : cs_in S.1 a) (hs : S.2 a = (100 + 10, n)) (hj : 0 < n) (kk : CR k y (pc + 3) al r S (up2 G a 0 (.int v)) B J R Q) : CR k y pc al (.int v :: .ref a :: r) S G B J R Q := cr_pf hd ho hl ha hs hj rfl rfl (Or.inl rfl) kk
theorem cp_11_3 {k y pc o x n a : Nat} {al : AL} {r : List Value} {S : CS} {G : Nat → Nat → Value} {B : Nat → Nat → Int32} {J : Nat → Nat → Int64} {R : Nat → Nat → Option Nat} {Q : CQ} {v : Int32} (hd : decode (am_b y) pc = .ok (.putfield x, 3)) (ho : am_o y = o) (hl : am_fl o x = some (11, 3)) (ha : cs_in S.1 a) (hs : S.2 a = (100 + 11, n)) (hj : 3 < n) (kk : CR k y (pc + 3) al r S (up2 G a 3 (.int v)) B J R Q) : CR k y pc al (.int v :: .ref a :: r) S G B J R Q := cr_pf hd ho hl ha hs hj rfl rfl (Or.inl rfl) kk
theorem cp_11_5 {k y pc o x n a : Nat} {al : AL} {r : List Value} {S : CS} {G : Nat → Nat → Value} {B : Nat → Nat → Int32} {J : Nat → Nat → Int64} {R : Nat → Nat → Option Nat} {Q : CQ} {v : Int32} (hd : decode (am_b y) pc = .ok (.putfield x, 3)) (ho : am_o y = o) (hl : am_fl o x = some (11, 5)) (ha : cs_in S.1 a) (hs : S.2 a = (100 + 11, n)) (hj : 5 < n) (kk : CR k y (pc + 3) al r S (up2 G a 5 (.int v)) B J R Q) : CR k y pc al (.int v :: .ref a :: r) S G B J R Q := cr_pf hd ho hl ha hs hj rfl rfl (Or.inl rfl) kk
theorem cp_11_16 {k y pc o x n a : Nat} {al : AL} {r : List Value} {S : CS} {G : Nat → Nat → Value} {B : Nat → Nat → Int32} {J : Nat → Nat → Int64} {R : Nat → Nat → Option Nat} {Q : CQ} {v : Int32} (hd : decode (am_b y) pc = .ok (.putfield x, 3)) (ho : am_o y = o) (hl : am_fl o x = some (11, 16)) (ha : cs_in S.1 a) (hs : S.2 a = (100 + 11, n)) (hj : 16 < n) (kk : CR k y (pc + 3) al r S (up2 G a 16 (.int v)) B J R Q) : CR k y pc al (.int v :: .ref a :: r) S G B J R Q := cr_pf hd ho hl ha hs hj rfl rfl (Or.inl rfl) kk
theorem cf_8_34 : am_fl 8 34 = some (10, 0) := by decide +kernel
theorem cf_0_29 : am_fl 0 29 = some (10, 0) := by decide +kernel
theorem cf_10_15 : am_fl 10 15 = some (10, 0) := by decide +kernel
theorem cf_6_38 : am_fl 6 38 = some (10, 0) := by decide +kernel
theorem cf_1_28 : am_fl 1 28 = some (10, 0) := by decide +kernel
theorem cf_7_21 : am_fl 7 21 = some (10, 0) := by decide +kernel
theorem cf_2_43 : am_fl 2 43 = some (10, 0) := by decide +kernel
theorem cf_5_48 : am_fl 5 48 = some (10, 0) := by decide +kernel
theorem cf_11_112 : am_fl 11 112 = some (10, 0) := by decide +kernel
theorem cf_9_64 : am_fl 9 64 = some (10, 0) := by decide +kernel
theorem cf_10_9 : am_fl 10 9 = some (10, 1) := by decide +kernel
theorem cf_0_38 : am_fl 0 38 = some (10, 1) := by decide +kernel
theorem cf_2_48 : am_fl 2 48 = some (10, 1) := by decide +kernel
theorem cf_11_122 : am_fl 11 122 = some (10, 1) := by decide +kernel
theorem cf_9_11 : am_fl 9 11 = some (9, 0) := by decide +kernel
theorem cf_11_140 : am_fl 11 140 = some (9, 0) := by decide +kernel
theorem cf_9_19 : am_fl 9 19 = some (9, 1) := by decide +kernel
theorem cf_11_241 : am_fl 11 241 = some (9, 1) := by decide +kernel
theorem cf_9_38 : am_fl 9 38 = some (9, 2) := by decide +kernel
theorem cf_11_231 : am_fl 11 231 = some (9, 2) := by decide +kernel
theorem cf_9_42 : am_fl 9 42 = some (9, 3) := by decide +kernel
theorem cf_11_342 : am_fl 11 342 = some (9, 3) := by decide +kernel
theorem cf_9_23 : am_fl 9 23 = some (9, 4) := by decide +kernel
theorem cf_11_345 : am_fl 11 345 = some (9, 4) := by decide +kernel
theorem cf_9_27 : am_fl 9 27 = some (9, 5) := by decide +kernel
theorem cf_9_30 : am_fl 9 30 = some (9, 6) := by decide +kernel
theorem cf_9_51 : am_fl 9 51 = some (9, 7) := by decide +kernel
theorem cf_11_206 : am_fl 11 206 = some (9, 7) := by decide +kernel
theorem cf_9_54 : am_fl 9 54 = some (9, 8) := by decide +kernel
theorem cf_11_215 : am_fl 11 215 = some (9, 8) := by decide +kernel
theorem cf_4_7 : am_fl 4 7 = some (4, 0) := by decide +kernel
theorem cf_4_26 : am_fl 4 26 = some (4, 1) := by decide +kernel
theorem cf_4_16 : am_fl 4 16 = some (4, 2) := by decide +kernel
theorem cf_4_29 : am_fl 4 29 = some (4, 3) := by decide +kernel
theorem cf_4_48 : am_fl 4 48 = some (4, 4) := by decide +kernel
theorem cf_4_13 : am_fl 4 13 = some (4, 5) := by decide +kernel
theorem cf_4_32 : am_fl 4 32 = some (4, 6) := by decide +kernel
theorem cf_4_35 : am_fl 4 35 = some (4, 7) := by decide +kernel
theorem cf_4_38 : am_fl 4 38 = some (4, 8) := by decide +kernel
theorem cf_0_35 : am_fl 0 35 = some (0, 0) := by decide +kernel
theorem cf_0_11 : am_fl 0 11 = some (0, 1) := by decide +kernel
theorem cf_0_41 : am_fl 0 41 = some (0, 2) := by decide +kernel
theorem cf_0_17 : am_fl 0 17 = some (0, 3) := by decide +kernel
theorem cf_0_20 : am_fl 0 20 = some (0, 4) := by decide +kernel
theorem cf_0_23 : am_fl 0 23 = some (0, 5) := by decide +kernel
theorem cf_0_26 : am_fl 0 26 = some (0, 6) := by decide +kernel
theorem cf_5_12 : am_fl 5 12 = some (5, 0) := by decide +kernel
theorem cf_11_271 : am_fl 11 271 = some (5, 0) := by decide +kernel
theorem cf_5_45 : am_fl 5 45 = some (5, 1) := by decide +kernel
theorem cf_11_268 : am_fl 11 268 = some (5, 1) := by decide +kernel
theorem cf_5_21 : am_fl 5 21 = some (5, 2) := by decide +kernel
theorem cf_5_25 : am_fl 5 25 = some (5, 3) := by decide +kernel
theorem cf_5_31 : am_fl 5 31 = some (5, 4) := by decide +kernel
theorem cf_5_35 : am_fl 5 35 = some (5, 5) := by decide +kernel
theorem cf_5_39 : am_fl 5 39 = some (5, 6) := by decide +kernel
theorem cf_5_42 : am_fl 5 42 = some (5, 7) := by decide +kernel
theorem cf_2_61 : am_fl 2 61 = some (2, 0) := by decide +kernel
theorem cf_2_9 : am_fl 2 9 = some (2, 1) := by decide +kernel
theorem cf_2_15 : am_fl 2 15 = some (2, 2) := by decide +kernel
theorem cf_2_18 : am_fl 2 18 = some (2, 3) := by decide +kernel
theorem cf_2_32 : am_fl 2 32 = some (2, 4) := by decide +kernel
theorem cf_2_21 : am_fl 2 21 = some (2, 5) := by decide +kernel
theorem cf_2_25 : am_fl 2 25 = some (2, 6) := by decide +kernel
theorem cf_6_12 : am_fl 6 12 = some (6, 0) := by decide +kernel
theorem cf_6_18 : am_fl 6 18 = some (6, 1) := by decide +kernel
theorem cf_6_22 : am_fl 6 22 = some (6, 2) := by decide +kernel
theorem cf_6_25 : am_fl 6 25 = some (6, 3) := by decide +kernel
theorem cf_6_28 : am_fl 6 28 = some (6, 4) := by decide +kernel
theorem cf_6_31 : am_fl 6 31 = some (6, 5) := by decide +kernel
theorem cf_6_35 : am_fl 6 35 = some (6, 6) := by decide +kernel
theorem cf_8_72 : am_fl 8 72 = some (8, 0) := by decide +kernel
theorem cf_11_336 : am_fl 11 336 = some (8, 0) := by decide +kernel
theorem cf_8_75 : am_fl 8 75 = some (8, 1) := by decide +kernel
theorem cf_11_339 : am_fl 11 339 = some (8, 1) := by decide +kernel
theorem cf_8_12 : am_fl 8 12 = some (8, 2) := by decide +kernel
theorem cf_8_18 : am_fl 8 18 = some (8, 3) := by decide +kernel
theorem cf_8_22 : am_fl 8 22 = some (8, 4) := by decide +kernel
theorem cf_8_25 : am_fl 8 25 = some (8, 5) := by decide +kernel
theorem cf_8_28 : am_fl 8 28 = some (8, 6) := by decide +kernel
theorem cf_8_31 : am_fl 8 31 = some (8, 7) := by decide +kernel
theorem cf_8_104 : am_fl 8 104 = some (8, 8) := by decide +kernel
theorem cf_1_10 : am_fl 1 10 = some (1, 0) := by decide +kernel
theorem cf_1_16 : am_fl 1 16 = some (1, 1) := by decide +kernel
theorem cf_1_20 : am_fl 1 20 = some (1, 2) := by decide +kernel
theorem cf_11_10 : am_fl 11 10 = some (11, 0) := by decide +kernel
theorem cf_11_16 : am_fl 11 16 = some (11, 1) := by decide +kernel
theorem cf_11_20 : am_fl 11 20 = some (11, 2) := by decide +kernel
theorem cf_11_93 : am_fl 11 93 = some (11, 3) := by decide +kernel
theorem cf_11_27 : am_fl 11 27 = some (11, 4) := by decide +kernel
theorem cf_11_31 : am_fl 11 31 = some (11, 5) := by decide +kernel
theorem cf_11_38 : am_fl 11 38 = some (11, 6) := by decide +kernel
theorem cf_11_42 : am_fl 11 42 = some (11, 7) := by decide +kernel
theorem cf_11_48 : am_fl 11 48 = some (11, 8) := by decide +kernel
theorem cf_11_55 : am_fl 11 55 = some (11, 9) := by decide +kernel
theorem cf_11_62 : am_fl 11 62 = some (11, 10) := by decide +kernel
theorem cf_11_69 : am_fl 11 69 = some (11, 11) := by decide +kernel
theorem cf_11_73 : am_fl 11 73 = some (11, 12) := by decide +kernel
theorem cf_11_79 : am_fl 11 79 = some (11, 13) := by decide +kernel
theorem cf_11_86 : am_fl 11 86 = some (11, 14) := by decide +kernel
theorem cf_11_90 : am_fl 11 90 = some (11, 15) := by decide +kernel
theorem cf_11_379 : am_fl 11 379 = some (11, 16) := by decide +kernel
theorem cf_3_7 : am_fl 3 7 = some (3, 0) := by decide +kernel
theorem cf_0_67 : am_fl 0 67 = some (3, 0) := by decide +kernel
theorem cf_3_13 : am_fl 3 13 = some (3, 1) := by decide +kernel
theorem cf_0_70 : am_fl 0 70 = some (3, 1) := by decide +kernel
theorem cf_3_17 : am_fl 3 17 = some (3, 2) := by decide +kernel
theorem cf_0_51 : am_fl 0 51 = some (3, 2) := by decide +kernel
theorem cm_13_9 : am_ml 13 9 = some (2, 113) := by decide +kernel
theorem cm_11_1 : am_ml 11 1 = some (6, 0) := by decide +kernel
theorem cm_11_9 : am_ml 11 9 = some (2, 80) := by decide +kernel
theorem cm_9_3 : am_ml 9 3 = some (6, 0) := by decide +kernel
theorem cm_9_33 : am_ml 9 33 = some (4, 89) := by decide +kernel
theorem cm_10_3 : am_ml 10 3 = some (6, 0) := by decide +kernel
theorem cm_11_26 : am_ml 11 26 = some (4, 24) := by decide +kernel
theorem cm_4_1 : am_ml 4 1 = some (6, 0) := by decide +kernel
theorem cm_11_37 : am_ml 11 37 = some (4, 89) := by decide +kernel
theorem cm_11_47 : am_ml 11 47 = some (4, 0) := by decide +kernel
theorem cm_0_5 : am_ml 0 5 = some (6, 0) := by decide +kernel
theorem cm_11_54 : am_ml 11 54 = some (4, 34) := by decide +kernel
theorem cm_5_3 : am_ml 5 3 = some (6, 0) := by decide +kernel
theorem cm_5_11 : am_ml 5 11 = some (4, 89) := by decide +kernel
theorem cm_5_20 : am_ml 5 20 = some (4, 0) := by decide +kernel
theorem cm_11_61 : am_ml 11 61 = some (4, 16) := by decide +kernel
theorem cm_2_3 : am_ml 2 3 = some (6, 0) := by decide +kernel
theorem cm_11_68 : am_ml 11 68 = some (4, 39) := by decide +kernel
theorem cm_6_3 : am_ml 6 3 = some (6, 0) := by decide +kernel
theorem cm_6_11 : am_ml 6 11 = some (4, 89) := by decide +kernel
theorem cm_11_78 : am_ml 11 78 = some (4, 66) := by decide +kernel
theorem cm_8_3 : am_ml 8 3 = some (6, 0) := by decide +kernel
theorem cm_8_11 : am_ml 8 11 = some (4, 89) := by decide +kernel
theorem cm_11_85 : am_ml 11 85 = some (4, 9) := by decide +kernel
theorem cm_1_1 : am_ml 1 1 = some (6, 0) := by decide +kernel
theorem cm_1_9 : am_ml 1 9 = some (4, 89) := by decide +kernel
theorem cm_13_13 : am_ml 13 13 = some (0, 114) := by decide +kernel
theorem cm_11_96 : am_ml 11 96 = some (0, 115) := by decide +kernel
theorem cm_13_18 : am_ml 13 18 = some (0, 116) := by decide +kernel
theorem cm_13_23 : am_ml 13 23 = some (0, 117) := by decide +kernel
theorem cm_11_100 : am_ml 11 100 = some (1, 118) := by decide +kernel
theorem cm_11_104 : am_ml 11 104 = some (0, 119) := by decide +kernel
theorem cm_11_108 : am_ml 11 108 = some (0, 120) := by decide +kernel
theorem cm_11_119 : am_ml 11 119 = some (1, 121) := by decide +kernel
theorem cm_11_125 : am_ml 11 125 = some (7, 0) := by decide +kernel
theorem cm_11_131 : am_ml 11 131 = some (0, 90) := by decide +kernel
theorem cm_10_23 : am_ml 10 23 = some (0, 91) := by decide +kernel
theorem cm_10_19 : am_ml 10 19 = some (0, 92) := by decide +kernel
theorem cm_11_115 : am_ml 11 115 = some (0, 122) := by decide +kernel
theorem cm_11_382 : am_ml 11 382 = some (0, 81) := by decide +kernel
theorem cm_9_57 : am_ml 9 57 = some (0, 82) := by decide +kernel
theorem cm_9_34 : am_ml 9 34 = some (0, 93) := by decide +kernel
theorem cm_10_27 : am_ml 10 27 = some (7, 0) := by decide +kernel
theorem cm_9_60 : am_ml 9 60 = some (0, 83) := by decide +kernel
theorem cm_11_212 : am_ml 11 212 = some (0, 123) := by decide +kernel
theorem cm_13_27 : am_ml 13 27 = some (0, 124) := by decide +kernel
theorem cm_11_134 : am_ml 11 134 = some (0, 94) := by decide +kernel
theorem cm_10_33 : am_ml 10 33 = some (0, 95) := by decide +kernel
theorem cm_13_32 : am_ml 13 32 = some (0, 125) := by decide +kernel
theorem cm_11_137 : am_ml 11 137 = some (0, 126) := by decide +kernel
theorem cm_11_144 : am_ml 11 144 = some (0, 93) := by decide +kernel
theorem cm_13_36 : am_ml 13 36 = some (0, 127) := by decide +kernel
theorem cm_11_148 : am_ml 11 148 = some (0, 92) := by decide +kernel
theorem cm_11_151 : am_ml 11 151 = some (0, 91) := by decide +kernel
theorem cm_11_154 : am_ml 11 154 = some (0, 96) := by decide +kernel
theorem cm_10_42 : am_ml 10 42 = some (0, 97) := by decide +kernel
theorem cm_13_41 : am_ml 13 41 = some (0, 128) := by decide +kernel
theorem cm_11_158 : am_ml 11 158 = some (0, 98) := by decide +kernel
theorem cm_10_45 : am_ml 10 45 = some (0, 99) := by decide +kernel
theorem cm_13_45 : am_ml 13 45 = some (0, 129) := by decide +kernel
theorem cm_11_165 : am_ml 11 165 = some (0, 67) := by decide +kernel
theorem cm_8_38 : am_ml 8 38 = some (0, 68) := by decide +kernel
theorem cm_8_42 : am_ml 8 42 = some (0, 91) := by decide +kernel
theorem cm_8_46 : am_ml 8 46 = some (0, 95) := by decide +kernel
theorem cm_13_49 : am_ml 13 49 = some (0, 130) := by decide +kernel
theorem cm_11_169 : am_ml 11 169 = some (0, 100) := by decide +kernel
theorem cm_11_173 : am_ml 11 173 = some (0, 101) := by decide +kernel
theorem cm_10_53 : am_ml 10 53 = some (0, 102) := by decide +kernel
theorem cm_11_177 : am_ml 11 177 = some (0, 103) := by decide +kernel
theorem cm_10_56 : am_ml 10 56 = some (3, 131) := by decide +kernel
theorem cm_11_181 : am_ml 11 181 = some (1, 290) := by decide +kernel
theorem cm_13_54 : am_ml 13 54 = some (0, 132) := by decide +kernel
theorem cm_11_186 : am_ml 11 186 = some (0, 104) := by decide +kernel
theorem cm_13_58 : am_ml 13 58 = some (0, 133) := by decide +kernel
theorem cm_11_190 : am_ml 11 190 = some (0, 105) := by decide +kernel
theorem cm_13_62 : am_ml 13 62 = some (0, 134) := by decide +kernel
theorem cm_11_193 : am_ml 11 193 = some (0, 106) := by decide +kernel
theorem cm_10_49 : am_ml 10 49 = some (0, 107) := by decide +kernel
theorem cm_11_197 : am_ml 11 197 = some (1, 46) := by decide +kernel
theorem cm_7_33 : am_ml 7 33 = some (1, 47) := by decide +kernel
theorem cm_7_9 : am_ml 7 9 = some (0, 108) := by decide +kernel
theorem cm_7_15 : am_ml 7 15 = some (1, 48) := by decide +kernel
theorem cm_7_25 : am_ml 7 25 = some (1, 49) := by decide +kernel
theorem cm_7_29 : am_ml 7 29 = some (0, 91) := by decide +kernel
theorem cm_7_37 : am_ml 7 37 = some (1, 50) := by decide +kernel
theorem cm_7_40 : am_ml 7 40 = some (1, 51) := by decide +kernel
theorem cm_7_43 : am_ml 7 43 = some (1, 52) := by decide +kernel
theorem cm_7_46 : am_ml 7 46 = some (1, 291) := by decide +kernel
theorem cm_11_203 : am_ml 11 203 = some (1, 53) := by decide +kernel
theorem cm_7_52 : am_ml 7 52 = some (1, 290) := by decide +kernel
theorem cm_7_55 : am_ml 7 55 = some (1, 54) := by decide +kernel
theorem cm_7_59 : am_ml 7 59 = some (0, 95) := by decide +kernel
theorem cm_13_66 : am_ml 13 66 = some (0, 135) := by decide +kernel
theorem cm_11_209 : am_ml 11 209 = some (0, 84) := by decide +kernel
theorem cm_13_71 : am_ml 13 71 = some (0, 136) := by decide +kernel
theorem cm_11_218 : am_ml 11 218 = some (0, 85) := by decide +kernel
theorem cm_13_75 : am_ml 13 75 = some (0, 137) := by decide +kernel
theorem cm_13_79 : am_ml 13 79 = some (0, 138) := by decide +kernel
theorem cm_11_221 : am_ml 11 221 = some (0, 102) := by decide +kernel
theorem cm_11_224 : am_ml 11 224 = some (0, 97) := by decide +kernel
theorem cm_13_83 : am_ml 13 83 = some (0, 139) := by decide +kernel
theorem cm_11_227 : am_ml 11 227 = some (0, 107) := by decide +kernel
theorem cm_13_87 : am_ml 13 87 = some (0, 140) := by decide +kernel
theorem cm_11_234 : am_ml 11 234 = some (0, 25) := by decide +kernel
theorem cm_4_20 : am_ml 4 20 = some (9, 0) := by decide +kernel
theorem cm_4_41 : am_ml 4 41 = some (0, 26) := by decide +kernel
theorem cm_4_76 : am_ml 4 76 = some (1, 27) := by decide +kernel
theorem cm_4_44 : am_ml 4 44 = some (0, 28) := by decide +kernel
theorem cm_4_62 : am_ml 4 62 = some (0, 29) := by decide +kernel
theorem cm_4_65 : am_ml 4 65 = some (0, 30) := by decide +kernel
theorem cm_4_73 : am_ml 4 73 = some (0, 31) := by decide +kernel
theorem cm_4_69 : am_ml 4 69 = some (0, 32) := by decide +kernel
theorem cm_4_53 : am_ml 4 53 = some (1, 292) := by decide +kernel
theorem cm_16_304 : am_ml 16 304 = some (9, 0) := by decide +kernel
theorem cm_16_150 : am_ml 16 150 = some (7, 0) := by decide +kernel
theorem cm_4_59 : am_ml 4 59 = some (2, 23) := by decide +kernel
theorem cm_3_1 : am_ml 3 1 = some (6, 0) := by decide +kernel
theorem cm_11_238 : am_ml 11 238 = some (0, 33) := by decide +kernel
theorem cm_13_91 : am_ml 13 91 = some (0, 141) := by decide +kernel
theorem cm_13_95 : am_ml 13 95 = some (0, 142) := by decide +kernel
theorem cm_11_245 : am_ml 11 245 = some (0, 143) := by decide +kernel
theorem cm_11_248 : am_ml 11 248 = some (0, 1) := by decide +kernel
theorem cm_0_45 : am_ml 0 45 = some (8, 0) := by decide +kernel
theorem cm_11_251 : am_ml 11 251 = some (0, 2) := by decide +kernel
theorem cm_0_56 : am_ml 0 56 = some (0, 3) := by decide +kernel
theorem cm_0_59 : am_ml 0 59 = some (0, 4) := by decide +kernel
theorem cm_0_63 : am_ml 0 63 = some (0, 5) := by decide +kernel
theorem cm_0_73 : am_ml 0 73 = some (0, 6) := by decide +kernel
theorem cm_0_77 : am_ml 0 77 = some (0, 7) := by decide +kernel
theorem cm_13_99 : am_ml 13 99 = some (0, 144) := by decide +kernel
theorem cm_11_255 : am_ml 11 255 = some (0, 8) := by decide +kernel
theorem cm_13_103 : am_ml 13 103 = some (0, 145) := by decide +kernel
theorem cm_11_258 : am_ml 11 258 = some (0, 146) := by decide +kernel
theorem cm_11_261 : am_ml 11 261 = some (0, 35) := by decide +kernel
theorem cm_11_265 : am_ml 11 265 = some (0, 36) := by decide +kernel
theorem cm_5_51 : am_ml 5 51 = some (0, 95) := by decide +kernel
theorem cm_5_55 : am_ml 5 55 = some (0, 37) := by decide +kernel
theorem cm_5_59 : am_ml 5 59 = some (0, 38) := by decide +kernel
theorem cm_5_63 : am_ml 5 63 = some (0, 1) := by decide +kernel
theorem cm_5_67 : am_ml 5 67 = some (0, 2) := by decide +kernel
theorem cm_13_107 : am_ml 13 107 = some (0, 147) := by decide +kernel
theorem cm_13_111 : am_ml 13 111 = some (0, 148) := by decide +kernel
theorem cm_11_274 : am_ml 11 274 = some (1, 55) := by decide +kernel
theorem cm_7_69 : am_ml 7 69 = some (1, 56) := by decide +kernel
theorem cm_7_79 : am_ml 7 79 = some (1, 57) := by decide +kernel
theorem cm_7_83 : am_ml 7 83 = some (1, 58) := by decide +kernel
theorem cm_7_72 : am_ml 7 72 = some (1, 59) := by decide +kernel
theorem cm_7_76 : am_ml 7 76 = some (1, 60) := by decide +kernel
theorem cm_13_115 : am_ml 13 115 = some (0, 149) := by decide +kernel
theorem cm_11_278 : am_ml 11 278 = some (1, 61) := by decide +kernel
theorem cm_11_282 : am_ml 11 282 = some (1, 62) := by decide +kernel
theorem cm_13_119 : am_ml 13 119 = some (0, 150) := by decide +kernel
theorem cm_11_285 : am_ml 11 285 = some (0, 108) := by decide +kernel
theorem cm_11_288 : am_ml 11 288 = some (1, 63) := by decide +kernel
theorem cm_13_123 : am_ml 13 123 = some (0, 151) := by decide +kernel
theorem cm_11_291 : am_ml 11 291 = some (1, 64) := by decide +kernel
theorem cm_7_63 : am_ml 7 63 = some (1, 46) := by decide +kernel
theorem cm_13_127 : am_ml 13 127 = some (0, 152) := by decide +kernel
theorem cm_11_295 : am_ml 11 295 = some (1, 65) := by decide +kernel
theorem cm_7_66 : am_ml 7 66 = some (1, 63) := by decide +kernel
theorem cm_13_131 : am_ml 13 131 = some (0, 153) := by decide +kernel
theorem cm_11_298 : am_ml 11 298 = some (0, 69) := by decide +kernel
theorem cm_8_98 : am_ml 8 98 = some (1, 293) := by decide +kernel
theorem cm_8_50 : am_ml 8 50 = some (3, 154) := by decide +kernel
theorem cm_8_107 : am_ml 8 107 = some (0, 70) := by decide +kernel
theorem cm_8_117 : am_ml 8 117 = some (0, 71) := by decide +kernel
theorem cm_8_121 : am_ml 8 121 = some (1, 290) := by decide +kernel
theorem cm_8_110 : am_ml 8 110 = some (0, 72) := by decide +kernel
theorem cm_8_114 : am_ml 8 114 = some (0, 73) := by decide +kernel
theorem cm_13_135 : am_ml 13 135 = some (0, 155) := by decide +kernel
theorem cm_11_302 : am_ml 11 302 = some (1, 156) := by decide +kernel
theorem cm_11_305 : am_ml 11 305 = some (0, 40) := by decide +kernel
theorem cm_6_41 : am_ml 6 41 = some (0, 109) := by decide +kernel
theorem cm_6_45 : am_ml 6 45 = some (0, 93) := by decide +kernel
theorem cm_6_49 : am_ml 6 49 = some (0, 41) := by decide +kernel
theorem cm_6_52 : am_ml 6 52 = some (3, 154) := by decide +kernel
theorem cm_6_56 : am_ml 6 56 = some (0, 42) := by decide +kernel
theorem cm_6_81 : am_ml 6 81 = some (0, 43) := by decide +kernel
theorem cm_6_70 : am_ml 6 70 = some (0, 91) := by decide +kernel
theorem cm_6_88 : am_ml 6 88 = some (0, 95) := by decide +kernel
theorem cm_6_84 : am_ml 6 84 = some (3, 157) := by decide +kernel
theorem cm_11_386 : am_ml 11 386 = some (1, 131) := by decide +kernel
theorem cm_6_60 : am_ml 6 60 = some (0, 98) := by decide +kernel
theorem cm_6_63 : am_ml 6 63 = some (0, 44) := by decide +kernel
theorem cm_6_66 : am_ml 6 66 = some (0, 96) := by decide +kernel
theorem cm_6_74 : am_ml 6 74 = some (0, 45) := by decide +kernel
theorem cm_13_139 : am_ml 13 139 = some (0, 158) := by decide +kernel
theorem cm_11_309 : am_ml 11 309 = some (0, 109) := by decide +kernel
theorem cm_13_143 : am_ml 13 143 = some (0, 159) := by decide +kernel
theorem cm_11_312 : am_ml 11 312 = some (0, 74) := by decide +kernel
theorem cm_8_57 : am_ml 8 57 = some (0, 75) := by decide +kernel
theorem cm_8_61 : am_ml 8 61 = some (3, 157) := by decide +kernel
theorem cm_11_315 : am_ml 11 315 = some (0, 76) := by decide +kernel
theorem cm_8_65 : am_ml 8 65 = some (0, 77) := by decide +kernel
theorem cm_8_69 : am_ml 8 69 = some (0, 102) := by decide +kernel
theorem cm_13_147 : am_ml 13 147 = some (0, 160) := by decide +kernel
theorem cm_11_318 : am_ml 11 318 = some (0, 10) := by decide +kernel
theorem cm_1_24 : am_ml 1 24 = some (0, 11) := by decide +kernel
theorem cm_1_31 : am_ml 1 31 = some (0, 91) := by decide +kernel
theorem cm_11_321 : am_ml 11 321 = some (0, 12) := by decide +kernel
theorem cm_1_35 : am_ml 1 35 = some (0, 10) := by decide +kernel
theorem cm_1_39 : am_ml 1 39 = some (0, 13) := by decide +kernel
theorem cm_11_324 : am_ml 11 324 = some (1, 14) := by decide +kernel
theorem cm_1_43 : am_ml 1 43 = some (1, 15) := by decide +kernel
theorem cm_13_151 : am_ml 13 151 = some (0, 161) := by decide +kernel
theorem cm_11_327 : am_ml 11 327 = some (0, 110) := by decide +kernel
theorem cm_10_60 : am_ml 10 60 = some (0, 101) := by decide +kernel
theorem cm_11_330 : am_ml 11 330 = some (0, 111) := by decide +kernel
theorem cm_10_64 : am_ml 10 64 = some (1, 290) := by decide +kernel
theorem cm_10_37 : am_ml 10 37 = some (8, 0) := by decide +kernel
theorem cm_13_155 : am_ml 13 155 = some (0, 162) := by decide +kernel
theorem cm_13_159 : am_ml 13 159 = some (0, 163) := by decide +kernel
theorem cm_11_333 : am_ml 11 333 = some (0, 78) := by decide +kernel
theorem cm_8_78 : am_ml 8 78 = some (0, 94) := by decide +kernel
theorem cm_8_82 : am_ml 8 82 = some (0, 79) := by decide +kernel
theorem cm_8_89 : am_ml 8 89 = some (0, 74) := by decide +kernel
theorem cm_8_93 : am_ml 8 93 = some (8, 0) := by decide +kernel
theorem cm_8_86 : am_ml 8 86 = some (0, 112) := by decide +kernel
theorem cm_13_163 : am_ml 13 163 = some (0, 164) := by decide +kernel
theorem cm_11_348 : am_ml 11 348 = some (1, 293) := by decide +kernel
theorem cm_13_167 : am_ml 13 167 = some (0, 165) := by decide +kernel
theorem cm_11_354 : am_ml 11 354 = some (0, 166) := by decide +kernel
theorem cm_13_171 : am_ml 13 171 = some (0, 167) := by decide +kernel
theorem cm_11_357 : am_ml 11 357 = some (0, 17) := by decide +kernel
theorem cm_2_28 : am_ml 2 28 = some (0, 18) := by decide +kernel
theorem cm_2_64 : am_ml 2 64 = some (1, 293) := by decide +kernel
theorem cm_2_35 : am_ml 2 35 = some (0, 19) := by decide +kernel
theorem cm_2_70 : am_ml 2 70 = some (0, 20) := by decide +kernel
theorem cm_2_78 : am_ml 2 78 = some (1, 290) := by decide +kernel
theorem cm_2_74 : am_ml 2 74 = some (3, 131) := by decide +kernel
theorem cm_13_175 : am_ml 13 175 = some (0, 168) := by decide +kernel
theorem cm_11_361 : am_ml 11 361 = some (0, 21) := by decide +kernel
theorem cm_2_39 : am_ml 2 39 = some (0, 17) := by decide +kernel
theorem cm_2_51 : am_ml 2 51 = some (7, 0) := by decide +kernel
theorem cm_2_57 : am_ml 2 57 = some (0, 22) := by decide +kernel
theorem cm_13_179 : am_ml 13 179 = some (0, 169) := by decide +kernel
theorem cm_13_183 : am_ml 13 183 = some (0, 170) := by decide +kernel
theorem cm_11_366 : am_ml 11 366 = some (1, 171) := by decide +kernel
theorem cm_13_187 : am_ml 13 187 = some (0, 172) := by decide +kernel
theorem cm_13_191 : am_ml 13 191 = some (0, 173) := by decide +kernel
theorem cm_11_370 : am_ml 11 370 = some (0, 86) := by decide +kernel
theorem cm_9_45 : am_ml 9 45 = some (7, 0) := by decide +kernel
theorem cm_13_195 : am_ml 13 195 = some (0, 174) := by decide +kernel
theorem cm_13_199 : am_ml 13 199 = some (0, 175) := by decide +kernel
theorem cm_11_373 : am_ml 11 373 = some (0, 87) := by decide +kernel
theorem cm_11_376 : am_ml 11 376 = some (0, 88) := by decide +kernel
theorem cm_13_203 : am_ml 13 203 = some (0, 176) := by decide +kernel
theorem cm_13_12 : am_ml 13 12 = some (2, 177) := by decide +kernel
theorem cm_13_194 : am_ml 13 194 = some (0, 178) := by decide +kernel
theorem cm_13_198 : am_ml 13 198 = some (0, 182) := by decide +kernel
theorem cm_13_78 : am_ml 13 78 = some (0, 183) := by decide +kernel
theorem cm_13_70 : am_ml 13 70 = some (0, 187) := by decide +kernel
theorem cm_13_74 : am_ml 13 74 = some (0, 188) := by decide +kernel
theorem cm_13_17 : am_ml 13 17 = some (0, 189) := by decide +kernel
theorem cm_13_22 : am_ml 13 22 = some (0, 190) := by decide +kernel
theorem cm_13_90 : am_ml 13 90 = some (0, 191) := by decide +kernel
theorem cm_13_94 : am_ml 13 94 = some (0, 205) := by decide +kernel
theorem cm_13_98 : am_ml 13 98 = some (0, 206) := by decide +kernel
theorem cm_13_102 : am_ml 13 102 = some (0, 221) := by decide +kernel
theorem cm_13_26 : am_ml 13 26 = some (0, 222) := by decide +kernel
theorem cm_13_31 : am_ml 13 31 = some (0, 225) := by decide +kernel
theorem cm_13_35 : am_ml 13 35 = some (0, 226) := by decide +kernel
theorem cm_13_40 : am_ml 13 40 = some (0, 227) := by decide +kernel
theorem cm_13_44 : am_ml 13 44 = some (0, 230) := by decide +kernel
theorem cm_13_48 : am_ml 13 48 = some (0, 232) := by decide +kernel
theorem cm_13_53 : am_ml 13 53 = some (0, 236) := by decide +kernel
theorem cm_13_57 : am_ml 13 57 = some (0, 238) := by decide +kernel
theorem cm_13_61 : am_ml 13 61 = some (0, 239) := by decide +kernel
theorem cm_13_82 : am_ml 13 82 = some (0, 240) := by decide +kernel
theorem cm_13_86 : am_ml 13 86 = some (0, 241) := by decide +kernel
theorem cm_13_65 : am_ml 13 65 = some (0, 242) := by decide +kernel
theorem cm_13_122 : am_ml 13 122 = some (0, 248) := by decide +kernel
theorem cm_13_126 : am_ml 13 126 = some (0, 249) := by decide +kernel
theorem cm_13_130 : am_ml 13 130 = some (0, 250) := by decide +kernel
theorem cm_13_114 : am_ml 13 114 = some (0, 251) := by decide +kernel
theorem cm_13_118 : am_ml 13 118 = some (0, 253) := by decide +kernel
theorem cm_13_134 : am_ml 13 134 = some (0, 255) := by decide +kernel
theorem cm_13_138 : am_ml 13 138 = some (0, 258) := by decide +kernel
theorem cm_13_142 : am_ml 13 142 = some (0, 261) := by decide +kernel
theorem cm_13_146 : am_ml 13 146 = some (0, 262) := by decide +kernel
theorem cm_13_150 : am_ml 13 150 = some (0, 264) := by decide +kernel
theorem cm_13_154 : am_ml 13 154 = some (0, 267) := by decide +kernel
theorem cm_13_158 : am_ml 13 158 = some (0, 268) := by decide +kernel
theorem cm_13_162 : am_ml 13 162 = some (0, 269) := by decide +kernel
theorem cm_13_106 : am_ml 13 106 = some (0, 271) := by decide +kernel
theorem cm_13_110 : am_ml 13 110 = some (0, 277) := by decide +kernel
theorem cm_13_166 : am_ml 13 166 = some (0, 278) := by decide +kernel
theorem cm_13_170 : am_ml 13 170 = some (0, 279) := by decide +kernel
theorem cm_13_174 : am_ml 13 174 = some (0, 281) := by decide +kernel
theorem cm_13_178 : am_ml 13 178 = some (0, 283) := by decide +kernel
theorem cm_13_182 : am_ml 13 182 = some (0, 284) := by decide +kernel
theorem cm_13_186 : am_ml 13 186 = some (0, 285) := by decide +kernel
theorem cm_13_190 : am_ml 13 190 = some (0, 287) := by decide +kernel
theorem cm_13_202 : am_ml 13 202 = some (0, 288) := by decide +kernel
theorem cm_13_206 : am_ml 13 206 = some (0, 289) := by decide +kernel
theorem cc_13_7 : am_cl 13 7 = some 11 := by decide +kernel
theorem cc_11_7 : am_cl 11 7 = some 9 := by decide +kernel
theorem cc_9_9 : am_cl 9 9 = some 10 := by decide +kernel
theorem cc_9_17 : am_cl 9 17 = some 3 := by decide +kernel
theorem cc_11_24 : am_cl 11 24 = some 4 := by decide +kernel
theorem cc_11_35 : am_cl 11 35 = some 10 := by decide +kernel
theorem cc_11_45 : am_cl 11 45 = some 0 := by decide +kernel
theorem cc_11_52 : am_cl 11 52 = some 5 := by decide +kernel
theorem cc_5_9 : am_cl 5 9 = some 10 := by decide +kernel
theorem cc_5_18 : am_cl 5 18 = some 0 := by decide +kernel
theorem cc_5_29 : am_cl 5 29 = some 3 := by decide +kernel
theorem cc_11_59 : am_cl 11 59 = some 2 := by decide +kernel
theorem cc_11_66 : am_cl 11 66 = some 6 := by decide +kernel
theorem cc_6_9 : am_cl 6 9 = some 10 := by decide +kernel
theorem cc_11_76 : am_cl 11 76 = some 8 := by decide +kernel
theorem cc_8_9 : am_cl 8 9 = some 10 := by decide +kernel
theorem cc_11_83 : am_cl 11 83 = some 1 := by decide +kernel
theorem cc_1_7 : am_cl 1 7 = some 10 := by decide +kernel
theorem cc_4_51 : am_cl 4 51 = some 3 := by decide +kernel
theorem cc_13_10 : am_cl 13 10 = some 12 := by decide +kernel
theorem cq_11_162 : am_sl 11 162 = some 0 := by decide +kernel
theorem cq_8_54 : am_sl 8 54 = some 1 := by decide +kernel
theorem cq_6_78 : am_sl 6 78 = some 1 := by decide +kernel
theorem ck_14_265 : am_ki 14 265 = some 1431655765 := by decide +kernel
theorem ck_14_266 : am_ki 14 266 = some 858993459 := by decide +kernel
theorem ck_14_267 : am_ki 14 267 = some 252645135 := by decide +kernel
theorem ck_14_264 : am_ki 14 264 = some 65536 := by decide +kernel
theorem ck_11_365 : am_ki 11 365 = some 1000000 := by decide +kernel
theorem ck_11_369 : am_ki 11 369 = some 1000003 := by decide +kernel
theorem ck_12_152 : am_ki 12 152 = some 1000000 := by decide +kernel
theorem cw_0 : am_o 0 = 0 := by decide +kernel
theorem cz_0 : am_np 0 = 0 ∧ am_L 0 = 1 := by decide +kernel
theorem cx_0 : am_r 0 = none := by decide +kernel
theorem cw_1 : am_o 1 = 0 := by decide +kernel
theorem cz_1 : am_np 1 = 2 ∧ am_L 1 = 3 := by decide +kernel
theorem cx_1 : am_r 1 = none := by decide +kernel
theorem cw_2 : am_o 2 = 0 := by decide +kernel
theorem cz_2 : am_np 2 = 2 ∧ am_L 2 = 10 := by decide +kernel
theorem cx_2 : am_r 2 = some .int := by decide +kernel
theorem cw_3 : am_o 3 = 0 := by decide +kernel
theorem cz_3 : am_np 3 = 0 ∧ am_L 3 = 4 := by decide +kernel
theorem cx_3 : am_r 3 = none := by decide +kernel
theorem cw_4 : am_o 4 = 0 := by decide +kernel
theorem cz_4 : am_np 4 = 2 ∧ am_L 4 = 3 := by decide +kernel
theorem cx_4 : am_r 4 = some .int := by decide +kernel
theorem cw_5 : am_o 5 = 0 := by decide +kernel
theorem cz_5 : am_np 5 = 1 ∧ am_L 5 = 2 := by decide +kernel
theorem cx_5 : am_r 5 = some .boolean := by decide +kernel
theorem cw_6 : am_o 6 = 0 := by decide +kernel
theorem cz_6 : am_np 6 = 3 ∧ am_L 6 = 7 := by decide +kernel
theorem cx_6 : am_r 6 = some .boolean := by decide +kernel
theorem cw_7 : am_o 7 = 0 := by decide +kernel
theorem cz_7 : am_np 7 = 2 ∧ am_L 7 = 3 := by decide +kernel
theorem cx_7 : am_r 7 = some .int := by decide +kernel
theorem cw_8 : am_o 8 = 0 := by decide +kernel
theorem cz_8 : am_np 8 = 1 ∧ am_L 8 = 2 := by decide +kernel
theorem cx_8 : am_r 8 = some .int := by decide +kernel
theorem cw_9 : am_o 9 = 1 := by decide +kernel
theorem cz_9 : am_np 9 = 0 ∧ am_L 9 = 1 := by decide +kernel
theorem cx_9 : am_r 9 = none := by decide +kernel
theorem cw_10 : am_o 10 = 1 := by decide +kernel
theorem cz_10 : am_np 10 = 1 ∧ am_L 10 = 2 := by decide +kernel
theorem cx_10 : am_r 10 = some .int := by decide +kernel
theorem cw_11 : am_o 11 = 1 := by decide +kernel
theorem cz_11 : am_np 11 = 4 ∧ am_L 11 = 8 := by decide +kernel
theorem cx_11 : am_r 11 = none := by decide +kernel
theorem cw_12 : am_o 12 = 1 := by decide +kernel
theorem cz_12 : am_np 12 = 1 ∧ am_L 12 = 2 := by decide +kernel
theorem cx_12 : am_r 12 = some .int := by decide +kernel
theorem cw_13 : am_o 13 = 1 := by decide +kernel
theorem cz_13 : am_np 13 = 2 ∧ am_L 13 = 6 := by decide +kernel
theorem cx_13 : am_r 13 = some .int := by decide +kernel
theorem cw_14 : am_o 14 = 1 := by decide +kernel
theorem cz_14 : am_np 14 = 1 ∧ am_L 14 = 4 := by decide +kernel
theorem cx_14 : am_r 14 = some .int := by decide +kernel
theorem cw_15 : am_o 15 = 1 := by decide +kernel
theorem cz_15 : am_np 15 = 3 ∧ am_L 15 = 6 := by decide +kernel
theorem cx_15 : am_r 15 = some .int := by decide +kernel
theorem cw_16 : am_o 16 = 2 := by decide +kernel
theorem cz_16 : am_np 16 = 0 ∧ am_L 16 = 1 := by decide +kernel
theorem cx_16 : am_r 16 = none := by decide +kernel
theorem cw_17 : am_o 17 = 2 := by decide +kernel
theorem cz_17 : am_np 17 = 3 ∧ am_L 17 = 4 := by decide +kernel
theorem cx_17 : am_r 17 = some .int := by decide +kernel
theorem cw_18 : am_o 18 = 2 := by decide +kernel
theorem cz_18 : am_np 18 = 2 ∧ am_L 18 = 6 := by decide +kernel
theorem cx_18 : am_r 18 = some .boolean := by decide +kernel
theorem cw_19 : am_o 19 = 2 := by decide +kernel
theorem cz_19 : am_np 19 = 1 ∧ am_L 19 = 8 := by decide +kernel
theorem cx_19 : am_r 19 = none := by decide +kernel
theorem cw_20 : am_o 20 = 2 := by decide +kernel
theorem cz_20 : am_np 20 = 1 ∧ am_L 20 = 7 := by decide +kernel
theorem cx_20 : am_r 20 = some .int := by decide +kernel
theorem cw_21 : am_o 21 = 2 := by decide +kernel
theorem cz_21 : am_np 21 = 3 ∧ am_L 21 = 5 := by decide +kernel
theorem cx_21 : am_r 21 = some .boolean := by decide +kernel
theorem cw_22 : am_o 22 = 2 := by decide +kernel
theorem cz_22 : am_np 22 = 2 ∧ am_L 22 = 4 := by decide +kernel
theorem cx_22 : am_r 22 = none := by decide +kernel
theorem cw_23 : am_o 23 = 3 := by decide +kernel
theorem cz_23 : am_np 23 = 3 ∧ am_L 23 = 4 := by decide +kernel
theorem cx_23 : am_r 23 = none := by decide +kernel
theorem cw_24 : am_o 24 = 4 := by decide +kernel
theorem cz_24 : am_np 24 = 0 ∧ am_L 24 = 1 := by decide +kernel
theorem cx_24 : am_r 24 = none := by decide +kernel
theorem cw_25 : am_o 25 = 4 := by decide +kernel
theorem cz_25 : am_np 25 = 2 ∧ am_L 25 = 4 := by decide +kernel
theorem cx_25 : am_r 25 = some (.object "LoopTables$Law") := by decide +kernel
theorem cw_26 : am_o 26 = 4 := by decide +kernel
theorem cz_26 : am_np 26 = 0 ∧ am_L 26 = 2 := by decide +kernel
theorem cx_26 : am_r 26 = none := by decide +kernel
theorem cw_27 : am_o 27 = 4 := by decide +kernel
theorem cz_27 : am_np 27 = 1 ∧ am_L 27 = 1 := by decide +kernel
theorem cx_27 : am_r 27 = some .int := by decide +kernel
theorem cw_28 : am_o 28 = 4 := by decide +kernel
theorem cz_28 : am_np 28 = 0 ∧ am_L 28 = 2 := by decide +kernel
theorem cx_28 : am_r 28 = some .boolean := by decide +kernel
theorem cw_29 : am_o 29 = 4 := by decide +kernel
theorem cz_29 : am_np 29 = 0 ∧ am_L 29 = 1 := by decide +kernel
theorem cx_29 : am_r 29 = some .boolean := by decide +kernel
theorem cw_30 : am_o 30 = 4 := by decide +kernel
theorem cz_30 : am_np 30 = 1 ∧ am_L 30 = 4 := by decide +kernel
theorem cx_30 : am_r 30 = some .boolean := by decide +kernel
theorem cw_31 : am_o 31 = 4 := by decide +kernel
theorem cz_31 : am_np 31 = 1 ∧ am_L 31 = 2 := by decide +kernel
theorem cx_31 : am_r 31 = some .boolean := by decide +kernel
theorem cw_32 : am_o 32 = 4 := by decide +kernel
theorem cz_32 : am_np 32 = 1 ∧ am_L 32 = 2 := by decide +kernel
theorem cx_32 : am_r 32 = none := by decide +kernel
theorem cw_33 : am_o 33 = 4 := by decide +kernel
theorem cz_33 : am_np 33 = 0 ∧ am_L 33 = 1 := by decide +kernel
theorem cx_33 : am_r 33 = some .int := by decide +kernel
theorem cw_34 : am_o 34 = 5 := by decide +kernel
theorem cz_34 : am_np 34 = 0 ∧ am_L 34 = 1 := by decide +kernel
theorem cx_34 : am_r 34 = none := by decide +kernel
theorem cw_35 : am_o 35 = 5 := by decide +kernel
theorem cz_35 : am_np 35 = 3 ∧ am_L 35 = 4 := by decide +kernel
theorem cx_35 : am_r 35 = none := by decide +kernel
theorem cw_36 : am_o 36 = 5 := by decide +kernel
theorem cz_36 : am_np 36 = 2 ∧ am_L 36 = 4 := by decide +kernel
theorem cx_36 : am_r 36 = some .boolean := by decide +kernel
theorem cw_37 : am_o 37 = 5 := by decide +kernel
theorem cz_37 : am_np 37 = 3 ∧ am_L 37 = 9 := by decide +kernel
theorem cx_37 : am_r 37 = some .boolean := by decide +kernel
theorem cw_38 : am_o 38 = 5 := by decide +kernel
theorem cz_38 : am_np 38 = 0 ∧ am_L 38 = 5 := by decide +kernel
theorem cx_38 : am_r 38 = some .boolean := by decide +kernel
theorem cw_39 : am_o 39 = 6 := by decide +kernel
theorem cz_39 : am_np 39 = 0 ∧ am_L 39 = 1 := by decide +kernel
theorem cx_39 : am_r 39 = none := by decide +kernel
theorem cw_40 : am_o 40 = 6 := by decide +kernel
theorem cz_40 : am_np 40 = 2 ∧ am_L 40 = 4 := by decide +kernel
theorem cx_40 : am_r 40 = some (.object "LoopTables$Table") := by decide +kernel
theorem cw_41 : am_o 41 = 6 := by decide +kernel
theorem cz_41 : am_np 41 = 0 ∧ am_L 41 = 3 := by decide +kernel
theorem cx_41 : am_r 41 = none := by decide +kernel
theorem cw_42 : am_o 42 = 6 := by decide +kernel
theorem cz_42 : am_np 42 = 2 ∧ am_L 42 = 5 := by decide +kernel
theorem cx_42 : am_r 42 = none := by decide +kernel
theorem cw_43 : am_o 43 = 6 := by decide +kernel
theorem cz_43 : am_np 43 = 1 ∧ am_L 43 = 7 := by decide +kernel
theorem cx_43 : am_r 43 = none := by decide +kernel
theorem cw_44 : am_o 44 = 6 := by decide +kernel
theorem cz_44 : am_np 44 = 0 ∧ am_L 44 = 4 := by decide +kernel
theorem cx_44 : am_r 44 = none := by decide +kernel
theorem cw_45 : am_o 45 = 6 := by decide +kernel
theorem cz_45 : am_np 45 = 1 ∧ am_L 45 = 3 := by decide +kernel
theorem cx_45 : am_r 45 = none := by decide +kernel
theorem cw_46 : am_o 46 = 7 := by decide +kernel
theorem cz_46 : am_np 46 = 2 ∧ am_L 46 = 2 := by decide +kernel
theorem cx_46 : am_r 46 = some .boolean := by decide +kernel
theorem cw_47 : am_o 47 = 7 := by decide +kernel
theorem cz_47 : am_np 47 = 2 ∧ am_L 47 = 2 := by decide +kernel
theorem cx_47 : am_r 47 = some .boolean := by decide +kernel
theorem cw_48 : am_o 48 = 7 := by decide +kernel
theorem cz_48 : am_np 48 = 2 ∧ am_L 48 = 4 := by decide +kernel
theorem cx_48 : am_r 48 = some .int := by decide +kernel
theorem cw_49 : am_o 49 = 7 := by decide +kernel
theorem cz_49 : am_np 49 = 3 ∧ am_L 49 = 5 := by decide +kernel
theorem cx_49 : am_r 49 = some .int := by decide +kernel
theorem cw_50 : am_o 50 = 7 := by decide +kernel
theorem cz_50 : am_np 50 = 2 ∧ am_L 50 = 6 := by decide +kernel
theorem cx_50 : am_r 50 = some .boolean := by decide +kernel
theorem cw_51 : am_o 51 = 7 := by decide +kernel
theorem cz_51 : am_np 51 = 2 ∧ am_L 51 = 6 := by decide +kernel
theorem cx_51 : am_r 51 = some .boolean := by decide +kernel
theorem cw_52 : am_o 52 = 7 := by decide +kernel
theorem cz_52 : am_np 52 = 3 ∧ am_L 52 = 3 := by decide +kernel
theorem cx_52 : am_r 52 = some .int := by decide +kernel
theorem cw_53 : am_o 53 = 7 := by decide +kernel
theorem cz_53 : am_np 53 = 3 ∧ am_L 53 = 7 := by decide +kernel
theorem cx_53 : am_r 53 = none := by decide +kernel
theorem cw_54 : am_o 54 = 7 := by decide +kernel
theorem cz_54 : am_np 54 = 4 ∧ am_L 54 = 5 := by decide +kernel
theorem cx_54 : am_r 54 = some .int := by decide +kernel
theorem cw_55 : am_o 55 = 7 := by decide +kernel
theorem cz_55 : am_np 55 = 2 ∧ am_L 55 = 2 := by decide +kernel
theorem cx_55 : am_r 55 = some .int := by decide +kernel
theorem cw_56 : am_o 56 = 7 := by decide +kernel
theorem cz_56 : am_np 56 = 2 ∧ am_L 56 = 4 := by decide +kernel
theorem cx_56 : am_r 56 = some .int := by decide +kernel
theorem cw_57 : am_o 57 = 7 := by decide +kernel
theorem cz_57 : am_np 57 = 3 ∧ am_L 57 = 6 := by decide +kernel
theorem cx_57 : am_r 57 = some .boolean := by decide +kernel
theorem cw_58 : am_o 58 = 7 := by decide +kernel
theorem cz_58 : am_np 58 = 4 ∧ am_L 58 = 4 := by decide +kernel
theorem cx_58 : am_r 58 = some .boolean := by decide +kernel
theorem cw_59 : am_o 59 = 7 := by decide +kernel
theorem cz_59 : am_np 59 = 1 ∧ am_L 59 = 1 := by decide +kernel
theorem cx_59 : am_r 59 = some .int := by decide +kernel
theorem cw_60 : am_o 60 = 7 := by decide +kernel
theorem cz_60 : am_np 60 = 1 ∧ am_L 60 = 4 := by decide +kernel
theorem cx_60 : am_r 60 = some .int := by decide +kernel
theorem cw_61 : am_o 61 = 7 := by decide +kernel
theorem cz_61 : am_np 61 = 1 ∧ am_L 61 = 5 := by decide +kernel
theorem cx_61 : am_r 61 = some .int := by decide +kernel
theorem cw_62 : am_o 62 = 7 := by decide +kernel
theorem cz_62 : am_np 62 = 1 ∧ am_L 62 = 4 := by decide +kernel
theorem cx_62 : am_r 62 = some .int := by decide +kernel
theorem cw_63 : am_o 63 = 7 := by decide +kernel
theorem cz_63 : am_np 63 = 2 ∧ am_L 63 = 4 := by decide +kernel
theorem cx_63 : am_r 63 = some .int := by decide +kernel
theorem cw_64 : am_o 64 = 7 := by decide +kernel
theorem cz_64 : am_np 64 = 2 ∧ am_L 64 = 4 := by decide +kernel
theorem cx_64 : am_r 64 = some .int := by decide +kernel
theorem cw_65 : am_o 65 = 7 := by decide +kernel
theorem cz_65 : am_np 65 = 1 ∧ am_L 65 = 5 := by decide +kernel
theorem cx_65 : am_r 65 = some .int := by decide +kernel
theorem cw_66 : am_o 66 = 8 := by decide +kernel
theorem cz_66 : am_np 66 = 0 ∧ am_L 66 = 1 := by decide +kernel
theorem cx_66 : am_r 66 = none := by decide +kernel
theorem cw_67 : am_o 67 = 8 := by decide +kernel
theorem cz_67 : am_np 67 = 3 ∧ am_L 67 = 7 := by decide +kernel
theorem cx_67 : am_r 67 = none := by decide +kernel
theorem cw_68 : am_o 68 = 8 := by decide +kernel
theorem cz_68 : am_np 68 = 2 ∧ am_L 68 = 6 := by decide +kernel
theorem cx_68 : am_r 68 = none := by decide +kernel
theorem cw_69 : am_o 69 = 8 := by decide +kernel
theorem cz_69 : am_np 69 = 3 ∧ am_L 69 = 7 := by decide +kernel
theorem cx_69 : am_r 69 = some .int := by decide +kernel
theorem cw_70 : am_o 70 = 8 := by decide +kernel
theorem cz_70 : am_np 70 = 1 ∧ am_L 70 = 3 := by decide +kernel
theorem cx_70 : am_r 70 = none := by decide +kernel
theorem cw_71 : am_o 71 = 8 := by decide +kernel
theorem cz_71 : am_np 71 = 1 ∧ am_L 71 = 7 := by decide +kernel
theorem cx_71 : am_r 71 = some .int := by decide +kernel
theorem cw_72 : am_o 72 = 8 := by decide +kernel
theorem cz_72 : am_np 72 = 2 ∧ am_L 72 = 4 := by decide +kernel
theorem cx_72 : am_r 72 = none := by decide +kernel
theorem cw_73 : am_o 73 = 8 := by decide +kernel
theorem cz_73 : am_np 73 = 2 ∧ am_L 73 = 4 := by decide +kernel
theorem cx_73 : am_r 73 = none := by decide +kernel
theorem cw_74 : am_o 74 = 8 := by decide +kernel
theorem cz_74 : am_np 74 = 1 ∧ am_L 74 = 4 := by decide +kernel
theorem cx_74 : am_r 74 = some .int := by decide +kernel
theorem cw_75 : am_o 75 = 8 := by decide +kernel
theorem cz_75 : am_np 75 = 3 ∧ am_L 75 = 7 := by decide +kernel
theorem cx_75 : am_r 75 = some .int := by decide +kernel
theorem cw_76 : am_o 76 = 8 := by decide +kernel
theorem cz_76 : am_np 76 = 1 ∧ am_L 76 = 5 := by decide +kernel
theorem cx_76 : am_r 76 = some .int := by decide +kernel
theorem cw_77 : am_o 77 = 8 := by decide +kernel
theorem cz_77 : am_np 77 = 2 ∧ am_L 77 = 6 := by decide +kernel
theorem cx_77 : am_r 77 = some .boolean := by decide +kernel
theorem cw_78 : am_o 78 = 8 := by decide +kernel
theorem cz_78 : am_np 78 = 1 ∧ am_L 78 = 2 := by decide +kernel
theorem cx_78 : am_r 78 = none := by decide +kernel
theorem cw_79 : am_o 79 = 8 := by decide +kernel
theorem cz_79 : am_np 79 = 1 ∧ am_L 79 = 7 := by decide +kernel
theorem cx_79 : am_r 79 = none := by decide +kernel
theorem cw_80 : am_o 80 = 9 := by decide +kernel
theorem cz_80 : am_np 80 = 0 ∧ am_L 80 = 2 := by decide +kernel
theorem cx_80 : am_r 80 = none := by decide +kernel
theorem cw_81 : am_o 81 = 9 := by decide +kernel
theorem cz_81 : am_np 81 = 2 ∧ am_L 81 = 3 := by decide +kernel
theorem cx_81 : am_r 81 = none := by decide +kernel
theorem cw_82 : am_o 82 = 9 := by decide +kernel
theorem cz_82 : am_np 82 = 0 ∧ am_L 82 = 3 := by decide +kernel
theorem cx_82 : am_r 82 = none := by decide +kernel
theorem cw_83 : am_o 83 = 9 := by decide +kernel
theorem cz_83 : am_np 83 = 1 ∧ am_L 83 = 3 := by decide +kernel
theorem cx_83 : am_r 83 = none := by decide +kernel
theorem cw_84 : am_o 84 = 9 := by decide +kernel
theorem cz_84 : am_np 84 = 0 ∧ am_L 84 = 1 := by decide +kernel
theorem cx_84 : am_r 84 = none := by decide +kernel
theorem cw_85 : am_o 85 = 9 := by decide +kernel
theorem cz_85 : am_np 85 = 0 ∧ am_L 85 = 1 := by decide +kernel
theorem cx_85 : am_r 85 = none := by decide +kernel
theorem cw_86 : am_o 86 = 9 := by decide +kernel
theorem cz_86 : am_np 86 = 1 ∧ am_L 86 = 3 := by decide +kernel
theorem cx_86 : am_r 86 = none := by decide +kernel
theorem cw_87 : am_o 87 = 9 := by decide +kernel
theorem cz_87 : am_np 87 = 0 ∧ am_L 87 = 3 := by decide +kernel
theorem cx_87 : am_r 87 = some .int := by decide +kernel
theorem cw_88 : am_o 88 = 9 := by decide +kernel
theorem cz_88 : am_np 88 = 0 ∧ am_L 88 = 3 := by decide +kernel
theorem cx_88 : am_r 88 = some .int := by decide +kernel
theorem cw_89 : am_o 89 = 10 := by decide +kernel
theorem cz_89 : am_np 89 = 0 ∧ am_L 89 = 1 := by decide +kernel
theorem cx_89 : am_r 89 = none := by decide +kernel
theorem cw_90 : am_o 90 = 10 := by decide +kernel
theorem cz_90 : am_np 90 = 0 ∧ am_L 90 = 6 := by decide +kernel
theorem cx_90 : am_r 90 = some .boolean := by decide +kernel
theorem cw_91 : am_o 91 = 10 := by decide +kernel
theorem cz_91 : am_np 91 = 2 ∧ am_L 91 = 3 := by decide +kernel
theorem cx_91 : am_r 91 = some .int := by decide +kernel
theorem cw_92 : am_o 92 = 10 := by decide +kernel
theorem cz_92 : am_np 92 = 1 ∧ am_L 92 = 2 := by decide +kernel
theorem cx_92 : am_r 92 = some .boolean := by decide +kernel
theorem cw_93 : am_o 93 = 10 := by decide +kernel
theorem cz_93 : am_np 93 = 1 ∧ am_L 93 = 2 := by decide +kernel
theorem cx_93 : am_r 93 = none := by decide +kernel
theorem cw_94 : am_o 94 = 10 := by decide +kernel
theorem cz_94 : am_np 94 = 1 ∧ am_L 94 = 4 := by decide +kernel
theorem cx_94 : am_r 94 = none := by decide +kernel
theorem cw_95 : am_o 95 = 10 := by decide +kernel
theorem cz_95 : am_np 95 = 3 ∧ am_L 95 = 4 := by decide +kernel
theorem cx_95 : am_r 95 = none := by decide +kernel
theorem cw_96 : am_o 96 = 10 := by decide +kernel
theorem cz_96 : am_np 96 = 3 ∧ am_L 96 = 7 := by decide +kernel
theorem cx_96 : am_r 96 = none := by decide +kernel
theorem cw_97 : am_o 97 = 10 := by decide +kernel
theorem cz_97 : am_np 97 = 2 ∧ am_L 97 = 4 := by decide +kernel
theorem cx_97 : am_r 97 = some .int := by decide +kernel
theorem cw_98 : am_o 98 = 10 := by decide +kernel
theorem cz_98 : am_np 98 = 2 ∧ am_L 98 = 5 := by decide +kernel
theorem cx_98 : am_r 98 = none := by decide +kernel
theorem cw_99 : am_o 99 = 10 := by decide +kernel
theorem cz_99 : am_np 99 = 4 ∧ am_L 99 = 5 := by decide +kernel
theorem cx_99 : am_r 99 = none := by decide +kernel
theorem cw_100 : am_o 100 = 10 := by decide +kernel
theorem cz_100 : am_np 100 = 2 ∧ am_L 100 = 3 := by decide +kernel
theorem cx_100 : am_r 100 = some .boolean := by decide +kernel
theorem cw_101 : am_o 101 = 10 := by decide +kernel
theorem cz_101 : am_np 101 = 3 ∧ am_L 101 = 7 := by decide +kernel
theorem cx_101 : am_r 101 = some .int := by decide +kernel
theorem cw_102 : am_o 102 = 10 := by decide +kernel
theorem cz_102 : am_np 102 = 2 ∧ am_L 102 = 4 := by decide +kernel
theorem cx_102 : am_r 102 = some .int := by decide +kernel
theorem cw_103 : am_o 103 = 10 := by decide +kernel
theorem cz_103 : am_np 103 = 3 ∧ am_L 103 = 5 := by decide +kernel
theorem cx_103 : am_r 103 = none := by decide +kernel
theorem cw_104 : am_o 104 = 10 := by decide +kernel
theorem cz_104 : am_np 104 = 2 ∧ am_L 104 = 8 := by decide +kernel
theorem cx_104 : am_r 104 = none := by decide +kernel
theorem cw_105 : am_o 105 = 10 := by decide +kernel
theorem cz_105 : am_np 105 = 2 ∧ am_L 105 = 8 := by decide +kernel
theorem cx_105 : am_r 105 = none := by decide +kernel
theorem cw_106 : am_o 106 = 10 := by decide +kernel
theorem cz_106 : am_np 106 = 0 ∧ am_L 106 = 1 := by decide +kernel
theorem cx_106 : am_r 106 = some .int := by decide +kernel
theorem cw_107 : am_o 107 = 10 := by decide +kernel
theorem cz_107 : am_np 107 = 2 ∧ am_L 107 = 5 := by decide +kernel
theorem cx_107 : am_r 107 = some .int := by decide +kernel
theorem cw_108 : am_o 108 = 10 := by decide +kernel
theorem cz_108 : am_np 108 = 1 ∧ am_L 108 = 2 := by decide +kernel
theorem cx_108 : am_r 108 = some .boolean := by decide +kernel
theorem cw_109 : am_o 109 = 10 := by decide +kernel
theorem cz_109 : am_np 109 = 1 ∧ am_L 109 = 4 := by decide +kernel
theorem cx_109 : am_r 109 = some .int := by decide +kernel
theorem cw_110 : am_o 110 = 10 := by decide +kernel
theorem cz_110 : am_np 110 = 2 ∧ am_L 110 = 6 := by decide +kernel
theorem cx_110 : am_r 110 = some .int := by decide +kernel
theorem cw_111 : am_o 111 = 10 := by decide +kernel
theorem cz_111 : am_np 111 = 2 ∧ am_L 111 = 5 := by decide +kernel
theorem cx_111 : am_r 111 = some .int := by decide +kernel
theorem cw_112 : am_o 112 = 10 := by decide +kernel
theorem cz_112 : am_np 112 = 1 ∧ am_L 112 = 7 := by decide +kernel
theorem cx_112 : am_r 112 = none := by decide +kernel
theorem cw_113 : am_o 113 = 11 := by decide +kernel
theorem cz_113 : am_np 113 = 0 ∧ am_L 113 = 1 := by decide +kernel
theorem cx_113 : am_r 113 = none := by decide +kernel
theorem cw_114 : am_o 114 = 11 := by decide +kernel
theorem cz_114 : am_np 114 = 5 ∧ am_L 114 = 6 := by decide +kernel
theorem cx_114 : am_r 114 = some .int := by decide +kernel
theorem cw_115 : am_o 115 = 11 := by decide +kernel
theorem cz_115 : am_np 115 = 1 ∧ am_L 115 = 3 := by decide +kernel
theorem cx_115 : am_r 115 = none := by decide +kernel
theorem cw_116 : am_o 116 = 11 := by decide +kernel
theorem cz_116 : am_np 116 = 1 ∧ am_L 116 = 2 := by decide +kernel
theorem cx_116 : am_r 116 = some .int := by decide +kernel
theorem cw_117 : am_o 117 = 11 := by decide +kernel
theorem cz_117 : am_np 117 = 1 ∧ am_L 117 = 3 := by decide +kernel
theorem cx_117 : am_r 117 = some .int := by decide +kernel
theorem cw_118 : am_o 118 = 11 := by decide +kernel
theorem cz_118 : am_np 118 = 1 ∧ am_L 118 = 1 := by decide +kernel
theorem cx_118 : am_r 118 = some .boolean := by decide +kernel
theorem cw_119 : am_o 119 = 11 := by decide +kernel
theorem cz_119 : am_np 119 = 1 ∧ am_L 119 = 2 := by decide +kernel
theorem cx_119 : am_r 119 = some .int := by decide +kernel
theorem cw_120 : am_o 120 = 11 := by decide +kernel
theorem cz_120 : am_np 120 = 0 ∧ am_L 120 = 2 := by decide +kernel
theorem cx_120 : am_r 120 = some .boolean := by decide +kernel
theorem cw_121 : am_o 121 = 11 := by decide +kernel
theorem cz_121 : am_np 121 = 1 ∧ am_L 121 = 1 := by decide +kernel
theorem cx_121 : am_r 121 = some .boolean := by decide +kernel
theorem cw_122 : am_o 122 = 11 := by decide +kernel
theorem cz_122 : am_np 122 = 2 ∧ am_L 122 = 3 := by decide +kernel
theorem cx_122 : am_r 122 = some .int := by decide +kernel
theorem cw_123 : am_o 123 = 11 := by decide +kernel
theorem cz_123 : am_np 123 = 1 ∧ am_L 123 = 2 := by decide +kernel
theorem cx_123 : am_r 123 = some .int := by decide +kernel
theorem cw_124 : am_o 124 = 11 := by decide +kernel
theorem cz_124 : am_np 124 = 2 ∧ am_L 124 = 3 := by decide +kernel
theorem cx_124 : am_r 124 = some .int := by decide +kernel
theorem cw_125 : am_o 125 = 11 := by decide +kernel
theorem cz_125 : am_np 125 = 2 ∧ am_L 125 = 3 := by decide +kernel
theorem cx_125 : am_r 125 = some .int := by decide +kernel
theorem cw_126 : am_o 126 = 11 := by decide +kernel
theorem cz_126 : am_np 126 = 1 ∧ am_L 126 = 2 := by decide +kernel
theorem cx_126 : am_r 126 = some .boolean := by decide +kernel
theorem cw_127 : am_o 127 = 11 := by decide +kernel
theorem cz_127 : am_np 127 = 3 ∧ am_L 127 = 6 := by decide +kernel
theorem cx_127 : am_r 127 = some .int := by decide +kernel
theorem cw_128 : am_o 128 = 11 := by decide +kernel
theorem cz_128 : am_np 128 = 2 ∧ am_L 128 = 3 := by decide +kernel
theorem cx_128 : am_r 128 = some .int := by decide +kernel
theorem cw_129 : am_o 129 = 11 := by decide +kernel
theorem cz_129 : am_np 129 = 2 ∧ am_L 129 = 4 := by decide +kernel
theorem cx_129 : am_r 129 = some .int := by decide +kernel
theorem cw_130 : am_o 130 = 11 := by decide +kernel
theorem cz_130 : am_np 130 = 4 ∧ am_L 130 = 7 := by decide +kernel
theorem cx_130 : am_r 130 = some .int := by decide +kernel
theorem cw_131 : am_o 131 = 11 := by decide +kernel
theorem cz_131 : am_np 131 = 3 ∧ am_L 131 = 4 := by decide +kernel
theorem cx_131 : am_r 131 = none := by decide +kernel
theorem cw_132 : am_o 132 = 11 := by decide +kernel
theorem cz_132 : am_np 132 = 3 ∧ am_L 132 = 4 := by decide +kernel
theorem cx_132 : am_r 132 = some .int := by decide +kernel
theorem cw_133 : am_o 133 = 11 := by decide +kernel
theorem cz_133 : am_np 133 = 3 ∧ am_L 133 = 4 := by decide +kernel
theorem cx_133 : am_r 133 = some .int := by decide +kernel
theorem cw_134 : am_o 134 = 11 := by decide +kernel
theorem cz_134 : am_np 134 = 3 ∧ am_L 134 = 5 := by decide +kernel
theorem cx_134 : am_r 134 = some .int := by decide +kernel
theorem cw_135 : am_o 135 = 11 := by decide +kernel
theorem cz_135 : am_np 135 = 0 ∧ am_L 135 = 1 := by decide +kernel
theorem cx_135 : am_r 135 = some .int := by decide +kernel
theorem cw_136 : am_o 136 = 11 := by decide +kernel
theorem cz_136 : am_np 136 = 0 ∧ am_L 136 = 1 := by decide +kernel
theorem cx_136 : am_r 136 = some .int := by decide +kernel
theorem cw_137 : am_o 137 = 11 := by decide +kernel
theorem cz_137 : am_np 137 = 1 ∧ am_L 137 = 2 := by decide +kernel
theorem cx_137 : am_r 137 = some .int := by decide +kernel
theorem cw_138 : am_o 138 = 11 := by decide +kernel
theorem cz_138 : am_np 138 = 4 ∧ am_L 138 = 6 := by decide +kernel
theorem cx_138 : am_r 138 = some .int := by decide +kernel
theorem cw_139 : am_o 139 = 11 := by decide +kernel
theorem cz_139 : am_np 139 = 2 ∧ am_L 139 = 3 := by decide +kernel
theorem cx_139 : am_r 139 = some .int := by decide +kernel
theorem cw_140 : am_o 140 = 11 := by decide +kernel
theorem cz_140 : am_np 140 = 0 ∧ am_L 140 = 3 := by decide +kernel
theorem cx_140 : am_r 140 = some .int := by decide +kernel
theorem cw_141 : am_o 141 = 11 := by decide +kernel
theorem cz_141 : am_np 141 = 0 ∧ am_L 141 = 1 := by decide +kernel
theorem cx_141 : am_r 141 = some .int := by decide +kernel
theorem cw_142 : am_o 142 = 11 := by decide +kernel
theorem cz_142 : am_np 142 = 2 ∧ am_L 142 = 3 := by decide +kernel
theorem cx_142 : am_r 142 = some .int := by decide +kernel
theorem cw_143 : am_o 143 = 11 := by decide +kernel
theorem cz_143 : am_np 143 = 1 ∧ am_L 143 = 2 := by decide +kernel
theorem cx_143 : am_r 143 = some .boolean := by decide +kernel
theorem cw_144 : am_o 144 = 11 := by decide +kernel
theorem cz_144 : am_np 144 = 3 ∧ am_L 144 = 5 := by decide +kernel
theorem cx_144 : am_r 144 = some .int := by decide +kernel
theorem cw_145 : am_o 145 = 11 := by decide +kernel
theorem cz_145 : am_np 145 = 3 ∧ am_L 145 = 4 := by decide +kernel
theorem cx_145 : am_r 145 = some .int := by decide +kernel
theorem cw_146 : am_o 146 = 11 := by decide +kernel
theorem cz_146 : am_np 146 = 1 ∧ am_L 146 = 2 := by decide +kernel
theorem cx_146 : am_r 146 = some .boolean := by decide +kernel
theorem cw_147 : am_o 147 = 11 := by decide +kernel
theorem cz_147 : am_np 147 = 5 ∧ am_L 147 = 6 := by decide +kernel
theorem cx_147 : am_r 147 = some .int := by decide +kernel
theorem cw_148 : am_o 148 = 11 := by decide +kernel
theorem cz_148 : am_np 148 = 2 ∧ am_L 148 = 3 := by decide +kernel
theorem cx_148 : am_r 148 = some .int := by decide +kernel
theorem cw_149 : am_o 149 = 11 := by decide +kernel
theorem cz_149 : am_np 149 = 2 ∧ am_L 149 = 3 := by decide +kernel
theorem cx_149 : am_r 149 = some .int := by decide +kernel
theorem cw_150 : am_o 150 = 11 := by decide +kernel
theorem cz_150 : am_np 150 = 2 ∧ am_L 150 = 3 := by decide +kernel
theorem cx_150 : am_r 150 = some .int := by decide +kernel
theorem cw_151 : am_o 151 = 11 := by decide +kernel
theorem cz_151 : am_np 151 = 2 ∧ am_L 151 = 4 := by decide +kernel
theorem cx_151 : am_r 151 = some .int := by decide +kernel
theorem cw_152 : am_o 152 = 11 := by decide +kernel
theorem cz_152 : am_np 152 = 2 ∧ am_L 152 = 4 := by decide +kernel
theorem cx_152 : am_r 152 = some .int := by decide +kernel
theorem cw_153 : am_o 153 = 11 := by decide +kernel
theorem cz_153 : am_np 153 = 2 ∧ am_L 153 = 3 := by decide +kernel
theorem cx_153 : am_r 153 = some .int := by decide +kernel
theorem cw_154 : am_o 154 = 11 := by decide +kernel
theorem cz_154 : am_np 154 = 1 ∧ am_L 154 = 2 := by decide +kernel
theorem cx_154 : am_r 154 = none := by decide +kernel
theorem cw_155 : am_o 155 = 11 := by decide +kernel
theorem cz_155 : am_np 155 = 3 ∧ am_L 155 = 5 := by decide +kernel
theorem cx_155 : am_r 155 = some .int := by decide +kernel
theorem cw_156 : am_o 156 = 11 := by decide +kernel
theorem cz_156 : am_np 156 = 1 ∧ am_L 156 = 1 := by decide +kernel
theorem cx_156 : am_r 156 = some .boolean := by decide +kernel
theorem cw_157 : am_o 157 = 11 := by decide +kernel
theorem cz_157 : am_np 157 = 3 ∧ am_L 157 = 6 := by decide +kernel
theorem cx_157 : am_r 157 = none := by decide +kernel
theorem cw_158 : am_o 158 = 11 := by decide +kernel
theorem cz_158 : am_np 158 = 3 ∧ am_L 158 = 6 := by decide +kernel
theorem cx_158 : am_r 158 = some .int := by decide +kernel
theorem cw_159 : am_o 159 = 11 := by decide +kernel
theorem cz_159 : am_np 159 = 2 ∧ am_L 159 = 3 := by decide +kernel
theorem cx_159 : am_r 159 = some .int := by decide +kernel
theorem cw_160 : am_o 160 = 11 := by decide +kernel
theorem cz_160 : am_np 160 = 2 ∧ am_L 160 = 3 := by decide +kernel
theorem cx_160 : am_r 160 = some .int := by decide +kernel
theorem cw_161 : am_o 161 = 11 := by decide +kernel
theorem cz_161 : am_np 161 = 4 ∧ am_L 161 = 5 := by decide +kernel
theorem cx_161 : am_r 161 = some .int := by decide +kernel
theorem cw_162 : am_o 162 = 11 := by decide +kernel
theorem cz_162 : am_np 162 = 2 ∧ am_L 162 = 3 := by decide +kernel
theorem cx_162 : am_r 162 = some .int := by decide +kernel
theorem cw_163 : am_o 163 = 11 := by decide +kernel
theorem cz_163 : am_np 163 = 2 ∧ am_L 163 = 3 := by decide +kernel
theorem cx_163 : am_r 163 = some .int := by decide +kernel
theorem cw_164 : am_o 164 = 11 := by decide +kernel
theorem cz_164 : am_np 164 = 1 ∧ am_L 164 = 2 := by decide +kernel
theorem cx_164 : am_r 164 = some .int := by decide +kernel
theorem cw_165 : am_o 165 = 11 := by decide +kernel
theorem cz_165 : am_np 165 = 3 ∧ am_L 165 = 6 := by decide +kernel
theorem cx_165 : am_r 165 = some .int := by decide +kernel
theorem cw_166 : am_o 166 = 11 := by decide +kernel
theorem cz_166 : am_np 166 = 2 ∧ am_L 166 = 3 := by decide +kernel
theorem cx_166 : am_r 166 = some .boolean := by decide +kernel
theorem cw_167 : am_o 167 = 11 := by decide +kernel
theorem cz_167 : am_np 167 = 0 ∧ am_L 167 = 1 := by decide +kernel
theorem cx_167 : am_r 167 = some .int := by decide +kernel
theorem cw_168 : am_o 168 = 11 := by decide +kernel
theorem cz_168 : am_np 168 = 1 ∧ am_L 168 = 3 := by decide +kernel
theorem cx_168 : am_r 168 = some .int := by decide +kernel
theorem cw_169 : am_o 169 = 11 := by decide +kernel
theorem cz_169 : am_np 169 = 2 ∧ am_L 169 = 7 := by decide +kernel
theorem cx_169 : am_r 169 = some .int := by decide +kernel
theorem cw_170 : am_o 170 = 11 := by decide +kernel
theorem cz_170 : am_np 170 = 3 ∧ am_L 170 = 10 := by decide +kernel
theorem cx_170 : am_r 170 = some .int := by decide +kernel
theorem cw_171 : am_o 171 = 11 := by decide +kernel
theorem cz_171 : am_np 171 = 1 ∧ am_L 171 = 1 := by decide +kernel
theorem cx_171 : am_r 171 = some .int := by decide +kernel
theorem cw_172 : am_o 172 = 11 := by decide +kernel
theorem cz_172 : am_np 172 = 2 ∧ am_L 172 = 3 := by decide +kernel
theorem cx_172 : am_r 172 = some .int := by decide +kernel
theorem cw_173 : am_o 173 = 11 := by decide +kernel
theorem cz_173 : am_np 173 = 1 ∧ am_L 173 = 2 := by decide +kernel
theorem cx_173 : am_r 173 = some .int := by decide +kernel
theorem cw_174 : am_o 174 = 11 := by decide +kernel
theorem cz_174 : am_np 174 = 1 ∧ am_L 174 = 2 := by decide +kernel
theorem cx_174 : am_r 174 = some .int := by decide +kernel
theorem cw_175 : am_o 175 = 11 := by decide +kernel
theorem cz_175 : am_np 175 = 1 ∧ am_L 175 = 2 := by decide +kernel
theorem cx_175 : am_r 175 = some .int := by decide +kernel
theorem cw_176 : am_o 176 = 11 := by decide +kernel
theorem cz_176 : am_np 176 = 0 ∧ am_L 176 = 1 := by decide +kernel
theorem cx_176 : am_r 176 = some .int := by decide +kernel
theorem cw_290 : am_o 290 = 14 := by decide +kernel
theorem cz_290 : am_np 290 = 1 ∧ am_L 290 = 1 := by decide +kernel
theorem cx_290 : am_r 290 = some .int := by decide +kernel
theorem cw_291 : am_o 291 = 14 := by decide +kernel
theorem cz_291 : am_np 291 = 1 ∧ am_L 291 = 2 := by decide +kernel
theorem cx_291 : am_r 291 = some .int := by decide +kernel
theorem cw_292 : am_o 292 = 16 := by decide +kernel
theorem cz_292 : am_np 292 = 2 ∧ am_L 292 = 3 := by decide +kernel
theorem cx_292 : am_r 292 = some (.array .int) := by decide +kernel
theorem cw_293 : am_o 293 = 16 := by decide +kernel
theorem cz_293 : am_np 293 = 2 ∧ am_L 293 = 4 := by decide +kernel
theorem cx_293 : am_r 293 = none := by decide +kernel
