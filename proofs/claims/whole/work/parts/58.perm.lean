/-! Permutations by their numbers: what is finite is reckoned. -/
/-- the first place from e on, within f places, where p holds -/
def fst (p : Nat → Bool) : Nat → Nat → Nat
  | 0, e => e
  | f + 1, e => if p e = true then e else fst p f (e + 1)
def SB (l e : Nat) : Nat := SM (fun k => l / 2 ^ k &&& 1) e
/-- the w-th bit of l -/
def pmF (l w : Nat) : Nat := fst (fun e => l.testBit e && (SB l e == w)) 6 0
/-- what is left, and the rest of the number, ahead of place k -/
def pmS (n r : Nat) : Nat → Nat × Nat
  | 0 => (1 * 2 ^ n - 1, r)
  | k + 1 => match pmS n r k with
    | (l, s) => (l &&& ((1 * 2 ^ pmF l (s / FA (n - 1 - k))) ^^^ 4294967295), s % FA (n - 1 - k))
def pmE (n r k : Nat) : Nat := match pmS n r k with
  | (l, s) => pmF l (s / FA (n - 1 - k))
def pmCk (n r k : Nat) : Bool := match pmS n r k with
  | (l, s) => match pmF l (s / FA (n - 1 - k)) with
    | e => decide (e < n) && l.testBit e && (SB l e == s / FA (n - 1 - k)) && decide (l < 64) && decide (s < 720)
theorem pm_ck : (List.range 7).all (fun n => (List.range (FA n)).all fun r => (List.range n).all fun k => pmCk n r k) = true := by decide +kernel
def pmIn (n r : Nat) : Bool := (List.range n).all fun i => (List.range i).all fun j => pmE n r i != pmE n r j
theorem pm_in : (List.range 7).all (fun n => (List.range (FA n)).all fun r => pmIn n r) = true := by decide +kernel
/-- the next permutation from place fi on -/
def flD (fi : Nat) (a : Nat → Nat) : Nat → Nat
  | 0 => 0
  | f + 1 => if fi < f + 1 ∧ a (f + 1) < a f then flD fi a f else f + 1
def rvD (f n : Nat) (a : Nat → Nat) (k : Nat) : Nat := if f ≤ k ∧ k < n then a (f + (n - 1) - k) else a k
def grD (b : Nat → Nat) (v n : Nat) : Nat → Nat → Nat
  | 0, g => g
  | t + 1, g => if g < n - 1 ∧ b g < v then grD b v n t (g + 1) else g
def swD (b : Nat → Nat) (i k q : Nat) : Nat := if q = k then b i else if q = i then b k else b q
def nxG (fi n : Nat) (a : Nat → Nat) (f : Nat) : Nat → Nat := if f ≤ fi then rvD f n a else swD (rvD f n a) (f - 1) (grD (rvD f n a) (rvD f n a (f - 1)) n n f)
def nxP (fi n : Nat) (a : Nat → Nat) : Nat → Nat := nxG fi n a (flD fi a (n - 1))
def nxCk (n r : Nat) : Bool := (List.range n).all fun k => nxP 0 n (pmE n r) k == pmE n (r + 1) k
theorem nx_ck : (List.range 7).all (fun n => (List.range (FA n - 1)).all fun r => nxCk n r) = true := by decide +kernel
theorem pm_0 : (List.range 7).all (fun n => (List.range n).all fun k => pmE n 0 k == k) = true := by decide +kernel
