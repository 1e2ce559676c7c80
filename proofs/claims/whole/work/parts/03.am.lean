/-! THE ABSTRACT MACHINE: a heap is a list of cells (an array with its kind, or an object with its class and fields), an address is a place in it;
place 0 is the static row FACTORIALS, place 1 the script: both are only read. A run is a function of fuel. -/
abbrev AC : Type := (Nat × vp_A) ⊕ (Nat × List Value)
abbrev AH : Type := List AC
abbrev AL : Type := List (Option Value)
abbrev AR : Type := (Nat × AL × List Value × AH) ⊕ (Nat × List Value × List Value) ⊕ Option Value
def am_C (c : Nat) : String := am_cn.getD c ""
def am_T (c : Nat) : u_T := fun k => (am_FT.getD c []).getD k ("", "", "", false)
def am_N (c : Nat) : Nat := (am_FT.getD c []).length
def am_ty (c k : Nat) : FieldType := (am_TY.getD c []).getD k .int
def am_me (y : Nat) : MethodName × ByteArray × Nat × Option FieldType × Nat × Nat × Nat := am_mt.getD y (⟨"", "", ""⟩, ByteArray.empty, 0, none, 0, 0, 0)
def am_y (y : Nat) : MethodName := (am_me y).1
def am_b (y : Nat) : ByteArray := (am_me y).2.1
def am_L (y : Nat) : Nat := (am_me y).2.2.1
def am_r (y : Nat) : Option FieldType := (am_me y).2.2.2.1
def am_o (y : Nat) : Nat := (am_me y).2.2.2.2.1
def am_np (y : Nat) : Nat := (am_me y).2.2.2.2.2.1
def am_fl (o i : Nat) : Option (Nat × Nat) := (am_fls.find? (fun e => e.1 == o && e.2.1 == i)).map (fun e => (e.2.2.1, e.2.2.2.1))
def am_sl (o i : Nat) : Option Nat := (am_sls.find? (fun e => e.1 == o && e.2.1 == i)).map (fun e => e.2.2.1)
def am_ml (o i : Nat) : Option (Nat × Nat) := (am_mls.find? (fun e => e.1 == o && e.2.1 == i)).map (fun e => (e.2.2.1, e.2.2.2.1))
def am_cl (o i : Nat) : Option Nat := (am_cls.find? (fun e => e.1 == o && e.2.1 == i)).map (fun e => e.2.2.1)
def am_ki (o i : Nat) : Option Int32 := (am_kis.find? (fun e => e.1 == o && e.2.1 == i)).map (fun e => e.2.2.1)
def am_kl (o i : Nat) : Option Int64 := (am_kls.find? (fun e => e.1 == o && e.2.1 == i)).map (fun e => e.2.2.1)
/-- kinds of arrays: 0 int, 1 byte, 2 boolean, 3 long; 4 + c: of objects of class c -/
def am_tix (t : Nat) : Option Nat := if t = 0 then some 0 else if t = 1 then some 1 else if t = 2 then some 2 else if t = 3 then some 3 else if t = 7 then some 4 else if t = 13 then some 5 else if t = 14 then some 6 else none
def am_z (c : AC) : Nat := match c with
  | .inl a => a.2.1
  | .inr o => o.2.length
def am_sz : AH → Nat
  | [] => 0
  | c :: h => am_z c + am_sz h
def am_nx (pc : Nat) (al : AL) (st : List Value) (h : AH) : Option AR := some (.inl (pc, al, st, h))
def am_in (i : Int32) (n : Nat) : Bool := !(decide (i < 0) || decide (n ≤ i.toNatClampNeg))
def am_tg (pc : Nat) (off : Int) : Option Nat := if 0 ≤ (pc : Int) + off then some ((pc : Int) + off).toNat else none
def am_jp (pc : Nat) (off : Int) (al : AL) (st : List Value) (h : AH) : Option AR := (am_tg pc off).bind fun t => am_nx t al st h
def am_bi (f : Int32 → Int32 → Int32) (pc : Nat) (al : AL) (st : List Value) (h : AH) : Option AR := match st with
  | .int y :: .int x :: r => am_nx (pc + 1) al (.int (f x y) :: r) h
  | _ => none
def am_bl (f : Int64 → Int64 → Int64) (pc : Nat) (al : AL) (st : List Value) (h : AH) : Option AR := match st with
  | .long y :: .long x :: r => am_nx (pc + 1) al (.long (f x y) :: r) h
  | _ => none
def am_sh (f : Int64 → Int32 → Int64) (pc : Nat) (al : AL) (st : List Value) (h : AH) : Option AR := match st with
  | .int y :: .long x :: r => am_nx (pc + 1) al (.long (f x y) :: r) h
  | _ => none
def am_il (k pc' : Nat) (al : AL) (st : List Value) (h : AH) : Option AR := match al[k]? with
  | some (some (.int x)) => am_nx pc' al (.int x :: st) h
  | _ => none
def am_ll (k pc' : Nat) (al : AL) (st : List Value) (h : AH) : Option AR := match al[k]? with
  | some (some (.long x)) => am_nx pc' al (.long x :: st) h
  | _ => none
def am_al (k pc' : Nat) (al : AL) (st : List Value) (h : AH) : Option AR := match al[k]? with
  | some (some (.ref x)) => am_nx pc' al (.ref x :: st) h
  | some (some .null) => am_nx pc' al (.null :: st) h
  | _ => none
/-- storing a value of one slot: not behind a long -/
def am_cs (al : AL) (k : Nat) : Bool := decide (k < al.length) && (match k with
  | 0 => true
  | j + 1 => match al[j]? with
    | some (some v) => v.category == 1
    | _ => true)
def am_is (k pc' : Nat) (al : AL) (st : List Value) (h : AH) : Option AR := match st with
  | .int x :: r => if am_cs al k then am_nx pc' (al.set k (some (.int x))) r h else none
  | _ => none
def am_as (k pc' : Nat) (al : AL) (st : List Value) (h : AH) : Option AR := match st with
  | .ref x :: r => if am_cs al k then am_nx pc' (al.set k (some (.ref x))) r h else none
  | .null :: r => if am_cs al k then am_nx pc' (al.set k (some .null)) r h else none
  | _ => none
def am_ic (k : Nat) (n : Int) (pc : Nat) (al : AL) (st : List Value) (h : AH) : Option AR := match al[k]? with
  | some (some (.int x)) => if am_cs al k then am_nx (pc + 3) (al.set k (some (.int (x + Int32.ofInt n)))) st h else none
  | _ => none
def am_cp (c : ClassFile.Cond) (x y : Int32) : Bool := match c with
  | .eq => decide (x = y)
  | .ne => decide (¬ x = y)
  | .lt => decide (x < y)
  | .ge => decide (y ≤ x)
  | .gt => decide (y < x)
  | .le => decide (x ≤ y)
def am_if (c : ClassFile.Cond) (off : Int) (pc : Nat) (al : AL) (st : List Value) (h : AH) : Option AR := match st with
  | .int x :: r => (am_tg pc off).bind fun t => if am_cp c x 0 then am_nx t al r h else am_nx (pc + 3) al r h
  | _ => none
def am_ii (c : ClassFile.Cond) (off : Int) (pc : Nat) (al : AL) (st : List Value) (h : AH) : Option AR := match st with
  | .int y :: .int x :: r => (am_tg pc off).bind fun t => if am_cp c x y then am_nx t al r h else am_nx (pc + 3) al r h
  | _ => none
def am_ts (dflt lo hi : Int) (offs : Array Int) (pc : Nat) (al : AL) (st : List Value) (h : AH) : Option AR := match st with
  | .int x :: r => if x.toInt < lo ∨ hi < x.toInt then am_jp pc dflt al r h else (offs[(x.toInt - lo).toNat]?).bind fun off => am_jp pc off al r h
  | _ => none
def am_ls (dflt : Int) (ps : Array (Int × Int)) (pc : Nat) (al : AL) (st : List Value) (h : AH) : Option AR := match st with
  | .int x :: r => if (ps.toList.zip (ps.toList.drop 1)).all (fun (a, next) => a.1 < next.1) = true then am_jp pc (Op.lookupswitch.offset ps.toList dflt x.toInt) al r h else none
  | _ => none
def am_gf (o i pc : Nat) (al : AL) (st : List Value) (h : AH) : Option AR := match st with
  | .ref a :: r => (am_fl o i).bind fun ck => match h[a]? with
    | some (.inr (c, fs)) => if 2 ≤ a ∧ c = ck.1 then (fs[ck.2]?).bind fun v => am_nx (pc + 3) al (v :: r) h else none
    | _ => none
  | _ => none
def am_pf (y o i pc : Nat) (al : AL) (st : List Value) (h : AH) : Option AR := match st with
  | v :: .ref a :: r => (am_fl o i).bind fun ck => match h[a]? with
    | some (.inr (c, fs)) => if 2 ≤ a ∧ c = ck.1 ∧ ck.2 < fs.length ∧ narrow (am_ty ck.1 ck.2) v = v ∧ fits (am_ty ck.1 ck.2) v = true ∧ ((am_T ck.1 ck.2).2.2.2 = false ∨ ((am_y y).name = "<init>" ∧ o = ck.1)) then am_nx (pc + 3) al r (h.set a (.inr (c, fs.set ck.2 v))) else none
    | _ => none
  | _ => none
def am_gs (o i pc : Nat) (al : AL) (st : List Value) (h : AH) : Option AR := (am_sl o i).bind fun _ => am_nx (pc + 3) al (.ref 0 :: st) h
def am_ia (pc : Nat) (al : AL) (st : List Value) (h : AH) : Option AR := match st with
  | .int i :: .ref a :: r => match h[a]? with
    | some (.inl (0, n, .inl f)) => if am_in i n then am_nx (pc + 1) al (.int (f i.toNatClampNeg) :: r) h else none
    | _ => none
  | _ => none
def am_ba (pc : Nat) (al : AL) (st : List Value) (h : AH) : Option AR := match st with
  | .int i :: .ref a :: r => match h[a]? with
    | some (.inl (1, n, .inl f)) => if 2 ≤ a ∧ am_in i n then am_nx (pc + 1) al (.int (f i.toNatClampNeg) :: r) h else none
    | some (.inl (2, n, .inl f)) => if 2 ≤ a ∧ am_in i n then am_nx (pc + 1) al (.int (f i.toNatClampNeg) :: r) h else none
    | _ => none
  | _ => none
def am_la (pc : Nat) (al : AL) (st : List Value) (h : AH) : Option AR := match st with
  | .int i :: .ref a :: r => match h[a]? with
    | some (.inl (3, n, .inr (.inl f))) => if 2 ≤ a ∧ am_in i n then am_nx (pc + 1) al (.long (f i.toNatClampNeg) :: r) h else none
    | _ => none
  | _ => none
def am_aa (pc : Nat) (al : AL) (st : List Value) (h : AH) : Option AR := match st with
  | .int i :: .ref a :: r => match h[a]? with
    | some (.inl (t, n, .inr (.inr (.inr (.inr f))))) => if 2 ≤ a ∧ (t = 7 ∨ t = 13 ∨ t = 14) ∧ am_in i n then am_nx (pc + 1) al (va_rf (f i.toNatClampNeg) :: r) h else none
    | _ => none
  | _ => none
def am_iS (pc : Nat) (al : AL) (st : List Value) (h : AH) : Option AR := match st with
  | .int x :: .int i :: .ref a :: r => match h[a]? with
    | some (.inl (0, n, .inl f)) => if 2 ≤ a ∧ am_in i n then am_nx (pc + 1) al r (h.set a (.inl (0, n, .inl (upd f i.toNatClampNeg x)))) else none
    | _ => none
  | _ => none
def am_bS (pc : Nat) (al : AL) (st : List Value) (h : AH) : Option AR := match st with
  | .int x :: .int i :: .ref a :: r => match h[a]? with
    | some (.inl (1, n, .inl f)) => if 2 ≤ a ∧ am_in i n then am_nx (pc + 1) al r (h.set a (.inl (1, n, .inl (upd f i.toNatClampNeg (vp_nar .byte x))))) else none
    | some (.inl (2, n, .inl f)) => if 2 ≤ a ∧ am_in i n then am_nx (pc + 1) al r (h.set a (.inl (2, n, .inl (upd f i.toNatClampNeg (vp_nar .boolean x))))) else none
    | _ => none
  | _ => none
def am_lS (pc : Nat) (al : AL) (st : List Value) (h : AH) : Option AR := match st with
  | .long x :: .int i :: .ref a :: r => match h[a]? with
    | some (.inl (3, n, .inr (.inl f))) => if 2 ≤ a ∧ am_in i n then am_nx (pc + 1) al r (h.set a (.inl (3, n, .inr (.inl (vp_updL f i.toNatClampNeg x))))) else none
    | _ => none
  | _ => none
def am_aS (pc : Nat) (al : AL) (st : List Value) (h : AH) : Option AR := match st with
  | .ref v :: .int i :: .ref a :: r => match h[a]?, h[v]? with
    | some (.inl (t, n, .inr (.inr (.inr (.inr f))))), some (.inr (c, _)) => if 2 ≤ a ∧ 2 ≤ v ∧ t = 4 + c ∧ (t = 7 ∨ t = 13 ∨ t = 14) ∧ am_in i n then am_nx (pc + 1) al r (h.set a (.inl (t, n, .inr (.inr (.inr (.inr (va_up f i.toNatClampNeg (some v)))))))) else none
    | _, _ => none
  | .null :: .int i :: .ref a :: r => match h[a]? with
    | some (.inl (t, n, .inr (.inr (.inr (.inr f))))) => if 2 ≤ a ∧ (t = 7 ∨ t = 13 ∨ t = 14) ∧ am_in i n then am_nx (pc + 1) al r (h.set a (.inl (t, n, .inr (.inr (.inr (.inr (va_up f i.toNatClampNeg none))))))) else none
    | _ => none
  | _ => none
def am_le (pc : Nat) (al : AL) (st : List Value) (h : AH) : Option AR := match st with
  | .ref a :: r => match h[a]? with
    | some (.inl (t, n, _)) => if 1 ≤ a ∧ (am_tix t).isSome then am_nx (pc + 1) al (.int (Int32.ofNat n) :: r) h else none
    | _ => none
  | _ => none
def am_df (c : Nat) : List Value := (List.range (am_N c)).map fun k => defaultValue (am_ty c k)
def am_nw (o i pc : Nat) (al : AL) (st : List Value) (h : AH) : Option AR := (am_cl o i).bind fun c => if c < 13 ∧ c ≠ 7 then am_nx (pc + 3) al (.ref h.length :: st) (h ++ [.inr (c, am_df c)]) else none
def am_na (t : ArrayType) (pc : Nat) (al : AL) (st : List Value) (h : AH) : Option AR := match st with
  | .int n :: r => if n < 0 ∨ 100000 < n.toNatClampNeg then none else match t with
    | .int => am_nx (pc + 2) al (.ref h.length :: r) (h ++ [.inl (0, n.toNatClampNeg, .inl (fun _ => 0))])
    | .byte => am_nx (pc + 2) al (.ref h.length :: r) (h ++ [.inl (1, n.toNatClampNeg, .inl (fun _ => 0))])
    | .boolean => am_nx (pc + 2) al (.ref h.length :: r) (h ++ [.inl (2, n.toNatClampNeg, .inl (fun _ => 0))])
    | .long => am_nx (pc + 2) al (.ref h.length :: r) (h ++ [.inl (3, n.toNatClampNeg, .inr (.inl (fun _ => 0)))])
    | _ => none
  | _ => none
def am_nq (o i pc : Nat) (al : AL) (st : List Value) (h : AH) : Option AR := match st with
  | .int n :: r => if n < 0 ∨ 100000 < n.toNatClampNeg then none else (am_cl o i).bind fun c => if c = 3 ∨ c = 9 ∨ c = 10 then am_nx (pc + 3) al (.ref h.length :: r) (h ++ [.inl (4 + c, n.toNatClampNeg, .inr (.inr (.inr (.inr (fun _ => none)))))]) else none
  | _ => none
def am_ok8 (st : List Value) : Bool := decide ((st.map fun v => v.category).sum ≤ 8)
def am_iv (o i : Nat) (st : List Value) (h : AH) : Option AR := (am_ml o i).bind fun ky => if ky.1 = 0 then
    (match st.drop (am_np ky.2) with
    | .ref b :: r => match h[b]? with
      | some (.inr (c, _)) => if 2 ≤ b ∧ c = am_o ky.2 ∧ (c < 13 ∧ c ≠ 7) ∧ am_ok8 r then some (.inr (.inl (ky.2, .ref b :: (st.take (am_np ky.2)).reverse, r))) else none
      | _ => none
    | _ => none) else none
def am_cy (pc : Nat) (al : AL) (st : List Value) (h : AH) : Option AR := match st with
  | .int n :: .int dp :: .ref a :: .int sp :: .ref a0 :: r => match h[a0]?, h[a]? with
    | some (.inl (0, n0, .inl f)), some (.inl (0, n1, .inl g)) => if 2 ≤ a ∧ 2 ≤ a0 ∧ ¬ sp < 0 ∧ ¬ dp < 0 ∧ ¬ n < 0 ∧ sp.toNatClampNeg + n.toNatClampNeg ≤ n0 ∧ dp.toNatClampNeg + n.toNatClampNeg ≤ n1 ∧ am_ok8 r then am_nx (pc + 3) al r (h.set a (.inl (0, n1, .inl (va_cpy f g sp.toNatClampNeg dp.toNatClampNeg n.toNatClampNeg)))) else none
    | _, _ => none
  | _ => none
def am_vs (o i pc : Nat) (al : AL) (st : List Value) (h : AH) : Option AR := (am_ml o i).bind fun ky =>
  if ky.1 = 7 then am_cy pc al st h
  else if ky.1 = 8 then (match st with
    | .int y :: .int x :: r => if am_ok8 r then am_nx (pc + 3) al (.int (if x < y then y else x) :: r) h else none
    | _ => none)
  else if ky.1 = 9 then (match st with
    | .int y :: .int x :: r => if am_ok8 r then am_nx (pc + 3) al (.int (if y < x then y else x) :: r) h else none
    | _ => none)
  else if (ky.1 = 1 ∨ ky.1 = 3) ∧ am_np ky.2 ≤ st.length ∧ am_ok8 (st.drop (am_np ky.2)) then some (.inr (.inl (ky.2, (st.take (am_np ky.2)).reverse, st.drop (am_np ky.2)))) else none
def am_vi (o i pc : Nat) (al : AL) (st : List Value) (h : AH) : Option AR := (am_ml o i).bind fun ky =>
  if ky.1 = 6 then (match st with
    | .ref _ :: r => if am_ok8 r then am_nx (pc + 3) al r h else none
    | _ => none)
  else if ky.1 = 2 ∨ ky.1 = 4 then (match st.drop (am_np ky.2) with
    | .ref b :: r => if am_ok8 r then some (.inr (.inl (ky.2, .ref b :: (st.take (am_np ky.2)).reverse, r))) else none
    | _ => none) else none
def am_rt (y : Nat) (st : List Value) : Option AR := match st, am_r y with
  | [.int v], some ty => if narrow ty (.int v) = .int v then some (.inr (.inr (some (.int v)))) else none
  | _, _ => none
def am_ar (y : Nat) (st : List Value) : Option AR := match st, am_r y with
  | [.ref v], some (.object _) => some (.inr (.inr (some (.ref v))))
  | [.ref v], some (.array _) => some (.inr (.inr (some (.ref v))))
  | [.null], some (.object _) => some (.inr (.inr (some .null)))
  | [.null], some (.array _) => some (.inr (.inr (some .null)))
  | _, _ => none
def am_vr (y : Nat) (st : List Value) : Option AR := match st, am_r y with
  | [], none => some (.inr (.inr none))
  | _, _ => none
/-- one instruction of method y; its length must be what it is in the file -/
def am_ins (y : Nat) (i : Instr) (len pc : Nat) (al : AL) (st : List Value) (h : AH) : Option AR := match i with
  | .iconst n => if len = 1 then am_nx (pc + 1) al (.int (Int32.ofInt n) :: st) h else none
  | .bipush n => if len = 2 then am_nx (pc + 2) al (.int (Int8.ofInt n).toInt32 :: st) h else none
  | .sipush n => if len = 3 then am_nx (pc + 3) al (.int (Int16.ofInt n).toInt32 :: st) h else none
  | .lconst n => if len = 1 then am_nx (pc + 1) al (.long (Int64.ofNat n) :: st) h else none
  | .aconst_null => if len = 1 then am_nx (pc + 1) al (.null :: st) h else none
  | .ldc k => if len = 2 then (am_ki (am_o y) k).bind fun v => am_nx (pc + 2) al (.int v :: st) h else none
  | .ldc_w k => if len = 3 then (am_ki (am_o y) k).bind fun v => am_nx (pc + 3) al (.int v :: st) h else none
  | .ldc2_w k => if len = 3 then (am_kl (am_o y) k).bind fun v => am_nx (pc + 3) al (.long v :: st) h else none
  | .iload_n k => if len = 1 then am_il k (pc + 1) al st h else none
  | .iload k => if len = 2 then am_il k (pc + 2) al st h else none
  | .lload_n k => if len = 1 then am_ll k (pc + 1) al st h else none
  | .lload k => if len = 2 then am_ll k (pc + 2) al st h else none
  | .aload_n k => if len = 1 then am_al k (pc + 1) al st h else none
  | .aload k => if len = 2 then am_al k (pc + 2) al st h else none
  | .istore_n k => if len = 1 then am_is k (pc + 1) al st h else none
  | .istore k => if len = 2 then am_is k (pc + 2) al st h else none
  | .astore_n k => if len = 1 then am_as k (pc + 1) al st h else none
  | .astore k => if len = 2 then am_as k (pc + 2) al st h else none
  | .iinc k n => if len = 3 then am_ic k n pc al st h else none
  | .iadd => if len = 1 then am_bi (fun x y => x + y) pc al st h else none
  | .isub => if len = 1 then am_bi (fun x y => x - y) pc al st h else none
  | .imul => if len = 1 then am_bi (fun x y => x * y) pc al st h else none
  | .iand => if len = 1 then am_bi (fun x y => x &&& y) pc al st h else none
  | .ior => if len = 1 then am_bi (fun x y => x ||| y) pc al st h else none
  | .ixor => if len = 1 then am_bi (fun x y => x ^^^ y) pc al st h else none
  | .ishl => if len = 1 then am_bi (fun x y => x <<< (y &&& 31)) pc al st h else none
  | .ishr => if len = 1 then am_bi (fun x y => x >>> (y &&& 31)) pc al st h else none
  | .iushr => if len = 1 then am_bi (fun x y => (x.toUInt32 >>> (y.toUInt32 &&& Int32.toUInt32 31)).toInt32) pc al st h else none
  | .idiv => if len = 1 then (match st with
    | .int y :: .int x :: r => if y = 0 then none else am_nx (pc + 1) al (.int (x / y) :: r) h
    | _ => none) else none
  | .irem => if len = 1 then (match st with
    | .int y :: .int x :: r => if y = 0 then none else am_nx (pc + 1) al (.int (x - x / y * y) :: r) h
    | _ => none) else none
  | .ineg => if len = 1 then (match st with
    | .int x :: r => am_nx (pc + 1) al (.int (-x) :: r) h
    | _ => none) else none
  | .ladd => if len = 1 then am_bl (fun x y => x + y) pc al st h else none
  | .lmul => if len = 1 then am_bl (fun x y => x * y) pc al st h else none
  | .land => if len = 1 then am_bl (fun x y => x &&& y) pc al st h else none
  | .lor => if len = 1 then am_bl (fun x y => x ||| y) pc al st h else none
  | .lrem => if len = 1 then (match st with
    | .long y :: .long x :: r => if y = 0 then none else am_nx (pc + 1) al (.long (x - x / y * y) :: r) h
    | _ => none) else none
  | .lshl => if len = 1 then am_sh (fun x y => x <<< (y.toInt64 &&& 63)) pc al st h else none
  | .lshr => if len = 1 then am_sh (fun x y => x >>> (y.toInt64 &&& 63)) pc al st h else none
  | .lcmp => if len = 1 then (match st with
    | .long y :: .long x :: r => am_nx (pc + 1) al (.int (lg_cmp x y) :: r) h
    | _ => none) else none
  | .i2l => if len = 1 then (match st with
    | .int x :: r => am_nx (pc + 1) al (.long x.toInt64 :: r) h
    | _ => none) else none
  | .l2i => if len = 1 then (match st with
    | .long x :: r => am_nx (pc + 1) al (.int x.toInt32 :: r) h
    | _ => none) else none
  | .i2b => if len = 1 then (match st with
    | .int x :: r => am_nx (pc + 1) al (.int x.toInt8.toInt32 :: r) h
    | _ => none) else none
  | .dup => if len = 1 then (match st with
    | v :: r => if v.category = 1 then am_nx (pc + 1) al (v :: v :: r) h else none
    | _ => none) else none
  | .dup2 => if len = 1 then (match st with
    | v :: w :: r => if v.category = 1 ∧ w.category = 1 then am_nx (pc + 1) al (v :: w :: v :: w :: r) h else none
    | _ => none) else none
  | .pop => if len = 1 then (match st with
    | v :: r => if v.category = 1 then am_nx (pc + 1) al r h else none
    | _ => none) else none
  | .goto off => if len = 3 then am_jp pc off al st h else none
  | .ifCond c off => if len = 3 then am_if c off pc al st h else none
  | .if_icmp c off => if len = 3 then am_ii c off pc al st h else none
  | .ifnull off => if len = 3 then (match st with
    | .ref _ :: r => am_nx (pc + 3) al r h
    | .null :: r => am_jp pc off al r h
    | _ => none) else none
  | .ifnonnull off => if len = 3 then (match st with
    | .ref _ :: r => am_jp pc off al r h
    | .null :: r => am_nx (pc + 3) al r h
    | _ => none) else none
  | .tableswitch d lo hi offs => am_ts d lo hi offs pc al st h
  | .lookupswitch d ps => am_ls d ps pc al st h
  | .getfield k => if len = 3 then am_gf (am_o y) k pc al st h else none
  | .putfield k => if len = 3 then am_pf y (am_o y) k pc al st h else none
  | .getstatic k => if len = 3 then am_gs (am_o y) k pc al st h else none
  | .iaload => if len = 1 then am_ia pc al st h else none
  | .baload => if len = 1 then am_ba pc al st h else none
  | .laload => if len = 1 then am_la pc al st h else none
  | .aaload => if len = 1 then am_aa pc al st h else none
  | .iastore => if len = 1 then am_iS pc al st h else none
  | .bastore => if len = 1 then am_bS pc al st h else none
  | .lastore => if len = 1 then am_lS pc al st h else none
  | .aastore => if len = 1 then am_aS pc al st h else none
  | .arraylength => if len = 1 then am_le pc al st h else none
  | .new k => if len = 3 then am_nw (am_o y) k pc al st h else none
  | .newarray t => if len = 2 then am_na t pc al st h else none
  | .anewarray k => if len = 3 then am_nq (am_o y) k pc al st h else none
  | .invokevirtual k => if len = 3 then am_iv (am_o y) k st h else none
  | .invokestatic k => if len = 3 then am_vs (am_o y) k pc al st h else none
  | .invokespecial k => if len = 3 then am_vi (am_o y) k pc al st h else none
  | .ireturn => if len = 1 then am_rt y st else none
  | .areturn => if len = 1 then am_ar y st else none
  | .return_ => if len = 1 then am_vr y st else none
  | _ => none
def am_step (y pc : Nat) (al : AL) (st : List Value) (h : AH) : Option AR := match decode (am_b y) pc with
  | .ok (i, len) => am_ins y i len pc al st h
  | .error _ => none
/-- the locals at a method's entry -/
def am_en (vs : List Value) (n : Nat) : AL := let l := vs.flatMap (fun v => if v.category = 2 then [some v, none] else [some v])
  l ++ List.replicate (n - l.length) none
def am_exec : Nat → Nat → Nat → Nat → AL → List Value → AH → Option (Option Value × AH)
  | 0, _, _, _, _, _, _ => none
  | f + 1, d, y, pc, al, st, h => match am_step y pc al st h with
    | none => none
    | some (.inl (pc', al', st', h')) => am_exec f d y pc' al' st' h'
    | some (.inr (.inl (y', as, st'))) => match d with
      | 0 => none
      | d' + 1 => if (am_en as (am_L y')).length = am_L y' then (match am_exec f d' y' 0 (am_en as (am_L y')) [] h with
        | none => none
        | some (r, h') => am_exec f (d' + 1) y (pc + 3) al (r.toList ++ st') h') else none
    | some (.inr (.inr r)) => some (r, h)
