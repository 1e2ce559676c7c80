/-! Counting bits, makers, how many closed parts; printed by wip/whole/gen_a3.py. -/
def bc1 (x : Int32) : Int32 := x - ((Int32.toUInt32 x >>> (Int32.toUInt32 (nI 1) &&& Int32.toUInt32 31)).toInt32 &&& nI 1431655765)
def bc2 (x : Int32) : Int32 := (x &&& nI 858993459) + ((Int32.toUInt32 x >>> (Int32.toUInt32 (nI 2) &&& Int32.toUInt32 31)).toInt32 &&& nI 858993459)
def bc3 (x : Int32) : Int32 := (x + (Int32.toUInt32 x >>> (Int32.toUInt32 (nI 4) &&& Int32.toUInt32 31)).toInt32) &&& nI 252645135
def bc4 (x : Int32) : Int32 := x + (Int32.toUInt32 x >>> (Int32.toUInt32 (nI 8) &&& Int32.toUInt32 31)).toInt32
def bc5 (x : Int32) : Int32 := x + (Int32.toUInt32 x >>> (Int32.toUInt32 (nI 16) &&& Int32.toUInt32 31)).toInt32
theorem bc_on : ∀ v, v < 64 → bc5 (bc4 (bc3 (bc2 (bc1 (nI v))))) &&& nI 63 = nI (onN v) := by decide +kernel
theorem k_bitCount {S : CS} {G : Nat → Nat → Value} {B : Nat → Nat → Int32} {J : Nat → Nat → Int64} {R : Nat → Nat → Option Nat} {v : Nat} (hv : v < 64) : CR 0 290 0 [some (.int (nI v))] [] S G B J R (cP (some (.int (nI (onN v)))) S G B J R) := by
  refine cr_nx (pc' := 1) (al' := [some (.int (nI v))]) (st' := [.int (nI v)]) d_290_0 (fun _ => rfl) ?_
  refine cr_nx (pc' := 2) (al' := [some (.int (nI v))]) (st' := [.int (nI v), .int (nI v)]) d_290_1 (fun _ => rfl) ?_
  refine cn_ic (v := 1) d_290_2 (by decide) ?_
  refine cr_nx (pc' := 4) (al' := [some (.int (nI v))]) (st' := [.int ((Int32.toUInt32 (nI v) >>> (Int32.toUInt32 (nI 1) &&& Int32.toUInt32 31)).toInt32), .int (nI v)]) d_290_3 (fun _ => rfl) ?_
  refine cr_k3 (v := nI 1431655765) d_290_4 cw_290 ck_14_265 ?_
  refine cr_nx (pc' := 8) (al' := [some (.int (nI v))]) (st' := [.int (((Int32.toUInt32 (nI v) >>> (Int32.toUInt32 (nI 1) &&& Int32.toUInt32 31)).toInt32) &&& (nI 1431655765)), .int (nI v)]) d_290_7 (fun _ => rfl) ?_
  refine cr_nx (pc' := 9) (al' := [some (.int (nI v))]) (st' := [.int ((nI v) - (((Int32.toUInt32 (nI v) >>> (Int32.toUInt32 (nI 1) &&& Int32.toUInt32 31)).toInt32) &&& (nI 1431655765)))]) d_290_8 (fun _ => rfl) ?_
  refine cr_nx (pc' := 10) (al' := [some (.int ((nI v) - (((Int32.toUInt32 (nI v) >>> (Int32.toUInt32 (nI 1) &&& Int32.toUInt32 31)).toInt32) &&& (nI 1431655765))))]) (st' := []) d_290_9 (fun _ => rfl) ?_
  show CR _ _ 10 [some (.int (bc1 (nI v)))] [] S G B J R _
  refine cr_nx (pc' := 11) (al' := [some (.int (bc1 (nI v)))]) (st' := [.int (bc1 (nI v))]) d_290_10 (fun _ => rfl) ?_
  refine cr_k3 (v := nI 858993459) d_290_11 cw_290 ck_14_266 ?_
  refine cr_nx (pc' := 15) (al' := [some (.int (bc1 (nI v)))]) (st' := [.int ((bc1 (nI v)) &&& (nI 858993459))]) d_290_14 (fun _ => rfl) ?_
  refine cr_nx (pc' := 16) (al' := [some (.int (bc1 (nI v)))]) (st' := [.int (bc1 (nI v)), .int ((bc1 (nI v)) &&& (nI 858993459))]) d_290_15 (fun _ => rfl) ?_
  refine cn_ic (v := 2) d_290_16 (by decide) ?_
  refine cr_nx (pc' := 18) (al' := [some (.int (bc1 (nI v)))]) (st' := [.int ((Int32.toUInt32 (bc1 (nI v)) >>> (Int32.toUInt32 (nI 2) &&& Int32.toUInt32 31)).toInt32), .int ((bc1 (nI v)) &&& (nI 858993459))]) d_290_17 (fun _ => rfl) ?_
  refine cr_k3 (v := nI 858993459) d_290_18 cw_290 ck_14_266 ?_
  refine cr_nx (pc' := 22) (al' := [some (.int (bc1 (nI v)))]) (st' := [.int (((Int32.toUInt32 (bc1 (nI v)) >>> (Int32.toUInt32 (nI 2) &&& Int32.toUInt32 31)).toInt32) &&& (nI 858993459)), .int ((bc1 (nI v)) &&& (nI 858993459))]) d_290_21 (fun _ => rfl) ?_
  refine cr_nx (pc' := 23) (al' := [some (.int (bc1 (nI v)))]) (st' := [.int (((bc1 (nI v)) &&& (nI 858993459)) + (((Int32.toUInt32 (bc1 (nI v)) >>> (Int32.toUInt32 (nI 2) &&& Int32.toUInt32 31)).toInt32) &&& (nI 858993459)))]) d_290_22 (fun _ => rfl) ?_
  refine cr_nx (pc' := 24) (al' := [some (.int (((bc1 (nI v)) &&& (nI 858993459)) + (((Int32.toUInt32 (bc1 (nI v)) >>> (Int32.toUInt32 (nI 2) &&& Int32.toUInt32 31)).toInt32) &&& (nI 858993459))))]) (st' := []) d_290_23 (fun _ => rfl) ?_
  show CR _ _ 24 [some (.int (bc2 (bc1 (nI v))))] [] S G B J R _
  refine cr_nx (pc' := 25) (al' := [some (.int (bc2 (bc1 (nI v))))]) (st' := [.int (bc2 (bc1 (nI v)))]) d_290_24 (fun _ => rfl) ?_
  refine cr_nx (pc' := 26) (al' := [some (.int (bc2 (bc1 (nI v))))]) (st' := [.int (bc2 (bc1 (nI v))), .int (bc2 (bc1 (nI v)))]) d_290_25 (fun _ => rfl) ?_
  refine cn_ic (v := 4) d_290_26 (by decide) ?_
  refine cr_nx (pc' := 28) (al' := [some (.int (bc2 (bc1 (nI v))))]) (st' := [.int ((Int32.toUInt32 (bc2 (bc1 (nI v))) >>> (Int32.toUInt32 (nI 4) &&& Int32.toUInt32 31)).toInt32), .int (bc2 (bc1 (nI v)))]) d_290_27 (fun _ => rfl) ?_
  refine cr_nx (pc' := 29) (al' := [some (.int (bc2 (bc1 (nI v))))]) (st' := [.int ((bc2 (bc1 (nI v))) + ((Int32.toUInt32 (bc2 (bc1 (nI v))) >>> (Int32.toUInt32 (nI 4) &&& Int32.toUInt32 31)).toInt32))]) d_290_28 (fun _ => rfl) ?_
  refine cr_k3 (v := nI 252645135) d_290_29 cw_290 ck_14_267 ?_
  refine cr_nx (pc' := 33) (al' := [some (.int (bc2 (bc1 (nI v))))]) (st' := [.int (((bc2 (bc1 (nI v))) + ((Int32.toUInt32 (bc2 (bc1 (nI v))) >>> (Int32.toUInt32 (nI 4) &&& Int32.toUInt32 31)).toInt32)) &&& (nI 252645135))]) d_290_32 (fun _ => rfl) ?_
  refine cr_nx (pc' := 34) (al' := [some (.int (((bc2 (bc1 (nI v))) + ((Int32.toUInt32 (bc2 (bc1 (nI v))) >>> (Int32.toUInt32 (nI 4) &&& Int32.toUInt32 31)).toInt32)) &&& (nI 252645135)))]) (st' := []) d_290_33 (fun _ => rfl) ?_
  show CR _ _ 34 [some (.int (bc3 (bc2 (bc1 (nI v)))))] [] S G B J R _
  refine cr_nx (pc' := 35) (al' := [some (.int (bc3 (bc2 (bc1 (nI v)))))]) (st' := [.int (bc3 (bc2 (bc1 (nI v))))]) d_290_34 (fun _ => rfl) ?_
  refine cr_nx (pc' := 36) (al' := [some (.int (bc3 (bc2 (bc1 (nI v)))))]) (st' := [.int (bc3 (bc2 (bc1 (nI v)))), .int (bc3 (bc2 (bc1 (nI v))))]) d_290_35 (fun _ => rfl) ?_
  refine cn_bp (v := 8) d_290_36 (by decide) ?_
  refine cr_nx (pc' := 39) (al' := [some (.int (bc3 (bc2 (bc1 (nI v)))))]) (st' := [.int ((Int32.toUInt32 (bc3 (bc2 (bc1 (nI v)))) >>> (Int32.toUInt32 (nI 8) &&& Int32.toUInt32 31)).toInt32), .int (bc3 (bc2 (bc1 (nI v))))]) d_290_38 (fun _ => rfl) ?_
  refine cr_nx (pc' := 40) (al' := [some (.int (bc3 (bc2 (bc1 (nI v)))))]) (st' := [.int ((bc3 (bc2 (bc1 (nI v)))) + ((Int32.toUInt32 (bc3 (bc2 (bc1 (nI v)))) >>> (Int32.toUInt32 (nI 8) &&& Int32.toUInt32 31)).toInt32))]) d_290_39 (fun _ => rfl) ?_
  refine cr_nx (pc' := 41) (al' := [some (.int ((bc3 (bc2 (bc1 (nI v)))) + ((Int32.toUInt32 (bc3 (bc2 (bc1 (nI v)))) >>> (Int32.toUInt32 (nI 8) &&& Int32.toUInt32 31)).toInt32)))]) (st' := []) d_290_40 (fun _ => rfl) ?_
  show CR _ _ 41 [some (.int (bc4 (bc3 (bc2 (bc1 (nI v))))))] [] S G B J R _
  refine cr_nx (pc' := 42) (al' := [some (.int (bc4 (bc3 (bc2 (bc1 (nI v))))))]) (st' := [.int (bc4 (bc3 (bc2 (bc1 (nI v)))))]) d_290_41 (fun _ => rfl) ?_
  refine cr_nx (pc' := 43) (al' := [some (.int (bc4 (bc3 (bc2 (bc1 (nI v))))))]) (st' := [.int (bc4 (bc3 (bc2 (bc1 (nI v))))), .int (bc4 (bc3 (bc2 (bc1 (nI v)))))]) d_290_42 (fun _ => rfl) ?_
  refine cn_bp (v := 16) d_290_43 (by decide) ?_
  refine cr_nx (pc' := 46) (al' := [some (.int (bc4 (bc3 (bc2 (bc1 (nI v))))))]) (st' := [.int ((Int32.toUInt32 (bc4 (bc3 (bc2 (bc1 (nI v))))) >>> (Int32.toUInt32 (nI 16) &&& Int32.toUInt32 31)).toInt32), .int (bc4 (bc3 (bc2 (bc1 (nI v)))))]) d_290_45 (fun _ => rfl) ?_
  refine cr_nx (pc' := 47) (al' := [some (.int (bc4 (bc3 (bc2 (bc1 (nI v))))))]) (st' := [.int ((bc4 (bc3 (bc2 (bc1 (nI v))))) + ((Int32.toUInt32 (bc4 (bc3 (bc2 (bc1 (nI v))))) >>> (Int32.toUInt32 (nI 16) &&& Int32.toUInt32 31)).toInt32))]) d_290_46 (fun _ => rfl) ?_
  refine cr_nx (pc' := 48) (al' := [some (.int ((bc4 (bc3 (bc2 (bc1 (nI v))))) + ((Int32.toUInt32 (bc4 (bc3 (bc2 (bc1 (nI v))))) >>> (Int32.toUInt32 (nI 16) &&& Int32.toUInt32 31)).toInt32)))]) (st' := []) d_290_47 (fun _ => rfl) ?_
  show CR _ _ 48 [some (.int (bc5 (bc4 (bc3 (bc2 (bc1 (nI v)))))))] [] S G B J R _
  refine cr_nx (pc' := 49) (al' := [some (.int (bc5 (bc4 (bc3 (bc2 (bc1 (nI v)))))))]) (st' := [.int (bc5 (bc4 (bc3 (bc2 (bc1 (nI v))))))]) d_290_48 (fun _ => rfl) ?_
  refine cn_bp (v := 63) d_290_49 (by decide) ?_
  refine cr_nx (pc' := 52) (al' := [some (.int (bc5 (bc4 (bc3 (bc2 (bc1 (nI v)))))))]) (st' := [.int ((bc5 (bc4 (bc3 (bc2 (bc1 (nI v)))))) &&& (nI 63))]) d_290_51 (fun _ => rfl) ?_
  exact cr_ri d_290_52 cx_290 rfl ⟨by rw [bc_on v hv], rfl, rfl, rfl, rfl, rfl⟩
def tz0 (x : Int32) : Int32 := (x ^^^ (-1)) &&& (x - nI 1)
def tzN (v : Nat) : Nat := FX (fun k => v.testBit k) 6
theorem tz_a : ∀ v, v < 64 → 0 < v → ¬ (0 < tz0 (nI v) ∧ nI 65536 < tz0 (nI v)) ∧ ¬ (0 < tz0 (nI v) ∧ nI 256 < tz0 (nI v)) := by decide +kernel
theorem tz_p1 : ∀ v, v < 64 → 0 < v → 0 < tz0 (nI v) → tz0 (nI v) ≤ nI 16 → tz0 (nI v) ≤ nI 4 → nI 1 + (Int32.toUInt32 (tz0 (nI v)) >>> (Int32.toUInt32 (nI 1) &&& Int32.toUInt32 31)).toInt32 = nI (tzN v) := by decide +kernel
theorem tz_p2 : ∀ v, v < 64 → 0 < v → 0 < tz0 (nI v) → tz0 (nI v) ≤ nI 16 → ¬ tz0 (nI v) ≤ nI 4 → nI 1 + 2 + (Int32.toUInt32 ((Int32.toUInt32 (tz0 (nI v)) >>> (Int32.toUInt32 (nI 2) &&& Int32.toUInt32 31)).toInt32) >>> (Int32.toUInt32 (nI 1) &&& Int32.toUInt32 31)).toInt32 = nI (tzN v) := by decide +kernel
theorem tz_p3 : ∀ v, v < 64 → 0 < v → 0 < tz0 (nI v) → ¬ tz0 (nI v) ≤ nI 16 → (Int32.toUInt32 (tz0 (nI v)) >>> (Int32.toUInt32 (nI 4) &&& Int32.toUInt32 31)).toInt32 ≤ nI 4 → nI 1 + 4 + (Int32.toUInt32 ((Int32.toUInt32 (tz0 (nI v)) >>> (Int32.toUInt32 (nI 4) &&& Int32.toUInt32 31)).toInt32) >>> (Int32.toUInt32 (nI 1) &&& Int32.toUInt32 31)).toInt32 = nI (tzN v) := by decide +kernel
theorem tz_p4 : ∀ v, v < 64 → 0 < v → 0 < tz0 (nI v) → ¬ tz0 (nI v) ≤ nI 16 → ¬ (Int32.toUInt32 (tz0 (nI v)) >>> (Int32.toUInt32 (nI 4) &&& Int32.toUInt32 31)).toInt32 ≤ nI 4 → nI 1 + 4 + 2 + (Int32.toUInt32 ((Int32.toUInt32 ((Int32.toUInt32 (tz0 (nI v)) >>> (Int32.toUInt32 (nI 4) &&& Int32.toUInt32 31)).toInt32) >>> (Int32.toUInt32 (nI 2) &&& Int32.toUInt32 31)).toInt32) >>> (Int32.toUInt32 (nI 1) &&& Int32.toUInt32 31)).toInt32 = nI (tzN v) := by decide +kernel
theorem tz_c : ∀ v, v < 64 → 0 < v → ¬ 0 < tz0 (nI v) → tz0 (nI v) &&& nI 32 = nI (tzN v) := by decide +kernel
theorem k_trailing {S : CS} {G : Nat → Nat → Value} {B : Nat → Nat → Int32} {J : Nat → Nat → Int64} {R : Nat → Nat → Option Nat} {v : Nat} (hv : v < 64) (h0 : 0 < v) : CR 0 291 0 [some (.int (nI v)), none] [] S G B J R (cP (some (.int (nI (tzN v)))) S G B J R) := by
  refine cr_nx (pc' := 1) (al' := [some (.int (nI v)), none]) (st' := [.int (nI v)]) d_291_0 (fun _ => rfl) ?_
  refine cr_nx (pc' := 2) (al' := [some (.int (nI v)), none]) (st' := [.int (-1), .int (nI v)]) d_291_1 (fun _ => rfl) ?_
  refine cr_nx (pc' := 3) (al' := [some (.int (nI v)), none]) (st' := [.int ((nI v) ^^^ (-1))]) d_291_2 (fun _ => rfl) ?_
  refine cr_nx (pc' := 4) (al' := [some (.int (nI v)), none]) (st' := [.int (nI v), .int ((nI v) ^^^ (-1))]) d_291_3 (fun _ => rfl) ?_
  refine cn_ic (v := 1) d_291_4 (by decide) ?_
  refine cr_nx (pc' := 6) (al' := [some (.int (nI v)), none]) (st' := [.int ((nI v) - (nI 1)), .int ((nI v) ^^^ (-1))]) d_291_5 (fun _ => rfl) ?_
  refine cr_nx (pc' := 7) (al' := [some (.int (nI v)), none]) (st' := [.int (((nI v) ^^^ (-1)) &&& ((nI v) - (nI 1)))]) d_291_6 (fun _ => rfl) ?_
  refine cr_nx (pc' := 8) (al' := [some (.int (((nI v) ^^^ (-1)) &&& ((nI v) - (nI 1)))), none]) (st' := []) d_291_7 (fun _ => rfl) ?_
  show CR _ _ 8 [some (.int (tz0 (nI v))), none] [] S G B J R _
  refine cr_nx (pc' := 9) (al' := [some (.int (tz0 (nI v))), none]) (st' := [.int (tz0 (nI v))]) d_291_8 (fun _ => rfl) ?_
  refine cr_igt (t := 17) d_291_9 (by decide) (fun c9 => ?_) (fun c9 => ?_)
  · refine cn_ic (v := 1) d_291_17 (by decide) ?_
    refine cr_nx (pc' := 19) (al' := [some (.int (tz0 (nI v))), some (.int (nI 1))]) (st' := []) d_291_18 (fun _ => rfl) ?_
    refine cr_nx (pc' := 20) (al' := [some (.int (tz0 (nI v))), some (.int (nI 1))]) (st' := [.int (tz0 (nI v))]) d_291_19 (fun _ => rfl) ?_
    refine cr_k3 (v := nI 65536) d_291_20 cw_291 ck_14_264 ?_
    refine cr_cle (t := 34) d_291_23 (by decide) (fun c23 => ?_) (fun c23 => ?_)
    · refine cr_nx (pc' := 35) (al' := [some (.int (tz0 (nI v))), some (.int (nI 1))]) (st' := [.int (tz0 (nI v))]) d_291_34 (fun _ => rfl) ?_
      refine cn_sp (v := 256) d_291_35 (by decide) ?_
      refine cr_cle (t := 49) d_291_38 (by decide) (fun c38 => ?_) (fun c38 => ?_)
      · refine cr_nx (pc' := 50) (al' := [some (.int (tz0 (nI v))), some (.int (nI 1))]) (st' := [.int (tz0 (nI v))]) d_291_49 (fun _ => rfl) ?_
        refine cn_bp (v := 16) d_291_50 (by decide) ?_
        refine cr_cle (t := 62) d_291_52 (by decide) (fun c52 => ?_) (fun c52 => ?_)
        · refine cr_nx (pc' := 63) (al' := [some (.int (tz0 (nI v))), some (.int (nI 1))]) (st' := [.int (tz0 (nI v))]) d_291_62 (fun _ => rfl) ?_
          refine cn_ic (v := 4) d_291_63 (by decide) ?_
          refine cr_cle (t := 74) d_291_64 (by decide) (fun c64 => ?_) (fun c64 => ?_)
          · refine cr_nx (pc' := 75) (al' := [some (.int (tz0 (nI v))), some (.int (nI 1))]) (st' := [.int (nI 1)]) d_291_74 (fun _ => rfl) ?_
            refine cr_nx (pc' := 76) (al' := [some (.int (tz0 (nI v))), some (.int (nI 1))]) (st' := [.int (tz0 (nI v)), .int (nI 1)]) d_291_75 (fun _ => rfl) ?_
            refine cn_ic (v := 1) d_291_76 (by decide) ?_
            refine cr_nx (pc' := 78) (al' := [some (.int (tz0 (nI v))), some (.int (nI 1))]) (st' := [.int ((Int32.toUInt32 (tz0 (nI v)) >>> (Int32.toUInt32 (nI 1) &&& Int32.toUInt32 31)).toInt32), .int (nI 1)]) d_291_77 (fun _ => rfl) ?_
            refine cr_nx (pc' := 79) (al' := [some (.int (tz0 (nI v))), some (.int (nI 1))]) (st' := [.int ((nI 1) + ((Int32.toUInt32 (tz0 (nI v)) >>> (Int32.toUInt32 (nI 1) &&& Int32.toUInt32 31)).toInt32))]) d_291_78 (fun _ => rfl) ?_
            exact cr_ri d_291_79 cx_291 rfl ⟨by first | rw [tz_c v hv h0 c9] | rw [tz_p1 v hv h0 c9 c52 c64] | rw [tz_p2 v hv h0 c9 c52 c64] | rw [tz_p3 v hv h0 c9 c52 c64] | rw [tz_p4 v hv h0 c9 c52 c64], rfl, rfl, rfl, rfl, rfl⟩
          · refine cr_nx (pc' := 70) (al' := [some (.int (tz0 (nI v))), some (.int ((nI 1) + 2))]) (st' := []) d_291_67 (fun _ => rfl) ?_
            refine cr_nx (pc' := 71) (al' := [some (.int (tz0 (nI v))), some (.int ((nI 1) + 2))]) (st' := [.int (tz0 (nI v))]) d_291_70 (fun _ => rfl) ?_
            refine cn_ic (v := 2) d_291_71 (by decide) ?_
            refine cr_nx (pc' := 73) (al' := [some (.int (tz0 (nI v))), some (.int ((nI 1) + 2))]) (st' := [.int ((Int32.toUInt32 (tz0 (nI v)) >>> (Int32.toUInt32 (nI 2) &&& Int32.toUInt32 31)).toInt32)]) d_291_72 (fun _ => rfl) ?_
            refine cr_nx (pc' := 74) (al' := [some (.int ((Int32.toUInt32 (tz0 (nI v)) >>> (Int32.toUInt32 (nI 2) &&& Int32.toUInt32 31)).toInt32)), some (.int ((nI 1) + 2))]) (st' := []) d_291_73 (fun _ => rfl) ?_
            refine cr_nx (pc' := 75) (al' := [some (.int ((Int32.toUInt32 (tz0 (nI v)) >>> (Int32.toUInt32 (nI 2) &&& Int32.toUInt32 31)).toInt32)), some (.int ((nI 1) + 2))]) (st' := [.int ((nI 1) + 2)]) d_291_74 (fun _ => rfl) ?_
            refine cr_nx (pc' := 76) (al' := [some (.int ((Int32.toUInt32 (tz0 (nI v)) >>> (Int32.toUInt32 (nI 2) &&& Int32.toUInt32 31)).toInt32)), some (.int ((nI 1) + 2))]) (st' := [.int ((Int32.toUInt32 (tz0 (nI v)) >>> (Int32.toUInt32 (nI 2) &&& Int32.toUInt32 31)).toInt32), .int ((nI 1) + 2)]) d_291_75 (fun _ => rfl) ?_
            refine cn_ic (v := 1) d_291_76 (by decide) ?_
            refine cr_nx (pc' := 78) (al' := [some (.int ((Int32.toUInt32 (tz0 (nI v)) >>> (Int32.toUInt32 (nI 2) &&& Int32.toUInt32 31)).toInt32)), some (.int ((nI 1) + 2))]) (st' := [.int ((Int32.toUInt32 ((Int32.toUInt32 (tz0 (nI v)) >>> (Int32.toUInt32 (nI 2) &&& Int32.toUInt32 31)).toInt32) >>> (Int32.toUInt32 (nI 1) &&& Int32.toUInt32 31)).toInt32), .int ((nI 1) + 2)]) d_291_77 (fun _ => rfl) ?_
            refine cr_nx (pc' := 79) (al' := [some (.int ((Int32.toUInt32 (tz0 (nI v)) >>> (Int32.toUInt32 (nI 2) &&& Int32.toUInt32 31)).toInt32)), some (.int ((nI 1) + 2))]) (st' := [.int (((nI 1) + 2) + ((Int32.toUInt32 ((Int32.toUInt32 (tz0 (nI v)) >>> (Int32.toUInt32 (nI 2) &&& Int32.toUInt32 31)).toInt32) >>> (Int32.toUInt32 (nI 1) &&& Int32.toUInt32 31)).toInt32))]) d_291_78 (fun _ => rfl) ?_
            exact cr_ri d_291_79 cx_291 rfl ⟨by first | rw [tz_c v hv h0 c9] | rw [tz_p1 v hv h0 c9 c52 c64] | rw [tz_p2 v hv h0 c9 c52 c64] | rw [tz_p3 v hv h0 c9 c52 c64] | rw [tz_p4 v hv h0 c9 c52 c64], rfl, rfl, rfl, rfl, rfl⟩
        · refine cr_nx (pc' := 58) (al' := [some (.int (tz0 (nI v))), some (.int ((nI 1) + 4))]) (st' := []) d_291_55 (fun _ => rfl) ?_
          refine cr_nx (pc' := 59) (al' := [some (.int (tz0 (nI v))), some (.int ((nI 1) + 4))]) (st' := [.int (tz0 (nI v))]) d_291_58 (fun _ => rfl) ?_
          refine cn_ic (v := 4) d_291_59 (by decide) ?_
          refine cr_nx (pc' := 61) (al' := [some (.int (tz0 (nI v))), some (.int ((nI 1) + 4))]) (st' := [.int ((Int32.toUInt32 (tz0 (nI v)) >>> (Int32.toUInt32 (nI 4) &&& Int32.toUInt32 31)).toInt32)]) d_291_60 (fun _ => rfl) ?_
          refine cr_nx (pc' := 62) (al' := [some (.int ((Int32.toUInt32 (tz0 (nI v)) >>> (Int32.toUInt32 (nI 4) &&& Int32.toUInt32 31)).toInt32)), some (.int ((nI 1) + 4))]) (st' := []) d_291_61 (fun _ => rfl) ?_
          refine cr_nx (pc' := 63) (al' := [some (.int ((Int32.toUInt32 (tz0 (nI v)) >>> (Int32.toUInt32 (nI 4) &&& Int32.toUInt32 31)).toInt32)), some (.int ((nI 1) + 4))]) (st' := [.int ((Int32.toUInt32 (tz0 (nI v)) >>> (Int32.toUInt32 (nI 4) &&& Int32.toUInt32 31)).toInt32)]) d_291_62 (fun _ => rfl) ?_
          refine cn_ic (v := 4) d_291_63 (by decide) ?_
          refine cr_cle (t := 74) d_291_64 (by decide) (fun c64 => ?_) (fun c64 => ?_)
          · refine cr_nx (pc' := 75) (al' := [some (.int ((Int32.toUInt32 (tz0 (nI v)) >>> (Int32.toUInt32 (nI 4) &&& Int32.toUInt32 31)).toInt32)), some (.int ((nI 1) + 4))]) (st' := [.int ((nI 1) + 4)]) d_291_74 (fun _ => rfl) ?_
            refine cr_nx (pc' := 76) (al' := [some (.int ((Int32.toUInt32 (tz0 (nI v)) >>> (Int32.toUInt32 (nI 4) &&& Int32.toUInt32 31)).toInt32)), some (.int ((nI 1) + 4))]) (st' := [.int ((Int32.toUInt32 (tz0 (nI v)) >>> (Int32.toUInt32 (nI 4) &&& Int32.toUInt32 31)).toInt32), .int ((nI 1) + 4)]) d_291_75 (fun _ => rfl) ?_
            refine cn_ic (v := 1) d_291_76 (by decide) ?_
            refine cr_nx (pc' := 78) (al' := [some (.int ((Int32.toUInt32 (tz0 (nI v)) >>> (Int32.toUInt32 (nI 4) &&& Int32.toUInt32 31)).toInt32)), some (.int ((nI 1) + 4))]) (st' := [.int ((Int32.toUInt32 ((Int32.toUInt32 (tz0 (nI v)) >>> (Int32.toUInt32 (nI 4) &&& Int32.toUInt32 31)).toInt32) >>> (Int32.toUInt32 (nI 1) &&& Int32.toUInt32 31)).toInt32), .int ((nI 1) + 4)]) d_291_77 (fun _ => rfl) ?_
            refine cr_nx (pc' := 79) (al' := [some (.int ((Int32.toUInt32 (tz0 (nI v)) >>> (Int32.toUInt32 (nI 4) &&& Int32.toUInt32 31)).toInt32)), some (.int ((nI 1) + 4))]) (st' := [.int (((nI 1) + 4) + ((Int32.toUInt32 ((Int32.toUInt32 (tz0 (nI v)) >>> (Int32.toUInt32 (nI 4) &&& Int32.toUInt32 31)).toInt32) >>> (Int32.toUInt32 (nI 1) &&& Int32.toUInt32 31)).toInt32))]) d_291_78 (fun _ => rfl) ?_
            exact cr_ri d_291_79 cx_291 rfl ⟨by first | rw [tz_c v hv h0 c9] | rw [tz_p1 v hv h0 c9 c52 c64] | rw [tz_p2 v hv h0 c9 c52 c64] | rw [tz_p3 v hv h0 c9 c52 c64] | rw [tz_p4 v hv h0 c9 c52 c64], rfl, rfl, rfl, rfl, rfl⟩
          · refine cr_nx (pc' := 70) (al' := [some (.int ((Int32.toUInt32 (tz0 (nI v)) >>> (Int32.toUInt32 (nI 4) &&& Int32.toUInt32 31)).toInt32)), some (.int (((nI 1) + 4) + 2))]) (st' := []) d_291_67 (fun _ => rfl) ?_
            refine cr_nx (pc' := 71) (al' := [some (.int ((Int32.toUInt32 (tz0 (nI v)) >>> (Int32.toUInt32 (nI 4) &&& Int32.toUInt32 31)).toInt32)), some (.int (((nI 1) + 4) + 2))]) (st' := [.int ((Int32.toUInt32 (tz0 (nI v)) >>> (Int32.toUInt32 (nI 4) &&& Int32.toUInt32 31)).toInt32)]) d_291_70 (fun _ => rfl) ?_
            refine cn_ic (v := 2) d_291_71 (by decide) ?_
            refine cr_nx (pc' := 73) (al' := [some (.int ((Int32.toUInt32 (tz0 (nI v)) >>> (Int32.toUInt32 (nI 4) &&& Int32.toUInt32 31)).toInt32)), some (.int (((nI 1) + 4) + 2))]) (st' := [.int ((Int32.toUInt32 ((Int32.toUInt32 (tz0 (nI v)) >>> (Int32.toUInt32 (nI 4) &&& Int32.toUInt32 31)).toInt32) >>> (Int32.toUInt32 (nI 2) &&& Int32.toUInt32 31)).toInt32)]) d_291_72 (fun _ => rfl) ?_
            refine cr_nx (pc' := 74) (al' := [some (.int ((Int32.toUInt32 ((Int32.toUInt32 (tz0 (nI v)) >>> (Int32.toUInt32 (nI 4) &&& Int32.toUInt32 31)).toInt32) >>> (Int32.toUInt32 (nI 2) &&& Int32.toUInt32 31)).toInt32)), some (.int (((nI 1) + 4) + 2))]) (st' := []) d_291_73 (fun _ => rfl) ?_
            refine cr_nx (pc' := 75) (al' := [some (.int ((Int32.toUInt32 ((Int32.toUInt32 (tz0 (nI v)) >>> (Int32.toUInt32 (nI 4) &&& Int32.toUInt32 31)).toInt32) >>> (Int32.toUInt32 (nI 2) &&& Int32.toUInt32 31)).toInt32)), some (.int (((nI 1) + 4) + 2))]) (st' := [.int (((nI 1) + 4) + 2)]) d_291_74 (fun _ => rfl) ?_
            refine cr_nx (pc' := 76) (al' := [some (.int ((Int32.toUInt32 ((Int32.toUInt32 (tz0 (nI v)) >>> (Int32.toUInt32 (nI 4) &&& Int32.toUInt32 31)).toInt32) >>> (Int32.toUInt32 (nI 2) &&& Int32.toUInt32 31)).toInt32)), some (.int (((nI 1) + 4) + 2))]) (st' := [.int ((Int32.toUInt32 ((Int32.toUInt32 (tz0 (nI v)) >>> (Int32.toUInt32 (nI 4) &&& Int32.toUInt32 31)).toInt32) >>> (Int32.toUInt32 (nI 2) &&& Int32.toUInt32 31)).toInt32), .int (((nI 1) + 4) + 2)]) d_291_75 (fun _ => rfl) ?_
            refine cn_ic (v := 1) d_291_76 (by decide) ?_
            refine cr_nx (pc' := 78) (al' := [some (.int ((Int32.toUInt32 ((Int32.toUInt32 (tz0 (nI v)) >>> (Int32.toUInt32 (nI 4) &&& Int32.toUInt32 31)).toInt32) >>> (Int32.toUInt32 (nI 2) &&& Int32.toUInt32 31)).toInt32)), some (.int (((nI 1) + 4) + 2))]) (st' := [.int ((Int32.toUInt32 ((Int32.toUInt32 ((Int32.toUInt32 (tz0 (nI v)) >>> (Int32.toUInt32 (nI 4) &&& Int32.toUInt32 31)).toInt32) >>> (Int32.toUInt32 (nI 2) &&& Int32.toUInt32 31)).toInt32) >>> (Int32.toUInt32 (nI 1) &&& Int32.toUInt32 31)).toInt32), .int (((nI 1) + 4) + 2)]) d_291_77 (fun _ => rfl) ?_
            refine cr_nx (pc' := 79) (al' := [some (.int ((Int32.toUInt32 ((Int32.toUInt32 (tz0 (nI v)) >>> (Int32.toUInt32 (nI 4) &&& Int32.toUInt32 31)).toInt32) >>> (Int32.toUInt32 (nI 2) &&& Int32.toUInt32 31)).toInt32)), some (.int (((nI 1) + 4) + 2))]) (st' := [.int ((((nI 1) + 4) + 2) + ((Int32.toUInt32 ((Int32.toUInt32 ((Int32.toUInt32 (tz0 (nI v)) >>> (Int32.toUInt32 (nI 4) &&& Int32.toUInt32 31)).toInt32) >>> (Int32.toUInt32 (nI 2) &&& Int32.toUInt32 31)).toInt32) >>> (Int32.toUInt32 (nI 1) &&& Int32.toUInt32 31)).toInt32))]) d_291_78 (fun _ => rfl) ?_
            exact cr_ri d_291_79 cx_291 rfl ⟨by first | rw [tz_c v hv h0 c9] | rw [tz_p1 v hv h0 c9 c52 c64] | rw [tz_p2 v hv h0 c9 c52 c64] | rw [tz_p3 v hv h0 c9 c52 c64] | rw [tz_p4 v hv h0 c9 c52 c64], rfl, rfl, rfl, rfl, rfl⟩
      · exact absurd ⟨c9, Int32.not_le.mp c38⟩ (tz_a v hv h0).2
    · exact absurd ⟨c9, Int32.not_le.mp c23⟩ (tz_a v hv h0).1
  · refine cr_nx (pc' := 13) (al' := [some (.int (tz0 (nI v))), none]) (st' := [.int (tz0 (nI v))]) d_291_12 (fun _ => rfl) ?_
    refine cn_bp (v := 32) d_291_13 (by decide) ?_
    refine cr_nx (pc' := 16) (al' := [some (.int (tz0 (nI v))), none]) (st' := [.int ((tz0 (nI v)) &&& (nI 32))]) d_291_15 (fun _ => rfl) ?_
    exact cr_ri d_291_16 cx_291 rfl ⟨by first | rw [tz_c v hv h0 c9] | rw [tz_p1 v hv h0 c9 c52 c64] | rw [tz_p2 v hv h0 c9 c52 c64] | rw [tz_p3 v hv h0 c9 c52 c64] | rw [tz_p4 v hv h0 c9 c52 c64], rfl, rfl, rfl, rfl, rfl⟩
/-- makers: as the class goes up, as the reference goes down -/
def mkA (n : Nat) (c : Nat → Nat) : Nat → Nat
  | 0 => 1 * 2 ^ n - 1
  | p + 1 => if 0 < p ∧ onN p < onN (mkA n c p) ∧ clN n c p = 1 * 2 ^ n - 1 then p else mkA n c p
def mkD (n : Nat) (c : Nat → Nat) : Nat → Nat
  | 0 => 1 * 2 ^ n - 1
  | i + 1 => if onN (1 * 2 ^ n - 1 - i) ≤ onN (mkD n c i) ∧ clN n c (1 * 2 ^ n - 1 - i) = 1 * 2 ^ n - 1 then 1 * 2 ^ n - 1 - i else mkD n c i
theorem m_lt {n : Nat} (hn : n ≤ 6) : 1 * 2 ^ n ≤ 64 ∧ 1 ≤ 2 ^ n := ⟨by rw [Nat.one_mul]; exact Nat.pow_le_pow_right (by decide) hn, Nat.two_pow_pos n⟩
theorem jnS_sup {n : Nat} {c : Nat → Nat} {s : Nat} (hn : n ≤ 6) (hc : ∀ q, q < n * n → c q < n) (hs : s = 1 * 2 ^ n - 1) : jnS n c s = s := by
  have h2 := Nat.two_pow_pos n
  have hl : s < 2 ^ n := by omega
  apply bset_eq (jnS_lt hn hc hl) hl
  intro q hq
  have : s.testBit q = true := by
    rw [hs, Nat.one_mul, Nat.testBit_two_pow_sub_one]
    exact decide_eq_true hq
  rw [this, jnS_sub this]
theorem cl_all {n : Nat} {c : Nat → Nat} (hn : n ≤ 6) (hc : ∀ q, q < n * n → c q < n) : clN n c (1 * 2 ^ n - 1) = 1 * 2 ^ n - 1 := by
  have : ∀ k, jnT n c (1 * 2 ^ n - 1) k = 1 * 2 ^ n - 1 := by
    intro k
    induction k with
    | zero => rfl
    | succ k ih => show jnS n c (jnT n c _ k) = _; rw [ih]; exact jnS_sup hn hc rfl
  exact this n
theorem on_all {n p : Nat} (hn : n ≤ 6) (hp : p < 1 * 2 ^ n - 1) : onN p < onN (1 * 2 ^ n - 1) := by
  have h2 := Nat.two_pow_pos n
  apply onN_lt (n := n) (by omega) (by omega) (by omega)
  · intro q hq
    rw [Nat.one_mul, Nat.testBit_two_pow_sub_one]
    exact decide_eq_true (bit_lt (by omega) hq)
  · omega
abbrev mkO (b p : Nat) : Prop := onN b < onN p ∨ (onN b = onN p ∧ b ≤ p)
theorem mkA_inv {n : Nat} {c : Nat → Nat} (hn : n ≤ 6) (h1 : 1 ≤ n) (hc : ∀ q, q < n * n → c q < n) : ∀ i, i ≤ 1 * 2 ^ n - 1 → (0 < mkA n c i ∧ mkA n c i ≤ 1 * 2 ^ n - 1 ∧ (mkA n c i < i ∨ mkA n c i = 1 * 2 ^ n - 1)) ∧ clN n c (mkA n c i) = 1 * 2 ^ n - 1 ∧ ∀ p, 0 < p → (p < i ∨ p = 1 * 2 ^ n - 1) → clN n c p = 1 * 2 ^ n - 1 → mkO (mkA n c i) p := by
  have h2 : 2 ≤ 2 ^ n := by
    have := Nat.pow_le_pow_right (show 0 < 2 by decide) h1
    omega
  intro i
  induction i with
  | zero => exact fun _ => ⟨⟨by show 0 < 1 * 2 ^ n - 1; omega, Nat.le_refl _, Or.inr rfl⟩, cl_all hn hc, fun p h0 hp hg => by
      have : p = 1 * 2 ^ n - 1 := by omega
      subst this
      exact Or.inr ⟨rfl, Nat.le_refl _⟩⟩
  | succ i ih =>
    intro hi
    obtain ⟨⟨a1, a2, a3⟩, b, e⟩ := ih (by omega)
    by_cases hk : 0 < i ∧ onN i < onN (mkA n c i) ∧ clN n c i = 1 * 2 ^ n - 1
    · have hm : mkA n c (i + 1) = i := by show (if _ then _ else _) = _; rw [if_pos hk]
      rw [hm]
      refine ⟨⟨hk.1, by omega, Or.inl (by omega)⟩, hk.2.2, fun p h0 hp hg => ?_⟩
      by_cases hpi : p = i
      · exact Or.inr ⟨by rw [hpi], by omega⟩
      · have := e p h0 (by omega) hg
        have := hk.2.1
        unfold mkO at *
        omega
    · have hm : mkA n c (i + 1) = mkA n c i := by show (if _ then _ else _) = _; rw [if_neg hk]
      rw [hm]
      refine ⟨⟨a1, a2, by omega⟩, b, fun p h0 hp hg => ?_⟩
      by_cases hpi : p = i
      · subst hpi
        have h3 : ¬ onN p < onN (mkA n c p) := fun q => hk ⟨h0, q, hg⟩
        rcases a3 with a3 | a3
        · unfold mkO
          omega
        · have := on_all (p := p) hn (by omega)
          rw [a3] at h3
          exact absurd this h3
      · exact e p h0 (by omega) hg
theorem mkD_inv {n : Nat} {c : Nat → Nat} (hn : n ≤ 6) (h1 : 1 ≤ n) (hc : ∀ q, q < n * n → c q < n) : ∀ i, i ≤ 1 * 2 ^ n - 1 → (0 < mkD n c i ∧ mkD n c i ≤ 1 * 2 ^ n - 1 ∧ (1 * 2 ^ n - 1 - i < mkD n c i ∨ i = 0)) ∧ clN n c (mkD n c i) = 1 * 2 ^ n - 1 ∧ ∀ p, 0 < p → p ≤ 1 * 2 ^ n - 1 → 1 * 2 ^ n - 1 - i < p → clN n c p = 1 * 2 ^ n - 1 → mkO (mkD n c i) p := by
  have h2 : 2 ≤ 2 ^ n := by
    have := Nat.pow_le_pow_right (show 0 < 2 by decide) h1
    omega
  intro i
  induction i with
  | zero => exact fun _ => ⟨⟨by show 0 < 1 * 2 ^ n - 1; omega, Nat.le_refl _, Or.inr rfl⟩, cl_all hn hc, fun p h0 hp hq hg => by omega⟩
  | succ i ih =>
    intro hi
    obtain ⟨⟨a1, a2, a3⟩, b, e⟩ := ih (by omega)
    obtain ⟨q, hq⟩ : ∃ q, q = 1 * 2 ^ n - 1 - i := ⟨_, rfl⟩
    by_cases hk : onN q ≤ onN (mkD n c i) ∧ clN n c q = 1 * 2 ^ n - 1
    · have hm : mkD n c (i + 1) = q := by show (if _ then _ else _) = _; rw [← hq, if_pos hk]
      rw [hm]
      refine ⟨⟨by omega, by omega, Or.inl (by omega)⟩, hk.2, fun p h0 hp hpq hg => ?_⟩
      by_cases hpi : p = q
      · exact Or.inr ⟨by rw [hpi], by omega⟩
      · have := e p h0 hp (by omega) hg
        have := hk.1
        unfold mkO at *
        omega
    · have hm : mkD n c (i + 1) = mkD n c i := by show (if _ then _ else _) = _; rw [← hq, if_neg hk]
      rw [hm]
      refine ⟨⟨a1, a2, ?_⟩, b, fun p h0 hp hpq hg => ?_⟩
      · by_cases hi0 : i = 0
        · subst hi0
          exfalso
          apply hk
          have : q = 1 * 2 ^ n - 1 := by omega
          rw [this]
          exact ⟨Nat.le_refl _, cl_all hn hc⟩
        · omega
      · by_cases hpi : p = q
        · subst hpi
          have h3 : ¬ onN p ≤ onN (mkD n c i) := fun z => hk ⟨z, hg⟩
          unfold mkO
          omega
        · exact e p h0 hp (by omega) hg
/-- the fewest makers -/
def mkN (n : Nat) (c : Nat → Nat) : Nat := mkA n c (1 * 2 ^ n - 1)
theorem mk_eq {n : Nat} {c : Nat → Nat} (hn : n ≤ 6) (h1 : 1 ≤ n) (hc : ∀ q, q < n * n → c q < n) : mkD n c (1 * 2 ^ n - 1) = mkN n c := by
  obtain ⟨⟨a1, a2, a3⟩, a, ea⟩ := mkA_inv hn h1 hc (1 * 2 ^ n - 1) (Nat.le_refl _)
  obtain ⟨⟨b1, b2, b3⟩, b, eb⟩ := mkD_inv hn h1 hc (1 * 2 ^ n - 1) (Nat.le_refl _)
  have x := ea _ b1 (by omega) b
  have y := eb _ a1 a2 (by omega) a
  unfold mkN
  unfold mkO at x y
  omega
theorem mkN_lt {n : Nat} {c : Nat → Nat} (hn : n ≤ 6) (h1 : 1 ≤ n) (hc : ∀ q, q < n * n → c q < n) : mkN n c < 64 := by
  have := (mkA_inv hn h1 hc (1 * 2 ^ n - 1) (Nat.le_refl _)).1.2.1
  have := m_lt hn
  unfold mkN
  omega
theorem k_fewestMakers {S : CS} {G : Nat → Nat → Value} {B : Nat → Nat → Int32} {J : Nat → Nat → Int64} {R : Nat → Nat → Option Nat} {a n : Nat} (ht : TabAt S G a) (hn : G a 0 = .int (nI n)) {c : Nat → Nat} (hc : TabC B a n c) (h1 : 1 ≤ n) : CR 4 65 0 [some (.ref a), none, none, none, none] [] S G B J R (cP (some (.int (nI (mkN n c)))) S G B J R) := by
  have hn6 := hc.1
  have hm64 := m_lt hn6
  have hcc : ∀ q, q < n * n → c q < n := fun q hq => (hc.2 q hq).2
  obtain ⟨m, hm⟩ : ∃ m, m = 1 * 2 ^ n - 1 := ⟨_, rfl⟩
  have hmk : ∀ i, i ≤ m → mkA n c i ≤ m := fun i hi => by rw [hm] at hi ⊢; exact (mkA_inv hn6 h1 hcc i hi).1.2.1
  refine cn_ic (v := 1) d_65_0 (by decide) ?_
  refine cr_nx (pc' := 2) (al' := [some (.ref a), none, none, none, none]) (st' := [.ref a, .int (nI 1)]) d_65_1 (fun _ => rfl) ?_
  refine cr_gf (v := .int (nI n)) d_65_2 cw_65 cf_7_21 ht.1 ht.2.2.1 (by decide) hn ?_
  refine cn_shl d_65_5 (by first | omega | assumption | exact cu_36 (by omega) (cu_lt (by omega) (by omega))) ?_
  refine cn_ic (v := 1) d_65_6 (by decide) ?_
  refine cn_sub d_65_7 (by first | omega | assumption | exact cu_36 (by omega) (cu_lt (by omega) (by omega))) ?_
  refine cr_tp (z := (nI m)) (congrArg nI hm.symm) ?_
  refine cr_nx (pc' := 9) (al' := [some (.ref a), some (.int (nI m)), none, none, none]) (st' := []) d_65_8 (fun _ => rfl) ?_
  refine cr_nx (pc' := 10) (al' := [some (.ref a), some (.int (nI m)), none, none, none]) (st' := [.int (nI m)]) d_65_9 (fun _ => rfl) ?_
  refine cr_nx (pc' := 11) (al' := [some (.ref a), some (.int (nI m)), some (.int (nI m)), none, none]) (st' := []) d_65_10 (fun _ => rfl) ?_
  refine cn_ic (v := 1) d_65_11 (by decide) ?_
  refine cr_nx (pc' := 13) (al' := [some (.ref a), some (.int (nI m)), some (.int (nI m)), some (.int (nI 1)), none]) (st' := []) d_65_12 (fun _ => rfl) ?_
  refine cr_al (congrArg (fun z__ : Nat => ([some (.ref a), some (.int (nI m)), some (.int (nI z__)), some (.int (nI 1)), none] : AL)) (show m = mkA n c 1 by rw [hm]; rfl)) ?_
  refine cr_up (al := fun i => [some (.ref a), some (.int (nI m)), some (.int (nI (mkA n c i))), some (.int (nI i)), none]) (S := fun i => S) (G := fun i => G) (B := fun i => B) (J := fun i => J) (R := fun i => R) (P := fun i => 1 ≤ i) (n := m) (fun i hi pi ihi => ?_) (fun pi => ?_) 1  (by have := Nat.pow_le_pow_right (show 0 < 2 by decide) h1; omega) (Nat.le_refl 1)
  · show CR _ _ 13 [some (.ref a), some (.int (nI m)), some (.int (nI (mkA n c i))), some (.int (nI i)), none] [] S G B J R _
    have hmi := hmk i (by omega)
    refine cr_nx (pc' := 14) (al' := [some (.ref a), some (.int (nI m)), some (.int (nI (mkA n c i))), some (.int (nI i)), none]) (st' := [.int (nI i)]) d_65_13 (fun _ => rfl) ?_
    refine cr_nx (pc' := 15) (al' := [some (.ref a), some (.int (nI m)), some (.int (nI (mkA n c i))), some (.int (nI i)), none]) (st' := [.int (nI m), .int (nI i)]) d_65_14 (fun _ => rfl) ?_
    refine cn_cge (t := 58) d_65_15 (by decide) (by first | omega | assumption | exact cu_36 (by omega) (cu_lt (by omega) (by omega))) (by first | omega | assumption | exact cu_36 (by omega) (cu_lt (by omega) (by omega))) (fun c15 => ?_) (fun c15 => ?_)
    · omega
    · refine cr_nx (pc' := 19) (al' := [some (.ref a), some (.int (nI m)), some (.int (nI (mkA n c i))), some (.int (nI i)), none]) (st' := [.int (nI i)]) d_65_18 (fun _ => rfl) ?_
      refine cr_ps (as := [.int (nI i)]) (al0 := [some (.int (nI i))]) (r := []) d_65_19 cw_65 cm_7_52 (by decide) cz_290 rfl rfl rfl (Nat.le_of_ble_eq_true rfl) (k_bitCount (by first | omega | assumption | exact cu_36 (by omega) (cu_lt (by omega) (by omega)))) ?_
      show CR _ _ 22 [some (.ref a), some (.int (nI m)), some (.int (nI (mkA n c i))), some (.int (nI i)), none] [.int (nI (onN i))] S G B J R _
      have b19 := onN_16 i
      refine cr_nx (pc' := 23) (al' := [some (.ref a), some (.int (nI m)), some (.int (nI (mkA n c i))), some (.int (nI i)), none]) (st' := [.int (nI (mkA n c i)), .int (nI (onN i))]) d_65_22 (fun _ => rfl) ?_
      refine cr_ps (as := [.int (nI (mkA n c i))]) (al0 := [some (.int (nI (mkA n c i)))]) (r := [.int (nI (onN i))]) d_65_23 cw_65 cm_7_52 (by decide) cz_290 rfl rfl rfl (Nat.le_of_ble_eq_true rfl) (k_bitCount (by first | omega | assumption | exact cu_36 (by omega) (cu_lt (by omega) (by omega)))) ?_
      show CR _ _ 26 [some (.ref a), some (.int (nI m)), some (.int (nI (mkA n c i))), some (.int (nI i)), none] [.int (nI (onN (mkA n c i))), .int (nI (onN i))] S G B J R _
      have b23 := onN_16 (mkA n c i)
      refine cn_cge (t := 33) d_65_26 (by decide) (by first | omega | assumption | exact cu_36 (by omega) (cu_lt (by omega) (by omega))) (by first | omega | assumption | exact cu_36 (by omega) (cu_lt (by omega) (by omega))) (fun c26 => ?_) (fun c26 => ?_)
      · refine cn_ic (v := 0) d_65_33 (by decide) ?_
        refine cr_nx (pc' := 36) (al' := [some (.ref a), some (.int (nI m)), some (.int (nI (mkA n c i))), some (.int (nI i)), some (.int (nI 0))]) (st' := []) d_65_34 (fun _ => rfl) ?_
        refine cr_nx (pc' := 38) (al' := [some (.ref a), some (.int (nI m)), some (.int (nI (mkA n c i))), some (.int (nI i)), some (.int (nI 0))]) (st' := [.int (nI 0)]) d_65_36 (fun _ => rfl) ?_
        refine cn_ieq (t := 52) d_65_38 (by decide) (by first | omega | assumption | exact cu_36 (by omega) (cu_lt (by omega) (by omega))) (fun c38 => ?_) (fun c38 => ?_)
        · refine cn_inc d_65_52 rfl rfl ?_
          show CR _ _ 55 [some (.ref a), some (.int (nI m)), some (.int (nI (mkA n c i))), some (.int (nI (i + 1))), some (.int (nI 0))] [] S G B J R _
          refine cr_nx (pc' := 13) (al' := [some (.ref a), some (.int (nI m)), some (.int (nI (mkA n c i))), some (.int (nI (i + 1))), some (.int (nI 0))]) (st' := []) d_65_55 (fun _ => rfl) ?_
          refine cr_al (congrArg (fun z__ : Nat => ([some (.ref a), some (.int (nI m)), some (.int (nI z__)), some (.int (nI (i + 1))), some (.int (nI 0))] : AL)) (show mkA n c i = mkA n c (i + 1) by first | (show i = if _ then _ else _; rw [if_pos ⟨by omega, c26, by omega⟩]) | (show mkA n c i = if _ then _ else _; rw [if_neg (fun e => by first | exact absurd e.2.1 (by omega) | exact c47 (by rw [hm]; exact e.2.2))]) | omega)) ?_
          refine cr_dr (al1 := [some (.ref a), some (.int (nI m)), some (.int (nI (mkA n c (i + 1)))), some (.int (nI (i + 1))), none]) (le_s (le_s (le_s (le_s (le_d rfl (le_n)))))) ?_
          exact ihi  (by omega)
        · omega
      · refine cn_ic (v := 1) d_65_29 (by decide) ?_
        refine cr_nx (pc' := 34) (al' := [some (.ref a), some (.int (nI m)), some (.int (nI (mkA n c i))), some (.int (nI i)), none]) (st' := [.int (nI 1)]) d_65_30 (fun _ => rfl) ?_
        refine cr_nx (pc' := 36) (al' := [some (.ref a), some (.int (nI m)), some (.int (nI (mkA n c i))), some (.int (nI i)), some (.int (nI 1))]) (st' := []) d_65_34 (fun _ => rfl) ?_
        refine cr_nx (pc' := 38) (al' := [some (.ref a), some (.int (nI m)), some (.int (nI (mkA n c i))), some (.int (nI i)), some (.int (nI 1))]) (st' := [.int (nI 1)]) d_65_36 (fun _ => rfl) ?_
        refine cn_ieq (t := 52) d_65_38 (by decide) (by first | omega | assumption | exact cu_36 (by omega) (cu_lt (by omega) (by omega))) (fun c38 => ?_) (fun c38 => ?_)
        · omega
        · refine cr_nx (pc' := 42) (al' := [some (.ref a), some (.int (nI m)), some (.int (nI (mkA n c i))), some (.int (nI i)), some (.int (nI 1))]) (st' := [.ref a]) d_65_41 (fun _ => rfl) ?_
          refine cr_nx (pc' := 43) (al' := [some (.ref a), some (.int (nI m)), some (.int (nI (mkA n c i))), some (.int (nI i)), some (.int (nI 1))]) (st' := [.int (nI i), .ref a]) d_65_42 (fun _ => rfl) ?_
          refine cr_ps (as := [.ref a, .int (nI i)]) (al0 := [some (.ref a), some (.int (nI i)), none, none]) (r := []) d_65_43 cw_65 cm_7_66 (by decide) cz_63 rfl rfl rfl (Nat.le_of_ble_eq_true rfl) (k_leastClosed ht hn hc (by first | omega | assumption | exact cu_36 (by omega) (cu_lt (by omega) (by omega)))) ?_
          show CR _ _ 46 [some (.ref a), some (.int (nI m)), some (.int (nI (mkA n c i))), some (.int (nI i)), some (.int (nI 1))] [.int (nI (clN n c i))] S G B J R _
          have b43 : clN n c i < 64 := clN_lt (by omega) (fun q hq => (hc.2 q hq).2) (by first | omega | assumption | exact cu_36 (by omega) (cu_lt (by omega) (by omega)))
          refine cr_nx (pc' := 47) (al' := [some (.ref a), some (.int (nI m)), some (.int (nI (mkA n c i))), some (.int (nI i)), some (.int (nI 1))]) (st' := [.int (nI m), .int (nI (clN n c i))]) d_65_46 (fun _ => rfl) ?_
          refine cn_cne (t := 52) d_65_47 (by decide) (by first | omega | assumption | exact cu_36 (by omega) (cu_lt (by omega) (by omega))) (by first | omega | assumption | exact cu_36 (by omega) (cu_lt (by omega) (by omega))) (fun c47 => ?_) (fun c47 => ?_)
          · refine cn_inc d_65_52 rfl rfl ?_
            show CR _ _ 55 [some (.ref a), some (.int (nI m)), some (.int (nI (mkA n c i))), some (.int (nI (i + 1))), some (.int (nI 1))] [] S G B J R _
            refine cr_nx (pc' := 13) (al' := [some (.ref a), some (.int (nI m)), some (.int (nI (mkA n c i))), some (.int (nI (i + 1))), some (.int (nI 1))]) (st' := []) d_65_55 (fun _ => rfl) ?_
            refine cr_al (congrArg (fun z__ : Nat => ([some (.ref a), some (.int (nI m)), some (.int (nI z__)), some (.int (nI (i + 1))), some (.int (nI 1))] : AL)) (show mkA n c i = mkA n c (i + 1) by first | (show i = if _ then _ else _; rw [if_pos ⟨by omega, c26, by omega⟩]) | (show mkA n c i = if _ then _ else _; rw [if_neg (fun e => by first | exact absurd e.2.1 (by omega) | exact c47 (by rw [hm]; exact e.2.2))]) | omega)) ?_
            refine cr_dr (al1 := [some (.ref a), some (.int (nI m)), some (.int (nI (mkA n c (i + 1)))), some (.int (nI (i + 1))), none]) (le_s (le_s (le_s (le_s (le_d rfl (le_n)))))) ?_
            exact ihi  (by omega)
          · refine cr_nx (pc' := 51) (al' := [some (.ref a), some (.int (nI m)), some (.int (nI (mkA n c i))), some (.int (nI i)), some (.int (nI 1))]) (st' := [.int (nI i)]) d_65_50 (fun _ => rfl) ?_
            refine cr_nx (pc' := 52) (al' := [some (.ref a), some (.int (nI m)), some (.int (nI i)), some (.int (nI i)), some (.int (nI 1))]) (st' := []) d_65_51 (fun _ => rfl) ?_
            refine cn_inc d_65_52 rfl rfl ?_
            show CR _ _ 55 [some (.ref a), some (.int (nI m)), some (.int (nI i)), some (.int (nI (i + 1))), some (.int (nI 1))] [] S G B J R _
            refine cr_nx (pc' := 13) (al' := [some (.ref a), some (.int (nI m)), some (.int (nI i)), some (.int (nI (i + 1))), some (.int (nI 1))]) (st' := []) d_65_55 (fun _ => rfl) ?_
            refine cr_al (congrArg (fun z__ : Nat => ([some (.ref a), some (.int (nI m)), some (.int (nI z__)), some (.int (nI (i + 1))), some (.int (nI 1))] : AL)) (show i = mkA n c (i + 1) by first | (show i = if _ then _ else _; rw [if_pos ⟨by omega, c26, by omega⟩]) | (show mkA n c i = if _ then _ else _; rw [if_neg (fun e => by first | exact absurd e.2.1 (by omega) | exact c47 (by rw [hm]; exact e.2.2))]) | omega)) ?_
            refine cr_dr (al1 := [some (.ref a), some (.int (nI m)), some (.int (nI (mkA n c (i + 1)))), some (.int (nI (i + 1))), none]) (le_s (le_s (le_s (le_s (le_d rfl (le_n)))))) ?_
            exact ihi  (by omega)
  · show CR _ _ 13 [some (.ref a), some (.int (nI m)), some (.int (nI (mkA n c m))), some (.int (nI m)), none] [] S G B J R _
    refine cr_nx (pc' := 14) (al' := [some (.ref a), some (.int (nI m)), some (.int (nI (mkA n c m))), some (.int (nI m)), none]) (st' := [.int (nI m)]) d_65_13 (fun _ => rfl) ?_
    refine cr_nx (pc' := 15) (al' := [some (.ref a), some (.int (nI m)), some (.int (nI (mkA n c m))), some (.int (nI m)), none]) (st' := [.int (nI m), .int (nI m)]) d_65_14 (fun _ => rfl) ?_
    refine cn_cge (t := 58) d_65_15 (by decide) (by first | omega | assumption | exact cu_36 (by omega) (cu_lt (by omega) (by omega))) (by first | omega | assumption | exact cu_36 (by omega) (cu_lt (by omega) (by omega))) (fun c15 => ?_) (fun c15 => ?_)
    · refine cr_nx (pc' := 59) (al' := [some (.ref a), some (.int (nI m)), some (.int (nI (mkA n c m))), some (.int (nI m)), none]) (st' := [.int (nI (mkA n c m))]) d_65_58 (fun _ => rfl) ?_
      exact cr_ri d_65_59 cx_65 rfl ⟨by rw [mkN, hm], rfl, rfl, rfl, rfl, rfl⟩
    · omega
theorem s_makers_24 {g : Nat → Int32} {A : Nat → Nat → Int32} {n : Nat} {c : Nat → Nat} (hc : Cur g A n c) (h1 : 1 ≤ n) {w : Nat} (hw : w ≤ 1) : RR 2 250 24 [some (.ref 146), none, some (.int (nI w)), none, none] [] g A (rP (some (.int (nI (if w = 0 then onN (mkN n c) else mkN n c)))) g A) := by
  have hn6 := hc.2.1
  have hm64 := m_lt hn6
  have hcc : ∀ q, q < n * n → c q < n := fun q hq => (hc.2.2 q hq).2
  obtain ⟨m, hm⟩ : ∃ m, m = 1 * 2 ^ n - 1 := ⟨_, rfl⟩
  have hmk : ∀ i, i ≤ m → mkD n c i ≤ m := fun i hi => by rw [hm] at hi ⊢; exact (mkD_inv hn6 h1 hcc i hi).1.2.1
  have hme := mk_eq hn6 h1 hcc
  have hml := mkN_lt hn6 h1 hcc
  refine rn_ic (v := 1) d_250_24 (by decide) ?_
  refine rr_nx (pc' := 26) (al' := [some (.ref 146), none, some (.int (nI w)), none, none]) (st' := [.ref 146, .int (nI 1)]) d_250_25 (fun _ => rfl) ?_
  refine rr_gn d_250_26 mo_250 fl_127 rfl hc.1 ?_
  refine rn_shl d_250_29 (by first | omega | assumption | exact cu_36 (by omega) (cu_lt (by omega) (by omega))) ?_
  refine rn_ic (v := 1) d_250_30 (by decide) ?_
  refine rn_sub d_250_31 (by first | omega | assumption | exact cu_36 (by omega) (cu_lt (by omega) (by omega))) ?_
  refine rr_tp (z := (nI m)) (congrArg nI hm.symm) ?_
  refine rr_nx (pc' := 33) (al' := [some (.ref 146), none, some (.int (nI w)), some (.int (nI m)), none]) (st' := []) d_250_32 (fun _ => rfl) ?_
  refine rr_nx (pc' := 34) (al' := [some (.ref 146), none, some (.int (nI w)), some (.int (nI m)), none]) (st' := [.int (nI m)]) d_250_33 (fun _ => rfl) ?_
  refine rr_nx (pc' := 36) (al' := [some (.ref 146), none, some (.int (nI w)), some (.int (nI m)), some (.int (nI m))]) (st' := []) d_250_34 (fun _ => rfl) ?_
  refine rr_al (congrArg (fun z__ : Nat => ([some (.ref 146), none, some (.int (nI w)), some (.int (nI z__)), some (.int (nI m))] : AL)) (show m = mkD n c 0 by rw [hm]; rfl)) ?_
  refine rr_al (congrArg (fun z__ : Nat => ([some (.ref 146), none, some (.int (nI w)), some (.int (nI (mkD n c 0))), some (.int (nI z__))] : AL)) (show m = m - 0 by rfl)) ?_
  refine rr_up (al := fun i => [some (.ref 146), none, some (.int (nI w)), some (.int (nI (mkD n c i))), some (.int (nI (m - i)))]) (G := fun i => g) (B := fun i => A) (P := fun i => True) (n := m) (fun i hi pi ihi => ?_) (fun pi => ?_) 0  (by omega) (trivial)
  · show RR _ _ 36 [some (.ref 146), none, some (.int (nI w)), some (.int (nI (mkD n c i))), some (.int (nI (m - i)))] [] g A _
    have hmi := hmk i (by omega)
    refine rr_nx (pc' := 38) (al' := [some (.ref 146), none, some (.int (nI w)), some (.int (nI (mkD n c i))), some (.int (nI (m - i)))]) (st' := [.int (nI (m - i))]) d_250_36 (fun _ => rfl) ?_
    refine rn_zle (t := 79) d_250_38 (by decide) (by first | omega | assumption | exact cu_36 (by omega) (cu_lt (by omega) (by omega))) (fun c38 => ?_) (fun c38 => ?_)
    · omega
    · refine rr_nx (pc' := 43) (al' := [some (.ref 146), none, some (.int (nI w)), some (.int (nI (mkD n c i))), some (.int (nI (m - i)))]) (st' := [.int (nI (m - i))]) d_250_41 (fun _ => rfl) ?_
      refine rr_ps (as := [.int (nI (m - i))]) (al0 := [some (.int (nI (m - i))), none, none]) (r := []) d_250_43 mo_250 ml_292 mz_247 rfl rfl rfl (Nat.le_of_ble_eq_true rfl) (s_ones (by first | omega | assumption | exact cu_36 (by omega) (cu_lt (by omega) (by omega)))) ?_
      show RR _ _ 46 [some (.ref 146), none, some (.int (nI w)), some (.int (nI (mkD n c i))), some (.int (nI (m - i)))] [.int (nI (onN (m - i)))] g A _
      refine rr_nx (pc' := 47) (al' := [some (.ref 146), none, some (.int (nI w)), some (.int (nI (mkD n c i))), some (.int (nI (m - i)))]) (st' := [.int (nI (mkD n c i)), .int (nI (onN (m - i)))]) d_250_46 (fun _ => rfl) ?_
      refine rr_ps (as := [.int (nI (mkD n c i))]) (al0 := [some (.int (nI (mkD n c i))), none, none]) (r := [.int (nI (onN (m - i)))]) d_250_47 mo_250 ml_292 mz_247 rfl rfl rfl (Nat.le_of_ble_eq_true rfl) (s_ones (by first | omega | assumption | exact cu_36 (by omega) (cu_lt (by omega) (by omega)))) ?_
      show RR _ _ 50 [some (.ref 146), none, some (.int (nI w)), some (.int (nI (mkD n c i))), some (.int (nI (m - i)))] [.int (nI (onN (mkD n c i))), .int (nI (onN (m - i)))] g A _
      refine rn_cgt (t := 73) d_250_50 (by decide) (by have := onN_16 (m - i); omega) (by have := onN_16 (mkD n c i); omega) (fun c50 => ?_) (fun c50 => ?_)
      · refine rr_nx (pc' := 76) (al' := [some (.ref 146), none, some (.int (nI w)), some (.int (nI (mkD n c i))), some (.int (nI ((m - i) - 1)))]) (st' := []) d_250_73 (fun _ => by rw [show nI ((m - i) - 1) = nI (m - i) + (-1) from nI_pr (by first | omega | assumption | exact cu_36 (by omega) (cu_lt (by omega) (by omega)))]; rfl) ?_
        refine rr_nx (pc' := 36) (al' := [some (.ref 146), none, some (.int (nI w)), some (.int (nI (mkD n c i))), some (.int (nI ((m - i) - 1)))]) (st' := []) d_250_76 (fun _ => rfl) ?_
        refine rr_al (congrArg (fun z__ : Nat => ([some (.ref 146), none, some (.int (nI w)), some (.int (nI z__)), some (.int (nI ((m - i) - 1)))] : AL)) (show mkD n c i = mkD n c (i + 1) by first | (show m - i = if _ then _ else _; rw [← hm, if_pos ⟨c50, c67⟩]) | (show mkD n c i = if _ then _ else _; rw [← hm, if_neg (fun e => by first | exact absurd e.1 (by omega) | exact c67 e.2)]))) ?_
        refine rr_al (congrArg (fun z__ : Nat => ([some (.ref 146), none, some (.int (nI w)), some (.int (nI (mkD n c (i + 1)))), some (.int (nI z__))] : AL)) (show (m - i) - 1 = m - (i + 1) by omega)) ?_
        exact ihi  (trivial)
      · refine rr_nx (pc' := 54) (al' := [some (.ref 146), none, some (.int (nI w)), some (.int (nI (mkD n c i))), some (.int (nI (m - i)))]) (st' := [.ref 146]) d_250_53 (fun _ => rfl) ?_
        refine rr_nx (pc' := 56) (al' := [some (.ref 146), none, some (.int (nI w)), some (.int (nI (mkD n c i))), some (.int (nI (m - i)))]) (st' := [.int (nI (m - i)), .ref 146]) d_250_54 (fun _ => rfl) ?_
        refine rr_pv (as := [.int (nI (m - i))]) (al0 := [some (.ref 146), some (.int (nI (m - i))), none, none, none, none]) (r := []) d_250_56 mo_250 ml_286 mz_246 rfl rfl rfl (Nat.le_of_ble_eq_true rfl) (s_closedOf hc (by first | omega | assumption | exact cu_36 (by omega) (cu_lt (by omega) (by omega))) (by first | omega | assumption | exact cu_36 (by omega) (cu_lt (by omega) (by omega)))) ?_
        show RR _ _ 59 [some (.ref 146), none, some (.int (nI w)), some (.int (nI (mkD n c i))), some (.int (nI (m - i)))] [.int (nI (clN n c (m - i)))] g A _
        have b56 : clN n c (m - i) < 64 := clN_lt (by omega) (fun q hq => (hc.2.2 q hq).2) (by first | omega | assumption | exact cu_36 (by omega) (cu_lt (by omega) (by omega)))
        refine rn_ic (v := 1) d_250_59 (by decide) ?_
        refine rr_nx (pc' := 61) (al' := [some (.ref 146), none, some (.int (nI w)), some (.int (nI (mkD n c i))), some (.int (nI (m - i)))]) (st' := [.ref 146, .int (nI 1), .int (nI (clN n c (m - i)))]) d_250_60 (fun _ => rfl) ?_
        refine rr_gn d_250_61 mo_250 fl_127 rfl hc.1 ?_
        refine rn_shl d_250_64 (by first | omega | assumption | exact cu_36 (by omega) (cu_lt (by omega) (by omega))) ?_
        refine rn_ic (v := 1) d_250_65 (by decide) ?_
        refine rn_sub d_250_66 (by first | omega | assumption | exact cu_36 (by omega) (cu_lt (by omega) (by omega))) ?_
        refine rr_tp (z := (nI m)) (congrArg nI hm.symm) ?_
        refine rn_cne (t := 73) d_250_67 (by decide) (by first | omega | assumption | exact cu_36 (by omega) (cu_lt (by omega) (by omega))) (by first | omega | assumption | exact cu_36 (by omega) (cu_lt (by omega) (by omega))) (fun c67 => ?_) (fun c67 => ?_)
        · refine rr_nx (pc' := 76) (al' := [some (.ref 146), none, some (.int (nI w)), some (.int (nI (mkD n c i))), some (.int (nI ((m - i) - 1)))]) (st' := []) d_250_73 (fun _ => by rw [show nI ((m - i) - 1) = nI (m - i) + (-1) from nI_pr (by first | omega | assumption | exact cu_36 (by omega) (cu_lt (by omega) (by omega)))]; rfl) ?_
          refine rr_nx (pc' := 36) (al' := [some (.ref 146), none, some (.int (nI w)), some (.int (nI (mkD n c i))), some (.int (nI ((m - i) - 1)))]) (st' := []) d_250_76 (fun _ => rfl) ?_
          refine rr_al (congrArg (fun z__ : Nat => ([some (.ref 146), none, some (.int (nI w)), some (.int (nI z__)), some (.int (nI ((m - i) - 1)))] : AL)) (show mkD n c i = mkD n c (i + 1) by first | (show m - i = if _ then _ else _; rw [← hm, if_pos ⟨c50, c67⟩]) | (show mkD n c i = if _ then _ else _; rw [← hm, if_neg (fun e => by first | exact absurd e.1 (by omega) | exact c67 e.2)]))) ?_
          refine rr_al (congrArg (fun z__ : Nat => ([some (.ref 146), none, some (.int (nI w)), some (.int (nI (mkD n c (i + 1)))), some (.int (nI z__))] : AL)) (show (m - i) - 1 = m - (i + 1) by omega)) ?_
          exact ihi  (trivial)
        · refine rr_nx (pc' := 72) (al' := [some (.ref 146), none, some (.int (nI w)), some (.int (nI (mkD n c i))), some (.int (nI (m - i)))]) (st' := [.int (nI (m - i))]) d_250_70 (fun _ => rfl) ?_
          refine rr_nx (pc' := 73) (al' := [some (.ref 146), none, some (.int (nI w)), some (.int (nI (m - i))), some (.int (nI (m - i)))]) (st' := []) d_250_72 (fun _ => rfl) ?_
          refine rr_nx (pc' := 76) (al' := [some (.ref 146), none, some (.int (nI w)), some (.int (nI (m - i))), some (.int (nI ((m - i) - 1)))]) (st' := []) d_250_73 (fun _ => by rw [show nI ((m - i) - 1) = nI (m - i) + (-1) from nI_pr (by first | omega | assumption | exact cu_36 (by omega) (cu_lt (by omega) (by omega)))]; rfl) ?_
          refine rr_nx (pc' := 36) (al' := [some (.ref 146), none, some (.int (nI w)), some (.int (nI (m - i))), some (.int (nI ((m - i) - 1)))]) (st' := []) d_250_76 (fun _ => rfl) ?_
          refine rr_al (congrArg (fun z__ : Nat => ([some (.ref 146), none, some (.int (nI w)), some (.int (nI z__)), some (.int (nI ((m - i) - 1)))] : AL)) (show m - i = mkD n c (i + 1) by first | (show m - i = if _ then _ else _; rw [← hm, if_pos ⟨c50, c67⟩]) | (show mkD n c i = if _ then _ else _; rw [← hm, if_neg (fun e => by first | exact absurd e.1 (by omega) | exact c67 e.2)]))) ?_
          refine rr_al (congrArg (fun z__ : Nat => ([some (.ref 146), none, some (.int (nI w)), some (.int (nI (mkD n c (i + 1)))), some (.int (nI z__))] : AL)) (show (m - i) - 1 = m - (i + 1) by omega)) ?_
          exact ihi  (trivial)
  · show RR _ _ 36 [some (.ref 146), none, some (.int (nI w)), some (.int (nI (mkD n c m))), some (.int (nI (m - m)))] [] g A _
    have hmi := hmk m (Nat.le_refl m)
    refine rr_nx (pc' := 38) (al' := [some (.ref 146), none, some (.int (nI w)), some (.int (nI (mkD n c m))), some (.int (nI (m - m)))]) (st' := [.int (nI (m - m))]) d_250_36 (fun _ => rfl) ?_
    refine rn_zle (t := 79) d_250_38 (by decide) (by first | omega | assumption | exact cu_36 (by omega) (cu_lt (by omega) (by omega))) (fun c38 => ?_) (fun c38 => ?_)
    · refine rr_nx (pc' := 80) (al' := [some (.ref 146), none, some (.int (nI w)), some (.int (nI (mkD n c m))), some (.int (nI (m - m)))]) (st' := [.int (nI w)]) d_250_79 (fun _ => rfl) ?_
      refine rn_ine (t := 90) d_250_80 (by decide) (by first | omega | assumption | exact cu_36 (by omega) (cu_lt (by omega) (by omega))) (fun c80 => ?_) (fun c80 => ?_)
      · refine rr_nx (pc' := 91) (al' := [some (.ref 146), none, some (.int (nI w)), some (.int (nI (mkD n c m))), some (.int (nI (m - m)))]) (st' := [.int (nI (mkD n c m))]) d_250_90 (fun _ => rfl) ?_
        exact rr_ri d_250_91 mr_250 rfl ⟨by first | rw [if_pos c80, ← hme, ← hm] | rw [if_neg (by omega), ← hme, ← hm], rfl, rfl⟩
      · refine rr_nx (pc' := 84) (al' := [some (.ref 146), none, some (.int (nI w)), some (.int (nI (mkD n c m))), some (.int (nI (m - m)))]) (st' := [.int (nI (mkD n c m))]) d_250_83 (fun _ => rfl) ?_
        refine rr_ps (as := [.int (nI (mkD n c m))]) (al0 := [some (.int (nI (mkD n c m))), none, none]) (r := []) d_250_84 mo_250 ml_292 mz_247 rfl rfl rfl (Nat.le_of_ble_eq_true rfl) (s_ones (by first | omega | assumption | exact cu_36 (by omega) (cu_lt (by omega) (by omega)))) ?_
        show RR _ _ 87 [some (.ref 146), none, some (.int (nI w)), some (.int (nI (mkD n c m))), some (.int (nI (m - m)))] [.int (nI (onN (mkD n c m)))] g A _
        refine rr_nx (pc' := 91) (al' := [some (.ref 146), none, some (.int (nI w)), some (.int (nI (mkD n c m))), some (.int (nI (m - m)))]) (st' := [.int (nI (onN (mkD n c m)))]) d_250_87 (fun _ => rfl) ?_
        exact rr_ri d_250_91 mr_250 rfl ⟨by first | rw [if_pos c80, ← hme, ← hm] | rw [if_neg (by omega), ← hme, ← hm], rfl, rfl⟩
    · omega
def cpF (n : Nat) (c : Nat → Nat) (p : Nat) : Nat := if clB n c p = true then 1 else 0
def cpN (n : Nat) (c : Nat → Nat) : Nat := SM (cpF n c) (1 * 2 ^ n)
theorem SM_1 {f : Nat → Nat} {n : Nat} (h : ∀ i, f i ≤ 1) : SM f n ≤ n := by
  have : SM f n ≤ n * 1 := SM_le (fun i _ => h i)
  omega
theorem cpF_1 {n : Nat} {c : Nat → Nat} (i : Nat) : cpF n c i ≤ 1 := by
  unfold cpF
  split <;> omega
theorem cpF_0 {n : Nat} {c : Nat → Nat} : cpF n c 0 = 0 := by
  unfold cpF
  rw [if_neg]
  intro e
  have := (clB_iff.mp e).1.1
  omega
theorem k_closedOnes0 {S : CS} {G : Nat → Nat → Value} {B : Nat → Nat → Int32} {J : Nat → Nat → Int64} {R : Nat → Nat → Option Nat} {a n : Nat} (ht : TabAt S G a) (hn : G a 0 = .int (nI n)) {c : Nat → Nat} (hc : TabC B a n c) : CR 4 64 0 [some (.ref a), some (.int (nI 0)), none, none] [] S G B J R (cP (some (.int (nI (cpN n c)))) S G B J R) := by
  have hn6 := hc.1
  have hm64 := m_lt hn6
  refine cn_ic (v := 0) d_64_0 (by decide) ?_
  refine cr_nx (pc' := 2) (al' := [some (.ref a), some (.int (nI 0)), some (.int (nI 0)), none]) (st' := []) d_64_1 (fun _ => rfl) ?_
  refine cn_ic (v := 1) d_64_2 (by decide) ?_
  refine cr_nx (pc' := 4) (al' := [some (.ref a), some (.int (nI 0)), some (.int (nI 0)), some (.int (nI 1))]) (st' := []) d_64_3 (fun _ => rfl) ?_
  refine cr_al (congrArg (fun z__ : Nat => ([some (.ref a), some (.int (nI 0)), some (.int (nI z__)), some (.int (nI 1))] : AL)) (show 0 = SM (cpF n c) 1 by show 0 = 0 + cpF n c 0; rw [cpF_0])) ?_
  refine cr_up (al := fun i => [some (.ref a), some (.int (nI 0)), some (.int (nI (SM (cpF n c) i))), some (.int (nI i))]) (S := fun i => S) (G := fun i => G) (B := fun i => B) (J := fun i => J) (R := fun i => R) (P := fun i => True) (n := 1 * 2 ^ n) (fun i hi pi ihi => ?_) (fun pi => ?_) 1  (by omega) (trivial)
  · show CR _ _ 4 [some (.ref a), some (.int (nI 0)), some (.int (nI (SM (cpF n c) i))), some (.int (nI i))] [] S G B J R _
    refine cr_nx (pc' := 5) (al' := [some (.ref a), some (.int (nI 0)), some (.int (nI (SM (cpF n c) i))), some (.int (nI i))]) (st' := [.int (nI i)]) d_64_4 (fun _ => rfl) ?_
    refine cn_ic (v := 1) d_64_5 (by decide) ?_
    refine cr_nx (pc' := 7) (al' := [some (.ref a), some (.int (nI 0)), some (.int (nI (SM (cpF n c) i))), some (.int (nI i))]) (st' := [.ref a, .int (nI 1), .int (nI i)]) d_64_6 (fun _ => rfl) ?_
    refine cr_gf (v := .int (nI n)) d_64_7 cw_64 cf_7_21 ht.1 ht.2.2.1 (by decide) hn ?_
    refine cn_shl d_64_10 (by first | omega | assumption | exact cu_36 (by omega) (cu_lt (by omega) (by omega))) ?_
    refine cn_cge (t := 46) d_64_11 (by decide) (by first | omega | assumption | exact cu_36 (by omega) (cu_lt (by omega) (by omega))) (by first | omega | assumption | exact cu_36 (by omega) (cu_lt (by omega) (by omega))) (fun c11 => ?_) (fun c11 => ?_)
    · omega
    · refine cr_nx (pc' := 15) (al' := [some (.ref a), some (.int (nI 0)), some (.int (nI (SM (cpF n c) i))), some (.int (nI i))]) (st' := [.int (nI 0)]) d_64_14 (fun _ => rfl) ?_
      refine cn_ieq (t := 29) d_64_15 (by decide) (by first | omega | assumption | exact cu_36 (by omega) (cu_lt (by omega) (by omega))) (fun c15 => ?_) (fun c15 => ?_)
      · refine cr_nx (pc' := 30) (al' := [some (.ref a), some (.int (nI 0)), some (.int (nI (SM (cpF n c) i))), some (.int (nI i))]) (st' := [.ref a]) d_64_29 (fun _ => rfl) ?_
        refine cr_nx (pc' := 31) (al' := [some (.ref a), some (.int (nI 0)), some (.int (nI (SM (cpF n c) i))), some (.int (nI i))]) (st' := [.int (nI i), .ref a]) d_64_30 (fun _ => rfl) ?_
        refine cr_ps (as := [.ref a, .int (nI i)]) (al0 := [some (.ref a), some (.int (nI i))]) (r := []) d_64_31 cw_64 cm_7_33 (by decide) cz_47 rfl rfl rfl (Nat.le_of_ble_eq_true rfl) (k_isClosed ht hn hc (by first | omega | assumption | exact cu_36 (by omega) (cu_lt (by omega) (by omega)))) ?_
        show CR _ _ 34 [some (.ref a), some (.int (nI 0)), some (.int (nI (SM (cpF n c) i))), some (.int (nI i))] [.int (bI (clB n c i = true))] S G B J R _
        refine cr_beq (t := 40) d_64_34 (by decide) (fun c34 => ?_) (fun c34 => ?_)
        · refine cn_inc d_64_40 rfl rfl ?_
          show CR _ _ 43 [some (.ref a), some (.int (nI 0)), some (.int (nI (SM (cpF n c) i))), some (.int (nI (i + 1)))] [] S G B J R _
          refine cr_nx (pc' := 4) (al' := [some (.ref a), some (.int (nI 0)), some (.int (nI (SM (cpF n c) i))), some (.int (nI (i + 1)))]) (st' := []) d_64_43 (fun _ => rfl) ?_
          refine cr_al (congrArg (fun z__ : Nat => ([some (.ref a), some (.int (nI 0)), some (.int (nI z__)), some (.int (nI (i + 1)))] : AL)) (show SM (cpF n c) i = SM (cpF n c) (i + 1) by first | (rw [SM_s, cpF, if_pos c34]) | (rw [SM_s, cpF, if_neg c34]; rfl))) ?_
          exact ihi  (trivial)
        · refine cn_inc d_64_37 rfl rfl ?_
          show CR _ _ 40 [some (.ref a), some (.int (nI 0)), some (.int (nI ((SM (cpF n c) i) + 1))), some (.int (nI i))] [] S G B J R _
          refine cn_inc d_64_40 rfl rfl ?_
          show CR _ _ 43 [some (.ref a), some (.int (nI 0)), some (.int (nI ((SM (cpF n c) i) + 1))), some (.int (nI (i + 1)))] [] S G B J R _
          refine cr_nx (pc' := 4) (al' := [some (.ref a), some (.int (nI 0)), some (.int (nI ((SM (cpF n c) i) + 1))), some (.int (nI (i + 1)))]) (st' := []) d_64_43 (fun _ => rfl) ?_
          refine cr_al (congrArg (fun z__ : Nat => ([some (.ref a), some (.int (nI 0)), some (.int (nI z__)), some (.int (nI (i + 1)))] : AL)) (show (SM (cpF n c) i) + 1 = SM (cpF n c) (i + 1) by first | (rw [SM_s, cpF, if_pos c34]) | (rw [SM_s, cpF, if_neg c34]; rfl))) ?_
          exact ihi  (trivial)
      · omega
  · show CR _ _ 4 [some (.ref a), some (.int (nI 0)), some (.int (nI (SM (cpF n c) (1 * 2 ^ n)))), some (.int (nI (1 * 2 ^ n)))] [] S G B J R _
    refine cr_nx (pc' := 5) (al' := [some (.ref a), some (.int (nI 0)), some (.int (nI (SM (cpF n c) (1 * 2 ^ n)))), some (.int (nI (1 * 2 ^ n)))]) (st' := [.int (nI (1 * 2 ^ n))]) d_64_4 (fun _ => rfl) ?_
    refine cn_ic (v := 1) d_64_5 (by decide) ?_
    refine cr_nx (pc' := 7) (al' := [some (.ref a), some (.int (nI 0)), some (.int (nI (SM (cpF n c) (1 * 2 ^ n)))), some (.int (nI (1 * 2 ^ n)))]) (st' := [.ref a, .int (nI 1), .int (nI (1 * 2 ^ n))]) d_64_6 (fun _ => rfl) ?_
    refine cr_gf (v := .int (nI n)) d_64_7 cw_64 cf_7_21 ht.1 ht.2.2.1 (by decide) hn ?_
    refine cn_shl d_64_10 (by first | omega | assumption | exact cu_36 (by omega) (cu_lt (by omega) (by omega))) ?_
    refine cn_cge (t := 46) d_64_11 (by decide) (by first | omega | assumption | exact cu_36 (by omega) (cu_lt (by omega) (by omega))) (by first | omega | assumption | exact cu_36 (by omega) (cu_lt (by omega) (by omega))) (fun c11 => ?_) (fun c11 => ?_)
    · refine cr_nx (pc' := 47) (al' := [some (.ref a), some (.int (nI 0)), some (.int (nI (SM (cpF n c) (1 * 2 ^ n)))), some (.int (nI (1 * 2 ^ n)))]) (st' := [.int (nI (SM (cpF n c) (1 * 2 ^ n)))]) d_64_46 (fun _ => rfl) ?_
      exact cr_ri d_64_47 cx_64 rfl ⟨rfl, rfl, rfl, rfl, rfl, rfl⟩
    · omega
theorem s_parts0_40 {g : Nat → Int32} {A : Nat → Nat → Int32} {n : Nat} {c : Nat → Nat} (hc : Cur g A n c) : RR 3 249 40 [some (.ref 146), none, some (.int (nI 0)), none, none] [] g A (rP (some (.int (nI (cpN n c)))) g A) := by
  have hn6 := hc.2.1
  have hm64 := m_lt hn6
  refine rn_ic (v := 0) d_249_40 (by decide) ?_
  refine rr_nx (pc' := 42) (al' := [some (.ref 146), none, some (.int (nI 0)), some (.int (nI 0)), none]) (st' := []) d_249_41 (fun _ => rfl) ?_
  refine rn_ic (v := 1) d_249_42 (by decide) ?_
  refine rr_nx (pc' := 45) (al' := [some (.ref 146), none, some (.int (nI 0)), some (.int (nI 0)), some (.int (nI 1))]) (st' := []) d_249_43 (fun _ => rfl) ?_
  refine rr_al (congrArg (fun z__ : Nat => ([some (.ref 146), none, some (.int (nI 0)), some (.int (nI z__)), some (.int (nI 1))] : AL)) (show 0 = SM (cpF n c) 1 by show 0 = 0 + cpF n c 0; rw [cpF_0])) ?_
  refine rr_up (al := fun i => [some (.ref 146), none, some (.int (nI 0)), some (.int (nI (SM (cpF n c) i))), some (.int (nI i))]) (G := fun i => g) (B := fun i => A) (P := fun i => True) (n := 1 * 2 ^ n) (fun i hi pi ihi => ?_) (fun pi => ?_) 1  (by omega) (trivial)
  · show RR _ _ 45 [some (.ref 146), none, some (.int (nI 0)), some (.int (nI (SM (cpF n c) i))), some (.int (nI i))] [] g A _
    refine rr_nx (pc' := 47) (al' := [some (.ref 146), none, some (.int (nI 0)), some (.int (nI (SM (cpF n c) i))), some (.int (nI i))]) (st' := [.int (nI i)]) d_249_45 (fun _ => rfl) ?_
    refine rn_ic (v := 1) d_249_47 (by decide) ?_
    refine rr_nx (pc' := 49) (al' := [some (.ref 146), none, some (.int (nI 0)), some (.int (nI (SM (cpF n c) i))), some (.int (nI i))]) (st' := [.ref 146, .int (nI 1), .int (nI i)]) d_249_48 (fun _ => rfl) ?_
    refine rr_gn d_249_49 mo_249 fl_127 rfl hc.1 ?_
    refine rn_shl d_249_52 (by first | omega | assumption | exact cu_36 (by omega) (cu_lt (by omega) (by omega))) ?_
    refine rn_cge (t := 95) d_249_53 (by decide) (by first | omega | assumption | exact cu_36 (by omega) (cu_lt (by omega) (by omega))) (by first | omega | assumption | exact cu_36 (by omega) (cu_lt (by omega) (by omega))) (fun c53 => ?_) (fun c53 => ?_)
    · omega
    · refine rr_nx (pc' := 57) (al' := [some (.ref 146), none, some (.int (nI 0)), some (.int (nI (SM (cpF n c) i))), some (.int (nI i))]) (st' := [.int (nI (SM (cpF n c) i))]) d_249_56 (fun _ => rfl) ?_
      refine rr_nx (pc' := 58) (al' := [some (.ref 146), none, some (.int (nI 0)), some (.int (nI (SM (cpF n c) i))), some (.int (nI i))]) (st' := [.int (nI 0), .int (nI (SM (cpF n c) i))]) d_249_57 (fun _ => rfl) ?_
      refine rn_ine (t := 73) d_249_58 (by decide) (by first | omega | assumption | exact cu_36 (by omega) (cu_lt (by omega) (by omega))) (fun c58 => ?_) (fun c58 => ?_)
      · omega
      · refine rr_nx (pc' := 62) (al' := [some (.ref 146), none, some (.int (nI 0)), some (.int (nI (SM (cpF n c) i))), some (.int (nI i))]) (st' := [.ref 146, .int (nI (SM (cpF n c) i))]) d_249_61 (fun _ => rfl) ?_
        refine rr_nx (pc' := 64) (al' := [some (.ref 146), none, some (.int (nI 0)), some (.int (nI (SM (cpF n c) i))), some (.int (nI i))]) (st' := [.int (nI i), .ref 146, .int (nI (SM (cpF n c) i))]) d_249_62 (fun _ => rfl) ?_
        refine rr_pv (as := [.int (nI i)]) (al0 := [some (.ref 146), some (.int (nI i))]) (r := [.int (nI (SM (cpF n c) i))]) d_249_64 mo_249 ml_289 mz_244 rfl rfl rfl (Nat.le_of_ble_eq_true rfl) (s_isClosed hc (by first | omega | assumption | exact cu_36 (by omega) (cu_lt (by omega) (by omega)))) ?_
        show RR _ _ 67 [some (.ref 146), none, some (.int (nI 0)), some (.int (nI (SM (cpF n c) i))), some (.int (nI i))] [.int (bI (clB n c i = true)), .int (nI (SM (cpF n c) i))] g A _
        refine rr_beq (t := 86) d_249_67 (by decide) (fun c67 => ?_) (fun c67 => ?_)
        · refine rn_ic (v := 0) d_249_86 (by decide) ?_
          refine rn_add d_249_87  ?_
          refine rr_nx (pc' := 89) (al' := [some (.ref 146), none, some (.int (nI 0)), some (.int (nI ((SM (cpF n c) i) + 0))), some (.int (nI i))]) (st' := []) d_249_88 (fun _ => rfl) ?_
          refine rn_inc d_249_89 rfl rfl ?_
          show RR _ _ 92 [some (.ref 146), none, some (.int (nI 0)), some (.int (nI ((SM (cpF n c) i) + 0))), some (.int (nI (i + 1)))] [] g A _
          refine rr_nx (pc' := 45) (al' := [some (.ref 146), none, some (.int (nI 0)), some (.int (nI ((SM (cpF n c) i) + 0))), some (.int (nI (i + 1)))]) (st' := []) d_249_92 (fun _ => rfl) ?_
          refine rr_al (congrArg (fun z__ : Nat => ([some (.ref 146), none, some (.int (nI 0)), some (.int (nI z__)), some (.int (nI (i + 1)))] : AL)) (show (SM (cpF n c) i) + 0 = SM (cpF n c) (i + 1) by first | (rw [SM_s, cpF, if_pos c67]) | (rw [SM_s, cpF, if_neg c67]))) ?_
          exact ihi  (trivial)
        · refine rr_nx (pc' := 82) (al' := [some (.ref 146), none, some (.int (nI 0)), some (.int (nI (SM (cpF n c) i))), some (.int (nI i))]) (st' := [.int (nI (SM (cpF n c) i))]) d_249_70 (fun _ => rfl) ?_
          refine rn_ic (v := 1) d_249_82 (by decide) ?_
          refine rr_nx (pc' := 87) (al' := [some (.ref 146), none, some (.int (nI 0)), some (.int (nI (SM (cpF n c) i))), some (.int (nI i))]) (st' := [.int (nI 1), .int (nI (SM (cpF n c) i))]) d_249_83 (fun _ => rfl) ?_
          refine rn_add d_249_87  ?_
          refine rr_nx (pc' := 89) (al' := [some (.ref 146), none, some (.int (nI 0)), some (.int (nI ((SM (cpF n c) i) + 1))), some (.int (nI i))]) (st' := []) d_249_88 (fun _ => rfl) ?_
          refine rn_inc d_249_89 rfl rfl ?_
          show RR _ _ 92 [some (.ref 146), none, some (.int (nI 0)), some (.int (nI ((SM (cpF n c) i) + 1))), some (.int (nI (i + 1)))] [] g A _
          refine rr_nx (pc' := 45) (al' := [some (.ref 146), none, some (.int (nI 0)), some (.int (nI ((SM (cpF n c) i) + 1))), some (.int (nI (i + 1)))]) (st' := []) d_249_92 (fun _ => rfl) ?_
          refine rr_al (congrArg (fun z__ : Nat => ([some (.ref 146), none, some (.int (nI 0)), some (.int (nI z__)), some (.int (nI (i + 1)))] : AL)) (show (SM (cpF n c) i) + 1 = SM (cpF n c) (i + 1) by first | (rw [SM_s, cpF, if_pos c67]) | (rw [SM_s, cpF, if_neg c67]))) ?_
          exact ihi  (trivial)
  · show RR _ _ 45 [some (.ref 146), none, some (.int (nI 0)), some (.int (nI (SM (cpF n c) (1 * 2 ^ n)))), some (.int (nI (1 * 2 ^ n)))] [] g A _
    refine rr_nx (pc' := 47) (al' := [some (.ref 146), none, some (.int (nI 0)), some (.int (nI (SM (cpF n c) (1 * 2 ^ n)))), some (.int (nI (1 * 2 ^ n)))]) (st' := [.int (nI (1 * 2 ^ n))]) d_249_45 (fun _ => rfl) ?_
    refine rn_ic (v := 1) d_249_47 (by decide) ?_
    refine rr_nx (pc' := 49) (al' := [some (.ref 146), none, some (.int (nI 0)), some (.int (nI (SM (cpF n c) (1 * 2 ^ n)))), some (.int (nI (1 * 2 ^ n)))]) (st' := [.ref 146, .int (nI 1), .int (nI (1 * 2 ^ n))]) d_249_48 (fun _ => rfl) ?_
    refine rr_gn d_249_49 mo_249 fl_127 rfl hc.1 ?_
    refine rn_shl d_249_52 (by first | omega | assumption | exact cu_36 (by omega) (cu_lt (by omega) (by omega))) ?_
    refine rn_cge (t := 95) d_249_53 (by decide) (by first | omega | assumption | exact cu_36 (by omega) (cu_lt (by omega) (by omega))) (by first | omega | assumption | exact cu_36 (by omega) (cu_lt (by omega) (by omega))) (fun c53 => ?_) (fun c53 => ?_)
    · refine rr_nx (pc' := 96) (al' := [some (.ref 146), none, some (.int (nI 0)), some (.int (nI (SM (cpF n c) (1 * 2 ^ n)))), some (.int (nI (1 * 2 ^ n)))]) (st' := [.int (nI (SM (cpF n c) (1 * 2 ^ n)))]) d_249_95 (fun _ => rfl) ?_
      exact rr_ri d_249_96 mr_249 rfl ⟨rfl, rfl, rfl⟩
    · omega
