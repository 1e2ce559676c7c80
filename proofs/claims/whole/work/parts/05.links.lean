/-! The code words and the method links are among the words of the Statement; printed by wip/whole/gen_facts.py. -/
theorem aw_1 {w : Cond} (h : w ∈ tables_1_1) : w ∈ lw_tbl := List.mem_append_right _ (show w ∈ tables_1 from List.mem_append_left _ h)
theorem aw_2 {w : Cond} (h : w ∈ tables_1_2) : w ∈ lw_tbl := List.mem_append_right _ (show w ∈ tables_1 from List.mem_append_right _ (List.mem_append_left _ h))
theorem aw_3 {w : Cond} (h : w ∈ tables_1_3) : w ∈ lw_tbl := List.mem_append_right _ (show w ∈ tables_1 from List.mem_append_right _ (List.mem_append_right _ (List.mem_append_left _ h)))
theorem aw_4 {w : Cond} (h : w ∈ tables_1_4) : w ∈ lw_tbl := List.mem_append_right _ (show w ∈ tables_1 from List.mem_append_right _ (List.mem_append_right _ (List.mem_append_right _ (List.mem_append_left _ h))))
theorem aw_5 {w : Cond} (h : w ∈ tables_1_5) : w ∈ lw_tbl := List.mem_append_right _ (show w ∈ tables_1 from List.mem_append_right _ (List.mem_append_right _ (List.mem_append_right _ (List.mem_append_right _ (List.mem_append_left _ h)))))
theorem aw_6 {w : Cond} (h : w ∈ tables_1_6) : w ∈ lw_tbl := List.mem_append_right _ (show w ∈ tables_1 from List.mem_append_right _ (List.mem_append_right _ (List.mem_append_right _ (List.mem_append_right _ (List.mem_append_right _ (List.mem_append_left _ h))))))
theorem aw_7 {w : Cond} (h : w ∈ tables_1_7) : w ∈ lw_tbl := List.mem_append_right _ (show w ∈ tables_1 from List.mem_append_right _ (List.mem_append_right _ (List.mem_append_right _ (List.mem_append_right _ (List.mem_append_right _ (List.mem_append_right _ (List.mem_append_left _ h)))))))
theorem aw_8 {w : Cond} (h : w ∈ tables_1_8) : w ∈ lw_tbl := List.mem_append_right _ (show w ∈ tables_1 from List.mem_append_right _ (List.mem_append_right _ (List.mem_append_right _ (List.mem_append_right _ (List.mem_append_right _ (List.mem_append_right _ (List.mem_append_right _ (h))))))))
theorem ap_1 {w : Cond} (h : w ∈ k2_sels lw_privs_1) : w ∈ lw_tbl := by
  obtain ⟨q, hq, rfl⟩ := List.mem_map.mp h
  exact List.mem_append_left _ (List.mem_map.mpr ⟨q, show q ∈ lw_privs from List.mem_append_left _ hq, rfl⟩)
theorem ap_2 {w : Cond} (h : w ∈ k2_sels lw_privs_2) : w ∈ lw_tbl := by
  obtain ⟨q, hq, rfl⟩ := List.mem_map.mp h
  exact List.mem_append_left _ (List.mem_map.mpr ⟨q, show q ∈ lw_privs from List.mem_append_right _ (List.mem_append_left _ hq), rfl⟩)
theorem ap_3 {w : Cond} (h : w ∈ k2_sels lw_privs_3) : w ∈ lw_tbl := by
  obtain ⟨q, hq, rfl⟩ := List.mem_map.mp h
  exact List.mem_append_left _ (List.mem_map.mpr ⟨q, show q ∈ lw_privs from List.mem_append_right _ (List.mem_append_right _ (List.mem_append_left _ hq)), rfl⟩)
theorem ap_4 {w : Cond} (h : w ∈ k2_sels lw_privs_4) : w ∈ lw_tbl := by
  obtain ⟨q, hq, rfl⟩ := List.mem_map.mp h
  exact List.mem_append_left _ (List.mem_map.mpr ⟨q, show q ∈ lw_privs from List.mem_append_right _ (List.mem_append_right _ (List.mem_append_right _ (List.mem_append_left _ hq))), rfl⟩)
theorem ap_5 {w : Cond} (h : w ∈ k2_sels lw_privs_5) : w ∈ lw_tbl := by
  obtain ⟨q, hq, rfl⟩ := List.mem_map.mp h
  exact List.mem_append_left _ (List.mem_map.mpr ⟨q, show q ∈ lw_privs from List.mem_append_right _ (List.mem_append_right _ (List.mem_append_right _ (List.mem_append_right _ (List.mem_append_left _ hq)))), rfl⟩)
theorem ap_6 {w : Cond} (h : w ∈ k2_sels lw_privs_6) : w ∈ lw_tbl := by
  obtain ⟨q, hq, rfl⟩ := List.mem_map.mp h
  exact List.mem_append_left _ (List.mem_map.mpr ⟨q, show q ∈ lw_privs from List.mem_append_right _ (List.mem_append_right _ (List.mem_append_right _ (List.mem_append_right _ (List.mem_append_right _ (List.mem_append_left _ hq))))), rfl⟩)
theorem ap_7 {w : Cond} (h : w ∈ k2_sels lw_privs_7) : w ∈ lw_tbl := by
  obtain ⟨q, hq, rfl⟩ := List.mem_map.mp h
  exact List.mem_append_left _ (List.mem_map.mpr ⟨q, show q ∈ lw_privs from List.mem_append_right _ (List.mem_append_right _ (List.mem_append_right _ (List.mem_append_right _ (List.mem_append_right _ (List.mem_append_right _ (hq)))))), rfl⟩)
/-- what kind of method: 0 an instance's, 1 static, 2 a constructor -/
def am_kd : List Nat := [2, 0, 0, 0, 0, 0, 0, 0, 0, 2, 0, 0, 0, 0, 1, 1, 2, 0, 0, 0, 0, 0, 0, 2, 2, 0, 0, 1, 0, 0, 0, 0, 0, 0, 2, 0, 0, 0, 0, 2, 0, 0, 0, 0, 0, 0, 1, 1, 1, 1, 1, 1, 1, 1, 1, 1, 1, 1, 1, 1, 1, 1, 1, 1, 1, 1, 2, 0, 0, 0, 0, 0, 0, 0, 0, 0, 0, 0, 0, 0, 2, 0, 0, 0, 0, 0, 0, 0, 0, 2, 0, 0, 0, 0, 0, 0, 0, 0, 0, 0, 0, 0, 0, 0, 0, 0, 0, 0, 0, 0, 0, 0, 0, 2, 0, 0, 0, 0, 1, 0, 0, 1, 0, 0, 0, 0, 0, 0, 0, 0, 0, 1, 0, 0, 0, 0, 0, 0, 0, 0, 0, 0, 0, 0, 0, 0, 0, 0, 0, 0, 0, 0, 0, 0, 1, 0, 1, 1, 0, 0, 0, 0, 0, 0, 0, 0, 0, 0, 0, 0, 0, 1, 0, 0, 0, 0, 0, 2, 0, 1, 0, 0, 0, 0, 0, 1, 0, 0, 0, 0, 0, 0, 0, 1, 1, 0, 0, 0, 0, 0, 0, 1, 0, 0, 0, 0, 0, 0, 0, 0, 0, 0, 0, 0, 0, 0, 0, 0, 0, 0, 0, 0, 0, 0, 0, 0, 0, 0, 0, 0, 0, 0, 0, 1, 0, 0, 0, 0, 0, 0, 0, 0, 0, 0, 0, 0, 0, 1, 0, 0, 0, 0, 0, 0, 0, 0, 0, 0, 0, 0, 0, 0, 0, 0, 0, 0, 0, 0, 0, 0, 0, 0, 0, 0, 0, 0, 0, 0, 0, 0, 0, 0, 0, 0, 0, 0, 0, 0, 0, 0, 1, 1, 1, 1]
def am_yP (y : Nat) : Prop := Cond.code (am_y y) (am_b y) (am_L y) (am_r y) ∈ lw_tbl ∧ Cond.initialized (am_y y).cls ∈ lw_tbl ∧ (match am_kd.getD y 3 with
  | 0 => Cond.instanceMethod (am_y y) ∈ lw_tbl ∧ Cond.selects (am_y y).cls (am_y y) (am_y y) ∈ lw_tbl
  | 1 => Cond.static (am_y y) ∈ lw_tbl
  | _ => Cond.instanceMethod (am_y y) ∈ lw_tbl)
set_option maxRecDepth 20000 in
theorem ay_0 : am_yP 0 := ⟨aw_1 (List.mem_of_getElem? (i := 137) rfl), aw_1 (List.mem_of_getElem? (i := 5) rfl), aw_1 (List.mem_of_getElem? (i := 136) rfl)⟩
set_option maxRecDepth 20000 in
theorem ay_1 : am_yP 1 := ⟨aw_3 (List.mem_of_getElem? (i := 234) rfl), aw_1 (List.mem_of_getElem? (i := 5) rfl), ⟨aw_3 (List.mem_of_getElem? (i := 232) rfl), aw_3 (List.mem_of_getElem? (i := 233) rfl)⟩⟩
set_option maxRecDepth 20000 in
theorem ay_2 : am_yP 2 := ⟨aw_4 (List.mem_of_getElem? (i := 1) rfl), aw_1 (List.mem_of_getElem? (i := 5) rfl), ⟨aw_3 (List.mem_of_getElem? (i := 239) rfl), aw_4 (List.mem_of_getElem? (i := 0) rfl)⟩⟩
set_option maxRecDepth 20000 in
theorem ay_3 : am_yP 3 := ⟨aw_4 (List.mem_of_getElem? (i := 5) rfl), aw_1 (List.mem_of_getElem? (i := 5) rfl), ⟨aw_4 (List.mem_of_getElem? (i := 4) rfl), ap_2 (List.mem_map.mpr ⟨_, List.mem_of_getElem? (i := 1) rfl, rfl⟩)⟩⟩
set_option maxRecDepth 20000 in
theorem ay_4 : am_yP 4 := ⟨aw_4 (List.mem_of_getElem? (i := 9) rfl), aw_1 (List.mem_of_getElem? (i := 5) rfl), ⟨aw_4 (List.mem_of_getElem? (i := 8) rfl), ap_2 (List.mem_map.mpr ⟨_, List.mem_of_getElem? (i := 2) rfl, rfl⟩)⟩⟩
set_option maxRecDepth 20000 in
theorem ay_5 : am_yP 5 := ⟨aw_4 (List.mem_of_getElem? (i := 13) rfl), aw_1 (List.mem_of_getElem? (i := 5) rfl), ⟨aw_4 (List.mem_of_getElem? (i := 12) rfl), ap_2 (List.mem_map.mpr ⟨_, List.mem_of_getElem? (i := 3) rfl, rfl⟩)⟩⟩
set_option maxRecDepth 20000 in
theorem ay_6 : am_yP 6 := ⟨aw_4 (List.mem_of_getElem? (i := 17) rfl), aw_1 (List.mem_of_getElem? (i := 5) rfl), ⟨aw_4 (List.mem_of_getElem? (i := 16) rfl), ap_2 (List.mem_map.mpr ⟨_, List.mem_of_getElem? (i := 4) rfl, rfl⟩)⟩⟩
set_option maxRecDepth 20000 in
theorem ay_7 : am_yP 7 := ⟨aw_4 (List.mem_of_getElem? (i := 21) rfl), aw_1 (List.mem_of_getElem? (i := 5) rfl), ⟨aw_4 (List.mem_of_getElem? (i := 20) rfl), ap_2 (List.mem_map.mpr ⟨_, List.mem_of_getElem? (i := 5) rfl, rfl⟩)⟩⟩
set_option maxRecDepth 20000 in
theorem ay_8 : am_yP 8 := ⟨aw_4 (List.mem_of_getElem? (i := 29) rfl), aw_1 (List.mem_of_getElem? (i := 5) rfl), ⟨aw_4 (List.mem_of_getElem? (i := 27) rfl), aw_4 (List.mem_of_getElem? (i := 28) rfl)⟩⟩
set_option maxRecDepth 20000 in
theorem ay_9 : am_yP 9 := ⟨aw_2 (List.mem_of_getElem? (i := 59) rfl), aw_1 (List.mem_of_getElem? (i := 10) rfl), aw_2 (List.mem_of_getElem? (i := 58) rfl)⟩
set_option maxRecDepth 20000 in
theorem ay_10 : am_yP 10 := ⟨aw_4 (List.mem_of_getElem? (i := 228) rfl), aw_1 (List.mem_of_getElem? (i := 10) rfl), ⟨aw_4 (List.mem_of_getElem? (i := 226) rfl), aw_4 (List.mem_of_getElem? (i := 227) rfl)⟩⟩
set_option maxRecDepth 20000 in
theorem ay_11 : am_yP 11 := ⟨aw_4 (List.mem_of_getElem? (i := 232) rfl), aw_1 (List.mem_of_getElem? (i := 10) rfl), ⟨aw_4 (List.mem_of_getElem? (i := 231) rfl), ap_3 (List.mem_map.mpr ⟨_, List.mem_of_getElem? (i := 4) rfl, rfl⟩)⟩⟩
set_option maxRecDepth 20000 in
theorem ay_12 : am_yP 12 := ⟨aw_4 (List.mem_of_getElem? (i := 237) rfl), aw_1 (List.mem_of_getElem? (i := 10) rfl), ⟨aw_4 (List.mem_of_getElem? (i := 235) rfl), aw_4 (List.mem_of_getElem? (i := 236) rfl)⟩⟩
set_option maxRecDepth 20000 in
theorem ay_13 : am_yP 13 := ⟨aw_5 (List.mem_of_getElem? (i := 2) rfl), aw_1 (List.mem_of_getElem? (i := 10) rfl), ⟨aw_5 (List.mem_of_getElem? (i := 1) rfl), ap_3 (List.mem_map.mpr ⟨_, List.mem_of_getElem? (i := 5) rfl, rfl⟩)⟩⟩
set_option maxRecDepth 20000 in
theorem ay_14 : am_yP 14 := ⟨aw_5 (List.mem_of_getElem? (i := 5) rfl), aw_1 (List.mem_of_getElem? (i := 10) rfl), aw_5 (List.mem_of_getElem? (i := 4) rfl)⟩
set_option maxRecDepth 20000 in
theorem ay_15 : am_yP 15 := ⟨aw_5 (List.mem_of_getElem? (i := 8) rfl), aw_1 (List.mem_of_getElem? (i := 10) rfl), aw_5 (List.mem_of_getElem? (i := 7) rfl)⟩
set_option maxRecDepth 20000 in
theorem ay_16 : am_yP 16 := ⟨aw_1 (List.mem_of_getElem? (i := 203) rfl), aw_1 (List.mem_of_getElem? (i := 7) rfl), aw_1 (List.mem_of_getElem? (i := 202) rfl)⟩
set_option maxRecDepth 20000 in
theorem ay_17 : am_yP 17 := ⟨aw_5 (List.mem_of_getElem? (i := 67) rfl), aw_1 (List.mem_of_getElem? (i := 7) rfl), ⟨aw_5 (List.mem_of_getElem? (i := 65) rfl), aw_5 (List.mem_of_getElem? (i := 66) rfl)⟩⟩
set_option maxRecDepth 20000 in
theorem ay_18 : am_yP 18 := ⟨aw_5 (List.mem_of_getElem? (i := 71) rfl), aw_1 (List.mem_of_getElem? (i := 7) rfl), ⟨aw_5 (List.mem_of_getElem? (i := 70) rfl), ap_3 (List.mem_map.mpr ⟨_, List.mem_of_getElem? (i := 8) rfl, rfl⟩)⟩⟩
set_option maxRecDepth 20000 in
theorem ay_19 : am_yP 19 := ⟨aw_5 (List.mem_of_getElem? (i := 76) rfl), aw_1 (List.mem_of_getElem? (i := 7) rfl), ⟨aw_5 (List.mem_of_getElem? (i := 75) rfl), ap_3 (List.mem_map.mpr ⟨_, List.mem_of_getElem? (i := 9) rfl, rfl⟩)⟩⟩
set_option maxRecDepth 20000 in
theorem ay_20 : am_yP 20 := ⟨aw_5 (List.mem_of_getElem? (i := 80) rfl), aw_1 (List.mem_of_getElem? (i := 7) rfl), ⟨aw_5 (List.mem_of_getElem? (i := 79) rfl), ap_3 (List.mem_map.mpr ⟨_, List.mem_of_getElem? (i := 10) rfl, rfl⟩)⟩⟩
set_option maxRecDepth 20000 in
theorem ay_21 : am_yP 21 := ⟨aw_5 (List.mem_of_getElem? (i := 90) rfl), aw_1 (List.mem_of_getElem? (i := 7) rfl), ⟨aw_5 (List.mem_of_getElem? (i := 88) rfl), aw_5 (List.mem_of_getElem? (i := 89) rfl)⟩⟩
set_option maxRecDepth 20000 in
theorem ay_22 : am_yP 22 := ⟨aw_5 (List.mem_of_getElem? (i := 96) rfl), aw_1 (List.mem_of_getElem? (i := 7) rfl), ⟨aw_5 (List.mem_of_getElem? (i := 95) rfl), ap_3 (List.mem_map.mpr ⟨_, List.mem_of_getElem? (i := 11) rfl, rfl⟩)⟩⟩
set_option maxRecDepth 20000 in
theorem ay_23 : am_yP 23 := ⟨aw_3 (List.mem_of_getElem? (i := 200) rfl), aw_1 (List.mem_of_getElem? (i := 16) rfl), aw_3 (List.mem_of_getElem? (i := 199) rfl)⟩
set_option maxRecDepth 20000 in
theorem ay_24 : am_yP 24 := ⟨aw_1 (List.mem_of_getElem? (i := 101) rfl), aw_1 (List.mem_of_getElem? (i := 4) rfl), aw_1 (List.mem_of_getElem? (i := 100) rfl)⟩
set_option maxRecDepth 20000 in
theorem ay_25 : am_yP 25 := ⟨aw_3 (List.mem_of_getElem? (i := 153) rfl), aw_1 (List.mem_of_getElem? (i := 4) rfl), ⟨aw_3 (List.mem_of_getElem? (i := 151) rfl), aw_3 (List.mem_of_getElem? (i := 152) rfl)⟩⟩
set_option maxRecDepth 20000 in
theorem ay_26 : am_yP 26 := ⟨aw_3 (List.mem_of_getElem? (i := 160) rfl), aw_1 (List.mem_of_getElem? (i := 4) rfl), ⟨aw_3 (List.mem_of_getElem? (i := 159) rfl), ap_1 (List.mem_map.mpr ⟨_, List.mem_of_getElem? (i := 10) rfl, rfl⟩)⟩⟩
set_option maxRecDepth 20000 in
theorem ay_27 : am_yP 27 := ⟨aw_3 (List.mem_of_getElem? (i := 163) rfl), aw_1 (List.mem_of_getElem? (i := 4) rfl), aw_3 (List.mem_of_getElem? (i := 162) rfl)⟩
set_option maxRecDepth 20000 in
theorem ay_28 : am_yP 28 := ⟨aw_3 (List.mem_of_getElem? (i := 167) rfl), aw_1 (List.mem_of_getElem? (i := 4) rfl), ⟨aw_3 (List.mem_of_getElem? (i := 166) rfl), ap_1 (List.mem_map.mpr ⟨_, List.mem_of_getElem? (i := 11) rfl, rfl⟩)⟩⟩
set_option maxRecDepth 20000 in
theorem ay_29 : am_yP 29 := ⟨aw_3 (List.mem_of_getElem? (i := 171) rfl), aw_1 (List.mem_of_getElem? (i := 4) rfl), ⟨aw_3 (List.mem_of_getElem? (i := 170) rfl), ap_1 (List.mem_map.mpr ⟨_, List.mem_of_getElem? (i := 12) rfl, rfl⟩)⟩⟩
set_option maxRecDepth 20000 in
theorem ay_30 : am_yP 30 := ⟨aw_3 (List.mem_of_getElem? (i := 175) rfl), aw_1 (List.mem_of_getElem? (i := 4) rfl), ⟨aw_3 (List.mem_of_getElem? (i := 174) rfl), ap_1 (List.mem_map.mpr ⟨_, List.mem_of_getElem? (i := 13) rfl, rfl⟩)⟩⟩
set_option maxRecDepth 20000 in
theorem ay_31 : am_yP 31 := ⟨aw_3 (List.mem_of_getElem? (i := 179) rfl), aw_1 (List.mem_of_getElem? (i := 4) rfl), ⟨aw_3 (List.mem_of_getElem? (i := 178) rfl), ap_1 (List.mem_map.mpr ⟨_, List.mem_of_getElem? (i := 14) rfl, rfl⟩)⟩⟩
set_option maxRecDepth 20000 in
theorem ay_32 : am_yP 32 := ⟨aw_3 (List.mem_of_getElem? (i := 183) rfl), aw_1 (List.mem_of_getElem? (i := 4) rfl), ⟨aw_3 (List.mem_of_getElem? (i := 182) rfl), ap_1 (List.mem_map.mpr ⟨_, List.mem_of_getElem? (i := 15) rfl, rfl⟩)⟩⟩
set_option maxRecDepth 20000 in
theorem ay_33 : am_yP 33 := ⟨aw_3 (List.mem_of_getElem? (i := 218) rfl), aw_1 (List.mem_of_getElem? (i := 4) rfl), ⟨aw_3 (List.mem_of_getElem? (i := 216) rfl), aw_3 (List.mem_of_getElem? (i := 217) rfl)⟩⟩
set_option maxRecDepth 20000 in
theorem ay_34 : am_yP 34 := ⟨aw_1 (List.mem_of_getElem? (i := 165) rfl), aw_1 (List.mem_of_getElem? (i := 6) rfl), aw_1 (List.mem_of_getElem? (i := 164) rfl)⟩
set_option maxRecDepth 20000 in
theorem ay_35 : am_yP 35 := ⟨aw_4 (List.mem_of_getElem? (i := 41) rfl), aw_1 (List.mem_of_getElem? (i := 6) rfl), ⟨aw_4 (List.mem_of_getElem? (i := 39) rfl), aw_4 (List.mem_of_getElem? (i := 40) rfl)⟩⟩
set_option maxRecDepth 20000 in
theorem ay_36 : am_yP 36 := ⟨aw_4 (List.mem_of_getElem? (i := 45) rfl), aw_1 (List.mem_of_getElem? (i := 6) rfl), ⟨aw_4 (List.mem_of_getElem? (i := 43) rfl), aw_4 (List.mem_of_getElem? (i := 44) rfl)⟩⟩
set_option maxRecDepth 20000 in
theorem ay_37 : am_yP 37 := ⟨aw_4 (List.mem_of_getElem? (i := 50) rfl), aw_1 (List.mem_of_getElem? (i := 6) rfl), ⟨aw_4 (List.mem_of_getElem? (i := 49) rfl), ap_2 (List.mem_map.mpr ⟨_, List.mem_of_getElem? (i := 7) rfl, rfl⟩)⟩⟩
set_option maxRecDepth 20000 in
theorem ay_38 : am_yP 38 := ⟨aw_4 (List.mem_of_getElem? (i := 54) rfl), aw_1 (List.mem_of_getElem? (i := 6) rfl), ⟨aw_4 (List.mem_of_getElem? (i := 53) rfl), ap_2 (List.mem_map.mpr ⟨_, List.mem_of_getElem? (i := 8) rfl, rfl⟩)⟩⟩
set_option maxRecDepth 20000 in
theorem ay_39 : am_yP 39 := ⟨aw_1 (List.mem_of_getElem? (i := 231) rfl), aw_1 (List.mem_of_getElem? (i := 8) rfl), aw_1 (List.mem_of_getElem? (i := 230) rfl)⟩
set_option maxRecDepth 20000 in
theorem ay_40 : am_yP 40 := ⟨aw_4 (List.mem_of_getElem? (i := 158) rfl), aw_1 (List.mem_of_getElem? (i := 8) rfl), ⟨aw_4 (List.mem_of_getElem? (i := 156) rfl), aw_4 (List.mem_of_getElem? (i := 157) rfl)⟩⟩
set_option maxRecDepth 20000 in
theorem ay_41 : am_yP 41 := ⟨aw_4 (List.mem_of_getElem? (i := 167) rfl), aw_1 (List.mem_of_getElem? (i := 8) rfl), ⟨aw_4 (List.mem_of_getElem? (i := 166) rfl), ap_2 (List.mem_map.mpr ⟨_, List.mem_of_getElem? (i := 13) rfl, rfl⟩)⟩⟩
set_option maxRecDepth 20000 in
theorem ay_42 : am_yP 42 := ⟨aw_4 (List.mem_of_getElem? (i := 172) rfl), aw_1 (List.mem_of_getElem? (i := 8) rfl), ⟨aw_4 (List.mem_of_getElem? (i := 171) rfl), ap_2 (List.mem_map.mpr ⟨_, List.mem_of_getElem? (i := 14) rfl, rfl⟩)⟩⟩
set_option maxRecDepth 20000 in
theorem ay_43 : am_yP 43 := ⟨aw_4 (List.mem_of_getElem? (i := 177) rfl), aw_1 (List.mem_of_getElem? (i := 8) rfl), ⟨aw_4 (List.mem_of_getElem? (i := 176) rfl), ap_2 (List.mem_map.mpr ⟨_, List.mem_of_getElem? (i := 15) rfl, rfl⟩)⟩⟩
set_option maxRecDepth 20000 in
theorem ay_44 : am_yP 44 := ⟨aw_4 (List.mem_of_getElem? (i := 188) rfl), aw_1 (List.mem_of_getElem? (i := 8) rfl), ⟨aw_4 (List.mem_of_getElem? (i := 187) rfl), ap_3 (List.mem_map.mpr ⟨_, List.mem_of_getElem? (i := 0) rfl, rfl⟩)⟩⟩
set_option maxRecDepth 20000 in
theorem ay_45 : am_yP 45 := ⟨aw_4 (List.mem_of_getElem? (i := 193) rfl), aw_1 (List.mem_of_getElem? (i := 8) rfl), ⟨aw_4 (List.mem_of_getElem? (i := 192) rfl), ap_3 (List.mem_map.mpr ⟨_, List.mem_of_getElem? (i := 1) rfl, rfl⟩)⟩⟩
set_option maxRecDepth 20000 in
theorem ay_46 : am_yP 46 := ⟨aw_3 (List.mem_of_getElem? (i := 79) rfl), aw_1 (List.mem_of_getElem? (i := 14) rfl), aw_3 (List.mem_of_getElem? (i := 78) rfl)⟩
set_option maxRecDepth 20000 in
theorem ay_47 : am_yP 47 := ⟨aw_3 (List.mem_of_getElem? (i := 82) rfl), aw_1 (List.mem_of_getElem? (i := 14) rfl), aw_3 (List.mem_of_getElem? (i := 81) rfl)⟩
set_option maxRecDepth 20000 in
theorem ay_48 : am_yP 48 := ⟨aw_3 (List.mem_of_getElem? (i := 89) rfl), aw_1 (List.mem_of_getElem? (i := 14) rfl), aw_3 (List.mem_of_getElem? (i := 88) rfl)⟩
set_option maxRecDepth 20000 in
theorem ay_49 : am_yP 49 := ⟨aw_3 (List.mem_of_getElem? (i := 92) rfl), aw_1 (List.mem_of_getElem? (i := 14) rfl), aw_3 (List.mem_of_getElem? (i := 91) rfl)⟩
set_option maxRecDepth 20000 in
theorem ay_50 : am_yP 50 := ⟨aw_3 (List.mem_of_getElem? (i := 96) rfl), aw_1 (List.mem_of_getElem? (i := 14) rfl), aw_3 (List.mem_of_getElem? (i := 95) rfl)⟩
set_option maxRecDepth 20000 in
theorem ay_51 : am_yP 51 := ⟨aw_3 (List.mem_of_getElem? (i := 99) rfl), aw_1 (List.mem_of_getElem? (i := 14) rfl), aw_3 (List.mem_of_getElem? (i := 98) rfl)⟩
set_option maxRecDepth 20000 in
theorem ay_52 : am_yP 52 := ⟨aw_3 (List.mem_of_getElem? (i := 102) rfl), aw_1 (List.mem_of_getElem? (i := 14) rfl), aw_3 (List.mem_of_getElem? (i := 101) rfl)⟩
set_option maxRecDepth 20000 in
theorem ay_53 : am_yP 53 := ⟨aw_3 (List.mem_of_getElem? (i := 109) rfl), aw_1 (List.mem_of_getElem? (i := 14) rfl), aw_3 (List.mem_of_getElem? (i := 108) rfl)⟩
set_option maxRecDepth 20000 in
theorem ay_54 : am_yP 54 := ⟨aw_3 (List.mem_of_getElem? (i := 113) rfl), aw_1 (List.mem_of_getElem? (i := 14) rfl), aw_3 (List.mem_of_getElem? (i := 112) rfl)⟩
set_option maxRecDepth 20000 in
theorem ay_55 : am_yP 55 := ⟨aw_4 (List.mem_of_getElem? (i := 67) rfl), aw_1 (List.mem_of_getElem? (i := 14) rfl), aw_4 (List.mem_of_getElem? (i := 66) rfl)⟩
set_option maxRecDepth 20000 in
theorem ay_56 : am_yP 56 := ⟨aw_4 (List.mem_of_getElem? (i := 70) rfl), aw_1 (List.mem_of_getElem? (i := 14) rfl), aw_4 (List.mem_of_getElem? (i := 69) rfl)⟩
set_option maxRecDepth 20000 in
theorem ay_57 : am_yP 57 := ⟨aw_4 (List.mem_of_getElem? (i := 73) rfl), aw_1 (List.mem_of_getElem? (i := 14) rfl), aw_4 (List.mem_of_getElem? (i := 72) rfl)⟩
set_option maxRecDepth 20000 in
theorem ay_58 : am_yP 58 := ⟨aw_4 (List.mem_of_getElem? (i := 76) rfl), aw_1 (List.mem_of_getElem? (i := 14) rfl), aw_4 (List.mem_of_getElem? (i := 75) rfl)⟩
set_option maxRecDepth 20000 in
theorem ay_59 : am_yP 59 := ⟨aw_4 (List.mem_of_getElem? (i := 79) rfl), aw_1 (List.mem_of_getElem? (i := 14) rfl), aw_4 (List.mem_of_getElem? (i := 78) rfl)⟩
set_option maxRecDepth 20000 in
theorem ay_60 : am_yP 60 := ⟨aw_4 (List.mem_of_getElem? (i := 82) rfl), aw_1 (List.mem_of_getElem? (i := 14) rfl), aw_4 (List.mem_of_getElem? (i := 81) rfl)⟩
set_option maxRecDepth 20000 in
theorem ay_61 : am_yP 61 := ⟨aw_4 (List.mem_of_getElem? (i := 89) rfl), aw_1 (List.mem_of_getElem? (i := 14) rfl), aw_4 (List.mem_of_getElem? (i := 88) rfl)⟩
set_option maxRecDepth 20000 in
theorem ay_62 : am_yP 62 := ⟨aw_4 (List.mem_of_getElem? (i := 92) rfl), aw_1 (List.mem_of_getElem? (i := 14) rfl), aw_4 (List.mem_of_getElem? (i := 91) rfl)⟩
set_option maxRecDepth 20000 in
theorem ay_63 : am_yP 63 := ⟨aw_4 (List.mem_of_getElem? (i := 100) rfl), aw_1 (List.mem_of_getElem? (i := 14) rfl), aw_4 (List.mem_of_getElem? (i := 99) rfl)⟩
set_option maxRecDepth 20000 in
theorem ay_64 : am_yP 64 := ⟨aw_4 (List.mem_of_getElem? (i := 107) rfl), aw_1 (List.mem_of_getElem? (i := 14) rfl), aw_4 (List.mem_of_getElem? (i := 106) rfl)⟩
set_option maxRecDepth 20000 in
theorem ay_65 : am_yP 65 := ⟨aw_4 (List.mem_of_getElem? (i := 115) rfl), aw_1 (List.mem_of_getElem? (i := 14) rfl), aw_4 (List.mem_of_getElem? (i := 114) rfl)⟩
set_option maxRecDepth 20000 in
theorem ay_66 : am_yP 66 := ⟨aw_2 (List.mem_of_getElem? (i := 21) rfl), aw_1 (List.mem_of_getElem? (i := 9) rfl), aw_2 (List.mem_of_getElem? (i := 20) rfl)⟩
set_option maxRecDepth 20000 in
theorem ay_67 : am_yP 67 := ⟨aw_3 (List.mem_of_getElem? (i := 12) rfl), aw_1 (List.mem_of_getElem? (i := 9) rfl), ⟨aw_3 (List.mem_of_getElem? (i := 10) rfl), aw_3 (List.mem_of_getElem? (i := 11) rfl)⟩⟩
set_option maxRecDepth 20000 in
theorem ay_68 : am_yP 68 := ⟨aw_3 (List.mem_of_getElem? (i := 16) rfl), aw_1 (List.mem_of_getElem? (i := 9) rfl), ⟨aw_3 (List.mem_of_getElem? (i := 15) rfl), ap_1 (List.mem_map.mpr ⟨_, List.mem_of_getElem? (i := 9) rfl, rfl⟩)⟩⟩
set_option maxRecDepth 20000 in
theorem ay_69 : am_yP 69 := ⟨aw_4 (List.mem_of_getElem? (i := 124) rfl), aw_1 (List.mem_of_getElem? (i := 9) rfl), ⟨aw_4 (List.mem_of_getElem? (i := 122) rfl), aw_4 (List.mem_of_getElem? (i := 123) rfl)⟩⟩
set_option maxRecDepth 20000 in
theorem ay_70 : am_yP 70 := ⟨aw_4 (List.mem_of_getElem? (i := 134) rfl), aw_1 (List.mem_of_getElem? (i := 9) rfl), ⟨aw_4 (List.mem_of_getElem? (i := 133) rfl), ap_2 (List.mem_map.mpr ⟨_, List.mem_of_getElem? (i := 9) rfl, rfl⟩)⟩⟩
set_option maxRecDepth 20000 in
theorem ay_71 : am_yP 71 := ⟨aw_4 (List.mem_of_getElem? (i := 138) rfl), aw_1 (List.mem_of_getElem? (i := 9) rfl), ⟨aw_4 (List.mem_of_getElem? (i := 137) rfl), ap_2 (List.mem_map.mpr ⟨_, List.mem_of_getElem? (i := 10) rfl, rfl⟩)⟩⟩
set_option maxRecDepth 20000 in
theorem ay_72 : am_yP 72 := ⟨aw_4 (List.mem_of_getElem? (i := 143) rfl), aw_1 (List.mem_of_getElem? (i := 9) rfl), ⟨aw_4 (List.mem_of_getElem? (i := 142) rfl), ap_2 (List.mem_map.mpr ⟨_, List.mem_of_getElem? (i := 11) rfl, rfl⟩)⟩⟩
set_option maxRecDepth 20000 in
theorem ay_73 : am_yP 73 := ⟨aw_4 (List.mem_of_getElem? (i := 147) rfl), aw_1 (List.mem_of_getElem? (i := 9) rfl), ⟨aw_4 (List.mem_of_getElem? (i := 146) rfl), ap_2 (List.mem_map.mpr ⟨_, List.mem_of_getElem? (i := 12) rfl, rfl⟩)⟩⟩
set_option maxRecDepth 20000 in
theorem ay_74 : am_yP 74 := ⟨aw_4 (List.mem_of_getElem? (i := 206) rfl), aw_1 (List.mem_of_getElem? (i := 9) rfl), ⟨aw_4 (List.mem_of_getElem? (i := 204) rfl), aw_4 (List.mem_of_getElem? (i := 205) rfl)⟩⟩
set_option maxRecDepth 20000 in
theorem ay_75 : am_yP 75 := ⟨aw_4 (List.mem_of_getElem? (i := 210) rfl), aw_1 (List.mem_of_getElem? (i := 9) rfl), ⟨aw_4 (List.mem_of_getElem? (i := 209) rfl), ap_3 (List.mem_map.mpr ⟨_, List.mem_of_getElem? (i := 2) rfl, rfl⟩)⟩⟩
set_option maxRecDepth 20000 in
theorem ay_76 : am_yP 76 := ⟨aw_4 (List.mem_of_getElem? (i := 215) rfl), aw_1 (List.mem_of_getElem? (i := 9) rfl), ⟨aw_4 (List.mem_of_getElem? (i := 213) rfl), aw_4 (List.mem_of_getElem? (i := 214) rfl)⟩⟩
set_option maxRecDepth 20000 in
theorem ay_77 : am_yP 77 := ⟨aw_4 (List.mem_of_getElem? (i := 219) rfl), aw_1 (List.mem_of_getElem? (i := 9) rfl), ⟨aw_4 (List.mem_of_getElem? (i := 218) rfl), ap_3 (List.mem_map.mpr ⟨_, List.mem_of_getElem? (i := 3) rfl, rfl⟩)⟩⟩
set_option maxRecDepth 20000 in
theorem ay_78 : am_yP 78 := ⟨aw_5 (List.mem_of_getElem? (i := 35) rfl), aw_1 (List.mem_of_getElem? (i := 9) rfl), ⟨aw_5 (List.mem_of_getElem? (i := 33) rfl), aw_5 (List.mem_of_getElem? (i := 34) rfl)⟩⟩
set_option maxRecDepth 20000 in
theorem ay_79 : am_yP 79 := ⟨aw_5 (List.mem_of_getElem? (i := 40) rfl), aw_1 (List.mem_of_getElem? (i := 9) rfl), ⟨aw_5 (List.mem_of_getElem? (i := 39) rfl), ap_3 (List.mem_map.mpr ⟨_, List.mem_of_getElem? (i := 6) rfl, rfl⟩)⟩⟩
set_option maxRecDepth 20000 in
theorem ay_80 : am_yP 80 := ⟨aw_1 (List.mem_of_getElem? (i := 30) rfl), aw_1 (List.mem_of_getElem? (i := 2) rfl), aw_1 (List.mem_of_getElem? (i := 29) rfl)⟩
set_option maxRecDepth 20000 in
theorem ay_81 : am_yP 81 := ⟨aw_2 (List.mem_of_getElem? (i := 178) rfl), aw_1 (List.mem_of_getElem? (i := 2) rfl), ⟨aw_2 (List.mem_of_getElem? (i := 176) rfl), aw_2 (List.mem_of_getElem? (i := 177) rfl)⟩⟩
set_option maxRecDepth 20000 in
theorem ay_82 : am_yP 82 := ⟨aw_2 (List.mem_of_getElem? (i := 182) rfl), aw_1 (List.mem_of_getElem? (i := 2) rfl), ⟨aw_2 (List.mem_of_getElem? (i := 181) rfl), ap_1 (List.mem_map.mpr ⟨_, List.mem_of_getElem? (i := 4) rfl, rfl⟩)⟩⟩
set_option maxRecDepth 20000 in
theorem ay_83 : am_yP 83 := ⟨aw_2 (List.mem_of_getElem? (i := 191) rfl), aw_1 (List.mem_of_getElem? (i := 2) rfl), ⟨aw_2 (List.mem_of_getElem? (i := 190) rfl), ap_1 (List.mem_map.mpr ⟨_, List.mem_of_getElem? (i := 5) rfl, rfl⟩)⟩⟩
set_option maxRecDepth 20000 in
theorem ay_84 : am_yP 84 := ⟨aw_3 (List.mem_of_getElem? (i := 122) rfl), aw_1 (List.mem_of_getElem? (i := 2) rfl), ⟨aw_3 (List.mem_of_getElem? (i := 120) rfl), aw_3 (List.mem_of_getElem? (i := 121) rfl)⟩⟩
set_option maxRecDepth 20000 in
theorem ay_85 : am_yP 85 := ⟨aw_3 (List.mem_of_getElem? (i := 130) rfl), aw_1 (List.mem_of_getElem? (i := 2) rfl), ⟨aw_3 (List.mem_of_getElem? (i := 128) rfl), aw_3 (List.mem_of_getElem? (i := 129) rfl)⟩⟩
set_option maxRecDepth 20000 in
theorem ay_86 : am_yP 86 := ⟨aw_5 (List.mem_of_getElem? (i := 121) rfl), aw_1 (List.mem_of_getElem? (i := 2) rfl), ⟨aw_5 (List.mem_of_getElem? (i := 119) rfl), aw_5 (List.mem_of_getElem? (i := 120) rfl)⟩⟩
set_option maxRecDepth 20000 in
theorem ay_87 : am_yP 87 := ⟨aw_5 (List.mem_of_getElem? (i := 134) rfl), aw_1 (List.mem_of_getElem? (i := 2) rfl), ⟨aw_5 (List.mem_of_getElem? (i := 132) rfl), aw_5 (List.mem_of_getElem? (i := 133) rfl)⟩⟩
set_option maxRecDepth 20000 in
theorem ay_88 : am_yP 88 := ⟨aw_5 (List.mem_of_getElem? (i := 138) rfl), aw_1 (List.mem_of_getElem? (i := 2) rfl), ⟨aw_5 (List.mem_of_getElem? (i := 136) rfl), aw_5 (List.mem_of_getElem? (i := 137) rfl)⟩⟩
set_option maxRecDepth 20000 in
theorem ay_89 : am_yP 89 := ⟨aw_1 (List.mem_of_getElem? (i := 39) rfl), aw_1 (List.mem_of_getElem? (i := 3) rfl), aw_1 (List.mem_of_getElem? (i := 38) rfl)⟩
set_option maxRecDepth 20000 in
theorem ay_90 : am_yP 90 := ⟨aw_2 (List.mem_of_getElem? (i := 162) rfl), aw_1 (List.mem_of_getElem? (i := 3) rfl), ⟨aw_2 (List.mem_of_getElem? (i := 160) rfl), aw_2 (List.mem_of_getElem? (i := 161) rfl)⟩⟩
set_option maxRecDepth 20000 in
theorem ay_91 : am_yP 91 := ⟨aw_2 (List.mem_of_getElem? (i := 166) rfl), aw_1 (List.mem_of_getElem? (i := 3) rfl), ⟨aw_2 (List.mem_of_getElem? (i := 164) rfl), aw_2 (List.mem_of_getElem? (i := 165) rfl)⟩⟩
set_option maxRecDepth 20000 in
theorem ay_92 : am_yP 92 := ⟨aw_2 (List.mem_of_getElem? (i := 170) rfl), aw_1 (List.mem_of_getElem? (i := 3) rfl), ⟨aw_2 (List.mem_of_getElem? (i := 168) rfl), aw_2 (List.mem_of_getElem? (i := 169) rfl)⟩⟩
set_option maxRecDepth 20000 in
theorem ay_93 : am_yP 93 := ⟨aw_2 (List.mem_of_getElem? (i := 186) rfl), aw_1 (List.mem_of_getElem? (i := 3) rfl), ⟨aw_2 (List.mem_of_getElem? (i := 184) rfl), aw_2 (List.mem_of_getElem? (i := 185) rfl)⟩⟩
set_option maxRecDepth 20000 in
theorem ay_94 : am_yP 94 := ⟨aw_2 (List.mem_of_getElem? (i := 203) rfl), aw_1 (List.mem_of_getElem? (i := 3) rfl), ⟨aw_2 (List.mem_of_getElem? (i := 201) rfl), aw_2 (List.mem_of_getElem? (i := 202) rfl)⟩⟩
set_option maxRecDepth 20000 in
theorem ay_95 : am_yP 95 := ⟨aw_2 (List.mem_of_getElem? (i := 207) rfl), aw_1 (List.mem_of_getElem? (i := 3) rfl), ⟨aw_2 (List.mem_of_getElem? (i := 205) rfl), aw_2 (List.mem_of_getElem? (i := 206) rfl)⟩⟩
set_option maxRecDepth 20000 in
theorem ay_96 : am_yP 96 := ⟨aw_2 (List.mem_of_getElem? (i := 226) rfl), aw_1 (List.mem_of_getElem? (i := 3) rfl), ⟨aw_2 (List.mem_of_getElem? (i := 224) rfl), aw_2 (List.mem_of_getElem? (i := 225) rfl)⟩⟩
set_option maxRecDepth 20000 in
theorem ay_97 : am_yP 97 := ⟨aw_2 (List.mem_of_getElem? (i := 230) rfl), aw_1 (List.mem_of_getElem? (i := 3) rfl), ⟨aw_2 (List.mem_of_getElem? (i := 228) rfl), aw_2 (List.mem_of_getElem? (i := 229) rfl)⟩⟩
set_option maxRecDepth 20000 in
theorem ay_98 : am_yP 98 := ⟨aw_2 (List.mem_of_getElem? (i := 238) rfl), aw_1 (List.mem_of_getElem? (i := 3) rfl), ⟨aw_2 (List.mem_of_getElem? (i := 236) rfl), aw_2 (List.mem_of_getElem? (i := 237) rfl)⟩⟩
set_option maxRecDepth 20000 in
theorem ay_99 : am_yP 99 := ⟨aw_3 (List.mem_of_getElem? (i := 2) rfl), aw_1 (List.mem_of_getElem? (i := 3) rfl), ⟨aw_3 (List.mem_of_getElem? (i := 1) rfl), ap_1 (List.mem_map.mpr ⟨_, List.mem_of_getElem? (i := 8) rfl, rfl⟩)⟩⟩
set_option maxRecDepth 20000 in
theorem ay_100 : am_yP 100 := ⟨aw_3 (List.mem_of_getElem? (i := 27) rfl), aw_1 (List.mem_of_getElem? (i := 3) rfl), ⟨aw_3 (List.mem_of_getElem? (i := 25) rfl), aw_3 (List.mem_of_getElem? (i := 26) rfl)⟩⟩
set_option maxRecDepth 20000 in
theorem ay_101 : am_yP 101 := ⟨aw_3 (List.mem_of_getElem? (i := 31) rfl), aw_1 (List.mem_of_getElem? (i := 3) rfl), ⟨aw_3 (List.mem_of_getElem? (i := 29) rfl), aw_3 (List.mem_of_getElem? (i := 30) rfl)⟩⟩
set_option maxRecDepth 20000 in
theorem ay_102 : am_yP 102 := ⟨aw_3 (List.mem_of_getElem? (i := 35) rfl), aw_1 (List.mem_of_getElem? (i := 3) rfl), ⟨aw_3 (List.mem_of_getElem? (i := 33) rfl), aw_3 (List.mem_of_getElem? (i := 34) rfl)⟩⟩
set_option maxRecDepth 20000 in
theorem ay_103 : am_yP 103 := ⟨aw_3 (List.mem_of_getElem? (i := 39) rfl), aw_1 (List.mem_of_getElem? (i := 3) rfl), ⟨aw_3 (List.mem_of_getElem? (i := 37) rfl), aw_3 (List.mem_of_getElem? (i := 38) rfl)⟩⟩
set_option maxRecDepth 20000 in
theorem ay_104 : am_yP 104 := ⟨aw_3 (List.mem_of_getElem? (i := 56) rfl), aw_1 (List.mem_of_getElem? (i := 3) rfl), ⟨aw_3 (List.mem_of_getElem? (i := 54) rfl), aw_3 (List.mem_of_getElem? (i := 55) rfl)⟩⟩
set_option maxRecDepth 20000 in
theorem ay_105 : am_yP 105 := ⟨aw_3 (List.mem_of_getElem? (i := 64) rfl), aw_1 (List.mem_of_getElem? (i := 3) rfl), ⟨aw_3 (List.mem_of_getElem? (i := 62) rfl), aw_3 (List.mem_of_getElem? (i := 63) rfl)⟩⟩
set_option maxRecDepth 20000 in
theorem ay_106 : am_yP 106 := ⟨aw_3 (List.mem_of_getElem? (i := 72) rfl), aw_1 (List.mem_of_getElem? (i := 3) rfl), ⟨aw_3 (List.mem_of_getElem? (i := 70) rfl), aw_3 (List.mem_of_getElem? (i := 71) rfl)⟩⟩
set_option maxRecDepth 20000 in
theorem ay_107 : am_yP 107 := ⟨aw_3 (List.mem_of_getElem? (i := 76) rfl), aw_1 (List.mem_of_getElem? (i := 3) rfl), ⟨aw_3 (List.mem_of_getElem? (i := 74) rfl), aw_3 (List.mem_of_getElem? (i := 75) rfl)⟩⟩
set_option maxRecDepth 20000 in
theorem ay_108 : am_yP 108 := ⟨aw_3 (List.mem_of_getElem? (i := 86) rfl), aw_1 (List.mem_of_getElem? (i := 3) rfl), ⟨aw_3 (List.mem_of_getElem? (i := 84) rfl), aw_3 (List.mem_of_getElem? (i := 85) rfl)⟩⟩
set_option maxRecDepth 20000 in
theorem ay_109 : am_yP 109 := ⟨aw_4 (List.mem_of_getElem? (i := 162) rfl), aw_1 (List.mem_of_getElem? (i := 3) rfl), ⟨aw_4 (List.mem_of_getElem? (i := 160) rfl), aw_4 (List.mem_of_getElem? (i := 161) rfl)⟩⟩
set_option maxRecDepth 20000 in
theorem ay_110 : am_yP 110 := ⟨aw_5 (List.mem_of_getElem? (i := 16) rfl), aw_1 (List.mem_of_getElem? (i := 3) rfl), ⟨aw_5 (List.mem_of_getElem? (i := 14) rfl), aw_5 (List.mem_of_getElem? (i := 15) rfl)⟩⟩
set_option maxRecDepth 20000 in
theorem ay_111 : am_yP 111 := ⟨aw_5 (List.mem_of_getElem? (i := 21) rfl), aw_1 (List.mem_of_getElem? (i := 3) rfl), ⟨aw_5 (List.mem_of_getElem? (i := 19) rfl), aw_5 (List.mem_of_getElem? (i := 20) rfl)⟩⟩
set_option maxRecDepth 20000 in
theorem ay_112 : am_yP 112 := ⟨aw_5 (List.mem_of_getElem? (i := 46) rfl), aw_1 (List.mem_of_getElem? (i := 3) rfl), ⟨aw_5 (List.mem_of_getElem? (i := 44) rfl), aw_5 (List.mem_of_getElem? (i := 45) rfl)⟩⟩
set_option maxRecDepth 20000 in
theorem ay_113 : am_yP 113 := ⟨aw_1 (List.mem_of_getElem? (i := 22) rfl), aw_1 (List.mem_of_getElem? (i := 1) rfl), aw_1 (List.mem_of_getElem? (i := 21) rfl)⟩
set_option maxRecDepth 20000 in
theorem ay_114 : am_yP 114 := ⟨aw_2 (List.mem_of_getElem? (i := 129) rfl), aw_1 (List.mem_of_getElem? (i := 1) rfl), ⟨aw_2 (List.mem_of_getElem? (i := 127) rfl), aw_2 (List.mem_of_getElem? (i := 128) rfl)⟩⟩
set_option maxRecDepth 20000 in
theorem ay_115 : am_yP 115 := ⟨aw_2 (List.mem_of_getElem? (i := 133) rfl), aw_1 (List.mem_of_getElem? (i := 1) rfl), ⟨aw_2 (List.mem_of_getElem? (i := 132) rfl), ap_1 (List.mem_map.mpr ⟨_, List.mem_of_getElem? (i := 0) rfl, rfl⟩)⟩⟩
set_option maxRecDepth 20000 in
theorem ay_116 : am_yP 116 := ⟨aw_2 (List.mem_of_getElem? (i := 137) rfl), aw_1 (List.mem_of_getElem? (i := 1) rfl), ⟨aw_2 (List.mem_of_getElem? (i := 135) rfl), aw_2 (List.mem_of_getElem? (i := 136) rfl)⟩⟩
set_option maxRecDepth 20000 in
theorem ay_117 : am_yP 117 := ⟨aw_2 (List.mem_of_getElem? (i := 141) rfl), aw_1 (List.mem_of_getElem? (i := 1) rfl), ⟨aw_2 (List.mem_of_getElem? (i := 139) rfl), aw_2 (List.mem_of_getElem? (i := 140) rfl)⟩⟩
set_option maxRecDepth 20000 in
theorem ay_118 : am_yP 118 := ⟨aw_2 (List.mem_of_getElem? (i := 144) rfl), aw_1 (List.mem_of_getElem? (i := 1) rfl), aw_2 (List.mem_of_getElem? (i := 143) rfl)⟩
set_option maxRecDepth 20000 in
theorem ay_119 : am_yP 119 := ⟨aw_2 (List.mem_of_getElem? (i := 148) rfl), aw_1 (List.mem_of_getElem? (i := 1) rfl), ⟨aw_2 (List.mem_of_getElem? (i := 147) rfl), ap_1 (List.mem_map.mpr ⟨_, List.mem_of_getElem? (i := 1) rfl, rfl⟩)⟩⟩
set_option maxRecDepth 20000 in
theorem ay_120 : am_yP 120 := ⟨aw_2 (List.mem_of_getElem? (i := 152) rfl), aw_1 (List.mem_of_getElem? (i := 1) rfl), ⟨aw_2 (List.mem_of_getElem? (i := 151) rfl), ap_1 (List.mem_map.mpr ⟨_, List.mem_of_getElem? (i := 2) rfl, rfl⟩)⟩⟩
set_option maxRecDepth 20000 in
theorem ay_121 : am_yP 121 := ⟨aw_2 (List.mem_of_getElem? (i := 155) rfl), aw_1 (List.mem_of_getElem? (i := 1) rfl), aw_2 (List.mem_of_getElem? (i := 154) rfl)⟩
set_option maxRecDepth 20000 in
theorem ay_122 : am_yP 122 := ⟨aw_2 (List.mem_of_getElem? (i := 174) rfl), aw_1 (List.mem_of_getElem? (i := 1) rfl), ⟨aw_2 (List.mem_of_getElem? (i := 173) rfl), ap_1 (List.mem_map.mpr ⟨_, List.mem_of_getElem? (i := 3) rfl, rfl⟩)⟩⟩
set_option maxRecDepth 20000 in
theorem ay_123 : am_yP 123 := ⟨aw_2 (List.mem_of_getElem? (i := 195) rfl), aw_1 (List.mem_of_getElem? (i := 1) rfl), ⟨aw_2 (List.mem_of_getElem? (i := 194) rfl), ap_1 (List.mem_map.mpr ⟨_, List.mem_of_getElem? (i := 6) rfl, rfl⟩)⟩⟩
set_option maxRecDepth 20000 in
theorem ay_124 : am_yP 124 := ⟨aw_2 (List.mem_of_getElem? (i := 199) rfl), aw_1 (List.mem_of_getElem? (i := 1) rfl), ⟨aw_2 (List.mem_of_getElem? (i := 197) rfl), aw_2 (List.mem_of_getElem? (i := 198) rfl)⟩⟩
set_option maxRecDepth 20000 in
theorem ay_125 : am_yP 125 := ⟨aw_2 (List.mem_of_getElem? (i := 211) rfl), aw_1 (List.mem_of_getElem? (i := 1) rfl), ⟨aw_2 (List.mem_of_getElem? (i := 209) rfl), aw_2 (List.mem_of_getElem? (i := 210) rfl)⟩⟩
set_option maxRecDepth 20000 in
theorem ay_126 : am_yP 126 := ⟨aw_2 (List.mem_of_getElem? (i := 215) rfl), aw_1 (List.mem_of_getElem? (i := 1) rfl), ⟨aw_2 (List.mem_of_getElem? (i := 214) rfl), ap_1 (List.mem_map.mpr ⟨_, List.mem_of_getElem? (i := 7) rfl, rfl⟩)⟩⟩
set_option maxRecDepth 20000 in
theorem ay_127 : am_yP 127 := ⟨aw_2 (List.mem_of_getElem? (i := 220) rfl), aw_1 (List.mem_of_getElem? (i := 1) rfl), ⟨aw_2 (List.mem_of_getElem? (i := 218) rfl), aw_2 (List.mem_of_getElem? (i := 219) rfl)⟩⟩
set_option maxRecDepth 20000 in
theorem ay_128 : am_yP 128 := ⟨aw_2 (List.mem_of_getElem? (i := 234) rfl), aw_1 (List.mem_of_getElem? (i := 1) rfl), ⟨aw_2 (List.mem_of_getElem? (i := 232) rfl), aw_2 (List.mem_of_getElem? (i := 233) rfl)⟩⟩
set_option maxRecDepth 20000 in
theorem ay_129 : am_yP 129 := ⟨aw_3 (List.mem_of_getElem? (i := 6) rfl), aw_1 (List.mem_of_getElem? (i := 1) rfl), ⟨aw_3 (List.mem_of_getElem? (i := 4) rfl), aw_3 (List.mem_of_getElem? (i := 5) rfl)⟩⟩
set_option maxRecDepth 20000 in
theorem ay_130 : am_yP 130 := ⟨aw_3 (List.mem_of_getElem? (i := 23) rfl), aw_1 (List.mem_of_getElem? (i := 1) rfl), ⟨aw_3 (List.mem_of_getElem? (i := 21) rfl), aw_3 (List.mem_of_getElem? (i := 22) rfl)⟩⟩
set_option maxRecDepth 20000 in
theorem ay_131 : am_yP 131 := ⟨aw_3 (List.mem_of_getElem? (i := 42) rfl), aw_1 (List.mem_of_getElem? (i := 1) rfl), aw_3 (List.mem_of_getElem? (i := 41) rfl)⟩
set_option maxRecDepth 20000 in
theorem ay_132 : am_yP 132 := ⟨aw_3 (List.mem_of_getElem? (i := 52) rfl), aw_1 (List.mem_of_getElem? (i := 1) rfl), ⟨aw_3 (List.mem_of_getElem? (i := 50) rfl), aw_3 (List.mem_of_getElem? (i := 51) rfl)⟩⟩
set_option maxRecDepth 20000 in
theorem ay_133 : am_yP 133 := ⟨aw_3 (List.mem_of_getElem? (i := 60) rfl), aw_1 (List.mem_of_getElem? (i := 1) rfl), ⟨aw_3 (List.mem_of_getElem? (i := 58) rfl), aw_3 (List.mem_of_getElem? (i := 59) rfl)⟩⟩
set_option maxRecDepth 20000 in
theorem ay_134 : am_yP 134 := ⟨aw_3 (List.mem_of_getElem? (i := 68) rfl), aw_1 (List.mem_of_getElem? (i := 1) rfl), ⟨aw_3 (List.mem_of_getElem? (i := 66) rfl), aw_3 (List.mem_of_getElem? (i := 67) rfl)⟩⟩
set_option maxRecDepth 20000 in
theorem ay_135 : am_yP 135 := ⟨aw_3 (List.mem_of_getElem? (i := 118) rfl), aw_1 (List.mem_of_getElem? (i := 1) rfl), ⟨aw_3 (List.mem_of_getElem? (i := 116) rfl), aw_3 (List.mem_of_getElem? (i := 117) rfl)⟩⟩
set_option maxRecDepth 20000 in
theorem ay_136 : am_yP 136 := ⟨aw_3 (List.mem_of_getElem? (i := 126) rfl), aw_1 (List.mem_of_getElem? (i := 1) rfl), ⟨aw_3 (List.mem_of_getElem? (i := 124) rfl), aw_3 (List.mem_of_getElem? (i := 125) rfl)⟩⟩
set_option maxRecDepth 20000 in
theorem ay_137 : am_yP 137 := ⟨aw_3 (List.mem_of_getElem? (i := 134) rfl), aw_1 (List.mem_of_getElem? (i := 1) rfl), ⟨aw_3 (List.mem_of_getElem? (i := 132) rfl), aw_3 (List.mem_of_getElem? (i := 133) rfl)⟩⟩
set_option maxRecDepth 20000 in
theorem ay_138 : am_yP 138 := ⟨aw_3 (List.mem_of_getElem? (i := 138) rfl), aw_1 (List.mem_of_getElem? (i := 1) rfl), ⟨aw_3 (List.mem_of_getElem? (i := 136) rfl), aw_3 (List.mem_of_getElem? (i := 137) rfl)⟩⟩
set_option maxRecDepth 20000 in
theorem ay_139 : am_yP 139 := ⟨aw_3 (List.mem_of_getElem? (i := 144) rfl), aw_1 (List.mem_of_getElem? (i := 1) rfl), ⟨aw_3 (List.mem_of_getElem? (i := 142) rfl), aw_3 (List.mem_of_getElem? (i := 143) rfl)⟩⟩
set_option maxRecDepth 20000 in
theorem ay_140 : am_yP 140 := ⟨aw_3 (List.mem_of_getElem? (i := 149) rfl), aw_1 (List.mem_of_getElem? (i := 1) rfl), ⟨aw_3 (List.mem_of_getElem? (i := 147) rfl), aw_3 (List.mem_of_getElem? (i := 148) rfl)⟩⟩
set_option maxRecDepth 20000 in
theorem ay_141 : am_yP 141 := ⟨aw_3 (List.mem_of_getElem? (i := 222) rfl), aw_1 (List.mem_of_getElem? (i := 1) rfl), ⟨aw_3 (List.mem_of_getElem? (i := 220) rfl), aw_3 (List.mem_of_getElem? (i := 221) rfl)⟩⟩
set_option maxRecDepth 20000 in
theorem ay_142 : am_yP 142 := ⟨aw_3 (List.mem_of_getElem? (i := 226) rfl), aw_1 (List.mem_of_getElem? (i := 1) rfl), ⟨aw_3 (List.mem_of_getElem? (i := 224) rfl), aw_3 (List.mem_of_getElem? (i := 225) rfl)⟩⟩
set_option maxRecDepth 20000 in
theorem ay_143 : am_yP 143 := ⟨aw_3 (List.mem_of_getElem? (i := 230) rfl), aw_1 (List.mem_of_getElem? (i := 1) rfl), ⟨aw_3 (List.mem_of_getElem? (i := 229) rfl), ap_2 (List.mem_map.mpr ⟨_, List.mem_of_getElem? (i := 0) rfl, rfl⟩)⟩⟩
set_option maxRecDepth 20000 in
theorem ay_144 : am_yP 144 := ⟨aw_4 (List.mem_of_getElem? (i := 25) rfl), aw_1 (List.mem_of_getElem? (i := 1) rfl), ⟨aw_4 (List.mem_of_getElem? (i := 23) rfl), aw_4 (List.mem_of_getElem? (i := 24) rfl)⟩⟩
set_option maxRecDepth 20000 in
theorem ay_145 : am_yP 145 := ⟨aw_4 (List.mem_of_getElem? (i := 33) rfl), aw_1 (List.mem_of_getElem? (i := 1) rfl), ⟨aw_4 (List.mem_of_getElem? (i := 31) rfl), aw_4 (List.mem_of_getElem? (i := 32) rfl)⟩⟩
set_option maxRecDepth 20000 in
theorem ay_146 : am_yP 146 := ⟨aw_4 (List.mem_of_getElem? (i := 37) rfl), aw_1 (List.mem_of_getElem? (i := 1) rfl), ⟨aw_4 (List.mem_of_getElem? (i := 36) rfl), ap_2 (List.mem_map.mpr ⟨_, List.mem_of_getElem? (i := 6) rfl, rfl⟩)⟩⟩
set_option maxRecDepth 20000 in
theorem ay_147 : am_yP 147 := ⟨aw_4 (List.mem_of_getElem? (i := 60) rfl), aw_1 (List.mem_of_getElem? (i := 1) rfl), ⟨aw_4 (List.mem_of_getElem? (i := 58) rfl), aw_4 (List.mem_of_getElem? (i := 59) rfl)⟩⟩
set_option maxRecDepth 20000 in
theorem ay_148 : am_yP 148 := ⟨aw_4 (List.mem_of_getElem? (i := 64) rfl), aw_1 (List.mem_of_getElem? (i := 1) rfl), ⟨aw_4 (List.mem_of_getElem? (i := 62) rfl), aw_4 (List.mem_of_getElem? (i := 63) rfl)⟩⟩
set_option maxRecDepth 20000 in
theorem ay_149 : am_yP 149 := ⟨aw_4 (List.mem_of_getElem? (i := 86) rfl), aw_1 (List.mem_of_getElem? (i := 1) rfl), ⟨aw_4 (List.mem_of_getElem? (i := 84) rfl), aw_4 (List.mem_of_getElem? (i := 85) rfl)⟩⟩
set_option maxRecDepth 20000 in
theorem ay_150 : am_yP 150 := ⟨aw_4 (List.mem_of_getElem? (i := 96) rfl), aw_1 (List.mem_of_getElem? (i := 1) rfl), ⟨aw_4 (List.mem_of_getElem? (i := 94) rfl), aw_4 (List.mem_of_getElem? (i := 95) rfl)⟩⟩
set_option maxRecDepth 20000 in
theorem ay_151 : am_yP 151 := ⟨aw_4 (List.mem_of_getElem? (i := 104) rfl), aw_1 (List.mem_of_getElem? (i := 1) rfl), ⟨aw_4 (List.mem_of_getElem? (i := 102) rfl), aw_4 (List.mem_of_getElem? (i := 103) rfl)⟩⟩
set_option maxRecDepth 20000 in
theorem ay_152 : am_yP 152 := ⟨aw_4 (List.mem_of_getElem? (i := 112) rfl), aw_1 (List.mem_of_getElem? (i := 1) rfl), ⟨aw_4 (List.mem_of_getElem? (i := 110) rfl), aw_4 (List.mem_of_getElem? (i := 111) rfl)⟩⟩
set_option maxRecDepth 20000 in
theorem ay_153 : am_yP 153 := ⟨aw_4 (List.mem_of_getElem? (i := 120) rfl), aw_1 (List.mem_of_getElem? (i := 1) rfl), ⟨aw_4 (List.mem_of_getElem? (i := 118) rfl), aw_4 (List.mem_of_getElem? (i := 119) rfl)⟩⟩
set_option maxRecDepth 20000 in
theorem ay_154 : am_yP 154 := ⟨aw_4 (List.mem_of_getElem? (i := 130) rfl), aw_1 (List.mem_of_getElem? (i := 1) rfl), aw_4 (List.mem_of_getElem? (i := 129) rfl)⟩
set_option maxRecDepth 20000 in
theorem ay_155 : am_yP 155 := ⟨aw_4 (List.mem_of_getElem? (i := 151) rfl), aw_1 (List.mem_of_getElem? (i := 1) rfl), ⟨aw_4 (List.mem_of_getElem? (i := 149) rfl), aw_4 (List.mem_of_getElem? (i := 150) rfl)⟩⟩
set_option maxRecDepth 20000 in
theorem ay_156 : am_yP 156 := ⟨aw_4 (List.mem_of_getElem? (i := 154) rfl), aw_1 (List.mem_of_getElem? (i := 1) rfl), aw_4 (List.mem_of_getElem? (i := 153) rfl)⟩
set_option maxRecDepth 20000 in
theorem ay_157 : am_yP 157 := ⟨aw_4 (List.mem_of_getElem? (i := 182) rfl), aw_1 (List.mem_of_getElem? (i := 1) rfl), aw_4 (List.mem_of_getElem? (i := 181) rfl)⟩
set_option maxRecDepth 20000 in
theorem ay_158 : am_yP 158 := ⟨aw_4 (List.mem_of_getElem? (i := 197) rfl), aw_1 (List.mem_of_getElem? (i := 1) rfl), ⟨aw_4 (List.mem_of_getElem? (i := 195) rfl), aw_4 (List.mem_of_getElem? (i := 196) rfl)⟩⟩
set_option maxRecDepth 20000 in
theorem ay_159 : am_yP 159 := ⟨aw_4 (List.mem_of_getElem? (i := 202) rfl), aw_1 (List.mem_of_getElem? (i := 1) rfl), ⟨aw_4 (List.mem_of_getElem? (i := 200) rfl), aw_4 (List.mem_of_getElem? (i := 201) rfl)⟩⟩
set_option maxRecDepth 20000 in
theorem ay_160 : am_yP 160 := ⟨aw_4 (List.mem_of_getElem? (i := 224) rfl), aw_1 (List.mem_of_getElem? (i := 1) rfl), ⟨aw_4 (List.mem_of_getElem? (i := 222) rfl), aw_4 (List.mem_of_getElem? (i := 223) rfl)⟩⟩
set_option maxRecDepth 20000 in
theorem ay_161 : am_yP 161 := ⟨aw_5 (List.mem_of_getElem? (i := 12) rfl), aw_1 (List.mem_of_getElem? (i := 1) rfl), ⟨aw_5 (List.mem_of_getElem? (i := 10) rfl), aw_5 (List.mem_of_getElem? (i := 11) rfl)⟩⟩
set_option maxRecDepth 20000 in
theorem ay_162 : am_yP 162 := ⟨aw_5 (List.mem_of_getElem? (i := 27) rfl), aw_1 (List.mem_of_getElem? (i := 1) rfl), ⟨aw_5 (List.mem_of_getElem? (i := 25) rfl), aw_5 (List.mem_of_getElem? (i := 26) rfl)⟩⟩
set_option maxRecDepth 20000 in
theorem ay_163 : am_yP 163 := ⟨aw_5 (List.mem_of_getElem? (i := 31) rfl), aw_1 (List.mem_of_getElem? (i := 1) rfl), ⟨aw_5 (List.mem_of_getElem? (i := 29) rfl), aw_5 (List.mem_of_getElem? (i := 30) rfl)⟩⟩
set_option maxRecDepth 20000 in
theorem ay_164 : am_yP 164 := ⟨aw_5 (List.mem_of_getElem? (i := 50) rfl), aw_1 (List.mem_of_getElem? (i := 1) rfl), ⟨aw_5 (List.mem_of_getElem? (i := 48) rfl), aw_5 (List.mem_of_getElem? (i := 49) rfl)⟩⟩
set_option maxRecDepth 20000 in
theorem ay_165 : am_yP 165 := ⟨aw_5 (List.mem_of_getElem? (i := 55) rfl), aw_1 (List.mem_of_getElem? (i := 1) rfl), ⟨aw_5 (List.mem_of_getElem? (i := 53) rfl), aw_5 (List.mem_of_getElem? (i := 54) rfl)⟩⟩
set_option maxRecDepth 20000 in
theorem ay_166 : am_yP 166 := ⟨aw_5 (List.mem_of_getElem? (i := 59) rfl), aw_1 (List.mem_of_getElem? (i := 1) rfl), ⟨aw_5 (List.mem_of_getElem? (i := 58) rfl), ap_3 (List.mem_map.mpr ⟨_, List.mem_of_getElem? (i := 7) rfl, rfl⟩)⟩⟩
set_option maxRecDepth 20000 in
theorem ay_167 : am_yP 167 := ⟨aw_5 (List.mem_of_getElem? (i := 63) rfl), aw_1 (List.mem_of_getElem? (i := 1) rfl), ⟨aw_5 (List.mem_of_getElem? (i := 61) rfl), aw_5 (List.mem_of_getElem? (i := 62) rfl)⟩⟩
set_option maxRecDepth 20000 in
theorem ay_168 : am_yP 168 := ⟨aw_5 (List.mem_of_getElem? (i := 86) rfl), aw_1 (List.mem_of_getElem? (i := 1) rfl), ⟨aw_5 (List.mem_of_getElem? (i := 84) rfl), aw_5 (List.mem_of_getElem? (i := 85) rfl)⟩⟩
set_option maxRecDepth 20000 in
theorem ay_169 : am_yP 169 := ⟨aw_5 (List.mem_of_getElem? (i := 100) rfl), aw_1 (List.mem_of_getElem? (i := 1) rfl), ⟨aw_5 (List.mem_of_getElem? (i := 98) rfl), aw_5 (List.mem_of_getElem? (i := 99) rfl)⟩⟩
set_option maxRecDepth 20000 in
theorem ay_170 : am_yP 170 := ⟨aw_5 (List.mem_of_getElem? (i := 104) rfl), aw_1 (List.mem_of_getElem? (i := 1) rfl), ⟨aw_5 (List.mem_of_getElem? (i := 102) rfl), aw_5 (List.mem_of_getElem? (i := 103) rfl)⟩⟩
set_option maxRecDepth 20000 in
theorem ay_171 : am_yP 171 := ⟨aw_5 (List.mem_of_getElem? (i := 108) rfl), aw_1 (List.mem_of_getElem? (i := 1) rfl), aw_5 (List.mem_of_getElem? (i := 107) rfl)⟩
set_option maxRecDepth 20000 in
theorem ay_172 : am_yP 172 := ⟨aw_5 (List.mem_of_getElem? (i := 113) rfl), aw_1 (List.mem_of_getElem? (i := 1) rfl), ⟨aw_5 (List.mem_of_getElem? (i := 111) rfl), aw_5 (List.mem_of_getElem? (i := 112) rfl)⟩⟩
set_option maxRecDepth 20000 in
theorem ay_173 : am_yP 173 := ⟨aw_5 (List.mem_of_getElem? (i := 117) rfl), aw_1 (List.mem_of_getElem? (i := 1) rfl), ⟨aw_5 (List.mem_of_getElem? (i := 115) rfl), aw_5 (List.mem_of_getElem? (i := 116) rfl)⟩⟩
set_option maxRecDepth 20000 in
theorem ay_174 : am_yP 174 := ⟨aw_5 (List.mem_of_getElem? (i := 126) rfl), aw_1 (List.mem_of_getElem? (i := 1) rfl), ⟨aw_5 (List.mem_of_getElem? (i := 124) rfl), aw_5 (List.mem_of_getElem? (i := 125) rfl)⟩⟩
set_option maxRecDepth 20000 in
theorem ay_175 : am_yP 175 := ⟨aw_5 (List.mem_of_getElem? (i := 130) rfl), aw_1 (List.mem_of_getElem? (i := 1) rfl), ⟨aw_5 (List.mem_of_getElem? (i := 128) rfl), aw_5 (List.mem_of_getElem? (i := 129) rfl)⟩⟩
set_option maxRecDepth 20000 in
theorem ay_176 : am_yP 176 := ⟨aw_5 (List.mem_of_getElem? (i := 142) rfl), aw_1 (List.mem_of_getElem? (i := 1) rfl), ⟨aw_5 (List.mem_of_getElem? (i := 140) rfl), aw_5 (List.mem_of_getElem? (i := 141) rfl)⟩⟩
set_option maxRecDepth 20000 in
theorem ay_177 : am_yP 177 := ⟨aw_5 (List.mem_of_getElem? (i := 147) rfl), aw_1 (List.mem_of_getElem? (i := 11) rfl), aw_5 (List.mem_of_getElem? (i := 146) rfl)⟩
set_option maxRecDepth 20000 in
theorem ay_178 : am_yP 178 := ⟨aw_6 (List.mem_of_getElem? (i := 88) rfl), aw_1 (List.mem_of_getElem? (i := 11) rfl), ⟨aw_6 (List.mem_of_getElem? (i := 86) rfl), aw_6 (List.mem_of_getElem? (i := 87) rfl)⟩⟩
set_option maxRecDepth 20000 in
theorem ay_179 : am_yP 179 := ⟨aw_6 (List.mem_of_getElem? (i := 91) rfl), aw_1 (List.mem_of_getElem? (i := 11) rfl), aw_6 (List.mem_of_getElem? (i := 90) rfl)⟩
set_option maxRecDepth 20000 in
theorem ay_180 : am_yP 180 := ⟨aw_6 (List.mem_of_getElem? (i := 95) rfl), aw_1 (List.mem_of_getElem? (i := 11) rfl), ⟨aw_6 (List.mem_of_getElem? (i := 94) rfl), ap_3 (List.mem_map.mpr ⟨_, List.mem_of_getElem? (i := 12) rfl, rfl⟩)⟩⟩
set_option maxRecDepth 20000 in
theorem ay_181 : am_yP 181 := ⟨aw_6 (List.mem_of_getElem? (i := 99) rfl), aw_1 (List.mem_of_getElem? (i := 11) rfl), ⟨aw_6 (List.mem_of_getElem? (i := 98) rfl), ap_3 (List.mem_map.mpr ⟨_, List.mem_of_getElem? (i := 13) rfl, rfl⟩)⟩⟩
set_option maxRecDepth 20000 in
theorem ay_182 : am_yP 182 := ⟨aw_6 (List.mem_of_getElem? (i := 103) rfl), aw_1 (List.mem_of_getElem? (i := 11) rfl), ⟨aw_6 (List.mem_of_getElem? (i := 101) rfl), aw_6 (List.mem_of_getElem? (i := 102) rfl)⟩⟩
set_option maxRecDepth 20000 in
theorem ay_183 : am_yP 183 := ⟨aw_6 (List.mem_of_getElem? (i := 107) rfl), aw_1 (List.mem_of_getElem? (i := 11) rfl), ⟨aw_6 (List.mem_of_getElem? (i := 105) rfl), aw_6 (List.mem_of_getElem? (i := 106) rfl)⟩⟩
set_option maxRecDepth 20000 in
theorem ay_184 : am_yP 184 := ⟨aw_6 (List.mem_of_getElem? (i := 111) rfl), aw_1 (List.mem_of_getElem? (i := 11) rfl), ⟨aw_6 (List.mem_of_getElem? (i := 110) rfl), ap_3 (List.mem_map.mpr ⟨_, List.mem_of_getElem? (i := 14) rfl, rfl⟩)⟩⟩
set_option maxRecDepth 20000 in
theorem ay_185 : am_yP 185 := ⟨aw_6 (List.mem_of_getElem? (i := 114) rfl), aw_1 (List.mem_of_getElem? (i := 11) rfl), aw_6 (List.mem_of_getElem? (i := 113) rfl)⟩
set_option maxRecDepth 20000 in
theorem ay_186 : am_yP 186 := ⟨aw_6 (List.mem_of_getElem? (i := 118) rfl), aw_1 (List.mem_of_getElem? (i := 11) rfl), ⟨aw_6 (List.mem_of_getElem? (i := 117) rfl), ap_3 (List.mem_map.mpr ⟨_, List.mem_of_getElem? (i := 15) rfl, rfl⟩)⟩⟩
set_option maxRecDepth 20000 in
theorem ay_187 : am_yP 187 := ⟨aw_6 (List.mem_of_getElem? (i := 122) rfl), aw_1 (List.mem_of_getElem? (i := 11) rfl), ⟨aw_6 (List.mem_of_getElem? (i := 120) rfl), aw_6 (List.mem_of_getElem? (i := 121) rfl)⟩⟩
set_option maxRecDepth 20000 in
theorem ay_188 : am_yP 188 := ⟨aw_6 (List.mem_of_getElem? (i := 126) rfl), aw_1 (List.mem_of_getElem? (i := 11) rfl), ⟨aw_6 (List.mem_of_getElem? (i := 124) rfl), aw_6 (List.mem_of_getElem? (i := 125) rfl)⟩⟩
set_option maxRecDepth 20000 in
theorem ay_189 : am_yP 189 := ⟨aw_6 (List.mem_of_getElem? (i := 130) rfl), aw_1 (List.mem_of_getElem? (i := 11) rfl), ⟨aw_6 (List.mem_of_getElem? (i := 128) rfl), aw_6 (List.mem_of_getElem? (i := 129) rfl)⟩⟩
set_option maxRecDepth 20000 in
theorem ay_190 : am_yP 190 := ⟨aw_6 (List.mem_of_getElem? (i := 134) rfl), aw_1 (List.mem_of_getElem? (i := 11) rfl), ⟨aw_6 (List.mem_of_getElem? (i := 132) rfl), aw_6 (List.mem_of_getElem? (i := 133) rfl)⟩⟩
set_option maxRecDepth 20000 in
theorem ay_191 : am_yP 191 := ⟨aw_6 (List.mem_of_getElem? (i := 138) rfl), aw_1 (List.mem_of_getElem? (i := 11) rfl), ⟨aw_6 (List.mem_of_getElem? (i := 136) rfl), aw_6 (List.mem_of_getElem? (i := 137) rfl)⟩⟩
set_option maxRecDepth 20000 in
theorem ay_192 : am_yP 192 := ⟨aw_6 (List.mem_of_getElem? (i := 142) rfl), aw_1 (List.mem_of_getElem? (i := 11) rfl), ⟨aw_6 (List.mem_of_getElem? (i := 141) rfl), ap_4 (List.mem_map.mpr ⟨_, List.mem_of_getElem? (i := 0) rfl, rfl⟩)⟩⟩
set_option maxRecDepth 20000 in
theorem ay_193 : am_yP 193 := ⟨aw_6 (List.mem_of_getElem? (i := 145) rfl), aw_1 (List.mem_of_getElem? (i := 11) rfl), aw_6 (List.mem_of_getElem? (i := 144) rfl)⟩
set_option maxRecDepth 20000 in
theorem ay_194 : am_yP 194 := ⟨aw_6 (List.mem_of_getElem? (i := 148) rfl), aw_1 (List.mem_of_getElem? (i := 11) rfl), aw_6 (List.mem_of_getElem? (i := 147) rfl)⟩
set_option maxRecDepth 20000 in
theorem ay_195 : am_yP 195 := ⟨aw_6 (List.mem_of_getElem? (i := 152) rfl), aw_1 (List.mem_of_getElem? (i := 11) rfl), ⟨aw_6 (List.mem_of_getElem? (i := 151) rfl), ap_4 (List.mem_map.mpr ⟨_, List.mem_of_getElem? (i := 1) rfl, rfl⟩)⟩⟩
set_option maxRecDepth 20000 in
theorem ay_196 : am_yP 196 := ⟨aw_6 (List.mem_of_getElem? (i := 157) rfl), aw_1 (List.mem_of_getElem? (i := 11) rfl), ⟨aw_6 (List.mem_of_getElem? (i := 156) rfl), ap_4 (List.mem_map.mpr ⟨_, List.mem_of_getElem? (i := 2) rfl, rfl⟩)⟩⟩
set_option maxRecDepth 20000 in
theorem ay_197 : am_yP 197 := ⟨aw_6 (List.mem_of_getElem? (i := 161) rfl), aw_1 (List.mem_of_getElem? (i := 11) rfl), ⟨aw_6 (List.mem_of_getElem? (i := 160) rfl), ap_4 (List.mem_map.mpr ⟨_, List.mem_of_getElem? (i := 3) rfl, rfl⟩)⟩⟩
set_option maxRecDepth 20000 in
theorem ay_198 : am_yP 198 := ⟨aw_6 (List.mem_of_getElem? (i := 165) rfl), aw_1 (List.mem_of_getElem? (i := 11) rfl), ⟨aw_6 (List.mem_of_getElem? (i := 164) rfl), ap_4 (List.mem_map.mpr ⟨_, List.mem_of_getElem? (i := 4) rfl, rfl⟩)⟩⟩
set_option maxRecDepth 20000 in
theorem ay_199 : am_yP 199 := ⟨aw_6 (List.mem_of_getElem? (i := 169) rfl), aw_1 (List.mem_of_getElem? (i := 11) rfl), ⟨aw_6 (List.mem_of_getElem? (i := 168) rfl), ap_4 (List.mem_map.mpr ⟨_, List.mem_of_getElem? (i := 5) rfl, rfl⟩)⟩⟩
set_option maxRecDepth 20000 in
theorem ay_200 : am_yP 200 := ⟨aw_6 (List.mem_of_getElem? (i := 173) rfl), aw_1 (List.mem_of_getElem? (i := 11) rfl), ⟨aw_6 (List.mem_of_getElem? (i := 172) rfl), ap_4 (List.mem_map.mpr ⟨_, List.mem_of_getElem? (i := 6) rfl, rfl⟩)⟩⟩
set_option maxRecDepth 20000 in
theorem ay_201 : am_yP 201 := ⟨aw_6 (List.mem_of_getElem? (i := 176) rfl), aw_1 (List.mem_of_getElem? (i := 11) rfl), aw_6 (List.mem_of_getElem? (i := 175) rfl)⟩
set_option maxRecDepth 20000 in
theorem ay_202 : am_yP 202 := ⟨aw_6 (List.mem_of_getElem? (i := 180) rfl), aw_1 (List.mem_of_getElem? (i := 11) rfl), ⟨aw_6 (List.mem_of_getElem? (i := 179) rfl), ap_4 (List.mem_map.mpr ⟨_, List.mem_of_getElem? (i := 7) rfl, rfl⟩)⟩⟩
set_option maxRecDepth 20000 in
theorem ay_203 : am_yP 203 := ⟨aw_6 (List.mem_of_getElem? (i := 184) rfl), aw_1 (List.mem_of_getElem? (i := 11) rfl), ⟨aw_6 (List.mem_of_getElem? (i := 183) rfl), ap_4 (List.mem_map.mpr ⟨_, List.mem_of_getElem? (i := 8) rfl, rfl⟩)⟩⟩
set_option maxRecDepth 20000 in
theorem ay_204 : am_yP 204 := ⟨aw_6 (List.mem_of_getElem? (i := 188) rfl), aw_1 (List.mem_of_getElem? (i := 11) rfl), ⟨aw_6 (List.mem_of_getElem? (i := 187) rfl), ap_4 (List.mem_map.mpr ⟨_, List.mem_of_getElem? (i := 9) rfl, rfl⟩)⟩⟩
set_option maxRecDepth 20000 in
theorem ay_205 : am_yP 205 := ⟨aw_6 (List.mem_of_getElem? (i := 192) rfl), aw_1 (List.mem_of_getElem? (i := 11) rfl), ⟨aw_6 (List.mem_of_getElem? (i := 190) rfl), aw_6 (List.mem_of_getElem? (i := 191) rfl)⟩⟩
set_option maxRecDepth 20000 in
theorem ay_206 : am_yP 206 := ⟨aw_6 (List.mem_of_getElem? (i := 196) rfl), aw_1 (List.mem_of_getElem? (i := 11) rfl), ⟨aw_6 (List.mem_of_getElem? (i := 194) rfl), aw_6 (List.mem_of_getElem? (i := 195) rfl)⟩⟩
set_option maxRecDepth 20000 in
theorem ay_207 : am_yP 207 := ⟨aw_6 (List.mem_of_getElem? (i := 200) rfl), aw_1 (List.mem_of_getElem? (i := 11) rfl), ⟨aw_6 (List.mem_of_getElem? (i := 199) rfl), ap_4 (List.mem_map.mpr ⟨_, List.mem_of_getElem? (i := 10) rfl, rfl⟩)⟩⟩
set_option maxRecDepth 20000 in
theorem ay_208 : am_yP 208 := ⟨aw_6 (List.mem_of_getElem? (i := 204) rfl), aw_1 (List.mem_of_getElem? (i := 11) rfl), ⟨aw_6 (List.mem_of_getElem? (i := 203) rfl), ap_4 (List.mem_map.mpr ⟨_, List.mem_of_getElem? (i := 11) rfl, rfl⟩)⟩⟩
set_option maxRecDepth 20000 in
theorem ay_209 : am_yP 209 := ⟨aw_6 (List.mem_of_getElem? (i := 208) rfl), aw_1 (List.mem_of_getElem? (i := 11) rfl), ⟨aw_6 (List.mem_of_getElem? (i := 207) rfl), ap_4 (List.mem_map.mpr ⟨_, List.mem_of_getElem? (i := 12) rfl, rfl⟩)⟩⟩
set_option maxRecDepth 20000 in
theorem ay_210 : am_yP 210 := ⟨aw_6 (List.mem_of_getElem? (i := 212) rfl), aw_1 (List.mem_of_getElem? (i := 11) rfl), ⟨aw_6 (List.mem_of_getElem? (i := 211) rfl), ap_4 (List.mem_map.mpr ⟨_, List.mem_of_getElem? (i := 13) rfl, rfl⟩)⟩⟩
set_option maxRecDepth 20000 in
theorem ay_211 : am_yP 211 := ⟨aw_6 (List.mem_of_getElem? (i := 216) rfl), aw_1 (List.mem_of_getElem? (i := 11) rfl), ⟨aw_6 (List.mem_of_getElem? (i := 215) rfl), ap_4 (List.mem_map.mpr ⟨_, List.mem_of_getElem? (i := 14) rfl, rfl⟩)⟩⟩
set_option maxRecDepth 20000 in
theorem ay_212 : am_yP 212 := ⟨aw_6 (List.mem_of_getElem? (i := 220) rfl), aw_1 (List.mem_of_getElem? (i := 11) rfl), ⟨aw_6 (List.mem_of_getElem? (i := 219) rfl), ap_4 (List.mem_map.mpr ⟨_, List.mem_of_getElem? (i := 15) rfl, rfl⟩)⟩⟩
set_option maxRecDepth 20000 in
theorem ay_213 : am_yP 213 := ⟨aw_6 (List.mem_of_getElem? (i := 224) rfl), aw_1 (List.mem_of_getElem? (i := 11) rfl), ⟨aw_6 (List.mem_of_getElem? (i := 223) rfl), ap_5 (List.mem_map.mpr ⟨_, List.mem_of_getElem? (i := 0) rfl, rfl⟩)⟩⟩
set_option maxRecDepth 20000 in
theorem ay_214 : am_yP 214 := ⟨aw_6 (List.mem_of_getElem? (i := 228) rfl), aw_1 (List.mem_of_getElem? (i := 11) rfl), ⟨aw_6 (List.mem_of_getElem? (i := 227) rfl), ap_5 (List.mem_map.mpr ⟨_, List.mem_of_getElem? (i := 1) rfl, rfl⟩)⟩⟩
set_option maxRecDepth 20000 in
theorem ay_215 : am_yP 215 := ⟨aw_6 (List.mem_of_getElem? (i := 232) rfl), aw_1 (List.mem_of_getElem? (i := 11) rfl), ⟨aw_6 (List.mem_of_getElem? (i := 231) rfl), ap_5 (List.mem_map.mpr ⟨_, List.mem_of_getElem? (i := 2) rfl, rfl⟩)⟩⟩
set_option maxRecDepth 20000 in
theorem ay_216 : am_yP 216 := ⟨aw_6 (List.mem_of_getElem? (i := 236) rfl), aw_1 (List.mem_of_getElem? (i := 11) rfl), ⟨aw_6 (List.mem_of_getElem? (i := 235) rfl), ap_5 (List.mem_map.mpr ⟨_, List.mem_of_getElem? (i := 3) rfl, rfl⟩)⟩⟩
set_option maxRecDepth 20000 in
theorem ay_217 : am_yP 217 := ⟨aw_7 (List.mem_of_getElem? (i := 0) rfl), aw_1 (List.mem_of_getElem? (i := 11) rfl), ⟨aw_6 (List.mem_of_getElem? (i := 239) rfl), ap_5 (List.mem_map.mpr ⟨_, List.mem_of_getElem? (i := 4) rfl, rfl⟩)⟩⟩
set_option maxRecDepth 20000 in
theorem ay_218 : am_yP 218 := ⟨aw_7 (List.mem_of_getElem? (i := 4) rfl), aw_1 (List.mem_of_getElem? (i := 11) rfl), ⟨aw_7 (List.mem_of_getElem? (i := 3) rfl), ap_5 (List.mem_map.mpr ⟨_, List.mem_of_getElem? (i := 5) rfl, rfl⟩)⟩⟩
set_option maxRecDepth 20000 in
theorem ay_219 : am_yP 219 := ⟨aw_7 (List.mem_of_getElem? (i := 8) rfl), aw_1 (List.mem_of_getElem? (i := 11) rfl), ⟨aw_7 (List.mem_of_getElem? (i := 7) rfl), ap_5 (List.mem_map.mpr ⟨_, List.mem_of_getElem? (i := 6) rfl, rfl⟩)⟩⟩
set_option maxRecDepth 20000 in
theorem ay_220 : am_yP 220 := ⟨aw_7 (List.mem_of_getElem? (i := 12) rfl), aw_1 (List.mem_of_getElem? (i := 11) rfl), ⟨aw_7 (List.mem_of_getElem? (i := 11) rfl), ap_5 (List.mem_map.mpr ⟨_, List.mem_of_getElem? (i := 7) rfl, rfl⟩)⟩⟩
set_option maxRecDepth 20000 in
theorem ay_221 : am_yP 221 := ⟨aw_7 (List.mem_of_getElem? (i := 16) rfl), aw_1 (List.mem_of_getElem? (i := 11) rfl), ⟨aw_7 (List.mem_of_getElem? (i := 14) rfl), aw_7 (List.mem_of_getElem? (i := 15) rfl)⟩⟩
set_option maxRecDepth 20000 in
theorem ay_222 : am_yP 222 := ⟨aw_7 (List.mem_of_getElem? (i := 20) rfl), aw_1 (List.mem_of_getElem? (i := 11) rfl), ⟨aw_7 (List.mem_of_getElem? (i := 18) rfl), aw_7 (List.mem_of_getElem? (i := 19) rfl)⟩⟩
set_option maxRecDepth 20000 in
theorem ay_223 : am_yP 223 := ⟨aw_7 (List.mem_of_getElem? (i := 24) rfl), aw_1 (List.mem_of_getElem? (i := 11) rfl), ⟨aw_7 (List.mem_of_getElem? (i := 23) rfl), ap_5 (List.mem_map.mpr ⟨_, List.mem_of_getElem? (i := 8) rfl, rfl⟩)⟩⟩
set_option maxRecDepth 20000 in
theorem ay_224 : am_yP 224 := ⟨aw_7 (List.mem_of_getElem? (i := 28) rfl), aw_1 (List.mem_of_getElem? (i := 11) rfl), ⟨aw_7 (List.mem_of_getElem? (i := 27) rfl), ap_5 (List.mem_map.mpr ⟨_, List.mem_of_getElem? (i := 9) rfl, rfl⟩)⟩⟩
set_option maxRecDepth 20000 in
theorem ay_225 : am_yP 225 := ⟨aw_7 (List.mem_of_getElem? (i := 32) rfl), aw_1 (List.mem_of_getElem? (i := 11) rfl), ⟨aw_7 (List.mem_of_getElem? (i := 30) rfl), aw_7 (List.mem_of_getElem? (i := 31) rfl)⟩⟩
set_option maxRecDepth 20000 in
theorem ay_226 : am_yP 226 := ⟨aw_7 (List.mem_of_getElem? (i := 36) rfl), aw_1 (List.mem_of_getElem? (i := 11) rfl), ⟨aw_7 (List.mem_of_getElem? (i := 34) rfl), aw_7 (List.mem_of_getElem? (i := 35) rfl)⟩⟩
set_option maxRecDepth 20000 in
theorem ay_227 : am_yP 227 := ⟨aw_7 (List.mem_of_getElem? (i := 40) rfl), aw_1 (List.mem_of_getElem? (i := 11) rfl), ⟨aw_7 (List.mem_of_getElem? (i := 38) rfl), aw_7 (List.mem_of_getElem? (i := 39) rfl)⟩⟩
set_option maxRecDepth 20000 in
theorem ay_228 : am_yP 228 := ⟨aw_7 (List.mem_of_getElem? (i := 44) rfl), aw_1 (List.mem_of_getElem? (i := 11) rfl), ⟨aw_7 (List.mem_of_getElem? (i := 43) rfl), ap_5 (List.mem_map.mpr ⟨_, List.mem_of_getElem? (i := 10) rfl, rfl⟩)⟩⟩
set_option maxRecDepth 20000 in
theorem ay_229 : am_yP 229 := ⟨aw_7 (List.mem_of_getElem? (i := 48) rfl), aw_1 (List.mem_of_getElem? (i := 11) rfl), ⟨aw_7 (List.mem_of_getElem? (i := 47) rfl), ap_5 (List.mem_map.mpr ⟨_, List.mem_of_getElem? (i := 11) rfl, rfl⟩)⟩⟩
set_option maxRecDepth 20000 in
theorem ay_230 : am_yP 230 := ⟨aw_7 (List.mem_of_getElem? (i := 52) rfl), aw_1 (List.mem_of_getElem? (i := 11) rfl), ⟨aw_7 (List.mem_of_getElem? (i := 50) rfl), aw_7 (List.mem_of_getElem? (i := 51) rfl)⟩⟩
set_option maxRecDepth 20000 in
theorem ay_231 : am_yP 231 := ⟨aw_7 (List.mem_of_getElem? (i := 56) rfl), aw_1 (List.mem_of_getElem? (i := 11) rfl), ⟨aw_7 (List.mem_of_getElem? (i := 55) rfl), ap_5 (List.mem_map.mpr ⟨_, List.mem_of_getElem? (i := 12) rfl, rfl⟩)⟩⟩
set_option maxRecDepth 20000 in
theorem ay_232 : am_yP 232 := ⟨aw_7 (List.mem_of_getElem? (i := 60) rfl), aw_1 (List.mem_of_getElem? (i := 11) rfl), ⟨aw_7 (List.mem_of_getElem? (i := 58) rfl), aw_7 (List.mem_of_getElem? (i := 59) rfl)⟩⟩
set_option maxRecDepth 20000 in
theorem ay_233 : am_yP 233 := ⟨aw_7 (List.mem_of_getElem? (i := 63) rfl), aw_1 (List.mem_of_getElem? (i := 11) rfl), aw_7 (List.mem_of_getElem? (i := 62) rfl)⟩
set_option maxRecDepth 20000 in
theorem ay_234 : am_yP 234 := ⟨aw_7 (List.mem_of_getElem? (i := 67) rfl), aw_1 (List.mem_of_getElem? (i := 11) rfl), ⟨aw_7 (List.mem_of_getElem? (i := 66) rfl), ap_5 (List.mem_map.mpr ⟨_, List.mem_of_getElem? (i := 13) rfl, rfl⟩)⟩⟩
set_option maxRecDepth 20000 in
theorem ay_235 : am_yP 235 := ⟨aw_7 (List.mem_of_getElem? (i := 71) rfl), aw_1 (List.mem_of_getElem? (i := 11) rfl), ⟨aw_7 (List.mem_of_getElem? (i := 70) rfl), ap_5 (List.mem_map.mpr ⟨_, List.mem_of_getElem? (i := 14) rfl, rfl⟩)⟩⟩
set_option maxRecDepth 20000 in
theorem ay_236 : am_yP 236 := ⟨aw_7 (List.mem_of_getElem? (i := 75) rfl), aw_1 (List.mem_of_getElem? (i := 11) rfl), ⟨aw_7 (List.mem_of_getElem? (i := 73) rfl), aw_7 (List.mem_of_getElem? (i := 74) rfl)⟩⟩
set_option maxRecDepth 20000 in
theorem ay_237 : am_yP 237 := ⟨aw_7 (List.mem_of_getElem? (i := 79) rfl), aw_1 (List.mem_of_getElem? (i := 11) rfl), ⟨aw_7 (List.mem_of_getElem? (i := 78) rfl), ap_5 (List.mem_map.mpr ⟨_, List.mem_of_getElem? (i := 15) rfl, rfl⟩)⟩⟩
set_option maxRecDepth 20000 in
theorem ay_238 : am_yP 238 := ⟨aw_7 (List.mem_of_getElem? (i := 83) rfl), aw_1 (List.mem_of_getElem? (i := 11) rfl), ⟨aw_7 (List.mem_of_getElem? (i := 81) rfl), aw_7 (List.mem_of_getElem? (i := 82) rfl)⟩⟩
set_option maxRecDepth 20000 in
theorem ay_239 : am_yP 239 := ⟨aw_7 (List.mem_of_getElem? (i := 87) rfl), aw_1 (List.mem_of_getElem? (i := 11) rfl), ⟨aw_7 (List.mem_of_getElem? (i := 85) rfl), aw_7 (List.mem_of_getElem? (i := 86) rfl)⟩⟩
set_option maxRecDepth 20000 in
theorem ay_240 : am_yP 240 := ⟨aw_7 (List.mem_of_getElem? (i := 91) rfl), aw_1 (List.mem_of_getElem? (i := 11) rfl), ⟨aw_7 (List.mem_of_getElem? (i := 89) rfl), aw_7 (List.mem_of_getElem? (i := 90) rfl)⟩⟩
set_option maxRecDepth 20000 in
theorem ay_241 : am_yP 241 := ⟨aw_7 (List.mem_of_getElem? (i := 95) rfl), aw_1 (List.mem_of_getElem? (i := 11) rfl), ⟨aw_7 (List.mem_of_getElem? (i := 93) rfl), aw_7 (List.mem_of_getElem? (i := 94) rfl)⟩⟩
set_option maxRecDepth 20000 in
theorem ay_242 : am_yP 242 := ⟨aw_7 (List.mem_of_getElem? (i := 99) rfl), aw_1 (List.mem_of_getElem? (i := 11) rfl), ⟨aw_7 (List.mem_of_getElem? (i := 97) rfl), aw_7 (List.mem_of_getElem? (i := 98) rfl)⟩⟩
set_option maxRecDepth 20000 in
theorem ay_243 : am_yP 243 := ⟨aw_7 (List.mem_of_getElem? (i := 103) rfl), aw_1 (List.mem_of_getElem? (i := 11) rfl), ⟨aw_7 (List.mem_of_getElem? (i := 102) rfl), ap_6 (List.mem_map.mpr ⟨_, List.mem_of_getElem? (i := 0) rfl, rfl⟩)⟩⟩
set_option maxRecDepth 20000 in
theorem ay_244 : am_yP 244 := ⟨aw_7 (List.mem_of_getElem? (i := 107) rfl), aw_1 (List.mem_of_getElem? (i := 11) rfl), ⟨aw_7 (List.mem_of_getElem? (i := 106) rfl), ap_6 (List.mem_map.mpr ⟨_, List.mem_of_getElem? (i := 1) rfl, rfl⟩)⟩⟩
set_option maxRecDepth 20000 in
theorem ay_245 : am_yP 245 := ⟨aw_7 (List.mem_of_getElem? (i := 111) rfl), aw_1 (List.mem_of_getElem? (i := 11) rfl), ⟨aw_7 (List.mem_of_getElem? (i := 110) rfl), ap_6 (List.mem_map.mpr ⟨_, List.mem_of_getElem? (i := 2) rfl, rfl⟩)⟩⟩
set_option maxRecDepth 20000 in
theorem ay_246 : am_yP 246 := ⟨aw_7 (List.mem_of_getElem? (i := 115) rfl), aw_1 (List.mem_of_getElem? (i := 11) rfl), ⟨aw_7 (List.mem_of_getElem? (i := 114) rfl), ap_6 (List.mem_map.mpr ⟨_, List.mem_of_getElem? (i := 3) rfl, rfl⟩)⟩⟩
set_option maxRecDepth 20000 in
theorem ay_247 : am_yP 247 := ⟨aw_7 (List.mem_of_getElem? (i := 118) rfl), aw_1 (List.mem_of_getElem? (i := 11) rfl), aw_7 (List.mem_of_getElem? (i := 117) rfl)⟩
set_option maxRecDepth 20000 in
theorem ay_248 : am_yP 248 := ⟨aw_7 (List.mem_of_getElem? (i := 122) rfl), aw_1 (List.mem_of_getElem? (i := 11) rfl), ⟨aw_7 (List.mem_of_getElem? (i := 120) rfl), aw_7 (List.mem_of_getElem? (i := 121) rfl)⟩⟩
set_option maxRecDepth 20000 in
theorem ay_249 : am_yP 249 := ⟨aw_7 (List.mem_of_getElem? (i := 126) rfl), aw_1 (List.mem_of_getElem? (i := 11) rfl), ⟨aw_7 (List.mem_of_getElem? (i := 124) rfl), aw_7 (List.mem_of_getElem? (i := 125) rfl)⟩⟩
set_option maxRecDepth 20000 in
theorem ay_250 : am_yP 250 := ⟨aw_7 (List.mem_of_getElem? (i := 130) rfl), aw_1 (List.mem_of_getElem? (i := 11) rfl), ⟨aw_7 (List.mem_of_getElem? (i := 128) rfl), aw_7 (List.mem_of_getElem? (i := 129) rfl)⟩⟩
set_option maxRecDepth 20000 in
theorem ay_251 : am_yP 251 := ⟨aw_7 (List.mem_of_getElem? (i := 134) rfl), aw_1 (List.mem_of_getElem? (i := 11) rfl), ⟨aw_7 (List.mem_of_getElem? (i := 132) rfl), aw_7 (List.mem_of_getElem? (i := 133) rfl)⟩⟩
set_option maxRecDepth 20000 in
theorem ay_252 : am_yP 252 := ⟨aw_7 (List.mem_of_getElem? (i := 138) rfl), aw_1 (List.mem_of_getElem? (i := 11) rfl), ⟨aw_7 (List.mem_of_getElem? (i := 137) rfl), ap_6 (List.mem_map.mpr ⟨_, List.mem_of_getElem? (i := 4) rfl, rfl⟩)⟩⟩
set_option maxRecDepth 20000 in
theorem ay_253 : am_yP 253 := ⟨aw_7 (List.mem_of_getElem? (i := 142) rfl), aw_1 (List.mem_of_getElem? (i := 11) rfl), ⟨aw_7 (List.mem_of_getElem? (i := 140) rfl), aw_7 (List.mem_of_getElem? (i := 141) rfl)⟩⟩
set_option maxRecDepth 20000 in
theorem ay_254 : am_yP 254 := ⟨aw_7 (List.mem_of_getElem? (i := 146) rfl), aw_1 (List.mem_of_getElem? (i := 11) rfl), ⟨aw_7 (List.mem_of_getElem? (i := 145) rfl), ap_6 (List.mem_map.mpr ⟨_, List.mem_of_getElem? (i := 5) rfl, rfl⟩)⟩⟩
set_option maxRecDepth 20000 in
theorem ay_255 : am_yP 255 := ⟨aw_7 (List.mem_of_getElem? (i := 150) rfl), aw_1 (List.mem_of_getElem? (i := 11) rfl), ⟨aw_7 (List.mem_of_getElem? (i := 148) rfl), aw_7 (List.mem_of_getElem? (i := 149) rfl)⟩⟩
set_option maxRecDepth 20000 in
theorem ay_256 : am_yP 256 := ⟨aw_7 (List.mem_of_getElem? (i := 154) rfl), aw_1 (List.mem_of_getElem? (i := 11) rfl), ⟨aw_7 (List.mem_of_getElem? (i := 153) rfl), ap_6 (List.mem_map.mpr ⟨_, List.mem_of_getElem? (i := 6) rfl, rfl⟩)⟩⟩
set_option maxRecDepth 20000 in
theorem ay_257 : am_yP 257 := ⟨aw_7 (List.mem_of_getElem? (i := 158) rfl), aw_1 (List.mem_of_getElem? (i := 11) rfl), ⟨aw_7 (List.mem_of_getElem? (i := 157) rfl), ap_6 (List.mem_map.mpr ⟨_, List.mem_of_getElem? (i := 7) rfl, rfl⟩)⟩⟩
set_option maxRecDepth 20000 in
theorem ay_258 : am_yP 258 := ⟨aw_7 (List.mem_of_getElem? (i := 162) rfl), aw_1 (List.mem_of_getElem? (i := 11) rfl), ⟨aw_7 (List.mem_of_getElem? (i := 160) rfl), aw_7 (List.mem_of_getElem? (i := 161) rfl)⟩⟩
set_option maxRecDepth 20000 in
theorem ay_259 : am_yP 259 := ⟨aw_7 (List.mem_of_getElem? (i := 166) rfl), aw_1 (List.mem_of_getElem? (i := 11) rfl), ⟨aw_7 (List.mem_of_getElem? (i := 165) rfl), ap_6 (List.mem_map.mpr ⟨_, List.mem_of_getElem? (i := 8) rfl, rfl⟩)⟩⟩
set_option maxRecDepth 20000 in
theorem ay_260 : am_yP 260 := ⟨aw_7 (List.mem_of_getElem? (i := 170) rfl), aw_1 (List.mem_of_getElem? (i := 11) rfl), ⟨aw_7 (List.mem_of_getElem? (i := 169) rfl), ap_6 (List.mem_map.mpr ⟨_, List.mem_of_getElem? (i := 9) rfl, rfl⟩)⟩⟩
set_option maxRecDepth 20000 in
theorem ay_261 : am_yP 261 := ⟨aw_7 (List.mem_of_getElem? (i := 174) rfl), aw_1 (List.mem_of_getElem? (i := 11) rfl), ⟨aw_7 (List.mem_of_getElem? (i := 172) rfl), aw_7 (List.mem_of_getElem? (i := 173) rfl)⟩⟩
set_option maxRecDepth 20000 in
theorem ay_262 : am_yP 262 := ⟨aw_7 (List.mem_of_getElem? (i := 178) rfl), aw_1 (List.mem_of_getElem? (i := 11) rfl), ⟨aw_7 (List.mem_of_getElem? (i := 176) rfl), aw_7 (List.mem_of_getElem? (i := 177) rfl)⟩⟩
set_option maxRecDepth 20000 in
theorem ay_263 : am_yP 263 := ⟨aw_7 (List.mem_of_getElem? (i := 182) rfl), aw_1 (List.mem_of_getElem? (i := 11) rfl), ⟨aw_7 (List.mem_of_getElem? (i := 181) rfl), ap_6 (List.mem_map.mpr ⟨_, List.mem_of_getElem? (i := 10) rfl, rfl⟩)⟩⟩
set_option maxRecDepth 20000 in
theorem ay_264 : am_yP 264 := ⟨aw_7 (List.mem_of_getElem? (i := 186) rfl), aw_1 (List.mem_of_getElem? (i := 11) rfl), ⟨aw_7 (List.mem_of_getElem? (i := 184) rfl), aw_7 (List.mem_of_getElem? (i := 185) rfl)⟩⟩
set_option maxRecDepth 20000 in
theorem ay_265 : am_yP 265 := ⟨aw_7 (List.mem_of_getElem? (i := 190) rfl), aw_1 (List.mem_of_getElem? (i := 11) rfl), ⟨aw_7 (List.mem_of_getElem? (i := 189) rfl), ap_6 (List.mem_map.mpr ⟨_, List.mem_of_getElem? (i := 11) rfl, rfl⟩)⟩⟩
set_option maxRecDepth 20000 in
theorem ay_266 : am_yP 266 := ⟨aw_7 (List.mem_of_getElem? (i := 194) rfl), aw_1 (List.mem_of_getElem? (i := 11) rfl), ⟨aw_7 (List.mem_of_getElem? (i := 193) rfl), ap_6 (List.mem_map.mpr ⟨_, List.mem_of_getElem? (i := 12) rfl, rfl⟩)⟩⟩
set_option maxRecDepth 20000 in
theorem ay_267 : am_yP 267 := ⟨aw_7 (List.mem_of_getElem? (i := 198) rfl), aw_1 (List.mem_of_getElem? (i := 11) rfl), ⟨aw_7 (List.mem_of_getElem? (i := 196) rfl), aw_7 (List.mem_of_getElem? (i := 197) rfl)⟩⟩
set_option maxRecDepth 20000 in
theorem ay_268 : am_yP 268 := ⟨aw_7 (List.mem_of_getElem? (i := 202) rfl), aw_1 (List.mem_of_getElem? (i := 11) rfl), ⟨aw_7 (List.mem_of_getElem? (i := 200) rfl), aw_7 (List.mem_of_getElem? (i := 201) rfl)⟩⟩
set_option maxRecDepth 20000 in
theorem ay_269 : am_yP 269 := ⟨aw_7 (List.mem_of_getElem? (i := 206) rfl), aw_1 (List.mem_of_getElem? (i := 11) rfl), ⟨aw_7 (List.mem_of_getElem? (i := 204) rfl), aw_7 (List.mem_of_getElem? (i := 205) rfl)⟩⟩
set_option maxRecDepth 20000 in
theorem ay_270 : am_yP 270 := ⟨aw_7 (List.mem_of_getElem? (i := 210) rfl), aw_1 (List.mem_of_getElem? (i := 11) rfl), ⟨aw_7 (List.mem_of_getElem? (i := 209) rfl), ap_6 (List.mem_map.mpr ⟨_, List.mem_of_getElem? (i := 13) rfl, rfl⟩)⟩⟩
set_option maxRecDepth 20000 in
theorem ay_271 : am_yP 271 := ⟨aw_7 (List.mem_of_getElem? (i := 214) rfl), aw_1 (List.mem_of_getElem? (i := 11) rfl), ⟨aw_7 (List.mem_of_getElem? (i := 212) rfl), aw_7 (List.mem_of_getElem? (i := 213) rfl)⟩⟩
set_option maxRecDepth 20000 in
theorem ay_272 : am_yP 272 := ⟨aw_7 (List.mem_of_getElem? (i := 218) rfl), aw_1 (List.mem_of_getElem? (i := 11) rfl), ⟨aw_7 (List.mem_of_getElem? (i := 217) rfl), ap_6 (List.mem_map.mpr ⟨_, List.mem_of_getElem? (i := 14) rfl, rfl⟩)⟩⟩
set_option maxRecDepth 20000 in
theorem ay_273 : am_yP 273 := ⟨aw_7 (List.mem_of_getElem? (i := 222) rfl), aw_1 (List.mem_of_getElem? (i := 11) rfl), ⟨aw_7 (List.mem_of_getElem? (i := 221) rfl), ap_6 (List.mem_map.mpr ⟨_, List.mem_of_getElem? (i := 15) rfl, rfl⟩)⟩⟩
set_option maxRecDepth 20000 in
theorem ay_274 : am_yP 274 := ⟨aw_7 (List.mem_of_getElem? (i := 226) rfl), aw_1 (List.mem_of_getElem? (i := 11) rfl), ⟨aw_7 (List.mem_of_getElem? (i := 225) rfl), ap_7 (List.mem_map.mpr ⟨_, List.mem_of_getElem? (i := 0) rfl, rfl⟩)⟩⟩
set_option maxRecDepth 20000 in
theorem ay_275 : am_yP 275 := ⟨aw_7 (List.mem_of_getElem? (i := 230) rfl), aw_1 (List.mem_of_getElem? (i := 11) rfl), ⟨aw_7 (List.mem_of_getElem? (i := 229) rfl), ap_7 (List.mem_map.mpr ⟨_, List.mem_of_getElem? (i := 1) rfl, rfl⟩)⟩⟩
set_option maxRecDepth 20000 in
theorem ay_276 : am_yP 276 := ⟨aw_7 (List.mem_of_getElem? (i := 234) rfl), aw_1 (List.mem_of_getElem? (i := 11) rfl), ⟨aw_7 (List.mem_of_getElem? (i := 233) rfl), ap_7 (List.mem_map.mpr ⟨_, List.mem_of_getElem? (i := 2) rfl, rfl⟩)⟩⟩
set_option maxRecDepth 20000 in
theorem ay_277 : am_yP 277 := ⟨aw_7 (List.mem_of_getElem? (i := 238) rfl), aw_1 (List.mem_of_getElem? (i := 11) rfl), ⟨aw_7 (List.mem_of_getElem? (i := 236) rfl), aw_7 (List.mem_of_getElem? (i := 237) rfl)⟩⟩
set_option maxRecDepth 20000 in
theorem ay_278 : am_yP 278 := ⟨aw_8 (List.mem_of_getElem? (i := 2) rfl), aw_1 (List.mem_of_getElem? (i := 11) rfl), ⟨aw_8 (List.mem_of_getElem? (i := 0) rfl), aw_8 (List.mem_of_getElem? (i := 1) rfl)⟩⟩
set_option maxRecDepth 20000 in
theorem ay_279 : am_yP 279 := ⟨aw_8 (List.mem_of_getElem? (i := 6) rfl), aw_1 (List.mem_of_getElem? (i := 11) rfl), ⟨aw_8 (List.mem_of_getElem? (i := 4) rfl), aw_8 (List.mem_of_getElem? (i := 5) rfl)⟩⟩
set_option maxRecDepth 20000 in
theorem ay_280 : am_yP 280 := ⟨aw_8 (List.mem_of_getElem? (i := 10) rfl), aw_1 (List.mem_of_getElem? (i := 11) rfl), ⟨aw_8 (List.mem_of_getElem? (i := 9) rfl), ap_7 (List.mem_map.mpr ⟨_, List.mem_of_getElem? (i := 3) rfl, rfl⟩)⟩⟩
set_option maxRecDepth 20000 in
theorem ay_281 : am_yP 281 := ⟨aw_8 (List.mem_of_getElem? (i := 14) rfl), aw_1 (List.mem_of_getElem? (i := 11) rfl), ⟨aw_8 (List.mem_of_getElem? (i := 12) rfl), aw_8 (List.mem_of_getElem? (i := 13) rfl)⟩⟩
set_option maxRecDepth 20000 in
theorem ay_282 : am_yP 282 := ⟨aw_8 (List.mem_of_getElem? (i := 18) rfl), aw_1 (List.mem_of_getElem? (i := 11) rfl), ⟨aw_8 (List.mem_of_getElem? (i := 17) rfl), ap_7 (List.mem_map.mpr ⟨_, List.mem_of_getElem? (i := 4) rfl, rfl⟩)⟩⟩
set_option maxRecDepth 20000 in
theorem ay_283 : am_yP 283 := ⟨aw_8 (List.mem_of_getElem? (i := 22) rfl), aw_1 (List.mem_of_getElem? (i := 11) rfl), ⟨aw_8 (List.mem_of_getElem? (i := 20) rfl), aw_8 (List.mem_of_getElem? (i := 21) rfl)⟩⟩
set_option maxRecDepth 20000 in
theorem ay_284 : am_yP 284 := ⟨aw_8 (List.mem_of_getElem? (i := 26) rfl), aw_1 (List.mem_of_getElem? (i := 11) rfl), ⟨aw_8 (List.mem_of_getElem? (i := 24) rfl), aw_8 (List.mem_of_getElem? (i := 25) rfl)⟩⟩
set_option maxRecDepth 20000 in
theorem ay_285 : am_yP 285 := ⟨aw_8 (List.mem_of_getElem? (i := 30) rfl), aw_1 (List.mem_of_getElem? (i := 11) rfl), ⟨aw_8 (List.mem_of_getElem? (i := 28) rfl), aw_8 (List.mem_of_getElem? (i := 29) rfl)⟩⟩
set_option maxRecDepth 20000 in
theorem ay_286 : am_yP 286 := ⟨aw_8 (List.mem_of_getElem? (i := 34) rfl), aw_1 (List.mem_of_getElem? (i := 11) rfl), ⟨aw_8 (List.mem_of_getElem? (i := 33) rfl), ap_7 (List.mem_map.mpr ⟨_, List.mem_of_getElem? (i := 5) rfl, rfl⟩)⟩⟩
set_option maxRecDepth 20000 in
theorem ay_287 : am_yP 287 := ⟨aw_8 (List.mem_of_getElem? (i := 41) rfl), aw_1 (List.mem_of_getElem? (i := 11) rfl), ⟨aw_8 (List.mem_of_getElem? (i := 39) rfl), aw_8 (List.mem_of_getElem? (i := 40) rfl)⟩⟩
set_option maxRecDepth 20000 in
theorem ay_288 : am_yP 288 := ⟨aw_8 (List.mem_of_getElem? (i := 45) rfl), aw_1 (List.mem_of_getElem? (i := 11) rfl), ⟨aw_8 (List.mem_of_getElem? (i := 43) rfl), aw_8 (List.mem_of_getElem? (i := 44) rfl)⟩⟩
set_option maxRecDepth 20000 in
theorem ay_289 : am_yP 289 := ⟨aw_8 (List.mem_of_getElem? (i := 49) rfl), aw_1 (List.mem_of_getElem? (i := 11) rfl), ⟨aw_8 (List.mem_of_getElem? (i := 47) rfl), aw_8 (List.mem_of_getElem? (i := 48) rfl)⟩⟩
set_option maxRecDepth 20000 in
theorem ay_290 : am_yP 290 := ⟨aw_3 (List.mem_of_getElem? (i := 45) rfl), aw_1 (List.mem_of_getElem? (i := 13) rfl), aw_3 (List.mem_of_getElem? (i := 44) rfl)⟩
set_option maxRecDepth 20000 in
theorem ay_291 : am_yP 291 := ⟨aw_3 (List.mem_of_getElem? (i := 105) rfl), aw_1 (List.mem_of_getElem? (i := 13) rfl), aw_3 (List.mem_of_getElem? (i := 104) rfl)⟩
set_option maxRecDepth 20000 in
theorem ay_292 : am_yP 292 := ⟨aw_3 (List.mem_of_getElem? (i := 188) rfl), aw_1 (List.mem_of_getElem? (i := 17) rfl), aw_3 (List.mem_of_getElem? (i := 187) rfl)⟩
set_option maxRecDepth 20000 in
theorem ay_293 : am_yP 293 := ⟨aw_4 (List.mem_of_getElem? (i := 127) rfl), aw_1 (List.mem_of_getElem? (i := 17) rfl), aw_4 (List.mem_of_getElem? (i := 126) rfl)⟩
theorem az_0 : ∀ y ∈ [0, 1, 2, 3, 4, 5, 6, 7, 8, 9, 10, 11, 12, 13, 14, 15], am_yP y := List.forall_mem_cons.mpr ⟨ay_0, List.forall_mem_cons.mpr ⟨ay_1, List.forall_mem_cons.mpr ⟨ay_2, List.forall_mem_cons.mpr ⟨ay_3, List.forall_mem_cons.mpr ⟨ay_4, List.forall_mem_cons.mpr ⟨ay_5, List.forall_mem_cons.mpr ⟨ay_6, List.forall_mem_cons.mpr ⟨ay_7, List.forall_mem_cons.mpr ⟨ay_8, List.forall_mem_cons.mpr ⟨ay_9, List.forall_mem_cons.mpr ⟨ay_10, List.forall_mem_cons.mpr ⟨ay_11, List.forall_mem_cons.mpr ⟨ay_12, List.forall_mem_cons.mpr ⟨ay_13, List.forall_mem_cons.mpr ⟨ay_14, List.forall_mem_cons.mpr ⟨ay_15, fun _ h => absurd h List.not_mem_nil⟩⟩⟩⟩⟩⟩⟩⟩⟩⟩⟩⟩⟩⟩⟩⟩
theorem az_1 : ∀ y ∈ [16, 17, 18, 19, 20, 21, 22, 23, 24, 25, 26, 27, 28, 29, 30, 31], am_yP y := List.forall_mem_cons.mpr ⟨ay_16, List.forall_mem_cons.mpr ⟨ay_17, List.forall_mem_cons.mpr ⟨ay_18, List.forall_mem_cons.mpr ⟨ay_19, List.forall_mem_cons.mpr ⟨ay_20, List.forall_mem_cons.mpr ⟨ay_21, List.forall_mem_cons.mpr ⟨ay_22, List.forall_mem_cons.mpr ⟨ay_23, List.forall_mem_cons.mpr ⟨ay_24, List.forall_mem_cons.mpr ⟨ay_25, List.forall_mem_cons.mpr ⟨ay_26, List.forall_mem_cons.mpr ⟨ay_27, List.forall_mem_cons.mpr ⟨ay_28, List.forall_mem_cons.mpr ⟨ay_29, List.forall_mem_cons.mpr ⟨ay_30, List.forall_mem_cons.mpr ⟨ay_31, fun _ h => absurd h List.not_mem_nil⟩⟩⟩⟩⟩⟩⟩⟩⟩⟩⟩⟩⟩⟩⟩⟩
theorem az_2 : ∀ y ∈ [32, 33, 34, 35, 36, 37, 38, 39, 40, 41, 42, 43, 44, 45, 46, 47], am_yP y := List.forall_mem_cons.mpr ⟨ay_32, List.forall_mem_cons.mpr ⟨ay_33, List.forall_mem_cons.mpr ⟨ay_34, List.forall_mem_cons.mpr ⟨ay_35, List.forall_mem_cons.mpr ⟨ay_36, List.forall_mem_cons.mpr ⟨ay_37, List.forall_mem_cons.mpr ⟨ay_38, List.forall_mem_cons.mpr ⟨ay_39, List.forall_mem_cons.mpr ⟨ay_40, List.forall_mem_cons.mpr ⟨ay_41, List.forall_mem_cons.mpr ⟨ay_42, List.forall_mem_cons.mpr ⟨ay_43, List.forall_mem_cons.mpr ⟨ay_44, List.forall_mem_cons.mpr ⟨ay_45, List.forall_mem_cons.mpr ⟨ay_46, List.forall_mem_cons.mpr ⟨ay_47, fun _ h => absurd h List.not_mem_nil⟩⟩⟩⟩⟩⟩⟩⟩⟩⟩⟩⟩⟩⟩⟩⟩
theorem az_3 : ∀ y ∈ [48, 49, 50, 51, 52, 53, 54, 55, 56, 57, 58, 59, 60, 61, 62, 63], am_yP y := List.forall_mem_cons.mpr ⟨ay_48, List.forall_mem_cons.mpr ⟨ay_49, List.forall_mem_cons.mpr ⟨ay_50, List.forall_mem_cons.mpr ⟨ay_51, List.forall_mem_cons.mpr ⟨ay_52, List.forall_mem_cons.mpr ⟨ay_53, List.forall_mem_cons.mpr ⟨ay_54, List.forall_mem_cons.mpr ⟨ay_55, List.forall_mem_cons.mpr ⟨ay_56, List.forall_mem_cons.mpr ⟨ay_57, List.forall_mem_cons.mpr ⟨ay_58, List.forall_mem_cons.mpr ⟨ay_59, List.forall_mem_cons.mpr ⟨ay_60, List.forall_mem_cons.mpr ⟨ay_61, List.forall_mem_cons.mpr ⟨ay_62, List.forall_mem_cons.mpr ⟨ay_63, fun _ h => absurd h List.not_mem_nil⟩⟩⟩⟩⟩⟩⟩⟩⟩⟩⟩⟩⟩⟩⟩⟩
theorem az_4 : ∀ y ∈ [64, 65, 66, 67, 68, 69, 70, 71, 72, 73, 74, 75, 76, 77, 78, 79], am_yP y := List.forall_mem_cons.mpr ⟨ay_64, List.forall_mem_cons.mpr ⟨ay_65, List.forall_mem_cons.mpr ⟨ay_66, List.forall_mem_cons.mpr ⟨ay_67, List.forall_mem_cons.mpr ⟨ay_68, List.forall_mem_cons.mpr ⟨ay_69, List.forall_mem_cons.mpr ⟨ay_70, List.forall_mem_cons.mpr ⟨ay_71, List.forall_mem_cons.mpr ⟨ay_72, List.forall_mem_cons.mpr ⟨ay_73, List.forall_mem_cons.mpr ⟨ay_74, List.forall_mem_cons.mpr ⟨ay_75, List.forall_mem_cons.mpr ⟨ay_76, List.forall_mem_cons.mpr ⟨ay_77, List.forall_mem_cons.mpr ⟨ay_78, List.forall_mem_cons.mpr ⟨ay_79, fun _ h => absurd h List.not_mem_nil⟩⟩⟩⟩⟩⟩⟩⟩⟩⟩⟩⟩⟩⟩⟩⟩
theorem az_5 : ∀ y ∈ [80, 81, 82, 83, 84, 85, 86, 87, 88, 89, 90, 91, 92, 93, 94, 95], am_yP y := List.forall_mem_cons.mpr ⟨ay_80, List.forall_mem_cons.mpr ⟨ay_81, List.forall_mem_cons.mpr ⟨ay_82, List.forall_mem_cons.mpr ⟨ay_83, List.forall_mem_cons.mpr ⟨ay_84, List.forall_mem_cons.mpr ⟨ay_85, List.forall_mem_cons.mpr ⟨ay_86, List.forall_mem_cons.mpr ⟨ay_87, List.forall_mem_cons.mpr ⟨ay_88, List.forall_mem_cons.mpr ⟨ay_89, List.forall_mem_cons.mpr ⟨ay_90, List.forall_mem_cons.mpr ⟨ay_91, List.forall_mem_cons.mpr ⟨ay_92, List.forall_mem_cons.mpr ⟨ay_93, List.forall_mem_cons.mpr ⟨ay_94, List.forall_mem_cons.mpr ⟨ay_95, fun _ h => absurd h List.not_mem_nil⟩⟩⟩⟩⟩⟩⟩⟩⟩⟩⟩⟩⟩⟩⟩⟩
theorem az_6 : ∀ y ∈ [96, 97, 98, 99, 100, 101, 102, 103, 104, 105, 106, 107, 108, 109, 110, 111], am_yP y := List.forall_mem_cons.mpr ⟨ay_96, List.forall_mem_cons.mpr ⟨ay_97, List.forall_mem_cons.mpr ⟨ay_98, List.forall_mem_cons.mpr ⟨ay_99, List.forall_mem_cons.mpr ⟨ay_100, List.forall_mem_cons.mpr ⟨ay_101, List.forall_mem_cons.mpr ⟨ay_102, List.forall_mem_cons.mpr ⟨ay_103, List.forall_mem_cons.mpr ⟨ay_104, List.forall_mem_cons.mpr ⟨ay_105, List.forall_mem_cons.mpr ⟨ay_106, List.forall_mem_cons.mpr ⟨ay_107, List.forall_mem_cons.mpr ⟨ay_108, List.forall_mem_cons.mpr ⟨ay_109, List.forall_mem_cons.mpr ⟨ay_110, List.forall_mem_cons.mpr ⟨ay_111, fun _ h => absurd h List.not_mem_nil⟩⟩⟩⟩⟩⟩⟩⟩⟩⟩⟩⟩⟩⟩⟩⟩
theorem az_7 : ∀ y ∈ [112, 113, 114, 115, 116, 117, 118, 119, 120, 121, 122, 123, 124, 125, 126, 127], am_yP y := List.forall_mem_cons.mpr ⟨ay_112, List.forall_mem_cons.mpr ⟨ay_113, List.forall_mem_cons.mpr ⟨ay_114, List.forall_mem_cons.mpr ⟨ay_115, List.forall_mem_cons.mpr ⟨ay_116, List.forall_mem_cons.mpr ⟨ay_117, List.forall_mem_cons.mpr ⟨ay_118, List.forall_mem_cons.mpr ⟨ay_119, List.forall_mem_cons.mpr ⟨ay_120, List.forall_mem_cons.mpr ⟨ay_121, List.forall_mem_cons.mpr ⟨ay_122, List.forall_mem_cons.mpr ⟨ay_123, List.forall_mem_cons.mpr ⟨ay_124, List.forall_mem_cons.mpr ⟨ay_125, List.forall_mem_cons.mpr ⟨ay_126, List.forall_mem_cons.mpr ⟨ay_127, fun _ h => absurd h List.not_mem_nil⟩⟩⟩⟩⟩⟩⟩⟩⟩⟩⟩⟩⟩⟩⟩⟩
theorem az_8 : ∀ y ∈ [128, 129, 130, 131, 132, 133, 134, 135, 136, 137, 138, 139, 140, 141, 142, 143], am_yP y := List.forall_mem_cons.mpr ⟨ay_128, List.forall_mem_cons.mpr ⟨ay_129, List.forall_mem_cons.mpr ⟨ay_130, List.forall_mem_cons.mpr ⟨ay_131, List.forall_mem_cons.mpr ⟨ay_132, List.forall_mem_cons.mpr ⟨ay_133, List.forall_mem_cons.mpr ⟨ay_134, List.forall_mem_cons.mpr ⟨ay_135, List.forall_mem_cons.mpr ⟨ay_136, List.forall_mem_cons.mpr ⟨ay_137, List.forall_mem_cons.mpr ⟨ay_138, List.forall_mem_cons.mpr ⟨ay_139, List.forall_mem_cons.mpr ⟨ay_140, List.forall_mem_cons.mpr ⟨ay_141, List.forall_mem_cons.mpr ⟨ay_142, List.forall_mem_cons.mpr ⟨ay_143, fun _ h => absurd h List.not_mem_nil⟩⟩⟩⟩⟩⟩⟩⟩⟩⟩⟩⟩⟩⟩⟩⟩
theorem az_9 : ∀ y ∈ [144, 145, 146, 147, 148, 149, 150, 151, 152, 153, 154, 155, 156, 157, 158, 159], am_yP y := List.forall_mem_cons.mpr ⟨ay_144, List.forall_mem_cons.mpr ⟨ay_145, List.forall_mem_cons.mpr ⟨ay_146, List.forall_mem_cons.mpr ⟨ay_147, List.forall_mem_cons.mpr ⟨ay_148, List.forall_mem_cons.mpr ⟨ay_149, List.forall_mem_cons.mpr ⟨ay_150, List.forall_mem_cons.mpr ⟨ay_151, List.forall_mem_cons.mpr ⟨ay_152, List.forall_mem_cons.mpr ⟨ay_153, List.forall_mem_cons.mpr ⟨ay_154, List.forall_mem_cons.mpr ⟨ay_155, List.forall_mem_cons.mpr ⟨ay_156, List.forall_mem_cons.mpr ⟨ay_157, List.forall_mem_cons.mpr ⟨ay_158, List.forall_mem_cons.mpr ⟨ay_159, fun _ h => absurd h List.not_mem_nil⟩⟩⟩⟩⟩⟩⟩⟩⟩⟩⟩⟩⟩⟩⟩⟩
theorem az_10 : ∀ y ∈ [160, 161, 162, 163, 164, 165, 166, 167, 168, 169, 170, 171, 172, 173, 174, 175], am_yP y := List.forall_mem_cons.mpr ⟨ay_160, List.forall_mem_cons.mpr ⟨ay_161, List.forall_mem_cons.mpr ⟨ay_162, List.forall_mem_cons.mpr ⟨ay_163, List.forall_mem_cons.mpr ⟨ay_164, List.forall_mem_cons.mpr ⟨ay_165, List.forall_mem_cons.mpr ⟨ay_166, List.forall_mem_cons.mpr ⟨ay_167, List.forall_mem_cons.mpr ⟨ay_168, List.forall_mem_cons.mpr ⟨ay_169, List.forall_mem_cons.mpr ⟨ay_170, List.forall_mem_cons.mpr ⟨ay_171, List.forall_mem_cons.mpr ⟨ay_172, List.forall_mem_cons.mpr ⟨ay_173, List.forall_mem_cons.mpr ⟨ay_174, List.forall_mem_cons.mpr ⟨ay_175, fun _ h => absurd h List.not_mem_nil⟩⟩⟩⟩⟩⟩⟩⟩⟩⟩⟩⟩⟩⟩⟩⟩
theorem az_11 : ∀ y ∈ [176, 177, 178, 179, 180, 181, 182, 183, 184, 185, 186, 187, 188, 189, 190, 191], am_yP y := List.forall_mem_cons.mpr ⟨ay_176, List.forall_mem_cons.mpr ⟨ay_177, List.forall_mem_cons.mpr ⟨ay_178, List.forall_mem_cons.mpr ⟨ay_179, List.forall_mem_cons.mpr ⟨ay_180, List.forall_mem_cons.mpr ⟨ay_181, List.forall_mem_cons.mpr ⟨ay_182, List.forall_mem_cons.mpr ⟨ay_183, List.forall_mem_cons.mpr ⟨ay_184, List.forall_mem_cons.mpr ⟨ay_185, List.forall_mem_cons.mpr ⟨ay_186, List.forall_mem_cons.mpr ⟨ay_187, List.forall_mem_cons.mpr ⟨ay_188, List.forall_mem_cons.mpr ⟨ay_189, List.forall_mem_cons.mpr ⟨ay_190, List.forall_mem_cons.mpr ⟨ay_191, fun _ h => absurd h List.not_mem_nil⟩⟩⟩⟩⟩⟩⟩⟩⟩⟩⟩⟩⟩⟩⟩⟩
theorem az_12 : ∀ y ∈ [192, 193, 194, 195, 196, 197, 198, 199, 200, 201, 202, 203, 204, 205, 206, 207], am_yP y := List.forall_mem_cons.mpr ⟨ay_192, List.forall_mem_cons.mpr ⟨ay_193, List.forall_mem_cons.mpr ⟨ay_194, List.forall_mem_cons.mpr ⟨ay_195, List.forall_mem_cons.mpr ⟨ay_196, List.forall_mem_cons.mpr ⟨ay_197, List.forall_mem_cons.mpr ⟨ay_198, List.forall_mem_cons.mpr ⟨ay_199, List.forall_mem_cons.mpr ⟨ay_200, List.forall_mem_cons.mpr ⟨ay_201, List.forall_mem_cons.mpr ⟨ay_202, List.forall_mem_cons.mpr ⟨ay_203, List.forall_mem_cons.mpr ⟨ay_204, List.forall_mem_cons.mpr ⟨ay_205, List.forall_mem_cons.mpr ⟨ay_206, List.forall_mem_cons.mpr ⟨ay_207, fun _ h => absurd h List.not_mem_nil⟩⟩⟩⟩⟩⟩⟩⟩⟩⟩⟩⟩⟩⟩⟩⟩
theorem az_13 : ∀ y ∈ [208, 209, 210, 211, 212, 213, 214, 215, 216, 217, 218, 219, 220, 221, 222, 223], am_yP y := List.forall_mem_cons.mpr ⟨ay_208, List.forall_mem_cons.mpr ⟨ay_209, List.forall_mem_cons.mpr ⟨ay_210, List.forall_mem_cons.mpr ⟨ay_211, List.forall_mem_cons.mpr ⟨ay_212, List.forall_mem_cons.mpr ⟨ay_213, List.forall_mem_cons.mpr ⟨ay_214, List.forall_mem_cons.mpr ⟨ay_215, List.forall_mem_cons.mpr ⟨ay_216, List.forall_mem_cons.mpr ⟨ay_217, List.forall_mem_cons.mpr ⟨ay_218, List.forall_mem_cons.mpr ⟨ay_219, List.forall_mem_cons.mpr ⟨ay_220, List.forall_mem_cons.mpr ⟨ay_221, List.forall_mem_cons.mpr ⟨ay_222, List.forall_mem_cons.mpr ⟨ay_223, fun _ h => absurd h List.not_mem_nil⟩⟩⟩⟩⟩⟩⟩⟩⟩⟩⟩⟩⟩⟩⟩⟩
theorem az_14 : ∀ y ∈ [224, 225, 226, 227, 228, 229, 230, 231, 232, 233, 234, 235, 236, 237, 238, 239], am_yP y := List.forall_mem_cons.mpr ⟨ay_224, List.forall_mem_cons.mpr ⟨ay_225, List.forall_mem_cons.mpr ⟨ay_226, List.forall_mem_cons.mpr ⟨ay_227, List.forall_mem_cons.mpr ⟨ay_228, List.forall_mem_cons.mpr ⟨ay_229, List.forall_mem_cons.mpr ⟨ay_230, List.forall_mem_cons.mpr ⟨ay_231, List.forall_mem_cons.mpr ⟨ay_232, List.forall_mem_cons.mpr ⟨ay_233, List.forall_mem_cons.mpr ⟨ay_234, List.forall_mem_cons.mpr ⟨ay_235, List.forall_mem_cons.mpr ⟨ay_236, List.forall_mem_cons.mpr ⟨ay_237, List.forall_mem_cons.mpr ⟨ay_238, List.forall_mem_cons.mpr ⟨ay_239, fun _ h => absurd h List.not_mem_nil⟩⟩⟩⟩⟩⟩⟩⟩⟩⟩⟩⟩⟩⟩⟩⟩
theorem az_15 : ∀ y ∈ [240, 241, 242, 243, 244, 245, 246, 247, 248, 249, 250, 251, 252, 253, 254, 255], am_yP y := List.forall_mem_cons.mpr ⟨ay_240, List.forall_mem_cons.mpr ⟨ay_241, List.forall_mem_cons.mpr ⟨ay_242, List.forall_mem_cons.mpr ⟨ay_243, List.forall_mem_cons.mpr ⟨ay_244, List.forall_mem_cons.mpr ⟨ay_245, List.forall_mem_cons.mpr ⟨ay_246, List.forall_mem_cons.mpr ⟨ay_247, List.forall_mem_cons.mpr ⟨ay_248, List.forall_mem_cons.mpr ⟨ay_249, List.forall_mem_cons.mpr ⟨ay_250, List.forall_mem_cons.mpr ⟨ay_251, List.forall_mem_cons.mpr ⟨ay_252, List.forall_mem_cons.mpr ⟨ay_253, List.forall_mem_cons.mpr ⟨ay_254, List.forall_mem_cons.mpr ⟨ay_255, fun _ h => absurd h List.not_mem_nil⟩⟩⟩⟩⟩⟩⟩⟩⟩⟩⟩⟩⟩⟩⟩⟩
theorem az_16 : ∀ y ∈ [256, 257, 258, 259, 260, 261, 262, 263, 264, 265, 266, 267, 268, 269, 270, 271], am_yP y := List.forall_mem_cons.mpr ⟨ay_256, List.forall_mem_cons.mpr ⟨ay_257, List.forall_mem_cons.mpr ⟨ay_258, List.forall_mem_cons.mpr ⟨ay_259, List.forall_mem_cons.mpr ⟨ay_260, List.forall_mem_cons.mpr ⟨ay_261, List.forall_mem_cons.mpr ⟨ay_262, List.forall_mem_cons.mpr ⟨ay_263, List.forall_mem_cons.mpr ⟨ay_264, List.forall_mem_cons.mpr ⟨ay_265, List.forall_mem_cons.mpr ⟨ay_266, List.forall_mem_cons.mpr ⟨ay_267, List.forall_mem_cons.mpr ⟨ay_268, List.forall_mem_cons.mpr ⟨ay_269, List.forall_mem_cons.mpr ⟨ay_270, List.forall_mem_cons.mpr ⟨ay_271, fun _ h => absurd h List.not_mem_nil⟩⟩⟩⟩⟩⟩⟩⟩⟩⟩⟩⟩⟩⟩⟩⟩
theorem az_17 : ∀ y ∈ [272, 273, 274, 275, 276, 277, 278, 279, 280, 281, 282, 283, 284, 285, 286, 287], am_yP y := List.forall_mem_cons.mpr ⟨ay_272, List.forall_mem_cons.mpr ⟨ay_273, List.forall_mem_cons.mpr ⟨ay_274, List.forall_mem_cons.mpr ⟨ay_275, List.forall_mem_cons.mpr ⟨ay_276, List.forall_mem_cons.mpr ⟨ay_277, List.forall_mem_cons.mpr ⟨ay_278, List.forall_mem_cons.mpr ⟨ay_279, List.forall_mem_cons.mpr ⟨ay_280, List.forall_mem_cons.mpr ⟨ay_281, List.forall_mem_cons.mpr ⟨ay_282, List.forall_mem_cons.mpr ⟨ay_283, List.forall_mem_cons.mpr ⟨ay_284, List.forall_mem_cons.mpr ⟨ay_285, List.forall_mem_cons.mpr ⟨ay_286, List.forall_mem_cons.mpr ⟨ay_287, fun _ h => absurd h List.not_mem_nil⟩⟩⟩⟩⟩⟩⟩⟩⟩⟩⟩⟩⟩⟩⟩⟩
theorem az_18 : ∀ y ∈ [288, 289, 290, 291, 292, 293], am_yP y := List.forall_mem_cons.mpr ⟨ay_288, List.forall_mem_cons.mpr ⟨ay_289, List.forall_mem_cons.mpr ⟨ay_290, List.forall_mem_cons.mpr ⟨ay_291, List.forall_mem_cons.mpr ⟨ay_292, List.forall_mem_cons.mpr ⟨ay_293, fun _ h => absurd h List.not_mem_nil⟩⟩⟩⟩⟩⟩
theorem am_yok {y : Nat} (hy : y < 294) : am_yP y := by
  by_cases h0 : y < 16
  · exact az_0 y (by simp; omega)
  by_cases h1 : y < 32
  · exact az_1 y (by simp; omega)
  by_cases h2 : y < 48
  · exact az_2 y (by simp; omega)
  by_cases h3 : y < 64
  · exact az_3 y (by simp; omega)
  by_cases h4 : y < 80
  · exact az_4 y (by simp; omega)
  by_cases h5 : y < 96
  · exact az_5 y (by simp; omega)
  by_cases h6 : y < 112
  · exact az_6 y (by simp; omega)
  by_cases h7 : y < 128
  · exact az_7 y (by simp; omega)
  by_cases h8 : y < 144
  · exact az_8 y (by simp; omega)
  by_cases h9 : y < 160
  · exact az_9 y (by simp; omega)
  by_cases h10 : y < 176
  · exact az_10 y (by simp; omega)
  by_cases h11 : y < 192
  · exact az_11 y (by simp; omega)
  by_cases h12 : y < 208
  · exact az_12 y (by simp; omega)
  by_cases h13 : y < 224
  · exact az_13 y (by simp; omega)
  by_cases h14 : y < 240
  · exact az_14 y (by simp; omega)
  by_cases h15 : y < 256
  · exact az_15 y (by simp; omega)
  by_cases h16 : y < 272
  · exact az_16 y (by simp; omega)
  by_cases h17 : y < 288
  · exact az_17 y (by simp; omega)
  by_cases h18 : y < 294
  · exact az_18 y (by simp; omega)
  · omega
def am_mlP (e : Nat × Nat × Nat × Nat × List Nat) : Prop := match e.2.2.1 with
  | 0 => (e.2.2.2.1 < 294 ∧ am_kd.getD e.2.2.2.1 3 = 0) ∧ Cond.methodLink (am_C e.1) e.2.1 (am_y e.2.2.2.1) ∈ lw_tbl
  | 1 => (e.2.2.2.1 < 294 ∧ am_kd.getD e.2.2.2.1 3 = 1) ∧ Cond.methodLink (am_C e.1) e.2.1 (am_y e.2.2.2.1) ∈ lw_tbl
  | 2 => (e.2.2.2.1 < 294 ∧ am_kd.getD e.2.2.2.1 3 = 2) ∧ Cond.methodLink (am_C e.1) e.2.1 (am_y e.2.2.2.1) ∈ lw_tbl
  | 3 => (e.2.2.2.1 < 294 ∧ am_kd.getD e.2.2.2.1 3 = 1) ∧ Cond.methodLinkNest (am_C e.1) e.2.1 (am_y e.2.2.2.1) "LoopTables" ∈ lw_tbl
  | 4 => (e.2.2.2.1 < 294 ∧ am_kd.getD e.2.2.2.1 3 = 2) ∧ Cond.methodLinkNest (am_C e.1) e.2.1 (am_y e.2.2.2.1) "LoopTables" ∈ lw_tbl
  | 6 => Cond.methodLink (am_C e.1) e.2.1 objectInit ∈ lw_tbl
  | 7 => Cond.methodLink (am_C e.1) e.2.1 arraycopyName ∈ lw_tbl
  | 8 => Cond.methodLink (am_C e.1) e.2.1 Lib.Math.max.name ∈ lw_tbl
  | 9 => Cond.methodLink (am_C e.1) e.2.1 Lib.Math.min.name ∈ lw_tbl
  | _ => False
set_option maxRecDepth 20000 in
theorem am_0 : am_mlP (13, 9, 2, 113, [122, 123, 103]) := ⟨⟨by decide, rfl⟩, aw_1 (List.mem_of_getElem? (i := 20) rfl)⟩
set_option maxRecDepth 20000 in
theorem am_1 : am_mlP (11, 1, 6, 0, [125]) := aw_1 (List.mem_of_getElem? (i := 23) rfl)
set_option maxRecDepth 20000 in
theorem am_2 : am_mlP (11, 9, 2, 80, [130, 131, 104]) := ⟨⟨by decide, rfl⟩, aw_1 (List.mem_of_getElem? (i := 28) rfl)⟩
set_option maxRecDepth 20000 in
theorem am_3 : am_mlP (9, 3, 6, 0, [133]) := aw_1 (List.mem_of_getElem? (i := 31) rfl)
set_option maxRecDepth 20000 in
theorem am_4 : am_mlP (9, 33, 4, 89, [139, 140, 105]) := ⟨⟨by decide, rfl⟩, aw_1 (List.mem_of_getElem? (i := 37) rfl)⟩
set_option maxRecDepth 20000 in
theorem am_5 : am_mlP (10, 3, 6, 0, [142]) := aw_1 (List.mem_of_getElem? (i := 40) rfl)
set_option maxRecDepth 20000 in
theorem am_6 : am_mlP (11, 26, 4, 24, [201, 202, 106]) := ⟨⟨by decide, rfl⟩, aw_1 (List.mem_of_getElem? (i := 99) rfl)⟩
set_option maxRecDepth 20000 in
theorem am_7 : am_mlP (4, 1, 6, 0, [204]) := aw_1 (List.mem_of_getElem? (i := 102) rfl)
set_option maxRecDepth 20000 in
theorem am_8 : am_mlP (11, 37, 4, 89, [234, 140, 105]) := ⟨⟨by decide, rfl⟩, aw_1 (List.mem_of_getElem? (i := 132) rfl)⟩
set_option maxRecDepth 20000 in
theorem am_9 : am_mlP (11, 47, 4, 0, [237, 238, 107]) := ⟨⟨by decide, rfl⟩, aw_1 (List.mem_of_getElem? (i := 135) rfl)⟩
set_option maxRecDepth 20000 in
theorem am_10 : am_mlP (0, 5, 6, 0, [240]) := aw_1 (List.mem_of_getElem? (i := 138) rfl)
set_option maxRecDepth 20000 in
theorem am_11 : am_mlP (11, 54, 4, 34, [265, 266, 108]) := ⟨⟨by decide, rfl⟩, aw_1 (List.mem_of_getElem? (i := 163) rfl)⟩
set_option maxRecDepth 20000 in
theorem am_12 : am_mlP (5, 3, 6, 0, [268]) := aw_1 (List.mem_of_getElem? (i := 166) rfl)
set_option maxRecDepth 20000 in
theorem am_13 : am_mlP (5, 11, 4, 89, [270, 140, 105]) := ⟨⟨by decide, rfl⟩, aw_1 (List.mem_of_getElem? (i := 168) rfl)⟩
set_option maxRecDepth 20000 in
theorem am_14 : am_mlP (5, 20, 4, 0, [272, 238, 107]) := ⟨⟨by decide, rfl⟩, aw_1 (List.mem_of_getElem? (i := 170) rfl)⟩
set_option maxRecDepth 20000 in
theorem am_15 : am_mlP (11, 61, 4, 16, [303, 304, 109]) := ⟨⟨by decide, rfl⟩, aw_1 (List.mem_of_getElem? (i := 201) rfl)⟩
set_option maxRecDepth 20000 in
theorem am_16 : am_mlP (2, 3, 6, 0, [306]) := aw_1 (List.mem_of_getElem? (i := 204) rfl)
set_option maxRecDepth 20000 in
theorem am_17 : am_mlP (11, 68, 4, 39, [331, 332, 110]) := ⟨⟨by decide, rfl⟩, aw_1 (List.mem_of_getElem? (i := 229) rfl)⟩
set_option maxRecDepth 20000 in
theorem am_18 : am_mlP (6, 3, 6, 0, [334]) := aw_1 (List.mem_of_getElem? (i := 232) rfl)
set_option maxRecDepth 20000 in
theorem am_19 : am_mlP (6, 11, 4, 89, [336, 140, 105]) := ⟨⟨by decide, rfl⟩, aw_1 (List.mem_of_getElem? (i := 234) rfl)⟩
set_option maxRecDepth 20000 in
theorem am_20 : am_mlP (11, 78, 4, 66, [361, 362, 111]) := ⟨⟨by decide, rfl⟩, aw_2 (List.mem_of_getElem? (i := 19) rfl)⟩
set_option maxRecDepth 20000 in
theorem am_21 : am_mlP (8, 3, 6, 0, [364]) := aw_2 (List.mem_of_getElem? (i := 22) rfl)
set_option maxRecDepth 20000 in
theorem am_22 : am_mlP (8, 11, 4, 89, [366, 140, 105]) := ⟨⟨by decide, rfl⟩, aw_2 (List.mem_of_getElem? (i := 24) rfl)⟩
set_option maxRecDepth 20000 in
theorem am_23 : am_mlP (11, 85, 4, 9, [399, 400, 112]) := ⟨⟨by decide, rfl⟩, aw_2 (List.mem_of_getElem? (i := 57) rfl)⟩
set_option maxRecDepth 20000 in
theorem am_24 : am_mlP (1, 1, 6, 0, [402]) := aw_2 (List.mem_of_getElem? (i := 60) rfl)
set_option maxRecDepth 20000 in
theorem am_25 : am_mlP (1, 9, 4, 89, [404, 140, 105]) := ⟨⟨by decide, rfl⟩, aw_2 (List.mem_of_getElem? (i := 62) rfl)⟩
set_option maxRecDepth 20000 in
theorem am_26 : am_mlP (13, 13, 0, 114, [468, 469, 470, 103]) := ⟨⟨by decide, rfl⟩, aw_2 (List.mem_of_getElem? (i := 126) rfl)⟩
set_option maxRecDepth 20000 in
theorem am_27 : am_mlP (11, 96, 0, 115, [472, 474, 0, 103]) := ⟨⟨by decide, rfl⟩, aw_2 (List.mem_of_getElem? (i := 130) rfl)⟩
set_option maxRecDepth 20000 in
theorem am_28 : am_mlP (13, 18, 0, 116, [476, 477, 478, 103]) := ⟨⟨by decide, rfl⟩, aw_2 (List.mem_of_getElem? (i := 134) rfl)⟩
set_option maxRecDepth 20000 in
theorem am_29 : am_mlP (13, 23, 0, 117, [480, 481, 482, 103]) := ⟨⟨by decide, rfl⟩, aw_2 (List.mem_of_getElem? (i := 138) rfl)⟩
set_option maxRecDepth 20000 in
theorem am_30 : am_mlP (11, 100, 1, 118, [484, 485, 103]) := ⟨⟨by decide, rfl⟩, aw_2 (List.mem_of_getElem? (i := 142) rfl)⟩
set_option maxRecDepth 20000 in
theorem am_31 : am_mlP (11, 104, 0, 119, [487, 489, 1, 103]) := ⟨⟨by decide, rfl⟩, aw_2 (List.mem_of_getElem? (i := 145) rfl)⟩
set_option maxRecDepth 20000 in
theorem am_32 : am_mlP (11, 108, 0, 120, [491, 493, 2, 103]) := ⟨⟨by decide, rfl⟩, aw_2 (List.mem_of_getElem? (i := 149) rfl)⟩
set_option maxRecDepth 20000 in
theorem am_33 : am_mlP (11, 119, 1, 121, [495, 496, 103]) := ⟨⟨by decide, rfl⟩, aw_2 (List.mem_of_getElem? (i := 153) rfl)⟩
set_option maxRecDepth 20000 in
theorem am_34 : am_mlP (11, 125, 7, 0, [498]) := aw_2 (List.mem_of_getElem? (i := 156) rfl)
set_option maxRecDepth 20000 in
theorem am_35 : am_mlP (11, 131, 0, 90, [501, 502, 503, 105]) := ⟨⟨by decide, rfl⟩, aw_2 (List.mem_of_getElem? (i := 159) rfl)⟩
set_option maxRecDepth 20000 in
theorem am_36 : am_mlP (10, 23, 0, 91, [505, 506, 507, 105]) := ⟨⟨by decide, rfl⟩, aw_2 (List.mem_of_getElem? (i := 163) rfl)⟩
set_option maxRecDepth 20000 in
theorem am_37 : am_mlP (10, 19, 0, 92, [509, 510, 511, 105]) := ⟨⟨by decide, rfl⟩, aw_2 (List.mem_of_getElem? (i := 167) rfl)⟩
set_option maxRecDepth 20000 in
theorem am_38 : am_mlP (11, 115, 0, 122, [513, 515, 3, 103]) := ⟨⟨by decide, rfl⟩, aw_2 (List.mem_of_getElem? (i := 171) rfl)⟩
set_option maxRecDepth 20000 in
theorem am_39 : am_mlP (11, 382, 0, 81, [517, 518, 519, 104]) := ⟨⟨by decide, rfl⟩, aw_2 (List.mem_of_getElem? (i := 175) rfl)⟩
set_option maxRecDepth 20000 in
theorem am_40 : am_mlP (9, 57, 0, 82, [521, 523, 4, 104]) := ⟨⟨by decide, rfl⟩, aw_2 (List.mem_of_getElem? (i := 179) rfl)⟩
set_option maxRecDepth 20000 in
theorem am_41 : am_mlP (9, 34, 0, 93, [525, 526, 527, 105]) := ⟨⟨by decide, rfl⟩, aw_2 (List.mem_of_getElem? (i := 183) rfl)⟩
set_option maxRecDepth 20000 in
theorem am_42 : am_mlP (10, 27, 7, 0, [529]) := aw_2 (List.mem_of_getElem? (i := 187) rfl)
set_option maxRecDepth 20000 in
theorem am_43 : am_mlP (9, 60, 0, 83, [530, 532, 5, 104]) := ⟨⟨by decide, rfl⟩, aw_2 (List.mem_of_getElem? (i := 188) rfl)⟩
set_option maxRecDepth 20000 in
theorem am_44 : am_mlP (11, 212, 0, 123, [534, 536, 6, 103]) := ⟨⟨by decide, rfl⟩, aw_2 (List.mem_of_getElem? (i := 192) rfl)⟩
set_option maxRecDepth 20000 in
theorem am_45 : am_mlP (13, 27, 0, 124, [538, 539, 540, 103]) := ⟨⟨by decide, rfl⟩, aw_2 (List.mem_of_getElem? (i := 196) rfl)⟩
set_option maxRecDepth 20000 in
theorem am_46 : am_mlP (11, 134, 0, 94, [542, 543, 544, 105]) := ⟨⟨by decide, rfl⟩, aw_2 (List.mem_of_getElem? (i := 200) rfl)⟩
set_option maxRecDepth 20000 in
theorem am_47 : am_mlP (10, 33, 0, 95, [546, 547, 548, 105]) := ⟨⟨by decide, rfl⟩, aw_2 (List.mem_of_getElem? (i := 204) rfl)⟩
set_option maxRecDepth 20000 in
theorem am_48 : am_mlP (13, 32, 0, 125, [550, 551, 552, 103]) := ⟨⟨by decide, rfl⟩, aw_2 (List.mem_of_getElem? (i := 208) rfl)⟩
set_option maxRecDepth 20000 in
theorem am_49 : am_mlP (11, 137, 0, 126, [554, 556, 7, 103]) := ⟨⟨by decide, rfl⟩, aw_2 (List.mem_of_getElem? (i := 212) rfl)⟩
set_option maxRecDepth 20000 in
theorem am_50 : am_mlP (11, 144, 0, 93, [558, 526, 527, 105]) := ⟨⟨by decide, rfl⟩, aw_2 (List.mem_of_getElem? (i := 216) rfl)⟩
set_option maxRecDepth 20000 in
theorem am_51 : am_mlP (13, 36, 0, 127, [559, 560, 561, 103]) := ⟨⟨by decide, rfl⟩, aw_2 (List.mem_of_getElem? (i := 217) rfl)⟩
set_option maxRecDepth 20000 in
theorem am_52 : am_mlP (11, 148, 0, 92, [563, 510, 511, 105]) := ⟨⟨by decide, rfl⟩, aw_2 (List.mem_of_getElem? (i := 221) rfl)⟩
set_option maxRecDepth 20000 in
theorem am_53 : am_mlP (11, 151, 0, 91, [564, 506, 507, 105]) := ⟨⟨by decide, rfl⟩, aw_2 (List.mem_of_getElem? (i := 222) rfl)⟩
set_option maxRecDepth 20000 in
theorem am_54 : am_mlP (11, 154, 0, 96, [565, 566, 567, 105]) := ⟨⟨by decide, rfl⟩, aw_2 (List.mem_of_getElem? (i := 223) rfl)⟩
set_option maxRecDepth 20000 in
theorem am_55 : am_mlP (10, 42, 0, 97, [569, 570, 571, 105]) := ⟨⟨by decide, rfl⟩, aw_2 (List.mem_of_getElem? (i := 227) rfl)⟩
set_option maxRecDepth 20000 in
theorem am_56 : am_mlP (13, 41, 0, 128, [573, 574, 575, 103]) := ⟨⟨by decide, rfl⟩, aw_2 (List.mem_of_getElem? (i := 231) rfl)⟩
set_option maxRecDepth 20000 in
theorem am_57 : am_mlP (11, 158, 0, 98, [577, 578, 579, 105]) := ⟨⟨by decide, rfl⟩, aw_2 (List.mem_of_getElem? (i := 235) rfl)⟩
set_option maxRecDepth 20000 in
theorem am_58 : am_mlP (10, 45, 0, 99, [581, 583, 8, 105]) := ⟨⟨by decide, rfl⟩, aw_2 (List.mem_of_getElem? (i := 239) rfl)⟩
set_option maxRecDepth 20000 in
theorem am_59 : am_mlP (13, 45, 0, 129, [585, 586, 587, 103]) := ⟨⟨by decide, rfl⟩, aw_3 (List.mem_of_getElem? (i := 3) rfl)⟩
set_option maxRecDepth 20000 in
theorem am_60 : am_mlP (11, 165, 0, 67, [591, 592, 593, 111]) := ⟨⟨by decide, rfl⟩, aw_3 (List.mem_of_getElem? (i := 9) rfl)⟩
set_option maxRecDepth 20000 in
theorem am_61 : am_mlP (8, 38, 0, 68, [595, 597, 9, 111]) := ⟨⟨by decide, rfl⟩, aw_3 (List.mem_of_getElem? (i := 13) rfl)⟩
set_option maxRecDepth 20000 in
theorem am_62 : am_mlP (8, 42, 0, 91, [600, 506, 507, 105]) := ⟨⟨by decide, rfl⟩, aw_3 (List.mem_of_getElem? (i := 18) rfl)⟩
set_option maxRecDepth 20000 in
theorem am_63 : am_mlP (8, 46, 0, 95, [601, 547, 548, 105]) := ⟨⟨by decide, rfl⟩, aw_3 (List.mem_of_getElem? (i := 19) rfl)⟩
set_option maxRecDepth 20000 in
theorem am_64 : am_mlP (13, 49, 0, 130, [602, 603, 604, 103]) := ⟨⟨by decide, rfl⟩, aw_3 (List.mem_of_getElem? (i := 20) rfl)⟩
set_option maxRecDepth 20000 in
theorem am_65 : am_mlP (11, 169, 0, 100, [606, 607, 608, 105]) := ⟨⟨by decide, rfl⟩, aw_3 (List.mem_of_getElem? (i := 24) rfl)⟩
set_option maxRecDepth 20000 in
theorem am_66 : am_mlP (11, 173, 0, 101, [610, 611, 612, 105]) := ⟨⟨by decide, rfl⟩, aw_3 (List.mem_of_getElem? (i := 28) rfl)⟩
set_option maxRecDepth 20000 in
theorem am_67 : am_mlP (10, 53, 0, 102, [614, 615, 616, 105]) := ⟨⟨by decide, rfl⟩, aw_3 (List.mem_of_getElem? (i := 32) rfl)⟩
set_option maxRecDepth 20000 in
theorem am_68 : am_mlP (11, 177, 0, 103, [618, 619, 620, 105]) := ⟨⟨by decide, rfl⟩, aw_3 (List.mem_of_getElem? (i := 36) rfl)⟩
set_option maxRecDepth 20000 in
theorem am_69 : am_mlP (10, 56, 3, 131, [622, 623, 103]) := ⟨⟨by decide, rfl⟩, aw_3 (List.mem_of_getElem? (i := 40) rfl)⟩
set_option maxRecDepth 20000 in
theorem am_70 : am_mlP (11, 181, 1, 290, [625, 626, 115]) := ⟨⟨by decide, rfl⟩, aw_3 (List.mem_of_getElem? (i := 43) rfl)⟩
set_option maxRecDepth 20000 in
theorem am_71 : am_mlP (13, 54, 0, 132, [631, 632, 633, 103]) := ⟨⟨by decide, rfl⟩, aw_3 (List.mem_of_getElem? (i := 49) rfl)⟩
set_option maxRecDepth 20000 in
theorem am_72 : am_mlP (11, 186, 0, 104, [635, 636, 637, 105]) := ⟨⟨by decide, rfl⟩, aw_3 (List.mem_of_getElem? (i := 53) rfl)⟩
set_option maxRecDepth 20000 in
theorem am_73 : am_mlP (13, 58, 0, 133, [639, 640, 641, 103]) := ⟨⟨by decide, rfl⟩, aw_3 (List.mem_of_getElem? (i := 57) rfl)⟩
set_option maxRecDepth 20000 in
theorem am_74 : am_mlP (11, 190, 0, 105, [643, 644, 645, 105]) := ⟨⟨by decide, rfl⟩, aw_3 (List.mem_of_getElem? (i := 61) rfl)⟩
set_option maxRecDepth 20000 in
theorem am_75 : am_mlP (13, 62, 0, 134, [647, 648, 649, 103]) := ⟨⟨by decide, rfl⟩, aw_3 (List.mem_of_getElem? (i := 65) rfl)⟩
set_option maxRecDepth 20000 in
theorem am_76 : am_mlP (11, 193, 0, 106, [651, 652, 653, 105]) := ⟨⟨by decide, rfl⟩, aw_3 (List.mem_of_getElem? (i := 69) rfl)⟩
set_option maxRecDepth 20000 in
theorem am_77 : am_mlP (10, 49, 0, 107, [655, 656, 657, 105]) := ⟨⟨by decide, rfl⟩, aw_3 (List.mem_of_getElem? (i := 73) rfl)⟩
set_option maxRecDepth 20000 in
theorem am_78 : am_mlP (11, 197, 1, 46, [659, 660, 116]) := ⟨⟨by decide, rfl⟩, aw_3 (List.mem_of_getElem? (i := 77) rfl)⟩
set_option maxRecDepth 20000 in
theorem am_79 : am_mlP (7, 33, 1, 47, [662, 663, 116]) := ⟨⟨by decide, rfl⟩, aw_3 (List.mem_of_getElem? (i := 80) rfl)⟩
set_option maxRecDepth 20000 in
theorem am_80 : am_mlP (7, 9, 0, 108, [665, 666, 667, 105]) := ⟨⟨by decide, rfl⟩, aw_3 (List.mem_of_getElem? (i := 83) rfl)⟩
set_option maxRecDepth 20000 in
theorem am_81 : am_mlP (7, 15, 1, 48, [669, 670, 116]) := ⟨⟨by decide, rfl⟩, aw_3 (List.mem_of_getElem? (i := 87) rfl)⟩
set_option maxRecDepth 20000 in
theorem am_82 : am_mlP (7, 25, 1, 49, [672, 673, 116]) := ⟨⟨by decide, rfl⟩, aw_3 (List.mem_of_getElem? (i := 90) rfl)⟩
set_option maxRecDepth 20000 in
theorem am_83 : am_mlP (7, 29, 0, 91, [675, 506, 507, 105]) := ⟨⟨by decide, rfl⟩, aw_3 (List.mem_of_getElem? (i := 93) rfl)⟩
set_option maxRecDepth 20000 in
theorem am_84 : am_mlP (7, 37, 1, 50, [676, 677, 116]) := ⟨⟨by decide, rfl⟩, aw_3 (List.mem_of_getElem? (i := 94) rfl)⟩
set_option maxRecDepth 20000 in
theorem am_85 : am_mlP (7, 40, 1, 51, [679, 680, 116]) := ⟨⟨by decide, rfl⟩, aw_3 (List.mem_of_getElem? (i := 97) rfl)⟩
set_option maxRecDepth 20000 in
theorem am_86 : am_mlP (7, 43, 1, 52, [682, 683, 116]) := ⟨⟨by decide, rfl⟩, aw_3 (List.mem_of_getElem? (i := 100) rfl)⟩
set_option maxRecDepth 20000 in
theorem am_87 : am_mlP (7, 46, 1, 291, [685, 686, 115]) := ⟨⟨by decide, rfl⟩, aw_3 (List.mem_of_getElem? (i := 103) rfl)⟩
set_option maxRecDepth 20000 in
theorem am_88 : am_mlP (11, 203, 1, 53, [689, 690, 116]) := ⟨⟨by decide, rfl⟩, aw_3 (List.mem_of_getElem? (i := 107) rfl)⟩
set_option maxRecDepth 20000 in
theorem am_89 : am_mlP (7, 52, 1, 290, [692, 626, 115]) := ⟨⟨by decide, rfl⟩, aw_3 (List.mem_of_getElem? (i := 110) rfl)⟩
set_option maxRecDepth 20000 in
theorem am_90 : am_mlP (7, 55, 1, 54, [693, 694, 116]) := ⟨⟨by decide, rfl⟩, aw_3 (List.mem_of_getElem? (i := 111) rfl)⟩
set_option maxRecDepth 20000 in
theorem am_91 : am_mlP (7, 59, 0, 95, [696, 547, 548, 105]) := ⟨⟨by decide, rfl⟩, aw_3 (List.mem_of_getElem? (i := 114) rfl)⟩
set_option maxRecDepth 20000 in
theorem am_92 : am_mlP (13, 66, 0, 135, [697, 698, 699, 103]) := ⟨⟨by decide, rfl⟩, aw_3 (List.mem_of_getElem? (i := 115) rfl)⟩
set_option maxRecDepth 20000 in
theorem am_93 : am_mlP (11, 209, 0, 84, [701, 702, 703, 104]) := ⟨⟨by decide, rfl⟩, aw_3 (List.mem_of_getElem? (i := 119) rfl)⟩
set_option maxRecDepth 20000 in
theorem am_94 : am_mlP (13, 71, 0, 136, [705, 706, 707, 103]) := ⟨⟨by decide, rfl⟩, aw_3 (List.mem_of_getElem? (i := 123) rfl)⟩
set_option maxRecDepth 20000 in
theorem am_95 : am_mlP (11, 218, 0, 85, [709, 710, 711, 104]) := ⟨⟨by decide, rfl⟩, aw_3 (List.mem_of_getElem? (i := 127) rfl)⟩
set_option maxRecDepth 20000 in
theorem am_96 : am_mlP (13, 75, 0, 137, [713, 714, 715, 103]) := ⟨⟨by decide, rfl⟩, aw_3 (List.mem_of_getElem? (i := 131) rfl)⟩
set_option maxRecDepth 20000 in
theorem am_97 : am_mlP (13, 79, 0, 138, [717, 718, 719, 103]) := ⟨⟨by decide, rfl⟩, aw_3 (List.mem_of_getElem? (i := 135) rfl)⟩
set_option maxRecDepth 20000 in
theorem am_98 : am_mlP (11, 221, 0, 102, [721, 615, 616, 105]) := ⟨⟨by decide, rfl⟩, aw_3 (List.mem_of_getElem? (i := 139) rfl)⟩
set_option maxRecDepth 20000 in
theorem am_99 : am_mlP (11, 224, 0, 97, [722, 570, 571, 105]) := ⟨⟨by decide, rfl⟩, aw_3 (List.mem_of_getElem? (i := 140) rfl)⟩
set_option maxRecDepth 20000 in
theorem am_100 : am_mlP (13, 83, 0, 139, [723, 724, 725, 103]) := ⟨⟨by decide, rfl⟩, aw_3 (List.mem_of_getElem? (i := 141) rfl)⟩
set_option maxRecDepth 20000 in
theorem am_101 : am_mlP (11, 227, 0, 107, [727, 656, 657, 105]) := ⟨⟨by decide, rfl⟩, aw_3 (List.mem_of_getElem? (i := 145) rfl)⟩
set_option maxRecDepth 20000 in
theorem am_102 : am_mlP (13, 87, 0, 140, [728, 729, 730, 103]) := ⟨⟨by decide, rfl⟩, aw_3 (List.mem_of_getElem? (i := 146) rfl)⟩
set_option maxRecDepth 20000 in
theorem am_103 : am_mlP (11, 234, 0, 25, [732, 733, 734, 106]) := ⟨⟨by decide, rfl⟩, aw_3 (List.mem_of_getElem? (i := 150) rfl)⟩
set_option maxRecDepth 20000 in
theorem am_104 : am_mlP (4, 20, 9, 0, [736]) := aw_3 (List.mem_of_getElem? (i := 154) rfl)
set_option maxRecDepth 20000 in
theorem am_105 : am_mlP (4, 41, 0, 26, [739, 741, 10, 106]) := ⟨⟨by decide, rfl⟩, aw_3 (List.mem_of_getElem? (i := 157) rfl)⟩
set_option maxRecDepth 20000 in
theorem am_106 : am_mlP (4, 76, 1, 27, [743, 744, 106]) := ⟨⟨by decide, rfl⟩, aw_3 (List.mem_of_getElem? (i := 161) rfl)⟩
set_option maxRecDepth 20000 in
theorem am_107 : am_mlP (4, 44, 0, 28, [746, 748, 11, 106]) := ⟨⟨by decide, rfl⟩, aw_3 (List.mem_of_getElem? (i := 164) rfl)⟩
set_option maxRecDepth 20000 in
theorem am_108 : am_mlP (4, 62, 0, 29, [750, 752, 12, 106]) := ⟨⟨by decide, rfl⟩, aw_3 (List.mem_of_getElem? (i := 168) rfl)⟩
set_option maxRecDepth 20000 in
theorem am_109 : am_mlP (4, 65, 0, 30, [754, 756, 13, 106]) := ⟨⟨by decide, rfl⟩, aw_3 (List.mem_of_getElem? (i := 172) rfl)⟩
set_option maxRecDepth 20000 in
theorem am_110 : am_mlP (4, 73, 0, 31, [758, 760, 14, 106]) := ⟨⟨by decide, rfl⟩, aw_3 (List.mem_of_getElem? (i := 176) rfl)⟩
set_option maxRecDepth 20000 in
theorem am_111 : am_mlP (4, 69, 0, 32, [762, 764, 15, 106]) := ⟨⟨by decide, rfl⟩, aw_3 (List.mem_of_getElem? (i := 180) rfl)⟩
set_option maxRecDepth 20000 in
theorem am_112 : am_mlP (4, 53, 1, 292, [768, 769, 119]) := ⟨⟨by decide, rfl⟩, aw_3 (List.mem_of_getElem? (i := 186) rfl)⟩
set_option maxRecDepth 20000 in
theorem am_113 : am_mlP (16, 304, 9, 0, [778]) := aw_3 (List.mem_of_getElem? (i := 196) rfl)
set_option maxRecDepth 20000 in
theorem am_114 : am_mlP (16, 150, 7, 0, [779]) := aw_3 (List.mem_of_getElem? (i := 197) rfl)
set_option maxRecDepth 20000 in
theorem am_115 : am_mlP (4, 59, 2, 23, [780, 781, 118]) := ⟨⟨by decide, rfl⟩, aw_3 (List.mem_of_getElem? (i := 198) rfl)⟩
set_option maxRecDepth 20000 in
theorem am_116 : am_mlP (3, 1, 6, 0, [783]) := aw_3 (List.mem_of_getElem? (i := 201) rfl)
set_option maxRecDepth 20000 in
theorem am_117 : am_mlP (11, 238, 0, 33, [797, 798, 799, 106]) := ⟨⟨by decide, rfl⟩, aw_3 (List.mem_of_getElem? (i := 215) rfl)⟩
set_option maxRecDepth 20000 in
theorem am_118 : am_mlP (13, 91, 0, 141, [801, 802, 803, 103]) := ⟨⟨by decide, rfl⟩, aw_3 (List.mem_of_getElem? (i := 219) rfl)⟩
set_option maxRecDepth 20000 in
theorem am_119 : am_mlP (13, 95, 0, 142, [805, 806, 807, 103]) := ⟨⟨by decide, rfl⟩, aw_3 (List.mem_of_getElem? (i := 223) rfl)⟩
set_option maxRecDepth 20000 in
theorem am_120 : am_mlP (11, 245, 0, 143, [809, 811, 16, 103]) := ⟨⟨by decide, rfl⟩, aw_3 (List.mem_of_getElem? (i := 227) rfl)⟩
set_option maxRecDepth 20000 in
theorem am_121 : am_mlP (11, 248, 0, 1, [813, 814, 815, 107]) := ⟨⟨by decide, rfl⟩, aw_3 (List.mem_of_getElem? (i := 231) rfl)⟩
set_option maxRecDepth 20000 in
theorem am_122 : am_mlP (0, 45, 8, 0, [817]) := aw_3 (List.mem_of_getElem? (i := 235) rfl)
set_option maxRecDepth 20000 in
theorem am_123 : am_mlP (11, 251, 0, 2, [820, 821, 822, 107]) := ⟨⟨by decide, rfl⟩, aw_3 (List.mem_of_getElem? (i := 238) rfl)⟩
set_option maxRecDepth 20000 in
theorem am_124 : am_mlP (0, 56, 0, 3, [824, 826, 17, 107]) := ⟨⟨by decide, rfl⟩, aw_4 (List.mem_of_getElem? (i := 2) rfl)⟩
set_option maxRecDepth 20000 in
theorem am_125 : am_mlP (0, 59, 0, 4, [828, 830, 18, 107]) := ⟨⟨by decide, rfl⟩, aw_4 (List.mem_of_getElem? (i := 6) rfl)⟩
set_option maxRecDepth 20000 in
theorem am_126 : am_mlP (0, 63, 0, 5, [832, 834, 19, 107]) := ⟨⟨by decide, rfl⟩, aw_4 (List.mem_of_getElem? (i := 10) rfl)⟩
set_option maxRecDepth 20000 in
theorem am_127 : am_mlP (0, 73, 0, 6, [836, 838, 20, 107]) := ⟨⟨by decide, rfl⟩, aw_4 (List.mem_of_getElem? (i := 14) rfl)⟩
set_option maxRecDepth 20000 in
theorem am_128 : am_mlP (0, 77, 0, 7, [840, 842, 21, 107]) := ⟨⟨by decide, rfl⟩, aw_4 (List.mem_of_getElem? (i := 18) rfl)⟩
set_option maxRecDepth 20000 in
theorem am_129 : am_mlP (13, 99, 0, 144, [844, 845, 846, 103]) := ⟨⟨by decide, rfl⟩, aw_4 (List.mem_of_getElem? (i := 22) rfl)⟩
set_option maxRecDepth 20000 in
theorem am_130 : am_mlP (11, 255, 0, 8, [848, 849, 850, 107]) := ⟨⟨by decide, rfl⟩, aw_4 (List.mem_of_getElem? (i := 26) rfl)⟩
set_option maxRecDepth 20000 in
theorem am_131 : am_mlP (13, 103, 0, 145, [852, 853, 854, 103]) := ⟨⟨by decide, rfl⟩, aw_4 (List.mem_of_getElem? (i := 30) rfl)⟩
set_option maxRecDepth 20000 in
theorem am_132 : am_mlP (11, 258, 0, 146, [856, 858, 22, 103]) := ⟨⟨by decide, rfl⟩, aw_4 (List.mem_of_getElem? (i := 34) rfl)⟩
set_option maxRecDepth 20000 in
theorem am_133 : am_mlP (11, 261, 0, 35, [860, 861, 862, 108]) := ⟨⟨by decide, rfl⟩, aw_4 (List.mem_of_getElem? (i := 38) rfl)⟩
set_option maxRecDepth 20000 in
theorem am_134 : am_mlP (11, 265, 0, 36, [864, 865, 866, 108]) := ⟨⟨by decide, rfl⟩, aw_4 (List.mem_of_getElem? (i := 42) rfl)⟩
set_option maxRecDepth 20000 in
theorem am_135 : am_mlP (5, 51, 0, 95, [868, 547, 548, 105]) := ⟨⟨by decide, rfl⟩, aw_4 (List.mem_of_getElem? (i := 46) rfl)⟩
set_option maxRecDepth 20000 in
theorem am_136 : am_mlP (5, 55, 0, 37, [869, 871, 23, 108]) := ⟨⟨by decide, rfl⟩, aw_4 (List.mem_of_getElem? (i := 47) rfl)⟩
set_option maxRecDepth 20000 in
theorem am_137 : am_mlP (5, 59, 0, 38, [873, 875, 24, 108]) := ⟨⟨by decide, rfl⟩, aw_4 (List.mem_of_getElem? (i := 51) rfl)⟩
set_option maxRecDepth 20000 in
theorem am_138 : am_mlP (5, 63, 0, 1, [877, 814, 815, 107]) := ⟨⟨by decide, rfl⟩, aw_4 (List.mem_of_getElem? (i := 55) rfl)⟩
set_option maxRecDepth 20000 in
theorem am_139 : am_mlP (5, 67, 0, 2, [878, 821, 822, 107]) := ⟨⟨by decide, rfl⟩, aw_4 (List.mem_of_getElem? (i := 56) rfl)⟩
set_option maxRecDepth 20000 in
theorem am_140 : am_mlP (13, 107, 0, 147, [879, 880, 881, 103]) := ⟨⟨by decide, rfl⟩, aw_4 (List.mem_of_getElem? (i := 57) rfl)⟩
set_option maxRecDepth 20000 in
theorem am_141 : am_mlP (13, 111, 0, 148, [883, 884, 885, 103]) := ⟨⟨by decide, rfl⟩, aw_4 (List.mem_of_getElem? (i := 61) rfl)⟩
set_option maxRecDepth 20000 in
theorem am_142 : am_mlP (11, 274, 1, 55, [887, 888, 116]) := ⟨⟨by decide, rfl⟩, aw_4 (List.mem_of_getElem? (i := 65) rfl)⟩
set_option maxRecDepth 20000 in
theorem am_143 : am_mlP (7, 69, 1, 56, [890, 891, 116]) := ⟨⟨by decide, rfl⟩, aw_4 (List.mem_of_getElem? (i := 68) rfl)⟩
set_option maxRecDepth 20000 in
theorem am_144 : am_mlP (7, 79, 1, 57, [893, 894, 116]) := ⟨⟨by decide, rfl⟩, aw_4 (List.mem_of_getElem? (i := 71) rfl)⟩
set_option maxRecDepth 20000 in
theorem am_145 : am_mlP (7, 83, 1, 58, [896, 897, 116]) := ⟨⟨by decide, rfl⟩, aw_4 (List.mem_of_getElem? (i := 74) rfl)⟩
set_option maxRecDepth 20000 in
theorem am_146 : am_mlP (7, 72, 1, 59, [899, 900, 116]) := ⟨⟨by decide, rfl⟩, aw_4 (List.mem_of_getElem? (i := 77) rfl)⟩
set_option maxRecDepth 20000 in
theorem am_147 : am_mlP (7, 76, 1, 60, [902, 903, 116]) := ⟨⟨by decide, rfl⟩, aw_4 (List.mem_of_getElem? (i := 80) rfl)⟩
set_option maxRecDepth 20000 in
theorem am_148 : am_mlP (13, 115, 0, 149, [905, 906, 907, 103]) := ⟨⟨by decide, rfl⟩, aw_4 (List.mem_of_getElem? (i := 83) rfl)⟩
set_option maxRecDepth 20000 in
theorem am_149 : am_mlP (11, 278, 1, 61, [909, 910, 116]) := ⟨⟨by decide, rfl⟩, aw_4 (List.mem_of_getElem? (i := 87) rfl)⟩
set_option maxRecDepth 20000 in
theorem am_150 : am_mlP (11, 282, 1, 62, [912, 913, 116]) := ⟨⟨by decide, rfl⟩, aw_4 (List.mem_of_getElem? (i := 90) rfl)⟩
set_option maxRecDepth 20000 in
theorem am_151 : am_mlP (13, 119, 0, 150, [915, 916, 917, 103]) := ⟨⟨by decide, rfl⟩, aw_4 (List.mem_of_getElem? (i := 93) rfl)⟩
set_option maxRecDepth 20000 in
theorem am_152 : am_mlP (11, 285, 0, 108, [919, 666, 667, 105]) := ⟨⟨by decide, rfl⟩, aw_4 (List.mem_of_getElem? (i := 97) rfl)⟩
set_option maxRecDepth 20000 in
theorem am_153 : am_mlP (11, 288, 1, 63, [920, 921, 116]) := ⟨⟨by decide, rfl⟩, aw_4 (List.mem_of_getElem? (i := 98) rfl)⟩
set_option maxRecDepth 20000 in
theorem am_154 : am_mlP (13, 123, 0, 151, [923, 924, 925, 103]) := ⟨⟨by decide, rfl⟩, aw_4 (List.mem_of_getElem? (i := 101) rfl)⟩
set_option maxRecDepth 20000 in
theorem am_155 : am_mlP (11, 291, 1, 64, [927, 928, 116]) := ⟨⟨by decide, rfl⟩, aw_4 (List.mem_of_getElem? (i := 105) rfl)⟩
set_option maxRecDepth 20000 in
theorem am_156 : am_mlP (7, 63, 1, 46, [930, 660, 116]) := ⟨⟨by decide, rfl⟩, aw_4 (List.mem_of_getElem? (i := 108) rfl)⟩
set_option maxRecDepth 20000 in
theorem am_157 : am_mlP (13, 127, 0, 152, [931, 932, 933, 103]) := ⟨⟨by decide, rfl⟩, aw_4 (List.mem_of_getElem? (i := 109) rfl)⟩
set_option maxRecDepth 20000 in
theorem am_158 : am_mlP (11, 295, 1, 65, [935, 936, 116]) := ⟨⟨by decide, rfl⟩, aw_4 (List.mem_of_getElem? (i := 113) rfl)⟩
set_option maxRecDepth 20000 in
theorem am_159 : am_mlP (7, 66, 1, 63, [938, 921, 116]) := ⟨⟨by decide, rfl⟩, aw_4 (List.mem_of_getElem? (i := 116) rfl)⟩
set_option maxRecDepth 20000 in
theorem am_160 : am_mlP (13, 131, 0, 153, [939, 940, 941, 103]) := ⟨⟨by decide, rfl⟩, aw_4 (List.mem_of_getElem? (i := 117) rfl)⟩
set_option maxRecDepth 20000 in
theorem am_161 : am_mlP (11, 298, 0, 69, [943, 944, 945, 111]) := ⟨⟨by decide, rfl⟩, aw_4 (List.mem_of_getElem? (i := 121) rfl)⟩
set_option maxRecDepth 20000 in
theorem am_162 : am_mlP (8, 98, 1, 293, [947, 948, 119]) := ⟨⟨by decide, rfl⟩, aw_4 (List.mem_of_getElem? (i := 125) rfl)⟩
set_option maxRecDepth 20000 in
theorem am_163 : am_mlP (8, 50, 3, 154, [950, 951, 103]) := ⟨⟨by decide, rfl⟩, aw_4 (List.mem_of_getElem? (i := 128) rfl)⟩
set_option maxRecDepth 20000 in
theorem am_164 : am_mlP (8, 107, 0, 70, [953, 955, 25, 111]) := ⟨⟨by decide, rfl⟩, aw_4 (List.mem_of_getElem? (i := 131) rfl)⟩
set_option maxRecDepth 20000 in
theorem am_165 : am_mlP (8, 117, 0, 71, [957, 959, 26, 111]) := ⟨⟨by decide, rfl⟩, aw_4 (List.mem_of_getElem? (i := 135) rfl)⟩
set_option maxRecDepth 20000 in
theorem am_166 : am_mlP (8, 121, 1, 290, [961, 626, 115]) := ⟨⟨by decide, rfl⟩, aw_4 (List.mem_of_getElem? (i := 139) rfl)⟩
set_option maxRecDepth 20000 in
theorem am_167 : am_mlP (8, 110, 0, 72, [962, 964, 27, 111]) := ⟨⟨by decide, rfl⟩, aw_4 (List.mem_of_getElem? (i := 140) rfl)⟩
set_option maxRecDepth 20000 in
theorem am_168 : am_mlP (8, 114, 0, 73, [966, 968, 28, 111]) := ⟨⟨by decide, rfl⟩, aw_4 (List.mem_of_getElem? (i := 144) rfl)⟩
set_option maxRecDepth 20000 in
theorem am_169 : am_mlP (13, 135, 0, 155, [970, 971, 972, 103]) := ⟨⟨by decide, rfl⟩, aw_4 (List.mem_of_getElem? (i := 148) rfl)⟩
set_option maxRecDepth 20000 in
theorem am_170 : am_mlP (11, 302, 1, 156, [974, 975, 103]) := ⟨⟨by decide, rfl⟩, aw_4 (List.mem_of_getElem? (i := 152) rfl)⟩
set_option maxRecDepth 20000 in
theorem am_171 : am_mlP (11, 305, 0, 40, [977, 978, 979, 110]) := ⟨⟨by decide, rfl⟩, aw_4 (List.mem_of_getElem? (i := 155) rfl)⟩
set_option maxRecDepth 20000 in
theorem am_172 : am_mlP (6, 41, 0, 109, [981, 982, 983, 105]) := ⟨⟨by decide, rfl⟩, aw_4 (List.mem_of_getElem? (i := 159) rfl)⟩
set_option maxRecDepth 20000 in
theorem am_173 : am_mlP (6, 45, 0, 93, [985, 526, 527, 105]) := ⟨⟨by decide, rfl⟩, aw_4 (List.mem_of_getElem? (i := 163) rfl)⟩
set_option maxRecDepth 20000 in
theorem am_174 : am_mlP (6, 49, 0, 41, [986, 988, 29, 110]) := ⟨⟨by decide, rfl⟩, aw_4 (List.mem_of_getElem? (i := 164) rfl)⟩
set_option maxRecDepth 20000 in
theorem am_175 : am_mlP (6, 52, 3, 154, [990, 951, 103]) := ⟨⟨by decide, rfl⟩, aw_4 (List.mem_of_getElem? (i := 168) rfl)⟩
set_option maxRecDepth 20000 in
theorem am_176 : am_mlP (6, 56, 0, 42, [991, 993, 30, 110]) := ⟨⟨by decide, rfl⟩, aw_4 (List.mem_of_getElem? (i := 169) rfl)⟩
set_option maxRecDepth 20000 in
theorem am_177 : am_mlP (6, 81, 0, 43, [996, 998, 31, 110]) := ⟨⟨by decide, rfl⟩, aw_4 (List.mem_of_getElem? (i := 174) rfl)⟩
set_option maxRecDepth 20000 in
theorem am_178 : am_mlP (6, 70, 0, 91, [1000, 506, 507, 105]) := ⟨⟨by decide, rfl⟩, aw_4 (List.mem_of_getElem? (i := 178) rfl)⟩
set_option maxRecDepth 20000 in
theorem am_179 : am_mlP (6, 88, 0, 95, [1001, 547, 548, 105]) := ⟨⟨by decide, rfl⟩, aw_4 (List.mem_of_getElem? (i := 179) rfl)⟩
set_option maxRecDepth 20000 in
theorem am_180 : am_mlP (6, 84, 3, 157, [1002, 1003, 103]) := ⟨⟨by decide, rfl⟩, aw_4 (List.mem_of_getElem? (i := 180) rfl)⟩
set_option maxRecDepth 20000 in
theorem am_181 : am_mlP (11, 386, 1, 131, [1005, 623, 103]) := ⟨⟨by decide, rfl⟩, aw_4 (List.mem_of_getElem? (i := 183) rfl)⟩
set_option maxRecDepth 20000 in
theorem am_182 : am_mlP (6, 60, 0, 98, [1006, 578, 579, 105]) := ⟨⟨by decide, rfl⟩, aw_4 (List.mem_of_getElem? (i := 184) rfl)⟩
set_option maxRecDepth 20000 in
theorem am_183 : am_mlP (6, 63, 0, 44, [1007, 1009, 32, 110]) := ⟨⟨by decide, rfl⟩, aw_4 (List.mem_of_getElem? (i := 185) rfl)⟩
set_option maxRecDepth 20000 in
theorem am_184 : am_mlP (6, 66, 0, 96, [1011, 566, 567, 105]) := ⟨⟨by decide, rfl⟩, aw_4 (List.mem_of_getElem? (i := 189) rfl)⟩
set_option maxRecDepth 20000 in
theorem am_185 : am_mlP (6, 74, 0, 45, [1012, 1014, 33, 110]) := ⟨⟨by decide, rfl⟩, aw_4 (List.mem_of_getElem? (i := 190) rfl)⟩
set_option maxRecDepth 20000 in
theorem am_186 : am_mlP (13, 139, 0, 158, [1016, 1017, 1018, 103]) := ⟨⟨by decide, rfl⟩, aw_4 (List.mem_of_getElem? (i := 194) rfl)⟩
set_option maxRecDepth 20000 in
theorem am_187 : am_mlP (11, 309, 0, 109, [1020, 982, 983, 105]) := ⟨⟨by decide, rfl⟩, aw_4 (List.mem_of_getElem? (i := 198) rfl)⟩
set_option maxRecDepth 20000 in
theorem am_188 : am_mlP (13, 143, 0, 159, [1021, 1022, 1023, 103]) := ⟨⟨by decide, rfl⟩, aw_4 (List.mem_of_getElem? (i := 199) rfl)⟩
set_option maxRecDepth 20000 in
theorem am_189 : am_mlP (11, 312, 0, 74, [1025, 1026, 1027, 111]) := ⟨⟨by decide, rfl⟩, aw_4 (List.mem_of_getElem? (i := 203) rfl)⟩
set_option maxRecDepth 20000 in
theorem am_190 : am_mlP (8, 57, 0, 75, [1029, 1031, 34, 111]) := ⟨⟨by decide, rfl⟩, aw_4 (List.mem_of_getElem? (i := 207) rfl)⟩
set_option maxRecDepth 20000 in
theorem am_191 : am_mlP (8, 61, 3, 157, [1033, 1003, 103]) := ⟨⟨by decide, rfl⟩, aw_4 (List.mem_of_getElem? (i := 211) rfl)⟩
set_option maxRecDepth 20000 in
theorem am_192 : am_mlP (11, 315, 0, 76, [1034, 1035, 1036, 111]) := ⟨⟨by decide, rfl⟩, aw_4 (List.mem_of_getElem? (i := 212) rfl)⟩
set_option maxRecDepth 20000 in
theorem am_193 : am_mlP (8, 65, 0, 77, [1038, 1040, 35, 111]) := ⟨⟨by decide, rfl⟩, aw_4 (List.mem_of_getElem? (i := 216) rfl)⟩
set_option maxRecDepth 20000 in
theorem am_194 : am_mlP (8, 69, 0, 102, [1042, 615, 616, 105]) := ⟨⟨by decide, rfl⟩, aw_4 (List.mem_of_getElem? (i := 220) rfl)⟩
set_option maxRecDepth 20000 in
theorem am_195 : am_mlP (13, 147, 0, 160, [1043, 1044, 1045, 103]) := ⟨⟨by decide, rfl⟩, aw_4 (List.mem_of_getElem? (i := 221) rfl)⟩
set_option maxRecDepth 20000 in
theorem am_196 : am_mlP (11, 318, 0, 10, [1047, 1048, 1049, 112]) := ⟨⟨by decide, rfl⟩, aw_4 (List.mem_of_getElem? (i := 225) rfl)⟩
set_option maxRecDepth 20000 in
theorem am_197 : am_mlP (1, 24, 0, 11, [1051, 1053, 36, 112]) := ⟨⟨by decide, rfl⟩, aw_4 (List.mem_of_getElem? (i := 229) rfl)⟩
set_option maxRecDepth 20000 in
theorem am_198 : am_mlP (1, 31, 0, 91, [1055, 506, 507, 105]) := ⟨⟨by decide, rfl⟩, aw_4 (List.mem_of_getElem? (i := 233) rfl)⟩
set_option maxRecDepth 20000 in
theorem am_199 : am_mlP (11, 321, 0, 12, [1056, 1057, 1058, 112]) := ⟨⟨by decide, rfl⟩, aw_4 (List.mem_of_getElem? (i := 234) rfl)⟩
set_option maxRecDepth 20000 in
theorem am_200 : am_mlP (1, 35, 0, 10, [1060, 1048, 1049, 112]) := ⟨⟨by decide, rfl⟩, aw_4 (List.mem_of_getElem? (i := 238) rfl)⟩
set_option maxRecDepth 20000 in
theorem am_201 : am_mlP (1, 39, 0, 13, [1061, 1063, 37, 112]) := ⟨⟨by decide, rfl⟩, aw_4 (List.mem_of_getElem? (i := 239) rfl)⟩
set_option maxRecDepth 20000 in
theorem am_202 : am_mlP (11, 324, 1, 14, [1065, 1066, 112]) := ⟨⟨by decide, rfl⟩, aw_5 (List.mem_of_getElem? (i := 3) rfl)⟩
set_option maxRecDepth 20000 in
theorem am_203 : am_mlP (1, 43, 1, 15, [1068, 1069, 112]) := ⟨⟨by decide, rfl⟩, aw_5 (List.mem_of_getElem? (i := 6) rfl)⟩
set_option maxRecDepth 20000 in
theorem am_204 : am_mlP (13, 151, 0, 161, [1071, 1072, 1073, 103]) := ⟨⟨by decide, rfl⟩, aw_5 (List.mem_of_getElem? (i := 9) rfl)⟩
set_option maxRecDepth 20000 in
theorem am_205 : am_mlP (11, 327, 0, 110, [1075, 1076, 1077, 105]) := ⟨⟨by decide, rfl⟩, aw_5 (List.mem_of_getElem? (i := 13) rfl)⟩
set_option maxRecDepth 20000 in
theorem am_206 : am_mlP (10, 60, 0, 101, [1079, 611, 612, 105]) := ⟨⟨by decide, rfl⟩, aw_5 (List.mem_of_getElem? (i := 17) rfl)⟩
set_option maxRecDepth 20000 in
theorem am_207 : am_mlP (11, 330, 0, 111, [1080, 1081, 1082, 105]) := ⟨⟨by decide, rfl⟩, aw_5 (List.mem_of_getElem? (i := 18) rfl)⟩
set_option maxRecDepth 20000 in
theorem am_208 : am_mlP (10, 64, 1, 290, [1084, 626, 115]) := ⟨⟨by decide, rfl⟩, aw_5 (List.mem_of_getElem? (i := 22) rfl)⟩
set_option maxRecDepth 20000 in
theorem am_209 : am_mlP (10, 37, 8, 0, [1085]) := aw_5 (List.mem_of_getElem? (i := 23) rfl)
set_option maxRecDepth 20000 in
theorem am_210 : am_mlP (13, 155, 0, 162, [1086, 1087, 1088, 103]) := ⟨⟨by decide, rfl⟩, aw_5 (List.mem_of_getElem? (i := 24) rfl)⟩
set_option maxRecDepth 20000 in
theorem am_211 : am_mlP (13, 159, 0, 163, [1090, 1091, 1092, 103]) := ⟨⟨by decide, rfl⟩, aw_5 (List.mem_of_getElem? (i := 28) rfl)⟩
set_option maxRecDepth 20000 in
theorem am_212 : am_mlP (11, 333, 0, 78, [1094, 1095, 1096, 111]) := ⟨⟨by decide, rfl⟩, aw_5 (List.mem_of_getElem? (i := 32) rfl)⟩
set_option maxRecDepth 20000 in
theorem am_213 : am_mlP (8, 78, 0, 94, [1098, 543, 544, 105]) := ⟨⟨by decide, rfl⟩, aw_5 (List.mem_of_getElem? (i := 36) rfl)⟩
set_option maxRecDepth 20000 in
theorem am_214 : am_mlP (8, 82, 0, 79, [1099, 1101, 38, 111]) := ⟨⟨by decide, rfl⟩, aw_5 (List.mem_of_getElem? (i := 37) rfl)⟩
set_option maxRecDepth 20000 in
theorem am_215 : am_mlP (8, 89, 0, 74, [1103, 1026, 1027, 111]) := ⟨⟨by decide, rfl⟩, aw_5 (List.mem_of_getElem? (i := 41) rfl)⟩
set_option maxRecDepth 20000 in
theorem am_216 : am_mlP (8, 93, 8, 0, [1104]) := aw_5 (List.mem_of_getElem? (i := 42) rfl)
set_option maxRecDepth 20000 in
theorem am_217 : am_mlP (8, 86, 0, 112, [1105, 1106, 1107, 105]) := ⟨⟨by decide, rfl⟩, aw_5 (List.mem_of_getElem? (i := 43) rfl)⟩
set_option maxRecDepth 20000 in
theorem am_218 : am_mlP (13, 163, 0, 164, [1109, 1110, 1111, 103]) := ⟨⟨by decide, rfl⟩, aw_5 (List.mem_of_getElem? (i := 47) rfl)⟩
set_option maxRecDepth 20000 in
theorem am_219 : am_mlP (11, 348, 1, 293, [1113, 948, 119]) := ⟨⟨by decide, rfl⟩, aw_5 (List.mem_of_getElem? (i := 51) rfl)⟩
set_option maxRecDepth 20000 in
theorem am_220 : am_mlP (13, 167, 0, 165, [1114, 1115, 1116, 103]) := ⟨⟨by decide, rfl⟩, aw_5 (List.mem_of_getElem? (i := 52) rfl)⟩
set_option maxRecDepth 20000 in
theorem am_221 : am_mlP (11, 354, 0, 166, [1118, 1120, 39, 103]) := ⟨⟨by decide, rfl⟩, aw_5 (List.mem_of_getElem? (i := 56) rfl)⟩
set_option maxRecDepth 20000 in
theorem am_222 : am_mlP (13, 171, 0, 167, [1122, 1123, 1124, 103]) := ⟨⟨by decide, rfl⟩, aw_5 (List.mem_of_getElem? (i := 60) rfl)⟩
set_option maxRecDepth 20000 in
theorem am_223 : am_mlP (11, 357, 0, 17, [1126, 1127, 1128, 109]) := ⟨⟨by decide, rfl⟩, aw_5 (List.mem_of_getElem? (i := 64) rfl)⟩
set_option maxRecDepth 20000 in
theorem am_224 : am_mlP (2, 28, 0, 18, [1130, 1132, 40, 109]) := ⟨⟨by decide, rfl⟩, aw_5 (List.mem_of_getElem? (i := 68) rfl)⟩
set_option maxRecDepth 20000 in
theorem am_225 : am_mlP (2, 64, 1, 293, [1134, 948, 119]) := ⟨⟨by decide, rfl⟩, aw_5 (List.mem_of_getElem? (i := 72) rfl)⟩
set_option maxRecDepth 20000 in
theorem am_226 : am_mlP (2, 35, 0, 19, [1135, 1137, 41, 109]) := ⟨⟨by decide, rfl⟩, aw_5 (List.mem_of_getElem? (i := 73) rfl)⟩
set_option maxRecDepth 20000 in
theorem am_227 : am_mlP (2, 70, 0, 20, [1139, 1141, 42, 109]) := ⟨⟨by decide, rfl⟩, aw_5 (List.mem_of_getElem? (i := 77) rfl)⟩
set_option maxRecDepth 20000 in
theorem am_228 : am_mlP (2, 78, 1, 290, [1143, 626, 115]) := ⟨⟨by decide, rfl⟩, aw_5 (List.mem_of_getElem? (i := 81) rfl)⟩
set_option maxRecDepth 20000 in
theorem am_229 : am_mlP (2, 74, 3, 131, [1144, 623, 103]) := ⟨⟨by decide, rfl⟩, aw_5 (List.mem_of_getElem? (i := 82) rfl)⟩
set_option maxRecDepth 20000 in
theorem am_230 : am_mlP (13, 175, 0, 168, [1145, 1146, 1147, 103]) := ⟨⟨by decide, rfl⟩, aw_5 (List.mem_of_getElem? (i := 83) rfl)⟩
set_option maxRecDepth 20000 in
theorem am_231 : am_mlP (11, 361, 0, 21, [1149, 1150, 1151, 109]) := ⟨⟨by decide, rfl⟩, aw_5 (List.mem_of_getElem? (i := 87) rfl)⟩
set_option maxRecDepth 20000 in
theorem am_232 : am_mlP (2, 39, 0, 17, [1153, 1127, 1128, 109]) := ⟨⟨by decide, rfl⟩, aw_5 (List.mem_of_getElem? (i := 91) rfl)⟩
set_option maxRecDepth 20000 in
theorem am_233 : am_mlP (2, 51, 7, 0, [1154]) := aw_5 (List.mem_of_getElem? (i := 92) rfl)
set_option maxRecDepth 20000 in
theorem am_234 : am_mlP (2, 57, 0, 22, [1155, 1157, 43, 109]) := ⟨⟨by decide, rfl⟩, aw_5 (List.mem_of_getElem? (i := 93) rfl)⟩
set_option maxRecDepth 20000 in
theorem am_235 : am_mlP (13, 179, 0, 169, [1159, 1160, 1161, 103]) := ⟨⟨by decide, rfl⟩, aw_5 (List.mem_of_getElem? (i := 97) rfl)⟩
set_option maxRecDepth 20000 in
theorem am_236 : am_mlP (13, 183, 0, 170, [1163, 1164, 1165, 103]) := ⟨⟨by decide, rfl⟩, aw_5 (List.mem_of_getElem? (i := 101) rfl)⟩
set_option maxRecDepth 20000 in
theorem am_237 : am_mlP (11, 366, 1, 171, [1168, 1169, 103]) := ⟨⟨by decide, rfl⟩, aw_5 (List.mem_of_getElem? (i := 106) rfl)⟩
set_option maxRecDepth 20000 in
theorem am_238 : am_mlP (13, 187, 0, 172, [1172, 1173, 1174, 103]) := ⟨⟨by decide, rfl⟩, aw_5 (List.mem_of_getElem? (i := 110) rfl)⟩
set_option maxRecDepth 20000 in
theorem am_239 : am_mlP (13, 191, 0, 173, [1176, 1177, 1178, 103]) := ⟨⟨by decide, rfl⟩, aw_5 (List.mem_of_getElem? (i := 114) rfl)⟩
set_option maxRecDepth 20000 in
theorem am_240 : am_mlP (11, 370, 0, 86, [1180, 1181, 1182, 104]) := ⟨⟨by decide, rfl⟩, aw_5 (List.mem_of_getElem? (i := 118) rfl)⟩
set_option maxRecDepth 20000 in
theorem am_241 : am_mlP (9, 45, 7, 0, [1184]) := aw_5 (List.mem_of_getElem? (i := 122) rfl)
set_option maxRecDepth 20000 in
theorem am_242 : am_mlP (13, 195, 0, 174, [1185, 1186, 1187, 103]) := ⟨⟨by decide, rfl⟩, aw_5 (List.mem_of_getElem? (i := 123) rfl)⟩
set_option maxRecDepth 20000 in
theorem am_243 : am_mlP (13, 199, 0, 175, [1189, 1190, 1191, 103]) := ⟨⟨by decide, rfl⟩, aw_5 (List.mem_of_getElem? (i := 127) rfl)⟩
set_option maxRecDepth 20000 in
theorem am_244 : am_mlP (11, 373, 0, 87, [1193, 1194, 1195, 104]) := ⟨⟨by decide, rfl⟩, aw_5 (List.mem_of_getElem? (i := 131) rfl)⟩
set_option maxRecDepth 20000 in
theorem am_245 : am_mlP (11, 376, 0, 88, [1197, 1198, 1199, 104]) := ⟨⟨by decide, rfl⟩, aw_5 (List.mem_of_getElem? (i := 135) rfl)⟩
set_option maxRecDepth 20000 in
theorem am_246 : am_mlP (13, 203, 0, 176, [1201, 1202, 1203, 103]) := ⟨⟨by decide, rfl⟩, aw_5 (List.mem_of_getElem? (i := 139) rfl)⟩
set_option maxRecDepth 20000 in
theorem am_247 : am_mlP (13, 12, 2, 177, [1207, 1208, 113]) := ⟨⟨by decide, rfl⟩, aw_5 (List.mem_of_getElem? (i := 145) rfl)⟩
set_option maxRecDepth 20000 in
theorem am_248 : am_mlP (12, 3, 6, 0, [1210]) := aw_5 (List.mem_of_getElem? (i := 148) rfl)
set_option maxRecDepth 20000 in
theorem am_249 : am_mlP (13, 194, 0, 178, [1387, 1388, 1389, 113]) := ⟨⟨by decide, rfl⟩, aw_6 (List.mem_of_getElem? (i := 85) rfl)⟩
set_option maxRecDepth 20000 in
theorem am_250 : am_mlP (12, 106, 1, 179, [1391, 1392, 113]) := ⟨⟨by decide, rfl⟩, aw_6 (List.mem_of_getElem? (i := 89) rfl)⟩
set_option maxRecDepth 20000 in
theorem am_251 : am_mlP (12, 110, 0, 180, [1394, 1396, 44, 113]) := ⟨⟨by decide, rfl⟩, aw_6 (List.mem_of_getElem? (i := 92) rfl)⟩
set_option maxRecDepth 20000 in
theorem am_252 : am_mlP (12, 114, 0, 181, [1398, 1400, 45, 113]) := ⟨⟨by decide, rfl⟩, aw_6 (List.mem_of_getElem? (i := 96) rfl)⟩
set_option maxRecDepth 20000 in
theorem am_253 : am_mlP (13, 198, 0, 182, [1402, 1403, 1404, 113]) := ⟨⟨by decide, rfl⟩, aw_6 (List.mem_of_getElem? (i := 100) rfl)⟩
set_option maxRecDepth 20000 in
theorem am_254 : am_mlP (13, 78, 0, 183, [1406, 1407, 1408, 113]) := ⟨⟨by decide, rfl⟩, aw_6 (List.mem_of_getElem? (i := 104) rfl)⟩
set_option maxRecDepth 20000 in
theorem am_255 : am_mlP (12, 124, 0, 184, [1410, 1412, 46, 113]) := ⟨⟨by decide, rfl⟩, aw_6 (List.mem_of_getElem? (i := 108) rfl)⟩
set_option maxRecDepth 20000 in
theorem am_256 : am_mlP (12, 117, 1, 185, [1414, 1415, 113]) := ⟨⟨by decide, rfl⟩, aw_6 (List.mem_of_getElem? (i := 112) rfl)⟩
set_option maxRecDepth 20000 in
theorem am_257 : am_mlP (12, 121, 0, 186, [1417, 1419, 47, 113]) := ⟨⟨by decide, rfl⟩, aw_6 (List.mem_of_getElem? (i := 115) rfl)⟩
set_option maxRecDepth 20000 in
theorem am_258 : am_mlP (13, 70, 0, 187, [1421, 1422, 1423, 113]) := ⟨⟨by decide, rfl⟩, aw_6 (List.mem_of_getElem? (i := 119) rfl)⟩
set_option maxRecDepth 20000 in
theorem am_259 : am_mlP (13, 74, 0, 188, [1425, 1426, 1427, 113]) := ⟨⟨by decide, rfl⟩, aw_6 (List.mem_of_getElem? (i := 123) rfl)⟩
set_option maxRecDepth 20000 in
theorem am_260 : am_mlP (13, 17, 0, 189, [1429, 1430, 1431, 113]) := ⟨⟨by decide, rfl⟩, aw_6 (List.mem_of_getElem? (i := 127) rfl)⟩
set_option maxRecDepth 20000 in
theorem am_261 : am_mlP (13, 22, 0, 190, [1433, 1434, 1435, 113]) := ⟨⟨by decide, rfl⟩, aw_6 (List.mem_of_getElem? (i := 131) rfl)⟩
set_option maxRecDepth 20000 in
theorem am_262 : am_mlP (13, 90, 0, 191, [1437, 1438, 1439, 113]) := ⟨⟨by decide, rfl⟩, aw_6 (List.mem_of_getElem? (i := 135) rfl)⟩
set_option maxRecDepth 20000 in
theorem am_263 : am_mlP (12, 189, 0, 192, [1441, 1443, 48, 113]) := ⟨⟨by decide, rfl⟩, aw_6 (List.mem_of_getElem? (i := 139) rfl)⟩
set_option maxRecDepth 20000 in
theorem am_264 : am_mlP (12, 143, 1, 193, [1445, 1446, 113]) := ⟨⟨by decide, rfl⟩, aw_6 (List.mem_of_getElem? (i := 143) rfl)⟩
set_option maxRecDepth 20000 in
theorem am_265 : am_mlP (12, 146, 1, 194, [1448, 1449, 113]) := ⟨⟨by decide, rfl⟩, aw_6 (List.mem_of_getElem? (i := 146) rfl)⟩
set_option maxRecDepth 20000 in
theorem am_266 : am_mlP (12, 149, 0, 195, [1451, 1453, 49, 113]) := ⟨⟨by decide, rfl⟩, aw_6 (List.mem_of_getElem? (i := 149) rfl)⟩
set_option maxRecDepth 20000 in
theorem am_267 : am_mlP (12, 192, 0, 196, [1456, 1458, 50, 113]) := ⟨⟨by decide, rfl⟩, aw_6 (List.mem_of_getElem? (i := 154) rfl)⟩
set_option maxRecDepth 20000 in
theorem am_268 : am_mlP (12, 169, 0, 197, [1460, 1462, 51, 113]) := ⟨⟨by decide, rfl⟩, aw_6 (List.mem_of_getElem? (i := 158) rfl)⟩
set_option maxRecDepth 20000 in
theorem am_269 : am_mlP (12, 176, 0, 198, [1464, 1466, 52, 113]) := ⟨⟨by decide, rfl⟩, aw_6 (List.mem_of_getElem? (i := 162) rfl)⟩
set_option maxRecDepth 20000 in
theorem am_270 : am_mlP (12, 183, 0, 199, [1468, 1470, 53, 113]) := ⟨⟨by decide, rfl⟩, aw_6 (List.mem_of_getElem? (i := 166) rfl)⟩
set_option maxRecDepth 20000 in
theorem am_271 : am_mlP (12, 156, 0, 200, [1472, 1474, 54, 113]) := ⟨⟨by decide, rfl⟩, aw_6 (List.mem_of_getElem? (i := 170) rfl)⟩
set_option maxRecDepth 20000 in
theorem am_272 : am_mlP (12, 172, 1, 201, [1476, 1477, 113]) := ⟨⟨by decide, rfl⟩, aw_6 (List.mem_of_getElem? (i := 174) rfl)⟩
set_option maxRecDepth 20000 in
theorem am_273 : am_mlP (12, 166, 0, 202, [1479, 1481, 55, 113]) := ⟨⟨by decide, rfl⟩, aw_6 (List.mem_of_getElem? (i := 177) rfl)⟩
set_option maxRecDepth 20000 in
theorem am_274 : am_mlP (12, 180, 0, 203, [1483, 1485, 56, 113]) := ⟨⟨by decide, rfl⟩, aw_6 (List.mem_of_getElem? (i := 181) rfl)⟩
set_option maxRecDepth 20000 in
theorem am_275 : am_mlP (12, 163, 0, 204, [1487, 1489, 57, 113]) := ⟨⟨by decide, rfl⟩, aw_6 (List.mem_of_getElem? (i := 185) rfl)⟩
set_option maxRecDepth 20000 in
theorem am_276 : am_mlP (13, 94, 0, 205, [1491, 1492, 1493, 113]) := ⟨⟨by decide, rfl⟩, aw_6 (List.mem_of_getElem? (i := 189) rfl)⟩
set_option maxRecDepth 20000 in
theorem am_277 : am_mlP (13, 98, 0, 206, [1495, 1496, 1497, 113]) := ⟨⟨by decide, rfl⟩, aw_6 (List.mem_of_getElem? (i := 193) rfl)⟩
set_option maxRecDepth 20000 in
theorem am_278 : am_mlP (12, 245, 0, 207, [1499, 1501, 58, 113]) := ⟨⟨by decide, rfl⟩, aw_6 (List.mem_of_getElem? (i := 197) rfl)⟩
set_option maxRecDepth 20000 in
theorem am_279 : am_mlP (12, 248, 0, 208, [1503, 1505, 59, 113]) := ⟨⟨by decide, rfl⟩, aw_6 (List.mem_of_getElem? (i := 201) rfl)⟩
set_option maxRecDepth 20000 in
theorem am_280 : am_mlP (12, 251, 0, 209, [1507, 1509, 60, 113]) := ⟨⟨by decide, rfl⟩, aw_6 (List.mem_of_getElem? (i := 205) rfl)⟩
set_option maxRecDepth 20000 in
theorem am_281 : am_mlP (12, 241, 0, 210, [1511, 1513, 61, 113]) := ⟨⟨by decide, rfl⟩, aw_6 (List.mem_of_getElem? (i := 209) rfl)⟩
set_option maxRecDepth 20000 in
theorem am_282 : am_mlP (12, 220, 0, 211, [1515, 1517, 62, 113]) := ⟨⟨by decide, rfl⟩, aw_6 (List.mem_of_getElem? (i := 213) rfl)⟩
set_option maxRecDepth 20000 in
theorem am_283 : am_mlP (12, 223, 0, 212, [1519, 1521, 63, 113]) := ⟨⟨by decide, rfl⟩, aw_6 (List.mem_of_getElem? (i := 217) rfl)⟩
set_option maxRecDepth 20000 in
theorem am_284 : am_mlP (12, 130, 0, 213, [1523, 1525, 64, 113]) := ⟨⟨by decide, rfl⟩, aw_6 (List.mem_of_getElem? (i := 221) rfl)⟩
set_option maxRecDepth 20000 in
theorem am_285 : am_mlP (12, 238, 0, 214, [1527, 1529, 65, 113]) := ⟨⟨by decide, rfl⟩, aw_6 (List.mem_of_getElem? (i := 225) rfl)⟩
set_option maxRecDepth 20000 in
theorem am_286 : am_mlP (12, 217, 0, 215, [1531, 1533, 66, 113]) := ⟨⟨by decide, rfl⟩, aw_6 (List.mem_of_getElem? (i := 229) rfl)⟩
set_option maxRecDepth 20000 in
theorem am_287 : am_mlP (12, 214, 0, 216, [1535, 1537, 67, 113]) := ⟨⟨by decide, rfl⟩, aw_6 (List.mem_of_getElem? (i := 233) rfl)⟩
set_option maxRecDepth 20000 in
theorem am_288 : am_mlP (12, 198, 0, 217, [1539, 1541, 68, 113]) := ⟨⟨by decide, rfl⟩, aw_6 (List.mem_of_getElem? (i := 237) rfl)⟩
set_option maxRecDepth 20000 in
theorem am_289 : am_mlP (12, 205, 0, 218, [1543, 1545, 69, 113]) := ⟨⟨by decide, rfl⟩, aw_7 (List.mem_of_getElem? (i := 1) rfl)⟩
set_option maxRecDepth 20000 in
theorem am_290 : am_mlP (12, 208, 0, 219, [1547, 1549, 70, 113]) := ⟨⟨by decide, rfl⟩, aw_7 (List.mem_of_getElem? (i := 5) rfl)⟩
set_option maxRecDepth 20000 in
theorem am_291 : am_mlP (12, 211, 0, 220, [1551, 1553, 71, 113]) := ⟨⟨by decide, rfl⟩, aw_7 (List.mem_of_getElem? (i := 9) rfl)⟩
set_option maxRecDepth 20000 in
theorem am_292 : am_mlP (13, 102, 0, 221, [1555, 1556, 1557, 113]) := ⟨⟨by decide, rfl⟩, aw_7 (List.mem_of_getElem? (i := 13) rfl)⟩
set_option maxRecDepth 20000 in
theorem am_293 : am_mlP (13, 26, 0, 222, [1559, 1560, 1561, 113]) := ⟨⟨by decide, rfl⟩, aw_7 (List.mem_of_getElem? (i := 17) rfl)⟩
set_option maxRecDepth 20000 in
theorem am_294 : am_mlP (12, 254, 0, 223, [1563, 1565, 72, 113]) := ⟨⟨by decide, rfl⟩, aw_7 (List.mem_of_getElem? (i := 21) rfl)⟩
set_option maxRecDepth 20000 in
theorem am_295 : am_mlP (12, 257, 0, 224, [1567, 1569, 73, 113]) := ⟨⟨by decide, rfl⟩, aw_7 (List.mem_of_getElem? (i := 25) rfl)⟩
set_option maxRecDepth 20000 in
theorem am_296 : am_mlP (13, 31, 0, 225, [1571, 1572, 1573, 113]) := ⟨⟨by decide, rfl⟩, aw_7 (List.mem_of_getElem? (i := 29) rfl)⟩
set_option maxRecDepth 20000 in
theorem am_297 : am_mlP (13, 35, 0, 226, [1575, 1576, 1577, 113]) := ⟨⟨by decide, rfl⟩, aw_7 (List.mem_of_getElem? (i := 33) rfl)⟩
set_option maxRecDepth 20000 in
theorem am_298 : am_mlP (13, 40, 0, 227, [1579, 1580, 1581, 113]) := ⟨⟨by decide, rfl⟩, aw_7 (List.mem_of_getElem? (i := 37) rfl)⟩
set_option maxRecDepth 20000 in
theorem am_299 : am_mlP (12, 260, 0, 228, [1583, 1585, 74, 113]) := ⟨⟨by decide, rfl⟩, aw_7 (List.mem_of_getElem? (i := 41) rfl)⟩
set_option maxRecDepth 20000 in
theorem am_300 : am_mlP (12, 263, 0, 229, [1587, 1589, 75, 113]) := ⟨⟨by decide, rfl⟩, aw_7 (List.mem_of_getElem? (i := 45) rfl)⟩
set_option maxRecDepth 20000 in
theorem am_301 : am_mlP (13, 44, 0, 230, [1591, 1592, 1593, 113]) := ⟨⟨by decide, rfl⟩, aw_7 (List.mem_of_getElem? (i := 49) rfl)⟩
set_option maxRecDepth 20000 in
theorem am_302 : am_mlP (12, 267, 0, 231, [1595, 1597, 76, 113]) := ⟨⟨by decide, rfl⟩, aw_7 (List.mem_of_getElem? (i := 53) rfl)⟩
set_option maxRecDepth 20000 in
theorem am_303 : am_mlP (13, 48, 0, 232, [1599, 1600, 1601, 113]) := ⟨⟨by decide, rfl⟩, aw_7 (List.mem_of_getElem? (i := 57) rfl)⟩
set_option maxRecDepth 20000 in
theorem am_304 : am_mlP (12, 270, 1, 233, [1603, 1604, 113]) := ⟨⟨by decide, rfl⟩, aw_7 (List.mem_of_getElem? (i := 61) rfl)⟩
set_option maxRecDepth 20000 in
theorem am_305 : am_mlP (12, 273, 0, 234, [1606, 1608, 77, 113]) := ⟨⟨by decide, rfl⟩, aw_7 (List.mem_of_getElem? (i := 64) rfl)⟩
set_option maxRecDepth 20000 in
theorem am_306 : am_mlP (12, 276, 0, 235, [1610, 1612, 78, 113]) := ⟨⟨by decide, rfl⟩, aw_7 (List.mem_of_getElem? (i := 68) rfl)⟩
set_option maxRecDepth 20000 in
theorem am_307 : am_mlP (13, 53, 0, 236, [1614, 1615, 1616, 113]) := ⟨⟨by decide, rfl⟩, aw_7 (List.mem_of_getElem? (i := 72) rfl)⟩
set_option maxRecDepth 20000 in
theorem am_308 : am_mlP (12, 279, 0, 237, [1618, 1620, 79, 113]) := ⟨⟨by decide, rfl⟩, aw_7 (List.mem_of_getElem? (i := 76) rfl)⟩
set_option maxRecDepth 20000 in
theorem am_309 : am_mlP (13, 57, 0, 238, [1622, 1623, 1624, 113]) := ⟨⟨by decide, rfl⟩, aw_7 (List.mem_of_getElem? (i := 80) rfl)⟩
set_option maxRecDepth 20000 in
theorem am_310 : am_mlP (13, 61, 0, 239, [1626, 1627, 1628, 113]) := ⟨⟨by decide, rfl⟩, aw_7 (List.mem_of_getElem? (i := 84) rfl)⟩
set_option maxRecDepth 20000 in
theorem am_311 : am_mlP (13, 82, 0, 240, [1630, 1631, 1632, 113]) := ⟨⟨by decide, rfl⟩, aw_7 (List.mem_of_getElem? (i := 88) rfl)⟩
set_option maxRecDepth 20000 in
theorem am_312 : am_mlP (13, 86, 0, 241, [1634, 1635, 1636, 113]) := ⟨⟨by decide, rfl⟩, aw_7 (List.mem_of_getElem? (i := 92) rfl)⟩
set_option maxRecDepth 20000 in
theorem am_313 : am_mlP (13, 65, 0, 242, [1638, 1639, 1640, 113]) := ⟨⟨by decide, rfl⟩, aw_7 (List.mem_of_getElem? (i := 96) rfl)⟩
set_option maxRecDepth 20000 in
theorem am_314 : am_mlP (12, 295, 0, 243, [1642, 1644, 80, 113]) := ⟨⟨by decide, rfl⟩, aw_7 (List.mem_of_getElem? (i := 100) rfl)⟩
set_option maxRecDepth 20000 in
theorem am_315 : am_mlP (12, 289, 0, 244, [1646, 1648, 81, 113]) := ⟨⟨by decide, rfl⟩, aw_7 (List.mem_of_getElem? (i := 104) rfl)⟩
set_option maxRecDepth 20000 in
theorem am_316 : am_mlP (12, 283, 0, 245, [1650, 1652, 82, 113]) := ⟨⟨by decide, rfl⟩, aw_7 (List.mem_of_getElem? (i := 108) rfl)⟩
set_option maxRecDepth 20000 in
theorem am_317 : am_mlP (12, 286, 0, 246, [1654, 1656, 83, 113]) := ⟨⟨by decide, rfl⟩, aw_7 (List.mem_of_getElem? (i := 112) rfl)⟩
set_option maxRecDepth 20000 in
theorem am_318 : am_mlP (12, 292, 1, 247, [1658, 1659, 113]) := ⟨⟨by decide, rfl⟩, aw_7 (List.mem_of_getElem? (i := 116) rfl)⟩
set_option maxRecDepth 20000 in
theorem am_319 : am_mlP (13, 122, 0, 248, [1661, 1662, 1663, 113]) := ⟨⟨by decide, rfl⟩, aw_7 (List.mem_of_getElem? (i := 119) rfl)⟩
set_option maxRecDepth 20000 in
theorem am_320 : am_mlP (13, 126, 0, 249, [1665, 1666, 1667, 113]) := ⟨⟨by decide, rfl⟩, aw_7 (List.mem_of_getElem? (i := 123) rfl)⟩
set_option maxRecDepth 20000 in
theorem am_321 : am_mlP (13, 130, 0, 250, [1669, 1670, 1671, 113]) := ⟨⟨by decide, rfl⟩, aw_7 (List.mem_of_getElem? (i := 127) rfl)⟩
set_option maxRecDepth 20000 in
theorem am_322 : am_mlP (13, 114, 0, 251, [1673, 1674, 1675, 113]) := ⟨⟨by decide, rfl⟩, aw_7 (List.mem_of_getElem? (i := 131) rfl)⟩
set_option maxRecDepth 20000 in
theorem am_323 : am_mlP (12, 298, 0, 252, [1677, 1679, 84, 113]) := ⟨⟨by decide, rfl⟩, aw_7 (List.mem_of_getElem? (i := 135) rfl)⟩
set_option maxRecDepth 20000 in
theorem am_324 : am_mlP (13, 118, 0, 253, [1681, 1682, 1683, 113]) := ⟨⟨by decide, rfl⟩, aw_7 (List.mem_of_getElem? (i := 139) rfl)⟩
set_option maxRecDepth 20000 in
theorem am_325 : am_mlP (12, 302, 0, 254, [1685, 1687, 85, 113]) := ⟨⟨by decide, rfl⟩, aw_7 (List.mem_of_getElem? (i := 143) rfl)⟩
set_option maxRecDepth 20000 in
theorem am_326 : am_mlP (13, 134, 0, 255, [1689, 1690, 1691, 113]) := ⟨⟨by decide, rfl⟩, aw_7 (List.mem_of_getElem? (i := 147) rfl)⟩
set_option maxRecDepth 20000 in
theorem am_327 : am_mlP (12, 305, 0, 256, [1693, 1695, 86, 113]) := ⟨⟨by decide, rfl⟩, aw_7 (List.mem_of_getElem? (i := 151) rfl)⟩
set_option maxRecDepth 20000 in
theorem am_328 : am_mlP (12, 308, 0, 257, [1697, 1699, 87, 113]) := ⟨⟨by decide, rfl⟩, aw_7 (List.mem_of_getElem? (i := 155) rfl)⟩
set_option maxRecDepth 20000 in
theorem am_329 : am_mlP (13, 138, 0, 258, [1701, 1702, 1703, 113]) := ⟨⟨by decide, rfl⟩, aw_7 (List.mem_of_getElem? (i := 159) rfl)⟩
set_option maxRecDepth 20000 in
theorem am_330 : am_mlP (12, 319, 0, 259, [1705, 1707, 88, 113]) := ⟨⟨by decide, rfl⟩, aw_7 (List.mem_of_getElem? (i := 163) rfl)⟩
set_option maxRecDepth 20000 in
theorem am_331 : am_mlP (12, 316, 0, 260, [1709, 1711, 89, 113]) := ⟨⟨by decide, rfl⟩, aw_7 (List.mem_of_getElem? (i := 167) rfl)⟩
set_option maxRecDepth 20000 in
theorem am_332 : am_mlP (13, 142, 0, 261, [1713, 1714, 1715, 113]) := ⟨⟨by decide, rfl⟩, aw_7 (List.mem_of_getElem? (i := 171) rfl)⟩
set_option maxRecDepth 20000 in
theorem am_333 : am_mlP (13, 146, 0, 262, [1717, 1718, 1719, 113]) := ⟨⟨by decide, rfl⟩, aw_7 (List.mem_of_getElem? (i := 175) rfl)⟩
set_option maxRecDepth 20000 in
theorem am_334 : am_mlP (12, 322, 0, 263, [1721, 1723, 90, 113]) := ⟨⟨by decide, rfl⟩, aw_7 (List.mem_of_getElem? (i := 179) rfl)⟩
set_option maxRecDepth 20000 in
theorem am_335 : am_mlP (13, 150, 0, 264, [1725, 1726, 1727, 113]) := ⟨⟨by decide, rfl⟩, aw_7 (List.mem_of_getElem? (i := 183) rfl)⟩
set_option maxRecDepth 20000 in
theorem am_336 : am_mlP (12, 331, 0, 265, [1729, 1731, 91, 113]) := ⟨⟨by decide, rfl⟩, aw_7 (List.mem_of_getElem? (i := 187) rfl)⟩
set_option maxRecDepth 20000 in
theorem am_337 : am_mlP (12, 328, 0, 266, [1733, 1735, 92, 113]) := ⟨⟨by decide, rfl⟩, aw_7 (List.mem_of_getElem? (i := 191) rfl)⟩
set_option maxRecDepth 20000 in
theorem am_338 : am_mlP (13, 154, 0, 267, [1737, 1738, 1739, 113]) := ⟨⟨by decide, rfl⟩, aw_7 (List.mem_of_getElem? (i := 195) rfl)⟩
set_option maxRecDepth 20000 in
theorem am_339 : am_mlP (13, 158, 0, 268, [1741, 1742, 1743, 113]) := ⟨⟨by decide, rfl⟩, aw_7 (List.mem_of_getElem? (i := 199) rfl)⟩
set_option maxRecDepth 20000 in
theorem am_340 : am_mlP (13, 162, 0, 269, [1745, 1746, 1747, 113]) := ⟨⟨by decide, rfl⟩, aw_7 (List.mem_of_getElem? (i := 203) rfl)⟩
set_option maxRecDepth 20000 in
theorem am_341 : am_mlP (12, 334, 0, 270, [1749, 1751, 93, 113]) := ⟨⟨by decide, rfl⟩, aw_7 (List.mem_of_getElem? (i := 207) rfl)⟩
set_option maxRecDepth 20000 in
theorem am_342 : am_mlP (13, 106, 0, 271, [1753, 1754, 1755, 113]) := ⟨⟨by decide, rfl⟩, aw_7 (List.mem_of_getElem? (i := 211) rfl)⟩
set_option maxRecDepth 20000 in
theorem am_343 : am_mlP (12, 361, 0, 272, [1757, 1759, 94, 113]) := ⟨⟨by decide, rfl⟩, aw_7 (List.mem_of_getElem? (i := 215) rfl)⟩
set_option maxRecDepth 20000 in
theorem am_344 : am_mlP (12, 376, 0, 273, [1761, 1763, 95, 113]) := ⟨⟨by decide, rfl⟩, aw_7 (List.mem_of_getElem? (i := 219) rfl)⟩
set_option maxRecDepth 20000 in
theorem am_345 : am_mlP (12, 358, 0, 274, [1765, 1767, 96, 113]) := ⟨⟨by decide, rfl⟩, aw_7 (List.mem_of_getElem? (i := 223) rfl)⟩
set_option maxRecDepth 20000 in
theorem am_346 : am_mlP (12, 349, 0, 275, [1769, 1771, 97, 113]) := ⟨⟨by decide, rfl⟩, aw_7 (List.mem_of_getElem? (i := 227) rfl)⟩
set_option maxRecDepth 20000 in
theorem am_347 : am_mlP (12, 346, 0, 276, [1773, 1775, 98, 113]) := ⟨⟨by decide, rfl⟩, aw_7 (List.mem_of_getElem? (i := 231) rfl)⟩
set_option maxRecDepth 20000 in
theorem am_348 : am_mlP (13, 110, 0, 277, [1777, 1778, 1779, 113]) := ⟨⟨by decide, rfl⟩, aw_7 (List.mem_of_getElem? (i := 235) rfl)⟩
set_option maxRecDepth 20000 in
theorem am_349 : am_mlP (13, 166, 0, 278, [1781, 1782, 1783, 113]) := ⟨⟨by decide, rfl⟩, aw_7 (List.mem_of_getElem? (i := 239) rfl)⟩
set_option maxRecDepth 20000 in
theorem am_350 : am_mlP (13, 170, 0, 279, [1785, 1786, 1787, 113]) := ⟨⟨by decide, rfl⟩, aw_8 (List.mem_of_getElem? (i := 3) rfl)⟩
set_option maxRecDepth 20000 in
theorem am_351 : am_mlP (12, 380, 0, 280, [1789, 1791, 99, 113]) := ⟨⟨by decide, rfl⟩, aw_8 (List.mem_of_getElem? (i := 7) rfl)⟩
set_option maxRecDepth 20000 in
theorem am_352 : am_mlP (13, 174, 0, 281, [1793, 1794, 1795, 113]) := ⟨⟨by decide, rfl⟩, aw_8 (List.mem_of_getElem? (i := 11) rfl)⟩
set_option maxRecDepth 20000 in
theorem am_353 : am_mlP (12, 383, 0, 282, [1797, 1799, 100, 113]) := ⟨⟨by decide, rfl⟩, aw_8 (List.mem_of_getElem? (i := 15) rfl)⟩
set_option maxRecDepth 20000 in
theorem am_354 : am_mlP (13, 178, 0, 283, [1801, 1802, 1803, 113]) := ⟨⟨by decide, rfl⟩, aw_8 (List.mem_of_getElem? (i := 19) rfl)⟩
set_option maxRecDepth 20000 in
theorem am_355 : am_mlP (13, 182, 0, 284, [1805, 1806, 1807, 113]) := ⟨⟨by decide, rfl⟩, aw_8 (List.mem_of_getElem? (i := 23) rfl)⟩
set_option maxRecDepth 20000 in
theorem am_356 : am_mlP (13, 186, 0, 285, [1809, 1810, 1811, 113]) := ⟨⟨by decide, rfl⟩, aw_8 (List.mem_of_getElem? (i := 27) rfl)⟩
set_option maxRecDepth 20000 in
theorem am_357 : am_mlP (12, 395, 0, 286, [1813, 1815, 101, 113]) := ⟨⟨by decide, rfl⟩, aw_8 (List.mem_of_getElem? (i := 31) rfl)⟩
set_option maxRecDepth 20000 in
theorem am_358 : am_mlP (13, 190, 0, 287, [1820, 1821, 1822, 113]) := ⟨⟨by decide, rfl⟩, aw_8 (List.mem_of_getElem? (i := 38) rfl)⟩
set_option maxRecDepth 20000 in
theorem am_359 : am_mlP (13, 202, 0, 288, [1824, 1825, 1826, 113]) := ⟨⟨by decide, rfl⟩, aw_8 (List.mem_of_getElem? (i := 42) rfl)⟩
set_option maxRecDepth 20000 in
theorem am_360 : am_mlP (13, 206, 0, 289, [1828, 1829, 1830, 113]) := ⟨⟨by decide, rfl⟩, aw_8 (List.mem_of_getElem? (i := 46) rfl)⟩
theorem an_0 : ∀ e ∈ ([(13, 9, 2, 113, [122, 123, 103]), (11, 1, 6, 0, [125]), (11, 9, 2, 80, [130, 131, 104]), (9, 3, 6, 0, [133]), (9, 33, 4, 89, [139, 140, 105]), (10, 3, 6, 0, [142]), (11, 26, 4, 24, [201, 202, 106]), (4, 1, 6, 0, [204]), (11, 37, 4, 89, [234, 140, 105]), (11, 47, 4, 0, [237, 238, 107]), (0, 5, 6, 0, [240]), (11, 54, 4, 34, [265, 266, 108]), (5, 3, 6, 0, [268]), (5, 11, 4, 89, [270, 140, 105]), (5, 20, 4, 0, [272, 238, 107]), (11, 61, 4, 16, [303, 304, 109])] : List (Nat × Nat × Nat × Nat × List Nat)), am_mlP e := List.forall_mem_cons.mpr ⟨am_0, List.forall_mem_cons.mpr ⟨am_1, List.forall_mem_cons.mpr ⟨am_2, List.forall_mem_cons.mpr ⟨am_3, List.forall_mem_cons.mpr ⟨am_4, List.forall_mem_cons.mpr ⟨am_5, List.forall_mem_cons.mpr ⟨am_6, List.forall_mem_cons.mpr ⟨am_7, List.forall_mem_cons.mpr ⟨am_8, List.forall_mem_cons.mpr ⟨am_9, List.forall_mem_cons.mpr ⟨am_10, List.forall_mem_cons.mpr ⟨am_11, List.forall_mem_cons.mpr ⟨am_12, List.forall_mem_cons.mpr ⟨am_13, List.forall_mem_cons.mpr ⟨am_14, List.forall_mem_cons.mpr ⟨am_15, fun _ h => absurd h List.not_mem_nil⟩⟩⟩⟩⟩⟩⟩⟩⟩⟩⟩⟩⟩⟩⟩⟩
theorem an_1 : ∀ e ∈ ([(2, 3, 6, 0, [306]), (11, 68, 4, 39, [331, 332, 110]), (6, 3, 6, 0, [334]), (6, 11, 4, 89, [336, 140, 105]), (11, 78, 4, 66, [361, 362, 111]), (8, 3, 6, 0, [364]), (8, 11, 4, 89, [366, 140, 105]), (11, 85, 4, 9, [399, 400, 112]), (1, 1, 6, 0, [402]), (1, 9, 4, 89, [404, 140, 105]), (13, 13, 0, 114, [468, 469, 470, 103]), (11, 96, 0, 115, [472, 474, 0, 103]), (13, 18, 0, 116, [476, 477, 478, 103]), (13, 23, 0, 117, [480, 481, 482, 103]), (11, 100, 1, 118, [484, 485, 103]), (11, 104, 0, 119, [487, 489, 1, 103])] : List (Nat × Nat × Nat × Nat × List Nat)), am_mlP e := List.forall_mem_cons.mpr ⟨am_16, List.forall_mem_cons.mpr ⟨am_17, List.forall_mem_cons.mpr ⟨am_18, List.forall_mem_cons.mpr ⟨am_19, List.forall_mem_cons.mpr ⟨am_20, List.forall_mem_cons.mpr ⟨am_21, List.forall_mem_cons.mpr ⟨am_22, List.forall_mem_cons.mpr ⟨am_23, List.forall_mem_cons.mpr ⟨am_24, List.forall_mem_cons.mpr ⟨am_25, List.forall_mem_cons.mpr ⟨am_26, List.forall_mem_cons.mpr ⟨am_27, List.forall_mem_cons.mpr ⟨am_28, List.forall_mem_cons.mpr ⟨am_29, List.forall_mem_cons.mpr ⟨am_30, List.forall_mem_cons.mpr ⟨am_31, fun _ h => absurd h List.not_mem_nil⟩⟩⟩⟩⟩⟩⟩⟩⟩⟩⟩⟩⟩⟩⟩⟩
theorem an_2 : ∀ e ∈ ([(11, 108, 0, 120, [491, 493, 2, 103]), (11, 119, 1, 121, [495, 496, 103]), (11, 125, 7, 0, [498]), (11, 131, 0, 90, [501, 502, 503, 105]), (10, 23, 0, 91, [505, 506, 507, 105]), (10, 19, 0, 92, [509, 510, 511, 105]), (11, 115, 0, 122, [513, 515, 3, 103]), (11, 382, 0, 81, [517, 518, 519, 104]), (9, 57, 0, 82, [521, 523, 4, 104]), (9, 34, 0, 93, [525, 526, 527, 105]), (10, 27, 7, 0, [529]), (9, 60, 0, 83, [530, 532, 5, 104]), (11, 212, 0, 123, [534, 536, 6, 103]), (13, 27, 0, 124, [538, 539, 540, 103]), (11, 134, 0, 94, [542, 543, 544, 105]), (10, 33, 0, 95, [546, 547, 548, 105])] : List (Nat × Nat × Nat × Nat × List Nat)), am_mlP e := List.forall_mem_cons.mpr ⟨am_32, List.forall_mem_cons.mpr ⟨am_33, List.forall_mem_cons.mpr ⟨am_34, List.forall_mem_cons.mpr ⟨am_35, List.forall_mem_cons.mpr ⟨am_36, List.forall_mem_cons.mpr ⟨am_37, List.forall_mem_cons.mpr ⟨am_38, List.forall_mem_cons.mpr ⟨am_39, List.forall_mem_cons.mpr ⟨am_40, List.forall_mem_cons.mpr ⟨am_41, List.forall_mem_cons.mpr ⟨am_42, List.forall_mem_cons.mpr ⟨am_43, List.forall_mem_cons.mpr ⟨am_44, List.forall_mem_cons.mpr ⟨am_45, List.forall_mem_cons.mpr ⟨am_46, List.forall_mem_cons.mpr ⟨am_47, fun _ h => absurd h List.not_mem_nil⟩⟩⟩⟩⟩⟩⟩⟩⟩⟩⟩⟩⟩⟩⟩⟩
theorem an_3 : ∀ e ∈ ([(13, 32, 0, 125, [550, 551, 552, 103]), (11, 137, 0, 126, [554, 556, 7, 103]), (11, 144, 0, 93, [558, 526, 527, 105]), (13, 36, 0, 127, [559, 560, 561, 103]), (11, 148, 0, 92, [563, 510, 511, 105]), (11, 151, 0, 91, [564, 506, 507, 105]), (11, 154, 0, 96, [565, 566, 567, 105]), (10, 42, 0, 97, [569, 570, 571, 105]), (13, 41, 0, 128, [573, 574, 575, 103]), (11, 158, 0, 98, [577, 578, 579, 105]), (10, 45, 0, 99, [581, 583, 8, 105]), (13, 45, 0, 129, [585, 586, 587, 103]), (11, 165, 0, 67, [591, 592, 593, 111]), (8, 38, 0, 68, [595, 597, 9, 111]), (8, 42, 0, 91, [600, 506, 507, 105]), (8, 46, 0, 95, [601, 547, 548, 105])] : List (Nat × Nat × Nat × Nat × List Nat)), am_mlP e := List.forall_mem_cons.mpr ⟨am_48, List.forall_mem_cons.mpr ⟨am_49, List.forall_mem_cons.mpr ⟨am_50, List.forall_mem_cons.mpr ⟨am_51, List.forall_mem_cons.mpr ⟨am_52, List.forall_mem_cons.mpr ⟨am_53, List.forall_mem_cons.mpr ⟨am_54, List.forall_mem_cons.mpr ⟨am_55, List.forall_mem_cons.mpr ⟨am_56, List.forall_mem_cons.mpr ⟨am_57, List.forall_mem_cons.mpr ⟨am_58, List.forall_mem_cons.mpr ⟨am_59, List.forall_mem_cons.mpr ⟨am_60, List.forall_mem_cons.mpr ⟨am_61, List.forall_mem_cons.mpr ⟨am_62, List.forall_mem_cons.mpr ⟨am_63, fun _ h => absurd h List.not_mem_nil⟩⟩⟩⟩⟩⟩⟩⟩⟩⟩⟩⟩⟩⟩⟩⟩
theorem an_4 : ∀ e ∈ ([(13, 49, 0, 130, [602, 603, 604, 103]), (11, 169, 0, 100, [606, 607, 608, 105]), (11, 173, 0, 101, [610, 611, 612, 105]), (10, 53, 0, 102, [614, 615, 616, 105]), (11, 177, 0, 103, [618, 619, 620, 105]), (10, 56, 3, 131, [622, 623, 103]), (11, 181, 1, 290, [625, 626, 115]), (13, 54, 0, 132, [631, 632, 633, 103]), (11, 186, 0, 104, [635, 636, 637, 105]), (13, 58, 0, 133, [639, 640, 641, 103]), (11, 190, 0, 105, [643, 644, 645, 105]), (13, 62, 0, 134, [647, 648, 649, 103]), (11, 193, 0, 106, [651, 652, 653, 105]), (10, 49, 0, 107, [655, 656, 657, 105]), (11, 197, 1, 46, [659, 660, 116]), (7, 33, 1, 47, [662, 663, 116])] : List (Nat × Nat × Nat × Nat × List Nat)), am_mlP e := List.forall_mem_cons.mpr ⟨am_64, List.forall_mem_cons.mpr ⟨am_65, List.forall_mem_cons.mpr ⟨am_66, List.forall_mem_cons.mpr ⟨am_67, List.forall_mem_cons.mpr ⟨am_68, List.forall_mem_cons.mpr ⟨am_69, List.forall_mem_cons.mpr ⟨am_70, List.forall_mem_cons.mpr ⟨am_71, List.forall_mem_cons.mpr ⟨am_72, List.forall_mem_cons.mpr ⟨am_73, List.forall_mem_cons.mpr ⟨am_74, List.forall_mem_cons.mpr ⟨am_75, List.forall_mem_cons.mpr ⟨am_76, List.forall_mem_cons.mpr ⟨am_77, List.forall_mem_cons.mpr ⟨am_78, List.forall_mem_cons.mpr ⟨am_79, fun _ h => absurd h List.not_mem_nil⟩⟩⟩⟩⟩⟩⟩⟩⟩⟩⟩⟩⟩⟩⟩⟩
theorem an_5 : ∀ e ∈ ([(7, 9, 0, 108, [665, 666, 667, 105]), (7, 15, 1, 48, [669, 670, 116]), (7, 25, 1, 49, [672, 673, 116]), (7, 29, 0, 91, [675, 506, 507, 105]), (7, 37, 1, 50, [676, 677, 116]), (7, 40, 1, 51, [679, 680, 116]), (7, 43, 1, 52, [682, 683, 116]), (7, 46, 1, 291, [685, 686, 115]), (11, 203, 1, 53, [689, 690, 116]), (7, 52, 1, 290, [692, 626, 115]), (7, 55, 1, 54, [693, 694, 116]), (7, 59, 0, 95, [696, 547, 548, 105]), (13, 66, 0, 135, [697, 698, 699, 103]), (11, 209, 0, 84, [701, 702, 703, 104]), (13, 71, 0, 136, [705, 706, 707, 103]), (11, 218, 0, 85, [709, 710, 711, 104])] : List (Nat × Nat × Nat × Nat × List Nat)), am_mlP e := List.forall_mem_cons.mpr ⟨am_80, List.forall_mem_cons.mpr ⟨am_81, List.forall_mem_cons.mpr ⟨am_82, List.forall_mem_cons.mpr ⟨am_83, List.forall_mem_cons.mpr ⟨am_84, List.forall_mem_cons.mpr ⟨am_85, List.forall_mem_cons.mpr ⟨am_86, List.forall_mem_cons.mpr ⟨am_87, List.forall_mem_cons.mpr ⟨am_88, List.forall_mem_cons.mpr ⟨am_89, List.forall_mem_cons.mpr ⟨am_90, List.forall_mem_cons.mpr ⟨am_91, List.forall_mem_cons.mpr ⟨am_92, List.forall_mem_cons.mpr ⟨am_93, List.forall_mem_cons.mpr ⟨am_94, List.forall_mem_cons.mpr ⟨am_95, fun _ h => absurd h List.not_mem_nil⟩⟩⟩⟩⟩⟩⟩⟩⟩⟩⟩⟩⟩⟩⟩⟩
theorem an_6 : ∀ e ∈ ([(13, 75, 0, 137, [713, 714, 715, 103]), (13, 79, 0, 138, [717, 718, 719, 103]), (11, 221, 0, 102, [721, 615, 616, 105]), (11, 224, 0, 97, [722, 570, 571, 105]), (13, 83, 0, 139, [723, 724, 725, 103]), (11, 227, 0, 107, [727, 656, 657, 105]), (13, 87, 0, 140, [728, 729, 730, 103]), (11, 234, 0, 25, [732, 733, 734, 106]), (4, 20, 9, 0, [736]), (4, 41, 0, 26, [739, 741, 10, 106]), (4, 76, 1, 27, [743, 744, 106]), (4, 44, 0, 28, [746, 748, 11, 106]), (4, 62, 0, 29, [750, 752, 12, 106]), (4, 65, 0, 30, [754, 756, 13, 106]), (4, 73, 0, 31, [758, 760, 14, 106]), (4, 69, 0, 32, [762, 764, 15, 106])] : List (Nat × Nat × Nat × Nat × List Nat)), am_mlP e := List.forall_mem_cons.mpr ⟨am_96, List.forall_mem_cons.mpr ⟨am_97, List.forall_mem_cons.mpr ⟨am_98, List.forall_mem_cons.mpr ⟨am_99, List.forall_mem_cons.mpr ⟨am_100, List.forall_mem_cons.mpr ⟨am_101, List.forall_mem_cons.mpr ⟨am_102, List.forall_mem_cons.mpr ⟨am_103, List.forall_mem_cons.mpr ⟨am_104, List.forall_mem_cons.mpr ⟨am_105, List.forall_mem_cons.mpr ⟨am_106, List.forall_mem_cons.mpr ⟨am_107, List.forall_mem_cons.mpr ⟨am_108, List.forall_mem_cons.mpr ⟨am_109, List.forall_mem_cons.mpr ⟨am_110, List.forall_mem_cons.mpr ⟨am_111, fun _ h => absurd h List.not_mem_nil⟩⟩⟩⟩⟩⟩⟩⟩⟩⟩⟩⟩⟩⟩⟩⟩
theorem an_7 : ∀ e ∈ ([(4, 53, 1, 292, [768, 769, 119]), (16, 304, 9, 0, [778]), (16, 150, 7, 0, [779]), (4, 59, 2, 23, [780, 781, 118]), (3, 1, 6, 0, [783]), (11, 238, 0, 33, [797, 798, 799, 106]), (13, 91, 0, 141, [801, 802, 803, 103]), (13, 95, 0, 142, [805, 806, 807, 103]), (11, 245, 0, 143, [809, 811, 16, 103]), (11, 248, 0, 1, [813, 814, 815, 107]), (0, 45, 8, 0, [817]), (11, 251, 0, 2, [820, 821, 822, 107]), (0, 56, 0, 3, [824, 826, 17, 107]), (0, 59, 0, 4, [828, 830, 18, 107]), (0, 63, 0, 5, [832, 834, 19, 107]), (0, 73, 0, 6, [836, 838, 20, 107])] : List (Nat × Nat × Nat × Nat × List Nat)), am_mlP e := List.forall_mem_cons.mpr ⟨am_112, List.forall_mem_cons.mpr ⟨am_113, List.forall_mem_cons.mpr ⟨am_114, List.forall_mem_cons.mpr ⟨am_115, List.forall_mem_cons.mpr ⟨am_116, List.forall_mem_cons.mpr ⟨am_117, List.forall_mem_cons.mpr ⟨am_118, List.forall_mem_cons.mpr ⟨am_119, List.forall_mem_cons.mpr ⟨am_120, List.forall_mem_cons.mpr ⟨am_121, List.forall_mem_cons.mpr ⟨am_122, List.forall_mem_cons.mpr ⟨am_123, List.forall_mem_cons.mpr ⟨am_124, List.forall_mem_cons.mpr ⟨am_125, List.forall_mem_cons.mpr ⟨am_126, List.forall_mem_cons.mpr ⟨am_127, fun _ h => absurd h List.not_mem_nil⟩⟩⟩⟩⟩⟩⟩⟩⟩⟩⟩⟩⟩⟩⟩⟩
theorem an_8 : ∀ e ∈ ([(0, 77, 0, 7, [840, 842, 21, 107]), (13, 99, 0, 144, [844, 845, 846, 103]), (11, 255, 0, 8, [848, 849, 850, 107]), (13, 103, 0, 145, [852, 853, 854, 103]), (11, 258, 0, 146, [856, 858, 22, 103]), (11, 261, 0, 35, [860, 861, 862, 108]), (11, 265, 0, 36, [864, 865, 866, 108]), (5, 51, 0, 95, [868, 547, 548, 105]), (5, 55, 0, 37, [869, 871, 23, 108]), (5, 59, 0, 38, [873, 875, 24, 108]), (5, 63, 0, 1, [877, 814, 815, 107]), (5, 67, 0, 2, [878, 821, 822, 107]), (13, 107, 0, 147, [879, 880, 881, 103]), (13, 111, 0, 148, [883, 884, 885, 103]), (11, 274, 1, 55, [887, 888, 116]), (7, 69, 1, 56, [890, 891, 116])] : List (Nat × Nat × Nat × Nat × List Nat)), am_mlP e := List.forall_mem_cons.mpr ⟨am_128, List.forall_mem_cons.mpr ⟨am_129, List.forall_mem_cons.mpr ⟨am_130, List.forall_mem_cons.mpr ⟨am_131, List.forall_mem_cons.mpr ⟨am_132, List.forall_mem_cons.mpr ⟨am_133, List.forall_mem_cons.mpr ⟨am_134, List.forall_mem_cons.mpr ⟨am_135, List.forall_mem_cons.mpr ⟨am_136, List.forall_mem_cons.mpr ⟨am_137, List.forall_mem_cons.mpr ⟨am_138, List.forall_mem_cons.mpr ⟨am_139, List.forall_mem_cons.mpr ⟨am_140, List.forall_mem_cons.mpr ⟨am_141, List.forall_mem_cons.mpr ⟨am_142, List.forall_mem_cons.mpr ⟨am_143, fun _ h => absurd h List.not_mem_nil⟩⟩⟩⟩⟩⟩⟩⟩⟩⟩⟩⟩⟩⟩⟩⟩
theorem an_9 : ∀ e ∈ ([(7, 79, 1, 57, [893, 894, 116]), (7, 83, 1, 58, [896, 897, 116]), (7, 72, 1, 59, [899, 900, 116]), (7, 76, 1, 60, [902, 903, 116]), (13, 115, 0, 149, [905, 906, 907, 103]), (11, 278, 1, 61, [909, 910, 116]), (11, 282, 1, 62, [912, 913, 116]), (13, 119, 0, 150, [915, 916, 917, 103]), (11, 285, 0, 108, [919, 666, 667, 105]), (11, 288, 1, 63, [920, 921, 116]), (13, 123, 0, 151, [923, 924, 925, 103]), (11, 291, 1, 64, [927, 928, 116]), (7, 63, 1, 46, [930, 660, 116]), (13, 127, 0, 152, [931, 932, 933, 103]), (11, 295, 1, 65, [935, 936, 116]), (7, 66, 1, 63, [938, 921, 116])] : List (Nat × Nat × Nat × Nat × List Nat)), am_mlP e := List.forall_mem_cons.mpr ⟨am_144, List.forall_mem_cons.mpr ⟨am_145, List.forall_mem_cons.mpr ⟨am_146, List.forall_mem_cons.mpr ⟨am_147, List.forall_mem_cons.mpr ⟨am_148, List.forall_mem_cons.mpr ⟨am_149, List.forall_mem_cons.mpr ⟨am_150, List.forall_mem_cons.mpr ⟨am_151, List.forall_mem_cons.mpr ⟨am_152, List.forall_mem_cons.mpr ⟨am_153, List.forall_mem_cons.mpr ⟨am_154, List.forall_mem_cons.mpr ⟨am_155, List.forall_mem_cons.mpr ⟨am_156, List.forall_mem_cons.mpr ⟨am_157, List.forall_mem_cons.mpr ⟨am_158, List.forall_mem_cons.mpr ⟨am_159, fun _ h => absurd h List.not_mem_nil⟩⟩⟩⟩⟩⟩⟩⟩⟩⟩⟩⟩⟩⟩⟩⟩
theorem an_10 : ∀ e ∈ ([(13, 131, 0, 153, [939, 940, 941, 103]), (11, 298, 0, 69, [943, 944, 945, 111]), (8, 98, 1, 293, [947, 948, 119]), (8, 50, 3, 154, [950, 951, 103]), (8, 107, 0, 70, [953, 955, 25, 111]), (8, 117, 0, 71, [957, 959, 26, 111]), (8, 121, 1, 290, [961, 626, 115]), (8, 110, 0, 72, [962, 964, 27, 111]), (8, 114, 0, 73, [966, 968, 28, 111]), (13, 135, 0, 155, [970, 971, 972, 103]), (11, 302, 1, 156, [974, 975, 103]), (11, 305, 0, 40, [977, 978, 979, 110]), (6, 41, 0, 109, [981, 982, 983, 105]), (6, 45, 0, 93, [985, 526, 527, 105]), (6, 49, 0, 41, [986, 988, 29, 110]), (6, 52, 3, 154, [990, 951, 103])] : List (Nat × Nat × Nat × Nat × List Nat)), am_mlP e := List.forall_mem_cons.mpr ⟨am_160, List.forall_mem_cons.mpr ⟨am_161, List.forall_mem_cons.mpr ⟨am_162, List.forall_mem_cons.mpr ⟨am_163, List.forall_mem_cons.mpr ⟨am_164, List.forall_mem_cons.mpr ⟨am_165, List.forall_mem_cons.mpr ⟨am_166, List.forall_mem_cons.mpr ⟨am_167, List.forall_mem_cons.mpr ⟨am_168, List.forall_mem_cons.mpr ⟨am_169, List.forall_mem_cons.mpr ⟨am_170, List.forall_mem_cons.mpr ⟨am_171, List.forall_mem_cons.mpr ⟨am_172, List.forall_mem_cons.mpr ⟨am_173, List.forall_mem_cons.mpr ⟨am_174, List.forall_mem_cons.mpr ⟨am_175, fun _ h => absurd h List.not_mem_nil⟩⟩⟩⟩⟩⟩⟩⟩⟩⟩⟩⟩⟩⟩⟩⟩
theorem an_11 : ∀ e ∈ ([(6, 56, 0, 42, [991, 993, 30, 110]), (6, 81, 0, 43, [996, 998, 31, 110]), (6, 70, 0, 91, [1000, 506, 507, 105]), (6, 88, 0, 95, [1001, 547, 548, 105]), (6, 84, 3, 157, [1002, 1003, 103]), (11, 386, 1, 131, [1005, 623, 103]), (6, 60, 0, 98, [1006, 578, 579, 105]), (6, 63, 0, 44, [1007, 1009, 32, 110]), (6, 66, 0, 96, [1011, 566, 567, 105]), (6, 74, 0, 45, [1012, 1014, 33, 110]), (13, 139, 0, 158, [1016, 1017, 1018, 103]), (11, 309, 0, 109, [1020, 982, 983, 105]), (13, 143, 0, 159, [1021, 1022, 1023, 103]), (11, 312, 0, 74, [1025, 1026, 1027, 111]), (8, 57, 0, 75, [1029, 1031, 34, 111]), (8, 61, 3, 157, [1033, 1003, 103])] : List (Nat × Nat × Nat × Nat × List Nat)), am_mlP e := List.forall_mem_cons.mpr ⟨am_176, List.forall_mem_cons.mpr ⟨am_177, List.forall_mem_cons.mpr ⟨am_178, List.forall_mem_cons.mpr ⟨am_179, List.forall_mem_cons.mpr ⟨am_180, List.forall_mem_cons.mpr ⟨am_181, List.forall_mem_cons.mpr ⟨am_182, List.forall_mem_cons.mpr ⟨am_183, List.forall_mem_cons.mpr ⟨am_184, List.forall_mem_cons.mpr ⟨am_185, List.forall_mem_cons.mpr ⟨am_186, List.forall_mem_cons.mpr ⟨am_187, List.forall_mem_cons.mpr ⟨am_188, List.forall_mem_cons.mpr ⟨am_189, List.forall_mem_cons.mpr ⟨am_190, List.forall_mem_cons.mpr ⟨am_191, fun _ h => absurd h List.not_mem_nil⟩⟩⟩⟩⟩⟩⟩⟩⟩⟩⟩⟩⟩⟩⟩⟩
theorem an_12 : ∀ e ∈ ([(11, 315, 0, 76, [1034, 1035, 1036, 111]), (8, 65, 0, 77, [1038, 1040, 35, 111]), (8, 69, 0, 102, [1042, 615, 616, 105]), (13, 147, 0, 160, [1043, 1044, 1045, 103]), (11, 318, 0, 10, [1047, 1048, 1049, 112]), (1, 24, 0, 11, [1051, 1053, 36, 112]), (1, 31, 0, 91, [1055, 506, 507, 105]), (11, 321, 0, 12, [1056, 1057, 1058, 112]), (1, 35, 0, 10, [1060, 1048, 1049, 112]), (1, 39, 0, 13, [1061, 1063, 37, 112]), (11, 324, 1, 14, [1065, 1066, 112]), (1, 43, 1, 15, [1068, 1069, 112]), (13, 151, 0, 161, [1071, 1072, 1073, 103]), (11, 327, 0, 110, [1075, 1076, 1077, 105]), (10, 60, 0, 101, [1079, 611, 612, 105]), (11, 330, 0, 111, [1080, 1081, 1082, 105])] : List (Nat × Nat × Nat × Nat × List Nat)), am_mlP e := List.forall_mem_cons.mpr ⟨am_192, List.forall_mem_cons.mpr ⟨am_193, List.forall_mem_cons.mpr ⟨am_194, List.forall_mem_cons.mpr ⟨am_195, List.forall_mem_cons.mpr ⟨am_196, List.forall_mem_cons.mpr ⟨am_197, List.forall_mem_cons.mpr ⟨am_198, List.forall_mem_cons.mpr ⟨am_199, List.forall_mem_cons.mpr ⟨am_200, List.forall_mem_cons.mpr ⟨am_201, List.forall_mem_cons.mpr ⟨am_202, List.forall_mem_cons.mpr ⟨am_203, List.forall_mem_cons.mpr ⟨am_204, List.forall_mem_cons.mpr ⟨am_205, List.forall_mem_cons.mpr ⟨am_206, List.forall_mem_cons.mpr ⟨am_207, fun _ h => absurd h List.not_mem_nil⟩⟩⟩⟩⟩⟩⟩⟩⟩⟩⟩⟩⟩⟩⟩⟩
theorem an_13 : ∀ e ∈ ([(10, 64, 1, 290, [1084, 626, 115]), (10, 37, 8, 0, [1085]), (13, 155, 0, 162, [1086, 1087, 1088, 103]), (13, 159, 0, 163, [1090, 1091, 1092, 103]), (11, 333, 0, 78, [1094, 1095, 1096, 111]), (8, 78, 0, 94, [1098, 543, 544, 105]), (8, 82, 0, 79, [1099, 1101, 38, 111]), (8, 89, 0, 74, [1103, 1026, 1027, 111]), (8, 93, 8, 0, [1104]), (8, 86, 0, 112, [1105, 1106, 1107, 105]), (13, 163, 0, 164, [1109, 1110, 1111, 103]), (11, 348, 1, 293, [1113, 948, 119]), (13, 167, 0, 165, [1114, 1115, 1116, 103]), (11, 354, 0, 166, [1118, 1120, 39, 103]), (13, 171, 0, 167, [1122, 1123, 1124, 103]), (11, 357, 0, 17, [1126, 1127, 1128, 109])] : List (Nat × Nat × Nat × Nat × List Nat)), am_mlP e := List.forall_mem_cons.mpr ⟨am_208, List.forall_mem_cons.mpr ⟨am_209, List.forall_mem_cons.mpr ⟨am_210, List.forall_mem_cons.mpr ⟨am_211, List.forall_mem_cons.mpr ⟨am_212, List.forall_mem_cons.mpr ⟨am_213, List.forall_mem_cons.mpr ⟨am_214, List.forall_mem_cons.mpr ⟨am_215, List.forall_mem_cons.mpr ⟨am_216, List.forall_mem_cons.mpr ⟨am_217, List.forall_mem_cons.mpr ⟨am_218, List.forall_mem_cons.mpr ⟨am_219, List.forall_mem_cons.mpr ⟨am_220, List.forall_mem_cons.mpr ⟨am_221, List.forall_mem_cons.mpr ⟨am_222, List.forall_mem_cons.mpr ⟨am_223, fun _ h => absurd h List.not_mem_nil⟩⟩⟩⟩⟩⟩⟩⟩⟩⟩⟩⟩⟩⟩⟩⟩
theorem an_14 : ∀ e ∈ ([(2, 28, 0, 18, [1130, 1132, 40, 109]), (2, 64, 1, 293, [1134, 948, 119]), (2, 35, 0, 19, [1135, 1137, 41, 109]), (2, 70, 0, 20, [1139, 1141, 42, 109]), (2, 78, 1, 290, [1143, 626, 115]), (2, 74, 3, 131, [1144, 623, 103]), (13, 175, 0, 168, [1145, 1146, 1147, 103]), (11, 361, 0, 21, [1149, 1150, 1151, 109]), (2, 39, 0, 17, [1153, 1127, 1128, 109]), (2, 51, 7, 0, [1154]), (2, 57, 0, 22, [1155, 1157, 43, 109]), (13, 179, 0, 169, [1159, 1160, 1161, 103]), (13, 183, 0, 170, [1163, 1164, 1165, 103]), (11, 366, 1, 171, [1168, 1169, 103]), (13, 187, 0, 172, [1172, 1173, 1174, 103]), (13, 191, 0, 173, [1176, 1177, 1178, 103])] : List (Nat × Nat × Nat × Nat × List Nat)), am_mlP e := List.forall_mem_cons.mpr ⟨am_224, List.forall_mem_cons.mpr ⟨am_225, List.forall_mem_cons.mpr ⟨am_226, List.forall_mem_cons.mpr ⟨am_227, List.forall_mem_cons.mpr ⟨am_228, List.forall_mem_cons.mpr ⟨am_229, List.forall_mem_cons.mpr ⟨am_230, List.forall_mem_cons.mpr ⟨am_231, List.forall_mem_cons.mpr ⟨am_232, List.forall_mem_cons.mpr ⟨am_233, List.forall_mem_cons.mpr ⟨am_234, List.forall_mem_cons.mpr ⟨am_235, List.forall_mem_cons.mpr ⟨am_236, List.forall_mem_cons.mpr ⟨am_237, List.forall_mem_cons.mpr ⟨am_238, List.forall_mem_cons.mpr ⟨am_239, fun _ h => absurd h List.not_mem_nil⟩⟩⟩⟩⟩⟩⟩⟩⟩⟩⟩⟩⟩⟩⟩⟩
theorem an_15 : ∀ e ∈ ([(11, 370, 0, 86, [1180, 1181, 1182, 104]), (9, 45, 7, 0, [1184]), (13, 195, 0, 174, [1185, 1186, 1187, 103]), (13, 199, 0, 175, [1189, 1190, 1191, 103]), (11, 373, 0, 87, [1193, 1194, 1195, 104]), (11, 376, 0, 88, [1197, 1198, 1199, 104]), (13, 203, 0, 176, [1201, 1202, 1203, 103]), (13, 12, 2, 177, [1207, 1208, 113]), (12, 3, 6, 0, [1210]), (13, 194, 0, 178, [1387, 1388, 1389, 113]), (12, 106, 1, 179, [1391, 1392, 113]), (12, 110, 0, 180, [1394, 1396, 44, 113]), (12, 114, 0, 181, [1398, 1400, 45, 113]), (13, 198, 0, 182, [1402, 1403, 1404, 113]), (13, 78, 0, 183, [1406, 1407, 1408, 113]), (12, 124, 0, 184, [1410, 1412, 46, 113])] : List (Nat × Nat × Nat × Nat × List Nat)), am_mlP e := List.forall_mem_cons.mpr ⟨am_240, List.forall_mem_cons.mpr ⟨am_241, List.forall_mem_cons.mpr ⟨am_242, List.forall_mem_cons.mpr ⟨am_243, List.forall_mem_cons.mpr ⟨am_244, List.forall_mem_cons.mpr ⟨am_245, List.forall_mem_cons.mpr ⟨am_246, List.forall_mem_cons.mpr ⟨am_247, List.forall_mem_cons.mpr ⟨am_248, List.forall_mem_cons.mpr ⟨am_249, List.forall_mem_cons.mpr ⟨am_250, List.forall_mem_cons.mpr ⟨am_251, List.forall_mem_cons.mpr ⟨am_252, List.forall_mem_cons.mpr ⟨am_253, List.forall_mem_cons.mpr ⟨am_254, List.forall_mem_cons.mpr ⟨am_255, fun _ h => absurd h List.not_mem_nil⟩⟩⟩⟩⟩⟩⟩⟩⟩⟩⟩⟩⟩⟩⟩⟩
theorem an_16 : ∀ e ∈ ([(12, 117, 1, 185, [1414, 1415, 113]), (12, 121, 0, 186, [1417, 1419, 47, 113]), (13, 70, 0, 187, [1421, 1422, 1423, 113]), (13, 74, 0, 188, [1425, 1426, 1427, 113]), (13, 17, 0, 189, [1429, 1430, 1431, 113]), (13, 22, 0, 190, [1433, 1434, 1435, 113]), (13, 90, 0, 191, [1437, 1438, 1439, 113]), (12, 189, 0, 192, [1441, 1443, 48, 113]), (12, 143, 1, 193, [1445, 1446, 113]), (12, 146, 1, 194, [1448, 1449, 113]), (12, 149, 0, 195, [1451, 1453, 49, 113]), (12, 192, 0, 196, [1456, 1458, 50, 113]), (12, 169, 0, 197, [1460, 1462, 51, 113]), (12, 176, 0, 198, [1464, 1466, 52, 113]), (12, 183, 0, 199, [1468, 1470, 53, 113]), (12, 156, 0, 200, [1472, 1474, 54, 113])] : List (Nat × Nat × Nat × Nat × List Nat)), am_mlP e := List.forall_mem_cons.mpr ⟨am_256, List.forall_mem_cons.mpr ⟨am_257, List.forall_mem_cons.mpr ⟨am_258, List.forall_mem_cons.mpr ⟨am_259, List.forall_mem_cons.mpr ⟨am_260, List.forall_mem_cons.mpr ⟨am_261, List.forall_mem_cons.mpr ⟨am_262, List.forall_mem_cons.mpr ⟨am_263, List.forall_mem_cons.mpr ⟨am_264, List.forall_mem_cons.mpr ⟨am_265, List.forall_mem_cons.mpr ⟨am_266, List.forall_mem_cons.mpr ⟨am_267, List.forall_mem_cons.mpr ⟨am_268, List.forall_mem_cons.mpr ⟨am_269, List.forall_mem_cons.mpr ⟨am_270, List.forall_mem_cons.mpr ⟨am_271, fun _ h => absurd h List.not_mem_nil⟩⟩⟩⟩⟩⟩⟩⟩⟩⟩⟩⟩⟩⟩⟩⟩
theorem an_17 : ∀ e ∈ ([(12, 172, 1, 201, [1476, 1477, 113]), (12, 166, 0, 202, [1479, 1481, 55, 113]), (12, 180, 0, 203, [1483, 1485, 56, 113]), (12, 163, 0, 204, [1487, 1489, 57, 113]), (13, 94, 0, 205, [1491, 1492, 1493, 113]), (13, 98, 0, 206, [1495, 1496, 1497, 113]), (12, 245, 0, 207, [1499, 1501, 58, 113]), (12, 248, 0, 208, [1503, 1505, 59, 113]), (12, 251, 0, 209, [1507, 1509, 60, 113]), (12, 241, 0, 210, [1511, 1513, 61, 113]), (12, 220, 0, 211, [1515, 1517, 62, 113]), (12, 223, 0, 212, [1519, 1521, 63, 113]), (12, 130, 0, 213, [1523, 1525, 64, 113]), (12, 238, 0, 214, [1527, 1529, 65, 113]), (12, 217, 0, 215, [1531, 1533, 66, 113]), (12, 214, 0, 216, [1535, 1537, 67, 113])] : List (Nat × Nat × Nat × Nat × List Nat)), am_mlP e := List.forall_mem_cons.mpr ⟨am_272, List.forall_mem_cons.mpr ⟨am_273, List.forall_mem_cons.mpr ⟨am_274, List.forall_mem_cons.mpr ⟨am_275, List.forall_mem_cons.mpr ⟨am_276, List.forall_mem_cons.mpr ⟨am_277, List.forall_mem_cons.mpr ⟨am_278, List.forall_mem_cons.mpr ⟨am_279, List.forall_mem_cons.mpr ⟨am_280, List.forall_mem_cons.mpr ⟨am_281, List.forall_mem_cons.mpr ⟨am_282, List.forall_mem_cons.mpr ⟨am_283, List.forall_mem_cons.mpr ⟨am_284, List.forall_mem_cons.mpr ⟨am_285, List.forall_mem_cons.mpr ⟨am_286, List.forall_mem_cons.mpr ⟨am_287, fun _ h => absurd h List.not_mem_nil⟩⟩⟩⟩⟩⟩⟩⟩⟩⟩⟩⟩⟩⟩⟩⟩
theorem an_18 : ∀ e ∈ ([(12, 198, 0, 217, [1539, 1541, 68, 113]), (12, 205, 0, 218, [1543, 1545, 69, 113]), (12, 208, 0, 219, [1547, 1549, 70, 113]), (12, 211, 0, 220, [1551, 1553, 71, 113]), (13, 102, 0, 221, [1555, 1556, 1557, 113]), (13, 26, 0, 222, [1559, 1560, 1561, 113]), (12, 254, 0, 223, [1563, 1565, 72, 113]), (12, 257, 0, 224, [1567, 1569, 73, 113]), (13, 31, 0, 225, [1571, 1572, 1573, 113]), (13, 35, 0, 226, [1575, 1576, 1577, 113]), (13, 40, 0, 227, [1579, 1580, 1581, 113]), (12, 260, 0, 228, [1583, 1585, 74, 113]), (12, 263, 0, 229, [1587, 1589, 75, 113]), (13, 44, 0, 230, [1591, 1592, 1593, 113]), (12, 267, 0, 231, [1595, 1597, 76, 113]), (13, 48, 0, 232, [1599, 1600, 1601, 113])] : List (Nat × Nat × Nat × Nat × List Nat)), am_mlP e := List.forall_mem_cons.mpr ⟨am_288, List.forall_mem_cons.mpr ⟨am_289, List.forall_mem_cons.mpr ⟨am_290, List.forall_mem_cons.mpr ⟨am_291, List.forall_mem_cons.mpr ⟨am_292, List.forall_mem_cons.mpr ⟨am_293, List.forall_mem_cons.mpr ⟨am_294, List.forall_mem_cons.mpr ⟨am_295, List.forall_mem_cons.mpr ⟨am_296, List.forall_mem_cons.mpr ⟨am_297, List.forall_mem_cons.mpr ⟨am_298, List.forall_mem_cons.mpr ⟨am_299, List.forall_mem_cons.mpr ⟨am_300, List.forall_mem_cons.mpr ⟨am_301, List.forall_mem_cons.mpr ⟨am_302, List.forall_mem_cons.mpr ⟨am_303, fun _ h => absurd h List.not_mem_nil⟩⟩⟩⟩⟩⟩⟩⟩⟩⟩⟩⟩⟩⟩⟩⟩
theorem an_19 : ∀ e ∈ ([(12, 270, 1, 233, [1603, 1604, 113]), (12, 273, 0, 234, [1606, 1608, 77, 113]), (12, 276, 0, 235, [1610, 1612, 78, 113]), (13, 53, 0, 236, [1614, 1615, 1616, 113]), (12, 279, 0, 237, [1618, 1620, 79, 113]), (13, 57, 0, 238, [1622, 1623, 1624, 113]), (13, 61, 0, 239, [1626, 1627, 1628, 113]), (13, 82, 0, 240, [1630, 1631, 1632, 113]), (13, 86, 0, 241, [1634, 1635, 1636, 113]), (13, 65, 0, 242, [1638, 1639, 1640, 113]), (12, 295, 0, 243, [1642, 1644, 80, 113]), (12, 289, 0, 244, [1646, 1648, 81, 113]), (12, 283, 0, 245, [1650, 1652, 82, 113]), (12, 286, 0, 246, [1654, 1656, 83, 113]), (12, 292, 1, 247, [1658, 1659, 113]), (13, 122, 0, 248, [1661, 1662, 1663, 113])] : List (Nat × Nat × Nat × Nat × List Nat)), am_mlP e := List.forall_mem_cons.mpr ⟨am_304, List.forall_mem_cons.mpr ⟨am_305, List.forall_mem_cons.mpr ⟨am_306, List.forall_mem_cons.mpr ⟨am_307, List.forall_mem_cons.mpr ⟨am_308, List.forall_mem_cons.mpr ⟨am_309, List.forall_mem_cons.mpr ⟨am_310, List.forall_mem_cons.mpr ⟨am_311, List.forall_mem_cons.mpr ⟨am_312, List.forall_mem_cons.mpr ⟨am_313, List.forall_mem_cons.mpr ⟨am_314, List.forall_mem_cons.mpr ⟨am_315, List.forall_mem_cons.mpr ⟨am_316, List.forall_mem_cons.mpr ⟨am_317, List.forall_mem_cons.mpr ⟨am_318, List.forall_mem_cons.mpr ⟨am_319, fun _ h => absurd h List.not_mem_nil⟩⟩⟩⟩⟩⟩⟩⟩⟩⟩⟩⟩⟩⟩⟩⟩
theorem an_20 : ∀ e ∈ ([(13, 126, 0, 249, [1665, 1666, 1667, 113]), (13, 130, 0, 250, [1669, 1670, 1671, 113]), (13, 114, 0, 251, [1673, 1674, 1675, 113]), (12, 298, 0, 252, [1677, 1679, 84, 113]), (13, 118, 0, 253, [1681, 1682, 1683, 113]), (12, 302, 0, 254, [1685, 1687, 85, 113]), (13, 134, 0, 255, [1689, 1690, 1691, 113]), (12, 305, 0, 256, [1693, 1695, 86, 113]), (12, 308, 0, 257, [1697, 1699, 87, 113]), (13, 138, 0, 258, [1701, 1702, 1703, 113]), (12, 319, 0, 259, [1705, 1707, 88, 113]), (12, 316, 0, 260, [1709, 1711, 89, 113]), (13, 142, 0, 261, [1713, 1714, 1715, 113]), (13, 146, 0, 262, [1717, 1718, 1719, 113]), (12, 322, 0, 263, [1721, 1723, 90, 113]), (13, 150, 0, 264, [1725, 1726, 1727, 113])] : List (Nat × Nat × Nat × Nat × List Nat)), am_mlP e := List.forall_mem_cons.mpr ⟨am_320, List.forall_mem_cons.mpr ⟨am_321, List.forall_mem_cons.mpr ⟨am_322, List.forall_mem_cons.mpr ⟨am_323, List.forall_mem_cons.mpr ⟨am_324, List.forall_mem_cons.mpr ⟨am_325, List.forall_mem_cons.mpr ⟨am_326, List.forall_mem_cons.mpr ⟨am_327, List.forall_mem_cons.mpr ⟨am_328, List.forall_mem_cons.mpr ⟨am_329, List.forall_mem_cons.mpr ⟨am_330, List.forall_mem_cons.mpr ⟨am_331, List.forall_mem_cons.mpr ⟨am_332, List.forall_mem_cons.mpr ⟨am_333, List.forall_mem_cons.mpr ⟨am_334, List.forall_mem_cons.mpr ⟨am_335, fun _ h => absurd h List.not_mem_nil⟩⟩⟩⟩⟩⟩⟩⟩⟩⟩⟩⟩⟩⟩⟩⟩
theorem an_21 : ∀ e ∈ ([(12, 331, 0, 265, [1729, 1731, 91, 113]), (12, 328, 0, 266, [1733, 1735, 92, 113]), (13, 154, 0, 267, [1737, 1738, 1739, 113]), (13, 158, 0, 268, [1741, 1742, 1743, 113]), (13, 162, 0, 269, [1745, 1746, 1747, 113]), (12, 334, 0, 270, [1749, 1751, 93, 113]), (13, 106, 0, 271, [1753, 1754, 1755, 113]), (12, 361, 0, 272, [1757, 1759, 94, 113]), (12, 376, 0, 273, [1761, 1763, 95, 113]), (12, 358, 0, 274, [1765, 1767, 96, 113]), (12, 349, 0, 275, [1769, 1771, 97, 113]), (12, 346, 0, 276, [1773, 1775, 98, 113]), (13, 110, 0, 277, [1777, 1778, 1779, 113]), (13, 166, 0, 278, [1781, 1782, 1783, 113]), (13, 170, 0, 279, [1785, 1786, 1787, 113]), (12, 380, 0, 280, [1789, 1791, 99, 113])] : List (Nat × Nat × Nat × Nat × List Nat)), am_mlP e := List.forall_mem_cons.mpr ⟨am_336, List.forall_mem_cons.mpr ⟨am_337, List.forall_mem_cons.mpr ⟨am_338, List.forall_mem_cons.mpr ⟨am_339, List.forall_mem_cons.mpr ⟨am_340, List.forall_mem_cons.mpr ⟨am_341, List.forall_mem_cons.mpr ⟨am_342, List.forall_mem_cons.mpr ⟨am_343, List.forall_mem_cons.mpr ⟨am_344, List.forall_mem_cons.mpr ⟨am_345, List.forall_mem_cons.mpr ⟨am_346, List.forall_mem_cons.mpr ⟨am_347, List.forall_mem_cons.mpr ⟨am_348, List.forall_mem_cons.mpr ⟨am_349, List.forall_mem_cons.mpr ⟨am_350, List.forall_mem_cons.mpr ⟨am_351, fun _ h => absurd h List.not_mem_nil⟩⟩⟩⟩⟩⟩⟩⟩⟩⟩⟩⟩⟩⟩⟩⟩
theorem an_22 : ∀ e ∈ ([(13, 174, 0, 281, [1793, 1794, 1795, 113]), (12, 383, 0, 282, [1797, 1799, 100, 113]), (13, 178, 0, 283, [1801, 1802, 1803, 113]), (13, 182, 0, 284, [1805, 1806, 1807, 113]), (13, 186, 0, 285, [1809, 1810, 1811, 113]), (12, 395, 0, 286, [1813, 1815, 101, 113]), (13, 190, 0, 287, [1820, 1821, 1822, 113]), (13, 202, 0, 288, [1824, 1825, 1826, 113]), (13, 206, 0, 289, [1828, 1829, 1830, 113])] : List (Nat × Nat × Nat × Nat × List Nat)), am_mlP e := List.forall_mem_cons.mpr ⟨am_352, List.forall_mem_cons.mpr ⟨am_353, List.forall_mem_cons.mpr ⟨am_354, List.forall_mem_cons.mpr ⟨am_355, List.forall_mem_cons.mpr ⟨am_356, List.forall_mem_cons.mpr ⟨am_357, List.forall_mem_cons.mpr ⟨am_358, List.forall_mem_cons.mpr ⟨am_359, List.forall_mem_cons.mpr ⟨am_360, fun _ h => absurd h List.not_mem_nil⟩⟩⟩⟩⟩⟩⟩⟩⟩
set_option maxRecDepth 20000 in
theorem am_mls_ok : ∀ e ∈ am_mls, am_mlP e := List.forall_mem_append.mpr ⟨an_0, List.forall_mem_append.mpr ⟨an_1, List.forall_mem_append.mpr ⟨an_2, List.forall_mem_append.mpr ⟨an_3, List.forall_mem_append.mpr ⟨an_4, List.forall_mem_append.mpr ⟨an_5, List.forall_mem_append.mpr ⟨an_6, List.forall_mem_append.mpr ⟨an_7, List.forall_mem_append.mpr ⟨an_8, List.forall_mem_append.mpr ⟨an_9, List.forall_mem_append.mpr ⟨an_10, List.forall_mem_append.mpr ⟨an_11, List.forall_mem_append.mpr ⟨an_12, List.forall_mem_append.mpr ⟨an_13, List.forall_mem_append.mpr ⟨an_14, List.forall_mem_append.mpr ⟨an_15, List.forall_mem_append.mpr ⟨an_16, List.forall_mem_append.mpr ⟨an_17, List.forall_mem_append.mpr ⟨an_18, List.forall_mem_append.mpr ⟨an_19, List.forall_mem_append.mpr ⟨an_20, List.forall_mem_append.mpr ⟨an_21, an_22⟩⟩⟩⟩⟩⟩⟩⟩⟩⟩⟩⟩⟩⟩⟩⟩⟩⟩⟩⟩⟩⟩
