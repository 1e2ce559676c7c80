/-! THE STEP; printed by wip/whole/gen_sime.py. -/
section SIM
variable {base aF aS L : Nat} {xs : Nat → Int32} {dC : Nat → ClassId} {dI : Nat → Nat → Nat} {dA : Nat → ClassId} {p : Program} {l : Launch} {e : Env} {R : Room} {s : State} {m : MethodId} {args : Array Value} {below : List Frame} {meth : Method} {c : Code} {y n0 s0 : Nat} {Q : State → Prop}
variable {pc pc' : Nat} {al al' : AL} {st st' : List Value} {h h' : AH}
set_option maxHeartbeats 2000000 in
theorem am_sim_step {i : Instr} {len : Nat} (C : am_Cx base aF aS L xs dC dI dA p R s m args meth c y) (hd : decode (am_b y) pc = .ok (i, len)) (hroom : h'.length ≤ R.cells + n0 ∧ am_sz h' ≤ R.slots + s0) (hs : am_ins y i len pc al st h = some (.inl (pc', al', st', h'))) (kk : am_K base aF aS L xs dC dI dA p l e R s m args below meth c y n0 s0 Q pc' al' st' h') : am_K base aF aS L xs dC dI dA p l e R s m args below meth c y n0 s0 Q pc al st h := by
  cases i with
  | iconst n =>
    have hq := am_len hs
    clear hs
    obtain ⟨rfl, hs⟩ := hq
    exact as_nx (v := .int (Int32.ofInt n)) (fun _ _ _ _ _ _ k => lv_iconst C.1.1 C.1.2.1 hd rfl k) hs kk
  | bipush n =>
    have hq := am_len hs
    clear hs
    obtain ⟨rfl, hs⟩ := hq
    exact as_nx (v := .int (Int8.ofInt n).toInt32) (fun _ _ _ _ _ _ k => lv_bipush C.1.1 C.1.2.1 hd rfl k) hs kk
  | sipush n =>
    have hq := am_len hs
    clear hs
    obtain ⟨rfl, hs⟩ := hq
    exact as_nx (v := .int (Int16.ofInt n).toInt32) (fun _ _ _ _ _ _ k => lv_sipush C.1.1 C.1.2.1 hd rfl k) hs kk
  | lconst n =>
    have hq := am_len hs
    clear hs
    obtain ⟨rfl, hs⟩ := hq
    exact as_nx (v := .long (Int64.ofNat n)) (fun _ _ _ _ _ _ k => lv_lconst C.1.1 C.1.2.1 hd rfl k) hs kk
  | aconst_null =>
    have hq := am_len hs
    clear hs
    obtain ⟨rfl, hs⟩ := hq
    exact as_nx (v := .null) (fun _ _ _ _ _ _ k => lv_null C.1.1 C.1.2.1 hd k) hs kk
  | ldc k =>
    have hq := am_len hs
    clear hs
    obtain ⟨rfl, hs⟩ := hq
    obtain ⟨v, hv, hs⟩ := as_bind hs
    exact as_nx (v := .int v) (fun _ _ _ _ _ _ k => lv_ldc C.1.1 C.1.2.1 C.2.1 (am_wd C (am_ki_spec hv) rfl) hd k) hs kk
  | ldc_w k =>
    have hq := am_len hs
    clear hs
    obtain ⟨rfl, hs⟩ := hq
    obtain ⟨v, hv, hs⟩ := as_bind hs
    exact as_nx (v := .int v) (fun _ _ _ _ _ _ k => lv_ldcw C.1.1 C.1.2.1 C.2.1 (am_wd C (am_ki_spec hv) rfl) hd k) hs kk
  | ldc2_w k =>
    have hq := am_len hs
    clear hs
    obtain ⟨rfl, hs⟩ := hq
    obtain ⟨v, hv, hs⟩ := as_bind hs
    exact as_nx (v := .long v) (fun _ _ _ _ _ _ k => lv_ldc2 C.1.1 C.1.2.1 C.2.1 (am_wd C (am_kl_spec hv) rfl) hd k) hs kk
  | iload_n k =>
    have hq := am_len hs
    clear hs
    obtain ⟨rfl, hs⟩ := hq
    exact as_il (fun _ _ _ _ _ _ _ hx k => lv_iload_n C.1.1 C.1.2.1 hd rfl hx k) hs kk
  | iload k =>
    have hq := am_len hs
    clear hs
    obtain ⟨rfl, hs⟩ := hq
    exact as_il (fun _ _ _ _ _ _ _ hx k => lv_iload C.1.1 C.1.2.1 hd hx k) hs kk
  | lload_n k =>
    have hq := am_len hs
    clear hs
    obtain ⟨rfl, hs⟩ := hq
    exact as_ll (fun _ _ _ _ _ _ _ hx k => lv_lload_n C.1.1 C.1.2.1 hd rfl hx k) hs kk
  | lload k =>
    have hq := am_len hs
    clear hs
    obtain ⟨rfl, hs⟩ := hq
    exact as_ll (fun _ _ _ _ _ _ _ hx k => lv_lload C.1.1 C.1.2.1 hd hx k) hs kk
  | aload_n k =>
    have hq := am_len hs
    clear hs
    obtain ⟨rfl, hs⟩ := hq
    exact as_al (fun _ _ _ _ _ _ _ hx k => lv_aload_n C.1.1 C.1.2.1 hd rfl hx k) (fun _ _ _ _ _ _ hx k => lv_aload_nN C.1.1 C.1.2.1 hd rfl hx k) hs kk
  | aload k =>
    have hq := am_len hs
    clear hs
    obtain ⟨rfl, hs⟩ := hq
    exact as_al (fun _ _ _ _ _ _ _ hx k => lv_aload C.1.1 C.1.2.1 hd hx k) (fun _ _ _ _ _ _ hx k => lv_aloadN C.1.1 C.1.2.1 hd hx k) hs kk
  | istore_n k =>
    have hq := am_len hs
    clear hs
    obtain ⟨rfl, hs⟩ := hq
    exact as_is (fun _ _ _ _ _ _ _ _ hv hn k => lv_istore_n C.1.1 C.1.2.1 hd rfl hv hn rfl k) hs kk
  | istore k =>
    have hq := am_len hs
    clear hs
    obtain ⟨rfl, hs⟩ := hq
    exact as_is (fun _ _ _ _ _ _ _ _ hv hn k => lv_istore C.1.1 C.1.2.1 hd hv hn rfl k) hs kk
  | astore_n k =>
    have hq := am_len hs
    clear hs
    obtain ⟨rfl, hs⟩ := hq
    exact as_as (fun _ _ _ _ _ _ _ _ hv hn k => lv_astore_n C.1.1 C.1.2.1 hd rfl hv hn rfl k) (fun _ _ _ _ _ _ _ hv hn k => lv_astore_nN C.1.1 C.1.2.1 hd rfl hv hn rfl k) hs kk
  | astore k =>
    have hq := am_len hs
    clear hs
    obtain ⟨rfl, hs⟩ := hq
    exact as_as (fun _ _ _ _ _ _ _ _ hv hn k => lv_astore C.1.1 C.1.2.1 hd hv hn rfl k) (fun _ _ _ _ _ _ _ hv hn k => lv_astoreN C.1.1 C.1.2.1 hd hv hn rfl k) hs kk
  | iinc k n =>
    have hq := am_len hs
    clear hs
    obtain ⟨rfl, hs⟩ := hq
    exact as_ic C hd hs kk
  | iadd =>
    have hq := am_len hs
    clear hs
    obtain ⟨rfl, hs⟩ := hq
    exact as_bi (fun _ _ _ _ _ _ _ _ k => lv_iadd C.1.1 C.1.2.1 hd k) hs kk
  | isub =>
    have hq := am_len hs
    clear hs
    obtain ⟨rfl, hs⟩ := hq
    exact as_bi (fun _ _ _ _ _ _ _ _ k => lv_isub C.1.1 C.1.2.1 hd k) hs kk
  | imul =>
    have hq := am_len hs
    clear hs
    obtain ⟨rfl, hs⟩ := hq
    exact as_bi (fun _ _ _ _ _ _ _ _ k => lv_imul C.1.1 C.1.2.1 hd k) hs kk
  | iand =>
    have hq := am_len hs
    clear hs
    obtain ⟨rfl, hs⟩ := hq
    exact as_bi (fun _ _ _ _ _ _ _ _ k => lv_iand C.1.1 C.1.2.1 hd k) hs kk
  | ior =>
    have hq := am_len hs
    clear hs
    obtain ⟨rfl, hs⟩ := hq
    exact as_bi (fun _ _ _ _ _ _ _ _ k => lv_ior C.1.1 C.1.2.1 hd k) hs kk
  | ixor =>
    have hq := am_len hs
    clear hs
    obtain ⟨rfl, hs⟩ := hq
    exact as_bi (fun _ _ _ _ _ _ _ _ k => lv_ixor C.1.1 C.1.2.1 hd k) hs kk
  | ishl =>
    have hq := am_len hs
    clear hs
    obtain ⟨rfl, hs⟩ := hq
    exact as_bi (fun _ _ _ _ _ _ _ _ k => lv_ishl C.1.1 C.1.2.1 hd k) hs kk
  | ishr =>
    have hq := am_len hs
    clear hs
    obtain ⟨rfl, hs⟩ := hq
    exact as_bi (fun _ _ _ _ _ _ _ _ k => lv_ishr C.1.1 C.1.2.1 hd k) hs kk
  | iushr =>
    have hq := am_len hs
    clear hs
    obtain ⟨rfl, hs⟩ := hq
    exact as_bi (fun _ _ _ _ _ _ _ _ k => lv_iushr C.1.1 C.1.2.1 hd rfl k) hs kk
  | idiv =>
    have hq := am_len hs
    clear hs
    obtain ⟨rfl, hs⟩ := hq
    split at hs
    · split at hs
      · cases hs
      · rename_i hne
        obtain ⟨rfl, rfl, rfl, rfl⟩ := am_nx_eq hs
        intro H locs ls cells slots e1 e2 hP hS hl
        exact lv_idiv C.1.1 C.1.2.1 hd hne (kk H locs ls cells slots e1 e2 hP hS hl)
    · cases hs
  | irem =>
    have hq := am_len hs
    clear hs
    obtain ⟨rfl, hs⟩ := hq
    split at hs
    · split at hs
      · cases hs
      · rename_i hne
        obtain ⟨rfl, rfl, rfl, rfl⟩ := am_nx_eq hs
        intro H locs ls cells slots e1 e2 hP hS hl
        exact lv_irem C.1.1 C.1.2.1 hd hne (kk H locs ls cells slots e1 e2 hP hS hl)
    · cases hs
  | ineg =>
    have hq := am_len hs
    clear hs
    obtain ⟨rfl, hs⟩ := hq
    split at hs
    · obtain ⟨rfl, rfl, rfl, rfl⟩ := am_nx_eq hs
      intro H locs ls cells slots e1 e2 hP hS hl
      exact lv_ineg C.1.1 C.1.2.1 hd (kk H locs ls cells slots e1 e2 hP hS hl)
    · cases hs
  | ladd =>
    have hq := am_len hs
    clear hs
    obtain ⟨rfl, hs⟩ := hq
    exact as_bl (fun _ _ _ _ _ _ _ _ k => lv_ladd C.1.1 C.1.2.1 hd k) hs kk
  | lmul =>
    have hq := am_len hs
    clear hs
    obtain ⟨rfl, hs⟩ := hq
    exact as_bl (fun _ _ _ _ _ _ _ _ k => lv_lmul C.1.1 C.1.2.1 hd k) hs kk
  | land =>
    have hq := am_len hs
    clear hs
    obtain ⟨rfl, hs⟩ := hq
    exact as_bl (fun _ _ _ _ _ _ _ _ k => lv_land C.1.1 C.1.2.1 hd k) hs kk
  | lor =>
    have hq := am_len hs
    clear hs
    obtain ⟨rfl, hs⟩ := hq
    exact as_bl (fun _ _ _ _ _ _ _ _ k => lv_lor C.1.1 C.1.2.1 hd k) hs kk
  | lrem =>
    have hq := am_len hs
    clear hs
    obtain ⟨rfl, hs⟩ := hq
    split at hs
    · split at hs
      · cases hs
      · rename_i hne
        obtain ⟨rfl, rfl, rfl, rfl⟩ := am_nx_eq hs
        intro H locs ls cells slots e1 e2 hP hS hl
        exact lv_lrem C.1.1 C.1.2.1 hd hne (kk H locs ls cells slots e1 e2 hP hS hl)
    · cases hs
  | lshl =>
    have hq := am_len hs
    clear hs
    obtain ⟨rfl, hs⟩ := hq
    exact as_sh (fun _ _ _ _ _ _ _ _ k => lv_lshl C.1.1 C.1.2.1 hd rfl k) hs kk
  | lshr =>
    have hq := am_len hs
    clear hs
    obtain ⟨rfl, hs⟩ := hq
    exact as_sh (fun _ _ _ _ _ _ _ _ k => lv_lshr C.1.1 C.1.2.1 hd rfl k) hs kk
  | lcmp =>
    have hq := am_len hs
    clear hs
    obtain ⟨rfl, hs⟩ := hq
    split at hs
    · obtain ⟨rfl, rfl, rfl, rfl⟩ := am_nx_eq hs
      intro H locs ls cells slots e1 e2 hP hS hl
      exact W.lcmp C.1.1 C.1.2.1 hd (kk H locs ls cells slots e1 e2 hP hS hl)
    · cases hs
  | i2l =>
    have hq := am_len hs
    clear hs
    obtain ⟨rfl, hs⟩ := hq
    split at hs
    · obtain ⟨rfl, rfl, rfl, rfl⟩ := am_nx_eq hs
      intro H locs ls cells slots e1 e2 hP hS hl
      exact lv_i2l C.1.1 C.1.2.1 hd rfl (kk H locs ls cells slots e1 e2 hP hS hl)
    · cases hs
  | l2i =>
    have hq := am_len hs
    clear hs
    obtain ⟨rfl, hs⟩ := hq
    split at hs
    · obtain ⟨rfl, rfl, rfl, rfl⟩ := am_nx_eq hs
      intro H locs ls cells slots e1 e2 hP hS hl
      exact lv_l2i C.1.1 C.1.2.1 hd rfl (kk H locs ls cells slots e1 e2 hP hS hl)
    · cases hs
  | i2b =>
    have hq := am_len hs
    clear hs
    obtain ⟨rfl, hs⟩ := hq
    split at hs
    · obtain ⟨rfl, rfl, rfl, rfl⟩ := am_nx_eq hs
      intro H locs ls cells slots e1 e2 hP hS hl
      exact lv_i2b C.1.1 C.1.2.1 hd rfl (kk H locs ls cells slots e1 e2 hP hS hl)
    · cases hs
  | dup =>
    have hq := am_len hs
    clear hs
    obtain ⟨rfl, hs⟩ := hq
    split at hs
    · split at hs
      · rename_i hc
        obtain ⟨rfl, rfl, rfl, rfl⟩ := am_nx_eq hs
        intro H locs ls cells slots e1 e2 hP hS hl
        exact lv_dup C.1.1 C.1.2.1 hd (by rw [am_v_cat]; exact hc) (kk H locs ls cells slots e1 e2 hP hS hl)
      · cases hs
    · cases hs
  | dup2 =>
    have hq := am_len hs
    clear hs
    obtain ⟨rfl, hs⟩ := hq
    split at hs
    · split at hs
      · rename_i hc
        obtain ⟨rfl, rfl, rfl, rfl⟩ := am_nx_eq hs
        intro H locs ls cells slots e1 e2 hP hS hl
        exact lv_dup2_11 C.1.1 C.1.2.1 hd (by rw [am_v_cat]; exact hc.1) (by rw [am_v_cat]; exact hc.2) (kk H locs ls cells slots e1 e2 hP hS hl)
      · cases hs
    · cases hs
  | pop =>
    have hq := am_len hs
    clear hs
    obtain ⟨rfl, hs⟩ := hq
    split at hs
    · split at hs
      · rename_i hc
        obtain ⟨rfl, rfl, rfl, rfl⟩ := am_nx_eq hs
        intro H locs ls cells slots e1 e2 hP hS hl
        exact lv_pop C.1.1 C.1.2.1 hd (by rw [am_v_cat]; exact hc) (kk H locs ls cells slots e1 e2 hP hS hl)
      · cases hs
    · cases hs
  | goto off =>
    have hq := am_len hs
    clear hs
    obtain ⟨rfl, hs⟩ := hq
    obtain ⟨t, ht, kj⟩ := as_jp hs kk
    intro H locs ls cells slots e1 e2 hP hS hl
    exact lv_goto C.1.1 C.1.2.1 hd ht (kj H locs ls cells slots e1 e2 hP hS hl)
  | ifCond cd off =>
    have hq := am_len hs
    clear hs
    obtain ⟨rfl, hs⟩ := hq
    exact as_if C hd hs kk
  | if_icmp cd off =>
    have hq := am_len hs
    clear hs
    obtain ⟨rfl, hs⟩ := hq
    exact as_ii C hd hs kk
  | ifnull off =>
    have hq := am_len hs
    clear hs
    obtain ⟨rfl, hs⟩ := hq
    split at hs
    · obtain ⟨rfl, rfl, rfl, rfl⟩ := am_nx_eq hs
      intro H locs ls cells slots e1 e2 hP hS hl
      exact lv_ifnull C.1.1 C.1.2.1 hd (kk H locs ls cells slots e1 e2 hP hS hl)
    · obtain ⟨t, ht, kj⟩ := as_jp hs kk
      intro H locs ls cells slots e1 e2 hP hS hl
      exact lv_ifnullN C.1.1 C.1.2.1 hd ht (kj H locs ls cells slots e1 e2 hP hS hl)
    · cases hs
  | ifnonnull off =>
    have hq := am_len hs
    clear hs
    obtain ⟨rfl, hs⟩ := hq
    split at hs
    · obtain ⟨t, ht, kj⟩ := as_jp hs kk
      intro H locs ls cells slots e1 e2 hP hS hl
      exact lv_ifnonnull C.1.1 C.1.2.1 hd ht (kj H locs ls cells slots e1 e2 hP hS hl)
    · obtain ⟨rfl, rfl, rfl, rfl⟩ := am_nx_eq hs
      intro H locs ls cells slots e1 e2 hP hS hl
      exact lv_ifnonnullN C.1.1 C.1.2.1 hd (kk H locs ls cells slots e1 e2 hP hS hl)
    · cases hs
  | tableswitch d lo hi offs =>
    exact as_ts C hd hs kk
  | lookupswitch d ps =>
    exact as_lk C hd hs kk
  | getfield k =>
    have hq := am_len hs
    clear hs
    obtain ⟨rfl, hs⟩ := hq
    exact as_gf C hd hs kk
  | putfield k =>
    have hq := am_len hs
    clear hs
    obtain ⟨rfl, hs⟩ := hq
    exact as_pf C hd hs kk
  | getstatic k =>
    have hq := am_len hs
    clear hs
    obtain ⟨rfl, hs⟩ := hq
    exact as_gs C hd hs kk
  | iaload =>
    have hq := am_len hs
    clear hs
    obtain ⟨rfl, hs⟩ := hq
    exact as_ia C hd hs kk
  | baload =>
    have hq := am_len hs
    clear hs
    obtain ⟨rfl, hs⟩ := hq
    exact as_ba C hd hs kk
  | laload =>
    have hq := am_len hs
    clear hs
    obtain ⟨rfl, hs⟩ := hq
    exact as_la C hd hs kk
  | aaload =>
    have hq := am_len hs
    clear hs
    obtain ⟨rfl, hs⟩ := hq
    exact as_aa C hd hs kk
  | iastore =>
    have hq := am_len hs
    clear hs
    obtain ⟨rfl, hs⟩ := hq
    exact as_iS C hd hs kk
  | bastore =>
    have hq := am_len hs
    clear hs
    obtain ⟨rfl, hs⟩ := hq
    exact as_bS C hd hs kk
  | lastore =>
    have hq := am_len hs
    clear hs
    obtain ⟨rfl, hs⟩ := hq
    exact as_lS C hd hs kk
  | aastore =>
    have hq := am_len hs
    clear hs
    obtain ⟨rfl, hs⟩ := hq
    exact as_aS C hd hs kk
  | arraylength =>
    have hq := am_len hs
    clear hs
    obtain ⟨rfl, hs⟩ := hq
    exact as_le C hd hs kk
  | new k =>
    have hq := am_len hs
    clear hs
    obtain ⟨rfl, hs⟩ := hq
    exact as_nw C hd hroom hs kk
  | newarray t =>
    have hq := am_len hs
    clear hs
    obtain ⟨rfl, hs⟩ := hq
    exact as_na C hd hroom hs kk
  | anewarray k =>
    have hq := am_len hs
    clear hs
    obtain ⟨rfl, hs⟩ := hq
    exact as_nq C hd hroom hs kk
  | invokevirtual k =>
    have hq := am_len hs
    clear hs
    obtain ⟨rfl, hs⟩ := hq
    exfalso
    unfold am_iv at hs
    obtain ⟨ky, hk, hs⟩ := as_bind hs
    split at hs
    · split at hs
      · split at hs
        · split at hs
          · cases hs
          · cases hs
        · cases hs
      · cases hs
    · cases hs
  | invokestatic k =>
    have hq := am_len hs
    clear hs
    obtain ⟨rfl, hs⟩ := hq
    unfold am_vs at hs
    obtain ⟨⟨k9, y9⟩, hk, hs⟩ := as_bind hs
    obtain ⟨ps, hps⟩ := am_ml_spec hk
    split at hs
    · rename_i hc
      have hc : k9 = 7 := hc
      subst hc
      exact as_cy C hd hps hs kk
    · split at hs
      · rename_i hc
        have hc : k9 = 8 := hc
        subst hc
        split at hs
        · split at hs
          · rename_i h8
            obtain ⟨rfl, rfl, rfl, rfl⟩ := am_nx_eq hs
            exact as_max C hd hps h8 hroom kk
          · cases hs
        · cases hs
      · split at hs
        · rename_i hc
          have hc : k9 = 9 := hc
          subst hc
          split at hs
          · split at hs
            · rename_i h8
              obtain ⟨rfl, rfl, rfl, rfl⟩ := am_nx_eq hs
              exact as_min C hd hps h8 hroom kk
            · cases hs
          · cases hs
        · split at hs
          · cases hs
          · cases hs
  | invokespecial k =>
    have hq := am_len hs
    clear hs
    obtain ⟨rfl, hs⟩ := hq
    unfold am_vi at hs
    obtain ⟨⟨k9, y9⟩, hk, hs⟩ := as_bind hs
    obtain ⟨ps, hps⟩ := am_ml_spec hk
    split at hs
    · rename_i hc
      have hc : k9 = 6 := hc
      subst hc
      split at hs
      · split at hs
        · rename_i h8
          obtain ⟨rfl, rfl, rfl, rfl⟩ := am_nx_eq hs
          exact as_oi C hd hps h8 kk
        · cases hs
      · cases hs
    · split at hs
      · split at hs
        · split at hs
          · cases hs
          · cases hs
        · cases hs
      · cases hs
  | ireturn =>
    have hq := am_len hs
    clear hs
    obtain ⟨rfl, hs⟩ := hq
    unfold am_rt at hs
    split at hs
    · split at hs
      · cases hs
      · cases hs
    · cases hs
  | areturn =>
    have hq := am_len hs
    clear hs
    obtain ⟨rfl, hs⟩ := hq
    unfold am_ar at hs
    split at hs <;> cases hs
  | return_ =>
    have hq := am_len hs
    clear hs
    obtain ⟨rfl, hs⟩ := hq
    unfold am_vr at hs
    split at hs <;> cases hs
  | _ =>
    have hs : (none : Option AR) = some _ := hs
    cases hs
end SIM
