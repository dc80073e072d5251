theorem mz_sh_eq {r k : Nat} (e : Int32) : (((r : Int) + e.toInt) % (mz_m k : Int)).toNat = mz_sh r e k := by
  have hm := mz_m_lt k
  have h1 := Int.emod_nonneg e.toInt (show (mz_m k : Int) ≠ 0 by omega)
  unfold mz_sh
  obtain ⟨q, hq⟩ : ∃ q : Nat, e.toInt % (mz_m k : Int) = (q : Int) := ⟨(e.toInt % (mz_m k : Int)).toNat, by omega⟩
  rw [← Int.add_emod_emod, hq, Int.toNat_natCast, ← Int.natCast_add, ← Int.natCast_emod, Int.toNat_natCast]
section ZM17
variable {l : Launch} {P : zs_P} {d : Nat} {S : zs_S} {T : zs_S} {th : Int32} {o : Int64} {w : Nat × Nat} {e a b i k : Nat}
theorem zm_load {v : Int} (hi : i < 16) (hv : mz_hr v) : zg_C l (zs_E P) (d + 4) mM_load [.ref (zp_B P + 67), .int (nI i), .long (mz_L v)] (zs_σ P S th (zs_b T) o w) (.inl (none), zs_σ P S (nI 0) (zs_b (zs_sput T i v)) o w) := by
  refine zg_C_of (by decide +kernel) (Nat.le_of_ble_eq_true rfl) ?_
  refine zg_iload_n (zd_t dmM_load 0 rfl) rfl ?_
  refine zg_callS (zd_t dmM_load 1 rfl) zl_M_68 zm_mM_isRegister zst_mM_isRegister (av := _) (rest := _) (by rfl) (by rfl) (by exact Nat.le_of_ble_eq_true rfl) (zm_isRegister (nI i)) ?_
  refine zg_istore (zd_t dmM_load 2 rfl) (by decide) rfl ?_
  refine zg_aload_n (zd_t dmM_load 3 rfl) rfl ?_
  refine zg_iload (zd_t dmM_load 4 rfl) rfl ?_
  rw [decide_eq_true (zs_rg hi)]
  refine zg_if_ne (tgt := 16) (zd_t dmM_load 5 rfl) (by decide) (fun _ => ?_) (fun hq => absurd hq (by decide))
  refine zg_iconst (v := (nI 0)) (zd_t dmM_load 8 rfl) (by decide) ?_
  refine zg_iload (zd_t dmM_load 9 rfl) rfl ?_
  refine zg_if_eq (tgt := 42) (zd_t dmM_load 10 rfl) (by decide) (fun hq => absurd hq (by decide)) (fun _ => ?_)
  refine zg_lload_n (zd_t dmM_load 11 rfl) rfl ?_
  refine zg_aload_n (zd_t dmM_load 12 rfl) rfl ?_
  refine zg_getf (zd_t dmM_load 13 rfl) zf_M_39 zs_m0 rfl ?_
  refine zg_lneg (zd_t dmM_load 14 rfl) ?_
  refine zg_aload_n (zd_t dmM_load 15 rfl) rfl ?_
  refine zg_getf (zd_t dmM_load 16 rfl) zf_M_39 zs_m0 rfl ?_
  rw [mz_neg]
  refine zg_callS (zd_t dmM_load 17 rfl) zl_M_48 zm_mM_in zst_mM_in (av := _) (rest := _) (by rfl) (by rfl) (by exact Nat.le_of_ble_eq_true rfl) (zm_in (x := v) (y := -87553987462305) (z := 87553987462305) hv.i.w (by unfold mz_wi; omega) (by unfold mz_wi; omega)) ?_
  rw [decide_eq_true hv]
  refine zg_if_ne (tgt := 42) (zd_t dmM_load 18 rfl) (by decide) (fun _ => ?_) (fun hq => absurd hq (by decide))
  refine zg_iconst (v := (nI 0)) (zd_t dmM_load 21 rfl) (by decide) ?_
  refine zg_iconst (v := (nI 0)) (zd_t dmM_load 22 rfl) (by decide) ?_
  refine zg_callV (zd_t dmM_load 23 rfl) zl_M_72 zm_mM_refuse zi_mM_refuse zse_mM_refuse zs_m0 zs_cl3 rfl (av := _) (rest := _) (by rfl) (by rfl) (by exact Nat.le_of_ble_eq_true rfl) (zm_refuse false false false) ?_
  rw [show zs_rc false false false = 0 from rfl]
  refine zg_if_ne (tgt := 56) (zd_t dmM_load 24 rfl) (by decide) (fun hq => absurd (by decide) hq) (fun _ => ?_)
  refine zg_aload_n (zd_t dmM_load 25 rfl) rfl ?_
  refine zg_iload_n (zd_t dmM_load 26 rfl) rfl ?_
  refine zg_lload_n (zd_t dmM_load 27 rfl) rfl ?_
  refine zg_callV (zd_t dmM_load 28 rfl) zl_M_76 zm_mM_put zi_mM_put zse_mM_put zs_m0 zs_cl3 rfl (av := _) (rest := _) (by rfl) (by rfl) (by exact Nat.le_of_ble_eq_true rfl) (zm_put hi hv.i) ?_
  exact zg_vret (zd_t dmM_load 29 rfl) rfl rfl
theorem zm_loadX {r : Int32} {x : Int64} (h : ¬ zs_ir r) : zg_C l (zs_E P) (d + 4) mM_load [.ref (zp_B P + 67), .int r, .long x] (zs_σ P S th (zs_b T) o w) (.inl (none), zs_σ P S (nI 1) (zs_b (T)) o w) := by
  refine zg_C_of (by decide +kernel) (Nat.le_of_ble_eq_true rfl) ?_
  refine zg_iload_n (zd_t dmM_load 0 rfl) rfl ?_
  refine zg_callS (zd_t dmM_load 1 rfl) zl_M_68 zm_mM_isRegister zst_mM_isRegister (av := _) (rest := _) (by rfl) (by rfl) (by exact Nat.le_of_ble_eq_true rfl) (zm_isRegister r) ?_
  refine zg_istore (zd_t dmM_load 2 rfl) (by decide) rfl ?_
  refine zg_aload_n (zd_t dmM_load 3 rfl) rfl ?_
  refine zg_iload (zd_t dmM_load 4 rfl) rfl ?_
  rw [decide_eq_false h]
  refine zg_if_ne (tgt := 16) (zd_t dmM_load 5 rfl) (by decide) (fun hq => absurd (by decide) hq) (fun _ => ?_)
  refine zg_iconst (v := (nI 1)) (zd_t dmM_load 6 rfl) (by decide) ?_
  refine zg_goto (tgt := 17) (zd_t dmM_load 7 rfl) (by decide) ?_
  refine zg_iload (zd_t dmM_load 9 rfl) rfl ?_
  refine zg_if_eq (tgt := 42) (zd_t dmM_load 10 rfl) (by decide) (fun _ => ?_) (fun hq => absurd (by decide) hq)
  refine zg_iconst (v := (nI 0)) (zd_t dmM_load 21 rfl) (by decide) ?_
  refine zg_iconst (v := (nI 0)) (zd_t dmM_load 22 rfl) (by decide) ?_
  refine zg_callV (zd_t dmM_load 23 rfl) zl_M_72 zm_mM_refuse zi_mM_refuse zse_mM_refuse zs_m0 zs_cl3 rfl (av := _) (rest := _) (by rfl) (by rfl) (by exact Nat.le_of_ble_eq_true rfl) (zm_refuse true false false) ?_
  rw [show zs_rc true false false = 1 from rfl]
  refine zg_if_ne (tgt := 56) (zd_t dmM_load 24 rfl) (by decide) (fun _ => ?_) (fun hq => absurd hq (by decide))
  exact zg_vret (zd_t dmM_load 29 rfl) rfl rfl
theorem zm_loadY {v : Int} (hi : i < 16) (hw : mz_wi v) (hv : ¬ mz_hr v) : zg_C l (zs_E P) (d + 4) mM_load [.ref (zp_B P + 67), .int (nI i), .long (mz_L v)] (zs_σ P S th (zs_b T) o w) (.inl (none), zs_σ P S (nI 2) (zs_b (T)) o w) := by
  refine zg_C_of (by decide +kernel) (Nat.le_of_ble_eq_true rfl) ?_
  refine zg_iload_n (zd_t dmM_load 0 rfl) rfl ?_
  refine zg_callS (zd_t dmM_load 1 rfl) zl_M_68 zm_mM_isRegister zst_mM_isRegister (av := _) (rest := _) (by rfl) (by rfl) (by exact Nat.le_of_ble_eq_true rfl) (zm_isRegister (nI i)) ?_
  refine zg_istore (zd_t dmM_load 2 rfl) (by decide) rfl ?_
  refine zg_aload_n (zd_t dmM_load 3 rfl) rfl ?_
  refine zg_iload (zd_t dmM_load 4 rfl) rfl ?_
  rw [decide_eq_true (zs_rg hi)]
  refine zg_if_ne (tgt := 16) (zd_t dmM_load 5 rfl) (by decide) (fun _ => ?_) (fun hq => absurd hq (by decide))
  refine zg_iconst (v := (nI 0)) (zd_t dmM_load 8 rfl) (by decide) ?_
  refine zg_iload (zd_t dmM_load 9 rfl) rfl ?_
  refine zg_if_eq (tgt := 42) (zd_t dmM_load 10 rfl) (by decide) (fun hq => absurd hq (by decide)) (fun _ => ?_)
  refine zg_lload_n (zd_t dmM_load 11 rfl) rfl ?_
  refine zg_aload_n (zd_t dmM_load 12 rfl) rfl ?_
  refine zg_getf (zd_t dmM_load 13 rfl) zf_M_39 zs_m0 rfl ?_
  refine zg_lneg (zd_t dmM_load 14 rfl) ?_
  refine zg_aload_n (zd_t dmM_load 15 rfl) rfl ?_
  refine zg_getf (zd_t dmM_load 16 rfl) zf_M_39 zs_m0 rfl ?_
  rw [mz_neg]
  refine zg_callS (zd_t dmM_load 17 rfl) zl_M_48 zm_mM_in zst_mM_in (av := _) (rest := _) (by rfl) (by rfl) (by exact Nat.le_of_ble_eq_true rfl) (zm_in (x := v) (y := -87553987462305) (z := 87553987462305) hw (by unfold mz_wi; omega) (by unfold mz_wi; omega)) ?_
  rw [decide_eq_false hv]
  refine zg_if_ne (tgt := 42) (zd_t dmM_load 18 rfl) (by decide) (fun hq => absurd (by decide) hq) (fun _ => ?_)
  refine zg_iconst (v := (nI 1)) (zd_t dmM_load 19 rfl) (by decide) ?_
  refine zg_goto (tgt := 43) (zd_t dmM_load 20 rfl) (by decide) ?_
  refine zg_iconst (v := (nI 0)) (zd_t dmM_load 22 rfl) (by decide) ?_
  refine zg_callV (zd_t dmM_load 23 rfl) zl_M_72 zm_mM_refuse zi_mM_refuse zse_mM_refuse zs_m0 zs_cl3 rfl (av := _) (rest := _) (by rfl) (by rfl) (by exact Nat.le_of_ble_eq_true rfl) (zm_refuse false true false) ?_
  rw [show zs_rc false true false = 2 from rfl]
  refine zg_if_ne (tgt := 56) (zd_t dmM_load 24 rfl) (by decide) (fun _ => ?_) (fun hq => absurd hq (by decide))
  exact zg_vret (zd_t dmM_load 29 rfl) rfl rfl
theorem zm_binary (hi : i < 16) (hok : mz_ok (zs_re T i)) (hg : mz_good (zs_re T i)) : zg_C l (zs_E P) (d + 4) mM_binary [.ref (zp_B P + 67), .int (nI i)] (zs_σ P S th (zs_b T) o w) (.inl (some (.long (mz_L (mz_val (zs_re T i))))), zs_σ P S (nI 0) (zs_b (T)) o w) := by
  refine zg_C_of (by decide +kernel) (Nat.le_of_ble_eq_true rfl) ?_
  refine zg_iload_n (zd_t dmM_binary 0 rfl) rfl ?_
  refine zg_callS (zd_t dmM_binary 1 rfl) zl_M_68 zm_mM_isRegister zst_mM_isRegister (av := _) (rest := _) (by rfl) (by rfl) (by exact Nat.le_of_ble_eq_true rfl) (zm_isRegister (nI i)) ?_
  refine zg_istore_n (zd_t dmM_binary 2 rfl) (by decide) rfl ?_
  refine zg_aload_n (zd_t dmM_binary 3 rfl) rfl ?_
  refine zg_iload_n (zd_t dmM_binary 4 rfl) rfl ?_
  rw [decide_eq_true (zs_rg hi)]
  refine zg_if_ne (tgt := 14) (zd_t dmM_binary 5 rfl) (by decide) (fun _ => ?_) (fun hq => absurd hq (by decide))
  refine zg_iconst (v := (nI 0)) (zd_t dmM_binary 8 rfl) (by decide) ?_
  refine zg_iload_n (zd_t dmM_binary 9 rfl) rfl ?_
  refine zg_if_eq (tgt := 31) (zd_t dmM_binary 10 rfl) (by decide) (fun hq => absurd hq (by decide)) (fun _ => ?_)
  refine zg_aload_n (zd_t dmM_binary 11 rfl) rfl ?_
  refine zg_iload_n (zd_t dmM_binary 12 rfl) rfl ?_
  refine zg_callV (zd_t dmM_binary 13 rfl) zl_M_80 zm_mM_isGood zi_mM_isGood zse_mM_isGood zs_m0 zs_cl3 rfl (av := _) (rest := _) (by rfl) (by rfl) (by exact Nat.le_of_ble_eq_true rfl) (zm_isGood hi hok) ?_
  rw [decide_eq_true hg]
  refine zg_if_ne (tgt := 31) (zd_t dmM_binary 14 rfl) (by decide) (fun _ => ?_) (fun hq => absurd hq (by decide))
  refine zg_iconst (v := (nI 0)) (zd_t dmM_binary 17 rfl) (by decide) ?_
  refine zg_iconst (v := (nI 0)) (zd_t dmM_binary 18 rfl) (by decide) ?_
  refine zg_callV (zd_t dmM_binary 19 rfl) zl_M_72 zm_mM_refuse zi_mM_refuse zse_mM_refuse zs_m0 zs_cl3 rfl (av := _) (rest := _) (by rfl) (by rfl) (by exact Nat.le_of_ble_eq_true rfl) (zm_refuse false false false) ?_
  rw [show zs_rc false false false = 0 from rfl]
  refine zg_if_eq (tgt := 41) (zd_t dmM_binary 20 rfl) (by decide) (fun _ => ?_) (fun hq => absurd (by decide) hq)
  refine zg_aload_n (zd_t dmM_binary 23 rfl) rfl ?_
  refine zg_iload_n (zd_t dmM_binary 24 rfl) rfl ?_
  refine zg_callV (zd_t dmM_binary 25 rfl) zl_M_60 zm_mM_valueOf zi_mM_valueOf zse_mM_valueOf zs_m0 zs_cl3 rfl (av := _) (rest := _) (by rfl) (by rfl) (by exact Nat.le_of_ble_eq_true rfl) (zm_valueOf hi hok) ?_
  exact zg_lret (zd_t dmM_binary 26 rfl) rfl rfl
theorem zm_binaryX {r : Int32} (h : ¬ zs_ir r) : zg_C l (zs_E P) (d + 4) mM_binary [.ref (zp_B P + 67), .int r] (zs_σ P S th (zs_b T) o w) (.inl (some (.long (mz_L 0))), zs_σ P S (nI 1) (zs_b (T)) o w) := by
  refine zg_C_of (by decide +kernel) (Nat.le_of_ble_eq_true rfl) ?_
  refine zg_iload_n (zd_t dmM_binary 0 rfl) rfl ?_
  refine zg_callS (zd_t dmM_binary 1 rfl) zl_M_68 zm_mM_isRegister zst_mM_isRegister (av := _) (rest := _) (by rfl) (by rfl) (by exact Nat.le_of_ble_eq_true rfl) (zm_isRegister r) ?_
  refine zg_istore_n (zd_t dmM_binary 2 rfl) (by decide) rfl ?_
  refine zg_aload_n (zd_t dmM_binary 3 rfl) rfl ?_
  refine zg_iload_n (zd_t dmM_binary 4 rfl) rfl ?_
  rw [decide_eq_false h]
  refine zg_if_ne (tgt := 14) (zd_t dmM_binary 5 rfl) (by decide) (fun hq => absurd (by decide) hq) (fun _ => ?_)
  refine zg_iconst (v := (nI 1)) (zd_t dmM_binary 6 rfl) (by decide) ?_
  refine zg_goto (tgt := 15) (zd_t dmM_binary 7 rfl) (by decide) ?_
  refine zg_iload_n (zd_t dmM_binary 9 rfl) rfl ?_
  refine zg_if_eq (tgt := 31) (zd_t dmM_binary 10 rfl) (by decide) (fun _ => ?_) (fun hq => absurd (by decide) hq)
  refine zg_iconst (v := (nI 0)) (zd_t dmM_binary 17 rfl) (by decide) ?_
  refine zg_iconst (v := (nI 0)) (zd_t dmM_binary 18 rfl) (by decide) ?_
  refine zg_callV (zd_t dmM_binary 19 rfl) zl_M_72 zm_mM_refuse zi_mM_refuse zse_mM_refuse zs_m0 zs_cl3 rfl (av := _) (rest := _) (by rfl) (by rfl) (by exact Nat.le_of_ble_eq_true rfl) (zm_refuse true false false) ?_
  rw [show zs_rc true false false = 1 from rfl]
  refine zg_if_eq (tgt := 41) (zd_t dmM_binary 20 rfl) (by decide) (fun hq => absurd hq (by decide)) (fun _ => ?_)
  refine zg_lconst (v := mz_L 0) (zd_t dmM_binary 21 rfl) (by decide) ?_
  exact zg_lret (zd_t dmM_binary 22 rfl) rfl rfl
theorem zm_binaryY (hi : i < 16) (hok : mz_ok (zs_re T i)) (hg : ¬ mz_good (zs_re T i)) : zg_C l (zs_E P) (d + 4) mM_binary [.ref (zp_B P + 67), .int (nI i)] (zs_σ P S th (zs_b T) o w) (.inl (some (.long (mz_L 0))), zs_σ P S (nI 2) (zs_b (T)) o w) := by
  refine zg_C_of (by decide +kernel) (Nat.le_of_ble_eq_true rfl) ?_
  refine zg_iload_n (zd_t dmM_binary 0 rfl) rfl ?_
  refine zg_callS (zd_t dmM_binary 1 rfl) zl_M_68 zm_mM_isRegister zst_mM_isRegister (av := _) (rest := _) (by rfl) (by rfl) (by exact Nat.le_of_ble_eq_true rfl) (zm_isRegister (nI i)) ?_
  refine zg_istore_n (zd_t dmM_binary 2 rfl) (by decide) rfl ?_
  refine zg_aload_n (zd_t dmM_binary 3 rfl) rfl ?_
  refine zg_iload_n (zd_t dmM_binary 4 rfl) rfl ?_
  rw [decide_eq_true (zs_rg hi)]
  refine zg_if_ne (tgt := 14) (zd_t dmM_binary 5 rfl) (by decide) (fun _ => ?_) (fun hq => absurd hq (by decide))
  refine zg_iconst (v := (nI 0)) (zd_t dmM_binary 8 rfl) (by decide) ?_
  refine zg_iload_n (zd_t dmM_binary 9 rfl) rfl ?_
  refine zg_if_eq (tgt := 31) (zd_t dmM_binary 10 rfl) (by decide) (fun hq => absurd hq (by decide)) (fun _ => ?_)
  refine zg_aload_n (zd_t dmM_binary 11 rfl) rfl ?_
  refine zg_iload_n (zd_t dmM_binary 12 rfl) rfl ?_
  refine zg_callV (zd_t dmM_binary 13 rfl) zl_M_80 zm_mM_isGood zi_mM_isGood zse_mM_isGood zs_m0 zs_cl3 rfl (av := _) (rest := _) (by rfl) (by rfl) (by exact Nat.le_of_ble_eq_true rfl) (zm_isGood hi hok) ?_
  rw [decide_eq_false hg]
  refine zg_if_ne (tgt := 31) (zd_t dmM_binary 14 rfl) (by decide) (fun hq => absurd (by decide) hq) (fun _ => ?_)
  refine zg_iconst (v := (nI 1)) (zd_t dmM_binary 15 rfl) (by decide) ?_
  refine zg_goto (tgt := 32) (zd_t dmM_binary 16 rfl) (by decide) ?_
  refine zg_iconst (v := (nI 0)) (zd_t dmM_binary 18 rfl) (by decide) ?_
  refine zg_callV (zd_t dmM_binary 19 rfl) zl_M_72 zm_mM_refuse zi_mM_refuse zse_mM_refuse zs_m0 zs_cl3 rfl (av := _) (rest := _) (by rfl) (by rfl) (by exact Nat.le_of_ble_eq_true rfl) (zm_refuse false true false) ?_
  rw [show zs_rc false true false = 2 from rfl]
  refine zg_if_eq (tgt := 41) (zd_t dmM_binary 20 rfl) (by decide) (fun hq => absurd hq (by decide)) (fun _ => ?_)
  refine zg_lconst (v := mz_L 0) (zd_t dmM_binary 21 rfl) (by decide) ?_
  exact zg_lret (zd_t dmM_binary 22 rfl) rfl rfl
theorem zm_work {q : Nat} (hq : q < 4) (he : e < 16) (ha : a < 16) (hb : b < 16) (hI : zs_inv T) : zg_C l (zs_E P) (d + 4) mM_work [.ref (zp_B P + 67), .int (nI q), .int (nI e), .int (nI a), .int (nI b)] (zs_σ P S th (zs_b T) o w) (.inl (none), zs_σ P S (nI 0) (zs_b (zs_scmb T q e a b)) o w) := by
  refine zg_C_of (by decide +kernel) (Nat.le_of_ble_eq_true rfl) ?_
  refine zg_iload_n (zd_t dmM_work 0 rfl) rfl ?_
  refine zg_callS (zd_t dmM_work 1 rfl) zl_M_68 zm_mM_isRegister zst_mM_isRegister (av := _) (rest := _) (by rfl) (by rfl) (by exact Nat.le_of_ble_eq_true rfl) (zm_isRegister (nI e)) ?_
  rw [decide_eq_true (zs_rg he)]
  refine zg_if_eq (tgt := 26) (zd_t dmM_work 2 rfl) (by decide) (fun hq => absurd hq (by decide)) (fun _ => ?_)
  refine zg_iload_n (zd_t dmM_work 3 rfl) rfl ?_
  refine zg_callS (zd_t dmM_work 4 rfl) zl_M_68 zm_mM_isRegister zst_mM_isRegister (av := _) (rest := _) (by rfl) (by rfl) (by exact Nat.le_of_ble_eq_true rfl) (zm_isRegister (nI a)) ?_
  rw [decide_eq_true (zs_rg ha)]
  refine zg_if_eq (tgt := 26) (zd_t dmM_work 5 rfl) (by decide) (fun hq => absurd hq (by decide)) (fun _ => ?_)
  refine zg_iload (zd_t dmM_work 6 rfl) rfl ?_
  refine zg_callS (zd_t dmM_work 7 rfl) zl_M_68 zm_mM_isRegister zst_mM_isRegister (av := _) (rest := _) (by rfl) (by rfl) (by exact Nat.le_of_ble_eq_true rfl) (zm_isRegister (nI b)) ?_
  rw [decide_eq_true (zs_rg hb)]
  refine zg_if_eq (tgt := 26) (zd_t dmM_work 8 rfl) (by decide) (fun hq => absurd hq (by decide)) (fun _ => ?_)
  refine zg_iconst (v := (nI 1)) (zd_t dmM_work 9 rfl) (by decide) ?_
  refine zg_goto (tgt := 27) (zd_t dmM_work 10 rfl) (by decide) ?_
  refine zg_istore (zd_t dmM_work 12 rfl) (by decide) rfl ?_
  refine zg_aload_n (zd_t dmM_work 13 rfl) rfl ?_
  refine zg_iload (zd_t dmM_work 14 rfl) rfl ?_
  refine zg_if_ne (tgt := 39) (zd_t dmM_work 15 rfl) (by decide) (fun _ => ?_) (fun hq => absurd hq (by decide))
  refine zg_iconst (v := (nI 0)) (zd_t dmM_work 18 rfl) (by decide) ?_
  refine zg_iload (zd_t dmM_work 19 rfl) rfl ?_
  refine zg_if_eq (tgt := 61) (zd_t dmM_work 20 rfl) (by decide) (fun hq => absurd hq (by decide)) (fun _ => ?_)
  refine zg_iload_n (zd_t dmM_work 21 rfl) rfl ?_
  refine zg_i2l (zd_t dmM_work 22 rfl) rfl ?_
  refine zg_lconst (v := mz_L 0) (zd_t dmM_work 23 rfl) (by decide) ?_
  refine zg_ldc2 (zd_t dmM_work 24 rfl) zc_M_101 ?_
  rw [zs_i2l]
  refine zg_callS (zd_t dmM_work 25 rfl) zl_M_48 zm_mM_in zst_mM_in (av := _) (rest := _) (by rfl) (by rfl) (by exact Nat.le_of_ble_eq_true rfl) (zm_in (x := (nI q).toInt) (y := 0) (z := 3) (zs_wi32 _) (by unfold mz_wi; omega) (by unfold mz_wi; omega)) ?_
  rw [decide_eq_true (by rw [nI_toInt (by omega)]; omega)]
  refine zg_if_ne (tgt := 61) (zd_t dmM_work 26 rfl) (by decide) (fun _ => ?_) (fun hq => absurd hq (by decide))
  refine zg_iconst (v := (nI 0)) (zd_t dmM_work 29 rfl) (by decide) ?_
  refine zg_iconst (v := (nI 0)) (zd_t dmM_work 30 rfl) (by decide) ?_
  refine zg_callV (zd_t dmM_work 31 rfl) zl_M_72 zm_mM_refuse zi_mM_refuse zse_mM_refuse zs_m0 zs_cl3 rfl (av := _) (rest := _) (by rfl) (by rfl) (by exact Nat.le_of_ble_eq_true rfl) (zm_refuse false false false) ?_
  rw [show zs_rc false false false = 0 from rfl]
  refine zg_if_ne (tgt := 78) (zd_t dmM_work 32 rfl) (by decide) (fun hq => absurd (by decide) hq) (fun _ => ?_)
  refine zg_aload_n (zd_t dmM_work 33 rfl) rfl ?_
  refine zg_iload_n (zd_t dmM_work 34 rfl) rfl ?_
  refine zg_iload_n (zd_t dmM_work 35 rfl) rfl ?_
  refine zg_iload_n (zd_t dmM_work 36 rfl) rfl ?_
  refine zg_iload (zd_t dmM_work 37 rfl) rfl ?_
  refine zg_callV (zd_t dmM_work 38 rfl) zl_M_103 zm_mM_reckon zi_mM_reckon zse_mM_reckon zs_m0 zs_cl3 rfl (av := _) (rest := _) (by rfl) (by rfl) (by exact Nat.le_of_ble_eq_true rfl) (zm_reckon hq he ha hb hI) ?_
  exact zg_vret (zd_t dmM_work 39 rfl) rfl rfl
theorem zm_workX {q x y z : Int32} (h : ¬ (zs_ir x ∧ zs_ir y ∧ zs_ir z)) : zg_C l (zs_E P) (d + 4) mM_work [.ref (zp_B P + 67), .int q, .int x, .int y, .int z] (zs_σ P S th (zs_b T) o w) (.inl (none), zs_σ P S (nI 1) (zs_b (T)) o w) := by
  refine zg_C_of (by decide +kernel) (Nat.le_of_ble_eq_true rfl) ?_
  by_cases h0 : zs_ir x
  · skip
    by_cases h1 : zs_ir y
    · skip
      by_cases h2 : zs_ir z
      · skip
        exact absurd ⟨h0, h1, h2⟩ h
      · skip
        refine zg_iload_n (zd_t dmM_work 0 rfl) rfl ?_
        refine zg_callS (zd_t dmM_work 1 rfl) zl_M_68 zm_mM_isRegister zst_mM_isRegister (av := _) (rest := _) (by rfl) (by rfl) (by exact Nat.le_of_ble_eq_true rfl) (zm_isRegister x) ?_
        rw [decide_eq_true h0]
        refine zg_if_eq (tgt := 26) (zd_t dmM_work 2 rfl) (by decide) (fun hq => absurd hq (by decide)) (fun _ => ?_)
        refine zg_iload_n (zd_t dmM_work 3 rfl) rfl ?_
        refine zg_callS (zd_t dmM_work 4 rfl) zl_M_68 zm_mM_isRegister zst_mM_isRegister (av := _) (rest := _) (by rfl) (by rfl) (by exact Nat.le_of_ble_eq_true rfl) (zm_isRegister y) ?_
        rw [decide_eq_true h1]
        refine zg_if_eq (tgt := 26) (zd_t dmM_work 5 rfl) (by decide) (fun hq => absurd hq (by decide)) (fun _ => ?_)
        refine zg_iload (zd_t dmM_work 6 rfl) rfl ?_
        refine zg_callS (zd_t dmM_work 7 rfl) zl_M_68 zm_mM_isRegister zst_mM_isRegister (av := _) (rest := _) (by rfl) (by rfl) (by exact Nat.le_of_ble_eq_true rfl) (zm_isRegister z) ?_
        rw [decide_eq_false h2]
        refine zg_if_eq (tgt := 26) (zd_t dmM_work 8 rfl) (by decide) (fun _ => ?_) (fun hq => absurd (by decide) hq)
        refine zg_iconst (v := (nI 0)) (zd_t dmM_work 11 rfl) (by decide) ?_
        refine zg_istore (zd_t dmM_work 12 rfl) (by decide) rfl ?_
        refine zg_aload_n (zd_t dmM_work 13 rfl) rfl ?_
        refine zg_iload (zd_t dmM_work 14 rfl) rfl ?_
        refine zg_if_ne (tgt := 39) (zd_t dmM_work 15 rfl) (by decide) (fun hq => absurd (by decide) hq) (fun _ => ?_)
        refine zg_iconst (v := (nI 1)) (zd_t dmM_work 16 rfl) (by decide) ?_
        refine zg_goto (tgt := 40) (zd_t dmM_work 17 rfl) (by decide) ?_
        refine zg_iload (zd_t dmM_work 19 rfl) rfl ?_
        refine zg_if_eq (tgt := 61) (zd_t dmM_work 20 rfl) (by decide) (fun _ => ?_) (fun hq => absurd (by decide) hq)
        refine zg_iconst (v := (nI 0)) (zd_t dmM_work 29 rfl) (by decide) ?_
        refine zg_iconst (v := (nI 0)) (zd_t dmM_work 30 rfl) (by decide) ?_
        refine zg_callV (zd_t dmM_work 31 rfl) zl_M_72 zm_mM_refuse zi_mM_refuse zse_mM_refuse zs_m0 zs_cl3 rfl (av := _) (rest := _) (by rfl) (by rfl) (by exact Nat.le_of_ble_eq_true rfl) (zm_refuse true false false) ?_
        rw [show zs_rc true false false = 1 from rfl]
        refine zg_if_ne (tgt := 78) (zd_t dmM_work 32 rfl) (by decide) (fun _ => ?_) (fun hq => absurd hq (by decide))
        exact zg_vret (zd_t dmM_work 39 rfl) rfl rfl
    · skip
      refine zg_iload_n (zd_t dmM_work 0 rfl) rfl ?_
      refine zg_callS (zd_t dmM_work 1 rfl) zl_M_68 zm_mM_isRegister zst_mM_isRegister (av := _) (rest := _) (by rfl) (by rfl) (by exact Nat.le_of_ble_eq_true rfl) (zm_isRegister x) ?_
      rw [decide_eq_true h0]
      refine zg_if_eq (tgt := 26) (zd_t dmM_work 2 rfl) (by decide) (fun hq => absurd hq (by decide)) (fun _ => ?_)
      refine zg_iload_n (zd_t dmM_work 3 rfl) rfl ?_
      refine zg_callS (zd_t dmM_work 4 rfl) zl_M_68 zm_mM_isRegister zst_mM_isRegister (av := _) (rest := _) (by rfl) (by rfl) (by exact Nat.le_of_ble_eq_true rfl) (zm_isRegister y) ?_
      rw [decide_eq_false h1]
      refine zg_if_eq (tgt := 26) (zd_t dmM_work 5 rfl) (by decide) (fun _ => ?_) (fun hq => absurd (by decide) hq)
      refine zg_iconst (v := (nI 0)) (zd_t dmM_work 11 rfl) (by decide) ?_
      refine zg_istore (zd_t dmM_work 12 rfl) (by decide) rfl ?_
      refine zg_aload_n (zd_t dmM_work 13 rfl) rfl ?_
      refine zg_iload (zd_t dmM_work 14 rfl) rfl ?_
      refine zg_if_ne (tgt := 39) (zd_t dmM_work 15 rfl) (by decide) (fun hq => absurd (by decide) hq) (fun _ => ?_)
      refine zg_iconst (v := (nI 1)) (zd_t dmM_work 16 rfl) (by decide) ?_
      refine zg_goto (tgt := 40) (zd_t dmM_work 17 rfl) (by decide) ?_
      refine zg_iload (zd_t dmM_work 19 rfl) rfl ?_
      refine zg_if_eq (tgt := 61) (zd_t dmM_work 20 rfl) (by decide) (fun _ => ?_) (fun hq => absurd (by decide) hq)
      refine zg_iconst (v := (nI 0)) (zd_t dmM_work 29 rfl) (by decide) ?_
      refine zg_iconst (v := (nI 0)) (zd_t dmM_work 30 rfl) (by decide) ?_
      refine zg_callV (zd_t dmM_work 31 rfl) zl_M_72 zm_mM_refuse zi_mM_refuse zse_mM_refuse zs_m0 zs_cl3 rfl (av := _) (rest := _) (by rfl) (by rfl) (by exact Nat.le_of_ble_eq_true rfl) (zm_refuse true false false) ?_
      rw [show zs_rc true false false = 1 from rfl]
      refine zg_if_ne (tgt := 78) (zd_t dmM_work 32 rfl) (by decide) (fun _ => ?_) (fun hq => absurd hq (by decide))
      exact zg_vret (zd_t dmM_work 39 rfl) rfl rfl
  · skip
    refine zg_iload_n (zd_t dmM_work 0 rfl) rfl ?_
    refine zg_callS (zd_t dmM_work 1 rfl) zl_M_68 zm_mM_isRegister zst_mM_isRegister (av := _) (rest := _) (by rfl) (by rfl) (by exact Nat.le_of_ble_eq_true rfl) (zm_isRegister x) ?_
    rw [decide_eq_false h0]
    refine zg_if_eq (tgt := 26) (zd_t dmM_work 2 rfl) (by decide) (fun _ => ?_) (fun hq => absurd (by decide) hq)
    refine zg_iconst (v := (nI 0)) (zd_t dmM_work 11 rfl) (by decide) ?_
    refine zg_istore (zd_t dmM_work 12 rfl) (by decide) rfl ?_
    refine zg_aload_n (zd_t dmM_work 13 rfl) rfl ?_
    refine zg_iload (zd_t dmM_work 14 rfl) rfl ?_
    refine zg_if_ne (tgt := 39) (zd_t dmM_work 15 rfl) (by decide) (fun hq => absurd (by decide) hq) (fun _ => ?_)
    refine zg_iconst (v := (nI 1)) (zd_t dmM_work 16 rfl) (by decide) ?_
    refine zg_goto (tgt := 40) (zd_t dmM_work 17 rfl) (by decide) ?_
    refine zg_iload (zd_t dmM_work 19 rfl) rfl ?_
    refine zg_if_eq (tgt := 61) (zd_t dmM_work 20 rfl) (by decide) (fun _ => ?_) (fun hq => absurd (by decide) hq)
    refine zg_iconst (v := (nI 0)) (zd_t dmM_work 29 rfl) (by decide) ?_
    refine zg_iconst (v := (nI 0)) (zd_t dmM_work 30 rfl) (by decide) ?_
    refine zg_callV (zd_t dmM_work 31 rfl) zl_M_72 zm_mM_refuse zi_mM_refuse zse_mM_refuse zs_m0 zs_cl3 rfl (av := _) (rest := _) (by rfl) (by rfl) (by exact Nat.le_of_ble_eq_true rfl) (zm_refuse true false false) ?_
    rw [show zs_rc true false false = 1 from rfl]
    refine zg_if_ne (tgt := 78) (zd_t dmM_work 32 rfl) (by decide) (fun _ => ?_) (fun hq => absurd hq (by decide))
    exact zg_vret (zd_t dmM_work 39 rfl) rfl rfl
theorem zm_workY {q : Int32} (hq : ¬ (0 ≤ q.toInt ∧ q.toInt ≤ 3)) (he : e < 16) (ha : a < 16) (hb : b < 16) : zg_C l (zs_E P) (d + 4) mM_work [.ref (zp_B P + 67), .int q, .int (nI e), .int (nI a), .int (nI b)] (zs_σ P S th (zs_b T) o w) (.inl (none), zs_σ P S (nI 2) (zs_b (T)) o w) := by
  refine zg_C_of (by decide +kernel) (Nat.le_of_ble_eq_true rfl) ?_
  refine zg_iload_n (zd_t dmM_work 0 rfl) rfl ?_
  refine zg_callS (zd_t dmM_work 1 rfl) zl_M_68 zm_mM_isRegister zst_mM_isRegister (av := _) (rest := _) (by rfl) (by rfl) (by exact Nat.le_of_ble_eq_true rfl) (zm_isRegister (nI e)) ?_
  rw [decide_eq_true (zs_rg he)]
  refine zg_if_eq (tgt := 26) (zd_t dmM_work 2 rfl) (by decide) (fun hq => absurd hq (by decide)) (fun _ => ?_)
  refine zg_iload_n (zd_t dmM_work 3 rfl) rfl ?_
  refine zg_callS (zd_t dmM_work 4 rfl) zl_M_68 zm_mM_isRegister zst_mM_isRegister (av := _) (rest := _) (by rfl) (by rfl) (by exact Nat.le_of_ble_eq_true rfl) (zm_isRegister (nI a)) ?_
  rw [decide_eq_true (zs_rg ha)]
  refine zg_if_eq (tgt := 26) (zd_t dmM_work 5 rfl) (by decide) (fun hq => absurd hq (by decide)) (fun _ => ?_)
  refine zg_iload (zd_t dmM_work 6 rfl) rfl ?_
  refine zg_callS (zd_t dmM_work 7 rfl) zl_M_68 zm_mM_isRegister zst_mM_isRegister (av := _) (rest := _) (by rfl) (by rfl) (by exact Nat.le_of_ble_eq_true rfl) (zm_isRegister (nI b)) ?_
  rw [decide_eq_true (zs_rg hb)]
  refine zg_if_eq (tgt := 26) (zd_t dmM_work 8 rfl) (by decide) (fun hq => absurd hq (by decide)) (fun _ => ?_)
  refine zg_iconst (v := (nI 1)) (zd_t dmM_work 9 rfl) (by decide) ?_
  refine zg_goto (tgt := 27) (zd_t dmM_work 10 rfl) (by decide) ?_
  refine zg_istore (zd_t dmM_work 12 rfl) (by decide) rfl ?_
  refine zg_aload_n (zd_t dmM_work 13 rfl) rfl ?_
  refine zg_iload (zd_t dmM_work 14 rfl) rfl ?_
  refine zg_if_ne (tgt := 39) (zd_t dmM_work 15 rfl) (by decide) (fun _ => ?_) (fun hq => absurd hq (by decide))
  refine zg_iconst (v := (nI 0)) (zd_t dmM_work 18 rfl) (by decide) ?_
  refine zg_iload (zd_t dmM_work 19 rfl) rfl ?_
  refine zg_if_eq (tgt := 61) (zd_t dmM_work 20 rfl) (by decide) (fun hq => absurd hq (by decide)) (fun _ => ?_)
  refine zg_iload_n (zd_t dmM_work 21 rfl) rfl ?_
  refine zg_i2l (zd_t dmM_work 22 rfl) rfl ?_
  refine zg_lconst (v := mz_L 0) (zd_t dmM_work 23 rfl) (by decide) ?_
  refine zg_ldc2 (zd_t dmM_work 24 rfl) zc_M_101 ?_
  rw [zs_i2l]
  refine zg_callS (zd_t dmM_work 25 rfl) zl_M_48 zm_mM_in zst_mM_in (av := _) (rest := _) (by rfl) (by rfl) (by exact Nat.le_of_ble_eq_true rfl) (zm_in (x := q.toInt) (y := 0) (z := 3) (zs_wi32 _) (by unfold mz_wi; omega) (by unfold mz_wi; omega)) ?_
  rw [decide_eq_false hq]
  refine zg_if_ne (tgt := 61) (zd_t dmM_work 26 rfl) (by decide) (fun hq => absurd (by decide) hq) (fun _ => ?_)
  refine zg_iconst (v := (nI 1)) (zd_t dmM_work 27 rfl) (by decide) ?_
  refine zg_goto (tgt := 62) (zd_t dmM_work 28 rfl) (by decide) ?_
  refine zg_iconst (v := (nI 0)) (zd_t dmM_work 30 rfl) (by decide) ?_
  refine zg_callV (zd_t dmM_work 31 rfl) zl_M_72 zm_mM_refuse zi_mM_refuse zse_mM_refuse zs_m0 zs_cl3 rfl (av := _) (rest := _) (by rfl) (by rfl) (by exact Nat.le_of_ble_eq_true rfl) (zm_refuse false true false) ?_
  rw [show zs_rc false true false = 2 from rfl]
  refine zg_if_ne (tgt := 78) (zd_t dmM_work 32 rfl) (by decide) (fun _ => ?_) (fun hq => absurd hq (by decide))
  exact zg_vret (zd_t dmM_work 39 rfl) rfl rfl
theorem zm_compare_t {σ : zg_H} {x y : Int} {lv : List (Nat × Value)} (v1 : mz_in x) (v2 : mz_in y) : zg_G l (zs_E P) d mM_compare 43 ((5, .long (mz_L y)) :: (3, .long (mz_L x)) :: lv) [] σ (.inl (some (.int (mz_cp x y))), σ) := by
  unfold mz_cp
  refine zg_lload_n (zd_t dmM_compare 24 rfl) rfl ?_
  refine zg_lload (zd_t dmM_compare 25 rfl) rfl ?_
  refine zg_lcmp (zd_t dmM_compare 26 rfl) ?_
  refine zg_if_ge (tgt := 54) (zd_t dmM_compare 27 rfl) (by decide) (fun h1 => ?_) (fun h1 => ?_)
  · rw [lg_cmp_ge, mz_le v2 v1] at h1
    rw [if_neg (by omega)]
    refine zg_lload_n (zd_t dmM_compare 30 rfl) rfl ?_
    refine zg_lload (zd_t dmM_compare 31 rfl) rfl ?_
    refine zg_lcmp (zd_t dmM_compare 32 rfl) ?_
    refine zg_if_le (tgt := 65) (zd_t dmM_compare 33 rfl) (by decide) (fun h2 => ?_) (fun h2 => ?_)
    · rw [lg_cmp_le, mz_le v1 v2] at h2
      rw [if_neg (by omega)]
      refine zg_iconst (v := (nI 0)) (zd_t dmM_compare 36 rfl) (by decide) ?_
      exact zg_iret (zd_t dmM_compare 37 rfl) rfl rfl
    · rw [lg_cmp_le, mz_le v1 v2] at h2
      rw [if_pos (by omega)]
      refine zg_iconst (v := (nI 1)) (zd_t dmM_compare 34 rfl) (by decide) ?_
      refine zg_goto (tgt := 66) (zd_t dmM_compare 35 rfl) (by decide) ?_
      exact zg_iret (zd_t dmM_compare 37 rfl) rfl rfl
  · rw [lg_cmp_ge, mz_le v2 v1] at h1
    rw [if_pos (by omega)]
    refine zg_iconst (v := (-1)) (zd_t dmM_compare 28 rfl) (by decide) ?_
    refine zg_goto (tgt := 66) (zd_t dmM_compare 29 rfl) (by decide) ?_
    exact zg_iret (zd_t dmM_compare 37 rfl) rfl rfl
theorem zm_compare (ha : a < 16) (hb : b < 16) (hI : zs_inv T) : zg_C l (zs_E P) (d + 4) mM_compare [.ref (zp_B P + 67), .int (nI a), .int (nI b)] (zs_σ P S th (zs_b T) o w) (.inl (some (.int (mz_cp (mz_val (zs_re T a)) (mz_val (zs_re T b))))), zs_σ P S (nI 0) (zs_b (T)) o w) := by
  refine zg_C_of (by decide +kernel) (Nat.le_of_ble_eq_true rfl) ?_
  refine zg_aload_n (zd_t dmM_compare 0 rfl) rfl ?_
  refine zg_iload_n (zd_t dmM_compare 1 rfl) rfl ?_
  refine zg_callS (zd_t dmM_compare 2 rfl) zl_M_68 zm_mM_isRegister zst_mM_isRegister (av := _) (rest := _) (by rfl) (by rfl) (by exact Nat.le_of_ble_eq_true rfl) (zm_isRegister (nI a)) ?_
  rw [decide_eq_true (zs_rg ha)]
  refine zg_if_eq (tgt := 15) (zd_t dmM_compare 3 rfl) (by decide) (fun hq => absurd hq (by decide)) (fun _ => ?_)
  refine zg_iload_n (zd_t dmM_compare 4 rfl) rfl ?_
  refine zg_callS (zd_t dmM_compare 5 rfl) zl_M_68 zm_mM_isRegister zst_mM_isRegister (av := _) (rest := _) (by rfl) (by rfl) (by exact Nat.le_of_ble_eq_true rfl) (zm_isRegister (nI b)) ?_
  rw [decide_eq_true (zs_rg hb)]
  refine zg_if_ne (tgt := 19) (zd_t dmM_compare 6 rfl) (by decide) (fun _ => ?_) (fun hq => absurd hq (by decide))
  refine zg_iconst (v := (nI 0)) (zd_t dmM_compare 9 rfl) (by decide) ?_
  refine zg_iconst (v := (nI 0)) (zd_t dmM_compare 10 rfl) (by decide) ?_
  refine zg_iconst (v := (nI 0)) (zd_t dmM_compare 11 rfl) (by decide) ?_
  refine zg_callV (zd_t dmM_compare 12 rfl) zl_M_72 zm_mM_refuse zi_mM_refuse zse_mM_refuse zs_m0 zs_cl3 rfl (av := _) (rest := _) (by rfl) (by rfl) (by exact Nat.le_of_ble_eq_true rfl) (zm_refuse false false false) ?_
  rw [show zs_rc false false false = 0 from rfl]
  refine zg_if_eq (tgt := 30) (zd_t dmM_compare 13 rfl) (by decide) (fun _ => ?_) (fun hq => absurd (by decide) hq)
  refine zg_aload_n (zd_t dmM_compare 16 rfl) rfl ?_
  refine zg_iload_n (zd_t dmM_compare 17 rfl) rfl ?_
  refine zg_callV (zd_t dmM_compare 18 rfl) zl_M_60 zm_mM_valueOf zi_mM_valueOf zse_mM_valueOf zs_m0 zs_cl3 rfl (av := _) (rest := _) (by rfl) (by rfl) (by exact Nat.le_of_ble_eq_true rfl) (zm_valueOf ha (hI.1 a ha)) ?_
  refine zg_lstore_n (zd_t dmM_compare 19 rfl) (by decide) rfl ?_
  refine zg_aload_n (zd_t dmM_compare 20 rfl) rfl ?_
  refine zg_iload_n (zd_t dmM_compare 21 rfl) rfl ?_
  refine zg_callV (zd_t dmM_compare 22 rfl) zl_M_60 zm_mM_valueOf zi_mM_valueOf zse_mM_valueOf zs_m0 zs_cl3 rfl (av := _) (rest := _) (by rfl) (by rfl) (by exact Nat.le_of_ble_eq_true rfl) (zm_valueOf hb (hI.1 b hb)) ?_
  refine zg_lstore (zd_t dmM_compare 23 rfl) (by decide) rfl ?_
  exact zm_compare_t (mz_val_in _) (mz_val_in _)
theorem zm_compareX {x y : Int32} (h : ¬ (zs_ir x ∧ zs_ir y)) : zg_C l (zs_E P) (d + 4) mM_compare [.ref (zp_B P + 67), .int x, .int y] (zs_σ P S th (zs_b T) o w) (.inl (some (.int (nI 0))), zs_σ P S (nI 1) (zs_b (T)) o w) := by
  refine zg_C_of (by decide +kernel) (Nat.le_of_ble_eq_true rfl) ?_
  by_cases h0 : zs_ir x
  · skip
    by_cases h1 : zs_ir y
    · skip
      exact absurd ⟨h0, h1⟩ h
    · skip
      refine zg_aload_n (zd_t dmM_compare 0 rfl) rfl ?_
      refine zg_iload_n (zd_t dmM_compare 1 rfl) rfl ?_
      refine zg_callS (zd_t dmM_compare 2 rfl) zl_M_68 zm_mM_isRegister zst_mM_isRegister (av := _) (rest := _) (by rfl) (by rfl) (by exact Nat.le_of_ble_eq_true rfl) (zm_isRegister x) ?_
      rw [decide_eq_true h0]
      refine zg_if_eq (tgt := 15) (zd_t dmM_compare 3 rfl) (by decide) (fun hq => absurd hq (by decide)) (fun _ => ?_)
      refine zg_iload_n (zd_t dmM_compare 4 rfl) rfl ?_
      refine zg_callS (zd_t dmM_compare 5 rfl) zl_M_68 zm_mM_isRegister zst_mM_isRegister (av := _) (rest := _) (by rfl) (by rfl) (by exact Nat.le_of_ble_eq_true rfl) (zm_isRegister y) ?_
      rw [decide_eq_false h1]
      refine zg_if_ne (tgt := 19) (zd_t dmM_compare 6 rfl) (by decide) (fun hq => absurd (by decide) hq) (fun _ => ?_)
      refine zg_iconst (v := (nI 1)) (zd_t dmM_compare 7 rfl) (by decide) ?_
      refine zg_goto (tgt := 20) (zd_t dmM_compare 8 rfl) (by decide) ?_
      refine zg_iconst (v := (nI 0)) (zd_t dmM_compare 10 rfl) (by decide) ?_
      refine zg_iconst (v := (nI 0)) (zd_t dmM_compare 11 rfl) (by decide) ?_
      refine zg_callV (zd_t dmM_compare 12 rfl) zl_M_72 zm_mM_refuse zi_mM_refuse zse_mM_refuse zs_m0 zs_cl3 rfl (av := _) (rest := _) (by rfl) (by rfl) (by exact Nat.le_of_ble_eq_true rfl) (zm_refuse true false false) ?_
      rw [show zs_rc true false false = 1 from rfl]
      refine zg_if_eq (tgt := 30) (zd_t dmM_compare 13 rfl) (by decide) (fun hq => absurd hq (by decide)) (fun _ => ?_)
      refine zg_iconst (v := (nI 0)) (zd_t dmM_compare 14 rfl) (by decide) ?_
      exact zg_iret (zd_t dmM_compare 15 rfl) rfl rfl
  · skip
    refine zg_aload_n (zd_t dmM_compare 0 rfl) rfl ?_
    refine zg_iload_n (zd_t dmM_compare 1 rfl) rfl ?_
    refine zg_callS (zd_t dmM_compare 2 rfl) zl_M_68 zm_mM_isRegister zst_mM_isRegister (av := _) (rest := _) (by rfl) (by rfl) (by exact Nat.le_of_ble_eq_true rfl) (zm_isRegister x) ?_
    rw [decide_eq_false h0]
    refine zg_if_eq (tgt := 15) (zd_t dmM_compare 3 rfl) (by decide) (fun _ => ?_) (fun hq => absurd (by decide) hq)
    refine zg_iconst (v := (nI 1)) (zd_t dmM_compare 7 rfl) (by decide) ?_
    refine zg_goto (tgt := 20) (zd_t dmM_compare 8 rfl) (by decide) ?_
    refine zg_iconst (v := (nI 0)) (zd_t dmM_compare 10 rfl) (by decide) ?_
    refine zg_iconst (v := (nI 0)) (zd_t dmM_compare 11 rfl) (by decide) ?_
    refine zg_callV (zd_t dmM_compare 12 rfl) zl_M_72 zm_mM_refuse zi_mM_refuse zse_mM_refuse zs_m0 zs_cl3 rfl (av := _) (rest := _) (by rfl) (by rfl) (by exact Nat.le_of_ble_eq_true rfl) (zm_refuse true false false) ?_
    rw [show zs_rc true false false = 1 from rfl]
    refine zg_if_eq (tgt := 30) (zd_t dmM_compare 13 rfl) (by decide) (fun hq => absurd hq (by decide)) (fun _ => ?_)
    refine zg_iconst (v := (nI 0)) (zd_t dmM_compare 14 rfl) (by decide) ?_
    exact zg_iret (zd_t dmM_compare 15 rfl) rfl rfl
theorem zm_scale {x : Nat} {n : Bool} (he : e < 16) (ha : a < 16) (hx : x < 64) (hm : mz_sm (nI x)) (hp : mz_pop x ≤ 4) (hI : zs_inv T) : zg_C l (zs_E P) (d + 4) mM_scale [.ref (zp_B P + 67), .int (nI e), .int (nI a), .int (nI x), .int (zs_bi n)] (zs_σ P S th (zs_b T) o w) (.inl (none), zs_σ P S (nI 0) (zs_b (zs_ssc T e a x n)) o w) := by
  refine zg_C_of (by decide +kernel) (Nat.le_of_ble_eq_true rfl) ?_
  refine zg_iload_n (zd_t dmM_scale 0 rfl) rfl ?_
  refine zg_callS (zd_t dmM_scale 1 rfl) zl_M_68 zm_mM_isRegister zst_mM_isRegister (av := _) (rest := _) (by rfl) (by rfl) (by exact Nat.le_of_ble_eq_true rfl) (zm_isRegister (nI e)) ?_
  rw [decide_eq_true (zs_rg he)]
  refine zg_if_eq (tgt := 18) (zd_t dmM_scale 2 rfl) (by decide) (fun hq => absurd hq (by decide)) (fun _ => ?_)
  refine zg_iload_n (zd_t dmM_scale 3 rfl) rfl ?_
  refine zg_callS (zd_t dmM_scale 4 rfl) zl_M_68 zm_mM_isRegister zst_mM_isRegister (av := _) (rest := _) (by rfl) (by rfl) (by exact Nat.le_of_ble_eq_true rfl) (zm_isRegister (nI a)) ?_
  rw [decide_eq_true (zs_rg ha)]
  refine zg_if_eq (tgt := 18) (zd_t dmM_scale 5 rfl) (by decide) (fun hq => absurd hq (by decide)) (fun _ => ?_)
  refine zg_iconst (v := (nI 1)) (zd_t dmM_scale 6 rfl) (by decide) ?_
  refine zg_goto (tgt := 19) (zd_t dmM_scale 7 rfl) (by decide) ?_
  refine zg_istore (zd_t dmM_scale 9 rfl) (by decide) rfl ?_
  refine zg_aload_n (zd_t dmM_scale 10 rfl) rfl ?_
  refine zg_iload (zd_t dmM_scale 11 rfl) rfl ?_
  refine zg_if_ne (tgt := 31) (zd_t dmM_scale 12 rfl) (by decide) (fun _ => ?_) (fun hq => absurd hq (by decide))
  refine zg_iconst (v := (nI 0)) (zd_t dmM_scale 15 rfl) (by decide) ?_
  refine zg_iload (zd_t dmM_scale 16 rfl) rfl ?_
  refine zg_if_eq (tgt := 48) (zd_t dmM_scale 17 rfl) (by decide) (fun hq => absurd hq (by decide)) (fun _ => ?_)
  refine zg_iload_n (zd_t dmM_scale 18 rfl) rfl ?_
  refine zg_callS (zd_t dmM_scale 19 rfl) zl_M_115 zm_mM_isModuli zst_mM_isModuli (av := _) (rest := _) (by rfl) (by rfl) (by exact Nat.le_of_ble_eq_true rfl) (zm_isModuli (nI x)) ?_
  rw [decide_eq_true hm]
  refine zg_if_ne (tgt := 48) (zd_t dmM_scale 20 rfl) (by decide) (fun _ => ?_) (fun hq => absurd hq (by decide))
  refine zg_iconst (v := (nI 0)) (zd_t dmM_scale 23 rfl) (by decide) ?_
  refine zg_iconst (v := (nI 0)) (zd_t dmM_scale 24 rfl) (by decide) ?_
  refine zg_callV (zd_t dmM_scale 25 rfl) zl_M_72 zm_mM_refuse zi_mM_refuse zse_mM_refuse zs_m0 zs_cl3 rfl (av := _) (rest := _) (by rfl) (by rfl) (by exact Nat.le_of_ble_eq_true rfl) (zm_refuse false false false) ?_
  rw [show zs_rc false false false = 0 from rfl]
  refine zg_if_ne (tgt := 65) (zd_t dmM_scale 26 rfl) (by decide) (fun hq => absurd (by decide) hq) (fun _ => ?_)
  refine zg_aload_n (zd_t dmM_scale 27 rfl) rfl ?_
  refine zg_iload_n (zd_t dmM_scale 28 rfl) rfl ?_
  refine zg_iload_n (zd_t dmM_scale 29 rfl) rfl ?_
  refine zg_iload_n (zd_t dmM_scale 30 rfl) rfl ?_
  refine zg_iload (zd_t dmM_scale 31 rfl) rfl ?_
  refine zg_callV (zd_t dmM_scale 32 rfl) zl_M_118 zm_mM_scaleBy zi_mM_scaleBy zse_mM_scaleBy zs_m0 zs_cl3 rfl (av := _) (rest := _) (by rfl) (by rfl) (by exact Nat.le_of_ble_eq_true rfl) (zm_scaleBy he ha hx hp hI) ?_
  exact zg_vret (zd_t dmM_scale 33 rfl) rfl rfl
theorem zm_scaleX {x y c z : Int32} (h : ¬ (zs_ir x ∧ zs_ir y)) : zg_C l (zs_E P) (d + 4) mM_scale [.ref (zp_B P + 67), .int x, .int y, .int c, .int z] (zs_σ P S th (zs_b T) o w) (.inl (none), zs_σ P S (nI 1) (zs_b (T)) o w) := by
  refine zg_C_of (by decide +kernel) (Nat.le_of_ble_eq_true rfl) ?_
  by_cases h0 : zs_ir x
  · skip
    by_cases h1 : zs_ir y
    · skip
      exact absurd ⟨h0, h1⟩ h
    · skip
      refine zg_iload_n (zd_t dmM_scale 0 rfl) rfl ?_
      refine zg_callS (zd_t dmM_scale 1 rfl) zl_M_68 zm_mM_isRegister zst_mM_isRegister (av := _) (rest := _) (by rfl) (by rfl) (by exact Nat.le_of_ble_eq_true rfl) (zm_isRegister x) ?_
      rw [decide_eq_true h0]
      refine zg_if_eq (tgt := 18) (zd_t dmM_scale 2 rfl) (by decide) (fun hq => absurd hq (by decide)) (fun _ => ?_)
      refine zg_iload_n (zd_t dmM_scale 3 rfl) rfl ?_
      refine zg_callS (zd_t dmM_scale 4 rfl) zl_M_68 zm_mM_isRegister zst_mM_isRegister (av := _) (rest := _) (by rfl) (by rfl) (by exact Nat.le_of_ble_eq_true rfl) (zm_isRegister y) ?_
      rw [decide_eq_false h1]
      refine zg_if_eq (tgt := 18) (zd_t dmM_scale 5 rfl) (by decide) (fun _ => ?_) (fun hq => absurd (by decide) hq)
      refine zg_iconst (v := (nI 0)) (zd_t dmM_scale 8 rfl) (by decide) ?_
      refine zg_istore (zd_t dmM_scale 9 rfl) (by decide) rfl ?_
      refine zg_aload_n (zd_t dmM_scale 10 rfl) rfl ?_
      refine zg_iload (zd_t dmM_scale 11 rfl) rfl ?_
      refine zg_if_ne (tgt := 31) (zd_t dmM_scale 12 rfl) (by decide) (fun hq => absurd (by decide) hq) (fun _ => ?_)
      refine zg_iconst (v := (nI 1)) (zd_t dmM_scale 13 rfl) (by decide) ?_
      refine zg_goto (tgt := 32) (zd_t dmM_scale 14 rfl) (by decide) ?_
      refine zg_iload (zd_t dmM_scale 16 rfl) rfl ?_
      refine zg_if_eq (tgt := 48) (zd_t dmM_scale 17 rfl) (by decide) (fun _ => ?_) (fun hq => absurd (by decide) hq)
      refine zg_iconst (v := (nI 0)) (zd_t dmM_scale 23 rfl) (by decide) ?_
      refine zg_iconst (v := (nI 0)) (zd_t dmM_scale 24 rfl) (by decide) ?_
      refine zg_callV (zd_t dmM_scale 25 rfl) zl_M_72 zm_mM_refuse zi_mM_refuse zse_mM_refuse zs_m0 zs_cl3 rfl (av := _) (rest := _) (by rfl) (by rfl) (by exact Nat.le_of_ble_eq_true rfl) (zm_refuse true false false) ?_
      rw [show zs_rc true false false = 1 from rfl]
      refine zg_if_ne (tgt := 65) (zd_t dmM_scale 26 rfl) (by decide) (fun _ => ?_) (fun hq => absurd hq (by decide))
      exact zg_vret (zd_t dmM_scale 33 rfl) rfl rfl
  · skip
    refine zg_iload_n (zd_t dmM_scale 0 rfl) rfl ?_
    refine zg_callS (zd_t dmM_scale 1 rfl) zl_M_68 zm_mM_isRegister zst_mM_isRegister (av := _) (rest := _) (by rfl) (by rfl) (by exact Nat.le_of_ble_eq_true rfl) (zm_isRegister x) ?_
    rw [decide_eq_false h0]
    refine zg_if_eq (tgt := 18) (zd_t dmM_scale 2 rfl) (by decide) (fun _ => ?_) (fun hq => absurd (by decide) hq)
    refine zg_iconst (v := (nI 0)) (zd_t dmM_scale 8 rfl) (by decide) ?_
    refine zg_istore (zd_t dmM_scale 9 rfl) (by decide) rfl ?_
    refine zg_aload_n (zd_t dmM_scale 10 rfl) rfl ?_
    refine zg_iload (zd_t dmM_scale 11 rfl) rfl ?_
    refine zg_if_ne (tgt := 31) (zd_t dmM_scale 12 rfl) (by decide) (fun hq => absurd (by decide) hq) (fun _ => ?_)
    refine zg_iconst (v := (nI 1)) (zd_t dmM_scale 13 rfl) (by decide) ?_
    refine zg_goto (tgt := 32) (zd_t dmM_scale 14 rfl) (by decide) ?_
    refine zg_iload (zd_t dmM_scale 16 rfl) rfl ?_
    refine zg_if_eq (tgt := 48) (zd_t dmM_scale 17 rfl) (by decide) (fun _ => ?_) (fun hq => absurd (by decide) hq)
    refine zg_iconst (v := (nI 0)) (zd_t dmM_scale 23 rfl) (by decide) ?_
    refine zg_iconst (v := (nI 0)) (zd_t dmM_scale 24 rfl) (by decide) ?_
    refine zg_callV (zd_t dmM_scale 25 rfl) zl_M_72 zm_mM_refuse zi_mM_refuse zse_mM_refuse zs_m0 zs_cl3 rfl (av := _) (rest := _) (by rfl) (by rfl) (by exact Nat.le_of_ble_eq_true rfl) (zm_refuse true false false) ?_
    rw [show zs_rc true false false = 1 from rfl]
    refine zg_if_ne (tgt := 65) (zd_t dmM_scale 26 rfl) (by decide) (fun _ => ?_) (fun hq => absurd hq (by decide))
    exact zg_vret (zd_t dmM_scale 33 rfl) rfl rfl
theorem zm_scaleY {c z : Int32} (he : e < 16) (ha : a < 16) (hm : ¬ mz_sm c) : zg_C l (zs_E P) (d + 4) mM_scale [.ref (zp_B P + 67), .int (nI e), .int (nI a), .int c, .int z] (zs_σ P S th (zs_b T) o w) (.inl (none), zs_σ P S (nI 2) (zs_b (T)) o w) := by
  refine zg_C_of (by decide +kernel) (Nat.le_of_ble_eq_true rfl) ?_
  refine zg_iload_n (zd_t dmM_scale 0 rfl) rfl ?_
  refine zg_callS (zd_t dmM_scale 1 rfl) zl_M_68 zm_mM_isRegister zst_mM_isRegister (av := _) (rest := _) (by rfl) (by rfl) (by exact Nat.le_of_ble_eq_true rfl) (zm_isRegister (nI e)) ?_
  rw [decide_eq_true (zs_rg he)]
  refine zg_if_eq (tgt := 18) (zd_t dmM_scale 2 rfl) (by decide) (fun hq => absurd hq (by decide)) (fun _ => ?_)
  refine zg_iload_n (zd_t dmM_scale 3 rfl) rfl ?_
  refine zg_callS (zd_t dmM_scale 4 rfl) zl_M_68 zm_mM_isRegister zst_mM_isRegister (av := _) (rest := _) (by rfl) (by rfl) (by exact Nat.le_of_ble_eq_true rfl) (zm_isRegister (nI a)) ?_
  rw [decide_eq_true (zs_rg ha)]
  refine zg_if_eq (tgt := 18) (zd_t dmM_scale 5 rfl) (by decide) (fun hq => absurd hq (by decide)) (fun _ => ?_)
  refine zg_iconst (v := (nI 1)) (zd_t dmM_scale 6 rfl) (by decide) ?_
  refine zg_goto (tgt := 19) (zd_t dmM_scale 7 rfl) (by decide) ?_
  refine zg_istore (zd_t dmM_scale 9 rfl) (by decide) rfl ?_
  refine zg_aload_n (zd_t dmM_scale 10 rfl) rfl ?_
  refine zg_iload (zd_t dmM_scale 11 rfl) rfl ?_
  refine zg_if_ne (tgt := 31) (zd_t dmM_scale 12 rfl) (by decide) (fun _ => ?_) (fun hq => absurd hq (by decide))
  refine zg_iconst (v := (nI 0)) (zd_t dmM_scale 15 rfl) (by decide) ?_
  refine zg_iload (zd_t dmM_scale 16 rfl) rfl ?_
  refine zg_if_eq (tgt := 48) (zd_t dmM_scale 17 rfl) (by decide) (fun hq => absurd hq (by decide)) (fun _ => ?_)
  refine zg_iload_n (zd_t dmM_scale 18 rfl) rfl ?_
  refine zg_callS (zd_t dmM_scale 19 rfl) zl_M_115 zm_mM_isModuli zst_mM_isModuli (av := _) (rest := _) (by rfl) (by rfl) (by exact Nat.le_of_ble_eq_true rfl) (zm_isModuli c) ?_
  rw [decide_eq_false hm]
  refine zg_if_ne (tgt := 48) (zd_t dmM_scale 20 rfl) (by decide) (fun hq => absurd (by decide) hq) (fun _ => ?_)
  refine zg_iconst (v := (nI 1)) (zd_t dmM_scale 21 rfl) (by decide) ?_
  refine zg_goto (tgt := 49) (zd_t dmM_scale 22 rfl) (by decide) ?_
  refine zg_iconst (v := (nI 0)) (zd_t dmM_scale 24 rfl) (by decide) ?_
  refine zg_callV (zd_t dmM_scale 25 rfl) zl_M_72 zm_mM_refuse zi_mM_refuse zse_mM_refuse zs_m0 zs_cl3 rfl (av := _) (rest := _) (by rfl) (by rfl) (by exact Nat.le_of_ble_eq_true rfl) (zm_refuse false true false) ?_
  rw [show zs_rc false true false = 2 from rfl]
  refine zg_if_ne (tgt := 65) (zd_t dmM_scale 26 rfl) (by decide) (fun _ => ?_) (fun hq => absurd hq (by decide))
  exact zg_vret (zd_t dmM_scale 33 rfl) rfl rfl
theorem zm_divide {q r : Nat} (hq : q < 16) (hr : r < 16) (ha : a < 16) (hb : b < 16) (hI : zs_inv T) (hz : mz_val (zs_re T b) ≠ 0) : zg_C l (zs_E P) (d + 4) mM_divide [.ref (zp_B P + 67), .int (nI q), .int (nI r), .int (nI a), .int (nI b)] (zs_σ P S th (zs_b T) o w) (.inl (none), zs_σ P S (nI 0) (zs_b (zs_sdv T q r a b)) o w) := by
  refine zg_C_of (by decide +kernel) (Nat.le_of_ble_eq_true rfl) ?_
  have v1 := mz_val_hr (zs_re T a)
  have v2 := mz_val_hr (zs_re T b)
  have h0 : mz_in 0 := by unfold mz_in; omega
  have hc : ¬ (if 0 < mz_val (zs_re T b) then (1 : Int32) else if mz_val (zs_re T b) = 0 then 0 else -1) = 0 := by
    split
    · decide
    · decide
  have hy0 : ¬ mz_L (mz_val (zs_re T b)) = 0 := fun h => by
    have : mz_L (mz_val (zs_re T b)) = mz_L 0 := h
    rw [mz_eq v2.i h0] at this
    exact hz this
  have hd := mz_td_hr (mz_val (zs_re T b)) v1
  unfold zs_sdv
  refine zg_iload_n (zd_t dmM_divide 0 rfl) rfl ?_
  refine zg_callS (zd_t dmM_divide 1 rfl) zl_M_68 zm_mM_isRegister zst_mM_isRegister (av := _) (rest := _) (by rfl) (by rfl) (by exact Nat.le_of_ble_eq_true rfl) (zm_isRegister (nI q)) ?_
  rw [decide_eq_true (zs_rg hq)]
  refine zg_if_eq (tgt := 33) (zd_t dmM_divide 2 rfl) (by decide) (fun hq => absurd hq (by decide)) (fun _ => ?_)
  refine zg_iload_n (zd_t dmM_divide 3 rfl) rfl ?_
  refine zg_callS (zd_t dmM_divide 4 rfl) zl_M_68 zm_mM_isRegister zst_mM_isRegister (av := _) (rest := _) (by rfl) (by rfl) (by exact Nat.le_of_ble_eq_true rfl) (zm_isRegister (nI r)) ?_
  rw [decide_eq_true (zs_rg hr)]
  refine zg_if_eq (tgt := 33) (zd_t dmM_divide 5 rfl) (by decide) (fun hq => absurd hq (by decide)) (fun _ => ?_)
  refine zg_iload_n (zd_t dmM_divide 6 rfl) rfl ?_
  refine zg_callS (zd_t dmM_divide 7 rfl) zl_M_68 zm_mM_isRegister zst_mM_isRegister (av := _) (rest := _) (by rfl) (by rfl) (by exact Nat.le_of_ble_eq_true rfl) (zm_isRegister (nI a)) ?_
  rw [decide_eq_true (zs_rg ha)]
  refine zg_if_eq (tgt := 33) (zd_t dmM_divide 8 rfl) (by decide) (fun hq => absurd hq (by decide)) (fun _ => ?_)
  refine zg_iload (zd_t dmM_divide 9 rfl) rfl ?_
  refine zg_callS (zd_t dmM_divide 10 rfl) zl_M_68 zm_mM_isRegister zst_mM_isRegister (av := _) (rest := _) (by rfl) (by rfl) (by exact Nat.le_of_ble_eq_true rfl) (zm_isRegister (nI b)) ?_
  rw [decide_eq_true (zs_rg hb)]
  refine zg_if_eq (tgt := 33) (zd_t dmM_divide 11 rfl) (by decide) (fun hq => absurd hq (by decide)) (fun _ => ?_)
  refine zg_iconst (v := (nI 1)) (zd_t dmM_divide 12 rfl) (by decide) ?_
  refine zg_goto (tgt := 34) (zd_t dmM_divide 13 rfl) (by decide) ?_
  refine zg_istore (zd_t dmM_divide 15 rfl) (by decide) rfl ?_
  refine zg_aload_n (zd_t dmM_divide 16 rfl) rfl ?_
  refine zg_iload (zd_t dmM_divide 17 rfl) rfl ?_
  refine zg_if_ne (tgt := 46) (zd_t dmM_divide 18 rfl) (by decide) (fun _ => ?_) (fun hq => absurd hq (by decide))
  refine zg_iconst (v := (nI 0)) (zd_t dmM_divide 21 rfl) (by decide) ?_
  refine zg_iload (zd_t dmM_divide 22 rfl) rfl ?_
  refine zg_if_eq (tgt := 67) (zd_t dmM_divide 23 rfl) (by decide) (fun hq => absurd hq (by decide)) (fun _ => ?_)
  refine zg_aload_n (zd_t dmM_divide 24 rfl) rfl ?_
  refine zg_iload (zd_t dmM_divide 25 rfl) rfl ?_
  refine zg_callV (zd_t dmM_divide 26 rfl) zl_M_60 zm_mM_valueOf zi_mM_valueOf zse_mM_valueOf zs_m0 zs_cl3 rfl (av := _) (rest := _) (by rfl) (by rfl) (by exact Nat.le_of_ble_eq_true rfl) (zm_valueOf hb (hI.1 b hb)) ?_
  refine zg_lconst (v := mz_L 0) (zd_t dmM_divide 27 rfl) (by decide) ?_
  refine zg_lcmp (zd_t dmM_divide 28 rfl) ?_
  rw [mz_cmp v2.i h0]
  refine zg_if_ne (tgt := 67) (zd_t dmM_divide 29 rfl) (by decide) (fun _ => ?_) (fun hq => absurd hq hc)
  refine zg_iconst (v := (nI 0)) (zd_t dmM_divide 32 rfl) (by decide) ?_
  refine zg_iconst (v := (nI 0)) (zd_t dmM_divide 33 rfl) (by decide) ?_
  refine zg_callV (zd_t dmM_divide 34 rfl) zl_M_72 zm_mM_refuse zi_mM_refuse zse_mM_refuse zs_m0 zs_cl3 rfl (av := _) (rest := _) (by rfl) (by rfl) (by exact Nat.le_of_ble_eq_true rfl) (zm_refuse false false false) ?_
  rw [show zs_rc false false false = 0 from rfl]
  refine zg_if_eq (tgt := 76) (zd_t dmM_divide 35 rfl) (by decide) (fun _ => ?_) (fun hq => absurd (by decide) hq)
  refine zg_aload_n (zd_t dmM_divide 37 rfl) rfl ?_
  refine zg_iload_n (zd_t dmM_divide 38 rfl) rfl ?_
  refine zg_callV (zd_t dmM_divide 39 rfl) zl_M_60 zm_mM_valueOf zi_mM_valueOf zse_mM_valueOf zs_m0 zs_cl3 rfl (av := _) (rest := _) (by rfl) (by rfl) (by exact Nat.le_of_ble_eq_true rfl) (zm_valueOf ha (hI.1 a ha)) ?_
  refine zg_lstore (zd_t dmM_divide 40 rfl) (by decide) rfl ?_
  refine zg_aload_n (zd_t dmM_divide 41 rfl) rfl ?_
  refine zg_iload (zd_t dmM_divide 42 rfl) rfl ?_
  refine zg_callV (zd_t dmM_divide 43 rfl) zl_M_60 zm_mM_valueOf zi_mM_valueOf zse_mM_valueOf zs_m0 zs_cl3 rfl (av := _) (rest := _) (by rfl) (by rfl) (by exact Nat.le_of_ble_eq_true rfl) (zm_valueOf hb (hI.1 b hb)) ?_
  refine zg_lstore (zd_t dmM_divide 44 rfl) (by decide) rfl ?_
  refine zg_aload_n (zd_t dmM_divide 45 rfl) rfl ?_
  refine zg_iload_n (zd_t dmM_divide 46 rfl) rfl ?_
  refine zg_lload (zd_t dmM_divide 47 rfl) rfl ?_
  refine zg_lload (zd_t dmM_divide 48 rfl) rfl ?_
  refine zg_ldiv (zd_t dmM_divide 49 rfl) hy0 ?_
  rw [mz_div v1.i v2.i]
  refine zg_callV (zd_t dmM_divide 50 rfl) zl_M_76 zm_mM_put zi_mM_put zse_mM_put zs_m0 zs_cl3 rfl (av := _) (rest := _) (by rfl) (by rfl) (by exact Nat.le_of_ble_eq_true rfl) (zm_put hq hd.1.i) ?_
  refine zg_aload_n (zd_t dmM_divide 51 rfl) rfl ?_
  refine zg_iload_n (zd_t dmM_divide 52 rfl) rfl ?_
  refine zg_lload (zd_t dmM_divide 53 rfl) rfl ?_
  refine zg_lload (zd_t dmM_divide 54 rfl) rfl ?_
  refine zg_lrem (zd_t dmM_divide 55 rfl) hy0 ?_
  rw [mz_rem v1.i v2.i]
  refine zg_callV (zd_t dmM_divide 56 rfl) zl_M_76 zm_mM_put zi_mM_put zse_mM_put zs_m0 zs_cl3 rfl (av := _) (rest := _) (by rfl) (by rfl) (by exact Nat.le_of_ble_eq_true rfl) (zm_put hr hd.2.i) ?_
  exact zg_vret (zd_t dmM_divide 57 rfl) rfl rfl
theorem zm_divideX {x y z u : Int32} (h : ¬ (zs_ir x ∧ zs_ir y ∧ zs_ir z ∧ zs_ir u)) : zg_C l (zs_E P) (d + 4) mM_divide [.ref (zp_B P + 67), .int x, .int y, .int z, .int u] (zs_σ P S th (zs_b T) o w) (.inl (none), zs_σ P S (nI 1) (zs_b (T)) o w) := by
  refine zg_C_of (by decide +kernel) (Nat.le_of_ble_eq_true rfl) ?_
  by_cases h0 : zs_ir x
  · skip
    by_cases h1 : zs_ir y
    · skip
      by_cases h2 : zs_ir z
      · skip
        by_cases h3 : zs_ir u
        · skip
          exact absurd ⟨h0, h1, h2, h3⟩ h
        · skip
          refine zg_iload_n (zd_t dmM_divide 0 rfl) rfl ?_
          refine zg_callS (zd_t dmM_divide 1 rfl) zl_M_68 zm_mM_isRegister zst_mM_isRegister (av := _) (rest := _) (by rfl) (by rfl) (by exact Nat.le_of_ble_eq_true rfl) (zm_isRegister x) ?_
          rw [decide_eq_true h0]
          refine zg_if_eq (tgt := 33) (zd_t dmM_divide 2 rfl) (by decide) (fun hq => absurd hq (by decide)) (fun _ => ?_)
          refine zg_iload_n (zd_t dmM_divide 3 rfl) rfl ?_
          refine zg_callS (zd_t dmM_divide 4 rfl) zl_M_68 zm_mM_isRegister zst_mM_isRegister (av := _) (rest := _) (by rfl) (by rfl) (by exact Nat.le_of_ble_eq_true rfl) (zm_isRegister y) ?_
          rw [decide_eq_true h1]
          refine zg_if_eq (tgt := 33) (zd_t dmM_divide 5 rfl) (by decide) (fun hq => absurd hq (by decide)) (fun _ => ?_)
          refine zg_iload_n (zd_t dmM_divide 6 rfl) rfl ?_
          refine zg_callS (zd_t dmM_divide 7 rfl) zl_M_68 zm_mM_isRegister zst_mM_isRegister (av := _) (rest := _) (by rfl) (by rfl) (by exact Nat.le_of_ble_eq_true rfl) (zm_isRegister z) ?_
          rw [decide_eq_true h2]
          refine zg_if_eq (tgt := 33) (zd_t dmM_divide 8 rfl) (by decide) (fun hq => absurd hq (by decide)) (fun _ => ?_)
          refine zg_iload (zd_t dmM_divide 9 rfl) rfl ?_
          refine zg_callS (zd_t dmM_divide 10 rfl) zl_M_68 zm_mM_isRegister zst_mM_isRegister (av := _) (rest := _) (by rfl) (by rfl) (by exact Nat.le_of_ble_eq_true rfl) (zm_isRegister u) ?_
          rw [decide_eq_false h3]
          refine zg_if_eq (tgt := 33) (zd_t dmM_divide 11 rfl) (by decide) (fun _ => ?_) (fun hq => absurd (by decide) hq)
          refine zg_iconst (v := (nI 0)) (zd_t dmM_divide 14 rfl) (by decide) ?_
          refine zg_istore (zd_t dmM_divide 15 rfl) (by decide) rfl ?_
          refine zg_aload_n (zd_t dmM_divide 16 rfl) rfl ?_
          refine zg_iload (zd_t dmM_divide 17 rfl) rfl ?_
          refine zg_if_ne (tgt := 46) (zd_t dmM_divide 18 rfl) (by decide) (fun hq => absurd (by decide) hq) (fun _ => ?_)
          refine zg_iconst (v := (nI 1)) (zd_t dmM_divide 19 rfl) (by decide) ?_
          refine zg_goto (tgt := 47) (zd_t dmM_divide 20 rfl) (by decide) ?_
          refine zg_iload (zd_t dmM_divide 22 rfl) rfl ?_
          refine zg_if_eq (tgt := 67) (zd_t dmM_divide 23 rfl) (by decide) (fun _ => ?_) (fun hq => absurd (by decide) hq)
          refine zg_iconst (v := (nI 0)) (zd_t dmM_divide 32 rfl) (by decide) ?_
          refine zg_iconst (v := (nI 0)) (zd_t dmM_divide 33 rfl) (by decide) ?_
          refine zg_callV (zd_t dmM_divide 34 rfl) zl_M_72 zm_mM_refuse zi_mM_refuse zse_mM_refuse zs_m0 zs_cl3 rfl (av := _) (rest := _) (by rfl) (by rfl) (by exact Nat.le_of_ble_eq_true rfl) (zm_refuse true false false) ?_
          rw [show zs_rc true false false = 1 from rfl]
          refine zg_if_eq (tgt := 76) (zd_t dmM_divide 35 rfl) (by decide) (fun hq => absurd hq (by decide)) (fun _ => ?_)
          exact zg_vret (zd_t dmM_divide 36 rfl) rfl rfl
      · skip
        refine zg_iload_n (zd_t dmM_divide 0 rfl) rfl ?_
        refine zg_callS (zd_t dmM_divide 1 rfl) zl_M_68 zm_mM_isRegister zst_mM_isRegister (av := _) (rest := _) (by rfl) (by rfl) (by exact Nat.le_of_ble_eq_true rfl) (zm_isRegister x) ?_
        rw [decide_eq_true h0]
        refine zg_if_eq (tgt := 33) (zd_t dmM_divide 2 rfl) (by decide) (fun hq => absurd hq (by decide)) (fun _ => ?_)
        refine zg_iload_n (zd_t dmM_divide 3 rfl) rfl ?_
        refine zg_callS (zd_t dmM_divide 4 rfl) zl_M_68 zm_mM_isRegister zst_mM_isRegister (av := _) (rest := _) (by rfl) (by rfl) (by exact Nat.le_of_ble_eq_true rfl) (zm_isRegister y) ?_
        rw [decide_eq_true h1]
        refine zg_if_eq (tgt := 33) (zd_t dmM_divide 5 rfl) (by decide) (fun hq => absurd hq (by decide)) (fun _ => ?_)
        refine zg_iload_n (zd_t dmM_divide 6 rfl) rfl ?_
        refine zg_callS (zd_t dmM_divide 7 rfl) zl_M_68 zm_mM_isRegister zst_mM_isRegister (av := _) (rest := _) (by rfl) (by rfl) (by exact Nat.le_of_ble_eq_true rfl) (zm_isRegister z) ?_
        rw [decide_eq_false h2]
        refine zg_if_eq (tgt := 33) (zd_t dmM_divide 8 rfl) (by decide) (fun _ => ?_) (fun hq => absurd (by decide) hq)
        refine zg_iconst (v := (nI 0)) (zd_t dmM_divide 14 rfl) (by decide) ?_
        refine zg_istore (zd_t dmM_divide 15 rfl) (by decide) rfl ?_
        refine zg_aload_n (zd_t dmM_divide 16 rfl) rfl ?_
        refine zg_iload (zd_t dmM_divide 17 rfl) rfl ?_
        refine zg_if_ne (tgt := 46) (zd_t dmM_divide 18 rfl) (by decide) (fun hq => absurd (by decide) hq) (fun _ => ?_)
        refine zg_iconst (v := (nI 1)) (zd_t dmM_divide 19 rfl) (by decide) ?_
        refine zg_goto (tgt := 47) (zd_t dmM_divide 20 rfl) (by decide) ?_
        refine zg_iload (zd_t dmM_divide 22 rfl) rfl ?_
        refine zg_if_eq (tgt := 67) (zd_t dmM_divide 23 rfl) (by decide) (fun _ => ?_) (fun hq => absurd (by decide) hq)
        refine zg_iconst (v := (nI 0)) (zd_t dmM_divide 32 rfl) (by decide) ?_
        refine zg_iconst (v := (nI 0)) (zd_t dmM_divide 33 rfl) (by decide) ?_
        refine zg_callV (zd_t dmM_divide 34 rfl) zl_M_72 zm_mM_refuse zi_mM_refuse zse_mM_refuse zs_m0 zs_cl3 rfl (av := _) (rest := _) (by rfl) (by rfl) (by exact Nat.le_of_ble_eq_true rfl) (zm_refuse true false false) ?_
        rw [show zs_rc true false false = 1 from rfl]
        refine zg_if_eq (tgt := 76) (zd_t dmM_divide 35 rfl) (by decide) (fun hq => absurd hq (by decide)) (fun _ => ?_)
        exact zg_vret (zd_t dmM_divide 36 rfl) rfl rfl
    · skip
      refine zg_iload_n (zd_t dmM_divide 0 rfl) rfl ?_
      refine zg_callS (zd_t dmM_divide 1 rfl) zl_M_68 zm_mM_isRegister zst_mM_isRegister (av := _) (rest := _) (by rfl) (by rfl) (by exact Nat.le_of_ble_eq_true rfl) (zm_isRegister x) ?_
      rw [decide_eq_true h0]
      refine zg_if_eq (tgt := 33) (zd_t dmM_divide 2 rfl) (by decide) (fun hq => absurd hq (by decide)) (fun _ => ?_)
      refine zg_iload_n (zd_t dmM_divide 3 rfl) rfl ?_
      refine zg_callS (zd_t dmM_divide 4 rfl) zl_M_68 zm_mM_isRegister zst_mM_isRegister (av := _) (rest := _) (by rfl) (by rfl) (by exact Nat.le_of_ble_eq_true rfl) (zm_isRegister y) ?_
      rw [decide_eq_false h1]
      refine zg_if_eq (tgt := 33) (zd_t dmM_divide 5 rfl) (by decide) (fun _ => ?_) (fun hq => absurd (by decide) hq)
      refine zg_iconst (v := (nI 0)) (zd_t dmM_divide 14 rfl) (by decide) ?_
      refine zg_istore (zd_t dmM_divide 15 rfl) (by decide) rfl ?_
      refine zg_aload_n (zd_t dmM_divide 16 rfl) rfl ?_
      refine zg_iload (zd_t dmM_divide 17 rfl) rfl ?_
      refine zg_if_ne (tgt := 46) (zd_t dmM_divide 18 rfl) (by decide) (fun hq => absurd (by decide) hq) (fun _ => ?_)
      refine zg_iconst (v := (nI 1)) (zd_t dmM_divide 19 rfl) (by decide) ?_
      refine zg_goto (tgt := 47) (zd_t dmM_divide 20 rfl) (by decide) ?_
      refine zg_iload (zd_t dmM_divide 22 rfl) rfl ?_
      refine zg_if_eq (tgt := 67) (zd_t dmM_divide 23 rfl) (by decide) (fun _ => ?_) (fun hq => absurd (by decide) hq)
      refine zg_iconst (v := (nI 0)) (zd_t dmM_divide 32 rfl) (by decide) ?_
      refine zg_iconst (v := (nI 0)) (zd_t dmM_divide 33 rfl) (by decide) ?_
      refine zg_callV (zd_t dmM_divide 34 rfl) zl_M_72 zm_mM_refuse zi_mM_refuse zse_mM_refuse zs_m0 zs_cl3 rfl (av := _) (rest := _) (by rfl) (by rfl) (by exact Nat.le_of_ble_eq_true rfl) (zm_refuse true false false) ?_
      rw [show zs_rc true false false = 1 from rfl]
      refine zg_if_eq (tgt := 76) (zd_t dmM_divide 35 rfl) (by decide) (fun hq => absurd hq (by decide)) (fun _ => ?_)
      exact zg_vret (zd_t dmM_divide 36 rfl) rfl rfl
  · skip
    refine zg_iload_n (zd_t dmM_divide 0 rfl) rfl ?_
    refine zg_callS (zd_t dmM_divide 1 rfl) zl_M_68 zm_mM_isRegister zst_mM_isRegister (av := _) (rest := _) (by rfl) (by rfl) (by exact Nat.le_of_ble_eq_true rfl) (zm_isRegister x) ?_
    rw [decide_eq_false h0]
    refine zg_if_eq (tgt := 33) (zd_t dmM_divide 2 rfl) (by decide) (fun _ => ?_) (fun hq => absurd (by decide) hq)
    refine zg_iconst (v := (nI 0)) (zd_t dmM_divide 14 rfl) (by decide) ?_
    refine zg_istore (zd_t dmM_divide 15 rfl) (by decide) rfl ?_
    refine zg_aload_n (zd_t dmM_divide 16 rfl) rfl ?_
    refine zg_iload (zd_t dmM_divide 17 rfl) rfl ?_
    refine zg_if_ne (tgt := 46) (zd_t dmM_divide 18 rfl) (by decide) (fun hq => absurd (by decide) hq) (fun _ => ?_)
    refine zg_iconst (v := (nI 1)) (zd_t dmM_divide 19 rfl) (by decide) ?_
    refine zg_goto (tgt := 47) (zd_t dmM_divide 20 rfl) (by decide) ?_
    refine zg_iload (zd_t dmM_divide 22 rfl) rfl ?_
    refine zg_if_eq (tgt := 67) (zd_t dmM_divide 23 rfl) (by decide) (fun _ => ?_) (fun hq => absurd (by decide) hq)
    refine zg_iconst (v := (nI 0)) (zd_t dmM_divide 32 rfl) (by decide) ?_
    refine zg_iconst (v := (nI 0)) (zd_t dmM_divide 33 rfl) (by decide) ?_
    refine zg_callV (zd_t dmM_divide 34 rfl) zl_M_72 zm_mM_refuse zi_mM_refuse zse_mM_refuse zs_m0 zs_cl3 rfl (av := _) (rest := _) (by rfl) (by rfl) (by exact Nat.le_of_ble_eq_true rfl) (zm_refuse true false false) ?_
    rw [show zs_rc true false false = 1 from rfl]
    refine zg_if_eq (tgt := 76) (zd_t dmM_divide 35 rfl) (by decide) (fun hq => absurd hq (by decide)) (fun _ => ?_)
    exact zg_vret (zd_t dmM_divide 36 rfl) rfl rfl
theorem zm_divideY {q r : Nat} (hq : q < 16) (hr : r < 16) (ha : a < 16) (hb : b < 16) (hI : zs_inv T) (hz : mz_val (zs_re T b) = 0) : zg_C l (zs_E P) (d + 4) mM_divide [.ref (zp_B P + 67), .int (nI q), .int (nI r), .int (nI a), .int (nI b)] (zs_σ P S th (zs_b T) o w) (.inl (none), zs_σ P S (nI 2) (zs_b (T)) o w) := by
  refine zg_C_of (by decide +kernel) (Nat.le_of_ble_eq_true rfl) ?_
  have v1 := mz_val_hr (zs_re T a)
  have v2 := mz_val_hr (zs_re T b)
  have h0 : mz_in 0 := by unfold mz_in; omega
  have hc : (if 0 < mz_val (zs_re T b) then (1 : Int32) else if mz_val (zs_re T b) = 0 then 0 else -1) = 0 := by
    rw [if_neg (by omega), if_pos hz]
  refine zg_iload_n (zd_t dmM_divide 0 rfl) rfl ?_
  refine zg_callS (zd_t dmM_divide 1 rfl) zl_M_68 zm_mM_isRegister zst_mM_isRegister (av := _) (rest := _) (by rfl) (by rfl) (by exact Nat.le_of_ble_eq_true rfl) (zm_isRegister (nI q)) ?_
  rw [decide_eq_true (zs_rg hq)]
  refine zg_if_eq (tgt := 33) (zd_t dmM_divide 2 rfl) (by decide) (fun hq => absurd hq (by decide)) (fun _ => ?_)
  refine zg_iload_n (zd_t dmM_divide 3 rfl) rfl ?_
  refine zg_callS (zd_t dmM_divide 4 rfl) zl_M_68 zm_mM_isRegister zst_mM_isRegister (av := _) (rest := _) (by rfl) (by rfl) (by exact Nat.le_of_ble_eq_true rfl) (zm_isRegister (nI r)) ?_
  rw [decide_eq_true (zs_rg hr)]
  refine zg_if_eq (tgt := 33) (zd_t dmM_divide 5 rfl) (by decide) (fun hq => absurd hq (by decide)) (fun _ => ?_)
  refine zg_iload_n (zd_t dmM_divide 6 rfl) rfl ?_
  refine zg_callS (zd_t dmM_divide 7 rfl) zl_M_68 zm_mM_isRegister zst_mM_isRegister (av := _) (rest := _) (by rfl) (by rfl) (by exact Nat.le_of_ble_eq_true rfl) (zm_isRegister (nI a)) ?_
  rw [decide_eq_true (zs_rg ha)]
  refine zg_if_eq (tgt := 33) (zd_t dmM_divide 8 rfl) (by decide) (fun hq => absurd hq (by decide)) (fun _ => ?_)
  refine zg_iload (zd_t dmM_divide 9 rfl) rfl ?_
  refine zg_callS (zd_t dmM_divide 10 rfl) zl_M_68 zm_mM_isRegister zst_mM_isRegister (av := _) (rest := _) (by rfl) (by rfl) (by exact Nat.le_of_ble_eq_true rfl) (zm_isRegister (nI b)) ?_
  rw [decide_eq_true (zs_rg hb)]
  refine zg_if_eq (tgt := 33) (zd_t dmM_divide 11 rfl) (by decide) (fun hq => absurd hq (by decide)) (fun _ => ?_)
  refine zg_iconst (v := (nI 1)) (zd_t dmM_divide 12 rfl) (by decide) ?_
  refine zg_goto (tgt := 34) (zd_t dmM_divide 13 rfl) (by decide) ?_
  refine zg_istore (zd_t dmM_divide 15 rfl) (by decide) rfl ?_
  refine zg_aload_n (zd_t dmM_divide 16 rfl) rfl ?_
  refine zg_iload (zd_t dmM_divide 17 rfl) rfl ?_
  refine zg_if_ne (tgt := 46) (zd_t dmM_divide 18 rfl) (by decide) (fun _ => ?_) (fun hq => absurd hq (by decide))
  refine zg_iconst (v := (nI 0)) (zd_t dmM_divide 21 rfl) (by decide) ?_
  refine zg_iload (zd_t dmM_divide 22 rfl) rfl ?_
  refine zg_if_eq (tgt := 67) (zd_t dmM_divide 23 rfl) (by decide) (fun hq => absurd hq (by decide)) (fun _ => ?_)
  refine zg_aload_n (zd_t dmM_divide 24 rfl) rfl ?_
  refine zg_iload (zd_t dmM_divide 25 rfl) rfl ?_
  refine zg_callV (zd_t dmM_divide 26 rfl) zl_M_60 zm_mM_valueOf zi_mM_valueOf zse_mM_valueOf zs_m0 zs_cl3 rfl (av := _) (rest := _) (by rfl) (by rfl) (by exact Nat.le_of_ble_eq_true rfl) (zm_valueOf hb (hI.1 b hb)) ?_
  refine zg_lconst (v := mz_L 0) (zd_t dmM_divide 27 rfl) (by decide) ?_
  refine zg_lcmp (zd_t dmM_divide 28 rfl) ?_
  rw [mz_cmp v2.i h0]
  refine zg_if_ne (tgt := 67) (zd_t dmM_divide 29 rfl) (by decide) (fun hq => absurd hc hq) (fun _ => ?_)
  refine zg_iconst (v := (nI 1)) (zd_t dmM_divide 30 rfl) (by decide) ?_
  refine zg_goto (tgt := 68) (zd_t dmM_divide 31 rfl) (by decide) ?_
  refine zg_iconst (v := (nI 0)) (zd_t dmM_divide 33 rfl) (by decide) ?_
  refine zg_callV (zd_t dmM_divide 34 rfl) zl_M_72 zm_mM_refuse zi_mM_refuse zse_mM_refuse zs_m0 zs_cl3 rfl (av := _) (rest := _) (by rfl) (by rfl) (by exact Nat.le_of_ble_eq_true rfl) (zm_refuse false true false) ?_
  rw [show zs_rc false true false = 2 from rfl]
  refine zg_if_eq (tgt := 76) (zd_t dmM_divide 35 rfl) (by decide) (fun hq => absurd hq (by decide)) (fun _ => ?_)
  exact zg_vret (zd_t dmM_divide 36 rfl) rfl rfl
theorem zm_channel (hi : i < 16) (hk : k < 8) : zg_C l (zs_E P) (d + 4) mM_channel [.ref (zp_B P + 67), .int (nI i), .int (nI (k + 1))] (zs_σ P S th (zs_b T) o w) (.inl (some (.int (nI (zs_re T i k)))), zs_σ P S (nI 0) (zs_b (T)) o w) := by
  refine zg_C_of (by decide +kernel) (Nat.le_of_ble_eq_true rfl) ?_
  refine zg_aload_n (zd_t dmM_channel 0 rfl) rfl ?_
  refine zg_iload_n (zd_t dmM_channel 1 rfl) rfl ?_
  refine zg_callS (zd_t dmM_channel 2 rfl) zl_M_68 zm_mM_isRegister zst_mM_isRegister (av := _) (rest := _) (by rfl) (by rfl) (by exact Nat.le_of_ble_eq_true rfl) (zm_isRegister (nI i)) ?_
  rw [decide_eq_true (zs_rg hi)]
  refine zg_if_eq (tgt := 20) (zd_t dmM_channel 3 rfl) (by decide) (fun hq => absurd hq (by decide)) (fun _ => ?_)
  refine zg_iload_n (zd_t dmM_channel 4 rfl) rfl ?_
  refine zg_i2l (zd_t dmM_channel 5 rfl) rfl ?_
  refine zg_lconst (v := mz_L 1) (zd_t dmM_channel 6 rfl) (by decide) ?_
  refine zg_ldc2 (zd_t dmM_channel 7 rfl) zc_M_122 ?_
  rw [zs_i2l]
  refine zg_callS (zd_t dmM_channel 8 rfl) zl_M_48 zm_mM_in zst_mM_in (av := _) (rest := _) (by rfl) (by rfl) (by exact Nat.le_of_ble_eq_true rfl) (zm_in (x := (nI (k + 1)).toInt) (y := 1) (z := 8) (zs_wi32 _) (by unfold mz_wi; omega) (by unfold mz_wi; omega)) ?_
  rw [decide_eq_true (zs_chg hk)]
  refine zg_if_ne (tgt := 24) (zd_t dmM_channel 9 rfl) (by decide) (fun _ => ?_) (fun hq => absurd hq (by decide))
  refine zg_iconst (v := (nI 0)) (zd_t dmM_channel 12 rfl) (by decide) ?_
  refine zg_iconst (v := (nI 0)) (zd_t dmM_channel 13 rfl) (by decide) ?_
  refine zg_iconst (v := (nI 0)) (zd_t dmM_channel 14 rfl) (by decide) ?_
  refine zg_callV (zd_t dmM_channel 15 rfl) zl_M_72 zm_mM_refuse zi_mM_refuse zse_mM_refuse zs_m0 zs_cl3 rfl (av := _) (rest := _) (by rfl) (by rfl) (by exact Nat.le_of_ble_eq_true rfl) (zm_refuse false false false) ?_
  rw [show zs_rc false false false = 0 from rfl]
  refine zg_if_eq (tgt := 37) (zd_t dmM_channel 16 rfl) (by decide) (fun _ => ?_) (fun hq => absurd (by decide) hq)
  refine zg_aload_n (zd_t dmM_channel 19 rfl) rfl ?_
  refine zg_getf (zd_t dmM_channel 20 rfl) zf_M_13 zs_m0 rfl ?_
  refine zg_bipush (v := (nI 8)) (zd_t dmM_channel 21 rfl) (by decide) ?_
  refine zg_iload_n (zd_t dmM_channel 22 rfl) rfl ?_
  refine zg_imul (zd_t dmM_channel 23 rfl) ?_
  refine zg_iload_n (zd_t dmM_channel 24 rfl) rfl ?_
  refine zg_iadd (zd_t dmM_channel 25 rfl) ?_
  refine zg_iconst (v := (nI 1)) (zd_t dmM_channel 26 rfl) (by decide) ?_
  refine zg_isub (zd_t dmM_channel 27 rfl) ?_
  refine zg_iald (k := 8 * i + k) (t0 := 0) (zd_t dmM_channel 28 rfl) zs_m2 rfl (by rw [zs_ix8, show 8 * i + (k + 1) = 8 * i + k + 1 by omega]; exact nI_pred _) (by omega) (by decide) ?_
  rw [(zs_q8 hk).1, (zs_q8 hk).2]
  exact zg_iret (zd_t dmM_channel 29 rfl) rfl rfl
theorem zm_channelX {x y : Int32} (h : ¬ (zs_ir x ∧ zs_ch y)) : zg_C l (zs_E P) (d + 4) mM_channel [.ref (zp_B P + 67), .int x, .int y] (zs_σ P S th (zs_b T) o w) (.inl (some (.int (nI 0))), zs_σ P S (nI 1) (zs_b (T)) o w) := by
  refine zg_C_of (by decide +kernel) (Nat.le_of_ble_eq_true rfl) ?_
  by_cases h0 : zs_ir x
  · have h1 : ¬ zs_ch y := fun h1 => h ⟨h0, h1⟩
    refine zg_aload_n (zd_t dmM_channel 0 rfl) rfl ?_
    refine zg_iload_n (zd_t dmM_channel 1 rfl) rfl ?_
    refine zg_callS (zd_t dmM_channel 2 rfl) zl_M_68 zm_mM_isRegister zst_mM_isRegister (av := _) (rest := _) (by rfl) (by rfl) (by exact Nat.le_of_ble_eq_true rfl) (zm_isRegister x) ?_
    rw [decide_eq_true h0]
    refine zg_if_eq (tgt := 20) (zd_t dmM_channel 3 rfl) (by decide) (fun hq => absurd hq (by decide)) (fun _ => ?_)
    refine zg_iload_n (zd_t dmM_channel 4 rfl) rfl ?_
    refine zg_i2l (zd_t dmM_channel 5 rfl) rfl ?_
    refine zg_lconst (v := mz_L 1) (zd_t dmM_channel 6 rfl) (by decide) ?_
    refine zg_ldc2 (zd_t dmM_channel 7 rfl) zc_M_122 ?_
    rw [zs_i2l]
    refine zg_callS (zd_t dmM_channel 8 rfl) zl_M_48 zm_mM_in zst_mM_in (av := _) (rest := _) (by rfl) (by rfl) (by exact Nat.le_of_ble_eq_true rfl) (zm_in (x := y.toInt) (y := 1) (z := 8) (zs_wi32 _) (by unfold mz_wi; omega) (by unfold mz_wi; omega)) ?_
    rw [decide_eq_false h1]
    refine zg_if_ne (tgt := 24) (zd_t dmM_channel 9 rfl) (by decide) (fun hq => absurd (by decide) hq) (fun _ => ?_)
    refine zg_iconst (v := (nI 1)) (zd_t dmM_channel 10 rfl) (by decide) ?_
    refine zg_goto (tgt := 25) (zd_t dmM_channel 11 rfl) (by decide) ?_
    refine zg_iconst (v := (nI 0)) (zd_t dmM_channel 13 rfl) (by decide) ?_
    refine zg_iconst (v := (nI 0)) (zd_t dmM_channel 14 rfl) (by decide) ?_
    refine zg_callV (zd_t dmM_channel 15 rfl) zl_M_72 zm_mM_refuse zi_mM_refuse zse_mM_refuse zs_m0 zs_cl3 rfl (av := _) (rest := _) (by rfl) (by rfl) (by exact Nat.le_of_ble_eq_true rfl) (zm_refuse true false false) ?_
    rw [show zs_rc true false false = 1 from rfl]
    refine zg_if_eq (tgt := 37) (zd_t dmM_channel 16 rfl) (by decide) (fun hq => absurd hq (by decide)) (fun _ => ?_)
    refine zg_iconst (v := (nI 0)) (zd_t dmM_channel 17 rfl) (by decide) ?_
    refine zg_goto (tgt := 50) (zd_t dmM_channel 18 rfl) (by decide) ?_
    exact zg_iret (zd_t dmM_channel 29 rfl) rfl rfl
  · skip
    refine zg_aload_n (zd_t dmM_channel 0 rfl) rfl ?_
    refine zg_iload_n (zd_t dmM_channel 1 rfl) rfl ?_
    refine zg_callS (zd_t dmM_channel 2 rfl) zl_M_68 zm_mM_isRegister zst_mM_isRegister (av := _) (rest := _) (by rfl) (by rfl) (by exact Nat.le_of_ble_eq_true rfl) (zm_isRegister x) ?_
    rw [decide_eq_false h0]
    refine zg_if_eq (tgt := 20) (zd_t dmM_channel 3 rfl) (by decide) (fun _ => ?_) (fun hq => absurd (by decide) hq)
    refine zg_iconst (v := (nI 1)) (zd_t dmM_channel 10 rfl) (by decide) ?_
    refine zg_goto (tgt := 25) (zd_t dmM_channel 11 rfl) (by decide) ?_
    refine zg_iconst (v := (nI 0)) (zd_t dmM_channel 13 rfl) (by decide) ?_
    refine zg_iconst (v := (nI 0)) (zd_t dmM_channel 14 rfl) (by decide) ?_
    refine zg_callV (zd_t dmM_channel 15 rfl) zl_M_72 zm_mM_refuse zi_mM_refuse zse_mM_refuse zs_m0 zs_cl3 rfl (av := _) (rest := _) (by rfl) (by rfl) (by exact Nat.le_of_ble_eq_true rfl) (zm_refuse true false false) ?_
    rw [show zs_rc true false false = 1 from rfl]
    refine zg_if_eq (tgt := 37) (zd_t dmM_channel 16 rfl) (by decide) (fun hq => absurd hq (by decide)) (fun _ => ?_)
    refine zg_iconst (v := (nI 0)) (zd_t dmM_channel 17 rfl) (by decide) ?_
    refine zg_goto (tgt := 50) (zd_t dmM_channel 18 rfl) (by decide) ?_
    exact zg_iret (zd_t dmM_channel 29 rfl) rfl rfl
theorem zm_inject {z : Int32} (hi : i < 16) (hk : k < 8) (hI : zs_inv T) : zg_C l (zs_E P) (d + 4) mM_inject [.ref (zp_B P + 67), .int (nI i), .int (nI (k + 1)), .int z] (zs_σ P S th (zs_b T) o w) (.inl (some (.int (nI (mz_sh (zs_re T i k) z k)))), zs_σ P S (nI 0) (zs_b (zs_sre T i k (mz_sh (zs_re T i k) z k))) o w) := by
  refine zg_C_of (by decide +kernel) (Nat.le_of_ble_eq_true rfl) ?_
  have hm := mz_m_lt k
  have hr := hI.1 i hi k hk
  have z1 := Int32.le_toInt z
  have z2 := Int32.toInt_lt z
  refine zg_aload_n (zd_t dmM_inject 0 rfl) rfl ?_
  refine zg_iload_n (zd_t dmM_inject 1 rfl) rfl ?_
  refine zg_callS (zd_t dmM_inject 2 rfl) zl_M_68 zm_mM_isRegister zst_mM_isRegister (av := _) (rest := _) (by rfl) (by rfl) (by exact Nat.le_of_ble_eq_true rfl) (zm_isRegister (nI i)) ?_
  rw [decide_eq_true (zs_rg hi)]
  refine zg_if_eq (tgt := 20) (zd_t dmM_inject 3 rfl) (by decide) (fun hq => absurd hq (by decide)) (fun _ => ?_)
  refine zg_iload_n (zd_t dmM_inject 4 rfl) rfl ?_
  refine zg_i2l (zd_t dmM_inject 5 rfl) rfl ?_
  refine zg_lconst (v := mz_L 1) (zd_t dmM_inject 6 rfl) (by decide) ?_
  refine zg_ldc2 (zd_t dmM_inject 7 rfl) zc_M_122 ?_
  rw [zs_i2l]
  refine zg_callS (zd_t dmM_inject 8 rfl) zl_M_48 zm_mM_in zst_mM_in (av := _) (rest := _) (by rfl) (by rfl) (by exact Nat.le_of_ble_eq_true rfl) (zm_in (x := (nI (k + 1)).toInt) (y := 1) (z := 8) (zs_wi32 _) (by unfold mz_wi; omega) (by unfold mz_wi; omega)) ?_
  rw [decide_eq_true (zs_chg hk)]
  refine zg_if_ne (tgt := 24) (zd_t dmM_inject 9 rfl) (by decide) (fun _ => ?_) (fun hq => absurd hq (by decide))
  refine zg_iconst (v := (nI 0)) (zd_t dmM_inject 12 rfl) (by decide) ?_
  refine zg_iconst (v := (nI 0)) (zd_t dmM_inject 13 rfl) (by decide) ?_
  refine zg_iconst (v := (nI 0)) (zd_t dmM_inject 14 rfl) (by decide) ?_
  refine zg_callV (zd_t dmM_inject 15 rfl) zl_M_72 zm_mM_refuse zi_mM_refuse zse_mM_refuse zs_m0 zs_cl3 rfl (av := _) (rest := _) (by rfl) (by rfl) (by exact Nat.le_of_ble_eq_true rfl) (zm_refuse false false false) ?_
  rw [show zs_rc false false false = 0 from rfl]
  refine zg_if_eq (tgt := 35) (zd_t dmM_inject 16 rfl) (by decide) (fun _ => ?_) (fun hq => absurd (by decide) hq)
  refine zg_bipush (v := (nI 8)) (zd_t dmM_inject 19 rfl) (by decide) ?_
  refine zg_iload_n (zd_t dmM_inject 20 rfl) rfl ?_
  refine zg_imul (zd_t dmM_inject 21 rfl) ?_
  refine zg_iload_n (zd_t dmM_inject 22 rfl) rfl ?_
  refine zg_iadd (zd_t dmM_inject 23 rfl) ?_
  refine zg_iconst (v := (nI 1)) (zd_t dmM_inject 24 rfl) (by decide) ?_
  refine zg_isub (zd_t dmM_inject 25 rfl) ?_
  refine zg_istore (zd_t dmM_inject 26 rfl) (by decide) rfl ?_
  refine zg_aload_n (zd_t dmM_inject 27 rfl) rfl ?_
  refine zg_getf (zd_t dmM_inject 28 rfl) zf_M_13 zs_m0 rfl ?_
  refine zg_iload (zd_t dmM_inject 29 rfl) rfl ?_
  refine zg_aload_n (zd_t dmM_inject 30 rfl) rfl ?_
  refine zg_getf (zd_t dmM_inject 31 rfl) zf_M_13 zs_m0 rfl ?_
  refine zg_iload (zd_t dmM_inject 32 rfl) rfl ?_
  refine zg_iald (k := 8 * i + k) (t0 := 0) (zd_t dmM_inject 33 rfl) zs_m2 rfl (by rw [zs_ix8, show 8 * i + (k + 1) = 8 * i + k + 1 by omega]; exact nI_pred _) (by omega) (by decide) ?_
  rw [(zs_q8 hk).1, (zs_q8 hk).2]
  refine zg_i2l (zd_t dmM_inject 34 rfl) rfl ?_
  refine zg_iload_n (zd_t dmM_inject 35 rfl) rfl ?_
  refine zg_i2l (zd_t dmM_inject 36 rfl) rfl ?_
  refine zg_ladd (zd_t dmM_inject 37 rfl) ?_
  rw [mz_i2l (show zs_re T i k < 2 ^ 31 by omega), zs_i2l, mz_add]
  refine zg_aload_n (zd_t dmM_inject 38 rfl) rfl ?_
  refine zg_getf (zd_t dmM_inject 39 rfl) zf_M_7 zs_m0 rfl ?_
  refine zg_iload_n (zd_t dmM_inject 40 rfl) rfl ?_
  refine zg_iconst (v := (nI 1)) (zd_t dmM_inject 41 rfl) (by decide) ?_
  refine zg_isub (zd_t dmM_inject 42 rfl) ?_
  refine zg_iald (k := k) (t0 := 0) (zd_t dmM_inject 43 rfl) zs_m1 rfl (nI_pred k) hk (by decide) ?_
  rw [show zs_mo k = nI (mz_m k) from if_pos hk]
  refine zg_callS (zd_t dmM_inject 44 rfl) zl_M_56 zm_mM_rest zst_mM_rest (av := _) (rest := _) (by rfl) (by rfl) (by exact Nat.le_of_ble_eq_true rfl) (zm_rest (v := (zs_re T i k : Int) + z.toInt) (by unfold mz_in; omega) hm.2 hm.1) ?_
  rw [mz_sh_eq]
  refine zg_iast (k := 8 * i + k) (t0 := 0) (zd_t dmM_inject 45 rfl) zs_m2 rfl (by rw [zs_ix8, show 8 * i + (k + 1) = 8 * i + k + 1 by omega]; exact nI_pred _) (by omega) (by decide) (zs_um_re hk) ?_
  refine zg_aload_n (zd_t dmM_inject 46 rfl) rfl ?_
  refine zg_getf (zd_t dmM_inject 47 rfl) zf_M_13 zs_m0 rfl ?_
  refine zg_iload (zd_t dmM_inject 48 rfl) rfl ?_
  refine zg_iald (k := 8 * i + k) (t0 := 0) (zd_t dmM_inject 49 rfl) zs_m2 rfl (by rw [zs_ix8, show 8 * i + (k + 1) = 8 * i + k + 1 by omega]; exact nI_pred _) (by omega) (by decide) ?_
  rw [(zs_q8 hk).1, (zs_q8 hk).2]
  rw [show zs_re (zs_sre T i k (mz_sh (zs_re T i k) z k), zs_ex T).1 i k = mz_sh (zs_re T i k) z k from if_pos ⟨rfl, rfl⟩]
  exact zg_iret (zd_t dmM_inject 50 rfl) rfl rfl
theorem zm_injectX {x y z : Int32} (h : ¬ (zs_ir x ∧ zs_ch y)) : zg_C l (zs_E P) (d + 4) mM_inject [.ref (zp_B P + 67), .int x, .int y, .int z] (zs_σ P S th (zs_b T) o w) (.inl (some (.int (nI 0))), zs_σ P S (nI 1) (zs_b (T)) o w) := by
  refine zg_C_of (by decide +kernel) (Nat.le_of_ble_eq_true rfl) ?_
  by_cases h0 : zs_ir x
  · have h1 : ¬ zs_ch y := fun h1 => h ⟨h0, h1⟩
    refine zg_aload_n (zd_t dmM_inject 0 rfl) rfl ?_
    refine zg_iload_n (zd_t dmM_inject 1 rfl) rfl ?_
    refine zg_callS (zd_t dmM_inject 2 rfl) zl_M_68 zm_mM_isRegister zst_mM_isRegister (av := _) (rest := _) (by rfl) (by rfl) (by exact Nat.le_of_ble_eq_true rfl) (zm_isRegister x) ?_
    rw [decide_eq_true h0]
    refine zg_if_eq (tgt := 20) (zd_t dmM_inject 3 rfl) (by decide) (fun hq => absurd hq (by decide)) (fun _ => ?_)
    refine zg_iload_n (zd_t dmM_inject 4 rfl) rfl ?_
    refine zg_i2l (zd_t dmM_inject 5 rfl) rfl ?_
    refine zg_lconst (v := mz_L 1) (zd_t dmM_inject 6 rfl) (by decide) ?_
    refine zg_ldc2 (zd_t dmM_inject 7 rfl) zc_M_122 ?_
    rw [zs_i2l]
    refine zg_callS (zd_t dmM_inject 8 rfl) zl_M_48 zm_mM_in zst_mM_in (av := _) (rest := _) (by rfl) (by rfl) (by exact Nat.le_of_ble_eq_true rfl) (zm_in (x := y.toInt) (y := 1) (z := 8) (zs_wi32 _) (by unfold mz_wi; omega) (by unfold mz_wi; omega)) ?_
    rw [decide_eq_false h1]
    refine zg_if_ne (tgt := 24) (zd_t dmM_inject 9 rfl) (by decide) (fun hq => absurd (by decide) hq) (fun _ => ?_)
    refine zg_iconst (v := (nI 1)) (zd_t dmM_inject 10 rfl) (by decide) ?_
    refine zg_goto (tgt := 25) (zd_t dmM_inject 11 rfl) (by decide) ?_
    refine zg_iconst (v := (nI 0)) (zd_t dmM_inject 13 rfl) (by decide) ?_
    refine zg_iconst (v := (nI 0)) (zd_t dmM_inject 14 rfl) (by decide) ?_
    refine zg_callV (zd_t dmM_inject 15 rfl) zl_M_72 zm_mM_refuse zi_mM_refuse zse_mM_refuse zs_m0 zs_cl3 rfl (av := _) (rest := _) (by rfl) (by rfl) (by exact Nat.le_of_ble_eq_true rfl) (zm_refuse true false false) ?_
    rw [show zs_rc true false false = 1 from rfl]
    refine zg_if_eq (tgt := 35) (zd_t dmM_inject 16 rfl) (by decide) (fun hq => absurd hq (by decide)) (fun _ => ?_)
    refine zg_iconst (v := (nI 0)) (zd_t dmM_inject 17 rfl) (by decide) ?_
    exact zg_iret (zd_t dmM_inject 18 rfl) rfl rfl
  · skip
    refine zg_aload_n (zd_t dmM_inject 0 rfl) rfl ?_
    refine zg_iload_n (zd_t dmM_inject 1 rfl) rfl ?_
    refine zg_callS (zd_t dmM_inject 2 rfl) zl_M_68 zm_mM_isRegister zst_mM_isRegister (av := _) (rest := _) (by rfl) (by rfl) (by exact Nat.le_of_ble_eq_true rfl) (zm_isRegister x) ?_
    rw [decide_eq_false h0]
    refine zg_if_eq (tgt := 20) (zd_t dmM_inject 3 rfl) (by decide) (fun _ => ?_) (fun hq => absurd (by decide) hq)
    refine zg_iconst (v := (nI 1)) (zd_t dmM_inject 10 rfl) (by decide) ?_
    refine zg_goto (tgt := 25) (zd_t dmM_inject 11 rfl) (by decide) ?_
    refine zg_iconst (v := (nI 0)) (zd_t dmM_inject 13 rfl) (by decide) ?_
    refine zg_iconst (v := (nI 0)) (zd_t dmM_inject 14 rfl) (by decide) ?_
    refine zg_callV (zd_t dmM_inject 15 rfl) zl_M_72 zm_mM_refuse zi_mM_refuse zse_mM_refuse zs_m0 zs_cl3 rfl (av := _) (rest := _) (by rfl) (by rfl) (by exact Nat.le_of_ble_eq_true rfl) (zm_refuse true false false) ?_
    rw [show zs_rc true false false = 1 from rfl]
    refine zg_if_eq (tgt := 35) (zd_t dmM_inject 16 rfl) (by decide) (fun hq => absurd hq (by decide)) (fun _ => ?_)
    refine zg_iconst (v := (nI 0)) (zd_t dmM_inject 17 rfl) (by decide) ?_
    exact zg_iret (zd_t dmM_inject 18 rfl) rfl rfl
theorem zm_verify (hi : i < 16) (hI : zs_inv T) : zg_C l (zs_E P) (d + 4) mM_verify [.ref (zp_B P + 67), .int (nI i)] (zs_σ P S th (zs_b T) o w) (.inl (some (.int (nI (mz_fault (zs_re T i))))), zs_σ P S (nI 0) (zs_b (T)) o w) := by
  refine zg_C_of (by decide +kernel) (Nat.le_of_ble_eq_true rfl) ?_
  refine zg_aload_n (zd_t dmM_verify 0 rfl) rfl ?_
  refine zg_iload_n (zd_t dmM_verify 1 rfl) rfl ?_
  refine zg_callS (zd_t dmM_verify 2 rfl) zl_M_68 zm_mM_isRegister zst_mM_isRegister (av := _) (rest := _) (by rfl) (by rfl) (by exact Nat.le_of_ble_eq_true rfl) (zm_isRegister (nI i)) ?_
  rw [decide_eq_true (zs_rg hi)]
  refine zg_if_ne (tgt := 12) (zd_t dmM_verify 3 rfl) (by decide) (fun _ => ?_) (fun hq => absurd hq (by decide))
  refine zg_iconst (v := (nI 0)) (zd_t dmM_verify 6 rfl) (by decide) ?_
  refine zg_iconst (v := (nI 0)) (zd_t dmM_verify 7 rfl) (by decide) ?_
  refine zg_iconst (v := (nI 0)) (zd_t dmM_verify 8 rfl) (by decide) ?_
  refine zg_callV (zd_t dmM_verify 9 rfl) zl_M_72 zm_mM_refuse zi_mM_refuse zse_mM_refuse zs_m0 zs_cl3 rfl (av := _) (rest := _) (by rfl) (by rfl) (by exact Nat.le_of_ble_eq_true rfl) (zm_refuse false false false) ?_
  rw [show zs_rc false false false = 0 from rfl]
  refine zg_if_eq (tgt := 25) (zd_t dmM_verify 10 rfl) (by decide) (fun _ => ?_) (fun hq => absurd (by decide) hq)
  refine zg_aload_n (zd_t dmM_verify 13 rfl) rfl ?_
  refine zg_iload_n (zd_t dmM_verify 14 rfl) rfl ?_
  refine zg_callV (zd_t dmM_verify 15 rfl) zl_M_128 zm_mM_faultOf zi_mM_faultOf zse_mM_faultOf zs_m0 zs_cl3 rfl (av := _) (rest := _) (by rfl) (by rfl) (by exact Nat.le_of_ble_eq_true rfl) (zm_faultOf hi (hI.1 i hi)) ?_
  exact zg_iret (zd_t dmM_verify 16 rfl) rfl rfl
theorem zm_verifyX {x : Int32} (h : ¬ zs_ir x) : zg_C l (zs_E P) (d + 4) mM_verify [.ref (zp_B P + 67), .int x] (zs_σ P S th (zs_b T) o w) (.inl (some (.int (nI 0))), zs_σ P S (nI 1) (zs_b (T)) o w) := by
  refine zg_C_of (by decide +kernel) (Nat.le_of_ble_eq_true rfl) ?_
  refine zg_aload_n (zd_t dmM_verify 0 rfl) rfl ?_
  refine zg_iload_n (zd_t dmM_verify 1 rfl) rfl ?_
  refine zg_callS (zd_t dmM_verify 2 rfl) zl_M_68 zm_mM_isRegister zst_mM_isRegister (av := _) (rest := _) (by rfl) (by rfl) (by exact Nat.le_of_ble_eq_true rfl) (zm_isRegister x) ?_
  rw [decide_eq_false h]
  refine zg_if_ne (tgt := 12) (zd_t dmM_verify 3 rfl) (by decide) (fun hq => absurd (by decide) hq) (fun _ => ?_)
  refine zg_iconst (v := (nI 1)) (zd_t dmM_verify 4 rfl) (by decide) ?_
  refine zg_goto (tgt := 13) (zd_t dmM_verify 5 rfl) (by decide) ?_
  refine zg_iconst (v := (nI 0)) (zd_t dmM_verify 7 rfl) (by decide) ?_
  refine zg_iconst (v := (nI 0)) (zd_t dmM_verify 8 rfl) (by decide) ?_
  refine zg_callV (zd_t dmM_verify 9 rfl) zl_M_72 zm_mM_refuse zi_mM_refuse zse_mM_refuse zs_m0 zs_cl3 rfl (av := _) (rest := _) (by rfl) (by rfl) (by exact Nat.le_of_ble_eq_true rfl) (zm_refuse true false false) ?_
  rw [show zs_rc true false false = 1 from rfl]
  refine zg_if_eq (tgt := 25) (zd_t dmM_verify 10 rfl) (by decide) (fun hq => absurd hq (by decide)) (fun _ => ?_)
  refine zg_iconst (v := (nI 0)) (zd_t dmM_verify 11 rfl) (by decide) ?_
  refine zg_goto (tgt := 30) (zd_t dmM_verify 12 rfl) (by decide) ?_
  exact zg_iret (zd_t dmM_verify 16 rfl) rfl rfl
theorem zm_repair (hi : i < 16) (hI : zs_inv T) (h9 : mz_fault (zs_re T i) ≠ 9) : zg_C l (zs_E P) (d + 4) mM_repair [.ref (zp_B P + 67), .int (nI i)] (zs_σ P S th (zs_b T) o w) (.inl (some (.int (nI (mz_fault (zs_re T i))))), zs_σ P S (nI 0) (zs_b (zs_srp T i)) o w) := by
  refine zg_C_of (by decide +kernel) (Nat.le_of_ble_eq_true rfl) ?_
  have hle := mz_fault_le (zs_re T i)
  unfold zs_srp
  by_cases h0 : mz_fault (zs_re T i) = 0
  · rw [if_pos h0]
    refine zg_iload_n (zd_t dmM_repair 0 rfl) rfl ?_
    refine zg_callS (zd_t dmM_repair 1 rfl) zl_M_68 zm_mM_isRegister zst_mM_isRegister (av := _) (rest := _) (by rfl) (by rfl) (by exact Nat.le_of_ble_eq_true rfl) (zm_isRegister (nI i)) ?_
    refine zg_istore_n (zd_t dmM_repair 2 rfl) (by decide) rfl ?_
    refine zg_iload_n (zd_t dmM_repair 3 rfl) rfl ?_
    rw [decide_eq_true (zs_rg hi)]
    refine zg_if_eq (tgt := 17) (zd_t dmM_repair 4 rfl) (by decide) (fun hq => absurd hq (by decide)) (fun _ => ?_)
    refine zg_aload_n (zd_t dmM_repair 5 rfl) rfl ?_
    refine zg_iload_n (zd_t dmM_repair 6 rfl) rfl ?_
    refine zg_callV (zd_t dmM_repair 7 rfl) zl_M_128 zm_mM_faultOf zi_mM_faultOf zse_mM_faultOf zs_m0 zs_cl3 rfl (av := _) (rest := _) (by rfl) (by rfl) (by exact Nat.le_of_ble_eq_true rfl) (zm_faultOf hi (hI.1 i hi)) ?_
    refine zg_goto (tgt := 18) (zd_t dmM_repair 8 rfl) (by decide) ?_
    refine zg_istore_n (zd_t dmM_repair 10 rfl) (by decide) rfl ?_
    refine zg_aload_n (zd_t dmM_repair 11 rfl) rfl ?_
    refine zg_iload_n (zd_t dmM_repair 12 rfl) rfl ?_
    refine zg_if_ne (tgt := 28) (zd_t dmM_repair 13 rfl) (by decide) (fun _ => ?_) (fun hq => absurd hq (by decide))
    refine zg_iconst (v := (nI 0)) (zd_t dmM_repair 16 rfl) (by decide) ?_
    refine zg_iload_n (zd_t dmM_repair 17 rfl) rfl ?_
    refine zg_bipush (v := (nI 9)) (zd_t dmM_repair 18 rfl) (by decide) ?_
    refine zg_icmp_ne (tgt := 39) (zd_t dmM_repair 19 rfl) (by decide) (fun _ => ?_) (fun hq => absurd hq (fun h => h9 ((nI_eq (by omega) (by decide)).mp h)))
    refine zg_iconst (v := (nI 0)) (zd_t dmM_repair 22 rfl) (by decide) ?_
    refine zg_iconst (v := (nI 0)) (zd_t dmM_repair 23 rfl) (by decide) ?_
    refine zg_callV (zd_t dmM_repair 24 rfl) zl_M_72 zm_mM_refuse zi_mM_refuse zse_mM_refuse zs_m0 zs_cl3 rfl (av := _) (rest := _) (by rfl) (by rfl) (by exact Nat.le_of_ble_eq_true rfl) (zm_refuse false false false) ?_
    rw [show zs_rc false false false = 0 from rfl]
    refine zg_if_eq (tgt := 49) (zd_t dmM_repair 25 rfl) (by decide) (fun _ => ?_) (fun hq => absurd (by decide) hq)
    refine zg_iload_n (zd_t dmM_repair 28 rfl) rfl ?_
    refine zg_if_le (tgt := 72) (zd_t dmM_repair 29 rfl) (by decide) (fun _ => ?_) (fun hq => absurd (by rw [h0]; decide) hq)
    refine zg_iload_n (zd_t dmM_repair 44 rfl) rfl ?_
    exact zg_iret (zd_t dmM_repair 45 rfl) rfl rfl
  · rw [if_neg h0]
    have hsp := mz_fault_spec h9 h0
    obtain ⟨f, hf⟩ : ∃ f, mz_fault (zs_re T i) = f + 1 := ⟨mz_fault (zs_re T i) - 1, by omega⟩
    have hf8 : f < 8 := by omega
    have hhf : mz_hf (zs_re T i) f := by have := hsp.2.2.2; rw [hf] at this; exact this
    refine zg_iload_n (zd_t dmM_repair 0 rfl) rfl ?_
    refine zg_callS (zd_t dmM_repair 1 rfl) zl_M_68 zm_mM_isRegister zst_mM_isRegister (av := _) (rest := _) (by rfl) (by rfl) (by exact Nat.le_of_ble_eq_true rfl) (zm_isRegister (nI i)) ?_
    refine zg_istore_n (zd_t dmM_repair 2 rfl) (by decide) rfl ?_
    refine zg_iload_n (zd_t dmM_repair 3 rfl) rfl ?_
    rw [decide_eq_true (zs_rg hi)]
    refine zg_if_eq (tgt := 17) (zd_t dmM_repair 4 rfl) (by decide) (fun hq => absurd hq (by decide)) (fun _ => ?_)
    refine zg_aload_n (zd_t dmM_repair 5 rfl) rfl ?_
    refine zg_iload_n (zd_t dmM_repair 6 rfl) rfl ?_
    refine zg_callV (zd_t dmM_repair 7 rfl) zl_M_128 zm_mM_faultOf zi_mM_faultOf zse_mM_faultOf zs_m0 zs_cl3 rfl (av := _) (rest := _) (by rfl) (by rfl) (by exact Nat.le_of_ble_eq_true rfl) (zm_faultOf hi (hI.1 i hi)) ?_
    refine zg_goto (tgt := 18) (zd_t dmM_repair 8 rfl) (by decide) ?_
    refine zg_istore_n (zd_t dmM_repair 10 rfl) (by decide) rfl ?_
    refine zg_aload_n (zd_t dmM_repair 11 rfl) rfl ?_
    refine zg_iload_n (zd_t dmM_repair 12 rfl) rfl ?_
    refine zg_if_ne (tgt := 28) (zd_t dmM_repair 13 rfl) (by decide) (fun _ => ?_) (fun hq => absurd hq (by decide))
    refine zg_iconst (v := (nI 0)) (zd_t dmM_repair 16 rfl) (by decide) ?_
    refine zg_iload_n (zd_t dmM_repair 17 rfl) rfl ?_
    refine zg_bipush (v := (nI 9)) (zd_t dmM_repair 18 rfl) (by decide) ?_
    refine zg_icmp_ne (tgt := 39) (zd_t dmM_repair 19 rfl) (by decide) (fun _ => ?_) (fun hq => absurd hq (fun h => h9 ((nI_eq (by omega) (by decide)).mp h)))
    refine zg_iconst (v := (nI 0)) (zd_t dmM_repair 22 rfl) (by decide) ?_
    refine zg_iconst (v := (nI 0)) (zd_t dmM_repair 23 rfl) (by decide) ?_
    refine zg_callV (zd_t dmM_repair 24 rfl) zl_M_72 zm_mM_refuse zi_mM_refuse zse_mM_refuse zs_m0 zs_cl3 rfl (av := _) (rest := _) (by rfl) (by rfl) (by exact Nat.le_of_ble_eq_true rfl) (zm_refuse false false false) ?_
    rw [show zs_rc false false false = 0 from rfl]
    refine zg_if_eq (tgt := 49) (zd_t dmM_repair 25 rfl) (by decide) (fun _ => ?_) (fun hq => absurd (by decide) hq)
    refine zg_iload_n (zd_t dmM_repair 28 rfl) rfl ?_
    rw [hf]
    refine zg_if_le (tgt := 72) (zd_t dmM_repair 29 rfl) (by decide) (fun hq => absurd hq (nI_nle (by omega) (by omega))) (fun _ => ?_)
    refine zg_aload_n (zd_t dmM_repair 30 rfl) rfl ?_
    refine zg_getf (zd_t dmM_repair 31 rfl) zf_M_13 zs_m0 rfl ?_
    refine zg_bipush (v := (nI 8)) (zd_t dmM_repair 32 rfl) (by decide) ?_
    refine zg_iload_n (zd_t dmM_repair 33 rfl) rfl ?_
    refine zg_imul (zd_t dmM_repair 34 rfl) ?_
    refine zg_iload_n (zd_t dmM_repair 35 rfl) rfl ?_
    refine zg_iadd (zd_t dmM_repair 36 rfl) ?_
    refine zg_iconst (v := (nI 1)) (zd_t dmM_repair 37 rfl) (by decide) ?_
    refine zg_isub (zd_t dmM_repair 38 rfl) ?_
    refine zg_aload_n (zd_t dmM_repair 39 rfl) rfl ?_
    refine zg_iload_n (zd_t dmM_repair 40 rfl) rfl ?_
    refine zg_iload_n (zd_t dmM_repair 41 rfl) rfl ?_
    refine zg_callV (zd_t dmM_repair 42 rfl) zl_M_124 zm_mM_cure zi_mM_cure zse_mM_cure zs_m0 zs_cl3 rfl (av := _) (rest := _) (by rfl) (by rfl) (by exact Nat.le_of_ble_eq_true rfl) (zm_cure (k := f) hi hf8 (hI.1 i hi) hsp.1) ?_
    rw [show mz_cu (zs_re T i) f = nI (mz_ht (zs_re T i) f) from if_pos hhf]
    refine zg_iast (k := 8 * i + f) (t0 := 0) (zd_t dmM_repair 43 rfl) zs_m2 rfl (by rw [zs_ix8, show 8 * i + (f + 1) = 8 * i + f + 1 by omega]; exact nI_pred _) (by omega) (by decide) (zs_um_re hf8) ?_
    refine zg_iload_n (zd_t dmM_repair 44 rfl) rfl ?_
    exact zg_iret (zd_t dmM_repair 45 rfl) rfl rfl
theorem zm_repairX {x : Int32} (h : ¬ zs_ir x) : zg_C l (zs_E P) (d + 4) mM_repair [.ref (zp_B P + 67), .int x] (zs_σ P S th (zs_b T) o w) (.inl (some (.int (nI 0))), zs_σ P S (nI 1) (zs_b (T)) o w) := by
  refine zg_C_of (by decide +kernel) (Nat.le_of_ble_eq_true rfl) ?_
  refine zg_iload_n (zd_t dmM_repair 0 rfl) rfl ?_
  refine zg_callS (zd_t dmM_repair 1 rfl) zl_M_68 zm_mM_isRegister zst_mM_isRegister (av := _) (rest := _) (by rfl) (by rfl) (by exact Nat.le_of_ble_eq_true rfl) (zm_isRegister x) ?_
  refine zg_istore_n (zd_t dmM_repair 2 rfl) (by decide) rfl ?_
  refine zg_iload_n (zd_t dmM_repair 3 rfl) rfl ?_
  rw [decide_eq_false h]
  refine zg_if_eq (tgt := 17) (zd_t dmM_repair 4 rfl) (by decide) (fun _ => ?_) (fun hq => absurd (by decide) hq)
  refine zg_iconst (v := (nI 0)) (zd_t dmM_repair 9 rfl) (by decide) ?_
  refine zg_istore_n (zd_t dmM_repair 10 rfl) (by decide) rfl ?_
  refine zg_aload_n (zd_t dmM_repair 11 rfl) rfl ?_
  refine zg_iload_n (zd_t dmM_repair 12 rfl) rfl ?_
  refine zg_if_ne (tgt := 28) (zd_t dmM_repair 13 rfl) (by decide) (fun hq => absurd (by decide) hq) (fun _ => ?_)
  refine zg_iconst (v := (nI 1)) (zd_t dmM_repair 14 rfl) (by decide) ?_
  refine zg_goto (tgt := 29) (zd_t dmM_repair 15 rfl) (by decide) ?_
  refine zg_iload_n (zd_t dmM_repair 17 rfl) rfl ?_
  refine zg_bipush (v := (nI 9)) (zd_t dmM_repair 18 rfl) (by decide) ?_
  refine zg_icmp_ne (tgt := 39) (zd_t dmM_repair 19 rfl) (by decide) (fun _ => ?_) (fun hq => absurd hq (by decide))
  refine zg_iconst (v := (nI 0)) (zd_t dmM_repair 22 rfl) (by decide) ?_
  refine zg_iconst (v := (nI 0)) (zd_t dmM_repair 23 rfl) (by decide) ?_
  refine zg_callV (zd_t dmM_repair 24 rfl) zl_M_72 zm_mM_refuse zi_mM_refuse zse_mM_refuse zs_m0 zs_cl3 rfl (av := _) (rest := _) (by rfl) (by rfl) (by exact Nat.le_of_ble_eq_true rfl) (zm_refuse true false false) ?_
  rw [show zs_rc true false false = 1 from rfl]
  refine zg_if_eq (tgt := 49) (zd_t dmM_repair 25 rfl) (by decide) (fun hq => absurd hq (by decide)) (fun _ => ?_)
  refine zg_iconst (v := (nI 0)) (zd_t dmM_repair 26 rfl) (by decide) ?_
  exact zg_iret (zd_t dmM_repair 27 rfl) rfl rfl
theorem zm_repairY (hi : i < 16) (hI : zs_inv T) (h9 : mz_fault (zs_re T i) = 9) : zg_C l (zs_E P) (d + 4) mM_repair [.ref (zp_B P + 67), .int (nI i)] (zs_σ P S th (zs_b T) o w) (.inl (some (.int (nI 0))), zs_σ P S (nI 2) (zs_b (T)) o w) := by
  refine zg_C_of (by decide +kernel) (Nat.le_of_ble_eq_true rfl) ?_
  refine zg_iload_n (zd_t dmM_repair 0 rfl) rfl ?_
  refine zg_callS (zd_t dmM_repair 1 rfl) zl_M_68 zm_mM_isRegister zst_mM_isRegister (av := _) (rest := _) (by rfl) (by rfl) (by exact Nat.le_of_ble_eq_true rfl) (zm_isRegister (nI i)) ?_
  refine zg_istore_n (zd_t dmM_repair 2 rfl) (by decide) rfl ?_
  refine zg_iload_n (zd_t dmM_repair 3 rfl) rfl ?_
  rw [decide_eq_true (zs_rg hi)]
  refine zg_if_eq (tgt := 17) (zd_t dmM_repair 4 rfl) (by decide) (fun hq => absurd hq (by decide)) (fun _ => ?_)
  refine zg_aload_n (zd_t dmM_repair 5 rfl) rfl ?_
  refine zg_iload_n (zd_t dmM_repair 6 rfl) rfl ?_
  refine zg_callV (zd_t dmM_repair 7 rfl) zl_M_128 zm_mM_faultOf zi_mM_faultOf zse_mM_faultOf zs_m0 zs_cl3 rfl (av := _) (rest := _) (by rfl) (by rfl) (by exact Nat.le_of_ble_eq_true rfl) (zm_faultOf hi (hI.1 i hi)) ?_
  refine zg_goto (tgt := 18) (zd_t dmM_repair 8 rfl) (by decide) ?_
  refine zg_istore_n (zd_t dmM_repair 10 rfl) (by decide) rfl ?_
  refine zg_aload_n (zd_t dmM_repair 11 rfl) rfl ?_
  refine zg_iload_n (zd_t dmM_repair 12 rfl) rfl ?_
  refine zg_if_ne (tgt := 28) (zd_t dmM_repair 13 rfl) (by decide) (fun _ => ?_) (fun hq => absurd hq (by decide))
  refine zg_iconst (v := (nI 0)) (zd_t dmM_repair 16 rfl) (by decide) ?_
  refine zg_iload_n (zd_t dmM_repair 17 rfl) rfl ?_
  refine zg_bipush (v := (nI 9)) (zd_t dmM_repair 18 rfl) (by decide) ?_
  rw [h9]
  refine zg_icmp_ne (tgt := 39) (zd_t dmM_repair 19 rfl) (by decide) (fun hq => absurd (by decide) hq) (fun _ => ?_)
  refine zg_iconst (v := (nI 1)) (zd_t dmM_repair 20 rfl) (by decide) ?_
  refine zg_goto (tgt := 40) (zd_t dmM_repair 21 rfl) (by decide) ?_
  refine zg_iconst (v := (nI 0)) (zd_t dmM_repair 23 rfl) (by decide) ?_
  refine zg_callV (zd_t dmM_repair 24 rfl) zl_M_72 zm_mM_refuse zi_mM_refuse zse_mM_refuse zs_m0 zs_cl3 rfl (av := _) (rest := _) (by rfl) (by rfl) (by exact Nat.le_of_ble_eq_true rfl) (zm_refuse false true false) ?_
  rw [show zs_rc false true false = 2 from rfl]
  refine zg_if_eq (tgt := 49) (zd_t dmM_repair 25 rfl) (by decide) (fun hq => absurd hq (by decide)) (fun _ => ?_)
  refine zg_iconst (v := (nI 0)) (zd_t dmM_repair 26 rfl) (by decide) ?_
  exact zg_iret (zd_t dmM_repair 27 rfl) rfl rfl
theorem zm_sure (hi : i < 16) : zg_C l (zs_E P) (d + 4) mM_sure [.ref (zp_B P + 67), .int (nI i)] (zs_σ P S th (zs_b T) o w) (.inl (some (.int (zs_bi (zs_su T i)))), zs_σ P S (nI 0) (zs_b (T)) o w) := by
  refine zg_C_of (by decide +kernel) (Nat.le_of_ble_eq_true rfl) ?_
  cases hs : zs_su T i with
  | false =>
    refine zg_aload_n (zd_t dmM_sure 0 rfl) rfl ?_
    refine zg_iload_n (zd_t dmM_sure 1 rfl) rfl ?_
    refine zg_callS (zd_t dmM_sure 2 rfl) zl_M_68 zm_mM_isRegister zst_mM_isRegister (av := _) (rest := _) (by rfl) (by rfl) (by exact Nat.le_of_ble_eq_true rfl) (zm_isRegister (nI i)) ?_
    rw [decide_eq_true (zs_rg hi)]
    refine zg_if_ne (tgt := 12) (zd_t dmM_sure 3 rfl) (by decide) (fun _ => ?_) (fun hq => absurd hq (by decide))
    refine zg_iconst (v := (nI 0)) (zd_t dmM_sure 6 rfl) (by decide) ?_
    refine zg_iconst (v := (nI 0)) (zd_t dmM_sure 7 rfl) (by decide) ?_
    refine zg_iconst (v := (nI 0)) (zd_t dmM_sure 8 rfl) (by decide) ?_
    refine zg_callV (zd_t dmM_sure 9 rfl) zl_M_72 zm_mM_refuse zi_mM_refuse zse_mM_refuse zs_m0 zs_cl3 rfl (av := _) (rest := _) (by rfl) (by rfl) (by exact Nat.le_of_ble_eq_true rfl) (zm_refuse false false false) ?_
    rw [show zs_rc false false false = 0 from rfl]
    refine zg_if_ne (tgt := 34) (zd_t dmM_sure 10 rfl) (by decide) (fun hq => absurd (by decide) hq) (fun _ => ?_)
    refine zg_aload_n (zd_t dmM_sure 11 rfl) rfl ?_
    refine zg_getf (zd_t dmM_sure 12 rfl) zf_M_23 zs_m0 rfl ?_
    refine zg_iload_n (zd_t dmM_sure 13 rfl) rfl ?_
    refine zg_zald (k := i) (t0 := 2) (zd_t dmM_sure 14 rfl) zs_m5 rfl rfl hi (by decide) ?_
    rw [show zs_su (zs_b T).1 i = false from hs]
    refine zg_if_eq (tgt := 34) (zd_t dmM_sure 15 rfl) (by decide) (fun _ => ?_) (fun hq => absurd (by decide) hq)
    refine zg_iconst (v := (nI 0)) (zd_t dmM_sure 18 rfl) (by decide) ?_
    exact zg_zret (zd_t dmM_sure 19 rfl) rfl (by first | rfl | exact zs_nb _) rfl
  | true =>
    refine zg_aload_n (zd_t dmM_sure 0 rfl) rfl ?_
    refine zg_iload_n (zd_t dmM_sure 1 rfl) rfl ?_
    refine zg_callS (zd_t dmM_sure 2 rfl) zl_M_68 zm_mM_isRegister zst_mM_isRegister (av := _) (rest := _) (by rfl) (by rfl) (by exact Nat.le_of_ble_eq_true rfl) (zm_isRegister (nI i)) ?_
    rw [decide_eq_true (zs_rg hi)]
    refine zg_if_ne (tgt := 12) (zd_t dmM_sure 3 rfl) (by decide) (fun _ => ?_) (fun hq => absurd hq (by decide))
    refine zg_iconst (v := (nI 0)) (zd_t dmM_sure 6 rfl) (by decide) ?_
    refine zg_iconst (v := (nI 0)) (zd_t dmM_sure 7 rfl) (by decide) ?_
    refine zg_iconst (v := (nI 0)) (zd_t dmM_sure 8 rfl) (by decide) ?_
    refine zg_callV (zd_t dmM_sure 9 rfl) zl_M_72 zm_mM_refuse zi_mM_refuse zse_mM_refuse zs_m0 zs_cl3 rfl (av := _) (rest := _) (by rfl) (by rfl) (by exact Nat.le_of_ble_eq_true rfl) (zm_refuse false false false) ?_
    rw [show zs_rc false false false = 0 from rfl]
    refine zg_if_ne (tgt := 34) (zd_t dmM_sure 10 rfl) (by decide) (fun hq => absurd (by decide) hq) (fun _ => ?_)
    refine zg_aload_n (zd_t dmM_sure 11 rfl) rfl ?_
    refine zg_getf (zd_t dmM_sure 12 rfl) zf_M_23 zs_m0 rfl ?_
    refine zg_iload_n (zd_t dmM_sure 13 rfl) rfl ?_
    refine zg_zald (k := i) (t0 := 2) (zd_t dmM_sure 14 rfl) zs_m5 rfl rfl hi (by decide) ?_
    rw [show zs_su (zs_b T).1 i = true from hs]
    refine zg_if_eq (tgt := 34) (zd_t dmM_sure 15 rfl) (by decide) (fun hq => absurd hq (by decide)) (fun _ => ?_)
    refine zg_iconst (v := (nI 1)) (zd_t dmM_sure 16 rfl) (by decide) ?_
    refine zg_goto (tgt := 35) (zd_t dmM_sure 17 rfl) (by decide) ?_
    exact zg_zret (zd_t dmM_sure 19 rfl) rfl (by first | rfl | exact zs_nb _) rfl
theorem zm_sureX {x : Int32} (h : ¬ zs_ir x) : zg_C l (zs_E P) (d + 4) mM_sure [.ref (zp_B P + 67), .int x] (zs_σ P S th (zs_b T) o w) (.inl (some (.int (nI 0))), zs_σ P S (nI 1) (zs_b (T)) o w) := by
  refine zg_C_of (by decide +kernel) (Nat.le_of_ble_eq_true rfl) ?_
  refine zg_aload_n (zd_t dmM_sure 0 rfl) rfl ?_
  refine zg_iload_n (zd_t dmM_sure 1 rfl) rfl ?_
  refine zg_callS (zd_t dmM_sure 2 rfl) zl_M_68 zm_mM_isRegister zst_mM_isRegister (av := _) (rest := _) (by rfl) (by rfl) (by exact Nat.le_of_ble_eq_true rfl) (zm_isRegister x) ?_
  rw [decide_eq_false h]
  refine zg_if_ne (tgt := 12) (zd_t dmM_sure 3 rfl) (by decide) (fun hq => absurd (by decide) hq) (fun _ => ?_)
  refine zg_iconst (v := (nI 1)) (zd_t dmM_sure 4 rfl) (by decide) ?_
  refine zg_goto (tgt := 13) (zd_t dmM_sure 5 rfl) (by decide) ?_
  refine zg_iconst (v := (nI 0)) (zd_t dmM_sure 7 rfl) (by decide) ?_
  refine zg_iconst (v := (nI 0)) (zd_t dmM_sure 8 rfl) (by decide) ?_
  refine zg_callV (zd_t dmM_sure 9 rfl) zl_M_72 zm_mM_refuse zi_mM_refuse zse_mM_refuse zs_m0 zs_cl3 rfl (av := _) (rest := _) (by rfl) (by rfl) (by exact Nat.le_of_ble_eq_true rfl) (zm_refuse true false false) ?_
  rw [show zs_rc true false false = 1 from rfl]
  refine zg_if_ne (tgt := 34) (zd_t dmM_sure 10 rfl) (by decide) (fun _ => ?_) (fun hq => absurd hq (by decide))
  refine zg_iconst (v := (nI 0)) (zd_t dmM_sure 18 rfl) (by decide) ?_
  exact zg_zret (zd_t dmM_sure 19 rfl) rfl (by first | rfl | exact zs_nb _) rfl
theorem zm_bound {n : Nat} (hi : i < 16) (hn : n < 2) (hs : zs_su T i = true) : zg_C l (zs_E P) (d + 4) mM_bound [.ref (zp_B P + 67), .int (nI i), .int (nI n)] (zs_σ P S th (zs_b T) o w) (.inl (some (.long (mz_L (zs_ex T i)))), zs_σ P S (nI 0) (zs_b (T)) o w) := by
  refine zg_C_of (by decide +kernel) (Nat.le_of_ble_eq_true rfl) ?_
  by_cases hn0 : n = 0
  · skip
    refine zg_iload_n (zd_t dmM_bound 0 rfl) rfl ?_
    refine zg_callS (zd_t dmM_bound 1 rfl) zl_M_68 zm_mM_isRegister zst_mM_isRegister (av := _) (rest := _) (by rfl) (by rfl) (by exact Nat.le_of_ble_eq_true rfl) (zm_isRegister (nI i)) ?_
    refine zg_istore_n (zd_t dmM_bound 2 rfl) (by decide) rfl ?_
    refine zg_iload_n (zd_t dmM_bound 3 rfl) rfl ?_
    rw [decide_eq_true (zs_rg hi)]
    refine zg_if_eq (tgt := 23) (zd_t dmM_bound 4 rfl) (by decide) (fun hq => absurd hq (by decide)) (fun _ => ?_)
    refine zg_iload_n (zd_t dmM_bound 5 rfl) rfl ?_
    refine zg_i2l (zd_t dmM_bound 6 rfl) rfl ?_
    refine zg_lconst (v := mz_L 0) (zd_t dmM_bound 7 rfl) (by decide) ?_
    refine zg_lconst (v := mz_L 1) (zd_t dmM_bound 8 rfl) (by decide) ?_
    rw [zs_i2l]
    refine zg_callS (zd_t dmM_bound 9 rfl) zl_M_48 zm_mM_in zst_mM_in (av := _) (rest := _) (by rfl) (by rfl) (by exact Nat.le_of_ble_eq_true rfl) (zm_in (x := (nI n).toInt) (y := 0) (z := 1) (zs_wi32 _) (by unfold mz_wi; omega) (by unfold mz_wi; omega)) ?_
    rw [decide_eq_true (by rw [nI_toInt (by omega)]; omega)]
    refine zg_if_eq (tgt := 23) (zd_t dmM_bound 10 rfl) (by decide) (fun hq => absurd hq (by decide)) (fun _ => ?_)
    refine zg_iconst (v := (nI 1)) (zd_t dmM_bound 11 rfl) (by decide) ?_
    refine zg_goto (tgt := 24) (zd_t dmM_bound 12 rfl) (by decide) ?_
    refine zg_istore (zd_t dmM_bound 14 rfl) (by decide) rfl ?_
    refine zg_aload_n (zd_t dmM_bound 15 rfl) rfl ?_
    refine zg_iload_n (zd_t dmM_bound 16 rfl) rfl ?_
    refine zg_if_ne (tgt := 35) (zd_t dmM_bound 17 rfl) (by decide) (fun _ => ?_) (fun hq => absurd hq (by decide))
    refine zg_iconst (v := (nI 0)) (zd_t dmM_bound 20 rfl) (by decide) ?_
    refine zg_iload_n (zd_t dmM_bound 21 rfl) rfl ?_
    refine zg_if_eq (tgt := 49) (zd_t dmM_bound 22 rfl) (by decide) (fun hq => absurd hq (by decide)) (fun _ => ?_)
    refine zg_iload (zd_t dmM_bound 23 rfl) rfl ?_
    refine zg_if_ne (tgt := 49) (zd_t dmM_bound 24 rfl) (by decide) (fun _ => ?_) (fun hq => absurd hq (by decide))
    refine zg_iconst (v := (nI 0)) (zd_t dmM_bound 27 rfl) (by decide) ?_
    refine zg_iload (zd_t dmM_bound 28 rfl) rfl ?_
    refine zg_if_eq (tgt := 68) (zd_t dmM_bound 29 rfl) (by decide) (fun hq => absurd hq (by decide)) (fun _ => ?_)
    refine zg_aload_n (zd_t dmM_bound 30 rfl) rfl ?_
    refine zg_getf (zd_t dmM_bound 31 rfl) zf_M_23 zs_m0 rfl ?_
    refine zg_iload_n (zd_t dmM_bound 32 rfl) rfl ?_
    refine zg_zald (k := i) (t0 := 2) (zd_t dmM_bound 33 rfl) zs_m5 rfl rfl hi (by decide) ?_
    rw [show zs_su (zs_b T).1 i = true from hs]
    refine zg_if_ne (tgt := 68) (zd_t dmM_bound 34 rfl) (by decide) (fun _ => ?_) (fun hq => absurd hq (by decide))
    refine zg_iconst (v := (nI 0)) (zd_t dmM_bound 37 rfl) (by decide) ?_
    refine zg_callV (zd_t dmM_bound 38 rfl) zl_M_72 zm_mM_refuse zi_mM_refuse zse_mM_refuse zs_m0 zs_cl3 rfl (av := _) (rest := _) (by rfl) (by rfl) (by exact Nat.le_of_ble_eq_true rfl) (zm_refuse false false false) ?_
    rw [show zs_rc false false false = 0 from rfl]
    refine zg_if_eq (tgt := 77) (zd_t dmM_bound 39 rfl) (by decide) (fun _ => ?_) (fun hq => absurd (by decide) hq)
    refine zg_iload_n (zd_t dmM_bound 42 rfl) rfl ?_
    refine zg_if_ne (tgt := 90) (zd_t dmM_bound 43 rfl) (by decide) (fun hq => absurd (by rw [hn0]; rfl) hq) (fun _ => ?_)
    refine zg_aload_n (zd_t dmM_bound 44 rfl) rfl ?_
    refine zg_getf (zd_t dmM_bound 45 rfl) zf_M_16 zs_m0 rfl ?_
    refine zg_iload_n (zd_t dmM_bound 46 rfl) rfl ?_
    refine zg_lald (k := i) (t0 := 1) (zd_t dmM_bound 47 rfl) zs_m3 rfl rfl hi (by decide) ?_
    refine zg_goto (tgt := 96) (zd_t dmM_bound 48 rfl) (by decide) ?_
    exact zg_lret (zd_t dmM_bound 53 rfl) rfl rfl
  · skip
    refine zg_iload_n (zd_t dmM_bound 0 rfl) rfl ?_
    refine zg_callS (zd_t dmM_bound 1 rfl) zl_M_68 zm_mM_isRegister zst_mM_isRegister (av := _) (rest := _) (by rfl) (by rfl) (by exact Nat.le_of_ble_eq_true rfl) (zm_isRegister (nI i)) ?_
    refine zg_istore_n (zd_t dmM_bound 2 rfl) (by decide) rfl ?_
    refine zg_iload_n (zd_t dmM_bound 3 rfl) rfl ?_
    rw [decide_eq_true (zs_rg hi)]
    refine zg_if_eq (tgt := 23) (zd_t dmM_bound 4 rfl) (by decide) (fun hq => absurd hq (by decide)) (fun _ => ?_)
    refine zg_iload_n (zd_t dmM_bound 5 rfl) rfl ?_
    refine zg_i2l (zd_t dmM_bound 6 rfl) rfl ?_
    refine zg_lconst (v := mz_L 0) (zd_t dmM_bound 7 rfl) (by decide) ?_
    refine zg_lconst (v := mz_L 1) (zd_t dmM_bound 8 rfl) (by decide) ?_
    rw [zs_i2l]
    refine zg_callS (zd_t dmM_bound 9 rfl) zl_M_48 zm_mM_in zst_mM_in (av := _) (rest := _) (by rfl) (by rfl) (by exact Nat.le_of_ble_eq_true rfl) (zm_in (x := (nI n).toInt) (y := 0) (z := 1) (zs_wi32 _) (by unfold mz_wi; omega) (by unfold mz_wi; omega)) ?_
    rw [decide_eq_true (by rw [nI_toInt (by omega)]; omega)]
    refine zg_if_eq (tgt := 23) (zd_t dmM_bound 10 rfl) (by decide) (fun hq => absurd hq (by decide)) (fun _ => ?_)
    refine zg_iconst (v := (nI 1)) (zd_t dmM_bound 11 rfl) (by decide) ?_
    refine zg_goto (tgt := 24) (zd_t dmM_bound 12 rfl) (by decide) ?_
    refine zg_istore (zd_t dmM_bound 14 rfl) (by decide) rfl ?_
    refine zg_aload_n (zd_t dmM_bound 15 rfl) rfl ?_
    refine zg_iload_n (zd_t dmM_bound 16 rfl) rfl ?_
    refine zg_if_ne (tgt := 35) (zd_t dmM_bound 17 rfl) (by decide) (fun _ => ?_) (fun hq => absurd hq (by decide))
    refine zg_iconst (v := (nI 0)) (zd_t dmM_bound 20 rfl) (by decide) ?_
    refine zg_iload_n (zd_t dmM_bound 21 rfl) rfl ?_
    refine zg_if_eq (tgt := 49) (zd_t dmM_bound 22 rfl) (by decide) (fun hq => absurd hq (by decide)) (fun _ => ?_)
    refine zg_iload (zd_t dmM_bound 23 rfl) rfl ?_
    refine zg_if_ne (tgt := 49) (zd_t dmM_bound 24 rfl) (by decide) (fun _ => ?_) (fun hq => absurd hq (by decide))
    refine zg_iconst (v := (nI 0)) (zd_t dmM_bound 27 rfl) (by decide) ?_
    refine zg_iload (zd_t dmM_bound 28 rfl) rfl ?_
    refine zg_if_eq (tgt := 68) (zd_t dmM_bound 29 rfl) (by decide) (fun hq => absurd hq (by decide)) (fun _ => ?_)
    refine zg_aload_n (zd_t dmM_bound 30 rfl) rfl ?_
    refine zg_getf (zd_t dmM_bound 31 rfl) zf_M_23 zs_m0 rfl ?_
    refine zg_iload_n (zd_t dmM_bound 32 rfl) rfl ?_
    refine zg_zald (k := i) (t0 := 2) (zd_t dmM_bound 33 rfl) zs_m5 rfl rfl hi (by decide) ?_
    rw [show zs_su (zs_b T).1 i = true from hs]
    refine zg_if_ne (tgt := 68) (zd_t dmM_bound 34 rfl) (by decide) (fun _ => ?_) (fun hq => absurd hq (by decide))
    refine zg_iconst (v := (nI 0)) (zd_t dmM_bound 37 rfl) (by decide) ?_
    refine zg_callV (zd_t dmM_bound 38 rfl) zl_M_72 zm_mM_refuse zi_mM_refuse zse_mM_refuse zs_m0 zs_cl3 rfl (av := _) (rest := _) (by rfl) (by rfl) (by exact Nat.le_of_ble_eq_true rfl) (zm_refuse false false false) ?_
    rw [show zs_rc false false false = 0 from rfl]
    refine zg_if_eq (tgt := 77) (zd_t dmM_bound 39 rfl) (by decide) (fun _ => ?_) (fun hq => absurd (by decide) hq)
    refine zg_iload_n (zd_t dmM_bound 42 rfl) rfl ?_
    refine zg_if_ne (tgt := 90) (zd_t dmM_bound 43 rfl) (by decide) (fun _ => ?_) (fun hq => absurd hq (nI_ne0 (by omega) (by omega)))
    refine zg_aload_n (zd_t dmM_bound 49 rfl) rfl ?_
    refine zg_getf (zd_t dmM_bound 50 rfl) zf_M_20 zs_m0 rfl ?_
    refine zg_iload_n (zd_t dmM_bound 51 rfl) rfl ?_
    refine zg_lald (k := i) (t0 := 1) (zd_t dmM_bound 52 rfl) zs_m4 rfl rfl hi (by decide) ?_
    exact zg_lret (zd_t dmM_bound 53 rfl) rfl rfl
theorem zm_boundX {x y : Int32} (h : ¬ zs_ir x) : zg_C l (zs_E P) (d + 4) mM_bound [.ref (zp_B P + 67), .int x, .int y] (zs_σ P S th (zs_b T) o w) (.inl (some (.long (mz_L 0))), zs_σ P S (nI 1) (zs_b (T)) o w) := by
  refine zg_C_of (by decide +kernel) (Nat.le_of_ble_eq_true rfl) ?_
  refine zg_iload_n (zd_t dmM_bound 0 rfl) rfl ?_
  refine zg_callS (zd_t dmM_bound 1 rfl) zl_M_68 zm_mM_isRegister zst_mM_isRegister (av := _) (rest := _) (by rfl) (by rfl) (by exact Nat.le_of_ble_eq_true rfl) (zm_isRegister x) ?_
  refine zg_istore_n (zd_t dmM_bound 2 rfl) (by decide) rfl ?_
  refine zg_iload_n (zd_t dmM_bound 3 rfl) rfl ?_
  rw [decide_eq_false h]
  refine zg_if_eq (tgt := 23) (zd_t dmM_bound 4 rfl) (by decide) (fun _ => ?_) (fun hq => absurd (by decide) hq)
  refine zg_iconst (v := (nI 0)) (zd_t dmM_bound 13 rfl) (by decide) ?_
  refine zg_istore (zd_t dmM_bound 14 rfl) (by decide) rfl ?_
  refine zg_aload_n (zd_t dmM_bound 15 rfl) rfl ?_
  refine zg_iload_n (zd_t dmM_bound 16 rfl) rfl ?_
  refine zg_if_ne (tgt := 35) (zd_t dmM_bound 17 rfl) (by decide) (fun hq => absurd (by decide) hq) (fun _ => ?_)
  refine zg_iconst (v := (nI 1)) (zd_t dmM_bound 18 rfl) (by decide) ?_
  refine zg_goto (tgt := 36) (zd_t dmM_bound 19 rfl) (by decide) ?_
  refine zg_iload_n (zd_t dmM_bound 21 rfl) rfl ?_
  refine zg_if_eq (tgt := 49) (zd_t dmM_bound 22 rfl) (by decide) (fun _ => ?_) (fun hq => absurd (by decide) hq)
  refine zg_iconst (v := (nI 0)) (zd_t dmM_bound 27 rfl) (by decide) ?_
  refine zg_iload (zd_t dmM_bound 28 rfl) rfl ?_
  refine zg_if_eq (tgt := 68) (zd_t dmM_bound 29 rfl) (by decide) (fun _ => ?_) (fun hq => absurd (by decide) hq)
  refine zg_iconst (v := (nI 0)) (zd_t dmM_bound 37 rfl) (by decide) ?_
  refine zg_callV (zd_t dmM_bound 38 rfl) zl_M_72 zm_mM_refuse zi_mM_refuse zse_mM_refuse zs_m0 zs_cl3 rfl (av := _) (rest := _) (by rfl) (by rfl) (by exact Nat.le_of_ble_eq_true rfl) (zm_refuse true false false) ?_
  rw [show zs_rc true false false = 1 from rfl]
  refine zg_if_eq (tgt := 77) (zd_t dmM_bound 39 rfl) (by decide) (fun hq => absurd hq (by decide)) (fun _ => ?_)
  refine zg_lconst (v := mz_L 0) (zd_t dmM_bound 40 rfl) (by decide) ?_
  exact zg_lret (zd_t dmM_bound 41 rfl) rfl rfl
theorem zm_boundY {n : Int32} (hi : i < 16) (hn : ¬ (n = 0 ∨ n = 1)) : zg_C l (zs_E P) (d + 4) mM_bound [.ref (zp_B P + 67), .int (nI i), .int n] (zs_σ P S th (zs_b T) o w) (.inl (some (.long (mz_L 0))), zs_σ P S (nI 2) (zs_b (T)) o w) := by
  refine zg_C_of (by decide +kernel) (Nat.le_of_ble_eq_true rfl) ?_
  have hn2 : ¬ (0 ≤ n.toInt ∧ n.toInt ≤ 1) := fun h => hn (by
    rcases (by omega : n.toInt = 0 ∨ n.toInt = 1) with h1 | h1
    · exact Or.inl (mi_ext h1)
    · exact Or.inr (mi_ext h1))
  refine zg_iload_n (zd_t dmM_bound 0 rfl) rfl ?_
  refine zg_callS (zd_t dmM_bound 1 rfl) zl_M_68 zm_mM_isRegister zst_mM_isRegister (av := _) (rest := _) (by rfl) (by rfl) (by exact Nat.le_of_ble_eq_true rfl) (zm_isRegister (nI i)) ?_
  refine zg_istore_n (zd_t dmM_bound 2 rfl) (by decide) rfl ?_
  refine zg_iload_n (zd_t dmM_bound 3 rfl) rfl ?_
  rw [decide_eq_true (zs_rg hi)]
  refine zg_if_eq (tgt := 23) (zd_t dmM_bound 4 rfl) (by decide) (fun hq => absurd hq (by decide)) (fun _ => ?_)
  refine zg_iload_n (zd_t dmM_bound 5 rfl) rfl ?_
  refine zg_i2l (zd_t dmM_bound 6 rfl) rfl ?_
  refine zg_lconst (v := mz_L 0) (zd_t dmM_bound 7 rfl) (by decide) ?_
  refine zg_lconst (v := mz_L 1) (zd_t dmM_bound 8 rfl) (by decide) ?_
  rw [zs_i2l]
  refine zg_callS (zd_t dmM_bound 9 rfl) zl_M_48 zm_mM_in zst_mM_in (av := _) (rest := _) (by rfl) (by rfl) (by exact Nat.le_of_ble_eq_true rfl) (zm_in (x := n.toInt) (y := 0) (z := 1) (zs_wi32 _) (by unfold mz_wi; omega) (by unfold mz_wi; omega)) ?_
  rw [decide_eq_false hn2]
  refine zg_if_eq (tgt := 23) (zd_t dmM_bound 10 rfl) (by decide) (fun _ => ?_) (fun hq => absurd (by decide) hq)
  refine zg_iconst (v := (nI 0)) (zd_t dmM_bound 13 rfl) (by decide) ?_
  refine zg_istore (zd_t dmM_bound 14 rfl) (by decide) rfl ?_
  refine zg_aload_n (zd_t dmM_bound 15 rfl) rfl ?_
  refine zg_iload_n (zd_t dmM_bound 16 rfl) rfl ?_
  refine zg_if_ne (tgt := 35) (zd_t dmM_bound 17 rfl) (by decide) (fun _ => ?_) (fun hq => absurd hq (by decide))
  refine zg_iconst (v := (nI 0)) (zd_t dmM_bound 20 rfl) (by decide) ?_
  refine zg_iload_n (zd_t dmM_bound 21 rfl) rfl ?_
  refine zg_if_eq (tgt := 49) (zd_t dmM_bound 22 rfl) (by decide) (fun hq => absurd hq (by decide)) (fun _ => ?_)
  refine zg_iload (zd_t dmM_bound 23 rfl) rfl ?_
  refine zg_if_ne (tgt := 49) (zd_t dmM_bound 24 rfl) (by decide) (fun hq => absurd (by decide) hq) (fun _ => ?_)
  refine zg_iconst (v := (nI 1)) (zd_t dmM_bound 25 rfl) (by decide) ?_
  refine zg_goto (tgt := 50) (zd_t dmM_bound 26 rfl) (by decide) ?_
  refine zg_iload (zd_t dmM_bound 28 rfl) rfl ?_
  refine zg_if_eq (tgt := 68) (zd_t dmM_bound 29 rfl) (by decide) (fun _ => ?_) (fun hq => absurd (by decide) hq)
  refine zg_iconst (v := (nI 0)) (zd_t dmM_bound 37 rfl) (by decide) ?_
  refine zg_callV (zd_t dmM_bound 38 rfl) zl_M_72 zm_mM_refuse zi_mM_refuse zse_mM_refuse zs_m0 zs_cl3 rfl (av := _) (rest := _) (by rfl) (by rfl) (by exact Nat.le_of_ble_eq_true rfl) (zm_refuse false true false) ?_
  rw [show zs_rc false true false = 2 from rfl]
  refine zg_if_eq (tgt := 77) (zd_t dmM_bound 39 rfl) (by decide) (fun hq => absurd hq (by decide)) (fun _ => ?_)
  refine zg_lconst (v := mz_L 0) (zd_t dmM_bound 40 rfl) (by decide) ?_
  exact zg_lret (zd_t dmM_bound 41 rfl) rfl rfl
theorem zm_boundZ {n : Nat} (hi : i < 16) (hn : n < 2) (hs : zs_su T i = false) : zg_C l (zs_E P) (d + 4) mM_bound [.ref (zp_B P + 67), .int (nI i), .int (nI n)] (zs_σ P S th (zs_b T) o w) (.inl (some (.long (mz_L 0))), zs_σ P S (nI 3) (zs_b (T)) o w) := by
  refine zg_C_of (by decide +kernel) (Nat.le_of_ble_eq_true rfl) ?_
  refine zg_iload_n (zd_t dmM_bound 0 rfl) rfl ?_
  refine zg_callS (zd_t dmM_bound 1 rfl) zl_M_68 zm_mM_isRegister zst_mM_isRegister (av := _) (rest := _) (by rfl) (by rfl) (by exact Nat.le_of_ble_eq_true rfl) (zm_isRegister (nI i)) ?_
  refine zg_istore_n (zd_t dmM_bound 2 rfl) (by decide) rfl ?_
  refine zg_iload_n (zd_t dmM_bound 3 rfl) rfl ?_
  rw [decide_eq_true (zs_rg hi)]
  refine zg_if_eq (tgt := 23) (zd_t dmM_bound 4 rfl) (by decide) (fun hq => absurd hq (by decide)) (fun _ => ?_)
  refine zg_iload_n (zd_t dmM_bound 5 rfl) rfl ?_
  refine zg_i2l (zd_t dmM_bound 6 rfl) rfl ?_
  refine zg_lconst (v := mz_L 0) (zd_t dmM_bound 7 rfl) (by decide) ?_
  refine zg_lconst (v := mz_L 1) (zd_t dmM_bound 8 rfl) (by decide) ?_
  rw [zs_i2l]
  refine zg_callS (zd_t dmM_bound 9 rfl) zl_M_48 zm_mM_in zst_mM_in (av := _) (rest := _) (by rfl) (by rfl) (by exact Nat.le_of_ble_eq_true rfl) (zm_in (x := (nI n).toInt) (y := 0) (z := 1) (zs_wi32 _) (by unfold mz_wi; omega) (by unfold mz_wi; omega)) ?_
  rw [decide_eq_true (by rw [nI_toInt (by omega)]; omega)]
  refine zg_if_eq (tgt := 23) (zd_t dmM_bound 10 rfl) (by decide) (fun hq => absurd hq (by decide)) (fun _ => ?_)
  refine zg_iconst (v := (nI 1)) (zd_t dmM_bound 11 rfl) (by decide) ?_
  refine zg_goto (tgt := 24) (zd_t dmM_bound 12 rfl) (by decide) ?_
  refine zg_istore (zd_t dmM_bound 14 rfl) (by decide) rfl ?_
  refine zg_aload_n (zd_t dmM_bound 15 rfl) rfl ?_
  refine zg_iload_n (zd_t dmM_bound 16 rfl) rfl ?_
  refine zg_if_ne (tgt := 35) (zd_t dmM_bound 17 rfl) (by decide) (fun _ => ?_) (fun hq => absurd hq (by decide))
  refine zg_iconst (v := (nI 0)) (zd_t dmM_bound 20 rfl) (by decide) ?_
  refine zg_iload_n (zd_t dmM_bound 21 rfl) rfl ?_
  refine zg_if_eq (tgt := 49) (zd_t dmM_bound 22 rfl) (by decide) (fun hq => absurd hq (by decide)) (fun _ => ?_)
  refine zg_iload (zd_t dmM_bound 23 rfl) rfl ?_
  refine zg_if_ne (tgt := 49) (zd_t dmM_bound 24 rfl) (by decide) (fun _ => ?_) (fun hq => absurd hq (by decide))
  refine zg_iconst (v := (nI 0)) (zd_t dmM_bound 27 rfl) (by decide) ?_
  refine zg_iload (zd_t dmM_bound 28 rfl) rfl ?_
  refine zg_if_eq (tgt := 68) (zd_t dmM_bound 29 rfl) (by decide) (fun hq => absurd hq (by decide)) (fun _ => ?_)
  refine zg_aload_n (zd_t dmM_bound 30 rfl) rfl ?_
  refine zg_getf (zd_t dmM_bound 31 rfl) zf_M_23 zs_m0 rfl ?_
  refine zg_iload_n (zd_t dmM_bound 32 rfl) rfl ?_
  refine zg_zald (k := i) (t0 := 2) (zd_t dmM_bound 33 rfl) zs_m5 rfl rfl hi (by decide) ?_
  rw [show zs_su (zs_b T).1 i = false from hs]
  refine zg_if_ne (tgt := 68) (zd_t dmM_bound 34 rfl) (by decide) (fun hq => absurd (by decide) hq) (fun _ => ?_)
  refine zg_iconst (v := (nI 1)) (zd_t dmM_bound 35 rfl) (by decide) ?_
  refine zg_goto (tgt := 69) (zd_t dmM_bound 36 rfl) (by decide) ?_
  refine zg_callV (zd_t dmM_bound 38 rfl) zl_M_72 zm_mM_refuse zi_mM_refuse zse_mM_refuse zs_m0 zs_cl3 rfl (av := _) (rest := _) (by rfl) (by rfl) (by exact Nat.le_of_ble_eq_true rfl) (zm_refuse false false true) ?_
  rw [show zs_rc false false true = 3 from rfl]
  refine zg_if_eq (tgt := 77) (zd_t dmM_bound 39 rfl) (by decide) (fun hq => absurd hq (by decide)) (fun _ => ?_)
  refine zg_lconst (v := mz_L 0) (zd_t dmM_bound 40 rfl) (by decide) ?_
  exact zg_lret (zd_t dmM_bound 41 rfl) rfl rfl
theorem zm_instruct {x y z u : Int32} (hi : i < 32) (ha : zs_alw x y z u = true) : zg_C l (zs_E P) (d + 4) mM_instruct [.ref (zp_B P + 67), .int (nI i), .int x, .int y, .int z, .int u] (zs_σ P S th (zs_b T) o w) (.inl (none), zs_σ P S (nI 0) (zs_b (zs_sins T i x y z u)) o w) := by
  refine zg_C_of (by decide +kernel) (Nat.le_of_ble_eq_true rfl) ?_
  refine zg_iload_n (zd_t dmM_instruct 0 rfl) rfl ?_
  refine zg_callS (zd_t dmM_instruct 1 rfl) zl_M_133 zm_mM_isInstruction zst_mM_isInstruction (av := _) (rest := _) (by rfl) (by rfl) (by exact Nat.le_of_ble_eq_true rfl) (zm_isInstruction (nI i)) ?_
  refine zg_istore (zd_t dmM_instruct 2 rfl) (by decide) rfl ?_
  refine zg_aload_n (zd_t dmM_instruct 3 rfl) rfl ?_
  refine zg_iload (zd_t dmM_instruct 4 rfl) rfl ?_
  rw [decide_eq_true (zs_rgi hi)]
  refine zg_if_ne (tgt := 16) (zd_t dmM_instruct 5 rfl) (by decide) (fun _ => ?_) (fun hq => absurd hq (by decide))
  refine zg_iconst (v := (nI 0)) (zd_t dmM_instruct 8 rfl) (by decide) ?_
  refine zg_iload (zd_t dmM_instruct 9 rfl) rfl ?_
  refine zg_if_eq (tgt := 38) (zd_t dmM_instruct 10 rfl) (by decide) (fun hq => absurd hq (by decide)) (fun _ => ?_)
  refine zg_iload_n (zd_t dmM_instruct 11 rfl) rfl ?_
  refine zg_iload_n (zd_t dmM_instruct 12 rfl) rfl ?_
  refine zg_iload (zd_t dmM_instruct 13 rfl) rfl ?_
  refine zg_iload (zd_t dmM_instruct 14 rfl) rfl ?_
  refine zg_callS (zd_t dmM_instruct 15 rfl) zl_M_142 zm_mM_mayBe zst_mM_mayBe (av := _) (rest := _) (by rfl) (by rfl) (by exact Nat.le_of_ble_eq_true rfl) (zm_mayBe x y z u) ?_
  rw [ha]
  refine zg_if_ne (tgt := 38) (zd_t dmM_instruct 16 rfl) (by decide) (fun _ => ?_) (fun hq => absurd hq (by decide))
  refine zg_iconst (v := (nI 0)) (zd_t dmM_instruct 19 rfl) (by decide) ?_
  refine zg_iconst (v := (nI 0)) (zd_t dmM_instruct 20 rfl) (by decide) ?_
  refine zg_callV (zd_t dmM_instruct 21 rfl) zl_M_72 zm_mM_refuse zi_mM_refuse zse_mM_refuse zs_m0 zs_cl3 rfl (av := _) (rest := _) (by rfl) (by rfl) (by exact Nat.le_of_ble_eq_true rfl) (zm_refuse false false false) ?_
  rw [show zs_rc false false false = 0 from rfl]
  refine zg_if_eq (tgt := 47) (zd_t dmM_instruct 22 rfl) (by decide) (fun _ => ?_) (fun hq => absurd (by decide) hq)
  refine zg_aload_n (zd_t dmM_instruct 24 rfl) rfl ?_
  refine zg_getf (zd_t dmM_instruct 25 rfl) zf_M_30 zs_m0 rfl ?_
  refine zg_iconst (v := (nI 4)) (zd_t dmM_instruct 26 rfl) (by decide) ?_
  refine zg_iload_n (zd_t dmM_instruct 27 rfl) rfl ?_
  refine zg_imul (zd_t dmM_instruct 28 rfl) ?_
  refine zg_iload_n (zd_t dmM_instruct 29 rfl) rfl ?_
  refine zg_iast (k := 4 * i + 0) (t0 := 0) (zd_t dmM_instruct 30 rfl) zs_m7 rfl (by rw [pk_mul]; rfl) (by omega) (by decide) (zs_um_pg (k := 0) (by decide)) ?_
  refine zg_aload_n (zd_t dmM_instruct 31 rfl) rfl ?_
  refine zg_getf (zd_t dmM_instruct 32 rfl) zf_M_30 zs_m0 rfl ?_
  refine zg_iconst (v := (nI 4)) (zd_t dmM_instruct 33 rfl) (by decide) ?_
  refine zg_iload_n (zd_t dmM_instruct 34 rfl) rfl ?_
  refine zg_imul (zd_t dmM_instruct 35 rfl) ?_
  refine zg_iconst (v := (nI 1)) (zd_t dmM_instruct 36 rfl) (by decide) ?_
  refine zg_iadd (zd_t dmM_instruct 37 rfl) ?_
  refine zg_iload_n (zd_t dmM_instruct 38 rfl) rfl ?_
  refine zg_iast (k := 4 * i + 1) (t0 := 0) (zd_t dmM_instruct 39 rfl) zs_m7 rfl (zs_ix4 i 1) (by omega) (by decide) (zs_um_pg (k := 1) (by decide)) ?_
  refine zg_aload_n (zd_t dmM_instruct 40 rfl) rfl ?_
  refine zg_getf (zd_t dmM_instruct 41 rfl) zf_M_30 zs_m0 rfl ?_
  refine zg_iconst (v := (nI 4)) (zd_t dmM_instruct 42 rfl) (by decide) ?_
  refine zg_iload_n (zd_t dmM_instruct 43 rfl) rfl ?_
  refine zg_imul (zd_t dmM_instruct 44 rfl) ?_
  refine zg_iconst (v := (nI 2)) (zd_t dmM_instruct 45 rfl) (by decide) ?_
  refine zg_iadd (zd_t dmM_instruct 46 rfl) ?_
  refine zg_iload (zd_t dmM_instruct 47 rfl) rfl ?_
  refine zg_iast (k := 4 * i + 2) (t0 := 0) (zd_t dmM_instruct 48 rfl) zs_m7 rfl (zs_ix4 i 2) (by omega) (by decide) (zs_um_pg (k := 2) (by decide)) ?_
  refine zg_aload_n (zd_t dmM_instruct 49 rfl) rfl ?_
  refine zg_getf (zd_t dmM_instruct 50 rfl) zf_M_30 zs_m0 rfl ?_
  refine zg_iconst (v := (nI 4)) (zd_t dmM_instruct 51 rfl) (by decide) ?_
  refine zg_iload_n (zd_t dmM_instruct 52 rfl) rfl ?_
  refine zg_imul (zd_t dmM_instruct 53 rfl) ?_
  refine zg_iconst (v := (nI 3)) (zd_t dmM_instruct 54 rfl) (by decide) ?_
  refine zg_iadd (zd_t dmM_instruct 55 rfl) ?_
  refine zg_iload (zd_t dmM_instruct 56 rfl) rfl ?_
  refine zg_iast (k := 4 * i + 3) (t0 := 0) (zd_t dmM_instruct 57 rfl) zs_m7 rfl (zs_ix4 i 3) (by omega) (by decide) (zs_um_pg (k := 3) (by decide)) ?_
  exact zg_vret (zd_t dmM_instruct 58 rfl) rfl rfl
theorem zm_instructX {r x y z u : Int32} (h : ¬ zs_ii r) : zg_C l (zs_E P) (d + 4) mM_instruct [.ref (zp_B P + 67), .int r, .int x, .int y, .int z, .int u] (zs_σ P S th (zs_b T) o w) (.inl (none), zs_σ P S (nI 1) (zs_b (T)) o w) := by
  refine zg_C_of (by decide +kernel) (Nat.le_of_ble_eq_true rfl) ?_
  refine zg_iload_n (zd_t dmM_instruct 0 rfl) rfl ?_
  refine zg_callS (zd_t dmM_instruct 1 rfl) zl_M_133 zm_mM_isInstruction zst_mM_isInstruction (av := _) (rest := _) (by rfl) (by rfl) (by exact Nat.le_of_ble_eq_true rfl) (zm_isInstruction r) ?_
  refine zg_istore (zd_t dmM_instruct 2 rfl) (by decide) rfl ?_
  refine zg_aload_n (zd_t dmM_instruct 3 rfl) rfl ?_
  refine zg_iload (zd_t dmM_instruct 4 rfl) rfl ?_
  rw [decide_eq_false h]
  refine zg_if_ne (tgt := 16) (zd_t dmM_instruct 5 rfl) (by decide) (fun hq => absurd (by decide) hq) (fun _ => ?_)
  refine zg_iconst (v := (nI 1)) (zd_t dmM_instruct 6 rfl) (by decide) ?_
  refine zg_goto (tgt := 17) (zd_t dmM_instruct 7 rfl) (by decide) ?_
  refine zg_iload (zd_t dmM_instruct 9 rfl) rfl ?_
  refine zg_if_eq (tgt := 38) (zd_t dmM_instruct 10 rfl) (by decide) (fun _ => ?_) (fun hq => absurd (by decide) hq)
  refine zg_iconst (v := (nI 0)) (zd_t dmM_instruct 19 rfl) (by decide) ?_
  refine zg_iconst (v := (nI 0)) (zd_t dmM_instruct 20 rfl) (by decide) ?_
  refine zg_callV (zd_t dmM_instruct 21 rfl) zl_M_72 zm_mM_refuse zi_mM_refuse zse_mM_refuse zs_m0 zs_cl3 rfl (av := _) (rest := _) (by rfl) (by rfl) (by exact Nat.le_of_ble_eq_true rfl) (zm_refuse true false false) ?_
  rw [show zs_rc true false false = 1 from rfl]
  refine zg_if_eq (tgt := 47) (zd_t dmM_instruct 22 rfl) (by decide) (fun hq => absurd hq (by decide)) (fun _ => ?_)
  exact zg_vret (zd_t dmM_instruct 23 rfl) rfl rfl
theorem zm_instructY {r x y z u : Int32} (h : zs_ii r) (ha : zs_alw x y z u = false) : zg_C l (zs_E P) (d + 4) mM_instruct [.ref (zp_B P + 67), .int r, .int x, .int y, .int z, .int u] (zs_σ P S th (zs_b T) o w) (.inl (none), zs_σ P S (nI 2) (zs_b (T)) o w) := by
  refine zg_C_of (by decide +kernel) (Nat.le_of_ble_eq_true rfl) ?_
  refine zg_iload_n (zd_t dmM_instruct 0 rfl) rfl ?_
  refine zg_callS (zd_t dmM_instruct 1 rfl) zl_M_133 zm_mM_isInstruction zst_mM_isInstruction (av := _) (rest := _) (by rfl) (by rfl) (by exact Nat.le_of_ble_eq_true rfl) (zm_isInstruction r) ?_
  refine zg_istore (zd_t dmM_instruct 2 rfl) (by decide) rfl ?_
  refine zg_aload_n (zd_t dmM_instruct 3 rfl) rfl ?_
  refine zg_iload (zd_t dmM_instruct 4 rfl) rfl ?_
  rw [decide_eq_true h]
  refine zg_if_ne (tgt := 16) (zd_t dmM_instruct 5 rfl) (by decide) (fun _ => ?_) (fun hq => absurd hq (by decide))
  refine zg_iconst (v := (nI 0)) (zd_t dmM_instruct 8 rfl) (by decide) ?_
  refine zg_iload (zd_t dmM_instruct 9 rfl) rfl ?_
  refine zg_if_eq (tgt := 38) (zd_t dmM_instruct 10 rfl) (by decide) (fun hq => absurd hq (by decide)) (fun _ => ?_)
  refine zg_iload_n (zd_t dmM_instruct 11 rfl) rfl ?_
  refine zg_iload_n (zd_t dmM_instruct 12 rfl) rfl ?_
  refine zg_iload (zd_t dmM_instruct 13 rfl) rfl ?_
  refine zg_iload (zd_t dmM_instruct 14 rfl) rfl ?_
  refine zg_callS (zd_t dmM_instruct 15 rfl) zl_M_142 zm_mM_mayBe zst_mM_mayBe (av := _) (rest := _) (by rfl) (by rfl) (by exact Nat.le_of_ble_eq_true rfl) (zm_mayBe x y z u) ?_
  rw [ha]
  refine zg_if_ne (tgt := 38) (zd_t dmM_instruct 16 rfl) (by decide) (fun hq => absurd (by decide) hq) (fun _ => ?_)
  refine zg_iconst (v := (nI 1)) (zd_t dmM_instruct 17 rfl) (by decide) ?_
  refine zg_goto (tgt := 39) (zd_t dmM_instruct 18 rfl) (by decide) ?_
  refine zg_iconst (v := (nI 0)) (zd_t dmM_instruct 20 rfl) (by decide) ?_
  refine zg_callV (zd_t dmM_instruct 21 rfl) zl_M_72 zm_mM_refuse zi_mM_refuse zse_mM_refuse zs_m0 zs_cl3 rfl (av := _) (rest := _) (by rfl) (by rfl) (by exact Nat.le_of_ble_eq_true rfl) (zm_refuse false true false) ?_
  rw [show zs_rc false true false = 2 from rfl]
  refine zg_if_eq (tgt := 47) (zd_t dmM_instruct 22 rfl) (by decide) (fun hq => absurd hq (by decide)) (fun _ => ?_)
  exact zg_vret (zd_t dmM_instruct 23 rfl) rfl rfl
theorem zm_stopped  : zg_C l (zs_E P) (d + 4) mM_stopped [.ref (zp_B P + 67)] (zs_σ P S th (zs_b T) o w) (.inl (some (.int (zs_sr T))), zs_σ P S (nI 0) (zs_b (T)) o w) := by
  refine zg_C_of (by decide +kernel) (Nat.le_of_ble_eq_true rfl) ?_
  refine zg_aload_n (zd_t dmM_stopped 0 rfl) rfl ?_
  refine zg_iconst (v := (nI 0)) (zd_t dmM_stopped 1 rfl) (by decide) ?_
  refine zg_putf (zd_t dmM_stopped 2 rfl) zf_M_42 zt_3_0 zs_m0 (Nat.le_of_ble_eq_true rfl) rfl rfl zs_um_th ?_
  refine zg_aload_n (zd_t dmM_stopped 3 rfl) rfl ?_
  refine zg_getf (zd_t dmM_stopped 4 rfl) zf_M_155 zs_m0 rfl ?_
  exact zg_iret (zd_t dmM_stopped 5 rfl) rfl rfl
theorem zm_thrown {S2 : zs_S2} : zg_C l (zs_E P) d mM_thrown [.ref (zp_B P + 67)] (zs_σ P S th S2 o w) (.inl (some (.int th)), zs_σ P S th S2 o w) := by
  refine zg_C_of (by decide +kernel) (Nat.le_of_ble_eq_true rfl) ?_
  refine zg_aload_n (zd_t dmM_thrown 0 rfl) rfl ?_
  refine zg_getf (zd_t dmM_thrown 1 rfl) zf_M_42 zs_m0 rfl ?_
  exact zg_iret (zd_t dmM_thrown 2 rfl) rfl rfl
end ZM17
