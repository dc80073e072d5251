def zs_inv (S : zs_S) : Prop := (∀ j, j < 16 → mz_ok (zs_re S j)) ∧ (∀ j, j < 16 → mz_hr (zs_ex S j)) ∧ (∀ i, i < 32 → zs_alw (zs_pg S i 0) (zs_pg S i 1) (zs_pg S i 2) (zs_pg S i 3) = true)
theorem zs_chg {k : Nat} (h : k < 8) : zs_ch (nI (k + 1)) := by unfold zs_ch; rw [nI_toInt (by omega)]; omega
section ZM10
variable {l : Launch} {P : zs_P} {d : Nat} {S : zs_S} {S2 : zs_S2} {th : Int32} {o : Int64} {w : Nat × Nat} {e a b i k : Nat}
theorem zu_binaryX {r : Int32} {σ : zg_H} (htr : l.stackTraces = false) (h : ¬ (zs_ir r)) : zg_C l (zs_E P) (d + 7) mU_binary [.ref (zp_B P), .int r] σ (.inr (zg_sz σ, "java/lang/IndexOutOfBoundsException"), zs_exc σ) := by
  refine zg_C_of (by decide +kernel) (Nat.le_of_ble_eq_true rfl) ?_
  refine zg_iload_n (zd_t dmU_binary 0 rfl) rfl ?_
  by_cases h0 : zs_ir r
  · skip
    refine zg_callS (zd_t dmU_binary 1 rfl) zl_U_30 zm_mU_requireRegister zst_mU_requireRegister (av := _) (rest := _) (by rfl) (by rfl) (by exact Nat.le_of_ble_eq_true rfl) (zu_requireRegister h0) ?_
    exact absurd h0 h
  · exact zg_callST (zd_t dmU_binary 1 rfl) zl_U_30 zm_mU_requireRegister zst_mU_requireRegister (av := _) (rest := _) (by rfl) (by rfl) (by exact Nat.le_of_ble_eq_true rfl) (zu_requireRegisterX htr h0) (fun h hh => absurd hh List.not_mem_nil) rfl
theorem zu_workX {p e a b : Int32} {σ : zg_H} (htr : l.stackTraces = false) (h : ¬ (zs_ir e ∧ zs_ir a ∧ zs_ir b)) : zg_C l (zs_E P) (d + 7) mU_work [.ref (zp_B P), .int p, .int e, .int a, .int b] σ (.inr (zg_sz σ, "java/lang/IndexOutOfBoundsException"), zs_exc σ) := by
  refine zg_C_of (by decide +kernel) (Nat.le_of_ble_eq_true rfl) ?_
  refine zg_iload_n (zd_t dmU_work 0 rfl) rfl ?_
  by_cases h0 : zs_ir e
  · skip
    refine zg_callS (zd_t dmU_work 1 rfl) zl_U_30 zm_mU_requireRegister zst_mU_requireRegister (av := _) (rest := _) (by rfl) (by rfl) (by exact Nat.le_of_ble_eq_true rfl) (zu_requireRegister h0) ?_
    refine zg_iload_n (zd_t dmU_work 2 rfl) rfl ?_
    by_cases h1 : zs_ir a
    · skip
      refine zg_callS (zd_t dmU_work 3 rfl) zl_U_30 zm_mU_requireRegister zst_mU_requireRegister (av := _) (rest := _) (by rfl) (by rfl) (by exact Nat.le_of_ble_eq_true rfl) (zu_requireRegister h1) ?_
      refine zg_iload (zd_t dmU_work 4 rfl) rfl ?_
      by_cases h2 : zs_ir b
      · skip
        refine zg_callS (zd_t dmU_work 5 rfl) zl_U_30 zm_mU_requireRegister zst_mU_requireRegister (av := _) (rest := _) (by rfl) (by rfl) (by exact Nat.le_of_ble_eq_true rfl) (zu_requireRegister h2) ?_
        exact absurd ⟨h0, h1, h2⟩ h
      · exact zg_callST (zd_t dmU_work 5 rfl) zl_U_30 zm_mU_requireRegister zst_mU_requireRegister (av := _) (rest := _) (by rfl) (by rfl) (by exact Nat.le_of_ble_eq_true rfl) (zu_requireRegisterX htr h2) (fun h hh => absurd hh List.not_mem_nil) rfl
    · exact zg_callST (zd_t dmU_work 3 rfl) zl_U_30 zm_mU_requireRegister zst_mU_requireRegister (av := _) (rest := _) (by rfl) (by rfl) (by exact Nat.le_of_ble_eq_true rfl) (zu_requireRegisterX htr h1) (fun h hh => absurd hh List.not_mem_nil) rfl
  · exact zg_callST (zd_t dmU_work 1 rfl) zl_U_30 zm_mU_requireRegister zst_mU_requireRegister (av := _) (rest := _) (by rfl) (by rfl) (by exact Nat.le_of_ble_eq_true rfl) (zu_requireRegisterX htr h0) (fun h hh => absurd hh List.not_mem_nil) rfl
theorem zu_compareX {a b : Int32} {σ : zg_H} (htr : l.stackTraces = false) (h : ¬ (zs_ir a ∧ zs_ir b)) : zg_C l (zs_E P) (d + 7) mU_compare [.ref (zp_B P), .int a, .int b] σ (.inr (zg_sz σ, "java/lang/IndexOutOfBoundsException"), zs_exc σ) := by
  refine zg_C_of (by decide +kernel) (Nat.le_of_ble_eq_true rfl) ?_
  refine zg_iload_n (zd_t dmU_compare 0 rfl) rfl ?_
  by_cases h0 : zs_ir a
  · skip
    refine zg_callS (zd_t dmU_compare 1 rfl) zl_U_30 zm_mU_requireRegister zst_mU_requireRegister (av := _) (rest := _) (by rfl) (by rfl) (by exact Nat.le_of_ble_eq_true rfl) (zu_requireRegister h0) ?_
    refine zg_iload_n (zd_t dmU_compare 2 rfl) rfl ?_
    by_cases h1 : zs_ir b
    · skip
      refine zg_callS (zd_t dmU_compare 3 rfl) zl_U_30 zm_mU_requireRegister zst_mU_requireRegister (av := _) (rest := _) (by rfl) (by rfl) (by exact Nat.le_of_ble_eq_true rfl) (zu_requireRegister h1) ?_
      exact absurd ⟨h0, h1⟩ h
    · exact zg_callST (zd_t dmU_compare 3 rfl) zl_U_30 zm_mU_requireRegister zst_mU_requireRegister (av := _) (rest := _) (by rfl) (by rfl) (by exact Nat.le_of_ble_eq_true rfl) (zu_requireRegisterX htr h1) (fun h hh => absurd hh List.not_mem_nil) rfl
  · exact zg_callST (zd_t dmU_compare 1 rfl) zl_U_30 zm_mU_requireRegister zst_mU_requireRegister (av := _) (rest := _) (by rfl) (by rfl) (by exact Nat.le_of_ble_eq_true rfl) (zu_requireRegisterX htr h0) (fun h hh => absurd hh List.not_mem_nil) rfl
theorem zu_scaleX {e a c z : Int32} {σ : zg_H} (htr : l.stackTraces = false) (h : ¬ (zs_ir e ∧ zs_ir a)) : zg_C l (zs_E P) (d + 7) mU_scale [.ref (zp_B P), .int e, .int a, .int c, .int z] σ (.inr (zg_sz σ, "java/lang/IndexOutOfBoundsException"), zs_exc σ) := by
  refine zg_C_of (by decide +kernel) (Nat.le_of_ble_eq_true rfl) ?_
  refine zg_iload_n (zd_t dmU_scale 0 rfl) rfl ?_
  by_cases h0 : zs_ir e
  · skip
    refine zg_callS (zd_t dmU_scale 1 rfl) zl_U_30 zm_mU_requireRegister zst_mU_requireRegister (av := _) (rest := _) (by rfl) (by rfl) (by exact Nat.le_of_ble_eq_true rfl) (zu_requireRegister h0) ?_
    refine zg_iload_n (zd_t dmU_scale 2 rfl) rfl ?_
    by_cases h1 : zs_ir a
    · skip
      refine zg_callS (zd_t dmU_scale 3 rfl) zl_U_30 zm_mU_requireRegister zst_mU_requireRegister (av := _) (rest := _) (by rfl) (by rfl) (by exact Nat.le_of_ble_eq_true rfl) (zu_requireRegister h1) ?_
      exact absurd ⟨h0, h1⟩ h
    · exact zg_callST (zd_t dmU_scale 3 rfl) zl_U_30 zm_mU_requireRegister zst_mU_requireRegister (av := _) (rest := _) (by rfl) (by rfl) (by exact Nat.le_of_ble_eq_true rfl) (zu_requireRegisterX htr h1) (fun h hh => absurd hh List.not_mem_nil) rfl
  · exact zg_callST (zd_t dmU_scale 1 rfl) zl_U_30 zm_mU_requireRegister zst_mU_requireRegister (av := _) (rest := _) (by rfl) (by rfl) (by exact Nat.le_of_ble_eq_true rfl) (zu_requireRegisterX htr h0) (fun h hh => absurd hh List.not_mem_nil) rfl
theorem zu_divideX {q r a b : Int32} {σ : zg_H} (htr : l.stackTraces = false) (h : ¬ (zs_ir q ∧ zs_ir r ∧ zs_ir a ∧ zs_ir b)) : zg_C l (zs_E P) (d + 7) mU_divide [.ref (zp_B P), .int q, .int r, .int a, .int b] σ (.inr (zg_sz σ, "java/lang/IndexOutOfBoundsException"), zs_exc σ) := by
  refine zg_C_of (by decide +kernel) (Nat.le_of_ble_eq_true rfl) ?_
  refine zg_iload_n (zd_t dmU_divide 0 rfl) rfl ?_
  by_cases h0 : zs_ir q
  · skip
    refine zg_callS (zd_t dmU_divide 1 rfl) zl_U_30 zm_mU_requireRegister zst_mU_requireRegister (av := _) (rest := _) (by rfl) (by rfl) (by exact Nat.le_of_ble_eq_true rfl) (zu_requireRegister h0) ?_
    refine zg_iload_n (zd_t dmU_divide 2 rfl) rfl ?_
    by_cases h1 : zs_ir r
    · skip
      refine zg_callS (zd_t dmU_divide 3 rfl) zl_U_30 zm_mU_requireRegister zst_mU_requireRegister (av := _) (rest := _) (by rfl) (by rfl) (by exact Nat.le_of_ble_eq_true rfl) (zu_requireRegister h1) ?_
      refine zg_iload_n (zd_t dmU_divide 4 rfl) rfl ?_
      by_cases h2 : zs_ir a
      · skip
        refine zg_callS (zd_t dmU_divide 5 rfl) zl_U_30 zm_mU_requireRegister zst_mU_requireRegister (av := _) (rest := _) (by rfl) (by rfl) (by exact Nat.le_of_ble_eq_true rfl) (zu_requireRegister h2) ?_
        refine zg_iload (zd_t dmU_divide 6 rfl) rfl ?_
        by_cases h3 : zs_ir b
        · skip
          refine zg_callS (zd_t dmU_divide 7 rfl) zl_U_30 zm_mU_requireRegister zst_mU_requireRegister (av := _) (rest := _) (by rfl) (by rfl) (by exact Nat.le_of_ble_eq_true rfl) (zu_requireRegister h3) ?_
          exact absurd ⟨h0, h1, h2, h3⟩ h
        · exact zg_callST (zd_t dmU_divide 7 rfl) zl_U_30 zm_mU_requireRegister zst_mU_requireRegister (av := _) (rest := _) (by rfl) (by rfl) (by exact Nat.le_of_ble_eq_true rfl) (zu_requireRegisterX htr h3) (fun h hh => absurd hh List.not_mem_nil) rfl
      · exact zg_callST (zd_t dmU_divide 5 rfl) zl_U_30 zm_mU_requireRegister zst_mU_requireRegister (av := _) (rest := _) (by rfl) (by rfl) (by exact Nat.le_of_ble_eq_true rfl) (zu_requireRegisterX htr h2) (fun h hh => absurd hh List.not_mem_nil) rfl
    · exact zg_callST (zd_t dmU_divide 3 rfl) zl_U_30 zm_mU_requireRegister zst_mU_requireRegister (av := _) (rest := _) (by rfl) (by rfl) (by exact Nat.le_of_ble_eq_true rfl) (zu_requireRegisterX htr h1) (fun h hh => absurd hh List.not_mem_nil) rfl
  · exact zg_callST (zd_t dmU_divide 1 rfl) zl_U_30 zm_mU_requireRegister zst_mU_requireRegister (av := _) (rest := _) (by rfl) (by rfl) (by exact Nat.le_of_ble_eq_true rfl) (zu_requireRegisterX htr h0) (fun h hh => absurd hh List.not_mem_nil) rfl
theorem zu_channelX {r k : Int32} {σ : zg_H} (htr : l.stackTraces = false) (h : ¬ (zs_ir r ∧ zs_ch k)) : zg_C l (zs_E P) (d + 7) mU_channel [.ref (zp_B P), .int r, .int k] σ (.inr (zg_sz σ, "java/lang/IndexOutOfBoundsException"), zs_exc σ) := by
  refine zg_C_of (by decide +kernel) (Nat.le_of_ble_eq_true rfl) ?_
  refine zg_iload_n (zd_t dmU_channel 0 rfl) rfl ?_
  by_cases h0 : zs_ir r
  · skip
    refine zg_callS (zd_t dmU_channel 1 rfl) zl_U_30 zm_mU_requireRegister zst_mU_requireRegister (av := _) (rest := _) (by rfl) (by rfl) (by exact Nat.le_of_ble_eq_true rfl) (zu_requireRegister h0) ?_
    refine zg_iload_n (zd_t dmU_channel 2 rfl) rfl ?_
    by_cases h1 : zs_ch k
    · skip
      refine zg_callS (zd_t dmU_channel 3 rfl) zl_U_83 zm_mU_requireChannel zst_mU_requireChannel (av := _) (rest := _) (by rfl) (by rfl) (by exact Nat.le_of_ble_eq_true rfl) (zu_requireChannel h1) ?_
      exact absurd ⟨h0, h1⟩ h
    · exact zg_callST (zd_t dmU_channel 3 rfl) zl_U_83 zm_mU_requireChannel zst_mU_requireChannel (av := _) (rest := _) (by rfl) (by rfl) (by exact Nat.le_of_ble_eq_true rfl) (zu_requireChannelX htr h1) (fun h hh => absurd hh List.not_mem_nil) rfl
  · exact zg_callST (zd_t dmU_channel 1 rfl) zl_U_30 zm_mU_requireRegister zst_mU_requireRegister (av := _) (rest := _) (by rfl) (by rfl) (by exact Nat.le_of_ble_eq_true rfl) (zu_requireRegisterX htr h0) (fun h hh => absurd hh List.not_mem_nil) rfl
theorem zu_injectX {r k e : Int32} {σ : zg_H} (htr : l.stackTraces = false) (h : ¬ (zs_ir r ∧ zs_ch k)) : zg_C l (zs_E P) (d + 7) mU_inject [.ref (zp_B P), .int r, .int k, .int e] σ (.inr (zg_sz σ, "java/lang/IndexOutOfBoundsException"), zs_exc σ) := by
  refine zg_C_of (by decide +kernel) (Nat.le_of_ble_eq_true rfl) ?_
  refine zg_iload_n (zd_t dmU_inject 0 rfl) rfl ?_
  by_cases h0 : zs_ir r
  · skip
    refine zg_callS (zd_t dmU_inject 1 rfl) zl_U_30 zm_mU_requireRegister zst_mU_requireRegister (av := _) (rest := _) (by rfl) (by rfl) (by exact Nat.le_of_ble_eq_true rfl) (zu_requireRegister h0) ?_
    refine zg_iload_n (zd_t dmU_inject 2 rfl) rfl ?_
    by_cases h1 : zs_ch k
    · skip
      refine zg_callS (zd_t dmU_inject 3 rfl) zl_U_83 zm_mU_requireChannel zst_mU_requireChannel (av := _) (rest := _) (by rfl) (by rfl) (by exact Nat.le_of_ble_eq_true rfl) (zu_requireChannel h1) ?_
      exact absurd ⟨h0, h1⟩ h
    · exact zg_callST (zd_t dmU_inject 3 rfl) zl_U_83 zm_mU_requireChannel zst_mU_requireChannel (av := _) (rest := _) (by rfl) (by rfl) (by exact Nat.le_of_ble_eq_true rfl) (zu_requireChannelX htr h1) (fun h hh => absurd hh List.not_mem_nil) rfl
  · exact zg_callST (zd_t dmU_inject 1 rfl) zl_U_30 zm_mU_requireRegister zst_mU_requireRegister (av := _) (rest := _) (by rfl) (by rfl) (by exact Nat.le_of_ble_eq_true rfl) (zu_requireRegisterX htr h0) (fun h hh => absurd hh List.not_mem_nil) rfl
theorem zu_verifyX {r : Int32} {σ : zg_H} (htr : l.stackTraces = false) (h : ¬ (zs_ir r)) : zg_C l (zs_E P) (d + 7) mU_verify [.ref (zp_B P), .int r] σ (.inr (zg_sz σ, "java/lang/IndexOutOfBoundsException"), zs_exc σ) := by
  refine zg_C_of (by decide +kernel) (Nat.le_of_ble_eq_true rfl) ?_
  refine zg_iload_n (zd_t dmU_verify 0 rfl) rfl ?_
  by_cases h0 : zs_ir r
  · skip
    refine zg_callS (zd_t dmU_verify 1 rfl) zl_U_30 zm_mU_requireRegister zst_mU_requireRegister (av := _) (rest := _) (by rfl) (by rfl) (by exact Nat.le_of_ble_eq_true rfl) (zu_requireRegister h0) ?_
    exact absurd h0 h
  · exact zg_callST (zd_t dmU_verify 1 rfl) zl_U_30 zm_mU_requireRegister zst_mU_requireRegister (av := _) (rest := _) (by rfl) (by rfl) (by exact Nat.le_of_ble_eq_true rfl) (zu_requireRegisterX htr h0) (fun h hh => absurd hh List.not_mem_nil) rfl
theorem zu_repairX {r : Int32} {σ : zg_H} (htr : l.stackTraces = false) (h : ¬ (zs_ir r)) : zg_C l (zs_E P) (d + 7) mU_repair [.ref (zp_B P), .int r] σ (.inr (zg_sz σ, "java/lang/IndexOutOfBoundsException"), zs_exc σ) := by
  refine zg_C_of (by decide +kernel) (Nat.le_of_ble_eq_true rfl) ?_
  refine zg_iload_n (zd_t dmU_repair 0 rfl) rfl ?_
  by_cases h0 : zs_ir r
  · skip
    refine zg_callS (zd_t dmU_repair 1 rfl) zl_U_30 zm_mU_requireRegister zst_mU_requireRegister (av := _) (rest := _) (by rfl) (by rfl) (by exact Nat.le_of_ble_eq_true rfl) (zu_requireRegister h0) ?_
    exact absurd h0 h
  · exact zg_callST (zd_t dmU_repair 1 rfl) zl_U_30 zm_mU_requireRegister zst_mU_requireRegister (av := _) (rest := _) (by rfl) (by rfl) (by exact Nat.le_of_ble_eq_true rfl) (zu_requireRegisterX htr h0) (fun h hh => absurd hh List.not_mem_nil) rfl
theorem zu_sureX {r : Int32} {σ : zg_H} (htr : l.stackTraces = false) (h : ¬ (zs_ir r)) : zg_C l (zs_E P) (d + 7) mU_sure [.ref (zp_B P), .int r] σ (.inr (zg_sz σ, "java/lang/IndexOutOfBoundsException"), zs_exc σ) := by
  refine zg_C_of (by decide +kernel) (Nat.le_of_ble_eq_true rfl) ?_
  refine zg_iload_n (zd_t dmU_sure 0 rfl) rfl ?_
  by_cases h0 : zs_ir r
  · skip
    refine zg_callS (zd_t dmU_sure 1 rfl) zl_U_30 zm_mU_requireRegister zst_mU_requireRegister (av := _) (rest := _) (by rfl) (by rfl) (by exact Nat.le_of_ble_eq_true rfl) (zu_requireRegister h0) ?_
    exact absurd h0 h
  · exact zg_callST (zd_t dmU_sure 1 rfl) zl_U_30 zm_mU_requireRegister zst_mU_requireRegister (av := _) (rest := _) (by rfl) (by rfl) (by exact Nat.le_of_ble_eq_true rfl) (zu_requireRegisterX htr h0) (fun h hh => absurd hh List.not_mem_nil) rfl
theorem zu_boundX {r n : Int32} {σ : zg_H} (htr : l.stackTraces = false) (h : ¬ (zs_ir r)) : zg_C l (zs_E P) (d + 7) mU_bound [.ref (zp_B P), .int r, .int n] σ (.inr (zg_sz σ, "java/lang/IndexOutOfBoundsException"), zs_exc σ) := by
  refine zg_C_of (by decide +kernel) (Nat.le_of_ble_eq_true rfl) ?_
  refine zg_iload_n (zd_t dmU_bound 0 rfl) rfl ?_
  by_cases h0 : zs_ir r
  · skip
    refine zg_callS (zd_t dmU_bound 1 rfl) zl_U_30 zm_mU_requireRegister zst_mU_requireRegister (av := _) (rest := _) (by rfl) (by rfl) (by exact Nat.le_of_ble_eq_true rfl) (zu_requireRegister h0) ?_
    exact absurd h0 h
  · exact zg_callST (zd_t dmU_bound 1 rfl) zl_U_30 zm_mU_requireRegister zst_mU_requireRegister (av := _) (rest := _) (by rfl) (by rfl) (by exact Nat.le_of_ble_eq_true rfl) (zu_requireRegisterX htr h0) (fun h hh => absurd hh List.not_mem_nil) rfl
theorem zu_binary (hi : i < 16) (hok : mz_ok (zs_re S i)) (hg : mz_good (zs_re S i)) : zg_C l (zs_E P) (d + 6) mU_binary [.ref (zp_B P), .int (nI i)] (zs_σ P S th S2 o w) (.inl (some (.long (mz_L (mz_val (zs_re S i))))), (zs_σ P S th S2 o w)) := by
  refine zg_C_of (by decide +kernel) (Nat.le_of_ble_eq_true rfl) ?_
  refine zg_iload_n (zd_t dmU_binary 0 rfl) rfl ?_
  refine zg_callS (zd_t dmU_binary 1 rfl) zl_U_30 zm_mU_requireRegister zst_mU_requireRegister (av := _) (rest := _) (by rfl) (by rfl) (by exact Nat.le_of_ble_eq_true rfl) (zu_requireRegister (zs_rg hi)) ?_
  refine zg_aload_n (zd_t dmU_binary 2 rfl) rfl ?_
  refine zg_getf (zd_t dmU_binary 3 rfl) zf_U_11 zs_0 rfl ?_
  refine zg_iload_n (zd_t dmU_binary 4 rfl) rfl ?_
  refine zg_aald (t0 := 3) (zd_t dmU_binary 5 rfl) zs_1 rfl rfl hi (by decide) (zs_rf_at hi) ?_
  refine zg_callV (zd_t dmU_binary 6 rfl) zl_U_49 zm_mR_isGood zi_mR_isGood zse_mR_isGood (zs_reg hi) zs_cl1 rfl (av := _) (rest := _) (by rfl) (by rfl) (by exact Nat.le_of_ble_eq_true rfl) (zr_isGood hi hok) ?_
  rw [decide_eq_true hg]
  refine zg_if_ne (tgt := 26) (zd_t dmU_binary 7 rfl) (by decide) (fun _ => ?_) (fun hq => absurd hq (by decide))
  refine zg_aload_n (zd_t dmU_binary 13 rfl) rfl ?_
  refine zg_getf (zd_t dmU_binary 14 rfl) zf_U_11 zs_0 rfl ?_
  refine zg_iload_n (zd_t dmU_binary 15 rfl) rfl ?_
  refine zg_aald (t0 := 3) (zd_t dmU_binary 16 rfl) zs_1 rfl rfl hi (by decide) (zs_rf_at hi) ?_
  refine zg_callV (zd_t dmU_binary 17 rfl) zl_U_58 zm_mR_value zi_mR_value zse_mR_value (zs_reg hi) zs_cl1 rfl (av := _) (rest := _) (by rfl) (by rfl) (by exact Nat.le_of_ble_eq_true rfl) (zr_value hi hok) ?_
  exact zg_lret (zd_t dmU_binary 18 rfl) rfl rfl
theorem zu_binaryY (htr : l.stackTraces = false) (hi : i < 16) (hok : mz_ok (zs_re S i)) (hg : ¬ mz_good (zs_re S i)) : zg_C l (zs_E P) (d + 7) mU_binary [.ref (zp_B P), .int (nI i)] (zs_σ P S th S2 o w) (.inr (zg_sz (zs_σ P S th S2 o w), "java/lang/IllegalStateException"), zs_exc (zs_σ P S th S2 o w)) := by
  refine zg_C_of (by decide +kernel) (Nat.le_of_ble_eq_true rfl) ?_
  refine zg_iload_n (zd_t dmU_binary 0 rfl) rfl ?_
  refine zg_callS (zd_t dmU_binary 1 rfl) zl_U_30 zm_mU_requireRegister zst_mU_requireRegister (av := _) (rest := _) (by rfl) (by rfl) (by exact Nat.le_of_ble_eq_true rfl) (zu_requireRegister (zs_rg hi)) ?_
  refine zg_aload_n (zd_t dmU_binary 2 rfl) rfl ?_
  refine zg_getf (zd_t dmU_binary 3 rfl) zf_U_11 zs_0 rfl ?_
  refine zg_iload_n (zd_t dmU_binary 4 rfl) rfl ?_
  refine zg_aald (t0 := 3) (zd_t dmU_binary 5 rfl) zs_1 rfl rfl hi (by decide) (zs_rf_at hi) ?_
  refine zg_callV (zd_t dmU_binary 6 rfl) zl_U_49 zm_mR_isGood zi_mR_isGood zse_mR_isGood (zs_reg hi) zs_cl1 rfl (av := _) (rest := _) (by rfl) (by rfl) (by exact Nat.le_of_ble_eq_true rfl) (zr_isGood hi hok) ?_
  rw [decide_eq_false hg]
  refine zg_if_ne (tgt := 26) (zd_t dmU_binary 7 rfl) (by decide) (fun hq => absurd (by decide) hq) (fun _ => ?_)
  exact zg_throw htr (by omega) (by decide) (by decide) (zd_t dmU_binary 8 rfl) (zd_t dmU_binary 9 rfl) (zd_t dmU_binary 10 rfl) (zd_t dmU_binary 11 rfl) (zd_t dmU_binary 12 rfl) zcl_U_53 zs_iISE (zs_str 55 "the register is not good" (by decide)) (by decide +kernel) (by decide +kernel) zx_ISE (zs_in 228 (by decide +kernel) (by decide +kernel)) (fun h hh => absurd hh List.not_mem_nil) rfl
theorem zu_work {p : Nat} (hp : p < 4) (he : e < 16) (ha : a < 16) (hb : b < 16) (hI : zs_inv S) : zg_C l (zs_E P) (d + 6) mU_work [.ref (zp_B P), .int (nI p), .int (nI e), .int (nI a), .int (nI b)] (zs_σ P S th S2 o w) (.inl none, zs_σ P (zs_scmb S p e a b) th S2 o w) := by
  refine zg_C_of (by decide +kernel) (Nat.le_of_ble_eq_true rfl) ?_
  refine zg_iload_n (zd_t dmU_work 0 rfl) rfl ?_
  refine zg_callS (zd_t dmU_work 1 rfl) zl_U_30 zm_mU_requireRegister zst_mU_requireRegister (av := _) (rest := _) (by rfl) (by rfl) (by exact Nat.le_of_ble_eq_true rfl) (zu_requireRegister (zs_rg he)) ?_
  refine zg_iload_n (zd_t dmU_work 2 rfl) rfl ?_
  refine zg_callS (zd_t dmU_work 3 rfl) zl_U_30 zm_mU_requireRegister zst_mU_requireRegister (av := _) (rest := _) (by rfl) (by rfl) (by exact Nat.le_of_ble_eq_true rfl) (zu_requireRegister (zs_rg ha)) ?_
  refine zg_iload (zd_t dmU_work 4 rfl) rfl ?_
  refine zg_callS (zd_t dmU_work 5 rfl) zl_U_30 zm_mU_requireRegister zst_mU_requireRegister (av := _) (rest := _) (by rfl) (by rfl) (by exact Nat.le_of_ble_eq_true rfl) (zu_requireRegister (zs_rg hb)) ?_
  refine zg_iload_n (zd_t dmU_work 6 rfl) rfl ?_
  refine zg_if_lt (tgt := 22) (zd_t dmU_work 7 rfl) (by decide) (fun hq => absurd hq (nI_pos (by omega))) (fun _ => ?_)
  refine zg_iload_n (zd_t dmU_work 8 rfl) rfl ?_
  refine zg_iconst (v := (nI 3)) (zd_t dmU_work 9 rfl) (by decide) ?_
  refine zg_icmp_le (tgt := 32) (zd_t dmU_work 10 rfl) (by decide) (fun _ => ?_) (fun hq => absurd ((nI_leI (by omega) (by decide)).mpr (by omega)) hq)
  refine zg_aload_n (zd_t dmU_work 16 rfl) rfl ?_
  refine zg_getf (zd_t dmU_work 17 rfl) zf_U_11 zs_0 rfl ?_
  refine zg_iload_n (zd_t dmU_work 18 rfl) rfl ?_
  refine zg_aald (t0 := 3) (zd_t dmU_work 19 rfl) zs_1 rfl rfl he (by decide) (zs_rf_at he) ?_
  refine zg_iload_n (zd_t dmU_work 20 rfl) rfl ?_
  refine zg_aload_n (zd_t dmU_work 21 rfl) rfl ?_
  refine zg_getf (zd_t dmU_work 22 rfl) zf_U_11 zs_0 rfl ?_
  refine zg_iload_n (zd_t dmU_work 23 rfl) rfl ?_
  refine zg_aald (t0 := 3) (zd_t dmU_work 24 rfl) zs_1 rfl rfl ha (by decide) (zs_rf_at ha) ?_
  refine zg_aload_n (zd_t dmU_work 25 rfl) rfl ?_
  refine zg_getf (zd_t dmU_work 26 rfl) zf_U_11 zs_0 rfl ?_
  refine zg_iload (zd_t dmU_work 27 rfl) rfl ?_
  refine zg_aald (t0 := 3) (zd_t dmU_work 28 rfl) zs_1 rfl rfl hb (by decide) (zs_rf_at hb) ?_
  refine zg_callV (zd_t dmU_work 29 rfl) zl_U_64 zm_mR_combine zi_mR_combine zse_mR_combine (zs_reg he) zs_cl1 rfl (av := _) (rest := _) (by rfl) (by rfl) (by exact Nat.le_of_ble_eq_true rfl) (zr_combine he ha hb hp hI.2.1 hI.1) ?_
  exact zg_vret (zd_t dmU_work 30 rfl) rfl rfl
theorem zu_workY (htr : l.stackTraces = false) {p : Int32} (hp : ¬ (0 ≤ p.toInt ∧ p.toInt ≤ 3)) (he : e < 16) (ha : a < 16) (hb : b < 16) : zg_C l (zs_E P) (d + 7) mU_work [.ref (zp_B P), .int p, .int (nI e), .int (nI a), .int (nI b)] (zs_σ P S th S2 o w) (.inr (zg_sz (zs_σ P S th S2 o w), "java/lang/IllegalArgumentException"), zs_exc (zs_σ P S th S2 o w)) := by
  refine zg_C_of (by decide +kernel) (Nat.le_of_ble_eq_true rfl) ?_
  refine zg_iload_n (zd_t dmU_work 0 rfl) rfl ?_
  refine zg_callS (zd_t dmU_work 1 rfl) zl_U_30 zm_mU_requireRegister zst_mU_requireRegister (av := _) (rest := _) (by rfl) (by rfl) (by exact Nat.le_of_ble_eq_true rfl) (zu_requireRegister (zs_rg he)) ?_
  refine zg_iload_n (zd_t dmU_work 2 rfl) rfl ?_
  refine zg_callS (zd_t dmU_work 3 rfl) zl_U_30 zm_mU_requireRegister zst_mU_requireRegister (av := _) (rest := _) (by rfl) (by rfl) (by exact Nat.le_of_ble_eq_true rfl) (zu_requireRegister (zs_rg ha)) ?_
  refine zg_iload (zd_t dmU_work 4 rfl) rfl ?_
  refine zg_callS (zd_t dmU_work 5 rfl) zl_U_30 zm_mU_requireRegister zst_mU_requireRegister (av := _) (rest := _) (by rfl) (by rfl) (by exact Nat.le_of_ble_eq_true rfl) (zu_requireRegister (zs_rg hb)) ?_
  refine zg_iload_n (zd_t dmU_work 6 rfl) rfl ?_
  refine zg_if_lt (tgt := 22) (zd_t dmU_work 7 rfl) (by decide) (fun h1 => ?_) (fun h1 => ?_)
  · exact zg_throw htr (by omega) (by decide) (by decide) (zd_t dmU_work 11 rfl) (zd_t dmU_work 12 rfl) (zd_t dmU_work 13 rfl) (zd_t dmU_work 14 rfl) (zd_t dmU_work 15 rfl) zcl_U_38 zs_iIAE (zs_str 62 "there is no such op" (by decide)) (by decide +kernel) (by decide +kernel) zx_IAE (zs_in 175 (by decide +kernel) (by decide +kernel)) (fun h hh => absurd hh List.not_mem_nil) rfl
  rw [Int32.lt_iff_toInt_lt] at h1
  have h1 : ¬ p.toInt < 0 := h1
  refine zg_iload_n (zd_t dmU_work 8 rfl) rfl ?_
  refine zg_iconst (v := (nI 3)) (zd_t dmU_work 9 rfl) (by decide) ?_
  refine zg_icmp_le (tgt := 32) (zd_t dmU_work 10 rfl) (by decide) (fun h2 => ?_) (fun h2 => ?_)
  · rw [Int32.le_iff_toInt_le] at h2
    have h2 : p.toInt ≤ 3 := h2
    omega
  · exact zg_throw htr (by omega) (by decide) (by decide) (zd_t dmU_work 11 rfl) (zd_t dmU_work 12 rfl) (zd_t dmU_work 13 rfl) (zd_t dmU_work 14 rfl) (zd_t dmU_work 15 rfl) zcl_U_38 zs_iIAE (zs_str 62 "there is no such op" (by decide)) (by decide +kernel) (by decide +kernel) zx_IAE (zs_in 175 (by decide +kernel) (by decide +kernel)) (fun h hh => absurd hh List.not_mem_nil) rfl
def mz_cp (x y : Int) : Int32 := if x < y then -1 else if y < x then 1 else 0
theorem zu_compare (ha : a < 16) (hb : b < 16) (hI : zs_inv S) : zg_C l (zs_E P) (d + 6) mU_compare [.ref (zp_B P), .int (nI a), .int (nI b)] (zs_σ P S th S2 o w) (.inl (some (.int (mz_cp (mz_val (zs_re S a)) (mz_val (zs_re S b))))), (zs_σ P S th S2 o w)) := by
  refine zg_C_of (by decide +kernel) (Nat.le_of_ble_eq_true rfl) ?_
  refine zg_iload_n (zd_t dmU_compare 0 rfl) rfl ?_
  refine zg_callS (zd_t dmU_compare 1 rfl) zl_U_30 zm_mU_requireRegister zst_mU_requireRegister (av := _) (rest := _) (by rfl) (by rfl) (by exact Nat.le_of_ble_eq_true rfl) (zu_requireRegister (zs_rg ha)) ?_
  refine zg_iload_n (zd_t dmU_compare 2 rfl) rfl ?_
  refine zg_callS (zd_t dmU_compare 3 rfl) zl_U_30 zm_mU_requireRegister zst_mU_requireRegister (av := _) (rest := _) (by rfl) (by rfl) (by exact Nat.le_of_ble_eq_true rfl) (zu_requireRegister (zs_rg hb)) ?_
  have v1 := mz_val_in (zs_re S a)
  have v2 := mz_val_in (zs_re S b)
  unfold mz_cp
  refine zg_aload_n (zd_t dmU_compare 4 rfl) rfl ?_
  refine zg_getf (zd_t dmU_compare 5 rfl) zf_U_11 zs_0 rfl ?_
  refine zg_iload_n (zd_t dmU_compare 6 rfl) rfl ?_
  refine zg_aald (t0 := 3) (zd_t dmU_compare 7 rfl) zs_1 rfl rfl ha (by decide) (zs_rf_at ha) ?_
  refine zg_callV (zd_t dmU_compare 8 rfl) zl_U_58 zm_mR_value zi_mR_value zse_mR_value (zs_reg ha) zs_cl1 rfl (av := _) (rest := _) (by rfl) (by rfl) (by exact Nat.le_of_ble_eq_true rfl) (zr_value ha (hI.1 a ha)) ?_
  refine zg_lstore_n (zd_t dmU_compare 9 rfl) (by decide) rfl ?_
  refine zg_aload_n (zd_t dmU_compare 10 rfl) rfl ?_
  refine zg_getf (zd_t dmU_compare 11 rfl) zf_U_11 zs_0 rfl ?_
  refine zg_iload_n (zd_t dmU_compare 12 rfl) rfl ?_
  refine zg_aald (t0 := 3) (zd_t dmU_compare 13 rfl) zs_1 rfl rfl hb (by decide) (zs_rf_at hb) ?_
  refine zg_callV (zd_t dmU_compare 14 rfl) zl_U_58 zm_mR_value zi_mR_value zse_mR_value (zs_reg hb) zs_cl1 rfl (av := _) (rest := _) (by rfl) (by rfl) (by exact Nat.le_of_ble_eq_true rfl) (zr_value hb (hI.1 b hb)) ?_
  refine zg_lstore (zd_t dmU_compare 15 rfl) (by decide) rfl ?_
  refine zg_lload_n (zd_t dmU_compare 16 rfl) rfl ?_
  refine zg_lload (zd_t dmU_compare 17 rfl) rfl ?_
  refine zg_lcmp (zd_t dmU_compare 18 rfl) ?_
  refine zg_if_ge (tgt := 40) (zd_t dmU_compare 19 rfl) (by decide) (fun h1 => ?_) (fun h1 => ?_)
  · rw [lg_cmp_ge, mz_le v2 v1] at h1
    rw [if_neg (by omega)]
    refine zg_lload_n (zd_t dmU_compare 22 rfl) rfl ?_
    refine zg_lload (zd_t dmU_compare 23 rfl) rfl ?_
    refine zg_lcmp (zd_t dmU_compare 24 rfl) ?_
    refine zg_if_le (tgt := 51) (zd_t dmU_compare 25 rfl) (by decide) (fun h2 => ?_) (fun h2 => ?_)
    · rw [lg_cmp_le, mz_le v1 v2] at h2
      rw [if_neg (by omega)]
      refine zg_iconst (v := (nI 0)) (zd_t dmU_compare 28 rfl) (by decide) ?_
      exact zg_iret (zd_t dmU_compare 29 rfl) rfl rfl
    · rw [lg_cmp_le, mz_le v1 v2] at h2
      rw [if_pos (by omega)]
      refine zg_iconst (v := (nI 1)) (zd_t dmU_compare 26 rfl) (by decide) ?_
      refine zg_goto (tgt := 52) (zd_t dmU_compare 27 rfl) (by decide) ?_
      exact zg_iret (zd_t dmU_compare 29 rfl) rfl rfl
  · rw [lg_cmp_ge, mz_le v2 v1] at h1
    rw [if_pos (by omega)]
    refine zg_iconst (v := (-1)) (zd_t dmU_compare 20 rfl) (by decide) ?_
    refine zg_goto (tgt := 52) (zd_t dmU_compare 21 rfl) (by decide) ?_
    exact zg_iret (zd_t dmU_compare 29 rfl) rfl rfl
theorem zu_scale {x : Nat} {n : Bool} (he : e < 16) (ha : a < 16) (hx : x < 64) (hm : mz_sm (nI x)) (hp : mz_pop x ≤ 4) (hI : zs_inv S) : zg_C l (zs_E P) (d + 6) mU_scale [.ref (zp_B P), .int (nI e), .int (nI a), .int (nI x), .int (zs_bi n)] (zs_σ P S th S2 o w) (.inl none, zs_σ P (zs_ssc S e a x n) th S2 o w) := by
  refine zg_C_of (by decide +kernel) (Nat.le_of_ble_eq_true rfl) ?_
  refine zg_iload_n (zd_t dmU_scale 0 rfl) rfl ?_
  refine zg_callS (zd_t dmU_scale 1 rfl) zl_U_30 zm_mU_requireRegister zst_mU_requireRegister (av := _) (rest := _) (by rfl) (by rfl) (by exact Nat.le_of_ble_eq_true rfl) (zu_requireRegister (zs_rg he)) ?_
  refine zg_iload_n (zd_t dmU_scale 2 rfl) rfl ?_
  refine zg_callS (zd_t dmU_scale 3 rfl) zl_U_30 zm_mU_requireRegister zst_mU_requireRegister (av := _) (rest := _) (by rfl) (by rfl) (by exact Nat.le_of_ble_eq_true rfl) (zu_requireRegister (zs_rg ha)) ?_
  refine zg_iload_n (zd_t dmU_scale 4 rfl) rfl ?_
  refine zg_callS (zd_t dmU_scale 5 rfl) zl_U_68 zm_mU_areScalingModuli zst_mU_areScalingModuli (av := _) (rest := _) (by rfl) (by rfl) (by exact Nat.le_of_ble_eq_true rfl) (zu_areScalingModuli (nI x)) ?_
  rw [decide_eq_true hm]
  refine zg_if_ne (tgt := 25) (zd_t dmU_scale 6 rfl) (by decide) (fun _ => ?_) (fun hq => absurd hq (by decide))
  refine zg_aload_n (zd_t dmU_scale 12 rfl) rfl ?_
  refine zg_iload_n (zd_t dmU_scale 13 rfl) rfl ?_
  refine zg_iload_n (zd_t dmU_scale 14 rfl) rfl ?_
  refine zg_iload_n (zd_t dmU_scale 15 rfl) rfl ?_
  refine zg_iload (zd_t dmU_scale 16 rfl) rfl ?_
  refine zg_callV (zd_t dmU_scale 17 rfl) zl_U_74 zm_mU_putScaled zi_mU_putScaled zse_mU_putScaled zs_0 zs_cl0 rfl (av := _) (rest := _) (by rfl) (by rfl) (by exact Nat.le_of_ble_eq_true rfl) (zu_putScaled he ha hx hp (hI.1 a ha)) ?_
  exact zg_vret (zd_t dmU_scale 18 rfl) rfl rfl
theorem zu_scaleY (htr : l.stackTraces = false) {c z : Int32} (he : e < 16) (ha : a < 16) (hm : ¬ mz_sm c) : zg_C l (zs_E P) (d + 7) mU_scale [.ref (zp_B P), .int (nI e), .int (nI a), .int c, .int z] (zs_σ P S th S2 o w) (.inr (zg_sz (zs_σ P S th S2 o w), "java/lang/IllegalArgumentException"), zs_exc (zs_σ P S th S2 o w)) := by
  refine zg_C_of (by decide +kernel) (Nat.le_of_ble_eq_true rfl) ?_
  refine zg_iload_n (zd_t dmU_scale 0 rfl) rfl ?_
  refine zg_callS (zd_t dmU_scale 1 rfl) zl_U_30 zm_mU_requireRegister zst_mU_requireRegister (av := _) (rest := _) (by rfl) (by rfl) (by exact Nat.le_of_ble_eq_true rfl) (zu_requireRegister (zs_rg he)) ?_
  refine zg_iload_n (zd_t dmU_scale 2 rfl) rfl ?_
  refine zg_callS (zd_t dmU_scale 3 rfl) zl_U_30 zm_mU_requireRegister zst_mU_requireRegister (av := _) (rest := _) (by rfl) (by rfl) (by exact Nat.le_of_ble_eq_true rfl) (zu_requireRegister (zs_rg ha)) ?_
  refine zg_iload_n (zd_t dmU_scale 4 rfl) rfl ?_
  refine zg_callS (zd_t dmU_scale 5 rfl) zl_U_68 zm_mU_areScalingModuli zst_mU_areScalingModuli (av := _) (rest := _) (by rfl) (by rfl) (by exact Nat.le_of_ble_eq_true rfl) (zu_areScalingModuli c) ?_
  rw [decide_eq_false hm]
  refine zg_if_ne (tgt := 25) (zd_t dmU_scale 6 rfl) (by decide) (fun hq => absurd (by decide) hq) (fun _ => ?_)
  exact zg_throw htr (by omega) (by decide) (by decide) (zd_t dmU_scale 7 rfl) (zd_t dmU_scale 8 rfl) (zd_t dmU_scale 9 rfl) (zd_t dmU_scale 10 rfl) (zd_t dmU_scale 11 rfl) zcl_U_38 zs_iIAE (zs_str 72 "the moduli are not one to four of the first six" (by decide)) (by decide +kernel) (by decide +kernel) zx_IAE (zs_in 175 (by decide +kernel) (by decide +kernel)) (fun h hh => absurd hh List.not_mem_nil) rfl
theorem mz_td_hr {x : Int} (y : Int) (hx : mz_hr x) : mz_hr (x.tdiv y) ∧ mz_hr (x.tmod y) := by
  have h1 := Int.natAbs_tmod x y
  have h2 := Nat.mod_le x.natAbs y.natAbs
  have h3 : (x.tdiv y).natAbs = x.natAbs / y.natAbs := Int.natAbs_tdiv x y
  have h4 := Nat.div_le_self x.natAbs y.natAbs
  have h5 := hx.1
  have h6 := hx.2
  refine ⟨⟨?_, ?_⟩, ⟨?_, ?_⟩⟩ <;> omega
def zs_sdv (S : zs_S) (q r a b : Nat) : zs_S := zs_sput (zs_sput S q ((mz_val (zs_re S a)).tdiv (mz_val (zs_re S b)))) r ((mz_val (zs_re S a)).tmod (mz_val (zs_re S b)))
theorem zu_divide {q r : Nat} (hq : q < 16) (hr : r < 16) (ha : a < 16) (hb : b < 16) (hI : zs_inv S) (hz : mz_val (zs_re S b) ≠ 0) : zg_C l (zs_E P) (d + 6) mU_divide [.ref (zp_B P), .int (nI q), .int (nI r), .int (nI a), .int (nI b)] (zs_σ P S th S2 o w) (.inl none, zs_σ P (zs_sdv S q r a b) th S2 o w) := by
  refine zg_C_of (by decide +kernel) (Nat.le_of_ble_eq_true rfl) ?_
  refine zg_iload_n (zd_t dmU_divide 0 rfl) rfl ?_
  refine zg_callS (zd_t dmU_divide 1 rfl) zl_U_30 zm_mU_requireRegister zst_mU_requireRegister (av := _) (rest := _) (by rfl) (by rfl) (by exact Nat.le_of_ble_eq_true rfl) (zu_requireRegister (zs_rg hq)) ?_
  refine zg_iload_n (zd_t dmU_divide 2 rfl) rfl ?_
  refine zg_callS (zd_t dmU_divide 3 rfl) zl_U_30 zm_mU_requireRegister zst_mU_requireRegister (av := _) (rest := _) (by rfl) (by rfl) (by exact Nat.le_of_ble_eq_true rfl) (zu_requireRegister (zs_rg hr)) ?_
  refine zg_iload_n (zd_t dmU_divide 4 rfl) rfl ?_
  refine zg_callS (zd_t dmU_divide 5 rfl) zl_U_30 zm_mU_requireRegister zst_mU_requireRegister (av := _) (rest := _) (by rfl) (by rfl) (by exact Nat.le_of_ble_eq_true rfl) (zu_requireRegister (zs_rg ha)) ?_
  refine zg_iload (zd_t dmU_divide 6 rfl) rfl ?_
  refine zg_callS (zd_t dmU_divide 7 rfl) zl_U_30 zm_mU_requireRegister zst_mU_requireRegister (av := _) (rest := _) (by rfl) (by rfl) (by exact Nat.le_of_ble_eq_true rfl) (zu_requireRegister (zs_rg hb)) ?_
  have v1 := mz_val_hr (zs_re S a)
  have v2 := mz_val_hr (zs_re S b)
  have h0 : mz_in 0 := by unfold mz_in; omega
  refine zg_aload_n (zd_t dmU_divide 8 rfl) rfl ?_
  refine zg_getf (zd_t dmU_divide 9 rfl) zf_U_11 zs_0 rfl ?_
  refine zg_iload_n (zd_t dmU_divide 10 rfl) rfl ?_
  refine zg_aald (t0 := 3) (zd_t dmU_divide 11 rfl) zs_1 rfl rfl ha (by decide) (zs_rf_at ha) ?_
  refine zg_callV (zd_t dmU_divide 12 rfl) zl_U_58 zm_mR_value zi_mR_value zse_mR_value (zs_reg ha) zs_cl1 rfl (av := _) (rest := _) (by rfl) (by rfl) (by exact Nat.le_of_ble_eq_true rfl) (zr_value ha (hI.1 a ha)) ?_
  refine zg_lstore (zd_t dmU_divide 13 rfl) (by decide) rfl ?_
  refine zg_aload_n (zd_t dmU_divide 14 rfl) rfl ?_
  refine zg_getf (zd_t dmU_divide 15 rfl) zf_U_11 zs_0 rfl ?_
  refine zg_iload (zd_t dmU_divide 16 rfl) rfl ?_
  refine zg_aald (t0 := 3) (zd_t dmU_divide 17 rfl) zs_1 rfl rfl hb (by decide) (zs_rf_at hb) ?_
  refine zg_callV (zd_t dmU_divide 18 rfl) zl_U_58 zm_mR_value zi_mR_value zse_mR_value (zs_reg hb) zs_cl1 rfl (av := _) (rest := _) (by rfl) (by rfl) (by exact Nat.le_of_ble_eq_true rfl) (zr_value hb (hI.1 b hb)) ?_
  refine zg_lstore (zd_t dmU_divide 19 rfl) (by decide) rfl ?_
  refine zg_lload (zd_t dmU_divide 20 rfl) rfl ?_
  refine zg_lconst (v := mz_L 0) (zd_t dmU_divide 21 rfl) (by decide) ?_
  refine zg_lcmp (zd_t dmU_divide 22 rfl) ?_
  rw [mz_cmp v2.i h0]
  have hc : ¬ (if 0 < mz_val (zs_re S b) then (1 : Int32) else if mz_val (zs_re S b) = 0 then 0 else -1) = 0 := by
    split
    · decide
    · decide
  have hy0 : ¬ mz_L (mz_val (zs_re S b)) = 0 := fun h => by
    have : mz_L (mz_val (zs_re S b)) = mz_L 0 := h
    rw [mz_eq v2.i h0] at this
    exact hz this
  have hd := mz_td_hr (mz_val (zs_re S b)) v1
  unfold zs_sdv
  refine zg_if_ne (tgt := 57) (zd_t dmU_divide 23 rfl) (by decide) (fun _ => ?_) (fun hq => absurd hq hc)
  refine zg_aload_n (zd_t dmU_divide 29 rfl) rfl ?_
  refine zg_getf (zd_t dmU_divide 30 rfl) zf_U_11 zs_0 rfl ?_
  refine zg_iload_n (zd_t dmU_divide 31 rfl) rfl ?_
  refine zg_aald (t0 := 3) (zd_t dmU_divide 32 rfl) zs_1 rfl rfl hq (by decide) (zs_rf_at hq) ?_
  refine zg_lload (zd_t dmU_divide 33 rfl) rfl ?_
  refine zg_lload (zd_t dmU_divide 34 rfl) rfl ?_
  refine zg_ldiv (zd_t dmU_divide 35 rfl) hy0 ?_
  rw [mz_div v1.i v2.i]
  refine zg_callV (zd_t dmU_divide 36 rfl) zl_U_45 zm_mR_put zi_mR_put zse_mR_put (zs_reg hq) zs_cl1 rfl (av := _) (rest := _) (by rfl) (by rfl) (by exact Nat.le_of_ble_eq_true rfl) (zr_put hq hd.1.i) ?_
  refine zg_aload_n (zd_t dmU_divide 37 rfl) rfl ?_
  refine zg_getf (zd_t dmU_divide 38 rfl) zf_U_11 zs_0 rfl ?_
  refine zg_iload_n (zd_t dmU_divide 39 rfl) rfl ?_
  refine zg_aald (t0 := 3) (zd_t dmU_divide 40 rfl) zs_1 rfl rfl hr (by decide) (zs_rf_at hr) ?_
  refine zg_lload (zd_t dmU_divide 41 rfl) rfl ?_
  refine zg_lload (zd_t dmU_divide 42 rfl) rfl ?_
  refine zg_lrem (zd_t dmU_divide 43 rfl) hy0 ?_
  rw [mz_rem v1.i v2.i]
  refine zg_callV (zd_t dmU_divide 44 rfl) zl_U_45 zm_mR_put zi_mR_put zse_mR_put (zs_reg hr) zs_cl1 rfl (av := _) (rest := _) (by rfl) (by rfl) (by exact Nat.le_of_ble_eq_true rfl) (zr_put hr hd.2.i) ?_
  exact zg_vret (zd_t dmU_divide 45 rfl) rfl rfl
theorem zu_divideY (htr : l.stackTraces = false) {q r : Nat} (hq : q < 16) (hr : r < 16) (ha : a < 16) (hb : b < 16) (hI : zs_inv S) (hz : mz_val (zs_re S b) = 0) : zg_C l (zs_E P) (d + 7) mU_divide [.ref (zp_B P), .int (nI q), .int (nI r), .int (nI a), .int (nI b)] (zs_σ P S th S2 o w) (.inr (zg_sz (zs_σ P S th S2 o w), "java/lang/ArithmeticException"), zs_exc (zs_σ P S th S2 o w)) := by
  refine zg_C_of (by decide +kernel) (Nat.le_of_ble_eq_true rfl) ?_
  refine zg_iload_n (zd_t dmU_divide 0 rfl) rfl ?_
  refine zg_callS (zd_t dmU_divide 1 rfl) zl_U_30 zm_mU_requireRegister zst_mU_requireRegister (av := _) (rest := _) (by rfl) (by rfl) (by exact Nat.le_of_ble_eq_true rfl) (zu_requireRegister (zs_rg hq)) ?_
  refine zg_iload_n (zd_t dmU_divide 2 rfl) rfl ?_
  refine zg_callS (zd_t dmU_divide 3 rfl) zl_U_30 zm_mU_requireRegister zst_mU_requireRegister (av := _) (rest := _) (by rfl) (by rfl) (by exact Nat.le_of_ble_eq_true rfl) (zu_requireRegister (zs_rg hr)) ?_
  refine zg_iload_n (zd_t dmU_divide 4 rfl) rfl ?_
  refine zg_callS (zd_t dmU_divide 5 rfl) zl_U_30 zm_mU_requireRegister zst_mU_requireRegister (av := _) (rest := _) (by rfl) (by rfl) (by exact Nat.le_of_ble_eq_true rfl) (zu_requireRegister (zs_rg ha)) ?_
  refine zg_iload (zd_t dmU_divide 6 rfl) rfl ?_
  refine zg_callS (zd_t dmU_divide 7 rfl) zl_U_30 zm_mU_requireRegister zst_mU_requireRegister (av := _) (rest := _) (by rfl) (by rfl) (by exact Nat.le_of_ble_eq_true rfl) (zu_requireRegister (zs_rg hb)) ?_
  have v1 := mz_val_hr (zs_re S a)
  have v2 := mz_val_hr (zs_re S b)
  have h0 : mz_in 0 := by unfold mz_in; omega
  refine zg_aload_n (zd_t dmU_divide 8 rfl) rfl ?_
  refine zg_getf (zd_t dmU_divide 9 rfl) zf_U_11 zs_0 rfl ?_
  refine zg_iload_n (zd_t dmU_divide 10 rfl) rfl ?_
  refine zg_aald (t0 := 3) (zd_t dmU_divide 11 rfl) zs_1 rfl rfl ha (by decide) (zs_rf_at ha) ?_
  refine zg_callV (zd_t dmU_divide 12 rfl) zl_U_58 zm_mR_value zi_mR_value zse_mR_value (zs_reg ha) zs_cl1 rfl (av := _) (rest := _) (by rfl) (by rfl) (by exact Nat.le_of_ble_eq_true rfl) (zr_value ha (hI.1 a ha)) ?_
  refine zg_lstore (zd_t dmU_divide 13 rfl) (by decide) rfl ?_
  refine zg_aload_n (zd_t dmU_divide 14 rfl) rfl ?_
  refine zg_getf (zd_t dmU_divide 15 rfl) zf_U_11 zs_0 rfl ?_
  refine zg_iload (zd_t dmU_divide 16 rfl) rfl ?_
  refine zg_aald (t0 := 3) (zd_t dmU_divide 17 rfl) zs_1 rfl rfl hb (by decide) (zs_rf_at hb) ?_
  refine zg_callV (zd_t dmU_divide 18 rfl) zl_U_58 zm_mR_value zi_mR_value zse_mR_value (zs_reg hb) zs_cl1 rfl (av := _) (rest := _) (by rfl) (by rfl) (by exact Nat.le_of_ble_eq_true rfl) (zr_value hb (hI.1 b hb)) ?_
  refine zg_lstore (zd_t dmU_divide 19 rfl) (by decide) rfl ?_
  refine zg_lload (zd_t dmU_divide 20 rfl) rfl ?_
  refine zg_lconst (v := mz_L 0) (zd_t dmU_divide 21 rfl) (by decide) ?_
  refine zg_lcmp (zd_t dmU_divide 22 rfl) ?_
  rw [mz_cmp v2.i h0]
  have hc : (if 0 < mz_val (zs_re S b) then (1 : Int32) else if mz_val (zs_re S b) = 0 then 0 else -1) = 0 := by
    rw [if_neg (by omega), if_pos hz]
  refine zg_if_ne (tgt := 57) (zd_t dmU_divide 23 rfl) (by decide) (fun hq => absurd hc hq) (fun _ => ?_)
  exact zg_throw htr (by omega) (by decide) (by decide) (zd_t dmU_divide 24 rfl) (zd_t dmU_divide 25 rfl) (zd_t dmU_divide 26 rfl) (zd_t dmU_divide 27 rfl) (zd_t dmU_divide 28 rfl) zcl_U_78 zs_iARE (zs_str 80 "the divisor is 0" (by decide)) (by decide +kernel) (by decide +kernel) zx_ARE (zs_in 314 (by decide +kernel) (by decide +kernel)) (fun h hh => absurd hh List.not_mem_nil) rfl
theorem zu_channel (hi : i < 16) (hk : k < 8) : zg_C l (zs_E P) (d + 6) mU_channel [.ref (zp_B P), .int (nI i), .int (nI (k + 1))] (zs_σ P S th S2 o w) (.inl (some (.int (nI (zs_re S i k)))), (zs_σ P S th S2 o w)) := by
  refine zg_C_of (by decide +kernel) (Nat.le_of_ble_eq_true rfl) ?_
  refine zg_iload_n (zd_t dmU_channel 0 rfl) rfl ?_
  refine zg_callS (zd_t dmU_channel 1 rfl) zl_U_30 zm_mU_requireRegister zst_mU_requireRegister (av := _) (rest := _) (by rfl) (by rfl) (by exact Nat.le_of_ble_eq_true rfl) (zu_requireRegister (zs_rg hi)) ?_
  refine zg_iload_n (zd_t dmU_channel 2 rfl) rfl ?_
  refine zg_callS (zd_t dmU_channel 3 rfl) zl_U_83 zm_mU_requireChannel zst_mU_requireChannel (av := _) (rest := _) (by rfl) (by rfl) (by exact Nat.le_of_ble_eq_true rfl) (zu_requireChannel (zs_chg hk)) ?_
  refine zg_aload_n (zd_t dmU_channel 4 rfl) rfl ?_
  refine zg_getf (zd_t dmU_channel 5 rfl) zf_U_11 zs_0 rfl ?_
  refine zg_iload_n (zd_t dmU_channel 6 rfl) rfl ?_
  refine zg_aald (t0 := 3) (zd_t dmU_channel 7 rfl) zs_1 rfl rfl hi (by decide) (zs_rf_at hi) ?_
  refine zg_getf (zd_t dmU_channel 8 rfl) zf_U_86 (zs_reg hi) rfl ?_
  refine zg_iload_n (zd_t dmU_channel 9 rfl) rfl ?_
  refine zg_iconst (v := (nI 1)) (zd_t dmU_channel 10 rfl) (by decide) ?_
  refine zg_isub (zd_t dmU_channel 11 rfl) ?_
  refine zg_iald (t0 := 0) (zd_t dmU_channel 12 rfl) (zs_res hi) rfl (nI_pred k) hk (by decide) ?_
  exact zg_iret (zd_t dmU_channel 13 rfl) rfl rfl
theorem zu_inject {e : Int32} (hi : i < 16) (hk : k < 8) (hI : zs_inv S) : zg_C l (zs_E P) (d + 6) mU_inject [.ref (zp_B P), .int (nI i), .int (nI (k + 1)), .int e] (zs_σ P S th S2 o w) (.inl (some (.int (nI (mz_sh (zs_re S i k) e k)))), zs_σ P (zs_sre S i k (mz_sh (zs_re S i k) e k)) th S2 o w) := by
  refine zg_C_of (by decide +kernel) (Nat.le_of_ble_eq_true rfl) ?_
  refine zg_iload_n (zd_t dmU_inject 0 rfl) rfl ?_
  refine zg_callS (zd_t dmU_inject 1 rfl) zl_U_30 zm_mU_requireRegister zst_mU_requireRegister (av := _) (rest := _) (by rfl) (by rfl) (by exact Nat.le_of_ble_eq_true rfl) (zu_requireRegister (zs_rg hi)) ?_
  refine zg_iload_n (zd_t dmU_inject 2 rfl) rfl ?_
  refine zg_callS (zd_t dmU_inject 3 rfl) zl_U_83 zm_mU_requireChannel zst_mU_requireChannel (av := _) (rest := _) (by rfl) (by rfl) (by exact Nat.le_of_ble_eq_true rfl) (zu_requireChannel (zs_chg hk)) ?_
  refine zg_aload_n (zd_t dmU_inject 4 rfl) rfl ?_
  refine zg_getf (zd_t dmU_inject 5 rfl) zf_U_11 zs_0 rfl ?_
  refine zg_iload_n (zd_t dmU_inject 6 rfl) rfl ?_
  refine zg_aald (t0 := 3) (zd_t dmU_inject 7 rfl) zs_1 rfl rfl hi (by decide) (zs_rf_at hi) ?_
  refine zg_iload_n (zd_t dmU_inject 8 rfl) rfl ?_
  refine zg_iconst (v := (nI 1)) (zd_t dmU_inject 9 rfl) (by decide) ?_
  refine zg_isub (zd_t dmU_inject 10 rfl) ?_
  refine zg_iload_n (zd_t dmU_inject 11 rfl) rfl ?_
  rw [show nI (k + 1) - nI 1 = nI k from nI_pred k]
  refine zg_callV (zd_t dmU_inject 12 rfl) zl_U_90 zm_mR_shift zi_mR_shift zse_mR_shift (zs_reg hi) zs_cl1 rfl (av := _) (rest := _) (by rfl) (by rfl) (by exact Nat.le_of_ble_eq_true rfl) (zr_shift hi hk (hI.1 i hi)) ?_
  exact zg_iret (zd_t dmU_inject 13 rfl) rfl rfl
theorem zu_verify (hi : i < 16) (hI : zs_inv S) : zg_C l (zs_E P) (d + 6) mU_verify [.ref (zp_B P), .int (nI i)] (zs_σ P S th S2 o w) (.inl (some (.int (nI (mz_fault (zs_re S i))))), (zs_σ P S th S2 o w)) := by
  refine zg_C_of (by decide +kernel) (Nat.le_of_ble_eq_true rfl) ?_
  refine zg_iload_n (zd_t dmU_verify 0 rfl) rfl ?_
  refine zg_callS (zd_t dmU_verify 1 rfl) zl_U_30 zm_mU_requireRegister zst_mU_requireRegister (av := _) (rest := _) (by rfl) (by rfl) (by exact Nat.le_of_ble_eq_true rfl) (zu_requireRegister (zs_rg hi)) ?_
  refine zg_aload_n (zd_t dmU_verify 2 rfl) rfl ?_
  refine zg_getf (zd_t dmU_verify 3 rfl) zf_U_11 zs_0 rfl ?_
  refine zg_iload_n (zd_t dmU_verify 4 rfl) rfl ?_
  refine zg_aald (t0 := 3) (zd_t dmU_verify 5 rfl) zs_1 rfl rfl hi (by decide) (zs_rf_at hi) ?_
  refine zg_callV (zd_t dmU_verify 6 rfl) zl_U_94 zm_mR_fault zi_mR_fault zse_mR_fault (zs_reg hi) zs_cl1 rfl (av := _) (rest := _) (by rfl) (by rfl) (by exact Nat.le_of_ble_eq_true rfl) (zr_fault hi (hI.1 i hi)) ?_
  exact zg_iret (zd_t dmU_verify 7 rfl) rfl rfl
theorem mz_ff_spec (ρ : Nat → Nat) : ∀ n k, k + n = 8 → mz_ff ρ n k ≠ 9 → k + 1 ≤ mz_ff ρ n k ∧ mz_ff ρ n k ≤ 8 ∧ mz_hf ρ (mz_ff ρ n k - 1)
  | 0, _, _, h => absurd rfl h
  | n + 1, k, h, h2 => by
    unfold mz_ff at h2 ⊢
    by_cases hf : mz_hf ρ k
    · rw [if_pos hf]
      exact ⟨by omega, by omega, hf⟩
    · rw [if_neg hf] at h2 ⊢
      have := mz_ff_spec ρ n (k + 1) (by omega) h2
      exact ⟨by omega, this.2.1, this.2.2⟩
theorem mz_fault_spec {ρ : Nat → Nat} (h9 : mz_fault ρ ≠ 9) (h0 : mz_fault ρ ≠ 0) : ¬ mz_good ρ ∧ 1 ≤ mz_fault ρ ∧ mz_fault ρ ≤ 8 ∧ mz_hf ρ (mz_fault ρ - 1) := by
  unfold mz_fault at h9 h0 ⊢
  by_cases hg : mz_good ρ
  · rw [if_pos hg] at h0
    exact absurd rfl h0
  · rw [if_neg hg] at h9 ⊢
    have := mz_ff_spec ρ 8 0 rfl h9
    exact ⟨hg, this.1, this.2.1, this.2.2⟩
theorem mz_fault_le (ρ : Nat → Nat) : mz_fault ρ ≤ 9 := by
  unfold mz_fault
  split
  · omega
  · exact mz_ff_le ρ 8 0 rfl
/-- the unit behind a repair -/
def zs_srp (S : zs_S) (i : Nat) : zs_S := if mz_fault (zs_re S i) = 0 then S else zs_sre S i (mz_fault (zs_re S i) - 1) (mz_ht (zs_re S i) (mz_fault (zs_re S i) - 1))
theorem zu_repair (hi : i < 16) (hI : zs_inv S) (h9 : mz_fault (zs_re S i) ≠ 9) : zg_C l (zs_E P) (d + 6) mU_repair [.ref (zp_B P), .int (nI i)] (zs_σ P S th S2 o w) (.inl (some (.int (nI (mz_fault (zs_re S i))))), zs_σ P (zs_srp S i) th S2 o w) := by
  refine zg_C_of (by decide +kernel) (Nat.le_of_ble_eq_true rfl) ?_
  refine zg_iload_n (zd_t dmU_repair 0 rfl) rfl ?_
  refine zg_callS (zd_t dmU_repair 1 rfl) zl_U_30 zm_mU_requireRegister zst_mU_requireRegister (av := _) (rest := _) (by rfl) (by rfl) (by exact Nat.le_of_ble_eq_true rfl) (zu_requireRegister (zs_rg hi)) ?_
  have hle := mz_fault_le (zs_re S i)
  unfold zs_srp
  refine zg_aload_n (zd_t dmU_repair 2 rfl) rfl ?_
  refine zg_getf (zd_t dmU_repair 3 rfl) zf_U_11 zs_0 rfl ?_
  refine zg_iload_n (zd_t dmU_repair 4 rfl) rfl ?_
  refine zg_aald (t0 := 3) (zd_t dmU_repair 5 rfl) zs_1 rfl rfl hi (by decide) (zs_rf_at hi) ?_
  refine zg_callV (zd_t dmU_repair 6 rfl) zl_U_94 zm_mR_fault zi_mR_fault zse_mR_fault (zs_reg hi) zs_cl1 rfl (av := _) (rest := _) (by rfl) (by rfl) (by exact Nat.le_of_ble_eq_true rfl) (zr_fault hi (hI.1 i hi)) ?_
  refine zg_istore_n (zd_t dmU_repair 7 rfl) (by decide) rfl ?_
  refine zg_iload_n (zd_t dmU_repair 8 rfl) rfl ?_
  refine zg_bipush (v := (nI 9)) (zd_t dmU_repair 9 rfl) (by decide) ?_
  refine zg_icmp_ne (tgt := 30) (zd_t dmU_repair 10 rfl) (by decide) (fun _ => ?_) (fun hq => absurd hq (fun h => h9 ((nI_eq (by omega) (by decide)).mp h)))
  refine zg_iload_n (zd_t dmU_repair 16 rfl) rfl ?_
  by_cases h0 : mz_fault (zs_re S i) = 0
  · rw [if_pos h0]
    refine zg_if_eq (tgt := 46) (zd_t dmU_repair 17 rfl) (by decide) (fun _ => ?_) (fun hq => absurd (by rw [h0]; rfl) hq)
    refine zg_iload_n (zd_t dmU_repair 26 rfl) rfl ?_
    exact zg_iret (zd_t dmU_repair 27 rfl) rfl rfl
  · rw [if_neg h0]
    have hsp := mz_fault_spec h9 h0
    refine zg_if_eq (tgt := 46) (zd_t dmU_repair 17 rfl) (by decide) (fun hq => absurd hq (fun h => h0 ((nI_eq (by omega) (by decide)).mp h))) (fun _ => ?_)
    refine zg_aload_n (zd_t dmU_repair 18 rfl) rfl ?_
    refine zg_getf (zd_t dmU_repair 19 rfl) zf_U_11 zs_0 rfl ?_
    refine zg_iload_n (zd_t dmU_repair 20 rfl) rfl ?_
    refine zg_aald (t0 := 3) (zd_t dmU_repair 21 rfl) zs_1 rfl rfl hi (by decide) (zs_rf_at hi) ?_
    refine zg_iload_n (zd_t dmU_repair 22 rfl) rfl ?_
    refine zg_iconst (v := (nI 1)) (zd_t dmU_repair 23 rfl) (by decide) ?_
    refine zg_isub (zd_t dmU_repair 24 rfl) ?_
    rw [show nI (mz_fault (zs_re S i)) - nI 1 = nI (mz_fault (zs_re S i) - 1) by
      have := nI_pred (mz_fault (zs_re S i) - 1)
      rw [show mz_fault (zs_re S i) - 1 + 1 = mz_fault (zs_re S i) by omega] at this
      exact this]
    refine zg_callV (zd_t dmU_repair 25 rfl) zl_U_100 zm_mR_heal zi_mR_heal zse_mR_heal (zs_reg hi) zs_cl1 rfl (av := _) (rest := _) (by rfl) (by rfl) (by exact Nat.le_of_ble_eq_true rfl) (zr_heal (k := mz_fault (zs_re S i) - 1) hi (by omega) (hI.1 i hi) hsp.2.2.2) ?_
    refine zg_iload_n (zd_t dmU_repair 26 rfl) rfl ?_
    exact zg_iret (zd_t dmU_repair 27 rfl) rfl rfl
theorem zu_repairY (htr : l.stackTraces = false) (hi : i < 16) (hI : zs_inv S) (h9 : mz_fault (zs_re S i) = 9) : zg_C l (zs_E P) (d + 7) mU_repair [.ref (zp_B P), .int (nI i)] (zs_σ P S th S2 o w) (.inr (zg_sz (zs_σ P S th S2 o w), "java/lang/IllegalStateException"), zs_exc (zs_σ P S th S2 o w)) := by
  refine zg_C_of (by decide +kernel) (Nat.le_of_ble_eq_true rfl) ?_
  refine zg_iload_n (zd_t dmU_repair 0 rfl) rfl ?_
  refine zg_callS (zd_t dmU_repair 1 rfl) zl_U_30 zm_mU_requireRegister zst_mU_requireRegister (av := _) (rest := _) (by rfl) (by rfl) (by exact Nat.le_of_ble_eq_true rfl) (zu_requireRegister (zs_rg hi)) ?_
  refine zg_aload_n (zd_t dmU_repair 2 rfl) rfl ?_
  refine zg_getf (zd_t dmU_repair 3 rfl) zf_U_11 zs_0 rfl ?_
  refine zg_iload_n (zd_t dmU_repair 4 rfl) rfl ?_
  refine zg_aald (t0 := 3) (zd_t dmU_repair 5 rfl) zs_1 rfl rfl hi (by decide) (zs_rf_at hi) ?_
  refine zg_callV (zd_t dmU_repair 6 rfl) zl_U_94 zm_mR_fault zi_mR_fault zse_mR_fault (zs_reg hi) zs_cl1 rfl (av := _) (rest := _) (by rfl) (by rfl) (by exact Nat.le_of_ble_eq_true rfl) (zr_fault hi (hI.1 i hi)) ?_
  rw [h9]
  refine zg_istore_n (zd_t dmU_repair 7 rfl) (by decide) rfl ?_
  refine zg_iload_n (zd_t dmU_repair 8 rfl) rfl ?_
  refine zg_bipush (v := (nI 9)) (zd_t dmU_repair 9 rfl) (by decide) ?_
  refine zg_icmp_ne (tgt := 30) (zd_t dmU_repair 10 rfl) (by decide) (fun hq => absurd (by decide) hq) (fun _ => ?_)
  exact zg_throw htr (by omega) (by decide) (by decide) (zd_t dmU_repair 11 rfl) (zd_t dmU_repair 12 rfl) (zd_t dmU_repair 13 rfl) (zd_t dmU_repair 14 rfl) (zd_t dmU_repair 15 rfl) zcl_U_53 zs_iISE (zs_str 98 "no single channel is the fault" (by decide)) (by decide +kernel) (by decide +kernel) zx_ISE (zs_in 228 (by decide +kernel) (by decide +kernel)) (fun h hh => absurd hh List.not_mem_nil) rfl
theorem zu_sure (hi : i < 16) : zg_C l (zs_E P) (d + 6) mU_sure [.ref (zp_B P), .int (nI i)] (zs_σ P S th S2 o w) (.inl (some (.int (zs_bi (zs_su S i)))), (zs_σ P S th S2 o w)) := by
  refine zg_C_of (by decide +kernel) (Nat.le_of_ble_eq_true rfl) ?_
  refine zg_iload_n (zd_t dmU_sure 0 rfl) rfl ?_
  refine zg_callS (zd_t dmU_sure 1 rfl) zl_U_30 zm_mU_requireRegister zst_mU_requireRegister (av := _) (rest := _) (by rfl) (by rfl) (by exact Nat.le_of_ble_eq_true rfl) (zu_requireRegister (zs_rg hi)) ?_
  refine zg_aload_n (zd_t dmU_sure 2 rfl) rfl ?_
  refine zg_getf (zd_t dmU_sure 3 rfl) zf_U_11 zs_0 rfl ?_
  refine zg_iload_n (zd_t dmU_sure 4 rfl) rfl ?_
  refine zg_aald (t0 := 3) (zd_t dmU_sure 5 rfl) zs_1 rfl rfl hi (by decide) (zs_rf_at hi) ?_
  refine zg_getf (zd_t dmU_sure 6 rfl) zf_U_103 (zs_reg hi) rfl ?_
  exact zg_zret (zd_t dmU_sure 7 rfl) rfl (zs_nb _) rfl
theorem zu_bound {n : Nat} (hi : i < 16) (hn : n < 2) (hs : zs_su S i = true) : zg_C l (zs_E P) (d + 6) mU_bound [.ref (zp_B P), .int (nI i), .int (nI n)] (zs_σ P S th S2 o w) (.inl (some (.long (mz_L (zs_ex S i)))), (zs_σ P S th S2 o w)) := by
  refine zg_C_of (by decide +kernel) (Nat.le_of_ble_eq_true rfl) ?_
  refine zg_iload_n (zd_t dmU_bound 0 rfl) rfl ?_
  refine zg_callS (zd_t dmU_bound 1 rfl) zl_U_30 zm_mU_requireRegister zst_mU_requireRegister (av := _) (rest := _) (by rfl) (by rfl) (by exact Nat.le_of_ble_eq_true rfl) (zu_requireRegister (zs_rg hi)) ?_
  have g : zg_G l (zs_E P) (d + 6) mU_bound 23 (lv_args 0 [.ref (zp_B P), .int (nI i), .int (nI n)]) [] (zs_σ P S th S2 o w) (.inl (some (.long (mz_L (zs_ex S i)))), zs_σ P S th S2 o w) := by
    refine zg_aload_n (zd_t dmU_bound 12 rfl) rfl ?_
    refine zg_getf (zd_t dmU_bound 13 rfl) zf_U_11 zs_0 rfl ?_
    refine zg_iload_n (zd_t dmU_bound 14 rfl) rfl ?_
    refine zg_aald (t0 := 3) (zd_t dmU_bound 15 rfl) zs_1 rfl rfl hi (by decide) (zs_rf_at hi) ?_
    refine zg_getf (zd_t dmU_bound 16 rfl) zf_U_103 (zs_reg hi) rfl ?_
    rw [hs]
    refine zg_if_ne (tgt := 45) (zd_t dmU_bound 17 rfl) (by decide) (fun _ => ?_) (fun hq => absurd hq (by decide))
    refine zg_aload_n (zd_t dmU_bound 23 rfl) rfl ?_
    refine zg_getf (zd_t dmU_bound 24 rfl) zf_U_11 zs_0 rfl ?_
    refine zg_iload_n (zd_t dmU_bound 25 rfl) rfl ?_
    refine zg_aald (t0 := 3) (zd_t dmU_bound 26 rfl) zs_1 rfl rfl hi (by decide) (zs_rf_at hi) ?_
    refine zg_getf (zd_t dmU_bound 27 rfl) zf_U_111 (zs_reg hi) rfl ?_
    exact zg_lret (zd_t dmU_bound 28 rfl) rfl rfl
  refine zg_iload_n (zd_t dmU_bound 2 rfl) rfl ?_
  rcases (by omega : n = 0 ∨ n = 1) with rfl | rfl
  · refine zg_if_eq (tgt := 23) (zd_t dmU_bound 3 rfl) (by decide) (fun _ => ?_) (fun hq => absurd (by decide) hq)
    exact g
  · refine zg_if_eq (tgt := 23) (zd_t dmU_bound 3 rfl) (by decide) (fun hq => absurd hq (by decide)) (fun _ => ?_)
    refine zg_iload_n (zd_t dmU_bound 4 rfl) rfl ?_
    refine zg_iconst (v := (nI 1)) (zd_t dmU_bound 5 rfl) (by decide) ?_
    refine zg_icmp_eq (tgt := 23) (zd_t dmU_bound 6 rfl) (by decide) (fun _ => ?_) (fun hq => absurd (by decide) hq)
    exact g
theorem zu_boundY (htr : l.stackTraces = false) {n : Int32} (hi : i < 16) (hn : ¬ (n = 0 ∨ n = 1)) : zg_C l (zs_E P) (d + 7) mU_bound [.ref (zp_B P), .int (nI i), .int n] (zs_σ P S th S2 o w) (.inr (zg_sz (zs_σ P S th S2 o w), "java/lang/IllegalArgumentException"), zs_exc (zs_σ P S th S2 o w)) := by
  refine zg_C_of (by decide +kernel) (Nat.le_of_ble_eq_true rfl) ?_
  refine zg_iload_n (zd_t dmU_bound 0 rfl) rfl ?_
  refine zg_callS (zd_t dmU_bound 1 rfl) zl_U_30 zm_mU_requireRegister zst_mU_requireRegister (av := _) (rest := _) (by rfl) (by rfl) (by exact Nat.le_of_ble_eq_true rfl) (zu_requireRegister (zs_rg hi)) ?_
  refine zg_iload_n (zd_t dmU_bound 2 rfl) rfl ?_
  refine zg_if_eq (tgt := 23) (zd_t dmU_bound 3 rfl) (by decide) (fun hq => absurd hq (fun h => hn (Or.inl h))) (fun _ => ?_)
  refine zg_iload_n (zd_t dmU_bound 4 rfl) rfl ?_
  refine zg_iconst (v := (nI 1)) (zd_t dmU_bound 5 rfl) (by decide) ?_
  refine zg_icmp_eq (tgt := 23) (zd_t dmU_bound 6 rfl) (by decide) (fun hq => absurd hq (fun h => hn (Or.inr h))) (fun _ => ?_)
  exact zg_throw htr (by omega) (by decide) (by decide) (zd_t dmU_bound 7 rfl) (zd_t dmU_bound 8 rfl) (zd_t dmU_bound 9 rfl) (zd_t dmU_bound 10 rfl) (zd_t dmU_bound 11 rfl) zcl_U_38 zs_iIAE (zs_str 107 "there is no such end" (by decide)) (by decide +kernel) (by decide +kernel) zx_IAE (zs_in 175 (by decide +kernel) (by decide +kernel)) (fun h hh => absurd hh List.not_mem_nil) rfl
theorem zu_boundZ (htr : l.stackTraces = false) {n : Nat} (hi : i < 16) (hn : n < 2) (hs : zs_su S i = false) : zg_C l (zs_E P) (d + 7) mU_bound [.ref (zp_B P), .int (nI i), .int (nI n)] (zs_σ P S th S2 o w) (.inr (zg_sz (zs_σ P S th S2 o w), "java/lang/IllegalStateException"), zs_exc (zs_σ P S th S2 o w)) := by
  refine zg_C_of (by decide +kernel) (Nat.le_of_ble_eq_true rfl) ?_
  refine zg_iload_n (zd_t dmU_bound 0 rfl) rfl ?_
  refine zg_callS (zd_t dmU_bound 1 rfl) zl_U_30 zm_mU_requireRegister zst_mU_requireRegister (av := _) (rest := _) (by rfl) (by rfl) (by exact Nat.le_of_ble_eq_true rfl) (zu_requireRegister (zs_rg hi)) ?_
  have g : zg_G l (zs_E P) (d + 7) mU_bound 23 (lv_args 0 [.ref (zp_B P), .int (nI i), .int (nI n)]) [] (zs_σ P S th S2 o w) (.inr (zg_sz (zs_σ P S th S2 o w), "java/lang/IllegalStateException"), zs_exc (zs_σ P S th S2 o w)) := by
    refine zg_aload_n (zd_t dmU_bound 12 rfl) rfl ?_
    refine zg_getf (zd_t dmU_bound 13 rfl) zf_U_11 zs_0 rfl ?_
    refine zg_iload_n (zd_t dmU_bound 14 rfl) rfl ?_
    refine zg_aald (t0 := 3) (zd_t dmU_bound 15 rfl) zs_1 rfl rfl hi (by decide) (zs_rf_at hi) ?_
    refine zg_getf (zd_t dmU_bound 16 rfl) zf_U_103 (zs_reg hi) rfl ?_
    rw [hs]
    refine zg_if_ne (tgt := 45) (zd_t dmU_bound 17 rfl) (by decide) (fun hq => absurd (by decide) hq) (fun _ => ?_)
    exact zg_throw htr (by omega) (by decide) (by decide) (zd_t dmU_bound 18 rfl) (zd_t dmU_bound 19 rfl) (zd_t dmU_bound 20 rfl) (zd_t dmU_bound 21 rfl) (zd_t dmU_bound 22 rfl) zcl_U_53 zs_iISE (zs_str 109 "the register is not sure" (by decide)) (by decide +kernel) (by decide +kernel) zx_ISE (zs_in 228 (by decide +kernel) (by decide +kernel)) (fun h hh => absurd hh List.not_mem_nil) rfl
  refine zg_iload_n (zd_t dmU_bound 2 rfl) rfl ?_
  rcases (by omega : n = 0 ∨ n = 1) with rfl | rfl
  · refine zg_if_eq (tgt := 23) (zd_t dmU_bound 3 rfl) (by decide) (fun _ => ?_) (fun hq => absurd (by decide) hq)
    exact g
  · refine zg_if_eq (tgt := 23) (zd_t dmU_bound 3 rfl) (by decide) (fun hq => absurd hq (by decide)) (fun _ => ?_)
    refine zg_iload_n (zd_t dmU_bound 4 rfl) rfl ?_
    refine zg_iconst (v := (nI 1)) (zd_t dmU_bound 5 rfl) (by decide) ?_
    refine zg_icmp_eq (tgt := 23) (zd_t dmU_bound 6 rfl) (by decide) (fun _ => ?_) (fun hq => absurd (by decide) hq)
    exact g
theorem zu_stopped  : zg_C l (zs_E P) (d + 6) mU_stopped [.ref (zp_B P)] (zs_σ P S th S2 o w) (.inl (some (.int (zs_sr S))), (zs_σ P S th S2 o w)) := by
  refine zg_C_of (by decide +kernel) (Nat.le_of_ble_eq_true rfl) ?_
  refine zg_aload_n (zd_t dmU_stopped 0 rfl) rfl ?_
  refine zg_getf (zd_t dmU_stopped 1 rfl) zf_U_25 zs_0 rfl ?_
  exact zg_iret (zd_t dmU_stopped 2 rfl) rfl rfl
end ZM10
