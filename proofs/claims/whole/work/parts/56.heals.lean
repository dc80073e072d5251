theorem mz_stk : ∀ k, k < 6 → (175107974924611 : Int).tdiv (mz_m k : Int) = mz_st k
  | 0, _ => by decide +kernel
  | 1, _ => by decide +kernel
  | 2, _ => by decide +kernel
  | 3, _ => by decide +kernel
  | 4, _ => by decide +kernel
  | 5, _ => by decide +kernel
  | n + 6, h => absurd h (by omega)
theorem mz_stp : ∀ k, 0 < mz_st k ∧ mz_st k < 800000000000 := by
  intro k
  unfold mz_st
  split <;> decide
theorem mz_ivl : ∀ k, mz_iv k < 256 := by
  intro k
  unfold mz_iv
  split <;> decide
theorem mz_num_in (ρ : Nat → Nat) (h6 : ρ 6 < 256) (k : Nat) : mz_in (((mz_val ρ + 87553987462305) % mz_st k - 87553987462305)) ∧ mz_in ((((ρ 6 : Int) - ((mz_val ρ + 87553987462305) % mz_st k - 87553987462305)) * (mz_iv k : Int))) ∧ mz_in (mz_num ρ k) := by
  have hs := mz_stp k
  have hi := mz_ivl k
  have h1 := Int.emod_nonneg (mz_val ρ + 87553987462305) (show mz_st k ≠ 0 by omega)
  have h2 := Int.emod_lt_of_pos (mz_val ρ + 87553987462305) hs.1
  unfold mz_num
  obtain ⟨a, ha⟩ : ∃ a, a = (mz_val ρ + 87553987462305) % mz_st k := ⟨_, rfl⟩
  rw [← ha] at h1 h2 ⊢
  obtain ⟨i, hi2⟩ : ∃ i : Int, i = (mz_iv k : Int) := ⟨_, rfl⟩
  rw [← hi2]
  have hi3 : 0 ≤ i ∧ i < 256 := by omega
  obtain ⟨x, hx⟩ : ∃ x : Int, x = (ρ 6 : Int) - (a - 87553987462305) := ⟨_, rfl⟩
  rw [← hx]
  have hx2 : -800000000000 ≤ x ∧ x ≤ 87553987462561 := by omega
  have p1 : x * i ≤ 87553987462561 * 256 := by
    by_cases h : 0 ≤ x
    · exact Int.mul_le_mul hx2.2 (by omega) hi3.1 (by omega)
    · have := Int.mul_nonneg (show 0 ≤ -x by omega) hi3.1
      rw [Int.neg_mul] at this
      omega
  have p2 : (-x) * i ≤ 800000000000 * 256 := by
    by_cases h : 0 ≤ -x
    · exact Int.mul_le_mul (by omega) (by omega) hi3.1 (by omega)
    · have := Int.mul_nonneg (show 0 ≤ x by omega) hi3.1
      rw [Int.neg_mul]
      omega
  rw [Int.neg_mul] at p2
  obtain ⟨y, hy⟩ : ∃ y : Int, y = x * i := ⟨_, rfl⟩
  rw [← hy] at p1 p2 ⊢
  have q1 : 0 ≤ y % 256 ∧ y % 256 < 256 := by omega
  obtain ⟨z, hz⟩ : ∃ z : Int, z = y % 256 := ⟨_, rfl⟩
  rw [← hz] at q1 ⊢
  have p3 : z * mz_st k ≤ 256 * 800000000000 := Int.mul_le_mul (by omega) (by omega) (by omega) (by omega)
  have p4 := Int.mul_nonneg q1.1 (show 0 ≤ mz_st k by omega)
  unfold mz_in
  refine ⟨⟨by omega, by omega⟩, ⟨by omega, by omega⟩, ⟨by omega, by omega⟩⟩
def mz_hn (ρ : Nat → Nat) (k : Nat) : Int := if k < 6 then mz_num ρ k else mz_val ρ
abbrev mz_hf (ρ : Nat → Nat) (k : Nat) : Prop := mz_fit ρ (mz_hn ρ k) k
def mz_ht (ρ : Nat → Nat) (k : Nat) : Nat := (mz_hn ρ k % (mz_m k : Int)).toNat
/-- the first channel from k on that heals, 9 where there is none -/
def mz_ff (ρ : Nat → Nat) : Nat → Nat → Nat
  | 0, _ => 9
  | n + 1, k => if mz_hf ρ k then k + 1 else mz_ff ρ n (k + 1)
def mz_fault (ρ : Nat → Nat) : Nat := if mz_good ρ then 0 else mz_ff ρ 8 0
theorem mz_ff_le (ρ : Nat → Nat) : ∀ n k, k + n = 8 → mz_ff ρ n k ≤ 9
  | 0, _, _ => Nat.le_refl _
  | n + 1, k, h => by
    unfold mz_ff
    split
    · omega
    · exact mz_ff_le ρ n (k + 1) (by omega)
theorem mz_hn_in {ρ : Nat → Nat} (hok : mz_ok ρ) (k : Nat) : mz_in (mz_hn ρ k) := by
  unfold mz_hn
  split
  · exact (mz_num_in ρ (hok 6 (by omega)) k).2.2
  · exact mz_val_in ρ
theorem mz_ht_lt (ρ : Nat → Nat) (k : Nat) : mz_ht ρ k < mz_m k := by
  have hm := mz_m_lt k
  have h1 := Int.emod_nonneg (mz_hn ρ k) (show (mz_m k : Int) ≠ 0 by omega)
  have h2 := Int.emod_lt_of_pos (mz_hn ρ k) (show 0 < (mz_m k : Int) by omega)
  unfold mz_ht
  omega
section ZM7
variable {l : Launch} {P : zs_P} {d : Nat} {S : zs_S} {S2 : zs_S2} {th : Int32} {o : Int64} {w : Nat × Nat} {i k : Nat}
theorem zr_numberWithout (hi : i < 16) (hk : k < 6) (hok : mz_ok (zs_re S i)) : zg_C l (zs_E P) (d + 2) mR_numberWithout [.ref (zp_B P + 3 + 2 * i), .int (nI k)] (zs_σ P S th S2 o w) (.inl (some (.long (mz_L (mz_num (zs_re S i) k)))), zs_σ P S th S2 o w) := by
  refine zg_C_of (by decide +kernel) (Nat.le_of_ble_eq_true rfl) ?_
  have hm := mz_m_lt k
  have hs := mz_stp k
  have hiv := mz_ivl k
  have h6 : zs_re S i 6 < 256 := hok 6 (by omega)
  have hn := mz_num_in (zs_re S i) h6 k
  have hM : mz_in 175107974924611 := by unfold mz_in; omega
  have hst : mz_in (mz_st k) := by unfold mz_in; omega
  have hv := mz_V_in (zs_re S i 0) (zs_re S i 1) (zs_re S i 2) (zs_re S i 3) (zs_re S i 4) (zs_re S i 5)
  have hvh : mz_in (mz_val (zs_re S i) + 87553987462305) := by
    unfold mz_in mz_val
    omega
  have hm0 : ¬ mz_L (mz_m k : Int) = 0 := fun h => by
    have h0 : mz_in 0 := by unfold mz_in; omega
    have : mz_L (mz_m k : Int) = mz_L 0 := h
    rw [mz_eq (mz_m_in k) h0] at this
    omega
  refine zg_ldc2 (zd_t dmR_numberWithout 0 rfl) zc_R_58 ?_
  refine zg_getsN (zd_t dmR_numberWithout 1 rfl) zs_xM zg_R_45 ?_
  refine zg_iload_n (zd_t dmR_numberWithout 2 rfl) rfl ?_
  refine zg_ti (zd_t dmR_numberWithout 3 rfl) zs_yM rfl (show k < 8 by omega) (by decide) rfl ?_
  refine zg_i2l (zd_t dmR_numberWithout 4 rfl) rfl ?_
  rw [mz_i2l (show mz_m k < 2 ^ 31 by omega)]
  refine zg_ldiv (zd_t dmR_numberWithout 5 rfl) hm0 ?_
  rw [mz_div hM (mz_m_in k), mz_stk k hk]
  refine zg_lstore_n (zd_t dmR_numberWithout 6 rfl) (by decide) rfl ?_
  refine zg_aload_n (zd_t dmR_numberWithout 7 rfl) rfl ?_
  refine zg_callV (zd_t dmR_numberWithout 8 rfl) zl_R_62 zm_mR_value zi_mR_value zse_mR_value (zs_reg hi) zs_cl1 rfl (av := []) (rest := []) rfl rfl (Nat.le_of_ble_eq_true rfl) (zr_value hi hok) ?_
  refine zg_ldc2 (zd_t dmR_numberWithout 9 rfl) zc_R_60 ?_
  refine zg_ladd (zd_t dmR_numberWithout 10 rfl) ?_
  rw [mz_add]
  refine zg_lload_n (zd_t dmR_numberWithout 11 rfl) rfl ?_
  refine zg_callS (zd_t dmR_numberWithout 12 rfl) zl_R_82 zm_mJ_floorMod_J zst_mJ_floorMod_J (av := [.long (mz_L (mz_val (zs_re S i) + 87553987462305)), .long (mz_L (mz_st k))]) (rest := []) rfl rfl (Nat.le_of_ble_eq_true rfl) (zj_floorMod hvh hst hs.1) ?_
  refine zg_ldc2 (zd_t dmR_numberWithout 13 rfl) zc_R_60 ?_
  refine zg_lsub (zd_t dmR_numberWithout 14 rfl) ?_
  rw [mz_sub]
  refine zg_lstore (zd_t dmR_numberWithout 15 rfl) (by decide) rfl ?_
  refine zg_aload_n (zd_t dmR_numberWithout 16 rfl) rfl ?_
  refine zg_getf (zd_t dmR_numberWithout 17 rfl) zf_R_9 (zs_reg hi) rfl ?_
  refine zg_bipush (v := (nI 6)) (zd_t dmR_numberWithout 18 rfl) (by decide) ?_
  refine zg_iald (k := 6) (t0 := 0) (zd_t dmR_numberWithout 19 rfl) (zs_res hi) rfl rfl (by decide) (by decide) ?_
  refine zg_i2l (zd_t dmR_numberWithout 20 rfl) rfl ?_
  rw [mz_i2l (show zs_re S i 6 < 2 ^ 31 by omega)]
  refine zg_lload (zd_t dmR_numberWithout 21 rfl) rfl ?_
  refine zg_lsub (zd_t dmR_numberWithout 22 rfl) ?_
  rw [mz_sub]
  refine zg_getsN (zd_t dmR_numberWithout 23 rfl) zs_xV zg_R_85 ?_
  refine zg_iload_n (zd_t dmR_numberWithout 24 rfl) rfl ?_
  refine zg_ti (zd_t dmR_numberWithout 25 rfl) zs_yV rfl hk (by decide) rfl ?_
  refine zg_i2l (zd_t dmR_numberWithout 26 rfl) rfl ?_
  rw [mz_i2l (show mz_iv k < 2 ^ 31 by omega)]
  refine zg_lmul (zd_t dmR_numberWithout 27 rfl) ?_
  refine zg_bipush (v := (nI 6)) (zd_t dmR_numberWithout 28 rfl) (by decide) ?_
  rw [mz_mul]
  refine zg_callS (zd_t dmR_numberWithout 29 rfl) zl_R_23 zm_mU_residueOf zst_mU_residueOf (av := [.long (mz_L (((zs_re S i 6 : Int) - ((mz_val (zs_re S i) + 87553987462305) % mz_st k - 87553987462305)) * (mz_iv k : Int))), .int (nI 6)]) (rest := []) rfl rfl (Nat.le_of_ble_eq_true rfl) (zu_residueOf hn.2.1 (by decide)) ?_
  have q : (((((zs_re S i 6 : Int) - ((mz_val (zs_re S i) + 87553987462305) % mz_st k - 87553987462305)) * (mz_iv k : Int)) % (mz_m 6 : Int)).toNat : Int) = ((((zs_re S i 6 : Int) - ((mz_val (zs_re S i) + 87553987462305) % mz_st k - 87553987462305)) * (mz_iv k : Int)) % 256) := by
    show (((_ : Int) % (256 : Int)).toNat : Int) = _
    omega
  refine zg_i2l (zd_t dmR_numberWithout 30 rfl) rfl ?_
  rw [mz_i2l (by omega), q]
  refine zg_lstore (zd_t dmR_numberWithout 31 rfl) (by decide) rfl ?_
  refine zg_lload (zd_t dmR_numberWithout 32 rfl) rfl ?_
  refine zg_lload (zd_t dmR_numberWithout 33 rfl) rfl ?_
  refine zg_lload_n (zd_t dmR_numberWithout 34 rfl) rfl ?_
  refine zg_lmul (zd_t dmR_numberWithout 35 rfl) ?_
  refine zg_ladd (zd_t dmR_numberWithout 36 rfl) ?_
  rw [mz_mul, mz_add]
  exact zg_lret (zd_t dmR_numberWithout 37 rfl) rfl rfl
theorem zs_hs (hk : k < 8) : ∀ j, j < 8 → (nI j = nI k ↔ j = k) := fun j hj => nI_eq (by omega) (by omega)
theorem zr_healingResidue (hi : i < 16) (hk : k < 8) (hok : mz_ok (zs_re S i)) : zg_C l (zs_E P) (d + 3) mR_healingResidue [.ref (zp_B P + 3 + 2 * i), .int (nI k)] (zs_σ P S th S2 o w) (.inl (some (.int (if mz_hf (zs_re S i) k then nI (mz_ht (zs_re S i) k) else -1))), zs_σ P S th S2 o w) := by
  refine zg_C_of (by decide +kernel) (Nat.le_of_ble_eq_true rfl) ?_
  have hni := mz_hn_in hok k
  have tl : ∀ x, x = mz_hn (zs_re S i) k → zg_G l (zs_E P) (d + 3) mR_healingResidue 18 [(0, .ref (zp_B P + 3 + 2 * i)), (1, .int (nI k))] [.long (mz_L x)] (zs_σ P S th S2 o w) (.inl (some (.int (if mz_hf (zs_re S i) k then nI (mz_ht (zs_re S i) k) else -1))), zs_σ P S th S2 o w) := by
    intro x hx
    subst hx
    refine zg_lstore_n (zd_t dmR_healingResidue 9 rfl) (by decide) rfl ?_
    refine zg_aload_n (zd_t dmR_healingResidue 10 rfl) rfl ?_
    refine zg_lload_n (zd_t dmR_healingResidue 11 rfl) rfl ?_
    refine zg_iload_n (zd_t dmR_healingResidue 12 rfl) rfl ?_
    refine zg_callV (zd_t dmR_healingResidue 13 rfl) zl_R_66 zm_mR_fits zi_mR_fits zse_mR_fits (zs_reg hi) zs_cl1 rfl (av := [.long (mz_L (mz_hn (zs_re S i) k)), .int (nI k)]) (rest := []) rfl rfl (Nat.le_of_ble_eq_true rfl) (zr_fits (s := k) hi hok hni (zs_hs hk)) ?_
    by_cases hf : mz_hf (zs_re S i) k
    · rw [decide_eq_true hf, if_pos hf]
      refine zg_if_eq (tgt := 36) (zd_t dmR_healingResidue 14 rfl) (by decide) (fun h => absurd h (by decide)) (fun _ => ?_)
      refine zg_lload_n (zd_t dmR_healingResidue 15 rfl) rfl ?_
      refine zg_iload_n (zd_t dmR_healingResidue 16 rfl) rfl ?_
      refine zg_callS (zd_t dmR_healingResidue 17 rfl) zl_R_23 zm_mU_residueOf zst_mU_residueOf (av := [.long (mz_L (mz_hn (zs_re S i) k)), .int (nI k)]) (rest := []) rfl rfl (Nat.le_of_ble_eq_true rfl) (zu_residueOf hni hk) ?_
      refine zg_goto (tgt := 37) (zd_t dmR_healingResidue 18 rfl) (by decide) ?_
      exact zg_iret (zd_t dmR_healingResidue 20 rfl) rfl rfl
    · rw [decide_eq_false hf, if_neg hf]
      refine zg_if_eq (tgt := 36) (zd_t dmR_healingResidue 14 rfl) (by decide) (fun _ => ?_) (fun h => absurd rfl h)
      refine zg_iconst (v := (-1)) (zd_t dmR_healingResidue 19 rfl) (by decide) ?_
      exact zg_iret (zd_t dmR_healingResidue 20 rfl) rfl rfl
  refine zg_iload_n (zd_t dmR_healingResidue 0 rfl) rfl ?_
  refine zg_bipush (v := (nI 6)) (zd_t dmR_healingResidue 1 rfl) (by decide) ?_
  by_cases h6 : k < 6
  · refine zg_icmp_ge (tgt := 14) (zd_t dmR_healingResidue 2 rfl) (by decide) (fun h => absurd ((nI_leI (by decide) (by omega)).mp h) (by omega)) (fun _ => ?_)
    refine zg_aload_n (zd_t dmR_healingResidue 3 rfl) rfl ?_
    refine zg_iload_n (zd_t dmR_healingResidue 4 rfl) rfl ?_
    refine zg_callV (zd_t dmR_healingResidue 5 rfl) zl_R_78 zm_mR_numberWithout zi_mR_numberWithout zse_mR_numberWithout (zs_reg hi) zs_cl1 rfl (av := [.int (nI k)]) (rest := []) rfl rfl (Nat.le_of_ble_eq_true rfl) (zr_numberWithout hi h6 hok) ?_
    refine zg_goto (tgt := 18) (zd_t dmR_healingResidue 6 rfl) (by decide) ?_
    exact tl _ (if_pos h6).symm
  · refine zg_icmp_ge (tgt := 14) (zd_t dmR_healingResidue 2 rfl) (by decide) (fun _ => ?_) (fun h => absurd ((nI_leI (by decide) (by omega)).mpr (by omega)) h)
    refine zg_aload_n (zd_t dmR_healingResidue 7 rfl) rfl ?_
    refine zg_callV (zd_t dmR_healingResidue 8 rfl) zl_R_62 zm_mR_value zi_mR_value zse_mR_value (zs_reg hi) zs_cl1 rfl (av := []) (rest := []) rfl rfl (Nat.le_of_ble_eq_true rfl) (zr_value hi hok) ?_
    exact tl _ (if_neg h6).symm
theorem mz_ht_ne (ρ : Nat → Nat) (k : Nat) : ¬ nI (mz_ht ρ k) = (-1 : Int32) := fun h => by
  have h1 := mz_ht_lt ρ k
  have h2 := (mz_m_lt k).1
  have h3 := congrArg Int32.toInt h
  rw [nI_toInt (by omega)] at h3
  have h4 : ((-1 : Int32).toInt) = -1 := by decide
  omega
theorem zr_fault_lp (hi : i < 16) (hok : mz_ok (zs_re S i)) : ∀ (n k : Nat), k + n = 8 → zg_G l (zs_E P) (d + 4) mR_fault 11 [(1, .int (nI k)), (0, .ref (zp_B P + 3 + 2 * i))] [] (zs_σ P S th S2 o w) (.inl (some (.int (nI (mz_ff (zs_re S i) n k)))), zs_σ P S th S2 o w) := by
  intro n
  induction n with
  | zero =>
    intro k hk
    have hk : k = 8 := by omega
    subst hk
    refine zg_iload_n (zd_t dmR_fault 7 rfl) rfl ?_
    refine zg_bipush (v := (nI 8)) (zd_t dmR_fault 8 rfl) (by decide) ?_
    refine zg_icmp_ge (tgt := 36) (zd_t dmR_fault 9 rfl) (by decide) (fun _ => ?_) (fun h => absurd (by decide) h)
    refine zg_bipush (v := (nI 9)) (zd_t dmR_fault 21 rfl) (by decide) ?_
    exact zg_iret (zd_t dmR_fault 22 rfl) rfl rfl
  | succ n ih =>
    intro k hk
    have hk8 : k < 8 := by omega
    refine zg_iload_n (zd_t dmR_fault 7 rfl) rfl ?_
    refine zg_bipush (v := (nI 8)) (zd_t dmR_fault 8 rfl) (by decide) ?_
    refine zg_icmp_ge (tgt := 36) (zd_t dmR_fault 9 rfl) (by decide) (fun h => absurd ((nI_leI (by decide) (by omega)).mp h) (by omega)) (fun _ => ?_)
    refine zg_aload_n (zd_t dmR_fault 10 rfl) rfl ?_
    refine zg_iload_n (zd_t dmR_fault 11 rfl) rfl ?_
    refine zg_callV (zd_t dmR_fault 12 rfl) zl_R_74 zm_mR_healingResidue zi_mR_healingResidue zse_mR_healingResidue (zs_reg hi) zs_cl1 rfl (av := [.int (nI k)]) (rest := []) rfl rfl (Nat.le_of_ble_eq_true rfl) (zr_healingResidue hi hk8 hok) ?_
    refine zg_iconst (v := (-1)) (zd_t dmR_fault 13 rfl) (by decide) ?_
    unfold mz_ff
    by_cases hf : mz_hf (zs_re S i) k
    · rw [if_pos hf, if_pos hf]
      refine zg_icmp_eq (tgt := 30) (zd_t dmR_fault 14 rfl) (by decide) (fun h => absurd h (mz_ht_ne _ _)) (fun _ => ?_)
      refine zg_iload_n (zd_t dmR_fault 15 rfl) rfl ?_
      refine zg_iconst (v := (nI 1)) (zd_t dmR_fault 16 rfl) (by decide) ?_
      refine zg_iadd (zd_t dmR_fault 17 rfl) ?_
      rw [nI_add]
      exact zg_iret (zd_t dmR_fault 18 rfl) rfl rfl
    · rw [if_neg hf, if_neg hf]
      refine zg_icmp_eq (tgt := 30) (zd_t dmR_fault 14 rfl) (by decide) (fun _ => ?_) (fun h => absurd rfl h)
      refine zg_iinc (lv2 := [(1, .int (nI (k + 1))), (0, .ref (zp_B P + 3 + 2 * i))]) (zd_t dmR_fault 19 rfl) rfl (mz_inc k) (by decide) rfl ?_
      refine zg_goto (tgt := 11) (zd_t dmR_fault 20 rfl) (by decide) ?_
      exact ih (k + 1) (by omega)
theorem zr_fault (hi : i < 16) (hok : mz_ok (zs_re S i)) : zg_C l (zs_E P) (d + 4) mR_fault [.ref (zp_B P + 3 + 2 * i)] (zs_σ P S th S2 o w) (.inl (some (.int (nI (mz_fault (zs_re S i))))), zs_σ P S th S2 o w) := by
  refine zg_C_of (by decide +kernel) (Nat.le_of_ble_eq_true rfl) ?_
  refine zg_aload_n (zd_t dmR_fault 0 rfl) rfl ?_
  refine zg_callV (zd_t dmR_fault 1 rfl) zl_R_70 zm_mR_isGood zi_mR_isGood zse_mR_isGood (zs_reg hi) zs_cl1 rfl (av := []) (rest := []) rfl rfl (Nat.le_of_ble_eq_true rfl) (zr_isGood hi hok) ?_
  unfold mz_fault
  by_cases hg : mz_good (zs_re S i)
  · rw [decide_eq_true hg, if_pos hg]
    refine zg_if_eq (tgt := 9) (zd_t dmR_fault 2 rfl) (by decide) (fun h => absurd h (by decide)) (fun _ => ?_)
    refine zg_iconst (v := (nI 0)) (zd_t dmR_fault 3 rfl) (by decide) ?_
    exact zg_iret (zd_t dmR_fault 4 rfl) rfl rfl
  · rw [decide_eq_false hg, if_neg hg]
    refine zg_if_eq (tgt := 9) (zd_t dmR_fault 2 rfl) (by decide) (fun _ => ?_) (fun h => absurd rfl h)
    refine zg_iconst (v := (nI 0)) (zd_t dmR_fault 5 rfl) (by decide) ?_
    refine zg_istore_n (zd_t dmR_fault 6 rfl) (by decide) rfl ?_
    exact zr_fault_lp hi hok 8 0 rfl
theorem zr_heal (hi : i < 16) (hk : k < 8) (hok : mz_ok (zs_re S i)) (hf : mz_hf (zs_re S i) k) : zg_C l (zs_E P) (d + 4) mR_heal [.ref (zp_B P + 3 + 2 * i), .int (nI k)] (zs_σ P S th S2 o w) (.inl none, zs_σ P (zs_sre S i k (mz_ht (zs_re S i) k)) th S2 o w) := by
  refine zg_C_of (by decide +kernel) (Nat.le_of_ble_eq_true rfl) ?_
  refine zg_aload_n (zd_t dmR_heal 0 rfl) rfl ?_
  refine zg_iload_n (zd_t dmR_heal 1 rfl) rfl ?_
  refine zg_callV (zd_t dmR_heal 2 rfl) zl_R_74 zm_mR_healingResidue zi_mR_healingResidue zse_mR_healingResidue (zs_reg hi) zs_cl1 rfl (av := [.int (nI k)]) (rest := []) rfl rfl (Nat.le_of_ble_eq_true rfl) (zr_healingResidue hi hk hok) ?_
  rw [if_pos hf]
  refine zg_istore_n (zd_t dmR_heal 3 rfl) (by decide) rfl ?_
  refine zg_iload_n (zd_t dmR_heal 4 rfl) rfl ?_
  refine zg_iconst (v := (-1)) (zd_t dmR_heal 5 rfl) (by decide) ?_
  refine zg_icmp_eq (tgt := 18) (zd_t dmR_heal 6 rfl) (by decide) (fun h => absurd h (mz_ht_ne _ _)) (fun _ => ?_)
  refine zg_aload_n (zd_t dmR_heal 7 rfl) rfl ?_
  refine zg_getf (zd_t dmR_heal 8 rfl) zf_R_9 (zs_reg hi) rfl ?_
  refine zg_iload_n (zd_t dmR_heal 9 rfl) rfl ?_
  refine zg_iload_n (zd_t dmR_heal 10 rfl) rfl ?_
  refine zg_iast (t0 := 0) (zd_t dmR_heal 11 rfl) (zs_res hi) rfl rfl hk (by decide) (zs_up_res hi) ?_
  exact zg_vret (zd_t dmR_heal 12 rfl) rfl rfl
def mz_sh (r : Nat) (e : Int32) (k : Nat) : Nat := (r + (e.toInt % (mz_m k : Int)).toNat) % mz_m k
theorem zr_shift {e : Int32} (hi : i < 16) (hk : k < 8) (hok : mz_ok (zs_re S i)) : zg_C l (zs_E P) (d + 1) mR_shift [.ref (zp_B P + 3 + 2 * i), .int (nI k), .int e] (zs_σ P S th S2 o w) (.inl (some (.int (nI (mz_sh (zs_re S i k) e k)))), zs_σ P (zs_sre S i k (mz_sh (zs_re S i k) e k)) th S2 o w) := by
  refine zg_C_of (by decide +kernel) (Nat.le_of_ble_eq_true rfl) ?_
  have hm := mz_m_lt k
  have hr := hok k hk
  have h2 := Int.emod_lt_of_pos e.toInt (show 0 < (mz_m k : Int) by omega)
  have h1 := Int.emod_nonneg e.toInt (show (mz_m k : Int) ≠ 0 by omega)
  refine zg_aload_n (zd_t dmR_shift 0 rfl) rfl ?_
  refine zg_getf (zd_t dmR_shift 1 rfl) zf_R_9 (zs_reg hi) rfl ?_
  refine zg_iload_n (zd_t dmR_shift 2 rfl) rfl ?_
  refine zg_aload_n (zd_t dmR_shift 3 rfl) rfl ?_
  refine zg_getf (zd_t dmR_shift 4 rfl) zf_R_9 (zs_reg hi) rfl ?_
  refine zg_iload_n (zd_t dmR_shift 5 rfl) rfl ?_
  refine zg_iald (t0 := 0) (zd_t dmR_shift 6 rfl) (zs_res hi) rfl rfl hk (by decide) ?_
  refine zg_iload_n (zd_t dmR_shift 7 rfl) rfl ?_
  refine zg_getsN (zd_t dmR_shift 8 rfl) zs_xM zg_R_45 ?_
  refine zg_iload_n (zd_t dmR_shift 9 rfl) rfl ?_
  refine zg_ti (zd_t dmR_shift 10 rfl) zs_yM rfl hk (by decide) rfl ?_
  refine zg_callS (zd_t dmR_shift 11 rfl) zl_R_48 zm_mJ_floorMod_I zst_mJ_floorMod_I (av := [.int e, .int (nI (mz_m k))]) (rest := [.int (nI (zs_re S i k)), .int (nI k), .ref (zp_B P + 4 + 2 * i)]) rfl rfl (Nat.le_of_ble_eq_true rfl) (zj_floorModI e hm.2 hm.1) ?_
  refine zg_iadd (zd_t dmR_shift 12 rfl) ?_
  rw [nI_add]
  refine zg_getsN (zd_t dmR_shift 13 rfl) zs_xM zg_R_45 ?_
  refine zg_iload_n (zd_t dmR_shift 14 rfl) rfl ?_
  refine zg_ti (zd_t dmR_shift 15 rfl) zs_yM rfl hk (by decide) rfl ?_
  refine zg_irem (zd_t dmR_shift 16 rfl) (nI_ne0 hm.2 (by omega)) ?_
  rw [pk_rem (by omega) hm.2 (by omega)]
  refine zg_iast (t0 := 0) (zd_t dmR_shift 17 rfl) (zs_res hi) rfl rfl hk (by decide) (zs_up_res hi) ?_
  refine zg_aload_n (zd_t dmR_shift 18 rfl) rfl ?_
  refine zg_getf (zd_t dmR_shift 19 rfl) zf_R_9 (zs_reg hi) rfl ?_
  refine zg_iload_n (zd_t dmR_shift 20 rfl) rfl ?_
  refine zg_iald (t0 := 0) (zd_t dmR_shift 21 rfl) (zs_res hi) rfl rfl hk (by decide) ?_
  rw [show zs_re (zs_sre S i k ((zs_re S i k + (e.toInt % (mz_m k : Int)).toNat) % mz_m k)) i k = mz_sh (zs_re S i k) e k from if_pos ⟨rfl, rfl⟩]
  exact zg_iret (zd_t dmR_shift 22 rfl) rfl rfl
end ZM7
