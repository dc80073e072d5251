def mz_cap (x y : Int) : Int := if y ≠ 0 ∧ 175107974924610 / (y.natAbs : Int) < (x.natAbs : Int) then 175107974924611 else x * y
abbrev mz_hr (x : Int) : Prop := -87553987462305 ≤ x ∧ x ≤ 87553987462305
theorem mz_hr.i {x : Int} (h : mz_hr x) : mz_in x := by
  have h1 := h.1
  have h2 := h.2
  unfold mz_in
  omega
theorem mz_cap_le {x y : Int} (hx : mz_hr x) (hy : mz_hr y) : -175107974924611 ≤ mz_cap x y ∧ mz_cap x y ≤ 175107974924611 := by
  unfold mz_cap
  by_cases h : y ≠ 0 ∧ 175107974924610 / (y.natAbs : Int) < (x.natAbs : Int)
  · rw [if_pos h]; omega
  · rw [if_neg h]
    by_cases hy0 : y = 0
    · subst hy0; simp
    · have h1 : ¬ (175107974924610 / (y.natAbs : Int) < (x.natAbs : Int)) := fun h2 => h ⟨hy0, h2⟩
      have h2 : (x.natAbs : Int) ≤ 175107974924610 / (y.natAbs : Int) := by omega
      have h3 : (x.natAbs : Int) * (y.natAbs : Int) ≤ 175107974924610 := by
        have h4 := Int.mul_le_mul_of_nonneg_right h2 (show (0 : Int) ≤ (y.natAbs : Int) by omega)
        have h5 := Int.ediv_mul_le 175107974924610 (show (y.natAbs : Int) ≠ 0 by omega)
        omega
      have h4 : (x * y).natAbs = x.natAbs * y.natAbs := Int.natAbs_mul x y
      have h5 : ((x * y).natAbs : Int) ≤ 175107974924610 := by rw [h4]; simpa using h3
      omega
def mz_cn (op : Nat) (t x y : Int) : Int := match op with
  | 0 => x + y
  | 1 => x - y
  | 2 => mz_cap x y
  | _ => t + mz_cap x y
def mz_cr (op k t x y : Nat) : Nat := match op with
  | 0 => (x + y) % mz_m k
  | 1 => (x + mz_m k - y) % mz_m k
  | 2 => x * y % mz_m k
  | _ => (t + x * y) % mz_m k
theorem mz_cn_in {op : Nat} {t x y : Int} (ht : mz_hr t) (hx : mz_hr x) (hy : mz_hr y) : mz_in (mz_cn op t x y) := by
  have h := mz_cap_le hx hy
  unfold mz_cn mz_in
  split <;> omega
section ZM5
variable {l : Launch} {P : zs_P} {d : Nat} {σ : zg_H}
theorem zu_cappedProduct {x y : Int} (hx : mz_hr x) (hy : mz_hr y) : zg_C l (zs_E P) (d + 1) mU_cappedProduct [.long (mz_L x), .long (mz_L y)] σ (.inl (some (.long (mz_L (mz_cap x y)))), σ) := by
  refine zg_C_of (by decide +kernel) (Nat.le_of_ble_eq_true rfl) ?_
  have h0 : mz_in 0 := by unfold mz_in; omega
  have hM : mz_in 175107974924610 := by unfold mz_in; omega
  have hxa : mz_in (x.natAbs : Int) := by unfold mz_in; omega
  have hya : mz_in (y.natAbs : Int) := by unfold mz_in; omega
  have t1 : zg_G l (zs_E P) (d + 1) mU_cappedProduct 27 (lv_args 0 [.long (mz_L x), .long (mz_L y)]) [.int (nI 1)] σ (.inl (some (.long (mz_L 175107974924611))), σ) := by
    refine zg_istore (zd_t dmU_cappedProduct 15 rfl) (by decide) rfl ?_
    refine zg_iload (zd_t dmU_cappedProduct 16 rfl) rfl ?_
    refine zg_if_eq (tgt := 40) (zd_t dmU_cappedProduct 17 rfl) (by decide) (fun h => absurd h (by decide)) (fun _ => ?_)
    refine zg_ldc2 (zd_t dmU_cappedProduct 18 rfl) zc_U_205 ?_
    refine zg_goto (tgt := 43) (zd_t dmU_cappedProduct 19 rfl) (by decide) ?_
    exact zg_lret (zd_t dmU_cappedProduct 23 rfl) rfl rfl
  have t0 : zg_G l (zs_E P) (d + 1) mU_cappedProduct 27 (lv_args 0 [.long (mz_L x), .long (mz_L y)]) [.int (nI 0)] σ (.inl (some (.long (mz_L (x * y)))), σ) := by
    refine zg_istore (zd_t dmU_cappedProduct 15 rfl) (by decide) rfl ?_
    refine zg_iload (zd_t dmU_cappedProduct 16 rfl) rfl ?_
    refine zg_if_eq (tgt := 40) (zd_t dmU_cappedProduct 17 rfl) (by decide) (fun _ => ?_) (fun h => absurd rfl h)
    refine zg_lload_n (zd_t dmU_cappedProduct 20 rfl) rfl ?_
    refine zg_lload_n (zd_t dmU_cappedProduct 21 rfl) rfl ?_
    refine zg_lmul (zd_t dmU_cappedProduct 22 rfl) ?_
    rw [mz_mul]
    exact zg_lret (zd_t dmU_cappedProduct 23 rfl) rfl rfl
  refine zg_lload_n (zd_t dmU_cappedProduct 0 rfl) rfl ?_
  refine zg_lconst (v := mz_L 0) (zd_t dmU_cappedProduct 1 rfl) (by decide) ?_
  refine zg_lcmp (zd_t dmU_cappedProduct 2 rfl) ?_
  rw [mz_cmp hy.i h0]
  by_cases hy0 : y = 0
  · refine zg_if_eq (tgt := 26) (zd_t dmU_cappedProduct 3 rfl) (by decide) (fun _ => ?_) (fun h => absurd (by rw [if_neg (by omega), if_pos hy0]) h)
    refine zg_iconst (v := (nI 0)) (zd_t dmU_cappedProduct 14 rfl) (by decide) ?_
    rw [show mz_cap x y = x * y from if_neg (fun h => h.1 hy0)]
    exact t0
  · refine zg_if_eq (tgt := 26) (zd_t dmU_cappedProduct 3 rfl) (by decide) (fun h => ?_) (fun _ => ?_)
    · exfalso
      by_cases h2 : 0 < y
      · rw [if_pos h2] at h; exact absurd h (by decide)
      · rw [if_neg h2, if_neg hy0] at h; exact absurd h (by decide)
    refine zg_lload_n (zd_t dmU_cappedProduct 4 rfl) rfl ?_
    refine zg_callS (zd_t dmU_cappedProduct 5 rfl) zl_U_199 zm_mJ_abs zst_mJ_abs (av := [.long (mz_L x)]) (rest := []) rfl rfl (Nat.le_of_ble_eq_true rfl) (zj_abs hx.i) ?_
    refine zg_ldc2 (zd_t dmU_cappedProduct 6 rfl) zc_U_203 ?_
    refine zg_lload_n (zd_t dmU_cappedProduct 7 rfl) rfl ?_
    refine zg_callS (zd_t dmU_cappedProduct 8 rfl) zl_U_199 zm_mJ_abs zst_mJ_abs (av := [.long (mz_L y)]) (rest := [.long (mz_L 175107974924610), .long (mz_L (x.natAbs : Int))]) rfl rfl (Nat.le_of_ble_eq_true rfl) (zj_abs hy.i) ?_
    refine zg_ldiv (zd_t dmU_cappedProduct 9 rfl) (fun h => ?_) ?_
    · have h2 : mz_L (y.natAbs : Int) = mz_L 0 := h
      rw [mz_eq hya h0] at h2
      omega
    rw [mz_div hM hya, Int.tdiv_eq_ediv_of_nonneg (by omega)]
    have hq : mz_in (175107974924610 / (y.natAbs : Int)) := by
      have h1 := Int.ediv_nonneg (show (0 : Int) ≤ 175107974924610 by omega) (show (0 : Int) ≤ (y.natAbs : Int) by omega)
      have h2 := Int.ediv_le_self (y.natAbs : Int) (show (0 : Int) ≤ 175107974924610 by omega)
      unfold mz_in
      omega
    refine zg_lcmp (zd_t dmU_cappedProduct 10 rfl) ?_
    rw [mz_cmp hxa hq]
    by_cases hg : 175107974924610 / (y.natAbs : Int) < (x.natAbs : Int)
    · refine zg_if_le (tgt := 26) (zd_t dmU_cappedProduct 11 rfl) (by decide) (fun h => absurd h (by rw [if_pos hg]; decide)) (fun _ => ?_)
      refine zg_iconst (v := (nI 1)) (zd_t dmU_cappedProduct 12 rfl) (by decide) ?_
      refine zg_goto (tgt := 27) (zd_t dmU_cappedProduct 13 rfl) (by decide) ?_
      rw [show mz_cap x y = 175107974924611 from if_pos ⟨hy0, hg⟩]
      exact t1
    · refine zg_if_le (tgt := 26) (zd_t dmU_cappedProduct 11 rfl) (by decide) (fun _ => ?_) (fun h => ?_)
      · refine zg_iconst (v := (nI 0)) (zd_t dmU_cappedProduct 14 rfl) (by decide) ?_
        rw [show mz_cap x y = x * y from if_neg (fun h => hg h.2)]
        exact t0
      · exfalso
        refine h ?_
        rw [if_neg hg]
        split <;> decide
theorem zu_combineNumbers {op : Nat} {t x y : Int} (ho : op < 4) (ht : mz_hr t) (hx : mz_hr x) (hy : mz_hr y) : zg_C l (zs_E P) (d + 2) mU_combineNumbers [.int (nI op), .long (mz_L t), .long (mz_L x), .long (mz_L y)] σ (.inl (some (.long (mz_L (mz_cn op t x y)))), σ) := by
  refine zg_C_of (by decide +kernel) (Nat.le_of_ble_eq_true rfl) ?_
  refine zg_iload_n (zd_t dmU_combineNumbers 0 rfl) rfl ?_
  rcases (by omega : op = 0 ∨ op = 1 ∨ op = 2 ∨ op = 3) with rfl | rfl | rfl | rfl
  · refine zg_tableIn (off := 27) (tgt := 28) (zd_t dmU_combineNumbers 1 rfl) (by decide) (by decide) (by decide) (by decide) ?_
    refine zg_lload_n (zd_t dmU_combineNumbers 2 rfl) rfl ?_
    refine zg_lload (zd_t dmU_combineNumbers 3 rfl) rfl ?_
    refine zg_ladd (zd_t dmU_combineNumbers 4 rfl) ?_
    rw [mz_add]
    exact zg_lret (zd_t dmU_combineNumbers 5 rfl) rfl rfl
  · refine zg_tableIn (off := 32) (tgt := 33) (zd_t dmU_combineNumbers 1 rfl) (by decide) (by decide) (by decide) (by decide) ?_
    refine zg_lload_n (zd_t dmU_combineNumbers 6 rfl) rfl ?_
    refine zg_lload (zd_t dmU_combineNumbers 7 rfl) rfl ?_
    refine zg_lsub (zd_t dmU_combineNumbers 8 rfl) ?_
    rw [mz_sub]
    exact zg_lret (zd_t dmU_combineNumbers 9 rfl) rfl rfl
  · refine zg_tableIn (off := 37) (tgt := 38) (zd_t dmU_combineNumbers 1 rfl) (by decide) (by decide) (by decide) (by decide) ?_
    refine zg_lload_n (zd_t dmU_combineNumbers 10 rfl) rfl ?_
    refine zg_lload (zd_t dmU_combineNumbers 11 rfl) rfl ?_
    refine zg_callS (zd_t dmU_combineNumbers 12 rfl) zl_U_196 zm_mU_cappedProduct zst_mU_cappedProduct (av := [.long (mz_L x), .long (mz_L y)]) (rest := []) rfl rfl (Nat.le_of_ble_eq_true rfl) (zu_cappedProduct hx hy) ?_
    exact zg_lret (zd_t dmU_combineNumbers 13 rfl) rfl rfl
  · refine zg_tableOut (tgt := 45) (zd_t dmU_combineNumbers 1 rfl) (by decide) (by decide) ?_
    refine zg_lload_n (zd_t dmU_combineNumbers 14 rfl) rfl ?_
    refine zg_lload_n (zd_t dmU_combineNumbers 15 rfl) rfl ?_
    refine zg_lload (zd_t dmU_combineNumbers 16 rfl) rfl ?_
    refine zg_callS (zd_t dmU_combineNumbers 17 rfl) zl_U_196 zm_mU_cappedProduct zst_mU_cappedProduct (av := [.long (mz_L x), .long (mz_L y)]) (rest := [.long (mz_L t)]) rfl rfl (Nat.le_of_ble_eq_true rfl) (zu_cappedProduct hx hy) ?_
    refine zg_ladd (zd_t dmU_combineNumbers 18 rfl) ?_
    rw [mz_add]
    exact zg_lret (zd_t dmU_combineNumbers 19 rfl) rfl rfl
theorem zu_combineResidues {op k t x y : Nat} (ho : op < 4) (hk : k < 8) (ht : t < mz_m k) (hx : x < mz_m k) (hy : y < mz_m k) : zg_C l (zs_E P) d mU_combineResidues [.int (nI op), .int (nI k), .int (nI t), .int (nI x), .int (nI y)] σ (.inl (some (.int (nI (mz_cr op k t x y)))), σ) := by
  refine zg_C_of (by decide +kernel) (Nat.le_of_ble_eq_true rfl) ?_
  have hm := mz_m_lt k
  have hxy : x * y ≤ 65536 := by
    have := Nat.mul_le_mul (show x ≤ 256 by omega) (show y ≤ 256 by omega)
    omega
  have hmz : ¬ nI (mz_m k) = 0 := nI_ne0 hm.2 (by omega)
  refine zg_gets (zd_t dmU_combineResidues 0 rfl) zs_xM zg_U_190 ?_
  refine zg_iload_n (zd_t dmU_combineResidues 1 rfl) rfl ?_
  refine zg_ti (zd_t dmU_combineResidues 2 rfl) zs_yM rfl hk (by decide) rfl ?_
  refine zg_istore (zd_t dmU_combineResidues 3 rfl) (by decide) rfl ?_
  refine zg_iload_n (zd_t dmU_combineResidues 4 rfl) rfl ?_
  rcases (by omega : op = 0 ∨ op = 1 ∨ op = 2 ∨ op = 3) with rfl | rfl | rfl | rfl
  · refine zg_tableIn (off := 28) (tgt := 36) (zd_t dmU_combineResidues 5 rfl) (by decide) (by decide) (by decide) (by decide) ?_
    refine zg_iload_n (zd_t dmU_combineResidues 6 rfl) rfl ?_
    refine zg_iload (zd_t dmU_combineResidues 7 rfl) rfl ?_
    refine zg_iadd (zd_t dmU_combineResidues 8 rfl) ?_
    refine zg_iload (zd_t dmU_combineResidues 9 rfl) rfl ?_
    refine zg_irem (zd_t dmU_combineResidues 10 rfl) hmz ?_
    rw [nI_add, pk_rem (by omega) hm.2 (by omega)]
    exact zg_iret (zd_t dmU_combineResidues 11 rfl) rfl rfl
  · refine zg_tableIn (off := 36) (tgt := 44) (zd_t dmU_combineResidues 5 rfl) (by decide) (by decide) (by decide) (by decide) ?_
    refine zg_iload_n (zd_t dmU_combineResidues 12 rfl) rfl ?_
    refine zg_iload (zd_t dmU_combineResidues 13 rfl) rfl ?_
    refine zg_iadd (zd_t dmU_combineResidues 14 rfl) ?_
    refine zg_iload (zd_t dmU_combineResidues 15 rfl) rfl ?_
    refine zg_isub (zd_t dmU_combineResidues 16 rfl) ?_
    refine zg_iload (zd_t dmU_combineResidues 17 rfl) rfl ?_
    refine zg_irem (zd_t dmU_combineResidues 18 rfl) hmz ?_
    rw [nI_add, pk_sub (by omega), pk_rem (by omega) hm.2 (by omega)]
    exact zg_iret (zd_t dmU_combineResidues 19 rfl) rfl rfl
  · refine zg_tableIn (off := 47) (tgt := 55) (zd_t dmU_combineResidues 5 rfl) (by decide) (by decide) (by decide) (by decide) ?_
    refine zg_iload_n (zd_t dmU_combineResidues 20 rfl) rfl ?_
    refine zg_iload (zd_t dmU_combineResidues 21 rfl) rfl ?_
    refine zg_imul (zd_t dmU_combineResidues 22 rfl) ?_
    refine zg_iload (zd_t dmU_combineResidues 23 rfl) rfl ?_
    refine zg_irem (zd_t dmU_combineResidues 24 rfl) hmz ?_
    rw [pk_mul, pk_rem (by omega) hm.2 (by omega)]
    exact zg_iret (zd_t dmU_combineResidues 25 rfl) rfl rfl
  · refine zg_tableOut (tgt := 63) (zd_t dmU_combineResidues 5 rfl) (by decide) (by decide) ?_
    refine zg_iload_n (zd_t dmU_combineResidues 26 rfl) rfl ?_
    refine zg_iload_n (zd_t dmU_combineResidues 27 rfl) rfl ?_
    refine zg_iload (zd_t dmU_combineResidues 28 rfl) rfl ?_
    refine zg_imul (zd_t dmU_combineResidues 29 rfl) ?_
    refine zg_iadd (zd_t dmU_combineResidues 30 rfl) ?_
    refine zg_iload (zd_t dmU_combineResidues 31 rfl) rfl ?_
    refine zg_irem (zd_t dmU_combineResidues 32 rfl) hmz ?_
    rw [pk_mul, nI_add, pk_rem (by omega) hm.2 (by omega)]
    exact zg_iret (zd_t dmU_combineResidues 33 rfl) rfl rfl
end ZM5
