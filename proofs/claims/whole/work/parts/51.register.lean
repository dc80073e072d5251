theorem mz_inc (k : Nat) : nI k + Int32.ofInt 1 = nI (k + 1) := nI_1 k
theorem zs_nb (b : Bool) : narrow .boolean (.int (zs_bi b)) = .int (zs_bi b) := by cases b <;> rfl
theorem zs_bi_ne (b : Bool) : zs_bi b = 0 ↔ b = false := by cases b <;> decide
def zs_pk (S : zs_S) (i : Nat) (v : Int) (k : Nat) : zs_S := (S.1, S.2.1, fun j t => if j = i ∧ t < k then (v % (mz_m t : Int)).toNat else zs_re S j t, zs_ex S, zs_su S, zs_pg S)
def zs_sput (S : zs_S) (i : Nat) (v : Int) : zs_S := zs_ssu (zs_sex (zs_pk S i v 8) i v) i true
theorem zs_pk_0 (S : zs_S) (i : Nat) (v : Int) : zs_pk S i v 0 = S := by
  unfold zs_pk
  simp
theorem zs_pk_s (S : zs_S) (i : Nat) (v : Int) (k : Nat) : zs_sre (zs_pk S i v k) i k (v % (mz_m k : Int)).toNat = zs_pk S i v (k + 1) := by
  unfold zs_sre zs_pk zs_u2 zs_re
  congr 3
  funext j t
  by_cases h1 : j = i ∧ t = k
  · rw [if_pos h1, if_pos ⟨h1.1, by omega⟩, h1.2]
  · rw [if_neg h1]
    by_cases h2 : j = i ∧ t < k
    · simp only [if_pos h2]
      rw [if_pos ⟨h2.1, by omega⟩]
    · simp only [if_neg h2]
      rw [if_neg (fun h => h2 ⟨h.1, by have := h.2; have : t ≠ k := fun e => h1 ⟨h.1, e⟩; omega⟩)]
section ZM2
variable {l : Launch} {P : zs_P} {d : Nat} {S : zs_S} {S2 : zs_S2} {th : Int32} {o : Int64} {w : Nat × Nat} {i : Nat}
theorem zr_put_lp {v : Int} (hi : i < 16) (hv : mz_in v) : ∀ (n k : Nat), k + n = 8 → zg_G l (zs_E P) (d + 2) mR_put 2 [(3, .int (nI k)), (0, .ref (zp_B P + 3 + 2 * i)), (1, .long (mz_L v))] [] (zs_σ P (zs_pk S i v k) th S2 o w) (.inl none, zs_σ P (zs_sput S i v) th S2 o w) := by
  intro n
  induction n with
  | zero =>
    intro k hk
    have hk : k = 8 := by omega
    subst hk
    refine zg_iload_n (zd_t dmR_put 2 rfl) rfl ?_
    refine zg_bipush (v := (nI 8)) (zd_t dmR_put 3 rfl) (by decide) ?_
    refine zg_icmp_ge (tgt := 25) (zd_t dmR_put 4 rfl) (by decide) (fun _ => ?_) (fun h => absurd (by decide) h)
    refine zg_aload_n (zd_t dmR_put 14 rfl) rfl ?_
    refine zg_lload_n (zd_t dmR_put 15 rfl) rfl ?_
    refine zg_putf (zd_t dmR_put 16 rfl) zf_R_15 zt_1_1 (zs_reg hi) (Nat.le_of_ble_eq_true rfl) rfl rfl (zs_up_ex hi) ?_
    refine zg_aload_n (zd_t dmR_put 17 rfl) rfl ?_
    refine zg_iconst (v := (nI 1)) (zd_t dmR_put 18 rfl) (by decide) ?_
    refine zg_putf (zd_t dmR_put 19 rfl) zf_R_19 zt_1_2 (zs_reg hi) (Nat.le_of_ble_eq_true rfl) rfl rfl (zs_up_su (b := true) hi) ?_
    exact zg_vret (zd_t dmR_put 20 rfl) rfl rfl
  | succ n ih =>
    intro k hk
    refine zg_iload_n (zd_t dmR_put 2 rfl) rfl ?_
    refine zg_bipush (v := (nI 8)) (zd_t dmR_put 3 rfl) (by decide) ?_
    refine zg_icmp_ge (tgt := 25) (zd_t dmR_put 4 rfl) (by decide) (fun h => absurd ((nI_leI (by decide) (by omega)).mp h) (by omega)) (fun _ => ?_)
    refine zg_aload_n (zd_t dmR_put 5 rfl) rfl ?_
    refine zg_getf (zd_t dmR_put 6 rfl) zf_R_9 (zs_reg hi) rfl ?_
    refine zg_iload_n (zd_t dmR_put 7 rfl) rfl ?_
    refine zg_lload_n (zd_t dmR_put 8 rfl) rfl ?_
    refine zg_iload_n (zd_t dmR_put 9 rfl) rfl ?_
    refine zg_callS (zd_t dmR_put 10 rfl) zl_R_23 zm_mU_residueOf zst_mU_residueOf (av := [.long (mz_L v), .int (nI k)]) (rest := [.int (nI k), .ref (zp_B P + 4 + 2 * i)]) rfl rfl (Nat.le_of_ble_eq_true rfl) (zu_residueOf hv (by omega)) ?_
    refine zg_iast (t0 := 0) (zd_t dmR_put 11 rfl) (zs_res hi) rfl rfl (show k < 8 by omega) (by decide) ((zs_up_res hi).trans (by rw [zs_pk_s])) ?_
    refine zg_iinc (lv2 := [(3, .int (nI (k + 1))), (0, .ref (zp_B P + 3 + 2 * i)), (1, .long (mz_L v))]) (zd_t dmR_put 12 rfl) rfl (mz_inc k) (by decide) rfl ?_
    refine zg_goto (tgt := 2) (zd_t dmR_put 13 rfl) (by decide) ?_
    exact ih (k + 1) (by omega)
theorem zr_put {v : Int} (hi : i < 16) (hv : mz_in v) : zg_C l (zs_E P) (d + 2) mR_put [.ref (zp_B P + 3 + 2 * i), .long (mz_L v)] (zs_σ P S th S2 o w) (.inl none, zs_σ P (zs_sput S i v) th S2 o w) := by
  refine zg_C_of (by decide +kernel) (Nat.le_of_ble_eq_true rfl) ?_
  refine zg_iconst (v := (nI 0)) (zd_t dmR_put 0 rfl) (by decide) ?_
  refine zg_istore_n (zd_t dmR_put 1 rfl) (by decide) rfl ?_
  have h := zr_put_lp (l := l) (P := P) (d := d) (S := S) (S2 := S2) (th := th) (o := o) (w := w) hi hv 8 0 rfl
  rw [zs_pk_0] at h
  exact h
theorem mz_sum_le {ρ : Nat → Nat} (h : ∀ j, j < 6 → ρ j ≤ 256) : ∀ k, k ≤ 6 → mz_sum ρ k ≤ k * 50000000000000000 := by
  intro k
  induction k with
  | zero => intro _; exact Nat.le_refl _
  | succ k ih =>
    intro hk
    have h1 := ih (by omega)
    have h2 := h k (by omega)
    have h3 : mz_w k ≤ 175000000000000 := by
      unfold mz_w
      split <;> decide
    have h4 := Nat.mul_le_mul h2 h3
    show mz_sum ρ k + ρ k * mz_w k ≤ _
    omega
theorem mz_ok_le {ρ : Nat → Nat} (h : mz_ok ρ) : ∀ j, j < 6 → ρ j ≤ 256 := fun j hj => by
  have h1 := h j (by omega)
  have h2 := (mz_m_lt j).1
  omega
theorem zr_value_lp (hi : i < 16) (hok : mz_ok (zs_re S i)) : ∀ (n k : Nat), k + n = 6 → zg_G l (zs_E P) d mR_value 4 [(3, .int (nI k)), (1, .long (mz_L (mz_sum (zs_re S i) k : Int))), (0, .ref (zp_B P + 3 + 2 * i))] [] (zs_σ P S th S2 o w) (.inl (some (.long (mz_L (mz_val (zs_re S i))))), zs_σ P S th S2 o w) := by
  have hsum : ∀ k, k ≤ 6 → mz_in (mz_sum (zs_re S i) k : Int) := fun k hk => by
    have := mz_sum_le (mz_ok_le hok) k hk
    unfold mz_in
    omega
  intro n
  induction n with
  | zero =>
    intro k hk
    have hk : k = 6 := by omega
    subst hk
    have hM : mz_in 175107974924611 := by unfold mz_in; omega
    have hH : mz_in 87553987462305 := by unfold mz_in; omega
    refine zg_iload_n (zd_t dmR_value 4 rfl) rfl ?_
    refine zg_bipush (v := (nI 6)) (zd_t dmR_value 5 rfl) (by decide) ?_
    refine zg_icmp_ge (tgt := 32) (zd_t dmR_value 6 rfl) (by decide) (fun _ => ?_) (fun h => absurd (by decide) h)
    refine zg_lload_n (zd_t dmR_value 21 rfl) rfl ?_
    refine zg_ldc2 (zd_t dmR_value 22 rfl) zc_R_58 ?_
    refine zg_lrem (zd_t dmR_value 23 rfl) (by decide) ?_
    rw [mz_rem (hsum 6 (by omega)) hM, Int.tmod_eq_emod_of_nonneg (by omega)]
    obtain ⟨q, hq⟩ : ∃ q : Nat, q = mz_sum (zs_re S i) 6 % 175107974924611 := ⟨_, rfl⟩
    have hq2 : (mz_sum (zs_re S i) 6 : Int) % 175107974924611 = (q : Int) := by omega
    have hq3 : q < 175107974924611 := by omega
    have hqi : mz_in (q : Int) := by unfold mz_in; omega
    rw [hq2]
    have hval : mz_val (zs_re S i) = if (q : Int) > 87553987462305 then (q : Int) - 175107974924611 else (q : Int) := by rw [mz_val_sum, hq]
    refine zg_lstore_n (zd_t dmR_value 24 rfl) (by decide) rfl ?_
    refine zg_lload_n (zd_t dmR_value 25 rfl) rfl ?_
    refine zg_ldc2 (zd_t dmR_value 26 rfl) zc_R_60 ?_
    refine zg_lcmp (zd_t dmR_value 27 rfl) ?_
    rw [mz_cmp hqi hH]
    refine zg_if_le (tgt := 54) (zd_t dmR_value 28 rfl) (by decide) (fun h => ?_) (fun h => ?_)
    · refine zg_lload_n (zd_t dmR_value 33 rfl) rfl ?_
      refine zg_lret (zd_t dmR_value 34 rfl) rfl ?_
      rw [hval, if_neg]
      intro h2
      rw [if_pos h2] at h
      exact absurd h (by decide)
    · refine zg_lload_n (zd_t dmR_value 29 rfl) rfl ?_
      refine zg_ldc2 (zd_t dmR_value 30 rfl) zc_R_58 ?_
      refine zg_lsub (zd_t dmR_value 31 rfl) ?_
      refine zg_goto (tgt := 55) (zd_t dmR_value 32 rfl) (by decide) ?_
      refine zg_lret (zd_t dmR_value 34 rfl) rfl ?_
      rw [hval, if_pos, mz_sub]
      apply Classical.byContradiction
      intro h2
      rw [if_neg h2] at h
      by_cases h3 : (q : Int) = 87553987462305
      · rw [if_pos h3] at h; exact absurd (by decide) h
      · rw [if_neg h3] at h; exact absurd (by decide) h
  | succ n ih =>
    intro k hk
    refine zg_iload_n (zd_t dmR_value 4 rfl) rfl ?_
    refine zg_bipush (v := (nI 6)) (zd_t dmR_value 5 rfl) (by decide) ?_
    refine zg_icmp_ge (tgt := 32) (zd_t dmR_value 6 rfl) (by decide) (fun h => absurd ((nI_leI (by decide) (by omega)).mp h) (by omega)) (fun _ => ?_)
    refine zg_lload_n (zd_t dmR_value 7 rfl) rfl ?_
    refine zg_aload_n (zd_t dmR_value 8 rfl) rfl ?_
    refine zg_getf (zd_t dmR_value 9 rfl) zf_R_9 (zs_reg hi) rfl ?_
    refine zg_iload_n (zd_t dmR_value 10 rfl) rfl ?_
    refine zg_iald (t0 := 0) (zd_t dmR_value 11 rfl) (zs_res hi) rfl rfl (show k < 8 by omega) (by decide) ?_
    refine zg_i2l (zd_t dmR_value 12 rfl) rfl ?_
    rw [mz_i2l (show zs_re S i k < 2 ^ 31 by have := mz_ok_le hok k (by omega); omega)]
    refine zg_getsN (zd_t dmR_value 13 rfl) zs_xW zg_R_54 ?_
    refine zg_iload_n (zd_t dmR_value 14 rfl) rfl ?_
    refine zg_tl (zd_t dmR_value 15 rfl) zs_yW rfl (show k < 6 by omega) (by decide) rfl ?_
    refine zg_lmul (zd_t dmR_value 16 rfl) ?_
    refine zg_ladd (zd_t dmR_value 17 rfl) ?_
    rw [mz_mul, mz_add, show (mz_sum (zs_re S i) k : Int) + (zs_re S i k : Int) * (mz_w k : Int) = ((mz_sum (zs_re S i) (k + 1) : Nat) : Int) by rw [show mz_sum (zs_re S i) (k + 1) = mz_sum (zs_re S i) k + zs_re S i k * mz_w k from rfl]; omega]
    refine zg_lstore_n (zd_t dmR_value 18 rfl) (by decide) rfl ?_
    refine zg_iinc (lv2 := [(3, .int (nI (k + 1))), (1, .long (mz_L (mz_sum (zs_re S i) (k + 1) : Int))), (0, .ref (zp_B P + 3 + 2 * i))]) (zd_t dmR_value 19 rfl) rfl (mz_inc k) (by decide) rfl ?_
    refine zg_goto (tgt := 4) (zd_t dmR_value 20 rfl) (by decide) ?_
    exact ih (k + 1) (by omega)
theorem zr_value (hi : i < 16) (hok : mz_ok (zs_re S i)) : zg_C l (zs_E P) d mR_value [.ref (zp_B P + 3 + 2 * i)] (zs_σ P S th S2 o w) (.inl (some (.long (mz_L (mz_val (zs_re S i))))), zs_σ P S th S2 o w) := by
  refine zg_C_of (by decide +kernel) (Nat.le_of_ble_eq_true rfl) ?_
  refine zg_lconst (v := mz_L 0) (zd_t dmR_value 0 rfl) (by decide) ?_
  refine zg_lstore_n (zd_t dmR_value 1 rfl) (by decide) rfl ?_
  refine zg_iconst (v := (nI 0)) (zd_t dmR_value 2 rfl) (by decide) ?_
  refine zg_istore_n (zd_t dmR_value 3 rfl) (by decide) rfl ?_
  exact zr_value_lp hi hok 6 0 rfl
theorem zr_fits_lp {n : Int} {sk : Int32} {s : Nat} (hi : i < 16) (hok : mz_ok (zs_re S i)) (hn : mz_in n) (hs : ∀ k, k < 8 → (nI k = sk ↔ k = s)) : ∀ (m k : Nat), k + m = 8 → (∀ j, j < k → j ≠ s → n % (mz_m j : Int) = (zs_re S i j : Int)) →
    zg_G l (zs_E P) (d + 2) mR_fits 3 [(4, .int (nI k)), (0, .ref (zp_B P + 3 + 2 * i)), (1, .long (mz_L n)), (3, .int sk)] [] (zs_σ P S th S2 o w) (.inl (some (.int (zs_bi (decide (mz_fit (zs_re S i) n s))))), zs_σ P S th S2 o w) := by
  intro m
  induction m with
  | zero =>
    intro k hk hall
    have hk : k = 8 := by omega
    subst hk
    refine zg_iload (zd_t dmR_fits 2 rfl) rfl ?_
    refine zg_bipush (v := (nI 8)) (zd_t dmR_fits 3 rfl) (by decide) ?_
    refine zg_icmp_ge (tgt := 40) (zd_t dmR_fits 4 rfl) (by decide) (fun _ => ?_) (fun h => absurd (by decide) h)
    refine zg_lload_n (zd_t dmR_fits 20 rfl) rfl ?_
    refine zg_callS (zd_t dmR_fits 21 rfl) zl_R_41 zm_mU_inRange zst_mU_inRange (av := [.long (mz_L n)]) (rest := []) rfl rfl (Nat.le_of_ble_eq_true rfl) (zu_inRange hn.w) ?_
    refine zg_zret (zd_t dmR_fits 22 rfl) rfl (zs_nb _) ?_
    have e : decide (mz_fit (zs_re S i) n s) = decide (-87553987462305 ≤ n ∧ n ≤ 87553987462305) := decide_eq_decide.mpr ⟨fun h => h.2, fun h => ⟨hall, h⟩⟩
    rw [e]
  | succ m ih =>
    intro k hk hall
    have next : (k ≠ s → n % (mz_m k : Int) = (zs_re S i k : Int)) → zg_G l (zs_E P) (d + 2) mR_fits 34 [(4, .int (nI k)), (0, .ref (zp_B P + 3 + 2 * i)), (1, .long (mz_L n)), (3, .int sk)] [] (zs_σ P S th S2 o w) (.inl (some (.int (zs_bi (decide (mz_fit (zs_re S i) n s))))), zs_σ P S th S2 o w) := by
      intro hk2
      refine zg_iinc (lv2 := [(4, .int (nI (k + 1))), (0, .ref (zp_B P + 3 + 2 * i)), (1, .long (mz_L n)), (3, .int sk)]) (zd_t dmR_fits 18 rfl) rfl (mz_inc k) (by decide) rfl ?_
      refine zg_goto (tgt := 3) (zd_t dmR_fits 19 rfl) (by decide) ?_
      exact ih (k + 1) (by omega) (fun j hj hne => by
        by_cases h : j = k
        · subst h; exact hk2 hne
        · exact hall j (by omega) hne)
    refine zg_iload (zd_t dmR_fits 2 rfl) rfl ?_
    refine zg_bipush (v := (nI 8)) (zd_t dmR_fits 3 rfl) (by decide) ?_
    refine zg_icmp_ge (tgt := 40) (zd_t dmR_fits 4 rfl) (by decide) (fun h => absurd ((nI_leI (by decide) (by omega)).mp h) (by omega)) (fun _ => ?_)
    refine zg_iload (zd_t dmR_fits 5 rfl) rfl ?_
    refine zg_iload_n (zd_t dmR_fits 6 rfl) rfl ?_
    refine zg_icmp_eq (tgt := 34) (zd_t dmR_fits 7 rfl) (by decide) (fun h => next (fun h2 => absurd ((hs k (by omega)).mp h) h2)) (fun h => ?_)
    have hks : k ≠ s := fun h2 => h ((hs k (by omega)).mpr h2)
    refine zg_lload_n (zd_t dmR_fits 8 rfl) rfl ?_
    refine zg_iload (zd_t dmR_fits 9 rfl) rfl ?_
    refine zg_callS (zd_t dmR_fits 10 rfl) zl_R_23 zm_mU_residueOf zst_mU_residueOf (av := [.long (mz_L n), .int (nI k)]) (rest := []) rfl rfl (Nat.le_of_ble_eq_true rfl) (zu_residueOf hn (by omega)) ?_
    refine zg_aload_n (zd_t dmR_fits 11 rfl) rfl ?_
    refine zg_getf (zd_t dmR_fits 12 rfl) zf_R_9 (zs_reg hi) rfl ?_
    refine zg_iload (zd_t dmR_fits 13 rfl) rfl ?_
    refine zg_iald (t0 := 0) (zd_t dmR_fits 14 rfl) (zs_res hi) rfl rfl (show k < 8 by omega) (by decide) ?_
    have hm := mz_m_lt k
    have h1 := Int.emod_nonneg n (show (mz_m k : Int) ≠ 0 by omega)
    have h2 := Int.emod_lt_of_pos n (show 0 < (mz_m k : Int) by omega)
    have h3 := hok k (by omega)
    refine zg_icmp_eq (tgt := 34) (zd_t dmR_fits 15 rfl) (by decide) (fun h => next (fun _ => ?_)) (fun h => ?_)
    · rw [nI_eq (by omega) (by omega)] at h
      omega
    · refine zg_iconst (v := (nI 0)) (zd_t dmR_fits 16 rfl) (by decide) ?_
      refine zg_zret (zd_t dmR_fits 17 rfl) rfl rfl ?_
      rw [decide_eq_false]
      · rfl
      · intro hf
        refine h ?_
        rw [nI_eq (by omega) (by omega)]
        have := hf.1 k (by omega) hks
        omega
theorem zr_fits {n : Int} {sk : Int32} {s : Nat} (hi : i < 16) (hok : mz_ok (zs_re S i)) (hn : mz_in n) (hs : ∀ k, k < 8 → (nI k = sk ↔ k = s)) :
    zg_C l (zs_E P) (d + 2) mR_fits [.ref (zp_B P + 3 + 2 * i), .long (mz_L n), .int sk] (zs_σ P S th S2 o w) (.inl (some (.int (zs_bi (decide (mz_fit (zs_re S i) n s))))), zs_σ P S th S2 o w) := by
  refine zg_C_of (by decide +kernel) (Nat.le_of_ble_eq_true rfl) ?_
  refine zg_iconst (v := (nI 0)) (zd_t dmR_fits 0 rfl) (by decide) ?_
  refine zg_istore (zd_t dmR_fits 1 rfl) (by decide) rfl ?_
  exact zr_fits_lp hi hok hn hs 8 0 rfl (fun j hj => absurd hj (by omega))
theorem mz_val_in (ρ : Nat → Nat) : mz_in (mz_val ρ) := by
  have h := mz_V_in (ρ 0) (ρ 1) (ρ 2) (ρ 3) (ρ 4) (ρ 5)
  show mz_in (mz_V (ρ 0) (ρ 1) (ρ 2) (ρ 3) (ρ 4) (ρ 5))
  unfold mz_in
  omega
theorem zs_cl1 : (zg_cl (zs_E P))[1]? = some ("ResidueUnit$Register", zs_TR, 3) := rfl
theorem zr_isGood (hi : i < 16) (hok : mz_ok (zs_re S i)) : zg_C l (zs_E P) (d + 3) mR_isGood [.ref (zp_B P + 3 + 2 * i)] (zs_σ P S th S2 o w) (.inl (some (.int (zs_bi (decide (mz_good (zs_re S i)))))), zs_σ P S th S2 o w) := by
  refine zg_C_of (by decide +kernel) (Nat.le_of_ble_eq_true rfl) ?_
  refine zg_aload_n (zd_t dmR_isGood 0 rfl) rfl ?_
  refine zg_aload_n (zd_t dmR_isGood 1 rfl) rfl ?_
  refine zg_callV (zd_t dmR_isGood 2 rfl) zl_R_62 zm_mR_value zi_mR_value zse_mR_value (zs_reg hi) zs_cl1 rfl (av := []) (rest := [.ref (zp_B P + 3 + 2 * i)]) rfl rfl (Nat.le_of_ble_eq_true rfl) (zr_value hi hok) ?_
  refine zg_iconst (v := (-1)) (zd_t dmR_isGood 3 rfl) (by decide) ?_
  refine zg_callV (zd_t dmR_isGood 4 rfl) zl_R_66 zm_mR_fits zi_mR_fits zse_mR_fits (zs_reg hi) zs_cl1 rfl (av := [.long (mz_L (mz_val (zs_re S i))), .int (-1)]) (rest := []) rfl rfl (Nat.le_of_ble_eq_true rfl) (zr_fits (s := 8) hi hok (mz_val_in _) (fun k hk => ⟨fun h => ?_, fun h => absurd h (by omega)⟩)) ?_
  · exfalso
    have h2 : (nI k).toInt = (-1 : Int32).toInt := by rw [h]
    rw [nI_toInt (by omega)] at h2
    have h3 : ((-1 : Int32).toInt) = -1 := by decide
    omega
  · refine zg_zret (zd_t dmR_isGood 5 rfl) rfl (zs_nb _) ?_
    have e : decide (mz_fit (zs_re S i) (mz_val (zs_re S i)) 8) = decide (mz_good (zs_re S i)) := decide_eq_decide.mpr ((mz_fit_val hok 8 (by decide)).trans ⟨fun h => ⟨h.1 (by decide), h.2 (by decide)⟩, fun h => ⟨fun _ => h.1, fun _ => h.2⟩⟩)
    rw [e]
end ZM2
