theorem zs_stw {T : zs_S} {n x y z : Nat} {a b c : Int32} (h : 1 ≤ n ∧ n < 5) (hx : x < 16) (hy : y < 16) (hz : z < 16) (ex : a = nI x) (ey : b = nI y) (ez : c = nI z) : zs_stn T n a b c = zs_scmb T (n - 1) x y z := by
  unfold zs_stn
  rw [if_neg (by omega), if_neg (by omega), if_neg (by omega), if_neg (by omega), if_neg (by omega), if_pos h, ex, ey, ez, zs_n_nI (by omega), zs_n_nI (by omega), zs_n_nI (by omega)]
theorem zs_st5 {T : zs_S} {x y z : Nat} {a b c : Int32} (hx : x < 16) (hy : y < 16) (hz : z < 64) (ex : a = nI x) (ey : b = nI y) (ez : c = nI z) : zs_stn T 5 a b c = zs_ssc T x y z false := by
  unfold zs_stn
  rw [if_neg (by omega), if_neg (by omega), if_pos rfl, ex, ey, ez, zs_n_nI (by omega), zs_n_nI (by omega), zs_n_nI (by omega)]
theorem zs_st6 {T : zs_S} {x y : Nat} {a b c : Int32} (hx : x < 16) (hy : y < 16) (ex : a = nI x) (ey : b = nI y) : zs_stn T 6 a b c = zs_scp T x y := by
  unfold zs_stn
  rw [if_neg (by omega), if_neg (by omega), if_neg (by omega), if_pos rfl, ex, ey, zs_n_nI (by omega), zs_n_nI (by omega)]
theorem zs_st11 {T : zs_S} {x : Nat} {a b c : Int32} (hx : x < 16) (ex : a = nI x) : zs_stn T 11 a b c = zs_sput T x b.toInt := by
  unfold zs_stn
  rw [if_neg (by omega), if_neg (by omega), if_neg (by omega), if_neg (by omega), if_pos rfl, ex, zs_n_nI (by omega)]
theorem zs_rs3 {j : Nat} (h : j < 32) : zs_rs (nI j) = 3 := by
  unfold zs_rs
  rw [if_neg (fun h2 => by
    have h3 := congrArg Int32.toInt h2
    rw [nI_toInt (by omega)] at h3
    have h4 : ((-1 : Int32).toInt) = -1 := by decide
    omega), if_pos (zs_rgi h)]
theorem zs_rn_out (n : Nat) (T : zs_S) {j : Int32} (h : ¬ zs_ii j) : zs_rn (n + 1) T j = (0, j, T) := by
  unfold zs_rn
  rw [if_neg h]
theorem zs_rn_in (n : Nat) (T : zs_S) {j : Nat} (h : j < 32) : zs_rn (n + 1) T (nI j) = ((zs_rn n (zs_st T j) (zs_nx T j)).1 + 1, (zs_rn n (zs_st T j) (zs_nx T j)).2) := by
  have e : zs_n (nI j) = j := zs_n_nI (by omega)
  conv => lhs; unfold zs_rn
  rw [if_pos (zs_rgi h), e]
theorem zs_rn_stop : ∀ (n : Nat) (T : zs_S), zs_rn n T (-1) = (0, -1, T)
  | 0, _ => rfl
  | n + 1, T => zs_rn_out n T (by decide)
theorem zs_st_0 {T : zs_S} {j : Nat} (h : zs_pg T j 0 = 0) (_ : Nat) : zs_st T j = T := by
  unfold zs_st
  rw [h, show zs_n 0 = 0 from rfl]
  exact zs_st0 T _ _ _ (by omega)
theorem zs_nx_0 {T : zs_S} {j : Nat} (h : zs_pg T j 0 = 0) : zs_nx T j = -1 := by
  unfold zs_nx
  rw [h, show zs_n 0 = 0 from rfl]
  exact zs_nx0 T j _ _
theorem zs_nx_le {T : zs_S} {j : Nat} (hI : zs_inv T) (hj : j < 32) (h0 : zs_pg T j 0 ≠ 0) : ∃ j2, j2 ≤ 32 ∧ zs_nx T j = nI j2 := by
  obtain ⟨n, hn, ek, hal⟩ := zs_alw_k (hI.2.2 j hj)
  have e2 : zs_nx T j = zs_nxn T j n (zs_pg T j 1) (zs_pg T j 2) := by unfold zs_nx; rw [ek, zs_n_nI (by omega)]
  have hn0 : n ≠ 0 := fun h => h0 (by rw [ek, h]; rfl)
  rw [e2]
  by_cases h1 : (1 ≤ n ∧ n < 7) ∨ n = 9 ∨ n = 11
  · exact ⟨j + 1, by omega, zs_nx1 T j _ _ h1⟩
  · rcases (by omega : n = 7 ∨ n = 8 ∨ n = 10) with rfl | rfl | rfl
    · obtain ⟨x, hx, ex⟩ := zs_iiN (zs_al_7 hal)
      exact ⟨x, by omega, (zs_nx7 T j _ _).trans ex⟩
    · obtain ⟨x, hx, ex⟩ := zs_irN (zs_al_8 hal).1
      obtain ⟨y, hy, ey⟩ := zs_iiN (zs_al_8 hal).2
      rw [ex, ey, zs_nx8 T j _ hx]
      by_cases hv : mz_val (zs_re T x) < 0
      · exact ⟨y, by omega, if_pos hv⟩
      · exact ⟨j + 1, by omega, if_neg hv⟩
    · obtain ⟨x, hx, ex⟩ := zs_iiN (zs_al_10 hal)
      rw [ex, zs_nx10]
      by_cases hv : zs_cn T - nI 1 = 0
      · exact ⟨j + 1, by omega, if_pos hv⟩
      · exact ⟨x, by omega, if_neg hv⟩
theorem zs_sr_stn (T : zs_S) (n : Nat) (a b c : Int32) : zs_sr (zs_stn T n a b c) = zs_sr T := by
  unfold zs_stn
  split
  · rfl
  · split
    · rfl
    · split
      · rfl
      · split
        · rfl
        · split
          · rfl
          · split <;> rfl
theorem zs_sr_st (T : zs_S) (j : Nat) : zs_sr (zs_st T j) = zs_sr T := zs_sr_stn T _ _ _ _
/-- the reason that stood before does not count -/
theorem zs_stn_ssr (T : zs_S) (z : Int32) (n : Nat) (a b c : Int32) : zs_stn (zs_ssr T z) n a b c = zs_ssr (zs_stn T n a b c) z := by
  unfold zs_stn
  split
  · rfl
  · split
    · rfl
    · split
      · rfl
      · split
        · rfl
        · split
          · rfl
          · split <;> rfl
theorem zs_st_ssr (T : zs_S) (z : Int32) (j : Nat) : zs_st (zs_ssr T z) j = zs_ssr (zs_st T j) z := zs_stn_ssr T z _ _ _ _
theorem zs_nx_ssr (T : zs_S) (z : Int32) (j : Nat) : zs_nx (zs_ssr T z) j = zs_nx T j := rfl
theorem zs_rn_ssr0 (z : Int32) : ∀ (n : Nat) (T : zs_S) (j : Int32), zs_rn n (zs_ssr T z) j = ((zs_rn n T j).1, (zs_rn n T j).2.1, zs_ssr (zs_rn n T j).2.2 z)
  | 0, _, _ => rfl
  | n + 1, T, j => by
    by_cases h : zs_ii j
    · have e := zs_rn_ssr0 z n (zs_st T (zs_n j)) (zs_nx T (zs_n j))
      conv => lhs; unfold zs_rn
      conv => rhs; unfold zs_rn
      rw [if_pos h, if_pos h, zs_st_ssr, zs_nx_ssr, e]
    · rw [zs_rn_out n _ h, zs_rn_out n _ h]
theorem zs_ssr_ssr (T : zs_S) (y z : Int32) : zs_ssr (zs_ssr T y) z = zs_ssr T z := rfl
theorem zs_rn_ssr (f : Nat) (T : zs_S) (z : Int32) : (zs_rn f (zs_ssr T z) (nI 0)).1 = (zs_rn f T (nI 0)).1 := by rw [zs_rn_ssr0]
section ZM18
variable {l : Launch} {P : zs_P} {d : Nat} {S : zs_S} {T : zs_S} {th : Int32} {o : Int64} {w : Nat × Nat} {e a b i k : Nat}
theorem zm_pf_5 {x y z : Nat} (hx : x < 16) (hy : y < 16) (hz : z < 64) (hp : mz_pop z ≤ 4) (ex : zs_pg T i 1 = nI x) (ey : zs_pg T i 2 = nI y) (ez : zs_pg T i 3 = nI z) (hI : zs_inv T) : zg_G l (zs_E P) (d + 3) mM_perform 84 [(4, .int (zs_pg T i 3)), (3, .int (zs_pg T i 2)), (2, .int (zs_pg T i 1)), (0, .ref (zp_B P + 67)), (1, .int (nI i))] [] (zs_σ P S th (zs_b T) o w) (.inl (some (.int (nI (i + 1)))), zs_σ P S th (zs_b (zs_ssc T x y z false)) o w) := by
  rw [ex, ey, ez]
  refine zg_aload_n (zd_t dmM_perform 34 rfl) rfl ?_
  refine zg_iload_n (zd_t dmM_perform 35 rfl) rfl ?_
  refine zg_iload_n (zd_t dmM_perform 36 rfl) rfl ?_
  refine zg_iload (zd_t dmM_perform 37 rfl) rfl ?_
  refine zg_iconst (v := (nI 0)) (zd_t dmM_perform 38 rfl) (by decide) ?_
  refine zg_callV (zd_t dmM_perform 39 rfl) zl_M_118 zm_mM_scaleBy zi_mM_scaleBy zse_mM_scaleBy zs_m0 zs_cl3 rfl (av := _) (rest := _) (by rfl) (by rfl) (by exact Nat.le_of_ble_eq_true rfl) (zm_scaleBy (n := false) hx hy hz hp hI) ?_
  refine zg_goto (tgt := 186) (zd_t dmM_perform 40 rfl) (by decide) ?_
  refine zg_iload_n (zd_t dmM_perform 98 rfl) rfl ?_
  refine zg_iconst (v := (nI 1)) (zd_t dmM_perform 99 rfl) (by decide) ?_
  refine zg_iadd (zd_t dmM_perform 100 rfl) ?_
  rw [nI_add]
  exact zg_iret (zd_t dmM_perform 101 rfl) rfl rfl
theorem zm_pf_6 {x y : Nat} (hx : x < 16) (hy : y < 16) (ex : zs_pg T i 1 = nI x) (ey : zs_pg T i 2 = nI y) : zg_G l (zs_E P) (d + 3) mM_perform 96 [(4, .int (zs_pg T i 3)), (3, .int (zs_pg T i 2)), (2, .int (zs_pg T i 1)), (0, .ref (zp_B P + 67)), (1, .int (nI i))] [] (zs_σ P S th (zs_b T) o w) (.inl (some (.int (nI (i + 1)))), zs_σ P S th (zs_b (zs_scp T x y)) o w) := by
  rw [ex, ey]
  refine zg_aload_n (zd_t dmM_perform 41 rfl) rfl ?_
  refine zg_iload_n (zd_t dmM_perform 42 rfl) rfl ?_
  refine zg_iload_n (zd_t dmM_perform 43 rfl) rfl ?_
  refine zg_callV (zd_t dmM_perform 44 rfl) zl_M_146 zm_mM_copy zi_mM_copy zse_mM_copy zs_m0 zs_cl3 rfl (av := _) (rest := _) (by rfl) (by rfl) (by exact Nat.le_of_ble_eq_true rfl) (zm_copy hx hy) ?_
  refine zg_goto (tgt := 186) (zd_t dmM_perform 45 rfl) (by decide) ?_
  refine zg_iload_n (zd_t dmM_perform 98 rfl) rfl ?_
  refine zg_iconst (v := (nI 1)) (zd_t dmM_perform 99 rfl) (by decide) ?_
  refine zg_iadd (zd_t dmM_perform 100 rfl) ?_
  rw [nI_add]
  exact zg_iret (zd_t dmM_perform 101 rfl) rfl rfl
theorem zm_pf_7  : zg_G l (zs_E P) (d + 3) mM_perform 105 [(4, .int (zs_pg T i 3)), (3, .int (zs_pg T i 2)), (2, .int (zs_pg T i 1)), (0, .ref (zp_B P + 67)), (1, .int (nI i))] [] (zs_σ P S th (zs_b T) o w) (.inl (some (.int (zs_pg T i 1))), zs_σ P S th (zs_b (T)) o w) := by
  refine zg_iload_n (zd_t dmM_perform 46 rfl) rfl ?_
  exact zg_iret (zd_t dmM_perform 47 rfl) rfl rfl
theorem zm_pf_8 {x : Nat} (hx : x < 16) (ex : zs_pg T i 1 = nI x) (hI : zs_inv T) : zg_G l (zs_E P) (d + 3) mM_perform 107 [(4, .int (zs_pg T i 3)), (3, .int (zs_pg T i 2)), (2, .int (zs_pg T i 1)), (0, .ref (zp_B P + 67)), (1, .int (nI i))] [] (zs_σ P S th (zs_b T) o w) (.inl (some (.int (if mz_val (zs_re T x) < 0 then zs_pg T i 2 else nI (i + 1)))), zs_σ P S th (zs_b (T)) o w) := by
  have hv := mz_val_in (zs_re T x)
  have h0 : mz_in 0 := by unfold mz_in; omega
  rw [ex]
  refine zg_aload_n (zd_t dmM_perform 48 rfl) rfl ?_
  refine zg_iload_n (zd_t dmM_perform 49 rfl) rfl ?_
  refine zg_callV (zd_t dmM_perform 50 rfl) zl_M_60 zm_mM_valueOf zi_mM_valueOf zse_mM_valueOf zs_m0 zs_cl3 rfl (av := _) (rest := _) (by rfl) (by rfl) (by exact Nat.le_of_ble_eq_true rfl) (zm_valueOf hx (hI.1 x hx)) ?_
  refine zg_lconst (v := mz_L 0) (zd_t dmM_perform 51 rfl) (by decide) ?_
  refine zg_lcmp (zd_t dmM_perform 52 rfl) ?_
  refine zg_if_ge (tgt := 121) (zd_t dmM_perform 53 rfl) (by decide) (fun h1 => ?_) (fun h1 => ?_)
  · rw [lg_cmp_ge, mz_le h0 hv] at h1
    rw [if_neg (by omega)]
    refine zg_iload_n (zd_t dmM_perform 56 rfl) rfl ?_
    refine zg_iconst (v := (nI 1)) (zd_t dmM_perform 57 rfl) (by decide) ?_
    refine zg_iadd (zd_t dmM_perform 58 rfl) ?_
    rw [nI_add]
    exact zg_iret (zd_t dmM_perform 59 rfl) rfl rfl
  · rw [lg_cmp_ge, mz_le h0 hv] at h1
    rw [if_pos (by omega)]
    refine zg_iload_n (zd_t dmM_perform 54 rfl) rfl ?_
    refine zg_goto (tgt := 124) (zd_t dmM_perform 55 rfl) (by decide) ?_
    exact zg_iret (zd_t dmM_perform 59 rfl) rfl rfl
theorem zm_pf_9  : zg_G l (zs_E P) (d + 3) mM_perform 125 [(4, .int (zs_pg T i 3)), (3, .int (zs_pg T i 2)), (2, .int (zs_pg T i 1)), (0, .ref (zp_B P + 67)), (1, .int (nI i))] [] (zs_σ P S th (zs_b T) o w) (.inl (some (.int (nI (i + 1)))), zs_σ P S th (zs_b (zs_scn T (zs_pg T i 1))) o w) := by
  refine zg_aload_n (zd_t dmM_perform 60 rfl) rfl ?_
  refine zg_iload_n (zd_t dmM_perform 61 rfl) rfl ?_
  refine zg_putf (zd_t dmM_perform 62 rfl) zf_M_150 zt_3_10 zs_m0 (Nat.le_of_ble_eq_true rfl) rfl rfl zs_um_cn ?_
  refine zg_goto (tgt := 186) (zd_t dmM_perform 63 rfl) (by decide) ?_
  refine zg_iload_n (zd_t dmM_perform 98 rfl) rfl ?_
  refine zg_iconst (v := (nI 1)) (zd_t dmM_perform 99 rfl) (by decide) ?_
  refine zg_iadd (zd_t dmM_perform 100 rfl) ?_
  rw [nI_add]
  exact zg_iret (zd_t dmM_perform 101 rfl) rfl rfl
theorem zm_pf_10  : zg_G l (zs_E P) (d + 3) mM_perform 133 [(4, .int (zs_pg T i 3)), (3, .int (zs_pg T i 2)), (2, .int (zs_pg T i 1)), (0, .ref (zp_B P + 67)), (1, .int (nI i))] [] (zs_σ P S th (zs_b T) o w) (.inl (some (.int (if zs_cn T - nI 1 = 0 then nI (i + 1) else zs_pg T i 1))), zs_σ P S th (zs_b (zs_scn T (zs_cn T - nI 1))) o w) := by
  refine zg_aload_n (zd_t dmM_perform 64 rfl) rfl ?_
  refine zg_dup (zd_t dmM_perform 65 rfl) rfl ?_
  refine zg_getf (zd_t dmM_perform 66 rfl) zf_M_150 zs_m0 rfl ?_
  refine zg_iconst (v := (nI 1)) (zd_t dmM_perform 67 rfl) (by decide) ?_
  refine zg_isub (zd_t dmM_perform 68 rfl) ?_
  refine zg_putf (zd_t dmM_perform 69 rfl) zf_M_150 zt_3_10 zs_m0 (Nat.le_of_ble_eq_true rfl) rfl rfl zs_um_cn ?_
  refine zg_aload_n (zd_t dmM_perform 70 rfl) rfl ?_
  refine zg_getf (zd_t dmM_perform 71 rfl) zf_M_150 zs_m0 rfl ?_
  refine zg_if_eq (tgt := 154) (zd_t dmM_perform 72 rfl) (by decide) (fun h1 => ?_) (fun h1 => ?_)
  · have h1 : zs_cn T - nI 1 = 0 := h1
    rw [if_pos h1]
    refine zg_iload_n (zd_t dmM_perform 75 rfl) rfl ?_
    refine zg_iconst (v := (nI 1)) (zd_t dmM_perform 76 rfl) (by decide) ?_
    refine zg_iadd (zd_t dmM_perform 77 rfl) ?_
    rw [nI_add]
    exact zg_iret (zd_t dmM_perform 78 rfl) rfl rfl
  · have h1 : ¬ zs_cn T - nI 1 = 0 := h1
    rw [if_neg h1]
    refine zg_iload_n (zd_t dmM_perform 73 rfl) rfl ?_
    refine zg_goto (tgt := 157) (zd_t dmM_perform 74 rfl) (by decide) ?_
    exact zg_iret (zd_t dmM_perform 78 rfl) rfl rfl
theorem zm_pf_11 {x : Nat} (hx : x < 16) (ex : zs_pg T i 1 = nI x) (hb : -128 ≤ (zs_pg T i 2).toInt ∧ (zs_pg T i 2).toInt ≤ 127) : zg_G l (zs_E P) (d + 3) mM_perform 158 [(4, .int (zs_pg T i 3)), (3, .int (zs_pg T i 2)), (2, .int (zs_pg T i 1)), (0, .ref (zp_B P + 67)), (1, .int (nI i))] [] (zs_σ P S th (zs_b T) o w) (.inl (some (.int (nI (i + 1)))), zs_σ P S th (zs_b (zs_sput T x (zs_pg T i 2).toInt)) o w) := by
  rw [ex]
  refine zg_aload_n (zd_t dmM_perform 79 rfl) rfl ?_
  refine zg_iload_n (zd_t dmM_perform 80 rfl) rfl ?_
  refine zg_iload_n (zd_t dmM_perform 81 rfl) rfl ?_
  refine zg_i2l (zd_t dmM_perform 82 rfl) rfl ?_
  rw [zs_i2l]
  refine zg_callV (zd_t dmM_perform 83 rfl) zl_M_76 zm_mM_put zi_mM_put zse_mM_put zs_m0 zs_cl3 rfl (av := _) (rest := _) (by rfl) (by rfl) (by exact Nat.le_of_ble_eq_true rfl) (zm_put hx (by unfold mz_in; omega)) ?_
  refine zg_goto (tgt := 186) (zd_t dmM_perform 84 rfl) (by decide) ?_
  refine zg_iload_n (zd_t dmM_perform 98 rfl) rfl ?_
  refine zg_iconst (v := (nI 1)) (zd_t dmM_perform 99 rfl) (by decide) ?_
  refine zg_iadd (zd_t dmM_perform 100 rfl) ?_
  rw [nI_add]
  exact zg_iret (zd_t dmM_perform 101 rfl) rfl rfl
theorem zm_pf_w {n x y z : Nat} (hi : i < 32) (h1 : 1 ≤ n) (h5 : n < 5) (en : zs_pg T i 0 = nI n) (hx : x < 16) (hy : y < 16) (hz : z < 16) (ex : zs_pg T i 1 = nI x) (ey : zs_pg T i 2 = nI y) (ez : zs_pg T i 3 = nI z) (hI : zs_inv T) : zg_G l (zs_E P) (d + 3) mM_perform 168 [(4, .int (zs_pg T i 3)), (3, .int (zs_pg T i 2)), (2, .int (zs_pg T i 1)), (0, .ref (zp_B P + 67)), (1, .int (nI i))] [] (zs_σ P S th (zs_b T) o w) (.inl (some (.int (nI (i + 1)))), zs_σ P S th (zs_b (zs_scmb T (n - 1) x y z)) o w) := by
  rw [ex, ey, ez]
  refine zg_aload_n (zd_t dmM_perform 85 rfl) rfl ?_
  refine zg_aload_n (zd_t dmM_perform 86 rfl) rfl ?_
  refine zg_getf (zd_t dmM_perform 87 rfl) zf_M_30 zs_m0 rfl ?_
  refine zg_iconst (v := (nI 4)) (zd_t dmM_perform 88 rfl) (by decide) ?_
  refine zg_iload_n (zd_t dmM_perform 89 rfl) rfl ?_
  refine zg_imul (zd_t dmM_perform 90 rfl) ?_
  refine zg_iald (k := 4 * i + 0) (t0 := 0) (zd_t dmM_perform 91 rfl) zs_m7 rfl (by rw [pk_mul]; rfl) (by omega) (by decide) ?_
  rw [(zs_q4 (show 0 < 4 by decide)).1, (zs_q4 (show 0 < 4 by decide)).2, show zs_pg (zs_b T).1 i 0 = nI n from en]
  refine zg_iconst (v := (nI 1)) (zd_t dmM_perform 92 rfl) (by decide) ?_
  refine zg_isub (zd_t dmM_perform 93 rfl) ?_
  rw [pk_sub h1]
  refine zg_iload_n (zd_t dmM_perform 94 rfl) rfl ?_
  refine zg_iload_n (zd_t dmM_perform 95 rfl) rfl ?_
  refine zg_iload (zd_t dmM_perform 96 rfl) rfl ?_
  refine zg_callV (zd_t dmM_perform 97 rfl) zl_M_103 zm_mM_reckon zi_mM_reckon zse_mM_reckon zs_m0 zs_cl3 rfl (av := _) (rest := _) (by rfl) (by rfl) (by exact Nat.le_of_ble_eq_true rfl) (zm_reckon (by omega) hx hy hz hI) ?_
  refine zg_iload_n (zd_t dmM_perform 98 rfl) rfl ?_
  refine zg_iconst (v := (nI 1)) (zd_t dmM_perform 99 rfl) (by decide) ?_
  refine zg_iadd (zd_t dmM_perform 100 rfl) ?_
  rw [nI_add]
  exact zg_iret (zd_t dmM_perform 101 rfl) rfl rfl
theorem zm_pf_k {n : Nat} (hi : i < 32) (hI : zs_inv T) (ek : zs_pg T i 0 = nI n) (hn : n < 12) (h0 : n ≠ 0) (hal : zs_al n (zs_pg T i 1) (zs_pg T i 2) (zs_pg T i 3) = true) : zg_G l (zs_E P) (d + 3) mM_perform 42 [(4, .int (zs_pg T i 3)), (3, .int (zs_pg T i 2)), (2, .int (zs_pg T i 1)), (0, .ref (zp_B P + 67)), (1, .int (nI i))] [.int (nI n)] (zs_σ P S th (zs_b T) o w) (.inl (some (.int (zs_nxn T i n (zs_pg T i 1) (zs_pg T i 2)))), zs_σ P S th (zs_b (zs_stn T n (zs_pg T i 1) (zs_pg T i 2) (zs_pg T i 3))) o w) := by
  rcases (by omega : (1 ≤ n ∧ n < 5) ∨ n = 5 ∨ n = 6 ∨ n = 7 ∨ n = 8 ∨ n = 9 ∨ n = 10 ∨ n = 11) with h5 | rfl | rfl | rfl | rfl | rfl | rfl | rfl
  · obtain ⟨x, hx, ex⟩ := zs_irN (zs_al_w hal h5.1 h5.2).1
    obtain ⟨y, hy, ey⟩ := zs_irN (zs_al_w hal h5.1 h5.2).2.1
    obtain ⟨z, hz, ez⟩ := zs_irN (zs_al_w hal h5.1 h5.2).2.2
    rw [zs_nx1 T i _ _ (by omega), zs_stw h5 hx hy hz ex ey ez]
    exact zg_tableOut (tgt := 168) (zd_t dmM_perform 33 rfl) (Or.inl (by rw [nI_toInt (by omega)]; omega)) (by decide) (zm_pf_w hi h5.1 h5.2 ek hx hy hz ex ey ez hI)
  · obtain ⟨x, hx, ex⟩ := zs_irN (zs_al_5 hal).1
    obtain ⟨y, hy, ey⟩ := zs_irN (zs_al_5 hal).2.1
    obtain ⟨z, hz, ez, hp⟩ := zs_smN (zs_al_5 hal).2.2
    rw [zs_nx1 T i _ _ (by omega), zs_st5 hx hy hz ex ey ez]
    exact zg_tableIn (off := 42) (tgt := 84) (zd_t dmM_perform 33 rfl) (by decide) (by decide) (by decide) (by decide) (zm_pf_5 hx hy hz hp ex ey ez hI)
  · obtain ⟨x, hx, ex⟩ := zs_irN (zs_al_6 hal).1
    obtain ⟨y, hy, ey⟩ := zs_irN (zs_al_6 hal).2
    rw [zs_nx1 T i _ _ (by omega), zs_st6 hx hy ex ey]
    exact zg_tableIn (off := 54) (tgt := 96) (zd_t dmM_perform 33 rfl) (by decide) (by decide) (by decide) (by decide) (zm_pf_6 hx hy ex ey)
  · rw [zs_nx7, zs_st0 T _ _ _ (by omega)]
    exact zg_tableIn (off := 63) (tgt := 105) (zd_t dmM_perform 33 rfl) (by decide) (by decide) (by decide) (by decide) zm_pf_7
  · obtain ⟨x, hx, ex⟩ := zs_irN (zs_al_8 hal).1
    rw [zs_st0 T _ _ _ (by omega), show zs_nxn T i 8 (zs_pg T i 1) (zs_pg T i 2) = (if mz_val (zs_re T x) < 0 then zs_pg T i 2 else nI (i + 1)) by rw [ex]; exact zs_nx8 T i _ hx]
    exact zg_tableIn (off := 65) (tgt := 107) (zd_t dmM_perform 33 rfl) (by decide) (by decide) (by decide) (by decide) (zm_pf_8 hx ex hI)
  · rw [zs_nx1 T i _ _ (by omega), zs_st9]
    exact zg_tableIn (off := 83) (tgt := 125) (zd_t dmM_perform 33 rfl) (by decide) (by decide) (by decide) (by decide) zm_pf_9
  · rw [zs_nx10, zs_st10]
    exact zg_tableIn (off := 91) (tgt := 133) (zd_t dmM_perform 33 rfl) (by decide) (by decide) (by decide) (by decide) zm_pf_10
  · obtain ⟨x, hx, ex⟩ := zs_irN (zs_al_11 hal).1
    rw [zs_nx1 T i _ _ (by omega), zs_st11 hx ex]
    exact zg_tableIn (off := 116) (tgt := 158) (zd_t dmM_perform 33 rfl) (by decide) (by decide) (by decide) (by decide) (zm_pf_11 hx ex (zs_al_11 hal).2)
theorem zm_perform (hi : i < 32) (hI : zs_inv T) (h0 : zs_pg T i 0 ≠ 0) : zg_C l (zs_E P) (d + 3) mM_perform [.ref (zp_B P + 67), .int (nI i)] (zs_σ P S th (zs_b T) o w) (.inl (some (.int (zs_nx T i))), zs_σ P S th (zs_b (zs_st T i)) o w) := by
  refine zg_C_of (by decide +kernel) (Nat.le_of_ble_eq_true rfl) ?_
  obtain ⟨n, hn, ek, hal⟩ := zs_alw_k (hI.2.2 i hi)
  have e1 : zs_st T i = zs_stn T n (zs_pg T i 1) (zs_pg T i 2) (zs_pg T i 3) := by unfold zs_st; rw [ek, zs_n_nI (by omega)]
  have e2 : zs_nx T i = zs_nxn T i n (zs_pg T i 1) (zs_pg T i 2) := by unfold zs_nx; rw [ek, zs_n_nI (by omega)]
  rw [e1, e2]
  refine zg_aload_n (zd_t dmM_perform 0 rfl) rfl ?_
  refine zg_getf (zd_t dmM_perform 1 rfl) zf_M_30 zs_m0 rfl ?_
  refine zg_iconst (v := (nI 4)) (zd_t dmM_perform 2 rfl) (by decide) ?_
  refine zg_iload_n (zd_t dmM_perform 3 rfl) rfl ?_
  refine zg_imul (zd_t dmM_perform 4 rfl) ?_
  refine zg_iconst (v := (nI 1)) (zd_t dmM_perform 5 rfl) (by decide) ?_
  refine zg_iadd (zd_t dmM_perform 6 rfl) ?_
  refine zg_iald (k := 4 * i + 1) (t0 := 0) (zd_t dmM_perform 7 rfl) zs_m7 rfl (zs_ix4 i 1) (by omega) (by decide) ?_
  rw [(zs_q4 (show 1 < 4 by decide)).1, (zs_q4 (show 1 < 4 by decide)).2]
  refine zg_istore_n (zd_t dmM_perform 8 rfl) (by decide) rfl ?_
  refine zg_aload_n (zd_t dmM_perform 9 rfl) rfl ?_
  refine zg_getf (zd_t dmM_perform 10 rfl) zf_M_30 zs_m0 rfl ?_
  refine zg_iconst (v := (nI 4)) (zd_t dmM_perform 11 rfl) (by decide) ?_
  refine zg_iload_n (zd_t dmM_perform 12 rfl) rfl ?_
  refine zg_imul (zd_t dmM_perform 13 rfl) ?_
  refine zg_iconst (v := (nI 2)) (zd_t dmM_perform 14 rfl) (by decide) ?_
  refine zg_iadd (zd_t dmM_perform 15 rfl) ?_
  refine zg_iald (k := 4 * i + 2) (t0 := 0) (zd_t dmM_perform 16 rfl) zs_m7 rfl (zs_ix4 i 2) (by omega) (by decide) ?_
  rw [(zs_q4 (show 2 < 4 by decide)).1, (zs_q4 (show 2 < 4 by decide)).2]
  refine zg_istore_n (zd_t dmM_perform 17 rfl) (by decide) rfl ?_
  refine zg_aload_n (zd_t dmM_perform 18 rfl) rfl ?_
  refine zg_getf (zd_t dmM_perform 19 rfl) zf_M_30 zs_m0 rfl ?_
  refine zg_iconst (v := (nI 4)) (zd_t dmM_perform 20 rfl) (by decide) ?_
  refine zg_iload_n (zd_t dmM_perform 21 rfl) rfl ?_
  refine zg_imul (zd_t dmM_perform 22 rfl) ?_
  refine zg_iconst (v := (nI 3)) (zd_t dmM_perform 23 rfl) (by decide) ?_
  refine zg_iadd (zd_t dmM_perform 24 rfl) ?_
  refine zg_iald (k := 4 * i + 3) (t0 := 0) (zd_t dmM_perform 25 rfl) zs_m7 rfl (zs_ix4 i 3) (by omega) (by decide) ?_
  rw [(zs_q4 (show 3 < 4 by decide)).1, (zs_q4 (show 3 < 4 by decide)).2]
  refine zg_istore (zd_t dmM_perform 26 rfl) (by decide) rfl ?_
  refine zg_aload_n (zd_t dmM_perform 27 rfl) rfl ?_
  refine zg_getf (zd_t dmM_perform 28 rfl) zf_M_30 zs_m0 rfl ?_
  refine zg_iconst (v := (nI 4)) (zd_t dmM_perform 29 rfl) (by decide) ?_
  refine zg_iload_n (zd_t dmM_perform 30 rfl) rfl ?_
  refine zg_imul (zd_t dmM_perform 31 rfl) ?_
  refine zg_iald (k := 4 * i + 0) (t0 := 0) (zd_t dmM_perform 32 rfl) zs_m7 rfl (by rw [pk_mul]; rfl) (by omega) (by decide) ?_
  rw [(zs_q4 (show 0 < 4 by decide)).1, (zs_q4 (show 0 < 4 by decide)).2]
  rw [show zs_pg (zs_b T).1 i 0 = nI n from ek]
  exact zm_pf_k hi hI ek hn (fun hn0 => h0 (by rw [ek, hn0]; rfl)) hal
/-- the model's loop: fuel left n, at instruction nx -/
theorem zm_run_end {T : zs_S} {f k : Nat} {nx z : Int32} (hz : z ≠ 0) : zg_G l (zs_E P) (d + 4) mM_run 42 [(3, .int (nI k)), (2, .int nx), (0, .ref (zp_B P + 67)), (1, .int (nI f))] [] (zs_σ P S th (zs_b (zs_ssr T z)) o w) (.inl (some (.int (nI k))), zs_σ P S th (zs_b (zs_ssr T z)) o w) := by
  refine zg_aload_n (zd_t dmM_run 26 rfl) rfl ?_
  refine zg_getf (zd_t dmM_run 27 rfl) zf_M_155 zs_m0 rfl ?_
  refine zg_if_ne (tgt := 107) (zd_t dmM_run 28 rfl) (by decide) (fun _ => ?_) (fun hq => absurd hq hz)
  refine zg_iload_n (zd_t dmM_run 60 rfl) rfl ?_
  exact zg_iret (zd_t dmM_run 61 rfl) rfl rfl
theorem zm_run_lp {f : Nat} (hf : f ≤ 2000) : ∀ (n k : Nat), k + n = f → ∀ (T : zs_S) (j : Nat), j ≤ 32 → zs_inv T → zs_sr T = 0 → zg_G l (zs_E P) (d + 4) mM_run 42 [(3, .int (nI k)), (2, .int (nI j)), (0, .ref (zp_B P + 67)), (1, .int (nI f))] [] (zs_σ P S th (zs_b T) o w) (.inl (some (.int (nI (k + (zs_rn n T (nI j)).1)))), zs_σ P S th (zs_b (zs_ssr (zs_rn n T (nI j)).2.2 (nI (zs_rs (zs_rn n T (nI j)).2.1)))) o w) := by
  intro n
  induction n with
  | zero =>
    intro k hk T j hj hI hs
    have hk : k = f := by omega
    subst hk
    show zg_G l (zs_E P) (d + 4) mM_run 42 _ [] _ (.inl (some (.int (nI (k + 0)))), zs_σ P S th (zs_b (zs_ssr T (nI (zs_rs (nI j))))) o w)
    refine zg_aload_n (zd_t dmM_run 26 rfl) rfl ?_
    refine zg_getf (zd_t dmM_run 27 rfl) zf_M_155 zs_m0 rfl ?_
    refine zg_if_ne (tgt := 107) (zd_t dmM_run 28 rfl) (by decide) (fun hq => absurd hs hq) (fun _ => ?_)
    refine zg_iload_n (zd_t dmM_run 29 rfl) rfl ?_
    refine zg_bipush (v := (nI 32)) (zd_t dmM_run 30 rfl) (by decide) ?_
    by_cases hj2 : j = 32
    · rw [show zs_rs (nI j) = 2 by rw [hj2]; decide]
      refine zg_icmp_ne (tgt := 63) (zd_t dmM_run 31 rfl) (by decide) (fun hq => absurd (by rw [hj2]) hq) (fun _ => ?_)
      refine zg_aload_n (zd_t dmM_run 32 rfl) rfl ?_
      refine zg_iconst (v := (nI 2)) (zd_t dmM_run 33 rfl) (by decide) ?_
      refine zg_putf (zd_t dmM_run 34 rfl) zf_M_155 zt_3_11 zs_m0 (Nat.le_of_ble_eq_true rfl) rfl rfl zs_um_sr ?_
      refine zg_goto (tgt := 42) (zd_t dmM_run 35 rfl) (by decide) ?_
      exact zm_run_end (by decide)
    · rw [zs_rs3 (show j < 32 by omega)]
      refine zg_icmp_ne (tgt := 63) (zd_t dmM_run 31 rfl) (by decide) (fun _ => ?_) (fun hq => absurd hq (fun h => hj2 ((nI_eq (by omega) (by decide)).mp h)))
      refine zg_iload_n (zd_t dmM_run 36 rfl) rfl ?_
      refine zg_iload_n (zd_t dmM_run 37 rfl) rfl ?_
      refine zg_icmp_ne (tgt := 76) (zd_t dmM_run 38 rfl) (by decide) (fun hq => absurd rfl hq) (fun _ => ?_)
      refine zg_aload_n (zd_t dmM_run 39 rfl) rfl ?_
      refine zg_iconst (v := (nI 3)) (zd_t dmM_run 40 rfl) (by decide) ?_
      refine zg_putf (zd_t dmM_run 41 rfl) zf_M_155 zt_3_11 zs_m0 (Nat.le_of_ble_eq_true rfl) rfl rfl zs_um_sr ?_
      refine zg_goto (tgt := 42) (zd_t dmM_run 42 rfl) (by decide) ?_
      exact zm_run_end (by decide)
  | succ n ih =>
    intro k hk T j hj hI hs
    refine zg_aload_n (zd_t dmM_run 26 rfl) rfl ?_
    refine zg_getf (zd_t dmM_run 27 rfl) zf_M_155 zs_m0 rfl ?_
    refine zg_if_ne (tgt := 107) (zd_t dmM_run 28 rfl) (by decide) (fun hq => absurd hs hq) (fun _ => ?_)
    refine zg_iload_n (zd_t dmM_run 29 rfl) rfl ?_
    refine zg_bipush (v := (nI 32)) (zd_t dmM_run 30 rfl) (by decide) ?_
    by_cases hj2 : j = 32
    · rw [zs_rn_out n T (j := nI j) (by rw [hj2]; decide)]
      rw [show zs_rs (nI j) = 2 by rw [hj2]; decide]
      refine zg_icmp_ne (tgt := 63) (zd_t dmM_run 31 rfl) (by decide) (fun hq => absurd (by rw [hj2]) hq) (fun _ => ?_)
      refine zg_aload_n (zd_t dmM_run 32 rfl) rfl ?_
      refine zg_iconst (v := (nI 2)) (zd_t dmM_run 33 rfl) (by decide) ?_
      refine zg_putf (zd_t dmM_run 34 rfl) zf_M_155 zt_3_11 zs_m0 (Nat.le_of_ble_eq_true rfl) rfl rfl zs_um_sr ?_
      refine zg_goto (tgt := 42) (zd_t dmM_run 35 rfl) (by decide) ?_
      exact zm_run_end (by decide)
    · have hj3 : j < 32 := by omega
      rw [zs_rn_in n T hj3]
      refine zg_icmp_ne (tgt := 63) (zd_t dmM_run 31 rfl) (by decide) (fun _ => ?_) (fun hq => absurd hq (fun h => hj2 ((nI_eq (by omega) (by decide)).mp h)))
      refine zg_iload_n (zd_t dmM_run 36 rfl) rfl ?_
      refine zg_iload_n (zd_t dmM_run 37 rfl) rfl ?_
      refine zg_icmp_ne (tgt := 76) (zd_t dmM_run 38 rfl) (by decide) (fun _ => ?_) (fun hq => absurd hq (fun h => absurd ((nI_eq (by omega) (by omega)).mp h) (by omega)))
      refine zg_iinc (lv2 := [(3, .int (nI (k + 1))), (2, .int (nI j)), (0, .ref (zp_B P + 67)), (1, .int (nI f))]) (zd_t dmM_run 43 rfl) rfl (mz_inc k) (by decide) rfl ?_
      refine zg_aload_n (zd_t dmM_run 44 rfl) rfl ?_
      refine zg_getf (zd_t dmM_run 45 rfl) zf_M_30 zs_m0 rfl ?_
      refine zg_iconst (v := (nI 4)) (zd_t dmM_run 46 rfl) (by decide) ?_
      refine zg_iload_n (zd_t dmM_run 47 rfl) rfl ?_
      refine zg_imul (zd_t dmM_run 48 rfl) ?_
      refine zg_iald (k := 4 * j + 0) (t0 := 0) (zd_t dmM_run 49 rfl) zs_m7 rfl (by rw [pk_mul]; rfl) (by omega) (by decide) ?_
      rw [(zs_q4 (show 0 < 4 by decide)).1, (zs_q4 (show 0 < 4 by decide)).2]
      by_cases h0 : zs_pg T j 0 = 0
      · have e2 := zs_st_0 h0 j
        have e1 := zs_nx_0 h0
        rw [e1, e2, zs_rn_stop]
        show zg_G l (zs_E P) (d + 4) mM_run _ _ _ _ (.inl (some (.int (nI (k + (0 + 1))))), zs_σ P S th (zs_b (zs_ssr T (nI (zs_rs (-1))))) o w)
        rw [show zs_rs (-1) = 1 by decide]
        refine zg_if_ne (tgt := 98) (zd_t dmM_run 50 rfl) (by decide) (fun hq => absurd h0 hq) (fun _ => ?_)
        refine zg_aload_n (zd_t dmM_run 51 rfl) rfl ?_
        refine zg_iconst (v := (nI 1)) (zd_t dmM_run 52 rfl) (by decide) ?_
        refine zg_putf (zd_t dmM_run 53 rfl) zf_M_155 zt_3_11 zs_m0 (Nat.le_of_ble_eq_true rfl) rfl rfl zs_um_sr ?_
        refine zg_goto (tgt := 42) (zd_t dmM_run 54 rfl) (by decide) ?_
        exact zm_run_end (by decide)
      · refine zg_if_ne (tgt := 98) (zd_t dmM_run 50 rfl) (by decide) (fun _ => ?_) (fun hq => absurd hq h0)
        refine zg_aload_n (zd_t dmM_run 55 rfl) rfl ?_
        refine zg_iload_n (zd_t dmM_run 56 rfl) rfl ?_
        refine zg_callV (zd_t dmM_run 57 rfl) zl_M_158 zm_mM_perform zi_mM_perform zse_mM_perform zs_m0 zs_cl3 rfl (av := _) (rest := _) (by rfl) (by rfl) (by exact Nat.le_of_ble_eq_true rfl) (zm_perform hj3 hI h0) ?_
        refine zg_istore_n (zd_t dmM_run 58 rfl) (by decide) rfl ?_
        refine zg_goto (tgt := 42) (zd_t dmM_run 59 rfl) (by decide) ?_
        obtain ⟨j2, hj4, e2⟩ := zs_nx_le hI hj3 h0
        rw [e2]
        have g := ih (k + 1) (by omega) (zs_st T j) j2 hj4 (zs_inv_st hI hj3) (by rw [zs_sr_st]; exact hs)
        rw [show k + 1 + (zs_rn n (zs_st T j) (nI j2)).1 = k + ((zs_rn n (zs_st T j) (nI j2)).1 + 1) by omega] at g
        exact zg_lv [1, 0, 2, 3] rfl g
theorem zm_run {f : Nat} (hf : f ≤ 2000) (hI : zs_inv T) : zg_C l (zs_E P) (d + 4) mM_run [.ref (zp_B P + 67), .int (nI f)] (zs_σ P S th (zs_b T) o w) (.inl (some (.int (nI (zs_rn f (zs_scn T 0) 0).1))), zs_σ P S (nI 0) (zs_b (zs_srun T f)) o w) := by
  refine zg_C_of (by decide +kernel) (Nat.le_of_ble_eq_true rfl) ?_
  have g := zm_run_lp (l := l) (P := P) (d := d) (S := S) (th := nI 0) (o := o) (w := w) hf f 0 (by omega) (zs_ssr (zs_scn T (nI 0)) (nI 0)) 0 (by omega) hI rfl
  simp only [zs_rn_ssr0] at g
  rw [Nat.zero_add, zs_ssr_ssr] at g
  unfold zs_srun
  rw [show (0 : Int32) = nI 0 from rfl]
  refine zg_aload_n (zd_t dmM_run 0 rfl) rfl ?_
  refine zg_iload_n (zd_t dmM_run 1 rfl) rfl ?_
  refine zg_i2l (zd_t dmM_run 2 rfl) rfl ?_
  refine zg_lconst (v := mz_L 0) (zd_t dmM_run 3 rfl) (by decide) ?_
  refine zg_ldc2 (zd_t dmM_run 4 rfl) zc_M_153 ?_
  rw [zs_i2l]
  refine zg_callS (zd_t dmM_run 5 rfl) zl_M_48 zm_mM_in zst_mM_in (av := _) (rest := _) (by rfl) (by rfl) (by exact Nat.le_of_ble_eq_true rfl) (zm_in (x := (nI f).toInt) (y := 0) (z := 2000) (zs_wi32 _) (by unfold mz_wi; omega) (by unfold mz_wi; omega)) ?_
  rw [decide_eq_true (by rw [nI_toInt (by omega)]; omega)]
  refine zg_if_ne (tgt := 17) (zd_t dmM_run 6 rfl) (by decide) (fun _ => ?_) (fun hq => absurd hq (by decide))
  refine zg_iconst (v := (nI 0)) (zd_t dmM_run 9 rfl) (by decide) ?_
  refine zg_iconst (v := (nI 0)) (zd_t dmM_run 10 rfl) (by decide) ?_
  refine zg_iconst (v := (nI 0)) (zd_t dmM_run 11 rfl) (by decide) ?_
  refine zg_callV (zd_t dmM_run 12 rfl) zl_M_72 zm_mM_refuse zi_mM_refuse zse_mM_refuse zs_m0 zs_cl3 rfl (av := _) (rest := _) (by rfl) (by rfl) (by exact Nat.le_of_ble_eq_true rfl) (zm_refuse false false false) ?_
  rw [show zs_rc false false false = 0 from rfl]
  refine zg_if_eq (tgt := 28) (zd_t dmM_run 13 rfl) (by decide) (fun _ => ?_) (fun hq => absurd (by decide) hq)
  refine zg_aload_n (zd_t dmM_run 16 rfl) rfl ?_
  refine zg_iconst (v := (nI 0)) (zd_t dmM_run 17 rfl) (by decide) ?_
  refine zg_putf (zd_t dmM_run 18 rfl) zf_M_150 zt_3_10 zs_m0 (Nat.le_of_ble_eq_true rfl) rfl rfl zs_um_cn ?_
  refine zg_iconst (v := (nI 0)) (zd_t dmM_run 19 rfl) (by decide) ?_
  refine zg_istore_n (zd_t dmM_run 20 rfl) (by decide) rfl ?_
  refine zg_iconst (v := (nI 0)) (zd_t dmM_run 21 rfl) (by decide) ?_
  refine zg_istore_n (zd_t dmM_run 22 rfl) (by decide) rfl ?_
  refine zg_aload_n (zd_t dmM_run 23 rfl) rfl ?_
  refine zg_iconst (v := (nI 0)) (zd_t dmM_run 24 rfl) (by decide) ?_
  refine zg_putf (zd_t dmM_run 25 rfl) zf_M_155 zt_3_11 zs_m0 (Nat.le_of_ble_eq_true rfl) rfl rfl zs_um_sr ?_
  exact g
theorem zm_runX {f : Int32} (h : ¬ (0 ≤ f.toInt ∧ f.toInt ≤ 2000)) : zg_C l (zs_E P) (d + 4) mM_run [.ref (zp_B P + 67), .int f] (zs_σ P S th (zs_b T) o w) (.inl (some (.int (nI 0))), zs_σ P S (nI 1) (zs_b T) o w) := by
  refine zg_C_of (by decide +kernel) (Nat.le_of_ble_eq_true rfl) ?_
  refine zg_aload_n (zd_t dmM_run 0 rfl) rfl ?_
  refine zg_iload_n (zd_t dmM_run 1 rfl) rfl ?_
  refine zg_i2l (zd_t dmM_run 2 rfl) rfl ?_
  refine zg_lconst (v := mz_L 0) (zd_t dmM_run 3 rfl) (by decide) ?_
  refine zg_ldc2 (zd_t dmM_run 4 rfl) zc_M_153 ?_
  rw [zs_i2l]
  refine zg_callS (zd_t dmM_run 5 rfl) zl_M_48 zm_mM_in zst_mM_in (av := _) (rest := _) (by rfl) (by rfl) (by exact Nat.le_of_ble_eq_true rfl) (zm_in (x := f.toInt) (y := 0) (z := 2000) (zs_wi32 _) (by unfold mz_wi; omega) (by unfold mz_wi; omega)) ?_
  rw [decide_eq_false h]
  refine zg_if_ne (tgt := 17) (zd_t dmM_run 6 rfl) (by decide) (fun hq => absurd (by decide) hq) (fun _ => ?_)
  refine zg_iconst (v := (nI 1)) (zd_t dmM_run 7 rfl) (by decide) ?_
  refine zg_goto (tgt := 18) (zd_t dmM_run 8 rfl) (by decide) ?_
  refine zg_iconst (v := (nI 0)) (zd_t dmM_run 10 rfl) (by decide) ?_
  refine zg_iconst (v := (nI 0)) (zd_t dmM_run 11 rfl) (by decide) ?_
  refine zg_callV (zd_t dmM_run 12 rfl) zl_M_72 zm_mM_refuse zi_mM_refuse zse_mM_refuse zs_m0 zs_cl3 rfl (av := _) (rest := _) (by rfl) (by rfl) (by exact Nat.le_of_ble_eq_true rfl) (zm_refuse true false false) ?_
  rw [show zs_rc true false false = 1 from rfl]
  refine zg_if_eq (tgt := 28) (zd_t dmM_run 13 rfl) (by decide) (fun hq => absurd hq (by decide)) (fun _ => ?_)
  refine zg_iconst (v := (nI 0)) (zd_t dmM_run 14 rfl) (by decide) ?_
  exact zg_iret (zd_t dmM_run 15 rfl) rfl rfl
end ZM18
