section ZM12
variable {l : Launch} {P : zs_P} {d : Nat} {S : zs_S} {S2 : zs_S2} {th : Int32} {o : Int64} {w : Nat × Nat} {e a b i k : Nat}
theorem zs_up_out {v : Int64} : zg_up (zs_σ P S th S2 o w) (zp_B P + 75) (.inl (zp_ca P 1, 1, .inr (.inl (vp_updL (fun j => if j = 0 then o else 0) 0 v)))) = zs_σ P S th S2 v w := by
  refine zs_put ?_ ?_
  · rw [zs_m8]
    congr 5
    refine congrArg Sum.inl (funext fun j => ?_)
    show (if j = 0 then v else 0) = if j = 0 then v else if j = 0 then o else 0
    by_cases h : j = 0
    · rw [if_pos h, if_pos h]
    · rw [if_neg h, if_neg h, if_neg h]
  · rw [show zp_B P + 75 = zp_B P + 67 + 8 by omega]
    refine zs_hp_m fun n hn => ?_
    unfold zs_mc
    rw [if_neg hn, if_neg hn]
theorem zl_binary (hi : i < 16) (hok : mz_ok (zs_re S i)) (hg : mz_good (zs_re S i)) : zg_C l (zs_E P) (d + 7) mL_binary [.ref (zp_B P), .int (nI i), .ref (zp_B P + 75)] (zs_σ P S th S2 o w) (.inl (some (.int (nI 0))), zs_σ P (S) th S2 (mz_L (mz_val (zs_re S i))) w) := by
  refine zg_C_of (by decide +kernel) (Nat.le_of_ble_eq_true rfl) ?_
  refine zg_aload_n (zd_t dmL_binary 0 rfl) rfl ?_
  refine zg_iconst (v := (nI 0)) (zd_t dmL_binary 1 rfl) (by decide) ?_
  refine zg_aload_n (zd_t dmL_binary 2 rfl) rfl ?_
  refine zg_iload_n (zd_t dmL_binary 3 rfl) rfl ?_
  refine zg_callV (zd_t dmL_binary 4 rfl) zl_L_17 zm_mU_binary zi_mU_binary zse_mU_binary zs_0 zs_cl0 rfl (av := _) (rest := _) (by rfl) (by rfl) (by exact Nat.le_of_ble_eq_true rfl) (zu_binary hi hok hg) ?_
  refine zg_last (k := 0) (t0 := 1) (zd_t dmL_binary 5 rfl) zs_m8 rfl rfl (by decide) (by decide) zs_up_out ?_
  refine zg_goto (tgt := 17) (zd_t dmL_binary 6 rfl) (by decide) ?_
  refine zg_iconst (v := (nI 0)) (zd_t dmL_binary 13 rfl) (by decide) ?_
  exact zg_iret (zd_t dmL_binary 14 rfl) rfl rfl
theorem zl_binaryX (htr : l.stackTraces = false) {r : Int32} (h : ¬ zs_ir r) : zg_C l (zs_E P) (d + 8) mL_binary [.ref (zp_B P), .int r, .ref (zp_B P + 75)] (zs_σ P S th S2 o w) (.inl (some (.int (nI 1))), zs_exc (zs_σ P S th S2 o w)) := by
  refine zg_C_of (by decide +kernel) (Nat.le_of_ble_eq_true rfl) ?_
  refine zg_aload_n (zd_t dmL_binary 0 rfl) rfl ?_
  refine zg_iconst (v := (nI 0)) (zd_t dmL_binary 1 rfl) (by decide) ?_
  refine zg_aload_n (zd_t dmL_binary 2 rfl) rfl ?_
  refine zg_iload_n (zd_t dmL_binary 3 rfl) rfl ?_
  refine zg_callVC (zd_t dmL_binary 4 rfl) zl_L_17 zm_mU_binary zi_mU_binary zse_mU_binary zs_0 zs_cl0 rfl (av := _) (rest := _) (by rfl) (by rfl) (by exact Nat.le_of_ble_eq_true rfl) (zu_binaryX htr h) (hp := 11) zh_binary_IOB ?_
  refine zg_astore_n (zd_t dmL_binary 7 rfl) (by decide) rfl ?_
  refine zg_iconst (v := (nI 1)) (zd_t dmL_binary 8 rfl) (by decide) ?_
  exact zg_iret (zd_t dmL_binary 9 rfl) rfl rfl
theorem zl_binaryY (htr : l.stackTraces = false) (hi : i < 16) (hok : mz_ok (zs_re S i)) (hg : ¬ mz_good (zs_re S i)) : zg_C l (zs_E P) (d + 8) mL_binary [.ref (zp_B P), .int (nI i), .ref (zp_B P + 75)] (zs_σ P S th S2 o w) (.inl (some (.int (nI 2))), zs_exc (zs_σ P S th S2 o w)) := by
  refine zg_C_of (by decide +kernel) (Nat.le_of_ble_eq_true rfl) ?_
  refine zg_aload_n (zd_t dmL_binary 0 rfl) rfl ?_
  refine zg_iconst (v := (nI 0)) (zd_t dmL_binary 1 rfl) (by decide) ?_
  refine zg_aload_n (zd_t dmL_binary 2 rfl) rfl ?_
  refine zg_iload_n (zd_t dmL_binary 3 rfl) rfl ?_
  refine zg_callVC (zd_t dmL_binary 4 rfl) zl_L_17 zm_mU_binary zi_mU_binary zse_mU_binary zs_0 zs_cl0 rfl (av := _) (rest := _) (by rfl) (by rfl) (by exact Nat.le_of_ble_eq_true rfl) (zu_binaryY htr hi hok hg) (hp := 14) zh_binary_ISE ?_
  refine zg_astore_n (zd_t dmL_binary 10 rfl) (by decide) rfl ?_
  refine zg_iconst (v := (nI 2)) (zd_t dmL_binary 11 rfl) (by decide) ?_
  exact zg_iret (zd_t dmL_binary 12 rfl) rfl rfl
theorem zl_work {p : Nat} (hp : p < 4) (he : e < 16) (ha : a < 16) (hb : b < 16) (hI : zs_inv S) : zg_C l (zs_E P) (d + 7) mL_work [.ref (zp_B P), .int (nI p), .int (nI e), .int (nI a), .int (nI b)] (zs_σ P S th S2 o w) (.inl (some (.int (nI 0))), zs_σ P (zs_scmb S p e a b) th S2 o w) := by
  refine zg_C_of (by decide +kernel) (Nat.le_of_ble_eq_true rfl) ?_
  refine zg_aload_n (zd_t dmL_work 0 rfl) rfl ?_
  refine zg_iload_n (zd_t dmL_work 1 rfl) rfl ?_
  refine zg_iload_n (zd_t dmL_work 2 rfl) rfl ?_
  refine zg_iload_n (zd_t dmL_work 3 rfl) rfl ?_
  refine zg_iload (zd_t dmL_work 4 rfl) rfl ?_
  refine zg_callV (zd_t dmL_work 5 rfl) zl_L_23 zm_mU_work zi_mU_work zse_mU_work zs_0 zs_cl0 rfl (av := _) (rest := _) (by rfl) (by rfl) (by exact Nat.le_of_ble_eq_true rfl) (zu_work hp he ha hb hI) ?_
  refine zg_goto (tgt := 20) (zd_t dmL_work 6 rfl) (by decide) ?_
  refine zg_iconst (v := (nI 0)) (zd_t dmL_work 13 rfl) (by decide) ?_
  exact zg_iret (zd_t dmL_work 14 rfl) rfl rfl
theorem zl_workX (htr : l.stackTraces = false) {p x y z : Int32} (h : ¬ (zs_ir x ∧ zs_ir y ∧ zs_ir z)) : zg_C l (zs_E P) (d + 8) mL_work [.ref (zp_B P), .int p, .int x, .int y, .int z] (zs_σ P S th S2 o w) (.inl (some (.int (nI 1))), zs_exc (zs_σ P S th S2 o w)) := by
  refine zg_C_of (by decide +kernel) (Nat.le_of_ble_eq_true rfl) ?_
  refine zg_aload_n (zd_t dmL_work 0 rfl) rfl ?_
  refine zg_iload_n (zd_t dmL_work 1 rfl) rfl ?_
  refine zg_iload_n (zd_t dmL_work 2 rfl) rfl ?_
  refine zg_iload_n (zd_t dmL_work 3 rfl) rfl ?_
  refine zg_iload (zd_t dmL_work 4 rfl) rfl ?_
  refine zg_callVC (zd_t dmL_work 5 rfl) zl_L_23 zm_mU_work zi_mU_work zse_mU_work zs_0 zs_cl0 rfl (av := _) (rest := _) (by rfl) (by rfl) (by exact Nat.le_of_ble_eq_true rfl) (zu_workX htr h) (hp := 12) zh_work_IOB ?_
  refine zg_astore (zd_t dmL_work 7 rfl) (by decide) rfl ?_
  refine zg_iconst (v := (nI 1)) (zd_t dmL_work 8 rfl) (by decide) ?_
  exact zg_iret (zd_t dmL_work 9 rfl) rfl rfl
theorem zl_workY (htr : l.stackTraces = false) {p : Int32} (hp : ¬ (0 ≤ p.toInt ∧ p.toInt ≤ 3)) (he : e < 16) (ha : a < 16) (hb : b < 16) : zg_C l (zs_E P) (d + 8) mL_work [.ref (zp_B P), .int p, .int (nI e), .int (nI a), .int (nI b)] (zs_σ P S th S2 o w) (.inl (some (.int (nI 2))), zs_exc (zs_σ P S th S2 o w)) := by
  refine zg_C_of (by decide +kernel) (Nat.le_of_ble_eq_true rfl) ?_
  refine zg_aload_n (zd_t dmL_work 0 rfl) rfl ?_
  refine zg_iload_n (zd_t dmL_work 1 rfl) rfl ?_
  refine zg_iload_n (zd_t dmL_work 2 rfl) rfl ?_
  refine zg_iload_n (zd_t dmL_work 3 rfl) rfl ?_
  refine zg_iload (zd_t dmL_work 4 rfl) rfl ?_
  refine zg_callVC (zd_t dmL_work 5 rfl) zl_L_23 zm_mU_work zi_mU_work zse_mU_work zs_0 zs_cl0 rfl (av := _) (rest := _) (by rfl) (by rfl) (by exact Nat.le_of_ble_eq_true rfl) (zu_workY htr hp he ha hb) (hp := 16) zh_work_IAE ?_
  refine zg_astore (zd_t dmL_work 10 rfl) (by decide) rfl ?_
  refine zg_iconst (v := (nI 2)) (zd_t dmL_work 11 rfl) (by decide) ?_
  exact zg_iret (zd_t dmL_work 12 rfl) rfl rfl
theorem zl_compare (ha : a < 16) (hb : b < 16) (hI : zs_inv S) : zg_C l (zs_E P) (d + 7) mL_compare [.ref (zp_B P), .int (nI a), .int (nI b), .ref (zp_B P + 75)] (zs_σ P S th S2 o w) (.inl (some (.int (nI 0))), zs_σ P (S) th S2 ((mz_cp (mz_val (zs_re S a)) (mz_val (zs_re S b))).toInt64) w) := by
  refine zg_C_of (by decide +kernel) (Nat.le_of_ble_eq_true rfl) ?_
  refine zg_aload_n (zd_t dmL_compare 0 rfl) rfl ?_
  refine zg_iconst (v := (nI 0)) (zd_t dmL_compare 1 rfl) (by decide) ?_
  refine zg_aload_n (zd_t dmL_compare 2 rfl) rfl ?_
  refine zg_iload_n (zd_t dmL_compare 3 rfl) rfl ?_
  refine zg_iload_n (zd_t dmL_compare 4 rfl) rfl ?_
  refine zg_callV (zd_t dmL_compare 5 rfl) zl_L_27 zm_mU_compare zi_mU_compare zse_mU_compare zs_0 zs_cl0 rfl (av := _) (rest := _) (by rfl) (by rfl) (by exact Nat.le_of_ble_eq_true rfl) (zu_compare ha hb hI) ?_
  refine zg_i2l (zd_t dmL_compare 6 rfl) rfl ?_
  refine zg_last (k := 0) (t0 := 1) (zd_t dmL_compare 7 rfl) zs_m8 rfl rfl (by decide) (by decide) zs_up_out ?_
  refine zg_goto (tgt := 17) (zd_t dmL_compare 8 rfl) (by decide) ?_
  refine zg_iconst (v := (nI 0)) (zd_t dmL_compare 12 rfl) (by decide) ?_
  exact zg_iret (zd_t dmL_compare 13 rfl) rfl rfl
theorem zl_compareX (htr : l.stackTraces = false) {x y : Int32} (h : ¬ (zs_ir x ∧ zs_ir y)) : zg_C l (zs_E P) (d + 8) mL_compare [.ref (zp_B P), .int x, .int y, .ref (zp_B P + 75)] (zs_σ P S th S2 o w) (.inl (some (.int (nI 1))), zs_exc (zs_σ P S th S2 o w)) := by
  refine zg_C_of (by decide +kernel) (Nat.le_of_ble_eq_true rfl) ?_
  refine zg_aload_n (zd_t dmL_compare 0 rfl) rfl ?_
  refine zg_iconst (v := (nI 0)) (zd_t dmL_compare 1 rfl) (by decide) ?_
  refine zg_aload_n (zd_t dmL_compare 2 rfl) rfl ?_
  refine zg_iload_n (zd_t dmL_compare 3 rfl) rfl ?_
  refine zg_iload_n (zd_t dmL_compare 4 rfl) rfl ?_
  refine zg_callVC (zd_t dmL_compare 5 rfl) zl_L_27 zm_mU_compare zi_mU_compare zse_mU_compare zs_0 zs_cl0 rfl (av := _) (rest := _) (by rfl) (by rfl) (by exact Nat.le_of_ble_eq_true rfl) (zu_compareX htr h) (hp := 13) zh_compare_IOB ?_
  refine zg_astore (zd_t dmL_compare 9 rfl) (by decide) rfl ?_
  refine zg_iconst (v := (nI 1)) (zd_t dmL_compare 10 rfl) (by decide) ?_
  exact zg_iret (zd_t dmL_compare 11 rfl) rfl rfl
theorem zl_scale {x : Nat} {n : Bool} (he : e < 16) (ha : a < 16) (hx : x < 64) (hm : mz_sm (nI x)) (hp : mz_pop x ≤ 4) (hI : zs_inv S) : zg_C l (zs_E P) (d + 7) mL_scale [.ref (zp_B P), .int (nI e), .int (nI a), .int (nI x), .int (zs_bi n)] (zs_σ P S th S2 o w) (.inl (some (.int (nI 0))), zs_σ P (zs_ssc S e a x n) th S2 o w) := by
  refine zg_C_of (by decide +kernel) (Nat.le_of_ble_eq_true rfl) ?_
  refine zg_aload_n (zd_t dmL_scale 0 rfl) rfl ?_
  refine zg_iload_n (zd_t dmL_scale 1 rfl) rfl ?_
  refine zg_iload_n (zd_t dmL_scale 2 rfl) rfl ?_
  refine zg_iload_n (zd_t dmL_scale 3 rfl) rfl ?_
  refine zg_iload (zd_t dmL_scale 4 rfl) rfl ?_
  refine zg_callV (zd_t dmL_scale 5 rfl) zl_L_31 zm_mU_scale zi_mU_scale zse_mU_scale zs_0 zs_cl0 rfl (av := _) (rest := _) (by rfl) (by rfl) (by exact Nat.le_of_ble_eq_true rfl) (zu_scale he ha hx hm hp hI) ?_
  refine zg_goto (tgt := 20) (zd_t dmL_scale 6 rfl) (by decide) ?_
  refine zg_iconst (v := (nI 0)) (zd_t dmL_scale 13 rfl) (by decide) ?_
  exact zg_iret (zd_t dmL_scale 14 rfl) rfl rfl
theorem zl_scaleX (htr : l.stackTraces = false) {x y c z : Int32} (h : ¬ (zs_ir x ∧ zs_ir y)) : zg_C l (zs_E P) (d + 8) mL_scale [.ref (zp_B P), .int x, .int y, .int c, .int z] (zs_σ P S th S2 o w) (.inl (some (.int (nI 1))), zs_exc (zs_σ P S th S2 o w)) := by
  refine zg_C_of (by decide +kernel) (Nat.le_of_ble_eq_true rfl) ?_
  refine zg_aload_n (zd_t dmL_scale 0 rfl) rfl ?_
  refine zg_iload_n (zd_t dmL_scale 1 rfl) rfl ?_
  refine zg_iload_n (zd_t dmL_scale 2 rfl) rfl ?_
  refine zg_iload_n (zd_t dmL_scale 3 rfl) rfl ?_
  refine zg_iload (zd_t dmL_scale 4 rfl) rfl ?_
  refine zg_callVC (zd_t dmL_scale 5 rfl) zl_L_31 zm_mU_scale zi_mU_scale zse_mU_scale zs_0 zs_cl0 rfl (av := _) (rest := _) (by rfl) (by rfl) (by exact Nat.le_of_ble_eq_true rfl) (zu_scaleX htr h) (hp := 12) zh_scale_IOB ?_
  refine zg_astore (zd_t dmL_scale 7 rfl) (by decide) rfl ?_
  refine zg_iconst (v := (nI 1)) (zd_t dmL_scale 8 rfl) (by decide) ?_
  exact zg_iret (zd_t dmL_scale 9 rfl) rfl rfl
theorem zl_scaleY (htr : l.stackTraces = false) {c z : Int32} (he : e < 16) (ha : a < 16) (hm : ¬ mz_sm c) : zg_C l (zs_E P) (d + 8) mL_scale [.ref (zp_B P), .int (nI e), .int (nI a), .int c, .int z] (zs_σ P S th S2 o w) (.inl (some (.int (nI 2))), zs_exc (zs_σ P S th S2 o w)) := by
  refine zg_C_of (by decide +kernel) (Nat.le_of_ble_eq_true rfl) ?_
  refine zg_aload_n (zd_t dmL_scale 0 rfl) rfl ?_
  refine zg_iload_n (zd_t dmL_scale 1 rfl) rfl ?_
  refine zg_iload_n (zd_t dmL_scale 2 rfl) rfl ?_
  refine zg_iload_n (zd_t dmL_scale 3 rfl) rfl ?_
  refine zg_iload (zd_t dmL_scale 4 rfl) rfl ?_
  refine zg_callVC (zd_t dmL_scale 5 rfl) zl_L_31 zm_mU_scale zi_mU_scale zse_mU_scale zs_0 zs_cl0 rfl (av := _) (rest := _) (by rfl) (by rfl) (by exact Nat.le_of_ble_eq_true rfl) (zu_scaleY htr he ha hm) (hp := 16) zh_scale_IAE ?_
  refine zg_astore (zd_t dmL_scale 10 rfl) (by decide) rfl ?_
  refine zg_iconst (v := (nI 2)) (zd_t dmL_scale 11 rfl) (by decide) ?_
  exact zg_iret (zd_t dmL_scale 12 rfl) rfl rfl
theorem zl_divide {q r : Nat} (hq : q < 16) (hr : r < 16) (ha : a < 16) (hb : b < 16) (hI : zs_inv S) (hz : mz_val (zs_re S b) ≠ 0) : zg_C l (zs_E P) (d + 7) mL_divide [.ref (zp_B P), .int (nI q), .int (nI r), .int (nI a), .int (nI b)] (zs_σ P S th S2 o w) (.inl (some (.int (nI 0))), zs_σ P (zs_sdv S q r a b) th S2 o w) := by
  refine zg_C_of (by decide +kernel) (Nat.le_of_ble_eq_true rfl) ?_
  refine zg_aload_n (zd_t dmL_divide 0 rfl) rfl ?_
  refine zg_iload_n (zd_t dmL_divide 1 rfl) rfl ?_
  refine zg_iload_n (zd_t dmL_divide 2 rfl) rfl ?_
  refine zg_iload_n (zd_t dmL_divide 3 rfl) rfl ?_
  refine zg_iload (zd_t dmL_divide 4 rfl) rfl ?_
  refine zg_callV (zd_t dmL_divide 5 rfl) zl_L_35 zm_mU_divide zi_mU_divide zse_mU_divide zs_0 zs_cl0 rfl (av := _) (rest := _) (by rfl) (by rfl) (by exact Nat.le_of_ble_eq_true rfl) (zu_divide hq hr ha hb hI hz) ?_
  refine zg_goto (tgt := 20) (zd_t dmL_divide 6 rfl) (by decide) ?_
  refine zg_iconst (v := (nI 0)) (zd_t dmL_divide 13 rfl) (by decide) ?_
  exact zg_iret (zd_t dmL_divide 14 rfl) rfl rfl
theorem zl_divideX (htr : l.stackTraces = false) {x y z u : Int32} (h : ¬ (zs_ir x ∧ zs_ir y ∧ zs_ir z ∧ zs_ir u)) : zg_C l (zs_E P) (d + 8) mL_divide [.ref (zp_B P), .int x, .int y, .int z, .int u] (zs_σ P S th S2 o w) (.inl (some (.int (nI 1))), zs_exc (zs_σ P S th S2 o w)) := by
  refine zg_C_of (by decide +kernel) (Nat.le_of_ble_eq_true rfl) ?_
  refine zg_aload_n (zd_t dmL_divide 0 rfl) rfl ?_
  refine zg_iload_n (zd_t dmL_divide 1 rfl) rfl ?_
  refine zg_iload_n (zd_t dmL_divide 2 rfl) rfl ?_
  refine zg_iload_n (zd_t dmL_divide 3 rfl) rfl ?_
  refine zg_iload (zd_t dmL_divide 4 rfl) rfl ?_
  refine zg_callVC (zd_t dmL_divide 5 rfl) zl_L_35 zm_mU_divide zi_mU_divide zse_mU_divide zs_0 zs_cl0 rfl (av := _) (rest := _) (by rfl) (by rfl) (by exact Nat.le_of_ble_eq_true rfl) (zu_divideX htr h) (hp := 12) zh_divide_IOB ?_
  refine zg_astore (zd_t dmL_divide 7 rfl) (by decide) rfl ?_
  refine zg_iconst (v := (nI 1)) (zd_t dmL_divide 8 rfl) (by decide) ?_
  exact zg_iret (zd_t dmL_divide 9 rfl) rfl rfl
theorem zl_divideY (htr : l.stackTraces = false) {q r : Nat} (hq : q < 16) (hr : r < 16) (ha : a < 16) (hb : b < 16) (hI : zs_inv S) (hz : mz_val (zs_re S b) = 0) : zg_C l (zs_E P) (d + 8) mL_divide [.ref (zp_B P), .int (nI q), .int (nI r), .int (nI a), .int (nI b)] (zs_σ P S th S2 o w) (.inl (some (.int (nI 2))), zs_exc (zs_σ P S th S2 o w)) := by
  refine zg_C_of (by decide +kernel) (Nat.le_of_ble_eq_true rfl) ?_
  refine zg_aload_n (zd_t dmL_divide 0 rfl) rfl ?_
  refine zg_iload_n (zd_t dmL_divide 1 rfl) rfl ?_
  refine zg_iload_n (zd_t dmL_divide 2 rfl) rfl ?_
  refine zg_iload_n (zd_t dmL_divide 3 rfl) rfl ?_
  refine zg_iload (zd_t dmL_divide 4 rfl) rfl ?_
  refine zg_callVC (zd_t dmL_divide 5 rfl) zl_L_35 zm_mU_divide zi_mU_divide zse_mU_divide zs_0 zs_cl0 rfl (av := _) (rest := _) (by rfl) (by rfl) (by exact Nat.le_of_ble_eq_true rfl) (zu_divideY htr hq hr ha hb hI hz) (hp := 16) zh_divide_ARE ?_
  refine zg_astore (zd_t dmL_divide 10 rfl) (by decide) rfl ?_
  refine zg_iconst (v := (nI 2)) (zd_t dmL_divide 11 rfl) (by decide) ?_
  exact zg_iret (zd_t dmL_divide 12 rfl) rfl rfl
theorem zl_channel (hi : i < 16) (hk : k < 8) : zg_C l (zs_E P) (d + 7) mL_channel [.ref (zp_B P), .int (nI i), .int (nI (k + 1)), .ref (zp_B P + 75)] (zs_σ P S th S2 o w) (.inl (some (.int (nI 0))), zs_σ P (S) th S2 ((nI (zs_re S i k)).toInt64) w) := by
  refine zg_C_of (by decide +kernel) (Nat.le_of_ble_eq_true rfl) ?_
  refine zg_aload_n (zd_t dmL_channel 0 rfl) rfl ?_
  refine zg_iconst (v := (nI 0)) (zd_t dmL_channel 1 rfl) (by decide) ?_
  refine zg_aload_n (zd_t dmL_channel 2 rfl) rfl ?_
  refine zg_iload_n (zd_t dmL_channel 3 rfl) rfl ?_
  refine zg_iload_n (zd_t dmL_channel 4 rfl) rfl ?_
  refine zg_callV (zd_t dmL_channel 5 rfl) zl_L_40 zm_mU_channel zi_mU_channel zse_mU_channel zs_0 zs_cl0 rfl (av := _) (rest := _) (by rfl) (by rfl) (by exact Nat.le_of_ble_eq_true rfl) (zu_channel hi hk) ?_
  refine zg_i2l (zd_t dmL_channel 6 rfl) rfl ?_
  refine zg_last (k := 0) (t0 := 1) (zd_t dmL_channel 7 rfl) zs_m8 rfl rfl (by decide) (by decide) zs_up_out ?_
  refine zg_goto (tgt := 17) (zd_t dmL_channel 8 rfl) (by decide) ?_
  refine zg_iconst (v := (nI 0)) (zd_t dmL_channel 12 rfl) (by decide) ?_
  exact zg_iret (zd_t dmL_channel 13 rfl) rfl rfl
theorem zl_channelX (htr : l.stackTraces = false) {x y : Int32} (h : ¬ (zs_ir x ∧ zs_ch y)) : zg_C l (zs_E P) (d + 8) mL_channel [.ref (zp_B P), .int x, .int y, .ref (zp_B P + 75)] (zs_σ P S th S2 o w) (.inl (some (.int (nI 1))), zs_exc (zs_σ P S th S2 o w)) := by
  refine zg_C_of (by decide +kernel) (Nat.le_of_ble_eq_true rfl) ?_
  refine zg_aload_n (zd_t dmL_channel 0 rfl) rfl ?_
  refine zg_iconst (v := (nI 0)) (zd_t dmL_channel 1 rfl) (by decide) ?_
  refine zg_aload_n (zd_t dmL_channel 2 rfl) rfl ?_
  refine zg_iload_n (zd_t dmL_channel 3 rfl) rfl ?_
  refine zg_iload_n (zd_t dmL_channel 4 rfl) rfl ?_
  refine zg_callVC (zd_t dmL_channel 5 rfl) zl_L_40 zm_mU_channel zi_mU_channel zse_mU_channel zs_0 zs_cl0 rfl (av := _) (rest := _) (by rfl) (by rfl) (by exact Nat.le_of_ble_eq_true rfl) (zu_channelX htr h) (hp := 13) zh_channel_IOB ?_
  refine zg_astore (zd_t dmL_channel 9 rfl) (by decide) rfl ?_
  refine zg_iconst (v := (nI 1)) (zd_t dmL_channel 10 rfl) (by decide) ?_
  exact zg_iret (zd_t dmL_channel 11 rfl) rfl rfl
theorem zl_inject {z : Int32} (hi : i < 16) (hk : k < 8) (hI : zs_inv S) : zg_C l (zs_E P) (d + 7) mL_inject [.ref (zp_B P), .int (nI i), .int (nI (k + 1)), .int z, .ref (zp_B P + 75)] (zs_σ P S th S2 o w) (.inl (some (.int (nI 0))), zs_σ P (zs_sre S i k (mz_sh (zs_re S i k) z k)) th S2 ((nI (mz_sh (zs_re S i k) z k)).toInt64) w) := by
  refine zg_C_of (by decide +kernel) (Nat.le_of_ble_eq_true rfl) ?_
  refine zg_aload (zd_t dmL_inject 0 rfl) rfl ?_
  refine zg_iconst (v := (nI 0)) (zd_t dmL_inject 1 rfl) (by decide) ?_
  refine zg_aload_n (zd_t dmL_inject 2 rfl) rfl ?_
  refine zg_iload_n (zd_t dmL_inject 3 rfl) rfl ?_
  refine zg_iload_n (zd_t dmL_inject 4 rfl) rfl ?_
  refine zg_iload_n (zd_t dmL_inject 5 rfl) rfl ?_
  refine zg_callV (zd_t dmL_inject 6 rfl) zl_L_43 zm_mU_inject zi_mU_inject zse_mU_inject zs_0 zs_cl0 rfl (av := _) (rest := _) (by rfl) (by rfl) (by exact Nat.le_of_ble_eq_true rfl) (zu_inject hi hk hI) ?_
  refine zg_i2l (zd_t dmL_inject 7 rfl) rfl ?_
  refine zg_last (k := 0) (t0 := 1) (zd_t dmL_inject 8 rfl) zs_m8 rfl rfl (by decide) (by decide) zs_up_out ?_
  refine zg_goto (tgt := 19) (zd_t dmL_inject 9 rfl) (by decide) ?_
  refine zg_iconst (v := (nI 0)) (zd_t dmL_inject 13 rfl) (by decide) ?_
  exact zg_iret (zd_t dmL_inject 14 rfl) rfl rfl
theorem zl_injectX (htr : l.stackTraces = false) {x y z : Int32} (h : ¬ (zs_ir x ∧ zs_ch y)) : zg_C l (zs_E P) (d + 8) mL_inject [.ref (zp_B P), .int x, .int y, .int z, .ref (zp_B P + 75)] (zs_σ P S th S2 o w) (.inl (some (.int (nI 1))), zs_exc (zs_σ P S th S2 o w)) := by
  refine zg_C_of (by decide +kernel) (Nat.le_of_ble_eq_true rfl) ?_
  refine zg_aload (zd_t dmL_inject 0 rfl) rfl ?_
  refine zg_iconst (v := (nI 0)) (zd_t dmL_inject 1 rfl) (by decide) ?_
  refine zg_aload_n (zd_t dmL_inject 2 rfl) rfl ?_
  refine zg_iload_n (zd_t dmL_inject 3 rfl) rfl ?_
  refine zg_iload_n (zd_t dmL_inject 4 rfl) rfl ?_
  refine zg_iload_n (zd_t dmL_inject 5 rfl) rfl ?_
  refine zg_callVC (zd_t dmL_inject 6 rfl) zl_L_43 zm_mU_inject zi_mU_inject zse_mU_inject zs_0 zs_cl0 rfl (av := _) (rest := _) (by rfl) (by rfl) (by exact Nat.le_of_ble_eq_true rfl) (zu_injectX htr h) (hp := 15) zh_inject_IOB ?_
  refine zg_astore (zd_t dmL_inject 10 rfl) (by decide) rfl ?_
  refine zg_iconst (v := (nI 1)) (zd_t dmL_inject 11 rfl) (by decide) ?_
  exact zg_iret (zd_t dmL_inject 12 rfl) rfl rfl
theorem zl_verify (hi : i < 16) (hI : zs_inv S) : zg_C l (zs_E P) (d + 7) mL_verify [.ref (zp_B P), .int (nI i), .ref (zp_B P + 75)] (zs_σ P S th S2 o w) (.inl (some (.int (nI 0))), zs_σ P (S) th S2 ((nI (mz_fault (zs_re S i))).toInt64) w) := by
  refine zg_C_of (by decide +kernel) (Nat.le_of_ble_eq_true rfl) ?_
  refine zg_aload_n (zd_t dmL_verify 0 rfl) rfl ?_
  refine zg_iconst (v := (nI 0)) (zd_t dmL_verify 1 rfl) (by decide) ?_
  refine zg_aload_n (zd_t dmL_verify 2 rfl) rfl ?_
  refine zg_iload_n (zd_t dmL_verify 3 rfl) rfl ?_
  refine zg_callV (zd_t dmL_verify 4 rfl) zl_L_47 zm_mU_verify zi_mU_verify zse_mU_verify zs_0 zs_cl0 rfl (av := _) (rest := _) (by rfl) (by rfl) (by exact Nat.le_of_ble_eq_true rfl) (zu_verify hi hI) ?_
  refine zg_i2l (zd_t dmL_verify 5 rfl) rfl ?_
  refine zg_last (k := 0) (t0 := 1) (zd_t dmL_verify 6 rfl) zs_m8 rfl rfl (by decide) (by decide) zs_up_out ?_
  refine zg_goto (tgt := 15) (zd_t dmL_verify 7 rfl) (by decide) ?_
  refine zg_iconst (v := (nI 0)) (zd_t dmL_verify 11 rfl) (by decide) ?_
  exact zg_iret (zd_t dmL_verify 12 rfl) rfl rfl
theorem zl_verifyX (htr : l.stackTraces = false) {x : Int32} (h : ¬ zs_ir x) : zg_C l (zs_E P) (d + 8) mL_verify [.ref (zp_B P), .int x, .ref (zp_B P + 75)] (zs_σ P S th S2 o w) (.inl (some (.int (nI 1))), zs_exc (zs_σ P S th S2 o w)) := by
  refine zg_C_of (by decide +kernel) (Nat.le_of_ble_eq_true rfl) ?_
  refine zg_aload_n (zd_t dmL_verify 0 rfl) rfl ?_
  refine zg_iconst (v := (nI 0)) (zd_t dmL_verify 1 rfl) (by decide) ?_
  refine zg_aload_n (zd_t dmL_verify 2 rfl) rfl ?_
  refine zg_iload_n (zd_t dmL_verify 3 rfl) rfl ?_
  refine zg_callVC (zd_t dmL_verify 4 rfl) zl_L_47 zm_mU_verify zi_mU_verify zse_mU_verify zs_0 zs_cl0 rfl (av := _) (rest := _) (by rfl) (by rfl) (by exact Nat.le_of_ble_eq_true rfl) (zu_verifyX htr h) (hp := 12) zh_verify_IOB ?_
  refine zg_astore_n (zd_t dmL_verify 8 rfl) (by decide) rfl ?_
  refine zg_iconst (v := (nI 1)) (zd_t dmL_verify 9 rfl) (by decide) ?_
  exact zg_iret (zd_t dmL_verify 10 rfl) rfl rfl
theorem zl_repair (hi : i < 16) (hI : zs_inv S) (h9 : mz_fault (zs_re S i) ≠ 9) : zg_C l (zs_E P) (d + 7) mL_repair [.ref (zp_B P), .int (nI i), .ref (zp_B P + 75)] (zs_σ P S th S2 o w) (.inl (some (.int (nI 0))), zs_σ P (zs_srp S i) th S2 ((nI (mz_fault (zs_re S i))).toInt64) w) := by
  refine zg_C_of (by decide +kernel) (Nat.le_of_ble_eq_true rfl) ?_
  refine zg_aload_n (zd_t dmL_repair 0 rfl) rfl ?_
  refine zg_iconst (v := (nI 0)) (zd_t dmL_repair 1 rfl) (by decide) ?_
  refine zg_aload_n (zd_t dmL_repair 2 rfl) rfl ?_
  refine zg_iload_n (zd_t dmL_repair 3 rfl) rfl ?_
  refine zg_callV (zd_t dmL_repair 4 rfl) zl_L_51 zm_mU_repair zi_mU_repair zse_mU_repair zs_0 zs_cl0 rfl (av := _) (rest := _) (by rfl) (by rfl) (by exact Nat.le_of_ble_eq_true rfl) (zu_repair hi hI h9) ?_
  refine zg_i2l (zd_t dmL_repair 5 rfl) rfl ?_
  refine zg_last (k := 0) (t0 := 1) (zd_t dmL_repair 6 rfl) zs_m8 rfl rfl (by decide) (by decide) zs_up_out ?_
  refine zg_goto (tgt := 18) (zd_t dmL_repair 7 rfl) (by decide) ?_
  refine zg_iconst (v := (nI 0)) (zd_t dmL_repair 14 rfl) (by decide) ?_
  exact zg_iret (zd_t dmL_repair 15 rfl) rfl rfl
theorem zl_repairX (htr : l.stackTraces = false) {x : Int32} (h : ¬ zs_ir x) : zg_C l (zs_E P) (d + 8) mL_repair [.ref (zp_B P), .int x, .ref (zp_B P + 75)] (zs_σ P S th S2 o w) (.inl (some (.int (nI 1))), zs_exc (zs_σ P S th S2 o w)) := by
  refine zg_C_of (by decide +kernel) (Nat.le_of_ble_eq_true rfl) ?_
  refine zg_aload_n (zd_t dmL_repair 0 rfl) rfl ?_
  refine zg_iconst (v := (nI 0)) (zd_t dmL_repair 1 rfl) (by decide) ?_
  refine zg_aload_n (zd_t dmL_repair 2 rfl) rfl ?_
  refine zg_iload_n (zd_t dmL_repair 3 rfl) rfl ?_
  refine zg_callVC (zd_t dmL_repair 4 rfl) zl_L_51 zm_mU_repair zi_mU_repair zse_mU_repair zs_0 zs_cl0 rfl (av := _) (rest := _) (by rfl) (by rfl) (by exact Nat.le_of_ble_eq_true rfl) (zu_repairX htr h) (hp := 12) zh_repair_IOB ?_
  refine zg_astore_n (zd_t dmL_repair 8 rfl) (by decide) rfl ?_
  refine zg_iconst (v := (nI 1)) (zd_t dmL_repair 9 rfl) (by decide) ?_
  exact zg_iret (zd_t dmL_repair 10 rfl) rfl rfl
theorem zl_repairY (htr : l.stackTraces = false) (hi : i < 16) (hI : zs_inv S) (h9 : mz_fault (zs_re S i) = 9) : zg_C l (zs_E P) (d + 8) mL_repair [.ref (zp_B P), .int (nI i), .ref (zp_B P + 75)] (zs_σ P S th S2 o w) (.inl (some (.int (nI 2))), zs_exc (zs_σ P S th S2 o w)) := by
  refine zg_C_of (by decide +kernel) (Nat.le_of_ble_eq_true rfl) ?_
  refine zg_aload_n (zd_t dmL_repair 0 rfl) rfl ?_
  refine zg_iconst (v := (nI 0)) (zd_t dmL_repair 1 rfl) (by decide) ?_
  refine zg_aload_n (zd_t dmL_repair 2 rfl) rfl ?_
  refine zg_iload_n (zd_t dmL_repair 3 rfl) rfl ?_
  refine zg_callVC (zd_t dmL_repair 4 rfl) zl_L_51 zm_mU_repair zi_mU_repair zse_mU_repair zs_0 zs_cl0 rfl (av := _) (rest := _) (by rfl) (by rfl) (by exact Nat.le_of_ble_eq_true rfl) (zu_repairY htr hi hI h9) (hp := 15) zh_repair_ISE ?_
  refine zg_astore_n (zd_t dmL_repair 11 rfl) (by decide) rfl ?_
  refine zg_iconst (v := (nI 2)) (zd_t dmL_repair 12 rfl) (by decide) ?_
  exact zg_iret (zd_t dmL_repair 13 rfl) rfl rfl
theorem zl_sure (hi : i < 16) : zg_C l (zs_E P) (d + 7) mL_sure [.ref (zp_B P), .int (nI i), .ref (zp_B P + 75)] (zs_σ P S th S2 o w) (.inl (some (.int (nI 0))), zs_σ P (S) th S2 (mz_L (if zs_su S i = true then 1 else 0)) w) := by
  refine zg_C_of (by decide +kernel) (Nat.le_of_ble_eq_true rfl) ?_
  refine zg_aload_n (zd_t dmL_sure 0 rfl) rfl ?_
  refine zg_iconst (v := (nI 0)) (zd_t dmL_sure 1 rfl) (by decide) ?_
  refine zg_aload_n (zd_t dmL_sure 2 rfl) rfl ?_
  refine zg_iload_n (zd_t dmL_sure 3 rfl) rfl ?_
  refine zg_callV (zd_t dmL_sure 4 rfl) zl_L_54 zm_mU_sure zi_mU_sure zse_mU_sure zs_0 zs_cl0 rfl (av := _) (rest := _) (by rfl) (by rfl) (by exact Nat.le_of_ble_eq_true rfl) (zu_sure hi) ?_
  cases zs_su S i with
  | false =>
    refine zg_if_eq (tgt := 14) (zd_t dmL_sure 5 rfl) (by decide) (fun _ => ?_) (fun hq => absurd (by decide) hq)
    refine zg_lconst (v := mz_L 0) (zd_t dmL_sure 8 rfl) (by decide) ?_
    refine zg_last (k := 0) (t0 := 1) (zd_t dmL_sure 9 rfl) zs_m8 rfl rfl (by decide) (by decide) zs_up_out ?_
    refine zg_goto (tgt := 22) (zd_t dmL_sure 10 rfl) (by decide) ?_
    refine zg_iconst (v := (nI 0)) (zd_t dmL_sure 14 rfl) (by decide) ?_
    exact zg_iret (zd_t dmL_sure 15 rfl) rfl rfl
  | true =>
    refine zg_if_eq (tgt := 14) (zd_t dmL_sure 5 rfl) (by decide) (fun hq => absurd hq (by decide)) (fun _ => ?_)
    refine zg_lconst (v := mz_L 1) (zd_t dmL_sure 6 rfl) (by decide) ?_
    refine zg_goto (tgt := 15) (zd_t dmL_sure 7 rfl) (by decide) ?_
    refine zg_last (k := 0) (t0 := 1) (zd_t dmL_sure 9 rfl) zs_m8 rfl rfl (by decide) (by decide) zs_up_out ?_
    refine zg_goto (tgt := 22) (zd_t dmL_sure 10 rfl) (by decide) ?_
    refine zg_iconst (v := (nI 0)) (zd_t dmL_sure 14 rfl) (by decide) ?_
    exact zg_iret (zd_t dmL_sure 15 rfl) rfl rfl
theorem zl_sureX (htr : l.stackTraces = false) {x : Int32} (h : ¬ zs_ir x) : zg_C l (zs_E P) (d + 8) mL_sure [.ref (zp_B P), .int x, .ref (zp_B P + 75)] (zs_σ P S th S2 o w) (.inl (some (.int (nI 1))), zs_exc (zs_σ P S th S2 o w)) := by
  refine zg_C_of (by decide +kernel) (Nat.le_of_ble_eq_true rfl) ?_
  refine zg_aload_n (zd_t dmL_sure 0 rfl) rfl ?_
  refine zg_iconst (v := (nI 0)) (zd_t dmL_sure 1 rfl) (by decide) ?_
  refine zg_aload_n (zd_t dmL_sure 2 rfl) rfl ?_
  refine zg_iload_n (zd_t dmL_sure 3 rfl) rfl ?_
  refine zg_callVC (zd_t dmL_sure 4 rfl) zl_L_54 zm_mU_sure zi_mU_sure zse_mU_sure zs_0 zs_cl0 rfl (av := _) (rest := _) (by rfl) (by rfl) (by exact Nat.le_of_ble_eq_true rfl) (zu_sureX htr h) (hp := 19) zh_sure_IOB ?_
  refine zg_astore_n (zd_t dmL_sure 11 rfl) (by decide) rfl ?_
  refine zg_iconst (v := (nI 1)) (zd_t dmL_sure 12 rfl) (by decide) ?_
  exact zg_iret (zd_t dmL_sure 13 rfl) rfl rfl
theorem zl_bound {n : Nat} (hi : i < 16) (hn : n < 2) (hs : zs_su S i = true) : zg_C l (zs_E P) (d + 7) mL_bound [.ref (zp_B P), .int (nI i), .int (nI n), .ref (zp_B P + 75)] (zs_σ P S th S2 o w) (.inl (some (.int (nI 0))), zs_σ P (S) th S2 (mz_L (zs_ex S i)) w) := by
  refine zg_C_of (by decide +kernel) (Nat.le_of_ble_eq_true rfl) ?_
  refine zg_aload_n (zd_t dmL_bound 0 rfl) rfl ?_
  refine zg_iconst (v := (nI 0)) (zd_t dmL_bound 1 rfl) (by decide) ?_
  refine zg_aload_n (zd_t dmL_bound 2 rfl) rfl ?_
  refine zg_iload_n (zd_t dmL_bound 3 rfl) rfl ?_
  refine zg_iload_n (zd_t dmL_bound 4 rfl) rfl ?_
  refine zg_callV (zd_t dmL_bound 5 rfl) zl_L_58 zm_mU_bound zi_mU_bound zse_mU_bound zs_0 zs_cl0 rfl (av := _) (rest := _) (by rfl) (by rfl) (by exact Nat.le_of_ble_eq_true rfl) (zu_bound hi hn hs) ?_
  refine zg_last (k := 0) (t0 := 1) (zd_t dmL_bound 6 rfl) zs_m8 rfl rfl (by decide) (by decide) zs_up_out ?_
  refine zg_goto (tgt := 24) (zd_t dmL_bound 7 rfl) (by decide) ?_
  refine zg_iconst (v := (nI 0)) (zd_t dmL_bound 17 rfl) (by decide) ?_
  exact zg_iret (zd_t dmL_bound 18 rfl) rfl rfl
theorem zl_boundX (htr : l.stackTraces = false) {x y : Int32} (h : ¬ zs_ir x) : zg_C l (zs_E P) (d + 8) mL_bound [.ref (zp_B P), .int x, .int y, .ref (zp_B P + 75)] (zs_σ P S th S2 o w) (.inl (some (.int (nI 1))), zs_exc (zs_σ P S th S2 o w)) := by
  refine zg_C_of (by decide +kernel) (Nat.le_of_ble_eq_true rfl) ?_
  refine zg_aload_n (zd_t dmL_bound 0 rfl) rfl ?_
  refine zg_iconst (v := (nI 0)) (zd_t dmL_bound 1 rfl) (by decide) ?_
  refine zg_aload_n (zd_t dmL_bound 2 rfl) rfl ?_
  refine zg_iload_n (zd_t dmL_bound 3 rfl) rfl ?_
  refine zg_iload_n (zd_t dmL_bound 4 rfl) rfl ?_
  refine zg_callVC (zd_t dmL_bound 5 rfl) zl_L_58 zm_mU_bound zi_mU_bound zse_mU_bound zs_0 zs_cl0 rfl (av := _) (rest := _) (by rfl) (by rfl) (by exact Nat.le_of_ble_eq_true rfl) (zu_boundX htr h) (hp := 12) zh_bound_IOB ?_
  refine zg_astore (zd_t dmL_bound 8 rfl) (by decide) rfl ?_
  refine zg_iconst (v := (nI 1)) (zd_t dmL_bound 9 rfl) (by decide) ?_
  exact zg_iret (zd_t dmL_bound 10 rfl) rfl rfl
theorem zl_boundY (htr : l.stackTraces = false) {n : Int32} (hi : i < 16) (hn : ¬ (n = 0 ∨ n = 1)) : zg_C l (zs_E P) (d + 8) mL_bound [.ref (zp_B P), .int (nI i), .int n, .ref (zp_B P + 75)] (zs_σ P S th S2 o w) (.inl (some (.int (nI 2))), zs_exc (zs_σ P S th S2 o w)) := by
  refine zg_C_of (by decide +kernel) (Nat.le_of_ble_eq_true rfl) ?_
  refine zg_aload_n (zd_t dmL_bound 0 rfl) rfl ?_
  refine zg_iconst (v := (nI 0)) (zd_t dmL_bound 1 rfl) (by decide) ?_
  refine zg_aload_n (zd_t dmL_bound 2 rfl) rfl ?_
  refine zg_iload_n (zd_t dmL_bound 3 rfl) rfl ?_
  refine zg_iload_n (zd_t dmL_bound 4 rfl) rfl ?_
  refine zg_callVC (zd_t dmL_bound 5 rfl) zl_L_58 zm_mU_bound zi_mU_bound zse_mU_bound zs_0 zs_cl0 rfl (av := _) (rest := _) (by rfl) (by rfl) (by exact Nat.le_of_ble_eq_true rfl) (zu_boundY htr hi hn) (hp := 16) zh_bound_IAE ?_
  refine zg_astore (zd_t dmL_bound 11 rfl) (by decide) rfl ?_
  refine zg_iconst (v := (nI 2)) (zd_t dmL_bound 12 rfl) (by decide) ?_
  exact zg_iret (zd_t dmL_bound 13 rfl) rfl rfl
theorem zl_boundZ (htr : l.stackTraces = false) {n : Nat} (hi : i < 16) (hn : n < 2) (hs : zs_su S i = false) : zg_C l (zs_E P) (d + 8) mL_bound [.ref (zp_B P), .int (nI i), .int (nI n), .ref (zp_B P + 75)] (zs_σ P S th S2 o w) (.inl (some (.int (nI 3))), zs_exc (zs_σ P S th S2 o w)) := by
  refine zg_C_of (by decide +kernel) (Nat.le_of_ble_eq_true rfl) ?_
  refine zg_aload_n (zd_t dmL_bound 0 rfl) rfl ?_
  refine zg_iconst (v := (nI 0)) (zd_t dmL_bound 1 rfl) (by decide) ?_
  refine zg_aload_n (zd_t dmL_bound 2 rfl) rfl ?_
  refine zg_iload_n (zd_t dmL_bound 3 rfl) rfl ?_
  refine zg_iload_n (zd_t dmL_bound 4 rfl) rfl ?_
  refine zg_callVC (zd_t dmL_bound 5 rfl) zl_L_58 zm_mU_bound zi_mU_bound zse_mU_bound zs_0 zs_cl0 rfl (av := _) (rest := _) (by rfl) (by rfl) (by exact Nat.le_of_ble_eq_true rfl) (zu_boundZ htr hi hn hs) (hp := 20) zh_bound_ISE ?_
  refine zg_astore (zd_t dmL_bound 14 rfl) (by decide) rfl ?_
  refine zg_iconst (v := (nI 3)) (zd_t dmL_bound 15 rfl) (by decide) ?_
  exact zg_iret (zd_t dmL_bound 16 rfl) rfl rfl
theorem zl_instruct {x y z u : Int32} (hi : i < 32) (ha : zs_alw x y z u = true) : zg_C l (zs_E P) (d + 7) mL_instruct [.ref (zp_B P), .int (nI i), .int x, .int y, .int z, .int u] (zs_σ P S th S2 o w) (.inl (some (.int (nI 0))), zs_σ P (zs_sins S i x y z u) th S2 o w) := by
  refine zg_C_of (by decide +kernel) (Nat.le_of_ble_eq_true rfl) ?_
  refine zg_aload_n (zd_t dmL_instruct 0 rfl) rfl ?_
  refine zg_iload_n (zd_t dmL_instruct 1 rfl) rfl ?_
  refine zg_iload_n (zd_t dmL_instruct 2 rfl) rfl ?_
  refine zg_iload_n (zd_t dmL_instruct 3 rfl) rfl ?_
  refine zg_iload (zd_t dmL_instruct 4 rfl) rfl ?_
  refine zg_iload (zd_t dmL_instruct 5 rfl) rfl ?_
  refine zg_callV (zd_t dmL_instruct 6 rfl) zl_L_62 zm_mU_instruct zi_mU_instruct zse_mU_instruct zs_0 zs_cl0 rfl (av := _) (rest := _) (by rfl) (by rfl) (by exact Nat.le_of_ble_eq_true rfl) (zu_instruct hi ha) ?_
  refine zg_goto (tgt := 22) (zd_t dmL_instruct 7 rfl) (by decide) ?_
  refine zg_iconst (v := (nI 0)) (zd_t dmL_instruct 14 rfl) (by decide) ?_
  exact zg_iret (zd_t dmL_instruct 15 rfl) rfl rfl
theorem zl_instructX (htr : l.stackTraces = false) {r x y z u : Int32} (h : ¬ zs_ii r) : zg_C l (zs_E P) (d + 8) mL_instruct [.ref (zp_B P), .int r, .int x, .int y, .int z, .int u] (zs_σ P S th S2 o w) (.inl (some (.int (nI 1))), zs_exc (zs_σ P S th S2 o w)) := by
  refine zg_C_of (by decide +kernel) (Nat.le_of_ble_eq_true rfl) ?_
  refine zg_aload_n (zd_t dmL_instruct 0 rfl) rfl ?_
  refine zg_iload_n (zd_t dmL_instruct 1 rfl) rfl ?_
  refine zg_iload_n (zd_t dmL_instruct 2 rfl) rfl ?_
  refine zg_iload_n (zd_t dmL_instruct 3 rfl) rfl ?_
  refine zg_iload (zd_t dmL_instruct 4 rfl) rfl ?_
  refine zg_iload (zd_t dmL_instruct 5 rfl) rfl ?_
  refine zg_callVC (zd_t dmL_instruct 6 rfl) zl_L_62 zm_mU_instruct zi_mU_instruct zse_mU_instruct zs_0 zs_cl0 rfl (av := _) (rest := _) (by rfl) (by rfl) (by exact Nat.le_of_ble_eq_true rfl) (zu_instructX htr h) (hp := 14) zh_instruct_IOB ?_
  refine zg_astore (zd_t dmL_instruct 8 rfl) (by decide) rfl ?_
  refine zg_iconst (v := (nI 1)) (zd_t dmL_instruct 9 rfl) (by decide) ?_
  exact zg_iret (zd_t dmL_instruct 10 rfl) rfl rfl
theorem zl_instructY (htr : l.stackTraces = false) {r x y z u : Int32} (h : zs_ii r) (ha : zs_alw x y z u = false) : zg_C l (zs_E P) (d + 8) mL_instruct [.ref (zp_B P), .int r, .int x, .int y, .int z, .int u] (zs_σ P S th S2 o w) (.inl (some (.int (nI 2))), zs_exc (zs_σ P S th S2 o w)) := by
  refine zg_C_of (by decide +kernel) (Nat.le_of_ble_eq_true rfl) ?_
  refine zg_aload_n (zd_t dmL_instruct 0 rfl) rfl ?_
  refine zg_iload_n (zd_t dmL_instruct 1 rfl) rfl ?_
  refine zg_iload_n (zd_t dmL_instruct 2 rfl) rfl ?_
  refine zg_iload_n (zd_t dmL_instruct 3 rfl) rfl ?_
  refine zg_iload (zd_t dmL_instruct 4 rfl) rfl ?_
  refine zg_iload (zd_t dmL_instruct 5 rfl) rfl ?_
  refine zg_callVC (zd_t dmL_instruct 6 rfl) zl_L_62 zm_mU_instruct zi_mU_instruct zse_mU_instruct zs_0 zs_cl0 rfl (av := _) (rest := _) (by rfl) (by rfl) (by exact Nat.le_of_ble_eq_true rfl) (zu_instructY htr h ha) (hp := 18) zh_instruct_IAE ?_
  refine zg_astore (zd_t dmL_instruct 11 rfl) (by decide) rfl ?_
  refine zg_iconst (v := (nI 2)) (zd_t dmL_instruct 12 rfl) (by decide) ?_
  exact zg_iret (zd_t dmL_instruct 13 rfl) rfl rfl
theorem zl_run {f : Nat} (hf : f ≤ 2000) (hI : zs_inv S) : zg_C l (zs_E P) (d + 7) mL_run [.ref (zp_B P), .int (nI f), .ref (zp_B P + 75)] (zs_σ P S th S2 o w) (.inl (some (.int (nI 0))), zs_σ P (zs_srun S f) th S2 ((nI (zs_rn f (zs_scn S 0) 0).1).toInt64) w) := by
  refine zg_C_of (by decide +kernel) (Nat.le_of_ble_eq_true rfl) ?_
  refine zg_aload_n (zd_t dmL_run 0 rfl) rfl ?_
  refine zg_iconst (v := (nI 0)) (zd_t dmL_run 1 rfl) (by decide) ?_
  refine zg_aload_n (zd_t dmL_run 2 rfl) rfl ?_
  refine zg_iload_n (zd_t dmL_run 3 rfl) rfl ?_
  refine zg_callV (zd_t dmL_run 4 rfl) zl_L_66 zm_mU_run zi_mU_run zse_mU_run zs_0 zs_cl0 rfl (av := _) (rest := _) (by rfl) (by rfl) (by exact Nat.le_of_ble_eq_true rfl) (zu_run hf hI) ?_
  refine zg_i2l (zd_t dmL_run 5 rfl) rfl ?_
  refine zg_last (k := 0) (t0 := 1) (zd_t dmL_run 6 rfl) zs_m8 rfl rfl (by decide) (by decide) zs_up_out ?_
  refine zg_goto (tgt := 15) (zd_t dmL_run 7 rfl) (by decide) ?_
  refine zg_iconst (v := (nI 0)) (zd_t dmL_run 11 rfl) (by decide) ?_
  exact zg_iret (zd_t dmL_run 12 rfl) rfl rfl
theorem zl_runX (htr : l.stackTraces = false) {f : Int32} (h : ¬ (0 ≤ f.toInt ∧ f.toInt ≤ 2000)) : zg_C l (zs_E P) (d + 8) mL_run [.ref (zp_B P), .int f, .ref (zp_B P + 75)] (zs_σ P S th S2 o w) (.inl (some (.int (nI 1))), zs_exc (zs_σ P S th S2 o w)) := by
  refine zg_C_of (by decide +kernel) (Nat.le_of_ble_eq_true rfl) ?_
  refine zg_aload_n (zd_t dmL_run 0 rfl) rfl ?_
  refine zg_iconst (v := (nI 0)) (zd_t dmL_run 1 rfl) (by decide) ?_
  refine zg_aload_n (zd_t dmL_run 2 rfl) rfl ?_
  refine zg_iload_n (zd_t dmL_run 3 rfl) rfl ?_
  refine zg_callVC (zd_t dmL_run 4 rfl) zl_L_66 zm_mU_run zi_mU_run zse_mU_run zs_0 zs_cl0 rfl (av := _) (rest := _) (by rfl) (by rfl) (by exact Nat.le_of_ble_eq_true rfl) (zu_runX htr h) (hp := 12) zh_run_IAE ?_
  refine zg_astore_n (zd_t dmL_run 8 rfl) (by decide) rfl ?_
  refine zg_iconst (v := (nI 1)) (zd_t dmL_run 9 rfl) (by decide) ?_
  exact zg_iret (zd_t dmL_run 10 rfl) rfl rfl
end ZM12
