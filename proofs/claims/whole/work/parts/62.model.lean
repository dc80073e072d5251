theorem zs_q8 {i k : Nat} (h : k < 8) : (8 * i + k) / 8 = i ∧ (8 * i + k) % 8 = k := by omega
theorem zs_q4 {i k : Nat} (h : k < 4) : (4 * i + k) / 4 = i ∧ (4 * i + k) % 4 = k := by omega
theorem zs_ix8 (i k : Nat) : nI 8 * nI i + nI k = nI (8 * i + k) := by rw [pk_mul, nI_add]
theorem zs_ix4 (i k : Nat) : nI 4 * nI i + nI k = nI (4 * i + k) := by rw [pk_mul, nI_add]
def zs_rc (b1 b2 b3 : Bool) : Nat := if b1 = true then 1 else if b2 = true then 2 else if b3 = true then 3 else 0
section ZM13
variable {l : Launch} {P : zs_P} {d : Nat} {S : zs_S} {T : zs_S} {h : Nat → Int} {th : Int32} {o : Int64} {w : Nat × Nat} {e a b i k : Nat}
theorem zs_um_th {v : Int32} : zg_up (zs_σ P S th (T, h) o w) (zp_B P + 67) (.inr (zc_M, [.int v, .ref (zp_B P + 68), .ref (zp_B P + 69), .ref (zp_B P + 70), .ref (zp_B P + 71), .ref (zp_B P + 72), .ref (zp_B P + 73), .long (mz_L 175107974924611), .long (mz_L 87553987462305), .ref (zp_B P + 74), .int (zs_cn T), .int (zs_sr T)])) = zs_σ P S v (T, h) o w := by
  refine zs_put zs_m0 (zs_hp_m (n := 0) fun n hn => ?_)
  unfold zs_mc
  rw [if_neg hn, if_neg hn]
theorem zs_um_cn {v : Int32} : zg_up (zs_σ P S th (T, h) o w) (zp_B P + 67) (.inr (zc_M, [.int th, .ref (zp_B P + 68), .ref (zp_B P + 69), .ref (zp_B P + 70), .ref (zp_B P + 71), .ref (zp_B P + 72), .ref (zp_B P + 73), .long (mz_L 175107974924611), .long (mz_L 87553987462305), .ref (zp_B P + 74), .int v, .int (zs_sr T)])) = zs_σ P S th (zs_scn T v, h) o w := by
  refine zs_put zs_m0 (zs_hp_m (n := 0) fun n hn => ?_)
  unfold zs_mc
  rw [if_neg hn, if_neg hn]
  rfl
theorem zs_um_sr {v : Int32} : zg_up (zs_σ P S th (T, h) o w) (zp_B P + 67) (.inr (zc_M, [.int th, .ref (zp_B P + 68), .ref (zp_B P + 69), .ref (zp_B P + 70), .ref (zp_B P + 71), .ref (zp_B P + 72), .ref (zp_B P + 73), .long (mz_L 175107974924611), .long (mz_L 87553987462305), .ref (zp_B P + 74), .int (zs_cn T), .int v])) = zs_σ P S th (zs_ssr T v, h) o w := by
  refine zs_put zs_m0 (zs_hp_m (n := 0) fun n hn => ?_)
  unfold zs_mc
  rw [if_neg hn, if_neg hn]
  rfl
theorem zs_um_re {v : Nat} (hk : k < 8) : zg_up (zs_σ P S th (T, h) o w) (zp_B P + 69) (.inl (zp_ca P 0, 128, .inl (upd (fun j => nI (zs_re T (j / 8) (j % 8))) (8 * i + k) (nI v)))) = zs_σ P S th (zs_sre T i k v, h) o w := by
  refine zs_put ?_ (zs_hp_m (n := 2) fun n hn => ?_)
  · rw [zs_m2]
    congr 4
    refine congrArg Sum.inl (funext fun j => ?_)
    show nI (if j / 8 = i ∧ j % 8 = k then v else zs_re T (j / 8) (j % 8)) = if j = 8 * i + k then nI v else nI (zs_re T (j / 8) (j % 8))
    by_cases hj : j = 8 * i + k
    · rw [if_pos hj, if_pos (by omega)]
    · rw [if_neg hj, if_neg (by omega)]
  · unfold zs_mc
    rw [if_neg hn, if_neg hn]
    rfl
theorem zs_um_lo {v : Int} : zg_up (zs_σ P S th (T, h) o w) (zp_B P + 70) (.inl (zp_ca P 1, 16, .inr (.inl (vp_updL (fun j => mz_L (zs_ex T j)) i (mz_L v))))) = zs_σ P S th (zs_sex T i v, h) o w := by
  refine zs_put ?_ (zs_hp_m (n := 3) fun n hn => ?_)
  · rw [zs_m3]
    congr 5
    refine congrArg Sum.inl (funext fun j => ?_)
    show mz_L (if j = i then v else zs_ex T j) = if j = i then mz_L v else mz_L (zs_ex T j)
    split <;> rfl
  · unfold zs_mc
    rw [if_neg hn, if_neg hn]
    rfl
theorem zs_um_hi {v : Int} : zg_up (zs_σ P S th (T, h) o w) (zp_B P + 71) (.inl (zp_ca P 1, 16, .inr (.inl (vp_updL (fun j => mz_L (h j)) i (mz_L v))))) = zs_σ P S th (T, zs_u1 h i v) o w := by
  refine zs_put ?_ (zs_hp_m (n := 4) fun n hn => ?_)
  · rw [zs_m4]
    congr 5
    refine congrArg Sum.inl (funext fun j => ?_)
    show mz_L (if j = i then v else h j) = if j = i then mz_L v else mz_L (h j)
    split <;> rfl
  · unfold zs_mc
    rw [if_neg hn, if_neg hn]
theorem zs_um_su {v : Bool} : zg_up (zs_σ P S th (T, h) o w) (zp_B P + 72) (.inl (zp_ca P 2, 16, .inl (upd (fun j => zs_bi (zs_su T j)) i (zs_bi v)))) = zs_σ P S th (zs_ssu T i v, h) o w := by
  refine zs_put ?_ (zs_hp_m (n := 5) fun n hn => ?_)
  · rw [zs_m5]
    congr 4
    refine congrArg Sum.inl (funext fun j => ?_)
    show zs_bi (if j = i then v else zs_su T j) = if j = i then zs_bi v else zs_bi (zs_su T j)
    split <;> rfl
  · unfold zs_mc
    rw [if_neg hn, if_neg hn]
    rfl
theorem zs_um_pg {v : Int32} (hk : k < 4) : zg_up (zs_σ P S th (T, h) o w) (zp_B P + 74) (.inl (zp_ca P 0, 128, .inl (upd (fun j => zs_pg T (j / 4) (j % 4)) (4 * i + k) v))) = zs_σ P S th (zs_spg T i k v, h) o w := by
  refine zs_put ?_ (zs_hp_m (n := 7) fun n hn => ?_)
  · rw [zs_m7]
    congr 4
    refine congrArg Sum.inl (funext fun j => ?_)
    show (if j / 4 = i ∧ j % 4 = k then v else zs_pg T (j / 4) (j % 4)) = if j = 4 * i + k then v else zs_pg T (j / 4) (j % 4)
    by_cases hj : j = 4 * i + k
    · rw [if_pos hj, if_pos (by omega)]
    · rw [if_neg hj, if_neg (by omega)]
  · unfold zs_mc
    rw [if_neg hn, if_neg hn]
    rfl
theorem zm_refuse_t {c : Nat} (hc : c < 4) : zg_G l (zs_E P) d mM_refuse 26 [(0, .ref (zp_B P + 67))] [.int (nI c), .ref (zp_B P + 67)] (zs_σ P S th (T, h) o w) (.inl (some (.int (zs_bi (decide (0 < c))))), zs_σ P S (nI c) (T, h) o w) := by
  refine zg_putf (zd_t dmM_refuse 14 rfl) zf_M_42 zt_3_0 zs_m0 (Nat.le_of_ble_eq_true rfl) rfl rfl zs_um_th ?_
  refine zg_aload_n (zd_t dmM_refuse 15 rfl) rfl ?_
  refine zg_getf (zd_t dmM_refuse 16 rfl) zf_M_42 zs_m0 rfl ?_
  by_cases h0 : c = 0
  · subst h0
    refine zg_if_le (tgt := 40) (zd_t dmM_refuse 17 rfl) (by decide) (fun _ => ?_) (fun hq => absurd (by decide) hq)
    refine zg_iconst (v := (nI 0)) (zd_t dmM_refuse 20 rfl) (by decide) ?_
    exact zg_zret (zd_t dmM_refuse 21 rfl) rfl rfl rfl
  · rw [decide_eq_true (by omega)]
    refine zg_if_le (tgt := 40) (zd_t dmM_refuse 17 rfl) (by decide) (fun hq => absurd hq (nI_nle (by omega) (by omega))) (fun _ => ?_)
    refine zg_iconst (v := (nI 1)) (zd_t dmM_refuse 18 rfl) (by decide) ?_
    refine zg_goto (tgt := 41) (zd_t dmM_refuse 19 rfl) (by decide) ?_
    exact zg_zret (zd_t dmM_refuse 21 rfl) rfl rfl rfl
theorem zm_refuse (b1 b2 b3 : Bool) : zg_C l (zs_E P) d mM_refuse [.ref (zp_B P + 67), .int (zs_bi b1), .int (zs_bi b2), .int (zs_bi b3)] (zs_σ P S th (T, h) o w) (.inl (some (.int (zs_bi (b1 || b2 || b3)))), zs_σ P S (nI (zs_rc b1 b2 b3)) (T, h) o w) := by
  refine zg_C_of (by decide +kernel) (Nat.le_of_ble_eq_true rfl) ?_
  refine zg_aload_n (zd_t dmM_refuse 0 rfl) rfl ?_
  refine zg_iload_n (zd_t dmM_refuse 1 rfl) rfl ?_
  cases b1 with
  | true =>
    refine zg_if_eq (tgt := 9) (zd_t dmM_refuse 2 rfl) (by decide) (fun hq => absurd hq (by decide)) (fun _ => ?_)
    refine zg_iconst (v := (nI 1)) (zd_t dmM_refuse 3 rfl) (by decide) ?_
    refine zg_goto (tgt := 26) (zd_t dmM_refuse 4 rfl) (by decide) ?_
    exact zg_lv [0] rfl (zm_refuse_t (c := 1) (by decide))
  | false =>
    refine zg_if_eq (tgt := 9) (zd_t dmM_refuse 2 rfl) (by decide) (fun _ => ?_) (fun hq => absurd (by decide) hq)
    refine zg_iload_n (zd_t dmM_refuse 5 rfl) rfl ?_
    cases b2 with
    | true =>
      refine zg_if_eq (tgt := 17) (zd_t dmM_refuse 6 rfl) (by decide) (fun hq => absurd hq (by decide)) (fun _ => ?_)
      refine zg_iconst (v := (nI 2)) (zd_t dmM_refuse 7 rfl) (by decide) ?_
      refine zg_goto (tgt := 26) (zd_t dmM_refuse 8 rfl) (by decide) ?_
      exact zg_lv [0] rfl (zm_refuse_t (c := 2) (by decide))
    | false =>
      refine zg_if_eq (tgt := 17) (zd_t dmM_refuse 6 rfl) (by decide) (fun _ => ?_) (fun hq => absurd (by decide) hq)
      refine zg_iload_n (zd_t dmM_refuse 9 rfl) rfl ?_
      cases b3 with
      | true =>
        refine zg_if_eq (tgt := 25) (zd_t dmM_refuse 10 rfl) (by decide) (fun hq => absurd hq (by decide)) (fun _ => ?_)
        refine zg_iconst (v := (nI 3)) (zd_t dmM_refuse 11 rfl) (by decide) ?_
        refine zg_goto (tgt := 26) (zd_t dmM_refuse 12 rfl) (by decide) ?_
        exact zg_lv [0] rfl (zm_refuse_t (c := 3) (by decide))
      | false =>
        refine zg_if_eq (tgt := 25) (zd_t dmM_refuse 10 rfl) (by decide) (fun _ => ?_) (fun hq => absurd (by decide) hq)
        refine zg_iconst (v := (nI 0)) (zd_t dmM_refuse 13 rfl) (by decide) ?_
        exact zg_lv [0] rfl (zm_refuse_t (c := 0) (by decide))
theorem zm_in {σ : zg_H} {x y z : Int} (hx : mz_wi x) (hy : mz_wi y) (hz : mz_wi z) : zg_C l (zs_E P) d mM_in [.long (mz_L x), .long (mz_L y), .long (mz_L z)] σ (.inl (some (.int (zs_bi (decide (y ≤ x ∧ x ≤ z))))), σ) := by
  refine zg_C_of (by decide +kernel) (Nat.le_of_ble_eq_true rfl) ?_
  refine zg_lload_n (zd_t dmM_in 0 rfl) rfl ?_
  refine zg_lload_n (zd_t dmM_in 1 rfl) rfl ?_
  refine zg_lcmp (zd_t dmM_in 2 rfl) ?_
  rw [mz_cmpW hx hy]
  by_cases h1 : y ≤ x
  · have e : ¬ (if y < x then (1 : Int32) else if x = y then 0 else -1) < 0 := by
      by_cases h2 : y < x
      · rw [if_pos h2]; decide
      · rw [if_neg h2, if_pos (by omega)]; decide
    refine zg_if_lt (tgt := 17) (zd_t dmM_in 3 rfl) (by decide) (fun hq => absurd hq e) (fun _ => ?_)
    refine zg_lload_n (zd_t dmM_in 4 rfl) rfl ?_
    refine zg_lload (zd_t dmM_in 5 rfl) rfl ?_
    refine zg_lcmp (zd_t dmM_in 6 rfl) ?_
    rw [mz_cmpW hx hz]
    by_cases h2 : x ≤ z
    · have e2 : ¬ 0 < (if z < x then (1 : Int32) else if x = z then 0 else -1) := by
        rw [if_neg (by omega)]
        split <;> decide
      refine zg_if_gt (tgt := 17) (zd_t dmM_in 7 rfl) (by decide) (fun hq => absurd hq e2) (fun _ => ?_)
      rw [decide_eq_true (by omega)]
      refine zg_iconst (v := (nI 1)) (zd_t dmM_in 8 rfl) (by decide) ?_
      refine zg_goto (tgt := 18) (zd_t dmM_in 9 rfl) (by decide) ?_
      exact zg_zret (zd_t dmM_in 11 rfl) rfl rfl rfl
    · have e2 : 0 < (if z < x then (1 : Int32) else if x = z then 0 else -1) := by
        rw [if_pos (by omega)]
        decide
      refine zg_if_gt (tgt := 17) (zd_t dmM_in 7 rfl) (by decide) (fun _ => ?_) (fun hq => absurd e2 hq)
      rw [decide_eq_false (by omega)]
      refine zg_iconst (v := (nI 0)) (zd_t dmM_in 10 rfl) (by decide) ?_
      exact zg_zret (zd_t dmM_in 11 rfl) rfl rfl rfl
  · have e : (if y < x then (1 : Int32) else if x = y then 0 else -1) < 0 := by
      rw [if_neg (by omega), if_neg (by omega)]
      decide
    refine zg_if_lt (tgt := 17) (zd_t dmM_in 3 rfl) (by decide) (fun _ => ?_) (fun hq => absurd e hq)
    rw [decide_eq_false (by omega)]
    refine zg_iconst (v := (nI 0)) (zd_t dmM_in 10 rfl) (by decide) ?_
    exact zg_zret (zd_t dmM_in 11 rfl) rfl rfl rfl
theorem zs_wi32 (x : Int32) : mz_wi x.toInt := by
  have h1 := Int32.le_toInt x
  have h2 := Int32.toInt_lt x
  unfold mz_wi
  omega
theorem zm_isRegister {σ : zg_H} (r : Int32) : zg_C l (zs_E P) (d + 1) mM_isRegister [.int r] σ (.inl (some (.int (zs_bi (decide (zs_ir r))))), σ) := by
  refine zg_C_of (by decide +kernel) (Nat.le_of_ble_eq_true rfl) ?_
  refine zg_iload_n (zd_t dmM_isRegister 0 rfl) rfl ?_
  refine zg_i2l (zd_t dmM_isRegister 1 rfl) rfl ?_
  rw [zs_i2l]
  refine zg_lconst (v := mz_L 0) (zd_t dmM_isRegister 2 rfl) (by decide) ?_
  refine zg_ldc2 (zd_t dmM_isRegister 3 rfl) zc_M_46 ?_
  refine zg_callS (zd_t dmM_isRegister 4 rfl) zl_M_48 zm_mM_in zst_mM_in (av := _) (rest := _) (by rfl) (by rfl) (by exact Nat.le_of_ble_eq_true rfl) (zm_in (x := r.toInt) (y := 0) (z := 15) (zs_wi32 r) (by unfold mz_wi; omega) (by unfold mz_wi; omega)) ?_
  refine zg_zret (zd_t dmM_isRegister 5 rfl) rfl (zs_nb _) ?_
  rw [show decide (zs_ir r) = decide (0 ≤ r.toInt ∧ r.toInt ≤ 15) from decide_eq_decide.mpr (by unfold zs_ir; omega)]
theorem zm_isInstruction {σ : zg_H} (r : Int32) : zg_C l (zs_E P) (d + 1) mM_isInstruction [.int r] σ (.inl (some (.int (zs_bi (decide (zs_ii r))))), σ) := by
  refine zg_C_of (by decide +kernel) (Nat.le_of_ble_eq_true rfl) ?_
  refine zg_iload_n (zd_t dmM_isInstruction 0 rfl) rfl ?_
  refine zg_i2l (zd_t dmM_isInstruction 1 rfl) rfl ?_
  rw [zs_i2l]
  refine zg_lconst (v := mz_L 0) (zd_t dmM_isInstruction 2 rfl) (by decide) ?_
  refine zg_ldc2 (zd_t dmM_isInstruction 3 rfl) zc_M_131 ?_
  refine zg_callS (zd_t dmM_isInstruction 4 rfl) zl_M_48 zm_mM_in zst_mM_in (av := _) (rest := _) (by rfl) (by rfl) (by exact Nat.le_of_ble_eq_true rfl) (zm_in (x := r.toInt) (y := 0) (z := 31) (zs_wi32 r) (by unfold mz_wi; omega) (by unfold mz_wi; omega)) ?_
  refine zg_zret (zd_t dmM_isInstruction 5 rfl) rfl (zs_nb _) ?_
  rw [show decide (zs_ii r) = decide (0 ≤ r.toInt ∧ r.toInt ≤ 31) from decide_eq_decide.mpr (by unfold zs_ii; omega)]
theorem zm_rest {σ : zg_H} {v : Int} {m : Nat} (hv : mz_in v) (h0 : 0 < m) (hm : m ≤ 256) : zg_C l (zs_E P) d mM_rest [.long (mz_L v), .int (nI m)] σ (.inl (some (.int (nI (v % (m : Int)).toNat))), σ) := by
  refine zg_C_of (by decide +kernel) (Nat.le_of_ble_eq_true rfl) ?_
  have hmi : mz_in (m : Int) := by unfold mz_in; omega
  have hz : mz_in 0 := by unfold mz_in; omega
  have hm0 : ¬ mz_L (m : Int) = 0 := fun h => by
    have : mz_L (m : Int) = mz_L 0 := h
    rw [mz_eq hmi hz] at this
    omega
  have h1 := Int.emod_nonneg v (show (m : Int) ≠ 0 by omega)
  have h2 := Int.emod_lt_of_pos v (show 0 < (m : Int) by omega)
  have h3 := mz_tm (a := v) (show 0 < (m : Int) by omega)
  have hti : mz_in (v.tmod (m : Int)) := by unfold mz_in; rcases h3 with h3 | h3 <;> omega
  refine zg_lload_n (zd_t dmM_rest 0 rfl) rfl ?_
  refine zg_iload_n (zd_t dmM_rest 1 rfl) rfl ?_
  refine zg_i2l (zd_t dmM_rest 2 rfl) rfl ?_
  rw [mz_i2l (show m < 2 ^ 31 by omega)]
  refine zg_lrem (zd_t dmM_rest 3 rfl) hm0 ?_
  rw [mz_rem hv hmi]
  refine zg_lstore_n (zd_t dmM_rest 4 rfl) (by decide) rfl ?_
  refine zg_lload_n (zd_t dmM_rest 5 rfl) rfl ?_
  refine zg_lconst (v := mz_L 0) (zd_t dmM_rest 6 rfl) (by decide) ?_
  refine zg_lcmp (zd_t dmM_rest 7 rfl) ?_
  refine zg_if_ge (tgt := 18) (zd_t dmM_rest 8 rfl) (by decide) (fun h4 => ?_) (fun h4 => ?_)
  · rw [lg_cmp_ge, mz_le hz hti] at h4
    refine zg_lload_n (zd_t dmM_rest 14 rfl) rfl ?_
    refine zg_l2i (zd_t dmM_rest 15 rfl) (v := nI (v % (m : Int)).toNat) ?_ ?_
    · have : v.tmod (m : Int) = ((v % (m : Int)).toNat : Int) := by rcases h3 with h3 | h3 <;> omega
      rw [this, mz_l2i]
    · exact zg_iret (zd_t dmM_rest 16 rfl) rfl rfl
  · rw [lg_cmp_ge, mz_le hz hti] at h4
    refine zg_lload_n (zd_t dmM_rest 9 rfl) rfl ?_
    refine zg_iload_n (zd_t dmM_rest 10 rfl) rfl ?_
    refine zg_i2l (zd_t dmM_rest 11 rfl) rfl ?_
    rw [mz_i2l (show m < 2 ^ 31 by omega)]
    refine zg_ladd (zd_t dmM_rest 12 rfl) ?_
    refine zg_goto (tgt := 19) (zd_t dmM_rest 13 rfl) (by decide) ?_
    rw [mz_add]
    refine zg_l2i (zd_t dmM_rest 15 rfl) (v := nI (v % (m : Int)).toNat) ?_ ?_
    · have : v.tmod (m : Int) + (m : Int) = ((v % (m : Int)).toNat : Int) := by rcases h3 with h3 | h3 <;> omega
      rw [this, mz_l2i]
    · exact zg_iret (zd_t dmM_rest 16 rfl) rfl rfl
/-- a row with another residue in the place before c -/
def mz_alt (ρ : Nat → Nat) (c v : Nat) : Nat → Nat := fun j => if j + 1 = c then v else ρ j
theorem zm_valueWith_lp {c v : Nat} (hi : i < 16) (hc : c ≤ 6) (hv : v ≤ 256) (hok : mz_ok (zs_re T i)) : ∀ (n k : Nat), k + n = 6 → zg_G l (zs_E P) d mM_valueWith 6 [(6, .int (nI k)), (4, .long (mz_L ((mz_sum (mz_alt (zs_re T i) c v) k % 175107974924611 : Nat) : Int))), (0, .ref (zp_B P + 67)), (1, .int (nI i)), (2, .int (nI c)), (3, .int (nI v))] [] (zs_σ P S th (T, h) o w) (.inl (some (.long (mz_L (mz_val (mz_alt (zs_re T i) c v))))), zs_σ P S th (T, h) o w) := by
  have hM : mz_in 175107974924611 := by unfold mz_in; omega
  have hH : mz_in 87553987462305 := by unfold mz_in; omega
  intro n
  induction n with
  | zero =>
    intro k hk
    have hk : k = 6 := by omega
    subst hk
    obtain ⟨q, hq⟩ : ∃ q : Nat, q = mz_sum (mz_alt (zs_re T i) c v) 6 % 175107974924611 := ⟨_, rfl⟩
    have hval : mz_val (mz_alt (zs_re T i) c v) = if (q : Int) > 87553987462305 then (q : Int) - 175107974924611 else (q : Int) := by rw [mz_val_sum, hq]
    rw [← hq]
    have hq3 : q < 175107974924611 := by omega
    have hqi : mz_in (q : Int) := by unfold mz_in; omega
    refine zg_iload (zd_t dmM_valueWith 4 rfl) rfl ?_
    refine zg_bipush (v := (nI 6)) (zd_t dmM_valueWith 5 rfl) (by decide) ?_
    refine zg_icmp_ge (tgt := 67) (zd_t dmM_valueWith 6 rfl) (by decide) (fun _ => ?_) (fun hq => absurd (by decide) hq)
    refine zg_lload (zd_t dmM_valueWith 39 rfl) rfl ?_
    refine zg_aload_n (zd_t dmM_valueWith 40 rfl) rfl ?_
    refine zg_getf (zd_t dmM_valueWith 41 rfl) zf_M_39 zs_m0 rfl ?_
    refine zg_lcmp (zd_t dmM_valueWith 42 rfl) ?_
    refine zg_if_le (tgt := 87) (zd_t dmM_valueWith 43 rfl) (by decide) (fun h1 => ?_) (fun h1 => ?_)
    · rw [lg_cmp_le, mz_le hqi hH] at h1
      refine zg_lload (zd_t dmM_valueWith 49 rfl) rfl ?_
      refine zg_lret (zd_t dmM_valueWith 50 rfl) rfl ?_
      rw [hval, if_neg (by omega)]
    · rw [lg_cmp_le, mz_le hqi hH] at h1
      refine zg_lload (zd_t dmM_valueWith 44 rfl) rfl ?_
      refine zg_aload_n (zd_t dmM_valueWith 45 rfl) rfl ?_
      refine zg_getf (zd_t dmM_valueWith 46 rfl) zf_M_33 zs_m0 rfl ?_
      refine zg_lsub (zd_t dmM_valueWith 47 rfl) ?_
      refine zg_goto (tgt := 89) (zd_t dmM_valueWith 48 rfl) (by decide) ?_
      refine zg_lret (zd_t dmM_valueWith 50 rfl) rfl ?_
      rw [hval, if_pos (by omega), mz_sub]
  | succ n ih =>
    intro k hk
    obtain ⟨q, hq⟩ : ∃ q : Nat, q = mz_sum (mz_alt (zs_re T i) c v) k % 175107974924611 := ⟨_, rfl⟩
    rw [← hq]
    have hq3 : q < 175107974924611 := by omega
    have hr := hok k (by omega)
    have hm := mz_m_lt k
    have hw : mz_w k ≤ 175000000000000 := by unfold mz_w; split <;> decide
    have tl : ∀ x : Nat, x = mz_alt (zs_re T i) c v k → x ≤ 256 → zg_G l (zs_E P) d mM_valueWith 39 [(6, .int (nI k)), (4, .long (mz_L (q : Int))), (0, .ref (zp_B P + 67)), (1, .int (nI i)), (2, .int (nI c)), (3, .int (nI v))] [.long (mz_L (x : Int))] (zs_σ P S th (T, h) o w) (.inl (some (.long (mz_L (mz_val (mz_alt (zs_re T i) c v))))), zs_σ P S th (T, h) o w) := by
      intro x hx hx2
      have hxw := Nat.mul_le_mul hx2 hw
      refine zg_lstore (zd_t dmM_valueWith 24 rfl) (by decide) rfl ?_
      refine zg_lload (zd_t dmM_valueWith 25 rfl) rfl ?_
      refine zg_lload (zd_t dmM_valueWith 26 rfl) rfl ?_
      refine zg_aload_n (zd_t dmM_valueWith 27 rfl) rfl ?_
      refine zg_getf (zd_t dmM_valueWith 28 rfl) zf_M_27 zs_m0 rfl ?_
      refine zg_iload (zd_t dmM_valueWith 29 rfl) rfl ?_
      refine zg_lald (t0 := 1) (zd_t dmM_valueWith 30 rfl) zs_m6 rfl rfl (show k < 6 by omega) (by decide) ?_
      rw [show zs_un k = mz_L (mz_w k : Int) from if_pos (by omega)]
      refine zg_lmul (zd_t dmM_valueWith 31 rfl) ?_
      refine zg_ladd (zd_t dmM_valueWith 32 rfl) ?_
      refine zg_aload_n (zd_t dmM_valueWith 33 rfl) rfl ?_
      refine zg_getf (zd_t dmM_valueWith 34 rfl) zf_M_33 zs_m0 rfl ?_
      rw [mz_mul, mz_add]
      refine zg_lrem (zd_t dmM_valueWith 35 rfl) (by decide) ?_
      rw [show (q : Int) + (x : Int) * (mz_w k : Int) = ((q + x * mz_w k : Nat) : Int) by omega]
      rw [mz_rem (by unfold mz_in; omega) hM, Int.tmod_eq_emod_of_nonneg (by omega)]
      have e : ((q + x * mz_w k : Nat) : Int) % 175107974924611 = ((mz_sum (mz_alt (zs_re T i) c v) (k + 1) % 175107974924611 : Nat) : Int) := by
        rw [show mz_sum (mz_alt (zs_re T i) c v) (k + 1) = mz_sum (mz_alt (zs_re T i) c v) k + mz_alt (zs_re T i) c v k * mz_w k from rfl, ← hx]
        omega
      rw [e]
      refine zg_lstore (zd_t dmM_valueWith 36 rfl) (by decide) rfl ?_
      refine zg_iinc (lv2 := [(6, .int (nI (k + 1))), (4, .long (mz_L ((mz_sum (mz_alt (zs_re T i) c v) (k + 1) % 175107974924611 : Nat) : Int))), (7, .long (mz_L (x : Int))), (0, .ref (zp_B P + 67)), (1, .int (nI i)), (2, .int (nI c)), (3, .int (nI v))]) (zd_t dmM_valueWith 37 rfl) rfl (mz_inc k) (by decide) rfl ?_
      refine zg_goto (tgt := 6) (zd_t dmM_valueWith 38 rfl) (by decide) ?_
      exact zg_lv [0, 1, 3, 4, 5, 6] rfl (ih (k + 1) (by omega))
    refine zg_iload (zd_t dmM_valueWith 4 rfl) rfl ?_
    refine zg_bipush (v := (nI 6)) (zd_t dmM_valueWith 5 rfl) (by decide) ?_
    refine zg_icmp_ge (tgt := 67) (zd_t dmM_valueWith 6 rfl) (by decide) (fun hq => absurd hq (fun h => absurd ((nI_leI (by decide) (by omega)).mp h) (by omega))) (fun _ => ?_)
    refine zg_iload (zd_t dmM_valueWith 7 rfl) rfl ?_
    refine zg_iconst (v := (nI 1)) (zd_t dmM_valueWith 8 rfl) (by decide) ?_
    refine zg_iadd (zd_t dmM_valueWith 9 rfl) ?_
    refine zg_iload_n (zd_t dmM_valueWith 10 rfl) rfl ?_
    rw [nI_add]
    by_cases hkc : k + 1 = c
    · refine zg_icmp_ne (tgt := 26) (zd_t dmM_valueWith 11 rfl) (by decide) (fun hq => absurd (by rw [hkc]) hq) (fun _ => ?_)
      refine zg_iload_n (zd_t dmM_valueWith 12 rfl) rfl ?_
      refine zg_i2l (zd_t dmM_valueWith 13 rfl) rfl ?_
      rw [mz_i2l (show v < 2 ^ 31 by omega)]
      refine zg_goto (tgt := 39) (zd_t dmM_valueWith 14 rfl) (by decide) ?_
      exact tl v (if_pos hkc).symm hv
    · refine zg_icmp_ne (tgt := 26) (zd_t dmM_valueWith 11 rfl) (by decide) (fun _ => ?_) (fun hq => absurd hq (fun h => hkc ((nI_eq (by omega) (by omega)).mp h)))
      refine zg_aload_n (zd_t dmM_valueWith 15 rfl) rfl ?_
      refine zg_getf (zd_t dmM_valueWith 16 rfl) zf_M_13 zs_m0 rfl ?_
      refine zg_bipush (v := (nI 8)) (zd_t dmM_valueWith 17 rfl) (by decide) ?_
      refine zg_iload_n (zd_t dmM_valueWith 18 rfl) rfl ?_
      refine zg_imul (zd_t dmM_valueWith 19 rfl) ?_
      refine zg_iload (zd_t dmM_valueWith 20 rfl) rfl ?_
      refine zg_iadd (zd_t dmM_valueWith 21 rfl) ?_
      refine zg_iald (k := 8 * i + k) (t0 := 0) (zd_t dmM_valueWith 22 rfl) zs_m2 rfl (zs_ix8 i k) (by omega) (by decide) ?_
      rw [(zs_q8 (show k < 8 by omega)).1, (zs_q8 (show k < 8 by omega)).2]
      refine zg_i2l (zd_t dmM_valueWith 23 rfl) rfl ?_
      rw [mz_i2l (show zs_re T i k < 2 ^ 31 by omega)]
      exact tl (zs_re T i k) (if_neg hkc).symm (by omega)
theorem zm_valueWith {c v : Nat} (hi : i < 16) (hc : c ≤ 6) (hv : v ≤ 256) (hok : mz_ok (zs_re T i)) : zg_C l (zs_E P) d mM_valueWith [.ref (zp_B P + 67), .int (nI i), .int (nI c), .int (nI v)] (zs_σ P S th (T, h) o w) (.inl (some (.long (mz_L (mz_val (mz_alt (zs_re T i) c v))))), zs_σ P S th (T, h) o w) := by
  refine zg_C_of (by decide +kernel) (Nat.le_of_ble_eq_true rfl) ?_
  refine zg_lconst (v := mz_L 0) (zd_t dmM_valueWith 0 rfl) (by decide) ?_
  refine zg_lstore (zd_t dmM_valueWith 1 rfl) (by decide) rfl ?_
  refine zg_iconst (v := (nI 0)) (zd_t dmM_valueWith 2 rfl) (by decide) ?_
  refine zg_istore (zd_t dmM_valueWith 3 rfl) (by decide) rfl ?_
  exact zm_valueWith_lp hi hc hv hok 6 0 rfl
theorem zm_valueOf (hi : i < 16) (hok : mz_ok (zs_re T i)) : zg_C l (zs_E P) (d + 1) mM_valueOf [.ref (zp_B P + 67), .int (nI i)] (zs_σ P S th (T, h) o w) (.inl (some (.long (mz_L (mz_val (zs_re T i))))), zs_σ P S th (T, h) o w) := by
  refine zg_C_of (by decide +kernel) (Nat.le_of_ble_eq_true rfl) ?_
  refine zg_aload_n (zd_t dmM_valueOf 0 rfl) rfl ?_
  refine zg_iload_n (zd_t dmM_valueOf 1 rfl) rfl ?_
  refine zg_iconst (v := (nI 0)) (zd_t dmM_valueOf 2 rfl) (by decide) ?_
  refine zg_iconst (v := (nI 0)) (zd_t dmM_valueOf 3 rfl) (by decide) ?_
  refine zg_callV (zd_t dmM_valueOf 4 rfl) zl_M_52 zm_mM_valueWith zi_mM_valueWith zse_mM_valueWith zs_m0 zs_cl3 rfl (av := _) (rest := _) (by rfl) (by rfl) (by exact Nat.le_of_ble_eq_true rfl) (zm_valueWith (c := 0) (v := 0) hi (by decide) (by decide) hok) ?_
  rw [show mz_val (mz_alt (zs_re T i) 0 0) = mz_val (zs_re T i) from rfl]
  exact zg_lret (zd_t dmM_valueOf 5 rfl) rfl rfl
theorem zm_fits {v : Int} (hi : i < 16) (hk : k < 8) (hv : mz_in v) (hok : mz_ok (zs_re T i)) : zg_C l (zs_E P) (d + 1) mM_fits [.ref (zp_B P + 67), .long (mz_L v), .int (nI i), .int (nI k)] (zs_σ P S th (T, h) o w) (.inl (some (.int (zs_bi (decide (v % (mz_m k : Int) = (zs_re T i k : Int)))))), zs_σ P S th (T, h) o w) := by
  refine zg_C_of (by decide +kernel) (Nat.le_of_ble_eq_true rfl) ?_
  have hm := mz_m_lt k
  have hr := hok k hk
  have h1 := mz_md_lt v k
  have h2 := Int.emod_nonneg v (show (mz_m k : Int) ≠ 0 by omega)
  refine zg_lload_n (zd_t dmM_fits 0 rfl) rfl ?_
  refine zg_aload_n (zd_t dmM_fits 1 rfl) rfl ?_
  refine zg_getf (zd_t dmM_fits 2 rfl) zf_M_7 zs_m0 rfl ?_
  refine zg_iload (zd_t dmM_fits 3 rfl) rfl ?_
  refine zg_iald (k := k) (t0 := 0) (zd_t dmM_fits 4 rfl) zs_m1 rfl rfl hk (by decide) ?_
  rw [show zs_mo k = nI (mz_m k) from if_pos hk]
  refine zg_callS (zd_t dmM_fits 5 rfl) zl_M_56 zm_mM_rest zst_mM_rest (av := _) (rest := _) (by rfl) (by rfl) (by exact Nat.le_of_ble_eq_true rfl) (zm_rest hv hm.2 hm.1) ?_
  refine zg_aload_n (zd_t dmM_fits 6 rfl) rfl ?_
  refine zg_getf (zd_t dmM_fits 7 rfl) zf_M_13 zs_m0 rfl ?_
  refine zg_bipush (v := (nI 8)) (zd_t dmM_fits 8 rfl) (by decide) ?_
  refine zg_iload_n (zd_t dmM_fits 9 rfl) rfl ?_
  refine zg_imul (zd_t dmM_fits 10 rfl) ?_
  refine zg_iload (zd_t dmM_fits 11 rfl) rfl ?_
  refine zg_iadd (zd_t dmM_fits 12 rfl) ?_
  refine zg_iald (k := 8 * i + k) (t0 := 0) (zd_t dmM_fits 13 rfl) zs_m2 rfl (zs_ix8 i k) (by omega) (by decide) ?_
  rw [(zs_q8 hk).1, (zs_q8 hk).2]
  have en : nI (v % (mz_m k : Int)).toNat = nI (zs_re T i k) ↔ v % (mz_m k : Int) = (zs_re T i k : Int) := by rw [nI_eq (by omega) (by omega)]; omega
  by_cases hf : v % (mz_m k : Int) = (zs_re T i k : Int)
  · rw [decide_eq_true hf]
    refine zg_icmp_ne (tgt := 30) (zd_t dmM_fits 14 rfl) (by decide) (fun hq => absurd (en.mpr hf) hq) (fun _ => ?_)
    refine zg_iconst (v := (nI 1)) (zd_t dmM_fits 15 rfl) (by decide) ?_
    refine zg_goto (tgt := 31) (zd_t dmM_fits 16 rfl) (by decide) ?_
    exact zg_zret (zd_t dmM_fits 18 rfl) rfl rfl rfl
  · rw [decide_eq_false hf]
    refine zg_icmp_ne (tgt := 30) (zd_t dmM_fits 14 rfl) (by decide) (fun _ => ?_) (fun hq => absurd hq (fun h => hf (en.mp h)))
    refine zg_iconst (v := (nI 0)) (zd_t dmM_fits 17 rfl) (by decide) ?_
    exact zg_zret (zd_t dmM_fits 18 rfl) rfl rfl rfl
theorem zm_isGood (hi : i < 16) (hok : mz_ok (zs_re T i)) : zg_C l (zs_E P) (d + 2) mM_isGood [.ref (zp_B P + 67), .int (nI i)] (zs_σ P S th (T, h) o w) (.inl (some (.int (zs_bi (decide (mz_good (zs_re T i)))))), zs_σ P S th (T, h) o w) := by
  refine zg_C_of (by decide +kernel) (Nat.le_of_ble_eq_true rfl) ?_
  refine zg_aload_n (zd_t dmM_isGood 0 rfl) rfl ?_
  refine zg_aload_n (zd_t dmM_isGood 1 rfl) rfl ?_
  refine zg_iload_n (zd_t dmM_isGood 2 rfl) rfl ?_
  refine zg_callV (zd_t dmM_isGood 3 rfl) zl_M_60 zm_mM_valueOf zi_mM_valueOf zse_mM_valueOf zs_m0 zs_cl3 rfl (av := _) (rest := _) (by rfl) (by rfl) (by exact Nat.le_of_ble_eq_true rfl) (zm_valueOf hi hok) ?_
  refine zg_iload_n (zd_t dmM_isGood 4 rfl) rfl ?_
  refine zg_bipush (v := (nI 6)) (zd_t dmM_isGood 5 rfl) (by decide) ?_
  refine zg_callV (zd_t dmM_isGood 6 rfl) zl_M_64 zm_mM_fits zi_mM_fits zse_mM_fits zs_m0 zs_cl3 rfl (av := _) (rest := _) (by rfl) (by rfl) (by exact Nat.le_of_ble_eq_true rfl) (zm_fits (k := 6) hi (by decide) (mz_val_in _) hok) ?_
  rw [show (mz_m 6 : Int) = 256 from rfl]
  by_cases h1 : mz_val (zs_re T i) % 256 = (zs_re T i 6 : Int)
  · rw [decide_eq_true h1]
    refine zg_if_eq (tgt := 34) (zd_t dmM_isGood 7 rfl) (by decide) (fun hq => absurd hq (by decide)) (fun _ => ?_)
    refine zg_aload_n (zd_t dmM_isGood 8 rfl) rfl ?_
    refine zg_aload_n (zd_t dmM_isGood 9 rfl) rfl ?_
    refine zg_iload_n (zd_t dmM_isGood 10 rfl) rfl ?_
    refine zg_callV (zd_t dmM_isGood 11 rfl) zl_M_60 zm_mM_valueOf zi_mM_valueOf zse_mM_valueOf zs_m0 zs_cl3 rfl (av := _) (rest := _) (by rfl) (by rfl) (by exact Nat.le_of_ble_eq_true rfl) (zm_valueOf hi hok) ?_
    refine zg_iload_n (zd_t dmM_isGood 12 rfl) rfl ?_
    refine zg_bipush (v := (nI 7)) (zd_t dmM_isGood 13 rfl) (by decide) ?_
    refine zg_callV (zd_t dmM_isGood 14 rfl) zl_M_64 zm_mM_fits zi_mM_fits zse_mM_fits zs_m0 zs_cl3 rfl (av := _) (rest := _) (by rfl) (by rfl) (by exact Nat.le_of_ble_eq_true rfl) (zm_fits (k := 7) hi (by decide) (mz_val_in _) hok) ?_
    rw [show (mz_m 7 : Int) = 255 from rfl]
    by_cases h2 : mz_val (zs_re T i) % 255 = (zs_re T i 7 : Int)
    · rw [decide_eq_true h2, decide_eq_true (show mz_good (zs_re T i) from ⟨h1, h2⟩)]
      refine zg_if_eq (tgt := 34) (zd_t dmM_isGood 15 rfl) (by decide) (fun hq => absurd hq (by decide)) (fun _ => ?_)
      refine zg_iconst (v := (nI 1)) (zd_t dmM_isGood 16 rfl) (by decide) ?_
      refine zg_goto (tgt := 35) (zd_t dmM_isGood 17 rfl) (by decide) ?_
      exact zg_zret (zd_t dmM_isGood 19 rfl) rfl rfl rfl
    · rw [decide_eq_false h2, decide_eq_false (fun hg : mz_good (zs_re T i) => h2 hg.2)]
      refine zg_if_eq (tgt := 34) (zd_t dmM_isGood 15 rfl) (by decide) (fun _ => ?_) (fun hq => absurd (by decide) hq)
      refine zg_iconst (v := (nI 0)) (zd_t dmM_isGood 18 rfl) (by decide) ?_
      exact zg_zret (zd_t dmM_isGood 19 rfl) rfl rfl rfl
  · rw [decide_eq_false h1, decide_eq_false (fun hg : mz_good (zs_re T i) => h1 hg.1)]
    refine zg_if_eq (tgt := 34) (zd_t dmM_isGood 7 rfl) (by decide) (fun _ => ?_) (fun hq => absurd (by decide) hq)
    refine zg_iconst (v := (nI 0)) (zd_t dmM_isGood 18 rfl) (by decide) ?_
    exact zg_zret (zd_t dmM_isGood 19 rfl) rfl rfl rfl
theorem zm_put_lp {v : Int} (hi : i < 16) (hv : mz_in v) : ∀ (n k : Nat), k + n = 8 → zg_G l (zs_E P) (d + 1) mM_put 3 [(4, .int (nI k)), (0, .ref (zp_B P + 67)), (1, .int (nI i)), (2, .long (mz_L v))] [] (zs_σ P S th (zs_pk T i v k, h) o w) (.inl none, zs_σ P S th (zs_sput T i v, zs_u1 h i v) o w) := by
  intro n
  induction n with
  | zero =>
    intro k hk
    have hk : k = 8 := by omega
    subst hk
    refine zg_iload (zd_t dmM_put 2 rfl) rfl ?_
    refine zg_bipush (v := (nI 8)) (zd_t dmM_put 3 rfl) (by decide) ?_
    refine zg_icmp_ge (tgt := 39) (zd_t dmM_put 4 rfl) (by decide) (fun _ => ?_) (fun hq => absurd (by decide) hq)
    refine zg_aload_n (zd_t dmM_put 21 rfl) rfl ?_
    refine zg_getf (zd_t dmM_put 22 rfl) zf_M_16 zs_m0 rfl ?_
    refine zg_iload_n (zd_t dmM_put 23 rfl) rfl ?_
    refine zg_lload_n (zd_t dmM_put 24 rfl) rfl ?_
    refine zg_last (k := i) (t0 := 1) (zd_t dmM_put 25 rfl) zs_m3 rfl rfl hi (by decide) zs_um_lo ?_
    refine zg_aload_n (zd_t dmM_put 26 rfl) rfl ?_
    refine zg_getf (zd_t dmM_put 27 rfl) zf_M_20 zs_m0 rfl ?_
    refine zg_iload_n (zd_t dmM_put 28 rfl) rfl ?_
    refine zg_lload_n (zd_t dmM_put 29 rfl) rfl ?_
    refine zg_last (k := i) (t0 := 1) (zd_t dmM_put 30 rfl) zs_m4 rfl rfl hi (by decide) zs_um_hi ?_
    refine zg_aload_n (zd_t dmM_put 31 rfl) rfl ?_
    refine zg_getf (zd_t dmM_put 32 rfl) zf_M_23 zs_m0 rfl ?_
    refine zg_iload_n (zd_t dmM_put 33 rfl) rfl ?_
    refine zg_iconst (v := (nI 1)) (zd_t dmM_put 34 rfl) (by decide) ?_
    refine zg_zast (k := i) (t0 := 2) (zd_t dmM_put 35 rfl) zs_m5 rfl rfl hi (by decide) rfl (zs_um_su (v := true)) ?_
    exact zg_vret (zd_t dmM_put 36 rfl) rfl rfl
  | succ n ih =>
    intro k hk
    have hm := mz_m_lt k
    refine zg_iload (zd_t dmM_put 2 rfl) rfl ?_
    refine zg_bipush (v := (nI 8)) (zd_t dmM_put 3 rfl) (by decide) ?_
    refine zg_icmp_ge (tgt := 39) (zd_t dmM_put 4 rfl) (by decide) (fun hq => absurd hq (fun h => absurd ((nI_leI (by decide) (by omega)).mp h) (by omega))) (fun _ => ?_)
    refine zg_aload_n (zd_t dmM_put 5 rfl) rfl ?_
    refine zg_getf (zd_t dmM_put 6 rfl) zf_M_13 zs_m0 rfl ?_
    refine zg_bipush (v := (nI 8)) (zd_t dmM_put 7 rfl) (by decide) ?_
    refine zg_iload_n (zd_t dmM_put 8 rfl) rfl ?_
    refine zg_imul (zd_t dmM_put 9 rfl) ?_
    refine zg_iload (zd_t dmM_put 10 rfl) rfl ?_
    refine zg_iadd (zd_t dmM_put 11 rfl) ?_
    refine zg_lload_n (zd_t dmM_put 12 rfl) rfl ?_
    refine zg_aload_n (zd_t dmM_put 13 rfl) rfl ?_
    refine zg_getf (zd_t dmM_put 14 rfl) zf_M_7 zs_m0 rfl ?_
    refine zg_iload (zd_t dmM_put 15 rfl) rfl ?_
    refine zg_iald (k := k) (t0 := 0) (zd_t dmM_put 16 rfl) zs_m1 rfl rfl (show k < 8 by omega) (by decide) ?_
    rw [show zs_mo k = nI (mz_m k) from if_pos (by omega)]
    refine zg_callS (zd_t dmM_put 17 rfl) zl_M_56 zm_mM_rest zst_mM_rest (av := _) (rest := _) (by rfl) (by rfl) (by exact Nat.le_of_ble_eq_true rfl) (zm_rest hv hm.2 hm.1) ?_
    refine zg_iast (k := 8 * i + k) (t0 := 0) (zd_t dmM_put 18 rfl) zs_m2 rfl (zs_ix8 i k) (by omega) (by decide) ((zs_um_re (by omega)).trans (by rw [zs_pk_s])) ?_
    refine zg_iinc (lv2 := [(4, .int (nI (k + 1))), (0, .ref (zp_B P + 67)), (1, .int (nI i)), (2, .long (mz_L v))]) (zd_t dmM_put 19 rfl) rfl (mz_inc k) (by decide) rfl ?_
    refine zg_goto (tgt := 3) (zd_t dmM_put 20 rfl) (by decide) ?_
    exact ih (k + 1) (by omega)
theorem zm_put {v : Int} (hi : i < 16) (hv : mz_in v) : zg_C l (zs_E P) (d + 1) mM_put [.ref (zp_B P + 67), .int (nI i), .long (mz_L v)] (zs_σ P S th (T, h) o w) (.inl none, zs_σ P S th (zs_sput T i v, zs_u1 h i v) o w) := by
  refine zg_C_of (by decide +kernel) (Nat.le_of_ble_eq_true rfl) ?_
  refine zg_iconst (v := (nI 0)) (zd_t dmM_put 0 rfl) (by decide) ?_
  refine zg_istore (zd_t dmM_put 1 rfl) (by decide) rfl ?_
  have g := zm_put_lp (l := l) (P := P) (d := d) (S := S) (T := T) (h := h) (th := th) (o := o) (w := w) hi hv 8 0 rfl
  rw [zs_pk_0] at g
  exact g
end ZM13
