abbrev zs_n (x : Int32) : Nat := x.toInt.toNat
theorem zs_n_nI {n : Nat} (h : n < 2147483648) : zs_n (nI n) = n := by unfold zs_n; rw [nI_toInt h]; omega
theorem zs_irN {r : Int32} (h : zs_ir r) : ∃ j : Nat, j < 16 ∧ r = nI j := zs_nof h.1 h.2 (by decide)
theorem zs_iiN {r : Int32} (h : zs_ii r) : ∃ j : Nat, j < 32 ∧ r = nI j := zs_nof h.1 h.2 (by decide)
theorem zs_smN {r : Int32} (h : mz_sm r) : ∃ j : Nat, j < 64 ∧ r = nI j ∧ mz_pop j ≤ 4 := by
  obtain ⟨j, h1, h2⟩ := zs_nof (n := 64) (x := r) (by have := h.1; omega) h.2.1 (by decide)
  refine ⟨j, h1, h2, ?_⟩
  have := h.2.2
  rw [h2, show (nI j).toInt.toNat = j from zs_n_nI (by omega)] at this
  exact this
theorem zs_i2l (b : Int32) : b.toInt64 = mz_L b.toInt := by
  have h1 := Int32.le_toInt b
  have h2 := Int32.toInt_lt b
  exact Int64.toInt_inj.mp (by rw [Int32.toInt_toInt64, mz_int (by omega) (by omega)])
theorem zs_alw_k {k a b c : Int32} (h : zs_alw k a b c = true) : ∃ n, n < 12 ∧ k = nI n ∧ zs_al n a b c = true := by
  unfold zs_alw at h
  by_cases hk : 0 ≤ k.toInt ∧ k.toInt ≤ 11
  · rw [if_pos hk] at h
    obtain ⟨n, hn, rfl⟩ := zs_nof (n := 12) hk.1 (by omega) (by decide)
    rw [show (nI n).toInt.toNat = n from zs_n_nI (by omega)] at h
    exact ⟨n, hn, rfl, h⟩
  · rw [if_neg hk] at h
    exact absurd h (by decide)
theorem zs_al_w {n : Nat} {a b c : Int32} (h : zs_al n a b c = true) (h1 : 1 ≤ n) (h2 : n < 5) : zs_ir a ∧ zs_ir b ∧ zs_ir c := by
  unfold zs_al at h
  rw [if_neg (by omega), if_pos h2] at h
  simpa only [Bool.and_eq_true, decide_eq_true_eq] using h
theorem zs_al_5 {a b c : Int32} (h : zs_al 5 a b c = true) : zs_ir a ∧ zs_ir b ∧ mz_sm c := by
  have h : (decide (zs_ir a) && (decide (zs_ir b) && decide (mz_sm c))) = true := h
  simpa only [Bool.and_eq_true, decide_eq_true_eq] using h
theorem zs_al_6 {a b c : Int32} (h : zs_al 6 a b c = true) : zs_ir a ∧ zs_ir b := by
  have h : (decide (zs_ir a) && decide (zs_ir b)) = true := h
  simpa only [Bool.and_eq_true, decide_eq_true_eq] using h
theorem zs_al_7 {a b c : Int32} (h : zs_al 7 a b c = true) : zs_ii a := by
  have h : decide (zs_ii a) = true := h
  exact of_decide_eq_true h
theorem zs_al_8 {a b c : Int32} (h : zs_al 8 a b c = true) : zs_ir a ∧ zs_ii b := by
  have h : (decide (zs_ir a) && decide (zs_ii b)) = true := h
  simpa only [Bool.and_eq_true, decide_eq_true_eq] using h
theorem zs_al_10 {a b c : Int32} (h : zs_al 10 a b c = true) : zs_ii a := by
  have h : decide (zs_ii a) = true := h
  exact of_decide_eq_true h
theorem zs_al_11 {a b c : Int32} (h : zs_al 11 a b c = true) : zs_ir a ∧ -128 ≤ b.toInt ∧ b.toInt ≤ 127 := by
  have h : (decide (zs_ir a) && decide (-128 ≤ b.toInt ∧ b.toInt ≤ 127)) = true := h
  simpa only [Bool.and_eq_true, decide_eq_true_eq] using h
/-- the unit behind an instruction of kind n -/
def zs_stn (S : zs_S) (n : Nat) (a b c : Int32) : zs_S :=
  if n = 9 then zs_scn S a else if n = 10 then zs_scn S (zs_cn S - nI 1) else if n = 5 then zs_ssc S (zs_n a) (zs_n b) (zs_n c) false else if n = 6 then zs_scp S (zs_n a) (zs_n b) else if n = 11 then zs_sput S (zs_n a) b.toInt else if 1 ≤ n ∧ n < 5 then zs_scmb S (n - 1) (zs_n a) (zs_n b) (zs_n c) else S
def zs_nxn (S : zs_S) (i n : Nat) (a b : Int32) : Int32 :=
  if n = 0 then -1 else if n = 7 then a else if n = 8 then (if mz_val (zs_re S (zs_n a)) < 0 then b else nI (i + 1)) else if n = 10 then (if zs_cn S - nI 1 = 0 then nI (i + 1) else a) else nI (i + 1)
def zs_st (S : zs_S) (i : Nat) : zs_S := zs_stn S (zs_n (zs_pg S i 0)) (zs_pg S i 1) (zs_pg S i 2) (zs_pg S i 3)
def zs_nx (S : zs_S) (i : Nat) : Int32 := zs_nxn S i (zs_n (zs_pg S i 0)) (zs_pg S i 1) (zs_pg S i 2)
def zs_rn : Nat → zs_S → Int32 → Nat × Int32 × zs_S
  | 0, S, nx => (0, nx, S)
  | n + 1, S, nx => if zs_ii nx then ((zs_rn n (zs_st S (zs_n nx)) (zs_nx S (zs_n nx))).1 + 1, (zs_rn n (zs_st S (zs_n nx)) (zs_nx S (zs_n nx))).2) else (0, nx, S)
def zs_srun (S : zs_S) (f : Nat) : zs_S := zs_ssr (zs_rn f (zs_scn S 0) 0).2.2 (nI (zs_rs (zs_rn f (zs_scn S 0) 0).2.1))
def zs_sins (S : zs_S) (i : Nat) (k a b c : Int32) : zs_S := zs_spg (zs_spg (zs_spg (zs_spg S i 0 k) i 1 a) i 2 b) i 3 c
/-! what is kept -/
theorem mz_cr_lt (op k t x y : Nat) : mz_cr op k t x y < mz_m k := by
  have := (mz_m_lt k).2
  unfold mz_cr
  split <;> exact Nat.mod_lt _ this
theorem mz_md_lt (v : Int) (k : Nat) : (v % (mz_m k : Int)).toNat < mz_m k := by
  have hm := mz_m_lt k
  have h1 := Int.emod_nonneg v (show (mz_m k : Int) ≠ 0 by omega)
  have h2 := Int.emod_lt_of_pos v (show 0 < (mz_m k : Int) by omega)
  omega
theorem mz_hr_0 : mz_hr 0 := by unfold mz_hr; omega
theorem zs_inv_put {S : zs_S} {i : Nat} {v : Int} (hI : zs_inv S) (hv : mz_hr v) : zs_inv (zs_sput S i v) := by
  refine ⟨fun j hj t ht => ?_, fun j hj => ?_, hI.2.2⟩
  · show (if j = i ∧ t < 8 then (v % (mz_m t : Int)).toNat else zs_re S j t) < mz_m t
    split
    · exact mz_md_lt v t
    · exact hI.1 j hj t ht
  · show mz_hr (if j = i then v else zs_ex S j)
    split
    · exact hv
    · exact hI.2.1 j hj
theorem zs_inv_cmb {S : zs_S} {op e a b : Nat} (hI : zs_inv S) : zs_inv (zs_scmb S op e a b) := by
  refine ⟨fun j hj t ht => ?_, fun j hj => ?_, hI.2.2⟩
  · show (if j = e ∧ t < 8 then mz_cr op t (zs_re S e t) (zs_re S a t) (zs_re S b t) else zs_re S j t) < mz_m t
    split
    · exact mz_cr_lt _ _ _ _ _
    · exact hI.1 j hj t ht
  · show mz_hr (if j = e then (if zs_csu S op e a b = true then zs_cres S op e a b else 0) else zs_ex S j)
    split
    · split
      · rename_i h
        unfold zs_csu at h
        rw [Bool.and_eq_true, decide_eq_true_eq] at h
        exact h.2
      · exact mz_hr_0
    · exact hI.2.1 j hj
theorem zs_inv_cp {S : zs_S} {i j : Nat} (hI : zs_inv S) (hj : j < 16) : zs_inv (zs_scp S i j) := by
  refine ⟨fun q hq t ht => ?_, fun q hq => ?_, hI.2.2⟩
  · show (if q = i ∧ t < 8 then zs_re S j t else zs_re S q t) < mz_m t
    split
    · exact hI.1 j hj t ht
    · exact hI.1 q hq t ht
  · show mz_hr (if q = i then zs_ex S j else zs_ex S q)
    split
    · exact hI.2.1 j hj
    · exact hI.2.1 q hq
theorem zs_inv_re {S : zs_S} {i k v : Nat} (hI : zs_inv S) (hv : v < mz_m k) : zs_inv (zs_sre S i k v) := by
  refine ⟨fun j hj t ht => ?_, hI.2.1, hI.2.2⟩
  show (if j = i ∧ t = k then v else zs_re S j t) < mz_m t
  split
  · rename_i h
    rw [h.2]
    exact hv
  · exact hI.1 j hj t ht
theorem zs_inv_sc {S : zs_S} {e a x : Nat} {n : Bool} (hI : zs_inv S) (hx : x < 64) (hp : mz_pop x ≤ 4) : zs_inv (zs_ssc S e a x n) :=
  zs_inv_put hI (mz_sc_hr (mz_val_hr _) (by have := (mz_pr_le x hx hp).1; omega))
theorem zs_inv_ins {S : zs_S} {i : Nat} {k a b c : Int32} (hI : zs_inv S) (h : zs_alw k a b c = true) : zs_inv (zs_sins S i k a b c) := by
  refine ⟨hI.1, hI.2.1, fun j hj => ?_⟩
  by_cases hji : j = i
  · have e0 : zs_pg (zs_sins S i k a b c) j 0 = k := by subst hji; simp [zs_sins, zs_spg, zs_pg, zs_u2]
    have e1 : zs_pg (zs_sins S i k a b c) j 1 = a := by subst hji; simp [zs_sins, zs_spg, zs_pg, zs_u2]
    have e2 : zs_pg (zs_sins S i k a b c) j 2 = b := by subst hji; simp [zs_sins, zs_spg, zs_pg, zs_u2]
    have e3 : zs_pg (zs_sins S i k a b c) j 3 = c := by subst hji; simp [zs_sins, zs_spg, zs_pg, zs_u2]
    rw [e0, e1, e2, e3]
    exact h
  · have e : ∀ t, zs_pg (zs_sins S i k a b c) j t = zs_pg S j t := fun t => by simp [zs_sins, zs_spg, zs_pg, zs_u2, hji]
    rw [e, e, e, e]
    exact hI.2.2 j hj
theorem zs_inv_stn {S : zs_S} {n : Nat} {a b c : Int32} (hI : zs_inv S) (hn : n < 12) (h : zs_al n a b c = true) : zs_inv (zs_stn S n a b c) := by
  rcases (by omega : (n = 0 ∨ n = 7 ∨ n = 8) ∨ (1 ≤ n ∧ n < 5) ∨ n = 5 ∨ n = 6 ∨ n = 9 ∨ n = 10 ∨ n = 11) with h0 | h0 | h0 | h0 | h0 | h0 | h0
  · have : zs_stn S n a b c = S := by rcases h0 with rfl | rfl | rfl <;> rfl
    rw [this]
    exact hI
  · have : zs_stn S n a b c = zs_scmb S (n - 1) (zs_n a) (zs_n b) (zs_n c) := by
      unfold zs_stn
      rw [if_neg (by omega), if_neg (by omega), if_neg (by omega), if_neg (by omega), if_neg (by omega), if_pos h0]
    rw [this]
    exact zs_inv_cmb hI
  · subst h0
    obtain ⟨x, hx, e, hp⟩ := zs_smN (zs_al_5 h).2.2
    show zs_inv (zs_ssc S (zs_n a) (zs_n b) (zs_n c) false)
    rw [e, zs_n_nI (by omega)]
    exact zs_inv_sc hI hx hp
  · subst h0
    obtain ⟨x, hx, e⟩ := zs_irN (zs_al_6 h).2
    show zs_inv (zs_scp S (zs_n a) (zs_n b))
    rw [e, zs_n_nI (by omega)]
    exact zs_inv_cp hI hx
  · subst h0
    exact hI
  · subst h0
    exact hI
  · subst h0
    have := (zs_al_11 h).2
    exact zs_inv_put hI (by unfold mz_hr; omega)
theorem zs_inv_st {S : zs_S} {i : Nat} (hI : zs_inv S) (hi : i < 32) : zs_inv (zs_st S i) := by
  obtain ⟨n, hn, e, h⟩ := zs_alw_k (hI.2.2 i hi)
  unfold zs_st
  rw [e, zs_n_nI (by omega)]
  exact zs_inv_stn hI hn h
theorem zs_inv_rn : ∀ (n : Nat) {S : zs_S} {nx : Int32}, zs_inv S → zs_inv (zs_rn n S nx).2.2
  | 0, _, _, h => h
  | n + 1, S, nx, h => by
    unfold zs_rn
    split
    · rename_i h1
      obtain ⟨j, hj, e⟩ := zs_iiN h1
      exact zs_inv_rn n (zs_inv_st h (by rw [e, zs_n_nI (by omega)]; exact hj))
    · exact h
theorem zs_inv_run {S : zs_S} {f : Nat} (hI : zs_inv S) : zs_inv (zs_srun S f) := zs_inv_rn f (S := zs_scn S 0) hI
section ZM11
variable {l : Launch} {P : zs_P} {d : Nat} {S : zs_S} {S2 : zs_S2} {th : Int32} {o : Int64} {w : Nat × Nat} {e a b i k : Nat}
theorem zs_up_pg {v : Int32} (hi : i < 32) (hk : k < 4) : zg_up (zs_σ P S th S2 o w) (zp_B P + 35 + i) (.inr (zc_I, ([.int (zs_pg S i 0), .int (zs_pg S i 1), .int (zs_pg S i 2), .int (zs_pg S i 3)] : List Value).set k (.int v))) = zs_σ P (zs_spg S i k v) th S2 o w := by
  refine zs_put ?_ ?_
  · rw [zs_ins hi]
    show some (Sum.inr (zc_I, [Value.int (if i = i ∧ 0 = k then v else zs_pg S i 0), Value.int (if i = i ∧ 1 = k then v else zs_pg S i 1), Value.int (if i = i ∧ 2 = k then v else zs_pg S i 2), Value.int (if i = i ∧ 3 = k then v else zs_pg S i 3)])) = _
    rcases (by omega : k = 0 ∨ k = 1 ∨ k = 2 ∨ k = 3) with rfl | rfl | rfl | rfl <;> simp
  · rw [show zp_B P + 35 + i = zp_B P + (35 + i) by omega]
    refine zs_hp_u fun n hn => ?_
    unfold zs_uc
    by_cases h0 : n = 0
    · rw [if_pos h0, if_pos h0]; rfl
    rw [if_neg h0, if_neg h0]
    by_cases h1 : n = 1
    · rw [if_pos h1, if_pos h1]
    rw [if_neg h1, if_neg h1]
    by_cases h2 : n = 2
    · rw [if_pos h2, if_pos h2]
    rw [if_neg h2, if_neg h2]
    by_cases h3 : n < 35
    · rw [if_pos h3, if_pos h3]; rfl
    · rw [if_neg h3, if_neg h3]
      have e : ∀ t, zs_pg (zs_spg S i k v) (n - 35) t = zs_pg S (n - 35) t := fun t => if_neg (fun h => hn (by have := h.1; omega))
      rw [e, e, e, e]
theorem zi_become {x y z u : Int32} (hi : i < 32) : zg_C l (zs_E P) d mI_become [.ref (zp_B P + 35 + i), .int x, .int y, .int z, .int u] (zs_σ P S th S2 o w) (.inl none, zs_σ P (zs_sins S i x y z u) th S2 o w) := by
  refine zg_C_of (by decide +kernel) (Nat.le_of_ble_eq_true rfl) ?_
  refine zg_aload_n (zd_t dmI_become 0 rfl) rfl ?_
  refine zg_iload_n (zd_t dmI_become 1 rfl) rfl ?_
  refine zg_putf (zd_t dmI_become 2 rfl) zf_I_9 zt_2_0 (zs_ins hi) (Nat.le_of_ble_eq_true rfl) rfl rfl (zs_up_pg (k := 0) hi (by decide)) ?_
  refine zg_aload_n (zd_t dmI_become 3 rfl) rfl ?_
  refine zg_iload_n (zd_t dmI_become 4 rfl) rfl ?_
  refine zg_putf (zd_t dmI_become 5 rfl) zf_I_15 zt_2_1 (zs_ins hi) (Nat.le_of_ble_eq_true rfl) rfl rfl (zs_up_pg (k := 1) hi (by decide)) ?_
  refine zg_aload_n (zd_t dmI_become 6 rfl) rfl ?_
  refine zg_iload_n (zd_t dmI_become 7 rfl) rfl ?_
  refine zg_putf (zd_t dmI_become 8 rfl) zf_I_18 zt_2_2 (zs_ins hi) (Nat.le_of_ble_eq_true rfl) rfl rfl (zs_up_pg (k := 2) hi (by decide)) ?_
  refine zg_aload_n (zd_t dmI_become 9 rfl) rfl ?_
  refine zg_iload (zd_t dmI_become 10 rfl) rfl ?_
  refine zg_putf (zd_t dmI_become 11 rfl) zf_I_21 zt_2_3 (zs_ins hi) (Nat.le_of_ble_eq_true rfl) rfl rfl (zs_up_pg (k := 3) hi (by decide)) ?_
  exact zg_vret (zd_t dmI_become 12 rfl) rfl rfl
theorem zs_rgi {i : Nat} (h : i < 32) : zs_ii (nI i) := by unfold zs_ii; rw [nI_toInt (by omega)]; omega
theorem zu_instruct {x y z u : Int32} (hi : i < 32) (ha : zs_alw x y z u = true) : zg_C l (zs_E P) (d + 6) mU_instruct [.ref (zp_B P), .int (nI i), .int x, .int y, .int z, .int u] (zs_σ P S th S2 o w) (.inl none, zs_σ P (zs_sins S i x y z u) th S2 o w) := by
  refine zg_C_of (by decide +kernel) (Nat.le_of_ble_eq_true rfl) ?_
  refine zg_iload_n (zd_t dmU_instruct 0 rfl) rfl ?_
  refine zg_callS (zd_t dmU_instruct 1 rfl) zl_U_115 zm_mU_isInstruction zst_mU_isInstruction (av := _) (rest := _) (by rfl) (by rfl) (by exact Nat.le_of_ble_eq_true rfl) (zu_isInstruction (nI i)) ?_
  rw [decide_eq_true (zs_rgi hi)]
  refine zg_if_ne (tgt := 17) (zd_t dmU_instruct 2 rfl) (by decide) (fun _ => ?_) (fun hq => absurd hq (by decide))
  refine zg_iload_n (zd_t dmU_instruct 8 rfl) rfl ?_
  refine zg_iload_n (zd_t dmU_instruct 9 rfl) rfl ?_
  refine zg_iload (zd_t dmU_instruct 10 rfl) rfl ?_
  refine zg_iload (zd_t dmU_instruct 11 rfl) rfl ?_
  refine zg_callS (zd_t dmU_instruct 12 rfl) zl_U_123 zm_mU_isAllowed zst_mU_isAllowed (av := _) (rest := _) (by rfl) (by rfl) (by exact Nat.le_of_ble_eq_true rfl) (zu_isAllowed x y z u) ?_
  rw [ha]
  refine zg_if_ne (tgt := 39) (zd_t dmU_instruct 13 rfl) (by decide) (fun _ => ?_) (fun hq => absurd hq (by decide))
  refine zg_aload_n (zd_t dmU_instruct 19 rfl) rfl ?_
  refine zg_getf (zd_t dmU_instruct 20 rfl) zf_U_17 zs_0 rfl ?_
  refine zg_iload_n (zd_t dmU_instruct 21 rfl) rfl ?_
  refine zg_aald (t0 := 4) (zd_t dmU_instruct 22 rfl) zs_2 rfl rfl hi (by decide) (zs_rf_at hi) ?_
  refine zg_iload_n (zd_t dmU_instruct 23 rfl) rfl ?_
  refine zg_iload_n (zd_t dmU_instruct 24 rfl) rfl ?_
  refine zg_iload (zd_t dmU_instruct 25 rfl) rfl ?_
  refine zg_iload (zd_t dmU_instruct 26 rfl) rfl ?_
  refine zg_callV (zd_t dmU_instruct 27 rfl) zl_U_129 zm_mI_become zi_mI_become zse_mI_become (zs_ins hi) zs_cl2 rfl (av := _) (rest := _) (by rfl) (by rfl) (by exact Nat.le_of_ble_eq_true rfl) (zi_become hi) ?_
  exact zg_vret (zd_t dmU_instruct 28 rfl) rfl rfl
theorem zu_instructX {r x y z u : Int32} {σ : zg_H} (htr : l.stackTraces = false) (h : ¬ zs_ii r) : zg_C l (zs_E P) (d + 7) mU_instruct [.ref (zp_B P), .int r, .int x, .int y, .int z, .int u] σ (.inr (zg_sz σ, "java/lang/IndexOutOfBoundsException"), zs_exc σ) := by
  refine zg_C_of (by decide +kernel) (Nat.le_of_ble_eq_true rfl) ?_
  refine zg_iload_n (zd_t dmU_instruct 0 rfl) rfl ?_
  refine zg_callS (zd_t dmU_instruct 1 rfl) zl_U_115 zm_mU_isInstruction zst_mU_isInstruction (av := _) (rest := _) (by rfl) (by rfl) (by exact Nat.le_of_ble_eq_true rfl) (zu_isInstruction r) ?_
  rw [decide_eq_false h]
  refine zg_if_ne (tgt := 17) (zd_t dmU_instruct 2 rfl) (by decide) (fun hq => absurd (by decide) hq) (fun _ => ?_)
  exact zg_throw htr (by omega) (by decide) (by decide) (zd_t dmU_instruct 3 rfl) (zd_t dmU_instruct 4 rfl) (zd_t dmU_instruct 5 rfl) (zd_t dmU_instruct 6 rfl) (zd_t dmU_instruct 7 rfl) zcl_U_118 zs_iIOB (zs_str 120 "there is no such instruction" (by decide)) (by decide +kernel) (by decide +kernel) zx_IOB (zs_in 101 (by decide +kernel) (by decide +kernel)) (fun h hh => absurd hh List.not_mem_nil) rfl
theorem zu_instructY {r x y z u : Int32} {σ : zg_H} (htr : l.stackTraces = false) (h : zs_ii r) (ha : zs_alw x y z u = false) : zg_C l (zs_E P) (d + 7) mU_instruct [.ref (zp_B P), .int r, .int x, .int y, .int z, .int u] σ (.inr (zg_sz σ, "java/lang/IllegalArgumentException"), zs_exc σ) := by
  refine zg_C_of (by decide +kernel) (Nat.le_of_ble_eq_true rfl) ?_
  refine zg_iload_n (zd_t dmU_instruct 0 rfl) rfl ?_
  refine zg_callS (zd_t dmU_instruct 1 rfl) zl_U_115 zm_mU_isInstruction zst_mU_isInstruction (av := _) (rest := _) (by rfl) (by rfl) (by exact Nat.le_of_ble_eq_true rfl) (zu_isInstruction r) ?_
  rw [decide_eq_true h]
  refine zg_if_ne (tgt := 17) (zd_t dmU_instruct 2 rfl) (by decide) (fun _ => ?_) (fun hq => absurd hq (by decide))
  refine zg_iload_n (zd_t dmU_instruct 8 rfl) rfl ?_
  refine zg_iload_n (zd_t dmU_instruct 9 rfl) rfl ?_
  refine zg_iload (zd_t dmU_instruct 10 rfl) rfl ?_
  refine zg_iload (zd_t dmU_instruct 11 rfl) rfl ?_
  refine zg_callS (zd_t dmU_instruct 12 rfl) zl_U_123 zm_mU_isAllowed zst_mU_isAllowed (av := _) (rest := _) (by rfl) (by rfl) (by exact Nat.le_of_ble_eq_true rfl) (zu_isAllowed x y z u) ?_
  rw [ha]
  refine zg_if_ne (tgt := 39) (zd_t dmU_instruct 13 rfl) (by decide) (fun hq => absurd (by decide) hq) (fun _ => ?_)
  exact zg_throw htr (by omega) (by decide) (by decide) (zd_t dmU_instruct 14 rfl) (zd_t dmU_instruct 15 rfl) (zd_t dmU_instruct 16 rfl) (zd_t dmU_instruct 17 rfl) (zd_t dmU_instruct 18 rfl) zcl_U_38 zs_iIAE (zs_str 127 "there is no such instruction to be written" (by decide)) (by decide +kernel) (by decide +kernel) zx_IAE (zs_in 175 (by decide +kernel) (by decide +kernel)) (fun h hh => absurd hh List.not_mem_nil) rfl
theorem zu_calculate {n : Nat} (hi : i < 32) (hI : zs_inv S) (hn : zs_pg S i 0 = nI n) (hk : zs_al n (zs_pg S i 1) (zs_pg S i 2) (zs_pg S i 3) = true) (h0 : (1 ≤ n ∧ n < 5) ∨ n = 5 ∨ n = 6 ∨ n = 11) : zg_C l (zs_E P) (d + 4) mU_calculate [.ref (zp_B P), .ref (zp_B P + 35 + i)] (zs_σ P S th S2 o w) (.inl none, zs_σ P (zs_stn S n (zs_pg S i 1) (zs_pg S i 2) (zs_pg S i 3)) th S2 o w) := by
  refine zg_C_of (by decide +kernel) (Nat.le_of_ble_eq_true rfl) ?_
  refine zg_aload_n (zd_t dmU_calculate 0 rfl) rfl ?_
  refine zg_getf (zd_t dmU_calculate 1 rfl) zf_U_158 (zs_ins hi) rfl ?_
  rw [hn]
  rcases h0 with h0 | rfl | rfl | rfl
  · obtain ⟨x, hx, ex⟩ := zs_irN (zs_al_w hk h0.1 h0.2).1
    obtain ⟨y, hy, ey⟩ := zs_irN (zs_al_w hk h0.1 h0.2).2.1
    obtain ⟨z, hz, ez⟩ := zs_irN (zs_al_w hk h0.1 h0.2).2.2
    have : zs_stn S n (zs_pg S i 1) (zs_pg S i 2) (zs_pg S i 3) = zs_scmb S (n - 1) x y z := by
      unfold zs_stn
      rw [if_neg (by omega), if_neg (by omega), if_neg (by omega), if_neg (by omega), if_neg (by omega), if_pos h0, ex, ey, ez, zs_n_nI (by omega), zs_n_nI (by omega), zs_n_nI (by omega)]
    rw [this]
    have tl : zg_G l (zs_E P) (d + 4) mU_calculate 104 (lv_args 0 [.ref (zp_B P), .ref (zp_B P + 35 + i)]) [] (zs_σ P S th S2 o w) (.inl none, zs_σ P (zs_scmb S (n - 1) x y z) th S2 o w) := by
      refine zg_aload_n (zd_t dmU_calculate 35 rfl) rfl ?_
      refine zg_getf (zd_t dmU_calculate 36 rfl) zf_U_11 zs_0 rfl ?_
      refine zg_aload_n (zd_t dmU_calculate 37 rfl) rfl ?_
      refine zg_getf (zd_t dmU_calculate 38 rfl) zf_U_161 (zs_ins hi) rfl ?_
      rw [ex]
      refine zg_aald (t0 := 3) (zd_t dmU_calculate 39 rfl) zs_1 rfl rfl hx (by decide) (zs_rf_at hx) ?_
      refine zg_aload_n (zd_t dmU_calculate 40 rfl) rfl ?_
      refine zg_getf (zd_t dmU_calculate 41 rfl) zf_U_158 (zs_ins hi) rfl ?_
      refine zg_iconst (v := (nI 1)) (zd_t dmU_calculate 42 rfl) (by decide) ?_
      refine zg_isub (zd_t dmU_calculate 43 rfl) ?_
      rw [hn, show nI n - nI 1 = nI (n - 1) by
        have := nI_pred (n - 1)
        rw [show n - 1 + 1 = n by omega] at this
        exact this]
      refine zg_aload_n (zd_t dmU_calculate 44 rfl) rfl ?_
      refine zg_getf (zd_t dmU_calculate 45 rfl) zf_U_11 zs_0 rfl ?_
      refine zg_aload_n (zd_t dmU_calculate 46 rfl) rfl ?_
      refine zg_getf (zd_t dmU_calculate 47 rfl) zf_U_164 (zs_ins hi) rfl ?_
      rw [ey]
      refine zg_aald (t0 := 3) (zd_t dmU_calculate 48 rfl) zs_1 rfl rfl hy (by decide) (zs_rf_at hy) ?_
      refine zg_aload_n (zd_t dmU_calculate 49 rfl) rfl ?_
      refine zg_getf (zd_t dmU_calculate 50 rfl) zf_U_11 zs_0 rfl ?_
      refine zg_aload_n (zd_t dmU_calculate 51 rfl) rfl ?_
      refine zg_getf (zd_t dmU_calculate 52 rfl) zf_U_171 (zs_ins hi) rfl ?_
      rw [ez]
      refine zg_aald (t0 := 3) (zd_t dmU_calculate 53 rfl) zs_1 rfl rfl hz (by decide) (zs_rf_at hz) ?_
      refine zg_callV (zd_t dmU_calculate 54 rfl) zl_U_64 zm_mR_combine zi_mR_combine zse_mR_combine (zs_reg hx) zs_cl1 rfl (av := _) (rest := _) (by rfl) (by rfl) (by exact Nat.le_of_ble_eq_true rfl) (zr_combine hx hy hz (by omega) hI.2.1 hI.1) ?_
      exact zg_vret (zd_t dmU_calculate 55 rfl) rfl rfl
    rcases (by omega : n = 1 ∨ n = 2 ∨ n = 3 ∨ n = 4) with rfl | rfl | rfl | rfl
    · exact zg_lookup (off := 100) (tgt := 104) (zd_t dmU_calculate 2 rfl) (by decide) (by decide) (by decide) tl
    · exact zg_lookup (off := 100) (tgt := 104) (zd_t dmU_calculate 2 rfl) (by decide) (by decide) (by decide) tl
    · exact zg_lookup (off := 100) (tgt := 104) (zd_t dmU_calculate 2 rfl) (by decide) (by decide) (by decide) tl
    · exact zg_lookup (off := 100) (tgt := 104) (zd_t dmU_calculate 2 rfl) (by decide) (by decide) (by decide) tl
  · obtain ⟨x, hx, ex⟩ := zs_irN (zs_al_5 hk).1
    obtain ⟨y, hy, ey⟩ := zs_irN (zs_al_5 hk).2.1
    obtain ⟨z, hz, ez, hp⟩ := zs_smN (zs_al_5 hk).2.2
    have : zs_stn S 5 (zs_pg S i 1) (zs_pg S i 2) (zs_pg S i 3) = zs_ssc S x y z false := by
      rw [ex, ey, ez]
      show zs_ssc S (zs_n (nI x)) (zs_n (nI y)) (zs_n (nI z)) false = _
      rw [zs_n_nI (by omega), zs_n_nI (by omega), zs_n_nI (by omega)]
    rw [this]
    refine zg_lookup (off := 36) (tgt := 40) (zd_t dmU_calculate 2 rfl) (by decide) (by decide) (by decide) ?_
    refine zg_aload_n (zd_t dmU_calculate 3 rfl) rfl ?_
    refine zg_aload_n (zd_t dmU_calculate 4 rfl) rfl ?_
    refine zg_getf (zd_t dmU_calculate 5 rfl) zf_U_161 (zs_ins hi) rfl ?_
    refine zg_aload_n (zd_t dmU_calculate 6 rfl) rfl ?_
    refine zg_getf (zd_t dmU_calculate 7 rfl) zf_U_164 (zs_ins hi) rfl ?_
    refine zg_aload_n (zd_t dmU_calculate 8 rfl) rfl ?_
    refine zg_getf (zd_t dmU_calculate 9 rfl) zf_U_171 (zs_ins hi) rfl ?_
    refine zg_iconst (v := (nI 0)) (zd_t dmU_calculate 10 rfl) (by decide) ?_
    rw [ex, ey, ez]
    refine zg_callV (zd_t dmU_calculate 11 rfl) zl_U_74 zm_mU_putScaled zi_mU_putScaled zse_mU_putScaled zs_0 zs_cl0 rfl (av := _) (rest := _) (by rfl) (by rfl) (by exact Nat.le_of_ble_eq_true rfl) (zu_putScaled (n := false) hx hy hz hp (hI.1 y hy)) ?_
    refine zg_goto (tgt := 140) (zd_t dmU_calculate 12 rfl) (by decide) ?_
    exact zg_vret (zd_t dmU_calculate 55 rfl) rfl rfl
  · obtain ⟨x, hx, ex⟩ := zs_irN (zs_al_6 hk).1
    obtain ⟨y, hy, ey⟩ := zs_irN (zs_al_6 hk).2
    have : zs_stn S 6 (zs_pg S i 1) (zs_pg S i 2) (zs_pg S i 3) = zs_scp S x y := by
      rw [ex, ey]
      show zs_scp S (zs_n (nI x)) (zs_n (nI y)) = _
      rw [zs_n_nI (by omega), zs_n_nI (by omega)]
    rw [this]
    refine zg_lookup (off := 56) (tgt := 60) (zd_t dmU_calculate 2 rfl) (by decide) (by decide) (by decide) ?_
    refine zg_aload_n (zd_t dmU_calculate 13 rfl) rfl ?_
    refine zg_getf (zd_t dmU_calculate 14 rfl) zf_U_11 zs_0 rfl ?_
    refine zg_aload_n (zd_t dmU_calculate 15 rfl) rfl ?_
    refine zg_getf (zd_t dmU_calculate 16 rfl) zf_U_161 (zs_ins hi) rfl ?_
    rw [ex]
    refine zg_aald (t0 := 3) (zd_t dmU_calculate 17 rfl) zs_1 rfl rfl hx (by decide) (zs_rf_at hx) ?_
    refine zg_aload_n (zd_t dmU_calculate 18 rfl) rfl ?_
    refine zg_getf (zd_t dmU_calculate 19 rfl) zf_U_11 zs_0 rfl ?_
    refine zg_aload_n (zd_t dmU_calculate 20 rfl) rfl ?_
    refine zg_getf (zd_t dmU_calculate 21 rfl) zf_U_164 (zs_ins hi) rfl ?_
    rw [ey]
    refine zg_aald (t0 := 3) (zd_t dmU_calculate 22 rfl) zs_1 rfl rfl hy (by decide) (zs_rf_at hy) ?_
    refine zg_callV (zd_t dmU_calculate 23 rfl) zl_U_174 zm_mR_copyFrom zi_mR_copyFrom zse_mR_copyFrom (zs_reg hx) zs_cl1 rfl (av := _) (rest := _) (by rfl) (by rfl) (by exact Nat.le_of_ble_eq_true rfl) (zr_copyFrom hx hy) ?_
    refine zg_goto (tgt := 140) (zd_t dmU_calculate 24 rfl) (by decide) ?_
    exact zg_vret (zd_t dmU_calculate 55 rfl) rfl rfl
  · obtain ⟨x, hx, ex⟩ := zs_irN (zs_al_11 hk).1
    have hb := (zs_al_11 hk).2
    have : zs_stn S 11 (zs_pg S i 1) (zs_pg S i 2) (zs_pg S i 3) = zs_sput S x (zs_pg S i 2).toInt := by
      rw [ex]
      show zs_sput S (zs_n (nI x)) _ = _
      rw [zs_n_nI (by omega)]
    rw [this]
    refine zg_lookup (off := 80) (tgt := 84) (zd_t dmU_calculate 2 rfl) (by decide) (by decide) (by decide) ?_
    refine zg_aload_n (zd_t dmU_calculate 25 rfl) rfl ?_
    refine zg_getf (zd_t dmU_calculate 26 rfl) zf_U_11 zs_0 rfl ?_
    refine zg_aload_n (zd_t dmU_calculate 27 rfl) rfl ?_
    refine zg_getf (zd_t dmU_calculate 28 rfl) zf_U_161 (zs_ins hi) rfl ?_
    rw [ex]
    refine zg_aald (t0 := 3) (zd_t dmU_calculate 29 rfl) zs_1 rfl rfl hx (by decide) (zs_rf_at hx) ?_
    refine zg_aload_n (zd_t dmU_calculate 30 rfl) rfl ?_
    refine zg_getf (zd_t dmU_calculate 31 rfl) zf_U_164 (zs_ins hi) rfl ?_
    refine zg_i2l (zd_t dmU_calculate 32 rfl) rfl ?_
    rw [zs_i2l]
    refine zg_callV (zd_t dmU_calculate 33 rfl) zl_U_45 zm_mR_put zi_mR_put zse_mR_put (zs_reg hx) zs_cl1 rfl (av := _) (rest := _) (by rfl) (by rfl) (by exact Nat.le_of_ble_eq_true rfl) (zr_put hx (by unfold mz_in; omega)) ?_
    refine zg_goto (tgt := 140) (zd_t dmU_calculate 34 rfl) (by decide) ?_
    exact zg_vret (zd_t dmU_calculate 55 rfl) rfl rfl
theorem zu_step_0 : zg_G l (zs_E P) (d + 5) mU_step 68 [(2, .ref (zp_B P + 35 + i)), (0, .ref (zp_B P)), (1, .int (nI i))] [] (zs_σ P S th S2 o w) (.inl (some (.int (-1))), (zs_σ P S th S2 o w)) := by
  refine zg_iconst (v := (-1)) (zd_t dmU_step 8 rfl) (by decide) ?_
  exact zg_iret (zd_t dmU_step 9 rfl) rfl rfl
theorem zu_step_7 (hi : i < 32) : zg_G l (zs_E P) (d + 5) mU_step 70 [(2, .ref (zp_B P + 35 + i)), (0, .ref (zp_B P)), (1, .int (nI i))] [] (zs_σ P S th S2 o w) (.inl (some (.int (zs_pg S i 1))), (zs_σ P S th S2 o w)) := by
  refine zg_aload_n (zd_t dmU_step 10 rfl) rfl ?_
  refine zg_getf (zd_t dmU_step 11 rfl) zf_U_161 (zs_ins hi) rfl ?_
  exact zg_iret (zd_t dmU_step 12 rfl) rfl rfl
theorem zu_step_8 {x : Nat} (hi : i < 32) (hx : x < 16) (ex : zs_pg S i 1 = nI x) (hI : zs_inv S) : zg_G l (zs_E P) (d + 5) mU_step 75 [(2, .ref (zp_B P + 35 + i)), (0, .ref (zp_B P)), (1, .int (nI i))] [] (zs_σ P S th S2 o w) (.inl (some (.int (if mz_val (zs_re S x) < 0 then zs_pg S i 2 else nI (i + 1)))), (zs_σ P S th S2 o w)) := by
  have hv := mz_val_in (zs_re S x)
  have h0 : mz_in 0 := by unfold mz_in; omega
  refine zg_aload_n (zd_t dmU_step 13 rfl) rfl ?_
  refine zg_getf (zd_t dmU_step 14 rfl) zf_U_11 zs_0 rfl ?_
  refine zg_aload_n (zd_t dmU_step 15 rfl) rfl ?_
  refine zg_getf (zd_t dmU_step 16 rfl) zf_U_161 (zs_ins hi) rfl ?_
  rw [ex]
  refine zg_aald (t0 := 3) (zd_t dmU_step 17 rfl) zs_1 rfl rfl hx (by decide) (zs_rf_at hx) ?_
  refine zg_callV (zd_t dmU_step 18 rfl) zl_U_58 zm_mR_value zi_mR_value zse_mR_value (zs_reg hx) zs_cl1 rfl (av := _) (rest := _) (by rfl) (by rfl) (by exact Nat.le_of_ble_eq_true rfl) (zr_value hx (hI.1 x hx)) ?_
  refine zg_lconst (v := mz_L 0) (zd_t dmU_step 19 rfl) (by decide) ?_
  refine zg_lcmp (zd_t dmU_step 20 rfl) ?_
  refine zg_if_ge (tgt := 99) (zd_t dmU_step 21 rfl) (by decide) (fun h1 => ?_) (fun h1 => ?_)
  · rw [lg_cmp_ge, mz_le h0 hv] at h1
    rw [if_neg (by omega)]
    refine zg_iload_n (zd_t dmU_step 25 rfl) rfl ?_
    refine zg_iconst (v := (nI 1)) (zd_t dmU_step 26 rfl) (by decide) ?_
    refine zg_iadd (zd_t dmU_step 27 rfl) ?_
    rw [nI_add]
    exact zg_iret (zd_t dmU_step 28 rfl) rfl rfl
  · rw [lg_cmp_ge, mz_le h0 hv] at h1
    rw [if_pos (by omega)]
    refine zg_aload_n (zd_t dmU_step 22 rfl) rfl ?_
    refine zg_getf (zd_t dmU_step 23 rfl) zf_U_164 (zs_ins hi) rfl ?_
    refine zg_goto (tgt := 102) (zd_t dmU_step 24 rfl) (by decide) ?_
    exact zg_iret (zd_t dmU_step 28 rfl) rfl rfl
theorem zu_step_9 (hi : i < 32) : zg_G l (zs_E P) (d + 5) mU_step 103 [(2, .ref (zp_B P + 35 + i)), (0, .ref (zp_B P)), (1, .int (nI i))] [] (zs_σ P S th S2 o w) (.inl (some (.int (nI (i + 1)))), zs_σ P (zs_scn S (zs_pg S i 1)) th S2 o w) := by
  refine zg_aload_n (zd_t dmU_step 29 rfl) rfl ?_
  refine zg_aload_n (zd_t dmU_step 30 rfl) rfl ?_
  refine zg_getf (zd_t dmU_step 31 rfl) zf_U_161 (zs_ins hi) rfl ?_
  refine zg_putf (zd_t dmU_step 32 rfl) zf_U_21 zt_0_2 zs_0 (Nat.le_of_ble_eq_true rfl) rfl rfl zs_up_cn ?_
  refine zg_iload_n (zd_t dmU_step 33 rfl) rfl ?_
  refine zg_iconst (v := (nI 1)) (zd_t dmU_step 34 rfl) (by decide) ?_
  refine zg_iadd (zd_t dmU_step 35 rfl) ?_
  rw [nI_add]
  exact zg_iret (zd_t dmU_step 36 rfl) rfl rfl
theorem zu_step_10 (hi : i < 32) : zg_G l (zs_E P) (d + 5) mU_step 115 [(2, .ref (zp_B P + 35 + i)), (0, .ref (zp_B P)), (1, .int (nI i))] [] (zs_σ P S th S2 o w) (.inl (some (.int (if zs_cn S - nI 1 = 0 then nI (i + 1) else zs_pg S i 1))), zs_σ P (zs_scn S (zs_cn S - nI 1)) th S2 o w) := by
  refine zg_aload_n (zd_t dmU_step 37 rfl) rfl ?_
  refine zg_dup (zd_t dmU_step 38 rfl) rfl ?_
  refine zg_getf (zd_t dmU_step 39 rfl) zf_U_21 zs_0 rfl ?_
  refine zg_iconst (v := (nI 1)) (zd_t dmU_step 40 rfl) (by decide) ?_
  refine zg_isub (zd_t dmU_step 41 rfl) ?_
  refine zg_putf (zd_t dmU_step 42 rfl) zf_U_21 zt_0_2 zs_0 (Nat.le_of_ble_eq_true rfl) rfl rfl zs_up_cn ?_
  refine zg_aload_n (zd_t dmU_step 43 rfl) rfl ?_
  refine zg_getf (zd_t dmU_step 44 rfl) zf_U_21 zs_0 rfl ?_
  refine zg_if_eq (tgt := 139) (zd_t dmU_step 45 rfl) (by decide) (fun h1 => ?_) (fun h1 => ?_)
  · have h1 : zs_cn S - nI 1 = 0 := h1
    rw [if_pos h1]
    refine zg_iload_n (zd_t dmU_step 49 rfl) rfl ?_
    refine zg_iconst (v := (nI 1)) (zd_t dmU_step 50 rfl) (by decide) ?_
    refine zg_iadd (zd_t dmU_step 51 rfl) ?_
    rw [nI_add]
    exact zg_iret (zd_t dmU_step 52 rfl) rfl rfl
  · have h1 : ¬ zs_cn S - nI 1 = 0 := h1
    rw [if_neg h1]
    refine zg_aload_n (zd_t dmU_step 46 rfl) rfl ?_
    refine zg_getf (zd_t dmU_step 47 rfl) zf_U_161 (zs_ins hi) rfl ?_
    refine zg_goto (tgt := 142) (zd_t dmU_step 48 rfl) (by decide) ?_
    exact zg_iret (zd_t dmU_step 52 rfl) rfl rfl
theorem zu_step_c {n : Nat} (hi : i < 32) (hI : zs_inv S) (ek : zs_pg S i 0 = nI n) (hal : zs_al n (zs_pg S i 1) (zs_pg S i 2) (zs_pg S i 3) = true) (h0 : (1 ≤ n ∧ n < 5) ∨ n = 5 ∨ n = 6 ∨ n = 11) : zg_G l (zs_E P) (d + 5) mU_step 143 [(2, .ref (zp_B P + 35 + i)), (0, .ref (zp_B P)), (1, .int (nI i))] [] (zs_σ P S th S2 o w) (.inl (some (.int (nI (i + 1)))), zs_σ P (zs_stn S n (zs_pg S i 1) (zs_pg S i 2) (zs_pg S i 3)) th S2 o w) := by
  refine zg_aload_n (zd_t dmU_step 53 rfl) rfl ?_
  refine zg_aload_n (zd_t dmU_step 54 rfl) rfl ?_
  refine zg_callV (zd_t dmU_step 55 rfl) zl_U_167 zm_mU_calculate zi_mU_calculate zse_mU_calculate zs_0 zs_cl0 rfl (av := _) (rest := _) (by rfl) (by rfl) (by exact Nat.le_of_ble_eq_true rfl) (zu_calculate hi hI ek hal h0) ?_
  refine zg_iload_n (zd_t dmU_step 56 rfl) rfl ?_
  refine zg_iconst (v := (nI 1)) (zd_t dmU_step 57 rfl) (by decide) ?_
  refine zg_iadd (zd_t dmU_step 58 rfl) ?_
  rw [nI_add]
  exact zg_iret (zd_t dmU_step 59 rfl) rfl rfl
theorem zu_step_t0  : zg_G l (zs_E P) (d + 5) mU_step 11 [(2, .ref (zp_B P + 35 + i)), (0, .ref (zp_B P)), (1, .int (nI i))] [.int (nI 0)] (zs_σ P S th S2 o w) (.inl (some (.int (-1))), zs_σ P (S) th S2 o w) :=
  zg_tableIn (off := 57) (tgt := 68) (zd_t dmU_step 7 rfl) (by decide) (by decide) (by decide) (by decide) zu_step_0
theorem zu_step_t7 (hi : i < 32) : zg_G l (zs_E P) (d + 5) mU_step 11 [(2, .ref (zp_B P + 35 + i)), (0, .ref (zp_B P)), (1, .int (nI i))] [.int (nI 7)] (zs_σ P S th S2 o w) (.inl (some (.int (zs_pg S i 1))), zs_σ P (S) th S2 o w) :=
  zg_tableIn (off := 59) (tgt := 70) (zd_t dmU_step 7 rfl) (by decide) (by decide) (by decide) (by decide) (zu_step_7 hi)
theorem zu_step_t8 {x : Nat} (hi : i < 32) (hx : x < 16) (ex : zs_pg S i 1 = nI x) (hI : zs_inv S) : zg_G l (zs_E P) (d + 5) mU_step 11 [(2, .ref (zp_B P + 35 + i)), (0, .ref (zp_B P)), (1, .int (nI i))] [.int (nI 8)] (zs_σ P S th S2 o w) (.inl (some (.int (if mz_val (zs_re S x) < 0 then zs_pg S i 2 else nI (i + 1)))), zs_σ P (S) th S2 o w) :=
  zg_tableIn (off := 64) (tgt := 75) (zd_t dmU_step 7 rfl) (by decide) (by decide) (by decide) (by decide) (zu_step_8 hi hx ex hI)
theorem zu_step_t9 (hi : i < 32) : zg_G l (zs_E P) (d + 5) mU_step 11 [(2, .ref (zp_B P + 35 + i)), (0, .ref (zp_B P)), (1, .int (nI i))] [.int (nI 9)] (zs_σ P S th S2 o w) (.inl (some (.int (nI (i + 1)))), zs_σ P (zs_scn S (zs_pg S i 1)) th S2 o w) :=
  zg_tableIn (off := 92) (tgt := 103) (zd_t dmU_step 7 rfl) (by decide) (by decide) (by decide) (by decide) (zu_step_9 hi)
theorem zu_step_t10 (hi : i < 32) : zg_G l (zs_E P) (d + 5) mU_step 11 [(2, .ref (zp_B P + 35 + i)), (0, .ref (zp_B P)), (1, .int (nI i))] [.int (nI 10)] (zs_σ P S th S2 o w) (.inl (some (.int (if zs_cn S - nI 1 = 0 then nI (i + 1) else zs_pg S i 1))), zs_σ P (zs_scn S (zs_cn S - nI 1)) th S2 o w) :=
  zg_tableIn (off := 104) (tgt := 115) (zd_t dmU_step 7 rfl) (by decide) (by decide) (by decide) (by decide) (zu_step_10 hi)
theorem zu_step_t1 (hi : i < 32) (hI : zs_inv S) (ek : zs_pg S i 0 = nI 1) (hal : zs_al 1 (zs_pg S i 1) (zs_pg S i 2) (zs_pg S i 3) = true) : zg_G l (zs_E P) (d + 5) mU_step 11 [(2, .ref (zp_B P + 35 + i)), (0, .ref (zp_B P)), (1, .int (nI i))] [.int (nI 1)] (zs_σ P S th S2 o w) (.inl (some (.int (nI (i + 1)))), zs_σ P (zs_stn S 1 (zs_pg S i 1) (zs_pg S i 2) (zs_pg S i 3)) th S2 o w) :=
  zg_tableIn (off := 132) (tgt := 143) (zd_t dmU_step 7 rfl) (by decide) (by decide) (by decide) (by decide) (zu_step_c hi hI ek hal (by decide))
theorem zu_step_t2 (hi : i < 32) (hI : zs_inv S) (ek : zs_pg S i 0 = nI 2) (hal : zs_al 2 (zs_pg S i 1) (zs_pg S i 2) (zs_pg S i 3) = true) : zg_G l (zs_E P) (d + 5) mU_step 11 [(2, .ref (zp_B P + 35 + i)), (0, .ref (zp_B P)), (1, .int (nI i))] [.int (nI 2)] (zs_σ P S th S2 o w) (.inl (some (.int (nI (i + 1)))), zs_σ P (zs_stn S 2 (zs_pg S i 1) (zs_pg S i 2) (zs_pg S i 3)) th S2 o w) :=
  zg_tableIn (off := 132) (tgt := 143) (zd_t dmU_step 7 rfl) (by decide) (by decide) (by decide) (by decide) (zu_step_c hi hI ek hal (by decide))
theorem zu_step_t3 (hi : i < 32) (hI : zs_inv S) (ek : zs_pg S i 0 = nI 3) (hal : zs_al 3 (zs_pg S i 1) (zs_pg S i 2) (zs_pg S i 3) = true) : zg_G l (zs_E P) (d + 5) mU_step 11 [(2, .ref (zp_B P + 35 + i)), (0, .ref (zp_B P)), (1, .int (nI i))] [.int (nI 3)] (zs_σ P S th S2 o w) (.inl (some (.int (nI (i + 1)))), zs_σ P (zs_stn S 3 (zs_pg S i 1) (zs_pg S i 2) (zs_pg S i 3)) th S2 o w) :=
  zg_tableIn (off := 132) (tgt := 143) (zd_t dmU_step 7 rfl) (by decide) (by decide) (by decide) (by decide) (zu_step_c hi hI ek hal (by decide))
theorem zu_step_t4 (hi : i < 32) (hI : zs_inv S) (ek : zs_pg S i 0 = nI 4) (hal : zs_al 4 (zs_pg S i 1) (zs_pg S i 2) (zs_pg S i 3) = true) : zg_G l (zs_E P) (d + 5) mU_step 11 [(2, .ref (zp_B P + 35 + i)), (0, .ref (zp_B P)), (1, .int (nI i))] [.int (nI 4)] (zs_σ P S th S2 o w) (.inl (some (.int (nI (i + 1)))), zs_σ P (zs_stn S 4 (zs_pg S i 1) (zs_pg S i 2) (zs_pg S i 3)) th S2 o w) :=
  zg_tableIn (off := 132) (tgt := 143) (zd_t dmU_step 7 rfl) (by decide) (by decide) (by decide) (by decide) (zu_step_c hi hI ek hal (by decide))
theorem zu_step_t5 (hi : i < 32) (hI : zs_inv S) (ek : zs_pg S i 0 = nI 5) (hal : zs_al 5 (zs_pg S i 1) (zs_pg S i 2) (zs_pg S i 3) = true) : zg_G l (zs_E P) (d + 5) mU_step 11 [(2, .ref (zp_B P + 35 + i)), (0, .ref (zp_B P)), (1, .int (nI i))] [.int (nI 5)] (zs_σ P S th S2 o w) (.inl (some (.int (nI (i + 1)))), zs_σ P (zs_stn S 5 (zs_pg S i 1) (zs_pg S i 2) (zs_pg S i 3)) th S2 o w) :=
  zg_tableIn (off := 132) (tgt := 143) (zd_t dmU_step 7 rfl) (by decide) (by decide) (by decide) (by decide) (zu_step_c hi hI ek hal (by decide))
theorem zu_step_t6 (hi : i < 32) (hI : zs_inv S) (ek : zs_pg S i 0 = nI 6) (hal : zs_al 6 (zs_pg S i 1) (zs_pg S i 2) (zs_pg S i 3) = true) : zg_G l (zs_E P) (d + 5) mU_step 11 [(2, .ref (zp_B P + 35 + i)), (0, .ref (zp_B P)), (1, .int (nI i))] [.int (nI 6)] (zs_σ P S th S2 o w) (.inl (some (.int (nI (i + 1)))), zs_σ P (zs_stn S 6 (zs_pg S i 1) (zs_pg S i 2) (zs_pg S i 3)) th S2 o w) :=
  zg_tableIn (off := 132) (tgt := 143) (zd_t dmU_step 7 rfl) (by decide) (by decide) (by decide) (by decide) (zu_step_c hi hI ek hal (by decide))
theorem zu_step_t11 (hi : i < 32) (hI : zs_inv S) (ek : zs_pg S i 0 = nI 11) (hal : zs_al 11 (zs_pg S i 1) (zs_pg S i 2) (zs_pg S i 3) = true) : zg_G l (zs_E P) (d + 5) mU_step 11 [(2, .ref (zp_B P + 35 + i)), (0, .ref (zp_B P)), (1, .int (nI i))] [.int (nI 11)] (zs_σ P S th S2 o w) (.inl (some (.int (nI (i + 1)))), zs_σ P (zs_stn S 11 (zs_pg S i 1) (zs_pg S i 2) (zs_pg S i 3)) th S2 o w) :=
  zg_tableOut (tgt := 143) (zd_t dmU_step 7 rfl) (by decide) (by decide) (zu_step_c hi hI ek hal (by decide))
theorem zs_nx1 (S : zs_S) (i : Nat) {n : Nat} (a b : Int32) (h : (1 ≤ n ∧ n < 7) ∨ n = 9 ∨ n = 11) : zs_nxn S i n a b = nI (i + 1) := by
  unfold zs_nxn
  rw [if_neg (by omega), if_neg (by omega), if_neg (by omega), if_neg (by omega)]
theorem zs_st0 (S : zs_S) {n : Nat} (a b c : Int32) (h : n = 0 ∨ n = 7 ∨ n = 8) : zs_stn S n a b c = S := by
  unfold zs_stn
  rw [if_neg (by omega), if_neg (by omega), if_neg (by omega), if_neg (by omega), if_neg (by omega), if_neg (by omega)]
theorem zs_st9 (S : zs_S) (a b c : Int32) : zs_stn S 9 a b c = zs_scn S a := if_pos rfl
theorem zs_st10 (S : zs_S) (a b c : Int32) : zs_stn S 10 a b c = zs_scn S (zs_cn S - nI 1) := by
  unfold zs_stn
  rw [if_neg (by omega), if_pos rfl]
theorem zs_nx0 (S : zs_S) (i : Nat) (a b : Int32) : zs_nxn S i 0 a b = -1 := if_pos rfl
theorem zs_nx7 (S : zs_S) (i : Nat) (a b : Int32) : zs_nxn S i 7 a b = a := by
  unfold zs_nxn
  rw [if_neg (by omega), if_pos rfl]
theorem zs_nx8 (S : zs_S) (i : Nat) {x : Nat} (b : Int32) (hx : x < 16) : zs_nxn S i 8 (nI x) b = if mz_val (zs_re S x) < 0 then b else nI (i + 1) := by
  unfold zs_nxn
  rw [if_neg (by omega), if_neg (by omega), if_pos rfl, zs_n_nI (by omega)]
theorem zs_nx10 (S : zs_S) (i : Nat) (a b : Int32) : zs_nxn S i 10 a b = if zs_cn S - nI 1 = 0 then nI (i + 1) else a := by
  unfold zs_nxn
  rw [if_neg (by omega), if_neg (by omega), if_neg (by omega), if_pos rfl]
theorem zu_step_k {n : Nat} (hi : i < 32) (hI : zs_inv S) (ek : zs_pg S i 0 = nI n) (hn : n < 12) (hal : zs_al n (zs_pg S i 1) (zs_pg S i 2) (zs_pg S i 3) = true) : zg_G l (zs_E P) (d + 5) mU_step 11 [(2, .ref (zp_B P + 35 + i)), (0, .ref (zp_B P)), (1, .int (nI i))] [.int (nI n)] (zs_σ P S th S2 o w) (.inl (some (.int (zs_nxn S i n (zs_pg S i 1) (zs_pg S i 2)))), zs_σ P (zs_stn S n (zs_pg S i 1) (zs_pg S i 2) (zs_pg S i 3)) th S2 o w) := by
  rcases (by omega : n = 0 ∨ n = 7 ∨ n = 8 ∨ n = 9 ∨ n = 10 ∨ n = 1 ∨ n = 2 ∨ n = 3 ∨ n = 4 ∨ n = 5 ∨ n = 6 ∨ n = 11) with rfl | rfl | rfl | rfl | rfl | rfl | rfl | rfl | rfl | rfl | rfl | rfl
  · rw [zs_nx0, zs_st0 S _ _ _ (by omega)]
    exact zu_step_t0
  · rw [zs_nx7, zs_st0 S _ _ _ (by omega)]
    exact zu_step_t7 hi
  · obtain ⟨x, hx, ex⟩ := zs_irN (zs_al_8 hal).1
    have g := zu_step_t8 (l := l) (P := P) (d := d) (S2 := S2) (th := th) (o := o) (w := w) hi hx ex hI
    rw [zs_st0 S _ _ _ (by omega), show zs_nxn S i 8 (zs_pg S i 1) (zs_pg S i 2) = (if mz_val (zs_re S x) < 0 then zs_pg S i 2 else nI (i + 1)) by rw [ex]; exact zs_nx8 S i _ hx]
    exact g
  · rw [zs_nx1 S i _ _ (by omega), zs_st9]
    exact zu_step_t9 hi
  · rw [zs_nx10, zs_st10]
    exact zu_step_t10 hi
  · rw [zs_nx1 S i _ _ (by omega)]
    exact zu_step_t1 hi hI ek hal
  · rw [zs_nx1 S i _ _ (by omega)]
    exact zu_step_t2 hi hI ek hal
  · rw [zs_nx1 S i _ _ (by omega)]
    exact zu_step_t3 hi hI ek hal
  · rw [zs_nx1 S i _ _ (by omega)]
    exact zu_step_t4 hi hI ek hal
  · rw [zs_nx1 S i _ _ (by omega)]
    exact zu_step_t5 hi hI ek hal
  · rw [zs_nx1 S i _ _ (by omega)]
    exact zu_step_t6 hi hI ek hal
  · rw [zs_nx1 S i _ _ (by omega)]
    exact zu_step_t11 hi hI ek hal
theorem zu_step (hi : i < 32) (hI : zs_inv S) : zg_C l (zs_E P) (d + 5) mU_step [.ref (zp_B P), .int (nI i)] (zs_σ P S th S2 o w) (.inl (some (.int (zs_nx S i))), zs_σ P (zs_st S i) th S2 o w) := by
  refine zg_C_of (by decide +kernel) (Nat.le_of_ble_eq_true rfl) ?_
  obtain ⟨n, hn, ek, hal⟩ := zs_alw_k (hI.2.2 i hi)
  have e1 : zs_st S i = zs_stn S n (zs_pg S i 1) (zs_pg S i 2) (zs_pg S i 3) := by unfold zs_st; rw [ek, zs_n_nI (by omega)]
  have e2 : zs_nx S i = zs_nxn S i n (zs_pg S i 1) (zs_pg S i 2) := by unfold zs_nx; rw [ek, zs_n_nI (by omega)]
  rw [e1, e2]
  refine zg_aload_n (zd_t dmU_step 0 rfl) rfl ?_
  refine zg_getf (zd_t dmU_step 1 rfl) zf_U_17 zs_0 rfl ?_
  refine zg_iload_n (zd_t dmU_step 2 rfl) rfl ?_
  refine zg_aald (t0 := 4) (zd_t dmU_step 3 rfl) zs_2 rfl rfl hi (by decide) (zs_rf_at hi) ?_
  refine zg_astore_n (zd_t dmU_step 4 rfl) (by decide) rfl ?_
  refine zg_aload_n (zd_t dmU_step 5 rfl) rfl ?_
  refine zg_getf (zd_t dmU_step 6 rfl) zf_U_158 (zs_ins hi) rfl ?_
  rw [ek]
  exact zu_step_k hi hI ek hn hal
theorem zu_run_lp {f : Nat} (hf : f ≤ 2000) : ∀ (n k : Nat), k + n = f → ∀ (S : zs_S) (nx : Int32), zs_inv S → zg_G l (zs_E P) (d + 6) mU_run 30 [(3, .int (nI k)), (2, .int nx), (0, .ref (zp_B P)), (1, .int (nI f))] [] (zs_σ P S th S2 o w) (.inl (some (.int (nI (k + (zs_rn n S nx).1)))), zs_σ P (zs_ssr (zs_rn n S nx).2.2 (nI (zs_rs (zs_rn n S nx).2.1))) th S2 o w) := by
  intro n
  have out : ∀ (k : Nat) (S : zs_S) (nx : Int32), zg_G l (zs_E P) (d + 6) mU_run 54 [(3, .int (nI k)), (2, .int nx), (0, .ref (zp_B P)), (1, .int (nI f))] [] (zs_σ P S th S2 o w) (.inl (some (.int (nI k))), zs_σ P (zs_ssr S (nI (zs_rs nx))) th S2 o w) := by
    intro k S nx
    refine zg_aload_n (zd_t dmU_run 29 rfl) rfl ?_
    refine zg_iload_n (zd_t dmU_run 30 rfl) rfl ?_
    refine zg_callS (zd_t dmU_run 31 rfl) zl_U_139 zm_mU_reasonAt zst_mU_reasonAt (av := _) (rest := _) (by rfl) (by rfl) (by exact Nat.le_of_ble_eq_true rfl) (zu_reasonAt nx) ?_
    refine zg_putf (zd_t dmU_run 32 rfl) zf_U_25 zt_0_3 zs_0 (Nat.le_of_ble_eq_true rfl) rfl rfl zs_up_sr ?_
    refine zg_iload_n (zd_t dmU_run 33 rfl) rfl ?_
    exact zg_iret (zd_t dmU_run 34 rfl) rfl rfl
  induction n with
  | zero =>
    intro k hk S nx hI
    have hk : k = f := by omega
    subst hk
    refine zg_iload_n (zd_t dmU_run 17 rfl) rfl ?_
    refine zg_iload_n (zd_t dmU_run 18 rfl) rfl ?_
    refine zg_icmp_ge (tgt := 54) (zd_t dmU_run 19 rfl) (by decide) (fun _ => ?_) (fun hq => absurd ((nI_leI (by omega) (by omega)).mpr (Nat.le_refl _)) hq)
    exact out k S nx
  | succ n ih =>
    intro k hk S nx hI
    refine zg_iload_n (zd_t dmU_run 17 rfl) rfl ?_
    refine zg_iload_n (zd_t dmU_run 18 rfl) rfl ?_
    refine zg_icmp_ge (tgt := 54) (zd_t dmU_run 19 rfl) (by decide) (fun hq => absurd hq (fun h => absurd ((nI_leI (by omega) (by omega)).mp h) (by omega))) (fun _ => ?_)
    refine zg_iload_n (zd_t dmU_run 20 rfl) rfl ?_
    refine zg_callS (zd_t dmU_run 21 rfl) zl_U_115 zm_mU_isInstruction zst_mU_isInstruction (av := _) (rest := _) (by rfl) (by rfl) (by exact Nat.le_of_ble_eq_true rfl) (zu_isInstruction nx) ?_
    unfold zs_rn
    by_cases hx : zs_ii nx
    · rw [decide_eq_true hx, if_pos hx]
      obtain ⟨j, hj, rfl⟩ := zs_iiN hx
      rw [zs_n_nI (by omega)]
      refine zg_if_eq (tgt := 54) (zd_t dmU_run 22 rfl) (by decide) (fun hq => absurd hq (by decide)) (fun _ => ?_)
      refine zg_aload_n (zd_t dmU_run 23 rfl) rfl ?_
      refine zg_iload_n (zd_t dmU_run 24 rfl) rfl ?_
      refine zg_callV (zd_t dmU_run 25 rfl) zl_U_135 zm_mU_step zi_mU_step zse_mU_step zs_0 zs_cl0 rfl (av := _) (rest := _) (by rfl) (by rfl) (by exact Nat.le_of_ble_eq_true rfl) (zu_step hj hI) ?_
      refine zg_istore_n (zd_t dmU_run 26 rfl) (by decide) rfl ?_
      refine zg_iinc (lv2 := [(3, .int (nI (k + 1))), (2, .int (zs_nx S j)), (0, .ref (zp_B P)), (1, .int (nI f))]) (zd_t dmU_run 27 rfl) rfl (mz_inc k) (by decide) rfl ?_
      refine zg_goto (tgt := 30) (zd_t dmU_run 28 rfl) (by decide) ?_
      have := ih (k + 1) (by omega) (zs_st S j) (zs_nx S j) (zs_inv_st hI hj)
      rw [show k + 1 + (zs_rn n (zs_st S j) (zs_nx S j)).1 = k + ((zs_rn n (zs_st S j) (zs_nx S j)).1 + 1) by omega] at this
      exact this
    · rw [decide_eq_false hx, if_neg hx]
      refine zg_if_eq (tgt := 54) (zd_t dmU_run 22 rfl) (by decide) (fun _ => ?_) (fun hq => absurd (by decide) hq)
      exact out k S nx
theorem zu_run {f : Nat} (hf : f ≤ 2000) (hI : zs_inv S) : zg_C l (zs_E P) (d + 6) mU_run [.ref (zp_B P), .int (nI f)] (zs_σ P S th S2 o w) (.inl (some (.int (nI (zs_rn f (zs_scn S 0) 0).1))), zs_σ P (zs_srun S f) th S2 o w) := by
  refine zg_C_of (by decide +kernel) (Nat.le_of_ble_eq_true rfl) ?_
  refine zg_iload_n (zd_t dmU_run 0 rfl) rfl ?_
  refine zg_if_lt (tgt := 11) (zd_t dmU_run 1 rfl) (by decide) (fun hq => absurd hq (nI_pos (by omega))) (fun _ => ?_)
  refine zg_iload_n (zd_t dmU_run 2 rfl) rfl ?_
  refine zg_sipush (v := (nI 2000)) (zd_t dmU_run 3 rfl) (by decide) ?_
  refine zg_icmp_le (tgt := 21) (zd_t dmU_run 4 rfl) (by decide) (fun _ => ?_) (fun hq => absurd ((nI_leI (by omega) (by decide)).mpr hf) hq)
  refine zg_aload_n (zd_t dmU_run 10 rfl) rfl ?_
  refine zg_iconst (v := (nI 0)) (zd_t dmU_run 11 rfl) (by decide) ?_
  refine zg_putf (zd_t dmU_run 12 rfl) zf_U_21 zt_0_2 zs_0 (Nat.le_of_ble_eq_true rfl) rfl rfl zs_up_cn ?_
  refine zg_iconst (v := (nI 0)) (zd_t dmU_run 13 rfl) (by decide) ?_
  refine zg_istore_n (zd_t dmU_run 14 rfl) (by decide) rfl ?_
  refine zg_iconst (v := (nI 0)) (zd_t dmU_run 15 rfl) (by decide) ?_
  refine zg_istore_n (zd_t dmU_run 16 rfl) (by decide) rfl ?_
  have := zu_run_lp (l := l) (P := P) (d := d) (S2 := S2) (th := th) (o := o) (w := w) hf f 0 (by omega) (zs_scn S 0) 0 hI
  rw [Nat.zero_add] at this
  exact this
theorem zu_runX {f : Int32} {σ : zg_H} (htr : l.stackTraces = false) (h : ¬ (0 ≤ f.toInt ∧ f.toInt ≤ 2000)) : zg_C l (zs_E P) (d + 7) mU_run [.ref (zp_B P), .int f] σ (.inr (zg_sz σ, "java/lang/IllegalArgumentException"), zs_exc σ) := by
  refine zg_C_of (by decide +kernel) (Nat.le_of_ble_eq_true rfl) ?_
  refine zg_iload_n (zd_t dmU_run 0 rfl) rfl ?_
  refine zg_if_lt (tgt := 11) (zd_t dmU_run 1 rfl) (by decide) (fun h1 => ?_) (fun h1 => ?_)
  · exact zg_throw htr (by omega) (by decide) (by decide) (zd_t dmU_run 5 rfl) (zd_t dmU_run 6 rfl) (zd_t dmU_run 7 rfl) (zd_t dmU_run 8 rfl) (zd_t dmU_run 9 rfl) zcl_U_38 zs_iIAE (zs_str 133 "the fuel is not 0 to 2000" (by decide)) (by decide +kernel) (by decide +kernel) zx_IAE (zs_in 175 (by decide +kernel) (by decide +kernel)) (fun h hh => absurd hh List.not_mem_nil) rfl
  rw [Int32.lt_iff_toInt_lt] at h1
  have h1 : ¬ f.toInt < 0 := h1
  refine zg_iload_n (zd_t dmU_run 2 rfl) rfl ?_
  refine zg_sipush (v := (nI 2000)) (zd_t dmU_run 3 rfl) (by decide) ?_
  refine zg_icmp_le (tgt := 21) (zd_t dmU_run 4 rfl) (by decide) (fun h2 => ?_) (fun h2 => ?_)
  · rw [Int32.le_iff_toInt_le] at h2
    have h2 : f.toInt ≤ 2000 := h2
    omega
  · exact zg_throw htr (by omega) (by decide) (by decide) (zd_t dmU_run 5 rfl) (zd_t dmU_run 6 rfl) (zd_t dmU_run 7 rfl) (zd_t dmU_run 8 rfl) (zd_t dmU_run 9 rfl) zcl_U_38 zs_iIAE (zs_str 133 "the fuel is not 0 to 2000" (by decide)) (by decide +kernel) (by decide +kernel) zx_IAE (zs_in 175 (by decide +kernel) (by decide +kernel)) (fun h hh => absurd hh List.not_mem_nil) rfl
end ZM11
