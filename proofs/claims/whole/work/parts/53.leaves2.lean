/-! ints that are integers -/
theorem mi_toInt {n : Nat} (h : n < 2147483648) : (nI n).toInt = (n : Int) := nI_toInt h
theorem mi_rem (x : Int32) {m : Nat} (h0 : 0 < m) (hm : m < 2147483648) : (x - x / nI m * nI m).toInt = x.toInt.tmod (m : Int) := by
  have hy : (nI m).toInt = (m : Int) := nI_toInt hm
  have h1 : (x / nI m).toInt = x.toInt.tdiv (m : Int) := by
    rw [Int32.toInt_div_of_ne_right, hy]
    intro h
    have := congrArg Int32.toInt h
    rw [hy] at this
    have h3 : ((-1 : Int32).toInt) = -1 := by decide
    omega
  have h2 := Int.natAbs_tmod x.toInt (m : Int)
  have h3 : (x.toInt.tmod (m : Int)).natAbs < m := by rw [h2]; exact Nat.mod_lt _ (by omega)
  rw [Int32.toInt_sub, Int32.toInt_mul, h1, hy, Int.sub_bmod_bmod, Int.tmod_def, Int.mul_comm]
  rw [Int.tmod_def] at h3
  apply Int.bmod_eq_of_le <;> omega
theorem mi_ext {x y : Int32} (h : x.toInt = y.toInt) : x = y := Int32.toInt_inj.1 h
theorem mi_sign (x : Int32) : x < 0 ↔ x.toBitVec.msb = true := by
  rw [Int32.lt_iff_toInt_lt]
  show x.toBitVec.toInt < (0 : Int32).toInt ↔ _
  rw [show (0 : Int32).toInt = 0 from rfl, BitVec.toInt_neg_iff, BitVec.msb_eq_decide, decide_eq_true_eq]
  omega
theorem mi_xor (x y : Int32) : (x ^^^ y) < 0 ↔ ((x < 0) ↔ ¬ (y < 0)) := by
  rw [mi_sign, mi_sign, mi_sign, Int32.toBitVec_xor, BitVec.msb_xor]
  cases x.toBitVec.msb <;> cases y.toBitVec.msb <;> simp
theorem mz_tm {a b : Int} (hp : 0 < b) : a.tmod b = a % b ∨ (a < 0 ∧ a.tmod b = a % b - b ∧ a % b ≠ 0) := by
  rw [Int.tmod_eq_emod]
  split
  · left; omega
  · rename_i hh
    have h5 : a < 0 ∧ ¬ b ∣ a := by omega
    right
    refine ⟨h5.1, by omega, fun h6 => h5.2 (Int.dvd_of_emod_eq_zero h6)⟩
theorem mz_td {a b : Int} (hp : 0 < b) : (a.tdiv b = a / b ∧ (0 ≤ a ∨ a.tdiv b * b = a)) ∨ (a < 0 ∧ a.tdiv b = a / b + 1 ∧ a.tdiv b * b ≠ a) := by
  have h1 := Int.tmod_def a b
  have h2 := Int.emod_add_mul_ediv a b
  have h3 := Int.mul_comm b (a.tdiv b)
  rcases mz_tm (a := a) hp with h | ⟨h4, h5, h6⟩
  · left
    have h7 : b * a.tdiv b = b * (a / b) := by omega
    have h8 : a.tdiv b = a / b := Int.eq_of_mul_eq_mul_left (by omega) h7
    refine ⟨h8, ?_⟩
    by_cases h9 : 0 ≤ a
    · exact Or.inl h9
    · right
      have h10 : a.tmod b ≤ 0 := mz_tnp b (by omega)
      have h11 := Int.emod_nonneg a (show b ≠ 0 by omega)
      omega
  · right
    have h7 : b * a.tdiv b = b * (a / b + 1) := by rw [Int.mul_add, Int.mul_one]; omega
    have h8 := Int.emod_lt_of_pos a hp
    exact ⟨h4, Int.eq_of_mul_eq_mul_left (by omega) h7, by omega⟩
def mz_pop (x : Nat) : Nat := x % 2 + x / 2 % 2 + x / 4 % 2 + x / 8 % 2 + x / 16 % 2 + x / 32 % 2
section ZM4
variable {l : Launch} {P : zs_P} {d : Nat} {σ : zg_H}
theorem zj_floorDiv {a b : Int} (ha : mz_in a) (hb : mz_in b) (hp : 0 < b) : zg_C l (zs_E P) d mJ_floorDiv [.long (mz_L a), .long (mz_L b)] σ (.inl (some (.long (mz_L (a / b)))), σ) := by
  refine zg_C_of (by decide +kernel) (Nat.le_of_ble_eq_true rfl) ?_
  have h0 : mz_in 0 := by unfold mz_in; omega
  have hb0 : ¬ mz_L b = 0 := fun h => by
    have : mz_L b = mz_L 0 := h
    rw [mz_eq hb h0] at this
    omega
  have ht := mz_tdiv_in b ha
  have hm : mz_in (a.tdiv b * b) := by
    have h1 := Int.tmod_def a b
    have h2 := Int.natAbs_tmod a b
    have h3 := Nat.mod_le a.natAbs b.natAbs
    have h4 := ha.1
    have h5 := ha.2
    have h6 := Int.mul_comm b (a.tdiv b)
    have h7 : a.tdiv b * b = a - a.tmod b := by omega
    rw [h7]
    by_cases h8 : 0 ≤ a
    · have h9 := Int.tmod_nonneg b h8
      unfold mz_in; omega
    · have h9 := mz_tnp b (show a ≤ 0 by omega)
      unfold mz_in; omega
  have e3 := mz_td (a := a) hp
  have h2 : ¬ (mz_L b < 0) := fun h => by rw [show (0 : Int64) = mz_L 0 from rfl, mz_lt hb h0] at h; omega
  refine zg_lload_n (zd_t dmJ_floorDiv 0 rfl) rfl ?_
  refine zg_lload_n (zd_t dmJ_floorDiv 1 rfl) rfl ?_
  refine zg_ldiv (zd_t dmJ_floorDiv 2 rfl) hb0 ?_
  rw [mz_div ha hb]
  refine zg_lstore (zd_t dmJ_floorDiv 3 rfl) (by decide) rfl ?_
  refine zg_lload_n (zd_t dmJ_floorDiv 4 rfl) rfl ?_
  refine zg_lload_n (zd_t dmJ_floorDiv 5 rfl) rfl ?_
  refine zg_lxor (zd_t dmJ_floorDiv 6 rfl) ?_
  refine zg_lconst (v := mz_L 0) (zd_t dmJ_floorDiv 7 rfl) (by decide) ?_
  refine zg_lcmp (zd_t dmJ_floorDiv 8 rfl) ?_
  refine zg_if_ge (tgt := 27) (zd_t dmJ_floorDiv 9 rfl) (by decide) (fun h => ?_) (fun h => ?_)
  · rw [lg_cmp_ge] at h
    refine zg_lload (zd_t dmJ_floorDiv 20 rfl) rfl ?_
    refine zg_lret (zd_t dmJ_floorDiv 21 rfl) rfl ?_
    have h1 : ¬ ((mz_L a ^^^ mz_L b) < 0) := Int64.not_lt.mpr h
    rw [mz_xor] at h1
    have h3 : ¬ (mz_L a < 0) := fun h9 => h1 ⟨fun _ => h2, fun _ => h9⟩
    rw [show (0 : Int64) = mz_L 0 from rfl, mz_lt ha h0] at h3
    rcases e3 with e3 | e3
    · rw [e3.1]
    · omega
  · refine zg_lload (zd_t dmJ_floorDiv 10 rfl) rfl ?_
    refine zg_lload_n (zd_t dmJ_floorDiv 11 rfl) rfl ?_
    refine zg_lmul (zd_t dmJ_floorDiv 12 rfl) ?_
    refine zg_lload_n (zd_t dmJ_floorDiv 13 rfl) rfl ?_
    refine zg_lcmp (zd_t dmJ_floorDiv 14 rfl) ?_
    rw [mz_mul, mz_cmp hm ha]
    refine zg_if_eq (tgt := 27) (zd_t dmJ_floorDiv 15 rfl) (by decide) (fun h => ?_) (fun h => ?_)
    · refine zg_lload (zd_t dmJ_floorDiv 20 rfl) rfl ?_
      refine zg_lret (zd_t dmJ_floorDiv 21 rfl) rfl ?_
      have h4 : a.tdiv b * b = a := by
        by_cases h5 : a < a.tdiv b * b
        · rw [if_pos h5] at h; exact absurd h (by decide)
        · rw [if_neg h5] at h
          by_cases h6 : a.tdiv b * b = a
          · exact h6
          · rw [if_neg h6] at h; exact absurd h (by decide)
      rcases e3 with e3 | e3
      · rw [e3.1]
      · exact absurd h4 e3.2.2
    · refine zg_lload (zd_t dmJ_floorDiv 16 rfl) rfl ?_
      refine zg_lconst (v := mz_L 1) (zd_t dmJ_floorDiv 17 rfl) (by decide) ?_
      refine zg_lsub (zd_t dmJ_floorDiv 18 rfl) ?_
      refine zg_lret (zd_t dmJ_floorDiv 19 rfl) rfl ?_
      have h4 : a.tdiv b * b ≠ a := by
        intro h6
        rw [if_neg (by omega), if_pos h6] at h
        exact h rfl
      rw [mz_sub]
      rcases e3 with e3 | e3
      · exfalso
        rename_i h1
        rw [lg_cmp_ge] at h1
        have h1 : (mz_L a ^^^ mz_L b) < 0 := Int64.not_le.mp h1
        rw [mz_xor] at h1
        have h3 : mz_L a < 0 := h1.mpr h2
        rw [show (0 : Int64) = mz_L 0 from rfl, mz_lt ha h0] at h3
        rcases e3.2 with h5 | h5
        · omega
        · exact h4 h5
      · rw [e3.2.1, show a / b + 1 - 1 = a / b by omega]
theorem zj_floorModI (x : Int32) {m : Nat} (h0 : 0 < m) (hm : m ≤ 256) : zg_C l (zs_E P) d mJ_floorMod_I [.int x, .int (nI m)] σ (.inl (some (.int (nI (x.toInt % (m : Int)).toNat))), σ) := by
  refine zg_C_of (by decide +kernel) (Nat.le_of_ble_eq_true rfl) ?_
  have e1 := Int.emod_nonneg x.toInt (show (m : Int) ≠ 0 by omega)
  have e2 := Int.emod_lt_of_pos x.toInt (show 0 < (m : Int) by omega)
  have e3 := mz_tm (a := x.toInt) (show 0 < (m : Int) by omega)
  have er := mi_rem x h0 (show m < 2147483648 by omega)
  have hr : (nI (x.toInt % (m : Int)).toNat).toInt = x.toInt % (m : Int) := by rw [nI_toInt (by omega)]; omega
  have h2 : ¬ (nI m < 0) := nI_pos (by omega)
  refine zg_iload_n (zd_t dmJ_floorMod_I 0 rfl) rfl ?_
  refine zg_iload_n (zd_t dmJ_floorMod_I 1 rfl) rfl ?_
  refine zg_irem (zd_t dmJ_floorMod_I 2 rfl) (nI_ne0 h0 (by omega)) ?_
  obtain ⟨t, ht⟩ : ∃ t, t = x - x / nI m * nI m := ⟨_, rfl⟩
  rw [← ht] at er ⊢
  refine zg_istore_n (zd_t dmJ_floorMod_I 3 rfl) (by decide) rfl ?_
  refine zg_iload_n (zd_t dmJ_floorMod_I 4 rfl) rfl ?_
  refine zg_iload_n (zd_t dmJ_floorMod_I 5 rfl) rfl ?_
  refine zg_ixor (zd_t dmJ_floorMod_I 6 rfl) ?_
  refine zg_if_ge (tgt := 18) (zd_t dmJ_floorMod_I 7 rfl) (by decide) (fun h => ?_) (fun h => ?_)
  · refine zg_iload_n (zd_t dmJ_floorMod_I 14 rfl) rfl ?_
    refine zg_iret (zd_t dmJ_floorMod_I 15 rfl) rfl ?_
    have h1 : ¬ ((x ^^^ nI m) < 0) := Int32.not_lt.mpr h
    rw [mi_xor] at h1
    have h3 : ¬ (x < 0) := fun h9 => h1 ⟨fun _ => h2, fun _ => h9⟩
    rw [Int32.lt_iff_toInt_lt] at h3
    have h3 : ¬ x.toInt < 0 := h3
    have : t = nI (x.toInt % (m : Int)).toNat := mi_ext (by rw [er, hr]; rcases e3 with e3 | e3 <;> omega)
    rw [this]
  · refine zg_iload_n (zd_t dmJ_floorMod_I 8 rfl) rfl ?_
    refine zg_if_eq (tgt := 18) (zd_t dmJ_floorMod_I 9 rfl) (by decide) (fun h4 => ?_) (fun h4 => ?_)
    · refine zg_iload_n (zd_t dmJ_floorMod_I 14 rfl) rfl ?_
      refine zg_iret (zd_t dmJ_floorMod_I 15 rfl) rfl ?_
      have h5 : t.toInt = 0 := by rw [h4]; rfl
      have : t = nI (x.toInt % (m : Int)).toNat := mi_ext (by rw [er, hr]; rcases e3 with e3 | e3 <;> omega)
      rw [this]
    · refine zg_iload_n (zd_t dmJ_floorMod_I 10 rfl) rfl ?_
      refine zg_iload_n (zd_t dmJ_floorMod_I 11 rfl) rfl ?_
      refine zg_iadd (zd_t dmJ_floorMod_I 12 rfl) ?_
      refine zg_iret (zd_t dmJ_floorMod_I 13 rfl) rfl ?_
      have h1 : (x ^^^ nI m) < 0 := Int32.not_le.mp h
      rw [mi_xor] at h1
      have h3 : x < 0 := h1.mpr h2
      rw [Int32.lt_iff_toInt_lt] at h3
      have h3 : x.toInt < 0 := h3
      have h5 : t.toInt ≠ 0 := fun h6 => h4 (mi_ext (by rw [h6]; rfl))
      have h6 : t.toInt ≤ 0 := by rw [er]; exact mz_tnp _ (by omega)
      have : t + nI m = nI (x.toInt % (m : Int)).toNat := mi_ext (by
        rw [Int32.toInt_add, nI_toInt (show m < 2 ^ 31 by omega), hr]
        rcases e3 with e3 | e3
        · omega
        · rw [show t.toInt + (m : Int) = x.toInt % (m : Int) by omega]
          apply Int.bmod_eq_of_le <;> omega)
      rw [this]
theorem zu_isInstruction (r : Int32) : zg_C l (zs_E P) d mU_isInstruction [.int r] σ (.inl (some (.int (zs_bi (decide (0 ≤ r.toInt ∧ r.toInt < 32))))), σ) := by
  refine zg_C_of (by decide +kernel) (Nat.le_of_ble_eq_true rfl) ?_
  refine zg_iload_n (zd_t dmU_isInstruction 0 rfl) rfl ?_
  refine zg_if_lt (tgt := 14) (zd_t dmU_isInstruction 1 rfl) (by decide) (fun h => ?_) (fun h => ?_)
  · refine zg_iconst (v := (nI 0)) (zd_t dmU_isInstruction 7 rfl) (by decide) ?_
    refine zg_zret (zd_t dmU_isInstruction 8 rfl) rfl rfl ?_
    rw [Int32.lt_iff_toInt_lt] at h
    have h : r.toInt < 0 := h
    rw [decide_eq_false (by omega)]
    rfl
  · rw [Int32.lt_iff_toInt_lt] at h
    have h : ¬ r.toInt < 0 := h
    refine zg_iload_n (zd_t dmU_isInstruction 2 rfl) rfl ?_
    refine zg_bipush (v := (nI 32)) (zd_t dmU_isInstruction 3 rfl) (by decide) ?_
    refine zg_icmp_ge (tgt := 14) (zd_t dmU_isInstruction 4 rfl) (by decide) (fun h2 => ?_) (fun h2 => ?_)
    · rw [Int32.le_iff_toInt_le] at h2
      have h2 : 32 ≤ r.toInt := h2
      refine zg_iconst (v := (nI 0)) (zd_t dmU_isInstruction 7 rfl) (by decide) ?_
      refine zg_zret (zd_t dmU_isInstruction 8 rfl) rfl rfl ?_
      rw [decide_eq_false (by omega)]
      rfl
    · rw [Int32.le_iff_toInt_le] at h2
      have h2 : ¬ 32 ≤ r.toInt := h2
      refine zg_iconst (v := (nI 1)) (zd_t dmU_isInstruction 5 rfl) (by decide) ?_
      refine zg_goto (tgt := 15) (zd_t dmU_isInstruction 6 rfl) (by decide) ?_
      refine zg_zret (zd_t dmU_isInstruction 8 rfl) rfl rfl ?_
      rw [decide_eq_true (by omega)]
      rfl
def mz_us (x : Int32) (y : Nat) : Int32 := (x.toUInt32 >>> ((nI y).toUInt32 &&& Int32.toUInt32 31)).toInt32
def mz_b1 (x : Int32) : Int32 := x - (mz_us x 1 &&& 1431655765)
def mz_b2 (x : Int32) : Int32 := (mz_b1 x &&& 858993459) + (mz_us (mz_b1 x) 2 &&& 858993459)
def mz_b3 (x : Int32) : Int32 := (mz_b2 x + mz_us (mz_b2 x) 4) &&& 252645135
def mz_b4 (x : Int32) : Int32 := mz_b3 x + mz_us (mz_b3 x) 8
def mz_b5 (x : Int32) : Int32 := (mz_b4 x + mz_us (mz_b4 x) 16) &&& 63
theorem mz_bc : ∀ x, x < 64 → mz_b5 (nI x) = nI (mz_pop x) := by decide
theorem zj_bitCount {x : Nat} (hx : x < 64) : zg_C l (zs_E P) d mJ_bitCount [.int (nI x)] σ (.inl (some (.int (nI (mz_pop x)))), σ) := by
  refine zg_C_of (by decide +kernel) (Nat.le_of_ble_eq_true rfl) ?_
  refine zg_iload_n (zd_t dmJ_bitCount 0 rfl) rfl ?_
  refine zg_iload_n (zd_t dmJ_bitCount 1 rfl) rfl ?_
  refine zg_iconst (v := (nI 1)) (zd_t dmJ_bitCount 2 rfl) (by decide) ?_
  refine zg_iushr (zd_t dmJ_bitCount 3 rfl) rfl ?_
  refine zg_ldcw (zd_t dmJ_bitCount 4 rfl) zc_J_265 ?_
  refine zg_iand (zd_t dmJ_bitCount 5 rfl) ?_
  refine zg_isub (zd_t dmJ_bitCount 6 rfl) ?_
  refine zg_istore_n (zd_t dmJ_bitCount 7 rfl) (by decide) rfl ?_
  refine zg_iload_n (zd_t dmJ_bitCount 8 rfl) rfl ?_
  refine zg_ldcw (zd_t dmJ_bitCount 9 rfl) zc_J_266 ?_
  refine zg_iand (zd_t dmJ_bitCount 10 rfl) ?_
  refine zg_iload_n (zd_t dmJ_bitCount 11 rfl) rfl ?_
  refine zg_iconst (v := (nI 2)) (zd_t dmJ_bitCount 12 rfl) (by decide) ?_
  refine zg_iushr (zd_t dmJ_bitCount 13 rfl) rfl ?_
  refine zg_ldcw (zd_t dmJ_bitCount 14 rfl) zc_J_266 ?_
  refine zg_iand (zd_t dmJ_bitCount 15 rfl) ?_
  refine zg_iadd (zd_t dmJ_bitCount 16 rfl) ?_
  refine zg_istore_n (zd_t dmJ_bitCount 17 rfl) (by decide) rfl ?_
  refine zg_iload_n (zd_t dmJ_bitCount 18 rfl) rfl ?_
  refine zg_iload_n (zd_t dmJ_bitCount 19 rfl) rfl ?_
  refine zg_iconst (v := (nI 4)) (zd_t dmJ_bitCount 20 rfl) (by decide) ?_
  refine zg_iushr (zd_t dmJ_bitCount 21 rfl) rfl ?_
  refine zg_iadd (zd_t dmJ_bitCount 22 rfl) ?_
  refine zg_ldcw (zd_t dmJ_bitCount 23 rfl) zc_J_267 ?_
  refine zg_iand (zd_t dmJ_bitCount 24 rfl) ?_
  refine zg_istore_n (zd_t dmJ_bitCount 25 rfl) (by decide) rfl ?_
  refine zg_iload_n (zd_t dmJ_bitCount 26 rfl) rfl ?_
  refine zg_iload_n (zd_t dmJ_bitCount 27 rfl) rfl ?_
  refine zg_bipush (v := (nI 8)) (zd_t dmJ_bitCount 28 rfl) (by decide) ?_
  refine zg_iushr (zd_t dmJ_bitCount 29 rfl) rfl ?_
  refine zg_iadd (zd_t dmJ_bitCount 30 rfl) ?_
  refine zg_istore_n (zd_t dmJ_bitCount 31 rfl) (by decide) rfl ?_
  refine zg_iload_n (zd_t dmJ_bitCount 32 rfl) rfl ?_
  refine zg_iload_n (zd_t dmJ_bitCount 33 rfl) rfl ?_
  refine zg_bipush (v := (nI 16)) (zd_t dmJ_bitCount 34 rfl) (by decide) ?_
  refine zg_iushr (zd_t dmJ_bitCount 35 rfl) rfl ?_
  refine zg_iadd (zd_t dmJ_bitCount 36 rfl) ?_
  refine zg_istore_n (zd_t dmJ_bitCount 37 rfl) (by decide) rfl ?_
  refine zg_iload_n (zd_t dmJ_bitCount 38 rfl) rfl ?_
  refine zg_bipush (v := (nI 63)) (zd_t dmJ_bitCount 39 rfl) (by decide) ?_
  refine zg_iand (zd_t dmJ_bitCount 40 rfl) ?_
  refine zg_iret (zd_t dmJ_bitCount 41 rfl) rfl ?_
  rw [← mz_bc x hx]
  rfl
abbrev mz_sm (c : Int32) : Prop := 0 < c.toInt ∧ c.toInt < 64 ∧ mz_pop c.toInt.toNat ≤ 4
theorem zu_areScalingModuli (c : Int32) : zg_C l (zs_E P) (d + 1) mU_areScalingModuli [.int c] σ (.inl (some (.int (zs_bi (decide (mz_sm c))))), σ) := by
  refine zg_C_of (by decide +kernel) (Nat.le_of_ble_eq_true rfl) ?_
  refine zg_iload_n (zd_t dmU_areScalingModuli 0 rfl) rfl ?_
  refine zg_if_le (tgt := 22) (zd_t dmU_areScalingModuli 1 rfl) (by decide) (fun h => ?_) (fun h => ?_)
  · refine zg_iconst (v := (nI 0)) (zd_t dmU_areScalingModuli 11 rfl) (by decide) ?_
    refine zg_zret (zd_t dmU_areScalingModuli 12 rfl) rfl rfl ?_
    rw [Int32.le_iff_toInt_le] at h
    have h : c.toInt ≤ 0 := h
    rw [decide_eq_false (by omega)]
    rfl
  · rw [Int32.le_iff_toInt_le] at h
    have h : ¬ c.toInt ≤ 0 := h
    refine zg_iload_n (zd_t dmU_areScalingModuli 2 rfl) rfl ?_
    refine zg_bipush (v := (nI 64)) (zd_t dmU_areScalingModuli 3 rfl) (by decide) ?_
    refine zg_icmp_ge (tgt := 22) (zd_t dmU_areScalingModuli 4 rfl) (by decide) (fun h2 => ?_) (fun h2 => ?_)
    · rw [Int32.le_iff_toInt_le] at h2
      have h2 : 64 ≤ c.toInt := h2
      refine zg_iconst (v := (nI 0)) (zd_t dmU_areScalingModuli 11 rfl) (by decide) ?_
      refine zg_zret (zd_t dmU_areScalingModuli 12 rfl) rfl rfl ?_
      rw [decide_eq_false (by omega)]
      rfl
    · rw [Int32.le_iff_toInt_le] at h2
      have h2 : ¬ 64 ≤ c.toInt := h2
      obtain ⟨x, hx⟩ : ∃ x : Nat, x = c.toInt.toNat := ⟨_, rfl⟩
      have hc : c = nI x := mi_ext (by rw [nI_toInt (by omega)]; omega)
      have hp : mz_pop x < 64 := by unfold mz_pop; omega
      refine zg_iload_n (zd_t dmU_areScalingModuli 5 rfl) rfl ?_
      refine zg_callS (zd_t dmU_areScalingModuli 6 rfl) zl_U_149 zm_mJ_bitCount zst_mJ_bitCount (av := [.int c]) (rest := []) rfl rfl (Nat.le_of_ble_eq_true rfl) (by rw [hc]; exact zj_bitCount (by omega)) ?_
      refine zg_iconst (v := (nI 4)) (zd_t dmU_areScalingModuli 7 rfl) (by decide) ?_
      refine zg_icmp_gt (tgt := 22) (zd_t dmU_areScalingModuli 8 rfl) (by decide) (fun h3 => ?_) (fun h3 => ?_)
      · refine zg_iconst (v := (nI 0)) (zd_t dmU_areScalingModuli 11 rfl) (by decide) ?_
        refine zg_zret (zd_t dmU_areScalingModuli 12 rfl) rfl rfl ?_
        rw [nI_ltI (by omega) (by omega)] at h3
        rw [decide_eq_false (by unfold mz_sm; rw [← hx]; omega)]
        rfl
      · refine zg_iconst (v := (nI 1)) (zd_t dmU_areScalingModuli 9 rfl) (by decide) ?_
        refine zg_goto (tgt := 23) (zd_t dmU_areScalingModuli 10 rfl) (by decide) ?_
        refine zg_zret (zd_t dmU_areScalingModuli 12 rfl) rfl rfl ?_
        rw [nI_ltI (by omega) (by omega)] at h3
        rw [decide_eq_true (by unfold mz_sm; rw [← hx]; omega)]
        rfl
end ZM4
