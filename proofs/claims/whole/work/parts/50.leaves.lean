def mz_wi (a : Int) : Prop := -9223372036854775808 ≤ a ∧ a ≤ 9223372036854775807
theorem mz_in.w {a : Int} (h : mz_in a) : mz_wi a := by
  have h1 := h.1
  have h2 := h.2
  unfold mz_wi
  omega
theorem mz_cmpW {a b : Int} (ha : mz_wi a) (hb : mz_wi b) : lg_cmp (mz_L a) (mz_L b) = if b < a then 1 else if a = b then 0 else -1 := by
  have e1 : (mz_L a).toInt = a := mz_int (by have := ha.1; omega) (by have := ha.2; omega)
  have e2 : (mz_L b).toInt = b := mz_int (by have := hb.1; omega) (by have := hb.2; omega)
  unfold lg_cmp
  have h1 : (mz_L a > mz_L b) ↔ b < a := by rw [gt_iff_lt, Int64.lt_iff_toInt_lt, e1, e2]
  have h2 : (mz_L a = mz_L b) ↔ a = b := by rw [← Int64.toInt_inj, e1, e2]
  simp only [h1, h2]
theorem mz_tnp {a : Int} (b : Int) (h : a ≤ 0) : a.tmod b ≤ 0 := by
  have h1 := Int.tmod_nonneg b (show 0 ≤ -a by omega)
  rw [Int.neg_tmod] at h1
  omega
section ZM1
variable {l : Launch} {P : zs_P} {d : Nat} {σ : zg_H}
theorem zj_abs {a : Int} (ha : mz_in a) : zg_C l (zs_E P) d mJ_abs [.long (mz_L a)] σ (.inl (some (.long (mz_L (a.natAbs : Int)))), σ) := by
  refine zg_C_of (by decide +kernel) (Nat.le_of_ble_eq_true rfl) ?_
  have h0 : mz_in 0 := by unfold mz_in; omega
  refine zg_lload_n (zd_t dmJ_abs 0 rfl) rfl ?_
  refine zg_lconst (v := mz_L 0) (zd_t dmJ_abs 1 rfl) (by decide) ?_
  refine zg_lcmp (zd_t dmJ_abs 2 rfl) ?_
  refine zg_if_ge (tgt := 11) (zd_t dmJ_abs 3 rfl) (by decide) (fun h => ?_) (fun h => ?_)
  · rw [lg_cmp_ge, mz_le h0 ha] at h
    refine zg_lload_n (zd_t dmJ_abs 7 rfl) rfl ?_
    refine zg_lret (zd_t dmJ_abs 8 rfl) rfl ?_
    rw [show (a.natAbs : Int) = a by omega]
  · rw [lg_cmp_ge, mz_le h0 ha] at h
    refine zg_lload_n (zd_t dmJ_abs 4 rfl) rfl ?_
    refine zg_lneg (zd_t dmJ_abs 5 rfl) ?_
    refine zg_goto (tgt := 12) (zd_t dmJ_abs 6 rfl) (by decide) ?_
    refine zg_lret (zd_t dmJ_abs 8 rfl) rfl ?_
    rw [mz_neg, show (a.natAbs : Int) = -a by omega]
theorem zj_floorMod {a b : Int} (ha : mz_in a) (hb : mz_in b) (hp : 0 < b) : zg_C l (zs_E P) d mJ_floorMod_J [.long (mz_L a), .long (mz_L b)] σ (.inl (some (.long (mz_L (a % b)))), σ) := by
  refine zg_C_of (by decide +kernel) (Nat.le_of_ble_eq_true rfl) ?_
  have h0 : mz_in 0 := by unfold mz_in; omega
  have hb0 : ¬ mz_L b = 0 := fun h => by
    have : mz_L b = mz_L 0 := h
    rw [mz_eq hb h0] at this
    omega
  have ht : mz_in (a.tmod b) := by
    have := mz_tdiv_in b ha
    have h1 := Int.natAbs_tmod a b
    have h2 := Nat.mod_le a.natAbs b.natAbs
    have h3 := ha.1
    have h4 := ha.2
    unfold mz_in
    omega
  have e1 := Int.emod_nonneg a (show b ≠ 0 by omega)
  have e2 := Int.emod_lt_of_pos a hp
  have e3 : a.tmod b = a % b ∨ (a < 0 ∧ a.tmod b = a % b - b ∧ a % b ≠ 0) := by
    rw [Int.tmod_eq_emod]
    split
    · left; omega
    · rename_i hh
      have h5 : a < 0 ∧ ¬ b ∣ a := by omega
      right
      refine ⟨h5.1, by omega, fun h6 => h5.2 (Int.dvd_of_emod_eq_zero h6)⟩
  refine zg_lload_n (zd_t dmJ_floorMod_J 0 rfl) rfl ?_
  refine zg_lload_n (zd_t dmJ_floorMod_J 1 rfl) rfl ?_
  refine zg_lrem (zd_t dmJ_floorMod_J 2 rfl) hb0 ?_
  rw [mz_rem ha hb]
  refine zg_lstore (zd_t dmJ_floorMod_J 3 rfl) (by decide) rfl ?_
  refine zg_lload_n (zd_t dmJ_floorMod_J 4 rfl) rfl ?_
  refine zg_lload_n (zd_t dmJ_floorMod_J 5 rfl) rfl ?_
  refine zg_lxor (zd_t dmJ_floorMod_J 6 rfl) ?_
  refine zg_lconst (v := mz_L 0) (zd_t dmJ_floorMod_J 7 rfl) (by decide) ?_
  refine zg_lcmp (zd_t dmJ_floorMod_J 8 rfl) ?_
  refine zg_if_ge (tgt := 25) (zd_t dmJ_floorMod_J 9 rfl) (by decide) (fun h => ?_) (fun h => ?_)
  · rw [lg_cmp_ge] at h
    refine zg_lload (zd_t dmJ_floorMod_J 18 rfl) rfl ?_
    refine zg_lret (zd_t dmJ_floorMod_J 19 rfl) rfl ?_
    have h1 : ¬ ((mz_L a ^^^ mz_L b) < 0) := Int64.not_lt.mpr h
    rw [mz_xor] at h1
    have h2 : ¬ (mz_L b < 0) := fun h => by rw [show (0 : Int64) = mz_L 0 from rfl, mz_lt hb h0] at h; omega
    have h3 : ¬ (mz_L a < 0) := fun h9 => h1 ⟨fun _ => h2, fun _ => h9⟩
    rw [show (0 : Int64) = mz_L 0 from rfl, mz_lt ha h0] at h3
    rcases e3 with e3 | e3
    · rw [e3]
    · omega
  · rw [lg_cmp_ge] at h
    have h1 : (mz_L a ^^^ mz_L b) < 0 := Int64.not_le.mp h
    rw [mz_xor] at h1
    have h2 : ¬ (mz_L b < 0) := fun h => by rw [show (0 : Int64) = mz_L 0 from rfl, mz_lt hb h0] at h; omega
    have h3 : mz_L a < 0 := h1.mpr h2
    rw [show (0 : Int64) = mz_L 0 from rfl, mz_lt ha h0] at h3
    refine zg_lload (zd_t dmJ_floorMod_J 10 rfl) rfl ?_
    refine zg_lconst (v := mz_L 0) (zd_t dmJ_floorMod_J 11 rfl) (by decide) ?_
    refine zg_lcmp (zd_t dmJ_floorMod_J 12 rfl) ?_
    rw [mz_cmp ht h0]
    refine zg_if_eq (tgt := 25) (zd_t dmJ_floorMod_J 13 rfl) (by decide) (fun h => ?_) (fun h => ?_)
    · refine zg_lload (zd_t dmJ_floorMod_J 18 rfl) rfl ?_
      refine zg_lret (zd_t dmJ_floorMod_J 19 rfl) rfl ?_
      have h4 : a.tmod b = 0 := by
        by_cases h5 : 0 < a.tmod b
        · rw [if_pos h5] at h; exact absurd h (by decide)
        · rw [if_neg h5] at h
          by_cases h6 : a.tmod b = 0
          · exact h6
          · rw [if_neg h6] at h; exact absurd h (by decide)
      rcases e3 with e3 | e3
      · rw [e3]
      · omega
    · refine zg_lload (zd_t dmJ_floorMod_J 14 rfl) rfl ?_
      refine zg_lload_n (zd_t dmJ_floorMod_J 15 rfl) rfl ?_
      refine zg_ladd (zd_t dmJ_floorMod_J 16 rfl) ?_
      refine zg_lret (zd_t dmJ_floorMod_J 17 rfl) rfl ?_
      have h4 : a.tmod b ≠ 0 := by
        intro h6
        rw [if_neg (by omega), if_pos h6] at h
        exact h rfl
      rw [mz_add]
      rcases e3 with e3 | e3
      · exfalso
        have h7 : a.tmod b ≤ 0 := by
          have := mz_tnp b (show a ≤ 0 by omega)
          exact this
        omega
      · rw [e3.2.1, show a % b - b + b = a % b by omega]
theorem zu_isRegister (r : Int32) : zg_C l (zs_E P) d mU_isRegister [.int r] σ (.inl (some (.int (zs_bi (decide (0 ≤ r.toInt ∧ r.toInt < 16))))), σ) := by
  refine zg_C_of (by decide +kernel) (Nat.le_of_ble_eq_true rfl) ?_
  refine zg_iload_n (zd_t dmU_isRegister 0 rfl) rfl ?_
  refine zg_if_lt (tgt := 14) (zd_t dmU_isRegister 1 rfl) (by decide) (fun h => ?_) (fun h => ?_)
  · refine zg_iconst (v := (nI 0)) (zd_t dmU_isRegister 7 rfl) (by decide) ?_
    refine zg_zret (zd_t dmU_isRegister 8 rfl) rfl rfl ?_
    rw [Int32.lt_iff_toInt_lt] at h
    have h : r.toInt < 0 := h
    rw [decide_eq_false (by omega)]
    rfl
  · rw [Int32.lt_iff_toInt_lt] at h
    have h : ¬ r.toInt < 0 := h
    refine zg_iload_n (zd_t dmU_isRegister 2 rfl) rfl ?_
    refine zg_bipush (v := (nI 16)) (zd_t dmU_isRegister 3 rfl) (by decide) ?_
    refine zg_icmp_ge (tgt := 14) (zd_t dmU_isRegister 4 rfl) (by decide) (fun h2 => ?_) (fun h2 => ?_)
    · rw [Int32.le_iff_toInt_le] at h2
      have h2 : 16 ≤ r.toInt := h2
      refine zg_iconst (v := (nI 0)) (zd_t dmU_isRegister 7 rfl) (by decide) ?_
      refine zg_zret (zd_t dmU_isRegister 8 rfl) rfl rfl ?_
      rw [decide_eq_false (by omega)]
      rfl
    · rw [Int32.le_iff_toInt_le] at h2
      have h2 : ¬ 16 ≤ r.toInt := h2
      refine zg_iconst (v := (nI 1)) (zd_t dmU_isRegister 5 rfl) (by decide) ?_
      refine zg_goto (tgt := 15) (zd_t dmU_isRegister 6 rfl) (by decide) ?_
      refine zg_zret (zd_t dmU_isRegister 8 rfl) rfl rfl ?_
      rw [decide_eq_true (by omega)]
      rfl
theorem zu_inRange {v : Int} (hv : mz_wi v) : zg_C l (zs_E P) d mU_inRange [.long (mz_L v)] σ (.inl (some (.int (zs_bi (decide (-87553987462305 ≤ v ∧ v ≤ 87553987462305))))), σ) := by
  refine zg_C_of (by decide +kernel) (Nat.le_of_ble_eq_true rfl) ?_
  have h1 : mz_in (-87553987462305) := by unfold mz_in; omega
  have h2 : mz_in 87553987462305 := by unfold mz_in; omega
  refine zg_lload_n (zd_t dmU_inRange 0 rfl) rfl ?_
  refine zg_ldc2 (zd_t dmU_inRange 1 rfl) zc_U_154 ?_
  refine zg_lcmp (zd_t dmU_inRange 2 rfl) ?_
  rw [mz_cmpW hv h1.w]
  refine zg_if_lt (tgt := 20) (zd_t dmU_inRange 3 rfl) (by decide) (fun h => ?_) (fun h => ?_)
  · refine zg_iconst (v := (nI 0)) (zd_t dmU_inRange 10 rfl) (by decide) ?_
    refine zg_zret (zd_t dmU_inRange 11 rfl) rfl rfl ?_
    rw [decide_eq_false ?_]
    · rfl
    · intro h3
      by_cases h4 : -87553987462305 < v
      · rw [if_pos h4] at h; exact absurd h (by decide)
      · rw [if_neg h4, if_pos (by omega)] at h; exact absurd h (by decide)
  · have h3 : -87553987462305 ≤ v := by
      by_cases h4 : -87553987462305 ≤ v
      · exact h4
      · rw [if_neg (by omega), if_neg (by omega)] at h; exact absurd (by decide) h
    refine zg_lload_n (zd_t dmU_inRange 4 rfl) rfl ?_
    refine zg_ldc2 (zd_t dmU_inRange 5 rfl) zc_U_156 ?_
    refine zg_lcmp (zd_t dmU_inRange 6 rfl) ?_
    rw [mz_cmpW hv h2.w]
    refine zg_if_gt (tgt := 20) (zd_t dmU_inRange 7 rfl) (by decide) (fun h => ?_) (fun h => ?_)
    · refine zg_iconst (v := (nI 0)) (zd_t dmU_inRange 10 rfl) (by decide) ?_
      refine zg_zret (zd_t dmU_inRange 11 rfl) rfl rfl ?_
      rw [decide_eq_false ?_]
      · rfl
      · intro h5
        rw [if_neg (by omega)] at h
        by_cases h4 : v = 87553987462305
        · rw [if_pos h4] at h; exact absurd h (by decide)
        · rw [if_neg h4] at h; exact absurd h (by decide)
    · refine zg_iconst (v := (nI 1)) (zd_t dmU_inRange 8 rfl) (by decide) ?_
      refine zg_goto (tgt := 21) (zd_t dmU_inRange 9 rfl) (by decide) ?_
      refine zg_zret (zd_t dmU_inRange 11 rfl) rfl rfl ?_
      rw [decide_eq_true ?_]
      · rfl
      · refine ⟨h3, ?_⟩
        by_cases h4 : 87553987462305 < v
        · rw [if_pos h4] at h; exact absurd (by decide) h
        · omega
theorem zs_xM (U : State) (H : Heap) (h : zg_x (zs_E P) U H) : va_Z "ResidueUnit" "MODULI" "[I" (.ref (zp_tM P)) (fun q => zg_b (zs_E P) ≤ q) U H := h.1.1
theorem zs_yM (U : State) (H : Heap) (h : zg_x (zs_E P) U H) : va_T .int (zp_tM P) 8 (fun j => .int (nI (mz_m j))) (fun q => zg_b (zs_E P) ≤ q) U H := h.1.2
theorem zs_xW (U : State) (H : Heap) (h : zg_x (zs_E P) U H) : va_Z "ResidueUnit" "WEIGHTS" "[J" (.ref (zp_tW P)) (fun q => zg_b (zs_E P) ≤ q) U H := h.2.1.1
theorem zs_yW (U : State) (H : Heap) (h : zg_x (zs_E P) U H) : va_T .long (zp_tW P) 6 (fun j => .long (mz_L (mz_w j : Int))) (fun q => zg_b (zs_E P) ≤ q) U H := h.2.1.2
theorem zs_xV (U : State) (H : Heap) (h : zg_x (zs_E P) U H) : va_Z "ResidueUnit" "WITNESS_INVERSES" "[I" (.ref (zp_tV P)) (fun q => zg_b (zs_E P) ≤ q) U H := h.2.2.1.1
theorem zs_yV (U : State) (H : Heap) (h : zg_x (zs_E P) U H) : va_T .int (zp_tV P) 6 (fun j => .int (nI (mz_iv j))) (fun q => zg_b (zs_E P) ≤ q) U H := h.2.2.1.2
theorem mz_m_in (k : Nat) : mz_in (mz_m k : Int) := by
  have := (mz_m_lt k).1
  unfold mz_in
  omega
theorem zu_residueOf {v : Int} {k : Nat} (hv : mz_in v) (hk : k < 8) : zg_C l (zs_E P) (d + 1) mU_residueOf [.long (mz_L v), .int (nI k)] σ (.inl (some (.int (nI (v % (mz_m k : Int)).toNat))), σ) := by
  refine zg_C_of (by decide +kernel) (Nat.le_of_ble_eq_true rfl) ?_
  have hm := mz_m_lt k
  refine zg_lload_n (zd_t dmU_residueOf 0 rfl) rfl ?_
  refine zg_gets (zd_t dmU_residueOf 1 rfl) zs_xM zg_U_190 ?_
  refine zg_iload_n (zd_t dmU_residueOf 2 rfl) rfl ?_
  refine zg_ti (zd_t dmU_residueOf 3 rfl) zs_yM rfl hk (by decide) rfl ?_
  refine zg_i2l (zd_t dmU_residueOf 4 rfl) rfl ?_
  rw [mz_i2l (show mz_m k < 2 ^ 31 by omega)]
  refine zg_callS (zd_t dmU_residueOf 5 rfl) zl_U_193 zm_mJ_floorMod_J zst_mJ_floorMod_J (av := [.long (mz_L v), .long (mz_L (mz_m k : Int))]) (rest := []) rfl rfl (Nat.le_of_ble_eq_true rfl) (zj_floorMod hv (mz_m_in k) (by omega)) ?_
  refine zg_l2i (zd_t dmU_residueOf 6 rfl) (v := nI (v % (mz_m k : Int)).toNat) ?_ ?_
  · have h1 := Int.emod_nonneg v (show (mz_m k : Int) ≠ 0 by omega)
    have h2 : v % (mz_m k : Int) = ((v % (mz_m k : Int)).toNat : Int) := by omega
    rw [h2, mz_l2i, ← h2]
  · exact zg_iret (zd_t dmU_residueOf 7 rfl) rfl rfl
end ZM1
