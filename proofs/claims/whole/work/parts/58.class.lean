abbrev zs_ir (r : Int32) : Prop := 0 ≤ r.toInt ∧ r.toInt < 16
abbrev zs_ii (r : Int32) : Prop := 0 ≤ r.toInt ∧ r.toInt < 32
abbrev zs_ch (k : Int32) : Prop := 1 ≤ k.toInt ∧ k.toInt ≤ 8
def zs_al (k : Nat) (a b c : Int32) : Bool :=
  if k = 0 then true else if k < 5 then decide (zs_ir a) && (decide (zs_ir b) && decide (zs_ir c)) else if k = 5 then decide (zs_ir a) && (decide (zs_ir b) && decide (mz_sm c)) else if k = 6 then decide (zs_ir a) && decide (zs_ir b) else if k = 7 then decide (zs_ii a) else if k = 8 then decide (zs_ir a) && decide (zs_ii b) else if k = 9 then decide (0 ≤ a.toInt ∧ a.toInt ≤ 1000) else if k = 10 then decide (zs_ii a) else decide (zs_ir a) && decide (-128 ≤ b.toInt ∧ b.toInt ≤ 127)
/-- whether an instruction may be written -/
def zs_alw (k a b c : Int32) : Bool := if 0 ≤ k.toInt ∧ k.toInt ≤ 11 then zs_al k.toInt.toNat a b c else false
theorem zx_ARE {P : zs_P} : ∀ a ∈ Bundle.ownAtoms "ResidueUnit" 82 "java/lang/ArithmeticException" zs_nm, a ∈ zg_ws (zs_E P) ∨ ∀ U H, zg_x (zs_E P) U H → U.heap = H → ∀ ar : Array Value, a.before ar U = true := zs_atoms (by decide +kernel)
theorem zs_cl2 {P : zs_P} : (zg_cl (zs_E P))[2]? = some ("ResidueUnit$Instruction", zs_TI, 4) := rfl
theorem zs_cl3 {P : zs_P} : (zg_cl (zs_E P))[3]? = some ("ResidueUnitModel", zs_TM, 12) := rfl
theorem mz_bit : ∀ x, x < 64 → ∀ k, k < 6 → (nI x >>> (nI k &&& 31)) &&& nI 1 = nI (x / 2 ^ k % 2) := by decide +kernel
def mz_pr (x : Nat) : Nat → Nat
  | 0 => 1
  | k + 1 => if x / 2 ^ k % 2 = 1 then mz_pr x k * mz_m k else mz_pr x k
theorem mz_pr_le : ∀ x, x < 64 → mz_pop x ≤ 4 → 1 ≤ mz_pr x 6 ∧ mz_pr x 6 < 4000000000 := by decide +kernel
def mz_sc (v s : Int) (n : Bool) : Int := if n = true then (2 * v + s) / (2 * s) else v / s
theorem mz_sc_hr {v s : Int} {n : Bool} (hv : mz_hr v) (hs : 1 ≤ s) : mz_hr (mz_sc v s n) := by
  unfold mz_sc
  have h1 := hv.1
  have h2 := hv.2
  split
  · constructor
    · rw [Int.le_ediv_iff_mul_le (by omega)]
      omega
    · have : (2 * v + s) / (2 * s) < 87553987462306 := by
        rw [Int.ediv_lt_iff_lt_mul (by omega)]
        omega
      omega
  · constructor
    · rw [Int.le_ediv_iff_mul_le (by omega)]
      omega
    · have : v / s < 87553987462306 := by
        rw [Int.ediv_lt_iff_lt_mul (by omega)]
        omega
      omega
theorem zs_nof {x : Int32} {n : Nat} (h : 0 ≤ x.toInt) (h2 : x.toInt < n) (hn : n < 2 ^ 31) : ∃ j : Nat, j < n ∧ x = nI j := ⟨x.toInt.toNat, by omega, mi_ext (by rw [nI_toInt (by omega)]; omega)⟩
section ZM9
variable {l : Launch} {P : zs_P} {d : Nat} {σ : zg_H}
theorem zu_requireChannel {k : Int32} (h : zs_ch k) : zg_C l (zs_E P) d mU_requireChannel [.int k] σ (.inl none, σ) := by
  refine zg_C_of (by decide +kernel) (Nat.le_of_ble_eq_true rfl) ?_
  refine zg_iload_n (zd_t dmU_requireChannel 0 rfl) rfl ?_
  refine zg_iconst (v := (nI 1)) (zd_t dmU_requireChannel 1 rfl) (by decide) ?_
  refine zg_icmp_lt (tgt := 11) (zd_t dmU_requireChannel 2 rfl) (by decide) (fun h1 => ?_) (fun h1 => ?_)
  · rw [Int32.lt_iff_toInt_lt] at h1
    have h1 : k.toInt < 1 := h1
    omega
  refine zg_iload_n (zd_t dmU_requireChannel 3 rfl) rfl ?_
  refine zg_bipush (v := (nI 8)) (zd_t dmU_requireChannel 4 rfl) (by decide) ?_
  refine zg_icmp_le (tgt := 21) (zd_t dmU_requireChannel 5 rfl) (by decide) (fun h2 => ?_) (fun h2 => ?_)
  · exact zg_vret (zd_t dmU_requireChannel 11 rfl) rfl rfl
  · rw [Int32.le_iff_toInt_le] at h2
    have h2 : ¬ k.toInt ≤ 8 := h2
    omega
theorem zu_requireChannelX {k : Int32} (htr : l.stackTraces = false) (h : ¬ zs_ch k) : zg_C l (zs_E P) (d + 6) mU_requireChannel [.int k] σ (.inr (zg_sz σ, "java/lang/IndexOutOfBoundsException"), zs_exc σ) := by
  refine zg_C_of (by decide +kernel) (Nat.le_of_ble_eq_true rfl) ?_
  refine zg_iload_n (zd_t dmU_requireChannel 0 rfl) rfl ?_
  refine zg_iconst (v := (nI 1)) (zd_t dmU_requireChannel 1 rfl) (by decide) ?_
  refine zg_icmp_lt (tgt := 11) (zd_t dmU_requireChannel 2 rfl) (by decide) (fun h1 => ?_) (fun h1 => ?_)
  · exact zg_throw htr (by omega) (by decide) (by decide) (zd_t dmU_requireChannel 6 rfl) (zd_t dmU_requireChannel 7 rfl) (zd_t dmU_requireChannel 8 rfl) (zd_t dmU_requireChannel 9 rfl) (zd_t dmU_requireChannel 10 rfl) zcl_U_118 zs_iIOB (zs_str 147 "there is no such channel" (by decide)) (by decide +kernel) (by decide +kernel) zx_IOB (zs_in 101 (by decide +kernel) (by decide +kernel)) (fun h hh => absurd hh List.not_mem_nil) rfl
  rw [Int32.lt_iff_toInt_lt] at h1
  have h1 : ¬ k.toInt < 1 := h1
  refine zg_iload_n (zd_t dmU_requireChannel 3 rfl) rfl ?_
  refine zg_bipush (v := (nI 8)) (zd_t dmU_requireChannel 4 rfl) (by decide) ?_
  refine zg_icmp_le (tgt := 21) (zd_t dmU_requireChannel 5 rfl) (by decide) (fun h2 => ?_) (fun h2 => ?_)
  · rw [Int32.le_iff_toInt_le] at h2
    have h2 : k.toInt ≤ 8 := h2
    omega
  · exact zg_throw htr (by omega) (by decide) (by decide) (zd_t dmU_requireChannel 6 rfl) (zd_t dmU_requireChannel 7 rfl) (zd_t dmU_requireChannel 8 rfl) (zd_t dmU_requireChannel 9 rfl) (zd_t dmU_requireChannel 10 rfl) zcl_U_118 zs_iIOB (zs_str 147 "there is no such channel" (by decide)) (by decide +kernel) (by decide +kernel) zx_IOB (zs_in 101 (by decide +kernel) (by decide +kernel)) (fun h hh => absurd hh List.not_mem_nil) rfl
theorem zu_al_1 {k a b c : Int32} : zg_G l (zs_E P) (d + 2) mU_isAllowed 66 (lv_args 0 [.int k, .int a, .int b, .int c]) [] σ (.inl (some (.int (zs_bi (decide (zs_ir a) && (decide (zs_ir b) && decide (zs_ir c)))))), σ) := by
  refine zg_iload_n (zd_t dmU_isAllowed 4 rfl) rfl ?_
  refine zg_callS (zd_t dmU_isAllowed 5 rfl) zl_U_142 zm_mU_isRegister zst_mU_isRegister (av := _) (rest := _) (by rfl) (by rfl) (by exact Nat.le_of_ble_eq_true rfl) (zu_isRegister a) ?_
  cases decide (zs_ir a) with
  | false =>
    refine zg_if_eq (tgt := 91) (zd_t dmU_isAllowed 6 rfl) (by decide) (fun _ => ?_) (fun hq => absurd (by decide) hq)
    refine zg_iconst (v := (nI 0)) (zd_t dmU_isAllowed 15 rfl) (by decide) ?_
    exact zg_zret (zd_t dmU_isAllowed 16 rfl) rfl rfl rfl
  | true =>
    refine zg_if_eq (tgt := 91) (zd_t dmU_isAllowed 6 rfl) (by decide) (fun hq => absurd hq (by decide)) (fun _ => ?_)
    refine zg_iload_n (zd_t dmU_isAllowed 7 rfl) rfl ?_
    refine zg_callS (zd_t dmU_isAllowed 8 rfl) zl_U_142 zm_mU_isRegister zst_mU_isRegister (av := _) (rest := _) (by rfl) (by rfl) (by exact Nat.le_of_ble_eq_true rfl) (zu_isRegister b) ?_
    cases decide (zs_ir b) with
    | false =>
      refine zg_if_eq (tgt := 91) (zd_t dmU_isAllowed 9 rfl) (by decide) (fun _ => ?_) (fun hq => absurd (by decide) hq)
      refine zg_iconst (v := (nI 0)) (zd_t dmU_isAllowed 15 rfl) (by decide) ?_
      exact zg_zret (zd_t dmU_isAllowed 16 rfl) rfl rfl rfl
    | true =>
      refine zg_if_eq (tgt := 91) (zd_t dmU_isAllowed 9 rfl) (by decide) (fun hq => absurd hq (by decide)) (fun _ => ?_)
      refine zg_iload_n (zd_t dmU_isAllowed 10 rfl) rfl ?_
      refine zg_callS (zd_t dmU_isAllowed 11 rfl) zl_U_142 zm_mU_isRegister zst_mU_isRegister (av := _) (rest := _) (by rfl) (by rfl) (by exact Nat.le_of_ble_eq_true rfl) (zu_isRegister c) ?_
      cases decide (zs_ir c) with
      | false =>
        refine zg_if_eq (tgt := 91) (zd_t dmU_isAllowed 12 rfl) (by decide) (fun _ => ?_) (fun hq => absurd (by decide) hq)
        refine zg_iconst (v := (nI 0)) (zd_t dmU_isAllowed 15 rfl) (by decide) ?_
        exact zg_zret (zd_t dmU_isAllowed 16 rfl) rfl rfl rfl
      | true =>
        refine zg_if_eq (tgt := 91) (zd_t dmU_isAllowed 12 rfl) (by decide) (fun hq => absurd hq (by decide)) (fun _ => ?_)
        refine zg_iconst (v := (nI 1)) (zd_t dmU_isAllowed 13 rfl) (by decide) ?_
        refine zg_goto (tgt := 92) (zd_t dmU_isAllowed 14 rfl) (by decide) ?_
        exact zg_zret (zd_t dmU_isAllowed 16 rfl) rfl rfl rfl
theorem zu_al_5 {k a b c : Int32} : zg_G l (zs_E P) (d + 2) mU_isAllowed 93 (lv_args 0 [.int k, .int a, .int b, .int c]) [] σ (.inl (some (.int (zs_bi (decide (zs_ir a) && (decide (zs_ir b) && decide (mz_sm c)))))), σ) := by
  refine zg_iload_n (zd_t dmU_isAllowed 17 rfl) rfl ?_
  refine zg_callS (zd_t dmU_isAllowed 18 rfl) zl_U_142 zm_mU_isRegister zst_mU_isRegister (av := _) (rest := _) (by rfl) (by rfl) (by exact Nat.le_of_ble_eq_true rfl) (zu_isRegister a) ?_
  cases decide (zs_ir a) with
  | false =>
    refine zg_if_eq (tgt := 118) (zd_t dmU_isAllowed 19 rfl) (by decide) (fun _ => ?_) (fun hq => absurd (by decide) hq)
    refine zg_iconst (v := (nI 0)) (zd_t dmU_isAllowed 28 rfl) (by decide) ?_
    exact zg_zret (zd_t dmU_isAllowed 29 rfl) rfl rfl rfl
  | true =>
    refine zg_if_eq (tgt := 118) (zd_t dmU_isAllowed 19 rfl) (by decide) (fun hq => absurd hq (by decide)) (fun _ => ?_)
    refine zg_iload_n (zd_t dmU_isAllowed 20 rfl) rfl ?_
    refine zg_callS (zd_t dmU_isAllowed 21 rfl) zl_U_142 zm_mU_isRegister zst_mU_isRegister (av := _) (rest := _) (by rfl) (by rfl) (by exact Nat.le_of_ble_eq_true rfl) (zu_isRegister b) ?_
    cases decide (zs_ir b) with
    | false =>
      refine zg_if_eq (tgt := 118) (zd_t dmU_isAllowed 22 rfl) (by decide) (fun _ => ?_) (fun hq => absurd (by decide) hq)
      refine zg_iconst (v := (nI 0)) (zd_t dmU_isAllowed 28 rfl) (by decide) ?_
      exact zg_zret (zd_t dmU_isAllowed 29 rfl) rfl rfl rfl
    | true =>
      refine zg_if_eq (tgt := 118) (zd_t dmU_isAllowed 22 rfl) (by decide) (fun hq => absurd hq (by decide)) (fun _ => ?_)
      refine zg_iload_n (zd_t dmU_isAllowed 23 rfl) rfl ?_
      refine zg_callS (zd_t dmU_isAllowed 24 rfl) zl_U_68 zm_mU_areScalingModuli zst_mU_areScalingModuli (av := _) (rest := _) (by rfl) (by rfl) (by exact Nat.le_of_ble_eq_true rfl) (zu_areScalingModuli c) ?_
      cases decide (mz_sm c) with
      | false =>
        refine zg_if_eq (tgt := 118) (zd_t dmU_isAllowed 25 rfl) (by decide) (fun _ => ?_) (fun hq => absurd (by decide) hq)
        refine zg_iconst (v := (nI 0)) (zd_t dmU_isAllowed 28 rfl) (by decide) ?_
        exact zg_zret (zd_t dmU_isAllowed 29 rfl) rfl rfl rfl
      | true =>
        refine zg_if_eq (tgt := 118) (zd_t dmU_isAllowed 25 rfl) (by decide) (fun hq => absurd hq (by decide)) (fun _ => ?_)
        refine zg_iconst (v := (nI 1)) (zd_t dmU_isAllowed 26 rfl) (by decide) ?_
        refine zg_goto (tgt := 119) (zd_t dmU_isAllowed 27 rfl) (by decide) ?_
        exact zg_zret (zd_t dmU_isAllowed 29 rfl) rfl rfl rfl
theorem zu_al_6 {k a b c : Int32} : zg_G l (zs_E P) (d + 2) mU_isAllowed 120 (lv_args 0 [.int k, .int a, .int b, .int c]) [] σ (.inl (some (.int (zs_bi (decide (zs_ir a) && decide (zs_ir b))))), σ) := by
  refine zg_iload_n (zd_t dmU_isAllowed 30 rfl) rfl ?_
  refine zg_callS (zd_t dmU_isAllowed 31 rfl) zl_U_142 zm_mU_isRegister zst_mU_isRegister (av := _) (rest := _) (by rfl) (by rfl) (by exact Nat.le_of_ble_eq_true rfl) (zu_isRegister a) ?_
  cases decide (zs_ir a) with
  | false =>
    refine zg_if_eq (tgt := 138) (zd_t dmU_isAllowed 32 rfl) (by decide) (fun _ => ?_) (fun hq => absurd (by decide) hq)
    refine zg_iconst (v := (nI 0)) (zd_t dmU_isAllowed 38 rfl) (by decide) ?_
    exact zg_zret (zd_t dmU_isAllowed 39 rfl) rfl rfl rfl
  | true =>
    refine zg_if_eq (tgt := 138) (zd_t dmU_isAllowed 32 rfl) (by decide) (fun hq => absurd hq (by decide)) (fun _ => ?_)
    refine zg_iload_n (zd_t dmU_isAllowed 33 rfl) rfl ?_
    refine zg_callS (zd_t dmU_isAllowed 34 rfl) zl_U_142 zm_mU_isRegister zst_mU_isRegister (av := _) (rest := _) (by rfl) (by rfl) (by exact Nat.le_of_ble_eq_true rfl) (zu_isRegister b) ?_
    cases decide (zs_ir b) with
    | false =>
      refine zg_if_eq (tgt := 138) (zd_t dmU_isAllowed 35 rfl) (by decide) (fun _ => ?_) (fun hq => absurd (by decide) hq)
      refine zg_iconst (v := (nI 0)) (zd_t dmU_isAllowed 38 rfl) (by decide) ?_
      exact zg_zret (zd_t dmU_isAllowed 39 rfl) rfl rfl rfl
    | true =>
      refine zg_if_eq (tgt := 138) (zd_t dmU_isAllowed 35 rfl) (by decide) (fun hq => absurd hq (by decide)) (fun _ => ?_)
      refine zg_iconst (v := (nI 1)) (zd_t dmU_isAllowed 36 rfl) (by decide) ?_
      refine zg_goto (tgt := 139) (zd_t dmU_isAllowed 37 rfl) (by decide) ?_
      exact zg_zret (zd_t dmU_isAllowed 39 rfl) rfl rfl rfl
theorem zu_al_8 {k a b c : Int32} : zg_G l (zs_E P) (d + 2) mU_isAllowed 145 (lv_args 0 [.int k, .int a, .int b, .int c]) [] σ (.inl (some (.int (zs_bi (decide (zs_ir a) && decide (zs_ii b))))), σ) := by
  refine zg_iload_n (zd_t dmU_isAllowed 43 rfl) rfl ?_
  refine zg_callS (zd_t dmU_isAllowed 44 rfl) zl_U_142 zm_mU_isRegister zst_mU_isRegister (av := _) (rest := _) (by rfl) (by rfl) (by exact Nat.le_of_ble_eq_true rfl) (zu_isRegister a) ?_
  cases decide (zs_ir a) with
  | false =>
    refine zg_if_eq (tgt := 163) (zd_t dmU_isAllowed 45 rfl) (by decide) (fun _ => ?_) (fun hq => absurd (by decide) hq)
    refine zg_iconst (v := (nI 0)) (zd_t dmU_isAllowed 51 rfl) (by decide) ?_
    exact zg_zret (zd_t dmU_isAllowed 52 rfl) rfl rfl rfl
  | true =>
    refine zg_if_eq (tgt := 163) (zd_t dmU_isAllowed 45 rfl) (by decide) (fun hq => absurd hq (by decide)) (fun _ => ?_)
    refine zg_iload_n (zd_t dmU_isAllowed 46 rfl) rfl ?_
    refine zg_callS (zd_t dmU_isAllowed 47 rfl) zl_U_115 zm_mU_isInstruction zst_mU_isInstruction (av := _) (rest := _) (by rfl) (by rfl) (by exact Nat.le_of_ble_eq_true rfl) (zu_isInstruction b) ?_
    cases decide (zs_ii b) with
    | false =>
      refine zg_if_eq (tgt := 163) (zd_t dmU_isAllowed 48 rfl) (by decide) (fun _ => ?_) (fun hq => absurd (by decide) hq)
      refine zg_iconst (v := (nI 0)) (zd_t dmU_isAllowed 51 rfl) (by decide) ?_
      exact zg_zret (zd_t dmU_isAllowed 52 rfl) rfl rfl rfl
    | true =>
      refine zg_if_eq (tgt := 163) (zd_t dmU_isAllowed 48 rfl) (by decide) (fun hq => absurd hq (by decide)) (fun _ => ?_)
      refine zg_iconst (v := (nI 1)) (zd_t dmU_isAllowed 49 rfl) (by decide) ?_
      refine zg_goto (tgt := 164) (zd_t dmU_isAllowed 50 rfl) (by decide) ?_
      exact zg_zret (zd_t dmU_isAllowed 52 rfl) rfl rfl rfl
theorem zu_al_7 {k a b c : Int32} : zg_G l (zs_E P) (d + 2) mU_isAllowed 140 (lv_args 0 [.int k, .int a, .int b, .int c]) [] σ (.inl (some (.int (zs_bi (decide (zs_ii a))))), σ) := by
  refine zg_iload_n (zd_t dmU_isAllowed 40 rfl) rfl ?_
  refine zg_callS (zd_t dmU_isAllowed 41 rfl) zl_U_115 zm_mU_isInstruction zst_mU_isInstruction (av := _) (rest := _) (by rfl) (by rfl) (by exact Nat.le_of_ble_eq_true rfl) (zu_isInstruction a) ?_
  exact zg_zret (zd_t dmU_isAllowed 42 rfl) rfl (zs_nb _) rfl
theorem zu_al_9 {k a b c : Int32} : zg_G l (zs_E P) (d + 2) mU_isAllowed 165 (lv_args 0 [.int k, .int a, .int b, .int c]) [] σ (.inl (some (.int (zs_bi (decide (0 ≤ a.toInt ∧ a.toInt ≤ 1000))))), σ) := by
  refine zg_iload_n (zd_t dmU_isAllowed 53 rfl) rfl ?_
  refine zg_if_lt (tgt := 180) (zd_t dmU_isAllowed 54 rfl) (by decide) (fun h => ?_) (fun h => ?_)
  · rw [Int32.lt_iff_toInt_lt] at h
    have h : a.toInt < 0 := h
    refine zg_iconst (v := (nI 0)) (zd_t dmU_isAllowed 60 rfl) (by decide) ?_
    refine zg_zret (zd_t dmU_isAllowed 61 rfl) rfl rfl ?_
    rw [decide_eq_false (by omega)]
    rfl
  rw [Int32.lt_iff_toInt_lt] at h
  have h : ¬ a.toInt < 0 := h
  refine zg_iload_n (zd_t dmU_isAllowed 55 rfl) rfl ?_
  refine zg_sipush (v := (nI 1000)) (zd_t dmU_isAllowed 56 rfl) (by decide) ?_
  refine zg_icmp_gt (tgt := 180) (zd_t dmU_isAllowed 57 rfl) (by decide) (fun h2 => ?_) (fun h2 => ?_)
  · rw [Int32.lt_iff_toInt_lt] at h2
    have h2 : 1000 < a.toInt := h2
    refine zg_iconst (v := (nI 0)) (zd_t dmU_isAllowed 60 rfl) (by decide) ?_
    refine zg_zret (zd_t dmU_isAllowed 61 rfl) rfl rfl ?_
    rw [decide_eq_false (by omega)]
    rfl
  · rw [Int32.lt_iff_toInt_lt] at h2
    have h2 : ¬ 1000 < a.toInt := h2
    refine zg_iconst (v := (nI 1)) (zd_t dmU_isAllowed 58 rfl) (by decide) ?_
    refine zg_goto (tgt := 181) (zd_t dmU_isAllowed 59 rfl) (by decide) ?_
    refine zg_zret (zd_t dmU_isAllowed 61 rfl) rfl rfl ?_
    rw [decide_eq_true (by omega)]
    rfl
theorem zu_al_11 {k a b c : Int32} : zg_G l (zs_E P) (d + 2) mU_isAllowed 182 (lv_args 0 [.int k, .int a, .int b, .int c]) [] σ (.inl (some (.int (zs_bi (decide (zs_ir a) && decide (-128 ≤ b.toInt ∧ b.toInt ≤ 127))))), σ) := by
  refine zg_iload_n (zd_t dmU_isAllowed 62 rfl) rfl ?_
  refine zg_callS (zd_t dmU_isAllowed 63 rfl) zl_U_142 zm_mU_isRegister zst_mU_isRegister (av := _) (rest := _) (by rfl) (by rfl) (by exact Nat.le_of_ble_eq_true rfl) (zu_isRegister a) ?_
  cases decide (zs_ir a) with
  | false =>
    refine zg_if_eq (tgt := 205) (zd_t dmU_isAllowed 64 rfl) (by decide) (fun _ => ?_) (fun hq => absurd (by decide) hq)
    refine zg_iconst (v := (nI 0)) (zd_t dmU_isAllowed 73 rfl) (by decide) ?_
    exact zg_zret (zd_t dmU_isAllowed 74 rfl) rfl rfl rfl
  | true =>
    refine zg_if_eq (tgt := 205) (zd_t dmU_isAllowed 64 rfl) (by decide) (fun hq => absurd hq (by decide)) (fun _ => ?_)
    refine zg_iload_n (zd_t dmU_isAllowed 65 rfl) rfl ?_
    refine zg_bipush (v := (-128)) (zd_t dmU_isAllowed 66 rfl) (by decide) ?_
    refine zg_icmp_lt (tgt := 205) (zd_t dmU_isAllowed 67 rfl) (by decide) (fun h => ?_) (fun h => ?_)
    · rw [Int32.lt_iff_toInt_lt] at h
      have h : b.toInt < -128 := h
      refine zg_iconst (v := (nI 0)) (zd_t dmU_isAllowed 73 rfl) (by decide) ?_
      refine zg_zret (zd_t dmU_isAllowed 74 rfl) rfl rfl ?_
      rw [decide_eq_false (by omega)]
      rfl
    rw [Int32.lt_iff_toInt_lt] at h
    have h : ¬ b.toInt < -128 := h
    refine zg_iload_n (zd_t dmU_isAllowed 68 rfl) rfl ?_
    refine zg_bipush (v := (nI 127)) (zd_t dmU_isAllowed 69 rfl) (by decide) ?_
    refine zg_icmp_gt (tgt := 205) (zd_t dmU_isAllowed 70 rfl) (by decide) (fun h2 => ?_) (fun h2 => ?_)
    · rw [Int32.lt_iff_toInt_lt] at h2
      have h2 : 127 < b.toInt := h2
      refine zg_iconst (v := (nI 0)) (zd_t dmU_isAllowed 73 rfl) (by decide) ?_
      refine zg_zret (zd_t dmU_isAllowed 74 rfl) rfl rfl ?_
      rw [decide_eq_false (by omega)]
      rfl
    · rw [Int32.lt_iff_toInt_lt] at h2
      have h2 : ¬ 127 < b.toInt := h2
      refine zg_iconst (v := (nI 1)) (zd_t dmU_isAllowed 71 rfl) (by decide) ?_
      refine zg_goto (tgt := 206) (zd_t dmU_isAllowed 72 rfl) (by decide) ?_
      refine zg_zret (zd_t dmU_isAllowed 74 rfl) rfl rfl ?_
      rw [decide_eq_true (by omega)]
      rfl
theorem zu_isAllowed (k a b c : Int32) : zg_C l (zs_E P) (d + 2) mU_isAllowed [.int k, .int a, .int b, .int c] σ (.inl (some (.int (zs_bi (zs_alw k a b c)))), σ) := by
  refine zg_C_of (by decide +kernel) (Nat.le_of_ble_eq_true rfl) ?_
  refine zg_iload_n (zd_t dmU_isAllowed 0 rfl) rfl ?_
  unfold zs_alw
  by_cases hk : 0 ≤ k.toInt ∧ k.toInt ≤ 11
  · rw [if_pos hk]
    obtain ⟨n, hn, rfl⟩ := zs_nof (n := 12) hk.1 (by omega) (by decide)
    rcases (by omega : n = 0 ∨ n = 1 ∨ n = 2 ∨ n = 3 ∨ n = 4 ∨ n = 5 ∨ n = 6 ∨ n = 7 ∨ n = 8 ∨ n = 9 ∨ n = 10 ∨ n = 11) with rfl | rfl | rfl | rfl | rfl | rfl | rfl | rfl | rfl | rfl | rfl | rfl
    · refine zg_tableIn (off := 63) (tgt := 64) (zd_t dmU_isAllowed 1 rfl) (by decide) (by decide) (by decide) (by decide) ?_
      refine zg_iconst (v := (nI 1)) (zd_t dmU_isAllowed 2 rfl) (by decide) ?_
      exact zg_zret (zd_t dmU_isAllowed 3 rfl) rfl rfl rfl
    · refine zg_tableIn (off := 65) (tgt := 66) (zd_t dmU_isAllowed 1 rfl) (by decide) (by decide) (by decide) (by decide) ?_
      exact zu_al_1
    · refine zg_tableIn (off := 65) (tgt := 66) (zd_t dmU_isAllowed 1 rfl) (by decide) (by decide) (by decide) (by decide) ?_
      exact zu_al_1
    · refine zg_tableIn (off := 65) (tgt := 66) (zd_t dmU_isAllowed 1 rfl) (by decide) (by decide) (by decide) (by decide) ?_
      exact zu_al_1
    · refine zg_tableIn (off := 65) (tgt := 66) (zd_t dmU_isAllowed 1 rfl) (by decide) (by decide) (by decide) (by decide) ?_
      exact zu_al_1
    · refine zg_tableIn (off := 92) (tgt := 93) (zd_t dmU_isAllowed 1 rfl) (by decide) (by decide) (by decide) (by decide) ?_
      exact zu_al_5
    · refine zg_tableIn (off := 119) (tgt := 120) (zd_t dmU_isAllowed 1 rfl) (by decide) (by decide) (by decide) (by decide) ?_
      exact zu_al_6
    · refine zg_tableIn (off := 139) (tgt := 140) (zd_t dmU_isAllowed 1 rfl) (by decide) (by decide) (by decide) (by decide) ?_
      exact zu_al_7
    · refine zg_tableIn (off := 144) (tgt := 145) (zd_t dmU_isAllowed 1 rfl) (by decide) (by decide) (by decide) (by decide) ?_
      exact zu_al_8
    · refine zg_tableIn (off := 164) (tgt := 165) (zd_t dmU_isAllowed 1 rfl) (by decide) (by decide) (by decide) (by decide) ?_
      exact zu_al_9
    · refine zg_tableIn (off := 139) (tgt := 140) (zd_t dmU_isAllowed 1 rfl) (by decide) (by decide) (by decide) (by decide) ?_
      exact zu_al_7
    · refine zg_tableIn (off := 181) (tgt := 182) (zd_t dmU_isAllowed 1 rfl) (by decide) (by decide) (by decide) (by decide) ?_
      exact zu_al_11
  · rw [if_neg hk]
    refine zg_tableOut (tgt := 207) (zd_t dmU_isAllowed 1 rfl) (by omega) (by decide) ?_
    refine zg_iconst (v := (nI 0)) (zd_t dmU_isAllowed 75 rfl) (by decide) ?_
    exact zg_zret (zd_t dmU_isAllowed 76 rfl) rfl rfl rfl
theorem zu_productOf_lp {x : Nat} (hx : x < 64) : ∀ (n k : Nat), k + n = 6 → zg_G l (zs_E P) d mU_productOf 4 [(3, .int (nI k)), (1, .long (mz_L (mz_pr x k : Int))), (0, .int (nI x))] [] σ (.inl (some (.long (mz_L (mz_pr x 6 : Int)))), σ) := by
  intro n
  induction n with
  | zero =>
    intro k hk
    have hk : k = 6 := by omega
    subst hk
    refine zg_iload_n (zd_t dmU_productOf 4 rfl) rfl ?_
    refine zg_bipush (v := (nI 6)) (zd_t dmU_productOf 5 rfl) (by decide) ?_
    refine zg_icmp_ge (tgt := 34) (zd_t dmU_productOf 6 rfl) (by decide) (fun _ => ?_) (fun hq => absurd (by decide) hq)
    refine zg_lload_n (zd_t dmU_productOf 23 rfl) rfl ?_
    exact zg_lret (zd_t dmU_productOf 24 rfl) rfl rfl
  | succ n ih =>
    intro k hk
    have hm := mz_m_lt k
    have nx : zg_G l (zs_E P) d mU_productOf 28 [(1, .long (mz_L (mz_pr x (k + 1) : Int))), (3, .int (nI k)), (0, .int (nI x))] [] σ (.inl (some (.long (mz_L (mz_pr x 6 : Int)))), σ) := by
      refine zg_iinc (lv2 := [(3, .int (nI (k + 1))), (1, .long (mz_L (mz_pr x (k + 1) : Int))), (0, .int (nI x))]) (zd_t dmU_productOf 21 rfl) rfl (mz_inc k) (by decide) rfl ?_
      refine zg_goto (tgt := 4) (zd_t dmU_productOf 22 rfl) (by decide) ?_
      exact ih (k + 1) (by omega)
    refine zg_iload_n (zd_t dmU_productOf 4 rfl) rfl ?_
    refine zg_bipush (v := (nI 6)) (zd_t dmU_productOf 5 rfl) (by decide) ?_
    refine zg_icmp_ge (tgt := 34) (zd_t dmU_productOf 6 rfl) (by decide) (fun hq => absurd hq (fun h => absurd ((nI_leI (by decide) (by omega)).mp h) (by omega))) (fun _ => ?_)
    refine zg_iload_n (zd_t dmU_productOf 7 rfl) rfl ?_
    refine zg_iload_n (zd_t dmU_productOf 8 rfl) rfl ?_
    refine zg_ishr (zd_t dmU_productOf 9 rfl) ?_
    refine zg_iconst (v := (nI 1)) (zd_t dmU_productOf 10 rfl) (by decide) ?_
    refine zg_iand (zd_t dmU_productOf 11 rfl) ?_
    refine zg_iconst (v := (nI 1)) (zd_t dmU_productOf 12 rfl) (by decide) ?_
    rw [mz_bit x hx k (by omega)]
    by_cases hb : x / 2 ^ k % 2 = 1
    · refine zg_icmp_ne (tgt := 28) (zd_t dmU_productOf 13 rfl) (by decide) (fun hq => absurd (by rw [hb]) hq) (fun _ => ?_)
      refine zg_lload_n (zd_t dmU_productOf 14 rfl) rfl ?_
      refine zg_gets (zd_t dmU_productOf 15 rfl) zs_xM zg_U_190 ?_
      refine zg_iload_n (zd_t dmU_productOf 16 rfl) rfl ?_
      refine zg_ti (zd_t dmU_productOf 17 rfl) zs_yM rfl (show k < 8 by omega) (by decide) rfl ?_
      refine zg_i2l (zd_t dmU_productOf 18 rfl) rfl ?_
      rw [mz_i2l (show mz_m k < 2 ^ 31 by omega)]
      refine zg_lmul (zd_t dmU_productOf 19 rfl) ?_
      rw [mz_mul, show (mz_pr x k : Int) * (mz_m k : Int) = (mz_pr x (k + 1) : Int) by rw [show mz_pr x (k + 1) = mz_pr x k * mz_m k from if_pos hb]; omega]
      refine zg_lstore_n (zd_t dmU_productOf 20 rfl) (by decide) rfl ?_
      exact nx
    · have e : mz_pr x k = mz_pr x (k + 1) := (if_neg hb).symm
      refine zg_icmp_ne (tgt := 28) (zd_t dmU_productOf 13 rfl) (by decide) (fun _ => ?_) (fun hq => absurd hq (fun h => hb ((nI_eq (by omega) (by decide)).mp h)))
      rw [e]
      exact zg_lv [1, 0, 2] rfl nx
theorem zu_productOf {x : Nat} (hx : x < 64) : zg_C l (zs_E P) d mU_productOf [.int (nI x)] σ (.inl (some (.long (mz_L (mz_pr x 6 : Int)))), σ) := by
  refine zg_C_of (by decide +kernel) (Nat.le_of_ble_eq_true rfl) ?_
  refine zg_lconst (v := mz_L 1) (zd_t dmU_productOf 0 rfl) (by decide) ?_
  refine zg_lstore_n (zd_t dmU_productOf 1 rfl) (by decide) rfl ?_
  refine zg_iconst (v := (nI 0)) (zd_t dmU_productOf 2 rfl) (by decide) ?_
  refine zg_istore_n (zd_t dmU_productOf 3 rfl) (by decide) rfl ?_
  exact zu_productOf_lp hx 6 0 rfl
def zs_rs (n : Int32) : Nat := if n = -1 then 1 else if zs_ii n then 3 else 2
theorem zu_reasonAt (n : Int32) : zg_C l (zs_E P) (d + 1) mU_reasonAt [.int n] σ (.inl (some (.int (nI (zs_rs n)))), σ) := by
  refine zg_C_of (by decide +kernel) (Nat.le_of_ble_eq_true rfl) ?_
  unfold zs_rs
  refine zg_iload_n (zd_t dmU_reasonAt 0 rfl) rfl ?_
  refine zg_iconst (v := (-1)) (zd_t dmU_reasonAt 1 rfl) (by decide) ?_
  by_cases h : n = -1
  · rw [if_pos h]
    refine zg_icmp_ne (tgt := 7) (zd_t dmU_reasonAt 2 rfl) (by decide) (fun hq => absurd h hq) (fun _ => ?_)
    refine zg_iconst (v := (nI 1)) (zd_t dmU_reasonAt 3 rfl) (by decide) ?_
    exact zg_iret (zd_t dmU_reasonAt 4 rfl) rfl rfl
  · rw [if_neg h]
    refine zg_icmp_ne (tgt := 7) (zd_t dmU_reasonAt 2 rfl) (by decide) (fun _ => ?_) (fun hq => absurd hq h)
    refine zg_iload_n (zd_t dmU_reasonAt 5 rfl) rfl ?_
    refine zg_callS (zd_t dmU_reasonAt 6 rfl) zl_U_115 zm_mU_isInstruction zst_mU_isInstruction (av := _) (rest := _) (by rfl) (by rfl) (by exact Nat.le_of_ble_eq_true rfl) (zu_isInstruction n) ?_
    by_cases h2 : zs_ii n
    · rw [decide_eq_true h2, if_pos h2]
      refine zg_if_eq (tgt := 18) (zd_t dmU_reasonAt 7 rfl) (by decide) (fun hq => absurd hq (by decide)) (fun _ => ?_)
      refine zg_iconst (v := (nI 3)) (zd_t dmU_reasonAt 8 rfl) (by decide) ?_
      refine zg_goto (tgt := 19) (zd_t dmU_reasonAt 9 rfl) (by decide) ?_
      exact zg_iret (zd_t dmU_reasonAt 11 rfl) rfl rfl
    · rw [decide_eq_false h2, if_neg h2]
      refine zg_if_eq (tgt := 18) (zd_t dmU_reasonAt 7 rfl) (by decide) (fun _ => ?_) (fun hq => absurd (by decide) hq)
      refine zg_iconst (v := (nI 2)) (zd_t dmU_reasonAt 10 rfl) (by decide) ?_
      exact zg_iret (zd_t dmU_reasonAt 11 rfl) rfl rfl
end ZM9
section ZM9b
variable {l : Launch} {P : zs_P} {d : Nat} {S : zs_S} {S2 : zs_S2} {th : Int32} {o : Int64} {w : Nat × Nat} {e a b i : Nat}
def zs_ssc (S : zs_S) (e a x : Nat) (n : Bool) : zs_S := zs_sput S e (mz_sc (mz_val (zs_re S a)) (mz_pr x 6 : Int) n)
theorem mz_val_hr (ρ : Nat → Nat) : mz_hr (mz_val ρ) := mz_V_in (ρ 0) (ρ 1) (ρ 2) (ρ 3) (ρ 4) (ρ 5)
theorem zu_putScaled {x : Nat} {n : Bool} (he : e < 16) (ha : a < 16) (hx : x < 64) (hp : mz_pop x ≤ 4) (hok : mz_ok (zs_re S a)) : zg_C l (zs_E P) (d + 3) mU_putScaled [.ref (zp_B P), .int (nI e), .int (nI a), .int (nI x), .int (zs_bi n)] (zs_σ P S th S2 o w) (.inl none, zs_σ P (zs_ssc S e a x n) th S2 o w) := by
  refine zg_C_of (by decide +kernel) (Nat.le_of_ble_eq_true rfl) ?_
  have hpr := mz_pr_le x hx hp
  have hv := mz_val_hr (zs_re S a)
  obtain ⟨s, hs⟩ : ∃ s : Int, s = (mz_pr x 6 : Int) := ⟨_, rfl⟩
  have hs1 : 1 ≤ s ∧ s < 4000000000 := by omega
  have hsi : mz_in s := by unfold mz_in; omega
  have hsc := mz_sc_hr (n := n) hv hs1.1
  unfold zs_ssc
  rw [← hs]
  refine zg_iload_n (zd_t dmU_putScaled 0 rfl) rfl ?_
  refine zg_callS (zd_t dmU_putScaled 1 rfl) zl_U_178 zm_mU_productOf zst_mU_productOf (av := _) (rest := _) (by rfl) (by rfl) (by exact Nat.le_of_ble_eq_true rfl) (zu_productOf hx) ?_
  rw [← hs]
  refine zg_lstore (zd_t dmU_putScaled 2 rfl) (by decide) rfl ?_
  refine zg_aload_n (zd_t dmU_putScaled 3 rfl) rfl ?_
  refine zg_getf (zd_t dmU_putScaled 4 rfl) zf_U_11 zs_0 rfl ?_
  refine zg_iload_n (zd_t dmU_putScaled 5 rfl) rfl ?_
  refine zg_aald (t0 := 3) (zd_t dmU_putScaled 6 rfl) zs_1 rfl rfl ha (by decide) (zs_rf_at ha) ?_
  refine zg_callV (zd_t dmU_putScaled 7 rfl) zl_U_58 zm_mR_value zi_mR_value zse_mR_value (zs_reg ha) zs_cl1 rfl (av := _) (rest := _) (by rfl) (by rfl) (by exact Nat.le_of_ble_eq_true rfl) (zr_value ha hok) ?_
  refine zg_lstore (zd_t dmU_putScaled 8 rfl) (by decide) rfl ?_
  refine zg_aload_n (zd_t dmU_putScaled 9 rfl) rfl ?_
  refine zg_getf (zd_t dmU_putScaled 10 rfl) zf_U_11 zs_0 rfl ?_
  refine zg_iload_n (zd_t dmU_putScaled 11 rfl) rfl ?_
  refine zg_aald (t0 := 3) (zd_t dmU_putScaled 12 rfl) zs_1 rfl rfl he (by decide) (zs_rf_at he) ?_
  refine zg_iload (zd_t dmU_putScaled 13 rfl) rfl ?_
  cases n with
  | true =>
    rw [show mz_sc (mz_val (zs_re S a)) s true = (2 * mz_val (zs_re S a) + s) / (2 * s) from if_pos rfl] at hsc ⊢
    refine zg_if_eq (tgt := 49) (zd_t dmU_putScaled 14 rfl) (by decide) (fun hq => absurd hq (by decide)) (fun _ => ?_)
    refine zg_ldc2 (zd_t dmU_putScaled 15 rfl) zc_U_182 ?_
    refine zg_lload (zd_t dmU_putScaled 16 rfl) rfl ?_
    refine zg_lmul (zd_t dmU_putScaled 17 rfl) ?_
    refine zg_lload (zd_t dmU_putScaled 18 rfl) rfl ?_
    refine zg_ladd (zd_t dmU_putScaled 19 rfl) ?_
    refine zg_ldc2 (zd_t dmU_putScaled 20 rfl) zc_U_182 ?_
    refine zg_lload (zd_t dmU_putScaled 21 rfl) rfl ?_
    refine zg_lmul (zd_t dmU_putScaled 22 rfl) ?_
    rw [mz_mul, mz_mul, mz_add]
    refine zg_callS (zd_t dmU_putScaled 23 rfl) zl_U_184 zm_mJ_floorDiv zst_mJ_floorDiv (av := _) (rest := _) (by rfl) (by rfl) (by exact Nat.le_of_ble_eq_true rfl) (zj_floorDiv (by unfold mz_in; omega) (by unfold mz_in; omega) (by omega)) ?_
    refine zg_goto (tgt := 56) (zd_t dmU_putScaled 24 rfl) (by decide) ?_
    refine zg_callV (zd_t dmU_putScaled 28 rfl) zl_U_45 zm_mR_put zi_mR_put zse_mR_put (zs_reg he) zs_cl1 rfl (av := _) (rest := _) (by rfl) (by rfl) (by exact Nat.le_of_ble_eq_true rfl) (zr_put he hsc.i) ?_
    exact zg_vret (zd_t dmU_putScaled 29 rfl) rfl rfl
  | false =>
    rw [show mz_sc (mz_val (zs_re S a)) s false = mz_val (zs_re S a) / s from if_neg (by decide)] at hsc ⊢
    refine zg_if_eq (tgt := 49) (zd_t dmU_putScaled 14 rfl) (by decide) (fun _ => ?_) (fun hq => absurd (by decide) hq)
    refine zg_lload (zd_t dmU_putScaled 25 rfl) rfl ?_
    refine zg_lload (zd_t dmU_putScaled 26 rfl) rfl ?_
    refine zg_callS (zd_t dmU_putScaled 27 rfl) zl_U_184 zm_mJ_floorDiv zst_mJ_floorDiv (av := _) (rest := _) (by rfl) (by rfl) (by exact Nat.le_of_ble_eq_true rfl) (zj_floorDiv hv.i hsi (by omega)) ?_
    refine zg_callV (zd_t dmU_putScaled 28 rfl) zl_U_45 zm_mR_put zi_mR_put zse_mR_put (zs_reg he) zs_cl1 rfl (av := _) (rest := _) (by rfl) (by rfl) (by exact Nat.le_of_ble_eq_true rfl) (zr_put he hsc.i) ?_
    exact zg_vret (zd_t dmU_putScaled 29 rfl) rfl rfl
end ZM9b
