def zb_mo (k : Nat) : Nat → Int32 := fun j => if j < k then nI (mz_m j) else 0
theorem zb_mo_0 : (fun _ => (0 : Int32)) = zb_mo 0 := by
  funext j
  unfold zb_mo
  rw [if_neg (by omega)]
theorem zb_mo_s (k : Nat) : upd (zb_mo k) k (nI (mz_m k)) = zb_mo (k + 1) := by
  funext j
  show (if j = k then nI (mz_m k) else if j < k then nI (mz_m j) else 0) = if j < k + 1 then nI (mz_m j) else 0
  by_cases h : j = k
  · rw [if_pos h, if_pos (by omega), h]
  · rw [if_neg h]
    by_cases h2 : j < k
    · rw [if_pos h2, if_pos (by omega)]
    · rw [if_neg h2, if_neg (by omega)]
def zb_uk (k : Nat) : Nat → Int64 := fun j => if j < k then mz_L (mz_w j : Int) else 0
theorem zb_uk_0 : (fun _ => (0 : Int64)) = zb_uk 0 := by
  funext j
  unfold zb_uk
  rw [if_neg (by omega)]
theorem zb_uk_s (k : Nat) : vp_updL (zb_uk k) k (mz_L (mz_w k : Int)) = zb_uk (k + 1) := by
  funext j
  show (if j = k then mz_L (mz_w k : Int) else if j < k then mz_L (mz_w j : Int) else 0) = if j < k + 1 then mz_L (mz_w j : Int) else 0
  by_cases h : j = k
  · rw [if_pos h, if_pos (by omega), h]
  · rw [if_neg h]
    by_cases h2 : j < k
    · rw [if_pos h2, if_pos (by omega)]
    · rw [if_neg h2, if_neg (by omega)]
theorem zb_updL2 (f : Nat → Int64) (k : Nat) (x y : Int64) : vp_updL (vp_updL f k x) k y = vp_updL f k y := by
  funext j
  show (if j = k then y else if j = k then x else f j) = if j = k then y else f j
  by_cases h : j = k
  · rw [if_pos h, if_pos h]
  · rw [if_neg h, if_neg h, if_neg h]
def zb_sk (k : Nat) : Nat → Int32 := fun j => zs_bi (decide (j < k))
theorem zb_sk_0 : (fun _ => (0 : Int32)) = zb_sk 0 := by
  funext j
  unfold zb_sk
  rw [decide_eq_false (by omega)]
  rfl
theorem zb_sk_s (k : Nat) : upd (zb_sk k) k (nI 1) = zb_sk (k + 1) := by
  funext j
  show (if j = k then nI 1 else zs_bi (decide (j < k))) = zs_bi (decide (j < k + 1))
  by_cases h : j = k
  · rw [if_pos h, decide_eq_true (by omega)]
    rfl
  · rw [if_neg h, show decide (j < k + 1) = decide (j < k) from decide_eq_decide.mpr (by omega)]
def zb_wh : Nat → Nat
  | 0 => 1
  | k + 1 => zb_wh k * mz_m k
/-- how many steps the search for a unit takes -/
def mz_tk (k : Nat) : Nat := mz_w k / (mz_st k).toNat
theorem mz_tk_w : ∀ k, k < 6 → 1 ≤ mz_tk k ∧ mz_tk k ≤ 256 ∧ (mz_w k : Int) = mz_st k * (mz_tk k : Int) ∧ (mz_st k * (mz_tk k : Int)) % (mz_m k : Int) = 1 := by decide +kernel
theorem mz_tk_n : ∀ k, k < 6 → ∀ c, c < mz_tk k → 1 ≤ c → ¬ (mz_st k * (c : Int)) % (mz_m k : Int) = 1 := by decide +kernel
/-- the model's cells while it is made -/
def zb_M (A : Nat) (ca : Nat → ClassId) (wh hf : Int64) (un : Nat → Int64) (su : Nat → Int32) : List va_E := [.inr (3, [.int 0, .ref (A + 1), .ref (A + 2), .ref (A + 3), .ref (A + 4), .ref (A + 5), .ref (A + 6), .long wh, .long hf, .ref (A + 7), .int 0, .int 0]), .inl (ca 0, 8, .inl (zb_mo 8)), .inl (ca 0, 128, .inl (fun _ => 0)), .inl (ca 1, 16, .inr (.inl (fun _ => 0))), .inl (ca 1, 16, .inr (.inl (fun _ => 0))), .inl (ca 2, 16, .inl su), .inl (ca 1, 6, .inr (.inl un)), .inl (ca 0, 128, .inl (fun _ => 0))]
section ZM21
variable {l : Launch} {P : zs_P} {d A us : Nat} {f : Nat → Option va_E} {w : Nat × Nat}
theorem zm_init_3 {wh hf : Int64} {un : Nat → Int64} : ∀ (n k : Nat), k + n = 16 → zg_G l (zs_E P) (d + 1) mM_init 257 [(1, .int (nI k)), (0, .ref A)] [] (zb_l A f (zb_M A (zp_ca P) wh hf un (zb_sk k)), w) (.inl none, (zb_l A f (zb_M A (zp_ca P) wh hf un (zb_sk 16)), w)) := by
  intro n
  induction n with
  | zero =>
    intro k hk
    have hk : k = 16 := by omega
    subst hk
    refine zg_iload_n (zd_t dmM_init 145 rfl) rfl ?_
    refine zg_bipush (v := (nI 16)) (zd_t dmM_init 146 rfl) (by decide) ?_
    refine zg_icmp_ge (tgt := 276) (zd_t dmM_init 147 rfl) (by decide) (fun _ => ?_) (fun hq => absurd (by decide) hq)
    exact zg_vret (zd_t dmM_init 155 rfl) rfl rfl
  | succ n ih =>
    intro k hk
    refine zg_iload_n (zd_t dmM_init 145 rfl) rfl ?_
    refine zg_bipush (v := (nI 16)) (zd_t dmM_init 146 rfl) (by decide) ?_
    refine zg_icmp_ge (tgt := 276) (zd_t dmM_init 147 rfl) (by decide) (fun hq => absurd hq (fun h => absurd ((nI_leI (by decide) (by omega)).mp h) (by omega))) (fun _ => ?_)
    refine zg_aload_n (zd_t dmM_init 148 rfl) rfl ?_
    refine zg_getf (zd_t dmM_init 149 rfl) zf_M_23 (zb_at (k := 0) rfl rfl) rfl ?_
    refine zg_iload_n (zd_t dmM_init 150 rfl) rfl ?_
    refine zg_iconst (v := (nI 1)) (zd_t dmM_init 151 rfl) (by decide) ?_
    refine zg_zast (k := k) (t0 := 2) (zd_t dmM_init 152 rfl) (zb_at (k := 5) rfl rfl) rfl rfl (show k < 16 by omega) (by decide) rfl (zb_up (L2 := zb_M A (zp_ca P) wh hf un (zb_sk (k + 1))) 5 (Nat.le_of_ble_eq_true rfl) rfl (by rw [zb_sk_s]; rfl)) ?_
    refine zg_iinc (lv2 := [(1, .int (nI (k + 1))), (0, .ref A)]) (zd_t dmM_init 153 rfl) rfl (mz_inc k) (by decide) rfl ?_
    refine zg_goto (tgt := 257) (zd_t dmM_init 154 rfl) (by decide) ?_
    exact ih (k + 1) (by omega)
/-- the search for one unit -/
theorem zm_init_w {hf : Int64} {su : Nat → Int32} {k : Nat} {r : zg_R} (hk : k < 6) (kk : zg_G l (zs_E P) (d + 1) mM_init 249 [(2, .long (mz_L (mz_st k))), (1, .int (nI k)), (0, .ref A)] [] (zb_l A f (zb_M A (zp_ca P) (mz_L 175107974924611) hf (zb_uk (k + 1)) su), w) r) : ∀ (n c : Nat), 1 ≤ c → c + n = mz_tk k → zg_G l (zs_E P) (d + 1) mM_init 213 [(2, .long (mz_L (mz_st k))), (1, .int (nI k)), (0, .ref A)] [] (zb_l A f (zb_M A (zp_ca P) (mz_L 175107974924611) hf (vp_updL (zb_uk k) k (mz_L (mz_st k * (c : Int)))) su), w) r := by
  have hm := mz_m_lt k
  have ht := mz_tk_w k hk
  have hs := mz_stp k
  have hmi := mz_m_in k
  have h1i : mz_in 1 := by unfold mz_in; omega
  have hm0 : ¬ mz_L (mz_m k : Int) = 0 := fun h => by
    have h0 : mz_in 0 := by unfold mz_in; omega
    have : mz_L (mz_m k : Int) = mz_L 0 := h
    rw [mz_eq hmi h0] at this
    omega
  intro n
  induction n with
  | zero =>
    intro c hc hcn
    have hc2 : c = mz_tk k := by omega
    have hv : mz_in (mz_st k * (c : Int)) := by
      rw [hc2, ← ht.2.2.1]
      have : mz_w k ≤ 175000000000000 := by unfold mz_w; split <;> decide
      unfold mz_in
      omega
    have hmod : (mz_st k * (c : Int)).tmod (mz_m k : Int) = 1 := by
      rw [Int.tmod_eq_emod_of_nonneg (Int.mul_nonneg (by omega) (by omega)), hc2]
      exact ht.2.2.2
    refine zg_aload_n (zd_t dmM_init 117 rfl) rfl ?_
    refine zg_getf (zd_t dmM_init 118 rfl) zf_M_27 (zb_at (k := 0) rfl rfl) rfl ?_
    refine zg_iload_n (zd_t dmM_init 119 rfl) rfl ?_
    refine zg_lald (k := k) (t0 := 1) (zd_t dmM_init 120 rfl) (zb_at (k := 6) rfl rfl) rfl rfl hk (by decide) ?_
    rw [show vp_updL (zb_uk k) k (mz_L (mz_st k * (c : Int))) k = mz_L (mz_st k * (c : Int)) from if_pos rfl]
    refine zg_aload_n (zd_t dmM_init 121 rfl) rfl ?_
    refine zg_getf (zd_t dmM_init 122 rfl) zf_M_7 (zb_at (k := 0) rfl rfl) rfl ?_
    refine zg_iload_n (zd_t dmM_init 123 rfl) rfl ?_
    refine zg_iald (k := k) (t0 := 0) (zd_t dmM_init 124 rfl) (zb_at (k := 1) rfl rfl) rfl rfl (show k < 8 by omega) (by decide) ?_
    rw [show zb_mo 8 k = nI (mz_m k) from if_pos (by omega)]
    refine zg_i2l (zd_t dmM_init 125 rfl) rfl ?_
    rw [mz_i2l (show mz_m k < 2 ^ 31 by omega)]
    refine zg_lrem (zd_t dmM_init 126 rfl) hm0 ?_
    rw [mz_rem hv hmi, hmod]
    refine zg_lconst (v := mz_L 1) (zd_t dmM_init 127 rfl) (by decide) ?_
    refine zg_lcmp (zd_t dmM_init 128 rfl) ?_
    refine zg_if_eq (tgt := 249) (zd_t dmM_init 129 rfl) (by decide) (fun _ => ?_) (fun hq => absurd (by decide) hq)
    rw [hc2, ← ht.2.2.1, zb_uk_s]
    exact kk
  | succ n ih =>
    intro c hc hcn
    have hcl : mz_st k * (c : Int) ≤ 800000000000 * 256 := Int.mul_le_mul (by omega) (by omega) (by omega) (by omega)
    have hc0 := Int.mul_nonneg (show 0 ≤ mz_st k by omega) (show 0 ≤ (c : Int) by omega)
    have hv : mz_in (mz_st k * (c : Int)) := by unfold mz_in; omega
    have hmod : (mz_st k * (c : Int)).tmod (mz_m k : Int) = (mz_st k * (c : Int)) % (mz_m k : Int) := Int.tmod_eq_emod_of_nonneg hc0
    have hne := mz_tk_n k hk c (by omega) hc
    have hmi2 : mz_in ((mz_st k * (c : Int)) % (mz_m k : Int)) := by
      have a1 := Int.emod_nonneg (mz_st k * (c : Int)) (show (mz_m k : Int) ≠ 0 by omega)
      have a2 := Int.emod_lt_of_pos (mz_st k * (c : Int)) (show 0 < (mz_m k : Int) by omega)
      unfold mz_in
      omega
    refine zg_aload_n (zd_t dmM_init 117 rfl) rfl ?_
    refine zg_getf (zd_t dmM_init 118 rfl) zf_M_27 (zb_at (k := 0) rfl rfl) rfl ?_
    refine zg_iload_n (zd_t dmM_init 119 rfl) rfl ?_
    refine zg_lald (k := k) (t0 := 1) (zd_t dmM_init 120 rfl) (zb_at (k := 6) rfl rfl) rfl rfl hk (by decide) ?_
    rw [show vp_updL (zb_uk k) k (mz_L (mz_st k * (c : Int))) k = mz_L (mz_st k * (c : Int)) from if_pos rfl]
    refine zg_aload_n (zd_t dmM_init 121 rfl) rfl ?_
    refine zg_getf (zd_t dmM_init 122 rfl) zf_M_7 (zb_at (k := 0) rfl rfl) rfl ?_
    refine zg_iload_n (zd_t dmM_init 123 rfl) rfl ?_
    refine zg_iald (k := k) (t0 := 0) (zd_t dmM_init 124 rfl) (zb_at (k := 1) rfl rfl) rfl rfl (show k < 8 by omega) (by decide) ?_
    rw [show zb_mo 8 k = nI (mz_m k) from if_pos (by omega)]
    refine zg_i2l (zd_t dmM_init 125 rfl) rfl ?_
    rw [mz_i2l (show mz_m k < 2 ^ 31 by omega)]
    refine zg_lrem (zd_t dmM_init 126 rfl) hm0 ?_
    rw [mz_rem hv hmi, hmod]
    refine zg_lconst (v := mz_L 1) (zd_t dmM_init 127 rfl) (by decide) ?_
    refine zg_lcmp (zd_t dmM_init 128 rfl) ?_
    rw [mz_cmp hmi2 h1i]
    have hcc : ¬ (if 1 < (mz_st k * (c : Int)) % (mz_m k : Int) then (1 : Int32) else if (mz_st k * (c : Int)) % (mz_m k : Int) = 1 then 0 else -1) = 0 := by
      by_cases q1 : 1 < (mz_st k * (c : Int)) % (mz_m k : Int)
      · rw [if_pos q1]; decide
      · rw [if_neg q1, if_neg hne]; decide
    refine zg_if_eq (tgt := 249) (zd_t dmM_init 129 rfl) (by decide) (fun hq => absurd hq hcc) (fun _ => ?_)
    refine zg_aload_n (zd_t dmM_init 130 rfl) rfl ?_
    refine zg_getf (zd_t dmM_init 131 rfl) zf_M_27 (zb_at (k := 0) rfl rfl) rfl ?_
    refine zg_iload_n (zd_t dmM_init 132 rfl) rfl ?_
    refine zg_aload_n (zd_t dmM_init 133 rfl) rfl ?_
    refine zg_getf (zd_t dmM_init 134 rfl) zf_M_27 (zb_at (k := 0) rfl rfl) rfl ?_
    refine zg_iload_n (zd_t dmM_init 135 rfl) rfl ?_
    refine zg_lald (k := k) (t0 := 1) (zd_t dmM_init 136 rfl) (zb_at (k := 6) rfl rfl) rfl rfl hk (by decide) ?_
    rw [show vp_updL (zb_uk k) k (mz_L (mz_st k * (c : Int))) k = mz_L (mz_st k * (c : Int)) from if_pos rfl]
    refine zg_lload_n (zd_t dmM_init 137 rfl) rfl ?_
    refine zg_ladd (zd_t dmM_init 138 rfl) ?_
    rw [mz_add, show mz_st k * (c : Int) + mz_st k = mz_st k * ((c + 1 : Nat) : Int) by rw [Int.natCast_add, Int.mul_add]; omega]
    refine zg_last (k := k) (t0 := 1) (zd_t dmM_init 139 rfl) (zb_at (k := 6) rfl rfl) rfl rfl hk (by decide) (zb_up (L2 := zb_M A (zp_ca P) (mz_L 175107974924611) hf (vp_updL (zb_uk k) k (mz_L (mz_st k * ((c + 1 : Nat) : Int)))) su) 6 (Nat.le_of_ble_eq_true rfl) rfl (by rw [zb_updL2]; rfl)) ?_
    refine zg_goto (tgt := 213) (zd_t dmM_init 140 rfl) (by decide) ?_
    exact ih (c + 1) (by omega) (by omega)
theorem zm_init_2 : ∀ (n k : Nat), k + n = 6 → ∀ u2 : List (Nat × Value), zg_G l (zs_E P) (d + 1) mM_init 187 ((1, .int (nI k)) :: (0, .ref A) :: u2) [] (zb_l A f (zb_M A (zp_ca P) (mz_L 175107974924611) (mz_L 87553987462305) (zb_uk k) (zb_sk 0)), w) (.inl none, (zb_l A f (zb_M A (zp_ca P) (mz_L 175107974924611) (mz_L 87553987462305) (zb_uk 6) (zb_sk 16)), w)) := by
  intro n
  induction n with
  | zero =>
    intro k hk u2
    have hk : k = 6 := by omega
    subst hk
    refine zg_lv [0, 1] (lv2 := [(1, .int (nI 6)), (0, .ref A)]) rfl ?_
    refine zg_iload_n (zd_t dmM_init 100 rfl) rfl ?_
    refine zg_bipush (v := (nI 6)) (zd_t dmM_init 101 rfl) (by decide) ?_
    refine zg_icmp_ge (tgt := 255) (zd_t dmM_init 102 rfl) (by decide) (fun _ => ?_) (fun hq => absurd (by decide) hq)
    refine zg_iconst (v := (nI 0)) (zd_t dmM_init 143 rfl) (by decide) ?_
    refine zg_istore_n (zd_t dmM_init 144 rfl) (by decide) rfl ?_
    exact zm_init_3 16 0 rfl
  | succ n ih =>
    intro k hk u2
    have hk6 : k < 6 := by omega
    have hm := mz_m_lt k
    have hMi : mz_in 175107974924611 := by unfold mz_in; omega
    have hmi := mz_m_in k
    have ht := mz_tk_w k hk6
    have hm0 : ¬ mz_L (mz_m k : Int) = 0 := fun h => by
      have h0 : mz_in 0 := by unfold mz_in; omega
      have : mz_L (mz_m k : Int) = mz_L 0 := h
      rw [mz_eq hmi h0] at this
      omega
    refine zg_lv [0, 1] (lv2 := [(1, .int (nI k)), (0, .ref A)]) rfl ?_
    refine zg_iload_n (zd_t dmM_init 100 rfl) rfl ?_
    refine zg_bipush (v := (nI 6)) (zd_t dmM_init 101 rfl) (by decide) ?_
    refine zg_icmp_ge (tgt := 255) (zd_t dmM_init 102 rfl) (by decide) (fun hq => absurd hq (fun h => absurd ((nI_leI (by decide) (by omega)).mp h) (by omega))) (fun _ => ?_)
    refine zg_aload_n (zd_t dmM_init 103 rfl) rfl ?_
    refine zg_getf (zd_t dmM_init 104 rfl) zf_M_33 (zb_at (k := 0) rfl rfl) rfl ?_
    refine zg_aload_n (zd_t dmM_init 105 rfl) rfl ?_
    refine zg_getf (zd_t dmM_init 106 rfl) zf_M_7 (zb_at (k := 0) rfl rfl) rfl ?_
    refine zg_iload_n (zd_t dmM_init 107 rfl) rfl ?_
    refine zg_iald (k := k) (t0 := 0) (zd_t dmM_init 108 rfl) (zb_at (k := 1) rfl rfl) rfl rfl (show k < 8 by omega) (by decide) ?_
    rw [show zb_mo 8 k = nI (mz_m k) from if_pos (by omega)]
    refine zg_i2l (zd_t dmM_init 109 rfl) rfl ?_
    rw [mz_i2l (show mz_m k < 2 ^ 31 by omega)]
    refine zg_ldiv (zd_t dmM_init 110 rfl) hm0 ?_
    rw [mz_div hMi hmi, mz_stk k hk6]
    refine zg_lstore_n (zd_t dmM_init 111 rfl) (by decide) rfl ?_
    refine zg_aload_n (zd_t dmM_init 112 rfl) rfl ?_
    refine zg_getf (zd_t dmM_init 113 rfl) zf_M_27 (zb_at (k := 0) rfl rfl) rfl ?_
    refine zg_iload_n (zd_t dmM_init 114 rfl) rfl ?_
    refine zg_lload_n (zd_t dmM_init 115 rfl) rfl ?_
    refine zg_last (k := k) (t0 := 1) (zd_t dmM_init 116 rfl) (zb_at (k := 6) rfl rfl) rfl rfl hk6 (by decide) (zb_up (L2 := zb_M A (zp_ca P) (mz_L 175107974924611) (mz_L 87553987462305) (vp_updL (zb_uk k) k (mz_L (mz_st k * ((1 : Nat) : Int)))) (zb_sk 0)) 6 (Nat.le_of_ble_eq_true rfl) rfl (by rw [show mz_st k * ((1 : Nat) : Int) = mz_st k from Int.mul_one _]; rfl)) ?_
    refine zm_init_w hk6 ?_ (mz_tk k - 1) 1 (by omega) (by omega)
    refine zg_iinc (lv2 := [(1, .int (nI (k + 1))), (2, .long (mz_L (mz_st k))), (0, .ref A)]) (zd_t dmM_init 141 rfl) rfl (mz_inc k) (by decide) rfl ?_
    refine zg_goto (tgt := 187) (zd_t dmM_init 142 rfl) (by decide) ?_
    exact zg_lv [0, 2, 1] rfl (ih (k + 1) (by omega) [(2, .long (mz_L (mz_st k)))])
theorem zm_init_1 : ∀ (n k : Nat), k + n = 6 → zg_G l (zs_E P) (d + 1) mM_init 143 [(1, .int (nI k)), (0, .ref A)] [] (zb_l A f (zb_M A (zp_ca P) (mz_L (zb_wh k : Int)) 0 (zb_uk 0) (zb_sk 0)), w) (.inl none, (zb_l A f (zb_M A (zp_ca P) (mz_L 175107974924611) (mz_L 87553987462305) (zb_uk 6) (zb_sk 16)), w)) := by
  intro n
  induction n with
  | zero =>
    intro k hk
    have hk : k = 6 := by omega
    subst hk
    rw [show ((zb_wh 6 : Nat) : Int) = 175107974924611 by decide +kernel]
    have h1 : mz_in 175107974924610 := by unfold mz_in; omega
    have h2 : mz_in 2 := by unfold mz_in; omega
    refine zg_iload_n (zd_t dmM_init 75 rfl) rfl ?_
    refine zg_bipush (v := (nI 6)) (zd_t dmM_init 76 rfl) (by decide) ?_
    refine zg_icmp_ge (tgt := 171) (zd_t dmM_init 77 rfl) (by decide) (fun _ => ?_) (fun hq => absurd (by decide) hq)
    refine zg_aload_n (zd_t dmM_init 90 rfl) rfl ?_
    refine zg_aload_n (zd_t dmM_init 91 rfl) rfl ?_
    refine zg_getf (zd_t dmM_init 92 rfl) zf_M_33 (zb_at (k := 0) rfl rfl) rfl ?_
    refine zg_lconst (v := mz_L 1) (zd_t dmM_init 93 rfl) (by decide) ?_
    refine zg_lsub (zd_t dmM_init 94 rfl) ?_
    refine zg_ldc2 (zd_t dmM_init 95 rfl) zc_M_37 ?_
    rw [mz_sub, show (175107974924611 : Int) - 1 = 175107974924610 from rfl]
    refine zg_ldiv (zd_t dmM_init 96 rfl) (by decide) ?_
    rw [mz_div h1 h2, show (175107974924610 : Int).tdiv 2 = 87553987462305 by decide +kernel]
    refine zg_putf (zd_t dmM_init 97 rfl) zf_M_39 zt_3_8 (zb_at (k := 0) rfl rfl) (Nat.le_of_ble_eq_true rfl) rfl rfl (zb_up (L2 := zb_M A (zp_ca P) (mz_L 175107974924611) (mz_L 87553987462305) (zb_uk 0) (zb_sk 0)) 0 (Nat.le_of_ble_eq_true rfl) rfl rfl) ?_
    refine zg_iconst (v := (nI 0)) (zd_t dmM_init 98 rfl) (by decide) ?_
    refine zg_istore_n (zd_t dmM_init 99 rfl) (by decide) rfl ?_
    exact zm_init_2 6 0 rfl []
  | succ n ih =>
    intro k hk
    have hm := mz_m_lt k
    refine zg_iload_n (zd_t dmM_init 75 rfl) rfl ?_
    refine zg_bipush (v := (nI 6)) (zd_t dmM_init 76 rfl) (by decide) ?_
    refine zg_icmp_ge (tgt := 171) (zd_t dmM_init 77 rfl) (by decide) (fun hq => absurd hq (fun h => absurd ((nI_leI (by decide) (by omega)).mp h) (by omega))) (fun _ => ?_)
    refine zg_aload_n (zd_t dmM_init 78 rfl) rfl ?_
    refine zg_aload_n (zd_t dmM_init 79 rfl) rfl ?_
    refine zg_getf (zd_t dmM_init 80 rfl) zf_M_33 (zb_at (k := 0) rfl rfl) rfl ?_
    refine zg_aload_n (zd_t dmM_init 81 rfl) rfl ?_
    refine zg_getf (zd_t dmM_init 82 rfl) zf_M_7 (zb_at (k := 0) rfl rfl) rfl ?_
    refine zg_iload_n (zd_t dmM_init 83 rfl) rfl ?_
    refine zg_iald (k := k) (t0 := 0) (zd_t dmM_init 84 rfl) (zb_at (k := 1) rfl rfl) rfl rfl (show k < 8 by omega) (by decide) ?_
    rw [show zb_mo 8 k = nI (mz_m k) from if_pos (by omega)]
    refine zg_i2l (zd_t dmM_init 85 rfl) rfl ?_
    rw [mz_i2l (show mz_m k < 2 ^ 31 by omega)]
    refine zg_lmul (zd_t dmM_init 86 rfl) ?_
    rw [mz_mul, show (zb_wh k : Int) * (mz_m k : Int) = (zb_wh (k + 1) : Int) by rw [show zb_wh (k + 1) = zb_wh k * mz_m k from rfl]; omega]
    refine zg_putf (zd_t dmM_init 87 rfl) zf_M_33 zt_3_7 (zb_at (k := 0) rfl rfl) (Nat.le_of_ble_eq_true rfl) rfl rfl (zb_up (L2 := zb_M A (zp_ca P) (mz_L (zb_wh (k + 1) : Int)) 0 (zb_uk 0) (zb_sk 0)) 0 (Nat.le_of_ble_eq_true rfl) rfl rfl) ?_
    refine zg_iinc (lv2 := [(1, .int (nI (k + 1))), (0, .ref A)]) (zd_t dmM_init 88 rfl) rfl (mz_inc k) (by decide) rfl ?_
    refine zg_goto (tgt := 143) (zd_t dmM_init 89 rfl) (by decide) ?_
    exact ih (k + 1) (by omega)
def zb_mD : va_E := .inr (3, [.int 0, .null, .null, .null, .null, .null, .null, .long 0, .long 0, .null, .int 0, .int 0])
theorem zm_init : zg_C l (zs_E P) (d + 1) mM_init [.ref A] (zb_l A f [zb_mD], A + 1, us) (.inl none, (zb_l A f (zb_M A (zp_ca P) (mz_L 175107974924611) (mz_L 87553987462305) (zb_uk 6) (zb_sk 16)), A + 8, us + 8 + 128 + 16 + 16 + 16 + 6 + 128)) := by
  refine zg_C_of (by decide +kernel) (Nat.le_of_ble_eq_true rfl) ?_
  refine zg_aload_n (zd_t dmM_init 0 rfl) rfl ?_
  refine zg_objInit (zd_t dmM_init 1 rfl) (zs_in 456 (by decide +kernel) (by decide +kernel)) zs_oi zs_oc (by decide) ?_
  refine zg_aload_n (zd_t dmM_init 2 rfl) rfl ?_
  refine zg_bipush (v := (nI 8)) (zd_t dmM_init 3 rfl) (by decide) ?_
  refine zg_newa (t0 := 0) (N := 8) (a0 := (8, .inl (fun _ => 0))) (zd_t dmM_init 4 rfl) rfl (zs_in 45 (by decide +kernel) (by decide +kernel)) rfl (fun C h => by cases h) rfl (by decide) (fun _ => rfl) (by decide) (zb_al (L2 := [.inr (3, [.int 0, .null, .null, .null, .null, .null, .null, .long 0, .long 0, .null, .int 0, .int 0]), .inl (zp_ca P 0, 8, .inl (zb_mo 0))]) rfl (by rw [← zb_mo_0]; rfl)) ?_
  refine zg_putF (zd_t dmM_init 5 rfl) zf_M_7 zt_3_1 (fun C T N h => by cases h; rfl) rfl (zb_at (k := 0) rfl rfl) (Nat.le_of_ble_eq_true rfl) rfl rfl (zb_up (L2 := [.inr (3, [.int 0, .ref (A + 1), .null, .null, .null, .null, .null, .long 0, .long 0, .null, .int 0, .int 0]), .inl (zp_ca P 0, 8, .inl (zb_mo 0))]) 0 (Nat.le_of_ble_eq_true rfl) rfl rfl) ?_
  refine zg_aload_n (zd_t dmM_init 6 rfl) rfl ?_
  refine zg_sipush (v := (nI 128)) (zd_t dmM_init 7 rfl) (by decide) ?_
  refine zg_newa (t0 := 0) (N := 128) (a0 := (128, .inl (fun _ => 0))) (zd_t dmM_init 8 rfl) rfl (zs_in 45 (by decide +kernel) (by decide +kernel)) rfl (fun C h => by cases h) rfl (by decide) (fun _ => rfl) (by decide) (zb_al (L2 := [.inr (3, [.int 0, .ref (A + 1), .null, .null, .null, .null, .null, .long 0, .long 0, .null, .int 0, .int 0]), .inl (zp_ca P 0, 8, .inl (zb_mo 0)), .inl (zp_ca P 0, 128, .inl (fun _ => 0))]) rfl (rfl)) ?_
  refine zg_putF (zd_t dmM_init 9 rfl) zf_M_13 zt_3_2 (fun C T N h => by cases h; rfl) rfl (zb_at (k := 0) rfl rfl) (Nat.le_of_ble_eq_true rfl) rfl rfl (zb_up (L2 := [.inr (3, [.int 0, .ref (A + 1), .ref (A + 2), .null, .null, .null, .null, .long 0, .long 0, .null, .int 0, .int 0]), .inl (zp_ca P 0, 8, .inl (zb_mo 0)), .inl (zp_ca P 0, 128, .inl (fun _ => 0))]) 0 (Nat.le_of_ble_eq_true rfl) rfl rfl) ?_
  refine zg_aload_n (zd_t dmM_init 10 rfl) rfl ?_
  refine zg_bipush (v := (nI 16)) (zd_t dmM_init 11 rfl) (by decide) ?_
  refine zg_newa (t0 := 1) (N := 16) (a0 := (16, .inr (.inl (fun _ => 0)))) (zd_t dmM_init 12 rfl) rfl (zs_in 495 (by decide +kernel) (by decide +kernel)) rfl (fun C h => by cases h) rfl (by decide) (fun _ => rfl) (by decide) (zb_al (L2 := [.inr (3, [.int 0, .ref (A + 1), .ref (A + 2), .null, .null, .null, .null, .long 0, .long 0, .null, .int 0, .int 0]), .inl (zp_ca P 0, 8, .inl (zb_mo 0)), .inl (zp_ca P 0, 128, .inl (fun _ => 0)), .inl (zp_ca P 1, 16, .inr (.inl (fun _ => 0)))]) rfl (rfl)) ?_
  refine zg_putF (zd_t dmM_init 13 rfl) zf_M_16 zt_3_3 (fun C T N h => by cases h; rfl) rfl (zb_at (k := 0) rfl rfl) (Nat.le_of_ble_eq_true rfl) rfl rfl (zb_up (L2 := [.inr (3, [.int 0, .ref (A + 1), .ref (A + 2), .ref (A + 3), .null, .null, .null, .long 0, .long 0, .null, .int 0, .int 0]), .inl (zp_ca P 0, 8, .inl (zb_mo 0)), .inl (zp_ca P 0, 128, .inl (fun _ => 0)), .inl (zp_ca P 1, 16, .inr (.inl (fun _ => 0)))]) 0 (Nat.le_of_ble_eq_true rfl) rfl rfl) ?_
  refine zg_aload_n (zd_t dmM_init 14 rfl) rfl ?_
  refine zg_bipush (v := (nI 16)) (zd_t dmM_init 15 rfl) (by decide) ?_
  refine zg_newa (t0 := 1) (N := 16) (a0 := (16, .inr (.inl (fun _ => 0)))) (zd_t dmM_init 16 rfl) rfl (zs_in 495 (by decide +kernel) (by decide +kernel)) rfl (fun C h => by cases h) rfl (by decide) (fun _ => rfl) (by decide) (zb_al (L2 := [.inr (3, [.int 0, .ref (A + 1), .ref (A + 2), .ref (A + 3), .null, .null, .null, .long 0, .long 0, .null, .int 0, .int 0]), .inl (zp_ca P 0, 8, .inl (zb_mo 0)), .inl (zp_ca P 0, 128, .inl (fun _ => 0)), .inl (zp_ca P 1, 16, .inr (.inl (fun _ => 0))), .inl (zp_ca P 1, 16, .inr (.inl (fun _ => 0)))]) rfl (rfl)) ?_
  refine zg_putF (zd_t dmM_init 17 rfl) zf_M_20 zt_3_4 (fun C T N h => by cases h; rfl) rfl (zb_at (k := 0) rfl rfl) (Nat.le_of_ble_eq_true rfl) rfl rfl (zb_up (L2 := [.inr (3, [.int 0, .ref (A + 1), .ref (A + 2), .ref (A + 3), .ref (A + 4), .null, .null, .long 0, .long 0, .null, .int 0, .int 0]), .inl (zp_ca P 0, 8, .inl (zb_mo 0)), .inl (zp_ca P 0, 128, .inl (fun _ => 0)), .inl (zp_ca P 1, 16, .inr (.inl (fun _ => 0))), .inl (zp_ca P 1, 16, .inr (.inl (fun _ => 0)))]) 0 (Nat.le_of_ble_eq_true rfl) rfl rfl) ?_
  refine zg_aload_n (zd_t dmM_init 18 rfl) rfl ?_
  refine zg_bipush (v := (nI 16)) (zd_t dmM_init 19 rfl) (by decide) ?_
  refine zg_newa (t0 := 2) (N := 16) (a0 := (16, .inl (fun _ => 0))) (zd_t dmM_init 20 rfl) rfl (zs_in 496 (by decide +kernel) (by decide +kernel)) rfl (fun C h => by cases h) rfl (by decide) (fun _ => rfl) (by decide) (zb_al (L2 := [.inr (3, [.int 0, .ref (A + 1), .ref (A + 2), .ref (A + 3), .ref (A + 4), .null, .null, .long 0, .long 0, .null, .int 0, .int 0]), .inl (zp_ca P 0, 8, .inl (zb_mo 0)), .inl (zp_ca P 0, 128, .inl (fun _ => 0)), .inl (zp_ca P 1, 16, .inr (.inl (fun _ => 0))), .inl (zp_ca P 1, 16, .inr (.inl (fun _ => 0))), .inl (zp_ca P 2, 16, .inl (zb_sk 0))]) rfl (by rw [← zb_sk_0]; rfl)) ?_
  refine zg_putF (zd_t dmM_init 21 rfl) zf_M_23 zt_3_5 (fun C T N h => by cases h; rfl) rfl (zb_at (k := 0) rfl rfl) (Nat.le_of_ble_eq_true rfl) rfl rfl (zb_up (L2 := [.inr (3, [.int 0, .ref (A + 1), .ref (A + 2), .ref (A + 3), .ref (A + 4), .ref (A + 5), .null, .long 0, .long 0, .null, .int 0, .int 0]), .inl (zp_ca P 0, 8, .inl (zb_mo 0)), .inl (zp_ca P 0, 128, .inl (fun _ => 0)), .inl (zp_ca P 1, 16, .inr (.inl (fun _ => 0))), .inl (zp_ca P 1, 16, .inr (.inl (fun _ => 0))), .inl (zp_ca P 2, 16, .inl (zb_sk 0))]) 0 (Nat.le_of_ble_eq_true rfl) rfl rfl) ?_
  refine zg_aload_n (zd_t dmM_init 22 rfl) rfl ?_
  refine zg_bipush (v := (nI 6)) (zd_t dmM_init 23 rfl) (by decide) ?_
  refine zg_newa (t0 := 1) (N := 6) (a0 := (6, .inr (.inl (fun _ => 0)))) (zd_t dmM_init 24 rfl) rfl (zs_in 495 (by decide +kernel) (by decide +kernel)) rfl (fun C h => by cases h) rfl (by decide) (fun _ => rfl) (by decide) (zb_al (L2 := [.inr (3, [.int 0, .ref (A + 1), .ref (A + 2), .ref (A + 3), .ref (A + 4), .ref (A + 5), .null, .long 0, .long 0, .null, .int 0, .int 0]), .inl (zp_ca P 0, 8, .inl (zb_mo 0)), .inl (zp_ca P 0, 128, .inl (fun _ => 0)), .inl (zp_ca P 1, 16, .inr (.inl (fun _ => 0))), .inl (zp_ca P 1, 16, .inr (.inl (fun _ => 0))), .inl (zp_ca P 2, 16, .inl (zb_sk 0)), .inl (zp_ca P 1, 6, .inr (.inl (zb_uk 0)))]) rfl (by rw [← zb_uk_0]; rfl)) ?_
  refine zg_putF (zd_t dmM_init 25 rfl) zf_M_27 zt_3_6 (fun C T N h => by cases h; rfl) rfl (zb_at (k := 0) rfl rfl) (Nat.le_of_ble_eq_true rfl) rfl rfl (zb_up (L2 := [.inr (3, [.int 0, .ref (A + 1), .ref (A + 2), .ref (A + 3), .ref (A + 4), .ref (A + 5), .ref (A + 6), .long 0, .long 0, .null, .int 0, .int 0]), .inl (zp_ca P 0, 8, .inl (zb_mo 0)), .inl (zp_ca P 0, 128, .inl (fun _ => 0)), .inl (zp_ca P 1, 16, .inr (.inl (fun _ => 0))), .inl (zp_ca P 1, 16, .inr (.inl (fun _ => 0))), .inl (zp_ca P 2, 16, .inl (zb_sk 0)), .inl (zp_ca P 1, 6, .inr (.inl (zb_uk 0)))]) 0 (Nat.le_of_ble_eq_true rfl) rfl rfl) ?_
  refine zg_aload_n (zd_t dmM_init 26 rfl) rfl ?_
  refine zg_sipush (v := (nI 128)) (zd_t dmM_init 27 rfl) (by decide) ?_
  refine zg_newa (t0 := 0) (N := 128) (a0 := (128, .inl (fun _ => 0))) (zd_t dmM_init 28 rfl) rfl (zs_in 45 (by decide +kernel) (by decide +kernel)) rfl (fun C h => by cases h) rfl (by decide) (fun _ => rfl) (by decide) (zb_al (L2 := [.inr (3, [.int 0, .ref (A + 1), .ref (A + 2), .ref (A + 3), .ref (A + 4), .ref (A + 5), .ref (A + 6), .long 0, .long 0, .null, .int 0, .int 0]), .inl (zp_ca P 0, 8, .inl (zb_mo 0)), .inl (zp_ca P 0, 128, .inl (fun _ => 0)), .inl (zp_ca P 1, 16, .inr (.inl (fun _ => 0))), .inl (zp_ca P 1, 16, .inr (.inl (fun _ => 0))), .inl (zp_ca P 2, 16, .inl (zb_sk 0)), .inl (zp_ca P 1, 6, .inr (.inl (zb_uk 0))), .inl (zp_ca P 0, 128, .inl (fun _ => 0))]) rfl (rfl)) ?_
  refine zg_putF (zd_t dmM_init 29 rfl) zf_M_30 zt_3_9 (fun C T N h => by cases h; rfl) rfl (zb_at (k := 0) rfl rfl) (Nat.le_of_ble_eq_true rfl) rfl rfl (zb_up (L2 := [.inr (3, [.int 0, .ref (A + 1), .ref (A + 2), .ref (A + 3), .ref (A + 4), .ref (A + 5), .ref (A + 6), .long 0, .long 0, .ref (A + 7), .int 0, .int 0]), .inl (zp_ca P 0, 8, .inl (zb_mo 0)), .inl (zp_ca P 0, 128, .inl (fun _ => 0)), .inl (zp_ca P 1, 16, .inr (.inl (fun _ => 0))), .inl (zp_ca P 1, 16, .inr (.inl (fun _ => 0))), .inl (zp_ca P 2, 16, .inl (zb_sk 0)), .inl (zp_ca P 1, 6, .inr (.inl (zb_uk 0))), .inl (zp_ca P 0, 128, .inl (fun _ => 0))]) 0 (Nat.le_of_ble_eq_true rfl) rfl rfl) ?_
  refine zg_aload_n (zd_t dmM_init 30 rfl) rfl ?_
  refine zg_getf (zd_t dmM_init 31 rfl) zf_M_7 (zb_at (k := 0) rfl rfl) rfl ?_
  refine zg_iconst (v := (nI 0)) (zd_t dmM_init 32 rfl) (by decide) ?_
  refine zg_sipush (v := (nI 251)) (zd_t dmM_init 33 rfl) (by decide) ?_
  refine zg_iast (k := 0) (t0 := 0) (zd_t dmM_init 34 rfl) (zb_at (k := 1) rfl rfl) rfl rfl (by decide) (by decide) (zb_up (L2 := [.inr (3, [.int 0, .ref (A + 1), .ref (A + 2), .ref (A + 3), .ref (A + 4), .ref (A + 5), .ref (A + 6), .long 0, .long 0, .ref (A + 7), .int 0, .int 0]), .inl (zp_ca P 0, 8, .inl (zb_mo 1)), .inl (zp_ca P 0, 128, .inl (fun _ => 0)), .inl (zp_ca P 1, 16, .inr (.inl (fun _ => 0))), .inl (zp_ca P 1, 16, .inr (.inl (fun _ => 0))), .inl (zp_ca P 2, 16, .inl (zb_sk 0)), .inl (zp_ca P 1, 6, .inr (.inl (zb_uk 0))), .inl (zp_ca P 0, 128, .inl (fun _ => 0))]) 1 (Nat.le_of_ble_eq_true rfl) rfl (by rw [show zb_mo 1 = upd (zb_mo 0) 0 (nI (mz_m 0)) from (zb_mo_s 0).symm]; rfl)) ?_
  refine zg_aload_n (zd_t dmM_init 35 rfl) rfl ?_
  refine zg_getf (zd_t dmM_init 36 rfl) zf_M_7 (zb_at (k := 0) rfl rfl) rfl ?_
  refine zg_iconst (v := (nI 1)) (zd_t dmM_init 37 rfl) (by decide) ?_
  refine zg_sipush (v := (nI 241)) (zd_t dmM_init 38 rfl) (by decide) ?_
  refine zg_iast (k := 1) (t0 := 0) (zd_t dmM_init 39 rfl) (zb_at (k := 1) rfl rfl) rfl rfl (by decide) (by decide) (zb_up (L2 := [.inr (3, [.int 0, .ref (A + 1), .ref (A + 2), .ref (A + 3), .ref (A + 4), .ref (A + 5), .ref (A + 6), .long 0, .long 0, .ref (A + 7), .int 0, .int 0]), .inl (zp_ca P 0, 8, .inl (zb_mo 2)), .inl (zp_ca P 0, 128, .inl (fun _ => 0)), .inl (zp_ca P 1, 16, .inr (.inl (fun _ => 0))), .inl (zp_ca P 1, 16, .inr (.inl (fun _ => 0))), .inl (zp_ca P 2, 16, .inl (zb_sk 0)), .inl (zp_ca P 1, 6, .inr (.inl (zb_uk 0))), .inl (zp_ca P 0, 128, .inl (fun _ => 0))]) 1 (Nat.le_of_ble_eq_true rfl) rfl (by rw [show zb_mo 2 = upd (zb_mo 1) 1 (nI (mz_m 1)) from (zb_mo_s 1).symm]; rfl)) ?_
  refine zg_aload_n (zd_t dmM_init 40 rfl) rfl ?_
  refine zg_getf (zd_t dmM_init 41 rfl) zf_M_7 (zb_at (k := 0) rfl rfl) rfl ?_
  refine zg_iconst (v := (nI 2)) (zd_t dmM_init 42 rfl) (by decide) ?_
  refine zg_sipush (v := (nI 239)) (zd_t dmM_init 43 rfl) (by decide) ?_
  refine zg_iast (k := 2) (t0 := 0) (zd_t dmM_init 44 rfl) (zb_at (k := 1) rfl rfl) rfl rfl (by decide) (by decide) (zb_up (L2 := [.inr (3, [.int 0, .ref (A + 1), .ref (A + 2), .ref (A + 3), .ref (A + 4), .ref (A + 5), .ref (A + 6), .long 0, .long 0, .ref (A + 7), .int 0, .int 0]), .inl (zp_ca P 0, 8, .inl (zb_mo 3)), .inl (zp_ca P 0, 128, .inl (fun _ => 0)), .inl (zp_ca P 1, 16, .inr (.inl (fun _ => 0))), .inl (zp_ca P 1, 16, .inr (.inl (fun _ => 0))), .inl (zp_ca P 2, 16, .inl (zb_sk 0)), .inl (zp_ca P 1, 6, .inr (.inl (zb_uk 0))), .inl (zp_ca P 0, 128, .inl (fun _ => 0))]) 1 (Nat.le_of_ble_eq_true rfl) rfl (by rw [show zb_mo 3 = upd (zb_mo 2) 2 (nI (mz_m 2)) from (zb_mo_s 2).symm]; rfl)) ?_
  refine zg_aload_n (zd_t dmM_init 45 rfl) rfl ?_
  refine zg_getf (zd_t dmM_init 46 rfl) zf_M_7 (zb_at (k := 0) rfl rfl) rfl ?_
  refine zg_iconst (v := (nI 3)) (zd_t dmM_init 47 rfl) (by decide) ?_
  refine zg_sipush (v := (nI 233)) (zd_t dmM_init 48 rfl) (by decide) ?_
  refine zg_iast (k := 3) (t0 := 0) (zd_t dmM_init 49 rfl) (zb_at (k := 1) rfl rfl) rfl rfl (by decide) (by decide) (zb_up (L2 := [.inr (3, [.int 0, .ref (A + 1), .ref (A + 2), .ref (A + 3), .ref (A + 4), .ref (A + 5), .ref (A + 6), .long 0, .long 0, .ref (A + 7), .int 0, .int 0]), .inl (zp_ca P 0, 8, .inl (zb_mo 4)), .inl (zp_ca P 0, 128, .inl (fun _ => 0)), .inl (zp_ca P 1, 16, .inr (.inl (fun _ => 0))), .inl (zp_ca P 1, 16, .inr (.inl (fun _ => 0))), .inl (zp_ca P 2, 16, .inl (zb_sk 0)), .inl (zp_ca P 1, 6, .inr (.inl (zb_uk 0))), .inl (zp_ca P 0, 128, .inl (fun _ => 0))]) 1 (Nat.le_of_ble_eq_true rfl) rfl (by rw [show zb_mo 4 = upd (zb_mo 3) 3 (nI (mz_m 3)) from (zb_mo_s 3).symm]; rfl)) ?_
  refine zg_aload_n (zd_t dmM_init 50 rfl) rfl ?_
  refine zg_getf (zd_t dmM_init 51 rfl) zf_M_7 (zb_at (k := 0) rfl rfl) rfl ?_
  refine zg_iconst (v := (nI 4)) (zd_t dmM_init 52 rfl) (by decide) ?_
  refine zg_sipush (v := (nI 229)) (zd_t dmM_init 53 rfl) (by decide) ?_
  refine zg_iast (k := 4) (t0 := 0) (zd_t dmM_init 54 rfl) (zb_at (k := 1) rfl rfl) rfl rfl (by decide) (by decide) (zb_up (L2 := [.inr (3, [.int 0, .ref (A + 1), .ref (A + 2), .ref (A + 3), .ref (A + 4), .ref (A + 5), .ref (A + 6), .long 0, .long 0, .ref (A + 7), .int 0, .int 0]), .inl (zp_ca P 0, 8, .inl (zb_mo 5)), .inl (zp_ca P 0, 128, .inl (fun _ => 0)), .inl (zp_ca P 1, 16, .inr (.inl (fun _ => 0))), .inl (zp_ca P 1, 16, .inr (.inl (fun _ => 0))), .inl (zp_ca P 2, 16, .inl (zb_sk 0)), .inl (zp_ca P 1, 6, .inr (.inl (zb_uk 0))), .inl (zp_ca P 0, 128, .inl (fun _ => 0))]) 1 (Nat.le_of_ble_eq_true rfl) rfl (by rw [show zb_mo 5 = upd (zb_mo 4) 4 (nI (mz_m 4)) from (zb_mo_s 4).symm]; rfl)) ?_
  refine zg_aload_n (zd_t dmM_init 55 rfl) rfl ?_
  refine zg_getf (zd_t dmM_init 56 rfl) zf_M_7 (zb_at (k := 0) rfl rfl) rfl ?_
  refine zg_iconst (v := (nI 5)) (zd_t dmM_init 57 rfl) (by decide) ?_
  refine zg_sipush (v := (nI 227)) (zd_t dmM_init 58 rfl) (by decide) ?_
  refine zg_iast (k := 5) (t0 := 0) (zd_t dmM_init 59 rfl) (zb_at (k := 1) rfl rfl) rfl rfl (by decide) (by decide) (zb_up (L2 := [.inr (3, [.int 0, .ref (A + 1), .ref (A + 2), .ref (A + 3), .ref (A + 4), .ref (A + 5), .ref (A + 6), .long 0, .long 0, .ref (A + 7), .int 0, .int 0]), .inl (zp_ca P 0, 8, .inl (zb_mo 6)), .inl (zp_ca P 0, 128, .inl (fun _ => 0)), .inl (zp_ca P 1, 16, .inr (.inl (fun _ => 0))), .inl (zp_ca P 1, 16, .inr (.inl (fun _ => 0))), .inl (zp_ca P 2, 16, .inl (zb_sk 0)), .inl (zp_ca P 1, 6, .inr (.inl (zb_uk 0))), .inl (zp_ca P 0, 128, .inl (fun _ => 0))]) 1 (Nat.le_of_ble_eq_true rfl) rfl (by rw [show zb_mo 6 = upd (zb_mo 5) 5 (nI (mz_m 5)) from (zb_mo_s 5).symm]; rfl)) ?_
  refine zg_aload_n (zd_t dmM_init 60 rfl) rfl ?_
  refine zg_getf (zd_t dmM_init 61 rfl) zf_M_7 (zb_at (k := 0) rfl rfl) rfl ?_
  refine zg_bipush (v := (nI 6)) (zd_t dmM_init 62 rfl) (by decide) ?_
  refine zg_sipush (v := (nI 256)) (zd_t dmM_init 63 rfl) (by decide) ?_
  refine zg_iast (k := 6) (t0 := 0) (zd_t dmM_init 64 rfl) (zb_at (k := 1) rfl rfl) rfl rfl (by decide) (by decide) (zb_up (L2 := [.inr (3, [.int 0, .ref (A + 1), .ref (A + 2), .ref (A + 3), .ref (A + 4), .ref (A + 5), .ref (A + 6), .long 0, .long 0, .ref (A + 7), .int 0, .int 0]), .inl (zp_ca P 0, 8, .inl (zb_mo 7)), .inl (zp_ca P 0, 128, .inl (fun _ => 0)), .inl (zp_ca P 1, 16, .inr (.inl (fun _ => 0))), .inl (zp_ca P 1, 16, .inr (.inl (fun _ => 0))), .inl (zp_ca P 2, 16, .inl (zb_sk 0)), .inl (zp_ca P 1, 6, .inr (.inl (zb_uk 0))), .inl (zp_ca P 0, 128, .inl (fun _ => 0))]) 1 (Nat.le_of_ble_eq_true rfl) rfl (by rw [show zb_mo 7 = upd (zb_mo 6) 6 (nI (mz_m 6)) from (zb_mo_s 6).symm]; rfl)) ?_
  refine zg_aload_n (zd_t dmM_init 65 rfl) rfl ?_
  refine zg_getf (zd_t dmM_init 66 rfl) zf_M_7 (zb_at (k := 0) rfl rfl) rfl ?_
  refine zg_bipush (v := (nI 7)) (zd_t dmM_init 67 rfl) (by decide) ?_
  refine zg_sipush (v := (nI 255)) (zd_t dmM_init 68 rfl) (by decide) ?_
  refine zg_iast (k := 7) (t0 := 0) (zd_t dmM_init 69 rfl) (zb_at (k := 1) rfl rfl) rfl rfl (by decide) (by decide) (zb_up (L2 := [.inr (3, [.int 0, .ref (A + 1), .ref (A + 2), .ref (A + 3), .ref (A + 4), .ref (A + 5), .ref (A + 6), .long 0, .long 0, .ref (A + 7), .int 0, .int 0]), .inl (zp_ca P 0, 8, .inl (zb_mo 8)), .inl (zp_ca P 0, 128, .inl (fun _ => 0)), .inl (zp_ca P 1, 16, .inr (.inl (fun _ => 0))), .inl (zp_ca P 1, 16, .inr (.inl (fun _ => 0))), .inl (zp_ca P 2, 16, .inl (zb_sk 0)), .inl (zp_ca P 1, 6, .inr (.inl (zb_uk 0))), .inl (zp_ca P 0, 128, .inl (fun _ => 0))]) 1 (Nat.le_of_ble_eq_true rfl) rfl (by rw [show zb_mo 8 = upd (zb_mo 7) 7 (nI (mz_m 7)) from (zb_mo_s 7).symm]; rfl)) ?_
  refine zg_aload_n (zd_t dmM_init 70 rfl) rfl ?_
  refine zg_lconst (v := mz_L 1) (zd_t dmM_init 71 rfl) (by decide) ?_
  refine zg_putf (zd_t dmM_init 72 rfl) zf_M_33 zt_3_7 (zb_at (k := 0) rfl rfl) (Nat.le_of_ble_eq_true rfl) rfl rfl (zb_up (L2 := zb_M A (zp_ca P) (mz_L (zb_wh 0 : Int)) 0 (zb_uk 0) (zb_sk 0)) 0 (Nat.le_of_ble_eq_true rfl) rfl rfl) ?_
  refine zg_iconst (v := (nI 0)) (zd_t dmM_init 73 rfl) (by decide) ?_
  refine zg_istore_n (zd_t dmM_init 74 rfl) (by decide) rfl ?_
  exact zm_init_1 6 0 rfl
end ZM21
