/-- the heap behind an exception: one cell of six slots more -/
abbrev zs_exc (σ : zg_H) : zg_H := (σ.1, zg_sz σ + 1, zg_us σ + 6)
def zs_nm : List String := ["java/lang/RuntimeException", "java/lang/Exception"]
theorem zs_atoms {P : zs_P} {L : List Cond} (h : L.all (fun a => decide (a ∈ zs_hw) || (decide (a ∈ lw_tbl) && zs_gw a)) = true) : ∀ a ∈ L, a ∈ zg_ws (zs_E P) ∨ ∀ U H, zg_x (zs_E P) U H → U.heap = H → ∀ ar : Array Value, a.before ar U = true := by
  intro a ha
  have h1 := List.all_eq_true.mp h a ha
  rw [Bool.or_eq_true, Bool.and_eq_true, decide_eq_true_eq, decide_eq_true_eq] at h1
  rcases h1 with h1 | h1
  · exact Or.inr fun U H hx hH ar => hx.2.2.2.2.2.2 hH a h1 ar
  · exact Or.inl (List.mem_filter.mpr h1)
section ZM3
variable {l : Launch} {P : zs_P} {d : Nat} {σ : zg_H}
theorem zx_IOB : ∀ a ∈ Bundle.ownAtoms "ResidueUnit" 122 "java/lang/IndexOutOfBoundsException" zs_nm, a ∈ zg_ws (zs_E P) ∨ ∀ U H, zg_x (zs_E P) U H → U.heap = H → ∀ ar : Array Value, a.before ar U = true := zs_atoms (by decide +kernel)
theorem zx_IAE : ∀ a ∈ Bundle.ownAtoms "ResidueUnit" 42 "java/lang/IllegalArgumentException" zs_nm, a ∈ zg_ws (zs_E P) ∨ ∀ U H, zg_x (zs_E P) U H → U.heap = H → ∀ ar : Array Value, a.before ar U = true := zs_atoms (by decide +kernel)
theorem zx_ISE : ∀ a ∈ Bundle.ownAtoms "ResidueUnit" 57 "java/lang/IllegalStateException" zs_nm, a ∈ zg_ws (zs_E P) ∨ ∀ U H, zg_x (zs_E P) U H → U.heap = H → ∀ ar : Array Value, a.before ar U = true := zs_atoms (by decide +kernel)
theorem zs_str (k : Nat) (tx : String) (h : (k, tx) ∈ zs_tx) : ∀ U H, zg_x (zs_E P) U H → vk_R "ResidueUnit" k tx (zp_q P k) U := fun U H hx => hx.2.2.2.2.1 (k, tx) h
theorem zs_iIOB : Cond.initialized "java/lang/IndexOutOfBoundsException" ∈ zs_ws := zs_in 8 (by decide +kernel) (by decide +kernel)
theorem zs_iIAE : Cond.initialized "java/lang/IllegalArgumentException" ∈ zs_ws := zs_in 9 (by decide +kernel) (by decide +kernel)
theorem zs_iISE : Cond.initialized "java/lang/IllegalStateException" ∈ zs_ws := zs_in 11 (by decide +kernel) (by decide +kernel)
theorem zs_iARE : Cond.initialized "java/lang/ArithmeticException" ∈ zs_ws := zs_in 13 (by decide +kernel) (by decide +kernel)
theorem zu_requireRegister {r : Int32} (h : 0 ≤ r.toInt ∧ r.toInt < 16) : zg_C l (zs_E P) (d + 1) mU_requireRegister [.int r] σ (.inl none, σ) := by
  refine zg_C_of (by decide +kernel) (Nat.le_of_ble_eq_true rfl) ?_
  refine zg_iload_n (zd_t dmU_requireRegister 0 rfl) rfl ?_
  refine zg_callS (zd_t dmU_requireRegister 1 rfl) zl_U_142 zm_mU_isRegister zst_mU_isRegister (av := [.int r]) (rest := []) rfl rfl (Nat.le_of_ble_eq_true rfl) (zu_isRegister r) ?_
  rw [decide_eq_true h]
  refine zg_if_ne (tgt := 17) (zd_t dmU_requireRegister 2 rfl) (by decide) (fun _ => ?_) (fun h => absurd h (by decide))
  exact zg_vret (zd_t dmU_requireRegister 8 rfl) rfl rfl
theorem zu_requireRegisterX {r : Int32} (htr : l.stackTraces = false) (h : ¬ (0 ≤ r.toInt ∧ r.toInt < 16)) : zg_C l (zs_E P) (d + 6) mU_requireRegister [.int r] σ (.inr (zg_sz σ, "java/lang/IndexOutOfBoundsException"), zs_exc σ) := by
  refine zg_C_of (by decide +kernel) (Nat.le_of_ble_eq_true rfl) ?_
  refine zg_iload_n (zd_t dmU_requireRegister 0 rfl) rfl ?_
  refine zg_callS (zd_t dmU_requireRegister 1 rfl) zl_U_142 zm_mU_isRegister zst_mU_isRegister (av := [.int r]) (rest := []) rfl rfl (Nat.le_of_ble_eq_true rfl) (zu_isRegister r) ?_
  rw [decide_eq_false h]
  refine zg_if_ne (tgt := 17) (zd_t dmU_requireRegister 2 rfl) (by decide) (fun h => absurd rfl h) (fun _ => ?_)
  exact zg_throw htr (by omega) (by decide) (by decide) (zd_t dmU_requireRegister 3 rfl) (zd_t dmU_requireRegister 4 rfl) (zd_t dmU_requireRegister 5 rfl) (zd_t dmU_requireRegister 6 rfl) (zd_t dmU_requireRegister 7 rfl) zcl_U_118 zs_iIOB (zs_str 145 "there is no such register" (by decide)) (by decide +kernel) (by decide +kernel) zx_IOB (zs_in 101 (by decide +kernel) (by decide +kernel)) (fun h hh => absurd hh List.not_mem_nil) rfl
end ZM3
section ZM3b
variable {l : Launch} {P : zs_P} {d : Nat} {S : zs_S} {S2 : zs_S2} {th : Int32} {o : Int64} {w : Nat × Nat} {i : Nat}
theorem zs_rf_at {n j : Nat} {g : Nat → Nat} (h : j < n) : zs_rf n g j = some (g j) := if_pos h
theorem zs_rg {i : Nat} (h : i < 16) : 0 ≤ (nI i).toInt ∧ (nI i).toInt < 16 := by rw [nI_toInt (by omega)]; omega
theorem zu_load {v : Int} (hi : i < 16) (hv : -87553987462305 ≤ v ∧ v ≤ 87553987462305) : zg_C l (zs_E P) (d + 3) mU_load [.ref (zp_B P), .int (nI i), .long (mz_L v)] (zs_σ P S th S2 o w) (.inl none, zs_σ P (zs_sput S i v) th S2 o w) := by
  have hvi : mz_in v := by unfold mz_in; omega
  refine zg_C_of (by decide +kernel) (Nat.le_of_ble_eq_true rfl) ?_
  refine zg_iload_n (zd_t dmU_load 0 rfl) rfl ?_
  refine zg_callS (zd_t dmU_load 1 rfl) zl_U_30 zm_mU_requireRegister zst_mU_requireRegister (av := [.int (nI i)]) (rest := []) rfl rfl (Nat.le_of_ble_eq_true rfl) (zu_requireRegister (zs_rg hi)) ?_
  refine zg_lload_n (zd_t dmU_load 2 rfl) rfl ?_
  refine zg_callS (zd_t dmU_load 3 rfl) zl_U_34 zm_mU_inRange zst_mU_inRange (av := [.long (mz_L v)]) (rest := []) rfl rfl (Nat.le_of_ble_eq_true rfl) (zu_inRange hvi.w) ?_
  rw [decide_eq_true hv]
  refine zg_if_ne (tgt := 21) (zd_t dmU_load 4 rfl) (by decide) (fun _ => ?_) (fun h => absurd h (by decide))
  refine zg_aload_n (zd_t dmU_load 10 rfl) rfl ?_
  refine zg_getf (zd_t dmU_load 11 rfl) zf_U_11 zs_0 rfl ?_
  refine zg_iload_n (zd_t dmU_load 12 rfl) rfl ?_
  refine zg_aald (t0 := 3) (zd_t dmU_load 13 rfl) zs_1 rfl rfl hi (by decide) (zs_rf_at hi) ?_
  refine zg_lload_n (zd_t dmU_load 14 rfl) rfl ?_
  refine zg_callV (zd_t dmU_load 15 rfl) zl_U_45 zm_mR_put zi_mR_put zse_mR_put (zs_reg hi) zs_cl1 rfl (av := [.long (mz_L v)]) (rest := []) rfl rfl (Nat.le_of_ble_eq_true rfl) (zr_put hi hvi) ?_
  exact zg_vret (zd_t dmU_load 16 rfl) rfl rfl
theorem zu_loadX {r : Int32} {x : Int64} (htr : l.stackTraces = false) (h : ¬ (0 ≤ r.toInt ∧ r.toInt < 16)) {σ : zg_H} : zg_C l (zs_E P) (d + 7) mU_load [.ref (zp_B P), .int r, .long x] σ (.inr (zg_sz σ, "java/lang/IndexOutOfBoundsException"), zs_exc σ) := by
  refine zg_C_of (by decide +kernel) (Nat.le_of_ble_eq_true rfl) ?_
  refine zg_iload_n (zd_t dmU_load 0 rfl) rfl ?_
  exact zg_callST (zd_t dmU_load 1 rfl) zl_U_30 zm_mU_requireRegister zst_mU_requireRegister (av := [.int r]) (rest := []) rfl rfl (Nat.le_of_ble_eq_true rfl) (zu_requireRegisterX htr h) (fun h hh => absurd hh List.not_mem_nil) rfl
theorem zu_loadY {r : Int32} {v : Int} (htr : l.stackTraces = false) (h : 0 ≤ r.toInt ∧ r.toInt < 16) (hv : mz_wi v) (hv2 : ¬ (-87553987462305 ≤ v ∧ v ≤ 87553987462305)) {σ : zg_H} : zg_C l (zs_E P) (d + 7) mU_load [.ref (zp_B P), .int r, .long (mz_L v)] σ (.inr (zg_sz σ, "java/lang/IllegalArgumentException"), zs_exc σ) := by
  refine zg_C_of (by decide +kernel) (Nat.le_of_ble_eq_true rfl) ?_
  refine zg_iload_n (zd_t dmU_load 0 rfl) rfl ?_
  refine zg_callS (zd_t dmU_load 1 rfl) zl_U_30 zm_mU_requireRegister zst_mU_requireRegister (av := [.int r]) (rest := []) rfl rfl (Nat.le_of_ble_eq_true rfl) (zu_requireRegister h) ?_
  refine zg_lload_n (zd_t dmU_load 2 rfl) rfl ?_
  refine zg_callS (zd_t dmU_load 3 rfl) zl_U_34 zm_mU_inRange zst_mU_inRange (av := [.long (mz_L v)]) (rest := []) rfl rfl (Nat.le_of_ble_eq_true rfl) (zu_inRange hv) ?_
  rw [decide_eq_false hv2]
  refine zg_if_ne (tgt := 21) (zd_t dmU_load 4 rfl) (by decide) (fun h => absurd rfl h) (fun _ => ?_)
  exact zg_throw htr (by omega) (by decide) (by decide) (zd_t dmU_load 5 rfl) (zd_t dmU_load 6 rfl) (zd_t dmU_load 7 rfl) (zd_t dmU_load 8 rfl) (zd_t dmU_load 9 rfl) zcl_U_38 zs_iIAE (zs_str 40 "the number is not in range" (by decide)) (by decide +kernel) (by decide +kernel) zx_IAE (zs_in 175 (by decide +kernel) (by decide +kernel)) (fun h hh => absurd hh List.not_mem_nil) rfl
theorem zs_cl0 : (zg_cl (zs_E P))[0]? = some ("ResidueUnit", zs_TU, 4) := rfl
theorem zl_load {v : Int} (hi : i < 16) (hv : -87553987462305 ≤ v ∧ v ≤ 87553987462305) : zg_C l (zs_E P) (d + 4) mL_load [.ref (zp_B P), .int (nI i), .long (mz_L v)] (zs_σ P S th S2 o w) (.inl (some (.int 0)), zs_σ P (zs_sput S i v) th S2 o w) := by
  refine zg_C_of (by decide +kernel) (Nat.le_of_ble_eq_true rfl) ?_
  refine zg_aload_n (zd_t dmL_load 0 rfl) rfl ?_
  refine zg_iload_n (zd_t dmL_load 1 rfl) rfl ?_
  refine zg_lload_n (zd_t dmL_load 2 rfl) rfl ?_
  refine zg_callV (zd_t dmL_load 3 rfl) zl_L_7 zm_mU_load zi_mU_load zse_mU_load zs_0 zs_cl0 rfl (av := [.int (nI i), .long (mz_L v)]) (rest := []) rfl rfl (Nat.le_of_ble_eq_true rfl) (zu_load hi hv) ?_
  refine zg_goto (tgt := 17) (zd_t dmL_load 4 rfl) (by decide) ?_
  refine zg_iconst (v := (nI 0)) (zd_t dmL_load 11 rfl) (by decide) ?_
  exact zg_iret (zd_t dmL_load 12 rfl) rfl rfl
theorem zl_loadX {r : Int32} {x : Int64} (htr : l.stackTraces = false) (h : ¬ (0 ≤ r.toInt ∧ r.toInt < 16)) : zg_C l (zs_E P) (d + 8) mL_load [.ref (zp_B P), .int r, .long x] (zs_σ P S th S2 o w) (.inl (some (.int 1)), zs_exc (zs_σ P S th S2 o w)) := by
  refine zg_C_of (by decide +kernel) (Nat.le_of_ble_eq_true rfl) ?_
  refine zg_aload_n (zd_t dmL_load 0 rfl) rfl ?_
  refine zg_iload_n (zd_t dmL_load 1 rfl) rfl ?_
  refine zg_lload_n (zd_t dmL_load 2 rfl) rfl ?_
  refine zg_callVC (zd_t dmL_load 3 rfl) zl_L_7 zm_mU_load zi_mU_load zse_mU_load zs_0 zs_cl0 rfl (av := [.int r, .long x]) (rest := []) rfl rfl (Nat.le_of_ble_eq_true rfl) (zu_loadX htr h) (hp := 9) zh_load_IOB ?_
  refine zg_astore (zd_t dmL_load 5 rfl) (by decide) rfl ?_
  refine zg_iconst (v := (nI 1)) (zd_t dmL_load 6 rfl) (by decide) ?_
  exact zg_iret (zd_t dmL_load 7 rfl) rfl rfl
theorem zl_loadY {r : Int32} {v : Int} (htr : l.stackTraces = false) (h : 0 ≤ r.toInt ∧ r.toInt < 16) (hv : mz_wi v) (hv2 : ¬ (-87553987462305 ≤ v ∧ v ≤ 87553987462305)) : zg_C l (zs_E P) (d + 8) mL_load [.ref (zp_B P), .int r, .long (mz_L v)] (zs_σ P S th S2 o w) (.inl (some (.int 2)), zs_exc (zs_σ P S th S2 o w)) := by
  refine zg_C_of (by decide +kernel) (Nat.le_of_ble_eq_true rfl) ?_
  refine zg_aload_n (zd_t dmL_load 0 rfl) rfl ?_
  refine zg_iload_n (zd_t dmL_load 1 rfl) rfl ?_
  refine zg_lload_n (zd_t dmL_load 2 rfl) rfl ?_
  refine zg_callVC (zd_t dmL_load 3 rfl) zl_L_7 zm_mU_load zi_mU_load zse_mU_load zs_0 zs_cl0 rfl (av := [.int r, .long (mz_L v)]) (rest := []) rfl rfl (Nat.le_of_ble_eq_true rfl) (zu_loadY htr h hv hv2) (hp := 13) zh_load_IAE ?_
  refine zg_astore (zd_t dmL_load 8 rfl) (by decide) rfl ?_
  refine zg_iconst (v := (nI 2)) (zd_t dmL_load 9 rfl) (by decide) ?_
  exact zg_iret (zd_t dmL_load 10 rfl) rfl rfl
end ZM3b
