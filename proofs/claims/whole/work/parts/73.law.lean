/-! the law's loop, call by call -/
abbrev zy_lv (P : zs_P) (i : Nat) : List (Nat × Value) := [(4, .int (nI i)), (3, .ref (zp_B P + 75)), (2, .ref (zp_B P + 67)), (1, .ref (zp_B P)), (0, .ref (zp_b P))]
/-- from here the law says yes, with at most n cells more -/
def zy_R (l : Launch) (P : zs_P) (pc i : Nat) (S : zs_S) (th : Int32) (o : Int64) (w : Nat × Nat) (n : Nat) : Prop :=
  ∃ σ' : zg_H, zg_sz σ' ≤ w.1 + n ∧ zg_us σ' ≤ w.2 + 6 * n ∧ zg_G l (zs_E P) 11 mL_law pc (zy_lv P i) [] (zs_σ P S th (zs_b S) o w) (.inl (some (.int (nI 1))), σ')
theorem zs_yS {P : zs_P} (U : State) (H : Heap) (h : zg_x (zs_E P) U H) : va_T .int (zp_b P) (zp_L P) (fun j => .int (zp_xs P j)) (fun q => zg_b (zs_E P) ≤ q) U H := h.2.2.2.1
theorem zy_cmp (x : Int64) : lg_cmp x x = 0 := by
  unfold lg_cmp
  simp
theorem zy_and (x : Int32) : ∃ m : Nat, m < 16 ∧ x &&& nI 15 = nI m := by
  refine ⟨(x &&& nI 15).toBitVec.toNat, ?_, ?_⟩
  · rw [Int32.toBitVec_and, BitVec.toNat_and]
    exact Nat.lt_of_le_of_lt Nat.and_le_right (by decide)
  · apply Int32.toBitVec_inj.mp
    show _ = BitVec.ofNat 32 (x &&& nI 15).toBitVec.toNat
    rw [BitVec.ofNat_toNat, BitVec.setWidth_eq]
abbrev zy_x (P : zs_P) (i : Nat) : Int64 := ((zp_xs P (i + 2)).toInt64 <<< ((nI 32).toInt64 &&& 63)) ||| ((zp_xs P (i + 3)).toInt64 &&& mz_L 4294967295)
section ZM23
variable {l : Launch} {P : zs_P} {S : zs_S} {th : Int32} {o : Int64} {w : Nat × Nat} {i n : Nat}
theorem zy_load (htr : l.stackTraces = false) (hI : zs_inv S) (hL : zp_L P < 2 ^ 30) (hi : i + 5 < zp_L P) (IH : ∀ (S' : zs_S) (th' : Int32) (o' : Int64) (w' : Nat × Nat), zs_inv S' → zy_R l P 1094 i S' th' o' w' n) : zy_R l P 116 i S th o w (n + 1) := by
  obtain ⟨c, S1, w1, v, hc, hI1, hw, hall⟩ := zj_load (P := P) (th := th) (w := w) htr hI (zp_xs P (i + 1)) (zy_x P i)
  obtain ⟨o1, hg, hC, hM⟩ := hall o
  cases (show v = none from hg)
  obtain ⟨σ2, hs1, hs2, hk⟩ := IH S1 (nI c) o1 w1 hI1
  refine ⟨σ2, by omega, by omega, ?_⟩
  refine zg_aload_n (zd_t dmL_law_0 25 rfl) rfl ?_
  refine zg_aload_n (zd_t dmL_law_0 26 rfl) rfl ?_
  refine zg_iload (zd_t dmL_law_0 27 rfl) rfl ?_
  refine zg_iconst (v := (nI 1)) (zd_t dmL_law_0 28 rfl) (by decide) ?_
  refine zg_iadd (zd_t dmL_law_0 29 rfl) ?_
  refine zg_ti (zd_t dmL_law_0 30 rfl) zs_yS (nI_add i 1) (by omega) (by omega) rfl ?_
  refine zg_aload_n (zd_t dmL_law_0 31 rfl) rfl ?_
  refine zg_iload (zd_t dmL_law_0 32 rfl) rfl ?_
  refine zg_iconst (v := (nI 2)) (zd_t dmL_law_0 33 rfl) (by decide) ?_
  refine zg_iadd (zd_t dmL_law_0 34 rfl) ?_
  refine zg_ti (zd_t dmL_law_0 35 rfl) zs_yS (nI_add i 2) (by omega) (by omega) rfl ?_
  refine zg_i2l (zd_t dmL_law_0 36 rfl) rfl ?_
  refine zg_bipush (v := (nI 32)) (zd_t dmL_law_0 37 rfl) (by decide) ?_
  refine zg_lshl (zd_t dmL_law_0 38 rfl) rfl ?_
  refine zg_aload_n (zd_t dmL_law_0 39 rfl) rfl ?_
  refine zg_iload (zd_t dmL_law_0 40 rfl) rfl ?_
  refine zg_iconst (v := (nI 3)) (zd_t dmL_law_0 41 rfl) (by decide) ?_
  refine zg_iadd (zd_t dmL_law_0 42 rfl) ?_
  refine zg_ti (zd_t dmL_law_0 43 rfl) zs_yS (nI_add i 3) (by omega) (by omega) rfl ?_
  refine zg_i2l (zd_t dmL_law_0 44 rfl) rfl ?_
  refine zg_ldc2 (zd_t dmL_law_0 45 rfl) zc_L_73 ?_
  refine zg_land (zd_t dmL_law_0 46 rfl) ?_
  refine zg_lor (zd_t dmL_law_0 47 rfl) ?_
  refine zg_callS (zd_t dmL_law_0 48 rfl) zl_L_75 zm_mL_load zst_mL_load (av := _) (rest := _) (by rfl) (by rfl) (by exact Nat.le_of_ble_eq_true rfl) hC ?_
  refine zg_istore (zd_t dmL_law_0 49 rfl) (by decide) rfl ?_
  refine zg_aload_n (zd_t dmL_law_1 0 rfl) rfl ?_
  refine zg_aload_n (zd_t dmL_law_1 1 rfl) rfl ?_
  refine zg_iload (zd_t dmL_law_1 2 rfl) rfl ?_
  refine zg_iconst (v := (nI 1)) (zd_t dmL_law_1 3 rfl) (by decide) ?_
  refine zg_iadd (zd_t dmL_law_1 4 rfl) ?_
  refine zg_ti (zd_t dmL_law_1 5 rfl) zs_yS (nI_add i 1) (by omega) (by omega) rfl ?_
  refine zg_aload_n (zd_t dmL_law_1 6 rfl) rfl ?_
  refine zg_iload (zd_t dmL_law_1 7 rfl) rfl ?_
  refine zg_iconst (v := (nI 2)) (zd_t dmL_law_1 8 rfl) (by decide) ?_
  refine zg_iadd (zd_t dmL_law_1 9 rfl) ?_
  refine zg_ti (zd_t dmL_law_1 10 rfl) zs_yS (nI_add i 2) (by omega) (by omega) rfl ?_
  refine zg_i2l (zd_t dmL_law_1 11 rfl) rfl ?_
  refine zg_bipush (v := (nI 32)) (zd_t dmL_law_1 12 rfl) (by decide) ?_
  refine zg_lshl (zd_t dmL_law_1 13 rfl) rfl ?_
  refine zg_aload_n (zd_t dmL_law_1 14 rfl) rfl ?_
  refine zg_iload (zd_t dmL_law_1 15 rfl) rfl ?_
  refine zg_iconst (v := (nI 3)) (zd_t dmL_law_1 16 rfl) (by decide) ?_
  refine zg_iadd (zd_t dmL_law_1 17 rfl) ?_
  refine zg_ti (zd_t dmL_law_1 18 rfl) zs_yS (nI_add i 3) (by omega) (by omega) rfl ?_
  refine zg_i2l (zd_t dmL_law_1 19 rfl) rfl ?_
  refine zg_ldc2 (zd_t dmL_law_1 20 rfl) zc_L_73 ?_
  refine zg_land (zd_t dmL_law_1 21 rfl) ?_
  refine zg_lor (zd_t dmL_law_1 22 rfl) ?_
  refine zg_callV (zd_t dmL_law_1 23 rfl) zl_L_80 zm_mM_load zi_mM_load zse_mM_load zs_m0 zs_cl3 rfl (av := _) (rest := _) (by rfl) (by rfl) (by exact Nat.le_of_ble_eq_true rfl) hM ?_
  refine zg_aload_n (zd_t dmL_law_1 24 rfl) rfl ?_
  refine zg_callV (zd_t dmL_law_1 25 rfl) zl_L_81 zm_mM_thrown zi_mM_thrown zse_mM_thrown zs_m0 zs_cl3 rfl (av := _) (rest := _) (by rfl) (by rfl) (by exact Nat.le_of_ble_eq_true rfl) (zm_thrown (d := 10)) ?_
  refine zg_iload (zd_t dmL_law_1 26 rfl) rfl ?_
  refine zg_icmp_eq (tgt := 193) (zd_t dmL_law_1 27 rfl) (by decide) (fun _ => ?_) (fun hq => absurd rfl hq)
  refine zg_goto (tgt := 1094) (zd_t dmL_law_1 30 rfl) (by decide) ?_
  exact zg_lv [1, 2, 3, 4, 5] rfl hk
theorem zy_binary (htr : l.stackTraces = false) (hI : zs_inv S) (hL : zp_L P < 2 ^ 30) (hi : i + 5 < zp_L P) (IH : ∀ (S' : zs_S) (th' : Int32) (o' : Int64) (w' : Nat × Nat), zs_inv S' → zy_R l P 1094 i S' th' o' w' n) : zy_R l P 196 i S th o w (n + 1) := by
  obtain ⟨c, S1, w1, v, hc, hI1, hw, hall⟩ := zj_binary (P := P) (th := th) (w := w) htr hI (zp_xs P (i + 1))
  obtain ⟨o1, hg, hC, hM⟩ := hall o
  obtain ⟨y, rfl, hy⟩ := hg
  obtain ⟨σ2, hs1, hs2, hk⟩ := IH S1 (nI c) o1 w1 hI1
  refine ⟨σ2, by omega, by omega, ?_⟩
  by_cases h0 : c = 0
  · skip
    refine zg_aload_n (zd_t dmL_law_1 31 rfl) rfl ?_
    refine zg_aload_n (zd_t dmL_law_1 32 rfl) rfl ?_
    refine zg_iload (zd_t dmL_law_1 33 rfl) rfl ?_
    refine zg_iconst (v := (nI 1)) (zd_t dmL_law_1 34 rfl) (by decide) ?_
    refine zg_iadd (zd_t dmL_law_1 35 rfl) ?_
    refine zg_ti (zd_t dmL_law_1 36 rfl) zs_yS (nI_add i 1) (by omega) (by omega) rfl ?_
    refine zg_aload_n (zd_t dmL_law_1 37 rfl) rfl ?_
    refine zg_callS (zd_t dmL_law_1 38 rfl) zl_L_85 zm_mL_binary zst_mL_binary (av := _) (rest := _) (by rfl) (by rfl) (by exact Nat.le_of_ble_eq_true rfl) hC ?_
    refine zg_istore (zd_t dmL_law_1 39 rfl) (by decide) rfl ?_
    refine zg_aload_n (zd_t dmL_law_1 40 rfl) rfl ?_
    refine zg_aload_n (zd_t dmL_law_1 41 rfl) rfl ?_
    refine zg_iload (zd_t dmL_law_1 42 rfl) rfl ?_
    refine zg_iconst (v := (nI 1)) (zd_t dmL_law_1 43 rfl) (by decide) ?_
    refine zg_iadd (zd_t dmL_law_1 44 rfl) ?_
    refine zg_ti (zd_t dmL_law_1 45 rfl) zs_yS (nI_add i 1) (by omega) (by omega) rfl ?_
    refine zg_callV (zd_t dmL_law_1 46 rfl) zl_L_88 zm_mM_binary zi_mM_binary zse_mM_binary zs_m0 zs_cl3 rfl (av := _) (rest := _) (by rfl) (by rfl) (by exact Nat.le_of_ble_eq_true rfl) hM ?_
    refine zg_lstore (zd_t dmL_law_1 47 rfl) (by decide) rfl ?_
    refine zg_aload_n (zd_t dmL_law_1 48 rfl) rfl ?_
    refine zg_callV (zd_t dmL_law_1 49 rfl) zl_L_81 zm_mM_thrown zi_mM_thrown zse_mM_thrown zs_m0 zs_cl3 rfl (av := _) (rest := _) (by rfl) (by rfl) (by exact Nat.le_of_ble_eq_true rfl) (zm_thrown (d := 10)) ?_
    refine zg_iload (zd_t dmL_law_2 0 rfl) rfl ?_
    refine zg_icmp_eq (tgt := 232) (zd_t dmL_law_2 1 rfl) (by decide) (fun _ => ?_) (fun hq => absurd rfl hq)
    refine zg_iload (zd_t dmL_law_2 4 rfl) rfl ?_
    refine zg_if_ne (tgt := 248) (zd_t dmL_law_2 5 rfl) (by decide) (fun hq => absurd (by rw [h0]; rfl) hq) (fun _ => ?_)
    refine zg_aload_n (zd_t dmL_law_2 6 rfl) rfl ?_
    refine zg_iconst (v := (nI 0)) (zd_t dmL_law_2 7 rfl) (by decide) ?_
    refine zg_lald (k := 0) (t0 := 1) (zd_t dmL_law_2 8 rfl) zs_m8 rfl rfl (by decide) (by decide) ?_
    rw [show (if (0 : Nat) = 0 then o1 else 0) = o1 from if_pos rfl]
    refine zg_lload (zd_t dmL_law_2 9 rfl) rfl ?_
    refine zg_lcmp (zd_t dmL_law_2 10 rfl) ?_
    refine zg_if_eq (tgt := 248) (zd_t dmL_law_2 11 rfl) (by decide) (fun _ => ?_) (fun hq => absurd (by rw [hy h0]; exact zy_cmp _) hq)
    refine zg_goto (tgt := 1094) (zd_t dmL_law_2 14 rfl) (by decide) ?_
    exact zg_lv [2, 3, 4, 5, 6] rfl hk
  · skip
    refine zg_aload_n (zd_t dmL_law_1 31 rfl) rfl ?_
    refine zg_aload_n (zd_t dmL_law_1 32 rfl) rfl ?_
    refine zg_iload (zd_t dmL_law_1 33 rfl) rfl ?_
    refine zg_iconst (v := (nI 1)) (zd_t dmL_law_1 34 rfl) (by decide) ?_
    refine zg_iadd (zd_t dmL_law_1 35 rfl) ?_
    refine zg_ti (zd_t dmL_law_1 36 rfl) zs_yS (nI_add i 1) (by omega) (by omega) rfl ?_
    refine zg_aload_n (zd_t dmL_law_1 37 rfl) rfl ?_
    refine zg_callS (zd_t dmL_law_1 38 rfl) zl_L_85 zm_mL_binary zst_mL_binary (av := _) (rest := _) (by rfl) (by rfl) (by exact Nat.le_of_ble_eq_true rfl) hC ?_
    refine zg_istore (zd_t dmL_law_1 39 rfl) (by decide) rfl ?_
    refine zg_aload_n (zd_t dmL_law_1 40 rfl) rfl ?_
    refine zg_aload_n (zd_t dmL_law_1 41 rfl) rfl ?_
    refine zg_iload (zd_t dmL_law_1 42 rfl) rfl ?_
    refine zg_iconst (v := (nI 1)) (zd_t dmL_law_1 43 rfl) (by decide) ?_
    refine zg_iadd (zd_t dmL_law_1 44 rfl) ?_
    refine zg_ti (zd_t dmL_law_1 45 rfl) zs_yS (nI_add i 1) (by omega) (by omega) rfl ?_
    refine zg_callV (zd_t dmL_law_1 46 rfl) zl_L_88 zm_mM_binary zi_mM_binary zse_mM_binary zs_m0 zs_cl3 rfl (av := _) (rest := _) (by rfl) (by rfl) (by exact Nat.le_of_ble_eq_true rfl) hM ?_
    refine zg_lstore (zd_t dmL_law_1 47 rfl) (by decide) rfl ?_
    refine zg_aload_n (zd_t dmL_law_1 48 rfl) rfl ?_
    refine zg_callV (zd_t dmL_law_1 49 rfl) zl_L_81 zm_mM_thrown zi_mM_thrown zse_mM_thrown zs_m0 zs_cl3 rfl (av := _) (rest := _) (by rfl) (by rfl) (by exact Nat.le_of_ble_eq_true rfl) (zm_thrown (d := 10)) ?_
    refine zg_iload (zd_t dmL_law_2 0 rfl) rfl ?_
    refine zg_icmp_eq (tgt := 232) (zd_t dmL_law_2 1 rfl) (by decide) (fun _ => ?_) (fun hq => absurd rfl hq)
    refine zg_iload (zd_t dmL_law_2 4 rfl) rfl ?_
    refine zg_if_ne (tgt := 248) (zd_t dmL_law_2 5 rfl) (by decide) (fun _ => ?_) (fun hq => absurd hq (nI_ne0 (by omega) (by omega)))
    refine zg_goto (tgt := 1094) (zd_t dmL_law_2 14 rfl) (by decide) ?_
    exact zg_lv [2, 3, 4, 5, 6] rfl hk
theorem zy_work (htr : l.stackTraces = false) (hI : zs_inv S) (hL : zp_L P < 2 ^ 30) (hi : i + 5 < zp_L P) (IH : ∀ (S' : zs_S) (th' : Int32) (o' : Int64) (w' : Nat × Nat), zs_inv S' → zy_R l P 1094 i S' th' o' w' n) : zy_R l P 251 i S th o w (n + 1) := by
  obtain ⟨c, S1, w1, v, hc, hI1, hw, hall⟩ := zj_work (P := P) (th := th) (w := w) htr hI (zp_xs P (i + 1)) (zp_xs P (i + 2)) (zp_xs P (i + 3)) (zp_xs P (i + 4))
  obtain ⟨o1, hg, hC, hM⟩ := hall o
  cases (show v = none from hg)
  obtain ⟨σ2, hs1, hs2, hk⟩ := IH S1 (nI c) o1 w1 hI1
  refine ⟨σ2, by omega, by omega, ?_⟩
  refine zg_aload_n (zd_t dmL_law_2 15 rfl) rfl ?_
  refine zg_aload_n (zd_t dmL_law_2 16 rfl) rfl ?_
  refine zg_iload (zd_t dmL_law_2 17 rfl) rfl ?_
  refine zg_iconst (v := (nI 1)) (zd_t dmL_law_2 18 rfl) (by decide) ?_
  refine zg_iadd (zd_t dmL_law_2 19 rfl) ?_
  refine zg_ti (zd_t dmL_law_2 20 rfl) zs_yS (nI_add i 1) (by omega) (by omega) rfl ?_
  refine zg_aload_n (zd_t dmL_law_2 21 rfl) rfl ?_
  refine zg_iload (zd_t dmL_law_2 22 rfl) rfl ?_
  refine zg_iconst (v := (nI 2)) (zd_t dmL_law_2 23 rfl) (by decide) ?_
  refine zg_iadd (zd_t dmL_law_2 24 rfl) ?_
  refine zg_ti (zd_t dmL_law_2 25 rfl) zs_yS (nI_add i 2) (by omega) (by omega) rfl ?_
  refine zg_aload_n (zd_t dmL_law_2 26 rfl) rfl ?_
  refine zg_iload (zd_t dmL_law_2 27 rfl) rfl ?_
  refine zg_iconst (v := (nI 3)) (zd_t dmL_law_2 28 rfl) (by decide) ?_
  refine zg_iadd (zd_t dmL_law_2 29 rfl) ?_
  refine zg_ti (zd_t dmL_law_2 30 rfl) zs_yS (nI_add i 3) (by omega) (by omega) rfl ?_
  refine zg_aload_n (zd_t dmL_law_2 31 rfl) rfl ?_
  refine zg_iload (zd_t dmL_law_2 32 rfl) rfl ?_
  refine zg_iconst (v := (nI 4)) (zd_t dmL_law_2 33 rfl) (by decide) ?_
  refine zg_iadd (zd_t dmL_law_2 34 rfl) ?_
  refine zg_ti (zd_t dmL_law_2 35 rfl) zs_yS (nI_add i 4) (by omega) (by omega) rfl ?_
  refine zg_callS (zd_t dmL_law_2 36 rfl) zl_L_89 zm_mL_work zst_mL_work (av := _) (rest := _) (by rfl) (by rfl) (by exact Nat.le_of_ble_eq_true rfl) hC ?_
  refine zg_istore (zd_t dmL_law_2 37 rfl) (by decide) rfl ?_
  refine zg_aload_n (zd_t dmL_law_2 38 rfl) rfl ?_
  refine zg_aload_n (zd_t dmL_law_2 39 rfl) rfl ?_
  refine zg_iload (zd_t dmL_law_2 40 rfl) rfl ?_
  refine zg_iconst (v := (nI 1)) (zd_t dmL_law_2 41 rfl) (by decide) ?_
  refine zg_iadd (zd_t dmL_law_2 42 rfl) ?_
  refine zg_ti (zd_t dmL_law_2 43 rfl) zs_yS (nI_add i 1) (by omega) (by omega) rfl ?_
  refine zg_aload_n (zd_t dmL_law_2 44 rfl) rfl ?_
  refine zg_iload (zd_t dmL_law_2 45 rfl) rfl ?_
  refine zg_iconst (v := (nI 2)) (zd_t dmL_law_2 46 rfl) (by decide) ?_
  refine zg_iadd (zd_t dmL_law_2 47 rfl) ?_
  refine zg_ti (zd_t dmL_law_2 48 rfl) zs_yS (nI_add i 2) (by omega) (by omega) rfl ?_
  refine zg_aload_n (zd_t dmL_law_2 49 rfl) rfl ?_
  refine zg_iload (zd_t dmL_law_3 0 rfl) rfl ?_
  refine zg_iconst (v := (nI 3)) (zd_t dmL_law_3 1 rfl) (by decide) ?_
  refine zg_iadd (zd_t dmL_law_3 2 rfl) ?_
  refine zg_ti (zd_t dmL_law_3 3 rfl) zs_yS (nI_add i 3) (by omega) (by omega) rfl ?_
  refine zg_aload_n (zd_t dmL_law_3 4 rfl) rfl ?_
  refine zg_iload (zd_t dmL_law_3 5 rfl) rfl ?_
  refine zg_iconst (v := (nI 4)) (zd_t dmL_law_3 6 rfl) (by decide) ?_
  refine zg_iadd (zd_t dmL_law_3 7 rfl) ?_
  refine zg_ti (zd_t dmL_law_3 8 rfl) zs_yS (nI_add i 4) (by omega) (by omega) rfl ?_
  refine zg_callV (zd_t dmL_law_3 9 rfl) zl_L_92 zm_mM_work zi_mM_work zse_mM_work zs_m0 zs_cl3 rfl (av := _) (rest := _) (by rfl) (by rfl) (by exact Nat.le_of_ble_eq_true rfl) hM ?_
  refine zg_aload_n (zd_t dmL_law_3 10 rfl) rfl ?_
  refine zg_callV (zd_t dmL_law_3 11 rfl) zl_L_81 zm_mM_thrown zi_mM_thrown zse_mM_thrown zs_m0 zs_cl3 rfl (av := _) (rest := _) (by rfl) (by rfl) (by exact Nat.le_of_ble_eq_true rfl) (zm_thrown (d := 10)) ?_
  refine zg_iload (zd_t dmL_law_3 12 rfl) rfl ?_
  refine zg_icmp_eq (tgt := 320) (zd_t dmL_law_3 13 rfl) (by decide) (fun _ => ?_) (fun hq => absurd rfl hq)
  refine zg_goto (tgt := 1094) (zd_t dmL_law_3 16 rfl) (by decide) ?_
  exact zg_lv [1, 2, 3, 4, 5] rfl hk
theorem zy_compare (htr : l.stackTraces = false) (hI : zs_inv S) (hL : zp_L P < 2 ^ 30) (hi : i + 5 < zp_L P) (IH : ∀ (S' : zs_S) (th' : Int32) (o' : Int64) (w' : Nat × Nat), zs_inv S' → zy_R l P 1094 i S' th' o' w' n) : zy_R l P 323 i S th o w (n + 1) := by
  obtain ⟨c, S1, w1, v, hc, hI1, hw, hall⟩ := zj_compare (P := P) (th := th) (w := w) htr hI (zp_xs P (i + 1)) (zp_xs P (i + 2))
  obtain ⟨o1, hg, hC, hM⟩ := hall o
  obtain ⟨y, rfl, hy⟩ := hg
  obtain ⟨σ2, hs1, hs2, hk⟩ := IH S1 (nI c) o1 w1 hI1
  refine ⟨σ2, by omega, by omega, ?_⟩
  by_cases h0 : c = 0
  · skip
    refine zg_aload_n (zd_t dmL_law_3 17 rfl) rfl ?_
    refine zg_aload_n (zd_t dmL_law_3 18 rfl) rfl ?_
    refine zg_iload (zd_t dmL_law_3 19 rfl) rfl ?_
    refine zg_iconst (v := (nI 1)) (zd_t dmL_law_3 20 rfl) (by decide) ?_
    refine zg_iadd (zd_t dmL_law_3 21 rfl) ?_
    refine zg_ti (zd_t dmL_law_3 22 rfl) zs_yS (nI_add i 1) (by omega) (by omega) rfl ?_
    refine zg_aload_n (zd_t dmL_law_3 23 rfl) rfl ?_
    refine zg_iload (zd_t dmL_law_3 24 rfl) rfl ?_
    refine zg_iconst (v := (nI 2)) (zd_t dmL_law_3 25 rfl) (by decide) ?_
    refine zg_iadd (zd_t dmL_law_3 26 rfl) ?_
    refine zg_ti (zd_t dmL_law_3 27 rfl) zs_yS (nI_add i 2) (by omega) (by omega) rfl ?_
    refine zg_aload_n (zd_t dmL_law_3 28 rfl) rfl ?_
    refine zg_callS (zd_t dmL_law_3 29 rfl) zl_L_93 zm_mL_compare zst_mL_compare (av := _) (rest := _) (by rfl) (by rfl) (by exact Nat.le_of_ble_eq_true rfl) hC ?_
    refine zg_istore (zd_t dmL_law_3 30 rfl) (by decide) rfl ?_
    refine zg_aload_n (zd_t dmL_law_3 31 rfl) rfl ?_
    refine zg_aload_n (zd_t dmL_law_3 32 rfl) rfl ?_
    refine zg_iload (zd_t dmL_law_3 33 rfl) rfl ?_
    refine zg_iconst (v := (nI 1)) (zd_t dmL_law_3 34 rfl) (by decide) ?_
    refine zg_iadd (zd_t dmL_law_3 35 rfl) ?_
    refine zg_ti (zd_t dmL_law_3 36 rfl) zs_yS (nI_add i 1) (by omega) (by omega) rfl ?_
    refine zg_aload_n (zd_t dmL_law_3 37 rfl) rfl ?_
    refine zg_iload (zd_t dmL_law_3 38 rfl) rfl ?_
    refine zg_iconst (v := (nI 2)) (zd_t dmL_law_3 39 rfl) (by decide) ?_
    refine zg_iadd (zd_t dmL_law_3 40 rfl) ?_
    refine zg_ti (zd_t dmL_law_3 41 rfl) zs_yS (nI_add i 2) (by omega) (by omega) rfl ?_
    refine zg_callV (zd_t dmL_law_3 42 rfl) zl_L_96 zm_mM_compare zi_mM_compare zse_mM_compare zs_m0 zs_cl3 rfl (av := _) (rest := _) (by rfl) (by rfl) (by exact Nat.le_of_ble_eq_true rfl) hM ?_
    refine zg_istore (zd_t dmL_law_3 43 rfl) (by decide) rfl ?_
    refine zg_aload_n (zd_t dmL_law_3 44 rfl) rfl ?_
    refine zg_callV (zd_t dmL_law_3 45 rfl) zl_L_81 zm_mM_thrown zi_mM_thrown zse_mM_thrown zs_m0 zs_cl3 rfl (av := _) (rest := _) (by rfl) (by rfl) (by exact Nat.le_of_ble_eq_true rfl) (zm_thrown (d := 10)) ?_
    refine zg_iload (zd_t dmL_law_3 46 rfl) rfl ?_
    refine zg_icmp_eq (tgt := 371) (zd_t dmL_law_3 47 rfl) (by decide) (fun _ => ?_) (fun hq => absurd rfl hq)
    refine zg_iload (zd_t dmL_law_4 0 rfl) rfl ?_
    refine zg_if_ne (tgt := 388) (zd_t dmL_law_4 1 rfl) (by decide) (fun hq => absurd (by rw [h0]; rfl) hq) (fun _ => ?_)
    refine zg_aload_n (zd_t dmL_law_4 2 rfl) rfl ?_
    refine zg_iconst (v := (nI 0)) (zd_t dmL_law_4 3 rfl) (by decide) ?_
    refine zg_lald (k := 0) (t0 := 1) (zd_t dmL_law_4 4 rfl) zs_m8 rfl rfl (by decide) (by decide) ?_
    rw [show (if (0 : Nat) = 0 then o1 else 0) = o1 from if_pos rfl]
    refine zg_iload (zd_t dmL_law_4 5 rfl) rfl ?_
    refine zg_i2l (zd_t dmL_law_4 6 rfl) rfl ?_
    refine zg_lcmp (zd_t dmL_law_4 7 rfl) ?_
    refine zg_if_eq (tgt := 388) (zd_t dmL_law_4 8 rfl) (by decide) (fun _ => ?_) (fun hq => absurd (by rw [hy h0]; exact zy_cmp _) hq)
    refine zg_goto (tgt := 1094) (zd_t dmL_law_4 11 rfl) (by decide) ?_
    exact zg_lv [2, 3, 4, 5, 6] rfl hk
  · skip
    refine zg_aload_n (zd_t dmL_law_3 17 rfl) rfl ?_
    refine zg_aload_n (zd_t dmL_law_3 18 rfl) rfl ?_
    refine zg_iload (zd_t dmL_law_3 19 rfl) rfl ?_
    refine zg_iconst (v := (nI 1)) (zd_t dmL_law_3 20 rfl) (by decide) ?_
    refine zg_iadd (zd_t dmL_law_3 21 rfl) ?_
    refine zg_ti (zd_t dmL_law_3 22 rfl) zs_yS (nI_add i 1) (by omega) (by omega) rfl ?_
    refine zg_aload_n (zd_t dmL_law_3 23 rfl) rfl ?_
    refine zg_iload (zd_t dmL_law_3 24 rfl) rfl ?_
    refine zg_iconst (v := (nI 2)) (zd_t dmL_law_3 25 rfl) (by decide) ?_
    refine zg_iadd (zd_t dmL_law_3 26 rfl) ?_
    refine zg_ti (zd_t dmL_law_3 27 rfl) zs_yS (nI_add i 2) (by omega) (by omega) rfl ?_
    refine zg_aload_n (zd_t dmL_law_3 28 rfl) rfl ?_
    refine zg_callS (zd_t dmL_law_3 29 rfl) zl_L_93 zm_mL_compare zst_mL_compare (av := _) (rest := _) (by rfl) (by rfl) (by exact Nat.le_of_ble_eq_true rfl) hC ?_
    refine zg_istore (zd_t dmL_law_3 30 rfl) (by decide) rfl ?_
    refine zg_aload_n (zd_t dmL_law_3 31 rfl) rfl ?_
    refine zg_aload_n (zd_t dmL_law_3 32 rfl) rfl ?_
    refine zg_iload (zd_t dmL_law_3 33 rfl) rfl ?_
    refine zg_iconst (v := (nI 1)) (zd_t dmL_law_3 34 rfl) (by decide) ?_
    refine zg_iadd (zd_t dmL_law_3 35 rfl) ?_
    refine zg_ti (zd_t dmL_law_3 36 rfl) zs_yS (nI_add i 1) (by omega) (by omega) rfl ?_
    refine zg_aload_n (zd_t dmL_law_3 37 rfl) rfl ?_
    refine zg_iload (zd_t dmL_law_3 38 rfl) rfl ?_
    refine zg_iconst (v := (nI 2)) (zd_t dmL_law_3 39 rfl) (by decide) ?_
    refine zg_iadd (zd_t dmL_law_3 40 rfl) ?_
    refine zg_ti (zd_t dmL_law_3 41 rfl) zs_yS (nI_add i 2) (by omega) (by omega) rfl ?_
    refine zg_callV (zd_t dmL_law_3 42 rfl) zl_L_96 zm_mM_compare zi_mM_compare zse_mM_compare zs_m0 zs_cl3 rfl (av := _) (rest := _) (by rfl) (by rfl) (by exact Nat.le_of_ble_eq_true rfl) hM ?_
    refine zg_istore (zd_t dmL_law_3 43 rfl) (by decide) rfl ?_
    refine zg_aload_n (zd_t dmL_law_3 44 rfl) rfl ?_
    refine zg_callV (zd_t dmL_law_3 45 rfl) zl_L_81 zm_mM_thrown zi_mM_thrown zse_mM_thrown zs_m0 zs_cl3 rfl (av := _) (rest := _) (by rfl) (by rfl) (by exact Nat.le_of_ble_eq_true rfl) (zm_thrown (d := 10)) ?_
    refine zg_iload (zd_t dmL_law_3 46 rfl) rfl ?_
    refine zg_icmp_eq (tgt := 371) (zd_t dmL_law_3 47 rfl) (by decide) (fun _ => ?_) (fun hq => absurd rfl hq)
    refine zg_iload (zd_t dmL_law_4 0 rfl) rfl ?_
    refine zg_if_ne (tgt := 388) (zd_t dmL_law_4 1 rfl) (by decide) (fun _ => ?_) (fun hq => absurd hq (nI_ne0 (by omega) (by omega)))
    refine zg_goto (tgt := 1094) (zd_t dmL_law_4 11 rfl) (by decide) ?_
    exact zg_lv [2, 3, 4, 5, 6] rfl hk
theorem zy_scale (htr : l.stackTraces = false) (hI : zs_inv S) (hL : zp_L P < 2 ^ 30) (hi : i + 5 < zp_L P) (IH : ∀ (S' : zs_S) (th' : Int32) (o' : Int64) (w' : Nat × Nat), zs_inv S' → zy_R l P 1094 i S' th' o' w' n) : zy_R l P 391 i S th o w (n + 1) := by
  obtain ⟨bz, hbz⟩ : ∃ bz : Bool, bz = decide ((zp_xs P (i + 4)) ≠ 0) := ⟨_, rfl⟩
  obtain ⟨c, S1, w1, v, hc, hI1, hw, hall⟩ := zj_scale (P := P) (th := th) (w := w) htr hI (zp_xs P (i + 1)) (zp_xs P (i + 2)) (zp_xs P (i + 3)) bz
  obtain ⟨o1, hg, hC, hM⟩ := hall o
  cases (show v = none from hg)
  obtain ⟨σ2, hs1, hs2, hk⟩ := IH S1 (nI c) o1 w1 hI1
  refine ⟨σ2, by omega, by omega, ?_⟩
  cases bz with
  | true =>
    refine zg_aload_n (zd_t dmL_law_4 12 rfl) rfl ?_
    refine zg_aload_n (zd_t dmL_law_4 13 rfl) rfl ?_
    refine zg_iload (zd_t dmL_law_4 14 rfl) rfl ?_
    refine zg_iconst (v := (nI 1)) (zd_t dmL_law_4 15 rfl) (by decide) ?_
    refine zg_iadd (zd_t dmL_law_4 16 rfl) ?_
    refine zg_ti (zd_t dmL_law_4 17 rfl) zs_yS (nI_add i 1) (by omega) (by omega) rfl ?_
    refine zg_aload_n (zd_t dmL_law_4 18 rfl) rfl ?_
    refine zg_iload (zd_t dmL_law_4 19 rfl) rfl ?_
    refine zg_iconst (v := (nI 2)) (zd_t dmL_law_4 20 rfl) (by decide) ?_
    refine zg_iadd (zd_t dmL_law_4 21 rfl) ?_
    refine zg_ti (zd_t dmL_law_4 22 rfl) zs_yS (nI_add i 2) (by omega) (by omega) rfl ?_
    refine zg_aload_n (zd_t dmL_law_4 23 rfl) rfl ?_
    refine zg_iload (zd_t dmL_law_4 24 rfl) rfl ?_
    refine zg_iconst (v := (nI 3)) (zd_t dmL_law_4 25 rfl) (by decide) ?_
    refine zg_iadd (zd_t dmL_law_4 26 rfl) ?_
    refine zg_ti (zd_t dmL_law_4 27 rfl) zs_yS (nI_add i 3) (by omega) (by omega) rfl ?_
    refine zg_aload_n (zd_t dmL_law_4 28 rfl) rfl ?_
    refine zg_iload (zd_t dmL_law_4 29 rfl) rfl ?_
    refine zg_iconst (v := (nI 4)) (zd_t dmL_law_4 30 rfl) (by decide) ?_
    refine zg_iadd (zd_t dmL_law_4 31 rfl) ?_
    refine zg_ti (zd_t dmL_law_4 32 rfl) zs_yS (nI_add i 4) (by omega) (by omega) rfl ?_
    refine zg_if_eq (tgt := 423) (zd_t dmL_law_4 33 rfl) (by decide) (fun hq => absurd hq (by have := of_decide_eq_true hbz.symm; exact this)) (fun _ => ?_)
    refine zg_iconst (v := (nI 1)) (zd_t dmL_law_4 34 rfl) (by decide) ?_
    refine zg_goto (tgt := 424) (zd_t dmL_law_4 35 rfl) (by decide) ?_
    refine zg_callS (zd_t dmL_law_4 37 rfl) zl_L_97 zm_mL_scale zst_mL_scale (av := _) (rest := _) (by rfl) (by rfl) (by exact Nat.le_of_ble_eq_true rfl) hC ?_
    refine zg_istore (zd_t dmL_law_4 38 rfl) (by decide) rfl ?_
    refine zg_aload_n (zd_t dmL_law_4 39 rfl) rfl ?_
    refine zg_aload_n (zd_t dmL_law_4 40 rfl) rfl ?_
    refine zg_iload (zd_t dmL_law_4 41 rfl) rfl ?_
    refine zg_iconst (v := (nI 1)) (zd_t dmL_law_4 42 rfl) (by decide) ?_
    refine zg_iadd (zd_t dmL_law_4 43 rfl) ?_
    refine zg_ti (zd_t dmL_law_4 44 rfl) zs_yS (nI_add i 1) (by omega) (by omega) rfl ?_
    refine zg_aload_n (zd_t dmL_law_4 45 rfl) rfl ?_
    refine zg_iload (zd_t dmL_law_4 46 rfl) rfl ?_
    refine zg_iconst (v := (nI 2)) (zd_t dmL_law_4 47 rfl) (by decide) ?_
    refine zg_iadd (zd_t dmL_law_4 48 rfl) ?_
    refine zg_ti (zd_t dmL_law_4 49 rfl) zs_yS (nI_add i 2) (by omega) (by omega) rfl ?_
    refine zg_aload_n (zd_t dmL_law_5 0 rfl) rfl ?_
    refine zg_iload (zd_t dmL_law_5 1 rfl) rfl ?_
    refine zg_iconst (v := (nI 3)) (zd_t dmL_law_5 2 rfl) (by decide) ?_
    refine zg_iadd (zd_t dmL_law_5 3 rfl) ?_
    refine zg_ti (zd_t dmL_law_5 4 rfl) zs_yS (nI_add i 3) (by omega) (by omega) rfl ?_
    refine zg_aload_n (zd_t dmL_law_5 5 rfl) rfl ?_
    refine zg_iload (zd_t dmL_law_5 6 rfl) rfl ?_
    refine zg_iconst (v := (nI 4)) (zd_t dmL_law_5 7 rfl) (by decide) ?_
    refine zg_iadd (zd_t dmL_law_5 8 rfl) ?_
    refine zg_ti (zd_t dmL_law_5 9 rfl) zs_yS (nI_add i 4) (by omega) (by omega) rfl ?_
    refine zg_if_eq (tgt := 461) (zd_t dmL_law_5 10 rfl) (by decide) (fun hq => absurd hq (by have := of_decide_eq_true hbz.symm; exact this)) (fun _ => ?_)
    refine zg_iconst (v := (nI 1)) (zd_t dmL_law_5 11 rfl) (by decide) ?_
    refine zg_goto (tgt := 462) (zd_t dmL_law_5 12 rfl) (by decide) ?_
    refine zg_callV (zd_t dmL_law_5 14 rfl) zl_L_100 zm_mM_scale zi_mM_scale zse_mM_scale zs_m0 zs_cl3 rfl (av := _) (rest := _) (by rfl) (by rfl) (by exact Nat.le_of_ble_eq_true rfl) hM ?_
    refine zg_aload_n (zd_t dmL_law_5 15 rfl) rfl ?_
    refine zg_callV (zd_t dmL_law_5 16 rfl) zl_L_81 zm_mM_thrown zi_mM_thrown zse_mM_thrown zs_m0 zs_cl3 rfl (av := _) (rest := _) (by rfl) (by rfl) (by exact Nat.le_of_ble_eq_true rfl) (zm_thrown (d := 10)) ?_
    refine zg_iload (zd_t dmL_law_5 17 rfl) rfl ?_
    refine zg_icmp_eq (tgt := 476) (zd_t dmL_law_5 18 rfl) (by decide) (fun _ => ?_) (fun hq => absurd rfl hq)
    refine zg_goto (tgt := 1094) (zd_t dmL_law_5 21 rfl) (by decide) ?_
    exact zg_lv [1, 2, 3, 4, 5] rfl hk
  | false =>
    refine zg_aload_n (zd_t dmL_law_4 12 rfl) rfl ?_
    refine zg_aload_n (zd_t dmL_law_4 13 rfl) rfl ?_
    refine zg_iload (zd_t dmL_law_4 14 rfl) rfl ?_
    refine zg_iconst (v := (nI 1)) (zd_t dmL_law_4 15 rfl) (by decide) ?_
    refine zg_iadd (zd_t dmL_law_4 16 rfl) ?_
    refine zg_ti (zd_t dmL_law_4 17 rfl) zs_yS (nI_add i 1) (by omega) (by omega) rfl ?_
    refine zg_aload_n (zd_t dmL_law_4 18 rfl) rfl ?_
    refine zg_iload (zd_t dmL_law_4 19 rfl) rfl ?_
    refine zg_iconst (v := (nI 2)) (zd_t dmL_law_4 20 rfl) (by decide) ?_
    refine zg_iadd (zd_t dmL_law_4 21 rfl) ?_
    refine zg_ti (zd_t dmL_law_4 22 rfl) zs_yS (nI_add i 2) (by omega) (by omega) rfl ?_
    refine zg_aload_n (zd_t dmL_law_4 23 rfl) rfl ?_
    refine zg_iload (zd_t dmL_law_4 24 rfl) rfl ?_
    refine zg_iconst (v := (nI 3)) (zd_t dmL_law_4 25 rfl) (by decide) ?_
    refine zg_iadd (zd_t dmL_law_4 26 rfl) ?_
    refine zg_ti (zd_t dmL_law_4 27 rfl) zs_yS (nI_add i 3) (by omega) (by omega) rfl ?_
    refine zg_aload_n (zd_t dmL_law_4 28 rfl) rfl ?_
    refine zg_iload (zd_t dmL_law_4 29 rfl) rfl ?_
    refine zg_iconst (v := (nI 4)) (zd_t dmL_law_4 30 rfl) (by decide) ?_
    refine zg_iadd (zd_t dmL_law_4 31 rfl) ?_
    refine zg_ti (zd_t dmL_law_4 32 rfl) zs_yS (nI_add i 4) (by omega) (by omega) rfl ?_
    refine zg_if_eq (tgt := 423) (zd_t dmL_law_4 33 rfl) (by decide) (fun _ => ?_) (fun hq => absurd (by have := of_decide_eq_false hbz.symm; exact Classical.byContradiction this) hq)
    refine zg_iconst (v := (nI 0)) (zd_t dmL_law_4 36 rfl) (by decide) ?_
    refine zg_callS (zd_t dmL_law_4 37 rfl) zl_L_97 zm_mL_scale zst_mL_scale (av := _) (rest := _) (by rfl) (by rfl) (by exact Nat.le_of_ble_eq_true rfl) hC ?_
    refine zg_istore (zd_t dmL_law_4 38 rfl) (by decide) rfl ?_
    refine zg_aload_n (zd_t dmL_law_4 39 rfl) rfl ?_
    refine zg_aload_n (zd_t dmL_law_4 40 rfl) rfl ?_
    refine zg_iload (zd_t dmL_law_4 41 rfl) rfl ?_
    refine zg_iconst (v := (nI 1)) (zd_t dmL_law_4 42 rfl) (by decide) ?_
    refine zg_iadd (zd_t dmL_law_4 43 rfl) ?_
    refine zg_ti (zd_t dmL_law_4 44 rfl) zs_yS (nI_add i 1) (by omega) (by omega) rfl ?_
    refine zg_aload_n (zd_t dmL_law_4 45 rfl) rfl ?_
    refine zg_iload (zd_t dmL_law_4 46 rfl) rfl ?_
    refine zg_iconst (v := (nI 2)) (zd_t dmL_law_4 47 rfl) (by decide) ?_
    refine zg_iadd (zd_t dmL_law_4 48 rfl) ?_
    refine zg_ti (zd_t dmL_law_4 49 rfl) zs_yS (nI_add i 2) (by omega) (by omega) rfl ?_
    refine zg_aload_n (zd_t dmL_law_5 0 rfl) rfl ?_
    refine zg_iload (zd_t dmL_law_5 1 rfl) rfl ?_
    refine zg_iconst (v := (nI 3)) (zd_t dmL_law_5 2 rfl) (by decide) ?_
    refine zg_iadd (zd_t dmL_law_5 3 rfl) ?_
    refine zg_ti (zd_t dmL_law_5 4 rfl) zs_yS (nI_add i 3) (by omega) (by omega) rfl ?_
    refine zg_aload_n (zd_t dmL_law_5 5 rfl) rfl ?_
    refine zg_iload (zd_t dmL_law_5 6 rfl) rfl ?_
    refine zg_iconst (v := (nI 4)) (zd_t dmL_law_5 7 rfl) (by decide) ?_
    refine zg_iadd (zd_t dmL_law_5 8 rfl) ?_
    refine zg_ti (zd_t dmL_law_5 9 rfl) zs_yS (nI_add i 4) (by omega) (by omega) rfl ?_
    refine zg_if_eq (tgt := 461) (zd_t dmL_law_5 10 rfl) (by decide) (fun _ => ?_) (fun hq => absurd (by have := of_decide_eq_false hbz.symm; exact Classical.byContradiction this) hq)
    refine zg_iconst (v := (nI 0)) (zd_t dmL_law_5 13 rfl) (by decide) ?_
    refine zg_callV (zd_t dmL_law_5 14 rfl) zl_L_100 zm_mM_scale zi_mM_scale zse_mM_scale zs_m0 zs_cl3 rfl (av := _) (rest := _) (by rfl) (by rfl) (by exact Nat.le_of_ble_eq_true rfl) hM ?_
    refine zg_aload_n (zd_t dmL_law_5 15 rfl) rfl ?_
    refine zg_callV (zd_t dmL_law_5 16 rfl) zl_L_81 zm_mM_thrown zi_mM_thrown zse_mM_thrown zs_m0 zs_cl3 rfl (av := _) (rest := _) (by rfl) (by rfl) (by exact Nat.le_of_ble_eq_true rfl) (zm_thrown (d := 10)) ?_
    refine zg_iload (zd_t dmL_law_5 17 rfl) rfl ?_
    refine zg_icmp_eq (tgt := 476) (zd_t dmL_law_5 18 rfl) (by decide) (fun _ => ?_) (fun hq => absurd rfl hq)
    refine zg_goto (tgt := 1094) (zd_t dmL_law_5 21 rfl) (by decide) ?_
    exact zg_lv [1, 2, 3, 4, 5] rfl hk
theorem zy_divide (htr : l.stackTraces = false) (hI : zs_inv S) (hL : zp_L P < 2 ^ 30) (hi : i + 5 < zp_L P) (IH : ∀ (S' : zs_S) (th' : Int32) (o' : Int64) (w' : Nat × Nat), zs_inv S' → zy_R l P 1094 i S' th' o' w' n) : zy_R l P 479 i S th o w (n + 1) := by
  obtain ⟨c, S1, w1, v, hc, hI1, hw, hall⟩ := zj_divide (P := P) (th := th) (w := w) htr hI (zp_xs P (i + 1)) (zp_xs P (i + 2)) (zp_xs P (i + 3)) (zp_xs P (i + 4))
  obtain ⟨o1, hg, hC, hM⟩ := hall o
  cases (show v = none from hg)
  obtain ⟨σ2, hs1, hs2, hk⟩ := IH S1 (nI c) o1 w1 hI1
  refine ⟨σ2, by omega, by omega, ?_⟩
  refine zg_aload_n (zd_t dmL_law_5 22 rfl) rfl ?_
  refine zg_aload_n (zd_t dmL_law_5 23 rfl) rfl ?_
  refine zg_iload (zd_t dmL_law_5 24 rfl) rfl ?_
  refine zg_iconst (v := (nI 1)) (zd_t dmL_law_5 25 rfl) (by decide) ?_
  refine zg_iadd (zd_t dmL_law_5 26 rfl) ?_
  refine zg_ti (zd_t dmL_law_5 27 rfl) zs_yS (nI_add i 1) (by omega) (by omega) rfl ?_
  refine zg_aload_n (zd_t dmL_law_5 28 rfl) rfl ?_
  refine zg_iload (zd_t dmL_law_5 29 rfl) rfl ?_
  refine zg_iconst (v := (nI 2)) (zd_t dmL_law_5 30 rfl) (by decide) ?_
  refine zg_iadd (zd_t dmL_law_5 31 rfl) ?_
  refine zg_ti (zd_t dmL_law_5 32 rfl) zs_yS (nI_add i 2) (by omega) (by omega) rfl ?_
  refine zg_aload_n (zd_t dmL_law_5 33 rfl) rfl ?_
  refine zg_iload (zd_t dmL_law_5 34 rfl) rfl ?_
  refine zg_iconst (v := (nI 3)) (zd_t dmL_law_5 35 rfl) (by decide) ?_
  refine zg_iadd (zd_t dmL_law_5 36 rfl) ?_
  refine zg_ti (zd_t dmL_law_5 37 rfl) zs_yS (nI_add i 3) (by omega) (by omega) rfl ?_
  refine zg_aload_n (zd_t dmL_law_5 38 rfl) rfl ?_
  refine zg_iload (zd_t dmL_law_5 39 rfl) rfl ?_
  refine zg_iconst (v := (nI 4)) (zd_t dmL_law_5 40 rfl) (by decide) ?_
  refine zg_iadd (zd_t dmL_law_5 41 rfl) ?_
  refine zg_ti (zd_t dmL_law_5 42 rfl) zs_yS (nI_add i 4) (by omega) (by omega) rfl ?_
  refine zg_callS (zd_t dmL_law_5 43 rfl) zl_L_101 zm_mL_divide zst_mL_divide (av := _) (rest := _) (by rfl) (by rfl) (by exact Nat.le_of_ble_eq_true rfl) hC ?_
  refine zg_istore (zd_t dmL_law_5 44 rfl) (by decide) rfl ?_
  refine zg_aload_n (zd_t dmL_law_5 45 rfl) rfl ?_
  refine zg_aload_n (zd_t dmL_law_5 46 rfl) rfl ?_
  refine zg_iload (zd_t dmL_law_5 47 rfl) rfl ?_
  refine zg_iconst (v := (nI 1)) (zd_t dmL_law_5 48 rfl) (by decide) ?_
  refine zg_iadd (zd_t dmL_law_5 49 rfl) ?_
  refine zg_ti (zd_t dmL_law_6 0 rfl) zs_yS (nI_add i 1) (by omega) (by omega) rfl ?_
  refine zg_aload_n (zd_t dmL_law_6 1 rfl) rfl ?_
  refine zg_iload (zd_t dmL_law_6 2 rfl) rfl ?_
  refine zg_iconst (v := (nI 2)) (zd_t dmL_law_6 3 rfl) (by decide) ?_
  refine zg_iadd (zd_t dmL_law_6 4 rfl) ?_
  refine zg_ti (zd_t dmL_law_6 5 rfl) zs_yS (nI_add i 2) (by omega) (by omega) rfl ?_
  refine zg_aload_n (zd_t dmL_law_6 6 rfl) rfl ?_
  refine zg_iload (zd_t dmL_law_6 7 rfl) rfl ?_
  refine zg_iconst (v := (nI 3)) (zd_t dmL_law_6 8 rfl) (by decide) ?_
  refine zg_iadd (zd_t dmL_law_6 9 rfl) ?_
  refine zg_ti (zd_t dmL_law_6 10 rfl) zs_yS (nI_add i 3) (by omega) (by omega) rfl ?_
  refine zg_aload_n (zd_t dmL_law_6 11 rfl) rfl ?_
  refine zg_iload (zd_t dmL_law_6 12 rfl) rfl ?_
  refine zg_iconst (v := (nI 4)) (zd_t dmL_law_6 13 rfl) (by decide) ?_
  refine zg_iadd (zd_t dmL_law_6 14 rfl) ?_
  refine zg_ti (zd_t dmL_law_6 15 rfl) zs_yS (nI_add i 4) (by omega) (by omega) rfl ?_
  refine zg_callV (zd_t dmL_law_6 16 rfl) zl_L_103 zm_mM_divide zi_mM_divide zse_mM_divide zs_m0 zs_cl3 rfl (av := _) (rest := _) (by rfl) (by rfl) (by exact Nat.le_of_ble_eq_true rfl) hM ?_
  refine zg_aload_n (zd_t dmL_law_6 17 rfl) rfl ?_
  refine zg_callV (zd_t dmL_law_6 18 rfl) zl_L_81 zm_mM_thrown zi_mM_thrown zse_mM_thrown zs_m0 zs_cl3 rfl (av := _) (rest := _) (by rfl) (by rfl) (by exact Nat.le_of_ble_eq_true rfl) (zm_thrown (d := 10)) ?_
  refine zg_iload (zd_t dmL_law_6 19 rfl) rfl ?_
  refine zg_icmp_eq (tgt := 548) (zd_t dmL_law_6 20 rfl) (by decide) (fun _ => ?_) (fun hq => absurd rfl hq)
  refine zg_goto (tgt := 1094) (zd_t dmL_law_6 23 rfl) (by decide) ?_
  exact zg_lv [1, 2, 3, 4, 5] rfl hk
theorem zy_channel (htr : l.stackTraces = false) (hI : zs_inv S) (hL : zp_L P < 2 ^ 30) (hi : i + 5 < zp_L P) (IH : ∀ (S' : zs_S) (th' : Int32) (o' : Int64) (w' : Nat × Nat), zs_inv S' → zy_R l P 1094 i S' th' o' w' n) : zy_R l P 551 i S th o w (n + 1) := by
  obtain ⟨c, S1, w1, v, hc, hI1, hw, hall⟩ := zj_channel (P := P) (th := th) (w := w) htr hI (zp_xs P (i + 1)) (zp_xs P (i + 2))
  obtain ⟨o1, hg, hC, hM⟩ := hall o
  obtain ⟨y, rfl, hy⟩ := hg
  obtain ⟨σ2, hs1, hs2, hk⟩ := IH S1 (nI c) o1 w1 hI1
  refine ⟨σ2, by omega, by omega, ?_⟩
  by_cases h0 : c = 0
  · skip
    refine zg_aload_n (zd_t dmL_law_6 24 rfl) rfl ?_
    refine zg_aload_n (zd_t dmL_law_6 25 rfl) rfl ?_
    refine zg_iload (zd_t dmL_law_6 26 rfl) rfl ?_
    refine zg_iconst (v := (nI 1)) (zd_t dmL_law_6 27 rfl) (by decide) ?_
    refine zg_iadd (zd_t dmL_law_6 28 rfl) ?_
    refine zg_ti (zd_t dmL_law_6 29 rfl) zs_yS (nI_add i 1) (by omega) (by omega) rfl ?_
    refine zg_aload_n (zd_t dmL_law_6 30 rfl) rfl ?_
    refine zg_iload (zd_t dmL_law_6 31 rfl) rfl ?_
    refine zg_iconst (v := (nI 2)) (zd_t dmL_law_6 32 rfl) (by decide) ?_
    refine zg_iadd (zd_t dmL_law_6 33 rfl) ?_
    refine zg_ti (zd_t dmL_law_6 34 rfl) zs_yS (nI_add i 2) (by omega) (by omega) rfl ?_
    refine zg_aload_n (zd_t dmL_law_6 35 rfl) rfl ?_
    refine zg_callS (zd_t dmL_law_6 36 rfl) zl_L_104 zm_mL_channel zst_mL_channel (av := _) (rest := _) (by rfl) (by rfl) (by exact Nat.le_of_ble_eq_true rfl) hC ?_
    refine zg_istore (zd_t dmL_law_6 37 rfl) (by decide) rfl ?_
    refine zg_aload_n (zd_t dmL_law_6 38 rfl) rfl ?_
    refine zg_aload_n (zd_t dmL_law_6 39 rfl) rfl ?_
    refine zg_iload (zd_t dmL_law_6 40 rfl) rfl ?_
    refine zg_iconst (v := (nI 1)) (zd_t dmL_law_6 41 rfl) (by decide) ?_
    refine zg_iadd (zd_t dmL_law_6 42 rfl) ?_
    refine zg_ti (zd_t dmL_law_6 43 rfl) zs_yS (nI_add i 1) (by omega) (by omega) rfl ?_
    refine zg_aload_n (zd_t dmL_law_6 44 rfl) rfl ?_
    refine zg_iload (zd_t dmL_law_6 45 rfl) rfl ?_
    refine zg_iconst (v := (nI 2)) (zd_t dmL_law_6 46 rfl) (by decide) ?_
    refine zg_iadd (zd_t dmL_law_6 47 rfl) ?_
    refine zg_ti (zd_t dmL_law_6 48 rfl) zs_yS (nI_add i 2) (by omega) (by omega) rfl ?_
    refine zg_callV (zd_t dmL_law_6 49 rfl) zl_L_106 zm_mM_channel zi_mM_channel zse_mM_channel zs_m0 zs_cl3 rfl (av := _) (rest := _) (by rfl) (by rfl) (by exact Nat.le_of_ble_eq_true rfl) hM ?_
    refine zg_istore (zd_t dmL_law_7 0 rfl) (by decide) rfl ?_
    refine zg_aload_n (zd_t dmL_law_7 1 rfl) rfl ?_
    refine zg_callV (zd_t dmL_law_7 2 rfl) zl_L_81 zm_mM_thrown zi_mM_thrown zse_mM_thrown zs_m0 zs_cl3 rfl (av := _) (rest := _) (by rfl) (by rfl) (by exact Nat.le_of_ble_eq_true rfl) (zm_thrown (d := 10)) ?_
    refine zg_iload (zd_t dmL_law_7 3 rfl) rfl ?_
    refine zg_icmp_eq (tgt := 599) (zd_t dmL_law_7 4 rfl) (by decide) (fun _ => ?_) (fun hq => absurd rfl hq)
    refine zg_iload (zd_t dmL_law_7 7 rfl) rfl ?_
    refine zg_if_ne (tgt := 616) (zd_t dmL_law_7 8 rfl) (by decide) (fun hq => absurd (by rw [h0]; rfl) hq) (fun _ => ?_)
    refine zg_aload_n (zd_t dmL_law_7 9 rfl) rfl ?_
    refine zg_iconst (v := (nI 0)) (zd_t dmL_law_7 10 rfl) (by decide) ?_
    refine zg_lald (k := 0) (t0 := 1) (zd_t dmL_law_7 11 rfl) zs_m8 rfl rfl (by decide) (by decide) ?_
    rw [show (if (0 : Nat) = 0 then o1 else 0) = o1 from if_pos rfl]
    refine zg_iload (zd_t dmL_law_7 12 rfl) rfl ?_
    refine zg_i2l (zd_t dmL_law_7 13 rfl) rfl ?_
    refine zg_lcmp (zd_t dmL_law_7 14 rfl) ?_
    refine zg_if_eq (tgt := 616) (zd_t dmL_law_7 15 rfl) (by decide) (fun _ => ?_) (fun hq => absurd (by rw [hy h0]; exact zy_cmp _) hq)
    refine zg_goto (tgt := 1094) (zd_t dmL_law_7 18 rfl) (by decide) ?_
    exact zg_lv [2, 3, 4, 5, 6] rfl hk
  · skip
    refine zg_aload_n (zd_t dmL_law_6 24 rfl) rfl ?_
    refine zg_aload_n (zd_t dmL_law_6 25 rfl) rfl ?_
    refine zg_iload (zd_t dmL_law_6 26 rfl) rfl ?_
    refine zg_iconst (v := (nI 1)) (zd_t dmL_law_6 27 rfl) (by decide) ?_
    refine zg_iadd (zd_t dmL_law_6 28 rfl) ?_
    refine zg_ti (zd_t dmL_law_6 29 rfl) zs_yS (nI_add i 1) (by omega) (by omega) rfl ?_
    refine zg_aload_n (zd_t dmL_law_6 30 rfl) rfl ?_
    refine zg_iload (zd_t dmL_law_6 31 rfl) rfl ?_
    refine zg_iconst (v := (nI 2)) (zd_t dmL_law_6 32 rfl) (by decide) ?_
    refine zg_iadd (zd_t dmL_law_6 33 rfl) ?_
    refine zg_ti (zd_t dmL_law_6 34 rfl) zs_yS (nI_add i 2) (by omega) (by omega) rfl ?_
    refine zg_aload_n (zd_t dmL_law_6 35 rfl) rfl ?_
    refine zg_callS (zd_t dmL_law_6 36 rfl) zl_L_104 zm_mL_channel zst_mL_channel (av := _) (rest := _) (by rfl) (by rfl) (by exact Nat.le_of_ble_eq_true rfl) hC ?_
    refine zg_istore (zd_t dmL_law_6 37 rfl) (by decide) rfl ?_
    refine zg_aload_n (zd_t dmL_law_6 38 rfl) rfl ?_
    refine zg_aload_n (zd_t dmL_law_6 39 rfl) rfl ?_
    refine zg_iload (zd_t dmL_law_6 40 rfl) rfl ?_
    refine zg_iconst (v := (nI 1)) (zd_t dmL_law_6 41 rfl) (by decide) ?_
    refine zg_iadd (zd_t dmL_law_6 42 rfl) ?_
    refine zg_ti (zd_t dmL_law_6 43 rfl) zs_yS (nI_add i 1) (by omega) (by omega) rfl ?_
    refine zg_aload_n (zd_t dmL_law_6 44 rfl) rfl ?_
    refine zg_iload (zd_t dmL_law_6 45 rfl) rfl ?_
    refine zg_iconst (v := (nI 2)) (zd_t dmL_law_6 46 rfl) (by decide) ?_
    refine zg_iadd (zd_t dmL_law_6 47 rfl) ?_
    refine zg_ti (zd_t dmL_law_6 48 rfl) zs_yS (nI_add i 2) (by omega) (by omega) rfl ?_
    refine zg_callV (zd_t dmL_law_6 49 rfl) zl_L_106 zm_mM_channel zi_mM_channel zse_mM_channel zs_m0 zs_cl3 rfl (av := _) (rest := _) (by rfl) (by rfl) (by exact Nat.le_of_ble_eq_true rfl) hM ?_
    refine zg_istore (zd_t dmL_law_7 0 rfl) (by decide) rfl ?_
    refine zg_aload_n (zd_t dmL_law_7 1 rfl) rfl ?_
    refine zg_callV (zd_t dmL_law_7 2 rfl) zl_L_81 zm_mM_thrown zi_mM_thrown zse_mM_thrown zs_m0 zs_cl3 rfl (av := _) (rest := _) (by rfl) (by rfl) (by exact Nat.le_of_ble_eq_true rfl) (zm_thrown (d := 10)) ?_
    refine zg_iload (zd_t dmL_law_7 3 rfl) rfl ?_
    refine zg_icmp_eq (tgt := 599) (zd_t dmL_law_7 4 rfl) (by decide) (fun _ => ?_) (fun hq => absurd rfl hq)
    refine zg_iload (zd_t dmL_law_7 7 rfl) rfl ?_
    refine zg_if_ne (tgt := 616) (zd_t dmL_law_7 8 rfl) (by decide) (fun _ => ?_) (fun hq => absurd hq (nI_ne0 (by omega) (by omega)))
    refine zg_goto (tgt := 1094) (zd_t dmL_law_7 18 rfl) (by decide) ?_
    exact zg_lv [2, 3, 4, 5, 6] rfl hk
theorem zy_inject (htr : l.stackTraces = false) (hI : zs_inv S) (hL : zp_L P < 2 ^ 30) (hi : i + 5 < zp_L P) (IH : ∀ (S' : zs_S) (th' : Int32) (o' : Int64) (w' : Nat × Nat), zs_inv S' → zy_R l P 1094 i S' th' o' w' n) : zy_R l P 619 i S th o w (n + 1) := by
  obtain ⟨c, S1, w1, v, hc, hI1, hw, hall⟩ := zj_inject (P := P) (th := th) (w := w) htr hI (zp_xs P (i + 1)) (zp_xs P (i + 2)) (zp_xs P (i + 3))
  obtain ⟨o1, hg, hC, hM⟩ := hall o
  obtain ⟨y, rfl, hy⟩ := hg
  obtain ⟨σ2, hs1, hs2, hk⟩ := IH S1 (nI c) o1 w1 hI1
  refine ⟨σ2, by omega, by omega, ?_⟩
  by_cases h0 : c = 0
  · skip
    refine zg_aload_n (zd_t dmL_law_7 19 rfl) rfl ?_
    refine zg_aload_n (zd_t dmL_law_7 20 rfl) rfl ?_
    refine zg_iload (zd_t dmL_law_7 21 rfl) rfl ?_
    refine zg_iconst (v := (nI 1)) (zd_t dmL_law_7 22 rfl) (by decide) ?_
    refine zg_iadd (zd_t dmL_law_7 23 rfl) ?_
    refine zg_ti (zd_t dmL_law_7 24 rfl) zs_yS (nI_add i 1) (by omega) (by omega) rfl ?_
    refine zg_aload_n (zd_t dmL_law_7 25 rfl) rfl ?_
    refine zg_iload (zd_t dmL_law_7 26 rfl) rfl ?_
    refine zg_iconst (v := (nI 2)) (zd_t dmL_law_7 27 rfl) (by decide) ?_
    refine zg_iadd (zd_t dmL_law_7 28 rfl) ?_
    refine zg_ti (zd_t dmL_law_7 29 rfl) zs_yS (nI_add i 2) (by omega) (by omega) rfl ?_
    refine zg_aload_n (zd_t dmL_law_7 30 rfl) rfl ?_
    refine zg_iload (zd_t dmL_law_7 31 rfl) rfl ?_
    refine zg_iconst (v := (nI 3)) (zd_t dmL_law_7 32 rfl) (by decide) ?_
    refine zg_iadd (zd_t dmL_law_7 33 rfl) ?_
    refine zg_ti (zd_t dmL_law_7 34 rfl) zs_yS (nI_add i 3) (by omega) (by omega) rfl ?_
    refine zg_aload_n (zd_t dmL_law_7 35 rfl) rfl ?_
    refine zg_callS (zd_t dmL_law_7 36 rfl) zl_L_107 zm_mL_inject zst_mL_inject (av := _) (rest := _) (by rfl) (by rfl) (by exact Nat.le_of_ble_eq_true rfl) hC ?_
    refine zg_istore (zd_t dmL_law_7 37 rfl) (by decide) rfl ?_
    refine zg_aload_n (zd_t dmL_law_7 38 rfl) rfl ?_
    refine zg_aload_n (zd_t dmL_law_7 39 rfl) rfl ?_
    refine zg_iload (zd_t dmL_law_7 40 rfl) rfl ?_
    refine zg_iconst (v := (nI 1)) (zd_t dmL_law_7 41 rfl) (by decide) ?_
    refine zg_iadd (zd_t dmL_law_7 42 rfl) ?_
    refine zg_ti (zd_t dmL_law_7 43 rfl) zs_yS (nI_add i 1) (by omega) (by omega) rfl ?_
    refine zg_aload_n (zd_t dmL_law_7 44 rfl) rfl ?_
    refine zg_iload (zd_t dmL_law_7 45 rfl) rfl ?_
    refine zg_iconst (v := (nI 2)) (zd_t dmL_law_7 46 rfl) (by decide) ?_
    refine zg_iadd (zd_t dmL_law_7 47 rfl) ?_
    refine zg_ti (zd_t dmL_law_7 48 rfl) zs_yS (nI_add i 2) (by omega) (by omega) rfl ?_
    refine zg_aload_n (zd_t dmL_law_7 49 rfl) rfl ?_
    refine zg_iload (zd_t dmL_law_8 0 rfl) rfl ?_
    refine zg_iconst (v := (nI 3)) (zd_t dmL_law_8 1 rfl) (by decide) ?_
    refine zg_iadd (zd_t dmL_law_8 2 rfl) ?_
    refine zg_ti (zd_t dmL_law_8 3 rfl) zs_yS (nI_add i 3) (by omega) (by omega) rfl ?_
    refine zg_callV (zd_t dmL_law_8 4 rfl) zl_L_110 zm_mM_inject zi_mM_inject zse_mM_inject zs_m0 zs_cl3 rfl (av := _) (rest := _) (by rfl) (by rfl) (by exact Nat.le_of_ble_eq_true rfl) hM ?_
    refine zg_istore (zd_t dmL_law_8 5 rfl) (by decide) rfl ?_
    refine zg_aload_n (zd_t dmL_law_8 6 rfl) rfl ?_
    refine zg_callV (zd_t dmL_law_8 7 rfl) zl_L_81 zm_mM_thrown zi_mM_thrown zse_mM_thrown zs_m0 zs_cl3 rfl (av := _) (rest := _) (by rfl) (by rfl) (by exact Nat.le_of_ble_eq_true rfl) (zm_thrown (d := 10)) ?_
    refine zg_iload (zd_t dmL_law_8 8 rfl) rfl ?_
    refine zg_icmp_eq (tgt := 679) (zd_t dmL_law_8 9 rfl) (by decide) (fun _ => ?_) (fun hq => absurd rfl hq)
    refine zg_iload (zd_t dmL_law_8 12 rfl) rfl ?_
    refine zg_if_ne (tgt := 696) (zd_t dmL_law_8 13 rfl) (by decide) (fun hq => absurd (by rw [h0]; rfl) hq) (fun _ => ?_)
    refine zg_aload_n (zd_t dmL_law_8 14 rfl) rfl ?_
    refine zg_iconst (v := (nI 0)) (zd_t dmL_law_8 15 rfl) (by decide) ?_
    refine zg_lald (k := 0) (t0 := 1) (zd_t dmL_law_8 16 rfl) zs_m8 rfl rfl (by decide) (by decide) ?_
    rw [show (if (0 : Nat) = 0 then o1 else 0) = o1 from if_pos rfl]
    refine zg_iload (zd_t dmL_law_8 17 rfl) rfl ?_
    refine zg_i2l (zd_t dmL_law_8 18 rfl) rfl ?_
    refine zg_lcmp (zd_t dmL_law_8 19 rfl) ?_
    refine zg_if_eq (tgt := 696) (zd_t dmL_law_8 20 rfl) (by decide) (fun _ => ?_) (fun hq => absurd (by rw [hy h0]; exact zy_cmp _) hq)
    refine zg_goto (tgt := 1094) (zd_t dmL_law_8 23 rfl) (by decide) ?_
    exact zg_lv [2, 3, 4, 5, 6] rfl hk
  · skip
    refine zg_aload_n (zd_t dmL_law_7 19 rfl) rfl ?_
    refine zg_aload_n (zd_t dmL_law_7 20 rfl) rfl ?_
    refine zg_iload (zd_t dmL_law_7 21 rfl) rfl ?_
    refine zg_iconst (v := (nI 1)) (zd_t dmL_law_7 22 rfl) (by decide) ?_
    refine zg_iadd (zd_t dmL_law_7 23 rfl) ?_
    refine zg_ti (zd_t dmL_law_7 24 rfl) zs_yS (nI_add i 1) (by omega) (by omega) rfl ?_
    refine zg_aload_n (zd_t dmL_law_7 25 rfl) rfl ?_
    refine zg_iload (zd_t dmL_law_7 26 rfl) rfl ?_
    refine zg_iconst (v := (nI 2)) (zd_t dmL_law_7 27 rfl) (by decide) ?_
    refine zg_iadd (zd_t dmL_law_7 28 rfl) ?_
    refine zg_ti (zd_t dmL_law_7 29 rfl) zs_yS (nI_add i 2) (by omega) (by omega) rfl ?_
    refine zg_aload_n (zd_t dmL_law_7 30 rfl) rfl ?_
    refine zg_iload (zd_t dmL_law_7 31 rfl) rfl ?_
    refine zg_iconst (v := (nI 3)) (zd_t dmL_law_7 32 rfl) (by decide) ?_
    refine zg_iadd (zd_t dmL_law_7 33 rfl) ?_
    refine zg_ti (zd_t dmL_law_7 34 rfl) zs_yS (nI_add i 3) (by omega) (by omega) rfl ?_
    refine zg_aload_n (zd_t dmL_law_7 35 rfl) rfl ?_
    refine zg_callS (zd_t dmL_law_7 36 rfl) zl_L_107 zm_mL_inject zst_mL_inject (av := _) (rest := _) (by rfl) (by rfl) (by exact Nat.le_of_ble_eq_true rfl) hC ?_
    refine zg_istore (zd_t dmL_law_7 37 rfl) (by decide) rfl ?_
    refine zg_aload_n (zd_t dmL_law_7 38 rfl) rfl ?_
    refine zg_aload_n (zd_t dmL_law_7 39 rfl) rfl ?_
    refine zg_iload (zd_t dmL_law_7 40 rfl) rfl ?_
    refine zg_iconst (v := (nI 1)) (zd_t dmL_law_7 41 rfl) (by decide) ?_
    refine zg_iadd (zd_t dmL_law_7 42 rfl) ?_
    refine zg_ti (zd_t dmL_law_7 43 rfl) zs_yS (nI_add i 1) (by omega) (by omega) rfl ?_
    refine zg_aload_n (zd_t dmL_law_7 44 rfl) rfl ?_
    refine zg_iload (zd_t dmL_law_7 45 rfl) rfl ?_
    refine zg_iconst (v := (nI 2)) (zd_t dmL_law_7 46 rfl) (by decide) ?_
    refine zg_iadd (zd_t dmL_law_7 47 rfl) ?_
    refine zg_ti (zd_t dmL_law_7 48 rfl) zs_yS (nI_add i 2) (by omega) (by omega) rfl ?_
    refine zg_aload_n (zd_t dmL_law_7 49 rfl) rfl ?_
    refine zg_iload (zd_t dmL_law_8 0 rfl) rfl ?_
    refine zg_iconst (v := (nI 3)) (zd_t dmL_law_8 1 rfl) (by decide) ?_
    refine zg_iadd (zd_t dmL_law_8 2 rfl) ?_
    refine zg_ti (zd_t dmL_law_8 3 rfl) zs_yS (nI_add i 3) (by omega) (by omega) rfl ?_
    refine zg_callV (zd_t dmL_law_8 4 rfl) zl_L_110 zm_mM_inject zi_mM_inject zse_mM_inject zs_m0 zs_cl3 rfl (av := _) (rest := _) (by rfl) (by rfl) (by exact Nat.le_of_ble_eq_true rfl) hM ?_
    refine zg_istore (zd_t dmL_law_8 5 rfl) (by decide) rfl ?_
    refine zg_aload_n (zd_t dmL_law_8 6 rfl) rfl ?_
    refine zg_callV (zd_t dmL_law_8 7 rfl) zl_L_81 zm_mM_thrown zi_mM_thrown zse_mM_thrown zs_m0 zs_cl3 rfl (av := _) (rest := _) (by rfl) (by rfl) (by exact Nat.le_of_ble_eq_true rfl) (zm_thrown (d := 10)) ?_
    refine zg_iload (zd_t dmL_law_8 8 rfl) rfl ?_
    refine zg_icmp_eq (tgt := 679) (zd_t dmL_law_8 9 rfl) (by decide) (fun _ => ?_) (fun hq => absurd rfl hq)
    refine zg_iload (zd_t dmL_law_8 12 rfl) rfl ?_
    refine zg_if_ne (tgt := 696) (zd_t dmL_law_8 13 rfl) (by decide) (fun _ => ?_) (fun hq => absurd hq (nI_ne0 (by omega) (by omega)))
    refine zg_goto (tgt := 1094) (zd_t dmL_law_8 23 rfl) (by decide) ?_
    exact zg_lv [2, 3, 4, 5, 6] rfl hk
theorem zy_verify (htr : l.stackTraces = false) (hI : zs_inv S) (hL : zp_L P < 2 ^ 30) (hi : i + 5 < zp_L P) (IH : ∀ (S' : zs_S) (th' : Int32) (o' : Int64) (w' : Nat × Nat), zs_inv S' → zy_R l P 1094 i S' th' o' w' n) : zy_R l P 699 i S th o w (n + 1) := by
  obtain ⟨c, S1, w1, v, hc, hI1, hw, hall⟩ := zj_verify (P := P) (th := th) (w := w) htr hI (zp_xs P (i + 1))
  obtain ⟨o1, hg, hC, hM⟩ := hall o
  obtain ⟨y, rfl, hy⟩ := hg
  obtain ⟨σ2, hs1, hs2, hk⟩ := IH S1 (nI c) o1 w1 hI1
  refine ⟨σ2, by omega, by omega, ?_⟩
  by_cases h0 : c = 0
  · skip
    refine zg_aload_n (zd_t dmL_law_8 24 rfl) rfl ?_
    refine zg_aload_n (zd_t dmL_law_8 25 rfl) rfl ?_
    refine zg_iload (zd_t dmL_law_8 26 rfl) rfl ?_
    refine zg_iconst (v := (nI 1)) (zd_t dmL_law_8 27 rfl) (by decide) ?_
    refine zg_iadd (zd_t dmL_law_8 28 rfl) ?_
    refine zg_ti (zd_t dmL_law_8 29 rfl) zs_yS (nI_add i 1) (by omega) (by omega) rfl ?_
    refine zg_aload_n (zd_t dmL_law_8 30 rfl) rfl ?_
    refine zg_callS (zd_t dmL_law_8 31 rfl) zl_L_111 zm_mL_verify zst_mL_verify (av := _) (rest := _) (by rfl) (by rfl) (by exact Nat.le_of_ble_eq_true rfl) hC ?_
    refine zg_istore (zd_t dmL_law_8 32 rfl) (by decide) rfl ?_
    refine zg_aload_n (zd_t dmL_law_8 33 rfl) rfl ?_
    refine zg_aload_n (zd_t dmL_law_8 34 rfl) rfl ?_
    refine zg_iload (zd_t dmL_law_8 35 rfl) rfl ?_
    refine zg_iconst (v := (nI 1)) (zd_t dmL_law_8 36 rfl) (by decide) ?_
    refine zg_iadd (zd_t dmL_law_8 37 rfl) ?_
    refine zg_ti (zd_t dmL_law_8 38 rfl) zs_yS (nI_add i 1) (by omega) (by omega) rfl ?_
    refine zg_callV (zd_t dmL_law_8 39 rfl) zl_L_113 zm_mM_verify zi_mM_verify zse_mM_verify zs_m0 zs_cl3 rfl (av := _) (rest := _) (by rfl) (by rfl) (by exact Nat.le_of_ble_eq_true rfl) hM ?_
    refine zg_istore (zd_t dmL_law_8 40 rfl) (by decide) rfl ?_
    refine zg_aload_n (zd_t dmL_law_8 41 rfl) rfl ?_
    refine zg_callV (zd_t dmL_law_8 42 rfl) zl_L_81 zm_mM_thrown zi_mM_thrown zse_mM_thrown zs_m0 zs_cl3 rfl (av := _) (rest := _) (by rfl) (by rfl) (by exact Nat.le_of_ble_eq_true rfl) (zm_thrown (d := 10)) ?_
    refine zg_iload (zd_t dmL_law_8 43 rfl) rfl ?_
    refine zg_icmp_eq (tgt := 735) (zd_t dmL_law_8 44 rfl) (by decide) (fun _ => ?_) (fun hq => absurd rfl hq)
    refine zg_iload (zd_t dmL_law_8 47 rfl) rfl ?_
    refine zg_if_ne (tgt := 752) (zd_t dmL_law_8 48 rfl) (by decide) (fun hq => absurd (by rw [h0]; rfl) hq) (fun _ => ?_)
    refine zg_aload_n (zd_t dmL_law_8 49 rfl) rfl ?_
    refine zg_iconst (v := (nI 0)) (zd_t dmL_law_9 0 rfl) (by decide) ?_
    refine zg_lald (k := 0) (t0 := 1) (zd_t dmL_law_9 1 rfl) zs_m8 rfl rfl (by decide) (by decide) ?_
    rw [show (if (0 : Nat) = 0 then o1 else 0) = o1 from if_pos rfl]
    refine zg_iload (zd_t dmL_law_9 2 rfl) rfl ?_
    refine zg_i2l (zd_t dmL_law_9 3 rfl) rfl ?_
    refine zg_lcmp (zd_t dmL_law_9 4 rfl) ?_
    refine zg_if_eq (tgt := 752) (zd_t dmL_law_9 5 rfl) (by decide) (fun _ => ?_) (fun hq => absurd (by rw [hy h0]; exact zy_cmp _) hq)
    refine zg_goto (tgt := 1094) (zd_t dmL_law_9 8 rfl) (by decide) ?_
    exact zg_lv [2, 3, 4, 5, 6] rfl hk
  · skip
    refine zg_aload_n (zd_t dmL_law_8 24 rfl) rfl ?_
    refine zg_aload_n (zd_t dmL_law_8 25 rfl) rfl ?_
    refine zg_iload (zd_t dmL_law_8 26 rfl) rfl ?_
    refine zg_iconst (v := (nI 1)) (zd_t dmL_law_8 27 rfl) (by decide) ?_
    refine zg_iadd (zd_t dmL_law_8 28 rfl) ?_
    refine zg_ti (zd_t dmL_law_8 29 rfl) zs_yS (nI_add i 1) (by omega) (by omega) rfl ?_
    refine zg_aload_n (zd_t dmL_law_8 30 rfl) rfl ?_
    refine zg_callS (zd_t dmL_law_8 31 rfl) zl_L_111 zm_mL_verify zst_mL_verify (av := _) (rest := _) (by rfl) (by rfl) (by exact Nat.le_of_ble_eq_true rfl) hC ?_
    refine zg_istore (zd_t dmL_law_8 32 rfl) (by decide) rfl ?_
    refine zg_aload_n (zd_t dmL_law_8 33 rfl) rfl ?_
    refine zg_aload_n (zd_t dmL_law_8 34 rfl) rfl ?_
    refine zg_iload (zd_t dmL_law_8 35 rfl) rfl ?_
    refine zg_iconst (v := (nI 1)) (zd_t dmL_law_8 36 rfl) (by decide) ?_
    refine zg_iadd (zd_t dmL_law_8 37 rfl) ?_
    refine zg_ti (zd_t dmL_law_8 38 rfl) zs_yS (nI_add i 1) (by omega) (by omega) rfl ?_
    refine zg_callV (zd_t dmL_law_8 39 rfl) zl_L_113 zm_mM_verify zi_mM_verify zse_mM_verify zs_m0 zs_cl3 rfl (av := _) (rest := _) (by rfl) (by rfl) (by exact Nat.le_of_ble_eq_true rfl) hM ?_
    refine zg_istore (zd_t dmL_law_8 40 rfl) (by decide) rfl ?_
    refine zg_aload_n (zd_t dmL_law_8 41 rfl) rfl ?_
    refine zg_callV (zd_t dmL_law_8 42 rfl) zl_L_81 zm_mM_thrown zi_mM_thrown zse_mM_thrown zs_m0 zs_cl3 rfl (av := _) (rest := _) (by rfl) (by rfl) (by exact Nat.le_of_ble_eq_true rfl) (zm_thrown (d := 10)) ?_
    refine zg_iload (zd_t dmL_law_8 43 rfl) rfl ?_
    refine zg_icmp_eq (tgt := 735) (zd_t dmL_law_8 44 rfl) (by decide) (fun _ => ?_) (fun hq => absurd rfl hq)
    refine zg_iload (zd_t dmL_law_8 47 rfl) rfl ?_
    refine zg_if_ne (tgt := 752) (zd_t dmL_law_8 48 rfl) (by decide) (fun _ => ?_) (fun hq => absurd hq (nI_ne0 (by omega) (by omega)))
    refine zg_goto (tgt := 1094) (zd_t dmL_law_9 8 rfl) (by decide) ?_
    exact zg_lv [2, 3, 4, 5, 6] rfl hk
theorem zy_repair (htr : l.stackTraces = false) (hI : zs_inv S) (hL : zp_L P < 2 ^ 30) (hi : i + 5 < zp_L P) (IH : ∀ (S' : zs_S) (th' : Int32) (o' : Int64) (w' : Nat × Nat), zs_inv S' → zy_R l P 1094 i S' th' o' w' n) : zy_R l P 755 i S th o w (n + 1) := by
  obtain ⟨c, S1, w1, v, hc, hI1, hw, hall⟩ := zj_repair (P := P) (th := th) (w := w) htr hI (zp_xs P (i + 1))
  obtain ⟨o1, hg, hC, hM⟩ := hall o
  obtain ⟨y, rfl, hy⟩ := hg
  obtain ⟨σ2, hs1, hs2, hk⟩ := IH S1 (nI c) o1 w1 hI1
  refine ⟨σ2, by omega, by omega, ?_⟩
  by_cases h0 : c = 0
  · skip
    refine zg_aload_n (zd_t dmL_law_9 9 rfl) rfl ?_
    refine zg_aload_n (zd_t dmL_law_9 10 rfl) rfl ?_
    refine zg_iload (zd_t dmL_law_9 11 rfl) rfl ?_
    refine zg_iconst (v := (nI 1)) (zd_t dmL_law_9 12 rfl) (by decide) ?_
    refine zg_iadd (zd_t dmL_law_9 13 rfl) ?_
    refine zg_ti (zd_t dmL_law_9 14 rfl) zs_yS (nI_add i 1) (by omega) (by omega) rfl ?_
    refine zg_aload_n (zd_t dmL_law_9 15 rfl) rfl ?_
    refine zg_callS (zd_t dmL_law_9 16 rfl) zl_L_114 zm_mL_repair zst_mL_repair (av := _) (rest := _) (by rfl) (by rfl) (by exact Nat.le_of_ble_eq_true rfl) hC ?_
    refine zg_istore (zd_t dmL_law_9 17 rfl) (by decide) rfl ?_
    refine zg_aload_n (zd_t dmL_law_9 18 rfl) rfl ?_
    refine zg_aload_n (zd_t dmL_law_9 19 rfl) rfl ?_
    refine zg_iload (zd_t dmL_law_9 20 rfl) rfl ?_
    refine zg_iconst (v := (nI 1)) (zd_t dmL_law_9 21 rfl) (by decide) ?_
    refine zg_iadd (zd_t dmL_law_9 22 rfl) ?_
    refine zg_ti (zd_t dmL_law_9 23 rfl) zs_yS (nI_add i 1) (by omega) (by omega) rfl ?_
    refine zg_callV (zd_t dmL_law_9 24 rfl) zl_L_116 zm_mM_repair zi_mM_repair zse_mM_repair zs_m0 zs_cl3 rfl (av := _) (rest := _) (by rfl) (by rfl) (by exact Nat.le_of_ble_eq_true rfl) hM ?_
    refine zg_istore (zd_t dmL_law_9 25 rfl) (by decide) rfl ?_
    refine zg_aload_n (zd_t dmL_law_9 26 rfl) rfl ?_
    refine zg_callV (zd_t dmL_law_9 27 rfl) zl_L_81 zm_mM_thrown zi_mM_thrown zse_mM_thrown zs_m0 zs_cl3 rfl (av := _) (rest := _) (by rfl) (by rfl) (by exact Nat.le_of_ble_eq_true rfl) (zm_thrown (d := 10)) ?_
    refine zg_iload (zd_t dmL_law_9 28 rfl) rfl ?_
    refine zg_icmp_eq (tgt := 791) (zd_t dmL_law_9 29 rfl) (by decide) (fun _ => ?_) (fun hq => absurd rfl hq)
    refine zg_iload (zd_t dmL_law_9 32 rfl) rfl ?_
    refine zg_if_ne (tgt := 808) (zd_t dmL_law_9 33 rfl) (by decide) (fun hq => absurd (by rw [h0]; rfl) hq) (fun _ => ?_)
    refine zg_aload_n (zd_t dmL_law_9 34 rfl) rfl ?_
    refine zg_iconst (v := (nI 0)) (zd_t dmL_law_9 35 rfl) (by decide) ?_
    refine zg_lald (k := 0) (t0 := 1) (zd_t dmL_law_9 36 rfl) zs_m8 rfl rfl (by decide) (by decide) ?_
    rw [show (if (0 : Nat) = 0 then o1 else 0) = o1 from if_pos rfl]
    refine zg_iload (zd_t dmL_law_9 37 rfl) rfl ?_
    refine zg_i2l (zd_t dmL_law_9 38 rfl) rfl ?_
    refine zg_lcmp (zd_t dmL_law_9 39 rfl) ?_
    refine zg_if_eq (tgt := 808) (zd_t dmL_law_9 40 rfl) (by decide) (fun _ => ?_) (fun hq => absurd (by rw [hy h0]; exact zy_cmp _) hq)
    refine zg_goto (tgt := 1094) (zd_t dmL_law_9 43 rfl) (by decide) ?_
    exact zg_lv [2, 3, 4, 5, 6] rfl hk
  · skip
    refine zg_aload_n (zd_t dmL_law_9 9 rfl) rfl ?_
    refine zg_aload_n (zd_t dmL_law_9 10 rfl) rfl ?_
    refine zg_iload (zd_t dmL_law_9 11 rfl) rfl ?_
    refine zg_iconst (v := (nI 1)) (zd_t dmL_law_9 12 rfl) (by decide) ?_
    refine zg_iadd (zd_t dmL_law_9 13 rfl) ?_
    refine zg_ti (zd_t dmL_law_9 14 rfl) zs_yS (nI_add i 1) (by omega) (by omega) rfl ?_
    refine zg_aload_n (zd_t dmL_law_9 15 rfl) rfl ?_
    refine zg_callS (zd_t dmL_law_9 16 rfl) zl_L_114 zm_mL_repair zst_mL_repair (av := _) (rest := _) (by rfl) (by rfl) (by exact Nat.le_of_ble_eq_true rfl) hC ?_
    refine zg_istore (zd_t dmL_law_9 17 rfl) (by decide) rfl ?_
    refine zg_aload_n (zd_t dmL_law_9 18 rfl) rfl ?_
    refine zg_aload_n (zd_t dmL_law_9 19 rfl) rfl ?_
    refine zg_iload (zd_t dmL_law_9 20 rfl) rfl ?_
    refine zg_iconst (v := (nI 1)) (zd_t dmL_law_9 21 rfl) (by decide) ?_
    refine zg_iadd (zd_t dmL_law_9 22 rfl) ?_
    refine zg_ti (zd_t dmL_law_9 23 rfl) zs_yS (nI_add i 1) (by omega) (by omega) rfl ?_
    refine zg_callV (zd_t dmL_law_9 24 rfl) zl_L_116 zm_mM_repair zi_mM_repair zse_mM_repair zs_m0 zs_cl3 rfl (av := _) (rest := _) (by rfl) (by rfl) (by exact Nat.le_of_ble_eq_true rfl) hM ?_
    refine zg_istore (zd_t dmL_law_9 25 rfl) (by decide) rfl ?_
    refine zg_aload_n (zd_t dmL_law_9 26 rfl) rfl ?_
    refine zg_callV (zd_t dmL_law_9 27 rfl) zl_L_81 zm_mM_thrown zi_mM_thrown zse_mM_thrown zs_m0 zs_cl3 rfl (av := _) (rest := _) (by rfl) (by rfl) (by exact Nat.le_of_ble_eq_true rfl) (zm_thrown (d := 10)) ?_
    refine zg_iload (zd_t dmL_law_9 28 rfl) rfl ?_
    refine zg_icmp_eq (tgt := 791) (zd_t dmL_law_9 29 rfl) (by decide) (fun _ => ?_) (fun hq => absurd rfl hq)
    refine zg_iload (zd_t dmL_law_9 32 rfl) rfl ?_
    refine zg_if_ne (tgt := 808) (zd_t dmL_law_9 33 rfl) (by decide) (fun _ => ?_) (fun hq => absurd hq (nI_ne0 (by omega) (by omega)))
    refine zg_goto (tgt := 1094) (zd_t dmL_law_9 43 rfl) (by decide) ?_
    exact zg_lv [2, 3, 4, 5, 6] rfl hk
theorem zy_sure (htr : l.stackTraces = false) (hI : zs_inv S) (hL : zp_L P < 2 ^ 30) (hi : i + 5 < zp_L P) (IH : ∀ (S' : zs_S) (th' : Int32) (o' : Int64) (w' : Nat × Nat), zs_inv S' → zy_R l P 1094 i S' th' o' w' n) : zy_R l P 811 i S th o w (n + 1) := by
  obtain ⟨c, S1, w1, v, hc, hI1, hw, hall⟩ := zj_sure (P := P) (th := th) (w := w) htr hI (zp_xs P (i + 1))
  obtain ⟨o1, hg, hC, hM⟩ := hall o
  obtain ⟨y, rfl, hy⟩ := hg
  obtain ⟨σ2, hs1, hs2, hk⟩ := IH S1 (nI c) o1 w1 hI1
  refine ⟨σ2, by omega, by omega, ?_⟩
  by_cases h0 : c = 0
  · cases y with
    | true =>
      refine zg_aload_n (zd_t dmL_law_9 44 rfl) rfl ?_
      refine zg_aload_n (zd_t dmL_law_9 45 rfl) rfl ?_
      refine zg_iload (zd_t dmL_law_9 46 rfl) rfl ?_
      refine zg_iconst (v := (nI 1)) (zd_t dmL_law_9 47 rfl) (by decide) ?_
      refine zg_iadd (zd_t dmL_law_9 48 rfl) ?_
      refine zg_ti (zd_t dmL_law_9 49 rfl) zs_yS (nI_add i 1) (by omega) (by omega) rfl ?_
      refine zg_aload_n (zd_t dmL_law_10 0 rfl) rfl ?_
      refine zg_callS (zd_t dmL_law_10 1 rfl) zl_L_117 zm_mL_sure zst_mL_sure (av := _) (rest := _) (by rfl) (by rfl) (by exact Nat.le_of_ble_eq_true rfl) hC ?_
      refine zg_istore (zd_t dmL_law_10 2 rfl) (by decide) rfl ?_
      refine zg_aload_n (zd_t dmL_law_10 3 rfl) rfl ?_
      refine zg_aload_n (zd_t dmL_law_10 4 rfl) rfl ?_
      refine zg_iload (zd_t dmL_law_10 5 rfl) rfl ?_
      refine zg_iconst (v := (nI 1)) (zd_t dmL_law_10 6 rfl) (by decide) ?_
      refine zg_iadd (zd_t dmL_law_10 7 rfl) ?_
      refine zg_ti (zd_t dmL_law_10 8 rfl) zs_yS (nI_add i 1) (by omega) (by omega) rfl ?_
      refine zg_callV (zd_t dmL_law_10 9 rfl) zl_L_119 zm_mM_sure zi_mM_sure zse_mM_sure zs_m0 zs_cl3 rfl (av := _) (rest := _) (by rfl) (by rfl) (by exact Nat.le_of_ble_eq_true rfl) hM ?_
      refine zg_istore (zd_t dmL_law_10 10 rfl) (by decide) rfl ?_
      refine zg_aload_n (zd_t dmL_law_10 11 rfl) rfl ?_
      refine zg_callV (zd_t dmL_law_10 12 rfl) zl_L_81 zm_mM_thrown zi_mM_thrown zse_mM_thrown zs_m0 zs_cl3 rfl (av := _) (rest := _) (by rfl) (by rfl) (by exact Nat.le_of_ble_eq_true rfl) (zm_thrown (d := 10)) ?_
      refine zg_iload (zd_t dmL_law_10 13 rfl) rfl ?_
      refine zg_icmp_eq (tgt := 847) (zd_t dmL_law_10 14 rfl) (by decide) (fun _ => ?_) (fun hq => absurd rfl hq)
      refine zg_iload (zd_t dmL_law_10 17 rfl) rfl ?_
      refine zg_if_ne (tgt := 871) (zd_t dmL_law_10 18 rfl) (by decide) (fun hq => absurd (by rw [h0]; rfl) hq) (fun _ => ?_)
      refine zg_aload_n (zd_t dmL_law_10 19 rfl) rfl ?_
      refine zg_iconst (v := (nI 0)) (zd_t dmL_law_10 20 rfl) (by decide) ?_
      refine zg_lald (k := 0) (t0 := 1) (zd_t dmL_law_10 21 rfl) zs_m8 rfl rfl (by decide) (by decide) ?_
      rw [show (if (0 : Nat) = 0 then o1 else 0) = o1 from if_pos rfl]
      refine zg_iload (zd_t dmL_law_10 22 rfl) rfl ?_
      refine zg_if_eq (tgt := 864) (zd_t dmL_law_10 23 rfl) (by decide) (fun hq => absurd hq (by decide)) (fun _ => ?_)
      refine zg_lconst (v := mz_L 1) (zd_t dmL_law_10 24 rfl) (by decide) ?_
      refine zg_goto (tgt := 865) (zd_t dmL_law_10 25 rfl) (by decide) ?_
      refine zg_lcmp (zd_t dmL_law_10 27 rfl) ?_
      refine zg_if_eq (tgt := 871) (zd_t dmL_law_10 28 rfl) (by decide) (fun _ => ?_) (fun hq => absurd (by rw [hy h0]; exact zy_cmp _) hq)
      refine zg_goto (tgt := 1094) (zd_t dmL_law_10 31 rfl) (by decide) ?_
      exact zg_lv [2, 3, 4, 5, 6] rfl hk
    | false =>
      refine zg_aload_n (zd_t dmL_law_9 44 rfl) rfl ?_
      refine zg_aload_n (zd_t dmL_law_9 45 rfl) rfl ?_
      refine zg_iload (zd_t dmL_law_9 46 rfl) rfl ?_
      refine zg_iconst (v := (nI 1)) (zd_t dmL_law_9 47 rfl) (by decide) ?_
      refine zg_iadd (zd_t dmL_law_9 48 rfl) ?_
      refine zg_ti (zd_t dmL_law_9 49 rfl) zs_yS (nI_add i 1) (by omega) (by omega) rfl ?_
      refine zg_aload_n (zd_t dmL_law_10 0 rfl) rfl ?_
      refine zg_callS (zd_t dmL_law_10 1 rfl) zl_L_117 zm_mL_sure zst_mL_sure (av := _) (rest := _) (by rfl) (by rfl) (by exact Nat.le_of_ble_eq_true rfl) hC ?_
      refine zg_istore (zd_t dmL_law_10 2 rfl) (by decide) rfl ?_
      refine zg_aload_n (zd_t dmL_law_10 3 rfl) rfl ?_
      refine zg_aload_n (zd_t dmL_law_10 4 rfl) rfl ?_
      refine zg_iload (zd_t dmL_law_10 5 rfl) rfl ?_
      refine zg_iconst (v := (nI 1)) (zd_t dmL_law_10 6 rfl) (by decide) ?_
      refine zg_iadd (zd_t dmL_law_10 7 rfl) ?_
      refine zg_ti (zd_t dmL_law_10 8 rfl) zs_yS (nI_add i 1) (by omega) (by omega) rfl ?_
      refine zg_callV (zd_t dmL_law_10 9 rfl) zl_L_119 zm_mM_sure zi_mM_sure zse_mM_sure zs_m0 zs_cl3 rfl (av := _) (rest := _) (by rfl) (by rfl) (by exact Nat.le_of_ble_eq_true rfl) hM ?_
      refine zg_istore (zd_t dmL_law_10 10 rfl) (by decide) rfl ?_
      refine zg_aload_n (zd_t dmL_law_10 11 rfl) rfl ?_
      refine zg_callV (zd_t dmL_law_10 12 rfl) zl_L_81 zm_mM_thrown zi_mM_thrown zse_mM_thrown zs_m0 zs_cl3 rfl (av := _) (rest := _) (by rfl) (by rfl) (by exact Nat.le_of_ble_eq_true rfl) (zm_thrown (d := 10)) ?_
      refine zg_iload (zd_t dmL_law_10 13 rfl) rfl ?_
      refine zg_icmp_eq (tgt := 847) (zd_t dmL_law_10 14 rfl) (by decide) (fun _ => ?_) (fun hq => absurd rfl hq)
      refine zg_iload (zd_t dmL_law_10 17 rfl) rfl ?_
      refine zg_if_ne (tgt := 871) (zd_t dmL_law_10 18 rfl) (by decide) (fun hq => absurd (by rw [h0]; rfl) hq) (fun _ => ?_)
      refine zg_aload_n (zd_t dmL_law_10 19 rfl) rfl ?_
      refine zg_iconst (v := (nI 0)) (zd_t dmL_law_10 20 rfl) (by decide) ?_
      refine zg_lald (k := 0) (t0 := 1) (zd_t dmL_law_10 21 rfl) zs_m8 rfl rfl (by decide) (by decide) ?_
      rw [show (if (0 : Nat) = 0 then o1 else 0) = o1 from if_pos rfl]
      refine zg_iload (zd_t dmL_law_10 22 rfl) rfl ?_
      refine zg_if_eq (tgt := 864) (zd_t dmL_law_10 23 rfl) (by decide) (fun _ => ?_) (fun hq => absurd (by decide) hq)
      refine zg_lconst (v := mz_L 0) (zd_t dmL_law_10 26 rfl) (by decide) ?_
      refine zg_lcmp (zd_t dmL_law_10 27 rfl) ?_
      refine zg_if_eq (tgt := 871) (zd_t dmL_law_10 28 rfl) (by decide) (fun _ => ?_) (fun hq => absurd (by rw [hy h0]; exact zy_cmp _) hq)
      refine zg_goto (tgt := 1094) (zd_t dmL_law_10 31 rfl) (by decide) ?_
      exact zg_lv [2, 3, 4, 5, 6] rfl hk
  · skip
    refine zg_aload_n (zd_t dmL_law_9 44 rfl) rfl ?_
    refine zg_aload_n (zd_t dmL_law_9 45 rfl) rfl ?_
    refine zg_iload (zd_t dmL_law_9 46 rfl) rfl ?_
    refine zg_iconst (v := (nI 1)) (zd_t dmL_law_9 47 rfl) (by decide) ?_
    refine zg_iadd (zd_t dmL_law_9 48 rfl) ?_
    refine zg_ti (zd_t dmL_law_9 49 rfl) zs_yS (nI_add i 1) (by omega) (by omega) rfl ?_
    refine zg_aload_n (zd_t dmL_law_10 0 rfl) rfl ?_
    refine zg_callS (zd_t dmL_law_10 1 rfl) zl_L_117 zm_mL_sure zst_mL_sure (av := _) (rest := _) (by rfl) (by rfl) (by exact Nat.le_of_ble_eq_true rfl) hC ?_
    refine zg_istore (zd_t dmL_law_10 2 rfl) (by decide) rfl ?_
    refine zg_aload_n (zd_t dmL_law_10 3 rfl) rfl ?_
    refine zg_aload_n (zd_t dmL_law_10 4 rfl) rfl ?_
    refine zg_iload (zd_t dmL_law_10 5 rfl) rfl ?_
    refine zg_iconst (v := (nI 1)) (zd_t dmL_law_10 6 rfl) (by decide) ?_
    refine zg_iadd (zd_t dmL_law_10 7 rfl) ?_
    refine zg_ti (zd_t dmL_law_10 8 rfl) zs_yS (nI_add i 1) (by omega) (by omega) rfl ?_
    refine zg_callV (zd_t dmL_law_10 9 rfl) zl_L_119 zm_mM_sure zi_mM_sure zse_mM_sure zs_m0 zs_cl3 rfl (av := _) (rest := _) (by rfl) (by rfl) (by exact Nat.le_of_ble_eq_true rfl) hM ?_
    refine zg_istore (zd_t dmL_law_10 10 rfl) (by decide) rfl ?_
    refine zg_aload_n (zd_t dmL_law_10 11 rfl) rfl ?_
    refine zg_callV (zd_t dmL_law_10 12 rfl) zl_L_81 zm_mM_thrown zi_mM_thrown zse_mM_thrown zs_m0 zs_cl3 rfl (av := _) (rest := _) (by rfl) (by rfl) (by exact Nat.le_of_ble_eq_true rfl) (zm_thrown (d := 10)) ?_
    refine zg_iload (zd_t dmL_law_10 13 rfl) rfl ?_
    refine zg_icmp_eq (tgt := 847) (zd_t dmL_law_10 14 rfl) (by decide) (fun _ => ?_) (fun hq => absurd rfl hq)
    refine zg_iload (zd_t dmL_law_10 17 rfl) rfl ?_
    refine zg_if_ne (tgt := 871) (zd_t dmL_law_10 18 rfl) (by decide) (fun _ => ?_) (fun hq => absurd hq (nI_ne0 (by omega) (by omega)))
    refine zg_goto (tgt := 1094) (zd_t dmL_law_10 31 rfl) (by decide) ?_
    exact zg_lv [2, 3, 4, 5, 6] rfl hk
theorem zy_bound (htr : l.stackTraces = false) (hI : zs_inv S) (hL : zp_L P < 2 ^ 30) (hi : i + 5 < zp_L P) (IH : ∀ (S' : zs_S) (th' : Int32) (o' : Int64) (w' : Nat × Nat), zs_inv S' → zy_R l P 1094 i S' th' o' w' n) : zy_R l P 874 i S th o w (n + 1) := by
  obtain ⟨c, S1, w1, v, hc, hI1, hw, hall⟩ := zj_bound (P := P) (th := th) (w := w) htr hI (zp_xs P (i + 1)) (zp_xs P (i + 2))
  obtain ⟨o1, hg, hC, hM⟩ := hall o
  obtain ⟨y, rfl, hy⟩ := hg
  obtain ⟨σ2, hs1, hs2, hk⟩ := IH S1 (nI c) o1 w1 hI1
  refine ⟨σ2, by omega, by omega, ?_⟩
  by_cases h0 : c = 0
  · skip
    refine zg_aload_n (zd_t dmL_law_10 32 rfl) rfl ?_
    refine zg_aload_n (zd_t dmL_law_10 33 rfl) rfl ?_
    refine zg_iload (zd_t dmL_law_10 34 rfl) rfl ?_
    refine zg_iconst (v := (nI 1)) (zd_t dmL_law_10 35 rfl) (by decide) ?_
    refine zg_iadd (zd_t dmL_law_10 36 rfl) ?_
    refine zg_ti (zd_t dmL_law_10 37 rfl) zs_yS (nI_add i 1) (by omega) (by omega) rfl ?_
    refine zg_aload_n (zd_t dmL_law_10 38 rfl) rfl ?_
    refine zg_iload (zd_t dmL_law_10 39 rfl) rfl ?_
    refine zg_iconst (v := (nI 2)) (zd_t dmL_law_10 40 rfl) (by decide) ?_
    refine zg_iadd (zd_t dmL_law_10 41 rfl) ?_
    refine zg_ti (zd_t dmL_law_10 42 rfl) zs_yS (nI_add i 2) (by omega) (by omega) rfl ?_
    refine zg_aload_n (zd_t dmL_law_10 43 rfl) rfl ?_
    refine zg_callS (zd_t dmL_law_10 44 rfl) zl_L_120 zm_mL_bound zst_mL_bound (av := _) (rest := _) (by rfl) (by rfl) (by exact Nat.le_of_ble_eq_true rfl) hC ?_
    refine zg_istore (zd_t dmL_law_10 45 rfl) (by decide) rfl ?_
    refine zg_aload_n (zd_t dmL_law_10 46 rfl) rfl ?_
    refine zg_aload_n (zd_t dmL_law_10 47 rfl) rfl ?_
    refine zg_iload (zd_t dmL_law_10 48 rfl) rfl ?_
    refine zg_iconst (v := (nI 1)) (zd_t dmL_law_10 49 rfl) (by decide) ?_
    refine zg_iadd (zd_t dmL_law_11 0 rfl) ?_
    refine zg_ti (zd_t dmL_law_11 1 rfl) zs_yS (nI_add i 1) (by omega) (by omega) rfl ?_
    refine zg_aload_n (zd_t dmL_law_11 2 rfl) rfl ?_
    refine zg_iload (zd_t dmL_law_11 3 rfl) rfl ?_
    refine zg_iconst (v := (nI 2)) (zd_t dmL_law_11 4 rfl) (by decide) ?_
    refine zg_iadd (zd_t dmL_law_11 5 rfl) ?_
    refine zg_ti (zd_t dmL_law_11 6 rfl) zs_yS (nI_add i 2) (by omega) (by omega) rfl ?_
    refine zg_callV (zd_t dmL_law_11 7 rfl) zl_L_122 zm_mM_bound zi_mM_bound zse_mM_bound zs_m0 zs_cl3 rfl (av := _) (rest := _) (by rfl) (by rfl) (by exact Nat.le_of_ble_eq_true rfl) hM ?_
    refine zg_lstore (zd_t dmL_law_11 8 rfl) (by decide) rfl ?_
    refine zg_aload_n (zd_t dmL_law_11 9 rfl) rfl ?_
    refine zg_callV (zd_t dmL_law_11 10 rfl) zl_L_81 zm_mM_thrown zi_mM_thrown zse_mM_thrown zs_m0 zs_cl3 rfl (av := _) (rest := _) (by rfl) (by rfl) (by exact Nat.le_of_ble_eq_true rfl) (zm_thrown (d := 10)) ?_
    refine zg_iload (zd_t dmL_law_11 11 rfl) rfl ?_
    refine zg_icmp_eq (tgt := 922) (zd_t dmL_law_11 12 rfl) (by decide) (fun _ => ?_) (fun hq => absurd rfl hq)
    refine zg_iload (zd_t dmL_law_11 15 rfl) rfl ?_
    refine zg_if_ne (tgt := 938) (zd_t dmL_law_11 16 rfl) (by decide) (fun hq => absurd (by rw [h0]; rfl) hq) (fun _ => ?_)
    refine zg_aload_n (zd_t dmL_law_11 17 rfl) rfl ?_
    refine zg_iconst (v := (nI 0)) (zd_t dmL_law_11 18 rfl) (by decide) ?_
    refine zg_lald (k := 0) (t0 := 1) (zd_t dmL_law_11 19 rfl) zs_m8 rfl rfl (by decide) (by decide) ?_
    rw [show (if (0 : Nat) = 0 then o1 else 0) = o1 from if_pos rfl]
    refine zg_lload (zd_t dmL_law_11 20 rfl) rfl ?_
    refine zg_lcmp (zd_t dmL_law_11 21 rfl) ?_
    refine zg_if_eq (tgt := 938) (zd_t dmL_law_11 22 rfl) (by decide) (fun _ => ?_) (fun hq => absurd (by rw [hy h0]; exact zy_cmp _) hq)
    refine zg_goto (tgt := 1094) (zd_t dmL_law_11 25 rfl) (by decide) ?_
    exact zg_lv [2, 3, 4, 5, 6] rfl hk
  · skip
    refine zg_aload_n (zd_t dmL_law_10 32 rfl) rfl ?_
    refine zg_aload_n (zd_t dmL_law_10 33 rfl) rfl ?_
    refine zg_iload (zd_t dmL_law_10 34 rfl) rfl ?_
    refine zg_iconst (v := (nI 1)) (zd_t dmL_law_10 35 rfl) (by decide) ?_
    refine zg_iadd (zd_t dmL_law_10 36 rfl) ?_
    refine zg_ti (zd_t dmL_law_10 37 rfl) zs_yS (nI_add i 1) (by omega) (by omega) rfl ?_
    refine zg_aload_n (zd_t dmL_law_10 38 rfl) rfl ?_
    refine zg_iload (zd_t dmL_law_10 39 rfl) rfl ?_
    refine zg_iconst (v := (nI 2)) (zd_t dmL_law_10 40 rfl) (by decide) ?_
    refine zg_iadd (zd_t dmL_law_10 41 rfl) ?_
    refine zg_ti (zd_t dmL_law_10 42 rfl) zs_yS (nI_add i 2) (by omega) (by omega) rfl ?_
    refine zg_aload_n (zd_t dmL_law_10 43 rfl) rfl ?_
    refine zg_callS (zd_t dmL_law_10 44 rfl) zl_L_120 zm_mL_bound zst_mL_bound (av := _) (rest := _) (by rfl) (by rfl) (by exact Nat.le_of_ble_eq_true rfl) hC ?_
    refine zg_istore (zd_t dmL_law_10 45 rfl) (by decide) rfl ?_
    refine zg_aload_n (zd_t dmL_law_10 46 rfl) rfl ?_
    refine zg_aload_n (zd_t dmL_law_10 47 rfl) rfl ?_
    refine zg_iload (zd_t dmL_law_10 48 rfl) rfl ?_
    refine zg_iconst (v := (nI 1)) (zd_t dmL_law_10 49 rfl) (by decide) ?_
    refine zg_iadd (zd_t dmL_law_11 0 rfl) ?_
    refine zg_ti (zd_t dmL_law_11 1 rfl) zs_yS (nI_add i 1) (by omega) (by omega) rfl ?_
    refine zg_aload_n (zd_t dmL_law_11 2 rfl) rfl ?_
    refine zg_iload (zd_t dmL_law_11 3 rfl) rfl ?_
    refine zg_iconst (v := (nI 2)) (zd_t dmL_law_11 4 rfl) (by decide) ?_
    refine zg_iadd (zd_t dmL_law_11 5 rfl) ?_
    refine zg_ti (zd_t dmL_law_11 6 rfl) zs_yS (nI_add i 2) (by omega) (by omega) rfl ?_
    refine zg_callV (zd_t dmL_law_11 7 rfl) zl_L_122 zm_mM_bound zi_mM_bound zse_mM_bound zs_m0 zs_cl3 rfl (av := _) (rest := _) (by rfl) (by rfl) (by exact Nat.le_of_ble_eq_true rfl) hM ?_
    refine zg_lstore (zd_t dmL_law_11 8 rfl) (by decide) rfl ?_
    refine zg_aload_n (zd_t dmL_law_11 9 rfl) rfl ?_
    refine zg_callV (zd_t dmL_law_11 10 rfl) zl_L_81 zm_mM_thrown zi_mM_thrown zse_mM_thrown zs_m0 zs_cl3 rfl (av := _) (rest := _) (by rfl) (by rfl) (by exact Nat.le_of_ble_eq_true rfl) (zm_thrown (d := 10)) ?_
    refine zg_iload (zd_t dmL_law_11 11 rfl) rfl ?_
    refine zg_icmp_eq (tgt := 922) (zd_t dmL_law_11 12 rfl) (by decide) (fun _ => ?_) (fun hq => absurd rfl hq)
    refine zg_iload (zd_t dmL_law_11 15 rfl) rfl ?_
    refine zg_if_ne (tgt := 938) (zd_t dmL_law_11 16 rfl) (by decide) (fun _ => ?_) (fun hq => absurd hq (nI_ne0 (by omega) (by omega)))
    refine zg_goto (tgt := 1094) (zd_t dmL_law_11 25 rfl) (by decide) ?_
    exact zg_lv [2, 3, 4, 5, 6] rfl hk
theorem zy_instruct (htr : l.stackTraces = false) (hI : zs_inv S) (hL : zp_L P < 2 ^ 30) (hi : i + 5 < zp_L P) (IH : ∀ (S' : zs_S) (th' : Int32) (o' : Int64) (w' : Nat × Nat), zs_inv S' → zy_R l P 1094 i S' th' o' w' n) : zy_R l P 941 i S th o w (n + 1) := by
  obtain ⟨c, S1, w1, v, hc, hI1, hw, hall⟩ := zj_instruct (P := P) (th := th) (w := w) htr hI (zp_xs P (i + 1)) (zp_xs P (i + 2)) (zp_xs P (i + 3)) (zp_xs P (i + 4)) (zp_xs P (i + 5))
  obtain ⟨o1, hg, hC, hM⟩ := hall o
  cases (show v = none from hg)
  obtain ⟨σ2, hs1, hs2, hk⟩ := IH S1 (nI c) o1 w1 hI1
  refine ⟨σ2, by omega, by omega, ?_⟩
  refine zg_aload_n (zd_t dmL_law_11 26 rfl) rfl ?_
  refine zg_aload_n (zd_t dmL_law_11 27 rfl) rfl ?_
  refine zg_iload (zd_t dmL_law_11 28 rfl) rfl ?_
  refine zg_iconst (v := (nI 1)) (zd_t dmL_law_11 29 rfl) (by decide) ?_
  refine zg_iadd (zd_t dmL_law_11 30 rfl) ?_
  refine zg_ti (zd_t dmL_law_11 31 rfl) zs_yS (nI_add i 1) (by omega) (by omega) rfl ?_
  refine zg_aload_n (zd_t dmL_law_11 32 rfl) rfl ?_
  refine zg_iload (zd_t dmL_law_11 33 rfl) rfl ?_
  refine zg_iconst (v := (nI 2)) (zd_t dmL_law_11 34 rfl) (by decide) ?_
  refine zg_iadd (zd_t dmL_law_11 35 rfl) ?_
  refine zg_ti (zd_t dmL_law_11 36 rfl) zs_yS (nI_add i 2) (by omega) (by omega) rfl ?_
  refine zg_aload_n (zd_t dmL_law_11 37 rfl) rfl ?_
  refine zg_iload (zd_t dmL_law_11 38 rfl) rfl ?_
  refine zg_iconst (v := (nI 3)) (zd_t dmL_law_11 39 rfl) (by decide) ?_
  refine zg_iadd (zd_t dmL_law_11 40 rfl) ?_
  refine zg_ti (zd_t dmL_law_11 41 rfl) zs_yS (nI_add i 3) (by omega) (by omega) rfl ?_
  refine zg_aload_n (zd_t dmL_law_11 42 rfl) rfl ?_
  refine zg_iload (zd_t dmL_law_11 43 rfl) rfl ?_
  refine zg_iconst (v := (nI 4)) (zd_t dmL_law_11 44 rfl) (by decide) ?_
  refine zg_iadd (zd_t dmL_law_11 45 rfl) ?_
  refine zg_ti (zd_t dmL_law_11 46 rfl) zs_yS (nI_add i 4) (by omega) (by omega) rfl ?_
  refine zg_aload_n (zd_t dmL_law_11 47 rfl) rfl ?_
  refine zg_iload (zd_t dmL_law_11 48 rfl) rfl ?_
  refine zg_iconst (v := (nI 5)) (zd_t dmL_law_11 49 rfl) (by decide) ?_
  refine zg_iadd (zd_t dmL_law_12 0 rfl) ?_
  refine zg_ti (zd_t dmL_law_12 1 rfl) zs_yS (nI_add i 5) (by omega) (by omega) rfl ?_
  refine zg_callS (zd_t dmL_law_12 2 rfl) zl_L_123 zm_mL_instruct zst_mL_instruct (av := _) (rest := _) (by rfl) (by rfl) (by exact Nat.le_of_ble_eq_true rfl) hC ?_
  refine zg_istore (zd_t dmL_law_12 3 rfl) (by decide) rfl ?_
  refine zg_aload_n (zd_t dmL_law_12 4 rfl) rfl ?_
  refine zg_aload_n (zd_t dmL_law_12 5 rfl) rfl ?_
  refine zg_iload (zd_t dmL_law_12 6 rfl) rfl ?_
  refine zg_iconst (v := (nI 1)) (zd_t dmL_law_12 7 rfl) (by decide) ?_
  refine zg_iadd (zd_t dmL_law_12 8 rfl) ?_
  refine zg_ti (zd_t dmL_law_12 9 rfl) zs_yS (nI_add i 1) (by omega) (by omega) rfl ?_
  refine zg_aload_n (zd_t dmL_law_12 10 rfl) rfl ?_
  refine zg_iload (zd_t dmL_law_12 11 rfl) rfl ?_
  refine zg_iconst (v := (nI 2)) (zd_t dmL_law_12 12 rfl) (by decide) ?_
  refine zg_iadd (zd_t dmL_law_12 13 rfl) ?_
  refine zg_ti (zd_t dmL_law_12 14 rfl) zs_yS (nI_add i 2) (by omega) (by omega) rfl ?_
  refine zg_aload_n (zd_t dmL_law_12 15 rfl) rfl ?_
  refine zg_iload (zd_t dmL_law_12 16 rfl) rfl ?_
  refine zg_iconst (v := (nI 3)) (zd_t dmL_law_12 17 rfl) (by decide) ?_
  refine zg_iadd (zd_t dmL_law_12 18 rfl) ?_
  refine zg_ti (zd_t dmL_law_12 19 rfl) zs_yS (nI_add i 3) (by omega) (by omega) rfl ?_
  refine zg_aload_n (zd_t dmL_law_12 20 rfl) rfl ?_
  refine zg_iload (zd_t dmL_law_12 21 rfl) rfl ?_
  refine zg_iconst (v := (nI 4)) (zd_t dmL_law_12 22 rfl) (by decide) ?_
  refine zg_iadd (zd_t dmL_law_12 23 rfl) ?_
  refine zg_ti (zd_t dmL_law_12 24 rfl) zs_yS (nI_add i 4) (by omega) (by omega) rfl ?_
  refine zg_aload_n (zd_t dmL_law_12 25 rfl) rfl ?_
  refine zg_iload (zd_t dmL_law_12 26 rfl) rfl ?_
  refine zg_iconst (v := (nI 5)) (zd_t dmL_law_12 27 rfl) (by decide) ?_
  refine zg_iadd (zd_t dmL_law_12 28 rfl) ?_
  refine zg_ti (zd_t dmL_law_12 29 rfl) zs_yS (nI_add i 5) (by omega) (by omega) rfl ?_
  refine zg_callV (zd_t dmL_law_12 30 rfl) zl_L_126 zm_mM_instruct zi_mM_instruct zse_mM_instruct zs_m0 zs_cl3 rfl (av := _) (rest := _) (by rfl) (by rfl) (by exact Nat.le_of_ble_eq_true rfl) hM ?_
  refine zg_aload_n (zd_t dmL_law_12 31 rfl) rfl ?_
  refine zg_callV (zd_t dmL_law_12 32 rfl) zl_L_81 zm_mM_thrown zi_mM_thrown zse_mM_thrown zs_m0 zs_cl3 rfl (av := _) (rest := _) (by rfl) (by rfl) (by exact Nat.le_of_ble_eq_true rfl) (zm_thrown (d := 10)) ?_
  refine zg_iload (zd_t dmL_law_12 33 rfl) rfl ?_
  refine zg_icmp_eq (tgt := 1022) (zd_t dmL_law_12 34 rfl) (by decide) (fun _ => ?_) (fun hq => absurd rfl hq)
  refine zg_goto (tgt := 1094) (zd_t dmL_law_12 37 rfl) (by decide) ?_
  exact zg_lv [1, 2, 3, 4, 5] rfl hk
theorem zy_run (htr : l.stackTraces = false) (hI : zs_inv S) (hL : zp_L P < 2 ^ 30) (hi : i + 5 < zp_L P) (IH : ∀ (S' : zs_S) (th' : Int32) (o' : Int64) (w' : Nat × Nat), zs_inv S' → zy_R l P 1094 i S' th' o' w' n) : zy_R l P 1025 i S th o w (n + 1) := by
  obtain ⟨c, S1, w1, v, hc, hI1, hw, hall⟩ := zj_run (P := P) (th := th) (w := w) htr hI (zp_xs P (i + 1))
  obtain ⟨o1, hg, hC, hM⟩ := hall o
  obtain ⟨y, rfl, hy⟩ := hg
  obtain ⟨σ2, hs1, hs2, hk⟩ := IH S1 (nI c) o1 w1 hI1
  refine ⟨σ2, by omega, by omega, ?_⟩
  by_cases h0 : c = 0
  · skip
    refine zg_aload_n (zd_t dmL_law_12 38 rfl) rfl ?_
    refine zg_aload_n (zd_t dmL_law_12 39 rfl) rfl ?_
    refine zg_iload (zd_t dmL_law_12 40 rfl) rfl ?_
    refine zg_iconst (v := (nI 1)) (zd_t dmL_law_12 41 rfl) (by decide) ?_
    refine zg_iadd (zd_t dmL_law_12 42 rfl) ?_
    refine zg_ti (zd_t dmL_law_12 43 rfl) zs_yS (nI_add i 1) (by omega) (by omega) rfl ?_
    refine zg_aload_n (zd_t dmL_law_12 44 rfl) rfl ?_
    refine zg_callS (zd_t dmL_law_12 45 rfl) zl_L_127 zm_mL_run zst_mL_run (av := _) (rest := _) (by rfl) (by rfl) (by exact Nat.le_of_ble_eq_true rfl) hC ?_
    refine zg_istore (zd_t dmL_law_12 46 rfl) (by decide) rfl ?_
    refine zg_aload_n (zd_t dmL_law_12 47 rfl) rfl ?_
    refine zg_aload_n (zd_t dmL_law_12 48 rfl) rfl ?_
    refine zg_iload (zd_t dmL_law_12 49 rfl) rfl ?_
    refine zg_iconst (v := (nI 1)) (zd_t dmL_law_13 0 rfl) (by decide) ?_
    refine zg_iadd (zd_t dmL_law_13 1 rfl) ?_
    refine zg_ti (zd_t dmL_law_13 2 rfl) zs_yS (nI_add i 1) (by omega) (by omega) rfl ?_
    refine zg_callV (zd_t dmL_law_13 3 rfl) zl_L_129 zm_mM_run zi_mM_run zse_mM_run zs_m0 zs_cl3 rfl (av := _) (rest := _) (by rfl) (by rfl) (by exact Nat.le_of_ble_eq_true rfl) hM ?_
    refine zg_istore (zd_t dmL_law_13 4 rfl) (by decide) rfl ?_
    refine zg_aload_n (zd_t dmL_law_13 5 rfl) rfl ?_
    refine zg_callV (zd_t dmL_law_13 6 rfl) zl_L_81 zm_mM_thrown zi_mM_thrown zse_mM_thrown zs_m0 zs_cl3 rfl (av := _) (rest := _) (by rfl) (by rfl) (by exact Nat.le_of_ble_eq_true rfl) (zm_thrown (d := 10)) ?_
    refine zg_iload (zd_t dmL_law_13 7 rfl) rfl ?_
    refine zg_icmp_eq (tgt := 1061) (zd_t dmL_law_13 8 rfl) (by decide) (fun _ => ?_) (fun hq => absurd rfl hq)
    refine zg_iload (zd_t dmL_law_13 11 rfl) rfl ?_
    refine zg_if_ne (tgt := 1078) (zd_t dmL_law_13 12 rfl) (by decide) (fun hq => absurd (by rw [h0]; rfl) hq) (fun _ => ?_)
    refine zg_aload_n (zd_t dmL_law_13 13 rfl) rfl ?_
    refine zg_iconst (v := (nI 0)) (zd_t dmL_law_13 14 rfl) (by decide) ?_
    refine zg_lald (k := 0) (t0 := 1) (zd_t dmL_law_13 15 rfl) zs_m8 rfl rfl (by decide) (by decide) ?_
    rw [show (if (0 : Nat) = 0 then o1 else 0) = o1 from if_pos rfl]
    refine zg_iload (zd_t dmL_law_13 16 rfl) rfl ?_
    refine zg_i2l (zd_t dmL_law_13 17 rfl) rfl ?_
    refine zg_lcmp (zd_t dmL_law_13 18 rfl) ?_
    refine zg_if_eq (tgt := 1078) (zd_t dmL_law_13 19 rfl) (by decide) (fun _ => ?_) (fun hq => absurd (by rw [hy h0]; exact zy_cmp _) hq)
    refine zg_goto (tgt := 1094) (zd_t dmL_law_13 22 rfl) (by decide) ?_
    exact zg_lv [2, 3, 4, 5, 6] rfl hk
  · skip
    refine zg_aload_n (zd_t dmL_law_12 38 rfl) rfl ?_
    refine zg_aload_n (zd_t dmL_law_12 39 rfl) rfl ?_
    refine zg_iload (zd_t dmL_law_12 40 rfl) rfl ?_
    refine zg_iconst (v := (nI 1)) (zd_t dmL_law_12 41 rfl) (by decide) ?_
    refine zg_iadd (zd_t dmL_law_12 42 rfl) ?_
    refine zg_ti (zd_t dmL_law_12 43 rfl) zs_yS (nI_add i 1) (by omega) (by omega) rfl ?_
    refine zg_aload_n (zd_t dmL_law_12 44 rfl) rfl ?_
    refine zg_callS (zd_t dmL_law_12 45 rfl) zl_L_127 zm_mL_run zst_mL_run (av := _) (rest := _) (by rfl) (by rfl) (by exact Nat.le_of_ble_eq_true rfl) hC ?_
    refine zg_istore (zd_t dmL_law_12 46 rfl) (by decide) rfl ?_
    refine zg_aload_n (zd_t dmL_law_12 47 rfl) rfl ?_
    refine zg_aload_n (zd_t dmL_law_12 48 rfl) rfl ?_
    refine zg_iload (zd_t dmL_law_12 49 rfl) rfl ?_
    refine zg_iconst (v := (nI 1)) (zd_t dmL_law_13 0 rfl) (by decide) ?_
    refine zg_iadd (zd_t dmL_law_13 1 rfl) ?_
    refine zg_ti (zd_t dmL_law_13 2 rfl) zs_yS (nI_add i 1) (by omega) (by omega) rfl ?_
    refine zg_callV (zd_t dmL_law_13 3 rfl) zl_L_129 zm_mM_run zi_mM_run zse_mM_run zs_m0 zs_cl3 rfl (av := _) (rest := _) (by rfl) (by rfl) (by exact Nat.le_of_ble_eq_true rfl) hM ?_
    refine zg_istore (zd_t dmL_law_13 4 rfl) (by decide) rfl ?_
    refine zg_aload_n (zd_t dmL_law_13 5 rfl) rfl ?_
    refine zg_callV (zd_t dmL_law_13 6 rfl) zl_L_81 zm_mM_thrown zi_mM_thrown zse_mM_thrown zs_m0 zs_cl3 rfl (av := _) (rest := _) (by rfl) (by rfl) (by exact Nat.le_of_ble_eq_true rfl) (zm_thrown (d := 10)) ?_
    refine zg_iload (zd_t dmL_law_13 7 rfl) rfl ?_
    refine zg_icmp_eq (tgt := 1061) (zd_t dmL_law_13 8 rfl) (by decide) (fun _ => ?_) (fun hq => absurd rfl hq)
    refine zg_iload (zd_t dmL_law_13 11 rfl) rfl ?_
    refine zg_if_ne (tgt := 1078) (zd_t dmL_law_13 12 rfl) (by decide) (fun _ => ?_) (fun hq => absurd hq (nI_ne0 (by omega) (by omega)))
    refine zg_goto (tgt := 1094) (zd_t dmL_law_13 22 rfl) (by decide) ?_
    exact zg_lv [2, 3, 4, 5, 6] rfl hk
theorem zy_stopped (htr : l.stackTraces = false) (hI : zs_inv S) (hL : zp_L P < 2 ^ 30) (hi : i + 5 < zp_L P) (IH : ∀ (S' : zs_S) (th' : Int32) (o' : Int64) (w' : Nat × Nat), zs_inv S' → zy_R l P 1094 i S' th' o' w' n) : zy_R l P 1081 i S th o w (n + 1) := by
  obtain ⟨σ2, hs1, hs2, hk⟩ := IH S (nI 0) o w hI
  refine ⟨σ2, by omega, by omega, ?_⟩
  refine zg_aload_n (zd_t dmL_law_13 23 rfl) rfl ?_
  refine zg_callV (zd_t dmL_law_13 24 rfl) zl_L_130 zm_mU_stopped zi_mU_stopped zse_mU_stopped zs_0 zs_cl0 rfl (av := _) (rest := _) (by rfl) (by rfl) (by exact Nat.le_of_ble_eq_true rfl) (zu_stopped (d := 4)) ?_
  refine zg_aload_n (zd_t dmL_law_13 25 rfl) rfl ?_
  refine zg_callV (zd_t dmL_law_13 26 rfl) zl_L_133 zm_mM_stopped zi_mM_stopped zse_mM_stopped zs_m0 zs_cl3 rfl (av := _) (rest := _) (by rfl) (by rfl) (by exact Nat.le_of_ble_eq_true rfl) (zm_stopped (d := 6)) ?_
  refine zg_icmp_eq (tgt := 1094) (zd_t dmL_law_13 27 rfl) (by decide) (fun _ => ?_) (fun hq => absurd rfl hq)
  exact hk
theorem zy_none (htr : l.stackTraces = false) (hI : zs_inv S) (hL : zp_L P < 2 ^ 30) (hi : i + 5 < zp_L P) (IH : ∀ (S' : zs_S) (th' : Int32) (o' : Int64) (w' : Nat × Nat), zs_inv S' → zy_R l P 1094 i S' th' o' w' n) : zy_R l P 1094 i S th o w (n + 1) := by
  obtain ⟨σ2, hs1, hs2, hk⟩ := IH S th o w hI
  exact ⟨σ2, by omega, by omega, hk⟩
theorem zy_in {pc : Nat} {m : Nat} {off : Int} (h : zy_R l P pc i S th o w n) (hx : zp_xs P i &&& nI 15 = nI m) (h1 : ¬ (nI m).toInt < 0) (h2 : ¬ 14 < (nI m).toInt) (ho : (#[76, 156, 211, 283, 351, 439, 511, 579, 659, 715, 771, 834, 901, 985, 1041] : Array Int)[((nI m).toInt - 0).toNat]? = some off) (ht : ((40 : Nat) : Int) + off = (pc : Int)) (hL : zp_L P < 2 ^ 30) (hi : i + 5 < zp_L P) : zy_R l P 33 i S th o w n := by
  obtain ⟨σ2, hs1, hs2, hk⟩ := h
  refine ⟨σ2, hs1, hs2, ?_⟩
  refine zg_aload_n (zd_t dmL_law_0 19 rfl) rfl ?_
  refine zg_iload (zd_t dmL_law_0 20 rfl) rfl ?_
  refine zg_ti (zd_t dmL_law_0 21 rfl) zs_yS rfl (by omega) (by omega) rfl ?_
  refine zg_bipush (v := (nI 15)) (zd_t dmL_law_0 22 rfl) (by decide) ?_
  refine zg_iand (zd_t dmL_law_0 23 rfl) ?_
  rw [hx]
  exact zg_tableIn (zd_t dmL_law_0 24 rfl) h1 h2 ho ht hk
theorem zy_out {m : Nat} (h : zy_R l P 1094 i S th o w n) (hx : zp_xs P i &&& nI 15 = nI m) (h1 : 14 < (nI m).toInt) (hL : zp_L P < 2 ^ 30) (hi : i + 5 < zp_L P) : zy_R l P 33 i S th o w n := by
  obtain ⟨σ2, hs1, hs2, hk⟩ := h
  refine ⟨σ2, hs1, hs2, ?_⟩
  refine zg_aload_n (zd_t dmL_law_0 19 rfl) rfl ?_
  refine zg_iload (zd_t dmL_law_0 20 rfl) rfl ?_
  refine zg_ti (zd_t dmL_law_0 21 rfl) zs_yS rfl (by omega) (by omega) rfl ?_
  refine zg_bipush (v := (nI 15)) (zd_t dmL_law_0 22 rfl) (by decide) ?_
  refine zg_iand (zd_t dmL_law_0 23 rfl) ?_
  rw [hx]
  exact zg_tableOut (tgt := 1094) (zd_t dmL_law_0 24 rfl) (Or.inr h1) (by decide) hk
theorem zy_step (htr : l.stackTraces = false) (hI : zs_inv S) (hL : zp_L P < 2 ^ 30) (hi : i + 5 < zp_L P) (IH : ∀ (S' : zs_S) (th' : Int32) (o' : Int64) (w' : Nat × Nat), zs_inv S' → zy_R l P 1094 i S' th' o' w' n) : zy_R l P 33 i S th o w (n + 1) := by
  obtain ⟨m, hm, hx⟩ := zy_and (zp_xs P i)
  rcases (by omega : m = 0 ∨ m = 1 ∨ m = 2 ∨ m = 3 ∨ m = 4 ∨ m = 5 ∨ m = 6 ∨ m = 7 ∨ m = 8 ∨ m = 9 ∨ m = 10 ∨ m = 11 ∨ m = 12 ∨ m = 13 ∨ m = 14 ∨ m = 15) with rfl | rfl | rfl | rfl | rfl | rfl | rfl | rfl | rfl | rfl | rfl | rfl | rfl | rfl | rfl | rfl
  · exact zy_in (zy_load htr hI hL hi IH) hx (by decide) (by decide) (off := 76) (by decide) (by decide) hL hi
  · exact zy_in (zy_binary htr hI hL hi IH) hx (by decide) (by decide) (off := 156) (by decide) (by decide) hL hi
  · exact zy_in (zy_work htr hI hL hi IH) hx (by decide) (by decide) (off := 211) (by decide) (by decide) hL hi
  · exact zy_in (zy_compare htr hI hL hi IH) hx (by decide) (by decide) (off := 283) (by decide) (by decide) hL hi
  · exact zy_in (zy_scale htr hI hL hi IH) hx (by decide) (by decide) (off := 351) (by decide) (by decide) hL hi
  · exact zy_in (zy_divide htr hI hL hi IH) hx (by decide) (by decide) (off := 439) (by decide) (by decide) hL hi
  · exact zy_in (zy_channel htr hI hL hi IH) hx (by decide) (by decide) (off := 511) (by decide) (by decide) hL hi
  · exact zy_in (zy_inject htr hI hL hi IH) hx (by decide) (by decide) (off := 579) (by decide) (by decide) hL hi
  · exact zy_in (zy_verify htr hI hL hi IH) hx (by decide) (by decide) (off := 659) (by decide) (by decide) hL hi
  · exact zy_in (zy_repair htr hI hL hi IH) hx (by decide) (by decide) (off := 715) (by decide) (by decide) hL hi
  · exact zy_in (zy_sure htr hI hL hi IH) hx (by decide) (by decide) (off := 771) (by decide) (by decide) hL hi
  · exact zy_in (zy_bound htr hI hL hi IH) hx (by decide) (by decide) (off := 834) (by decide) (by decide) hL hi
  · exact zy_in (zy_instruct htr hI hL hi IH) hx (by decide) (by decide) (off := 901) (by decide) (by decide) hL hi
  · exact zy_in (zy_run htr hI hL hi IH) hx (by decide) (by decide) (off := 985) (by decide) (by decide) hL hi
  · exact zy_in (zy_stopped htr hI hL hi IH) hx (by decide) (by decide) (off := 1041) (by decide) (by decide) hL hi
  · exact zy_out (zy_none htr hI hL hi IH) hx (by decide) hL hi
theorem zy_loop (htr : l.stackTraces = false) (hL : zp_L P < 2 ^ 30) : ∀ (n i : Nat), zp_L P < i + 6 * n + 6 → i < 2 ^ 30 + 6 → ∀ (S : zs_S) (th : Int32) (o : Int64) (w : Nat × Nat), zs_inv S → zy_R l P 23 i S th o w n := by
  intro n
  have fin : ∀ (n i : Nat), zp_L P < i + 6 → i < 2 ^ 30 + 6 → ∀ (S : zs_S) (th : Int32) (o : Int64) (w : Nat × Nat), zy_R l P 23 i S th o w n := by
    intro n i h1 h3 S th o w
    refine ⟨zs_σ P S th (zs_b S) o w, Nat.le_add_right _ _, Nat.le_add_right _ _, ?_⟩
    refine zg_iload (zd_t dmL_law_0 13 rfl) rfl ?_
    refine zg_aload_n (zd_t dmL_law_0 14 rfl) rfl ?_
    refine zg_tlen (zd_t dmL_law_0 15 rfl) zs_yS rfl ?_
    refine zg_bipush (v := (nI 6)) (zd_t dmL_law_0 16 rfl) (by decide) ?_
    refine zg_isub (zd_t dmL_law_0 17 rfl) ?_
    have e := pk_sub_toInt (a := zp_L P) (b := 6) hL (by decide)
    refine zg_icmp_gt (tgt := 1100) (zd_t dmL_law_0 18 rfl) (by decide) (fun _ => ?_) (fun hq => absurd (by rw [Int32.lt_iff_toInt_lt, e, nI_toInt (by omega)]; omega) hq)
    refine zg_iconst (v := (nI 1)) (zd_t dmL_law_13 32 rfl) (by decide) ?_
    exact zg_zret (zd_t dmL_law_13 33 rfl) rfl rfl rfl
  induction n with
  | zero =>
    intro i h1 h3 S th o w _
    exact fin 0 i (by omega) h3 S th o w
  | succ n ih =>
    intro i h1 h3 S th o w hI
    by_cases h2 : zp_L P < i + 6
    · exact fin (n + 1) i h2 h3 S th o w
    · have IH : ∀ (S' : zs_S) (th' : Int32) (o' : Int64) (w' : Nat × Nat), zs_inv S' → zy_R l P 1094 i S' th' o' w' n := by
        intro S' th' o' w' hI'
        obtain ⟨σ2, hs1, hs2, hk⟩ := ih (i + 6) (by omega) (by omega) S' th' o' w' hI'
        refine ⟨σ2, hs1, hs2, ?_⟩
        refine zg_iinc (lv2 := zy_lv P (i + 6)) (zd_t dmL_law_13 30 rfl) rfl (nI_add i 6) (by decide) rfl ?_
        refine zg_goto (tgt := 23) (zd_t dmL_law_13 31 rfl) (by decide) ?_
        exact hk
      obtain ⟨σ2, hs1, hs2, hk⟩ := zy_step (th := th) (o := o) (w := w) htr hI hL (by omega) IH
      refine ⟨σ2, hs1, hs2, ?_⟩
      refine zg_iload (zd_t dmL_law_0 13 rfl) rfl ?_
      refine zg_aload_n (zd_t dmL_law_0 14 rfl) rfl ?_
      refine zg_tlen (zd_t dmL_law_0 15 rfl) zs_yS rfl ?_
      refine zg_bipush (v := (nI 6)) (zd_t dmL_law_0 16 rfl) (by decide) ?_
      refine zg_isub (zd_t dmL_law_0 17 rfl) ?_
      have e := pk_sub_toInt (a := zp_L P) (b := 6) hL (by decide)
      refine zg_icmp_gt (tgt := 1100) (zd_t dmL_law_0 18 rfl) (by decide) (fun hq => absurd hq (by rw [Int32.lt_iff_toInt_lt, e, nI_toInt (by omega)]; omega)) (fun _ => ?_)
      exact hk
end ZM23
