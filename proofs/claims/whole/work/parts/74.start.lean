def zs_S0 : zs_S := (0, 0, fun _ _ => 0, fun _ => 0, fun j => decide (j < 16), fun _ _ => 0)
theorem zs_inv0 : zs_inv zs_S0 := ⟨fun _ _ t _ => (mz_m_lt t).2, fun _ _ => mz_hr_0, fun _ _ => (show zs_alw 0 0 0 0 = true by decide)⟩
theorem zb_rs_get (B : Nat) (ca : Nat → ClassId) : ∀ (r m : Nat), m < 2 * r → (zb_rs B ca r)[m]? = some (if m % 2 = 0 then zb_rg (B + (3 + m)) else zb_re ca)
  | 0, m, h => absurd h (by omega)
  | r + 1, m, h => by
    unfold zb_rs
    rw [List.getElem?_append, zb_rs_len]
    by_cases h1 : m < 2 * r
    · rw [if_pos h1]
      exact zb_rs_get B ca r m h1
    · rw [if_neg h1]
      rcases (by omega : m = 2 * r ∨ m = 2 * r + 1) with rfl | rfl
      · rw [show 2 * r - 2 * r = 0 by omega, if_pos (by omega)]
        rfl
      · rw [show 2 * r + 1 - 2 * r = 1 by omega, if_neg (by omega)]
        rfl
theorem zb_is_get : ∀ (i m : Nat), m < i → (zb_is i)[m]? = some zb_iD
  | 0, m, h => absurd h (by omega)
  | i + 1, m, h => by
    unfold zb_is
    rw [List.getElem?_append, zb_is_len]
    by_cases h1 : m < i
    · rw [if_pos h1]
      exact zb_is_get i m h1
    · rw [if_neg h1, show m - i = 0 by omega]
      rfl
theorem zb_uc (B : Nat) (ca : Nat → ClassId) (n : Nat) (hn : n < 67) : (zb_L B ca 16 32)[n]? = zs_uc ca B zs_S0 n := by
  unfold zs_uc zb_L
  by_cases h0 : n = 0
  · rw [if_pos h0, h0, List.getElem?_cons_zero]
    rfl
  rw [if_neg h0]
  by_cases h1 : n = 1
  · rw [if_pos h1, h1, List.getElem?_cons_succ, List.getElem?_cons_zero]
    rfl
  rw [if_neg h1]
  by_cases h2 : n = 2
  · rw [if_pos h2, h2, List.getElem?_cons_succ, List.getElem?_cons_succ, List.getElem?_cons_zero]
    rfl
  rw [if_neg h2]
  obtain ⟨m, rfl⟩ : ∃ m, n = m + 1 + 1 + 1 := ⟨n - 3, by omega⟩
  rw [List.getElem?_cons_succ, List.getElem?_cons_succ, List.getElem?_cons_succ]
  rw [List.getElem?_append, zb_rs_len]
  by_cases h3 : m < 2 * 16
  · rw [if_pos h3, zb_rs_get B ca 16 m h3, if_pos (show m + 1 + 1 + 1 < 35 by omega)]
    by_cases h4 : m % 2 = 0
    · rw [if_pos h4, if_pos (show (m + 1 + 1 + 1) % 2 = 1 by omega)]
      show some (Sum.inr (1, [Value.ref (B + (3 + m) + 1), Value.long (mz_L 0), Value.int (zs_bi true)])) = some (Sum.inr (1, [Value.ref (B + (m + 1 + 1 + 1) + 1), Value.long (mz_L 0), Value.int (zs_bi (decide ((m + 1 + 1 + 1 - 3) / 2 < 16)))]))
      rw [decide_eq_true (by omega), show 3 + m = m + 1 + 1 + 1 by omega]
    · rw [if_neg h4, if_neg (show ¬ (m + 1 + 1 + 1) % 2 = 1 by omega)]
      rfl
  · rw [if_neg h3, zb_is_get 32 (m - 2 * 16) (by omega), if_neg (show ¬ m + 1 + 1 + 1 < 35 by omega)]
    rfl
theorem zb_fin (B : Nat) (ca : Nat → ClassId) : zb_l (B + 67) (zb_l B (fun _ => none) (zb_L B ca 16 32)) (zb_M (B + 67) ca (mz_L 175107974924611) (mz_L 87553987462305) (zb_uk 6) (zb_sk 16) ++ [.inl (ca 1, 1, .inr (.inl (fun _ => 0)))]) = zs_hp ca B zs_S0 0 (zs_b zs_S0) 0 := by
  funext q
  unfold zs_hp
  by_cases h1 : q < B
  · rw [if_pos h1]
    unfold zb_l
    rw [if_pos (by omega), if_pos h1]
  · rw [if_neg h1]
    by_cases h2 : q - B < 67
    · rw [if_pos h2]
      unfold zb_l
      rw [if_pos (by omega), if_neg h1]
      exact zb_uc B ca (q - B) h2
    · rw [if_neg h2]
      unfold zb_l
      rw [if_neg (by omega), show q - (B + 67) = q - B - 67 by omega]
      obtain ⟨n, hn⟩ : ∃ n, n = q - B - 67 := ⟨_, rfl⟩
      rw [← hn]
      by_cases h3 : n < 9
      · rcases (by omega : n = 0 ∨ n = 1 ∨ n = 2 ∨ n = 3 ∨ n = 4 ∨ n = 5 ∨ n = 6 ∨ n = 7 ∨ n = 8) with h | h | h | h | h | h | h | h | h
        · rw [h]; rfl
        · rw [h]; rfl
        · rw [h]; rfl
        · rw [h]; rfl
        · rw [h]; rfl
        · rw [h]; rfl
        · rw [h]; rfl
        · rw [h]; rfl
        · rw [h]
          show some (Sum.inl (ca 1, 1, Sum.inr (Sum.inl (fun _ => (0 : Int64))))) = some (Sum.inl (ca 1, 1, Sum.inr (Sum.inl (fun j => if j = 0 then (0 : Int64) else 0))))
          congr 5
          refine congrArg Sum.inl (funext fun j => ?_)
          by_cases hj : j = 0
          · rw [if_pos hj]
          · rw [if_neg hj]
      · rw [List.getElem?_eq_none (by show 9 ≤ n; omega)]
        unfold zs_mc
        rw [if_neg (by omega), if_neg (by omega), if_neg (by omega), if_neg (by omega), if_neg (by omega), if_neg (by omega), if_neg (by omega), if_neg (by omega), if_neg (by omega)]
theorem zb_nil (B : Nat) : (fun _ => none : Nat → Option va_E) = zb_l B (fun _ => none) [] := by
  funext q
  unfold zb_l
  by_cases h : q < B
  · rw [if_pos h]
  · rw [if_neg h]
    rfl
theorem zb_cut (B : Nat) (f : Nat → Option va_E) (L : List va_E) {A : Nat} (hA : A = B + L.length) : zb_l B f L = zb_l A (zb_l B f L) [] := by
  funext q
  conv => rhs; unfold zb_l
  by_cases h : q < A
  · rw [if_pos h]
    rfl
  · rw [if_neg h]
    unfold zb_l
    rw [if_neg (by omega), List.getElem?_eq_none (by omega)]
    rfl
section ZM24
variable {l : Launch} {P : zs_P}
theorem zy_start {us : Nat} (htr : l.stackTraces = false) (hL : zp_L P < 2 ^ 30) : ∃ σ' : zg_H, zg_sz σ' ≤ zp_B P + 76 + zp_L P / 6 ∧ zg_us σ' ≤ us + 687 + 6 * (zp_L P / 6) ∧ zg_G l (zs_E P) 11 mL_law 0 [(0, .ref (zp_b P))] [] (fun _ => none, zp_B P, us) (.inl (some (.int (nI 1))), σ') := by
  have hlen := zb_L_len (zp_B P) (zp_ca P) 16 32
  obtain ⟨σ2, hs1, hs2, hk⟩ := zy_loop (l := l) (P := P) htr hL (zp_L P / 6) 0 (by omega) (by decide) zs_S0 0 0 (zp_B P + 76, us + 687) zs_inv0
  refine ⟨σ2, hs1, hs2, ?_⟩
  rw [zb_nil (zp_B P)]
  refine zg_new zs_YU (zd_t dmL_law_0 0 rfl) zs_cl0 zs_pU zs_uw0 zcl_L_8 (zs_in 16 (by decide +kernel) (by decide +kernel)) (zs_in 1 (by decide +kernel) (by decide +kernel)) (fs := [.null, .null, .int 0, .int 0]) (by decide) (zb_al (L2 := [zb_uD]) rfl rfl) ?_
  refine zg_dup (zd_t dmL_law_0 1 rfl) rfl ?_
  refine zg_callI (zd_t dmL_law_0 2 rfl) zl_L_69 zm_mU_init zi_mU_init rfl rfl rfl (av := []) (rest := [.ref (zp_B P)]) rfl rfl (Nat.le_of_ble_eq_true rfl) (zu_init (d := 8)) ?_
  refine zg_astore_n (zd_t dmL_law_0 3 rfl) (by decide) rfl ?_
  refine zg_eq (σ2 := (zb_l (zp_B P + 67) (zb_l (zp_B P) (fun _ => none) (zb_L (zp_B P) (zp_ca P) 16 32)) [], zp_B P + 67, us + 356)) ?_ rfl rfl rfl (zb_e4 (zb_cut _ _ _ (by rw [hlen])) (by rw [hlen]) (by omega)) rfl
  refine zg_new zs_YM (zd_t dmL_law_0 4 rfl) zs_cl3 zs_pM zs_uw3 zcl_L_70 (zs_in 452 (by decide +kernel) (by decide +kernel)) (zs_in 4 (by decide +kernel) (by decide +kernel)) (fs := [.int 0, .null, .null, .null, .null, .null, .null, .long 0, .long 0, .null, .int 0, .int 0]) (by decide) (zb_al (L2 := [zb_mD]) rfl rfl) ?_
  refine zg_dup (zd_t dmL_law_0 5 rfl) rfl ?_
  refine zg_callI (zd_t dmL_law_0 6 rfl) zl_L_72 zm_mM_init zi_mM_init rfl rfl rfl (av := []) (rest := [.ref (zp_B P + 67)]) rfl rfl (Nat.le_of_ble_eq_true rfl) (zm_init (d := 9)) ?_
  refine zg_astore_n (zd_t dmL_law_0 7 rfl) (by decide) rfl ?_
  refine zg_iconst (v := (nI 1)) (zd_t dmL_law_0 8 rfl) (by decide) ?_
  refine zg_newa (t0 := 1) (N := 1) (a0 := (1, .inr (.inl (fun _ => 0)))) (zd_t dmL_law_0 9 rfl) rfl (zs_in 495 (by decide +kernel) (by decide +kernel)) rfl (fun C h => by cases h) rfl (by decide) (fun _ => rfl) (by decide) (zb_al (L2 := zb_M (zp_B P + 67) (zp_ca P) (mz_L 175107974924611) (mz_L 87553987462305) (zb_uk 6) (zb_sk 16) ++ [.inl (zp_ca P 1, 1, .inr (.inl (fun _ => 0)))]) rfl rfl) ?_
  refine zg_astore_n (zd_t dmL_law_0 10 rfl) (by decide) rfl ?_
  refine zg_iconst (v := (nI 0)) (zd_t dmL_law_0 11 rfl) (by decide) ?_
  refine zg_istore (zd_t dmL_law_0 12 rfl) (by decide) rfl ?_
  exact zg_eq hk rfl rfl rfl (zb_e4 (zb_fin _ _) (by first | rfl | omega) (by first | rfl | omega)) rfl
end ZM24
