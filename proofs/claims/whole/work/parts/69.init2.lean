def zb_aR (B : Nat) (ca : Nat → ClassId) (r : Nat) : va_E := .inl (ca 3, 16, .inr (.inr (.inr (.inr (zs_rf r (fun i => B + 3 + 2 * i))))))
def zb_aI (B : Nat) (ca : Nat → ClassId) (i : Nat) : va_E := .inl (ca 4, 32, .inr (.inr (.inr (.inr (zs_rf i (fun i => B + 35 + i))))))
def zb_un (B : Nat) : va_E := .inr (0, [.ref (B + 1), .ref (B + 2), .int 0, .int 0])
def zb_rs (B : Nat) (ca : Nat → ClassId) : Nat → List va_E
  | 0 => []
  | r + 1 => zb_rs B ca r ++ [zb_rg (B + (3 + 2 * r)), zb_re ca]
def zb_is : Nat → List va_E
  | 0 => []
  | i + 1 => zb_is i ++ [zb_iD]
theorem zb_rs_len (B : Nat) (ca : Nat → ClassId) : ∀ r, (zb_rs B ca r).length = 2 * r
  | 0 => rfl
  | r + 1 => by
    unfold zb_rs
    rw [List.length_append, zb_rs_len B ca r]
    simp only [List.length_cons, List.length_nil]
    omega
theorem zb_is_len : ∀ i, (zb_is i).length = i
  | 0 => rfl
  | i + 1 => by
    unfold zb_is
    rw [List.length_append, zb_is_len i]
    rfl
def zb_L (B : Nat) (ca : Nat → ClassId) (r i : Nat) : List va_E := zb_un B :: zb_aR B ca r :: zb_aI B ca i :: (zb_rs B ca r ++ zb_is i)
theorem zb_L_len (B : Nat) (ca : Nat → ClassId) (r i : Nat) : (zb_L B ca r i).length = 3 + 2 * r + i := by
  unfold zb_L
  simp only [List.length_cons, List.length_append, zb_rs_len, zb_is_len]
  omega
theorem zs_rf_0 (g : Nat → Nat) : zs_rf 0 g = fun _ => none := by
  funext j
  unfold zs_rf
  rw [if_neg (by omega)]
theorem zs_rf_s (r : Nat) (g : Nat → Nat) {v : Nat} (hv : v = g r) : va_up (zs_rf r g) r (some v) = zs_rf (r + 1) g := by
  funext j
  unfold va_up zs_rf
  by_cases h : j = r
  · rw [if_pos h, if_pos (by omega), h, hv]
  · rw [if_neg h]
    by_cases h2 : j < r
    · rw [if_pos h2, if_pos (by omega)]
    · rw [if_neg h2, if_neg (by omega)]
section ZM20
variable {l : Launch} {P : zs_P} {d : Nat} {us : Nat} {f : Nat → Option va_E}
theorem zb_e4 {g g2 : Nat → Option va_E} {a a2 b b2 : Nat} (h1 : g = g2) (h2 : a = a2) (h3 : b = b2) : ((g, a, b) : zg_H) = (g2, a2, b2) := by rw [h1, h2, h3]
theorem zu_init_2 (u : Nat) : ∀ (n i : Nat), i + n = 32 → zg_G l (zs_E P) (d + 2) mU_init 61 [(1, .int (nI i)), (0, .ref (zp_B P))] [] (zb_l (zp_B P) f (zb_L (zp_B P) (zp_ca P) 16 i), zp_B P + (zb_L (zp_B P) (zp_ca P) 16 i).length, us + 4 * i) (.inl none, (zb_l (zp_B P) f (zb_L (zp_B P) (zp_ca P) 16 32), zp_B P + (zb_L (zp_B P) (zp_ca P) 16 32).length, us + 4 * 32)) := by
  intro n
  induction n with
  | zero =>
    intro i hi
    have hi : i = 32 := by omega
    subst hi
    refine zg_iload_n (zd_t dmU_init 32 rfl) rfl ?_
    refine zg_bipush (v := (nI 32)) (zd_t dmU_init 33 rfl) (by decide) ?_
    refine zg_icmp_ge (tgt := 86) (zd_t dmU_init 34 rfl) (by decide) (fun _ => ?_) (fun hq => absurd (by decide) hq)
    exact zg_vret (zd_t dmU_init 44 rfl) rfl rfl
  | succ n ih =>
    intro i hi
    have hlen := zb_L_len (zp_B P) (zp_ca P) 16 i
    refine zg_iload_n (zd_t dmU_init 32 rfl) rfl ?_
    refine zg_bipush (v := (nI 32)) (zd_t dmU_init 33 rfl) (by decide) ?_
    refine zg_icmp_ge (tgt := 86) (zd_t dmU_init 34 rfl) (by decide) (fun hq => absurd hq (fun h => absurd ((nI_leI (by decide) (by omega)).mp h) (by omega))) (fun _ => ?_)
    refine zg_aload_n (zd_t dmU_init 35 rfl) rfl ?_
    refine zg_getf (zd_t dmU_init 36 rfl) zf_U_17 (zb_at (k := 0) rfl rfl) rfl ?_
    refine zg_iload_n (zd_t dmU_init 37 rfl) rfl ?_
    refine zg_new zs_YI (zd_t dmU_init 38 rfl) zs_cl2 zs_pI zs_uw2 zcl_U_15 (zs_in 46 (by decide +kernel) (by decide +kernel)) (zs_in 3 (by decide +kernel) (by decide +kernel)) (fs := [.int 0, .int 0, .int 0, .int 0]) (by decide) (zb_al (L2 := zb_L (zp_B P) (zp_ca P) 16 i ++ [zb_iD]) rfl rfl) ?_
    refine zg_dup (zd_t dmU_init 39 rfl) rfl ?_
    refine zg_callI (zd_t dmU_init 40 rfl) zl_U_29 zm_mI_init zi_mI_init rfl rfl rfl (av := []) (rest := [.ref (zp_B P + (zb_L (zp_B P) (zp_ca P) 16 i).length), .int (nI i), .ref (zp_B P + 2)]) rfl rfl (Nat.le_of_ble_eq_true rfl) zi_init ?_
    refine zg_aast (k := i) (t0 := 4) (zd_t dmU_init 41 rfl) (zb_at (k := 2) rfl rfl) rfl (zb_at (k := (zb_L (zp_B P) (zp_ca P) 16 i).length) rfl (zb_get1 _)) zs_cl2 rfl (by omega) (by decide) (zb_up (L2 := zb_L (zp_B P) (zp_ca P) 16 (i + 1)) 2 (by rw [List.length_append, hlen]; omega) rfl ?_) ?_
    · rw [zs_rf_s i (fun i => zp_B P + 35 + i) (by rw [hlen]; omega)]
      show zb_un (zp_B P) :: zb_aR (zp_B P) (zp_ca P) 16 :: zb_aI (zp_B P) (zp_ca P) (i + 1) :: ((zb_rs (zp_B P) (zp_ca P) 16 ++ zb_is i) ++ [zb_iD]) = zb_un (zp_B P) :: zb_aR (zp_B P) (zp_ca P) 16 :: zb_aI (zp_B P) (zp_ca P) (i + 1) :: (zb_rs (zp_B P) (zp_ca P) 16 ++ (zb_is i ++ [zb_iD]))
      rw [List.append_assoc]
    refine zg_iinc (lv2 := [(1, .int (nI (i + 1))), (0, .ref (zp_B P))]) (zd_t dmU_init 42 rfl) rfl (mz_inc i) (by decide) rfl ?_
    refine zg_goto (tgt := 61) (zd_t dmU_init 43 rfl) (by decide) ?_
    exact zg_eq (ih (i + 1) (by omega)) rfl rfl rfl (zb_e4 rfl (by rw [hlen, zb_L_len]; omega) (by omega)) rfl
theorem zu_init_1 : ∀ (n r : Nat), r + n = 16 → zg_G l (zs_E P) (d + 2) mU_init 34 [(1, .int (nI r)), (0, .ref (zp_B P))] [] (zb_l (zp_B P) f (zb_L (zp_B P) (zp_ca P) r 0), zp_B P + (zb_L (zp_B P) (zp_ca P) r 0).length, us + 11 * r) (.inl none, (zb_l (zp_B P) f (zb_L (zp_B P) (zp_ca P) 16 32), zp_B P + (zb_L (zp_B P) (zp_ca P) 16 32).length, us + 11 * 16 + 4 * 32)) := by
  intro n
  induction n with
  | zero =>
    intro r hr
    have hr : r = 16 := by omega
    subst hr
    refine zg_iload_n (zd_t dmU_init 18 rfl) rfl ?_
    refine zg_bipush (v := (nI 16)) (zd_t dmU_init 19 rfl) (by decide) ?_
    refine zg_icmp_ge (tgt := 59) (zd_t dmU_init 20 rfl) (by decide) (fun _ => ?_) (fun hq => absurd (by decide) hq)
    refine zg_iconst (v := (nI 0)) (zd_t dmU_init 30 rfl) (by decide) ?_
    refine zg_istore_n (zd_t dmU_init 31 rfl) (by decide) rfl ?_
    exact zu_init_2 0 32 0 rfl
  | succ n ih =>
    intro r hr
    have hlen := zb_L_len (zp_B P) (zp_ca P) r 0
    refine zg_iload_n (zd_t dmU_init 18 rfl) rfl ?_
    refine zg_bipush (v := (nI 16)) (zd_t dmU_init 19 rfl) (by decide) ?_
    refine zg_icmp_ge (tgt := 59) (zd_t dmU_init 20 rfl) (by decide) (fun hq => absurd hq (fun h => absurd ((nI_leI (by decide) (by omega)).mp h) (by omega))) (fun _ => ?_)
    refine zg_aload_n (zd_t dmU_init 21 rfl) rfl ?_
    refine zg_getf (zd_t dmU_init 22 rfl) zf_U_11 (zb_at (k := 0) rfl rfl) rfl ?_
    refine zg_iload_n (zd_t dmU_init 23 rfl) rfl ?_
    refine zg_new zs_YR (zd_t dmU_init 24 rfl) zs_cl1 zs_pR zs_uw1 zcl_U_9 (zs_in 27 (by decide +kernel) (by decide +kernel)) (zs_in 2 (by decide +kernel) (by decide +kernel)) (fs := [.null, .long 0, .int 0]) (by decide) (zb_al (L2 := zb_L (zp_B P) (zp_ca P) r 0 ++ [zb_rD]) rfl rfl) ?_
    refine zg_dup (zd_t dmU_init 25 rfl) rfl ?_
    refine zg_callI (zd_t dmU_init 26 rfl) zl_U_28 zm_mR_init zi_mR_init rfl rfl rfl (av := []) (rest := [.ref (zp_B P + (zb_L (zp_B P) (zp_ca P) r 0).length), .int (nI r), .ref (zp_B P + 1)]) rfl rfl (Nat.le_of_ble_eq_true rfl) zr_init ?_
    refine zg_aast (k := r) (t0 := 3) (zd_t dmU_init 27 rfl) (zb_at (k := 1) rfl rfl) rfl (zb_at (k := (zb_L (zp_B P) (zp_ca P) r 0).length) rfl (zb_get2 _ _)) zs_cl1 rfl (by omega) (by decide) (zb_up (L2 := zb_L (zp_B P) (zp_ca P) (r + 1) 0) 1 (by rw [List.length_append, hlen]; omega) rfl ?_) ?_
    · rw [zs_rf_s r (fun i => zp_B P + 3 + 2 * i) (by rw [hlen]; omega), hlen]
      show zb_un (zp_B P) :: zb_aR (zp_B P) (zp_ca P) (r + 1) :: zb_aI (zp_B P) (zp_ca P) 0 :: ((zb_rs (zp_B P) (zp_ca P) r ++ []) ++ [zb_rg (zp_B P + (3 + 2 * r + 0)), zb_re (zp_ca P)]) = zb_un (zp_B P) :: zb_aR (zp_B P) (zp_ca P) (r + 1) :: zb_aI (zp_B P) (zp_ca P) 0 :: ((zb_rs (zp_B P) (zp_ca P) r ++ [zb_rg (zp_B P + (3 + 2 * r)), zb_re (zp_ca P)]) ++ [])
      rw [List.append_nil, List.append_nil]
      rfl
    refine zg_iinc (lv2 := [(1, .int (nI (r + 1))), (0, .ref (zp_B P))]) (zd_t dmU_init 28 rfl) rfl (mz_inc r) (by decide) rfl ?_
    refine zg_goto (tgt := 34) (zd_t dmU_init 29 rfl) (by decide) ?_
    exact zg_eq (ih (r + 1) (by omega)) rfl rfl rfl (zb_e4 rfl (by rw [hlen, zb_L_len]; omega) (by omega)) rfl
theorem zu_init : zg_C l (zs_E P) (d + 2) mU_init [.ref (zp_B P)] (zb_l (zp_B P) f [zb_uD], zp_B P + 1, us) (.inl none, (zb_l (zp_B P) f (zb_L (zp_B P) (zp_ca P) 16 32), zp_B P + (zb_L (zp_B P) (zp_ca P) 16 32).length, us + 16 + 32 + 11 * 16 + 4 * 32)) := by
  refine zg_C_of (by decide +kernel) (Nat.le_of_ble_eq_true rfl) ?_
  refine zg_aload_n (zd_t dmU_init 0 rfl) rfl ?_
  refine zg_objInit (zd_t dmU_init 1 rfl) (zs_in 20 (by decide +kernel) (by decide +kernel)) zs_oi zs_oc (by decide) ?_
  refine zg_aload_n (zd_t dmU_init 2 rfl) rfl ?_
  refine zg_bipush (v := (nI 16)) (zd_t dmU_init 3 rfl) (by decide) ?_
  refine zg_anew (t0 := 3) (N := 16) (zd_t dmU_init 4 rfl) zcl_U_9 (zs_in 24 (by decide +kernel) (by decide +kernel)) rfl rfl (by decide) (zb_al (L2 := [zb_uD, zb_aR (zp_B P) (zp_ca P) 0]) rfl (by unfold zb_aR; rw [zs_rf_0]; rfl)) ?_
  refine zg_putF (zd_t dmU_init 5 rfl) zf_U_11 zt_0_0 (fun C T N h => by cases h; rfl) rfl (zb_at (k := 0) rfl rfl) (Nat.le_of_ble_eq_true rfl) rfl rfl (zb_up 0 (Nat.le_of_ble_eq_true rfl) rfl rfl) ?_
  refine zg_aload_n (zd_t dmU_init 6 rfl) rfl ?_
  refine zg_bipush (v := (nI 32)) (zd_t dmU_init 7 rfl) (by decide) ?_
  refine zg_anew (t0 := 4) (N := 32) (zd_t dmU_init 8 rfl) zcl_U_15 (zs_in 26 (by decide +kernel) (by decide +kernel)) rfl rfl (by decide) (zb_al (L2 := [.inr (0, [.ref (zp_B P + 1), .null, .int 0, .int 0]), zb_aR (zp_B P) (zp_ca P) 0, zb_aI (zp_B P) (zp_ca P) 0]) rfl (by unfold zb_aI; rw [zs_rf_0]; rfl)) ?_
  refine zg_putF (zd_t dmU_init 9 rfl) zf_U_17 zt_0_1 (fun C T N h => by cases h; rfl) rfl (zb_at (k := 0) rfl rfl) (Nat.le_of_ble_eq_true rfl) rfl rfl (zb_up 0 (Nat.le_of_ble_eq_true rfl) rfl rfl) ?_
  refine zg_aload_n (zd_t dmU_init 10 rfl) rfl ?_
  refine zg_iconst (v := (nI 0)) (zd_t dmU_init 11 rfl) (by decide) ?_
  refine zg_putf (zd_t dmU_init 12 rfl) zf_U_21 zt_0_2 (zb_at (k := 0) rfl rfl) (Nat.le_of_ble_eq_true rfl) rfl rfl (zb_up 0 (Nat.le_of_ble_eq_true rfl) rfl rfl) ?_
  refine zg_aload_n (zd_t dmU_init 13 rfl) rfl ?_
  refine zg_iconst (v := (nI 0)) (zd_t dmU_init 14 rfl) (by decide) ?_
  refine zg_putf (zd_t dmU_init 15 rfl) zf_U_25 zt_0_3 (zb_at (k := 0) rfl rfl) (Nat.le_of_ble_eq_true rfl) rfl rfl (zb_up (L2 := zb_L (zp_B P) (zp_ca P) 0 0) 0 (Nat.le_of_ble_eq_true rfl) rfl rfl) ?_
  refine zg_iconst (v := (nI 0)) (zd_t dmU_init 16 rfl) (by decide) ?_
  refine zg_istore_n (zd_t dmU_init 17 rfl) (by decide) rfl ?_
  exact zu_init_1 16 0 rfl
end ZM20
