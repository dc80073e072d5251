def zs_ck (S : zs_S) (op e a b k : Nat) : zs_S := (S.1, S.2.1, fun j t => if j = e ∧ t < k then mz_cr op t (zs_re S e t) (zs_re S a t) (zs_re S b t) else zs_re S j t, zs_ex S, zs_su S, zs_pg S)
theorem zs_ck_0 (S : zs_S) (op e a b : Nat) : zs_ck S op e a b 0 = S := by
  unfold zs_ck
  simp
theorem zs_ck_at (S : zs_S) (op e a b k j : Nat) : zs_re (zs_ck S op e a b k) j k = zs_re S j k := if_neg (by omega)
theorem zs_ck_s (S : zs_S) (op e a b k : Nat) : zs_sre (zs_ck S op e a b k) e k (mz_cr op k (zs_re S e k) (zs_re S a k) (zs_re S b k)) = zs_ck S op e a b (k + 1) := by
  unfold zs_sre zs_ck zs_u2 zs_re
  congr 3
  funext j t
  by_cases h1 : j = e ∧ t = k
  · rw [if_pos h1, if_pos ⟨h1.1, by omega⟩, h1.2]
  · rw [if_neg h1]
    by_cases h2 : j = e ∧ t < k
    · simp only [if_pos h2]
      rw [if_pos ⟨h2.1, by omega⟩]
    · simp only [if_neg h2]
      rw [if_neg (fun h => h2 ⟨h.1, by have := h.2; have : t ≠ k := fun e => h1 ⟨h.1, e⟩; omega⟩)]
/-- whether the result can be trusted -/
def zs_tr (S : zs_S) (op e a b : Nat) : Bool := zs_su S a && zs_su S b && (zs_su S e || decide (op ≠ 3))
def zs_cres (S : zs_S) (op e a b : Nat) : Int := mz_cn op (zs_ex S e) (zs_ex S a) (zs_ex S b)
def zs_csu (S : zs_S) (op e a b : Nat) : Bool := zs_tr S op e a b && decide (mz_hr (zs_cres S op e a b))
def zs_scmb (S : zs_S) (op e a b : Nat) : zs_S := zs_sex (zs_ssu (zs_ck S op e a b 8) e (zs_csu S op e a b)) e (if zs_csu S op e a b = true then zs_cres S op e a b else 0)
section ZM6
variable {l : Launch} {P : zs_P} {d : Nat} {S : zs_S} {S2 : zs_S2} {th : Int32} {o : Int64} {w : Nat × Nat} {e a b op : Nat}
/-- from the trust on -/
theorem zr_combine_t (he : e < 16) (ha : a < 16) (hb : b < 16) (ho : op < 4) (hx : ∀ j, j < 16 → mz_hr (zs_ex S j)) : zg_G l (zs_E P) (d + 3) mR_combine 81 [(4, .int (nI 8)), (0, .ref (zp_B P + 3 + 2 * e)), (1, .int (nI op)), (2, .ref (zp_B P + 3 + 2 * a)), (3, .ref (zp_B P + 3 + 2 * b))] [.int (zs_bi (zs_tr S op e a b))] (zs_σ P (zs_ck S op e a b 8) th S2 o w) (.inl none, zs_σ P (zs_scmb S op e a b) th S2 o w) := by
  have h0 : mz_in 0 := by unfold mz_in; omega
  unfold zs_scmb
  cases htr : zs_tr S op e a b with
  | false =>
    have hs : zs_csu S op e a b = false := by unfold zs_csu; rw [htr]; rfl
    rw [hs]
    refine zg_istore (zd_t dmR_combine 41 rfl) (by decide) rfl ?_
    refine zg_iload (zd_t dmR_combine 42 rfl) rfl ?_
    refine zg_if_eq (tgt := 107) (zd_t dmR_combine 43 rfl) (by decide) (fun _ => ?_) (fun h => absurd rfl h)
    refine zg_lconst (v := mz_L 0) (zd_t dmR_combine 53 rfl) (by decide) ?_
    refine zg_lstore (zd_t dmR_combine 54 rfl) (by decide) rfl ?_
    refine zg_aload_n (zd_t dmR_combine 55 rfl) rfl ?_
    refine zg_iload (zd_t dmR_combine 56 rfl) rfl ?_
    refine zg_if_eq (tgt := 128) (zd_t dmR_combine 57 rfl) (by decide) (fun _ => ?_) (fun h => absurd rfl h)
    refine zg_iconst (v := (nI 0)) (zd_t dmR_combine 63 rfl) (by decide) ?_
    refine zg_putf (zd_t dmR_combine 64 rfl) zf_R_19 zt_1_2 (zs_reg he) (Nat.le_of_ble_eq_true rfl) rfl rfl (zs_up_su (b := false) he) ?_
    refine zg_aload_n (zd_t dmR_combine 65 rfl) rfl ?_
    refine zg_aload_n (zd_t dmR_combine 66 rfl) rfl ?_
    refine zg_getf (zd_t dmR_combine 67 rfl) zf_R_19 (zs_reg he) rfl ?_
    rw [show zs_su (zs_ssu (zs_ck S op e a b 8) e false) e = false from if_pos rfl]
    refine zg_if_eq (tgt := 145) (zd_t dmR_combine 68 rfl) (by decide) (fun _ => ?_) (fun h => absurd rfl h)
    refine zg_lconst (v := mz_L 0) (zd_t dmR_combine 71 rfl) (by decide) ?_
    refine zg_putf (zd_t dmR_combine 72 rfl) zf_R_15 zt_1_1 (zs_reg he) (Nat.le_of_ble_eq_true rfl) rfl rfl (zs_up_ex he) ?_
    exact zg_vret (zd_t dmR_combine 73 rfl) rfl rfl
  | true =>
    have hc := mz_cn_in (op := op) (hx e he) (hx a ha) (hx b hb)
    refine zg_istore (zd_t dmR_combine 41 rfl) (by decide) rfl ?_
    refine zg_iload (zd_t dmR_combine 42 rfl) rfl ?_
    refine zg_if_eq (tgt := 107) (zd_t dmR_combine 43 rfl) (by decide) (fun h => absurd h (by decide)) (fun _ => ?_)
    refine zg_iload_n (zd_t dmR_combine 44 rfl) rfl ?_
    refine zg_aload_n (zd_t dmR_combine 45 rfl) rfl ?_
    refine zg_getf (zd_t dmR_combine 46 rfl) zf_R_15 (zs_reg he) rfl ?_
    refine zg_aload_n (zd_t dmR_combine 47 rfl) rfl ?_
    refine zg_getf (zd_t dmR_combine 48 rfl) zf_R_15 (zs_reg ha) rfl ?_
    refine zg_aload_n (zd_t dmR_combine 49 rfl) rfl ?_
    refine zg_getf (zd_t dmR_combine 50 rfl) zf_R_15 (zs_reg hb) rfl ?_
    refine zg_callS (zd_t dmR_combine 51 rfl) zl_R_37 zm_mU_combineNumbers zst_mU_combineNumbers (av := [.int (nI op), .long (mz_L (zs_ex S e)), .long (mz_L (zs_ex S a)), .long (mz_L (zs_ex S b))]) (rest := []) rfl rfl (Nat.le_of_ble_eq_true rfl) (zu_combineNumbers ho (hx e he) (hx a ha) (hx b hb)) ?_
    refine zg_goto (tgt := 108) (zd_t dmR_combine 52 rfl) (by decide) ?_
    refine zg_lstore (zd_t dmR_combine 54 rfl) (by decide) rfl ?_
    refine zg_aload_n (zd_t dmR_combine 55 rfl) rfl ?_
    refine zg_iload (zd_t dmR_combine 56 rfl) rfl ?_
    refine zg_if_eq (tgt := 128) (zd_t dmR_combine 57 rfl) (by decide) (fun h => absurd h (by decide)) (fun _ => ?_)
    refine zg_lload (zd_t dmR_combine 58 rfl) rfl ?_
    refine zg_callS (zd_t dmR_combine 59 rfl) zl_R_41 zm_mU_inRange zst_mU_inRange (av := [.long (mz_L (zs_cres S op e a b))]) (rest := [.ref (zp_B P + 3 + 2 * e)]) rfl rfl (Nat.le_of_ble_eq_true rfl) (zu_inRange hc.w) ?_
    by_cases hr : mz_hr (zs_cres S op e a b)
    · have hs : zs_csu S op e a b = true := by unfold zs_csu; rw [htr, decide_eq_true hr]; rfl
      rw [decide_eq_true hr, hs]
      refine zg_if_eq (tgt := 128) (zd_t dmR_combine 60 rfl) (by decide) (fun h => absurd h (by decide)) (fun _ => ?_)
      refine zg_iconst (v := (nI 1)) (zd_t dmR_combine 61 rfl) (by decide) ?_
      refine zg_goto (tgt := 129) (zd_t dmR_combine 62 rfl) (by decide) ?_
      refine zg_putf (zd_t dmR_combine 64 rfl) zf_R_19 zt_1_2 (zs_reg he) (Nat.le_of_ble_eq_true rfl) rfl rfl (zs_up_su (b := true) he) ?_
      refine zg_aload_n (zd_t dmR_combine 65 rfl) rfl ?_
      refine zg_aload_n (zd_t dmR_combine 66 rfl) rfl ?_
      refine zg_getf (zd_t dmR_combine 67 rfl) zf_R_19 (zs_reg he) rfl ?_
      rw [show zs_su (zs_ssu (zs_ck S op e a b 8) e true) e = true from if_pos rfl]
      refine zg_if_eq (tgt := 145) (zd_t dmR_combine 68 rfl) (by decide) (fun h => absurd h (by decide)) (fun _ => ?_)
      refine zg_lload (zd_t dmR_combine 69 rfl) rfl ?_
      refine zg_goto (tgt := 146) (zd_t dmR_combine 70 rfl) (by decide) ?_
      refine zg_putf (zd_t dmR_combine 72 rfl) zf_R_15 zt_1_1 (zs_reg he) (Nat.le_of_ble_eq_true rfl) rfl rfl (zs_up_ex he) ?_
      exact zg_vret (zd_t dmR_combine 73 rfl) rfl rfl
    · have hs : zs_csu S op e a b = false := by unfold zs_csu; rw [htr, decide_eq_false hr]; rfl
      rw [decide_eq_false hr, hs]
      refine zg_if_eq (tgt := 128) (zd_t dmR_combine 60 rfl) (by decide) (fun _ => ?_) (fun h => absurd rfl h)
      refine zg_iconst (v := (nI 0)) (zd_t dmR_combine 63 rfl) (by decide) ?_
      refine zg_putf (zd_t dmR_combine 64 rfl) zf_R_19 zt_1_2 (zs_reg he) (Nat.le_of_ble_eq_true rfl) rfl rfl (zs_up_su (b := false) he) ?_
      refine zg_aload_n (zd_t dmR_combine 65 rfl) rfl ?_
      refine zg_aload_n (zd_t dmR_combine 66 rfl) rfl ?_
      refine zg_getf (zd_t dmR_combine 67 rfl) zf_R_19 (zs_reg he) rfl ?_
      rw [show zs_su (zs_ssu (zs_ck S op e a b 8) e false) e = false from if_pos rfl]
      refine zg_if_eq (tgt := 145) (zd_t dmR_combine 68 rfl) (by decide) (fun _ => ?_) (fun h => absurd rfl h)
      refine zg_lconst (v := mz_L 0) (zd_t dmR_combine 71 rfl) (by decide) ?_
      refine zg_putf (zd_t dmR_combine 72 rfl) zf_R_15 zt_1_1 (zs_reg he) (Nat.le_of_ble_eq_true rfl) rfl rfl (zs_up_ex he) ?_
      exact zg_vret (zd_t dmR_combine 73 rfl) rfl rfl
theorem zr_combine_lp (he : e < 16) (ha : a < 16) (hb : b < 16) (ho : op < 4) (hx : ∀ j, j < 16 → mz_hr (zs_ex S j)) (hok : ∀ j, j < 16 → mz_ok (zs_re S j)) : ∀ (n k : Nat), k + n = 8 →
    zg_G l (zs_E P) (d + 3) mR_combine 3 [(4, .int (nI k)), (0, .ref (zp_B P + 3 + 2 * e)), (1, .int (nI op)), (2, .ref (zp_B P + 3 + 2 * a)), (3, .ref (zp_B P + 3 + 2 * b))] [] (zs_σ P (zs_ck S op e a b k) th S2 o w) (.inl none, zs_σ P (zs_scmb S op e a b) th S2 o w) := by
  intro n
  induction n with
  | zero =>
    intro k hk
    have hk : k = 8 := by omega
    subst hk
    have tl := zr_combine_t (l := l) (P := P) (d := d) (S := S) (S2 := S2) (th := th) (o := o) (w := w) he ha hb ho hx
    refine zg_iload (zd_t dmR_combine 2 rfl) rfl ?_
    refine zg_bipush (v := (nI 8)) (zd_t dmR_combine 3 rfl) (by decide) ?_
    refine zg_icmp_ge (tgt := 50) (zd_t dmR_combine 4 rfl) (by decide) (fun _ => ?_) (fun h => absurd (by decide) h)
    have out : zs_tr S op e a b = false → zg_G l (zs_E P) (d + 3) mR_combine 80 [(4, .int (nI 8)), (0, .ref (zp_B P + 3 + 2 * e)), (1, .int (nI op)), (2, .ref (zp_B P + 3 + 2 * a)), (3, .ref (zp_B P + 3 + 2 * b))] [] (zs_σ P (zs_ck S op e a b 8) th S2 o w) (.inl none, zs_σ P (zs_scmb S op e a b) th S2 o w) := by
      intro hf
      refine zg_iconst (v := (nI 0)) (zd_t dmR_combine 40 rfl) (by decide) ?_
      rw [hf] at tl
      exact tl
    have yes : zs_tr S op e a b = true → zg_G l (zs_E P) (d + 3) mR_combine 76 [(4, .int (nI 8)), (0, .ref (zp_B P + 3 + 2 * e)), (1, .int (nI op)), (2, .ref (zp_B P + 3 + 2 * a)), (3, .ref (zp_B P + 3 + 2 * b))] [] (zs_σ P (zs_ck S op e a b 8) th S2 o w) (.inl none, zs_σ P (zs_scmb S op e a b) th S2 o w) := by
      intro hf
      refine zg_iconst (v := (nI 1)) (zd_t dmR_combine 38 rfl) (by decide) ?_
      refine zg_goto (tgt := 81) (zd_t dmR_combine 39 rfl) (by decide) ?_
      rw [hf] at tl
      exact tl
    refine zg_aload_n (zd_t dmR_combine 26 rfl) rfl ?_
    refine zg_getf (zd_t dmR_combine 27 rfl) zf_R_19 (zs_reg ha) rfl ?_
    cases h1 : zs_su S a with
    | false =>
      rw [show zs_su (zs_ck S op e a b 8) a = zs_su S a from rfl, h1]
      exact zg_if_eq (tgt := 80) (zd_t dmR_combine 28 rfl) (by decide) (fun _ => out (by unfold zs_tr; rw [h1]; rfl)) (fun h => absurd rfl h)
    | true =>
      rw [show zs_su (zs_ck S op e a b 8) a = zs_su S a from rfl, h1]
      refine zg_if_eq (tgt := 80) (zd_t dmR_combine 28 rfl) (by decide) (fun h => absurd h (by decide)) (fun _ => ?_)
      refine zg_aload_n (zd_t dmR_combine 29 rfl) rfl ?_
      refine zg_getf (zd_t dmR_combine 30 rfl) zf_R_19 (zs_reg hb) rfl ?_
      cases h2 : zs_su S b with
      | false =>
        rw [show zs_su (zs_ck S op e a b 8) b = zs_su S b from rfl, h2]
        exact zg_if_eq (tgt := 80) (zd_t dmR_combine 31 rfl) (by decide) (fun _ => out (by unfold zs_tr; rw [h1, h2]; rfl)) (fun h => absurd rfl h)
      | true =>
        rw [show zs_su (zs_ck S op e a b 8) b = zs_su S b from rfl, h2]
        refine zg_if_eq (tgt := 80) (zd_t dmR_combine 31 rfl) (by decide) (fun h => absurd h (by decide)) (fun _ => ?_)
        refine zg_aload_n (zd_t dmR_combine 32 rfl) rfl ?_
        refine zg_getf (zd_t dmR_combine 33 rfl) zf_R_19 (zs_reg he) rfl ?_
        cases h3 : zs_su S e with
        | true =>
          rw [show zs_su (zs_ck S op e a b 8) e = zs_su S e from rfl, h3]
          exact zg_if_ne (tgt := 76) (zd_t dmR_combine 34 rfl) (by decide) (fun _ => yes (by unfold zs_tr; rw [h1, h2, h3]; rfl)) (fun h => absurd h (by decide))
        | false =>
          rw [show zs_su (zs_ck S op e a b 8) e = zs_su S e from rfl, h3]
          refine zg_if_ne (tgt := 76) (zd_t dmR_combine 34 rfl) (by decide) (fun h => absurd rfl h) (fun _ => ?_)
          refine zg_iload_n (zd_t dmR_combine 35 rfl) rfl ?_
          refine zg_iconst (v := (nI 3)) (zd_t dmR_combine 36 rfl) (by decide) ?_
          by_cases h4 : op = 3
          · exact zg_icmp_eq (tgt := 80) (zd_t dmR_combine 37 rfl) (by decide) (fun _ => out (by unfold zs_tr; rw [h1, h2, h3, decide_eq_false (by omega)]; rfl)) (fun h => absurd (by rw [h4]) h)
          · exact zg_icmp_eq (tgt := 80) (zd_t dmR_combine 37 rfl) (by decide) (fun h => absurd ((nI_eq (by omega) (by decide)).mp h) h4) (fun _ => yes (by unfold zs_tr; rw [h1, h2, h3, decide_eq_true h4]; rfl))
  | succ n ih =>
    intro k hk
    have hk8 : k < 8 := by omega
    refine zg_iload (zd_t dmR_combine 2 rfl) rfl ?_
    refine zg_bipush (v := (nI 8)) (zd_t dmR_combine 3 rfl) (by decide) ?_
    refine zg_icmp_ge (tgt := 50) (zd_t dmR_combine 4 rfl) (by decide) (fun h => absurd ((nI_leI (by decide) (by omega)).mp h) (by omega)) (fun _ => ?_)
    refine zg_aload_n (zd_t dmR_combine 5 rfl) rfl ?_
    refine zg_getf (zd_t dmR_combine 6 rfl) zf_R_9 (zs_reg he) rfl ?_
    refine zg_iload (zd_t dmR_combine 7 rfl) rfl ?_
    refine zg_iload_n (zd_t dmR_combine 8 rfl) rfl ?_
    refine zg_iload (zd_t dmR_combine 9 rfl) rfl ?_
    refine zg_aload_n (zd_t dmR_combine 10 rfl) rfl ?_
    refine zg_getf (zd_t dmR_combine 11 rfl) zf_R_9 (zs_reg he) rfl ?_
    refine zg_iload (zd_t dmR_combine 12 rfl) rfl ?_
    refine zg_iald (t0 := 0) (zd_t dmR_combine 13 rfl) (zs_res he) rfl rfl hk8 (by decide) ?_
    refine zg_aload_n (zd_t dmR_combine 14 rfl) rfl ?_
    refine zg_getf (zd_t dmR_combine 15 rfl) zf_R_9 (zs_reg ha) rfl ?_
    refine zg_iload (zd_t dmR_combine 16 rfl) rfl ?_
    refine zg_iald (t0 := 0) (zd_t dmR_combine 17 rfl) (zs_res ha) rfl rfl hk8 (by decide) ?_
    refine zg_aload_n (zd_t dmR_combine 18 rfl) rfl ?_
    refine zg_getf (zd_t dmR_combine 19 rfl) zf_R_9 (zs_reg hb) rfl ?_
    refine zg_iload (zd_t dmR_combine 20 rfl) rfl ?_
    refine zg_iald (t0 := 0) (zd_t dmR_combine 21 rfl) (zs_res hb) rfl rfl hk8 (by decide) ?_
    rw [zs_ck_at, zs_ck_at, zs_ck_at]
    refine zg_callS (zd_t dmR_combine 22 rfl) zl_R_33 zm_mU_combineResidues zst_mU_combineResidues (av := [.int (nI op), .int (nI k), .int (nI (zs_re S e k)), .int (nI (zs_re S a k)), .int (nI (zs_re S b k))]) (rest := [.int (nI k), .ref (zp_B P + 4 + 2 * e)]) rfl rfl (Nat.le_of_ble_eq_true rfl) (zu_combineResidues ho hk8 (hok e he k hk8) (hok a ha k hk8) (hok b hb k hk8)) ?_
    refine zg_iast (t0 := 0) (zd_t dmR_combine 23 rfl) (zs_res he) rfl rfl hk8 (by decide) ((zs_up_res he).trans (by rw [zs_ck_s])) ?_
    refine zg_iinc (lv2 := [(4, .int (nI (k + 1))), (0, .ref (zp_B P + 3 + 2 * e)), (1, .int (nI op)), (2, .ref (zp_B P + 3 + 2 * a)), (3, .ref (zp_B P + 3 + 2 * b))]) (zd_t dmR_combine 24 rfl) rfl (mz_inc k) (by decide) rfl ?_
    refine zg_goto (tgt := 3) (zd_t dmR_combine 25 rfl) (by decide) ?_
    exact ih (k + 1) (by omega)
theorem zr_combine (he : e < 16) (ha : a < 16) (hb : b < 16) (ho : op < 4) (hx : ∀ j, j < 16 → mz_hr (zs_ex S j)) (hok : ∀ j, j < 16 → mz_ok (zs_re S j)) : zg_C l (zs_E P) (d + 3) mR_combine [.ref (zp_B P + 3 + 2 * e), .int (nI op), .ref (zp_B P + 3 + 2 * a), .ref (zp_B P + 3 + 2 * b)] (zs_σ P S th S2 o w) (.inl none, zs_σ P (zs_scmb S op e a b) th S2 o w) := by
  refine zg_C_of (by decide +kernel) (Nat.le_of_ble_eq_true rfl) ?_
  refine zg_iconst (v := (nI 0)) (zd_t dmR_combine 0 rfl) (by decide) ?_
  refine zg_istore (zd_t dmR_combine 1 rfl) (by decide) rfl ?_
  have h := zr_combine_lp (l := l) (P := P) (d := d) (S := S) (S2 := S2) (th := th) (o := o) (w := w) he ha hb ho hx hok 8 0 rfl
  rw [zs_ck_0] at h
  exact h
end ZM6
