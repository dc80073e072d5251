abbrev zs_b (T : zs_S) : zs_S2 := (T, zs_ex T)
theorem zs_bput (T : zs_S) (i : Nat) (v : Int) : ((zs_sput T i v, zs_u1 (zs_ex T) i v) : zs_S2) = zs_b (zs_sput T i v) := rfl
def mz_vv (op : Nat) (t x y : Int) : Int := if op = 0 then x + y else if op = 1 then x - y else if op = 2 then x * y else t + x * y
theorem mz_vv_cr {op k t x y : Nat} (ho : op < 4) (hx : x < mz_m k) (hy : y < mz_m k) : (mz_vv op (t : Int) (x : Int) (y : Int) % (mz_m k : Int)).toNat = mz_cr op k t x y := by
  have hm := mz_m_lt k
  unfold mz_vv mz_cr
  rcases (by omega : op = 0 ∨ op = 1 ∨ op = 2 ∨ op = 3) with rfl | rfl | rfl | rfl
  · show (((x : Int) + (y : Int)) % (mz_m k : Int)).toNat = (x + y) % mz_m k
    rw [← Int.natCast_add, ← Int.natCast_emod, Int.toNat_natCast]
  · show (((x : Int) - (y : Int)) % (mz_m k : Int)).toNat = (x + mz_m k - y) % mz_m k
    have e : ((x : Int) - (y : Int)) % (mz_m k : Int) = (((x + mz_m k - y : Nat) : Int)) % (mz_m k : Int) := by
      rw [show (((x + mz_m k - y : Nat) : Int)) = ((x : Int) - (y : Int)) + (mz_m k : Int) by omega, Int.add_emod_right]
    rw [e, ← Int.natCast_emod, Int.toNat_natCast]
  · show (((x : Int) * (y : Int)) % (mz_m k : Int)).toNat = (x * y) % mz_m k
    rw [← Int.natCast_mul, ← Int.natCast_emod, Int.toNat_natCast]
  · show (((t : Int) + (x : Int) * (y : Int)) % (mz_m k : Int)).toNat = (t + x * y) % mz_m k
    rw [← Int.natCast_mul, ← Int.natCast_add, ← Int.natCast_emod, Int.toNat_natCast]
theorem mz_vv_in {op t x y : Nat} (ht : t ≤ 256) (hx : x ≤ 256) (hy : y ≤ 256) : mz_in (mz_vv op (t : Int) (x : Int) (y : Int)) := by
  have h1 := Nat.mul_le_mul hx hy
  have h2 : ((x : Int) * (y : Int)) = ((x * y : Nat) : Int) := by rw [Int.natCast_mul]
  unfold mz_vv mz_in
  rw [h2]
  split
  · omega
  · split
    · omega
    · split <;> omega
section ZM16
variable {l : Launch} {P : zs_P} {d : Nat} {S : zs_S} {T : zs_S} {h : Nat → Int} {th : Int32} {o : Int64} {w : Nat × Nat} {e a b i k op : Nat}
theorem zm_reckon_t {V : Int} {u6 u8 : Value} (hk : k < 8) (he : e < 16) (hV : mz_in V) {r : zg_R}
    (kk : zg_G l (zs_E P) (d + 1) mM_reckon 12 [(5, .int (nI (k + 1))), (0, .ref (zp_B P + 67)), (1, .int (nI op)), (2, .int (nI e)), (3, .int (nI a)), (4, .int (nI b))] [] (zs_σ P S th (zs_sre T e k (V % (mz_m k : Int)).toNat, h) o w) r) :
    zg_G l (zs_E P) (d + 1) mM_reckon 107 [(8, u8), (6, u6), (5, .int (nI k)), (0, .ref (zp_B P + 67)), (1, .int (nI op)), (2, .int (nI e)), (3, .int (nI a)), (4, .int (nI b))] [.long (mz_L V)] (zs_σ P S th (T, h) o w) r := by
  have hm := mz_m_lt k
  refine zg_lstore (zd_t dmM_reckon 64 rfl) (by decide) rfl ?_
  refine zg_aload_n (zd_t dmM_reckon 65 rfl) rfl ?_
  refine zg_getf (zd_t dmM_reckon 66 rfl) zf_M_13 zs_m0 rfl ?_
  refine zg_bipush (v := (nI 8)) (zd_t dmM_reckon 67 rfl) (by decide) ?_
  refine zg_iload_n (zd_t dmM_reckon 68 rfl) rfl ?_
  refine zg_imul (zd_t dmM_reckon 69 rfl) ?_
  refine zg_iload (zd_t dmM_reckon 70 rfl) rfl ?_
  refine zg_iadd (zd_t dmM_reckon 71 rfl) ?_
  refine zg_lload (zd_t dmM_reckon 72 rfl) rfl ?_
  refine zg_aload_n (zd_t dmM_reckon 73 rfl) rfl ?_
  refine zg_getf (zd_t dmM_reckon 74 rfl) zf_M_7 zs_m0 rfl ?_
  refine zg_iload (zd_t dmM_reckon 75 rfl) rfl ?_
  refine zg_iald (k := k) (t0 := 0) (zd_t dmM_reckon 76 rfl) zs_m1 rfl rfl hk (by decide) ?_
  rw [show zs_mo k = nI (mz_m k) from if_pos hk]
  refine zg_callS (zd_t dmM_reckon 77 rfl) zl_M_56 zm_mM_rest zst_mM_rest (av := _) (rest := _) (by rfl) (by rfl) (by exact Nat.le_of_ble_eq_true rfl) (zm_rest hV hm.2 hm.1) ?_
  refine zg_iast (k := 8 * e + k) (t0 := 0) (zd_t dmM_reckon 78 rfl) zs_m2 rfl (zs_ix8 e k) (by omega) (by decide) (zs_um_re hk) ?_
  refine zg_iinc (lv2 := [(5, .int (nI (k + 1))), (10, .long (mz_L V)), (8, u8), (6, u6), (0, .ref (zp_B P + 67)), (1, .int (nI op)), (2, .int (nI e)), (3, .int (nI a)), (4, .int (nI b))]) (zd_t dmM_reckon 79 rfl) rfl (mz_inc k) (by decide) rfl ?_
  refine zg_goto (tgt := 12) (zd_t dmM_reckon 80 rfl) (by decide) ?_
  exact zg_lv [0, 4, 5, 6, 7, 8] rfl kk
theorem zm_reckon_lp (ho : op < 4) (he : e < 16) (ha : a < 16) (hb : b < 16) (hok : ∀ j, j < 16 → mz_ok (zs_re T j)) : ∀ (n k : Nat), k + n = 8 → zg_G l (zs_E P) (d + 1) mM_reckon 12 [(5, .int (nI k)), (0, .ref (zp_B P + 67)), (1, .int (nI op)), (2, .int (nI e)), (3, .int (nI a)), (4, .int (nI b))] [] (zs_σ P S th (zs_ck T op e a b k, h) o w) (.inl none, zs_σ P S th (zs_ck T op e a b 8, h) o w) := by
  intro n
  induction n with
  | zero =>
    intro k hk
    have hk : k = 8 := by omega
    subst hk
    refine zg_iload (zd_t dmM_reckon 8 rfl) rfl ?_
    refine zg_bipush (v := (nI 8)) (zd_t dmM_reckon 9 rfl) (by decide) ?_
    refine zg_icmp_ge (tgt := 139) (zd_t dmM_reckon 10 rfl) (by decide) (fun _ => ?_) (fun hq => absurd (by decide) hq)
    exact zg_vret (zd_t dmM_reckon 81 rfl) rfl rfl
  | succ n ih =>
    intro k hk
    have hk8 : k < 8 := by omega
    have hm := mz_m_lt k
    have r1 := hok e he k hk8
    have r2 := hok a ha k hk8
    have r3 := hok b hb k hk8
    have nx := ih (k + 1) (by omega)
    rw [← zs_ck_s, ← mz_vv_cr ho r2 r3] at nx
    have hV : mz_in (mz_vv op (zs_re T e k : Int) (zs_re T a k : Int) (zs_re T b k : Int)) := mz_vv_in (by omega) (by omega) (by omega)
    have tl : ∀ V, V = mz_vv op (zs_re T e k : Int) (zs_re T a k : Int) (zs_re T b k : Int) → zg_G l (zs_E P) (d + 1) mM_reckon 107 [(8, .long (mz_L (zs_re T b k : Int))), (6, .long (mz_L (zs_re T a k : Int))), (5, .int (nI k)), (0, .ref (zp_B P + 67)), (1, .int (nI op)), (2, .int (nI e)), (3, .int (nI a)), (4, .int (nI b))] [.long (mz_L V)] (zs_σ P S th (zs_ck T op e a b k, h) o w) (.inl none, zs_σ P S th (zs_ck T op e a b 8, h) o w) := by
      intro V hv
      subst hv
      exact zm_reckon_t hk8 he hV nx
    refine zg_iload (zd_t dmM_reckon 8 rfl) rfl ?_
    refine zg_bipush (v := (nI 8)) (zd_t dmM_reckon 9 rfl) (by decide) ?_
    refine zg_icmp_ge (tgt := 139) (zd_t dmM_reckon 10 rfl) (by decide) (fun hq => absurd hq (fun h => absurd ((nI_leI (by decide) (by omega)).mp h) (by omega))) (fun _ => ?_)
    refine zg_aload_n (zd_t dmM_reckon 11 rfl) rfl ?_
    refine zg_getf (zd_t dmM_reckon 12 rfl) zf_M_13 zs_m0 rfl ?_
    refine zg_bipush (v := (nI 8)) (zd_t dmM_reckon 13 rfl) (by decide) ?_
    refine zg_iload_n (zd_t dmM_reckon 14 rfl) rfl ?_
    refine zg_imul (zd_t dmM_reckon 15 rfl) ?_
    refine zg_iload (zd_t dmM_reckon 16 rfl) rfl ?_
    refine zg_iadd (zd_t dmM_reckon 17 rfl) ?_
    refine zg_iald (k := 8 * a + k) (t0 := 0) (zd_t dmM_reckon 18 rfl) zs_m2 rfl (zs_ix8 a k) (by omega) (by decide) ?_
    rw [(zs_q8 hk8).1, (zs_q8 hk8).2, zs_ck_at]
    refine zg_i2l (zd_t dmM_reckon 19 rfl) rfl ?_
    rw [mz_i2l (show zs_re T a k < 2 ^ 31 by omega)]
    refine zg_lstore (zd_t dmM_reckon 20 rfl) (by decide) rfl ?_
    refine zg_aload_n (zd_t dmM_reckon 21 rfl) rfl ?_
    refine zg_getf (zd_t dmM_reckon 22 rfl) zf_M_13 zs_m0 rfl ?_
    refine zg_bipush (v := (nI 8)) (zd_t dmM_reckon 23 rfl) (by decide) ?_
    refine zg_iload (zd_t dmM_reckon 24 rfl) rfl ?_
    refine zg_imul (zd_t dmM_reckon 25 rfl) ?_
    refine zg_iload (zd_t dmM_reckon 26 rfl) rfl ?_
    refine zg_iadd (zd_t dmM_reckon 27 rfl) ?_
    refine zg_iald (k := 8 * b + k) (t0 := 0) (zd_t dmM_reckon 28 rfl) zs_m2 rfl (zs_ix8 b k) (by omega) (by decide) ?_
    rw [(zs_q8 hk8).1, (zs_q8 hk8).2, zs_ck_at]
    refine zg_i2l (zd_t dmM_reckon 29 rfl) rfl ?_
    rw [mz_i2l (show zs_re T b k < 2 ^ 31 by omega)]
    refine zg_lstore (zd_t dmM_reckon 30 rfl) (by decide) rfl ?_
    refine zg_iload_n (zd_t dmM_reckon 31 rfl) rfl ?_
    by_cases h0 : op = 0
    · refine zg_if_ne (tgt := 62) (zd_t dmM_reckon 32 rfl) (by decide) (fun hq => absurd (by rw [h0]; rfl) hq) (fun _ => ?_)
      refine zg_lload (zd_t dmM_reckon 33 rfl) rfl ?_
      refine zg_lload (zd_t dmM_reckon 34 rfl) rfl ?_
      refine zg_ladd (zd_t dmM_reckon 35 rfl) ?_
      rw [mz_add]
      refine zg_goto (tgt := 107) (zd_t dmM_reckon 36 rfl) (by decide) ?_
      exact tl _ (if_pos h0).symm
    · refine zg_if_ne (tgt := 62) (zd_t dmM_reckon 32 rfl) (by decide) (fun _ => ?_) (fun hq => absurd hq (nI_ne0 (by omega) (by omega)))
      refine zg_iload_n (zd_t dmM_reckon 37 rfl) rfl ?_
      refine zg_iconst (v := (nI 1)) (zd_t dmM_reckon 38 rfl) (by decide) ?_
      by_cases h1 : op = 1
      · refine zg_icmp_ne (tgt := 75) (zd_t dmM_reckon 39 rfl) (by decide) (fun hq => absurd (by rw [h1]) hq) (fun _ => ?_)
        refine zg_lload (zd_t dmM_reckon 40 rfl) rfl ?_
        refine zg_lload (zd_t dmM_reckon 41 rfl) rfl ?_
        refine zg_lsub (zd_t dmM_reckon 42 rfl) ?_
        rw [mz_sub]
        refine zg_goto (tgt := 107) (zd_t dmM_reckon 43 rfl) (by decide) ?_
        exact tl _ (by unfold mz_vv; rw [if_neg h0, if_pos h1])
      · refine zg_icmp_ne (tgt := 75) (zd_t dmM_reckon 39 rfl) (by decide) (fun _ => ?_) (fun hq => absurd hq (fun h => h1 ((nI_eq (by omega) (by decide)).mp h)))
        refine zg_iload_n (zd_t dmM_reckon 44 rfl) rfl ?_
        refine zg_iconst (v := (nI 2)) (zd_t dmM_reckon 45 rfl) (by decide) ?_
        by_cases h2 : op = 2
        · refine zg_icmp_ne (tgt := 88) (zd_t dmM_reckon 46 rfl) (by decide) (fun hq => absurd (by rw [h2]) hq) (fun _ => ?_)
          refine zg_lload (zd_t dmM_reckon 47 rfl) rfl ?_
          refine zg_lload (zd_t dmM_reckon 48 rfl) rfl ?_
          refine zg_lmul (zd_t dmM_reckon 49 rfl) ?_
          rw [mz_mul]
          refine zg_goto (tgt := 107) (zd_t dmM_reckon 50 rfl) (by decide) ?_
          exact tl _ (by unfold mz_vv; rw [if_neg h0, if_neg h1, if_pos h2])
        · refine zg_icmp_ne (tgt := 88) (zd_t dmM_reckon 46 rfl) (by decide) (fun _ => ?_) (fun hq => absurd hq (fun h => h2 ((nI_eq (by omega) (by decide)).mp h)))
          refine zg_aload_n (zd_t dmM_reckon 51 rfl) rfl ?_
          refine zg_getf (zd_t dmM_reckon 52 rfl) zf_M_13 zs_m0 rfl ?_
          refine zg_bipush (v := (nI 8)) (zd_t dmM_reckon 53 rfl) (by decide) ?_
          refine zg_iload_n (zd_t dmM_reckon 54 rfl) rfl ?_
          refine zg_imul (zd_t dmM_reckon 55 rfl) ?_
          refine zg_iload (zd_t dmM_reckon 56 rfl) rfl ?_
          refine zg_iadd (zd_t dmM_reckon 57 rfl) ?_
          refine zg_iald (k := 8 * e + k) (t0 := 0) (zd_t dmM_reckon 58 rfl) zs_m2 rfl (zs_ix8 e k) (by omega) (by decide) ?_
          rw [(zs_q8 hk8).1, (zs_q8 hk8).2, zs_ck_at]
          refine zg_i2l (zd_t dmM_reckon 59 rfl) rfl ?_
          rw [mz_i2l (show zs_re T e k < 2 ^ 31 by omega)]
          refine zg_lload (zd_t dmM_reckon 60 rfl) rfl ?_
          refine zg_lload (zd_t dmM_reckon 61 rfl) rfl ?_
          refine zg_lmul (zd_t dmM_reckon 62 rfl) ?_
          refine zg_ladd (zd_t dmM_reckon 63 rfl) ?_
          rw [mz_mul, mz_add]
          exact tl _ (by unfold mz_vv; rw [if_neg h0, if_neg h1, if_neg h2])
theorem zm_reckon (ho : op < 4) (he : e < 16) (ha : a < 16) (hb : b < 16) (hI : zs_inv T) : zg_C l (zs_E P) (d + 2) mM_reckon [.ref (zp_B P + 67), .int (nI op), .int (nI e), .int (nI a), .int (nI b)] (zs_σ P S th (zs_b T) o w) (.inl none, zs_σ P S th (zs_b (zs_scmb T op e a b)) o w) := by
  refine zg_C_of (by decide +kernel) (Nat.le_of_ble_eq_true rfl) ?_
  have e1 := zs_lim_eq (T := T) (a := a) (b := b) ho (hI.2.1 e he)
  refine zg_aload_n (zd_t dmM_reckon 0 rfl) rfl ?_
  refine zg_iload_n (zd_t dmM_reckon 1 rfl) rfl ?_
  refine zg_iload_n (zd_t dmM_reckon 2 rfl) rfl ?_
  refine zg_iload_n (zd_t dmM_reckon 3 rfl) rfl ?_
  refine zg_iload (zd_t dmM_reckon 4 rfl) rfl ?_
  refine zg_callV (zd_t dmM_reckon 5 rfl) zl_M_97 zm_mM_limit zi_mM_limit zse_mM_limit zs_m0 zs_cl3 rfl (av := _) (rest := _) (by rfl) (by rfl) (by exact Nat.le_of_ble_eq_true rfl) (zm_limit ho he ha hb hI.2.1) ?_
  rw [e1.2, e1.1]
  refine zg_iconst (v := (nI 0)) (zd_t dmM_reckon 6 rfl) (by decide) ?_
  refine zg_istore (zd_t dmM_reckon 7 rfl) (by decide) rfl ?_
  obtain ⟨T1, hT⟩ : ∃ T1, T1 = zs_sex (zs_ssu T e (zs_csu T op e a b)) e (if zs_csu T op e a b = true then zs_cres T op e a b else 0) := ⟨_, rfl⟩
  have g := zm_reckon_lp (l := l) (P := P) (d := d + 1) (S := S) (T := T1) (h := zs_ex T1) (th := th) (o := o) (w := w) ho he ha hb (fun j hj => by rw [hT]; exact hI.1 j hj) 8 0 rfl
  rw [zs_ck_0, hT] at g
  exact g
theorem zm_scaleBy_lp {x : Nat} {z4 : Int32} (hx : x < 64) {r : zg_R} (kk : zg_G l (zs_E P) d mM_scaleBy 47 [(5, .long (mz_L (mz_pr x 6 : Int))), (0, .ref (zp_B P + 67)), (1, .int (nI e)), (2, .int (nI a)), (3, .int (nI x)), (4, .int z4)] [] (zs_σ P S th (T, h) o w) r) : ∀ (n k : Nat), k + n = 6 → zg_G l (zs_E P) d mM_scaleBy 6 [(7, .int (nI k)), (5, .long (mz_L (mz_pr x k : Int))), (0, .ref (zp_B P + 67)), (1, .int (nI e)), (2, .int (nI a)), (3, .int (nI x)), (4, .int z4)] [] (zs_σ P S th (T, h) o w) r := by
  intro n
  induction n with
  | zero =>
    intro k hk
    have hk : k = 6 := by omega
    subst hk
    refine zg_iload (zd_t dmM_scaleBy 4 rfl) rfl ?_
    refine zg_bipush (v := (nI 6)) (zd_t dmM_scaleBy 5 rfl) (by decide) ?_
    refine zg_icmp_ge (tgt := 47) (zd_t dmM_scaleBy 6 rfl) (by decide) (fun _ => ?_) (fun hq => absurd (by decide) hq)
    exact zg_lv [1, 2, 3, 4, 5, 6] rfl kk
  | succ n ih =>
    intro k hk
    have hm := mz_m_lt k
    have nx : zg_G l (zs_E P) d mM_scaleBy 39 [(7, .int (nI k)), (5, .long (mz_L (mz_pr x k : Int))), (0, .ref (zp_B P + 67)), (1, .int (nI e)), (2, .int (nI a)), (3, .int (nI x)), (4, .int z4)] [.long (mz_L (mz_pr x (k + 1) : Int))] (zs_σ P S th (T, h) o w) r := by
      refine zg_lstore (zd_t dmM_scaleBy 23 rfl) (by decide) rfl ?_
      refine zg_iinc (lv2 := [(7, .int (nI (k + 1))), (5, .long (mz_L (mz_pr x (k + 1) : Int))), (0, .ref (zp_B P + 67)), (1, .int (nI e)), (2, .int (nI a)), (3, .int (nI x)), (4, .int z4)]) (zd_t dmM_scaleBy 24 rfl) rfl (mz_inc k) (by decide) rfl ?_
      refine zg_goto (tgt := 6) (zd_t dmM_scaleBy 25 rfl) (by decide) ?_
      exact ih (k + 1) (by omega)
    refine zg_iload (zd_t dmM_scaleBy 4 rfl) rfl ?_
    refine zg_bipush (v := (nI 6)) (zd_t dmM_scaleBy 5 rfl) (by decide) ?_
    refine zg_icmp_ge (tgt := 47) (zd_t dmM_scaleBy 6 rfl) (by decide) (fun hq => absurd hq (fun h => absurd ((nI_leI (by decide) (by omega)).mp h) (by omega))) (fun _ => ?_)
    refine zg_iload_n (zd_t dmM_scaleBy 7 rfl) rfl ?_
    refine zg_iload (zd_t dmM_scaleBy 8 rfl) rfl ?_
    refine zg_ishr (zd_t dmM_scaleBy 9 rfl) ?_
    refine zg_iconst (v := (nI 1)) (zd_t dmM_scaleBy 10 rfl) (by decide) ?_
    refine zg_iand (zd_t dmM_scaleBy 11 rfl) ?_
    refine zg_iconst (v := (nI 1)) (zd_t dmM_scaleBy 12 rfl) (by decide) ?_
    rw [mz_bit x hx k (by omega)]
    by_cases hb : x / 2 ^ k % 2 = 1
    · refine zg_icmp_ne (tgt := 37) (zd_t dmM_scaleBy 13 rfl) (by decide) (fun hq => absurd (by rw [hb]) hq) (fun _ => ?_)
      refine zg_lload (zd_t dmM_scaleBy 14 rfl) rfl ?_
      refine zg_aload_n (zd_t dmM_scaleBy 15 rfl) rfl ?_
      refine zg_getf (zd_t dmM_scaleBy 16 rfl) zf_M_7 zs_m0 rfl ?_
      refine zg_iload (zd_t dmM_scaleBy 17 rfl) rfl ?_
      refine zg_iald (k := k) (t0 := 0) (zd_t dmM_scaleBy 18 rfl) zs_m1 rfl rfl (show k < 8 by omega) (by decide) ?_
      rw [show zs_mo k = nI (mz_m k) from if_pos (by omega)]
      refine zg_i2l (zd_t dmM_scaleBy 19 rfl) rfl ?_
      rw [mz_i2l (show mz_m k < 2 ^ 31 by omega)]
      refine zg_lmul (zd_t dmM_scaleBy 20 rfl) ?_
      rw [mz_mul, show (mz_pr x k : Int) * (mz_m k : Int) = (mz_pr x (k + 1) : Int) by rw [show mz_pr x (k + 1) = mz_pr x k * mz_m k from if_pos hb]; omega]
      refine zg_goto (tgt := 39) (zd_t dmM_scaleBy 21 rfl) (by decide) ?_
      exact nx
    · have e : mz_pr x (k + 1) = mz_pr x k := if_neg hb
      refine zg_icmp_ne (tgt := 37) (zd_t dmM_scaleBy 13 rfl) (by decide) (fun _ => ?_) (fun hq => absurd hq (fun h => hb ((nI_eq (by omega) (by decide)).mp h)))
      rw [e] at nx
      refine zg_lload (zd_t dmM_scaleBy 22 rfl) rfl ?_
      exact nx
theorem zm_scaleBy {x : Nat} {n : Bool} (he : e < 16) (ha : a < 16) (hx : x < 64) (hp : mz_pop x ≤ 4) (hI : zs_inv T) : zg_C l (zs_E P) (d + 2) mM_scaleBy [.ref (zp_B P + 67), .int (nI e), .int (nI a), .int (nI x), .int (zs_bi n)] (zs_σ P S th (zs_b T) o w) (.inl none, zs_σ P S th (zs_b (zs_ssc T e a x n)) o w) := by
  refine zg_C_of (by decide +kernel) (Nat.le_of_ble_eq_true rfl) ?_
  have hpr := mz_pr_le x hx hp
  have hv := mz_val_hr (zs_re T a)
  refine zg_lconst (v := mz_L 1) (zd_t dmM_scaleBy 0 rfl) (by decide) ?_
  refine zg_lstore (zd_t dmM_scaleBy 1 rfl) (by decide) rfl ?_
  refine zg_iconst (v := (nI 0)) (zd_t dmM_scaleBy 2 rfl) (by decide) ?_
  refine zg_istore (zd_t dmM_scaleBy 3 rfl) (by decide) rfl ?_
  refine zm_scaleBy_lp hx ?_ 6 0 rfl
  obtain ⟨s, hs⟩ : ∃ s : Int, s = (mz_pr x 6 : Int) := ⟨_, rfl⟩
  have hs1 : 1 ≤ s ∧ s < 4000000000 := by omega
  have hsi : mz_in s := by unfold mz_in; omega
  have hsc := mz_sc_hr (n := n) hv hs1.1
  unfold zs_ssc
  rw [← hs]
  refine zg_aload_n (zd_t dmM_scaleBy 26 rfl) rfl ?_
  refine zg_iload_n (zd_t dmM_scaleBy 27 rfl) rfl ?_
  refine zg_callV (zd_t dmM_scaleBy 28 rfl) zl_M_60 zm_mM_valueOf zi_mM_valueOf zse_mM_valueOf zs_m0 zs_cl3 rfl (av := _) (rest := _) (by rfl) (by rfl) (by exact Nat.le_of_ble_eq_true rfl) (zm_valueOf ha (hI.1 a ha)) ?_
  refine zg_lstore (zd_t dmM_scaleBy 29 rfl) (by decide) rfl ?_
  refine zg_aload_n (zd_t dmM_scaleBy 30 rfl) rfl ?_
  refine zg_iload_n (zd_t dmM_scaleBy 31 rfl) rfl ?_
  refine zg_iload (zd_t dmM_scaleBy 32 rfl) rfl ?_
  cases n with
  | true =>
    rw [show mz_sc (mz_val (zs_re T a)) s true = (2 * mz_val (zs_re T a) + s) / (2 * s) from if_pos rfl] at hsc ⊢
    refine zg_if_eq (tgt := 82) (zd_t dmM_scaleBy 33 rfl) (by decide) (fun hq => absurd hq (by decide)) (fun _ => ?_)
    refine zg_ldc2 (zd_t dmM_scaleBy 34 rfl) zc_M_37 ?_
    refine zg_lload (zd_t dmM_scaleBy 35 rfl) rfl ?_
    refine zg_lmul (zd_t dmM_scaleBy 36 rfl) ?_
    refine zg_lload (zd_t dmM_scaleBy 37 rfl) rfl ?_
    refine zg_ladd (zd_t dmM_scaleBy 38 rfl) ?_
    refine zg_ldc2 (zd_t dmM_scaleBy 39 rfl) zc_M_37 ?_
    refine zg_lload (zd_t dmM_scaleBy 40 rfl) rfl ?_
    refine zg_lmul (zd_t dmM_scaleBy 41 rfl) ?_
    rw [mz_mul, mz_mul, mz_add]
    refine zg_callS (zd_t dmM_scaleBy 42 rfl) zl_M_112 zm_mM_down zst_mM_down (av := _) (rest := _) (by rfl) (by rfl) (by exact Nat.le_of_ble_eq_true rfl) (zm_down (by unfold mz_in; omega) (by unfold mz_in; omega) (by omega)) ?_
    refine zg_goto (tgt := 89) (zd_t dmM_scaleBy 43 rfl) (by decide) ?_
    refine zg_callV (zd_t dmM_scaleBy 47 rfl) zl_M_76 zm_mM_put zi_mM_put zse_mM_put zs_m0 zs_cl3 rfl (av := _) (rest := _) (by rfl) (by rfl) (by exact Nat.le_of_ble_eq_true rfl) (zm_put he hsc.i) ?_
    exact zg_vret (zd_t dmM_scaleBy 48 rfl) rfl rfl
  | false =>
    rw [show mz_sc (mz_val (zs_re T a)) s false = mz_val (zs_re T a) / s from if_neg (by decide)] at hsc ⊢
    refine zg_if_eq (tgt := 82) (zd_t dmM_scaleBy 33 rfl) (by decide) (fun _ => ?_) (fun hq => absurd (by decide) hq)
    refine zg_lload (zd_t dmM_scaleBy 44 rfl) rfl ?_
    refine zg_lload (zd_t dmM_scaleBy 45 rfl) rfl ?_
    refine zg_callS (zd_t dmM_scaleBy 46 rfl) zl_M_112 zm_mM_down zst_mM_down (av := _) (rest := _) (by rfl) (by rfl) (by exact Nat.le_of_ble_eq_true rfl) (zm_down hv.i hsi (by omega)) ?_
    refine zg_callV (zd_t dmM_scaleBy 47 rfl) zl_M_76 zm_mM_put zi_mM_put zse_mM_put zs_m0 zs_cl3 rfl (av := _) (rest := _) (by rfl) (by rfl) (by exact Nat.le_of_ble_eq_true rfl) (zm_put he hsc.i) ?_
    exact zg_vret (zd_t dmM_scaleBy 48 rfl) rfl rfl
def zs_cpk (T : zs_S) (i j k : Nat) : zs_S := (T.1, T.2.1, fun q t => if q = i ∧ t < k then zs_re T j t else zs_re T q t, zs_ex T, zs_su T, zs_pg T)
theorem zs_cpk_0 (T : zs_S) (i j : Nat) : zs_cpk T i j 0 = T := by
  unfold zs_cpk
  simp
theorem zs_cpk_at (T : zs_S) (i j k q : Nat) : zs_re (zs_cpk T i j k) q k = zs_re T q k := if_neg (by omega)
theorem zs_cpk_s (T : zs_S) (i j k : Nat) : zs_sre (zs_cpk T i j k) i k (zs_re T j k) = zs_cpk T i j (k + 1) := by
  unfold zs_sre zs_cpk zs_u2 zs_re
  congr 3
  funext q t
  by_cases h1 : q = i ∧ t = k
  · rw [if_pos h1, if_pos ⟨h1.1, by omega⟩, h1.2]
  · rw [if_neg h1]
    by_cases h2 : q = i ∧ t < k
    · simp only [if_pos h2]
      rw [if_pos ⟨h2.1, by omega⟩]
    · simp only [if_neg h2]
      rw [if_neg (fun h => h2 ⟨h.1, by have := h.2; have : t ≠ k := fun e => h1 ⟨h.1, e⟩; omega⟩)]
theorem zm_copy_lp (ha : a < 16) (hb : b < 16) : ∀ (n k : Nat), k + n = 8 → zg_G l (zs_E P) d mM_copy 2 [(3, .int (nI k)), (0, .ref (zp_B P + 67)), (1, .int (nI a)), (2, .int (nI b))] [] (zs_σ P S th (zs_cpk T a b k, zs_ex T) o w) (.inl none, zs_σ P S th (zs_b (zs_scp T a b)) o w) := by
  intro n
  induction n with
  | zero =>
    intro k hk
    have hk : k = 8 := by omega
    subst hk
    refine zg_iload_n (zd_t dmM_copy 2 rfl) rfl ?_
    refine zg_bipush (v := (nI 8)) (zd_t dmM_copy 3 rfl) (by decide) ?_
    refine zg_icmp_ge (tgt := 36) (zd_t dmM_copy 4 rfl) (by decide) (fun _ => ?_) (fun hq => absurd (by decide) hq)
    refine zg_aload_n (zd_t dmM_copy 23 rfl) rfl ?_
    refine zg_getf (zd_t dmM_copy 24 rfl) zf_M_16 zs_m0 rfl ?_
    refine zg_iload_n (zd_t dmM_copy 25 rfl) rfl ?_
    refine zg_aload_n (zd_t dmM_copy 26 rfl) rfl ?_
    refine zg_getf (zd_t dmM_copy 27 rfl) zf_M_16 zs_m0 rfl ?_
    refine zg_iload_n (zd_t dmM_copy 28 rfl) rfl ?_
    refine zg_lald (k := b) (t0 := 1) (zd_t dmM_copy 29 rfl) zs_m3 rfl rfl hb (by decide) ?_
    refine zg_last (k := a) (t0 := 1) (zd_t dmM_copy 30 rfl) zs_m3 rfl rfl ha (by decide) zs_um_lo ?_
    refine zg_aload_n (zd_t dmM_copy 31 rfl) rfl ?_
    refine zg_getf (zd_t dmM_copy 32 rfl) zf_M_20 zs_m0 rfl ?_
    refine zg_iload_n (zd_t dmM_copy 33 rfl) rfl ?_
    refine zg_aload_n (zd_t dmM_copy 34 rfl) rfl ?_
    refine zg_getf (zd_t dmM_copy 35 rfl) zf_M_20 zs_m0 rfl ?_
    refine zg_iload_n (zd_t dmM_copy 36 rfl) rfl ?_
    refine zg_lald (k := b) (t0 := 1) (zd_t dmM_copy 37 rfl) zs_m4 rfl rfl hb (by decide) ?_
    refine zg_last (k := a) (t0 := 1) (zd_t dmM_copy 38 rfl) zs_m4 rfl rfl ha (by decide) zs_um_hi ?_
    refine zg_aload_n (zd_t dmM_copy 39 rfl) rfl ?_
    refine zg_getf (zd_t dmM_copy 40 rfl) zf_M_23 zs_m0 rfl ?_
    refine zg_iload_n (zd_t dmM_copy 41 rfl) rfl ?_
    refine zg_aload_n (zd_t dmM_copy 42 rfl) rfl ?_
    refine zg_getf (zd_t dmM_copy 43 rfl) zf_M_23 zs_m0 rfl ?_
    refine zg_iload_n (zd_t dmM_copy 44 rfl) rfl ?_
    refine zg_zald (k := b) (t0 := 2) (zd_t dmM_copy 45 rfl) zs_m5 rfl rfl hb (by decide) ?_
    refine zg_zast (k := a) (t0 := 2) (zd_t dmM_copy 46 rfl) zs_m5 rfl rfl ha (by decide) (zs_nb _) zs_um_su ?_
    exact zg_vret (zd_t dmM_copy 47 rfl) rfl rfl
  | succ n ih =>
    intro k hk
    have hk8 : k < 8 := by omega
    refine zg_iload_n (zd_t dmM_copy 2 rfl) rfl ?_
    refine zg_bipush (v := (nI 8)) (zd_t dmM_copy 3 rfl) (by decide) ?_
    refine zg_icmp_ge (tgt := 36) (zd_t dmM_copy 4 rfl) (by decide) (fun hq => absurd hq (fun h => absurd ((nI_leI (by decide) (by omega)).mp h) (by omega))) (fun _ => ?_)
    refine zg_aload_n (zd_t dmM_copy 5 rfl) rfl ?_
    refine zg_getf (zd_t dmM_copy 6 rfl) zf_M_13 zs_m0 rfl ?_
    refine zg_bipush (v := (nI 8)) (zd_t dmM_copy 7 rfl) (by decide) ?_
    refine zg_iload_n (zd_t dmM_copy 8 rfl) rfl ?_
    refine zg_imul (zd_t dmM_copy 9 rfl) ?_
    refine zg_iload_n (zd_t dmM_copy 10 rfl) rfl ?_
    refine zg_iadd (zd_t dmM_copy 11 rfl) ?_
    refine zg_aload_n (zd_t dmM_copy 12 rfl) rfl ?_
    refine zg_getf (zd_t dmM_copy 13 rfl) zf_M_13 zs_m0 rfl ?_
    refine zg_bipush (v := (nI 8)) (zd_t dmM_copy 14 rfl) (by decide) ?_
    refine zg_iload_n (zd_t dmM_copy 15 rfl) rfl ?_
    refine zg_imul (zd_t dmM_copy 16 rfl) ?_
    refine zg_iload_n (zd_t dmM_copy 17 rfl) rfl ?_
    refine zg_iadd (zd_t dmM_copy 18 rfl) ?_
    refine zg_iald (k := 8 * b + k) (t0 := 0) (zd_t dmM_copy 19 rfl) zs_m2 rfl (zs_ix8 b k) (by omega) (by decide) ?_
    rw [(zs_q8 hk8).1, (zs_q8 hk8).2, zs_cpk_at]
    refine zg_iast (k := 8 * a + k) (t0 := 0) (zd_t dmM_copy 20 rfl) zs_m2 rfl (zs_ix8 a k) (by omega) (by decide) ((zs_um_re hk8).trans (by rw [zs_cpk_s])) ?_
    refine zg_iinc (lv2 := [(3, .int (nI (k + 1))), (0, .ref (zp_B P + 67)), (1, .int (nI a)), (2, .int (nI b))]) (zd_t dmM_copy 21 rfl) rfl (mz_inc k) (by decide) rfl ?_
    refine zg_goto (tgt := 2) (zd_t dmM_copy 22 rfl) (by decide) ?_
    exact ih (k + 1) (by omega)
theorem zm_copy (ha : a < 16) (hb : b < 16) : zg_C l (zs_E P) d mM_copy [.ref (zp_B P + 67), .int (nI a), .int (nI b)] (zs_σ P S th (zs_b T) o w) (.inl none, zs_σ P S th (zs_b (zs_scp T a b)) o w) := by
  refine zg_C_of (by decide +kernel) (Nat.le_of_ble_eq_true rfl) ?_
  refine zg_iconst (v := (nI 0)) (zd_t dmM_copy 0 rfl) (by decide) ?_
  refine zg_istore_n (zd_t dmM_copy 1 rfl) (by decide) rfl ?_
  have g := zm_copy_lp (l := l) (P := P) (d := d) (S := S) (T := T) (th := th) (o := o) (w := w) ha hb 8 0 rfl
  rw [zs_cpk_0] at g
  exact g
theorem mz_alt_up (ρ : Nat → Nat) (k v : Nat) : mz_alt ρ (k + 1) v = mz_up ρ k v := by
  funext j
  unfold mz_alt mz_up
  by_cases hj : j = k
  · rw [if_pos hj, if_pos (by omega)]
  · rw [if_neg hj, if_neg (by omega)]
theorem mz_up_same (ρ : Nat → Nat) (k : Nat) : mz_up ρ k (ρ k) = ρ := by
  funext j
  unfold mz_up
  by_cases hj : j = k
  · rw [if_pos hj, hj]
  · rw [if_neg hj]
theorem mz_P_ne {ρ : Nat → Nat} {k : Nat} (hg : ¬ mz_good ρ) : ¬ mz_P ρ k (ρ k) := by
  unfold mz_P
  rw [mz_up_same]
  exact hg
theorem mz_hf_P {ρ : Nat → Nat} (hok : mz_ok ρ) {k v : Nat} (hk : k < 6) (hv : v < mz_m k) : mz_P ρ k v ↔ (mz_hf ρ k ∧ v = mz_ht ρ k) := by
  have h := mz_heal hok k hk hv
  have hm := mz_m_lt k
  have h1 := Int.emod_nonneg (mz_num ρ k) (show (mz_m k : Int) ≠ 0 by omega)
  rw [h]
  have e : mz_hn ρ k = mz_num ρ k := if_pos hk
  unfold mz_hf mz_ht
  rw [e]
  constructor
  · intro hh
    exact ⟨hh.1, by have := hh.2; omega⟩
  · intro hh
    exact ⟨hh.1, by have := hh.2; omega⟩
theorem mz_hf_6 {ρ : Nat → Nat} (hok : mz_ok ρ) : mz_hf ρ 6 ↔ mz_val ρ % 255 = (ρ 7 : Int) := by
  have h := mz_fit_val hok 6 (by decide)
  have e : mz_hn ρ 6 = mz_val ρ := if_neg (by decide)
  unfold mz_hf
  rw [e, h]
  exact ⟨fun hh => hh.2 (by decide), fun hh => ⟨fun h => absurd rfl h, fun _ => hh⟩⟩
theorem mz_hf_7 {ρ : Nat → Nat} (hok : mz_ok ρ) : mz_hf ρ 7 ↔ mz_val ρ % 256 = (ρ 6 : Int) := by
  have h := mz_fit_val hok 7 (by decide)
  have e : mz_hn ρ 7 = mz_val ρ := if_neg (by decide)
  unfold mz_hf
  rw [e, h]
  exact ⟨fun hh => hh.1 (by decide), fun hh => ⟨fun _ => hh, fun h => absurd rfl h⟩⟩
/-- what the model finds for channel k -/
def mz_cu (ρ : Nat → Nat) (k : Nat) : Int32 := if mz_hf ρ k then nI (mz_ht ρ k) else -1
theorem mz_cu_6 {ρ : Nat → Nat} (hh : mz_hf ρ 6) : mz_cu ρ 6 = nI (mz_val ρ % 256).toNat := by
  have e : mz_hn ρ 6 = mz_val ρ := if_neg (by decide)
  unfold mz_cu mz_ht
  rw [if_pos hh, e]
  rfl
theorem mz_cu_7 {ρ : Nat → Nat} (hh : mz_hf ρ 7) : mz_cu ρ 7 = nI (mz_val ρ % 255).toNat := by
  have e : mz_hn ρ 7 = mz_val ρ := if_neg (by decide)
  unfold mz_cu mz_ht
  rw [if_pos hh, e]
  rfl
theorem zm_cure_lp (hi : i < 16) (hk : k < 6) (hok : mz_ok (zs_re T i)) (hg : ¬ mz_good (zs_re T i)) : ∀ (n v : Nat), v + n = mz_m k → (mz_hf (zs_re T i) k → v ≤ mz_ht (zs_re T i) k) → zg_G l (zs_E P) (d + 2) mM_cure 69 [(3, .int (nI v)), (0, .ref (zp_B P + 67)), (1, .int (nI i)), (2, .int (nI (k + 1)))] [] (zs_σ P S th (T, h) o w) (.inl (some (.int (mz_cu (zs_re T i) k))), zs_σ P S th (T, h) o w) := by
  have hm := mz_m_lt k
  intro n
  induction n with
  | zero =>
    intro v hv hle
    have hlt := mz_ht_lt (zs_re T i) k
    refine zg_iload_n (zd_t dmM_cure 41 rfl) rfl ?_
    refine zg_aload_n (zd_t dmM_cure 42 rfl) rfl ?_
    refine zg_getf (zd_t dmM_cure 43 rfl) zf_M_7 zs_m0 rfl ?_
    refine zg_iload_n (zd_t dmM_cure 44 rfl) rfl ?_
    refine zg_iconst (v := (nI 1)) (zd_t dmM_cure 45 rfl) (by decide) ?_
    refine zg_isub (zd_t dmM_cure 46 rfl) ?_
    refine zg_iald (k := k) (t0 := 0) (zd_t dmM_cure 47 rfl) zs_m1 rfl (nI_pred k) (by omega) (by decide) ?_
    rw [show zs_mo k = nI (mz_m k) from if_pos (by omega)]
    refine zg_icmp_ge (tgt := 139) (zd_t dmM_cure 48 rfl) (by decide) (fun _ => ?_) (fun hq => absurd ((nI_leI (by omega) (by omega)).mpr (by omega)) hq)
    refine zg_iconst (v := (-1)) (zd_t dmM_cure 83 rfl) (by decide) ?_
    rw [show mz_cu (zs_re T i) k = -1 from if_neg (fun hf => by have := hle hf; omega)]
    exact zg_iret (zd_t dmM_cure 84 rfl) rfl rfl
  | succ n ih =>
    intro v hv hle
    have hr := hok k (by omega)
    have hP := mz_hf_P hok hk (v := v) (by omega)
    have nx : ¬ (mz_hf (zs_re T i) k ∧ v = mz_ht (zs_re T i) k) → ∀ u4 : Value, zg_G l (zs_E P) (d + 2) mM_cure 133 [(4, u4), (3, .int (nI v)), (0, .ref (zp_B P + 67)), (1, .int (nI i)), (2, .int (nI (k + 1)))] [] (zs_σ P S th (T, h) o w) (.inl (some (.int (mz_cu (zs_re T i) k))), zs_σ P S th (T, h) o w) := by
      intro hne u4
      refine zg_iinc (lv2 := [(3, .int (nI (v + 1))), (4, u4), (0, .ref (zp_B P + 67)), (1, .int (nI i)), (2, .int (nI (k + 1)))]) (zd_t dmM_cure 81 rfl) rfl (mz_inc v) (by decide) rfl ?_
      refine zg_goto (tgt := 69) (zd_t dmM_cure 82 rfl) (by decide) ?_
      exact zg_lv [0, 2, 3, 4] rfl (ih (v + 1) (by omega) (fun hf => by
        have h1 := hle hf
        have h2 : v ≠ mz_ht (zs_re T i) k := fun e => hne ⟨hf, e⟩
        omega))
    refine zg_iload_n (zd_t dmM_cure 41 rfl) rfl ?_
    refine zg_aload_n (zd_t dmM_cure 42 rfl) rfl ?_
    refine zg_getf (zd_t dmM_cure 43 rfl) zf_M_7 zs_m0 rfl ?_
    refine zg_iload_n (zd_t dmM_cure 44 rfl) rfl ?_
    refine zg_iconst (v := (nI 1)) (zd_t dmM_cure 45 rfl) (by decide) ?_
    refine zg_isub (zd_t dmM_cure 46 rfl) ?_
    refine zg_iald (k := k) (t0 := 0) (zd_t dmM_cure 47 rfl) zs_m1 rfl (nI_pred k) (by omega) (by decide) ?_
    rw [show zs_mo k = nI (mz_m k) from if_pos (by omega)]
    refine zg_icmp_ge (tgt := 139) (zd_t dmM_cure 48 rfl) (by decide) (fun hq => absurd hq (fun h => absurd ((nI_leI (by omega) (by omega)).mp h) (by omega))) (fun _ => ?_)
    refine zg_aload_n (zd_t dmM_cure 49 rfl) rfl ?_
    refine zg_iload_n (zd_t dmM_cure 50 rfl) rfl ?_
    refine zg_iload_n (zd_t dmM_cure 51 rfl) rfl ?_
    refine zg_iload_n (zd_t dmM_cure 52 rfl) rfl ?_
    refine zg_callV (zd_t dmM_cure 53 rfl) zl_M_52 zm_mM_valueWith zi_mM_valueWith zse_mM_valueWith zs_m0 zs_cl3 rfl (av := _) (rest := _) (by rfl) (by rfl) (by exact Nat.le_of_ble_eq_true rfl) (zm_valueWith (c := k + 1) (v := v) hi (by omega) (by omega) hok) ?_
    rw [mz_alt_up]
    refine zg_lstore (zd_t dmM_cure 54 rfl) (by decide) rfl ?_
    refine zg_iload_n (zd_t dmM_cure 55 rfl) rfl ?_
    refine zg_aload_n (zd_t dmM_cure 56 rfl) rfl ?_
    refine zg_getf (zd_t dmM_cure 57 rfl) zf_M_13 zs_m0 rfl ?_
    refine zg_bipush (v := (nI 8)) (zd_t dmM_cure 58 rfl) (by decide) ?_
    refine zg_iload_n (zd_t dmM_cure 59 rfl) rfl ?_
    refine zg_imul (zd_t dmM_cure 60 rfl) ?_
    refine zg_iload_n (zd_t dmM_cure 61 rfl) rfl ?_
    refine zg_iadd (zd_t dmM_cure 62 rfl) ?_
    refine zg_iconst (v := (nI 1)) (zd_t dmM_cure 63 rfl) (by decide) ?_
    refine zg_isub (zd_t dmM_cure 64 rfl) ?_
    refine zg_iald (k := 8 * i + k) (t0 := 0) (zd_t dmM_cure 65 rfl) zs_m2 rfl (by rw [zs_ix8, show 8 * i + (k + 1) = 8 * i + k + 1 by omega]; exact nI_pred _) (by omega) (by decide) ?_
    rw [(zs_q8 (show k < 8 by omega)).1, (zs_q8 (show k < 8 by omega)).2]
    by_cases hvr : v = zs_re T i k
    · refine zg_icmp_eq (tgt := 133) (zd_t dmM_cure 66 rfl) (by decide) (fun _ => ?_) (fun hq => absurd (by rw [hvr]) hq)
      exact nx (fun hh => mz_P_ne hg (k := k) (by rw [← hvr]; exact hP.mpr hh)) _
    · refine zg_icmp_eq (tgt := 133) (zd_t dmM_cure 66 rfl) (by decide) (fun hq => absurd hq (fun h => hvr ((nI_eq (by omega) (show zs_re T i k < 2 ^ 31 by omega)).mp h))) (fun _ => ?_)
      refine zg_aload_n (zd_t dmM_cure 67 rfl) rfl ?_
      refine zg_lload (zd_t dmM_cure 68 rfl) rfl ?_
      refine zg_iload_n (zd_t dmM_cure 69 rfl) rfl ?_
      refine zg_bipush (v := (nI 6)) (zd_t dmM_cure 70 rfl) (by decide) ?_
      refine zg_callV (zd_t dmM_cure 71 rfl) zl_M_64 zm_mM_fits zi_mM_fits zse_mM_fits zs_m0 zs_cl3 rfl (av := _) (rest := _) (by rfl) (by rfl) (by exact Nat.le_of_ble_eq_true rfl) (zm_fits (k := 6) hi (by decide) (mz_val_in _) hok) ?_
      rw [show (mz_m 6 : Int) = 256 from rfl]
      by_cases h6 : mz_val (mz_up (zs_re T i) k v) % 256 = (zs_re T i 6 : Int)
      · rw [decide_eq_true h6]
        refine zg_if_eq (tgt := 133) (zd_t dmM_cure 72 rfl) (by decide) (fun hq => absurd hq (by decide)) (fun _ => ?_)
        refine zg_aload_n (zd_t dmM_cure 73 rfl) rfl ?_
        refine zg_lload (zd_t dmM_cure 74 rfl) rfl ?_
        refine zg_iload_n (zd_t dmM_cure 75 rfl) rfl ?_
        refine zg_bipush (v := (nI 7)) (zd_t dmM_cure 76 rfl) (by decide) ?_
        refine zg_callV (zd_t dmM_cure 77 rfl) zl_M_64 zm_mM_fits zi_mM_fits zse_mM_fits zs_m0 zs_cl3 rfl (av := _) (rest := _) (by rfl) (by rfl) (by exact Nat.le_of_ble_eq_true rfl) (zm_fits (k := 7) hi (by decide) (mz_val_in _) hok) ?_
        rw [show (mz_m 7 : Int) = 255 from rfl]
        by_cases h7 : mz_val (mz_up (zs_re T i) k v) % 255 = (zs_re T i 7 : Int)
        · rw [decide_eq_true h7]
          refine zg_if_eq (tgt := 133) (zd_t dmM_cure 78 rfl) (by decide) (fun hq => absurd hq (by decide)) (fun _ => ?_)
          refine zg_iload_n (zd_t dmM_cure 79 rfl) rfl ?_
          have hh := hP.mp ⟨h6, h7⟩
          rw [show mz_cu (zs_re T i) k = nI v by unfold mz_cu; rw [if_pos hh.1, ← hh.2]]
          exact zg_iret (zd_t dmM_cure 80 rfl) rfl rfl
        · rw [decide_eq_false h7]
          refine zg_if_eq (tgt := 133) (zd_t dmM_cure 78 rfl) (by decide) (fun _ => ?_) (fun hq => absurd (by decide) hq)
          exact nx (fun hh => h7 (hP.mpr hh).2) _
      · rw [decide_eq_false h6]
        refine zg_if_eq (tgt := 133) (zd_t dmM_cure 72 rfl) (by decide) (fun _ => ?_) (fun hq => absurd (by decide) hq)
        exact nx (fun hh => h6 (hP.mpr hh).1) _
theorem zm_cure (hi : i < 16) (hk : k < 8) (hok : mz_ok (zs_re T i)) (hg : ¬ mz_good (zs_re T i)) : zg_C l (zs_E P) (d + 2) mM_cure [.ref (zp_B P + 67), .int (nI i), .int (nI (k + 1))] (zs_σ P S th (T, h) o w) (.inl (some (.int (mz_cu (zs_re T i) k))), zs_σ P S th (T, h) o w) := by
  refine zg_C_of (by decide +kernel) (Nat.le_of_ble_eq_true rfl) ?_
  refine zg_iload_n (zd_t dmM_cure 0 rfl) rfl ?_
  refine zg_bipush (v := (nI 6)) (zd_t dmM_cure 1 rfl) (by decide) ?_
  by_cases h6 : k < 6
  · refine zg_icmp_le (tgt := 67) (zd_t dmM_cure 2 rfl) (by decide) (fun _ => ?_) (fun hq => absurd ((nI_leI (by omega) (by decide)).mpr (by omega)) hq)
    refine zg_iconst (v := (nI 0)) (zd_t dmM_cure 39 rfl) (by decide) ?_
    refine zg_istore_n (zd_t dmM_cure 40 rfl) (by decide) rfl ?_
    exact zm_cure_lp hi h6 hok hg (mz_m k) 0 (by omega) (fun _ => Nat.zero_le _)
  · refine zg_icmp_le (tgt := 67) (zd_t dmM_cure 2 rfl) (by decide) (fun hq => absurd hq (fun h => absurd ((nI_leI (by omega) (by decide)).mp h) (by omega))) (fun _ => ?_)
    refine zg_aload_n (zd_t dmM_cure 3 rfl) rfl ?_
    refine zg_iload_n (zd_t dmM_cure 4 rfl) rfl ?_
    refine zg_callV (zd_t dmM_cure 5 rfl) zl_M_60 zm_mM_valueOf zi_mM_valueOf zse_mM_valueOf zs_m0 zs_cl3 rfl (av := _) (rest := _) (by rfl) (by rfl) (by exact Nat.le_of_ble_eq_true rfl) (zm_valueOf hi hok) ?_
    refine zg_lstore_n (zd_t dmM_cure 6 rfl) (by decide) rfl ?_
    refine zg_aload_n (zd_t dmM_cure 7 rfl) rfl ?_
    refine zg_lload_n (zd_t dmM_cure 8 rfl) rfl ?_
    refine zg_iload_n (zd_t dmM_cure 9 rfl) rfl ?_
    refine zg_iload_n (zd_t dmM_cure 10 rfl) rfl ?_
    refine zg_bipush (v := (nI 7)) (zd_t dmM_cure 11 rfl) (by decide) ?_
    rcases (by omega : k = 6 ∨ k = 7) with rfl | rfl
    · refine zg_icmp_ne (tgt := 26) (zd_t dmM_cure 12 rfl) (by decide) (fun hq => absurd (by decide) hq) (fun _ => ?_)
      refine zg_bipush (v := (nI 7)) (zd_t dmM_cure 13 rfl) (by decide) ?_
      refine zg_goto (tgt := 28) (zd_t dmM_cure 14 rfl) (by decide) ?_
      refine zg_callV (zd_t dmM_cure 16 rfl) zl_M_64 zm_mM_fits zi_mM_fits zse_mM_fits zs_m0 zs_cl3 rfl (av := _) (rest := _) (by rfl) (by rfl) (by exact Nat.le_of_ble_eq_true rfl) (zm_fits (k := 7) hi (by decide) (mz_val_in _) hok) ?_
      rw [show (mz_m 7 : Int) = 255 from rfl]
      refine zg_istore (zd_t dmM_cure 17 rfl) (by decide) rfl ?_
      refine zg_iload (zd_t dmM_cure 18 rfl) rfl ?_
      by_cases h7 : mz_val (zs_re T i) % 255 = (zs_re T i 7 : Int)
      · rw [decide_eq_true h7, mz_cu_6 ((mz_hf_6 hok).mpr h7)]
        refine zg_if_eq (tgt := 65) (zd_t dmM_cure 19 rfl) (by decide) (fun hq => absurd hq (by decide)) (fun _ => ?_)
        refine zg_aload_n (zd_t dmM_cure 20 rfl) rfl ?_
        refine zg_lload_n (zd_t dmM_cure 21 rfl) rfl ?_
        refine zg_iload_n (zd_t dmM_cure 22 rfl) rfl ?_
        refine zg_iload_n (zd_t dmM_cure 23 rfl) rfl ?_
        refine zg_iconst (v := (nI 1)) (zd_t dmM_cure 24 rfl) (by decide) ?_
        refine zg_isub (zd_t dmM_cure 25 rfl) ?_
        refine zg_callV (zd_t dmM_cure 26 rfl) zl_M_64 zm_mM_fits zi_mM_fits zse_mM_fits zs_m0 zs_cl3 rfl (av := _) (rest := _) (by rfl) (by rfl) (by exact Nat.le_of_ble_eq_true rfl) (zm_fits (k := 6) hi (by decide) (mz_val_in _) hok) ?_
        rw [show (mz_m 6 : Int) = 256 from rfl, decide_eq_false (fun h8 : mz_val (zs_re T i) % 256 = (zs_re T i 6 : Int) => hg ⟨h8, h7⟩)]
        refine zg_if_ne (tgt := 65) (zd_t dmM_cure 27 rfl) (by decide) (fun hq => absurd (by decide) hq) (fun _ => ?_)
        refine zg_lload_n (zd_t dmM_cure 28 rfl) rfl ?_
        refine zg_aload_n (zd_t dmM_cure 29 rfl) rfl ?_
        refine zg_getf (zd_t dmM_cure 30 rfl) zf_M_7 zs_m0 rfl ?_
        refine zg_iload_n (zd_t dmM_cure 31 rfl) rfl ?_
        refine zg_iconst (v := (nI 1)) (zd_t dmM_cure 32 rfl) (by decide) ?_
        refine zg_isub (zd_t dmM_cure 33 rfl) ?_
        refine zg_iald (k := 6) (t0 := 0) (zd_t dmM_cure 34 rfl) zs_m1 rfl (by decide) (by decide) (by decide) ?_
        rw [show zs_mo 6 = nI 256 from rfl]
        refine zg_callS (zd_t dmM_cure 35 rfl) zl_M_56 zm_mM_rest zst_mM_rest (av := _) (rest := _) (by rfl) (by rfl) (by exact Nat.le_of_ble_eq_true rfl) (zm_rest (m := 256) (mz_val_in _) (by decide) (by decide)) ?_
        rw [show ((256 : Nat) : Int) = 256 from rfl]
        refine zg_goto (tgt := 66) (zd_t dmM_cure 36 rfl) (by decide) ?_
        exact zg_iret (zd_t dmM_cure 38 rfl) rfl rfl
      · rw [decide_eq_false h7, show mz_cu (zs_re T i) 6 = -1 from if_neg (fun hh => h7 ((mz_hf_6 hok).mp hh))]
        refine zg_if_eq (tgt := 65) (zd_t dmM_cure 19 rfl) (by decide) (fun _ => ?_) (fun hq => absurd (by decide) hq)
        refine zg_iconst (v := (-1)) (zd_t dmM_cure 37 rfl) (by decide) ?_
        exact zg_iret (zd_t dmM_cure 38 rfl) rfl rfl
    · refine zg_icmp_ne (tgt := 26) (zd_t dmM_cure 12 rfl) (by decide) (fun _ => ?_) (fun hq => absurd hq (by decide))
      refine zg_bipush (v := (nI 6)) (zd_t dmM_cure 15 rfl) (by decide) ?_
      refine zg_callV (zd_t dmM_cure 16 rfl) zl_M_64 zm_mM_fits zi_mM_fits zse_mM_fits zs_m0 zs_cl3 rfl (av := _) (rest := _) (by rfl) (by rfl) (by exact Nat.le_of_ble_eq_true rfl) (zm_fits (k := 6) hi (by decide) (mz_val_in _) hok) ?_
      rw [show (mz_m 6 : Int) = 256 from rfl]
      refine zg_istore (zd_t dmM_cure 17 rfl) (by decide) rfl ?_
      refine zg_iload (zd_t dmM_cure 18 rfl) rfl ?_
      by_cases h7 : mz_val (zs_re T i) % 256 = (zs_re T i 6 : Int)
      · rw [decide_eq_true h7, mz_cu_7 ((mz_hf_7 hok).mpr h7)]
        refine zg_if_eq (tgt := 65) (zd_t dmM_cure 19 rfl) (by decide) (fun hq => absurd hq (by decide)) (fun _ => ?_)
        refine zg_aload_n (zd_t dmM_cure 20 rfl) rfl ?_
        refine zg_lload_n (zd_t dmM_cure 21 rfl) rfl ?_
        refine zg_iload_n (zd_t dmM_cure 22 rfl) rfl ?_
        refine zg_iload_n (zd_t dmM_cure 23 rfl) rfl ?_
        refine zg_iconst (v := (nI 1)) (zd_t dmM_cure 24 rfl) (by decide) ?_
        refine zg_isub (zd_t dmM_cure 25 rfl) ?_
        refine zg_callV (zd_t dmM_cure 26 rfl) zl_M_64 zm_mM_fits zi_mM_fits zse_mM_fits zs_m0 zs_cl3 rfl (av := _) (rest := _) (by rfl) (by rfl) (by exact Nat.le_of_ble_eq_true rfl) (zm_fits (k := 7) hi (by decide) (mz_val_in _) hok) ?_
        rw [show (mz_m 7 : Int) = 255 from rfl, decide_eq_false (fun h8 : mz_val (zs_re T i) % 255 = (zs_re T i 7 : Int) => hg ⟨h7, h8⟩)]
        refine zg_if_ne (tgt := 65) (zd_t dmM_cure 27 rfl) (by decide) (fun hq => absurd (by decide) hq) (fun _ => ?_)
        refine zg_lload_n (zd_t dmM_cure 28 rfl) rfl ?_
        refine zg_aload_n (zd_t dmM_cure 29 rfl) rfl ?_
        refine zg_getf (zd_t dmM_cure 30 rfl) zf_M_7 zs_m0 rfl ?_
        refine zg_iload_n (zd_t dmM_cure 31 rfl) rfl ?_
        refine zg_iconst (v := (nI 1)) (zd_t dmM_cure 32 rfl) (by decide) ?_
        refine zg_isub (zd_t dmM_cure 33 rfl) ?_
        refine zg_iald (k := 7) (t0 := 0) (zd_t dmM_cure 34 rfl) zs_m1 rfl (by decide) (by decide) (by decide) ?_
        rw [show zs_mo 7 = nI 255 from rfl]
        refine zg_callS (zd_t dmM_cure 35 rfl) zl_M_56 zm_mM_rest zst_mM_rest (av := _) (rest := _) (by rfl) (by rfl) (by exact Nat.le_of_ble_eq_true rfl) (zm_rest (m := 255) (mz_val_in _) (by decide) (by decide)) ?_
        rw [show ((255 : Nat) : Int) = 255 from rfl]
        refine zg_goto (tgt := 66) (zd_t dmM_cure 36 rfl) (by decide) ?_
        exact zg_iret (zd_t dmM_cure 38 rfl) rfl rfl
      · rw [decide_eq_false h7, show mz_cu (zs_re T i) 7 = -1 from if_neg (fun hh => h7 ((mz_hf_7 hok).mp hh))]
        refine zg_if_eq (tgt := 65) (zd_t dmM_cure 19 rfl) (by decide) (fun _ => ?_) (fun hq => absurd (by decide) hq)
        refine zg_iconst (v := (-1)) (zd_t dmM_cure 37 rfl) (by decide) ?_
        exact zg_iret (zd_t dmM_cure 38 rfl) rfl rfl
theorem mz_cu_neg (ρ : Nat → Nat) (k : Nat) : mz_cu ρ k < 0 ↔ ¬ mz_hf ρ k := by
  unfold mz_cu
  by_cases hf : mz_hf ρ k
  · rw [if_pos hf]
    exact ⟨fun h => absurd h (nI_pos (by have := mz_ht_lt ρ k; have := mz_m_lt k; omega)), fun h => absurd hf h⟩
  · rw [if_neg hf]
    exact ⟨fun _ => hf, fun _ => by decide⟩
theorem zm_faultOf_lp (hi : i < 16) (hok : mz_ok (zs_re T i)) (hg : ¬ mz_good (zs_re T i)) : ∀ (n k : Nat), k + n = 8 → zg_G l (zs_E P) (d + 3) mM_faultOf 12 [(2, .int (nI (k + 1))), (0, .ref (zp_B P + 67)), (1, .int (nI i))] [] (zs_σ P S th (T, h) o w) (.inl (some (.int (nI (mz_ff (zs_re T i) n k)))), zs_σ P S th (T, h) o w) := by
  intro n
  induction n with
  | zero =>
    intro k hk
    have hk : k = 8 := by omega
    subst hk
    refine zg_iload_n (zd_t dmM_faultOf 8 rfl) rfl ?_
    refine zg_bipush (v := (nI 9)) (zd_t dmM_faultOf 9 rfl) (by decide) ?_
    refine zg_icmp_ge (tgt := 35) (zd_t dmM_faultOf 10 rfl) (by decide) (fun _ => ?_) (fun hq => absurd (by decide) hq)
    refine zg_bipush (v := (nI 9)) (zd_t dmM_faultOf 20 rfl) (by decide) ?_
    exact zg_iret (zd_t dmM_faultOf 21 rfl) rfl rfl
  | succ n ih =>
    intro k hk
    refine zg_iload_n (zd_t dmM_faultOf 8 rfl) rfl ?_
    refine zg_bipush (v := (nI 9)) (zd_t dmM_faultOf 9 rfl) (by decide) ?_
    refine zg_icmp_ge (tgt := 35) (zd_t dmM_faultOf 10 rfl) (by decide) (fun hq => absurd hq (fun h => absurd ((nI_leI (by decide) (by omega)).mp h) (by omega))) (fun _ => ?_)
    refine zg_aload_n (zd_t dmM_faultOf 11 rfl) rfl ?_
    refine zg_iload_n (zd_t dmM_faultOf 12 rfl) rfl ?_
    refine zg_iload_n (zd_t dmM_faultOf 13 rfl) rfl ?_
    refine zg_callV (zd_t dmM_faultOf 14 rfl) zl_M_124 zm_mM_cure zi_mM_cure zse_mM_cure zs_m0 zs_cl3 rfl (av := _) (rest := _) (by rfl) (by rfl) (by exact Nat.le_of_ble_eq_true rfl) (zm_cure (k := k) hi (by omega) hok hg) ?_
    unfold mz_ff
    by_cases hf : mz_hf (zs_re T i) k
    · rw [if_pos hf]
      refine zg_if_lt (tgt := 29) (zd_t dmM_faultOf 15 rfl) (by decide) (fun hq => absurd hq (fun h => absurd hf ((mz_cu_neg _ _).mp h))) (fun _ => ?_)
      refine zg_iload_n (zd_t dmM_faultOf 16 rfl) rfl ?_
      exact zg_iret (zd_t dmM_faultOf 17 rfl) rfl rfl
    · rw [if_neg hf]
      refine zg_if_lt (tgt := 29) (zd_t dmM_faultOf 15 rfl) (by decide) (fun _ => ?_) (fun hq => absurd ((mz_cu_neg _ _).mpr hf) hq)
      refine zg_iinc (lv2 := [(2, .int (nI (k + 1 + 1))), (0, .ref (zp_B P + 67)), (1, .int (nI i))]) (zd_t dmM_faultOf 18 rfl) rfl (mz_inc (k + 1)) (by decide) rfl ?_
      refine zg_goto (tgt := 12) (zd_t dmM_faultOf 19 rfl) (by decide) ?_
      exact ih (k + 1) (by omega)
theorem zm_faultOf (hi : i < 16) (hok : mz_ok (zs_re T i)) : zg_C l (zs_E P) (d + 3) mM_faultOf [.ref (zp_B P + 67), .int (nI i)] (zs_σ P S th (T, h) o w) (.inl (some (.int (nI (mz_fault (zs_re T i))))), zs_σ P S th (T, h) o w) := by
  refine zg_C_of (by decide +kernel) (Nat.le_of_ble_eq_true rfl) ?_
  refine zg_aload_n (zd_t dmM_faultOf 0 rfl) rfl ?_
  refine zg_iload_n (zd_t dmM_faultOf 1 rfl) rfl ?_
  refine zg_callV (zd_t dmM_faultOf 2 rfl) zl_M_80 zm_mM_isGood zi_mM_isGood zse_mM_isGood zs_m0 zs_cl3 rfl (av := _) (rest := _) (by rfl) (by rfl) (by exact Nat.le_of_ble_eq_true rfl) (zm_isGood hi hok) ?_
  unfold mz_fault
  by_cases hg : mz_good (zs_re T i)
  · rw [decide_eq_true hg, if_pos hg]
    refine zg_if_eq (tgt := 10) (zd_t dmM_faultOf 3 rfl) (by decide) (fun hq => absurd hq (by decide)) (fun _ => ?_)
    refine zg_iconst (v := (nI 0)) (zd_t dmM_faultOf 4 rfl) (by decide) ?_
    exact zg_iret (zd_t dmM_faultOf 5 rfl) rfl rfl
  · rw [decide_eq_false hg, if_neg hg]
    refine zg_if_eq (tgt := 10) (zd_t dmM_faultOf 3 rfl) (by decide) (fun _ => ?_) (fun hq => absurd (by decide) hq)
    refine zg_iconst (v := (nI 1)) (zd_t dmM_faultOf 6 rfl) (by decide) ?_
    refine zg_istore_n (zd_t dmM_faultOf 7 rfl) (by decide) rfl ?_
    exact zm_faultOf_lp hi hok hg 8 0 rfl
theorem zm_al_1 {σ : zg_H} {k a b c : Int32} : zg_G l (zs_E P) (d + 2) mM_mayBe 66 (lv_args 0 [.int k, .int a, .int b, .int c]) [] σ (.inl (some (.int (zs_bi (decide (zs_ir a) && (decide (zs_ir b) && decide (zs_ir c)))))), σ) := by
  refine zg_iload_n (zd_t dmM_mayBe 4 rfl) rfl ?_
  refine zg_callS (zd_t dmM_mayBe 5 rfl) zl_M_68 zm_mM_isRegister zst_mM_isRegister (av := _) (rest := _) (by rfl) (by rfl) (by exact Nat.le_of_ble_eq_true rfl) (zm_isRegister a) ?_
  cases decide (zs_ir a) with
  | false =>
    refine zg_if_eq (tgt := 91) (zd_t dmM_mayBe 6 rfl) (by decide) (fun _ => ?_) (fun hq => absurd (by decide) hq)
    refine zg_iconst (v := (nI 0)) (zd_t dmM_mayBe 15 rfl) (by decide) ?_
    exact zg_zret (zd_t dmM_mayBe 16 rfl) rfl rfl rfl
  | true =>
    refine zg_if_eq (tgt := 91) (zd_t dmM_mayBe 6 rfl) (by decide) (fun hq => absurd hq (by decide)) (fun _ => ?_)
    refine zg_iload_n (zd_t dmM_mayBe 7 rfl) rfl ?_
    refine zg_callS (zd_t dmM_mayBe 8 rfl) zl_M_68 zm_mM_isRegister zst_mM_isRegister (av := _) (rest := _) (by rfl) (by rfl) (by exact Nat.le_of_ble_eq_true rfl) (zm_isRegister b) ?_
    cases decide (zs_ir b) with
    | false =>
      refine zg_if_eq (tgt := 91) (zd_t dmM_mayBe 9 rfl) (by decide) (fun _ => ?_) (fun hq => absurd (by decide) hq)
      refine zg_iconst (v := (nI 0)) (zd_t dmM_mayBe 15 rfl) (by decide) ?_
      exact zg_zret (zd_t dmM_mayBe 16 rfl) rfl rfl rfl
    | true =>
      refine zg_if_eq (tgt := 91) (zd_t dmM_mayBe 9 rfl) (by decide) (fun hq => absurd hq (by decide)) (fun _ => ?_)
      refine zg_iload_n (zd_t dmM_mayBe 10 rfl) rfl ?_
      refine zg_callS (zd_t dmM_mayBe 11 rfl) zl_M_68 zm_mM_isRegister zst_mM_isRegister (av := _) (rest := _) (by rfl) (by rfl) (by exact Nat.le_of_ble_eq_true rfl) (zm_isRegister c) ?_
      cases decide (zs_ir c) with
      | false =>
        refine zg_if_eq (tgt := 91) (zd_t dmM_mayBe 12 rfl) (by decide) (fun _ => ?_) (fun hq => absurd (by decide) hq)
        refine zg_iconst (v := (nI 0)) (zd_t dmM_mayBe 15 rfl) (by decide) ?_
        exact zg_zret (zd_t dmM_mayBe 16 rfl) rfl rfl rfl
      | true =>
        refine zg_if_eq (tgt := 91) (zd_t dmM_mayBe 12 rfl) (by decide) (fun hq => absurd hq (by decide)) (fun _ => ?_)
        refine zg_iconst (v := (nI 1)) (zd_t dmM_mayBe 13 rfl) (by decide) ?_
        refine zg_goto (tgt := 92) (zd_t dmM_mayBe 14 rfl) (by decide) ?_
        exact zg_zret (zd_t dmM_mayBe 16 rfl) rfl rfl rfl
theorem zm_al_5 {σ : zg_H} {k a b c : Int32} : zg_G l (zs_E P) (d + 2) mM_mayBe 93 (lv_args 0 [.int k, .int a, .int b, .int c]) [] σ (.inl (some (.int (zs_bi (decide (zs_ir a) && (decide (zs_ir b) && decide (mz_sm c)))))), σ) := by
  refine zg_iload_n (zd_t dmM_mayBe 17 rfl) rfl ?_
  refine zg_callS (zd_t dmM_mayBe 18 rfl) zl_M_68 zm_mM_isRegister zst_mM_isRegister (av := _) (rest := _) (by rfl) (by rfl) (by exact Nat.le_of_ble_eq_true rfl) (zm_isRegister a) ?_
  cases decide (zs_ir a) with
  | false =>
    refine zg_if_eq (tgt := 118) (zd_t dmM_mayBe 19 rfl) (by decide) (fun _ => ?_) (fun hq => absurd (by decide) hq)
    refine zg_iconst (v := (nI 0)) (zd_t dmM_mayBe 28 rfl) (by decide) ?_
    exact zg_zret (zd_t dmM_mayBe 29 rfl) rfl rfl rfl
  | true =>
    refine zg_if_eq (tgt := 118) (zd_t dmM_mayBe 19 rfl) (by decide) (fun hq => absurd hq (by decide)) (fun _ => ?_)
    refine zg_iload_n (zd_t dmM_mayBe 20 rfl) rfl ?_
    refine zg_callS (zd_t dmM_mayBe 21 rfl) zl_M_68 zm_mM_isRegister zst_mM_isRegister (av := _) (rest := _) (by rfl) (by rfl) (by exact Nat.le_of_ble_eq_true rfl) (zm_isRegister b) ?_
    cases decide (zs_ir b) with
    | false =>
      refine zg_if_eq (tgt := 118) (zd_t dmM_mayBe 22 rfl) (by decide) (fun _ => ?_) (fun hq => absurd (by decide) hq)
      refine zg_iconst (v := (nI 0)) (zd_t dmM_mayBe 28 rfl) (by decide) ?_
      exact zg_zret (zd_t dmM_mayBe 29 rfl) rfl rfl rfl
    | true =>
      refine zg_if_eq (tgt := 118) (zd_t dmM_mayBe 22 rfl) (by decide) (fun hq => absurd hq (by decide)) (fun _ => ?_)
      refine zg_iload_n (zd_t dmM_mayBe 23 rfl) rfl ?_
      refine zg_callS (zd_t dmM_mayBe 24 rfl) zl_M_115 zm_mM_isModuli zst_mM_isModuli (av := _) (rest := _) (by rfl) (by rfl) (by exact Nat.le_of_ble_eq_true rfl) (zm_isModuli c) ?_
      cases decide (mz_sm c) with
      | false =>
        refine zg_if_eq (tgt := 118) (zd_t dmM_mayBe 25 rfl) (by decide) (fun _ => ?_) (fun hq => absurd (by decide) hq)
        refine zg_iconst (v := (nI 0)) (zd_t dmM_mayBe 28 rfl) (by decide) ?_
        exact zg_zret (zd_t dmM_mayBe 29 rfl) rfl rfl rfl
      | true =>
        refine zg_if_eq (tgt := 118) (zd_t dmM_mayBe 25 rfl) (by decide) (fun hq => absurd hq (by decide)) (fun _ => ?_)
        refine zg_iconst (v := (nI 1)) (zd_t dmM_mayBe 26 rfl) (by decide) ?_
        refine zg_goto (tgt := 119) (zd_t dmM_mayBe 27 rfl) (by decide) ?_
        exact zg_zret (zd_t dmM_mayBe 29 rfl) rfl rfl rfl
theorem zm_al_6 {σ : zg_H} {k a b c : Int32} : zg_G l (zs_E P) (d + 2) mM_mayBe 120 (lv_args 0 [.int k, .int a, .int b, .int c]) [] σ (.inl (some (.int (zs_bi (decide (zs_ir a) && decide (zs_ir b))))), σ) := by
  refine zg_iload_n (zd_t dmM_mayBe 30 rfl) rfl ?_
  refine zg_callS (zd_t dmM_mayBe 31 rfl) zl_M_68 zm_mM_isRegister zst_mM_isRegister (av := _) (rest := _) (by rfl) (by rfl) (by exact Nat.le_of_ble_eq_true rfl) (zm_isRegister a) ?_
  cases decide (zs_ir a) with
  | false =>
    refine zg_if_eq (tgt := 138) (zd_t dmM_mayBe 32 rfl) (by decide) (fun _ => ?_) (fun hq => absurd (by decide) hq)
    refine zg_iconst (v := (nI 0)) (zd_t dmM_mayBe 38 rfl) (by decide) ?_
    exact zg_zret (zd_t dmM_mayBe 39 rfl) rfl rfl rfl
  | true =>
    refine zg_if_eq (tgt := 138) (zd_t dmM_mayBe 32 rfl) (by decide) (fun hq => absurd hq (by decide)) (fun _ => ?_)
    refine zg_iload_n (zd_t dmM_mayBe 33 rfl) rfl ?_
    refine zg_callS (zd_t dmM_mayBe 34 rfl) zl_M_68 zm_mM_isRegister zst_mM_isRegister (av := _) (rest := _) (by rfl) (by rfl) (by exact Nat.le_of_ble_eq_true rfl) (zm_isRegister b) ?_
    cases decide (zs_ir b) with
    | false =>
      refine zg_if_eq (tgt := 138) (zd_t dmM_mayBe 35 rfl) (by decide) (fun _ => ?_) (fun hq => absurd (by decide) hq)
      refine zg_iconst (v := (nI 0)) (zd_t dmM_mayBe 38 rfl) (by decide) ?_
      exact zg_zret (zd_t dmM_mayBe 39 rfl) rfl rfl rfl
    | true =>
      refine zg_if_eq (tgt := 138) (zd_t dmM_mayBe 35 rfl) (by decide) (fun hq => absurd hq (by decide)) (fun _ => ?_)
      refine zg_iconst (v := (nI 1)) (zd_t dmM_mayBe 36 rfl) (by decide) ?_
      refine zg_goto (tgt := 139) (zd_t dmM_mayBe 37 rfl) (by decide) ?_
      exact zg_zret (zd_t dmM_mayBe 39 rfl) rfl rfl rfl
theorem zm_al_8 {σ : zg_H} {k a b c : Int32} : zg_G l (zs_E P) (d + 2) mM_mayBe 145 (lv_args 0 [.int k, .int a, .int b, .int c]) [] σ (.inl (some (.int (zs_bi (decide (zs_ir a) && decide (zs_ii b))))), σ) := by
  refine zg_iload_n (zd_t dmM_mayBe 43 rfl) rfl ?_
  refine zg_callS (zd_t dmM_mayBe 44 rfl) zl_M_68 zm_mM_isRegister zst_mM_isRegister (av := _) (rest := _) (by rfl) (by rfl) (by exact Nat.le_of_ble_eq_true rfl) (zm_isRegister a) ?_
  cases decide (zs_ir a) with
  | false =>
    refine zg_if_eq (tgt := 163) (zd_t dmM_mayBe 45 rfl) (by decide) (fun _ => ?_) (fun hq => absurd (by decide) hq)
    refine zg_iconst (v := (nI 0)) (zd_t dmM_mayBe 51 rfl) (by decide) ?_
    exact zg_zret (zd_t dmM_mayBe 52 rfl) rfl rfl rfl
  | true =>
    refine zg_if_eq (tgt := 163) (zd_t dmM_mayBe 45 rfl) (by decide) (fun hq => absurd hq (by decide)) (fun _ => ?_)
    refine zg_iload_n (zd_t dmM_mayBe 46 rfl) rfl ?_
    refine zg_callS (zd_t dmM_mayBe 47 rfl) zl_M_133 zm_mM_isInstruction zst_mM_isInstruction (av := _) (rest := _) (by rfl) (by rfl) (by exact Nat.le_of_ble_eq_true rfl) (zm_isInstruction b) ?_
    cases decide (zs_ii b) with
    | false =>
      refine zg_if_eq (tgt := 163) (zd_t dmM_mayBe 48 rfl) (by decide) (fun _ => ?_) (fun hq => absurd (by decide) hq)
      refine zg_iconst (v := (nI 0)) (zd_t dmM_mayBe 51 rfl) (by decide) ?_
      exact zg_zret (zd_t dmM_mayBe 52 rfl) rfl rfl rfl
    | true =>
      refine zg_if_eq (tgt := 163) (zd_t dmM_mayBe 48 rfl) (by decide) (fun hq => absurd hq (by decide)) (fun _ => ?_)
      refine zg_iconst (v := (nI 1)) (zd_t dmM_mayBe 49 rfl) (by decide) ?_
      refine zg_goto (tgt := 164) (zd_t dmM_mayBe 50 rfl) (by decide) ?_
      exact zg_zret (zd_t dmM_mayBe 52 rfl) rfl rfl rfl
theorem zm_al_7 {σ : zg_H} {k a b c : Int32} : zg_G l (zs_E P) (d + 2) mM_mayBe 140 (lv_args 0 [.int k, .int a, .int b, .int c]) [] σ (.inl (some (.int (zs_bi (decide (zs_ii a))))), σ) := by
  refine zg_iload_n (zd_t dmM_mayBe 40 rfl) rfl ?_
  refine zg_callS (zd_t dmM_mayBe 41 rfl) zl_M_133 zm_mM_isInstruction zst_mM_isInstruction (av := _) (rest := _) (by rfl) (by rfl) (by exact Nat.le_of_ble_eq_true rfl) (zm_isInstruction a) ?_
  exact zg_zret (zd_t dmM_mayBe 42 rfl) rfl (zs_nb _) rfl
theorem zm_al_9 {σ : zg_H} {k a b c : Int32} : zg_G l (zs_E P) (d + 2) mM_mayBe 165 (lv_args 0 [.int k, .int a, .int b, .int c]) [] σ (.inl (some (.int (zs_bi (decide (0 ≤ a.toInt ∧ a.toInt ≤ 1000))))), σ) := by
  refine zg_iload_n (zd_t dmM_mayBe 53 rfl) rfl ?_
  refine zg_i2l (zd_t dmM_mayBe 54 rfl) rfl ?_
  rw [zs_i2l]
  refine zg_lconst (v := mz_L 0) (zd_t dmM_mayBe 55 rfl) (by decide) ?_
  refine zg_ldc2 (zd_t dmM_mayBe 56 rfl) zc_M_136 ?_
  refine zg_callS (zd_t dmM_mayBe 57 rfl) zl_M_48 zm_mM_in zst_mM_in (av := _) (rest := _) (by rfl) (by rfl) (by exact Nat.le_of_ble_eq_true rfl) (zm_in (x := a.toInt) (y := 0) (z := 1000) (zs_wi32 a) (by unfold mz_wi; omega) (by unfold mz_wi; omega)) ?_
  exact zg_zret (zd_t dmM_mayBe 58 rfl) rfl (zs_nb _) rfl
theorem zm_al_11 {σ : zg_H} {k a b c : Int32} : zg_G l (zs_E P) (d + 2) mM_mayBe 175 (lv_args 0 [.int k, .int a, .int b, .int c]) [] σ (.inl (some (.int (zs_bi (decide (zs_ir a) && decide (-128 ≤ b.toInt ∧ b.toInt ≤ 127))))), σ) := by
  refine zg_iload_n (zd_t dmM_mayBe 59 rfl) rfl ?_
  refine zg_callS (zd_t dmM_mayBe 60 rfl) zl_M_68 zm_mM_isRegister zst_mM_isRegister (av := _) (rest := _) (by rfl) (by rfl) (by exact Nat.le_of_ble_eq_true rfl) (zm_isRegister a) ?_
  cases decide (zs_ir a) with
  | false =>
    refine zg_if_eq (tgt := 200) (zd_t dmM_mayBe 61 rfl) (by decide) (fun _ => ?_) (fun hq => absurd (by decide) hq)
    refine zg_iconst (v := (nI 0)) (zd_t dmM_mayBe 70 rfl) (by decide) ?_
    exact zg_zret (zd_t dmM_mayBe 71 rfl) rfl rfl rfl
  | true =>
    refine zg_if_eq (tgt := 200) (zd_t dmM_mayBe 61 rfl) (by decide) (fun hq => absurd hq (by decide)) (fun _ => ?_)
    refine zg_iload_n (zd_t dmM_mayBe 62 rfl) rfl ?_
    refine zg_i2l (zd_t dmM_mayBe 63 rfl) rfl ?_
    rw [zs_i2l]
    refine zg_ldc2 (zd_t dmM_mayBe 64 rfl) zc_M_138 ?_
    refine zg_ldc2 (zd_t dmM_mayBe 65 rfl) zc_M_140 ?_
    refine zg_callS (zd_t dmM_mayBe 66 rfl) zl_M_48 zm_mM_in zst_mM_in (av := _) (rest := _) (by rfl) (by rfl) (by exact Nat.le_of_ble_eq_true rfl) (zm_in (x := b.toInt) (y := -128) (z := 127) (zs_wi32 b) (by unfold mz_wi; omega) (by unfold mz_wi; omega)) ?_
    cases decide (-128 ≤ b.toInt ∧ b.toInt ≤ 127) with
    | false =>
      refine zg_if_eq (tgt := 200) (zd_t dmM_mayBe 67 rfl) (by decide) (fun _ => ?_) (fun hq => absurd (by decide) hq)
      refine zg_iconst (v := (nI 0)) (zd_t dmM_mayBe 70 rfl) (by decide) ?_
      exact zg_zret (zd_t dmM_mayBe 71 rfl) rfl rfl rfl
    | true =>
      refine zg_if_eq (tgt := 200) (zd_t dmM_mayBe 67 rfl) (by decide) (fun hq => absurd hq (by decide)) (fun _ => ?_)
      refine zg_iconst (v := (nI 1)) (zd_t dmM_mayBe 68 rfl) (by decide) ?_
      refine zg_goto (tgt := 201) (zd_t dmM_mayBe 69 rfl) (by decide) ?_
      exact zg_zret (zd_t dmM_mayBe 71 rfl) rfl rfl rfl
theorem zm_mayBe {σ : zg_H} (k a b c : Int32) : zg_C l (zs_E P) (d + 2) mM_mayBe [.int k, .int a, .int b, .int c] σ (.inl (some (.int (zs_bi (zs_alw k a b c)))), σ) := by
  refine zg_C_of (by decide +kernel) (Nat.le_of_ble_eq_true rfl) ?_
  refine zg_iload_n (zd_t dmM_mayBe 0 rfl) rfl ?_
  unfold zs_alw
  by_cases hk : 0 ≤ k.toInt ∧ k.toInt ≤ 11
  · rw [if_pos hk]
    obtain ⟨n, hn, rfl⟩ := zs_nof (n := 12) hk.1 (by omega) (by decide)
    rcases (by omega : n = 0 ∨ n = 1 ∨ n = 2 ∨ n = 3 ∨ n = 4 ∨ n = 5 ∨ n = 6 ∨ n = 7 ∨ n = 8 ∨ n = 9 ∨ n = 10 ∨ n = 11) with rfl | rfl | rfl | rfl | rfl | rfl | rfl | rfl | rfl | rfl | rfl | rfl
    · refine zg_tableIn (off := 63) (tgt := 64) (zd_t dmM_mayBe 1 rfl) (by decide) (by decide) (by decide) (by decide) ?_
      refine zg_iconst (v := (nI 1)) (zd_t dmM_mayBe 2 rfl) (by decide) ?_
      exact zg_zret (zd_t dmM_mayBe 3 rfl) rfl rfl rfl
    · refine zg_tableIn (off := 65) (tgt := 66) (zd_t dmM_mayBe 1 rfl) (by decide) (by decide) (by decide) (by decide) ?_
      exact zm_al_1
    · refine zg_tableIn (off := 65) (tgt := 66) (zd_t dmM_mayBe 1 rfl) (by decide) (by decide) (by decide) (by decide) ?_
      exact zm_al_1
    · refine zg_tableIn (off := 65) (tgt := 66) (zd_t dmM_mayBe 1 rfl) (by decide) (by decide) (by decide) (by decide) ?_
      exact zm_al_1
    · refine zg_tableIn (off := 65) (tgt := 66) (zd_t dmM_mayBe 1 rfl) (by decide) (by decide) (by decide) (by decide) ?_
      exact zm_al_1
    · refine zg_tableIn (off := 92) (tgt := 93) (zd_t dmM_mayBe 1 rfl) (by decide) (by decide) (by decide) (by decide) ?_
      exact zm_al_5
    · refine zg_tableIn (off := 119) (tgt := 120) (zd_t dmM_mayBe 1 rfl) (by decide) (by decide) (by decide) (by decide) ?_
      exact zm_al_6
    · refine zg_tableIn (off := 139) (tgt := 140) (zd_t dmM_mayBe 1 rfl) (by decide) (by decide) (by decide) (by decide) ?_
      exact zm_al_7
    · refine zg_tableIn (off := 144) (tgt := 145) (zd_t dmM_mayBe 1 rfl) (by decide) (by decide) (by decide) (by decide) ?_
      exact zm_al_8
    · refine zg_tableIn (off := 164) (tgt := 165) (zd_t dmM_mayBe 1 rfl) (by decide) (by decide) (by decide) (by decide) ?_
      exact zm_al_9
    · refine zg_tableIn (off := 139) (tgt := 140) (zd_t dmM_mayBe 1 rfl) (by decide) (by decide) (by decide) (by decide) ?_
      exact zm_al_7
    · refine zg_tableIn (off := 174) (tgt := 175) (zd_t dmM_mayBe 1 rfl) (by decide) (by decide) (by decide) (by decide) ?_
      exact zm_al_11
  · rw [if_neg hk]
    refine zg_tableOut (tgt := 202) (zd_t dmM_mayBe 1 rfl) (by omega) (by decide) ?_
    refine zg_iconst (v := (nI 0)) (zd_t dmM_mayBe 72 rfl) (by decide) ?_
    exact zg_zret (zd_t dmM_mayBe 73 rfl) rfl rfl rfl
end ZM16
