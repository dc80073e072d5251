/-! heaps that grow: the cells from A on are a list -/
def zb_l (A : Nat) (f : Nat → Option va_E) (L : List va_E) : Nat → Option va_E := fun q => if q < A then f q else L[q - A]?
section ZM19a
variable {A : Nat} {f : Nat → Option va_E} {L L2 : List va_E} {e : va_E}
theorem zb_at {a : Nat} (k : Nat) (ha : a = A + k) (h : L[k]? = some e) : zb_l A f L a = some e := by
  unfold zb_l
  rw [if_neg (by omega), ha, show A + k - A = k by omega]
  exact h
theorem zb_al {s us n : Nat} (hs : s = A + L.length) (h : L ++ [e] = L2) : zg_al (zb_l A f L, s, us) e n = (zb_l A f L2, s + 1, us + n) := by
  unfold zg_al
  have : (fun q => if q = s then some e else zb_l A f L q) = zb_l A f L2 := by
    funext q
    unfold zb_l
    by_cases h1 : q < A
    · rw [if_neg (by omega), if_pos h1, if_pos h1]
    · rw [if_neg h1, if_neg h1, ← h, List.getElem?_append]
      by_cases h2 : q = s
      · rw [if_pos h2, if_neg (by omega), h2, show s - A - L.length = 0 by omega]
        rfl
      · rw [if_neg h2]
        by_cases h3 : q - A < L.length
        · rw [if_pos h3]
        · rw [if_neg h3, List.getElem?_eq_none (by omega), List.getElem?_eq_none (by simp only [List.length_cons, List.length_nil]; omega)]
  show ((fun q => if q = s then some e else zb_l A f L q), s + 1, us + n) = _
  rw [this]
theorem zb_up {a : Nat} {w : Nat × Nat} (k : Nat) (hk : k < L.length) (ha : a = A + k) (h : L.set k e = L2) : zg_up (zb_l A f L, w) a e = (zb_l A f L2, w) := by
  unfold zg_up
  have : (fun q => if q = a then some e else zb_l A f L q) = zb_l A f L2 := by
    funext q
    unfold zb_l
    by_cases h1 : q < A
    · rw [if_neg (by omega), if_pos h1, if_pos h1]
    · rw [if_neg h1, if_neg h1, ← h, List.getElem?_set]
      by_cases h2 : q = a
      · rw [if_pos h2, if_pos (by omega), if_pos hk]
      · rw [if_neg h2, if_neg (by omega)]
  show ((fun q => if q = a then some e else zb_l A f L q), w) = _
  rw [this]
theorem zb_set1 (x y : va_E) : (L ++ [x]).set L.length y = L ++ [y] := by simp
theorem zb_set2 (x y z : va_E) : (L ++ [x, y]).set L.length z = L ++ [z, y] := by simp
theorem zb_get1 (x : va_E) : (L ++ [x])[L.length]? = some x := by simp
theorem zb_get2 (x y : va_E) : (L ++ [x, y])[L.length]? = some x := by simp
end ZM19a
def zb_rD : va_E := .inr (1, [.null, .long 0, .int 0])
def zb_iD : va_E := .inr (2, [.int 0, .int 0, .int 0, .int 0])
def zb_uD : va_E := .inr (0, [.null, .null, .int 0, .int 0])
def zb_re (ca : Nat → ClassId) : va_E := .inl (ca 0, 8, .inl (fun _ => nI 0))
def zb_rg (b : Nat) : va_E := .inr (1, [.ref (b + 1), .long (mz_L 0), .int (zs_bi true)])
section ZM19
variable {l : Launch} {P : zs_P} {d : Nat} {A us : Nat} {f : Nat → Option va_E} {L : List va_E}
theorem zs_oi : Cond.instanceMethod Lib.objectInit ∈ zg_ws (zs_E P) := zs_in 21 (by decide +kernel) (by decide +kernel)
theorem zs_oc : Cond.code Lib.objectInit ⟨#[0xb1]⟩ 1 none ∈ zg_ws (zs_E P) := zs_in 22 (by decide +kernel) (by decide +kernel)
theorem zi_init {w : Nat × Nat} : zg_C l (zs_E P) (d + 1) mI_init [.ref (A + L.length)] (zb_l A f (L ++ [zb_iD]), w) (.inl none, (zb_l A f (L ++ [zb_iD]), w)) := by
  refine zg_C_of (by decide +kernel) (Nat.le_of_ble_eq_true rfl) ?_
  have hat : (zb_l A f (L ++ [zb_iD]), w).1 (A + L.length) = some zb_iD := zb_at L.length rfl (zb_get1 _)
  have hup : zg_up (zb_l A f (L ++ [zb_iD]), w) (A + L.length) zb_iD = (zb_l A f (L ++ [zb_iD]), w) := zb_up L.length (by simp) rfl (zb_set1 _ _)
  refine zg_aload_n (zd_t dmI_init 0 rfl) rfl ?_
  refine zg_objInit (zd_t dmI_init 1 rfl) (zs_in 50 (by decide +kernel) (by decide +kernel)) zs_oi zs_oc (by decide) ?_
  refine zg_aload_n (zd_t dmI_init 2 rfl) rfl ?_
  refine zg_iconst (v := (nI 0)) (zd_t dmI_init 3 rfl) (by decide) ?_
  refine zg_putf (zd_t dmI_init 4 rfl) zf_I_9 zt_2_0 hat (Nat.le_of_ble_eq_true rfl) rfl rfl hup ?_
  refine zg_aload_n (zd_t dmI_init 5 rfl) rfl ?_
  refine zg_iconst (v := (nI 0)) (zd_t dmI_init 6 rfl) (by decide) ?_
  refine zg_putf (zd_t dmI_init 7 rfl) zf_I_15 zt_2_1 hat (Nat.le_of_ble_eq_true rfl) rfl rfl hup ?_
  refine zg_aload_n (zd_t dmI_init 8 rfl) rfl ?_
  refine zg_iconst (v := (nI 0)) (zd_t dmI_init 9 rfl) (by decide) ?_
  refine zg_putf (zd_t dmI_init 10 rfl) zf_I_18 zt_2_2 hat (Nat.le_of_ble_eq_true rfl) rfl rfl hup ?_
  refine zg_aload_n (zd_t dmI_init 11 rfl) rfl ?_
  refine zg_iconst (v := (nI 0)) (zd_t dmI_init 12 rfl) (by decide) ?_
  refine zg_putf (zd_t dmI_init 13 rfl) zf_I_21 zt_2_3 hat (Nat.le_of_ble_eq_true rfl) rfl rfl hup ?_
  exact zg_vret (zd_t dmI_init 14 rfl) rfl rfl
theorem zr_init : zg_C l (zs_E P) (d + 1) mR_init [.ref (A + L.length)] (zb_l A f (L ++ [zb_rD]), A + L.length + 1, us) (.inl none, (zb_l A f (L ++ [zb_rg (A + L.length), zb_re (zp_ca P)]), A + L.length + 1 + 1, us + 8)) := by
  refine zg_C_of (by decide +kernel) (Nat.le_of_ble_eq_true rfl) ?_
  refine zg_aload_n (zd_t dmR_init 0 rfl) rfl ?_
  refine zg_objInit (zd_t dmR_init 1 rfl) (zs_in 31 (by decide +kernel) (by decide +kernel)) zs_oi zs_oc (by decide) ?_
  refine zg_aload_n (zd_t dmR_init 2 rfl) rfl ?_
  refine zg_bipush (v := (nI 8)) (zd_t dmR_init 3 rfl) (by decide) ?_
  refine zg_newa (t0 := 0) (N := 8) (a0 := (8, .inl (fun _ => nI 0))) (zd_t dmR_init 4 rfl) rfl (zs_in 45 (by decide +kernel) (by decide +kernel)) rfl (fun C h => by cases h) rfl (by decide) (fun _ => rfl) (by decide) (zb_al (L2 := L ++ [zb_rD, zb_re (zp_ca P)]) (by simp; omega) (by simp [zb_re])) ?_
  refine zg_putF (zd_t dmR_init 5 rfl) zf_R_9 zt_1_0 (fun C T N h => by cases h; rfl) rfl (zb_at L.length rfl (zb_get2 _ _)) (Nat.le_of_ble_eq_true rfl) rfl rfl (zb_up L.length (by simp) rfl (zb_set2 _ _ _)) ?_
  refine zg_aload_n (zd_t dmR_init 6 rfl) rfl ?_
  refine zg_lconst (v := mz_L 0) (zd_t dmR_init 7 rfl) (by decide) ?_
  refine zg_putf (zd_t dmR_init 8 rfl) zf_R_15 zt_1_1 (zb_at L.length rfl (zb_get2 _ _)) (Nat.le_of_ble_eq_true rfl) rfl rfl (zb_up L.length (by simp) rfl (zb_set2 _ _ _)) ?_
  refine zg_aload_n (zd_t dmR_init 9 rfl) rfl ?_
  refine zg_iconst (v := (nI 1)) (zd_t dmR_init 10 rfl) (by decide) ?_
  refine zg_putf (zd_t dmR_init 11 rfl) zf_R_19 zt_1_2 (zb_at L.length rfl (zb_get2 _ _)) (Nat.le_of_ble_eq_true rfl) rfl rfl (zb_up (L2 := L ++ [zb_rg (A + L.length), zb_re (zp_ca P)]) L.length (by simp) rfl (zb_set2 _ _ _)) ?_
  exact zg_vret (zd_t dmR_init 12 rfl) rfl rfl
end ZM19
