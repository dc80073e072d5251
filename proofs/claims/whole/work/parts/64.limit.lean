/-- the model's interval behind a sum or product -/
def zs_lim (T : zs_S) (op e a b : Nat) : Bool := zs_tr T op e a b && decide (mz_hr (mz_mn op (zs_ex T e) (zs_ex T a) (zs_ex T b)))
def zs_lv (T : zs_S) (op e a b : Nat) : Int := if zs_lim T op e a b = true then mz_mn op (zs_ex T e) (zs_ex T a) (zs_ex T b) else 0
theorem zs_lim_eq {T : zs_S} {op e a b : Nat} (ho : op < 4) (he : mz_hr (zs_ex T e)) : zs_lim T op e a b = zs_csu T op e a b ∧ zs_lv T op e a b = if zs_csu T op e a b = true then zs_cres T op e a b else 0 := by
  have h := mz_mn_eq (x := zs_ex T a) (y := zs_ex T b) ho he
  have h1 : zs_lim T op e a b = zs_csu T op e a b := by
    unfold zs_lim zs_csu zs_cres
    rw [decide_eq_decide.mpr h.1]
  refine ⟨h1, ?_⟩
  unfold zs_lv
  rw [h1]
  by_cases hs : zs_csu T op e a b = true
  · rw [if_pos hs, if_pos hs]
    unfold zs_csu at hs
    rw [Bool.and_eq_true, decide_eq_true_eq] at hs
    exact (h.2 hs.2).symm
  · rw [if_neg hs, if_neg hs]
section ZM15
variable {l : Launch} {P : zs_P} {d : Nat} {S : zs_S} {T : zs_S} {h : Nat → Int} {th : Int32} {o : Int64} {w : Nat × Nat} {e a b i k op : Nat}
theorem zm_limit_308 {s : Bool} {R : Int} {u1 u2 u3 u4 : Value} (he : e < 16) : zg_G l (zs_E P) d mM_limit 307 [(9, u1), (0, .ref (zp_B P + 67)), (1, u2), (2, .int (nI e)), (3, u3), (4, u4), (5, .long (mz_L R)), (7, .long (mz_L R))] [.int (zs_bi s), .int (nI e), .ref (zp_B P + 72)] (zs_σ P S th (T, zs_ex T) o w) (.inl none, zs_σ P S th (zs_sex (zs_ssu T e s) e (if s = true then R else 0), zs_u1 (zs_ex T) e (if s = true then R else 0)) o w) := by
  refine zg_zast (k := e) (t0 := 2) (zd_t dmM_limit 168 rfl) zs_m5 rfl rfl he (by decide) (zs_nb _) zs_um_su ?_
  cases s with
  | true =>
    rw [if_pos rfl]
    refine zg_aload_n (zd_t dmM_limit 169 rfl) rfl ?_
    refine zg_getf (zd_t dmM_limit 170 rfl) zf_M_16 zs_m0 rfl ?_
    refine zg_iload_n (zd_t dmM_limit 171 rfl) rfl ?_
    refine zg_aload_n (zd_t dmM_limit 172 rfl) rfl ?_
    refine zg_getf (zd_t dmM_limit 173 rfl) zf_M_23 zs_m0 rfl ?_
    refine zg_iload_n (zd_t dmM_limit 174 rfl) rfl ?_
    refine zg_zald (k := e) (t0 := 2) (zd_t dmM_limit 175 rfl) zs_m5 rfl rfl he (by decide) ?_
    rw [show zs_su (zs_ssu T e true, zs_ex T).1 e = true from if_pos rfl]
    refine zg_if_eq (tgt := 327) (zd_t dmM_limit 176 rfl) (by decide) (fun hq => absurd hq (by decide)) (fun _ => ?_)
    refine zg_lload (zd_t dmM_limit 177 rfl) rfl ?_
    refine zg_goto (tgt := 328) (zd_t dmM_limit 178 rfl) (by decide) ?_
    refine zg_last (k := e) (t0 := 1) (zd_t dmM_limit 180 rfl) zs_m3 rfl rfl he (by decide) zs_um_lo ?_
    refine zg_aload_n (zd_t dmM_limit 181 rfl) rfl ?_
    refine zg_getf (zd_t dmM_limit 182 rfl) zf_M_20 zs_m0 rfl ?_
    refine zg_iload_n (zd_t dmM_limit 183 rfl) rfl ?_
    refine zg_aload_n (zd_t dmM_limit 184 rfl) rfl ?_
    refine zg_getf (zd_t dmM_limit 185 rfl) zf_M_23 zs_m0 rfl ?_
    refine zg_iload_n (zd_t dmM_limit 186 rfl) rfl ?_
    refine zg_zald (k := e) (t0 := 2) (zd_t dmM_limit 187 rfl) zs_m5 rfl rfl he (by decide) ?_
    rw [show zs_su (zs_sex (zs_ssu T e true) e R, zs_ex T).1 e = true from if_pos rfl]
    refine zg_if_eq (tgt := 348) (zd_t dmM_limit 188 rfl) (by decide) (fun hq => absurd hq (by decide)) (fun _ => ?_)
    refine zg_lload (zd_t dmM_limit 189 rfl) rfl ?_
    refine zg_goto (tgt := 349) (zd_t dmM_limit 190 rfl) (by decide) ?_
    refine zg_last (k := e) (t0 := 1) (zd_t dmM_limit 192 rfl) zs_m4 rfl rfl he (by decide) zs_um_hi ?_
    exact zg_vret (zd_t dmM_limit 193 rfl) rfl rfl
  | false =>
    rw [if_neg (by decide)]
    refine zg_aload_n (zd_t dmM_limit 169 rfl) rfl ?_
    refine zg_getf (zd_t dmM_limit 170 rfl) zf_M_16 zs_m0 rfl ?_
    refine zg_iload_n (zd_t dmM_limit 171 rfl) rfl ?_
    refine zg_aload_n (zd_t dmM_limit 172 rfl) rfl ?_
    refine zg_getf (zd_t dmM_limit 173 rfl) zf_M_23 zs_m0 rfl ?_
    refine zg_iload_n (zd_t dmM_limit 174 rfl) rfl ?_
    refine zg_zald (k := e) (t0 := 2) (zd_t dmM_limit 175 rfl) zs_m5 rfl rfl he (by decide) ?_
    rw [show zs_su (zs_ssu T e false, zs_ex T).1 e = false from if_pos rfl]
    refine zg_if_eq (tgt := 327) (zd_t dmM_limit 176 rfl) (by decide) (fun _ => ?_) (fun hq => absurd (by decide) hq)
    refine zg_lconst (v := mz_L 0) (zd_t dmM_limit 179 rfl) (by decide) ?_
    refine zg_last (k := e) (t0 := 1) (zd_t dmM_limit 180 rfl) zs_m3 rfl rfl he (by decide) zs_um_lo ?_
    refine zg_aload_n (zd_t dmM_limit 181 rfl) rfl ?_
    refine zg_getf (zd_t dmM_limit 182 rfl) zf_M_20 zs_m0 rfl ?_
    refine zg_iload_n (zd_t dmM_limit 183 rfl) rfl ?_
    refine zg_aload_n (zd_t dmM_limit 184 rfl) rfl ?_
    refine zg_getf (zd_t dmM_limit 185 rfl) zf_M_23 zs_m0 rfl ?_
    refine zg_iload_n (zd_t dmM_limit 186 rfl) rfl ?_
    refine zg_zald (k := e) (t0 := 2) (zd_t dmM_limit 187 rfl) zs_m5 rfl rfl he (by decide) ?_
    rw [show zs_su (zs_sex (zs_ssu T e false) e 0, zs_ex T).1 e = false from if_pos rfl]
    refine zg_if_eq (tgt := 348) (zd_t dmM_limit 188 rfl) (by decide) (fun _ => ?_) (fun hq => absurd (by decide) hq)
    refine zg_lconst (v := mz_L 0) (zd_t dmM_limit 191 rfl) (by decide) ?_
    refine zg_last (k := e) (t0 := 1) (zd_t dmM_limit 192 rfl) zs_m4 rfl rfl he (by decide) zs_um_hi ?_
    exact zg_vret (zd_t dmM_limit 193 rfl) rfl rfl
theorem zm_limit_269 {t : Bool} {R : Int} {u2 u3 u4 : Value} (he : e < 16) (hR : mz_in R) : zg_G l (zs_E P) d mM_limit 269 [(0, .ref (zp_B P + 67)), (1, u2), (2, .int (nI e)), (3, u3), (4, u4), (5, .long (mz_L R)), (7, .long (mz_L R))] [.int (zs_bi t)] (zs_σ P S th (T, zs_ex T) o w) (.inl none, zs_σ P S th (zs_sex (zs_ssu T e (t && decide (mz_hr R))) e (if (t && decide (mz_hr R)) = true then R else 0), zs_u1 (zs_ex T) e (if (t && decide (mz_hr R)) = true then R else 0)) o w) := by
  have hH : mz_in 87553987462305 := by unfold mz_in; omega
  have hH2 : mz_in (-87553987462305) := by unfold mz_in; omega
  refine zg_istore (zd_t dmM_limit 148 rfl) (by decide) rfl ?_
  refine zg_aload_n (zd_t dmM_limit 149 rfl) rfl ?_
  refine zg_getf (zd_t dmM_limit 150 rfl) zf_M_23 zs_m0 rfl ?_
  refine zg_iload_n (zd_t dmM_limit 151 rfl) rfl ?_
  refine zg_iload (zd_t dmM_limit 152 rfl) rfl ?_
  cases t with
  | false =>
    refine zg_if_eq (tgt := 306) (zd_t dmM_limit 153 rfl) (by decide) (fun _ => ?_) (fun hq => absurd (by decide) hq)
    refine zg_iconst (v := (nI 0)) (zd_t dmM_limit 167 rfl) (by decide) ?_
    exact zm_limit_308 he
  | true =>
    refine zg_if_eq (tgt := 306) (zd_t dmM_limit 153 rfl) (by decide) (fun hq => absurd hq (by decide)) (fun _ => ?_)
    refine zg_lload (zd_t dmM_limit 154 rfl) rfl ?_
    refine zg_aload_n (zd_t dmM_limit 155 rfl) rfl ?_
    refine zg_getf (zd_t dmM_limit 156 rfl) zf_M_39 zs_m0 rfl ?_
    refine zg_lneg (zd_t dmM_limit 157 rfl) ?_
    rw [mz_neg]
    refine zg_lcmp (zd_t dmM_limit 158 rfl) ?_
    rw [mz_cmp hR hH2]
    by_cases h1 : -87553987462305 ≤ R
    · have e1 : ¬ (if -87553987462305 < R then (1 : Int32) else if R = -87553987462305 then 0 else -1) < 0 := by
        by_cases h2 : -87553987462305 < R
        · rw [if_pos h2]; decide
        · rw [if_neg h2, if_pos (by omega)]; decide
      refine zg_if_lt (tgt := 306) (zd_t dmM_limit 159 rfl) (by decide) (fun hq => absurd hq e1) (fun _ => ?_)
      refine zg_lload (zd_t dmM_limit 160 rfl) rfl ?_
      refine zg_aload_n (zd_t dmM_limit 161 rfl) rfl ?_
      refine zg_getf (zd_t dmM_limit 162 rfl) zf_M_39 zs_m0 rfl ?_
      refine zg_lcmp (zd_t dmM_limit 163 rfl) ?_
      rw [mz_cmp hR hH]
      by_cases h2 : R ≤ 87553987462305
      · have e2 : ¬ 0 < (if 87553987462305 < R then (1 : Int32) else if R = 87553987462305 then 0 else -1) := by
          rw [if_neg (by omega)]
          split <;> decide
        refine zg_if_gt (tgt := 306) (zd_t dmM_limit 164 rfl) (by decide) (fun hq => absurd hq e2) (fun _ => ?_)
        rw [decide_eq_true (show mz_hr R from ⟨h1, h2⟩)]
        refine zg_iconst (v := (nI 1)) (zd_t dmM_limit 165 rfl) (by decide) ?_
        refine zg_goto (tgt := 307) (zd_t dmM_limit 166 rfl) (by decide) ?_
        exact zm_limit_308 (s := true) he
      · have e2 : 0 < (if 87553987462305 < R then (1 : Int32) else if R = 87553987462305 then 0 else -1) := by
          rw [if_pos (by omega)]
          decide
        refine zg_if_gt (tgt := 306) (zd_t dmM_limit 164 rfl) (by decide) (fun _ => ?_) (fun hq => absurd e2 hq)
        rw [decide_eq_false (fun hh : mz_hr R => h2 hh.2)]
        refine zg_iconst (v := (nI 0)) (zd_t dmM_limit 167 rfl) (by decide) ?_
        exact zm_limit_308 (s := false) he
    · have e1 : (if -87553987462305 < R then (1 : Int32) else if R = -87553987462305 then 0 else -1) < 0 := by
        rw [if_neg (by omega), if_neg (by omega)]
        decide
      refine zg_if_lt (tgt := 306) (zd_t dmM_limit 159 rfl) (by decide) (fun _ => ?_) (fun hq => absurd e1 hq)
      rw [decide_eq_false (fun hh : mz_hr R => h1 hh.1)]
      refine zg_iconst (v := (nI 0)) (zd_t dmM_limit 167 rfl) (by decide) ?_
      exact zm_limit_308 (s := false) he
theorem zm_limit_231 {R : Int} (ho : op < 4) (he : e < 16) (ha : a < 16) (hb : b < 16) (hR : mz_in R) : zg_G l (zs_E P) d mM_limit 231 [(0, .ref (zp_B P + 67)), (1, .int (nI op)), (2, .int (nI e)), (3, .int (nI a)), (4, .int (nI b)), (5, .long (mz_L R)), (7, .long (mz_L R))] [] (zs_σ P S th (T, zs_ex T) o w) (.inl none, zs_σ P S th (zs_sex (zs_ssu T e (zs_tr T op e a b && decide (mz_hr R))) e (if (zs_tr T op e a b && decide (mz_hr R)) = true then R else 0), zs_u1 (zs_ex T) e (if (zs_tr T op e a b && decide (mz_hr R)) = true then R else 0)) o w) := by
  have tl : ∀ t : Bool, t = zs_tr T op e a b → zg_G l (zs_E P) d mM_limit 269 [(0, .ref (zp_B P + 67)), (1, .int (nI op)), (2, .int (nI e)), (3, .int (nI a)), (4, .int (nI b)), (5, .long (mz_L R)), (7, .long (mz_L R))] [.int (zs_bi t)] (zs_σ P S th (T, zs_ex T) o w) (.inl none, zs_σ P S th (zs_sex (zs_ssu T e (zs_tr T op e a b && decide (mz_hr R))) e (if (zs_tr T op e a b && decide (mz_hr R)) = true then R else 0), zs_u1 (zs_ex T) e (if (zs_tr T op e a b && decide (mz_hr R)) = true then R else 0)) o w) := by
    intro t ht
    have g := zm_limit_269 (l := l) (P := P) (d := d) (S := S) (T := T) (th := th) (o := o) (w := w) (t := t) (u2 := .int (nI op)) (u3 := .int (nI a)) (u4 := .int (nI b)) he hR
    rw [← ht]
    exact g
  refine zg_aload_n (zd_t dmM_limit 127 rfl) rfl ?_
  refine zg_getf (zd_t dmM_limit 128 rfl) zf_M_23 zs_m0 rfl ?_
  refine zg_iload_n (zd_t dmM_limit 129 rfl) rfl ?_
  refine zg_zald (k := a) (t0 := 2) (zd_t dmM_limit 130 rfl) zs_m5 rfl rfl ha (by decide) ?_
  cases h1 : zs_su T a with
  | false =>
    refine zg_if_eq (tgt := 268) (zd_t dmM_limit 131 rfl) (by decide) (fun _ => ?_) (fun hq => absurd (by decide) hq)
    refine zg_iconst (v := (nI 0)) (zd_t dmM_limit 147 rfl) (by decide) ?_
    exact tl false (by unfold zs_tr; rw [h1]; rfl)
  | true =>
    refine zg_if_eq (tgt := 268) (zd_t dmM_limit 131 rfl) (by decide) (fun hq => absurd hq (by decide)) (fun _ => ?_)
    refine zg_aload_n (zd_t dmM_limit 132 rfl) rfl ?_
    refine zg_getf (zd_t dmM_limit 133 rfl) zf_M_23 zs_m0 rfl ?_
    refine zg_iload (zd_t dmM_limit 134 rfl) rfl ?_
    refine zg_zald (k := b) (t0 := 2) (zd_t dmM_limit 135 rfl) zs_m5 rfl rfl hb (by decide) ?_
    cases h2 : zs_su T b with
    | false =>
      refine zg_if_eq (tgt := 268) (zd_t dmM_limit 136 rfl) (by decide) (fun _ => ?_) (fun hq => absurd (by decide) hq)
      refine zg_iconst (v := (nI 0)) (zd_t dmM_limit 147 rfl) (by decide) ?_
      exact tl false (by unfold zs_tr; rw [h1, h2]; rfl)
    | true =>
      refine zg_if_eq (tgt := 268) (zd_t dmM_limit 136 rfl) (by decide) (fun hq => absurd hq (by decide)) (fun _ => ?_)
      refine zg_iload_n (zd_t dmM_limit 137 rfl) rfl ?_
      refine zg_iconst (v := (nI 3)) (zd_t dmM_limit 138 rfl) (by decide) ?_
      by_cases h3 : op < 3
      · refine zg_icmp_lt (tgt := 264) (zd_t dmM_limit 139 rfl) (by decide) (fun _ => ?_) (fun hq => absurd ((nI_ltI (by omega) (by decide)).mpr h3) hq)
        refine zg_iconst (v := (nI 1)) (zd_t dmM_limit 145 rfl) (by decide) ?_
        refine zg_goto (tgt := 269) (zd_t dmM_limit 146 rfl) (by decide) ?_
        exact tl true (by unfold zs_tr; rw [h1, h2, decide_eq_true (by omega), Bool.or_true]; rfl)
      · refine zg_icmp_lt (tgt := 264) (zd_t dmM_limit 139 rfl) (by decide) (fun hq => absurd hq (fun h => h3 ((nI_ltI (by omega) (by decide)).mp h))) (fun _ => ?_)
        refine zg_aload_n (zd_t dmM_limit 140 rfl) rfl ?_
        refine zg_getf (zd_t dmM_limit 141 rfl) zf_M_23 zs_m0 rfl ?_
        refine zg_iload_n (zd_t dmM_limit 142 rfl) rfl ?_
        refine zg_zald (k := e) (t0 := 2) (zd_t dmM_limit 143 rfl) zs_m5 rfl rfl he (by decide) ?_
        cases h4 : zs_su T e with
        | false =>
          refine zg_if_eq (tgt := 268) (zd_t dmM_limit 144 rfl) (by decide) (fun _ => ?_) (fun hq => absurd (by decide) hq)
          refine zg_iconst (v := (nI 0)) (zd_t dmM_limit 147 rfl) (by decide) ?_
          exact tl false (by unfold zs_tr; rw [h1, h2, h4, decide_eq_false (by omega)]; rfl)
        | true =>
          refine zg_if_eq (tgt := 268) (zd_t dmM_limit 144 rfl) (by decide) (fun hq => absurd hq (by decide)) (fun _ => ?_)
          refine zg_iconst (v := (nI 1)) (zd_t dmM_limit 145 rfl) (by decide) ?_
          refine zg_goto (tgt := 269) (zd_t dmM_limit 146 rfl) (by decide) ?_
          exact tl true (by unfold zs_tr; rw [h1, h2, h4]; rfl)
theorem mz_mn_in {op : Nat} {t x y : Int} (ht : mz_hr t) (hx : mz_hr x) (hy : mz_hr y) : mz_in (mz_mn op t x y) := by
  have h1 := mz_pd_in (x := x) (y := y)
  have h2 := ht.1
  have h3 := ht.2
  have h4 := hx.1
  have h5 := hx.2
  have h6 := hy.1
  have h7 := hy.2
  unfold mz_mn mz_in
  split
  · omega
  · split
    · omega
    · split <;> omega
theorem zm_limit (ho : op < 4) (he : e < 16) (ha : a < 16) (hb : b < 16) (hx : ∀ j, j < 16 → mz_hr (zs_ex T j)) : zg_C l (zs_E P) (d + 1) mM_limit [.ref (zp_B P + 67), .int (nI op), .int (nI e), .int (nI a), .int (nI b)] (zs_σ P S th (T, zs_ex T) o w) (.inl none, zs_σ P S th (zs_sex (zs_ssu T e (zs_lim T op e a b)) e (zs_lv T op e a b), zs_u1 (zs_ex T) e (zs_lv T op e a b)) o w) := by
  refine zg_C_of (by decide +kernel) (Nat.le_of_ble_eq_true rfl) ?_
  have hR := mz_mn_in (op := op) (hx e he) (hx a ha) (hx b hb)
  have tl := zm_limit_231 (l := l) (P := P) (d := d + 1) (S := S) (T := T) (th := th) (o := o) (w := w) ho he ha hb hR
  unfold zs_lv zs_lim
  refine zg_iload_n (zd_t dmM_limit 0 rfl) rfl ?_
  by_cases h0 : op = 0
  · rw [show mz_mn op (zs_ex T e) (zs_ex T a) (zs_ex T b) = zs_ex T a + zs_ex T b from if_pos h0] at tl ⊢
    refine zg_if_ne (tgt := 39) (zd_t dmM_limit 1 rfl) (by decide) (fun hq => absurd (by rw [h0]; rfl) hq) (fun _ => ?_)
    refine zg_aload_n (zd_t dmM_limit 2 rfl) rfl ?_
    refine zg_getf (zd_t dmM_limit 3 rfl) zf_M_16 zs_m0 rfl ?_
    refine zg_iload_n (zd_t dmM_limit 4 rfl) rfl ?_
    refine zg_lald (k := a) (t0 := 1) (zd_t dmM_limit 5 rfl) zs_m3 rfl rfl ha (by decide) ?_
    refine zg_aload_n (zd_t dmM_limit 6 rfl) rfl ?_
    refine zg_getf (zd_t dmM_limit 7 rfl) zf_M_16 zs_m0 rfl ?_
    refine zg_iload (zd_t dmM_limit 8 rfl) rfl ?_
    refine zg_lald (k := b) (t0 := 1) (zd_t dmM_limit 9 rfl) zs_m3 rfl rfl hb (by decide) ?_
    refine zg_ladd (zd_t dmM_limit 10 rfl) ?_
    rw [mz_add]
    refine zg_lstore (zd_t dmM_limit 11 rfl) (by decide) rfl ?_
    refine zg_aload_n (zd_t dmM_limit 12 rfl) rfl ?_
    refine zg_getf (zd_t dmM_limit 13 rfl) zf_M_20 zs_m0 rfl ?_
    refine zg_iload_n (zd_t dmM_limit 14 rfl) rfl ?_
    refine zg_lald (k := a) (t0 := 1) (zd_t dmM_limit 15 rfl) zs_m4 rfl rfl ha (by decide) ?_
    refine zg_aload_n (zd_t dmM_limit 16 rfl) rfl ?_
    refine zg_getf (zd_t dmM_limit 17 rfl) zf_M_20 zs_m0 rfl ?_
    refine zg_iload (zd_t dmM_limit 18 rfl) rfl ?_
    refine zg_lald (k := b) (t0 := 1) (zd_t dmM_limit 19 rfl) zs_m4 rfl rfl hb (by decide) ?_
    refine zg_ladd (zd_t dmM_limit 20 rfl) ?_
    rw [mz_add]
    refine zg_lstore (zd_t dmM_limit 21 rfl) (by decide) rfl ?_
    refine zg_goto (tgt := 231) (zd_t dmM_limit 22 rfl) (by decide) ?_
    exact zg_lv [2, 3, 4, 5, 6, 1, 0] rfl tl
  · refine zg_if_ne (tgt := 39) (zd_t dmM_limit 1 rfl) (by decide) (fun _ => ?_) (fun hq => absurd hq (nI_ne0 (by omega) (by omega)))
    refine zg_iload_n (zd_t dmM_limit 23 rfl) rfl ?_
    refine zg_iconst (v := (nI 1)) (zd_t dmM_limit 24 rfl) (by decide) ?_
    by_cases h1 : op = 1
    · rw [show mz_mn op (zs_ex T e) (zs_ex T a) (zs_ex T b) = zs_ex T a - zs_ex T b by unfold mz_mn; rw [if_neg h0, if_pos h1]] at tl ⊢
      refine zg_icmp_ne (tgt := 79) (zd_t dmM_limit 25 rfl) (by decide) (fun hq => absurd (by rw [h1]) hq) (fun _ => ?_)
      refine zg_aload_n (zd_t dmM_limit 26 rfl) rfl ?_
      refine zg_getf (zd_t dmM_limit 27 rfl) zf_M_16 zs_m0 rfl ?_
      refine zg_iload_n (zd_t dmM_limit 28 rfl) rfl ?_
      refine zg_lald (k := a) (t0 := 1) (zd_t dmM_limit 29 rfl) zs_m3 rfl rfl ha (by decide) ?_
      refine zg_aload_n (zd_t dmM_limit 30 rfl) rfl ?_
      refine zg_getf (zd_t dmM_limit 31 rfl) zf_M_20 zs_m0 rfl ?_
      refine zg_iload (zd_t dmM_limit 32 rfl) rfl ?_
      refine zg_lald (k := b) (t0 := 1) (zd_t dmM_limit 33 rfl) zs_m4 rfl rfl hb (by decide) ?_
      refine zg_lsub (zd_t dmM_limit 34 rfl) ?_
      rw [mz_sub]
      refine zg_lstore (zd_t dmM_limit 35 rfl) (by decide) rfl ?_
      refine zg_aload_n (zd_t dmM_limit 36 rfl) rfl ?_
      refine zg_getf (zd_t dmM_limit 37 rfl) zf_M_20 zs_m0 rfl ?_
      refine zg_iload_n (zd_t dmM_limit 38 rfl) rfl ?_
      refine zg_lald (k := a) (t0 := 1) (zd_t dmM_limit 39 rfl) zs_m4 rfl rfl ha (by decide) ?_
      refine zg_aload_n (zd_t dmM_limit 40 rfl) rfl ?_
      refine zg_getf (zd_t dmM_limit 41 rfl) zf_M_16 zs_m0 rfl ?_
      refine zg_iload (zd_t dmM_limit 42 rfl) rfl ?_
      refine zg_lald (k := b) (t0 := 1) (zd_t dmM_limit 43 rfl) zs_m3 rfl rfl hb (by decide) ?_
      refine zg_lsub (zd_t dmM_limit 44 rfl) ?_
      rw [mz_sub]
      refine zg_lstore (zd_t dmM_limit 45 rfl) (by decide) rfl ?_
      refine zg_goto (tgt := 231) (zd_t dmM_limit 46 rfl) (by decide) ?_
      exact zg_lv [2, 3, 4, 5, 6, 1, 0] rfl tl
    · refine zg_icmp_ne (tgt := 79) (zd_t dmM_limit 25 rfl) (by decide) (fun _ => ?_) (fun hq => absurd hq (fun h => h1 ((nI_eq (by omega) (by decide)).mp h)))
      have pin : mz_in (mz_pd (zs_ex T a) (zs_ex T b)) := by
        have := mz_pd_in (x := zs_ex T a) (y := zs_ex T b)
        unfold mz_in
        omega
      refine zg_aload_n (zd_t dmM_limit 47 rfl) rfl ?_
      refine zg_getf (zd_t dmM_limit 48 rfl) zf_M_16 zs_m0 rfl ?_
      refine zg_iload_n (zd_t dmM_limit 49 rfl) rfl ?_
      refine zg_lald (k := a) (t0 := 1) (zd_t dmM_limit 50 rfl) zs_m3 rfl rfl ha (by decide) ?_
      refine zg_aload_n (zd_t dmM_limit 51 rfl) rfl ?_
      refine zg_getf (zd_t dmM_limit 52 rfl) zf_M_16 zs_m0 rfl ?_
      refine zg_iload (zd_t dmM_limit 53 rfl) rfl ?_
      refine zg_lald (k := b) (t0 := 1) (zd_t dmM_limit 54 rfl) zs_m3 rfl rfl hb (by decide) ?_
      refine zg_callS (zd_t dmM_limit 55 rfl) zl_M_87 zm_mM_product zst_mM_product (av := _) (rest := _) (by rfl) (by rfl) (by exact Nat.le_of_ble_eq_true rfl) (zm_product (hx a ha) (hx b hb)) ?_
      refine zg_lstore (zd_t dmM_limit 56 rfl) (by decide) rfl ?_
      refine zg_aload_n (zd_t dmM_limit 57 rfl) rfl ?_
      refine zg_getf (zd_t dmM_limit 58 rfl) zf_M_16 zs_m0 rfl ?_
      refine zg_iload_n (zd_t dmM_limit 59 rfl) rfl ?_
      refine zg_lald (k := a) (t0 := 1) (zd_t dmM_limit 60 rfl) zs_m3 rfl rfl ha (by decide) ?_
      refine zg_aload_n (zd_t dmM_limit 61 rfl) rfl ?_
      refine zg_getf (zd_t dmM_limit 62 rfl) zf_M_20 zs_m0 rfl ?_
      refine zg_iload (zd_t dmM_limit 63 rfl) rfl ?_
      refine zg_lald (k := b) (t0 := 1) (zd_t dmM_limit 64 rfl) zs_m4 rfl rfl hb (by decide) ?_
      refine zg_callS (zd_t dmM_limit 65 rfl) zl_M_87 zm_mM_product zst_mM_product (av := _) (rest := _) (by rfl) (by rfl) (by exact Nat.le_of_ble_eq_true rfl) (zm_product (hx a ha) (hx b hb)) ?_
      refine zg_lstore (zd_t dmM_limit 66 rfl) (by decide) rfl ?_
      refine zg_aload_n (zd_t dmM_limit 67 rfl) rfl ?_
      refine zg_getf (zd_t dmM_limit 68 rfl) zf_M_20 zs_m0 rfl ?_
      refine zg_iload_n (zd_t dmM_limit 69 rfl) rfl ?_
      refine zg_lald (k := a) (t0 := 1) (zd_t dmM_limit 70 rfl) zs_m4 rfl rfl ha (by decide) ?_
      refine zg_aload_n (zd_t dmM_limit 71 rfl) rfl ?_
      refine zg_getf (zd_t dmM_limit 72 rfl) zf_M_16 zs_m0 rfl ?_
      refine zg_iload (zd_t dmM_limit 73 rfl) rfl ?_
      refine zg_lald (k := b) (t0 := 1) (zd_t dmM_limit 74 rfl) zs_m3 rfl rfl hb (by decide) ?_
      refine zg_callS (zd_t dmM_limit 75 rfl) zl_M_87 zm_mM_product zst_mM_product (av := _) (rest := _) (by rfl) (by rfl) (by exact Nat.le_of_ble_eq_true rfl) (zm_product (hx a ha) (hx b hb)) ?_
      refine zg_lstore (zd_t dmM_limit 76 rfl) (by decide) rfl ?_
      refine zg_aload_n (zd_t dmM_limit 77 rfl) rfl ?_
      refine zg_getf (zd_t dmM_limit 78 rfl) zf_M_20 zs_m0 rfl ?_
      refine zg_iload_n (zd_t dmM_limit 79 rfl) rfl ?_
      refine zg_lald (k := a) (t0 := 1) (zd_t dmM_limit 80 rfl) zs_m4 rfl rfl ha (by decide) ?_
      refine zg_aload_n (zd_t dmM_limit 81 rfl) rfl ?_
      refine zg_getf (zd_t dmM_limit 82 rfl) zf_M_20 zs_m0 rfl ?_
      refine zg_iload (zd_t dmM_limit 83 rfl) rfl ?_
      refine zg_lald (k := b) (t0 := 1) (zd_t dmM_limit 84 rfl) zs_m4 rfl rfl hb (by decide) ?_
      refine zg_callS (zd_t dmM_limit 85 rfl) zl_M_87 zm_mM_product zst_mM_product (av := _) (rest := _) (by rfl) (by rfl) (by exact Nat.le_of_ble_eq_true rfl) (zm_product (hx a ha) (hx b hb)) ?_
      refine zg_lstore (zd_t dmM_limit 86 rfl) (by decide) rfl ?_
      refine zg_lload (zd_t dmM_limit 87 rfl) rfl ?_
      refine zg_lload (zd_t dmM_limit 88 rfl) rfl ?_
      refine zg_callS (zd_t dmM_limit 89 rfl) zl_M_91 zm_mM_least zst_mM_least (av := _) (rest := _) (by rfl) (by rfl) (by exact Nat.le_of_ble_eq_true rfl) (zm_least pin) ?_
      refine zg_lload (zd_t dmM_limit 90 rfl) rfl ?_
      refine zg_lload (zd_t dmM_limit 91 rfl) rfl ?_
      refine zg_callS (zd_t dmM_limit 92 rfl) zl_M_91 zm_mM_least zst_mM_least (av := _) (rest := _) (by rfl) (by rfl) (by exact Nat.le_of_ble_eq_true rfl) (zm_least pin) ?_
      refine zg_callS (zd_t dmM_limit 93 rfl) zl_M_91 zm_mM_least zst_mM_least (av := _) (rest := _) (by rfl) (by rfl) (by exact Nat.le_of_ble_eq_true rfl) (zm_least pin) ?_
      refine zg_lstore (zd_t dmM_limit 94 rfl) (by decide) rfl ?_
      refine zg_lload (zd_t dmM_limit 95 rfl) rfl ?_
      refine zg_lload (zd_t dmM_limit 96 rfl) rfl ?_
      refine zg_callS (zd_t dmM_limit 97 rfl) zl_M_94 zm_mM_greatest zst_mM_greatest (av := _) (rest := _) (by rfl) (by rfl) (by exact Nat.le_of_ble_eq_true rfl) (zm_greatest pin) ?_
      refine zg_lload (zd_t dmM_limit 98 rfl) rfl ?_
      refine zg_lload (zd_t dmM_limit 99 rfl) rfl ?_
      refine zg_callS (zd_t dmM_limit 100 rfl) zl_M_94 zm_mM_greatest zst_mM_greatest (av := _) (rest := _) (by rfl) (by rfl) (by exact Nat.le_of_ble_eq_true rfl) (zm_greatest pin) ?_
      refine zg_callS (zd_t dmM_limit 101 rfl) zl_M_94 zm_mM_greatest zst_mM_greatest (av := _) (rest := _) (by rfl) (by rfl) (by exact Nat.le_of_ble_eq_true rfl) (zm_greatest pin) ?_
      refine zg_lstore (zd_t dmM_limit 102 rfl) (by decide) rfl ?_
      refine zg_iload_n (zd_t dmM_limit 103 rfl) rfl ?_
      refine zg_iconst (v := (nI 3)) (zd_t dmM_limit 104 rfl) (by decide) ?_
      by_cases h3 : op = 3
      · rw [show mz_mn op (zs_ex T e) (zs_ex T a) (zs_ex T b) = mz_pd (zs_ex T a) (zs_ex T b) + zs_ex T e by unfold mz_mn; rw [if_neg h0, if_neg h1, if_pos h3]] at tl ⊢
        refine zg_icmp_ne (tgt := 206) (zd_t dmM_limit 105 rfl) (by decide) (fun hq => absurd (by rw [h3]) hq) (fun _ => ?_)
        refine zg_lload (zd_t dmM_limit 106 rfl) rfl ?_
        refine zg_aload_n (zd_t dmM_limit 107 rfl) rfl ?_
        refine zg_getf (zd_t dmM_limit 108 rfl) zf_M_16 zs_m0 rfl ?_
        refine zg_iload_n (zd_t dmM_limit 109 rfl) rfl ?_
        refine zg_lald (k := e) (t0 := 1) (zd_t dmM_limit 110 rfl) zs_m3 rfl rfl he (by decide) ?_
        refine zg_ladd (zd_t dmM_limit 111 rfl) ?_
        rw [mz_add]
        refine zg_goto (tgt := 208) (zd_t dmM_limit 112 rfl) (by decide) ?_
        refine zg_lstore (zd_t dmM_limit 114 rfl) (by decide) rfl ?_
        refine zg_iload_n (zd_t dmM_limit 115 rfl) rfl ?_
        refine zg_iconst (v := (nI 3)) (zd_t dmM_limit 116 rfl) (by decide) ?_
        refine zg_icmp_ne (tgt := 227) (zd_t dmM_limit 117 rfl) (by decide) (fun hq => absurd (by rw [h3]) hq) (fun _ => ?_)
        refine zg_lload (zd_t dmM_limit 118 rfl) rfl ?_
        refine zg_aload_n (zd_t dmM_limit 119 rfl) rfl ?_
        refine zg_getf (zd_t dmM_limit 120 rfl) zf_M_20 zs_m0 rfl ?_
        refine zg_iload_n (zd_t dmM_limit 121 rfl) rfl ?_
        refine zg_lald (k := e) (t0 := 1) (zd_t dmM_limit 122 rfl) zs_m4 rfl rfl he (by decide) ?_
        refine zg_ladd (zd_t dmM_limit 123 rfl) ?_
        rw [mz_add]
        refine zg_goto (tgt := 229) (zd_t dmM_limit 124 rfl) (by decide) ?_
        refine zg_lstore (zd_t dmM_limit 126 rfl) (by decide) rfl ?_
        exact zg_lv [6, 7, 8, 9, 10, 1, 0] rfl tl
      · rw [show mz_mn op (zs_ex T e) (zs_ex T a) (zs_ex T b) = mz_pd (zs_ex T a) (zs_ex T b) by unfold mz_mn; rw [if_neg h0, if_neg h1, if_neg h3]] at tl ⊢
        refine zg_icmp_ne (tgt := 206) (zd_t dmM_limit 105 rfl) (by decide) (fun _ => ?_) (fun hq => absurd hq (fun h => h3 ((nI_eq (by omega) (by decide)).mp h)))
        refine zg_lload (zd_t dmM_limit 113 rfl) rfl ?_
        refine zg_lstore (zd_t dmM_limit 114 rfl) (by decide) rfl ?_
        refine zg_iload_n (zd_t dmM_limit 115 rfl) rfl ?_
        refine zg_iconst (v := (nI 3)) (zd_t dmM_limit 116 rfl) (by decide) ?_
        refine zg_icmp_ne (tgt := 227) (zd_t dmM_limit 117 rfl) (by decide) (fun _ => ?_) (fun hq => absurd hq (fun h => h3 ((nI_eq (by omega) (by decide)).mp h)))
        refine zg_lload (zd_t dmM_limit 125 rfl) rfl ?_
        refine zg_lstore (zd_t dmM_limit 126 rfl) (by decide) rfl ?_
        exact zg_lv [6, 7, 8, 9, 10, 1, 0] rfl tl
end ZM15
