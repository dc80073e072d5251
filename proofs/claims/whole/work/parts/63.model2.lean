def mz_pa (X Y : Int) : Int := if 0 < X ∧ 350215949849222 / X < Y then 525323924773833 else X * Y
def mz_sg (m : Bool) (p : Int) : Int := if m = true then -p else p
def mz_pd (x y : Int) : Int := mz_sg (decide (x < 0) != decide (y < 0)) (mz_pa (x.natAbs : Int) (y.natAbs : Int))
theorem mz_sg_mul (x y : Int) : mz_sg (decide (x < 0) != decide (y < 0)) ((x.natAbs : Int) * (y.natAbs : Int)) = x * y := by
  unfold mz_sg
  by_cases hx : x < 0 <;> by_cases hy : y < 0
  · rw [decide_eq_true hx, decide_eq_true hy, if_neg (by decide), show (x.natAbs : Int) = -x by omega, show (y.natAbs : Int) = -y by omega, Int.neg_mul_neg]
  · rw [decide_eq_true hx, decide_eq_false hy, if_pos (by decide), show (x.natAbs : Int) = -x by omega, show (y.natAbs : Int) = y by omega, Int.neg_mul, Int.neg_neg]
  · rw [decide_eq_false hx, decide_eq_true hy, if_pos (by decide), show (x.natAbs : Int) = x by omega, show (y.natAbs : Int) = -y by omega, Int.mul_neg, Int.neg_neg]
  · rw [decide_eq_false hx, decide_eq_false hy, if_neg (by decide), show (x.natAbs : Int) = x by omega, show (y.natAbs : Int) = y by omega]
theorem mz_pd_spec (x y : Int) : ((x * y).natAbs ≤ 175107974924610 → mz_pd x y = x * y) ∧ (175107974924611 ≤ (x * y).natAbs → 175107974924611 ≤ (mz_pd x y).natAbs) := by
  have hm := mz_sg_mul x y
  have ha : ((x.natAbs : Int) * (y.natAbs : Int)) = ((x * y).natAbs : Int) := by rw [Int.natAbs_mul]; rfl
  unfold mz_pd mz_pa
  obtain ⟨X, hX⟩ : ∃ X : Int, X = (x.natAbs : Int) := ⟨_, rfl⟩
  obtain ⟨Y, hY⟩ : ∃ Y : Int, Y = (y.natAbs : Int) := ⟨_, rfl⟩
  rw [← hX, ← hY] at hm ha ⊢
  by_cases hc : 0 < X ∧ 350215949849222 / X < Y
  · rw [if_pos hc]
    have h1 := (Int.ediv_lt_iff_lt_mul hc.1).mp hc.2
    have h2 : 350215949849222 < X * Y := by rw [Int.mul_comm]; exact h1
    constructor
    · intro h; omega
    · intro _
      unfold mz_sg
      split <;> decide
  · rw [if_neg hc, hm]
    exact ⟨fun _ => rfl, fun h => h⟩
theorem mz_cap_spec (x y : Int) : ((x * y).natAbs ≤ 175107974924610 → mz_cap x y = x * y) ∧ (175107974924611 ≤ (x * y).natAbs → mz_cap x y = 175107974924611) := by
  have ha : ((x.natAbs : Int) * (y.natAbs : Int)) = ((x * y).natAbs : Int) := by rw [Int.natAbs_mul]; rfl
  unfold mz_cap
  obtain ⟨X, hX⟩ : ∃ X : Int, X = (x.natAbs : Int) := ⟨_, rfl⟩
  obtain ⟨Y, hY⟩ : ∃ Y : Int, Y = (y.natAbs : Int) := ⟨_, rfl⟩
  rw [← hX, ← hY] at ha ⊢
  by_cases hc : y ≠ 0 ∧ 175107974924610 / Y < X
  · rw [if_pos hc]
    have h1 := (Int.ediv_lt_iff_lt_mul (show 0 < Y by omega)).mp hc.2
    exact ⟨fun h => by omega, fun _ => rfl⟩
  · rw [if_neg hc]
    refine ⟨fun _ => rfl, fun h => ?_⟩
    exfalso
    by_cases hy : y = 0
    · rw [hy, Int.mul_zero] at h
      exact absurd h (by decide)
    · have h2 : ¬ 175107974924610 / Y < X := fun h => hc ⟨hy, h⟩
      rw [Int.ediv_lt_iff_lt_mul (show 0 < Y by omega)] at h2
      omega
/-- the model's number -/
def mz_mn (op : Nat) (t x y : Int) : Int := if op = 0 then x + y else if op = 1 then x - y else if op = 3 then mz_pd x y + t else mz_pd x y
theorem mz_mn_eq {op : Nat} {t x y : Int} (ho : op < 4) (ht : mz_hr t) : (mz_hr (mz_cn op t x y) ↔ mz_hr (mz_mn op t x y)) ∧ (mz_hr (mz_cn op t x y) → mz_cn op t x y = mz_mn op t x y) := by
  have h1 := ht.1
  have h2 := ht.2
  have hp := mz_pd_spec x y
  have hc := mz_cap_spec x y
  unfold mz_mn mz_cn
  rcases (by omega : op = 0 ∨ op = 1 ∨ op = 2 ∨ op = 3) with rfl | rfl | rfl | rfl
  · exact ⟨Iff.rfl, fun _ => rfl⟩
  · exact ⟨Iff.rfl, fun _ => rfl⟩
  · show (mz_hr (mz_cap x y) ↔ mz_hr (mz_pd x y)) ∧ (mz_hr (mz_cap x y) → mz_cap x y = mz_pd x y)
    by_cases hs : (x * y).natAbs ≤ 175107974924610
    · rw [hp.1 hs, hc.1 hs]
      exact ⟨Iff.rfl, fun _ => rfl⟩
    · have e1 := hp.2 (by omega)
      have e2 := hc.2 (by omega)
      rw [e2]
      unfold mz_hr
      omega
  · show (mz_hr (t + mz_cap x y) ↔ mz_hr (mz_pd x y + t)) ∧ (mz_hr (t + mz_cap x y) → t + mz_cap x y = mz_pd x y + t)
    by_cases hs : (x * y).natAbs ≤ 175107974924610
    · rw [hp.1 hs, hc.1 hs, Int.add_comm]
      exact ⟨Iff.rfl, fun _ => rfl⟩
    · have e1 := hp.2 (by omega)
      have e2 := hc.2 (by omega)
      rw [e2]
      unfold mz_hr
      omega
theorem mz_pd_in {x y : Int} : mz_pd x y ≤ 525323924773833 ∧ -525323924773833 ≤ mz_pd x y := by
  unfold mz_pd mz_pa
  have hX : 0 ≤ (x.natAbs : Int) := by omega
  have hY : 0 ≤ (y.natAbs : Int) := by omega
  obtain ⟨X, hX2⟩ : ∃ X : Int, X = (x.natAbs : Int) := ⟨_, rfl⟩
  obtain ⟨Y, hY2⟩ : ∃ Y : Int, Y = (y.natAbs : Int) := ⟨_, rfl⟩
  rw [← hX2] at hX
  rw [← hY2] at hY
  rw [← hX2, ← hY2]
  have hk : 0 ≤ (if 0 < X ∧ 350215949849222 / X < Y then 525323924773833 else X * Y) ∧ (if 0 < X ∧ 350215949849222 / X < Y then 525323924773833 else X * Y) ≤ 525323924773833 := by
    by_cases hc : 0 < X ∧ 350215949849222 / X < Y
    · rw [if_pos hc]; omega
    · rw [if_neg hc]
      refine ⟨Int.mul_nonneg hX hY, ?_⟩
      by_cases h0 : 0 < X
      · have h2 : ¬ 350215949849222 / X < Y := fun h => hc ⟨h0, h⟩
        rw [Int.ediv_lt_iff_lt_mul h0, Int.mul_comm] at h2
        omega
      · rw [show X = 0 by omega, Int.zero_mul]
        omega
  unfold mz_sg
  split <;> omega
section ZM14
variable {l : Launch} {P : zs_P} {d : Nat} {σ : zg_H}
theorem zm_least {x : Int} (hx : mz_in x) : zg_C l (zs_E P) d mM_least [.long (mz_L x), .long (mz_L x)] σ (.inl (some (.long (mz_L x))), σ) := by
  refine zg_C_of (by decide +kernel) (Nat.le_of_ble_eq_true rfl) ?_
  refine zg_lload_n (zd_t dmM_least 0 rfl) rfl ?_
  refine zg_lload_n (zd_t dmM_least 1 rfl) rfl ?_
  refine zg_lcmp (zd_t dmM_least 2 rfl) ?_
  refine zg_if_ge (tgt := 10) (zd_t dmM_least 3 rfl) (by decide) (fun h1 => ?_) (fun h1 => ?_)
  · refine zg_lload_n (zd_t dmM_least 6 rfl) rfl ?_
    exact zg_lret (zd_t dmM_least 7 rfl) rfl rfl
  · refine zg_lload_n (zd_t dmM_least 4 rfl) rfl ?_
    refine zg_goto (tgt := 11) (zd_t dmM_least 5 rfl) (by decide) ?_
    exact zg_lret (zd_t dmM_least 7 rfl) rfl rfl
theorem zm_greatest {x : Int} (hx : mz_in x) : zg_C l (zs_E P) d mM_greatest [.long (mz_L x), .long (mz_L x)] σ (.inl (some (.long (mz_L x))), σ) := by
  refine zg_C_of (by decide +kernel) (Nat.le_of_ble_eq_true rfl) ?_
  refine zg_lload_n (zd_t dmM_greatest 0 rfl) rfl ?_
  refine zg_lload_n (zd_t dmM_greatest 1 rfl) rfl ?_
  refine zg_lcmp (zd_t dmM_greatest 2 rfl) ?_
  refine zg_if_le (tgt := 10) (zd_t dmM_greatest 3 rfl) (by decide) (fun h1 => ?_) (fun h1 => ?_)
  · refine zg_lload_n (zd_t dmM_greatest 6 rfl) rfl ?_
    exact zg_lret (zd_t dmM_greatest 7 rfl) rfl rfl
  · refine zg_lload_n (zd_t dmM_greatest 4 rfl) rfl ?_
    refine zg_goto (tgt := 11) (zd_t dmM_greatest 5 rfl) (by decide) ?_
    exact zg_lret (zd_t dmM_greatest 7 rfl) rfl rfl
theorem zm_product_t {p : Int} {m : Bool} {lv : List (Nat × Value)} : zg_G l (zs_E P) d mM_product 104 ((10, .long (mz_L p)) :: (8, .int (zs_bi m)) :: lv) [] σ (.inl (some (.long (mz_L (mz_sg m p)))), σ) := by
  cases m with
  | true =>
    refine zg_iload (zd_t dmM_product 59 rfl) rfl ?_
    refine zg_if_eq (tgt := 115) (zd_t dmM_product 60 rfl) (by decide) (fun hq => absurd hq (by decide)) (fun _ => ?_)
    refine zg_lload (zd_t dmM_product 61 rfl) rfl ?_
    refine zg_lneg (zd_t dmM_product 62 rfl) ?_
    refine zg_goto (tgt := 117) (zd_t dmM_product 63 rfl) (by decide) ?_
    rw [mz_neg]
    exact zg_lret (zd_t dmM_product 65 rfl) rfl rfl
  | false =>
    refine zg_iload (zd_t dmM_product 59 rfl) rfl ?_
    refine zg_if_eq (tgt := 115) (zd_t dmM_product 60 rfl) (by decide) (fun _ => ?_) (fun hq => absurd (by decide) hq)
    refine zg_lload (zd_t dmM_product 64 rfl) rfl ?_
    exact zg_lret (zd_t dmM_product 65 rfl) rfl rfl
theorem zm_product_x {X Y : Int} {m : Bool} {u v : Value} (hX : 0 ≤ X ∧ X ≤ 87553987462305) (hY : 0 ≤ Y ∧ Y ≤ 87553987462305) : zg_G l (zs_E P) d mM_product 60 [(8, .int (zs_bi m)), (6, .long (mz_L Y)), (4, .long (mz_L X)), (0, u), (2, v)] [] σ (.inl (some (.long (mz_L (mz_sg m (mz_pa X Y))))), σ) := by
  have h0 : mz_in 0 := by unfold mz_in; omega
  have hXi : mz_in X := by unfold mz_in; omega
  have hYi : mz_in Y := by unfold mz_in; omega
  have hMi : mz_in 350215949849222 := by unfold mz_in; omega
  unfold mz_pa
  refine zg_lload (zd_t dmM_product 37 rfl) rfl ?_
  refine zg_lconst (v := mz_L 0) (zd_t dmM_product 38 rfl) (by decide) ?_
  refine zg_lcmp (zd_t dmM_product 39 rfl) ?_
  refine zg_if_le (tgt := 83) (zd_t dmM_product 40 rfl) (by decide) (fun h1 => ?_) (fun h1 => ?_)
  · rw [lg_cmp_le, mz_le hXi h0] at h1
    rw [if_neg (by omega)]
    refine zg_iconst (v := (nI 0)) (zd_t dmM_product 49 rfl) (by decide) ?_
    refine zg_istore (zd_t dmM_product 50 rfl) (by decide) rfl ?_
    refine zg_iload (zd_t dmM_product 51 rfl) rfl ?_
    refine zg_if_eq (tgt := 97) (zd_t dmM_product 52 rfl) (by decide) (fun _ => ?_) (fun hq => absurd (by decide) hq)
    refine zg_lload (zd_t dmM_product 55 rfl) rfl ?_
    refine zg_lload (zd_t dmM_product 56 rfl) rfl ?_
    refine zg_lmul (zd_t dmM_product 57 rfl) ?_
    refine zg_lstore (zd_t dmM_product 58 rfl) (by decide) rfl ?_
    rw [mz_mul]
    exact zg_lv [0, 2, 3, 4, 5, 6] rfl zm_product_t
  · rw [lg_cmp_le, mz_le hXi h0] at h1
    have hx0 : ¬ mz_L X = 0 := fun h => by
      have : mz_L X = mz_L 0 := h
      rw [mz_eq hXi h0] at this
      omega
    have hq : mz_in (350215949849222 / X) := by
      have a1 := Int.ediv_nonneg (show (0 : Int) ≤ 350215949849222 by omega) hX.1
      have a2 := Int.ediv_le_self X (show (0 : Int) ≤ 350215949849222 by omega)
      unfold mz_in
      omega
    refine zg_lload (zd_t dmM_product 41 rfl) rfl ?_
    refine zg_ldc2 (zd_t dmM_product 42 rfl) zc_M_83 ?_
    refine zg_lload (zd_t dmM_product 43 rfl) rfl ?_
    refine zg_ldiv (zd_t dmM_product 44 rfl) hx0 ?_
    rw [mz_div hMi hXi, Int.tdiv_eq_ediv_of_nonneg (by omega)]
    refine zg_lcmp (zd_t dmM_product 45 rfl) ?_
    refine zg_if_le (tgt := 83) (zd_t dmM_product 46 rfl) (by decide) (fun h2 => ?_) (fun h2 => ?_)
    · rw [lg_cmp_le, mz_le hYi hq] at h2
      rw [if_neg (by omega)]
      refine zg_iconst (v := (nI 0)) (zd_t dmM_product 49 rfl) (by decide) ?_
      refine zg_istore (zd_t dmM_product 50 rfl) (by decide) rfl ?_
      refine zg_iload (zd_t dmM_product 51 rfl) rfl ?_
      refine zg_if_eq (tgt := 97) (zd_t dmM_product 52 rfl) (by decide) (fun _ => ?_) (fun hq => absurd (by decide) hq)
      refine zg_lload (zd_t dmM_product 55 rfl) rfl ?_
      refine zg_lload (zd_t dmM_product 56 rfl) rfl ?_
      refine zg_lmul (zd_t dmM_product 57 rfl) ?_
      refine zg_lstore (zd_t dmM_product 58 rfl) (by decide) rfl ?_
      rw [mz_mul]
      exact zg_lv [0, 2, 3, 4, 5, 6] rfl zm_product_t
    · rw [lg_cmp_le, mz_le hYi hq] at h2
      rw [if_pos (by omega)]
      refine zg_iconst (v := (nI 1)) (zd_t dmM_product 47 rfl) (by decide) ?_
      refine zg_goto (tgt := 84) (zd_t dmM_product 48 rfl) (by decide) ?_
      refine zg_istore (zd_t dmM_product 50 rfl) (by decide) rfl ?_
      refine zg_iload (zd_t dmM_product 51 rfl) rfl ?_
      refine zg_if_eq (tgt := 97) (zd_t dmM_product 52 rfl) (by decide) (fun hq => absurd hq (by decide)) (fun _ => ?_)
      refine zg_ldc2 (zd_t dmM_product 53 rfl) zc_M_85 ?_
      refine zg_goto (tgt := 102) (zd_t dmM_product 54 rfl) (by decide) ?_
      refine zg_lstore (zd_t dmM_product 58 rfl) (by decide) rfl ?_
      exact zg_lv [0, 2, 3, 4, 5, 6] rfl zm_product_t
theorem zm_product {x y : Int} (hx : mz_hr x) (hy : mz_hr y) : zg_C l (zs_E P) d mM_product [.long (mz_L x), .long (mz_L y)] σ (.inl (some (.long (mz_L (mz_pd x y)))), σ) := by
  refine zg_C_of (by decide +kernel) (Nat.le_of_ble_eq_true rfl) ?_
  have h0 : mz_in 0 := by unfold mz_in; omega
  have hx1 := hx.1
  have hx2 := hx.2
  have hy1 := hy.1
  have hy2 := hy.2
  have tl : ∀ X Y : Int, X = (x.natAbs : Int) → Y = (y.natAbs : Int) → zg_G l (zs_E P) d mM_product 28 [(6, .long (mz_L Y)), (4, .long (mz_L X)), (0, .long (mz_L x)), (2, .long (mz_L y))] [] σ (.inl (some (.long (mz_L (mz_pd x y)))), σ) := by
    intro X Y eX eY
    subst eX eY
    have fin : ∀ m : Bool, m = (decide (x < 0) != decide (y < 0)) → zg_G l (zs_E P) d mM_product 60 [(8, .int (zs_bi m)), (6, .long (mz_L (y.natAbs : Int))), (4, .long (mz_L (x.natAbs : Int))), (0, .long (mz_L x)), (2, .long (mz_L y))] [] σ (.inl (some (.long (mz_L (mz_pd x y)))), σ) := by
      intro m hm
      have g := zm_product_x (l := l) (P := P) (d := d) (σ := σ) (m := m) (u := .long (mz_L x)) (v := .long (mz_L y)) (show 0 ≤ (x.natAbs : Int) ∧ (x.natAbs : Int) ≤ 87553987462305 by omega) (show 0 ≤ (y.natAbs : Int) ∧ (y.natAbs : Int) ≤ 87553987462305 by omega)
      unfold mz_pd
      rw [← hm]
      exact g
    refine zg_lload_n (zd_t dmM_product 18 rfl) rfl ?_
    refine zg_lconst (v := mz_L 0) (zd_t dmM_product 19 rfl) (by decide) ?_
    refine zg_lcmp (zd_t dmM_product 20 rfl) ?_
    refine zg_if_ge (tgt := 38) (zd_t dmM_product 21 rfl) (by decide) (fun h1 => ?_) (fun h1 => ?_)
    · rw [lg_cmp_ge, mz_le h0 hx.i] at h1
      refine zg_iconst (v := (nI 0)) (zd_t dmM_product 24 rfl) (by decide) ?_
      refine zg_lload_n (zd_t dmM_product 25 rfl) rfl ?_
      refine zg_lconst (v := mz_L 0) (zd_t dmM_product 26 rfl) (by decide) ?_
      refine zg_lcmp (zd_t dmM_product 27 rfl) ?_
      refine zg_if_ge (tgt := 49) (zd_t dmM_product 28 rfl) (by decide) (fun h2 => ?_) (fun h2 => ?_)
      · rw [lg_cmp_ge, mz_le h0 hy.i] at h2
        refine zg_iconst (v := (nI 0)) (zd_t dmM_product 31 rfl) (by decide) ?_
        refine zg_icmp_eq (tgt := 57) (zd_t dmM_product 32 rfl) (by decide) (fun _ => ?_) (fun hq => absurd (by decide) hq)
        refine zg_iconst (v := (nI 0)) (zd_t dmM_product 35 rfl) (by decide) ?_
        refine zg_istore (zd_t dmM_product 36 rfl) (by decide) rfl ?_
        exact fin false (by rw [decide_eq_false (by omega), decide_eq_false (by omega)]; rfl)
      · rw [lg_cmp_ge, mz_le h0 hy.i] at h2
        refine zg_iconst (v := (nI 1)) (zd_t dmM_product 29 rfl) (by decide) ?_
        refine zg_goto (tgt := 50) (zd_t dmM_product 30 rfl) (by decide) ?_
        refine zg_icmp_eq (tgt := 57) (zd_t dmM_product 32 rfl) (by decide) (fun hq => absurd hq (by decide)) (fun _ => ?_)
        refine zg_iconst (v := (nI 1)) (zd_t dmM_product 33 rfl) (by decide) ?_
        refine zg_goto (tgt := 58) (zd_t dmM_product 34 rfl) (by decide) ?_
        refine zg_istore (zd_t dmM_product 36 rfl) (by decide) rfl ?_
        exact fin true (by rw [decide_eq_false (by omega), decide_eq_true (by omega)]; rfl)
    · rw [lg_cmp_ge, mz_le h0 hx.i] at h1
      refine zg_iconst (v := (nI 1)) (zd_t dmM_product 22 rfl) (by decide) ?_
      refine zg_goto (tgt := 39) (zd_t dmM_product 23 rfl) (by decide) ?_
      refine zg_lload_n (zd_t dmM_product 25 rfl) rfl ?_
      refine zg_lconst (v := mz_L 0) (zd_t dmM_product 26 rfl) (by decide) ?_
      refine zg_lcmp (zd_t dmM_product 27 rfl) ?_
      refine zg_if_ge (tgt := 49) (zd_t dmM_product 28 rfl) (by decide) (fun h2 => ?_) (fun h2 => ?_)
      · rw [lg_cmp_ge, mz_le h0 hy.i] at h2
        refine zg_iconst (v := (nI 0)) (zd_t dmM_product 31 rfl) (by decide) ?_
        refine zg_icmp_eq (tgt := 57) (zd_t dmM_product 32 rfl) (by decide) (fun hq => absurd hq (by decide)) (fun _ => ?_)
        refine zg_iconst (v := (nI 1)) (zd_t dmM_product 33 rfl) (by decide) ?_
        refine zg_goto (tgt := 58) (zd_t dmM_product 34 rfl) (by decide) ?_
        refine zg_istore (zd_t dmM_product 36 rfl) (by decide) rfl ?_
        exact fin true (by rw [decide_eq_true (by omega), decide_eq_false (by omega)]; rfl)
      · rw [lg_cmp_ge, mz_le h0 hy.i] at h2
        refine zg_iconst (v := (nI 1)) (zd_t dmM_product 29 rfl) (by decide) ?_
        refine zg_goto (tgt := 50) (zd_t dmM_product 30 rfl) (by decide) ?_
        refine zg_icmp_eq (tgt := 57) (zd_t dmM_product 32 rfl) (by decide) (fun _ => ?_) (fun hq => absurd (by decide) hq)
        refine zg_iconst (v := (nI 0)) (zd_t dmM_product 35 rfl) (by decide) ?_
        refine zg_istore (zd_t dmM_product 36 rfl) (by decide) rfl ?_
        exact fin false (by rw [decide_eq_true (by omega), decide_eq_true (by omega)]; rfl)
  have tl2 : ∀ X : Int, X = (x.natAbs : Int) → zg_G l (zs_E P) d mM_product 14 [(4, .long (mz_L X)), (0, .long (mz_L x)), (2, .long (mz_L y))] [] σ (.inl (some (.long (mz_L (mz_pd x y)))), σ) := by
    intro X eX
    refine zg_lload_n (zd_t dmM_product 9 rfl) rfl ?_
    refine zg_lconst (v := mz_L 0) (zd_t dmM_product 10 rfl) (by decide) ?_
    refine zg_lcmp (zd_t dmM_product 11 rfl) ?_
    refine zg_if_ge (tgt := 25) (zd_t dmM_product 12 rfl) (by decide) (fun h1 => ?_) (fun h1 => ?_)
    · rw [lg_cmp_ge, mz_le h0 hy.i] at h1
      refine zg_lload_n (zd_t dmM_product 16 rfl) rfl ?_
      refine zg_lstore (zd_t dmM_product 17 rfl) (by decide) rfl ?_
      exact tl X y eX (by omega)
    · rw [lg_cmp_ge, mz_le h0 hy.i] at h1
      refine zg_lload_n (zd_t dmM_product 13 rfl) rfl ?_
      refine zg_lneg (zd_t dmM_product 14 rfl) ?_
      refine zg_goto (tgt := 26) (zd_t dmM_product 15 rfl) (by decide) ?_
      refine zg_lstore (zd_t dmM_product 17 rfl) (by decide) rfl ?_
      rw [mz_neg]
      exact tl X (-y) eX (by omega)
  refine zg_lload_n (zd_t dmM_product 0 rfl) rfl ?_
  refine zg_lconst (v := mz_L 0) (zd_t dmM_product 1 rfl) (by decide) ?_
  refine zg_lcmp (zd_t dmM_product 2 rfl) ?_
  refine zg_if_ge (tgt := 11) (zd_t dmM_product 3 rfl) (by decide) (fun h1 => ?_) (fun h1 => ?_)
  · rw [lg_cmp_ge, mz_le h0 hx.i] at h1
    refine zg_lload_n (zd_t dmM_product 7 rfl) rfl ?_
    refine zg_lstore (zd_t dmM_product 8 rfl) (by decide) rfl ?_
    exact tl2 x (by omega)
  · rw [lg_cmp_ge, mz_le h0 hx.i] at h1
    refine zg_lload_n (zd_t dmM_product 4 rfl) rfl ?_
    refine zg_lneg (zd_t dmM_product 5 rfl) ?_
    refine zg_goto (tgt := 12) (zd_t dmM_product 6 rfl) (by decide) ?_
    refine zg_lstore (zd_t dmM_product 8 rfl) (by decide) rfl ?_
    rw [mz_neg]
    exact tl2 (-x) (by omega)
def mz_mny (x : Nat) : Nat → Nat
  | 0 => 0
  | k + 1 => mz_mny x k + x / 2 ^ k % 2
theorem mz_mny_pop : ∀ x, x < 64 → mz_mny x 6 = mz_pop x := by decide +kernel
theorem zm_many_lp {x : Nat} (hx : x < 64) : ∀ (n k : Nat), k + n = 6 → zg_G l (zs_E P) d mM_many 4 [(2, .int (nI k)), (1, .int (nI (mz_mny x k))), (0, .int (nI x))] [] σ (.inl (some (.int (nI (mz_pop x)))), σ) := by
  intro n
  induction n with
  | zero =>
    intro k hk
    have hk : k = 6 := by omega
    subst hk
    refine zg_iload_n (zd_t dmM_many 4 rfl) rfl ?_
    refine zg_bipush (v := (nI 6)) (zd_t dmM_many 5 rfl) (by decide) ?_
    refine zg_icmp_ge (tgt := 24) (zd_t dmM_many 6 rfl) (by decide) (fun _ => ?_) (fun hq => absurd (by decide) hq)
    refine zg_iload_n (zd_t dmM_many 17 rfl) rfl ?_
    rw [mz_mny_pop x hx]
    exact zg_iret (zd_t dmM_many 18 rfl) rfl rfl
  | succ n ih =>
    intro k hk
    refine zg_iload_n (zd_t dmM_many 4 rfl) rfl ?_
    refine zg_bipush (v := (nI 6)) (zd_t dmM_many 5 rfl) (by decide) ?_
    refine zg_icmp_ge (tgt := 24) (zd_t dmM_many 6 rfl) (by decide) (fun hq => absurd hq (fun h => absurd ((nI_leI (by decide) (by omega)).mp h) (by omega))) (fun _ => ?_)
    refine zg_iload_n (zd_t dmM_many 7 rfl) rfl ?_
    refine zg_iload_n (zd_t dmM_many 8 rfl) rfl ?_
    refine zg_iload_n (zd_t dmM_many 9 rfl) rfl ?_
    refine zg_ishr (zd_t dmM_many 10 rfl) ?_
    refine zg_iconst (v := (nI 1)) (zd_t dmM_many 11 rfl) (by decide) ?_
    refine zg_iand (zd_t dmM_many 12 rfl) ?_
    rw [mz_bit x hx k (by omega)]
    refine zg_iadd (zd_t dmM_many 13 rfl) ?_
    rw [nI_add, show mz_mny x k + x / 2 ^ k % 2 = mz_mny x (k + 1) from rfl]
    refine zg_istore_n (zd_t dmM_many 14 rfl) (by decide) rfl ?_
    refine zg_iinc (lv2 := [(2, .int (nI (k + 1))), (1, .int (nI (mz_mny x (k + 1)))), (0, .int (nI x))]) (zd_t dmM_many 15 rfl) rfl (mz_inc k) (by decide) rfl ?_
    refine zg_goto (tgt := 4) (zd_t dmM_many 16 rfl) (by decide) ?_
    exact ih (k + 1) (by omega)
theorem zm_many {x : Nat} (hx : x < 64) : zg_C l (zs_E P) d mM_many [.int (nI x)] σ (.inl (some (.int (nI (mz_pop x)))), σ) := by
  refine zg_C_of (by decide +kernel) (Nat.le_of_ble_eq_true rfl) ?_
  refine zg_iconst (v := (nI 0)) (zd_t dmM_many 0 rfl) (by decide) ?_
  refine zg_istore_n (zd_t dmM_many 1 rfl) (by decide) rfl ?_
  refine zg_iconst (v := (nI 0)) (zd_t dmM_many 2 rfl) (by decide) ?_
  refine zg_istore_n (zd_t dmM_many 3 rfl) (by decide) rfl ?_
  exact zm_many_lp hx 6 0 rfl
theorem zm_isModuli (c : Int32) : zg_C l (zs_E P) (d + 1) mM_isModuli [.int c] σ (.inl (some (.int (zs_bi (decide (mz_sm c))))), σ) := by
  refine zg_C_of (by decide +kernel) (Nat.le_of_ble_eq_true rfl) ?_
  refine zg_iload_n (zd_t dmM_isModuli 0 rfl) rfl ?_
  refine zg_i2l (zd_t dmM_isModuli 1 rfl) rfl ?_
  rw [zs_i2l]
  refine zg_lconst (v := mz_L 1) (zd_t dmM_isModuli 2 rfl) (by decide) ?_
  refine zg_ldc2 (zd_t dmM_isModuli 3 rfl) zc_M_106 ?_
  refine zg_callS (zd_t dmM_isModuli 4 rfl) zl_M_48 zm_mM_in zst_mM_in (av := _) (rest := _) (by rfl) (by rfl) (by exact Nat.le_of_ble_eq_true rfl) (zm_in (x := c.toInt) (y := 1) (z := 63) (zs_wi32 c) (by unfold mz_wi; omega) (by unfold mz_wi; omega)) ?_
  by_cases h1 : 1 ≤ c.toInt ∧ c.toInt ≤ 63
  · rw [decide_eq_true h1]
    obtain ⟨x, hx, rfl⟩ := zs_nof (n := 64) (x := c) (by omega) (by omega) (by decide)
    have hp : mz_pop x < 64 := by unfold mz_pop; omega
    have e : (nI x).toInt.toNat = x := zs_n_nI (by omega)
    refine zg_if_eq (tgt := 24) (zd_t dmM_isModuli 5 rfl) (by decide) (fun hq => absurd hq (by decide)) (fun _ => ?_)
    refine zg_iload_n (zd_t dmM_isModuli 6 rfl) rfl ?_
    refine zg_callS (zd_t dmM_isModuli 7 rfl) zl_M_108 zm_mM_many zst_mM_many (av := _) (rest := _) (by rfl) (by rfl) (by exact Nat.le_of_ble_eq_true rfl) (zm_many hx) ?_
    refine zg_iconst (v := (nI 5)) (zd_t dmM_isModuli 8 rfl) (by decide) ?_
    by_cases h2 : mz_pop x ≤ 4
    · rw [decide_eq_true (show mz_sm (nI x) from ⟨by omega, by omega, by rw [e]; exact h2⟩)]
      refine zg_icmp_ge (tgt := 24) (zd_t dmM_isModuli 9 rfl) (by decide) (fun hq => absurd hq (fun h => absurd ((nI_leI (by decide) (by omega)).mp h) (by omega))) (fun _ => ?_)
      refine zg_iconst (v := (nI 1)) (zd_t dmM_isModuli 10 rfl) (by decide) ?_
      refine zg_goto (tgt := 25) (zd_t dmM_isModuli 11 rfl) (by decide) ?_
      exact zg_zret (zd_t dmM_isModuli 13 rfl) rfl rfl rfl
    · rw [decide_eq_false (fun h : mz_sm (nI x) => h2 (by have := h.2.2; rw [e] at this; exact this))]
      refine zg_icmp_ge (tgt := 24) (zd_t dmM_isModuli 9 rfl) (by decide) (fun _ => ?_) (fun hq => absurd ((nI_leI (by decide) (by omega)).mpr (by omega)) hq)
      refine zg_iconst (v := (nI 0)) (zd_t dmM_isModuli 12 rfl) (by decide) ?_
      exact zg_zret (zd_t dmM_isModuli 13 rfl) rfl rfl rfl
  · rw [decide_eq_false h1, decide_eq_false (fun h : mz_sm c => h1 (by have := h.1; have := h.2.1; omega))]
    refine zg_if_eq (tgt := 24) (zd_t dmM_isModuli 5 rfl) (by decide) (fun _ => ?_) (fun hq => absurd (by decide) hq)
    refine zg_iconst (v := (nI 0)) (zd_t dmM_isModuli 12 rfl) (by decide) ?_
    exact zg_zret (zd_t dmM_isModuli 13 rfl) rfl rfl rfl
theorem zm_down {a b : Int} (ha : mz_in a) (hb : mz_in b) (hp : 0 < b) : zg_C l (zs_E P) d mM_down [.long (mz_L a), .long (mz_L b)] σ (.inl (some (.long (mz_L (a / b)))), σ) := by
  refine zg_C_of (by decide +kernel) (Nat.le_of_ble_eq_true rfl) ?_
  have h0 : mz_in 0 := by unfold mz_in; omega
  have hb0 : ¬ mz_L b = 0 := fun h => by
    have : mz_L b = mz_L 0 := h
    rw [mz_eq hb h0] at this
    omega
  have hm : mz_in (a.tdiv b * b) := by
    have h1 := Int.tmod_def a b
    have h2 := Int.natAbs_tmod a b
    have h3 := Nat.mod_le a.natAbs b.natAbs
    have h4 := ha.1
    have h5 := ha.2
    have h6 := Int.mul_comm b (a.tdiv b)
    have h7 : a.tdiv b * b = a - a.tmod b := by omega
    rw [h7]
    by_cases h8 : 0 ≤ a
    · have h9 := Int.tmod_nonneg b h8
      unfold mz_in; omega
    · have h9 := mz_tnp b (show a ≤ 0 by omega)
      unfold mz_in; omega
  have e3 := mz_td (a := a) hp
  have e4 := Int.emod_add_mul_ediv a b
  have e5 := Int.emod_lt_of_pos a hp
  have e6 := Int.mul_comm b (a / b)
  have e7 := Int.emod_nonneg a (show b ≠ 0 by omega)
  refine zg_lload_n (zd_t dmM_down 0 rfl) rfl ?_
  refine zg_lload_n (zd_t dmM_down 1 rfl) rfl ?_
  refine zg_ldiv (zd_t dmM_down 2 rfl) hb0 ?_
  rw [mz_div ha hb]
  refine zg_lstore (zd_t dmM_down 3 rfl) (by decide) rfl ?_
  refine zg_lload (zd_t dmM_down 4 rfl) rfl ?_
  refine zg_lload_n (zd_t dmM_down 5 rfl) rfl ?_
  refine zg_lmul (zd_t dmM_down 6 rfl) ?_
  refine zg_lload_n (zd_t dmM_down 7 rfl) rfl ?_
  rw [mz_mul]
  refine zg_lcmp (zd_t dmM_down 8 rfl) ?_
  refine zg_if_le (tgt := 21) (zd_t dmM_down 9 rfl) (by decide) (fun h1 => ?_) (fun h1 => ?_)
  · rw [lg_cmp_le, mz_le hm ha] at h1
    refine zg_lload (zd_t dmM_down 14 rfl) rfl ?_
    refine zg_lret (zd_t dmM_down 15 rfl) rfl ?_
    rcases e3 with e3 | e3
    · rw [e3.1]
    · exfalso
      have : a.tdiv b * b = a / b * b + b := by rw [e3.2.1, Int.add_mul, Int.one_mul]
      omega
  · rw [lg_cmp_le, mz_le hm ha] at h1
    refine zg_lload (zd_t dmM_down 10 rfl) rfl ?_
    refine zg_lconst (v := mz_L 1) (zd_t dmM_down 11 rfl) (by decide) ?_
    refine zg_lsub (zd_t dmM_down 12 rfl) ?_
    refine zg_goto (tgt := 23) (zd_t dmM_down 13 rfl) (by decide) ?_
    refine zg_lret (zd_t dmM_down 15 rfl) rfl ?_
    rw [mz_sub]
    rcases e3 with e3 | e3
    · exfalso
      rw [e3.1] at h1
      omega
    · rw [e3.2.1, show a / b + 1 - 1 = a / b by omega]
end ZM14
