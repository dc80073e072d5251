def mz_st (k : Nat) : Int := match k with
  | 0 => 697641334361
  | 1 => 726589107571
  | 2 => 732669351149
  | 3 => 751536373067
  | 4 => 764663645959
  | _ => 771400770593
def mz_up (ρ : Nat → Nat) (k v : Nat) : Nat → Nat := fun j => if j = k then v else ρ j
def mz_ok (ρ : Nat → Nat) : Prop := ∀ j, j < 8 → ρ j < mz_m j
def mz_num (ρ : Nat → Nat) (k : Nat) : Int := ((mz_val ρ + 87553987462305) % mz_st k - 87553987462305) + (((ρ 6 : Int) - ((mz_val ρ + 87553987462305) % mz_st k - 87553987462305)) * (mz_iv k : Int)) % 256 * mz_st k
abbrev mz_fit (ρ : Nat → Nat) (n : Int) (skip : Nat) : Prop := (∀ j, j < 8 → j ≠ skip → n % (mz_m j : Int) = (ρ j : Int)) ∧ -87553987462305 ≤ n ∧ n ≤ 87553987462305
abbrev mz_good (ρ : Nat → Nat) : Prop := mz_val ρ % 256 = (ρ 6 : Int) ∧ mz_val ρ % 255 = (ρ 7 : Int)
abbrev mz_P (ρ : Nat → Nat) (k v : Nat) : Prop := mz_val (mz_up ρ k v) % 256 = (ρ 6 : Int) ∧ mz_val (mz_up ρ k v) % 255 = (ρ 7 : Int)
theorem mz_val_m {ρ : Nat → Nat} (hok : mz_ok ρ) : ∀ j, j < 6 → mz_val ρ % (mz_m j : Int) = (ρ j : Int)
  | 0, _ => mz_V_m0 (hok 0 (by decide))
  | 1, _ => mz_V_m1 (hok 1 (by decide))
  | 2, _ => mz_V_m2 (hok 2 (by decide))
  | 3, _ => mz_V_m3 (hok 3 (by decide))
  | 4, _ => mz_V_m4 (hok 4 (by decide))
  | 5, _ => mz_V_m5 (hok 5 (by decide))
  | j + 6, h => absurd h (by omega)
theorem mz_lt8 {P : Nat → Prop} (h0 : P 0) (h1 : P 1) (h2 : P 2) (h3 : P 3) (h4 : P 4) (h5 : P 5) (h6 : P 6) (h7 : P 7) : ∀ j, j < 8 → P j
  | 0, _ => h0
  | 1, _ => h1
  | 2, _ => h2
  | 3, _ => h3
  | 4, _ => h4
  | 5, _ => h5
  | 6, _ => h6
  | 7, _ => h7
  | j + 8, h => absurd h (by omega)
theorem mz_fit_val {ρ : Nat → Nat} (hok : mz_ok ρ) (s : Nat) (hs : 6 ≤ s) : mz_fit ρ (mz_val ρ) s ↔ ((6 ≠ s → mz_val ρ % 256 = (ρ 6 : Int)) ∧ (7 ≠ s → mz_val ρ % 255 = (ρ 7 : Int))) := by
  constructor
  · intro h
    exact ⟨fun h6 => h.1 6 (by decide) h6, fun h7 => h.1 7 (by decide) h7⟩
  · intro h
    refine ⟨mz_lt8 ?_ ?_ ?_ ?_ ?_ ?_ ?_ ?_, mz_V_in _ _ _ _ _ _⟩
    all_goals first | exact fun _ => mz_val_m hok _ (by decide) | exact h.1 | exact h.2
theorem mz_heal0 {ρ : Nat → Nat} {v : Nat} (hok : mz_ok ρ) (hv : v < 251) : mz_P ρ 0 v ↔ (mz_fit ρ (mz_num ρ 0) 0 ∧ (v : Int) = mz_num ρ 0 % 251) := by
  have hX : mz_val (mz_up ρ 0 v) = mz_V v (ρ 1) (ρ 2) (ρ 3) (ρ 4) (ρ 5) := rfl
  obtain ⟨z, hz⟩ := mz_V_s0 (ρ 0) (ρ 1) (ρ 2) (ρ 3) (ρ 4) (ρ 5) v
  have hin := mz_V_in v (ρ 1) (ρ 2) (ρ 3) (ρ 4) (ρ 5)
  have hN : mz_num ρ 0 = ((mz_V (ρ 0) (ρ 1) (ρ 2) (ρ 3) (ρ 4) (ρ 5) + 87553987462305) % 697641334361 - 87553987462305) + (((ρ 6 : Int) - ((mz_V (ρ 0) (ρ 1) (ρ 2) (ρ 3) (ρ 4) (ρ 5) + 87553987462305) % 697641334361 - 87553987462305)) * 233) % 256 * 697641334361 := rfl
  unfold mz_P
  rw [hX]
  constructor
  · rintro ⟨p6, p7⟩
    have e := mz_uq0 (hok 6 (by decide) : ρ 6 < 256) hz hin.1 hin.2 p6 hN
    rw [← e]
    exact ⟨⟨mz_lt8 (fun hn => absurd rfl hn) (fun _ => mz_V_m1 (hok 1 (by decide))) (fun _ => mz_V_m2 (hok 2 (by decide))) (fun _ => mz_V_m3 (hok 3 (by decide))) (fun _ => mz_V_m4 (hok 4 (by decide))) (fun _ => mz_V_m5 (hok 5 (by decide))) (fun _ => p6) (fun _ => p7), hin⟩, (mz_V_m0 hv).symm⟩
  · rintro ⟨⟨f1, f2, f3⟩, hv2⟩
    have e := mz_ex0 hz hin.1 hin.2 f2 f3 (by rw [mz_V_m0 hv]; exact hv2) hN
    rw [e]
    exact ⟨f1 6 (by decide) (by decide), f1 7 (by decide) (by decide)⟩
theorem mz_heal1 {ρ : Nat → Nat} {v : Nat} (hok : mz_ok ρ) (hv : v < 241) : mz_P ρ 1 v ↔ (mz_fit ρ (mz_num ρ 1) 1 ∧ (v : Int) = mz_num ρ 1 % 241) := by
  have hX : mz_val (mz_up ρ 1 v) = mz_V (ρ 0) v (ρ 2) (ρ 3) (ρ 4) (ρ 5) := rfl
  obtain ⟨z, hz⟩ := mz_V_s1 (ρ 0) (ρ 1) (ρ 2) (ρ 3) (ρ 4) (ρ 5) v
  have hin := mz_V_in (ρ 0) v (ρ 2) (ρ 3) (ρ 4) (ρ 5)
  have hN : mz_num ρ 1 = ((mz_V (ρ 0) (ρ 1) (ρ 2) (ρ 3) (ρ 4) (ρ 5) + 87553987462305) % 726589107571 - 87553987462305) + (((ρ 6 : Int) - ((mz_V (ρ 0) (ρ 1) (ρ 2) (ρ 3) (ρ 4) (ρ 5) + 87553987462305) % 726589107571 - 87553987462305)) * 187) % 256 * 726589107571 := rfl
  unfold mz_P
  rw [hX]
  constructor
  · rintro ⟨p6, p7⟩
    have e := mz_uq1 (hok 6 (by decide) : ρ 6 < 256) hz hin.1 hin.2 p6 hN
    rw [← e]
    exact ⟨⟨mz_lt8 (fun _ => mz_V_m0 (hok 0 (by decide))) (fun hn => absurd rfl hn) (fun _ => mz_V_m2 (hok 2 (by decide))) (fun _ => mz_V_m3 (hok 3 (by decide))) (fun _ => mz_V_m4 (hok 4 (by decide))) (fun _ => mz_V_m5 (hok 5 (by decide))) (fun _ => p6) (fun _ => p7), hin⟩, (mz_V_m1 hv).symm⟩
  · rintro ⟨⟨f1, f2, f3⟩, hv2⟩
    have e := mz_ex1 hz hin.1 hin.2 f2 f3 (by rw [mz_V_m1 hv]; exact hv2) hN
    rw [e]
    exact ⟨f1 6 (by decide) (by decide), f1 7 (by decide) (by decide)⟩
theorem mz_heal2 {ρ : Nat → Nat} {v : Nat} (hok : mz_ok ρ) (hv : v < 239) : mz_P ρ 2 v ↔ (mz_fit ρ (mz_num ρ 2) 2 ∧ (v : Int) = mz_num ρ 2 % 239) := by
  have hX : mz_val (mz_up ρ 2 v) = mz_V (ρ 0) (ρ 1) v (ρ 3) (ρ 4) (ρ 5) := rfl
  obtain ⟨z, hz⟩ := mz_V_s2 (ρ 0) (ρ 1) (ρ 2) (ρ 3) (ρ 4) (ρ 5) v
  have hin := mz_V_in (ρ 0) (ρ 1) v (ρ 3) (ρ 4) (ρ 5)
  have hN : mz_num ρ 2 = ((mz_V (ρ 0) (ρ 1) (ρ 2) (ρ 3) (ρ 4) (ρ 5) + 87553987462305) % 732669351149 - 87553987462305) + (((ρ 6 : Int) - ((mz_V (ρ 0) (ρ 1) (ρ 2) (ρ 3) (ρ 4) (ρ 5) + 87553987462305) % 732669351149 - 87553987462305)) * 229) % 256 * 732669351149 := rfl
  unfold mz_P
  rw [hX]
  constructor
  · rintro ⟨p6, p7⟩
    have e := mz_uq2 (hok 6 (by decide) : ρ 6 < 256) hz hin.1 hin.2 p6 hN
    rw [← e]
    exact ⟨⟨mz_lt8 (fun _ => mz_V_m0 (hok 0 (by decide))) (fun _ => mz_V_m1 (hok 1 (by decide))) (fun hn => absurd rfl hn) (fun _ => mz_V_m3 (hok 3 (by decide))) (fun _ => mz_V_m4 (hok 4 (by decide))) (fun _ => mz_V_m5 (hok 5 (by decide))) (fun _ => p6) (fun _ => p7), hin⟩, (mz_V_m2 hv).symm⟩
  · rintro ⟨⟨f1, f2, f3⟩, hv2⟩
    have e := mz_ex2 hz hin.1 hin.2 f2 f3 (by rw [mz_V_m2 hv]; exact hv2) hN
    rw [e]
    exact ⟨f1 6 (by decide) (by decide), f1 7 (by decide) (by decide)⟩
theorem mz_heal3 {ρ : Nat → Nat} {v : Nat} (hok : mz_ok ρ) (hv : v < 233) : mz_P ρ 3 v ↔ (mz_fit ρ (mz_num ρ 3) 3 ∧ (v : Int) = mz_num ρ 3 % 233) := by
  have hX : mz_val (mz_up ρ 3 v) = mz_V (ρ 0) (ρ 1) (ρ 2) v (ρ 4) (ρ 5) := rfl
  obtain ⟨z, hz⟩ := mz_V_s3 (ρ 0) (ρ 1) (ρ 2) (ρ 3) (ρ 4) (ρ 5) v
  have hin := mz_V_in (ρ 0) (ρ 1) (ρ 2) v (ρ 4) (ρ 5)
  have hN : mz_num ρ 3 = ((mz_V (ρ 0) (ρ 1) (ρ 2) (ρ 3) (ρ 4) (ρ 5) + 87553987462305) % 751536373067 - 87553987462305) + (((ρ 6 : Int) - ((mz_V (ρ 0) (ρ 1) (ρ 2) (ρ 3) (ρ 4) (ρ 5) + 87553987462305) % 751536373067 - 87553987462305)) * 99) % 256 * 751536373067 := rfl
  unfold mz_P
  rw [hX]
  constructor
  · rintro ⟨p6, p7⟩
    have e := mz_uq3 (hok 6 (by decide) : ρ 6 < 256) hz hin.1 hin.2 p6 hN
    rw [← e]
    exact ⟨⟨mz_lt8 (fun _ => mz_V_m0 (hok 0 (by decide))) (fun _ => mz_V_m1 (hok 1 (by decide))) (fun _ => mz_V_m2 (hok 2 (by decide))) (fun hn => absurd rfl hn) (fun _ => mz_V_m4 (hok 4 (by decide))) (fun _ => mz_V_m5 (hok 5 (by decide))) (fun _ => p6) (fun _ => p7), hin⟩, (mz_V_m3 hv).symm⟩
  · rintro ⟨⟨f1, f2, f3⟩, hv2⟩
    have e := mz_ex3 hz hin.1 hin.2 f2 f3 (by rw [mz_V_m3 hv]; exact hv2) hN
    rw [e]
    exact ⟨f1 6 (by decide) (by decide), f1 7 (by decide) (by decide)⟩
theorem mz_heal4 {ρ : Nat → Nat} {v : Nat} (hok : mz_ok ρ) (hv : v < 229) : mz_P ρ 4 v ↔ (mz_fit ρ (mz_num ρ 4) 4 ∧ (v : Int) = mz_num ρ 4 % 229) := by
  have hX : mz_val (mz_up ρ 4 v) = mz_V (ρ 0) (ρ 1) (ρ 2) (ρ 3) v (ρ 5) := rfl
  obtain ⟨z, hz⟩ := mz_V_s4 (ρ 0) (ρ 1) (ρ 2) (ρ 3) (ρ 4) (ρ 5) v
  have hin := mz_V_in (ρ 0) (ρ 1) (ρ 2) (ρ 3) v (ρ 5)
  have hN : mz_num ρ 4 = ((mz_V (ρ 0) (ρ 1) (ρ 2) (ρ 3) (ρ 4) (ρ 5) + 87553987462305) % 764663645959 - 87553987462305) + (((ρ 6 : Int) - ((mz_V (ρ 0) (ρ 1) (ρ 2) (ρ 3) (ρ 4) (ρ 5) + 87553987462305) % 764663645959 - 87553987462305)) * 183) % 256 * 764663645959 := rfl
  unfold mz_P
  rw [hX]
  constructor
  · rintro ⟨p6, p7⟩
    have e := mz_uq4 (hok 6 (by decide) : ρ 6 < 256) hz hin.1 hin.2 p6 hN
    rw [← e]
    exact ⟨⟨mz_lt8 (fun _ => mz_V_m0 (hok 0 (by decide))) (fun _ => mz_V_m1 (hok 1 (by decide))) (fun _ => mz_V_m2 (hok 2 (by decide))) (fun _ => mz_V_m3 (hok 3 (by decide))) (fun hn => absurd rfl hn) (fun _ => mz_V_m5 (hok 5 (by decide))) (fun _ => p6) (fun _ => p7), hin⟩, (mz_V_m4 hv).symm⟩
  · rintro ⟨⟨f1, f2, f3⟩, hv2⟩
    have e := mz_ex4 hz hin.1 hin.2 f2 f3 (by rw [mz_V_m4 hv]; exact hv2) hN
    rw [e]
    exact ⟨f1 6 (by decide) (by decide), f1 7 (by decide) (by decide)⟩
theorem mz_heal5 {ρ : Nat → Nat} {v : Nat} (hok : mz_ok ρ) (hv : v < 227) : mz_P ρ 5 v ↔ (mz_fit ρ (mz_num ρ 5) 5 ∧ (v : Int) = mz_num ρ 5 % 227) := by
  have hX : mz_val (mz_up ρ 5 v) = mz_V (ρ 0) (ρ 1) (ρ 2) (ρ 3) (ρ 4) v := rfl
  obtain ⟨z, hz⟩ := mz_V_s5 (ρ 0) (ρ 1) (ρ 2) (ρ 3) (ρ 4) (ρ 5) v
  have hin := mz_V_in (ρ 0) (ρ 1) (ρ 2) (ρ 3) (ρ 4) v
  have hN : mz_num ρ 5 = ((mz_V (ρ 0) (ρ 1) (ρ 2) (ρ 3) (ρ 4) (ρ 5) + 87553987462305) % 771400770593 - 87553987462305) + (((ρ 6 : Int) - ((mz_V (ρ 0) (ρ 1) (ρ 2) (ρ 3) (ρ 4) (ρ 5) + 87553987462305) % 771400770593 - 87553987462305)) * 225) % 256 * 771400770593 := rfl
  unfold mz_P
  rw [hX]
  constructor
  · rintro ⟨p6, p7⟩
    have e := mz_uq5 (hok 6 (by decide) : ρ 6 < 256) hz hin.1 hin.2 p6 hN
    rw [← e]
    exact ⟨⟨mz_lt8 (fun _ => mz_V_m0 (hok 0 (by decide))) (fun _ => mz_V_m1 (hok 1 (by decide))) (fun _ => mz_V_m2 (hok 2 (by decide))) (fun _ => mz_V_m3 (hok 3 (by decide))) (fun _ => mz_V_m4 (hok 4 (by decide))) (fun hn => absurd rfl hn) (fun _ => p6) (fun _ => p7), hin⟩, (mz_V_m5 hv).symm⟩
  · rintro ⟨⟨f1, f2, f3⟩, hv2⟩
    have e := mz_ex5 hz hin.1 hin.2 f2 f3 (by rw [mz_V_m5 hv]; exact hv2) hN
    rw [e]
    exact ⟨f1 6 (by decide) (by decide), f1 7 (by decide) (by decide)⟩
theorem mz_heal {ρ : Nat → Nat} (hok : mz_ok ρ) : ∀ k, k < 6 → ∀ {v : Nat}, v < mz_m k → (mz_P ρ k v ↔ (mz_fit ρ (mz_num ρ k) k ∧ (v : Int) = mz_num ρ k % (mz_m k : Int)))
  | 0, _, v, hv => mz_heal0 hok hv
  | 1, _, v, hv => mz_heal1 hok hv
  | 2, _, v, hv => mz_heal2 hok hv
  | 3, _, v, hv => mz_heal3 hok hv
  | 4, _, v, hv => mz_heal4 hok hv
  | 5, _, v, hv => mz_heal5 hok hv
  | k + 6, h, _, _ => absurd h (by omega)
