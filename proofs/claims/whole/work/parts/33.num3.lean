theorem mz_uq0 {V X N : Int} {r : Nat} {z : Int} (hr : r < 256) (hX : X = V + 697641334361 * z) (h1 : -87553987462305 ≤ X) (h2 : X ≤ 87553987462305) (h6 : X % 256 = r) (hN : N = ((V + 87553987462305) % 697641334361 - 87553987462305) + (((r : Int) - ((V + 87553987462305) % 697641334361 - 87553987462305)) * 233) % 256 * 697641334361) : X = N := by
  obtain ⟨g, hg⟩ : ∃ g, g = (V + 87553987462305) % 697641334361 - 87553987462305 := ⟨_, rfl⟩
  rw [← hg] at hN
  obtain ⟨s, hs⟩ : ∃ s : Int, X = g + 697641334361 * s := ⟨(X - g) / 697641334361, by omega⟩
  have hs0 : 0 ≤ s := by omega
  have hs1 : s < 251 := by omega
  have ht : (((r : Int) - g) * 233) % 256 = s := by omega
  rw [ht] at hN
  omega
theorem mz_xa0 {X N s : Int} (hs : X = N + 697641334361 * s) (h1 : -87553987462305 ≤ X) (h2 : X ≤ 87553987462305) (n1 : -87553987462305 ≤ N) (n2 : N ≤ 87553987462305) : -251 < s ∧ s < 251 := by omega
theorem mz_xb0 {s u : Int} (h : 697641334361 * s = 251 * u) (h1 : -251 < s) (h2 : s < 251) : s = 0 := by
  obtain ⟨w, hw⟩ : ∃ w : Int, w = 51 * u - 141751824910 * s := ⟨_, rfl⟩
  have h3 : s = 251 * w := by
    rw [hw, Int.mul_sub, ← Int.mul_assoc, ← Int.mul_assoc, show (251 : Int) * 51 = 51 * 251 by decide, Int.mul_assoc, ← h, ← Int.mul_assoc, ← Int.sub_mul]
    rw [show ((51 : Int) * 697641334361 - 251 * 141751824910) = 1 by decide, Int.one_mul]
  clear h hw
  omega
theorem mz_ex0 {V X N : Int} {r : Nat} {z : Int} (hX : X = V + 697641334361 * z) (h1 : -87553987462305 ≤ X) (h2 : X ≤ 87553987462305) (n1 : -87553987462305 ≤ N) (n2 : N ≤ 87553987462305) (hm : X % 251 = N % 251) (hN : N = ((V + 87553987462305) % 697641334361 - 87553987462305) + (((r : Int) - ((V + 87553987462305) % 697641334361 - 87553987462305)) * 233) % 256 * 697641334361) : X = N := by
  have hs := mz_exg hX hN
  have hr := mz_xa0 hs h1 h2 n1 n2
  obtain ⟨u, hu⟩ := Int.dvd_of_emod_eq_zero (Int.emod_eq_emod_iff_emod_sub_eq_zero.mp hm)
  have h0 := mz_xb0 (u := u) (by rw [← hu, hs]; omega) hr.1 hr.2
  rw [h0, Int.mul_zero, Int.add_zero] at hs
  exact hs
theorem mz_uq1 {V X N : Int} {r : Nat} {z : Int} (hr : r < 256) (hX : X = V + 726589107571 * z) (h1 : -87553987462305 ≤ X) (h2 : X ≤ 87553987462305) (h6 : X % 256 = r) (hN : N = ((V + 87553987462305) % 726589107571 - 87553987462305) + (((r : Int) - ((V + 87553987462305) % 726589107571 - 87553987462305)) * 187) % 256 * 726589107571) : X = N := by
  obtain ⟨g, hg⟩ : ∃ g, g = (V + 87553987462305) % 726589107571 - 87553987462305 := ⟨_, rfl⟩
  rw [← hg] at hN
  obtain ⟨s, hs⟩ : ∃ s : Int, X = g + 726589107571 * s := ⟨(X - g) / 726589107571, by omega⟩
  have hs0 : 0 ≤ s := by omega
  have hs1 : s < 241 := by omega
  have ht : (((r : Int) - g) * 187) % 256 = s := by omega
  rw [ht] at hN
  omega
theorem mz_xa1 {X N s : Int} (hs : X = N + 726589107571 * s) (h1 : -87553987462305 ≤ X) (h2 : X ≤ 87553987462305) (n1 : -87553987462305 ≤ N) (n2 : N ≤ 87553987462305) : -241 < s ∧ s < 241 := by omega
theorem mz_xb1 {s u : Int} (h : 726589107571 * s = 241 * u) (h1 : -241 < s) (h2 : s < 241) : s = 0 := by
  obtain ⟨w, hw⟩ : ∃ w : Int, w = 71 * u - 214057371940 * s := ⟨_, rfl⟩
  have h3 : s = 241 * w := by
    rw [hw, Int.mul_sub, ← Int.mul_assoc, ← Int.mul_assoc, show (241 : Int) * 71 = 71 * 241 by decide, Int.mul_assoc, ← h, ← Int.mul_assoc, ← Int.sub_mul]
    rw [show ((71 : Int) * 726589107571 - 241 * 214057371940) = 1 by decide, Int.one_mul]
  clear h hw
  omega
theorem mz_ex1 {V X N : Int} {r : Nat} {z : Int} (hX : X = V + 726589107571 * z) (h1 : -87553987462305 ≤ X) (h2 : X ≤ 87553987462305) (n1 : -87553987462305 ≤ N) (n2 : N ≤ 87553987462305) (hm : X % 241 = N % 241) (hN : N = ((V + 87553987462305) % 726589107571 - 87553987462305) + (((r : Int) - ((V + 87553987462305) % 726589107571 - 87553987462305)) * 187) % 256 * 726589107571) : X = N := by
  have hs := mz_exg hX hN
  have hr := mz_xa1 hs h1 h2 n1 n2
  obtain ⟨u, hu⟩ := Int.dvd_of_emod_eq_zero (Int.emod_eq_emod_iff_emod_sub_eq_zero.mp hm)
  have h0 := mz_xb1 (u := u) (by rw [← hu, hs]; omega) hr.1 hr.2
  rw [h0, Int.mul_zero, Int.add_zero] at hs
  exact hs
theorem mz_uq2 {V X N : Int} {r : Nat} {z : Int} (hr : r < 256) (hX : X = V + 732669351149 * z) (h1 : -87553987462305 ≤ X) (h2 : X ≤ 87553987462305) (h6 : X % 256 = r) (hN : N = ((V + 87553987462305) % 732669351149 - 87553987462305) + (((r : Int) - ((V + 87553987462305) % 732669351149 - 87553987462305)) * 229) % 256 * 732669351149) : X = N := by
  obtain ⟨g, hg⟩ : ∃ g, g = (V + 87553987462305) % 732669351149 - 87553987462305 := ⟨_, rfl⟩
  rw [← hg] at hN
  obtain ⟨s, hs⟩ : ∃ s : Int, X = g + 732669351149 * s := ⟨(X - g) / 732669351149, by omega⟩
  have hs0 : 0 ≤ s := by omega
  have hs1 : s < 239 := by omega
  have ht : (((r : Int) - g) * 229) % 256 = s := by omega
  rw [ht] at hN
  omega
theorem mz_xa2 {X N s : Int} (hs : X = N + 732669351149 * s) (h1 : -87553987462305 ≤ X) (h2 : X ≤ 87553987462305) (n1 : -87553987462305 ≤ N) (n2 : N ≤ 87553987462305) : -239 < s ∧ s < 239 := by omega
theorem mz_xb2 {s u : Int} (h : 732669351149 * s = 239 * u) (h1 : -239 < s) (h2 : s < 239) : s = 0 := by
  obtain ⟨w, hw⟩ : ∃ w : Int, w = 156 * u - 478227693637 * s := ⟨_, rfl⟩
  have h3 : s = 239 * w := by
    rw [hw, Int.mul_sub, ← Int.mul_assoc, ← Int.mul_assoc, show (239 : Int) * 156 = 156 * 239 by decide, Int.mul_assoc, ← h, ← Int.mul_assoc, ← Int.sub_mul]
    rw [show ((156 : Int) * 732669351149 - 239 * 478227693637) = 1 by decide, Int.one_mul]
  clear h hw
  omega
theorem mz_ex2 {V X N : Int} {r : Nat} {z : Int} (hX : X = V + 732669351149 * z) (h1 : -87553987462305 ≤ X) (h2 : X ≤ 87553987462305) (n1 : -87553987462305 ≤ N) (n2 : N ≤ 87553987462305) (hm : X % 239 = N % 239) (hN : N = ((V + 87553987462305) % 732669351149 - 87553987462305) + (((r : Int) - ((V + 87553987462305) % 732669351149 - 87553987462305)) * 229) % 256 * 732669351149) : X = N := by
  have hs := mz_exg hX hN
  have hr := mz_xa2 hs h1 h2 n1 n2
  obtain ⟨u, hu⟩ := Int.dvd_of_emod_eq_zero (Int.emod_eq_emod_iff_emod_sub_eq_zero.mp hm)
  have h0 := mz_xb2 (u := u) (by rw [← hu, hs]; omega) hr.1 hr.2
  rw [h0, Int.mul_zero, Int.add_zero] at hs
  exact hs
