theorem mz_uq3 {V X N : Int} {r : Nat} {z : Int} (hr : r < 256) (hX : X = V + 751536373067 * z) (h1 : -87553987462305 ≤ X) (h2 : X ≤ 87553987462305) (h6 : X % 256 = r) (hN : N = ((V + 87553987462305) % 751536373067 - 87553987462305) + (((r : Int) - ((V + 87553987462305) % 751536373067 - 87553987462305)) * 99) % 256 * 751536373067) : X = N := by
  obtain ⟨g, hg⟩ : ∃ g, g = (V + 87553987462305) % 751536373067 - 87553987462305 := ⟨_, rfl⟩
  rw [← hg] at hN
  obtain ⟨s, hs⟩ : ∃ s : Int, X = g + 751536373067 * s := ⟨(X - g) / 751536373067, by omega⟩
  have hs0 : 0 ≤ s := by omega
  have hs1 : s < 233 := by omega
  have ht : (((r : Int) - g) * 99) % 256 = s := by omega
  rw [ht] at hN
  omega
theorem mz_xa3 {X N s : Int} (hs : X = N + 751536373067 * s) (h1 : -87553987462305 ≤ X) (h2 : X ≤ 87553987462305) (n1 : -87553987462305 ≤ N) (n2 : N ≤ 87553987462305) : -233 < s ∧ s < 233 := by omega
theorem mz_xb3 {s u : Int} (h : 751536373067 * s = 233 * u) (h1 : -233 < s) (h2 : s < 233) : s = 0 := by
  obtain ⟨w, hw⟩ : ∃ w : Int, w = 232 * u - 748310895071 * s := ⟨_, rfl⟩
  have h3 : s = 233 * w := by
    rw [hw, Int.mul_sub, ← Int.mul_assoc, ← Int.mul_assoc, show (233 : Int) * 232 = 232 * 233 by decide, Int.mul_assoc, ← h, ← Int.mul_assoc, ← Int.sub_mul]
    rw [show ((232 : Int) * 751536373067 - 233 * 748310895071) = 1 by decide, Int.one_mul]
  clear h hw
  omega
theorem mz_ex3 {V X N : Int} {r : Nat} {z : Int} (hX : X = V + 751536373067 * z) (h1 : -87553987462305 ≤ X) (h2 : X ≤ 87553987462305) (n1 : -87553987462305 ≤ N) (n2 : N ≤ 87553987462305) (hm : X % 233 = N % 233) (hN : N = ((V + 87553987462305) % 751536373067 - 87553987462305) + (((r : Int) - ((V + 87553987462305) % 751536373067 - 87553987462305)) * 99) % 256 * 751536373067) : X = N := by
  have hs := mz_exg hX hN
  have hr := mz_xa3 hs h1 h2 n1 n2
  obtain ⟨u, hu⟩ := Int.dvd_of_emod_eq_zero (Int.emod_eq_emod_iff_emod_sub_eq_zero.mp hm)
  have h0 := mz_xb3 (u := u) (by rw [← hu, hs]; omega) hr.1 hr.2
  rw [h0, Int.mul_zero, Int.add_zero] at hs
  exact hs
theorem mz_uq4 {V X N : Int} {r : Nat} {z : Int} (hr : r < 256) (hX : X = V + 764663645959 * z) (h1 : -87553987462305 ≤ X) (h2 : X ≤ 87553987462305) (h6 : X % 256 = r) (hN : N = ((V + 87553987462305) % 764663645959 - 87553987462305) + (((r : Int) - ((V + 87553987462305) % 764663645959 - 87553987462305)) * 183) % 256 * 764663645959) : X = N := by
  obtain ⟨g, hg⟩ : ∃ g, g = (V + 87553987462305) % 764663645959 - 87553987462305 := ⟨_, rfl⟩
  rw [← hg] at hN
  obtain ⟨s, hs⟩ : ∃ s : Int, X = g + 764663645959 * s := ⟨(X - g) / 764663645959, by omega⟩
  have hs0 : 0 ≤ s := by omega
  have hs1 : s < 229 := by omega
  have ht : (((r : Int) - g) * 183) % 256 = s := by omega
  rw [ht] at hN
  omega
theorem mz_xa4 {X N s : Int} (hs : X = N + 764663645959 * s) (h1 : -87553987462305 ≤ X) (h2 : X ≤ 87553987462305) (n1 : -87553987462305 ≤ N) (n2 : N ≤ 87553987462305) : -229 < s ∧ s < 229 := by omega
theorem mz_xb4 {s u : Int} (h : 764663645959 * s = 229 * u) (h1 : -229 < s) (h2 : s < 229) : s = 0 := by
  obtain ⟨w, hw⟩ : ∃ w : Int, w = 22 * u - 73461136293 * s := ⟨_, rfl⟩
  have h3 : s = 229 * w := by
    rw [hw, Int.mul_sub, ← Int.mul_assoc, ← Int.mul_assoc, show (229 : Int) * 22 = 22 * 229 by decide, Int.mul_assoc, ← h, ← Int.mul_assoc, ← Int.sub_mul]
    rw [show ((22 : Int) * 764663645959 - 229 * 73461136293) = 1 by decide, Int.one_mul]
  clear h hw
  omega
theorem mz_ex4 {V X N : Int} {r : Nat} {z : Int} (hX : X = V + 764663645959 * z) (h1 : -87553987462305 ≤ X) (h2 : X ≤ 87553987462305) (n1 : -87553987462305 ≤ N) (n2 : N ≤ 87553987462305) (hm : X % 229 = N % 229) (hN : N = ((V + 87553987462305) % 764663645959 - 87553987462305) + (((r : Int) - ((V + 87553987462305) % 764663645959 - 87553987462305)) * 183) % 256 * 764663645959) : X = N := by
  have hs := mz_exg hX hN
  have hr := mz_xa4 hs h1 h2 n1 n2
  obtain ⟨u, hu⟩ := Int.dvd_of_emod_eq_zero (Int.emod_eq_emod_iff_emod_sub_eq_zero.mp hm)
  have h0 := mz_xb4 (u := u) (by rw [← hu, hs]; omega) hr.1 hr.2
  rw [h0, Int.mul_zero, Int.add_zero] at hs
  exact hs
theorem mz_uq5 {V X N : Int} {r : Nat} {z : Int} (hr : r < 256) (hX : X = V + 771400770593 * z) (h1 : -87553987462305 ≤ X) (h2 : X ≤ 87553987462305) (h6 : X % 256 = r) (hN : N = ((V + 87553987462305) % 771400770593 - 87553987462305) + (((r : Int) - ((V + 87553987462305) % 771400770593 - 87553987462305)) * 225) % 256 * 771400770593) : X = N := by
  obtain ⟨g, hg⟩ : ∃ g, g = (V + 87553987462305) % 771400770593 - 87553987462305 := ⟨_, rfl⟩
  rw [← hg] at hN
  obtain ⟨s, hs⟩ : ∃ s : Int, X = g + 771400770593 * s := ⟨(X - g) / 771400770593, by omega⟩
  have hs0 : 0 ≤ s := by omega
  have hs1 : s < 227 := by omega
  have ht : (((r : Int) - g) * 225) % 256 = s := by omega
  rw [ht] at hN
  omega
theorem mz_xa5 {X N s : Int} (hs : X = N + 771400770593 * s) (h1 : -87553987462305 ≤ X) (h2 : X ≤ 87553987462305) (n1 : -87553987462305 ≤ N) (n2 : N ≤ 87553987462305) : -227 < s ∧ s < 227 := by omega
theorem mz_xb5 {s u : Int} (h : 771400770593 * s = 227 * u) (h1 : -227 < s) (h2 : s < 227) : s = 0 := by
  obtain ⟨w, hw⟩ : ∃ w : Int, w = 172 * u - 584497500185 * s := ⟨_, rfl⟩
  have h3 : s = 227 * w := by
    rw [hw, Int.mul_sub, ← Int.mul_assoc, ← Int.mul_assoc, show (227 : Int) * 172 = 172 * 227 by decide, Int.mul_assoc, ← h, ← Int.mul_assoc, ← Int.sub_mul]
    rw [show ((172 : Int) * 771400770593 - 227 * 584497500185) = 1 by decide, Int.one_mul]
  clear h hw
  omega
theorem mz_ex5 {V X N : Int} {r : Nat} {z : Int} (hX : X = V + 771400770593 * z) (h1 : -87553987462305 ≤ X) (h2 : X ≤ 87553987462305) (n1 : -87553987462305 ≤ N) (n2 : N ≤ 87553987462305) (hm : X % 227 = N % 227) (hN : N = ((V + 87553987462305) % 771400770593 - 87553987462305) + (((r : Int) - ((V + 87553987462305) % 771400770593 - 87553987462305)) * 225) % 256 * 771400770593) : X = N := by
  have hs := mz_exg hX hN
  have hr := mz_xa5 hs h1 h2 n1 n2
  obtain ⟨u, hu⟩ := Int.dvd_of_emod_eq_zero (Int.emod_eq_emod_iff_emod_sub_eq_zero.mp hm)
  have h0 := mz_xb5 (u := u) (by rw [← hu, hs]; omega) hr.1 hr.2
  rw [h0, Int.mul_zero, Int.add_zero] at hs
  exact hs
