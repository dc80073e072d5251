/-! numbers: longs and ints that are integers; the residue number system of the document -/
def mz_L (a : Int) : Int64 := Int64.ofInt a
theorem mz_add (a b : Int) : mz_L a + mz_L b = mz_L (a + b) := (Int64.ofInt_add a b).symm
theorem mz_sub (a b : Int) : mz_L a - mz_L b = mz_L (a - b) := (Int64.ofInt_sub a b).symm
theorem mz_mul (a b : Int) : mz_L a * mz_L b = mz_L (a * b) := (Int64.ofInt_mul a b).symm
theorem mz_neg (a : Int) : -mz_L a = mz_L (-a) := (Int64.ofInt_neg a).symm
theorem mz_int {a : Int} (h1 : -9223372036854775808 ≤ a) (h2 : a < 9223372036854775808) : (mz_L a).toInt = a := by
  have h : (2 : Int) ^ 63 = 9223372036854775808 := by decide
  exact Int64.toInt_ofInt_of_le (by omega) (by omega)
def mz_in (a : Int) : Prop := -4000000000000000000 ≤ a ∧ a ≤ 4000000000000000000
theorem mz_inI {a : Int} (h : mz_in a) : (mz_L a).toInt = a := mz_int (by have := h.1; omega) (by have := h.2; omega)
theorem mz_lt {a b : Int} (ha : mz_in a) (hb : mz_in b) : mz_L a < mz_L b ↔ a < b := by rw [Int64.lt_iff_toInt_lt, mz_inI ha, mz_inI hb]
theorem mz_le {a b : Int} (ha : mz_in a) (hb : mz_in b) : mz_L a ≤ mz_L b ↔ a ≤ b := by rw [Int64.le_iff_toInt_le, mz_inI ha, mz_inI hb]
theorem mz_eq {a b : Int} (ha : mz_in a) (hb : mz_in b) : mz_L a = mz_L b ↔ a = b := by rw [← Int64.toInt_inj, mz_inI ha, mz_inI hb]
theorem mz_cmp {a b : Int} (ha : mz_in a) (hb : mz_in b) : lg_cmp (mz_L a) (mz_L b) = if b < a then 1 else if a = b then 0 else -1 := by
  unfold lg_cmp
  simp only [gt_iff_lt, mz_lt hb ha, mz_eq ha hb]
theorem mz_tdiv_in {a : Int} (b : Int) (ha : mz_in a) : mz_in (a.tdiv b) := by
  have h := Int.natAbs_tdiv_le_natAbs a b
  have h1 := ha.1
  have h2 := ha.2
  unfold mz_in
  omega
theorem mz_div {a b : Int} (ha : mz_in a) (hb : mz_in b) : mz_L a / mz_L b = mz_L (a.tdiv b) := by
  apply Int64.toInt_inj.1
  rw [Int64.toInt_div_of_ne_left, mz_inI ha, mz_inI hb, mz_inI (mz_tdiv_in b ha)]
  intro h
  have h2 := congrArg Int64.toInt h
  rw [mz_inI ha] at h2
  have h3 : Int64.minValue.toInt = -9223372036854775808 := by decide
  have := ha.1
  omega
theorem mz_rem {a b : Int} (ha : mz_in a) (hb : mz_in b) : mz_L a - mz_L a / mz_L b * mz_L b = mz_L (a.tmod b) := by
  rw [mz_div ha hb, mz_mul, mz_sub, Int.tmod_def, Int.mul_comm]
theorem mz_i2l {n : Nat} (h : n < 2 ^ 31) : (nI n).toInt64 = mz_L (n : Int) := by rw [nI_l h]; exact Int64.ofInt_eq_ofNat.symm
theorem mz_l2i (n : Nat) : (mz_L (n : Int)).toInt32 = nI n := by
  unfold mz_L nI
  rw [Int64.toInt32_ofInt, Int32.ofInt_eq_ofNat]
theorem mz_sign (x : Int64) : x < 0 ↔ x.toBitVec.msb = true := by
  rw [Int64.lt_iff_toInt_lt]
  show x.toBitVec.toInt < (0 : Int64).toInt ↔ _
  rw [show (0 : Int64).toInt = 0 from rfl, BitVec.toInt_neg_iff, BitVec.msb_eq_decide, decide_eq_true_eq]
  omega
theorem mz_xor (x y : Int64) : (x ^^^ y) < 0 ↔ ((x < 0) ↔ ¬ (y < 0)) := by
  rw [mz_sign, mz_sign, mz_sign, Int64.toBitVec_xor, BitVec.msb_xor]
  cases x.toBitVec.msb <;> cases y.toBitVec.msb <;> simp
theorem mz_fmod {a b : Int} (hb : 0 < b) : (if a.tmod b < 0 then a.tmod b + b else a.tmod b) = a % b := by
  have h1 := Int.emod_nonneg a (show b ≠ 0 by omega)
  have h2 := Int.emod_lt_of_pos a hb
  rw [Int.tmod_eq_emod]
  split <;> split <;> omega
def mz_m (k : Nat) : Nat := match k with
  | 0 => 251
  | 1 => 241
  | 2 => 239
  | 3 => 233
  | 4 => 229
  | 5 => 227
  | 6 => 256
  | _ => 255
def mz_w (k : Nat) : Nat := match k with
  | 0 => 35579708052411
  | 1 => 51587826637541
  | 2 => 114296418779244
  | 3 => 174356438551544
  | 4 => 16822600211098
  | _ => 132680932541996
def mz_iv (k : Nat) : Nat := match k with
  | 0 => 233
  | 1 => 187
  | 2 => 229
  | 3 => 99
  | 4 => 183
  | _ => 225
theorem mz_m_lt : ∀ k, mz_m k ≤ 256 ∧ 0 < mz_m k := by
  intro k
  unfold mz_m
  split <;> decide
def mz_sum (ρ : Nat → Nat) : Nat → Nat
  | 0 => 0
  | n + 1 => mz_sum ρ n + ρ n * mz_w n
def mz_V (a b c d e f : Nat) : Int := if (((a * 35579708052411 + b * 51587826637541 + c * 114296418779244 + d * 174356438551544 + e * 16822600211098 + f * 132680932541996) % 175107974924611 : Nat) : Int) > 87553987462305 then (((a * 35579708052411 + b * 51587826637541 + c * 114296418779244 + d * 174356438551544 + e * 16822600211098 + f * 132680932541996) % 175107974924611 : Nat) : Int) - 175107974924611 else (((a * 35579708052411 + b * 51587826637541 + c * 114296418779244 + d * 174356438551544 + e * 16822600211098 + f * 132680932541996) % 175107974924611 : Nat) : Int)
def mz_val (ρ : Nat → Nat) : Int := mz_V (ρ 0) (ρ 1) (ρ 2) (ρ 3) (ρ 4) (ρ 5)
theorem mz_val_sum (ρ : Nat → Nat) : mz_val ρ = if ((mz_sum ρ 6 % 175107974924611 : Nat) : Int) > 87553987462305 then ((mz_sum ρ 6 % 175107974924611 : Nat) : Int) - 175107974924611 else ((mz_sum ρ 6 % 175107974924611 : Nat) : Int) := by
  simp only [mz_val, mz_V, mz_sum, mz_w, Nat.zero_add]
theorem mz_V_in (a b c d e f : Nat) : -87553987462305 ≤ mz_V a b c d e f ∧ mz_V a b c d e f ≤ 87553987462305 := by
  unfold mz_V
  split <;> omega
theorem mz_V_m0 {a b c d e f : Nat} (h : a < 251) : mz_V a b c d e f % 251 = a := by
  unfold mz_V
  split <;> omega
theorem mz_V_m1 {a b c d e f : Nat} (h : b < 241) : mz_V a b c d e f % 241 = b := by
  unfold mz_V
  split <;> omega
theorem mz_V_m2 {a b c d e f : Nat} (h : c < 239) : mz_V a b c d e f % 239 = c := by
  unfold mz_V
  split <;> omega
theorem mz_V_m3 {a b c d e f : Nat} (h : d < 233) : mz_V a b c d e f % 233 = d := by
  unfold mz_V
  split <;> omega
theorem mz_V_m4 {a b c d e f : Nat} (h : e < 229) : mz_V a b c d e f % 229 = e := by
  unfold mz_V
  split <;> omega
theorem mz_V_m5 {a b c d e f : Nat} (h : f < 227) : mz_V a b c d e f % 227 = f := by
  unfold mz_V
  split <;> omega
theorem mz_V_s0 (a b c d e f v : Nat) : ∃ z : Int, mz_V v b c d e f = mz_V a b c d e f + 697641334361 * z := by
  obtain ⟨p, hp⟩ : ∃ p, p = a * 35579708052411 + b * 51587826637541 + c * 114296418779244 + d * 174356438551544 + e * 16822600211098 + f * 132680932541996 := ⟨_, rfl⟩
  obtain ⟨q, hq⟩ : ∃ q, q = v * 35579708052411 + b * 51587826637541 + c * 114296418779244 + d * 174356438551544 + e * 16822600211098 + f * 132680932541996 := ⟨_, rfl⟩
  unfold mz_V
  rw [← hp, ← hq]
  have hpq : (q : Int) = p + 697641334361 * (51 * ((v : Int) - a)) := by omega
  have h1 : ((p % 175107974924611 : Nat) : Int) = p - 175107974924611 * (p / 175107974924611 : Nat) := by omega
  have h2 : ((q % 175107974924611 : Nat) : Int) = q - 175107974924611 * (q / 175107974924611 : Nat) := by omega
  rw [h1, h2]
  split <;> split
  · exact ⟨51 * ((v : Int) - a) - 251 * (q / 175107974924611 : Nat) + 251 * (p / 175107974924611 : Nat), by omega⟩
  · exact ⟨51 * ((v : Int) - a) - 251 * (q / 175107974924611 : Nat) + 251 * (p / 175107974924611 : Nat) - 251, by omega⟩
  · exact ⟨51 * ((v : Int) - a) - 251 * (q / 175107974924611 : Nat) + 251 * (p / 175107974924611 : Nat) + 251, by omega⟩
  · exact ⟨51 * ((v : Int) - a) - 251 * (q / 175107974924611 : Nat) + 251 * (p / 175107974924611 : Nat), by omega⟩
theorem mz_uq0 {V X N : Int} {r : Nat} {z : Int} (hr : r < 256) (hX : X = V + 697641334361 * z) (h1 : -87553987462305 ≤ X) (h2 : X ≤ 87553987462305) (h6 : X % 256 = r) (hN : N = ((V + 87553987462305) % 697641334361 - 87553987462305) + (((r : Int) - ((V + 87553987462305) % 697641334361 - 87553987462305)) * 233) % 256 * 697641334361) : X = N := by
  obtain ⟨g, hg⟩ : ∃ g, g = (V + 87553987462305) % 697641334361 - 87553987462305 := ⟨_, rfl⟩
  rw [← hg] at hN
  obtain ⟨s, hs⟩ : ∃ s : Int, X = g + 697641334361 * s := ⟨(X - g) / 697641334361, by omega⟩
  have hs0 : 0 ≤ s := by omega
  have hs1 : s < 251 := by omega
  have ht : (((r : Int) - g) * 233) % 256 = s := by omega
  rw [ht] at hN
  omega
theorem mz_ex0 {V X N : Int} {r : Nat} {z : Int} (hX : X = V + 697641334361 * z) (h1 : -87553987462305 ≤ X) (h2 : X ≤ 87553987462305) (n1 : -87553987462305 ≤ N) (n2 : N ≤ 87553987462305) (hm : X % 251 = N % 251) (hN : N = ((V + 87553987462305) % 697641334361 - 87553987462305) + (((r : Int) - ((V + 87553987462305) % 697641334361 - 87553987462305)) * 233) % 256 * 697641334361) : X = N := by
  obtain ⟨t, ht⟩ : ∃ t, t = (((r : Int) - ((V + 87553987462305) % 697641334361 - 87553987462305)) * 233) % 256 := ⟨_, rfl⟩
  rw [← ht] at hN
  clear ht
  obtain ⟨s, hs⟩ : ∃ s : Int, X = N + 697641334361 * s := ⟨(V + 87553987462305) / 697641334361 + z - t, by
    have h := Int.emod_add_mul_ediv (V + 87553987462305) 697641334361
    omega⟩
  have hs1 : -251 < s := by omega
  have hs2 : s < 251 := by omega
  clear hN hX
  obtain ⟨u, hu⟩ : ∃ u : Int, 697641334361 * s = 251 * u := ⟨X / 251 - N / 251, by omega⟩
  obtain ⟨w, hw⟩ : ∃ w : Int, s = 251 * w := ⟨51 * u - 141751824910 * s, by omega⟩
  have hw0 : w = 0 := by omega
  subst hw0
  omega
theorem mz_V_s1 (a b c d e f v : Nat) : ∃ z : Int, mz_V a v c d e f = mz_V a b c d e f + 726589107571 * z := by
  obtain ⟨p, hp⟩ : ∃ p, p = a * 35579708052411 + b * 51587826637541 + c * 114296418779244 + d * 174356438551544 + e * 16822600211098 + f * 132680932541996 := ⟨_, rfl⟩
  obtain ⟨q, hq⟩ : ∃ q, q = a * 35579708052411 + v * 51587826637541 + c * 114296418779244 + d * 174356438551544 + e * 16822600211098 + f * 132680932541996 := ⟨_, rfl⟩
  unfold mz_V
  rw [← hp, ← hq]
  have hpq : (q : Int) = p + 726589107571 * (71 * ((v : Int) - b)) := by omega
  have h1 : ((p % 175107974924611 : Nat) : Int) = p - 175107974924611 * (p / 175107974924611 : Nat) := by omega
  have h2 : ((q % 175107974924611 : Nat) : Int) = q - 175107974924611 * (q / 175107974924611 : Nat) := by omega
  rw [h1, h2]
  split <;> split
  · exact ⟨71 * ((v : Int) - b) - 241 * (q / 175107974924611 : Nat) + 241 * (p / 175107974924611 : Nat), by omega⟩
  · exact ⟨71 * ((v : Int) - b) - 241 * (q / 175107974924611 : Nat) + 241 * (p / 175107974924611 : Nat) - 241, by omega⟩
  · exact ⟨71 * ((v : Int) - b) - 241 * (q / 175107974924611 : Nat) + 241 * (p / 175107974924611 : Nat) + 241, by omega⟩
  · exact ⟨71 * ((v : Int) - b) - 241 * (q / 175107974924611 : Nat) + 241 * (p / 175107974924611 : Nat), by omega⟩
theorem mz_uq1 {V X N : Int} {r : Nat} {z : Int} (hr : r < 256) (hX : X = V + 726589107571 * z) (h1 : -87553987462305 ≤ X) (h2 : X ≤ 87553987462305) (h6 : X % 256 = r) (hN : N = ((V + 87553987462305) % 726589107571 - 87553987462305) + (((r : Int) - ((V + 87553987462305) % 726589107571 - 87553987462305)) * 187) % 256 * 726589107571) : X = N := by
  obtain ⟨g, hg⟩ : ∃ g, g = (V + 87553987462305) % 726589107571 - 87553987462305 := ⟨_, rfl⟩
  rw [← hg] at hN
  obtain ⟨s, hs⟩ : ∃ s : Int, X = g + 726589107571 * s := ⟨(X - g) / 726589107571, by omega⟩
  have hs0 : 0 ≤ s := by omega
  have hs1 : s < 241 := by omega
  have ht : (((r : Int) - g) * 187) % 256 = s := by omega
  rw [ht] at hN
  omega
theorem mz_ex1 {V X N : Int} {r : Nat} {z : Int} (hX : X = V + 726589107571 * z) (h1 : -87553987462305 ≤ X) (h2 : X ≤ 87553987462305) (n1 : -87553987462305 ≤ N) (n2 : N ≤ 87553987462305) (hm : X % 241 = N % 241) (hN : N = ((V + 87553987462305) % 726589107571 - 87553987462305) + (((r : Int) - ((V + 87553987462305) % 726589107571 - 87553987462305)) * 187) % 256 * 726589107571) : X = N := by
  obtain ⟨t, ht⟩ : ∃ t, t = (((r : Int) - ((V + 87553987462305) % 726589107571 - 87553987462305)) * 187) % 256 := ⟨_, rfl⟩
  rw [← ht] at hN
  clear ht
  obtain ⟨s, hs⟩ : ∃ s : Int, X = N + 726589107571 * s := ⟨(V + 87553987462305) / 726589107571 + z - t, by
    have h := Int.emod_add_mul_ediv (V + 87553987462305) 726589107571
    omega⟩
  have hs1 : -241 < s := by omega
  have hs2 : s < 241 := by omega
  clear hN hX
  obtain ⟨u, hu⟩ : ∃ u : Int, 726589107571 * s = 241 * u := ⟨X / 241 - N / 241, by omega⟩
  obtain ⟨w, hw⟩ : ∃ w : Int, s = 241 * w := ⟨71 * u - 214057371940 * s, by omega⟩
  have hw0 : w = 0 := by omega
  subst hw0
  omega
theorem mz_V_s2 (a b c d e f v : Nat) : ∃ z : Int, mz_V a b v d e f = mz_V a b c d e f + 732669351149 * z := by
  obtain ⟨p, hp⟩ : ∃ p, p = a * 35579708052411 + b * 51587826637541 + c * 114296418779244 + d * 174356438551544 + e * 16822600211098 + f * 132680932541996 := ⟨_, rfl⟩
  obtain ⟨q, hq⟩ : ∃ q, q = a * 35579708052411 + b * 51587826637541 + v * 114296418779244 + d * 174356438551544 + e * 16822600211098 + f * 132680932541996 := ⟨_, rfl⟩
  unfold mz_V
  rw [← hp, ← hq]
  have hpq : (q : Int) = p + 732669351149 * (156 * ((v : Int) - c)) := by omega
  have h1 : ((p % 175107974924611 : Nat) : Int) = p - 175107974924611 * (p / 175107974924611 : Nat) := by omega
  have h2 : ((q % 175107974924611 : Nat) : Int) = q - 175107974924611 * (q / 175107974924611 : Nat) := by omega
  rw [h1, h2]
  split <;> split
  · exact ⟨156 * ((v : Int) - c) - 239 * (q / 175107974924611 : Nat) + 239 * (p / 175107974924611 : Nat), by omega⟩
  · exact ⟨156 * ((v : Int) - c) - 239 * (q / 175107974924611 : Nat) + 239 * (p / 175107974924611 : Nat) - 239, by omega⟩
  · exact ⟨156 * ((v : Int) - c) - 239 * (q / 175107974924611 : Nat) + 239 * (p / 175107974924611 : Nat) + 239, by omega⟩
  · exact ⟨156 * ((v : Int) - c) - 239 * (q / 175107974924611 : Nat) + 239 * (p / 175107974924611 : Nat), by omega⟩
theorem mz_uq2 {V X N : Int} {r : Nat} {z : Int} (hr : r < 256) (hX : X = V + 732669351149 * z) (h1 : -87553987462305 ≤ X) (h2 : X ≤ 87553987462305) (h6 : X % 256 = r) (hN : N = ((V + 87553987462305) % 732669351149 - 87553987462305) + (((r : Int) - ((V + 87553987462305) % 732669351149 - 87553987462305)) * 229) % 256 * 732669351149) : X = N := by
  obtain ⟨g, hg⟩ : ∃ g, g = (V + 87553987462305) % 732669351149 - 87553987462305 := ⟨_, rfl⟩
  rw [← hg] at hN
  obtain ⟨s, hs⟩ : ∃ s : Int, X = g + 732669351149 * s := ⟨(X - g) / 732669351149, by omega⟩
  have hs0 : 0 ≤ s := by omega
  have hs1 : s < 239 := by omega
  have ht : (((r : Int) - g) * 229) % 256 = s := by omega
  rw [ht] at hN
  omega
theorem mz_ex2 {V X N : Int} {r : Nat} {z : Int} (hX : X = V + 732669351149 * z) (h1 : -87553987462305 ≤ X) (h2 : X ≤ 87553987462305) (n1 : -87553987462305 ≤ N) (n2 : N ≤ 87553987462305) (hm : X % 239 = N % 239) (hN : N = ((V + 87553987462305) % 732669351149 - 87553987462305) + (((r : Int) - ((V + 87553987462305) % 732669351149 - 87553987462305)) * 229) % 256 * 732669351149) : X = N := by
  obtain ⟨t, ht⟩ : ∃ t, t = (((r : Int) - ((V + 87553987462305) % 732669351149 - 87553987462305)) * 229) % 256 := ⟨_, rfl⟩
  rw [← ht] at hN
  clear ht
  obtain ⟨s, hs⟩ : ∃ s : Int, X = N + 732669351149 * s := ⟨(V + 87553987462305) / 732669351149 + z - t, by
    have h := Int.emod_add_mul_ediv (V + 87553987462305) 732669351149
    omega⟩
  have hs1 : -239 < s := by omega
  have hs2 : s < 239 := by omega
  clear hN hX
  obtain ⟨u, hu⟩ : ∃ u : Int, 732669351149 * s = 239 * u := ⟨X / 239 - N / 239, by omega⟩
  obtain ⟨w, hw⟩ : ∃ w : Int, s = 239 * w := ⟨156 * u - 478227693637 * s, by omega⟩
  have hw0 : w = 0 := by omega
  subst hw0
  omega
theorem mz_V_s3 (a b c d e f v : Nat) : ∃ z : Int, mz_V a b c v e f = mz_V a b c d e f + 751536373067 * z := by
  obtain ⟨p, hp⟩ : ∃ p, p = a * 35579708052411 + b * 51587826637541 + c * 114296418779244 + d * 174356438551544 + e * 16822600211098 + f * 132680932541996 := ⟨_, rfl⟩
  obtain ⟨q, hq⟩ : ∃ q, q = a * 35579708052411 + b * 51587826637541 + c * 114296418779244 + v * 174356438551544 + e * 16822600211098 + f * 132680932541996 := ⟨_, rfl⟩
  unfold mz_V
  rw [← hp, ← hq]
  have hpq : (q : Int) = p + 751536373067 * (232 * ((v : Int) - d)) := by omega
  have h1 : ((p % 175107974924611 : Nat) : Int) = p - 175107974924611 * (p / 175107974924611 : Nat) := by omega
  have h2 : ((q % 175107974924611 : Nat) : Int) = q - 175107974924611 * (q / 175107974924611 : Nat) := by omega
  rw [h1, h2]
  split <;> split
  · exact ⟨232 * ((v : Int) - d) - 233 * (q / 175107974924611 : Nat) + 233 * (p / 175107974924611 : Nat), by omega⟩
  · exact ⟨232 * ((v : Int) - d) - 233 * (q / 175107974924611 : Nat) + 233 * (p / 175107974924611 : Nat) - 233, by omega⟩
  · exact ⟨232 * ((v : Int) - d) - 233 * (q / 175107974924611 : Nat) + 233 * (p / 175107974924611 : Nat) + 233, by omega⟩
  · exact ⟨232 * ((v : Int) - d) - 233 * (q / 175107974924611 : Nat) + 233 * (p / 175107974924611 : Nat), by omega⟩
theorem mz_uq3 {V X N : Int} {r : Nat} {z : Int} (hr : r < 256) (hX : X = V + 751536373067 * z) (h1 : -87553987462305 ≤ X) (h2 : X ≤ 87553987462305) (h6 : X % 256 = r) (hN : N = ((V + 87553987462305) % 751536373067 - 87553987462305) + (((r : Int) - ((V + 87553987462305) % 751536373067 - 87553987462305)) * 99) % 256 * 751536373067) : X = N := by
  obtain ⟨g, hg⟩ : ∃ g, g = (V + 87553987462305) % 751536373067 - 87553987462305 := ⟨_, rfl⟩
  rw [← hg] at hN
  obtain ⟨s, hs⟩ : ∃ s : Int, X = g + 751536373067 * s := ⟨(X - g) / 751536373067, by omega⟩
  have hs0 : 0 ≤ s := by omega
  have hs1 : s < 233 := by omega
  have ht : (((r : Int) - g) * 99) % 256 = s := by omega
  rw [ht] at hN
  omega
theorem mz_ex3 {V X N : Int} {r : Nat} {z : Int} (hX : X = V + 751536373067 * z) (h1 : -87553987462305 ≤ X) (h2 : X ≤ 87553987462305) (n1 : -87553987462305 ≤ N) (n2 : N ≤ 87553987462305) (hm : X % 233 = N % 233) (hN : N = ((V + 87553987462305) % 751536373067 - 87553987462305) + (((r : Int) - ((V + 87553987462305) % 751536373067 - 87553987462305)) * 99) % 256 * 751536373067) : X = N := by
  obtain ⟨t, ht⟩ : ∃ t, t = (((r : Int) - ((V + 87553987462305) % 751536373067 - 87553987462305)) * 99) % 256 := ⟨_, rfl⟩
  rw [← ht] at hN
  clear ht
  obtain ⟨s, hs⟩ : ∃ s : Int, X = N + 751536373067 * s := ⟨(V + 87553987462305) / 751536373067 + z - t, by
    have h := Int.emod_add_mul_ediv (V + 87553987462305) 751536373067
    omega⟩
  have hs1 : -233 < s := by omega
  have hs2 : s < 233 := by omega
  clear hN hX
  obtain ⟨u, hu⟩ : ∃ u : Int, 751536373067 * s = 233 * u := ⟨X / 233 - N / 233, by omega⟩
  obtain ⟨w, hw⟩ : ∃ w : Int, s = 233 * w := ⟨232 * u - 748310895071 * s, by omega⟩
  have hw0 : w = 0 := by omega
  subst hw0
  omega
theorem mz_V_s4 (a b c d e f v : Nat) : ∃ z : Int, mz_V a b c d v f = mz_V a b c d e f + 764663645959 * z := by
  obtain ⟨p, hp⟩ : ∃ p, p = a * 35579708052411 + b * 51587826637541 + c * 114296418779244 + d * 174356438551544 + e * 16822600211098 + f * 132680932541996 := ⟨_, rfl⟩
  obtain ⟨q, hq⟩ : ∃ q, q = a * 35579708052411 + b * 51587826637541 + c * 114296418779244 + d * 174356438551544 + v * 16822600211098 + f * 132680932541996 := ⟨_, rfl⟩
  unfold mz_V
  rw [← hp, ← hq]
  have hpq : (q : Int) = p + 764663645959 * (22 * ((v : Int) - e)) := by omega
  have h1 : ((p % 175107974924611 : Nat) : Int) = p - 175107974924611 * (p / 175107974924611 : Nat) := by omega
  have h2 : ((q % 175107974924611 : Nat) : Int) = q - 175107974924611 * (q / 175107974924611 : Nat) := by omega
  rw [h1, h2]
  split <;> split
  · exact ⟨22 * ((v : Int) - e) - 229 * (q / 175107974924611 : Nat) + 229 * (p / 175107974924611 : Nat), by omega⟩
  · exact ⟨22 * ((v : Int) - e) - 229 * (q / 175107974924611 : Nat) + 229 * (p / 175107974924611 : Nat) - 229, by omega⟩
  · exact ⟨22 * ((v : Int) - e) - 229 * (q / 175107974924611 : Nat) + 229 * (p / 175107974924611 : Nat) + 229, by omega⟩
  · exact ⟨22 * ((v : Int) - e) - 229 * (q / 175107974924611 : Nat) + 229 * (p / 175107974924611 : Nat), by omega⟩
theorem mz_uq4 {V X N : Int} {r : Nat} {z : Int} (hr : r < 256) (hX : X = V + 764663645959 * z) (h1 : -87553987462305 ≤ X) (h2 : X ≤ 87553987462305) (h6 : X % 256 = r) (hN : N = ((V + 87553987462305) % 764663645959 - 87553987462305) + (((r : Int) - ((V + 87553987462305) % 764663645959 - 87553987462305)) * 183) % 256 * 764663645959) : X = N := by
  obtain ⟨g, hg⟩ : ∃ g, g = (V + 87553987462305) % 764663645959 - 87553987462305 := ⟨_, rfl⟩
  rw [← hg] at hN
  obtain ⟨s, hs⟩ : ∃ s : Int, X = g + 764663645959 * s := ⟨(X - g) / 764663645959, by omega⟩
  have hs0 : 0 ≤ s := by omega
  have hs1 : s < 229 := by omega
  have ht : (((r : Int) - g) * 183) % 256 = s := by omega
  rw [ht] at hN
  omega
theorem mz_ex4 {V X N : Int} {r : Nat} {z : Int} (hX : X = V + 764663645959 * z) (h1 : -87553987462305 ≤ X) (h2 : X ≤ 87553987462305) (n1 : -87553987462305 ≤ N) (n2 : N ≤ 87553987462305) (hm : X % 229 = N % 229) (hN : N = ((V + 87553987462305) % 764663645959 - 87553987462305) + (((r : Int) - ((V + 87553987462305) % 764663645959 - 87553987462305)) * 183) % 256 * 764663645959) : X = N := by
  obtain ⟨t, ht⟩ : ∃ t, t = (((r : Int) - ((V + 87553987462305) % 764663645959 - 87553987462305)) * 183) % 256 := ⟨_, rfl⟩
  rw [← ht] at hN
  clear ht
  obtain ⟨s, hs⟩ : ∃ s : Int, X = N + 764663645959 * s := ⟨(V + 87553987462305) / 764663645959 + z - t, by
    have h := Int.emod_add_mul_ediv (V + 87553987462305) 764663645959
    omega⟩
  have hs1 : -229 < s := by omega
  have hs2 : s < 229 := by omega
  clear hN hX
  obtain ⟨u, hu⟩ : ∃ u : Int, 764663645959 * s = 229 * u := ⟨X / 229 - N / 229, by omega⟩
  obtain ⟨w, hw⟩ : ∃ w : Int, s = 229 * w := ⟨22 * u - 73461136293 * s, by omega⟩
  have hw0 : w = 0 := by omega
  subst hw0
  omega
theorem mz_V_s5 (a b c d e f v : Nat) : ∃ z : Int, mz_V a b c d e v = mz_V a b c d e f + 771400770593 * z := by
  obtain ⟨p, hp⟩ : ∃ p, p = a * 35579708052411 + b * 51587826637541 + c * 114296418779244 + d * 174356438551544 + e * 16822600211098 + f * 132680932541996 := ⟨_, rfl⟩
  obtain ⟨q, hq⟩ : ∃ q, q = a * 35579708052411 + b * 51587826637541 + c * 114296418779244 + d * 174356438551544 + e * 16822600211098 + v * 132680932541996 := ⟨_, rfl⟩
  unfold mz_V
  rw [← hp, ← hq]
  have hpq : (q : Int) = p + 771400770593 * (172 * ((v : Int) - f)) := by omega
  have h1 : ((p % 175107974924611 : Nat) : Int) = p - 175107974924611 * (p / 175107974924611 : Nat) := by omega
  have h2 : ((q % 175107974924611 : Nat) : Int) = q - 175107974924611 * (q / 175107974924611 : Nat) := by omega
  rw [h1, h2]
  split <;> split
  · exact ⟨172 * ((v : Int) - f) - 227 * (q / 175107974924611 : Nat) + 227 * (p / 175107974924611 : Nat), by omega⟩
  · exact ⟨172 * ((v : Int) - f) - 227 * (q / 175107974924611 : Nat) + 227 * (p / 175107974924611 : Nat) - 227, by omega⟩
  · exact ⟨172 * ((v : Int) - f) - 227 * (q / 175107974924611 : Nat) + 227 * (p / 175107974924611 : Nat) + 227, by omega⟩
  · exact ⟨172 * ((v : Int) - f) - 227 * (q / 175107974924611 : Nat) + 227 * (p / 175107974924611 : Nat), by omega⟩
theorem mz_uq5 {V X N : Int} {r : Nat} {z : Int} (hr : r < 256) (hX : X = V + 771400770593 * z) (h1 : -87553987462305 ≤ X) (h2 : X ≤ 87553987462305) (h6 : X % 256 = r) (hN : N = ((V + 87553987462305) % 771400770593 - 87553987462305) + (((r : Int) - ((V + 87553987462305) % 771400770593 - 87553987462305)) * 225) % 256 * 771400770593) : X = N := by
  obtain ⟨g, hg⟩ : ∃ g, g = (V + 87553987462305) % 771400770593 - 87553987462305 := ⟨_, rfl⟩
  rw [← hg] at hN
  obtain ⟨s, hs⟩ : ∃ s : Int, X = g + 771400770593 * s := ⟨(X - g) / 771400770593, by omega⟩
  have hs0 : 0 ≤ s := by omega
  have hs1 : s < 227 := by omega
  have ht : (((r : Int) - g) * 225) % 256 = s := by omega
  rw [ht] at hN
  omega
theorem mz_ex5 {V X N : Int} {r : Nat} {z : Int} (hX : X = V + 771400770593 * z) (h1 : -87553987462305 ≤ X) (h2 : X ≤ 87553987462305) (n1 : -87553987462305 ≤ N) (n2 : N ≤ 87553987462305) (hm : X % 227 = N % 227) (hN : N = ((V + 87553987462305) % 771400770593 - 87553987462305) + (((r : Int) - ((V + 87553987462305) % 771400770593 - 87553987462305)) * 225) % 256 * 771400770593) : X = N := by
  obtain ⟨t, ht⟩ : ∃ t, t = (((r : Int) - ((V + 87553987462305) % 771400770593 - 87553987462305)) * 225) % 256 := ⟨_, rfl⟩
  rw [← ht] at hN
  clear ht
  obtain ⟨s, hs⟩ : ∃ s : Int, X = N + 771400770593 * s := ⟨(V + 87553987462305) / 771400770593 + z - t, by
    have h := Int.emod_add_mul_ediv (V + 87553987462305) 771400770593
    omega⟩
  have hs1 : -227 < s := by omega
  have hs2 : s < 227 := by omega
  clear hN hX
  obtain ⟨u, hu⟩ : ∃ u : Int, 771400770593 * s = 227 * u := ⟨X / 227 - N / 227, by omega⟩
  obtain ⟨w, hw⟩ : ∃ w : Int, s = 227 * w := ⟨172 * u - 584497500185 * s, by omega⟩
  have hw0 : w = 0 := by omega
  subst hw0
  omega
