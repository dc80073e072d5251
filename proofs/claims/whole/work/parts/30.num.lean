/-! numbers: longs and ints that are integers; the residue number system of the document -/
def mz_L (a : Int) : Int64 := Int64.ofInt a
theorem mz_add (a b : Int) : mz_L a + mz_L b = mz_L (a + b) := (Int64.ofInt_add a b).symm
theorem mz_sub (a b : Int) : mz_L a - mz_L b = mz_L (a - b) := (Int64.ofInt_sub a b).symm
theorem mz_mul (a b : Int) : mz_L a * mz_L b = mz_L (a * b) := (Int64.ofInt_mul a b).symm
theorem mz_neg (a : Int) : -mz_L a = mz_L (-a) := (Int64.ofInt_neg a).symm
theorem mz_int {a : Int} (h1 : -9223372036854775808 ≤ a) (h2 : a < 9223372036854775808) : (mz_L a).toInt = a := by
  have h : (2 : Int) ^ 63 = 9223372036854775808 := by decide
  exact Int64.toInt_ofInt_of_le (by omega) (by omega)
def mz_in (a : Int) : Prop := -4000000000000000000 ≤ a ∧ a ≤ 4000000000000000000
theorem mz_inI {a : Int} (h : mz_in a) : (mz_L a).toInt = a := mz_int (by have := h.1; omega) (by have := h.2; omega)
theorem mz_lt {a b : Int} (ha : mz_in a) (hb : mz_in b) : mz_L a < mz_L b ↔ a < b := by rw [Int64.lt_iff_toInt_lt, mz_inI ha, mz_inI hb]
theorem mz_le {a b : Int} (ha : mz_in a) (hb : mz_in b) : mz_L a ≤ mz_L b ↔ a ≤ b := by rw [Int64.le_iff_toInt_le, mz_inI ha, mz_inI hb]
theorem mz_eq {a b : Int} (ha : mz_in a) (hb : mz_in b) : mz_L a = mz_L b ↔ a = b := by rw [← Int64.toInt_inj, mz_inI ha, mz_inI hb]
theorem mz_cmp {a b : Int} (ha : mz_in a) (hb : mz_in b) : lg_cmp (mz_L a) (mz_L b) = if b < a then 1 else if a = b then 0 else -1 := by
  unfold lg_cmp
  simp only [gt_iff_lt, mz_lt hb ha, mz_eq ha hb]
theorem mz_tdiv_in {a : Int} (b : Int) (ha : mz_in a) : mz_in (a.tdiv b) := by
  have h := Int.natAbs_tdiv_le_natAbs a b
  have h1 := ha.1
  have h2 := ha.2
  unfold mz_in
  omega
theorem mz_div {a b : Int} (ha : mz_in a) (hb : mz_in b) : mz_L a / mz_L b = mz_L (a.tdiv b) := by
  apply Int64.toInt_inj.1
  rw [Int64.toInt_div_of_ne_left, mz_inI ha, mz_inI hb, mz_inI (mz_tdiv_in b ha)]
  intro h
  have h2 := congrArg Int64.toInt h
  rw [mz_inI ha] at h2
  have h3 : Int64.minValue.toInt = -9223372036854775808 := by decide
  have := ha.1
  omega
theorem mz_rem {a b : Int} (ha : mz_in a) (hb : mz_in b) : mz_L a - mz_L a / mz_L b * mz_L b = mz_L (a.tmod b) := by
  rw [mz_div ha hb, mz_mul, mz_sub, Int.tmod_def, Int.mul_comm]
theorem mz_i2l {n : Nat} (h : n < 2 ^ 31) : (nI n).toInt64 = mz_L (n : Int) := by rw [nI_l h]; exact Int64.ofInt_eq_ofNat.symm
theorem mz_l2i (n : Nat) : (mz_L (n : Int)).toInt32 = nI n := by
  unfold mz_L nI
  rw [Int64.toInt32_ofInt, Int32.ofInt_eq_ofNat]
theorem mz_sign (x : Int64) : x < 0 ↔ x.toBitVec.msb = true := by
  rw [Int64.lt_iff_toInt_lt]
  show x.toBitVec.toInt < (0 : Int64).toInt ↔ _
  rw [show (0 : Int64).toInt = 0 from rfl, BitVec.toInt_neg_iff, BitVec.msb_eq_decide, decide_eq_true_eq]
  omega
theorem mz_xor (x y : Int64) : (x ^^^ y) < 0 ↔ ((x < 0) ↔ ¬ (y < 0)) := by
  rw [mz_sign, mz_sign, mz_sign, Int64.toBitVec_xor, BitVec.msb_xor]
  cases x.toBitVec.msb <;> cases y.toBitVec.msb <;> simp
theorem mz_fmod {a b : Int} (hb : 0 < b) : (if a.tmod b < 0 then a.tmod b + b else a.tmod b) = a % b := by
  have h1 := Int.emod_nonneg a (show b ≠ 0 by omega)
  have h2 := Int.emod_lt_of_pos a hb
  rw [Int.tmod_eq_emod]
  split <;> split <;> omega
def mz_m (k : Nat) : Nat := match k with
  | 0 => 251
  | 1 => 241
  | 2 => 239
  | 3 => 233
  | 4 => 229
  | 5 => 227
  | 6 => 256
  | _ => 255
def mz_w (k : Nat) : Nat := match k with
  | 0 => 35579708052411
  | 1 => 51587826637541
  | 2 => 114296418779244
  | 3 => 174356438551544
  | 4 => 16822600211098
  | _ => 132680932541996
def mz_iv (k : Nat) : Nat := match k with
  | 0 => 233
  | 1 => 187
  | 2 => 229
  | 3 => 99
  | 4 => 183
  | _ => 225
theorem mz_m_lt : ∀ k, mz_m k ≤ 256 ∧ 0 < mz_m k := by
  intro k
  unfold mz_m
  split <;> decide
def mz_sum (ρ : Nat → Nat) : Nat → Nat
  | 0 => 0
  | n + 1 => mz_sum ρ n + ρ n * mz_w n
def mz_V (a b c d e f : Nat) : Int := if (((a * 35579708052411 + b * 51587826637541 + c * 114296418779244 + d * 174356438551544 + e * 16822600211098 + f * 132680932541996) % 175107974924611 : Nat) : Int) > 87553987462305 then (((a * 35579708052411 + b * 51587826637541 + c * 114296418779244 + d * 174356438551544 + e * 16822600211098 + f * 132680932541996) % 175107974924611 : Nat) : Int) - 175107974924611 else (((a * 35579708052411 + b * 51587826637541 + c * 114296418779244 + d * 174356438551544 + e * 16822600211098 + f * 132680932541996) % 175107974924611 : Nat) : Int)
def mz_val (ρ : Nat → Nat) : Int := mz_V (ρ 0) (ρ 1) (ρ 2) (ρ 3) (ρ 4) (ρ 5)
theorem mz_val_sum (ρ : Nat → Nat) : mz_val ρ = if ((mz_sum ρ 6 % 175107974924611 : Nat) : Int) > 87553987462305 then ((mz_sum ρ 6 % 175107974924611 : Nat) : Int) - 175107974924611 else ((mz_sum ρ 6 % 175107974924611 : Nat) : Int) := by
  simp only [mz_val, mz_V, mz_sum, mz_w, Nat.zero_add]
theorem mz_V_in (a b c d e f : Nat) : -87553987462305 ≤ mz_V a b c d e f ∧ mz_V a b c d e f ≤ 87553987462305 := by
  unfold mz_V
  split <;> omega
theorem mz_exg {V X N z t st h : Int} (hX : X = V + st * z) (hN : N = ((V + h) % st - h) + t * st) : X = N + st * ((V + h) / st + z - t) := by
  have e := Int.emod_add_mul_ediv (V + h) st
  rw [Int.mul_sub, Int.mul_add, hX, hN, Int.mul_comm t st]
  omega
theorem mz_V_m0 {a b c d e f : Nat} (h : a < 251) : mz_V a b c d e f % 251 = a := by
  unfold mz_V
  split <;> omega
theorem mz_V_m1 {a b c d e f : Nat} (h : b < 241) : mz_V a b c d e f % 241 = b := by
  unfold mz_V
  split <;> omega
theorem mz_V_m2 {a b c d e f : Nat} (h : c < 239) : mz_V a b c d e f % 239 = c := by
  unfold mz_V
  split <;> omega
theorem mz_V_m3 {a b c d e f : Nat} (h : d < 233) : mz_V a b c d e f % 233 = d := by
  unfold mz_V
  split <;> omega
theorem mz_V_m4 {a b c d e f : Nat} (h : e < 229) : mz_V a b c d e f % 229 = e := by
  unfold mz_V
  split <;> omega
theorem mz_V_m5 {a b c d e f : Nat} (h : f < 227) : mz_V a b c d e f % 227 = f := by
  unfold mz_V
  split <;> omega
