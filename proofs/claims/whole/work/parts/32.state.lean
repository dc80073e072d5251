abbrev zc_U : Nat := 0
abbrev zc_R : Nat := 1
abbrev zc_I : Nat := 2
abbrev zc_M : Nat := 3
/-! The state of the class and of the reference, as numbers; the heap that holds it. B: the first cell of ours; the unit at B, its arrays at B + 1 and B + 2, register i at B + 3 + 2 i with its residues behind it, instruction i at B + 35 + i; the reference at B + 67, its arrays behind it, the law's own array at B + 75. -/
abbrev zs_S : Type := Int32 × Int32 × (Nat → Nat → Nat) × (Nat → Int) × (Nat → Bool) × (Nat → Nat → Int32)
/-- the reference keeps both ends of an interval: the low ones in the state, the high ones beside it -/
abbrev zs_S2 : Type := zs_S × (Nat → Int)
abbrev zs_cn (S : zs_S) : Int32 := S.1
abbrev zs_sr (S : zs_S) : Int32 := S.2.1
abbrev zs_re (S : zs_S) : Nat → Nat → Nat := S.2.2.1
abbrev zs_ex (S : zs_S) : Nat → Int := S.2.2.2.1
abbrev zs_su (S : zs_S) : Nat → Bool := S.2.2.2.2.1
abbrev zs_pg (S : zs_S) : Nat → Nat → Int32 := S.2.2.2.2.2
def zs_bi (b : Bool) : Int32 := if b = true then 1 else 0
def zs_rf (n : Nat) (g : Nat → Nat) : Nat → Option Nat := fun i => if i < n then some (g i) else none
def zs_uc (ca : Nat → ClassId) (B : Nat) (S : zs_S) (n : Nat) : Option va_E :=
  if n = 0 then some (.inr (zc_U, [.ref (B + 1), .ref (B + 2), .int (zs_cn S), .int (zs_sr S)]))
  else if n = 1 then some (.inl (ca 3, 16, .inr (.inr (.inr (.inr (zs_rf 16 (fun i => B + 3 + 2 * i)))))))
  else if n = 2 then some (.inl (ca 4, 32, .inr (.inr (.inr (.inr (zs_rf 32 (fun i => B + 35 + i)))))))
  else if n < 35 then (if n % 2 = 1 then some (.inr (zc_R, [.ref (B + n + 1), .long (mz_L (zs_ex S ((n - 3) / 2))), .int (zs_bi (zs_su S ((n - 3) / 2)))])) else some (.inl (ca 0, 8, .inl (fun j => nI (zs_re S ((n - 4) / 2) j)))))
  else some (.inr (zc_I, [.int (zs_pg S (n - 35) 0), .int (zs_pg S (n - 35) 1), .int (zs_pg S (n - 35) 2), .int (zs_pg S (n - 35) 3)]))
def zs_mo : Nat → Int32 := fun j => if j < 8 then nI (mz_m j) else 0
def zs_un : Nat → Int64 := fun j => if j < 6 then mz_L (mz_w j : Int) else 0
def zs_mc (ca : Nat → ClassId) (B : Nat) (th : Int32) (S2 : zs_S2) (o : Int64) (n : Nat) : Option va_E :=
  if n = 0 then some (.inr (zc_M, [.int th, .ref (B + 68), .ref (B + 69), .ref (B + 70), .ref (B + 71), .ref (B + 72), .ref (B + 73), .long (mz_L 175107974924611), .long (mz_L 87553987462305), .ref (B + 74), .int (zs_cn S2.1), .int (zs_sr S2.1)]))
  else if n = 1 then some (.inl (ca 0, 8, .inl zs_mo))
  else if n = 2 then some (.inl (ca 0, 128, .inl (fun j => nI (zs_re S2.1 (j / 8) (j % 8)))))
  else if n = 3 then some (.inl (ca 1, 16, .inr (.inl (fun j => mz_L (zs_ex S2.1 j)))))
  else if n = 4 then some (.inl (ca 1, 16, .inr (.inl (fun j => mz_L (S2.2 j)))))
  else if n = 5 then some (.inl (ca 2, 16, .inl (fun j => zs_bi (zs_su S2.1 j))))
  else if n = 6 then some (.inl (ca 1, 6, .inr (.inl zs_un)))
  else if n = 7 then some (.inl (ca 0, 128, .inl (fun j => zs_pg S2.1 (j / 4) (j % 4))))
  else if n = 8 then some (.inl (ca 1, 1, .inr (.inl (fun j => if j = 0 then o else 0))))
  else none
def zs_hp (ca : Nat → ClassId) (B : Nat) (S : zs_S) (th : Int32) (S2 : zs_S2) (o : Int64) : Nat → Option va_E := fun a =>
  if a < B then none else if a - B < 67 then zs_uc ca B S (a - B) else zs_mc ca B th S2 o (a - B - 67)
section ZS1
variable {ca : Nat → ClassId} {B : Nat} {S : zs_S} {S2 : zs_S2} {th : Int32} {o : Int64}
theorem zs_at_u {n : Nat} (h : n < 67) : zs_hp ca B S th S2 o (B + n) = zs_uc ca B S n := by
  unfold zs_hp
  rw [if_neg (by omega), show B + n - B = n by omega, if_pos h]
theorem zs_at_m (n : Nat) : zs_hp ca B S th S2 o (B + 67 + n) = zs_mc ca B th S2 o n := by
  unfold zs_hp
  rw [if_neg (by omega), show B + 67 + n - B = 67 + n by omega, if_neg (by omega), show 67 + n - 67 = n by omega]
theorem zs_0 : zs_hp ca B S th S2 o B = some (.inr (zc_U, [.ref (B + 1), .ref (B + 2), .int (zs_cn S), .int (zs_sr S)])) := zs_at_u (n := 0) (by omega)
theorem zs_1 : zs_hp ca B S th S2 o (B + 1) = some (.inl (ca 3, 16, .inr (.inr (.inr (.inr (zs_rf 16 (fun i => B + 3 + 2 * i))))))) := zs_at_u (n := 1) (by omega)
theorem zs_2 : zs_hp ca B S th S2 o (B + 2) = some (.inl (ca 4, 32, .inr (.inr (.inr (.inr (zs_rf 32 (fun i => B + 35 + i))))))) := zs_at_u (n := 2) (by omega)
theorem zs_reg {i : Nat} (h : i < 16) : zs_hp ca B S th S2 o (B + 3 + 2 * i) = some (.inr (zc_R, [.ref (B + 4 + 2 * i), .long (mz_L (zs_ex S i)), .int (zs_bi (zs_su S i))])) := by
  rw [show B + 3 + 2 * i = B + (3 + 2 * i) by omega, zs_at_u (by omega)]
  unfold zs_uc
  rw [if_neg (by omega), if_neg (by omega), if_neg (by omega), if_pos (by omega), if_pos (by omega), show (3 + 2 * i - 3) / 2 = i by omega, show B + (3 + 2 * i) + 1 = B + 4 + 2 * i by omega]
theorem zs_res {i : Nat} (h : i < 16) : zs_hp ca B S th S2 o (B + 4 + 2 * i) = some (.inl (ca 0, 8, .inl (fun j => nI (zs_re S i j)))) := by
  rw [show B + 4 + 2 * i = B + (4 + 2 * i) by omega, zs_at_u (by omega)]
  unfold zs_uc
  rw [if_neg (by omega), if_neg (by omega), if_neg (by omega), if_pos (by omega), if_neg (by omega), show (4 + 2 * i - 4) / 2 = i by omega]
theorem zs_ins {i : Nat} (h : i < 32) : zs_hp ca B S th S2 o (B + 35 + i) = some (.inr (zc_I, [.int (zs_pg S i 0), .int (zs_pg S i 1), .int (zs_pg S i 2), .int (zs_pg S i 3)])) := by
  rw [show B + 35 + i = B + (35 + i) by omega, zs_at_u (by omega)]
  unfold zs_uc
  rw [if_neg (by omega), if_neg (by omega), if_neg (by omega), if_neg (by omega), show 35 + i - 35 = i by omega]
theorem zs_m0 : zs_hp ca B S th S2 o (B + 67) = some (.inr (zc_M, [.int th, .ref (B + 68), .ref (B + 69), .ref (B + 70), .ref (B + 71), .ref (B + 72), .ref (B + 73), .long (mz_L 175107974924611), .long (mz_L 87553987462305), .ref (B + 74), .int (zs_cn S2.1), .int (zs_sr S2.1)])) := zs_at_m 0
theorem zs_m1 : zs_hp ca B S th S2 o (B + 68) = some (.inl (ca 0, 8, .inl zs_mo)) := zs_at_m 1
theorem zs_m2 : zs_hp ca B S th S2 o (B + 69) = some (.inl (ca 0, 128, .inl (fun j => nI (zs_re S2.1 (j / 8) (j % 8))))) := zs_at_m 2
theorem zs_m3 : zs_hp ca B S th S2 o (B + 70) = some (.inl (ca 1, 16, .inr (.inl (fun j => mz_L (zs_ex S2.1 j))))) := zs_at_m 3
theorem zs_m4 : zs_hp ca B S th S2 o (B + 71) = some (.inl (ca 1, 16, .inr (.inl (fun j => mz_L (S2.2 j))))) := zs_at_m 4
theorem zs_m5 : zs_hp ca B S th S2 o (B + 72) = some (.inl (ca 2, 16, .inl (fun j => zs_bi (zs_su S2.1 j)))) := zs_at_m 5
theorem zs_m6 : zs_hp ca B S th S2 o (B + 73) = some (.inl (ca 1, 6, .inr (.inl zs_un))) := zs_at_m 6
theorem zs_m7 : zs_hp ca B S th S2 o (B + 74) = some (.inl (ca 0, 128, .inl (fun j => zs_pg S2.1 (j / 4) (j % 4)))) := zs_at_m 7
theorem zs_m8 : zs_hp ca B S th S2 o (B + 75) = some (.inl (ca 1, 1, .inr (.inl (fun j => if j = 0 then o else 0)))) := zs_at_m 8
/-- another content at one place of the heap -/
theorem zs_put {f g : Nat → Option va_E} {w : Nat × Nat} {a : Nat} {e : va_E} (h1 : g a = some e) (h2 : ∀ q, q ≠ a → g q = f q) : zg_up (f, w) a e = (g, w) := by
  unfold zg_up
  refine Prod.ext ?_ rfl
  funext q
  show (if q = a then some e else f q) = g q
  by_cases hq : q = a
  · subst hq; rw [if_pos rfl, h1]
  · rw [if_neg hq, h2 q hq]
theorem zs_oth {f1 f2 : Nat → Option va_E} {n : Nat} (h : ∀ k, k ≠ n → f1 k = f2 k) (q : Nat) (hB : ¬ q < B) (hq : q ≠ B + n) : f1 (q - B) = f2 (q - B) := h _ (by omega)
end ZS1
def zs_u1 {α : Type} (f : Nat → α) (i : Nat) (v : α) : Nat → α := fun j => if j = i then v else f j
def zs_u2 {α : Type} (f : Nat → Nat → α) (i k : Nat) (v : α) : Nat → Nat → α := fun j t => if j = i ∧ t = k then v else f j t
