abbrev zs_σ (P : zs_P) (S : zs_S) (th : Int32) (S2 : zs_S2) (o : Int64) (w : Nat × Nat) : zg_H := (zs_hp (zp_ca P) (zp_B P) S th S2 o, w)
def zs_sre (S : zs_S) (i k v : Nat) : zs_S := (S.1, S.2.1, zs_u2 (zs_re S) i k v, zs_ex S, zs_su S, zs_pg S)
def zs_sex (S : zs_S) (i : Nat) (v : Int) : zs_S := (S.1, S.2.1, zs_re S, zs_u1 (zs_ex S) i v, zs_su S, zs_pg S)
def zs_ssu (S : zs_S) (i : Nat) (b : Bool) : zs_S := (S.1, S.2.1, zs_re S, zs_ex S, zs_u1 (zs_su S) i b, zs_pg S)
def zs_scn (S : zs_S) (v : Int32) : zs_S := (v, S.2.1, zs_re S, zs_ex S, zs_su S, zs_pg S)
def zs_ssr (S : zs_S) (v : Int32) : zs_S := (S.1, v, zs_re S, zs_ex S, zs_su S, zs_pg S)
def zs_spg (S : zs_S) (i k : Nat) (v : Int32) : zs_S := (S.1, S.2.1, zs_re S, zs_ex S, zs_su S, zs_u2 (zs_pg S) i k v)
section ZS3
variable {P : zs_P} {S : zs_S} {S2 : zs_S2} {th : Int32} {o : Int64} {w : Nat × Nat}
/-- two units that differ at one place -/
theorem zs_hp_u {S' : zs_S} {n : Nat} (h : ∀ k, k ≠ n → zs_uc (zp_ca P) (zp_B P) S' k = zs_uc (zp_ca P) (zp_B P) S k) : ∀ q, q ≠ zp_B P + n → zs_hp (zp_ca P) (zp_B P) S' th S2 o q = zs_hp (zp_ca P) (zp_B P) S th S2 o q := by
  intro q hq
  unfold zs_hp
  by_cases h1 : q < zp_B P
  · rw [if_pos h1, if_pos h1]
  · rw [if_neg h1, if_neg h1]
    by_cases h2 : q - zp_B P < 67
    · rw [if_pos h2, if_pos h2]
      exact h _ (by omega)
    · rw [if_neg h2, if_neg h2]
theorem zs_hp_m {S' : zs_S2} {th' : Int32} {o' : Int64} {n : Nat} (h : ∀ k, k ≠ n → zs_mc (zp_ca P) (zp_B P) th' S' o' k = zs_mc (zp_ca P) (zp_B P) th S2 o k) : ∀ q, q ≠ zp_B P + 67 + n → zs_hp (zp_ca P) (zp_B P) S th' S' o' q = zs_hp (zp_ca P) (zp_B P) S th S2 o q := by
  intro q hq
  unfold zs_hp
  by_cases h1 : q < zp_B P
  · rw [if_pos h1, if_pos h1]
  · rw [if_neg h1, if_neg h1]
    by_cases h2 : q - zp_B P < 67
    · rw [if_pos h2, if_pos h2]
    · rw [if_neg h2, if_neg h2]
      exact h _ (by omega)
theorem zs_up_res {i k v : Nat} (hi : i < 16) : zg_up (zs_σ P S th S2 o w) (zp_B P + 4 + 2 * i) (.inl (zp_ca P 0, 8, .inl (upd (fun j => nI (zs_re S i j)) k (nI v)))) = zs_σ P (zs_sre S i k v) th S2 o w := by
  refine zs_put ?_ ?_
  · rw [zs_res hi]
    congr 4
    refine congrArg Sum.inl (funext fun j => ?_)
    show nI (if i = i ∧ j = k then v else zs_re S i j) = if j = k then nI v else nI (zs_re S i j)
    by_cases hj : j = k
    · rw [if_pos ⟨rfl, hj⟩, if_pos hj]
    · rw [if_neg (fun h => hj h.2), if_neg hj]
  · rw [show zp_B P + 4 + 2 * i = zp_B P + (4 + 2 * i) by omega]
    refine zs_hp_u fun n hn => ?_
    unfold zs_uc
    by_cases h0 : n = 0
    · rw [if_pos h0, if_pos h0]; rfl
    rw [if_neg h0, if_neg h0]
    by_cases h1 : n = 1
    · rw [if_pos h1, if_pos h1]
    rw [if_neg h1, if_neg h1]
    by_cases h2 : n = 2
    · rw [if_pos h2, if_pos h2]
    rw [if_neg h2, if_neg h2]
    by_cases h3 : n < 35
    · rw [if_pos h3, if_pos h3]
      by_cases h4 : n % 2 = 1
      · rw [if_pos h4, if_pos h4]; rfl
      · rw [if_neg h4, if_neg h4]
        congr 4
        refine congrArg Sum.inl (funext fun j => ?_)
        show nI (if (n - 4) / 2 = i ∧ j = k then v else zs_re S ((n - 4) / 2) j) = _
        rw [if_neg (fun h => hn (by have := h.1; omega))]
    · rw [if_neg h3, if_neg h3]; rfl
theorem zs_up_ex {i : Nat} {v : Int} (hi : i < 16) : zg_up (zs_σ P S th S2 o w) (zp_B P + 3 + 2 * i) (.inr (zc_R, [.ref (zp_B P + 4 + 2 * i), .long (mz_L v), .int (zs_bi (zs_su S i))])) = zs_σ P (zs_sex S i v) th S2 o w := by
  refine zs_put ?_ ?_
  · rw [zs_reg hi]
    show some (Sum.inr (zc_R, [Value.ref (zp_B P + 4 + 2 * i), Value.long (mz_L (if i = i then v else zs_ex S i)), Value.int (zs_bi (zs_su S i))])) = _
    rw [if_pos rfl]
  · rw [show zp_B P + 3 + 2 * i = zp_B P + (3 + 2 * i) by omega]
    refine zs_hp_u fun n hn => ?_
    unfold zs_uc
    by_cases h0 : n = 0
    · rw [if_pos h0, if_pos h0]; rfl
    rw [if_neg h0, if_neg h0]
    by_cases h1 : n = 1
    · rw [if_pos h1, if_pos h1]
    rw [if_neg h1, if_neg h1]
    by_cases h2 : n = 2
    · rw [if_pos h2, if_pos h2]
    rw [if_neg h2, if_neg h2]
    by_cases h3 : n < 35
    · rw [if_pos h3, if_pos h3]
      by_cases h4 : n % 2 = 1
      · rw [if_pos h4, if_pos h4]
        show some (Sum.inr (zc_R, [Value.ref (zp_B P + n + 1), Value.long (mz_L (if (n - 3) / 2 = i then v else zs_ex S ((n - 3) / 2))), Value.int (zs_bi (zs_su S ((n - 3) / 2)))])) = _
        rw [if_neg (by omega)]
      · rw [if_neg h4, if_neg h4]; rfl
    · rw [if_neg h3, if_neg h3]; rfl
theorem zs_up_su {i : Nat} {b : Bool} (hi : i < 16) : zg_up (zs_σ P S th S2 o w) (zp_B P + 3 + 2 * i) (.inr (zc_R, [.ref (zp_B P + 4 + 2 * i), .long (mz_L (zs_ex S i)), .int (zs_bi b)])) = zs_σ P (zs_ssu S i b) th S2 o w := by
  refine zs_put ?_ ?_
  · rw [zs_reg hi]
    show some (Sum.inr (zc_R, [Value.ref (zp_B P + 4 + 2 * i), Value.long (mz_L (zs_ex S i)), Value.int (zs_bi (if i = i then b else zs_su S i))])) = _
    rw [if_pos rfl]
  · rw [show zp_B P + 3 + 2 * i = zp_B P + (3 + 2 * i) by omega]
    refine zs_hp_u fun n hn => ?_
    unfold zs_uc
    by_cases h0 : n = 0
    · rw [if_pos h0, if_pos h0]; rfl
    rw [if_neg h0, if_neg h0]
    by_cases h1 : n = 1
    · rw [if_pos h1, if_pos h1]
    rw [if_neg h1, if_neg h1]
    by_cases h2 : n = 2
    · rw [if_pos h2, if_pos h2]
    rw [if_neg h2, if_neg h2]
    by_cases h3 : n < 35
    · rw [if_pos h3, if_pos h3]
      by_cases h4 : n % 2 = 1
      · rw [if_pos h4, if_pos h4]
        show some (Sum.inr (zc_R, [Value.ref (zp_B P + n + 1), Value.long (mz_L (zs_ex S ((n - 3) / 2))), Value.int (zs_bi (if (n - 3) / 2 = i then b else zs_su S ((n - 3) / 2)))])) = _
        rw [if_neg (by omega)]
      · rw [if_neg h4, if_neg h4]; rfl
    · rw [if_neg h3, if_neg h3]; rfl
theorem zs_up_cn {v : Int32} : zg_up (zs_σ P S th S2 o w) (zp_B P) (.inr (zc_U, [.ref (zp_B P + 1), .ref (zp_B P + 2), .int v, .int (zs_sr S)])) = zs_σ P (zs_scn S v) th S2 o w := by
  refine zs_put zs_0 ?_
  exact zs_hp_u (n := 0) fun n hn => by
    unfold zs_uc
    rw [if_neg hn, if_neg hn]
    rfl
theorem zs_up_sr {v : Int32} : zg_up (zs_σ P S th S2 o w) (zp_B P) (.inr (zc_U, [.ref (zp_B P + 1), .ref (zp_B P + 2), .int (zs_cn S), .int v])) = zs_σ P (zs_ssr S v) th S2 o w := by
  refine zs_put zs_0 ?_
  exact zs_hp_u (n := 0) fun n hn => by
    unfold zs_uc
    rw [if_neg hn, if_neg hn]
    rfl
end ZS3
