/-- one call of both, at the depth of the law's helpers: k is c, and where c is 0 both answers agree -/
def zj_op (l : Launch) (P : zs_P) (S : zs_S) (th : Int32) (w : Nat × Nat) (mL : zg_M) (aL : List Value) (mM : zg_M) (aM : List Value) (good : Nat → Option Value → Int64 → Prop) : Prop :=
  ∃ (c : Nat) (S' : zs_S) (w' : Nat × Nat) (v : Option Value), c < 4 ∧ zs_inv S' ∧ (w.1 ≤ w'.1 ∧ w'.1 ≤ w.1 + 1 ∧ w.2 ≤ w'.2 ∧ w'.2 ≤ w.2 + 6) ∧ ∀ o : Int64, ∃ o' : Int64, good c v o' ∧
    zg_C l (zs_E P) 10 mL aL (zs_σ P S th (zs_b S) o w) (.inl (some (.int (nI c))), zs_σ P S' th (zs_b S) o' w') ∧
    zg_C l (zs_E P) 10 mM aM (zs_σ P S' th (zs_b S) o' w') (.inl v, zs_σ P S' (nI c) (zs_b S') o' w')
def zj_n : Nat → Option Value → Int64 → Prop := fun _ v _ => v = none
def zj_l : Nat → Option Value → Int64 → Prop := fun c v o => ∃ y : Int64, v = some (.long y) ∧ (c = 0 → o = y)
def zj_i : Nat → Option Value → Int64 → Prop := fun c v o => ∃ y : Int32, v = some (.int y) ∧ (c = 0 → o = y.toInt64)
def zj_z : Nat → Option Value → Int64 → Prop := fun c v o => ∃ y : Bool, v = some (.int (zs_bi y)) ∧ (c = 0 → o = mz_L (if y = true then 1 else 0))
theorem mz_L_of (x : Int64) : mz_L x.toInt = x := Int64.ofInt_toInt x
theorem mz_wi_of (x : Int64) : mz_wi x.toInt := by
  have h1 := Int64.le_toInt x
  have h2 := Int64.toInt_lt x
  unfold mz_wi
  omega
theorem zj_w0 (w : Nat × Nat) : w.1 ≤ w.1 ∧ w.1 ≤ w.1 + 1 ∧ w.2 ≤ w.2 ∧ w.2 ≤ w.2 + 6 := by omega
theorem zj_w1 (w : Nat × Nat) : w.1 ≤ (w.1 + 1, w.2 + 6).1 ∧ (w.1 + 1, w.2 + 6).1 ≤ w.1 + 1 ∧ w.2 ≤ (w.1 + 1, w.2 + 6).2 ∧ (w.1 + 1, w.2 + 6).2 ≤ w.2 + 6 := by
  dsimp only
  omega
theorem zs_chN {k : Int32} (h : zs_ch k) : ∃ j : Nat, j < 8 ∧ k = nI (j + 1) := by
  obtain ⟨n, hn, rfl⟩ := zs_nof (n := 9) (x := k) (by have := h.1; omega) (by have := h.2; omega) (by decide)
  have h1 := h.1
  rw [nI_toInt (by omega)] at h1
  exact ⟨n - 1, by omega, by rw [show n - 1 + 1 = n by omega]⟩
section ZM22
variable {l : Launch} {P : zs_P} {S : zs_S} {th : Int32} {w : Nat × Nat}
theorem zj_load (htr : l.stackTraces = false) (hI : zs_inv S) (r : Int32) (x : Int64) : zj_op l P S th w mL_load [.ref (zp_B P), .int r, .long x] mM_load [.ref (zp_B P + 67), .int r, .long x] zj_n := by
  by_cases hr : zs_ir r
  · obtain ⟨i, hi, rfl⟩ := zs_irN hr
    have ex := mz_L_of x
    have hw := mz_wi_of x
    obtain ⟨v, hv⟩ : ∃ v, v = x.toInt := ⟨_, rfl⟩
    rw [← hv] at ex hw
    subst ex
    by_cases h2 : mz_hr v
    · exact ⟨0, zs_sput S i v, w, none, by decide, zs_inv_put hI h2, zj_w0 w, fun o => ⟨o, rfl, zl_load (d := 6) hi h2, zm_load (d := 6) hi h2⟩⟩
    · exact ⟨2, S, (w.1 + 1, w.2 + 6), none, by decide, hI, zj_w1 w, fun o => ⟨o, rfl, zl_loadY (d := 2) htr hr hw h2, zm_loadY (d := 6) hi hw h2⟩⟩
  · exact ⟨1, S, (w.1 + 1, w.2 + 6), none, by decide, hI, zj_w1 w, fun o => ⟨o, rfl, zl_loadX (d := 2) htr hr, zm_loadX (d := 6) hr⟩⟩
theorem zj_binary (htr : l.stackTraces = false) (hI : zs_inv S) (r : Int32) : zj_op l P S th w mL_binary [.ref (zp_B P), .int r, .ref (zp_B P + 75)] mM_binary [.ref (zp_B P + 67), .int r] zj_l := by
  by_cases hr : zs_ir r
  · obtain ⟨i, hi, rfl⟩ := zs_irN hr
    by_cases h2 : mz_good (zs_re S i)
    · exact ⟨0, S, w, _, by decide, hI, zj_w0 w, fun o => ⟨_, ⟨_, rfl, fun _ => rfl⟩, zl_binary (d := 3) hi (hI.1 i hi) h2, zm_binary (d := 6) hi (hI.1 i hi) h2⟩⟩
    · exact ⟨2, S, (w.1 + 1, w.2 + 6), _, by decide, hI, zj_w1 w, fun o => ⟨o, ⟨_, rfl, fun h => absurd h (by decide)⟩, zl_binaryY (d := 2) htr hi (hI.1 i hi) h2, zm_binaryY (d := 6) hi (hI.1 i hi) h2⟩⟩
  · exact ⟨1, S, (w.1 + 1, w.2 + 6), _, by decide, hI, zj_w1 w, fun o => ⟨o, ⟨_, rfl, fun h => absurd h (by decide)⟩, zl_binaryX (d := 2) htr hr, zm_binaryX (d := 6) hr⟩⟩
theorem zj_work (htr : l.stackTraces = false) (hI : zs_inv S) (q x y z : Int32) : zj_op l P S th w mL_work [.ref (zp_B P), .int q, .int x, .int y, .int z] mM_work [.ref (zp_B P + 67), .int q, .int x, .int y, .int z] zj_n := by
  by_cases hr : zs_ir x ∧ zs_ir y ∧ zs_ir z
  · obtain ⟨e, he, rfl⟩ := zs_irN hr.1
    obtain ⟨a, ha, rfl⟩ := zs_irN hr.2.1
    obtain ⟨b, hb, rfl⟩ := zs_irN hr.2.2
    by_cases h2 : 0 ≤ q.toInt ∧ q.toInt ≤ 3
    · obtain ⟨p, hp, rfl⟩ := zs_nof (n := 4) (x := q) h2.1 (by omega) (by decide)
      exact ⟨0, zs_scmb S p e a b, w, none, by decide, zs_inv_cmb hI, zj_w0 w, fun o => ⟨o, rfl, zl_work (d := 3) hp he ha hb hI, zm_work (d := 6) hp he ha hb hI⟩⟩
    · exact ⟨2, S, (w.1 + 1, w.2 + 6), none, by decide, hI, zj_w1 w, fun o => ⟨o, rfl, zl_workY (d := 2) htr h2 he ha hb, zm_workY (d := 6) h2 he ha hb⟩⟩
  · exact ⟨1, S, (w.1 + 1, w.2 + 6), none, by decide, hI, zj_w1 w, fun o => ⟨o, rfl, zl_workX (d := 2) htr hr, zm_workX (d := 6) hr⟩⟩
theorem zj_compare (htr : l.stackTraces = false) (hI : zs_inv S) (x y : Int32) : zj_op l P S th w mL_compare [.ref (zp_B P), .int x, .int y, .ref (zp_B P + 75)] mM_compare [.ref (zp_B P + 67), .int x, .int y] zj_i := by
  by_cases hr : zs_ir x ∧ zs_ir y
  · obtain ⟨a, ha, rfl⟩ := zs_irN hr.1
    obtain ⟨b, hb, rfl⟩ := zs_irN hr.2
    exact ⟨0, S, w, _, by decide, hI, zj_w0 w, fun o => ⟨_, ⟨_, rfl, fun _ => rfl⟩, zl_compare (d := 3) ha hb hI, zm_compare (d := 6) ha hb hI⟩⟩
  · exact ⟨1, S, (w.1 + 1, w.2 + 6), _, by decide, hI, zj_w1 w, fun o => ⟨o, ⟨_, rfl, fun h => absurd h (by decide)⟩, zl_compareX (d := 2) htr hr, zm_compareX (d := 6) hr⟩⟩
theorem zj_scale (htr : l.stackTraces = false) (hI : zs_inv S) (x y c : Int32) (n : Bool) : zj_op l P S th w mL_scale [.ref (zp_B P), .int x, .int y, .int c, .int (zs_bi n)] mM_scale [.ref (zp_B P + 67), .int x, .int y, .int c, .int (zs_bi n)] zj_n := by
  by_cases hr : zs_ir x ∧ zs_ir y
  · obtain ⟨e, he, rfl⟩ := zs_irN hr.1
    obtain ⟨a, ha, rfl⟩ := zs_irN hr.2
    by_cases h2 : mz_sm c
    · obtain ⟨m, hm, rfl, hp⟩ := zs_smN h2
      exact ⟨0, zs_ssc S e a m n, w, none, by decide, zs_inv_sc hI hm hp, zj_w0 w, fun o => ⟨o, rfl, zl_scale (d := 3) he ha hm h2 hp hI, zm_scale (d := 6) he ha hm h2 hp hI⟩⟩
    · exact ⟨2, S, (w.1 + 1, w.2 + 6), none, by decide, hI, zj_w1 w, fun o => ⟨o, rfl, zl_scaleY (d := 2) htr he ha h2, zm_scaleY (d := 6) he ha h2⟩⟩
  · exact ⟨1, S, (w.1 + 1, w.2 + 6), none, by decide, hI, zj_w1 w, fun o => ⟨o, rfl, zl_scaleX (d := 2) htr hr, zm_scaleX (d := 6) hr⟩⟩
theorem zj_divide (htr : l.stackTraces = false) (hI : zs_inv S) (x y z u : Int32) : zj_op l P S th w mL_divide [.ref (zp_B P), .int x, .int y, .int z, .int u] mM_divide [.ref (zp_B P + 67), .int x, .int y, .int z, .int u] zj_n := by
  by_cases hr : zs_ir x ∧ zs_ir y ∧ zs_ir z ∧ zs_ir u
  · obtain ⟨q, hq, rfl⟩ := zs_irN hr.1
    obtain ⟨r, hr2, rfl⟩ := zs_irN hr.2.1
    obtain ⟨a, ha, rfl⟩ := zs_irN hr.2.2.1
    obtain ⟨b, hb, rfl⟩ := zs_irN hr.2.2.2
    by_cases h2 : mz_val (zs_re S b) = 0
    · exact ⟨2, S, (w.1 + 1, w.2 + 6), none, by decide, hI, zj_w1 w, fun o => ⟨o, rfl, zl_divideY (d := 2) htr hq hr2 ha hb hI h2, zm_divideY (d := 6) hq hr2 ha hb hI h2⟩⟩
    · exact ⟨0, zs_sdv S q r a b, w, none, by decide, zs_inv_put (zs_inv_put hI (mz_td_hr _ (mz_val_hr _)).1) (mz_td_hr _ (mz_val_hr _)).2, zj_w0 w, fun o => ⟨o, rfl, zl_divide (d := 3) hq hr2 ha hb hI h2, zm_divide (d := 6) hq hr2 ha hb hI h2⟩⟩
  · exact ⟨1, S, (w.1 + 1, w.2 + 6), none, by decide, hI, zj_w1 w, fun o => ⟨o, rfl, zl_divideX (d := 2) htr hr, zm_divideX (d := 6) hr⟩⟩
theorem zj_channel (htr : l.stackTraces = false) (hI : zs_inv S) (x y : Int32) : zj_op l P S th w mL_channel [.ref (zp_B P), .int x, .int y, .ref (zp_B P + 75)] mM_channel [.ref (zp_B P + 67), .int x, .int y] zj_i := by
  by_cases hr : zs_ir x ∧ zs_ch y
  · obtain ⟨i, hi, rfl⟩ := zs_irN hr.1
    obtain ⟨k, hk, rfl⟩ := zs_chN hr.2
    exact ⟨0, S, w, _, by decide, hI, zj_w0 w, fun o => ⟨_, ⟨_, rfl, fun _ => rfl⟩, zl_channel (d := 3) hi hk, zm_channel (d := 6) hi hk⟩⟩
  · exact ⟨1, S, (w.1 + 1, w.2 + 6), _, by decide, hI, zj_w1 w, fun o => ⟨o, ⟨_, rfl, fun h => absurd h (by decide)⟩, zl_channelX (d := 2) htr hr, zm_channelX (d := 6) hr⟩⟩
theorem zj_inject (htr : l.stackTraces = false) (hI : zs_inv S) (x y z : Int32) : zj_op l P S th w mL_inject [.ref (zp_B P), .int x, .int y, .int z, .ref (zp_B P + 75)] mM_inject [.ref (zp_B P + 67), .int x, .int y, .int z] zj_i := by
  by_cases hr : zs_ir x ∧ zs_ch y
  · obtain ⟨i, hi, rfl⟩ := zs_irN hr.1
    obtain ⟨k, hk, rfl⟩ := zs_chN hr.2
    exact ⟨0, zs_sre S i k (mz_sh (zs_re S i k) z k), w, _, by decide, zs_inv_re hI (Nat.mod_lt _ (mz_m_lt k).2), zj_w0 w, fun o => ⟨_, ⟨_, rfl, fun _ => rfl⟩, zl_inject (d := 3) hi hk hI, zm_inject (d := 6) hi hk hI⟩⟩
  · exact ⟨1, S, (w.1 + 1, w.2 + 6), _, by decide, hI, zj_w1 w, fun o => ⟨o, ⟨_, rfl, fun h => absurd h (by decide)⟩, zl_injectX (d := 2) htr hr, zm_injectX (d := 6) hr⟩⟩
theorem zj_verify (htr : l.stackTraces = false) (hI : zs_inv S) (x : Int32) : zj_op l P S th w mL_verify [.ref (zp_B P), .int x, .ref (zp_B P + 75)] mM_verify [.ref (zp_B P + 67), .int x] zj_i := by
  by_cases hr : zs_ir x
  · obtain ⟨i, hi, rfl⟩ := zs_irN hr
    exact ⟨0, S, w, _, by decide, hI, zj_w0 w, fun o => ⟨_, ⟨_, rfl, fun _ => rfl⟩, zl_verify (d := 3) hi hI, zm_verify (d := 6) hi hI⟩⟩
  · exact ⟨1, S, (w.1 + 1, w.2 + 6), _, by decide, hI, zj_w1 w, fun o => ⟨o, ⟨_, rfl, fun h => absurd h (by decide)⟩, zl_verifyX (d := 2) htr hr, zm_verifyX (d := 6) hr⟩⟩
theorem zs_inv_rp {i : Nat} (hI : zs_inv S) : zs_inv (zs_srp S i) := by
  unfold zs_srp
  split
  · exact hI
  · exact zs_inv_re hI (mz_ht_lt _ _)
theorem zj_repair (htr : l.stackTraces = false) (hI : zs_inv S) (x : Int32) : zj_op l P S th w mL_repair [.ref (zp_B P), .int x, .ref (zp_B P + 75)] mM_repair [.ref (zp_B P + 67), .int x] zj_i := by
  by_cases hr : zs_ir x
  · obtain ⟨i, hi, rfl⟩ := zs_irN hr
    by_cases h2 : mz_fault (zs_re S i) = 9
    · exact ⟨2, S, (w.1 + 1, w.2 + 6), _, by decide, hI, zj_w1 w, fun o => ⟨o, ⟨_, rfl, fun h => absurd h (by decide)⟩, zl_repairY (d := 2) htr hi hI h2, zm_repairY (d := 6) hi hI h2⟩⟩
    · exact ⟨0, zs_srp S i, w, _, by decide, zs_inv_rp hI, zj_w0 w, fun o => ⟨_, ⟨_, rfl, fun _ => rfl⟩, zl_repair (d := 3) hi hI h2, zm_repair (d := 6) hi hI h2⟩⟩
  · exact ⟨1, S, (w.1 + 1, w.2 + 6), _, by decide, hI, zj_w1 w, fun o => ⟨o, ⟨_, rfl, fun h => absurd h (by decide)⟩, zl_repairX (d := 2) htr hr, zm_repairX (d := 6) hr⟩⟩
theorem zj_sure (htr : l.stackTraces = false) (hI : zs_inv S) (x : Int32) : zj_op l P S th w mL_sure [.ref (zp_B P), .int x, .ref (zp_B P + 75)] mM_sure [.ref (zp_B P + 67), .int x] zj_z := by
  by_cases hr : zs_ir x
  · obtain ⟨i, hi, rfl⟩ := zs_irN hr
    exact ⟨0, S, w, _, by decide, hI, zj_w0 w, fun o => ⟨_, ⟨zs_su S i, rfl, fun _ => rfl⟩, zl_sure (d := 3) hi, zm_sure (d := 6) hi⟩⟩
  · exact ⟨1, S, (w.1 + 1, w.2 + 6), _, by decide, hI, zj_w1 w, fun o => ⟨o, ⟨false, rfl, fun h => absurd h (by decide)⟩, zl_sureX (d := 2) htr hr, zm_sureX (d := 6) hr⟩⟩
theorem zj_bound (htr : l.stackTraces = false) (hI : zs_inv S) (x n : Int32) : zj_op l P S th w mL_bound [.ref (zp_B P), .int x, .int n, .ref (zp_B P + 75)] mM_bound [.ref (zp_B P + 67), .int x, .int n] zj_l := by
  by_cases hr : zs_ir x
  · obtain ⟨i, hi, rfl⟩ := zs_irN hr
    by_cases h2 : n = 0 ∨ n = 1
    · obtain ⟨m, hm, rfl⟩ : ∃ m : Nat, m < 2 ∧ n = nI m := by
        rcases h2 with h2 | h2
        · exact ⟨0, by decide, h2⟩
        · exact ⟨1, by decide, h2⟩
      cases hs : zs_su S i with
      | true =>
        exact ⟨0, S, w, _, by decide, hI, zj_w0 w, fun o => ⟨_, ⟨_, rfl, fun _ => rfl⟩, zl_bound (d := 3) hi hm hs, zm_bound (d := 6) hi hm hs⟩⟩
      | false =>
        exact ⟨3, S, (w.1 + 1, w.2 + 6), _, by decide, hI, zj_w1 w, fun o => ⟨o, ⟨_, rfl, fun h => absurd h (by decide)⟩, zl_boundZ (d := 2) htr hi hm hs, zm_boundZ (d := 6) hi hm hs⟩⟩
    · exact ⟨2, S, (w.1 + 1, w.2 + 6), _, by decide, hI, zj_w1 w, fun o => ⟨o, ⟨_, rfl, fun h => absurd h (by decide)⟩, zl_boundY (d := 2) htr hi h2, zm_boundY (d := 6) hi h2⟩⟩
  · exact ⟨1, S, (w.1 + 1, w.2 + 6), _, by decide, hI, zj_w1 w, fun o => ⟨o, ⟨_, rfl, fun h => absurd h (by decide)⟩, zl_boundX (d := 2) htr hr, zm_boundX (d := 6) hr⟩⟩
theorem zj_instruct (htr : l.stackTraces = false) (hI : zs_inv S) (r x y z u : Int32) : zj_op l P S th w mL_instruct [.ref (zp_B P), .int r, .int x, .int y, .int z, .int u] mM_instruct [.ref (zp_B P + 67), .int r, .int x, .int y, .int z, .int u] zj_n := by
  by_cases hr : zs_ii r
  · cases h2 : zs_alw x y z u with
    | true =>
      obtain ⟨i, hi, rfl⟩ := zs_iiN hr
      exact ⟨0, zs_sins S i x y z u, w, none, by decide, zs_inv_ins hI h2, zj_w0 w, fun o => ⟨o, rfl, zl_instruct (d := 3) hi h2, zm_instruct (d := 6) hi h2⟩⟩
    | false =>
      exact ⟨2, S, (w.1 + 1, w.2 + 6), none, by decide, hI, zj_w1 w, fun o => ⟨o, rfl, zl_instructY (d := 2) htr hr h2, zm_instructY (d := 6) hr h2⟩⟩
  · exact ⟨1, S, (w.1 + 1, w.2 + 6), none, by decide, hI, zj_w1 w, fun o => ⟨o, rfl, zl_instructX (d := 2) htr hr, zm_instructX (d := 6) hr⟩⟩
theorem zj_run (htr : l.stackTraces = false) (hI : zs_inv S) (f : Int32) : zj_op l P S th w mL_run [.ref (zp_B P), .int f, .ref (zp_B P + 75)] mM_run [.ref (zp_B P + 67), .int f] zj_i := by
  by_cases hr : 0 ≤ f.toInt ∧ f.toInt ≤ 2000
  · obtain ⟨n, hn, rfl⟩ := zs_nof (n := 2001) (x := f) hr.1 (by omega) (by decide)
    exact ⟨0, zs_srun S n, w, _, by decide, zs_inv_run hI, zj_w0 w, fun o => ⟨_, ⟨_, rfl, fun _ => rfl⟩, zl_run (d := 3) (by omega) hI, zm_run (d := 6) (by omega) hI⟩⟩
  · exact ⟨1, S, (w.1 + 1, w.2 + 6), _, by decide, hI, zj_w1 w, fun o => ⟨o, ⟨_, rfl, fun h => absurd h (by decide)⟩, zl_runX (d := 2) htr hr, zm_runX (d := 6) hr⟩⟩
end ZM22
