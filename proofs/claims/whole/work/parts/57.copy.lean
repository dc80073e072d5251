theorem zs_fb (b : Bool) : fits .boolean (.int (zs_bi b)) = true := by cases b <;> rfl
section ZM8
variable {l : Launch} {E : zg_E} {d : Nat} {M : zg_M} {pc : Nat} {lv : List (Nat × Value)} {σ : zg_H} {r : zg_R}
theorem zg_acopy {index a0 a t0 N : Nat} {c0 : ClassId} {f g : Nat → Int32} {z n : Int32} {σ2 : zg_H} (hdg : decode (zg_cc M) pc = .ok (.invokestatic index, 3)) (hlink : Cond.methodLink (zg_my M).cls index arraycopyName ∈ zg_ws E) (hnat : Cond.native arraycopyName ∈ zg_ws E) (hstat : Cond.static arraycopyName ∈ zg_ws E) (hini : Cond.initialized "java/lang/System" ∈ zg_ws E)
    (ha0 : σ.1 a0 = some (.inl (c0, N, .inl f))) (ha1 : σ.1 a = some (.inl (c0, N, .inl g))) (ht : (zg_ty E)[t0]? = some (c0, .int)) (hz : z = nI 0) (hn : n = nI N) (hN : N < 2 ^ 31) (hd : 1 ≤ d) (hw : nativeFrameWords "java/lang/System" "arraycopy" 5 + 11 ≤ 36) (h2 : zg_up σ a (.inl (c0, N, .inl (va_cpy f g 0 0 N))) = σ2) (kk : zg_G l E d M (pc + 3) lv [] σ2 r) :
    zg_G l E d M pc lv [.int n, .int z, .ref a, .int z, .ref a0] σ r := by
  subst h2 hn hz
  refine ⟨kk.1, kk.2.1, ?_⟩
  intro p e R s m args below meth c H locs cells slots ls u0 mc ms hm1 hm2 hc h1 h2 h3 h4 h5 h6 h7 h8
  obtain ⟨b1, b2, b3⟩ := hc.2.2.2.2.2.2.2.1.here
  have hts : ∀ w ∈ zg_ws E, w.before args s = true := fun w hw => b1 w hw args
  have hfr : d ≤ R.frames := hc.2.2.2.2.2.2.2.2.2.1
  have hlo : 36 * d ≤ R.locals := hc.2.2.2.2.2.2.2.2.2.2.1
  have hc0 : H[a0]? = some (vp_cell c0 (N, .inl f)) := (h5.2.2 a0 _ ha0).1
  have hc1 : H[a]? = some (vp_cell c0 (N, .inl g)) := (h5.2.2 a _ ha1).1
  have hNc : (nI N).toNatClampNeg = N := nI_clamp hN
  have hNi : (nI N).toInt = (N : Int) := nI_toInt hN
  intro T hT X
  obtain ⟨-, k0, hk0, cm0, hkk0⟩ := (b2.2 t0 _ ht).1 N (fun j => .int (f j))
  obtain ⟨-, k1, hk1, cm1, hkk1⟩ := (b2.2 t0 _ ht).1 N (fun j => .int (g j))
  obtain ⟨vm', X', step⟩ := X.arraycopy hc.1 hc.2.2.2.2.1 (hts _ hlink) (hts _ hnat) (hts _ hstat) (hts _ hini) (src := a0) (dst := a) (cs := vp_cell c0 (N, .inl f)) (cd := vp_cell c0 (N, .inl g)) (srcPos := nI 0) (destPos := nI 0) (n := nI N) (by rw [hT]; exact hc0) (by rw [hT]; exact hc1)
    (fun _ h => by cases h) (fun _ h => by cases h) (fun h => by cases h) (fun h => by cases h) hk0 hk1 hkk0 hkk1 (show (refKind .int != refKind .int || !refKind .int && FieldType.int != FieldType.int) = false by decide) (by decide) (by decide) (nI_pos hN)
    (by rw [hNi]; show ¬ _ > ((arrV c0 N (fun j => .int (f j))).slots.size : Int); rw [arrV_size]; show ¬ (0 + (N : Int) > N); omega)
    (by rw [hNi]; show ¬ _ > ((arrV c0 N (fun j => .int (g j))).slots.size : Int); rw [arrV_size]; show ¬ (0 + (N : Int) > N); omega)
    (fun vm₁ _ i hi => by
      have hi : i < N := by rw [hNc] at hi; exact hi
      have e : (vp_cell c0 (N, .inl f)).slots.getD (0 + i) .null = .int (f (0 + i)) := by
        show (arrV c0 N (fun j => .int (f j))).slots.getD _ _ = _
        rw [Array.getD_eq_getD_getElem?, arrV_read _ _ (by omega)]
        rfl
      refine ⟨?_, ?_⟩
      · show fits _ ((vp_cell c0 (N, .inl f)).slots.getD (0 + i) .null) = true
        rw [e]
        rfl
      · show _
        erw [e]
        exact trivial)
    (g := F0 m pc ls [.int (nI N), .int (nI 0), .ref a, .int (nI 0), .ref a0]) rfl (by rw [hc.2.2.1]; exact h8.1) (rest := []) rfl (by rw [hc.2.1]; exact hdg) (by omega) (by show 2 * 0 + 0 + (nativeFrameWords "java/lang/System" "arraycopy" 5 + 11) ≤ _; omega)
  have e1 : copied (vp_cell c0 (N, .inl f)) (vp_cell c0 (N, .inl g)) (nI 0) (nI 0) (nI N) = vp_cell c0 (N, .inl (va_cpy f g 0 0 N)) := by
    have := va_copied (fun z => .int z) c0 c0 (n0 := N) (n1 := N) (sp := 0) (dp := 0) (n := N) f g (by omega)
    show _ = arrV c0 N (fun j => Value.int (va_cpy f g 0 0 N j))
    rw [← this]
    show Cell.storeRun _ (nI 0).toNatClampNeg (Cell.stretch _ (nI 0).toNatClampNeg (nI N).toNatClampNeg) = _
    rw [hNc]
    rfl
  rw [e1] at X' step
  have hl : a < H.size := (Array.getElem?_eq_some_iff.mp hc1).1
  have hheap : ((T.setVm vm').setCell a (vp_cell c0 (N, .inl (va_cpy f g 0 0 N)))).heap = H.setIfInBounds a (vp_cell c0 (N, .inl (va_cpy f g 0 0 N))) := by rw [← hT]; rfl
  have oq : ∀ q : Nat, q ≠ a → (H.setIfInBounds a (vp_cell c0 (N, .inl (va_cpy f g 0 0 N))))[q]? = H[q]? := fun q hq => by simp [Array.getElem?_setIfInBounds, Ne.symm hq]
  have he : va_at (zg_D E) (zg_cl E) (a, .inl (c0, N, .inl (va_cpy f g 0 0 N))) (H.setIfInBounds a (vp_cell c0 (N, .inl (va_cpy f g 0 0 N)))) := by
    show (H.setIfInBounds a _)[a]? = some (vp_cell _ _)
    simp [Array.getElem?_setIfInBounds, hl]
  obtain ⟨t, a1, b1⟩ := kk.2.2 p e R s m args below meth c _ _ cells slots ls u0 mc ms hm1 hm2 hc h1 h2 h3 h4 (zg_rep_up h5 ha1 (by simp) oq he) (zg_old_up h5 ha1 oq h6) (fun x hx => by
      rcases List.mem_append.mp hx with h | h
      · exact h7 x h
      · obtain ⟨z, -, hz⟩ := List.mem_map.mp h
        rw [← hz]
        exact (h5.2.2 a _ ha1).2) h8 _ hheap X'
  exact ⟨t, step t a1, b1⟩
end ZM8
def zs_scp (S : zs_S) (i j : Nat) : zs_S := zs_ssu (zs_sex (S.1, S.2.1, fun q t => if q = i ∧ t < 8 then zs_re S j t else zs_re S q t, zs_ex S, zs_su S, zs_pg S) i (zs_ex S j)) i (zs_su S j)
section ZM8b
variable {l : Launch} {P : zs_P} {d : Nat} {S : zs_S} {S2 : zs_S2} {th : Int32} {o : Int64} {w : Nat × Nat} {i j : Nat}
theorem zs_up_cp (hi : i < 16) : zg_up (zs_σ P S th S2 o w) (zp_B P + 4 + 2 * i) (.inl (zp_ca P 0, 8, .inl (va_cpy (fun t => nI (zs_re S j t)) (fun t => nI (zs_re S i t)) 0 0 8))) = zs_σ P (S.1, S.2.1, fun q t => if q = i ∧ t < 8 then zs_re S j t else zs_re S q t, zs_ex S, zs_su S, zs_pg S) th S2 o w := by
  refine zs_put ?_ ?_
  · rw [zs_res hi]
    congr 4
    refine congrArg Sum.inl (funext fun t => ?_)
    show nI (if i = i ∧ t < 8 then zs_re S j t else zs_re S i t) = if 0 ≤ t ∧ t < 0 + 8 then nI (zs_re S j (0 + (t - 0))) else nI (zs_re S i t)
    by_cases ht : t < 8
    · rw [if_pos ⟨rfl, ht⟩, if_pos ⟨Nat.zero_le _, by omega⟩, show 0 + (t - 0) = t by omega]
    · rw [if_neg (fun h => ht h.2), if_neg (fun h => ht (by omega))]
  · rw [show zp_B P + 4 + 2 * i = zp_B P + (4 + 2 * i) by omega]
    refine zs_hp_u fun n hn => ?_
    unfold zs_uc
    by_cases h0 : n = 0
    · rw [if_pos h0, if_pos h0]
    rw [if_neg h0, if_neg h0]
    by_cases h1 : n = 1
    · rw [if_pos h1, if_pos h1]
    rw [if_neg h1, if_neg h1]
    by_cases h2 : n = 2
    · rw [if_pos h2, if_pos h2]
    rw [if_neg h2, if_neg h2]
    by_cases h3 : n < 35
    · rw [if_pos h3, if_pos h3]
      by_cases h4 : n % 2 = 1
      · rw [if_pos h4, if_pos h4]
      · rw [if_neg h4, if_neg h4]
        congr 4
        refine congrArg Sum.inl (funext fun t => ?_)
        show nI (if (n - 4) / 2 = i ∧ t < 8 then zs_re S j t else zs_re S ((n - 4) / 2) t) = _
        rw [if_neg (fun h => hn (by have := h.1; omega))]
    · rw [if_neg h3, if_neg h3]
theorem zr_copyFrom (hi : i < 16) (hj : j < 16) : zg_C l (zs_E P) (d + 1) mR_copyFrom [.ref (zp_B P + 3 + 2 * i), .ref (zp_B P + 3 + 2 * j)] (zs_σ P S th S2 o w) (.inl none, zs_σ P (zs_scp S i j) th S2 o w) := by
  refine zg_C_of (by decide +kernel) (Nat.le_of_ble_eq_true rfl) ?_
  refine zg_aload_n (zd_t dmR_copyFrom 0 rfl) rfl ?_
  refine zg_getf (zd_t dmR_copyFrom 1 rfl) zf_R_9 (zs_reg hj) rfl ?_
  refine zg_iconst (v := (nI 0)) (zd_t dmR_copyFrom 2 rfl) (by decide) ?_
  refine zg_aload_n (zd_t dmR_copyFrom 3 rfl) rfl ?_
  refine zg_getf (zd_t dmR_copyFrom 4 rfl) zf_R_9 (zs_reg hi) rfl ?_
  refine zg_iconst (v := (nI 0)) (zd_t dmR_copyFrom 5 rfl) (by decide) ?_
  refine zg_bipush (v := (nI 8)) (zd_t dmR_copyFrom 6 rfl) (by decide) ?_
  refine zg_acopy (t0 := 0) (N := 8) (zd_t dmR_copyFrom 7 rfl) (zs_in 445 (by decide +kernel) (by decide +kernel)) (zs_in 447 (by decide +kernel) (by decide +kernel)) (zs_in 446 (by decide +kernel) (by decide +kernel)) (zs_in 14 (by decide +kernel) (by decide +kernel)) (zs_res hj) (zs_res hi) rfl rfl rfl (by decide) (by omega) (by decide +kernel) (zs_up_cp hi) ?_
  refine zg_aload_n (zd_t dmR_copyFrom 8 rfl) rfl ?_
  refine zg_aload_n (zd_t dmR_copyFrom 9 rfl) rfl ?_
  refine zg_getf (zd_t dmR_copyFrom 10 rfl) zf_R_15 (zs_reg hj) rfl ?_
  refine zg_putf (zd_t dmR_copyFrom 11 rfl) zf_R_15 zt_1_1 (zs_reg hi) (Nat.le_of_ble_eq_true rfl) rfl rfl (zs_up_ex (v := zs_ex S j) hi) ?_
  refine zg_aload_n (zd_t dmR_copyFrom 12 rfl) rfl ?_
  refine zg_aload_n (zd_t dmR_copyFrom 13 rfl) rfl ?_
  refine zg_getf (zd_t dmR_copyFrom 14 rfl) zf_R_19 (zs_reg hj) rfl ?_
  refine zg_putf (zd_t dmR_copyFrom 15 rfl) zf_R_19 zt_1_2 (zs_reg hi) (Nat.le_of_ble_eq_true rfl) (zs_nb _) (zs_fb _) (zs_up_su (b := zs_su S j) hi) ?_
  exact zg_vret (zd_t dmR_copyFrom 16 rfl) rfl rfl
end ZM8b
