theorem zv_env {args : Array Value} {s : State} {b L : Nat} {xs : Nat → Int32} (h : ∀ w ∈ lw_tbl, w.before args s = true) (hX : va_X b L xs s s.heap) (hL : L < 2 ^ 31) (hg : (Jvm.Cond.and given_1 narrow_1).before args s = true) : ∃ P : zs_P, zp_B P = s.heap.size ∧ zp_b P = b ∧ zp_L P = L ∧ zg_env (zs_E P) s s.heap := by
  obtain ⟨D, ca, hK⟩ := zv_K h
  obtain ⟨tM, eM, hM⟩ := zv_tM hg
  obtain ⟨tW, eW, hTW⟩ := zv_tW hg
  obtain ⟨tV, eV, hV⟩ := zv_tV hg
  obtain ⟨q, hq⟩ := zv_tx h
  have hnc := zv_nc hg
  have hfl := flat_of_before _ hg
  have hA : ∀ a : Nat, a < s.heap.size → ¬ s.heap.size ≤ a := fun a ha => by omega
  have iU : (Cond.initialized "ResidueUnit").before args s = true := h _ (zv_in 1 (by decide +kernel))
  have iT : (Cond.initialized "java/lang/Throwable").before args s = true := h _ (zv_in 5 (by decide +kernel))
  have zM := va_Zref (A := fun q => s.heap.size ≤ q) (h (Cond.laysStatic "ResidueUnit" "MODULI" "[I") (zv_in 198 (by decide +kernel))) iU eM hA
  have zW := va_Zref (A := fun q => s.heap.size ≤ q) (h (Cond.laysStatic "ResidueUnit" "WEIGHTS" "[J") (zv_in 219 (by decide +kernel))) iU eW hA
  have zV := va_Zref (A := fun q => s.heap.size ≤ q) (h (Cond.laysStatic "ResidueUnit" "WITNESS_INVERSES" "[I") (zv_in 377 (by decide +kernel))) iU eV hA
  have l1w := h (Cond.laysStatic "java/lang/Throwable" "UNASSIGNED_STACK" "[Ljava/lang/StackTraceElement;") (zv_in 127 (by decide +kernel))
  have l2w := h (Cond.laysStatic "java/lang/Throwable" "SUPPRESSED_SENTINEL" "Ljava/util/List;") (zv_in 129 (by decide +kernel))
  have l1 := zv_L_of l1w
  have l2 := zv_L_of l2w
  have r1 := va_Zqof (A := fun q => s.heap.size ≤ q) l1w iT (hfl _ (by decide +kernel)) hA
  have r2 := va_Zqof (A := fun q => s.heap.size ≤ q) l2w iT (hfl _ (by decide +kernel)) hA
  obtain ⟨scr, x1, x2, x3, x4, x5⟩ := hX
  have hbl : b < s.heap.size := (Array.getElem?_eq_some_iff.mp x1).1
  have hS : va_T .int b L (fun j => .int (xs j)) (fun q => s.heap.size ≤ q) s s.heap := ⟨scr, x1, x2, x3, by omega, by rw [x4], x5, hA b hbl⟩
  refine ⟨(D, ca, s.heap.size, (tM, tW, tV), q, b, L, xs), rfl, rfl, rfl, ?_⟩
  intro V H' hW hH
  have hal := hW.alike
  have hkp : ∀ a : Nat, a < s.heap.size → ¬ s.heap.size ≤ a → H'[a]? = s.heap[a]? := fun a ha _ => hH a ha
  refine ⟨zv_words h hW, va_K.moved hal hK, ?_⟩
  refine ⟨⟨va_Z.moved hal (zM.kept hkp), va_T.moved hal (hM.kept hkp)⟩, ⟨va_Z.moved hal (zW.kept hkp), va_T.moved hal (hTW.kept hkp)⟩, ⟨va_Z.moved hal (zV.kept hkp), va_T.moved hal (hV.kept hkp)⟩, va_T.moved hal (hS.kept hkp), fun x hx => vk_R.warm hW (hq x hx), fun x hx => va_Nc.moved hal (hnc x hx), fun hVH => ?_⟩
  have m1 := va_Zq.moved hal (r1.kept hkp)
  have m2 := va_Zq.moved hal (r2.kept hkp)
  have m3 := zv_L_to l1 hal hH
  have m4 := zv_L_to l2 hal hH
  rw [← hVH] at m1 m2 m3 m4
  exact List.forall_mem_cons.mpr ⟨fun _ => zv_isRefq m1, List.forall_mem_cons.mpr ⟨fun _ => zv_isRefq m2, List.forall_mem_cons.mpr ⟨fun _ => zv_L_w m3, List.forall_mem_cons.mpr ⟨fun _ => zv_L_w m4, fun _ h => absurd h List.not_mem_nil⟩⟩⟩⟩
