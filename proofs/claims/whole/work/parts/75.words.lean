/-! what holds at the law's entry, and stays -/
theorem zv_words {args : Array Value} {s V : State} (h : ∀ w ∈ lw_tbl, w.before args s = true) (hW : s.WarmedH V.vm) : ∀ w ∈ zs_ws, ∀ a : Array Value, w.before a V = true := by
  intro w hw a
  obtain ⟨h1, h2⟩ := List.mem_filter.mp hw
  have h3 := h w h1
  by_cases hg : goodWord w = true
  · exact word_at hW (good_of_word hg) h3
  · by_cases hf : (w.onTables && w.faceAtom) = true
    · rw [Bool.and_eq_true] at hf
      show w.before a (V.setVm V.vm) = true
      rw [Cond.onTables_vm (A' := args) (U' := s) V.vm _ hf.1]
      exact Cond.faceAtom_setVm hW.alike _ hf.2 h3
    · have hgf : goodWord w = false := by
        cases hq : goodWord w
        · rfl
        · exact absurd hq hg
      have hff : (w.onTables && w.faceAtom) = false := by
        cases hq : (w.onTables && w.faceAtom)
        · rfl
        · exact absurd hq hf
      cases w with
      | methodLinkNest x1 x2 x3 x4 => exact va_Nw.warmM hW h3
      | fieldLinkNest x1 x2 x3 x4 x5 x6 => exact va_Nw.warmF hW h3
      | arrayOver t =>
        cases t with
        | object C => exact (va_AO.moved hW.alike (va_AO.of h3)).use
        | _ => simp [zs_gw, hgf, hff] at h2
      | _ => simp [zs_gw, hgf, hff] at h2
/-- where a static field lies -/
def zv_L (C n d : String) (B : Nat) (U : State) (H : Heap) : Prop := ∃ (c : ClassId) (k : Class) (i : Nat) (f : Field) (a : Nat) (cell : Cell), U.vm.findClass C = some c ∧ U.fieldFound? C n d = some (c, k, i, f) ∧ f.isStatic = true ∧ k.statics = some a ∧ H[a]? = some cell ∧ cell.vm.isStatics = true ∧ cell.cls = c ∧ f.slot < cell.slots.size ∧ k.staticTypes[f.slot]? = some f.type ∧ a < B
theorem zv_L_of {args : Array Value} {C n d : String} {s : State} (h : (Cond.laysStatic C n d).before args s = true) : zv_L C n d s.heap.size s s.heap := by
  obtain ⟨c, k, i, f, a, cell, h1, h2, h3, h4, h5, h6, h7, h8, h9⟩ := Cond.laysStatic_spec h
  exact ⟨c, k, i, f, a, cell, h1, h2, h3, h4, h5, h6, h7, h8, h9, (Array.getElem?_eq_some_iff.mp h5).1⟩
theorem zv_L_to {C n d : String} {B : Nat} {s V : State} {H H' : Heap} (h : zv_L C n d B s H) (hvm : s.vm.Alike V.vm) (hH : ∀ q : Nat, q < B → H'[q]? = H[q]?) : zv_L C n d B V H' := by
  obtain ⟨c, k, i, f, a, cell, h1, h2, h3, h4, h5, h6, h7, h8, h9, h10⟩ := h
  obtain ⟨k', hi', he⟩ := State.fieldFound?_setVm hvm h2
  exact ⟨c, k', i, f, a, cell, by rw [hvm.findClass]; exact h1, hi', h3, by rw [he]; exact h4, by rw [hH a h10]; exact h5, h6, h7, h8, by rw [he]; exact h9, h10⟩
theorem zv_L_w {C n d : String} {B : Nat} {V : State} {args : Array Value} (h : zv_L C n d B V V.heap) : (Cond.laysStatic C n d).before args V = true := by
  obtain ⟨c, k, i, f, a, cell, h1, h2, h3, h4, h5, h6, h7, h8, h9, -⟩ := h
  show (Cond.laysStatic C n d).holds args V none V [] = true
  exact Cond.laysStatic_of h1 h2 h3 h4 h5 h6 h7 h8 h9
theorem zv_isRef {C n d : String} {v : Value} {A : Nat → Prop} {s : State} {args : Array Value} (h : va_Z C n d v A s s.heap) (hv : v.isRef = true) : (Cond.isRef (.static C n d)).before args s = true := by
  obtain ⟨cf, kf, fi, f, a, cell, h1, h2, h3, h4, h5, h6, h7, -⟩ := h
  have he : (Term.static C n d).eval args s none [] s = some v := by
    simp [Term.eval, State.fieldNamed?, h1, h2, h4, h5, h6, h7]
  simp only [Cond.before, Cond.holds, Cond.value, he]
  cases v <;> simp_all [Value.isRef]
theorem zv_isRefq {C n d : String} {A : Nat → Prop} {s : State} {args : Array Value} (h : va_Zq C n d A s s.heap) : (Cond.isRef (.static C n d)).before args s = true := by
  rcases h with h | ⟨t, h⟩
  · exact zv_isRef h rfl
  · exact zv_isRef h rfl
theorem zv_in {w : Cond} (i : Nat) (h : tables_1[i]? = some w) : w ∈ lw_tbl := List.mem_append_right _ (List.mem_of_getElem? h)
section ZM25
variable {args : Array Value} {s : State}
theorem zv_tM (hs : (Jvm.Cond.and given_1 narrow_1).before args s = true) : ∃ t : Nat, (Term.static "ResidueUnit" "MODULI" "[I").eval args s none [] s = some (.ref t) ∧ va_T .int t 8 (fun j => .int (nI (mz_m j))) (fun q => s.heap.size ≤ q) s s.heap := by
  have hs := flat_of_before _ hs
  refine va_Tof (by decide) (hs _ (by decide +kernel)) (va_eqt (hs _ (by decide +kernel))) (fun j hj => ?_) (fun a ha => by omega)
  · skip
    rcases (by omega : j = 0 ∨ j = 1 ∨ j = 2 ∨ j = 3 ∨ j = 4 ∨ j = 5 ∨ j = 6 ∨ j = 7) with rfl | rfl | rfl | rfl | rfl | rfl | rfl | rfl
    · exact va_eqt (z := nI (mz_m 0)) (hs _ (by decide +kernel))
    · exact va_eqt (z := nI (mz_m 1)) (hs _ (by decide +kernel))
    · exact va_eqt (z := nI (mz_m 2)) (hs _ (by decide +kernel))
    · exact va_eqt (z := nI (mz_m 3)) (hs _ (by decide +kernel))
    · exact va_eqt (z := nI (mz_m 4)) (hs _ (by decide +kernel))
    · exact va_eqt (z := nI (mz_m 5)) (hs _ (by decide +kernel))
    · exact va_eqt (z := nI (mz_m 6)) (hs _ (by decide +kernel))
    · exact va_eqt (z := nI (mz_m 7)) (hs _ (by decide +kernel))
theorem zv_tW (hs : (Jvm.Cond.and given_1 narrow_1).before args s = true) : ∃ t : Nat, (Term.static "ResidueUnit" "WEIGHTS" "[J").eval args s none [] s = some (.ref t) ∧ va_T .long t 6 (fun j => .long (mz_L (mz_w j : Int))) (fun q => s.heap.size ≤ q) s s.heap := by
  have hs := flat_of_before _ hs
  refine va_Tof (by decide) (hs _ (by decide +kernel)) (va_eqt (hs _ (by decide +kernel))) (fun j hj => ?_) (fun a ha => by omega)
  · skip
    rcases (by omega : j = 0 ∨ j = 1 ∨ j = 2 ∨ j = 3 ∨ j = 4 ∨ j = 5) with rfl | rfl | rfl | rfl | rfl | rfl
    · exact va_eqtl (z := mz_L (mz_w 0 : Int)) (hs _ (by decide +kernel))
    · exact va_eqtl (z := mz_L (mz_w 1 : Int)) (hs _ (by decide +kernel))
    · exact va_eqtl (z := mz_L (mz_w 2 : Int)) (hs _ (by decide +kernel))
    · exact va_eqtl (z := mz_L (mz_w 3 : Int)) (hs _ (by decide +kernel))
    · exact va_eqtl (z := mz_L (mz_w 4 : Int)) (hs _ (by decide +kernel))
    · exact va_eqtl (z := mz_L (mz_w 5 : Int)) (hs _ (by decide +kernel))
theorem zv_tV (hs : (Jvm.Cond.and given_1 narrow_1).before args s = true) : ∃ t : Nat, (Term.static "ResidueUnit" "WITNESS_INVERSES" "[I").eval args s none [] s = some (.ref t) ∧ va_T .int t 6 (fun j => .int (nI (mz_iv j))) (fun q => s.heap.size ≤ q) s s.heap := by
  have hs := flat_of_before _ hs
  refine va_Tof (by decide) (hs _ (by decide +kernel)) (va_eqt (hs _ (by decide +kernel))) (fun j hj => ?_) (fun a ha => by omega)
  · skip
    rcases (by omega : j = 0 ∨ j = 1 ∨ j = 2 ∨ j = 3 ∨ j = 4 ∨ j = 5) with rfl | rfl | rfl | rfl | rfl | rfl
    · exact va_eqt (z := nI (mz_iv 0)) (hs _ (by decide +kernel))
    · exact va_eqt (z := nI (mz_iv 1)) (hs _ (by decide +kernel))
    · exact va_eqt (z := nI (mz_iv 2)) (hs _ (by decide +kernel))
    · exact va_eqt (z := nI (mz_iv 3)) (hs _ (by decide +kernel))
    · exact va_eqt (z := nI (mz_iv 4)) (hs _ (by decide +kernel))
    · exact va_eqt (z := nI (mz_iv 5)) (hs _ (by decide +kernel))
theorem zv_nc (hs : (Jvm.Cond.and given_1 narrow_1).before args s = true) : ∀ q ∈ zs_nc, va_Nc q.1 q.2 s := by
  have hs := flat_of_before _ hs
  exact List.forall_mem_cons.mpr ⟨va_Nc.of (hs _ (by decide +kernel)), List.forall_mem_cons.mpr ⟨va_Nc.of (hs _ (by decide +kernel)), List.forall_mem_cons.mpr ⟨va_Nc.of (hs _ (by decide +kernel)), List.forall_mem_cons.mpr ⟨va_Nc.of (hs _ (by decide +kernel)), fun _ h => absurd h List.not_mem_nil⟩⟩⟩⟩
theorem zv_txm : ∀ q ∈ zs_tx, Cond.stringRef "ResidueUnit" q.1 q.2 ∈ lw_tbl := by decide +kernel
theorem zv_tx (h : ∀ w ∈ lw_tbl, w.before args s = true) : ∃ q : Nat → Nat, ∀ x ∈ zs_tx, vk_R "ResidueUnit" x.1 x.2 (q x.1) s := by
  obtain ⟨cC, kC, hfc, -⟩ := Cond.instantiable_spec (h (Cond.instantiable "ResidueUnit" 4) (zv_in 16 (by decide +kernel)))
  refine ⟨fun k => match (Term.string "ResidueUnit" k).eval args s none [] s with | some (.ref a) => a | _ => 0, fun x hx => ?_⟩
  have h1 := h _ (zv_txm x hx)
  obtain ⟨k, cf, i, a, -, -, -, -, -, hev⟩ := Cond.stringRef_spec hfc h1
  have e : (match (Term.string "ResidueUnit" x.1).eval args s none [] s with | some (.ref a) => a | _ => 0) = a := by rw [hev]
  show vk_R "ResidueUnit" x.1 x.2 (match (Term.string "ResidueUnit" x.1).eval args s none [] s with | some (.ref a) => a | _ => 0) s
  rw [e]
  exact vk_R.of h1 hev
theorem zv_ac {ty : FieldType} (hno : ∀ C, ty ≠ .object C) (h : (Cond.arrayClass ty).before args s = true) : ∃ cA : ClassId, ArrOfT s cA ty ∧ va_RA s cA ty := by
  obtain ⟨c, k, comp, h1, h2, h3⟩ := Cond.arrayClass_spec h
  refine ⟨c, fun n z => ⟨fun _ q => (by cases q), k, h2, comp, h3⟩, ?_⟩
  cases ty with
  | object C => exact absurd rfl (hno C)
  | _ => exact h1
theorem zv_ao {C : String} (h : (Cond.arrayOver (.object C)).before args s = true) : ∃ cA : ClassId, ArrOfT s cA (.object C) ∧ va_RA s cA (.object C) := by
  obtain ⟨comp, c, k, h1, h2, h3, h4, h5⟩ := Cond.arrayOver_spec h
  exact ⟨c, fun n z => ⟨fun _ q => (by cases q), k, h3, comp, h4⟩, k, comp, h3, h4, h1, h5⟩
theorem zv_K (h : ∀ w ∈ lw_tbl, w.before args s = true) : ∃ (D : va_G) (ca : Nat → ClassId), va_K D zs_cl [(ca 0, .int), (ca 1, .long), (ca 2, .boolean), (ca 3, .object "ResidueUnit$Register"), (ca 4, .object "ResidueUnit$Instruction")] s := by
  have hz : ∀ w ∈ zs_ws, w.before args s = true := fun w hw => h w (List.mem_filter.mp hw).1
  obtain ⟨c0, i0, k0⟩ := u_known hz zs_uw0 (h (Cond.instantiable "ResidueUnit" 4) (zv_in 16 (by decide +kernel)))
  obtain ⟨c1, i1, k1⟩ := u_known hz zs_uw1 (h (Cond.instantiable "ResidueUnit$Register" 3) (zv_in 27 (by decide +kernel)))
  obtain ⟨c2, i2, k2⟩ := u_known hz zs_uw2 (h (Cond.instantiable "ResidueUnit$Instruction" 4) (zv_in 46 (by decide +kernel)))
  obtain ⟨c3, i3, k3⟩ := u_known hz zs_uw3 (h (Cond.instantiable "ResidueUnitModel" 12) (zv_in 452 (by decide +kernel)))
  obtain ⟨a0, q0⟩ := zv_ac (fun C h => by cases h) (h (Cond.arrayClass .int) (zv_in 45 (by decide +kernel)))
  obtain ⟨a1, q1⟩ := zv_ac (fun C h => by cases h) (h (Cond.arrayClass .long) (zv_in 495 (by decide +kernel)))
  obtain ⟨a2, q2⟩ := zv_ac (fun C h => by cases h) (h (Cond.arrayClass .boolean) (zv_in 496 (by decide +kernel)))
  obtain ⟨a3, q3⟩ := zv_ao (h (Cond.arrayOver (.object "ResidueUnit$Register")) (zv_in 24 (by decide +kernel)))
  obtain ⟨a4, q4⟩ := zv_ao (h (Cond.arrayOver (.object "ResidueUnit$Instruction")) (zv_in 26 (by decide +kernel)))
  refine ⟨(fun k => match k with | 0 => c0 | 1 => c1 | 2 => c2 | _ => c3, fun k => match k with | 0 => i0 | 1 => i1 | 2 => i2 | _ => i3), fun k => match k with | 0 => a0 | 1 => a1 | 2 => a2 | 3 => a3 | _ => a4, fun c q hq => ?_, fun k q hq => ?_⟩
  · match c, hq with
    | 0, hq => cases hq; exact k0
    | 1, hq => cases hq; exact k1
    | 2, hq => cases hq; exact k2
    | 3, hq => cases hq; exact k3
    | n + 4, hq => cases hq
  · match k, hq with
    | 0, hq => cases hq; exact q0
    | 1, hq => cases hq; exact q1
    | 2, hq => cases hq; exact q2
    | 3, hq => cases hq; exact q3
    | 4, hq => cases hq; exact q4
    | n + 5, hq => cases hq
end ZM25
