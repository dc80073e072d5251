section
-- ===== PART A: goes FIRST, ahead of the names: the tables' words, and 'selects' of the private methods out of them =====
/-- a private method of a class that the tables say can be made, by its rows of tables_1 -/
def lw_okq (q : MethodName × Nat) : Prop := (q.1.cls ≠ "java/lang/invoke/MethodHandle" ∧ q.1.cls ≠ "java/lang/invoke/VarHandle") ∧ Cond.instantiable q.1.cls q.2 ∈ tables_1 ∧ Cond.privateMethod q.1 ∈ tables_1 ∧ Cond.instanceMethod q.1 ∈ tables_1
theorem lw_p0 : lw_okq (⟨"java/lang/Throwable", "fillInStackTrace", "(I)Ljava/lang/Throwable;"⟩, 6) := ⟨⟨by decide +kernel, by decide +kernel⟩, List.mem_of_getElem? (i := 140) (by decide +kernel), List.mem_of_getElem? (i := 138) (by decide +kernel), List.mem_of_getElem? (i := 139) (by decide +kernel)⟩
theorem lw_p1 : lw_okq (⟨"ResidueUnit$Register", "fits", "(JI)Z"⟩, 3) := ⟨⟨by decide +kernel, by decide +kernel⟩, List.mem_of_getElem? (i := 27) (by decide +kernel), List.mem_of_getElem? (i := 223) (by decide +kernel), List.mem_of_getElem? (i := 224) (by decide +kernel)⟩
theorem lw_p2 : lw_okq (⟨"ResidueUnit", "putScaled", "(IIIZ)V"⟩, 4) := ⟨⟨by decide +kernel, by decide +kernel⟩, List.mem_of_getElem? (i := 16) (by decide +kernel), List.mem_of_getElem? (i := 295) (by decide +kernel), List.mem_of_getElem? (i := 296) (by decide +kernel)⟩
theorem lw_p3 : lw_okq (⟨"ResidueUnit$Register", "healingResidue", "(I)I"⟩, 3) := ⟨⟨by decide +kernel, by decide +kernel⟩, List.mem_of_getElem? (i := 27) (by decide +kernel), List.mem_of_getElem? (i := 368) (by decide +kernel), List.mem_of_getElem? (i := 369) (by decide +kernel)⟩
theorem lw_p4 : lw_okq (⟨"ResidueUnit$Register", "numberWithout", "(I)J"⟩, 3) := ⟨⟨by decide +kernel, by decide +kernel⟩, List.mem_of_getElem? (i := 27) (by decide +kernel), List.mem_of_getElem? (i := 372) (by decide +kernel), List.mem_of_getElem? (i := 373) (by decide +kernel)⟩
theorem lw_p5 : lw_okq (⟨"ResidueUnit", "step", "(I)I"⟩, 4) := ⟨⟨by decide +kernel, by decide +kernel⟩, List.mem_of_getElem? (i := 16) (by decide +kernel), List.mem_of_getElem? (i := 434) (by decide +kernel), List.mem_of_getElem? (i := 435) (by decide +kernel)⟩
theorem lw_p6 : lw_okq (⟨"ResidueUnit", "calculate", "(LResidueUnit$Instruction;)V"⟩, 4) := ⟨⟨by decide +kernel, by decide +kernel⟩, List.mem_of_getElem? (i := 16) (by decide +kernel), List.mem_of_getElem? (i := 438) (by decide +kernel), List.mem_of_getElem? (i := 439) (by decide +kernel)⟩
theorem lw_p7 : lw_okq (⟨"ResidueUnitModel", "refuse", "(ZZZ)Z"⟩, 12) := ⟨⟨by decide +kernel, by decide +kernel⟩, List.mem_of_getElem? (i := 452) (by decide +kernel), List.mem_of_getElem? (i := 513) (by decide +kernel), List.mem_of_getElem? (i := 514) (by decide +kernel)⟩
theorem lw_p8 : lw_okq (⟨"ResidueUnitModel", "put", "(IJ)V"⟩, 12) := ⟨⟨by decide +kernel, by decide +kernel⟩, List.mem_of_getElem? (i := 452) (by decide +kernel), List.mem_of_getElem? (i := 517) (by decide +kernel), List.mem_of_getElem? (i := 518) (by decide +kernel)⟩
theorem lw_p9 : lw_okq (⟨"ResidueUnitModel", "isGood", "(I)Z"⟩, 12) := ⟨⟨by decide +kernel, by decide +kernel⟩, List.mem_of_getElem? (i := 452) (by decide +kernel), List.mem_of_getElem? (i := 528) (by decide +kernel), List.mem_of_getElem? (i := 529) (by decide +kernel)⟩
theorem lw_p10 : lw_okq (⟨"ResidueUnitModel", "valueOf", "(I)J"⟩, 12) := ⟨⟨by decide +kernel, by decide +kernel⟩, List.mem_of_getElem? (i := 452) (by decide +kernel), List.mem_of_getElem? (i := 532) (by decide +kernel), List.mem_of_getElem? (i := 533) (by decide +kernel)⟩
theorem lw_p11 : lw_okq (⟨"ResidueUnitModel", "valueWith", "(III)J"⟩, 12) := ⟨⟨by decide +kernel, by decide +kernel⟩, List.mem_of_getElem? (i := 452) (by decide +kernel), List.mem_of_getElem? (i := 536) (by decide +kernel), List.mem_of_getElem? (i := 537) (by decide +kernel)⟩
theorem lw_p12 : lw_okq (⟨"ResidueUnitModel", "fits", "(JII)Z"⟩, 12) := ⟨⟨by decide +kernel, by decide +kernel⟩, List.mem_of_getElem? (i := 452) (by decide +kernel), List.mem_of_getElem? (i := 540) (by decide +kernel), List.mem_of_getElem? (i := 541) (by decide +kernel)⟩
theorem lw_p13 : lw_okq (⟨"ResidueUnitModel", "reckon", "(IIII)V"⟩, 12) := ⟨⟨by decide +kernel, by decide +kernel⟩, List.mem_of_getElem? (i := 452) (by decide +kernel), List.mem_of_getElem? (i := 549) (by decide +kernel), List.mem_of_getElem? (i := 550) (by decide +kernel)⟩
theorem lw_p14 : lw_okq (⟨"ResidueUnitModel", "limit", "(IIII)V"⟩, 12) := ⟨⟨by decide +kernel, by decide +kernel⟩, List.mem_of_getElem? (i := 452) (by decide +kernel), List.mem_of_getElem? (i := 553) (by decide +kernel), List.mem_of_getElem? (i := 554) (by decide +kernel)⟩
theorem lw_p15 : lw_okq (⟨"ResidueUnitModel", "scaleBy", "(IIIZ)V"⟩, 12) := ⟨⟨by decide +kernel, by decide +kernel⟩, List.mem_of_getElem? (i := 452) (by decide +kernel), List.mem_of_getElem? (i := 583) (by decide +kernel), List.mem_of_getElem? (i := 584) (by decide +kernel)⟩
def lw_privs_1 : List (MethodName × Nat) := [(⟨"java/lang/Throwable", "fillInStackTrace", "(I)Ljava/lang/Throwable;"⟩, 6), (⟨"ResidueUnit$Register", "fits", "(JI)Z"⟩, 3), (⟨"ResidueUnit", "putScaled", "(IIIZ)V"⟩, 4), (⟨"ResidueUnit$Register", "healingResidue", "(I)I"⟩, 3), (⟨"ResidueUnit$Register", "numberWithout", "(I)J"⟩, 3), (⟨"ResidueUnit", "step", "(I)I"⟩, 4), (⟨"ResidueUnit", "calculate", "(LResidueUnit$Instruction;)V"⟩, 4), (⟨"ResidueUnitModel", "refuse", "(ZZZ)Z"⟩, 12), (⟨"ResidueUnitModel", "put", "(IJ)V"⟩, 12), (⟨"ResidueUnitModel", "isGood", "(I)Z"⟩, 12), (⟨"ResidueUnitModel", "valueOf", "(I)J"⟩, 12), (⟨"ResidueUnitModel", "valueWith", "(III)J"⟩, 12), (⟨"ResidueUnitModel", "fits", "(JII)Z"⟩, 12), (⟨"ResidueUnitModel", "reckon", "(IIII)V"⟩, 12), (⟨"ResidueUnitModel", "limit", "(IIII)V"⟩, 12), (⟨"ResidueUnitModel", "scaleBy", "(IIIZ)V"⟩, 12)]
theorem lw_r1 : ∀ q ∈ lw_privs_1, lw_okq q := List.forall_mem_cons.mpr ⟨lw_p0, List.forall_mem_cons.mpr ⟨lw_p1, List.forall_mem_cons.mpr ⟨lw_p2, List.forall_mem_cons.mpr ⟨lw_p3, List.forall_mem_cons.mpr ⟨lw_p4, List.forall_mem_cons.mpr ⟨lw_p5, List.forall_mem_cons.mpr ⟨lw_p6, List.forall_mem_cons.mpr ⟨lw_p7, List.forall_mem_cons.mpr ⟨lw_p8, List.forall_mem_cons.mpr ⟨lw_p9, List.forall_mem_cons.mpr ⟨lw_p10, List.forall_mem_cons.mpr ⟨lw_p11, List.forall_mem_cons.mpr ⟨lw_p12, List.forall_mem_cons.mpr ⟨lw_p13, List.forall_mem_cons.mpr ⟨lw_p14, List.forall_mem_cons.mpr ⟨lw_p15, fun _ h => absurd h List.not_mem_nil⟩⟩⟩⟩⟩⟩⟩⟩⟩⟩⟩⟩⟩⟩⟩⟩
theorem lw_p16 : lw_okq (⟨"ResidueUnitModel", "faultOf", "(I)I"⟩, 12) := ⟨⟨by decide +kernel, by decide +kernel⟩, List.mem_of_getElem? (i := 452) (by decide +kernel), List.mem_of_getElem? (i := 607) (by decide +kernel), List.mem_of_getElem? (i := 608) (by decide +kernel)⟩
theorem lw_p17 : lw_okq (⟨"ResidueUnitModel", "cure", "(II)I"⟩, 12) := ⟨⟨by decide +kernel, by decide +kernel⟩, List.mem_of_getElem? (i := 452) (by decide +kernel), List.mem_of_getElem? (i := 611) (by decide +kernel), List.mem_of_getElem? (i := 612) (by decide +kernel)⟩
theorem lw_p18 : lw_okq (⟨"ResidueUnitModel", "perform", "(I)I"⟩, 12) := ⟨⟨by decide +kernel, by decide +kernel⟩, List.mem_of_getElem? (i := 452) (by decide +kernel), List.mem_of_getElem? (i := 646) (by decide +kernel), List.mem_of_getElem? (i := 647) (by decide +kernel)⟩
theorem lw_p19 : lw_okq (⟨"ResidueUnitModel", "copy", "(II)V"⟩, 12) := ⟨⟨by decide +kernel, by decide +kernel⟩, List.mem_of_getElem? (i := 452) (by decide +kernel), List.mem_of_getElem? (i := 650) (by decide +kernel), List.mem_of_getElem? (i := 651) (by decide +kernel)⟩
def lw_privs_2 : List (MethodName × Nat) := [(⟨"ResidueUnitModel", "faultOf", "(I)I"⟩, 12), (⟨"ResidueUnitModel", "cure", "(II)I"⟩, 12), (⟨"ResidueUnitModel", "perform", "(I)I"⟩, 12), (⟨"ResidueUnitModel", "copy", "(II)V"⟩, 12)]
theorem lw_r2 : ∀ q ∈ lw_privs_2, lw_okq q := List.forall_mem_cons.mpr ⟨lw_p16, List.forall_mem_cons.mpr ⟨lw_p17, List.forall_mem_cons.mpr ⟨lw_p18, List.forall_mem_cons.mpr ⟨lw_p19, fun _ h => absurd h List.not_mem_nil⟩⟩⟩⟩
def lw_privs : List (MethodName × Nat) := lw_privs_1 ++ (lw_privs_2)
def lw_tbl : List Cond := k2_sels lw_privs ++ tables_1
theorem lw_privs_ok : ∀ q ∈ lw_privs, lw_okq q := by
  show ∀ q ∈ lw_privs_1 ++ (lw_privs_2), lw_okq q
  exact List.forall_mem_append.mpr ⟨lw_r1, lw_r2⟩
-- ===== end of PART A; then your names; then what follows =====
end
section
/-! A judgement over whole heaps: 'zg_G l E d M pc lv st σ r': from pc of method M, with the locals lv, the operand stack st and the heap σ, the invocation ends with r (an answer or a thrown object, and the heap then). -/
abbrev zg_E : Type := List Cond × List vw_C × va_G × List (ClassId × FieldType) × Nat × (State → Heap → Prop)
abbrev zg_H : Type := (Nat → Option va_E) × Nat × Nat
abbrev zg_M : Type := MethodName × ByteArray × Nat × Option FieldType × List (Nat × Nat × Nat × Nat)
abbrev zg_R : Type := (Option Value ⊕ (Nat × String)) × zg_H
abbrev zg_ws (E : zg_E) : List Cond := E.1
abbrev zg_cl (E : zg_E) : List vw_C := E.2.1
abbrev zg_D (E : zg_E) : va_G := E.2.2.1
abbrev zg_ty (E : zg_E) : List (ClassId × FieldType) := E.2.2.2.1
abbrev zg_b (E : zg_E) : Nat := E.2.2.2.2.1
abbrev zg_x (E : zg_E) : State → Heap → Prop := E.2.2.2.2.2
abbrev zg_my (M : zg_M) : MethodName := M.1
abbrev zg_cc (M : zg_M) : ByteArray := M.2.1
abbrev zg_ml (M : zg_M) : Nat := M.2.2.1
abbrev zg_rt (M : zg_M) : Option FieldType := M.2.2.2.1
abbrev zg_hh (M : zg_M) : List (Nat × Nat × Nat × Nat) := M.2.2.2.2
abbrev zg_sz (σ : zg_H) : Nat := σ.2.1
abbrev zg_us (σ : zg_H) : Nat := σ.2.2
/-- what holds of the tables and of the old cells, at the start and at every later moment -/
def zg_base (E : zg_E) (U : State) (H : Heap) : Prop := (∀ w ∈ zg_ws E, ∀ a : Array Value, w.before a U = true) ∧ va_K (zg_D E) (zg_cl E) (zg_ty E) U ∧ zg_x E U H
def zg_env (E : zg_E) (U : State) (H : Heap) : Prop := ∀ (V : State) (H' : Heap), U.WarmedH V.vm → (∀ q : Nat, q < zg_b E → H'[q]? = H[q]?) → zg_base E V H'
theorem zg_env.here {E : zg_E} {U : State} {H : Heap} (h : zg_env E U H) : zg_base E U H := h U H (State.WarmedH.refl U) (fun _ _ => rfl)
theorem zg_env.to {E : zg_E} {U V : State} {H H' : Heap} (h : zg_env E U H) (hW : U.WarmedH V.vm) (hH : ∀ q : Nat, q < zg_b E → H'[q]? = H[q]?) : zg_env E V H' :=
  fun V2 H2 w2 e2 => h V2 H2 (State.WarmedH.trans hW w2) (fun q hq => (e2 q hq).trans (hH q hq))
/-- the heap holds the cells of σ, and is as large as σ says -/
def zg_rep (E : zg_E) (σ : zg_H) (H : Heap) : Prop := H.size = zg_sz σ ∧ zg_b E ≤ H.size ∧ ∀ (a : Nat) (e : va_E), σ.1 a = some e → va_at (zg_D E) (zg_cl E) (a, e) H ∧ zg_b E ≤ a
def zg_Q (E : zg_E) (r : zg_R) : Array Value → State → Outcome → State → Prop := fun _ st o t =>
  zg_rep E r.2 t.heap ∧ (∀ q : Nat, q < zg_b E → t.heap[q]? = st.heap[q]?) ∧
    match r.1 with
    | .inl v => o = .returned v
    | .inr x => o = .threw x.1 ∧ ∃ cell : Cell, t.heap[x.1]? = some cell ∧ cell.vm.isStatics = false ∧ st.vm.findClass x.2 = some cell.cls
def zg_fe (first t : State) (L : List Loc) (k n : Nat) : Prop := first.WarmedH t.vm ∧ first.sameButNew ({ t with vm := first.vm } : State) L k n
def zg_end (E : zg_E) (below : List Frame) (r : zg_R) (a : Array Value) (s : State) (mc ms : Nat) : State → Prop := fun t =>
  ∃ o, t.status = .running ∧ Ended t below o ∧ zg_Q E r a s o t ∧ ∃ L, zg_fe s t L mc ms ∧ ∀ q ∈ L, zg_b E ≤ q.base
def zg_w (M : zg_M) : Cond := match zg_hh M with
  | [] => .code (zg_my M) (zg_cc M) (zg_ml M) (zg_rt M)
  | h :: t => .codeWith (zg_my M) (zg_cc M) (zg_ml M) (zg_rt M) (h :: t)
def zg_rm (d nc ns : Nat) : Room := { frames := d, cells := nc, slots := ns, locals := 36 * d }
/-- a call's contract -/
def zg_C (l : Launch) (E : zg_E) (d : Nat) (M : zg_M) (av : List Value) (σ : zg_H) (r : zg_R) : Prop :=
  zg_sz σ ≤ zg_sz r.2 ∧ zg_us σ ≤ zg_us r.2 ∧
    MetFree l (zg_my M) (headSpec [zg_w M] (zg_rm d (zg_sz r.2 - zg_sz σ) (zg_us r.2 - zg_us σ)))
      (fun a U => a = av.toArray ∧ zg_env E U U.heap ∧ zg_rep E σ U.heap) (fun _ _ _ _ _ => True)
      (fun a st o t => zg_Q E r a st o t ∧ ∃ L, zg_fe st t L (zg_sz r.2 - zg_sz σ) (zg_us r.2 - zg_us σ) ∧ ∀ q ∈ L, zg_b E ≤ q.base)
def zg_cx (l : Launch) (E : zg_E) (d : Nat) (M : zg_M) (p : Program) (R : Room) (s : State) (m : MethodId) (meth : Method) (c : Code) : Prop :=
  p.tables.exec = Jvm.exec ∧ c.code = zg_cc M ∧ c.maxLocals = zg_ml M ∧ meth.sig.returnType = zg_rt M ∧ s.vm.findClass (zg_my M).cls = some m.cls ∧ meth.locks = false ∧ meth.name = (zg_my M).name ∧
    zg_env E s s.heap ∧ zg_b E ≤ s.heap.size ∧ d ≤ R.frames ∧ 36 * d ≤ R.locals ∧ c.exceptionTable.toList.map (fun h => (h.startPc, h.endPc, h.handlerPc, h.catchType)) = zg_hh M
def zg_G (l : Launch) (E : zg_E) (d : Nat) (M : zg_M) (pc : Nat) (lv : List (Nat × Value)) (st : List Value) (σ : zg_H) (r : zg_R) : Prop :=
  zg_sz σ ≤ zg_sz r.2 ∧ zg_us σ ≤ zg_us r.2 ∧
    ∀ (p : Program) (e : Env) (R : Room) (s : State) (m : MethodId) (args : Array Value) (below : List Frame) (meth : Method) (c : Code) (H : Heap) (locs : List Loc) (cells slots : Nat) (ls : Array Slot) (u0 mc ms : Nat), mc ≤ R.cells → ms ≤ R.slots →
      zg_cx l E d M p R s m meth c → s.heap.size + cells = zg_sz σ → u0 + slots = zg_us σ → s.heap.size + mc = zg_sz r.2 → u0 + ms = zg_us r.2 →
      zg_rep E σ H → (∀ q : Nat, q < zg_b E → H[q]? = s.heap[q]?) → (∀ x ∈ locs, zg_b E ≤ x.base) → lv_has ls (zg_ml M) lv →
      W p l e R s m args below meth c H locs cells slots (zg_end E below r args s mc ms) (F0 m pc ls st)
section ZG1
variable {l : Launch} {E : zg_E} {d : Nat} {M : zg_M} {pc : Nat} {lv : List (Nat × Value)} {st : List Value} {σ : zg_H} {r : zg_R}
/-- a step that leaves heap and locals as they are -/
theorem zg_step {pc2 : Nat} {st2 : List Value}
    (h : ∀ (p : Program) (e : Env) (R : Room) (s : State) (m : MethodId) (args : Array Value) (below : List Frame) (meth : Method) (c : Code) (H : Heap) (locs : List Loc) (cells slots : Nat) (ls : Array Slot) (Q : State → Prop),
      p.tables.exec = Jvm.exec → c.code = zg_cc M → lv_has ls (zg_ml M) lv → W p l e R s m args below meth c H locs cells slots Q (F0 m pc2 ls st2) → W p l e R s m args below meth c H locs cells slots Q (F0 m pc ls st))
    (k : zg_G l E d M pc2 lv st2 σ r) : zg_G l E d M pc lv st σ r := by
  refine ⟨k.1, k.2.1, ?_⟩
  intro p e R s m args below meth c H locs cells slots ls u0 mc ms hm1 hm2 hc h1 h2 h3 h4 h5 h6 h7 h8
  exact h p e R s m args below meth c H locs cells slots ls _ hc.1 hc.2.1 h8 (k.2.2 p e R s m args below meth c H locs cells slots ls u0 mc ms hm1 hm2 hc h1 h2 h3 h4 h5 h6 h7 h8)
/-- the same, new locals -/
theorem zg_stepL {pc2 : Nat} {st2 : List Value} {lv2 : List (Nat × Value)}
    (h : ∀ (p : Program) (e : Env) (R : Room) (s : State) (m : MethodId) (args : Array Value) (below : List Frame) (meth : Method) (c : Code) (H : Heap) (locs : List Loc) (cells slots : Nat) (ls : Array Slot) (Q : State → Prop),
      p.tables.exec = Jvm.exec → c.code = zg_cc M → lv_has ls (zg_ml M) lv → (∀ ls2 : Array Slot, lv_has ls2 (zg_ml M) lv2 → W p l e R s m args below meth c H locs cells slots Q (F0 m pc2 ls2 st2)) → W p l e R s m args below meth c H locs cells slots Q (F0 m pc ls st))
    (k : zg_G l E d M pc2 lv2 st2 σ r) : zg_G l E d M pc lv st σ r := by
  refine ⟨k.1, k.2.1, ?_⟩
  intro p e R s m args below meth c H locs cells slots ls u0 mc ms hm1 hm2 hc h1 h2 h3 h4 h5 h6 h7 h8
  exact h p e R s m args below meth c H locs cells slots ls _ hc.1 hc.2.1 h8 (fun ls2 h9 => k.2.2 p e R s m args below meth c H locs cells slots ls2 u0 mc ms hm1 hm2 hc h1 h2 h3 h4 h5 h6 h7 h9)
/-- a branch -/
theorem zg_stepB {P : Prop} {pc2 pc3 : Nat} {st2 st3 : List Value}
    (h : ∀ (p : Program) (e : Env) (R : Room) (s : State) (m : MethodId) (args : Array Value) (below : List Frame) (meth : Method) (c : Code) (H : Heap) (locs : List Loc) (cells slots : Nat) (ls : Array Slot) (Q : State → Prop),
      p.tables.exec = Jvm.exec → c.code = zg_cc M → (P → W p l e R s m args below meth c H locs cells slots Q (F0 m pc2 ls st2)) → (¬ P → W p l e R s m args below meth c H locs cells slots Q (F0 m pc3 ls st3)) → W p l e R s m args below meth c H locs cells slots Q (F0 m pc ls st))
    (k : P → zg_G l E d M pc2 lv st2 σ r) (k2 : ¬ P → zg_G l E d M pc3 lv st3 σ r) : zg_G l E d M pc lv st σ r := by
  have hle : zg_sz σ ≤ zg_sz r.2 ∧ zg_us σ ≤ zg_us r.2 := by
    by_cases hP : P
    · exact ⟨(k hP).1, (k hP).2.1⟩
    · exact ⟨(k2 hP).1, (k2 hP).2.1⟩
  refine ⟨hle.1, hle.2, ?_⟩
  intro p e R s m args below meth c H locs cells slots ls u0 mc ms hm1 hm2 hc h1 h2 h3 h4 h5 h6 h7 h8
  exact h p e R s m args below meth c H locs cells slots ls _ hc.1 hc.2.1 (fun hP => (k hP).2.2 p e R s m args below meth c H locs cells slots ls u0 mc ms hm1 hm2 hc h1 h2 h3 h4 h5 h6 h7 h8)
    (fun hP => (k2 hP).2.2 p e R s m args below meth c H locs cells slots ls u0 mc ms hm1 hm2 hc h1 h2 h3 h4 h5 h6 h7 h8)
/-- fewer locals, in any order -/
theorem zg_lv {lv2 : List (Nat × Value)} (ks : List Nat) (hl : lv_pick lv ks = lv2) (k : zg_G l E d M pc lv2 st σ r) : zg_G l E d M pc lv st σ r := by
  refine ⟨k.1, k.2.1, ?_⟩
  intro p e R s m args below meth c H locs cells slots ls u0 mc ms hm1 hm2 hc h1 h2 h3 h4 h5 h6 h7 h8
  exact k.2.2 p e R s m args below meth c H locs cells slots ls u0 mc ms hm1 hm2 hc h1 h2 h3 h4 h5 h6 h7 (lv_sub h8 ks hl)
theorem zg_eq {pc2 : Nat} {lv2 : List (Nat × Value)} {st2 : List Value} {σ2 : zg_H} {r2 : zg_R} (k : zg_G l E d M pc2 lv2 st2 σ2 r2) (e1 : pc = pc2) (e2 : lv = lv2) (e3 : st = st2) (e4 : σ = σ2) (e5 : r = r2) : zg_G l E d M pc lv st σ r := by
  subst e1 e2 e3 e4 e5
  exact k
end ZG1
/-- what a local holds -/
def zg_at (lv : List (Nat × Value)) (i : Nat) : Option Value := (lv.find? (fun q => q.1 == i)).map (fun q => q.2)
theorem zg_at_has {ls : Array Slot} {n : Nat} {lv : List (Nat × Value)} (h : lv_has ls n lv) {i : Nat} {v : Value} (hv : zg_at lv i = some v) : ls[i]? = some (.val v) := by
  unfold zg_at at hv
  cases hf : lv.find? (fun q => q.1 == i) with
  | none => rw [hf] at hv; cases hv
  | some q =>
    rw [hf] at hv
    have h1 : q.2 = v := Option.some.inj hv
    have h2 := List.find?_some hf
    have h3 : q.1 = i := by simpa using h2
    have h4 := h.2.2 q (List.mem_of_find?_eq_some hf)
    rw [h3, h1] at h4
    exact h4
/-- a place of the list for iinc -/
theorem zg_at_mem {lv : List (Nat × Value)} {i : Nat} {v : Value} (hv : zg_at lv i = some v) : ∃ k : Nat, lv[k]? = some (i, v) := by
  unfold zg_at at hv
  cases hf : lv.find? (fun q => q.1 == i) with
  | none => rw [hf] at hv; cases hv
  | some q =>
    rw [hf] at hv
    have h1 : q.2 = v := Option.some.inj hv
    have h2 := List.find?_some hf
    have h3 : q.1 = i := by simpa using h2
    obtain ⟨k, hk⟩ := List.getElem?_of_mem (List.mem_of_find?_eq_some hf)
    exact ⟨k, by rw [hk, ← h1, ← h3]⟩
def zg_st1 (lv : List (Nat × Value)) (i : Nat) (v : Value) : List (Nat × Value) := (i, v) :: lv.filter (fun q => !(q.1 == i) && !(q.1 + 1 == i && q.2.category == 2))
def zg_st2 (lv : List (Nat × Value)) (i : Nat) (v : Value) : List (Nat × Value) := (i, v) :: lv.filter (fun q => !(q.1 == i) && (!(q.1 == i + 1) && !(q.1 + 1 == i && q.2.category == 2)))
section ZG2
variable {l : Launch} {E : zg_E} {d : Nat} {M : zg_M} {pc : Nat} {lv : List (Nat × Value)} {st : List Value} {σ : zg_H} {r : zg_R}
theorem zg_iconst {n : Int} {v : Int32} (hdg : decode (zg_cc M) pc = .ok (.iconst n, 1)) (hv : Int32.ofInt n = v) (k : zg_G l E d M (pc + 1) lv (.int v :: st) σ r) : zg_G l E d M pc lv (st) σ r :=
  zg_step (fun p e R s m args below meth c H locs cells slots ls Q hx hb hl w => lv_iconst hx hb hdg hv w) k
theorem zg_bipush {n : Int} {v : Int32} (hdg : decode (zg_cc M) pc = .ok (.bipush n, 2)) (hv : (Int8.ofInt n).toInt32 = v) (k : zg_G l E d M (pc + 2) lv (.int v :: st) σ r) : zg_G l E d M pc lv (st) σ r :=
  zg_step (fun p e R s m args below meth c H locs cells slots ls Q hx hb hl w => lv_bipush hx hb hdg hv w) k
theorem zg_sipush {n : Int} {v : Int32} (hdg : decode (zg_cc M) pc = .ok (.sipush n, 3)) (hv : (Int16.ofInt n).toInt32 = v) (k : zg_G l E d M (pc + 3) lv (.int v :: st) σ r) : zg_G l E d M pc lv (st) σ r :=
  zg_step (fun p e R s m args below meth c H locs cells slots ls Q hx hb hl w => lv_sipush hx hb hdg hv w) k
theorem zg_lconst {n : Fin 2} {v : Int64} (hdg : decode (zg_cc M) pc = .ok (.lconst n, 1)) (hv : Int64.ofNat (n : Nat) = v) (k : zg_G l E d M (pc + 1) lv (.long v :: st) σ r) : zg_G l E d M pc lv (st) σ r :=
  zg_step (fun p e R s m args below meth c H locs cells slots ls Q hx hb hl w => lv_lconst hx hb hdg hv w) k
theorem zg_iadd {x y : Int32} (hdg : decode (zg_cc M) pc = .ok (.iadd, 1)) (k : zg_G l E d M (pc + 1) lv (.int (x + y) :: st) σ r) : zg_G l E d M pc lv (.int y :: .int x :: st) σ r :=
  zg_step (fun p e R s m args below meth c H locs cells slots ls Q hx hb hl w => lv_iadd hx hb hdg w) k
theorem zg_isub {x y : Int32} (hdg : decode (zg_cc M) pc = .ok (.isub, 1)) (k : zg_G l E d M (pc + 1) lv (.int (x - y) :: st) σ r) : zg_G l E d M pc lv (.int y :: .int x :: st) σ r :=
  zg_step (fun p e R s m args below meth c H locs cells slots ls Q hx hb hl w => lv_isub hx hb hdg w) k
theorem zg_imul {x y : Int32} (hdg : decode (zg_cc M) pc = .ok (.imul, 1)) (k : zg_G l E d M (pc + 1) lv (.int (x * y) :: st) σ r) : zg_G l E d M pc lv (.int y :: .int x :: st) σ r :=
  zg_step (fun p e R s m args below meth c H locs cells slots ls Q hx hb hl w => lv_imul hx hb hdg w) k
theorem zg_iand {x y : Int32} (hdg : decode (zg_cc M) pc = .ok (.iand, 1)) (k : zg_G l E d M (pc + 1) lv (.int (x &&& y) :: st) σ r) : zg_G l E d M pc lv (.int y :: .int x :: st) σ r :=
  zg_step (fun p e R s m args below meth c H locs cells slots ls Q hx hb hl w => lv_iand hx hb hdg w) k
theorem zg_ior {x y : Int32} (hdg : decode (zg_cc M) pc = .ok (.ior, 1)) (k : zg_G l E d M (pc + 1) lv (.int (x ||| y) :: st) σ r) : zg_G l E d M pc lv (.int y :: .int x :: st) σ r :=
  zg_step (fun p e R s m args below meth c H locs cells slots ls Q hx hb hl w => lv_ior hx hb hdg w) k
theorem zg_ixor {x y : Int32} (hdg : decode (zg_cc M) pc = .ok (.ixor, 1)) (k : zg_G l E d M (pc + 1) lv (.int (x ^^^ y) :: st) σ r) : zg_G l E d M pc lv (.int y :: .int x :: st) σ r :=
  zg_step (fun p e R s m args below meth c H locs cells slots ls Q hx hb hl w => lv_ixor hx hb hdg w) k
theorem zg_idiv {x y : Int32} (hdg : decode (zg_cc M) pc = .ok (.idiv, 1)) (hne : ¬ y = 0) (k : zg_G l E d M (pc + 1) lv (.int (x / y) :: st) σ r) : zg_G l E d M pc lv (.int y :: .int x :: st) σ r :=
  zg_step (fun p e R s m args below meth c H locs cells slots ls Q hx hb hl w => lv_idiv hx hb hdg hne w) k
theorem zg_irem {x y : Int32} (hdg : decode (zg_cc M) pc = .ok (.irem, 1)) (hne : ¬ y = 0) (k : zg_G l E d M (pc + 1) lv (.int (x - x / y * y) :: st) σ r) : zg_G l E d M pc lv (.int y :: .int x :: st) σ r :=
  zg_step (fun p e R s m args below meth c H locs cells slots ls Q hx hb hl w => lv_irem hx hb hdg hne w) k
theorem zg_ineg {x : Int32} (hdg : decode (zg_cc M) pc = .ok (.ineg, 1)) (k : zg_G l E d M (pc + 1) lv (.int (-x) :: st) σ r) : zg_G l E d M pc lv (.int x :: st) σ r :=
  zg_step (fun p e R s m args below meth c H locs cells slots ls Q hx hb hl w => lv_ineg hx hb hdg w) k
theorem zg_ladd {x y : Int64} (hdg : decode (zg_cc M) pc = .ok (.ladd, 1)) (k : zg_G l E d M (pc + 1) lv (.long (x + y) :: st) σ r) : zg_G l E d M pc lv (.long y :: .long x :: st) σ r :=
  zg_step (fun p e R s m args below meth c H locs cells slots ls Q hx hb hl w => lv_ladd hx hb hdg w) k
theorem zg_lsub {x y : Int64} (hdg : decode (zg_cc M) pc = .ok (.lsub, 1)) (k : zg_G l E d M (pc + 1) lv (.long (x - y) :: st) σ r) : zg_G l E d M pc lv (.long y :: .long x :: st) σ r :=
  zg_step (fun p e R s m args below meth c H locs cells slots ls Q hx hb hl w => lv_lsub hx hb hdg w) k
theorem zg_lmul {x y : Int64} (hdg : decode (zg_cc M) pc = .ok (.lmul, 1)) (k : zg_G l E d M (pc + 1) lv (.long (x * y) :: st) σ r) : zg_G l E d M pc lv (.long y :: .long x :: st) σ r :=
  zg_step (fun p e R s m args below meth c H locs cells slots ls Q hx hb hl w => lv_lmul hx hb hdg w) k
theorem zg_land {x y : Int64} (hdg : decode (zg_cc M) pc = .ok (.land, 1)) (k : zg_G l E d M (pc + 1) lv (.long (x &&& y) :: st) σ r) : zg_G l E d M pc lv (.long y :: .long x :: st) σ r :=
  zg_step (fun p e R s m args below meth c H locs cells slots ls Q hx hb hl w => lv_land hx hb hdg w) k
theorem zg_lor {x y : Int64} (hdg : decode (zg_cc M) pc = .ok (.lor, 1)) (k : zg_G l E d M (pc + 1) lv (.long (x ||| y) :: st) σ r) : zg_G l E d M pc lv (.long y :: .long x :: st) σ r :=
  zg_step (fun p e R s m args below meth c H locs cells slots ls Q hx hb hl w => lv_lor hx hb hdg w) k
theorem zg_lxor {x y : Int64} (hdg : decode (zg_cc M) pc = .ok (.lxor, 1)) (k : zg_G l E d M (pc + 1) lv (.long (x ^^^ y) :: st) σ r) : zg_G l E d M pc lv (.long y :: .long x :: st) σ r :=
  zg_step (fun p e R s m args below meth c H locs cells slots ls Q hx hb hl w => lv_lxor hx hb hdg w) k
theorem zg_ldiv {x y : Int64} (hdg : decode (zg_cc M) pc = .ok (.ldiv, 1)) (hne : ¬ y = 0) (k : zg_G l E d M (pc + 1) lv (.long (x / y) :: st) σ r) : zg_G l E d M pc lv (.long y :: .long x :: st) σ r :=
  zg_step (fun p e R s m args below meth c H locs cells slots ls Q hx hb hl w => lv_ldiv hx hb hdg hne w) k
theorem zg_lrem {x y : Int64} (hdg : decode (zg_cc M) pc = .ok (.lrem, 1)) (hne : ¬ y = 0) (k : zg_G l E d M (pc + 1) lv (.long (x - x / y * y) :: st) σ r) : zg_G l E d M pc lv (.long y :: .long x :: st) σ r :=
  zg_step (fun p e R s m args below meth c H locs cells slots ls Q hx hb hl w => lv_lrem hx hb hdg hne w) k
theorem zg_lneg {x : Int64} (hdg : decode (zg_cc M) pc = .ok (.lneg, 1)) (k : zg_G l E d M (pc + 1) lv (.long (-x) :: st) σ r) : zg_G l E d M pc lv (.long x :: st) σ r :=
  zg_step (fun p e R s m args below meth c H locs cells slots ls Q hx hb hl w => lv_lneg hx hb hdg w) k
theorem zg_ishl {x y : Int32} (hdg : decode (zg_cc M) pc = .ok (.ishl, 1)) (k : zg_G l E d M (pc + 1) lv (.int (x <<< (y &&& 31)) :: st) σ r) : zg_G l E d M pc lv (.int y :: .int x :: st) σ r :=
  zg_step (fun p e R s m args below meth c H locs cells slots ls Q hx hb hl w => lv_ishl hx hb hdg w) k
theorem zg_ishr {x y : Int32} (hdg : decode (zg_cc M) pc = .ok (.ishr, 1)) (k : zg_G l E d M (pc + 1) lv (.int (x >>> (y &&& 31)) :: st) σ r) : zg_G l E d M pc lv (.int y :: .int x :: st) σ r :=
  zg_step (fun p e R s m args below meth c H locs cells slots ls Q hx hb hl w => lv_ishr hx hb hdg w) k
theorem zg_i2l {x : Int32} {v : Int64} (hdg : decode (zg_cc M) pc = .ok (.i2l, 1)) (hv : x.toInt64 = v) (k : zg_G l E d M (pc + 1) lv (.long v :: st) σ r) : zg_G l E d M pc lv (.int x :: st) σ r :=
  zg_step (fun p e R s m args below meth c H locs cells slots ls Q hx hb hl w => lv_i2l hx hb hdg hv w) k
theorem zg_l2i {x : Int64} {v : Int32} (hdg : decode (zg_cc M) pc = .ok (.l2i, 1)) (hv : x.toInt32 = v) (k : zg_G l E d M (pc + 1) lv (.int v :: st) σ r) : zg_G l E d M pc lv (.long x :: st) σ r :=
  zg_step (fun p e R s m args below meth c H locs cells slots ls Q hx hb hl w => lv_l2i hx hb hdg hv w) k
theorem zg_lshl {x v : Int64} {y : Int32} (hdg : decode (zg_cc M) pc = .ok (.lshl, 1)) (hv : x <<< (y.toInt64 &&& 63) = v) (k : zg_G l E d M (pc + 1) lv (.long v :: st) σ r) : zg_G l E d M pc lv (.int y :: .long x :: st) σ r :=
  zg_step (fun p e R s m args below meth c H locs cells slots ls Q hx hb hl w => lv_lshl hx hb hdg hv w) k
theorem zg_lshr {x v : Int64} {y : Int32} (hdg : decode (zg_cc M) pc = .ok (.lshr, 1)) (hv : x >>> (y.toInt64 &&& 63) = v) (k : zg_G l E d M (pc + 1) lv (.long v :: st) σ r) : zg_G l E d M pc lv (.int y :: .long x :: st) σ r :=
  zg_step (fun p e R s m args below meth c H locs cells slots ls Q hx hb hl w => lv_lshr hx hb hdg hv w) k
theorem zg_iushr {x y v : Int32} (hdg : decode (zg_cc M) pc = .ok (.iushr, 1)) (hv : (x.toUInt32 >>> (y.toUInt32 &&& Int32.toUInt32 31)).toInt32 = v) (k : zg_G l E d M (pc + 1) lv (.int v :: st) σ r) : zg_G l E d M pc lv (.int y :: .int x :: st) σ r :=
  zg_step (fun p e R s m args below meth c H locs cells slots ls Q hx hb hl w => lv_iushr hx hb hdg hv w) k
theorem zg_lushr {x v : Int64} {y : Int32} (hdg : decode (zg_cc M) pc = .ok (.lushr, 1)) (hv : (x.toUInt64 >>> (y.toInt64.toUInt64 &&& Int64.toUInt64 63)).toInt64 = v) (k : zg_G l E d M (pc + 1) lv (.long v :: st) σ r) : zg_G l E d M pc lv (.int y :: .long x :: st) σ r :=
  zg_step (fun p e R s m args below meth c H locs cells slots ls Q hx hb hl w => lv_lushr hx hb hdg hv w) k
theorem zg_dup {va : Value} (hdg : decode (zg_cc M) pc = .ok (.dup, 1)) (hva : va.category = 1) (k : zg_G l E d M (pc + 1) lv (va :: va :: st) σ r) : zg_G l E d M pc lv (va :: st) σ r :=
  zg_step (fun p e R s m args below meth c H locs cells slots ls Q hx hb hl w => lv_dup hx hb hdg hva w) k
theorem zg_pop {va : Value} (hdg : decode (zg_cc M) pc = .ok (.pop, 1)) (hva : va.category = 1) (k : zg_G l E d M (pc + 1) lv (st) σ r) : zg_G l E d M pc lv (va :: st) σ r :=
  zg_step (fun p e R s m args below meth c H locs cells slots ls Q hx hb hl w => lv_pop hx hb hdg hva w) k
theorem zg_dup_x1 {va vb : Value} (hdg : decode (zg_cc M) pc = .ok (.dup_x1, 1)) (hva : va.category = 1) (hvb : vb.category = 1) (k : zg_G l E d M (pc + 1) lv (va :: vb :: va :: st) σ r) : zg_G l E d M pc lv (va :: vb :: st) σ r :=
  zg_step (fun p e R s m args below meth c H locs cells slots ls Q hx hb hl w => lv_dup_x1 hx hb hdg hva hvb w) k
theorem zg_dup_x2 {va vb vd : Value} (hdg : decode (zg_cc M) pc = .ok (.dup_x2, 1)) (hva : va.category = 1) (hvb : vb.category = 1) (hvd : vd.category = 1) (k : zg_G l E d M (pc + 1) lv (va :: vb :: vd :: va :: st) σ r) : zg_G l E d M pc lv (va :: vb :: vd :: st) σ r :=
  zg_step (fun p e R s m args below meth c H locs cells slots ls Q hx hb hl w => lv_dup_x2 hx hb hdg hva hvb hvd w) k
theorem zg_dup2_11 {va vb : Value} (hdg : decode (zg_cc M) pc = .ok (.dup2, 1)) (hva : va.category = 1) (hvb : vb.category = 1) (k : zg_G l E d M (pc + 1) lv (va :: vb :: va :: vb :: st) σ r) : zg_G l E d M pc lv (va :: vb :: st) σ r :=
  zg_step (fun p e R s m args below meth c H locs cells slots ls Q hx hb hl w => lv_dup2_11 hx hb hdg hva hvb w) k
theorem zg_dup2_2 {va : Value} (hdg : decode (zg_cc M) pc = .ok (.dup2, 1)) (hva : va.category = 2) (k : zg_G l E d M (pc + 1) lv (va :: va :: st) σ r) : zg_G l E d M pc lv (va :: st) σ r :=
  zg_step (fun p e R s m args below meth c H locs cells slots ls Q hx hb hl w => lv_dup2_2 hx hb hdg hva w) k
theorem zg_pop2_2 {va : Value} (hdg : decode (zg_cc M) pc = .ok (.pop2, 1)) (hva : va.category = 2) (k : zg_G l E d M (pc + 1) lv (st) σ r) : zg_G l E d M pc lv (va :: st) σ r :=
  zg_step (fun p e R s m args below meth c H locs cells slots ls Q hx hb hl w => lv_pop2_2 hx hb hdg hva w) k
theorem zg_dup2_x1_2 {va vb : Value} (hdg : decode (zg_cc M) pc = .ok (.dup2_x1, 1)) (hva : va.category = 2) (hvb : vb.category = 1) (k : zg_G l E d M (pc + 1) lv (va :: vb :: va :: st) σ r) : zg_G l E d M pc lv (va :: vb :: st) σ r :=
  zg_step (fun p e R s m args below meth c H locs cells slots ls Q hx hb hl w => lv_dup2_x1_2 hx hb hdg hva hvb w) k
theorem zg_dup2_x2_2 {va vb vd : Value} (hdg : decode (zg_cc M) pc = .ok (.dup2_x2, 1)) (hva : va.category = 2) (hvb : vb.category = 1) (hvd : vd.category = 1) (k : zg_G l E d M (pc + 1) lv (va :: vb :: vd :: va :: st) σ r) : zg_G l E d M pc lv (va :: vb :: vd :: st) σ r :=
  zg_step (fun p e R s m args below meth c H locs cells slots ls Q hx hb hl w => lv_dup2_x2_2 hx hb hdg hva hvb hvd w) k
theorem zg_goto {off : Int} {tgt : Nat} (hdg : decode (zg_cc M) pc = .ok (.goto off, 3)) (ht : (pc : Int) + off = (tgt : Int)) (k : zg_G l E d M tgt lv st σ r) : zg_G l E d M pc lv st σ r :=
  zg_step (fun p e R s m args below meth c H locs cells slots ls Q hx hb hl w => lv_goto hx hb hdg ht w) k
theorem zg_lcmp {x y : Int64} (hdg : decode (zg_cc M) pc = .ok (.lcmp, 1)) (k : zg_G l E d M (pc + 1) lv (.int (lg_cmp x y) :: st) σ r) : zg_G l E d M pc lv (.long y :: .long x :: st) σ r :=
  zg_step (fun p e R s m args below meth c H locs cells slots ls Q hx hb hl w => W.lcmp hx hb hdg w) k
theorem zg_if_eq {x : Int32} {off : Int} {tgt : Nat} (hdg : decode (zg_cc M) pc = .ok (.ifCond .eq off, 3)) (ht : (pc : Int) + off = (tgt : Int)) (kt : x = 0 → zg_G l E d M tgt lv st σ r) (kf : ¬ x = 0 → zg_G l E d M (pc + 3) lv st σ r) : zg_G l E d M pc lv (.int x :: st) σ r :=
  zg_stepB (P := x = 0) (fun p e R s m args below meth c H locs cells slots ls Q hx hb w1 w2 => lv_if_eq hx hb hdg ht w1 w2) kt kf
theorem zg_if_ne {x : Int32} {off : Int} {tgt : Nat} (hdg : decode (zg_cc M) pc = .ok (.ifCond .ne off, 3)) (ht : (pc : Int) + off = (tgt : Int)) (kt : ¬ x = 0 → zg_G l E d M tgt lv st σ r) (kf : x = 0 → zg_G l E d M (pc + 3) lv st σ r) : zg_G l E d M pc lv (.int x :: st) σ r :=
  zg_stepB (P := x = 0) (fun p e R s m args below meth c H locs cells slots ls Q hx hb w1 w2 => lv_if_ne hx hb hdg ht w2 w1) kf kt
theorem zg_if_lt {x : Int32} {off : Int} {tgt : Nat} (hdg : decode (zg_cc M) pc = .ok (.ifCond .lt off, 3)) (ht : (pc : Int) + off = (tgt : Int)) (kt : x < 0 → zg_G l E d M tgt lv st σ r) (kf : ¬ x < 0 → zg_G l E d M (pc + 3) lv st σ r) : zg_G l E d M pc lv (.int x :: st) σ r :=
  zg_stepB (P := x < 0) (fun p e R s m args below meth c H locs cells slots ls Q hx hb w1 w2 => lv_if_lt hx hb hdg ht w1 w2) kt kf
theorem zg_if_ge {x : Int32} {off : Int} {tgt : Nat} (hdg : decode (zg_cc M) pc = .ok (.ifCond .ge off, 3)) (ht : (pc : Int) + off = (tgt : Int)) (kt : 0 ≤ x → zg_G l E d M tgt lv st σ r) (kf : ¬ 0 ≤ x → zg_G l E d M (pc + 3) lv st σ r) : zg_G l E d M pc lv (.int x :: st) σ r :=
  zg_stepB (P := 0 ≤ x) (fun p e R s m args below meth c H locs cells slots ls Q hx hb w1 w2 => lv_if_ge hx hb hdg ht w1 w2) kt kf
theorem zg_if_gt {x : Int32} {off : Int} {tgt : Nat} (hdg : decode (zg_cc M) pc = .ok (.ifCond .gt off, 3)) (ht : (pc : Int) + off = (tgt : Int)) (kt : 0 < x → zg_G l E d M tgt lv st σ r) (kf : ¬ 0 < x → zg_G l E d M (pc + 3) lv st σ r) : zg_G l E d M pc lv (.int x :: st) σ r :=
  zg_stepB (P := 0 < x) (fun p e R s m args below meth c H locs cells slots ls Q hx hb w1 w2 => lv_if_gt hx hb hdg ht w1 w2) kt kf
theorem zg_if_le {x : Int32} {off : Int} {tgt : Nat} (hdg : decode (zg_cc M) pc = .ok (.ifCond .le off, 3)) (ht : (pc : Int) + off = (tgt : Int)) (kt : x ≤ 0 → zg_G l E d M tgt lv st σ r) (kf : ¬ x ≤ 0 → zg_G l E d M (pc + 3) lv st σ r) : zg_G l E d M pc lv (.int x :: st) σ r :=
  zg_stepB (P := x ≤ 0) (fun p e R s m args below meth c H locs cells slots ls Q hx hb w1 w2 => lv_if_le hx hb hdg ht w1 w2) kt kf
theorem zg_icmp_eq {x y : Int32} {off : Int} {tgt : Nat} (hdg : decode (zg_cc M) pc = .ok (.if_icmp .eq off, 3)) (ht : (pc : Int) + off = (tgt : Int)) (kt : x = y → zg_G l E d M tgt lv st σ r) (kf : ¬ x = y → zg_G l E d M (pc + 3) lv st σ r) : zg_G l E d M pc lv (.int y :: .int x :: st) σ r :=
  zg_stepB (P := x = y) (fun p e R s m args below meth c H locs cells slots ls Q hx hb w1 w2 => lv_icmp_eq hx hb hdg ht w1 w2) kt kf
theorem zg_icmp_ne {x y : Int32} {off : Int} {tgt : Nat} (hdg : decode (zg_cc M) pc = .ok (.if_icmp .ne off, 3)) (ht : (pc : Int) + off = (tgt : Int)) (kt : ¬ x = y → zg_G l E d M tgt lv st σ r) (kf : x = y → zg_G l E d M (pc + 3) lv st σ r) : zg_G l E d M pc lv (.int y :: .int x :: st) σ r :=
  zg_stepB (P := x = y) (fun p e R s m args below meth c H locs cells slots ls Q hx hb w1 w2 => lv_icmp_ne hx hb hdg ht w2 w1) kf kt
theorem zg_icmp_lt {x y : Int32} {off : Int} {tgt : Nat} (hdg : decode (zg_cc M) pc = .ok (.if_icmp .lt off, 3)) (ht : (pc : Int) + off = (tgt : Int)) (kt : x < y → zg_G l E d M tgt lv st σ r) (kf : ¬ x < y → zg_G l E d M (pc + 3) lv st σ r) : zg_G l E d M pc lv (.int y :: .int x :: st) σ r :=
  zg_stepB (P := x < y) (fun p e R s m args below meth c H locs cells slots ls Q hx hb w1 w2 => lv_icmp_lt hx hb hdg ht w1 w2) kt kf
theorem zg_icmp_ge {x y : Int32} {off : Int} {tgt : Nat} (hdg : decode (zg_cc M) pc = .ok (.if_icmp .ge off, 3)) (ht : (pc : Int) + off = (tgt : Int)) (kt : y ≤ x → zg_G l E d M tgt lv st σ r) (kf : ¬ y ≤ x → zg_G l E d M (pc + 3) lv st σ r) : zg_G l E d M pc lv (.int y :: .int x :: st) σ r :=
  zg_stepB (P := y ≤ x) (fun p e R s m args below meth c H locs cells slots ls Q hx hb w1 w2 => lv_icmp_ge hx hb hdg ht w1 w2) kt kf
theorem zg_icmp_gt {x y : Int32} {off : Int} {tgt : Nat} (hdg : decode (zg_cc M) pc = .ok (.if_icmp .gt off, 3)) (ht : (pc : Int) + off = (tgt : Int)) (kt : y < x → zg_G l E d M tgt lv st σ r) (kf : ¬ y < x → zg_G l E d M (pc + 3) lv st σ r) : zg_G l E d M pc lv (.int y :: .int x :: st) σ r :=
  zg_stepB (P := y < x) (fun p e R s m args below meth c H locs cells slots ls Q hx hb w1 w2 => lv_icmp_gt hx hb hdg ht w1 w2) kt kf
theorem zg_icmp_le {x y : Int32} {off : Int} {tgt : Nat} (hdg : decode (zg_cc M) pc = .ok (.if_icmp .le off, 3)) (ht : (pc : Int) + off = (tgt : Int)) (kt : x ≤ y → zg_G l E d M tgt lv st σ r) (kf : ¬ x ≤ y → zg_G l E d M (pc + 3) lv st σ r) : zg_G l E d M pc lv (.int y :: .int x :: st) σ r :=
  zg_stepB (P := x ≤ y) (fun p e R s m args below meth c H locs cells slots ls Q hx hb w1 w2 => lv_icmp_le hx hb hdg ht w1 w2) kt kf
theorem zg_iload {i : Nat} {x : Int32} (hdg : decode (zg_cc M) pc = .ok (.iload i, 2)) (hv : zg_at lv i = some (.int x)) (k : zg_G l E d M (pc + 2) lv (.int x :: st) σ r) : zg_G l E d M pc lv st σ r :=
  zg_step (fun p e R s m args below meth c H locs cells slots ls Q hx hb hl w => lv_iload hx hb hdg (zg_at_has hl hv) w) k
theorem zg_iload_n {i : Fin 4} {x : Int32} (hdg : decode (zg_cc M) pc = .ok (.iload_n i, 1)) (hv : zg_at lv (i : Nat) = some (.int x)) (k : zg_G l E d M (pc + 1) lv (.int x :: st) σ r) : zg_G l E d M pc lv st σ r :=
  zg_step (fun p e R s m args below meth c H locs cells slots ls Q hx hb hl w => lv_iload_n hx hb hdg rfl (zg_at_has hl hv) w) k
theorem zg_lload {i : Nat} {x : Int64} (hdg : decode (zg_cc M) pc = .ok (.lload i, 2)) (hv : zg_at lv i = some (.long x)) (k : zg_G l E d M (pc + 2) lv (.long x :: st) σ r) : zg_G l E d M pc lv st σ r :=
  zg_step (fun p e R s m args below meth c H locs cells slots ls Q hx hb hl w => lv_lload hx hb hdg (zg_at_has hl hv) w) k
theorem zg_lload_n {i : Fin 4} {x : Int64} (hdg : decode (zg_cc M) pc = .ok (.lload_n i, 1)) (hv : zg_at lv (i : Nat) = some (.long x)) (k : zg_G l E d M (pc + 1) lv (.long x :: st) σ r) : zg_G l E d M pc lv st σ r :=
  zg_step (fun p e R s m args below meth c H locs cells slots ls Q hx hb hl w => lv_lload_n hx hb hdg rfl (zg_at_has hl hv) w) k
theorem zg_aload {i : Nat} {x : Nat} (hdg : decode (zg_cc M) pc = .ok (.aload i, 2)) (hv : zg_at lv i = some (.ref x)) (k : zg_G l E d M (pc + 2) lv (.ref x :: st) σ r) : zg_G l E d M pc lv st σ r :=
  zg_step (fun p e R s m args below meth c H locs cells slots ls Q hx hb hl w => lv_aload hx hb hdg (zg_at_has hl hv) w) k
theorem zg_aload_n {i : Fin 4} {x : Nat} (hdg : decode (zg_cc M) pc = .ok (.aload_n i, 1)) (hv : zg_at lv (i : Nat) = some (.ref x)) (k : zg_G l E d M (pc + 1) lv (.ref x :: st) σ r) : zg_G l E d M pc lv st σ r :=
  zg_step (fun p e R s m args below meth c H locs cells slots ls Q hx hb hl w => lv_aload_n hx hb hdg rfl (zg_at_has hl hv) w) k
theorem zg_istore {i : Nat} {x : Int32} {lv2 : List (Nat × Value)} (hdg : decode (zg_cc M) pc = .ok (.istore i, 2)) (hn : i < zg_ml M) (he : zg_st1 lv i (.int x) = lv2) (k : zg_G l E d M (pc + 2) lv2 st σ r) : zg_G l E d M pc lv (.int x :: st) σ r :=
  zg_stepL (fun p e R s m args below meth c H locs cells slots ls Q hx hb hl w => lv_istore hx hb hdg hl hn he w) k
theorem zg_istore_n {i : Fin 4} {x : Int32} {lv2 : List (Nat × Value)} (hdg : decode (zg_cc M) pc = .ok (.istore_n i, 1)) (hn : (i : Nat) < zg_ml M) (he : zg_st1 lv (i : Nat) (.int x) = lv2) (k : zg_G l E d M (pc + 1) lv2 st σ r) : zg_G l E d M pc lv (.int x :: st) σ r :=
  zg_stepL (fun p e R s m args below meth c H locs cells slots ls Q hx hb hl w => lv_istore_n hx hb hdg rfl hl hn he w) k
theorem zg_lstore {i : Nat} {x : Int64} {lv2 : List (Nat × Value)} (hdg : decode (zg_cc M) pc = .ok (.lstore i, 2)) (hn : i + 1 < zg_ml M) (he : zg_st2 lv i (.long x) = lv2) (k : zg_G l E d M (pc + 2) lv2 st σ r) : zg_G l E d M pc lv (.long x :: st) σ r :=
  zg_stepL (fun p e R s m args below meth c H locs cells slots ls Q hx hb hl w => lv_lstore hx hb hdg hl hn he w) k
theorem zg_lstore_n {i : Fin 4} {x : Int64} {lv2 : List (Nat × Value)} (hdg : decode (zg_cc M) pc = .ok (.lstore_n i, 1)) (hn : (i : Nat) + 1 < zg_ml M) (he : zg_st2 lv (i : Nat) (.long x) = lv2) (k : zg_G l E d M (pc + 1) lv2 st σ r) : zg_G l E d M pc lv (.long x :: st) σ r :=
  zg_stepL (fun p e R s m args below meth c H locs cells slots ls Q hx hb hl w => lv_lstore_n hx hb hdg rfl hl hn he w) k
theorem zg_astore {i : Nat} {x : Nat} {lv2 : List (Nat × Value)} (hdg : decode (zg_cc M) pc = .ok (.astore i, 2)) (hn : i < zg_ml M) (he : zg_st1 lv i (.ref x) = lv2) (k : zg_G l E d M (pc + 2) lv2 st σ r) : zg_G l E d M pc lv (.ref x :: st) σ r :=
  zg_stepL (fun p e R s m args below meth c H locs cells slots ls Q hx hb hl w => lv_astore hx hb hdg hl hn he w) k
theorem zg_astore_n {i : Fin 4} {x : Nat} {lv2 : List (Nat × Value)} (hdg : decode (zg_cc M) pc = .ok (.astore_n i, 1)) (hn : (i : Nat) < zg_ml M) (he : zg_st1 lv (i : Nat) (.ref x) = lv2) (k : zg_G l E d M (pc + 1) lv2 st σ r) : zg_G l E d M pc lv (.ref x :: st) σ r :=
  zg_stepL (fun p e R s m args below meth c H locs cells slots ls Q hx hb hl w => lv_astore_n hx hb hdg rfl hl hn he w) k
theorem zg_iinc {i : Nat} {n : Int} {x v : Int32} {lv2 : List (Nat × Value)} (hdg : decode (zg_cc M) pc = .ok (.iinc i n, 3)) (ha : zg_at lv i = some (.int x)) (hv : x + Int32.ofInt n = v) (hn : i < zg_ml M) (he : zg_st1 lv i (.int v) = lv2) (k : zg_G l E d M (pc + 3) lv2 st σ r) : zg_G l E d M pc lv st σ r := by
  obtain ⟨j, hj⟩ := zg_at_mem ha
  exact zg_stepL (fun p e R s m args below meth c H locs cells slots ls Q hx hb hl w => lv_iinc hx hb hdg hl hj hv hn he w) k
theorem zg_tableIn {dflt lo hi : Int} {offs : Array Int} {len : Nat} {x : Int32} {off : Int} {tgt : Nat} (hdg : decode (zg_cc M) pc = .ok (.tableswitch dflt lo hi offs, len)) (h1 : ¬ x.toInt < lo) (h2 : ¬ hi < x.toInt) (ho : offs[(x.toInt - lo).toNat]? = some off) (ht : (pc : Int) + off = (tgt : Int)) (k : zg_G l E d M tgt lv st σ r) : zg_G l E d M pc lv (.int x :: st) σ r :=
  zg_step (fun p e R s m args below meth c H locs cells slots ls Q hx hb hl w => lv_tableIn hx hb hdg h1 h2 ho ht w) k
theorem zg_tableOut {dflt lo hi : Int} {offs : Array Int} {len : Nat} {x : Int32} {tgt : Nat} (hdg : decode (zg_cc M) pc = .ok (.tableswitch dflt lo hi offs, len)) (h : x.toInt < lo ∨ hi < x.toInt) (ht : (pc : Int) + dflt = (tgt : Int)) (k : zg_G l E d M tgt lv st σ r) : zg_G l E d M pc lv (.int x :: st) σ r :=
  zg_step (fun p e R s m args below meth c H locs cells slots ls Q hx hb hl w => lv_tableOut hx hb hdg h ht w) k
theorem zg_lookup {dflt : Int} {ps : Array (Int × Int)} {len : Nat} {x : Int32} {off : Int} {tgt : Nat} (hdg : decode (zg_cc M) pc = .ok (.lookupswitch dflt ps, len)) (hp : (ps.toList.zip (ps.toList.drop 1)).all (fun (a, next) => a.1 < next.1) = true) (ho : Op.lookupswitch.offset ps.toList dflt x.toInt = off) (ht : (pc : Int) + off = (tgt : Int)) (k : zg_G l E d M tgt lv st σ r) : zg_G l E d M pc lv (.int x :: st) σ r :=
  zg_step (fun p e R s m args below meth c H locs cells slots ls Q hx hb hl w => lv_lookup hx hb hdg hp ho ht w) k
end ZG2
section ZG3
variable {l : Launch} {E : zg_E} {d : Nat} {M : zg_M} {pc : Nat} {lv : List (Nat × Value)} {st : List Value} {σ : zg_H} {r : zg_R}
theorem zg_mq {p : Program} {e : Env} {R : Room} {s : State} {m : MethodId} {args : Array Value} {below : List Frame} {meth : Method} {c : Code} {H : Heap} {locs : List Loc} {cells slots mc ms : Nat} {g : JFrame}
    (w : W p l e R s m args below meth c H locs cells slots (MQ below (zg_Q E r) args s mc ms (fun q => zg_b E ≤ q)) g) : W p l e R s m args below meth c H locs cells slots (zg_end E below r args s mc ms) g := by
  intro T hT X
  obtain ⟨t, a, o, b1, b2, b3, L, ⟨hv, hW, hs⟩, hL⟩ := w T hT X
  exact ⟨t, a, o, b1, b2, b3, L, ⟨hW, hs⟩, hL⟩
theorem zg_iret {v : Int32} (hdg : decode (zg_cc M) pc = .ok (.ireturn, 1)) (hrt : zg_rt M = some .int) (hr : r = (.inl (some (.int v)), σ)) : zg_G l E d M pc lv [.int v] σ r := by
  subst hr
  refine ⟨Nat.le_refl _, Nat.le_refl _, ?_⟩
  intro p e R s m args below meth c H locs cells slots ls u0 mc ms hm1 hm2 hc h1 h2 h3 h4 h5 h6 h7 h8
  have e1 : cells = mc := by dsimp only at h3; omega
  have e2 : slots = ms := by dsimp only at h4; omega
  subst e1 e2
  exact zg_mq (W.iret hc.1 hc.2.1 (hc.2.2.2.1.trans hrt) (fun t ht hW => ⟨by rw [ht]; exact h5, fun q hq => by rw [ht]; exact h6 q hq, rfl⟩) h7 hdg hc.2.2.2.2.2.1)
theorem zg_zret {v : Int32} {ty : FieldType} (hdg : decode (zg_cc M) pc = .ok (.ireturn, 1)) (hrt : zg_rt M = some ty) (hn : narrow ty (.int v) = .int v) (hr : r = (.inl (some (.int v)), σ)) : zg_G l E d M pc lv [.int v] σ r := by
  subst hr
  refine ⟨Nat.le_refl _, Nat.le_refl _, ?_⟩
  intro p e R s m args below meth c H locs cells slots ls u0 mc ms hm1 hm2 hc h1 h2 h3 h4 h5 h6 h7 h8
  have e1 : cells = mc := by dsimp only at h3; omega
  have e2 : slots = ms := by dsimp only at h4; omega
  subst e1 e2
  exact zg_mq (W.zret hc.1 hc.2.1 (hc.2.2.2.1.trans hrt) hn (fun t ht hW => ⟨by rw [ht]; exact h5, fun q hq => by rw [ht]; exact h6 q hq, rfl⟩) h7 hdg hc.2.2.2.2.2.1)
theorem zg_lret {v : Int64} (hdg : decode (zg_cc M) pc = .ok (.lreturn, 1)) (hrt : zg_rt M = some .long) (hr : r = (.inl (some (.long v)), σ)) : zg_G l E d M pc lv [.long v] σ r := by
  subst hr
  refine ⟨Nat.le_refl _, Nat.le_refl _, ?_⟩
  intro p e R s m args below meth c H locs cells slots ls u0 mc ms hm1 hm2 hc h1 h2 h3 h4 h5 h6 h7 h8
  have e1 : cells = mc := by dsimp only at h3; omega
  have e2 : slots = ms := by dsimp only at h4; omega
  subst e1 e2
  exact zg_mq (W.lret hc.1 hc.2.1 (hc.2.2.2.1.trans hrt) (fun t ht hW => ⟨by rw [ht]; exact h5, fun q hq => by rw [ht]; exact h6 q hq, rfl⟩) h7 hdg hc.2.2.2.2.2.1)
theorem zg_vret (hdg : decode (zg_cc M) pc = .ok (.return_, 1)) (hrt : zg_rt M = none) (hr : r = (.inl none, σ)) : zg_G l E d M pc lv [] σ r := by
  subst hr
  refine ⟨Nat.le_refl _, Nat.le_refl _, ?_⟩
  intro p e R s m args below meth c H locs cells slots ls u0 mc ms hm1 hm2 hc h1 h2 h3 h4 h5 h6 h7 h8
  have e1 : cells = mc := by dsimp only at h3; omega
  have e2 : slots = ms := by dsimp only at h4; omega
  subst e1 e2
  exact zg_mq (W.vret hc.1 hc.2.1 (hc.2.2.2.1.trans hrt) (fun t ht hW => ⟨by rw [ht]; exact h5, fun q hq => by rw [ht]; exact h6 q hq, rfl⟩) h7 hdg hc.2.2.2.2.2.1)
theorem zg_one {D : va_G} {cl : List vw_C} {q : Nat × va_E} {H : Heap} (h : va_at D cl q H) : va_P D cl [q] H := by
  intro k x hk
  cases k with
  | zero =>
    have : q = x := Option.some.inj hk
    rw [← this]; exact h
  | succ k => simp at hk
/-- a field of a class of ours: what the tables say of it -/
def zg_fld (E : zg_E) (own : String) (index ci k : Nat) : Prop := ∃ (C : String) (T : u_T) (N : Nat), (zg_cl E)[ci]? = some (C, T, N) ∧ k < N ∧ Cond.fieldLink own index (T k).1 (T k).2.1 (T k).2.2.1 ∈ zg_ws E ∧ ∀ w ∈ u_ws C T N, w ∈ zg_ws E
def zg_fty (E : zg_E) (ci k : Nat) (ty : FieldType) (fin : Bool) : Prop := ∃ (C : String) (T : u_T) (N : Nat) (ty0 : Nat → FieldType), (zg_cl E)[ci]? = some (C, T, N) ∧ (∀ j, j < N → parseFieldDescriptor (T j).2.2.1 = some (ty0 j)) ∧ (∀ a, a < N → ∀ b, b < N → a ≠ b → (T a).2.1 ≠ (T b).2.1) ∧ (T k).2.2.2 = fin ∧ parseFieldDescriptor (T k).2.2.1 = some ty
theorem zg_getf {index ci k a : Nat} {fs : List Value} {v : Value} (hdg : decode (zg_cc M) pc = .ok (.getfield index, 3)) (hf : zg_fld E (zg_my M).cls index ci k) (hσ : σ.1 a = some (.inr (ci, fs))) (hv : fs[k]? = some v)
    (kk : zg_G l E d M (pc + 3) lv (v :: st) σ r) : zg_G l E d M pc lv (.ref a :: st) σ r := by
  refine ⟨kk.1, kk.2.1, ?_⟩
  intro p e R s m args below meth c H locs cells slots ls u0 mc ms hm1 hm2 hc h1 h2 h3 h4 h5 h6 h7 h8
  obtain ⟨C, T, N, c1, c2, c3, c4⟩ := hf
  obtain ⟨b1, b2, b3⟩ := hc.2.2.2.2.2.2.2.1.here
  have hts : ∀ w ∈ zg_ws E, w.before args s = true := fun w hw => b1 w hw args
  exact va_get (D := zg_D E) (cl := zg_cl E) (tys := zg_ty E) (ws := [(a, .inr (ci, fs))]) (C := C) (T := T) (N := N) (ci := ci) hc.1 hc.2.1 hts c4 hc.2.2.2.2.1 b2 (zg_one (h5.2.2 a _ hσ).1) 0 rfl c1 k c2 (hts _ c3) (fun x hx => hx) hv hdg
    (kk.2.2 p e R s m args below meth c H locs cells slots ls u0 mc ms hm1 hm2 hc h1 h2 h3 h4 h5 h6 h7 h8)
/-- the heap with another content at a -/
def zg_up (σ : zg_H) (a : Nat) (e : va_E) : zg_H := (fun q => if q = a then some e else σ.1 q, σ.2)
theorem zg_rep_up {σ : zg_H} {H H1 : Heap} {a : Nat} {e0 e : va_E} (h : zg_rep E σ H) (ha : σ.1 a = some e0) (hz : H1.size = H.size) (ho : ∀ q : Nat, q ≠ a → H1[q]? = H[q]?) (he : va_at (zg_D E) (zg_cl E) (a, e) H1) : zg_rep E (zg_up σ a e) H1 := by
  refine ⟨hz.trans h.1, by rw [hz]; exact h.2.1, fun q x hx => ?_⟩
  by_cases hq : q = a
  · subst hq
    have hx : (if q = q then some e else σ.1 q) = some x := hx
    rw [if_pos rfl] at hx
    cases hx
    exact ⟨he, (h.2.2 _ _ ha).2⟩
  · have hx : (if q = a then some e else σ.1 q) = some x := hx
    rw [if_neg hq] at hx
    exact ⟨(h.2.2 q x hx).1.kept (ho q hq), (h.2.2 q x hx).2⟩
theorem zg_old_up {σ : zg_H} {H H1 H0 : Heap} {a : Nat} {e0 : va_E} (h : zg_rep E σ H) (ha : σ.1 a = some e0) (ho : ∀ q : Nat, q ≠ a → H1[q]? = H[q]?) (h6 : ∀ q : Nat, q < zg_b E → H[q]? = H0[q]?) : ∀ q : Nat, q < zg_b E → H1[q]? = H0[q]? := by
  intro q hq
  have := (h.2.2 _ _ ha).2
  rw [ho q (by omega)]
  exact h6 q hq
theorem zg_locs_up {σ : zg_H} {H : Heap} {a i : Nat} {e0 : va_E} {locs : List Loc} (h : zg_rep E σ H) (ha : σ.1 a = some e0) (h7 : ∀ x ∈ locs, zg_b E ≤ x.base) : ∀ x ∈ locs ++ [(⟨a, i⟩ : Loc)], zg_b E ≤ x.base := by
  intro x hx
  rcases List.mem_append.mp hx with hx | hx
  · exact h7 x hx
  · rw [List.mem_singleton.mp hx]; exact (h.2.2 _ _ ha).2
theorem zg_putf {index ci k a : Nat} {fs : List Value} {v : Value} {ty : FieldType} {σ2 : zg_H} (hdg : decode (zg_cc M) pc = .ok (.putfield index, 3)) (hf : zg_fld E (zg_my M).cls index ci k) (ht : zg_fty E ci k ty false) (hσ : σ.1 a = some (.inr (ci, fs))) (hl : k < fs.length)
    (hn : narrow ty v = v) (hfit : fits ty v = true) (h2 : zg_up σ a (.inr (ci, fs.set k v)) = σ2) (kk : zg_G l E d M (pc + 3) lv st σ2 r) : zg_G l E d M pc lv (v :: .ref a :: st) σ r := by
  subst h2
  refine ⟨kk.1, kk.2.1, ?_⟩
  intro p e R s m args below meth c H locs cells slots ls u0 mc ms hm1 hm2 hc h1 h2 h3 h4 h5 h6 h7 h8
  obtain ⟨C, T, N, c1, c2, c3, c4⟩ := hf
  obtain ⟨C', T', N', ty0, g1, g2, g3, g4, g5⟩ := ht
  cases Option.some.inj (c1.symm.trans g1)
  obtain ⟨b1, b2, b3⟩ := hc.2.2.2.2.2.2.2.1.here
  have hts : ∀ w ∈ zg_ws E, w.before args s = true := fun w hw => b1 w hw args
  have hap := va_apart (own := (zg_my M).cls) hts c4 ty0 g2 g3 b2 c1
  obtain ⟨r9, h9, cell, q1, q2, q3, q4⟩ := (h5.2.2 a _ hσ).1
  have hr9 : r9 = (C, T, N) := Option.some.inj (h9.symm.trans c1)
  subst hr9
  obtain ⟨hS, hfc, kC, hkC, hkind⟩ := b2.1 ci _ c1
  obtain ⟨cf, kf, fi, f, hi, hsl⟩ := hS k c2
  have hlay := hts _ (c4 _ (u_in_lay c2))
  unfold u_lay at hlay
  rw [if_neg (by rw [g4]; decide)] at hlay
  have hst := (u_facts hfc hkC (u_lays hts c4 c2) hi).1
  have h10 := u_store hfc hkC hkind hlay hi g5 hn hfit
  refine W.putK hc.1 hc.2.1 (f := f) ⟨hc.2.2.2.2.1, hts _ c3, ⟨_, _, _, hi⟩, hst⟩ (by rw [q2]; exact h10) q1 q3 (by rw [hsl]; exact k2_hasslot (q4 k c2)) rfl rfl hdg fun H' e1 e2 e3 => ?_
  rw [hsl] at e1 ⊢
  have he : va_at (zg_D E) (zg_cl E) (a, .inr (ci, fs.set k v)) H' := ⟨_, c1, t_OB.to (V := updV (vp_V fs) k v) ⟨_, e1, q2, q3, t_set q4 hap c2 v⟩ (fun j _ => vp_updV_set hl v j)⟩
  exact kk.2.2 p e R s m args below meth c H' _ cells slots ls u0 mc ms hm1 hm2 hc h1 h2 h3 h4 (zg_rep_up h5 hσ e2 e3 he) (zg_old_up h5 hσ e3 h6) (zg_locs_up h5 hσ h7) h8
/-- a final field, in a constructor -/
theorem zg_putF {index ci k a : Nat} {fs : List Value} {v : Value} {ty : FieldType} {σ2 : zg_H} (hdg : decode (zg_cc M) pc = .ok (.putfield index, 3)) (hf : zg_fld E (zg_my M).cls index ci k) (ht : zg_fty E ci k ty true) (hown : ∀ (C : String) (T : u_T) (N : Nat), (zg_cl E)[ci]? = some (C, T, N) → (T k).1 = (zg_my M).cls) (hnm : (zg_my M).name = "<init>") (hσ : σ.1 a = some (.inr (ci, fs))) (hl : k < fs.length)
    (hn : narrow ty v = v) (hfit : fits ty v = true) (h2 : zg_up σ a (.inr (ci, fs.set k v)) = σ2) (kk : zg_G l E d M (pc + 3) lv st σ2 r) : zg_G l E d M pc lv (v :: .ref a :: st) σ r := by
  subst h2
  refine ⟨kk.1, kk.2.1, ?_⟩
  intro p e R s m args below meth c H locs cells slots ls u0 mc ms hm1 hm2 hc h1 h2 h3 h4 h5 h6 h7 h8
  obtain ⟨C, T, N, c1, c2, c3, c4⟩ := hf
  obtain ⟨C', T', N', ty0, g1, g2, g3, g4, g5⟩ := ht
  cases Option.some.inj (c1.symm.trans g1)
  obtain ⟨b1, b2, b3⟩ := hc.2.2.2.2.2.2.2.1.here
  have hts : ∀ w ∈ zg_ws E, w.before args s = true := fun w hw => b1 w hw args
  have hap := va_apart (own := (zg_my M).cls) hts c4 ty0 g2 g3 b2 c1
  obtain ⟨r9, h9, cell, q1, q2, q3, q4⟩ := (h5.2.2 a _ hσ).1
  have hr9 : r9 = (C, T, N) := Option.some.inj (h9.symm.trans c1)
  subst hr9
  obtain ⟨hS, hfc, kC, hkC, hkind⟩ := b2.1 ci _ c1
  obtain ⟨cf, kf, fi, f, hi, hsl⟩ := hS k c2
  have hlay := hts _ (c4 _ (u_in_lay c2))
  unfold u_lay at hlay
  rw [if_pos g4] at hlay
  have hst := (u_facts hfc hkC (u_lays hts c4 c2) hi).1
  have hcf : m.cls = cf := by
    obtain ⟨_, _, c', _, _, _, -, -, hf', -, -, -, hown2, -⟩ := Cond.laysFinal_spec hlay
    have e1 : c' = cf := by have := hi.symm.trans hf'; simp at this; exact this.1.symm
    rw [hown C T N c1] at hown2
    rw [← e1]; exact Option.some.inj (hc.2.2.2.2.1.symm.trans hown2)
  have h10 := u_fits hfc hkC hkind (Or.inr hlay) hi g5 hn hfit
  refine W.putFinK hc.1 hc.2.1 hc.2.2.2.2.1 (hts _ c3) hi hst hcf (hc.2.2.2.2.2.2.1.trans hnm) (by rw [q2]; exact h10) q1 q3 (by rw [hsl]; exact k2_hasslot (q4 k c2)) rfl rfl hdg fun H' e1 e2 e3 => ?_
  rw [hsl] at e1 ⊢
  have he : va_at (zg_D E) (zg_cl E) (a, .inr (ci, fs.set k v)) H' := ⟨_, c1, t_OB.to (V := updV (vp_V fs) k v) ⟨_, e1, q2, q3, t_set q4 hap c2 v⟩ (fun j _ => vp_updV_set hl v j)⟩
  exact kk.2.2 p e R s m args below meth c H' _ cells slots ls u0 mc ms hm1 hm2 hc h1 h2 h3 h4 (zg_rep_up h5 hσ e2 e3 he) (zg_old_up h5 hσ e3 h6) (zg_locs_up h5 hσ h7) h8
/-- arrays -/
theorem zg_iald {a k n t0 : Nat} {i : Int32} {cA : ClassId} {f : Nat → Int32} (hdg : decode (zg_cc M) pc = .ok (.iaload, 1)) (hσ : σ.1 a = some (.inl (cA, n, .inl f))) (ht : (zg_ty E)[t0]? = some (cA, .int)) (hi : i = nI k) (hk : k < n) (hn : n < 2 ^ 31)
    (kk : zg_G l E d M (pc + 1) lv (.int (f k) :: st) σ r) : zg_G l E d M pc lv (.int i :: .ref a :: st) σ r := by
  subst hi
  refine ⟨kk.1, kk.2.1, ?_⟩
  intro p e R s m args below meth c H locs cells slots ls u0 mc ms hm1 hm2 hc h1 h2 h3 h4 h5 h6 h7 h8
  obtain ⟨b1, b2, b3⟩ := hc.2.2.2.2.2.2.2.1.here
  refine va_iald (D := zg_D E) (cl := zg_cl E) (tys := zg_ty E) (ws := [(a, .inl (cA, n, .inl f))]) hc.1 hc.2.1 b2 (zg_one (h5.2.2 a _ hσ).1) 0 t0 rfl ht (vp_in_nI hk hn) hdg ?_
  rw [nI_clamp (Nat.lt_trans hk hn)]
  exact kk.2.2 p e R s m args below meth c H locs cells slots ls u0 mc ms hm1 hm2 hc h1 h2 h3 h4 h5 h6 h7 h8
theorem zg_zald {a k n t0 : Nat} {i : Int32} {cA : ClassId} {f : Nat → Int32} (hdg : decode (zg_cc M) pc = .ok (.baload, 1)) (hσ : σ.1 a = some (.inl (cA, n, .inl f))) (ht : (zg_ty E)[t0]? = some (cA, .boolean)) (hi : i = nI k) (hk : k < n) (hn : n < 2 ^ 31)
    (kk : zg_G l E d M (pc + 1) lv (.int (f k) :: st) σ r) : zg_G l E d M pc lv (.int i :: .ref a :: st) σ r := by
  subst hi
  refine ⟨kk.1, kk.2.1, ?_⟩
  intro p e R s m args below meth c H locs cells slots ls u0 mc ms hm1 hm2 hc h1 h2 h3 h4 h5 h6 h7 h8
  obtain ⟨b1, b2, b3⟩ := hc.2.2.2.2.2.2.2.1.here
  refine va_zald (D := zg_D E) (cl := zg_cl E) (tys := zg_ty E) (ws := [(a, .inl (cA, n, .inl f))]) hc.1 hc.2.1 b2 (zg_one (h5.2.2 a _ hσ).1) 0 t0 rfl ht (vp_in_nI hk hn) hdg ?_
  rw [nI_clamp (Nat.lt_trans hk hn)]
  exact kk.2.2 p e R s m args below meth c H locs cells slots ls u0 mc ms hm1 hm2 hc h1 h2 h3 h4 h5 h6 h7 h8
theorem zg_lald {a k n t0 : Nat} {i : Int32} {cA : ClassId} {f : Nat → Int64} (hdg : decode (zg_cc M) pc = .ok (.laload, 1)) (hσ : σ.1 a = some (.inl (cA, n, .inr (.inl f)))) (ht : (zg_ty E)[t0]? = some (cA, .long)) (hi : i = nI k) (hk : k < n) (hn : n < 2 ^ 31)
    (kk : zg_G l E d M (pc + 1) lv (.long (f k) :: st) σ r) : zg_G l E d M pc lv (.int i :: .ref a :: st) σ r := by
  subst hi
  refine ⟨kk.1, kk.2.1, ?_⟩
  intro p e R s m args below meth c H locs cells slots ls u0 mc ms hm1 hm2 hc h1 h2 h3 h4 h5 h6 h7 h8
  obtain ⟨b1, b2, b3⟩ := hc.2.2.2.2.2.2.2.1.here
  refine va_lald (D := zg_D E) (cl := zg_cl E) (tys := zg_ty E) (ws := [(a, .inl (cA, n, .inr (.inl f)))]) hc.1 hc.2.1 b2 (zg_one (h5.2.2 a _ hσ).1) 0 t0 rfl ht (vp_in_nI hk hn) hdg ?_
  rw [nI_clamp (Nat.lt_trans hk hn)]
  exact kk.2.2 p e R s m args below meth c H locs cells slots ls u0 mc ms hm1 hm2 hc h1 h2 h3 h4 h5 h6 h7 h8
theorem zg_aald {a k n t0 b : Nat} {i : Int32} {cA : ClassId} {C : String} {f : Nat → Option Nat} (hdg : decode (zg_cc M) pc = .ok (.aaload, 1)) (hσ : σ.1 a = some (.inl (cA, n, .inr (.inr (.inr (.inr f)))))) (ht : (zg_ty E)[t0]? = some (cA, .object C)) (hi : i = nI k) (hk : k < n) (hn : n < 2 ^ 31) (hb : f k = some b)
    (kk : zg_G l E d M (pc + 1) lv (.ref b :: st) σ r) : zg_G l E d M pc lv (.int i :: .ref a :: st) σ r := by
  subst hi
  refine ⟨kk.1, kk.2.1, ?_⟩
  intro p e R s m args below meth c H locs cells slots ls u0 mc ms hm1 hm2 hc h1 h2 h3 h4 h5 h6 h7 h8
  obtain ⟨b1, b2, b3⟩ := hc.2.2.2.2.2.2.2.1.here
  refine va_aldq (D := zg_D E) (cl := zg_cl E) (tys := zg_ty E) (ws := [(a, .inl (cA, n, .inr (.inr (.inr (.inr f)))))]) hc.1 hc.2.1 b2 (zg_one (h5.2.2 a _ hσ).1) 0 t0 rfl ht (vp_in_nI hk hn) hdg ?_
  rw [nI_clamp (Nat.lt_trans hk hn), hb]
  exact kk.2.2 p e R s m args below meth c H locs cells slots ls u0 mc ms hm1 hm2 hc h1 h2 h3 h4 h5 h6 h7 h8
theorem zg_iast {a k n t0 : Nat} {i x : Int32} {cA : ClassId} {f : Nat → Int32} {σ2 : zg_H} (hdg : decode (zg_cc M) pc = .ok (.iastore, 1)) (hσ : σ.1 a = some (.inl (cA, n, .inl f))) (ht : (zg_ty E)[t0]? = some (cA, .int)) (hi : i = nI k) (hk : k < n) (hn : n < 2 ^ 31)
    (h2 : zg_up σ a (.inl (cA, n, .inl (upd f k x))) = σ2) (kk : zg_G l E d M (pc + 1) lv st σ2 r) : zg_G l E d M pc lv (.int x :: .int i :: .ref a :: st) σ r := by
  subst hi h2
  refine ⟨kk.1, kk.2.1, ?_⟩
  intro p e R s m args below meth c H locs cells slots ls u0 mc ms hm1 hm2 hc h1 h2 h3 h4 h5 h6 h7 h8
  obtain ⟨b1, b2, b3⟩ := hc.2.2.2.2.2.2.2.1.here
  have hcell := (h5.2.2 a _ hσ).1
  refine W.iast hc.1 hc.2.1 hcell ((b2.2 t0 _ ht).1 n (fun j => .int (f j))) (fun q => by cases q) (by show ¬ (nI k < 0 ∨ (arrV _ _ _).slots.size ≤ _); rw [arrV_size]; exact vp_in_nI hk hn) rfl rfl hdg fun H1 e1 z oq => ?_
  have he : va_at (zg_D E) (zg_cl E) (a, .inl (cA, n, .inl (upd f k x))) H1 := by
    show H1[a]? = some (vp_cell _ _)
    rw [e1, vp_cell_i, vp_cell_i, arrV_store, nI_clamp (Nat.lt_trans hk hn)]
    congr 2
    funext q
    by_cases hq : q = k
    · subst hq; simp [updV, upd]
    · simp [updV, upd, hq]
  exact kk.2.2 p e R s m args below meth c H1 _ cells slots ls u0 mc ms hm1 hm2 hc h1 h2 h3 h4 (zg_rep_up h5 hσ z oq he) (zg_old_up h5 hσ oq h6) (zg_locs_up h5 hσ h7) h8
theorem zg_last {a k n t0 : Nat} {i : Int32} {x : Int64} {cA : ClassId} {f : Nat → Int64} {σ2 : zg_H} (hdg : decode (zg_cc M) pc = .ok (.lastore, 1)) (hσ : σ.1 a = some (.inl (cA, n, .inr (.inl f)))) (ht : (zg_ty E)[t0]? = some (cA, .long)) (hi : i = nI k) (hk : k < n) (hn : n < 2 ^ 31)
    (h2 : zg_up σ a (.inl (cA, n, .inr (.inl (vp_updL f k x)))) = σ2) (kk : zg_G l E d M (pc + 1) lv st σ2 r) : zg_G l E d M pc lv (.long x :: .int i :: .ref a :: st) σ r := by
  subst hi h2
  refine ⟨kk.1, kk.2.1, ?_⟩
  intro p e R s m args below meth c H locs cells slots ls u0 mc ms hm1 hm2 hc h1 h2 h3 h4 h5 h6 h7 h8
  obtain ⟨b1, b2, b3⟩ := hc.2.2.2.2.2.2.2.1.here
  have hcell := (h5.2.2 a _ hσ).1
  refine W.last hc.1 hc.2.1 hcell ((b2.2 t0 _ ht).1 n (fun j => .long (f j))) (fun q => by cases q) (by show ¬ (nI k < 0 ∨ (arrV _ _ _).slots.size ≤ _); rw [arrV_size]; exact vp_in_nI hk hn) rfl rfl hdg fun H1 e1 z oq => ?_
  have he : va_at (zg_D E) (zg_cl E) (a, .inl (cA, n, .inr (.inl (vp_updL f k x)))) H1 := by
    show H1[a]? = some (vp_cell _ _)
    rw [e1, vp_cell_l, vp_cell_l, arrV_store, nI_clamp (Nat.lt_trans hk hn)]
    congr 2
    funext q
    by_cases hq : q = k
    · subst hq; simp [updV, vp_updL]
    · simp [updV, vp_updL, hq]
  exact kk.2.2 p e R s m args below meth c H1 _ cells slots ls u0 mc ms hm1 hm2 hc h1 h2 h3 h4 (zg_rep_up h5 hσ z oq he) (zg_old_up h5 hσ oq h6) (zg_locs_up h5 hσ h7) h8
theorem zg_zast {a k n t0 : Nat} {i x : Int32} {cA : ClassId} {f : Nat → Int32} {σ2 : zg_H} (hdg : decode (zg_cc M) pc = .ok (.bastore, 1)) (hσ : σ.1 a = some (.inl (cA, n, .inl f))) (ht : (zg_ty E)[t0]? = some (cA, .boolean)) (hi : i = nI k) (hk : k < n) (hn : n < 2 ^ 31) (hx : narrow .boolean (.int x) = .int x)
    (h2 : zg_up σ a (.inl (cA, n, .inl (upd f k x))) = σ2) (kk : zg_G l E d M (pc + 1) lv st σ2 r) : zg_G l E d M pc lv (.int x :: .int i :: .ref a :: st) σ r := by
  subst hi h2
  refine ⟨kk.1, kk.2.1, ?_⟩
  intro p e R s m args below meth c H locs cells slots ls u0 mc ms hm1 hm2 hc h1 h2 h3 h4 h5 h6 h7 h8
  obtain ⟨b1, b2, b3⟩ := hc.2.2.2.2.2.2.2.1.here
  have hcell := (h5.2.2 a _ hσ).1
  refine W.zast hc.1 hc.2.1 hcell ((b2.2 t0 _ ht).1 n (fun j => .int (f j))) (fun q => by cases q) (by show ¬ (nI k < 0 ∨ (arrV _ _ _).slots.size ≤ _); rw [arrV_size]; exact vp_in_nI hk hn) rfl rfl hdg fun H1 e1 z oq => ?_
  have he : va_at (zg_D E) (zg_cl E) (a, .inl (cA, n, .inl (upd f k x))) H1 := by
    show H1[a]? = some (vp_cell _ _)
    rw [e1, hx, vp_cell_i, vp_cell_i, arrV_store, nI_clamp (Nat.lt_trans hk hn)]
    congr 2
    funext q
    by_cases hq : q = k
    · subst hq; simp [updV, upd]
    · simp [updV, upd, hq]
  exact kk.2.2 p e R s m args below meth c H1 _ cells slots ls u0 mc ms hm1 hm2 hc h1 h2 h3 h4 (zg_rep_up h5 hσ z oq he) (zg_old_up h5 hσ oq h6) (zg_locs_up h5 hσ h7) h8
end ZG3
end
section
section ZG4
variable {l : Launch} {E : zg_E} {d : Nat} {M : zg_M} {pc : Nat} {lv : List (Nat × Value)} {st : List Value} {σ : zg_H} {r : zg_R}
theorem zg_aast {a k n t0 v ci : Nat} {i : Int32} {cA : ClassId} {q : vw_C} {vs : List Value} {f : Nat → Option Nat} {σ2 : zg_H} (hdg : decode (zg_cc M) pc = .ok (.aastore, 1)) (hσ : σ.1 a = some (.inl (cA, n, .inr (.inr (.inr (.inr f)))))) (ht : (zg_ty E)[t0]? = some (cA, .object q.1)) (hv : σ.1 v = some (.inr (ci, vs))) (hq : (zg_cl E)[ci]? = some q)
    (hi : i = nI k) (hk : k < n) (hn : n < 2 ^ 31) (h2 : zg_up σ a (.inl (cA, n, .inr (.inr (.inr (.inr (va_up f k (some v))))))) = σ2) (kk : zg_G l E d M (pc + 1) lv st σ2 r) : zg_G l E d M pc lv (.ref v :: .int i :: .ref a :: st) σ r := by
  subst hi h2
  refine ⟨kk.1, kk.2.1, ?_⟩
  intro p e R s m args below meth c H locs cells slots ls u0 mc ms hm1 hm2 hc h1 h2 h3 h4 h5 h6 h7 h8
  obtain ⟨b1, b2, b3⟩ := hc.2.2.2.2.2.2.2.1.here
  have hcell := (h5.2.2 a _ hσ).1
  obtain ⟨r', hr', cellV, g1, g2, g3, -⟩ := (h5.2.2 v _ hv).1
  have hcls := (b2.1 ci q hq).2
  obtain ⟨kA, comp, k1, k2, k3, -⟩ := (b2.2 t0 _ ht).2
  have hcomp : comp = (zg_D E).1 ci := Option.some.inj (k3.symm.trans hcls.1)
  subst hcomp
  obtain ⟨kC, hkC, -⟩ := hcls.2
  refine W.aast hc.1 hc.2.1 hcell (fun q h => by cases h) (fun h => by cases h) k1 k2 rfl hkC ⟨nI_pos (Nat.lt_trans hk hn), by show _ < (arrV _ _ _).slots.size; rw [arrV_size, nI_clamp (Nat.lt_trans hk hn)]; exact hk⟩ g1 (fun q h => by rw [g3] at h; cases h) (by rw [g2]; exact hkC) (by rw [g2]; exact va_assign hcls) rfl rfl hdg fun H1 e1 z oq => ?_
  have he : va_at (zg_D E) (zg_cl E) (a, .inl (cA, n, .inr (.inr (.inr (.inr (va_up f k (some v))))))) H1 := by
    show H1[a]? = some (vp_cell _ _)
    rw [e1, vp_cell_q, vp_cell_q, arrV_store, nI_clamp (Nat.lt_trans hk hn)]
    congr 2
    funext x
    by_cases hx : x = k
    · subst hx; simp [updV, va_up, va_rf]
    · simp [updV, va_up, hx]
  exact kk.2.2 p e R s m args below meth c H1 _ cells slots ls u0 mc ms hm1 hm2 hc h1 h2 h3 h4 (zg_rep_up h5 hσ z oq he) (zg_old_up h5 hσ oq h6) (zg_locs_up h5 hσ h7) h8
/-- the heap with a new cell of n slots -/
def zg_al (σ : zg_H) (e : va_E) (n : Nat) : zg_H := (fun q => if q = zg_sz σ then some e else σ.1 q, zg_sz σ + 1, zg_us σ + n)
theorem zg_rep_al {σ : zg_H} {H H1 : Heap} {e : va_E} (n : Nat) (h : zg_rep E σ H) (hz : H1.size = H.size + 1) (ho : ∀ q : Nat, q < H.size → H1[q]? = H[q]?) (he : va_at (zg_D E) (zg_cl E) (H.size, e) H1) : zg_rep E (zg_al σ e n) H1 := by
  refine ⟨by rw [hz, h.1]; rfl, by have := h.2.1; omega, fun q x hx => ?_⟩
  have hx : (if q = zg_sz σ then some e else σ.1 q) = some x := hx
  by_cases hq : q = zg_sz σ
  · rw [if_pos hq] at hx
    cases hx
    rw [← h.1] at hq
    subst hq
    exact ⟨he, h.2.1⟩
  · rw [if_neg hq] at hx
    exact ⟨(h.2.2 q x hx).1.kept (ho q (h.2.2 q x hx).1.lt), (h.2.2 q x hx).2⟩
theorem zg_new {index ci N : Nat} {C : String} {T : u_T} {fs : List Value} {σ2 : zg_H} (ty : Nat → FieldType) (hdg : decode (zg_cc M) pc = .ok (.new index, 3)) (hq : (zg_cl E)[ci]? = some (C, T, N)) (hty : ∀ k, k < N → parseFieldDescriptor (T k).2.2.1 = some (ty k)) (hin : ∀ w ∈ u_ws C T N, w ∈ zg_ws E)
    (hcl : Cond.classLink (zg_my M).cls index C ∈ zg_ws E) (hins : Cond.instantiable C N ∈ zg_ws E) (hini : Cond.initialized C ∈ zg_ws E) (hfs : ∀ j, j < N → defaultValue (ty j) = vp_V fs j) (h2 : zg_al σ (.inr (ci, fs)) N = σ2)
    (kk : zg_G l E d M (pc + 3) lv (.ref (zg_sz σ) :: st) σ2 r) : zg_G l E d M pc lv st σ r := by
  subst h2
  have k1 : zg_sz σ + 1 ≤ zg_sz r.2 := kk.1
  have k2 : zg_us σ + N ≤ zg_us r.2 := kk.2.1
  refine ⟨by omega, by omega, ?_⟩
  intro p e R s m args below meth c H locs cells slots ls u0 mc ms hm1 hm2 hc h1 h2 h3 h4 h5 h6 h7 h8
  obtain ⟨b1, b2, b3⟩ := hc.2.2.2.2.2.2.2.1.here
  have hts : ∀ w ∈ zg_ws E, w.before args s = true := fun w hw => b1 w hw args
  have hKn := b2.1 ci _ hq
  refine W.newcK hc.1 hc.2.1 hc.2.2.2.2.1 (hts _ hcl) (hts _ hins) (hts _ hini) rfl hdg (by omega) (by omega) hKn.2.1 h5.1 fun H1 kC hkC e1 z1 o1 => ?_
  have o1 : ∀ q : Nat, q < H.size → H1[q]? = H[q]? := fun q hq => o1 q (by rw [← h5.1]; exact hq)
  have he : va_at (zg_D E) (zg_cl E) (H.size, .inr (ci, fs)) H1 := ⟨_, hq, by rw [h5.1]; exact (u_born ty hts hin hKn hkC e1 hty).to hfs⟩
  exact kk.2.2 p e R s m args below meth c H1 locs (cells + 1) (slots + N) ls u0 mc ms hm1 hm2 hc (by show _ = zg_sz σ + 1; omega) (by show _ = zg_us σ + N; omega) h3 h4 (zg_rep_al N h5 (by rw [z1, h5.1]) o1 he) (fun q hq => by rw [o1 q (Nat.lt_of_lt_of_le hq h5.2.1)]; exact h6 q hq) h7 h8
theorem zg_newa {atype : ArrayType} {ty : FieldType} {t0 N : Nat} {n : Int32} {cA : ClassId} {a0 : vp_A} {σ2 : zg_H} (hdg : decode (zg_cc M) pc = .ok (.newarray atype, 2)) (hty : newarray.typeOf atype = ty) (hw : Cond.arrayClass ty ∈ zg_ws E) (ht : (zg_ty E)[t0]? = some (cA, ty)) (hno : ∀ C, ty ≠ .object C) (hn : n = nI N) (hN : N ≤ 1000) (ha : ∀ cB : ClassId, vp_cell cB a0 = arrV cB N (fun _ => defaultValue ty)) (hcb : componentBytes ty ≤ 8)
    (h2 : zg_al σ (.inl (cA, a0)) N = σ2) (kk : zg_G l E d M (pc + 2) lv (.ref (zg_sz σ) :: st) σ2 r) : zg_G l E d M pc lv (.int n :: st) σ r := by
  subst h2 hn hty
  have k1 : zg_sz σ + 1 ≤ zg_sz r.2 := kk.1
  have k2 : zg_us σ + N ≤ zg_us r.2 := kk.2.1
  refine ⟨by omega, by omega, ?_⟩
  intro p e R s m args below meth c H locs cells slots ls u0 mc ms hm1 hm2 hc h1 h2 h3 h4 h5 h6 h7 h8
  obtain ⟨b1, b2, b3⟩ := hc.2.2.2.2.2.2.2.1.here
  have hts : ∀ w ∈ zg_ws E, w.before args s = true := fun w hw => b1 w hw args
  have hN2 : N < 2 ^ 31 := by omega
  have hNb : N * componentBytes (newarray.typeOf atype) ≤ 536870912 := by
    have := Nat.mul_le_mul hN hcb
    omega
  refine va_newaK hc.1 hc.2.1 (hts _ hw) rfl hdg rfl (nI_pos hN2) (nI_clamp hN2) hNb (by omega) (by omega) h5.1 fun H1 cB e1 z1 o1 hAr hNm => ?_
  have o1 : ∀ q : Nat, q < H.size → H1[q]? = H[q]? := fun q hq => o1 q (by rw [← h5.1]; exact hq)
  have hcAB : cB = cA := by
    have hra := (b2.2 t0 _ ht).2
    have : s.vm.findClass ("[" ++ (newarray.typeOf atype).toString) = some cA := by
      cases atype <;> exact hra
    exact Option.some.inj (hNm.symm.trans this)
  subst hcAB
  have he : va_at (zg_D E) (zg_cl E) (H.size, .inl (cB, a0)) H1 := by
    show H1[H.size]? = some (vp_cell cB a0)
    rw [ha, h5.1]; exact e1
  exact kk.2.2 p e R s m args below meth c H1 locs (cells + 1) (slots + N) ls u0 mc ms hm1 hm2 hc (by show _ = zg_sz σ + 1; omega) (by show _ = zg_us σ + N; omega) h3 h4 (zg_rep_al N h5 (by rw [z1, h5.1]) o1 he) (fun q hq => by rw [o1 q (Nat.lt_of_lt_of_le hq h5.2.1)]; exact h6 q hq) h7 h8
theorem zg_anew {index t0 N : Nat} {n : Int32} {C : String} {cA : ClassId} {σ2 : zg_H} (hdg : decode (zg_cc M) pc = .ok (.anewarray index, 3)) (hcl : Cond.classLink (zg_my M).cls index C ∈ zg_ws E) (hov : Cond.arrayOver (.object C) ∈ zg_ws E) (ht : (zg_ty E)[t0]? = some (cA, .object C)) (hn : n = nI N) (hN : N ≤ 1000)
    (h2 : zg_al σ (.inl (cA, N, .inr (.inr (.inr (.inr (fun _ => none)))))) N = σ2) (kk : zg_G l E d M (pc + 3) lv (.ref (zg_sz σ) :: st) σ2 r) : zg_G l E d M pc lv (.int n :: st) σ r := by
  subst h2 hn
  have k1 : zg_sz σ + 1 ≤ zg_sz r.2 := kk.1
  have k2 : zg_us σ + N ≤ zg_us r.2 := kk.2.1
  refine ⟨by omega, by omega, ?_⟩
  intro p e R s m args below meth c H locs cells slots ls u0 mc ms hm1 hm2 hc h1 h2 h3 h4 h5 h6 h7 h8
  obtain ⟨b1, b2, b3⟩ := hc.2.2.2.2.2.2.2.1.here
  have hts : ∀ w ∈ zg_ws E, w.before args s = true := fun w hw => b1 w hw args
  have hN2 : N < 2 ^ 31 := by omega
  have hcl2 : (nI N).toNatClampNeg = N := nI_clamp hN2
  refine W.anew hc.1 hc.2.1 hc.2.2.2.2.1 (hts _ hcl) (hts _ hov) rfl hdg rfl (nI_pos hN2) (by rw [hcl2]; omega) (by omega) (by rw [hcl2]; omega) fun cB kA comp f1 f2 f3 f4 => ?_
  rw [hcl2]
  generalize hH1 : H.push ({ cls := cB, slots := Array.replicate N .null, vm := .none } : Cell) = H1
  have z1 : H1.size = H.size + 1 := by rw [← hH1, Array.size_push]
  have e1 : H1[H.size]? = some (arrV cB N (fun _ => .null)) := by rw [← hH1, Array.getElem?_push_size, ← arrV_new]
  have o1 : ∀ q : Nat, q < H.size → H1[q]? = H[q]? := fun q hq => by rw [← hH1, Array.getElem?_push, if_neg (Nat.ne_of_lt hq)]
  have hcAB : cB = cA := by
    obtain ⟨kA2, comp2, g1, g2, g3, g4⟩ := (b2.2 t0 _ ht).2
    exact Option.some.inj (f1.symm.trans g4)
  subst hcAB
  have he : va_at (zg_D E) (zg_cl E) (H.size, .inl (cB, N, .inr (.inr (.inr (.inr (fun _ => none)))))) H1 := by
    show H1[H.size]? = some (vp_cell _ _)
    rw [vp_cell_q]; exact e1
  rw [h5.1]
  exact kk.2.2 p e R s m args below meth c H1 locs (cells + 1) (slots + N) ls u0 mc ms hm1 hm2 hc (by show _ = zg_sz σ + 1; omega) (by show _ = zg_us σ + N; omega) h3 h4 (zg_rep_al N h5 z1 o1 he) (fun q hq => by rw [o1 q (Nat.lt_of_lt_of_le hq h5.2.1)]; exact h6 q hq) h7 h8
/-- an int constant -/
theorem zg_ldcw {index : Nat} {v : Int32} (hdg : decode (zg_cc M) pc = .ok (.ldc_w index, 3)) (hw : Cond.constant (zg_my M).cls index v ∈ zg_ws E) (kk : zg_G l E d M (pc + 3) lv (.int v :: st) σ r) : zg_G l E d M pc lv st σ r := by
  refine ⟨kk.1, kk.2.1, ?_⟩
  intro p e R s m args below meth c H locs cells slots ls u0 mc ms hm1 hm2 hc h1 h2 h3 h4 h5 h6 h7 h8
  obtain ⟨b1, b2, b3⟩ := hc.2.2.2.2.2.2.2.1.here
  exact lv_ldcw hc.1 hc.2.1 hc.2.2.2.2.1 (b1 _ hw args) hdg (kk.2.2 p e R s m args below meth c H locs cells slots ls u0 mc ms hm1 hm2 hc h1 h2 h3 h4 h5 h6 h7 h8)
/-- a long constant -/
theorem zg_ldc2 {index : Nat} {v : Int64} (hdg : decode (zg_cc M) pc = .ok (.ldc2_w index, 3)) (hw : Cond.constantLong (zg_my M).cls index v ∈ zg_ws E) (kk : zg_G l E d M (pc + 3) lv (.long v :: st) σ r) : zg_G l E d M pc lv st σ r := by
  refine ⟨kk.1, kk.2.1, ?_⟩
  intro p e R s m args below meth c H locs cells slots ls u0 mc ms hm1 hm2 hc h1 h2 h3 h4 h5 h6 h7 h8
  obtain ⟨b1, b2, b3⟩ := hc.2.2.2.2.2.2.2.1.here
  exact W.ldc2 hc.1 hc.2.1 hc.2.2.2.2.1 (b1 _ hw args) rfl hdg (kk.2.2 p e R s m args below meth c H locs cells slots ls u0 mc ms hm1 hm2 hc h1 h2 h3 h4 h5 h6 h7 h8)
theorem zg_S {σ : zg_H} {s : State} {H : Heap} {locs : List Loc} {cells : Nat} (h1 : s.heap.size + cells = zg_sz σ) (h5 : zg_rep E σ H) (h6 : ∀ q : Nat, q < zg_b E → H[q]? = s.heap[q]?) (h7 : ∀ x ∈ locs, zg_b E ≤ x.base) : va_S (fun q => zg_b E ≤ q) s.heap H locs :=
  ⟨by rw [h5.1]; omega, fun q _ hq => h6 q (by omega), h7⟩
/-- a static that nobody writes -/
theorem zg_gets {index : Nat} {C n ds : String} {v : Value} (hdg : decode (zg_cc M) pc = .ok (.getstatic index, 3)) (hx : ∀ U H, zg_x E U H → va_Z C n ds v (fun q => zg_b E ≤ q) U H) (hl : Cond.fieldLink (zg_my M).cls index C n ds ∈ zg_ws E) (kk : zg_G l E d M (pc + 3) lv (v :: st) σ r) : zg_G l E d M pc lv st σ r := by
  refine ⟨kk.1, kk.2.1, ?_⟩
  intro p e R s m args below meth c H locs cells slots ls u0 mc ms hm1 hm2 hc h1 h2 h3 h4 h5 h6 h7 h8
  obtain ⟨b1, b2, b3⟩ := hc.2.2.2.2.2.2.2.1.here
  exact va_gets hc.1 hc.2.1 (hx _ _ b3) (zg_S h1 h5 h6 h7) hc.2.2.2.2.1 (b1 _ hl args) (fun x h => h) hdg (kk.2.2 p e R s m args below meth c H locs cells slots ls u0 mc ms hm1 hm2 hc h1 h2 h3 h4 h5 h6 h7 h8)
/-- a table that nobody writes -/
theorem zg_ti {t N k : Nat} {i : Int32} {f : Nat → Value} {v : Value} (hdg : decode (zg_cc M) pc = .ok (.iaload, 1)) (hx : ∀ U H, zg_x E U H → va_T .int t N f (fun q => zg_b E ≤ q) U H) (hi : i = nI k) (hk : k < N) (hN : N < 2 ^ 31) (hv : f k = v) (kk : zg_G l E d M (pc + 1) lv (v :: st) σ r) : zg_G l E d M pc lv (.int i :: .ref t :: st) σ r := by
  subst hi
  refine ⟨kk.1, kk.2.1, ?_⟩
  intro p e R s m args below meth c H locs cells slots ls u0 mc ms hm1 hm2 hc h1 h2 h3 h4 h5 h6 h7 h8
  obtain ⟨b1, b2, b3⟩ := hc.2.2.2.2.2.2.2.1.here
  exact va_ti hc.1 hc.2.1 (hx _ _ b3) (zg_S h1 h5 h6 h7) (vp_in_nI hk hN) (by rw [nI_clamp (Nat.lt_trans hk hN)]; exact hv) hdg (kk.2.2 p e R s m args below meth c H locs cells slots ls u0 mc ms hm1 hm2 hc h1 h2 h3 h4 h5 h6 h7 h8)
theorem zg_tl {t N k : Nat} {i : Int32} {f : Nat → Value} {v : Value} (hdg : decode (zg_cc M) pc = .ok (.laload, 1)) (hx : ∀ U H, zg_x E U H → va_T .long t N f (fun q => zg_b E ≤ q) U H) (hi : i = nI k) (hk : k < N) (hN : N < 2 ^ 31) (hv : f k = v) (kk : zg_G l E d M (pc + 1) lv (v :: st) σ r) : zg_G l E d M pc lv (.int i :: .ref t :: st) σ r := by
  subst hi
  refine ⟨kk.1, kk.2.1, ?_⟩
  intro p e R s m args below meth c H locs cells slots ls u0 mc ms hm1 hm2 hc h1 h2 h3 h4 h5 h6 h7 h8
  obtain ⟨b1, b2, b3⟩ := hc.2.2.2.2.2.2.2.1.here
  exact va_tl hc.1 hc.2.1 (hx _ _ b3) (zg_S h1 h5 h6 h7) (vp_in_nI hk hN) (by rw [nI_clamp (Nat.lt_trans hk hN)]; exact hv) hdg (kk.2.2 p e R s m args below meth c H locs cells slots ls u0 mc ms hm1 hm2 hc h1 h2 h3 h4 h5 h6 h7 h8)
theorem zg_tlen {t N : Nat} {v : Int32} {ty : FieldType} {f : Nat → Value} (hdg : decode (zg_cc M) pc = .ok (.arraylength, 1)) (hx : ∀ U H, zg_x E U H → va_T ty t N f (fun q => zg_b E ≤ q) U H) (hv : nI N = v) (kk : zg_G l E d M (pc + 1) lv (.int v :: st) σ r) : zg_G l E d M pc lv (.ref t :: st) σ r := by
  refine ⟨kk.1, kk.2.1, ?_⟩
  intro p e R s m args below meth c H locs cells slots ls u0 mc ms hm1 hm2 hc h1 h2 h3 h4 h5 h6 h7 h8
  obtain ⟨b1, b2, b3⟩ := hc.2.2.2.2.2.2.2.1.here
  exact va_tlen hc.1 hc.2.1 (hx _ _ b3) (zg_S h1 h5 h6 h7) hv hdg (kk.2.2 p e R s m args below meth c H locs cells slots ls u0 mc ms hm1 hm2 hc h1 h2 h3 h4 h5 h6 h7 h8)
/-- Object's constructor -/
theorem zg_objInit {index a : Nat} (hdg : decode (zg_cc M) pc = .ok (.invokespecial index, 3)) (hl : Cond.methodLink (zg_my M).cls index Lib.objectInit ∈ zg_ws E) (hi : Cond.instanceMethod Lib.objectInit ∈ zg_ws E) (hcd : Cond.code Lib.objectInit ⟨#[0xb1]⟩ 1 none ∈ zg_ws E) (hst : (st.map fun v => v.category).sum ≤ 20)
    (kk : zg_G l E (d + 1) M (pc + 3) lv st σ r) : zg_G l E (d + 1) M pc lv (.ref a :: st) σ r := by
  refine ⟨kk.1, kk.2.1, ?_⟩
  intro p e R s m args below meth c H locs cells slots ls u0 mc ms hm1 hm2 hc h1 h2 h3 h4 h5 h6 h7 h8
  obtain ⟨b1, b2, b3⟩ := hc.2.2.2.2.2.2.2.1.here
  have hf := hc.2.2.2.2.2.2.2.2.2.1
  have hlo := hc.2.2.2.2.2.2.2.2.2.2.1
  exact W.objInit hc.1 hc.2.1 hc.2.2.2.2.1 (b1 _ hl args) (b1 _ hi args) (b1 _ hcd args) rfl (by rw [hc.2.2.1]; exact h8.1) rfl hdg (by omega) (by show 2 * 0 + _ + 12 ≤ _; omega)
    (kk.2.2 p e R s m args below meth c H locs cells slots ls u0 mc ms hm1 hm2 hc h1 h2 h3 h4 h5 h6 h7 h8)
end ZG4
section ZG5
variable {l : Launch} {E : zg_E} {d : Nat} {M : zg_M} {pc : Nat} {lv : List (Nat × Value)} {st : List Value} {σ : zg_H} {r : zg_R}
theorem zg_w_spec {a : Array Value} {U : State} {mk : MethodId} (h : (zg_w M).before a U = true) (hn : U.methodNamed? (zg_my M) = some mk) :
    ∃ (meth : Method) (c : Code), U.vm.method? mk = some meth ∧ meth.code = some c ∧ c.code = zg_cc M ∧ c.maxLocals = zg_ml M ∧ meth.sig.returnType = zg_rt M ∧ meth.locks = false ∧
      c.exceptionTable.toList.map (fun h => (h.startPc, h.endPc, h.handlerPc, h.catchType)) = zg_hh M ∧ parseMethodDescriptor (zg_my M).desc = some meth.sig := by
  obtain ⟨y, cc, ml, rt, hh⟩ := M
  cases hh with
  | nil =>
    have h : (Cond.code y cc ml rt).before a U = true := h
    obtain ⟨meth, c, q1, q2, q3, q4, q5, q6, q7, q8⟩ := Cond.code_spec hn h
    refine ⟨meth, c, q1, q2, q3, q4, q5, q6, ?_, q8⟩
    have : c.exceptionTable = #[] := by simpa using q7
    rw [this]
    rfl
  | cons x t =>
    have h : (Cond.codeWith y cc ml rt (x :: t)).before a U = true := h
    obtain ⟨m9, meth, c, hn9, q1, q2, q3, q4, q5, q6, q7, q8⟩ := Cond.codeWith_spec h
    cases hn.symm.trans hn9
    exact ⟨meth, c, q1, q2, q3, q4, q6, q7, q5, q8⟩
theorem zg_C_of {av : List Value} (hpl : plainFor (zg_my M) = true) (hsl : (lg_sl av).length ≤ zg_ml M) (k : zg_G l E d M 0 (lv_args 0 av) [] σ r) : zg_C l E d M av σ r := by
  refine ⟨k.1, k.2.1, ?_⟩
  refine MetFree.of_bodySF (code := zg_cc M) (maxLocals := zg_ml M) (ret := zg_rt M) hpl ?_ ?_
  · intro args s m h hn
    obtain ⟨meth, c, q1, q2, q3, q4, q5, q6, -⟩ := zg_w_spec (atoms_spec (ws := [zg_w M]) h _ List.mem_cons_self) hn
    exact ⟨meth, c, q1, q2, q3, q4, q5, q6⟩
  · intro p e s m args below meth c s₁ B hml hP _
    obtain ⟨rfl, hE, hR⟩ := hP
    have hh0 : s₁.heap = s.heap := by rw [B.state]; rfl
    obtain ⟨meth', c', q1, q2, q3, q4, q5, q6, q7, q8⟩ := zg_w_spec (atoms_spec (ws := [zg_w M]) B.pre _ List.mem_cons_self) B.named
    cases B.method.symm.trans q1
    cases (Stand.of_body B).code.symm.trans q2
    have k1 := k.1
    have k2 := k.2.1
    have hr1 := hR.1
    have hcx : zg_cx l E d M p (zg_rm d (zg_sz r.2 - zg_sz σ) (zg_us r.2 - zg_us σ)) s m meth c :=
      ⟨B.exec, B.bytes, hml, B.returns, findClass_of_methodNamed B.named, B.notSynchronized, (name_of_methodNamed B.named B.method).1, hE, hR.2.1, Nat.le_refl _, Nat.le_refl _, q7⟩
    have w := k.2.2 p e (zg_rm d (zg_sz r.2 - zg_sz σ) (zg_us r.2 - zg_us σ)) s m av.toArray below meth c s.heap [] 0 0 _ (zg_us σ) (zg_sz r.2 - zg_sz σ) (zg_us r.2 - zg_us σ) (Nat.le_refl _) (Nat.le_refl _) hcx hr1 rfl
      (by show s.heap.size + (zg_sz r.2 - zg_sz σ) = zg_sz r.2; omega) (by show zg_us σ + (zg_us r.2 - zg_us σ) = zg_us r.2; omega) hR (fun _ _ => rfl) (fun x hx => by cases hx) (lv_entry av hsl)
    obtain ⟨t, a1, o, b1, b2, b3, b4⟩ := w s₁ hh0 (Stand.of_body B)
    rw [lg_entry_eq]
    exact ⟨t, o, a1, b1, b2, b3, b4⟩
/-- a call by its contract, whatever its end -/
theorem zg_inv {av : List Value} (hC : zg_C l E d M av σ r) {p : Program} {e : Env} {R : Room} {s : State} {m : MethodId} {args : Array Value} {below : List Frame} {meth : Method} {c : Code} {T : State} {locs : List Loc} {cells slots : Nat}
    (X : Stand p l e R s m args below meth c T locs cells slots) {g : JFrame} {ig : Instr} {len : Nat} {mk : MethodId} (hg : g.method = m) (hsize : g.locals.size = c.maxLocals) (hdg : decode c.code g.pc = .ok (ig, len))
    (hfr : d + 1 ≤ R.frames) (hlo : 2 * g.monitorRoom + (g.stack.map fun v => v.category).sum + (zg_ml M + 11) + 36 * d ≤ R.locals) (hce : cells + (zg_sz r.2 - zg_sz σ) ≤ R.cells) (hsl : slots + (zg_us r.2 - zg_us σ) ≤ R.slots)
    (hn : T.methodNamed? (zg_my M) = some mk) (hw : ∀ a : Array Value, (zg_w M).before a T = true) (hini : ∀ a : Array Value, (Cond.initialized (zg_my M).cls).before a T = true) (henv : zg_env E T T.heap) (hrep : zg_rep E σ T.heap) :
    ∃ (T' : State) (L : List Loc), Stand p l e R s m args below meth c T' (locs ++ L) (cells + (zg_sz r.2 - zg_sz σ)) (slots + (zg_us r.2 - zg_us σ)) ∧ (∀ q ∈ L, zg_b E ≤ q.base) ∧ zg_rep E r.2 T'.heap ∧ (∀ q : Nat, q < zg_b E → T'.heap[q]? = T.heap[q]?) ∧
      match r.1 with
      | .inl v => Steps p.tables e below (doInvoke e (T.setTop g) [] mk av.toArray).1 (T'.setTop { g with pc := g.pc + len, stack := v.toList ++ g.stack })
      | .inr x => (∃ cell : Cell, T'.heap[x.1]? = some cell ∧ cell.vm.isStatics = false ∧ T.vm.findClass x.2 = some cell.cls) ∧
          Steps p.tables e below (doInvoke e (T.setTop g) [] mk av.toArray).1 ((T'.setTop g).pushFrame (.throwing x.1)) := by
  obtain ⟨hz, hu, hM⟩ := hC
  obtain ⟨methY, cY, hmY, hcY, -, hlY, -⟩ := zg_w_spec (hw #[]) hn
  obtain ⟨kY, hkY, -⟩ := className_of_methodNamed hn
  have hinitY : kY.init = .initialized := Cond.initialized_spec (findClass_of_methodNamed hn) hkY (hini #[])
  have h : At T g.method c below := by rw [hg]; exact X.here
  have hpre : (headSpec [zg_w M] (zg_rm d (zg_sz r.2 - zg_sz σ) (zg_us r.2 - zg_us σ))).pre.before av.toArray T = true :=
    atoms_intro fun w hw' => by rw [List.mem_singleton.mp hw']; exact hw _
  have happ : (headSpec [zg_w M] (zg_rm d (zg_sz r.2 - zg_sz σ) (zg_us r.2 - zg_us σ))).appliesLoose (zg_my M) e.platform (T.calling g mk av.toArray) = true :=
    Spec.appliesLoose_calling (g := g) h hdg hn hkY hinitY
      (X.room_calling (g := g) (R' := zg_rm d (zg_sz r.2 - zg_sz σ) (zg_us r.2 - zg_us σ)) hsize hmY hcY hfr (by rw [hlY]; exact hlo) hce hsl) hpre
  obtain ⟨mid, hmid⟩ := h.above
  have hfrm : (T.setTop g).frames = (.java g :: mid) ++ below := by rw [State.frames_setTop' g h.top, hmid]; rfl
  obtain ⟨o, s₂, hsteps, -, hend, ⟨hq1, hq2, hq3⟩, L, ⟨hW₂, e2, q2, q3, q4, q5, q6⟩, hL⟩ := Steps.callFree hM p X.admits X.cas X.clock (acts := []) hfrm happ ⟨rfl, henv, hrep⟩ trivial
  rw [State.frames_setTop' g h.top] at hend
  have e3 : s₂ = ({ (T.calling g mk av.toArray).setFrames s₂.frames with heap := s₂.heap, slotsUsed := s₂.slotsUsed } : State).setVm s₂.vm := by
    have : s₂ = ({ s₂ with vm := ((T.setTop g).pushFrame (.invoking mk av.toArray)).vm } : State).setVm s₂.vm := rfl
    rw [e2] at this
    exact this
  have hW' : T.WarmedH s₂.vm := hW₂
  obtain ⟨g₀, hg0⟩ := Option.isSome_iff_exists.mp h.top
  obtain ⟨fr, hr⟩ := State.topJava?_eq_some.mp hg0
  have hsame : T.sameButNew ({ T with heap := s₂.heap, slotsUsed := s₂.slotsUsed } : State) L (zg_sz r.2 - zg_sz σ) (zg_us r.2 - zg_us σ) := by
    refine ⟨?_, q2, q3, q4, q5, q6⟩
    obtain ⟨t, ht, -⟩ := State.frames_cons hr
    show ({ T with heap := s₂.heap, slotsUsed := s₂.slotsUsed } : State) = { T.setFrames T.frames with heap := s₂.heap, slotsUsed := s₂.slotsUsed }
    rw [State.setFrames_self ht]
  have hSt : Stand p l e R s m args below meth c (({ T with heap := s₂.heap, slotsUsed := s₂.slotsUsed } : State).setVm s₂.vm) (locs ++ L) (cells + (zg_sz r.2 - zg_sz σ)) (slots + (zg_us r.2 - zg_us σ)) :=
    ⟨X.admits, X.cas, X.clock, X.frames, X.room, X.hears, X.method, X.code, (X.here.setHeapUsed s₂.heap s₂.slotsUsed).setVm hW'.alike, X.tail, State.WarmedH.trans X.warmed hW', X.limits, X.bytes, X.same.trans (hsame.setVm s.vm)⟩
  have hr' : (({ T with heap := s₂.heap, slotsUsed := s₂.slotsUsed } : State).setVm s₂.vm).frames = .java g₀ :: fr := hr
  refine ⟨(({ T with heap := s₂.heap, slotsUsed := s₂.slotsUsed } : State).setVm s₂.vm), L, hSt, hL, hq1, hq2, ?_⟩
  cases hr1 : r.1 with
  | inl v =>
    rw [hr1] at hq3
    have hq3 : o = .returned v := hq3
    subst hq3
    obtain ⟨c₂, i₂, len₂, hc₂, hd₂, hf₂⟩ := hend
    have hcc : c₂ = c := by
      have h1 : s₂.code? g.method = T.code? g.method := by
        rw [State.code?_eq, State.code?_eq, hW'.alike.method?]
      exact Option.some.inj (hc₂.symm.trans (h1.trans h.code))
    subst hcc
    have hlen : len₂ = len := by rw [hdg] at hd₂; cases hd₂; rfl
    subst hlen
    have hs₂ : s₂ = (({ T with heap := s₂.heap, slotsUsed := s₂.slotsUsed } : State).setVm s₂.vm).setTop { g with pc := g.pc + len₂, stack := v.toList ++ g.stack } := by
      refine e3.trans ?_
      rw [hf₂, State.calling_eq h.top, State.setFrames_setFrames, State.setTop_of_frames _ hr', hr]
      rfl
    show Steps p.tables e below _ ((({ T with heap := s₂.heap, slotsUsed := s₂.slotsUsed } : State).setVm s₂.vm).setTop { g with pc := g.pc + len₂, stack := v.toList ++ g.stack })
    rw [← hs₂]
    exact hsteps
  | inr x =>
    rw [hr1] at hq3
    obtain ⟨ho, hcell⟩ : o = .threw x.1 ∧ _ := hq3
    subst ho
    have hf₂ : s₂.frames = .throwing x.1 :: .java g :: T.frames.tail := hend
    have hs₂ : s₂ = ((({ T with heap := s₂.heap, slotsUsed := s₂.slotsUsed } : State).setVm s₂.vm).setTop g).pushFrame (.throwing x.1) := by
      refine e3.trans ?_
      rw [hf₂, State.calling_eq h.top, State.setFrames_setFrames, State.pushFrame, State.frames_setTop _ hr', State.setTop_of_frames _ hr', State.setFrames_setFrames, hr]
      rfl
    refine ⟨hcell, ?_⟩
    show Steps p.tables e below _ (((({ T with heap := s₂.heap, slotsUsed := s₂.slotsUsed } : State).setVm s₂.vm).setTop g).pushFrame (.throwing x.1))
    rw [← hs₂]
    exact hsteps
/-- what the tables say of a method that is called -/
def zg_mth (E : zg_E) (M2 : zg_M) (n : Nat) : Prop := zg_w M2 ∈ zg_ws E ∧ Cond.initialized (zg_my M2).cls ∈ zg_ws E ∧ (zg_my M2).cls ≠ "java/lang/invoke/MethodHandle" ∧ (zg_my M2).cls ≠ "java/lang/invoke/VarHandle" ∧ (parseMethodDescriptor (zg_my M2).desc).map (fun q => q.parameters.length) = some n
theorem zg_mth.len {E : zg_E} {M2 : zg_M} {n : Nat} (h : zg_mth E M2 n) {sig : MethodDescriptor} (hs : parseMethodDescriptor (zg_my M2).desc = some sig) : n = sig.parameters.length := by
  have h2 := h.2.2.2.2
  rw [hs] at h2
  exact (Option.some.inj h2).symm
def zg_lk (E : zg_E) (own : String) (index : Nat) (y : MethodName) : Prop := Cond.methodLink own index y ∈ zg_ws E ∨ ∃ host, Cond.methodLinkNest own index y host ∈ zg_ws E
/-- the call as far as the frame of the callee: static -/
theorem zg_goS {M2 : zg_M} {n index : Nat} {p : Program} {e : Env} {R : Room} {s : State} {m : MethodId} {args : Array Value} {below : List Frame} {meth : Method} {c : Code} {T : State} {locs : List Loc} {cells slots : Nat}
    (X : Stand p l e R s m args below meth c T locs cells slots) (hc : zg_cx l E d M p R s m meth c) (hl : zg_lk E (zg_my M).cls index (zg_my M2)) (hm : zg_mth E M2 n) (hs : Cond.static (zg_my M2) ∈ zg_ws E)
    {g : JFrame} (hg : g.method = m) {av rest : List Value} (hn : av.length = n) (hstack : g.stack = av.reverse ++ rest) (hdg : decode (zg_cc M) g.pc = .ok (.invokestatic index, 3)) :
    ∃ (mk : MethodId) (vm₁ : Vm), s.methodNamed? (zg_my M2) = some mk ∧ Stand p l e R s m args below meth c (T.setVm vm₁) locs cells slots ∧
      ∀ target, Steps p.tables e below (doInvoke e ((T.setVm vm₁).setTop { g with stack := rest }) [] mk av.toArray).1 target → Steps p.tables e below (T.setTop g) target := by
  obtain ⟨b1, b2, b3⟩ := hc.2.2.2.2.2.2.2.1.here
  have hdg' : decode c.code g.pc = .ok (.invokestatic index, 3) := by rw [hc.2.1]; exact hdg
  have hwb := b1 _ hm.1 args
  obtain ⟨mk, hnamed⟩ : ∃ mk, s.methodNamed? (zg_my M2) = some mk := by
    obtain ⟨y, cc, ml, rt, hh⟩ := M2
    cases hh with
    | nil => exact Cond.code_named (show (Cond.code y cc ml rt).before args s = true from hwb)
    | cons x t =>
      obtain ⟨m9, _, _, hn9, -⟩ := Cond.codeWith_spec (show (Cond.codeWith y cc ml rt (x :: t)).before args s = true from hwb)
      exact ⟨m9, hn9⟩
  obtain ⟨methM, cM, hmethM, -, -, -, -, -, -, hsigM⟩ := zg_w_spec hwb hnamed
  have hstatic : methM.isStatic = true := Cond.static_spec hnamed hmethM (b1 _ hs args)
  obtain ⟨kP, hkP, -⟩ := className_of_methodNamed hnamed
  have hinitP : kP.init = .initialized := Cond.initialized_spec (findClass_of_methodNamed hnamed) hkP (b1 _ hm.2.1 args)
  rcases hl with hl | ⟨host, hl⟩
  · obtain ⟨vm₁, X₁, hstep₁⟩ := X.invokestatic hc.1 hc.2.2.2.2.1 (b1 _ hl args) hnamed hmethM hstatic hkP hinitP ⟨hm.2.2.1, hm.2.2.2.1⟩ (g := g) hg (argsL := av) (rest := rest) (hn.trans (hm.len hsigM)) hstack hdg'
    exact ⟨mk, vm₁, hnamed, X₁, fun target h => hstep₁ _ fun acts => by rw [doInvoke_state]; exact h⟩
  · obtain ⟨vm₁, X₁, hstep₁⟩ := X.invokestaticNest hc.1 hc.2.2.2.2.1 (b1 _ hl args) hnamed hmethM hstatic hkP hinitP ⟨hm.2.2.1, hm.2.2.2.1⟩ (g := g) hg (argsL := av) (rest := rest) (hn.trans (hm.len hsigM)) hstack hdg'
    exact ⟨mk, vm₁, hnamed, X₁, fun target h => hstep₁ _ fun acts => by rw [doInvoke_state]; exact h⟩
/-- virtual, on an object whose class is C -/
theorem zg_goV {M2 : zg_M} {n index : Nat} {p : Program} {e : Env} {R : Room} {s : State} {m : MethodId} {args : Array Value} {below : List Frame} {meth : Method} {c : Code} {T : State} {locs : List Loc} {cells slots : Nat}
    (X : Stand p l e R s m args below meth c T locs cells slots) (hc : zg_cx l E d M p R s m meth c) (hl : zg_lk E (zg_my M).cls index (zg_my M2)) (hm : zg_mth E M2 n) (hi : Cond.instanceMethod (zg_my M2) ∈ zg_ws E) (hse : Cond.selects (zg_my M2).cls (zg_my M2) (zg_my M2) ∈ zg_ws E)
    {b : Nat} {cellB : Cell} (hcell : T.heap[b]? = some cellB) (hobj : cellB.vm.isStatics = false) (hcls : s.vm.findClass (zg_my M2).cls = some cellB.cls)
    {g : JFrame} (hg : g.method = m) {av rest : List Value} (hn : av.length = n) (hstack : g.stack = av.reverse ++ .ref b :: rest) (hdg : decode (zg_cc M) g.pc = .ok (.invokevirtual index, 3)) :
    ∃ (mk : MethodId) (vm₁ : Vm), s.methodNamed? (zg_my M2) = some mk ∧ Stand p l e R s m args below meth c (T.setVm vm₁) locs cells slots ∧
      ∀ target, Steps p.tables e below (doInvoke e ((T.setVm vm₁).setTop { g with stack := rest }) [] mk (Value.ref b :: av).toArray).1 target → Steps p.tables e below (T.setTop g) target := by
  obtain ⟨b1, b2, b3⟩ := hc.2.2.2.2.2.2.2.1.here
  have hdg' : decode c.code g.pc = .ok (.invokevirtual index, 3) := by rw [hc.2.1]; exact hdg
  obtain ⟨mk, methM, hnamed, hmethM, hstM, habM⟩ := Cond.instanceMethod_spec (b1 _ hi args)
  obtain ⟨methM', cM, hmethM', -, -, -, -, -, -, hsigM⟩ := zg_w_spec (b1 _ hm.1 args) hnamed
  cases hmethM.symm.trans hmethM'
  have hy : (zg_my M2).cls ≠ "java/lang/invoke/MethodHandle" ∧ (zg_my M2).cls ≠ "java/lang/invoke/VarHandle" := ⟨hm.2.2.1, hm.2.2.2.1⟩
  obtain ⟨c2, r2, m2, q1, q2, q3, q4, kP, hkP, hkPi⟩ := Cond.selects_spec (b1 _ hse args)
  cases hcls.symm.trans q1
  cases (State.methodFound?_of_named hnamed hy).symm.trans q2
  cases hnamed.symm.trans q3
  have hselP : selectMethod e.platform s.vm cellB.cls mk = .method mk := by rw [Launch.admits_selectMethod X.admits]; exact q4
  rcases hl with hl | ⟨host, hl⟩
  · obtain ⟨vm₁, X₁, hstep₁⟩ := X.invokevirtual hc.1 hc.2.2.2.2.1 (b1 _ hl args) hnamed hmethM hstM hkP hkPi hy (a := b) (cell := cellB) hcell
      (fun z h => by rw [h] at hobj; cases hobj) hselP hmethM habM hkP hkPi (g := g) hg (argsL := av) (rest := rest) (hn.trans (hm.len hsigM)) hstack hdg'
    exact ⟨mk, vm₁, hnamed, X₁, fun target h => hstep₁ _ fun acts => by rw [doInvoke_state]; exact h⟩
  · obtain ⟨vm₁, X₁, hstep₁⟩ := X.invokevirtualNest hc.1 hc.2.2.2.2.1 (b1 _ hl args) hnamed hmethM hstM hkP hkPi hy (a := b) (cell := cellB) hcell
      (fun z h => by rw [h] at hobj; cases hobj) hselP hmethM habM hkP hkPi (g := g) hg (argsL := av) (rest := rest) (hn.trans (hm.len hsigM)) hstack hdg'
    exact ⟨mk, vm₁, hnamed, X₁, fun target h => hstep₁ _ fun acts => by rw [doInvoke_state]; exact h⟩
/-- a constructor -/
theorem zg_goI {M2 : zg_M} {n index : Nat} {p : Program} {e : Env} {R : Room} {s : State} {m : MethodId} {args : Array Value} {below : List Frame} {meth : Method} {c : Code} {T : State} {locs : List Loc} {cells slots : Nat}
    (X : Stand p l e R s m args below meth c T locs cells slots) (hc : zg_cx l E d M p R s m meth c) (hl : zg_lk E (zg_my M).cls index (zg_my M2)) (hm : zg_mth E M2 n) (hi : Cond.instanceMethod (zg_my M2) ∈ zg_ws E) (hnm : (zg_my M2).name = "<init>") (hrt : zg_rt M2 = none) (hhh : zg_hh M2 = [])
    {b : Nat} {g : JFrame} (hg : g.method = m) {av rest : List Value} (hn : av.length = n) (hstack : g.stack = av.reverse ++ .ref b :: rest) (hdg : decode (zg_cc M) g.pc = .ok (.invokespecial index, 3)) :
    ∃ (mk : MethodId) (vm₁ : Vm), s.methodNamed? (zg_my M2) = some mk ∧ Stand p l e R s m args below meth c (T.setVm vm₁) locs cells slots ∧
      ∀ target, Steps p.tables e below (doInvoke e ((T.setVm vm₁).setTop { g with stack := rest }) [] mk (Value.ref b :: av).toArray).1 target → Steps p.tables e below (T.setTop g) target := by
  obtain ⟨b1, b2, b3⟩ := hc.2.2.2.2.2.2.2.1.here
  subst hg
  have hdg' : decode c.code g.pc = .ok (.invokespecial index, 3) := by rw [hc.2.1]; exact hdg
  have hpl : e.platform.magicAccessors = ({} : Platform).magicAccessors := by rw [X.admits.platform]
  have hcode : (Cond.code (zg_my M2) (zg_cc M2) (zg_ml M2) none).before args s = true := by
    have h := b1 _ hm.1 args
    obtain ⟨y, cc, ml, rt, hh⟩ := M2
    have hhh : hh = [] := hhh
    have hrt : rt = none := hrt
    subst hhh hrt
    exact h
  have hy : (zg_my M2).cls ≠ "java/lang/invoke/MethodHandle" ∧ (zg_my M2).cls ≠ "java/lang/invoke/VarHandle" := ⟨hm.2.2.1, hm.2.2.2.1⟩
  rcases hl with hl | ⟨host, hl⟩
  · obtain ⟨mk, methM, cM, kP, vm₁, hnamed, hmethM, hcodeM, -, hlocalsM, -, hkP, -, hW₁, hstep₁⟩ := Steps.initColdArgs (e := e) X.here hc.1 X.warmed hpl hc.2.2.2.2.1 hnm hy (b1 _ hl args) (b1 _ hi args) hcode (f := g) rfl (fun sig h => hn.trans (hm.len h)) hstack hdg'
    exact ⟨mk, vm₁, hnamed, X.noted hW₁, fun target h => hstep₁ _ fun acts => by rw [doInvoke_state]; exact h⟩
  · obtain ⟨mk, methM, cM, kP, vm₁, hnamed, hmethM, hcodeM, -, hlocalsM, -, hkP, -, hW₁, hstep₁⟩ := Steps.initColdArgsNest (e := e) X.here hc.1 X.warmed hpl hc.2.2.2.2.1 hnm hy (b1 _ hl args) (b1 _ hi args) hcode (f := g) rfl (fun sig h => hn.trans (hm.len h)) hstack hdg'
    exact ⟨mk, vm₁, hnamed, X.noted hW₁, fun target h => hstep₁ _ fun acts => by rw [doInvoke_state]; exact h⟩
end ZG5
end
section
section ZG6
variable {l : Launch} {E : zg_E} {d : Nat} {M : zg_M} {pc : Nat} {lv : List (Nat × Value)} {st : List Value} {σ : zg_H} {r : zg_R}
/-- behind a call that returns -/
theorem zg_fin {M2 : zg_M} {v : Option Value} {σ2 : zg_H} {av rest : List Value} {n : Nat} (hC : zg_C l E d M2 av σ (.inl v, σ2)) (k : zg_G l E (d + 1) M (pc + 3) lv (v.toList ++ rest) σ2 r) (hm : zg_mth E M2 n) (hwt : (rest.map fun v => v.category).sum + zg_ml M2 ≤ 25)
    {p : Program} {e : Env} {R : Room} {s : State} {m : MethodId} {args : Array Value} {below : List Frame} {meth : Method} {c : Code} {H : Heap} {locs : List Loc} {cells slots : Nat} {ls : Array Slot} {u0 mc ms : Nat} (hm1 : mc ≤ R.cells) (hm2 : ms ≤ R.slots)
    (hc : zg_cx l E (d + 1) M p R s m meth c) (h1 : s.heap.size + cells = zg_sz σ) (h2 : u0 + slots = zg_us σ) (h3 : s.heap.size + mc = zg_sz r.2) (h4 : u0 + ms = zg_us r.2) (h5 : zg_rep E σ H) (h6 : ∀ q : Nat, q < zg_b E → H[q]? = s.heap[q]?) (h7 : ∀ x ∈ locs, zg_b E ≤ x.base) (h8 : lv_has ls (zg_ml M) lv)
    {T : State} {vm₁ : Vm} {mk : MethodId} (hT : T.heap = H) (X₁ : Stand p l e R s m args below meth c (T.setVm vm₁) locs cells slots) (hnamed : s.methodNamed? (zg_my M2) = some mk) {ig : Instr} (hdg : decode (zg_cc M) pc = .ok (ig, 3)) :
    ∃ t, Steps p.tables e below (doInvoke e ((T.setVm vm₁).setTop (F0 m pc ls rest)) [] mk av.toArray).1 t ∧ zg_end E below r args s mc ms t := by
  have hz : zg_sz σ ≤ zg_sz σ2 := hC.1
  have hu : zg_us σ ≤ zg_us σ2 := hC.2.1
  have k1 := k.1
  have k2 := k.2.1
  have hfr := hc.2.2.2.2.2.2.2.2.2.1
  have hlo := hc.2.2.2.2.2.2.2.2.2.2.1
  have henv : zg_env E (T.setVm vm₁) (T.setVm vm₁).heap := hc.2.2.2.2.2.2.2.1.to X₁.warmed (fun q hq => by show T.heap[q]? = _; rw [hT]; exact h6 q hq)
  have hrep : zg_rep E σ (T.setVm vm₁).heap := by show zg_rep E σ T.heap; rw [hT]; exact h5
  obtain ⟨T', L, X', hL, hr', ho', hst⟩ := zg_inv (r := (.inl v, σ2)) hC X₁ (g := F0 m pc ls rest) rfl (by rw [hc.2.2.1]; exact h8.1) (by rw [hc.2.1]; exact hdg) (by omega)
    (by show 2 * 0 + (rest.map fun v => v.category).sum + (zg_ml M2 + 11) + 36 * d ≤ R.locals; omega) (by show cells + (zg_sz σ2 - zg_sz σ) ≤ _; omega) (by show slots + (zg_us σ2 - zg_us σ) ≤ _; omega)
    (X₁.named hnamed) (fun a => henv.here.1 _ hm.1 a) (fun a => henv.here.1 _ hm.2.1 a) henv hrep
  obtain ⟨t, a1, b1⟩ := k.2.2 p e R s m args below meth c T'.heap (locs ++ L) (cells + (zg_sz σ2 - zg_sz σ)) (slots + (zg_us σ2 - zg_us σ)) ls u0 mc ms hm1 hm2 hc (by omega) (by omega) h3 h4 hr'
    (fun q hq => by rw [ho' q hq]; show T.heap[q]? = _; rw [hT]; exact h6 q hq) (fun x hx => (List.mem_append.mp hx).elim (h7 x) (hL x)) h8 T' rfl X'
  exact ⟨t, hst.trans a1, b1⟩
/-- a call that throws, and no row of the table covers it: out of the method -/
theorem zg_finT {M2 : zg_M} {x : Nat × String} {σ2 : zg_H} {av rest : List Value} {n : Nat} (hC : zg_C l E d M2 av σ (.inr x, σ2)) (hm : zg_mth E M2 n) (hwt : (rest.map fun v => v.category).sum + zg_ml M2 ≤ 25) (hcov : ∀ h ∈ zg_hh M, (decide (h.1 ≤ pc) && decide (pc < h.2.1)) = false) (hr : r = (.inr x, σ2))
    {p : Program} {e : Env} {R : Room} {s : State} {m : MethodId} {args : Array Value} {below : List Frame} {meth : Method} {c : Code} {H : Heap} {locs : List Loc} {cells slots : Nat} {ls : Array Slot} {u0 mc ms : Nat} (hm1 : mc ≤ R.cells) (hm2 : ms ≤ R.slots)
    (hc : zg_cx l E (d + 1) M p R s m meth c) (h1 : s.heap.size + cells = zg_sz σ) (h2 : u0 + slots = zg_us σ) (h3 : s.heap.size + mc = zg_sz r.2) (h4 : u0 + ms = zg_us r.2) (h5 : zg_rep E σ H) (h6 : ∀ q : Nat, q < zg_b E → H[q]? = s.heap[q]?) (h7 : ∀ x ∈ locs, zg_b E ≤ x.base) (h8 : lv_has ls (zg_ml M) lv)
    {T : State} {vm₁ : Vm} {mk : MethodId} (hT : T.heap = H) (X₁ : Stand p l e R s m args below meth c (T.setVm vm₁) locs cells slots) (hnamed : s.methodNamed? (zg_my M2) = some mk) {ig : Instr} (hdg : decode (zg_cc M) pc = .ok (ig, 3)) :
    ∃ t, Steps p.tables e below (doInvoke e ((T.setVm vm₁).setTop (F0 m pc ls rest)) [] mk av.toArray).1 t ∧ zg_end E below r args s mc ms t := by
  subst hr
  have hz : zg_sz σ ≤ zg_sz σ2 := hC.1
  have hu : zg_us σ ≤ zg_us σ2 := hC.2.1
  have h3 : s.heap.size + mc = zg_sz σ2 := h3
  have h4 : u0 + ms = zg_us σ2 := h4
  have hfr := hc.2.2.2.2.2.2.2.2.2.1
  have hlo := hc.2.2.2.2.2.2.2.2.2.2.1
  have henv : zg_env E (T.setVm vm₁) (T.setVm vm₁).heap := hc.2.2.2.2.2.2.2.1.to X₁.warmed (fun q hq => by show T.heap[q]? = _; rw [hT]; exact h6 q hq)
  have hrep : zg_rep E σ (T.setVm vm₁).heap := by show zg_rep E σ T.heap; rw [hT]; exact h5
  obtain ⟨T', L, X', hL, hr', ho', ⟨cell, hc1, hc2, hc3⟩, hst⟩ := zg_inv (r := (.inr x, σ2)) hC X₁ (g := F0 m pc ls rest) rfl (by rw [hc.2.2.1]; exact h8.1) (by rw [hc.2.1]; exact hdg) (by omega)
    (by show 2 * 0 + (rest.map fun v => v.category).sum + (zg_ml M2 + 11) + 36 * d ≤ R.locals; omega) (by show cells + (zg_sz σ2 - zg_sz σ) ≤ _; omega) (by show slots + (zg_us σ2 - zg_us σ) ≤ _; omega)
    (X₁.named hnamed) (fun a => henv.here.1 _ hm.1 a) (fun a => henv.here.1 _ hm.2.1 a) henv hrep
  have hout : ∀ y ∈ c.exceptionTable.toList, covers y (F0 m pc ls rest).pc = false := by
    intro y hy
    exact hcov (y.startPc, y.endPc, y.handlerPc, y.catchType) (by rw [← hc.2.2.2.2.2.2.2.2.2.2.2]; exact List.mem_map.mpr ⟨y, hy, rfl⟩)
  obtain ⟨hwalk, hrun, hended, hWU, hsame⟩ := X'.leaveThrown x.1 (g := F0 m pc ls rest) rfl rfl rfl hout hc.2.2.2.2.2.1
  have e1 : cells + (zg_sz σ2 - zg_sz σ) = mc := by omega
  have e2 : slots + (zg_us σ2 - zg_us σ) = ms := by omega
  rw [show cells + (zg_sz ((Sum.inr x, σ2) : zg_R).2 - zg_sz σ) = mc from e1, show slots + (zg_us ((Sum.inr x, σ2) : zg_R).2 - zg_us σ) = ms from e2] at hsame
  refine ⟨_, hst.trans hwalk, .threw x.1, hrun, hended, ⟨hr', fun q hq => ?_, rfl, cell, hc1, hc2, ?_⟩, locs ++ L, ⟨hWU, hsame⟩, fun q hq => (List.mem_append.mp hq).elim (h7 q) (hL q)⟩
  · show T'.heap[q]? = _
    rw [ho' q hq]; show T.heap[q]? = _; rw [hT]; exact h6 q hq
  · rw [← X₁.warmed.alike.findClass]; exact hc3
theorem zg_callS {M2 : zg_M} {n index : Nat} {v : Option Value} {σ2 : zg_H} {av rest : List Value} (hdg : decode (zg_cc M) pc = .ok (.invokestatic index, 3)) (hl : zg_lk E (zg_my M).cls index (zg_my M2)) (hm : zg_mth E M2 n) (hs : Cond.static (zg_my M2) ∈ zg_ws E) (hn : av.length = n) (hst : st = av.reverse ++ rest) (hwt : (rest.map fun v => v.category).sum + zg_ml M2 ≤ 25)
    (hC : zg_C l E d M2 av σ (.inl v, σ2)) (k : zg_G l E (d + 1) M (pc + 3) lv (v.toList ++ rest) σ2 r) : zg_G l E (d + 1) M pc lv st σ r := by
  subst hst
  refine ⟨Nat.le_trans hC.1 k.1, Nat.le_trans hC.2.1 k.2.1, ?_⟩
  intro p e R s m args below meth c H locs cells slots ls u0 mc ms hm1 hm2 hc h1 h2 h3 h4 h5 h6 h7 h8 T hT X
  obtain ⟨mk, vm₁, hnamed, X₁, go⟩ := zg_goS X hc hl hm hs (g := F0 m pc ls (av.reverse ++ rest)) rfl hn rfl hdg
  obtain ⟨t, a1, b1⟩ := zg_fin hC k hm hwt hm1 hm2 hc h1 h2 h3 h4 h5 h6 h7 h8 hT X₁ hnamed hdg
  exact ⟨t, go t a1, b1⟩
theorem zg_callST {M2 : zg_M} {n index : Nat} {x : Nat × String} {σ2 : zg_H} {av rest : List Value} (hdg : decode (zg_cc M) pc = .ok (.invokestatic index, 3)) (hl : zg_lk E (zg_my M).cls index (zg_my M2)) (hm : zg_mth E M2 n) (hs : Cond.static (zg_my M2) ∈ zg_ws E) (hn : av.length = n) (hst : st = av.reverse ++ rest) (hwt : (rest.map fun v => v.category).sum + zg_ml M2 ≤ 25)
    (hC : zg_C l E d M2 av σ (.inr x, σ2)) (hcov : ∀ h ∈ zg_hh M, (decide (h.1 ≤ pc) && decide (pc < h.2.1)) = false) (hr : r = (.inr x, σ2)) : zg_G l E (d + 1) M pc lv st σ r := by
  subst hst
  refine ⟨by rw [hr]; exact hC.1, by rw [hr]; exact hC.2.1, ?_⟩
  intro p e R s m args below meth c H locs cells slots ls u0 mc ms hm1 hm2 hc h1 h2 h3 h4 h5 h6 h7 h8 T hT X
  obtain ⟨mk, vm₁, hnamed, X₁, go⟩ := zg_goS X hc hl hm hs (g := F0 m pc ls (av.reverse ++ rest)) rfl hn rfl hdg
  obtain ⟨t, a1, b1⟩ := zg_finT hC hm hwt hcov hr hm1 hm2 hc h1 h2 h3 h4 h5 h6 h7 h8 hT X₁ hnamed hdg
  exact ⟨t, go t a1, b1⟩
theorem zg_recv {ci b : Nat} {q : vw_C} {fs : List Value} {H : Heap} {s : State} (hK : va_K (zg_D E) (zg_cl E) (zg_ty E) s) (h5 : zg_rep E σ H) (hσ : σ.1 b = some (.inr (ci, fs))) (hq : (zg_cl E)[ci]? = some q) : ∃ cell : Cell, H[b]? = some cell ∧ cell.vm.isStatics = false ∧ s.vm.findClass q.1 = some cell.cls :=
  va_recv (ws := [(b, .inr (ci, fs))]) (q0 := 0) hK (zg_one (h5.2.2 b _ hσ).1) hq rfl
theorem zg_callV {M2 : zg_M} {n index ci b : Nat} {q : vw_C} {fs : List Value} {v : Option Value} {σ2 : zg_H} {av rest : List Value} (hdg : decode (zg_cc M) pc = .ok (.invokevirtual index, 3)) (hl : zg_lk E (zg_my M).cls index (zg_my M2)) (hm : zg_mth E M2 n) (hi : Cond.instanceMethod (zg_my M2) ∈ zg_ws E) (hse : Cond.selects (zg_my M2).cls (zg_my M2) (zg_my M2) ∈ zg_ws E)
    (hσ : σ.1 b = some (.inr (ci, fs))) (hq : (zg_cl E)[ci]? = some q) (hqc : q.1 = (zg_my M2).cls) (hn : av.length = n) (hst : st = av.reverse ++ .ref b :: rest) (hwt : (rest.map fun v => v.category).sum + zg_ml M2 ≤ 25)
    (hC : zg_C l E d M2 (.ref b :: av) σ (.inl v, σ2)) (k : zg_G l E (d + 1) M (pc + 3) lv (v.toList ++ rest) σ2 r) : zg_G l E (d + 1) M pc lv st σ r := by
  subst hst
  refine ⟨Nat.le_trans hC.1 k.1, Nat.le_trans hC.2.1 k.2.1, ?_⟩
  intro p e R s m args below meth c H locs cells slots ls u0 mc ms hm1 hm2 hc h1 h2 h3 h4 h5 h6 h7 h8 T hT X
  obtain ⟨cellB, g1, g2, g3⟩ := zg_recv (s := s) hc.2.2.2.2.2.2.2.1.here.2.1 h5 hσ hq
  obtain ⟨mk, vm₁, hnamed, X₁, go⟩ := zg_goV X hc hl hm hi hse (b := b) (by rw [hT]; exact g1) g2 (by rw [← hqc]; exact g3) (g := F0 m pc ls (av.reverse ++ .ref b :: rest)) rfl hn rfl hdg
  obtain ⟨t, a1, b1⟩ := zg_fin hC k hm hwt hm1 hm2 hc h1 h2 h3 h4 h5 h6 h7 h8 hT X₁ hnamed hdg
  exact ⟨t, go t a1, b1⟩
theorem zg_callI {M2 : zg_M} {n index b : Nat} {v : Option Value} {σ2 : zg_H} {av rest : List Value} (hdg : decode (zg_cc M) pc = .ok (.invokespecial index, 3)) (hl : zg_lk E (zg_my M).cls index (zg_my M2)) (hm : zg_mth E M2 n) (hi : Cond.instanceMethod (zg_my M2) ∈ zg_ws E) (hnm : (zg_my M2).name = "<init>") (hrt : zg_rt M2 = none) (hhh : zg_hh M2 = [])
    (hn : av.length = n) (hst : st = av.reverse ++ .ref b :: rest) (hwt : (rest.map fun v => v.category).sum + zg_ml M2 ≤ 25)
    (hC : zg_C l E d M2 (.ref b :: av) σ (.inl v, σ2)) (k : zg_G l E (d + 1) M (pc + 3) lv (v.toList ++ rest) σ2 r) : zg_G l E (d + 1) M pc lv st σ r := by
  subst hst
  refine ⟨Nat.le_trans hC.1 k.1, Nat.le_trans hC.2.1 k.2.1, ?_⟩
  intro p e R s m args below meth c H locs cells slots ls u0 mc ms hm1 hm2 hc h1 h2 h3 h4 h5 h6 h7 h8 T hT X
  obtain ⟨mk, vm₁, hnamed, X₁, go⟩ := zg_goI X hc hl hm hi hnm hrt hhh (b := b) (g := F0 m pc ls (av.reverse ++ .ref b :: rest)) rfl hn rfl hdg
  obtain ⟨t, a1, b1⟩ := zg_fin hC k hm hwt hm1 hm2 hc h1 h2 h3 h4 h5 h6 h7 h8 hT X₁ hnamed hdg
  exact ⟨t, go t a1, b1⟩
end ZG6
section ZG7
variable {l : Launch} {E : zg_E} {d : Nat} {M : zg_M} {pc : Nat} {lv : List (Nat × Value)} {st : List Value} {σ : zg_H} {r : zg_R}
/-- the same invocation, as if it had begun with the heap of now -/
theorem zg_restart {p : Program} {e : Env} {R : Room} {s : State} {m : MethodId} {args : Array Value} {below : List Frame} {meth : Method} {c : Code} {T : State} {locs : List Loc} {cells slots : Nat} (X : Stand p l e R s m args below meth c T locs cells slots) (hce : cells ≤ R.cells) (hsl : slots ≤ R.slots) :
    Stand p l e { frames := R.frames, cells := R.cells - cells, slots := R.slots - slots, locals := R.locals } (T.setFrames (.invoking m args :: below)) m args below meth c T [] 0 0 := by
  obtain ⟨g₀, hfr⟩ := X.frames_eq
  have hcur : T.cur < T.threads.size := State.cur_lt_of_frames hfr
  have hF : (T.setFrames (.invoking m args :: below)).frames = .invoking m args :: below := State.frames_setFrames _ hcur
  have hlu : (T.setFrames (.invoking m args :: below)).localsInUse = s.localsInUse := by
    rw [State.localsInUse_invoking hF (show (T.setFrames (.invoking m args :: below)).vm.method? m = some meth from X.method') X.code, State.localsInUse_invoking X.frames X.method X.code]
  refine ⟨X.admits, X.cas, X.clock, hF, ?_, ?_, X.method', X.code, X.here, X.tail, State.WarmedH.refl _, by rw [State.stackLimits_setFrames], by rw [State.stackBytes_setFrames], ?_⟩
  · have hr := X.room
    have hz := X.heapSize
    have hu := X.used
    have hbk := X.book
    simp only [State.hasRoom, Bool.and_eq_true, decide_eq_true_eq] at hr ⊢
    rw [X.frames] at hr
    rw [hlu, hF, State.stackLimits_setFrames, State.stackBytes_setFrames, X.limits, X.bytes]
    refine ⟨⟨⟨⟨hr.1.1.1.1, hr.1.1.1.2⟩, ?_⟩, ?_⟩, hbk⟩
    · have := hr.1.1.2
      show T.heap.size + (R.cells - cells) ≤ _
      omega
    · have := hr.1.2
      show T.slotsUsed + (R.slots - slots) ≤ _
      omega
  · have h1 := X.hears
    rcases below with _ | ⟨y, rest⟩
    · simp only [State.hears] at h1 ⊢
      show (T.vm.method? m).any _ = true
      rw [X.warmed.alike.method?]; exact h1
    · cases y <;> simp only [State.hears, State.code?_eq] at h1 ⊢ <;> first | exact h1 | (show ((T.vm.method? _).bind _ |>.bind _).isSome = true; rw [X.warmed.alike.method?]; exact h1) | (show (T.vm.method? m).any _ = true; rw [X.warmed.alike.method?]; exact h1)
  · obtain ⟨t, ht, -⟩ := State.frames_cons hF
    have h := (State.sameButNew.refl (T.setFrames (.invoking m args :: below)) ht).setFrames T.frames (show (T.setFrames (.invoking m args :: below)).cur < _ from State.cur_lt_of_frames hF)
    obtain ⟨t2, ht2, -⟩ := State.frames_cons hfr
    rw [State.setFrames_setFrames, State.setFrames_self ht2] at h
    exact h
/-- new X("..") is made and thrown; no row of the table covers it -/
theorem zg_throw {X tx : String} {names : List String} {ia ib ic q : Nat} (htr : l.stackTraces = false) (hd : 6 ≤ d) (hnl : names.length ≤ 2) (hst : (st.map fun v => v.category).sum ≤ 8)
    (d1 : decode (zg_cc M) pc = .ok (.new ia, 3)) (d2 : decode (zg_cc M) (pc + 3) = .ok (.dup, 1)) (d3 : decode (zg_cc M) (pc + 4) = .ok (.ldc ib, 2)) (d4 : decode (zg_cc M) (pc + 6) = .ok (.invokespecial ic, 3)) (d5 : decode (zg_cc M) (pc + 9) = .ok (.athrow, 1))
    (hcl : Cond.classLink (zg_my M).cls ia X ∈ zg_ws E) (hini : Cond.initialized X ∈ zg_ws E) (hstr : ∀ U H, zg_x E U H → vk_R (zg_my M).cls ib tx q U) (hfit : Bundle.fit X = true) (hfits : ∀ n ∈ names, Bundle.fit n = true)
    (hat : ∀ a ∈ Bundle.ownAtoms (zg_my M).cls ic X names, a ∈ zg_ws E ∨ ∀ U H, zg_x E U H → U.heap = H → ∀ ar : Array Value, a.before ar U = true) (hins : Cond.instantiable X 6 ∈ zg_ws E) (hcov : ∀ h ∈ zg_hh M, (decide (h.1 ≤ pc + 9) && decide (pc + 9 < h.2.1)) = false)
    (hr : r = (.inr (zg_sz σ, X), (σ.1, zg_sz σ + 1, zg_us σ + 6))) : zg_G l E d M pc lv st σ r := by
  subst hr
  refine ⟨by show zg_sz σ ≤ zg_sz σ + 1; omega, by show zg_us σ ≤ zg_us σ + 6; omega, ?_⟩
  intro p e R s m args below meth c H locs cells slots ls u0 mc ms hm1 hm2 hc h1 h2 h3 h4 h5 h6 h7 h8 T hT X1
  have h3 : s.heap.size + mc = zg_sz σ + 1 := h3
  have h4 : u0 + ms = zg_us σ + 6 := h4
  have hTz : T.heap.size = zg_sz σ := by rw [hT]; exact h5.1
  have hfr := hc.2.2.2.2.2.2.2.2.2.1
  have hlo := hc.2.2.2.2.2.2.2.2.2.2.1
  have X0 := zg_restart X1 (by omega) (by omega)
  obtain ⟨s', hs'⟩ : ∃ s', s' = T.setFrames (.invoking m args :: below) := ⟨_, rfl⟩
  rw [← hs'] at X0
  have hh : s'.heap = T.heap := by rw [hs']; rfl
  have hvm : s'.vm = T.vm := by rw [hs']; rfl
  have henv : zg_env E s' s'.heap := hc.2.2.2.2.2.2.2.1.to (by rw [hvm]; exact X1.warmed) (fun q hq => by rw [hh, hT]; exact h6 q hq)
  obtain ⟨b1, b2, b3⟩ := henv.here
  have hts : ∀ w ∈ zg_ws E, w.before args s' = true := fun w hw => b1 w hw args
  have hown : s'.vm.findClass (zg_my M).cls = some m.cls := by rw [hvm, X1.warmed.alike.findClass]; exact hc.2.2.2.2.1
  have hout : ∀ y ∈ c.exceptionTable.toList, covers y (pc + 6 + 3) = false := by
    intro y hy
    exact hcov (y.startPc, y.endPc, y.handlerPc, y.catchType) (by rw [← hc.2.2.2.2.2.2.2.2.2.2.2]; exact List.mem_map.mpr ⟨y, hy, rfl⟩)
  have key : W p l e { frames := R.frames, cells := R.cells - cells, slots := R.slots - slots, locals := R.locals } s' m args below meth c T.heap [] 0 0
      (fun t => t.status = .running ∧ Ended t below (.threw T.heap.size) ∧ s'.WarmedH t.vm ∧ s'.sameButNew ({ t with vm := s'.vm } : State) [] 1 6 ∧ ∃ cell : Cell, t.heap[T.heap.size]? = some cell ∧ cell.vm.isStatics = false ∧ s'.vm.findClass X = some cell.cls) (F0 m pc ls st) := by
    obtain ⟨cX, kX, hfc, hkX, -⟩ := Cond.instantiable_spec (hts _ hins)
    refine W.newcK hc.1 hc.2.1 hown (hts _ hcl) (hts _ hins) (hts _ hini) rfl d1 (by show 0 + 1 ≤ R.cells - cells; omega) (by show 0 + 6 ≤ R.slots - slots; omega) hfc rfl fun H1 kC hkC e1 z1 o1 => ?_
    refine lv_dup hc.1 hc.2.1 d2 rfl ?_
    refine va_ldcS hc.1 hc.2.1 hown (hstr _ _ b3) d3 ?_
    intro T1 hT1 X2
    obtain ⟨U, st1, st2, st3, st4, st5, ce, hce, hO⟩ := X2.ctorThrowS hc.1 (by rw [X2.admits.platform]; exact htr) hown hfit hfits (fun a ha => (hat a ha).elim (fun h => hts a h) (fun h => h _ _ b3 rfl args)) (fun x hx => by cases hx) hfc hkC (a := T.heap.size) (by rw [hT1]; exact e1) (by rw [hh]; exact Nat.le_refl _) (msg := .ref q) rfl
      (g := F0 m (pc + 6) ls (.ref q :: .ref T.heap.size :: .ref T.heap.size :: st)) rfl (by rw [hc.2.2.1]; exact h8.1) rfl rfl rfl (by rw [hc.2.1]; exact d4) (by rw [hc.2.1]; exact d5) hout (by show names.length + 3 < R.frames; omega)
      (by show 2 * 0 + (1 + (st.map fun v => v.category).sum) + (13 * (names.length + 1) + 42) ≤ R.locals; omega) hc.2.2.2.2.2.1
    exact ⟨U, st1, st2, st3, st4, by simpa using st5, ce, hce, by rw [hO.vm]; rfl, hO.cls⟩
  obtain ⟨t, a1, g1, g2, g3, g4, cell, g5, g6, g7⟩ := key T rfl X0
  have hold : ∀ (q : Nat) (cl : Cell), T.heap[q]? = some cl → t.heap[q]? = some cl := fun q cl hq => State.sameButNew.old_cell g4 (by rw [hh]; exact hq)
  have hold2 : ∀ q : Nat, q < T.heap.size → t.heap[q]? = T.heap[q]? := fun q hq => by
    rw [Array.getElem?_eq_getElem hq]
    exact hold q _ (Array.getElem?_eq_getElem hq)
  have hsz : t.heap.size = zg_sz σ + 1 := by
    have u1 : t.heap.size ≤ s'.heap.size + 1 := g4.2.2.1
    have u2 := (Array.getElem?_eq_some_iff.mp g5).1
    rw [hh] at u1
    omega
  have hsame : T.sameButNew ({ t with vm := s'.vm } : State) [] 1 6 := by
    obtain ⟨e1, e2⟩ := g4
    refine ⟨?_, ?_⟩
    · rw [hs', State.setFrames_setFrames] at e1
      rw [hs']
      exact e1
    · rw [hh] at e2
      have hus : s'.slotsUsed = T.slotsUsed := by rw [hs']; rfl
      rw [hus] at e2
      exact e2
  have hS := X1.same.trans (hsame.setVm s.vm)
  rw [List.append_nil] at hS
  have em : cells + 1 = mc := by omega
  have es : slots + 6 = ms := by omega
  rw [em, es] at hS
  have hW : s.WarmedH t.vm := State.WarmedH.trans X1.warmed (show T.WarmedH t.vm by
    have := g3
    rw [hs'] at this
    exact this)
  rw [hTz] at g2 g5
  refine ⟨t, a1, .threw (zg_sz σ), g1, g2, ⟨⟨hsz, by have := h5.2.1; have := h5.1; omega, fun a e9 he9 => ?_⟩, fun q hq => ?_, rfl, cell, g5, g6, ?_⟩, locs, ⟨hW, hS⟩, h7⟩
  · have h9 := h5.2.2 a e9 he9
    refine ⟨h9.1.kept ?_, h9.2⟩
    rw [hold2 a (by rw [hT]; exact h9.1.lt), hT]
  · rw [hold2 q (by rw [hT]; exact Nat.lt_of_lt_of_le hq h5.2.1), hT]
    exact h6 q hq
  · rw [hvm, X1.warmed.alike.findClass] at g7
    exact g7
end ZG7
section ZG8
variable {l : Launch} {E : zg_E} {d : Nat} {M : zg_M} {pc : Nat} {lv : List (Nat × Value)} {st : List Value} {σ : zg_H} {r : zg_R}
/-- the first row of the table that takes an X thrown at pc leads to hp -/
def zg_catch (E : zg_E) (own X : String) (pc hp : Nat) : List (Nat × Nat × Nat × Nat) → Prop
  | [] => False
  | h :: t => (decide (h.1 ≤ pc) && decide (pc < h.2.1)) = true ∧ h.2.2.2 ≠ 0 ∧ ∃ Y : String, Cond.classLink own h.2.2.2 Y ∈ zg_ws E ∧
      ((Cond.castable X Y ∈ zg_ws E ∧ h.2.2.1 = hp) ∨ ((∀ U H, zg_x E U H → va_Nc X Y U) ∧ zg_catch E own X pc hp t))
theorem zg_go_cold {EE : CtlPost} {e : Env} {dd : Bool} {acts : List Action} {s : State} {f : JFrame} {a : Addr} {Q : Handler → Pre} {x : ExceptionTableEntry} {t : List ExceptionTableEntry} {cY : ClassId} {vm' : Vm} {cell : Cell} (hx : covers x f.pc = true) (h0 : x.catchType ≠ 0)
    (hg : (Jvm.resolveClass f.method.cls x.catchType).Gives e.toSetting s.vm (.ok cY) vm') (hsz : vm'.classes.size ≤ s.vm.classes.size) (hcell : s.heap[a]? = some cell) (hobj : ∀ k, cell.vm ≠ .statics k) (hk : ∃ k, vm'.classes[cell.cls]? = some k) (hc : ∃ k, vm'.classes[cY]? = some k) :
    wp (findHandler.go f a (x :: t)) Q EE e dd acts s ↔ if vm'.assignable cell.cls cY = true then Q (.found x.handlerPc) dd acts (s.setVm vm') else wp (findHandler.go f a t) Q EE e dd acts (s.setVm vm') := by
  simp only [covers] at hx
  obtain ⟨ha, ht⟩ := hg.op (op := VmOp.resolveClass f.method.cls x.catchType) rfl
  cases hfit : vm'.assignable cell.cls cY <;>
    simp [findHandler.go, hx, h0, ha, ht, hsz, hcell, hobj, hk, hc, hfit, VmOp.dirties, VmOp.acts]
theorem zg_search {e : Env} {s : State} (hpl : e.platform.magicAccessors = ({} : Platform).magicAccessors) {own X : String} {f : JFrame} {a : Addr} {cell : Cell} {args : Array Value} (hown : s.vm.findClass own = some f.method.cls) (hws : ∀ w ∈ zg_ws E, w.before args s = true) {Hx : Heap} (hxx : zg_x E s Hx)
    (hX : s.vm.findClass X = some cell.cls) (hobj : cell.vm.isStatics = false) {hp : Nat} :
    ∀ (es : List ExceptionTableEntry), zg_catch E own X f.pc hp (es.map (fun h => (h.startPc, h.endPc, h.handlerPc, h.catchType))) → ∀ (T : State), s.WarmedH T.vm → T.heap[a]? = some cell →
      ∃ vm' : Vm, s.WarmedH vm' ∧ ∀ (Q : Handler → Pre) (EE : CtlPost) (dd : Bool) (acts : List Action), wp (findHandler.go f a es) Q EE e dd acts T ↔ Q (.found hp) dd acts (T.setVm vm') := by
  intro es
  induction es with
  | nil => intro h; exact absurd h id
  | cons x t ih =>
    intro h T hW hcell
    obtain ⟨hx, h0, Y, hY, hor⟩ := h
    obtain ⟨cY, hcY, hcl⟩ := Cond.classLink_spec hown (hws _ hY) e.platform hpl
    obtain ⟨hg, hW1, -⟩ := State.classEntry (e := e) hW hcl
    generalize T.vm.noted f.method.cls x.catchType (.cls cY) = vm1 at hg hW1
    have hsz : vm1.classes.size ≤ T.vm.classes.size := by rw [hW1.2.1, hW.2.1]; exact Nat.le_refl _
    have hkX : ∃ k, vm1.classes[cell.cls]? = some k := Vm.classAt_of_findClass (name := X) (by rw [hW1.alike.findClass]; exact hX)
    have hkY : ∃ k, vm1.classes[cY]? = some k := Vm.classAt_of_findClass (name := Y) (by rw [hW1.alike.findClass]; exact hcY)
    rcases hor with ⟨hy, rfl⟩ | ⟨hn, hr⟩
    · obtain ⟨c3, t3, w1, w2, w3⟩ := Cond.castable_spec (hws _ hy)
      cases hX.symm.trans w1
      cases hcY.symm.trans w2
      refine ⟨vm1, hW1, fun Q EE dd acts => ?_⟩
      rw [zg_go_cold hx h0 hg hsz hcell (VmData.ne_statics_of hobj) hkX hkY, if_pos (by rw [hW1.alike.assignable]; exact w3)]
    · obtain ⟨c3, t3, w1, w2, w3⟩ := hn s Hx hxx
      cases hX.symm.trans w1
      cases hcY.symm.trans w2
      obtain ⟨vm2, hW2, hgo⟩ := ih hr (T.setVm vm1) hW1 hcell
      refine ⟨vm2, hW2, fun Q EE dd acts => ?_⟩
      rw [zg_go_cold hx h0 hg hsz hcell (VmData.ne_statics_of hobj) hkX hkY, if_neg (by rw [hW1.alike.assignable, w3]; decide)]
      exact hgo Q EE dd acts
theorem zg_stepCatch {e : Env} {s : State} {a : Addr} {f : JFrame} {fr : List Frame} {hp : Nat} {vm' : Vm} (hfind : ∀ (Q : Handler → Pre) (EE : CtlPost) (dd : Bool) (acts : List Action), wp (findHandler f a) Q EE e dd acts s ↔ Q (.found hp) dd acts (s.setVm vm')) :
    (stepThrowing e s a (.java f :: fr)).Is ((s.setVm vm').setFrames (.java { f with pc := hp, stack := [.ref a] } :: fr)) [] := by
  simp only [stepThrowing, searchFrame, vmDo]
  generalize hr : Sem.go _ e false [] s = res
  obtain ⟨as, rfl, ha⟩ := Sem.eq_ok_of hr (a := Handler.found hp) (s' := s.setVm vm') (acts' := []) (by simp [hfind _ _ _ _])
  exact ⟨rfl, ha⟩
theorem zg_caught {tb : Tables} {e : Env} {T target : State} {g : JFrame} {c : Code} {below : List Frame} {a : Addr} {vm' : Vm} (h : At T g.method c below) {hp : Nat}
    (hfind : ∀ (Q : Handler → Pre) (EE : CtlPost) (dd : Bool) (acts : List Action), wp (findHandler g a) Q EE e dd acts ((T.setTop g).pushFrame (.throwing a)) ↔ Q (.found hp) dd acts (((T.setTop g).pushFrame (.throwing a)).setVm vm'))
    (hrest : Steps tb e below ((T.setVm vm').setTop { g with pc := hp, stack := [.ref a] }) target) : Steps tb e below ((T.setTop g).pushFrame (.throwing a)) target := by
  obtain ⟨hgo, hw⟩ := h.throwing a
  refine Steps.head hgo hw ?_
  rw [stepThread_throwing (frames_entered h.top _), (zg_stepCatch (s := (T.setTop g).pushFrame (.throwing a)) hfind).1]
  obtain ⟨g₀, hg⟩ := Option.isSome_iff_exists.mp h.top
  obtain ⟨fr, hr⟩ := State.topJava?_eq_some.mp hg
  have hr' : (T.setVm vm').frames = .java g₀ :: fr := hr
  rw [State.setTop_of_frames _ hr'] at hrest
  rw [State.pushFrame, State.setTop_of_frames _ hr, State.setFrames_setFrames, hr]
  show Steps tb e below (((T.setVm vm').setFrames (.throwing a :: (T.setFrames (.java g :: fr)).frames)).setFrames (.java { g with pc := hp, stack := [.ref a] } :: fr)) target
  rw [State.setFrames_setFrames]
  exact hrest
/-- a call that throws an X, and a row of the table takes it -/
theorem zg_finC {M2 : zg_M} {x : Nat × String} {σ2 : zg_H} {av rest : List Value} {n hp : Nat} (hC : zg_C l E d M2 av σ (.inr x, σ2)) (k : zg_G l E (d + 1) M hp lv [.ref x.1] σ2 r) (hm : zg_mth E M2 n) (hwt : (rest.map fun v => v.category).sum + zg_ml M2 ≤ 25) (hca : zg_catch E (zg_my M).cls x.2 pc hp (zg_hh M))
    {p : Program} {e : Env} {R : Room} {s : State} {m : MethodId} {args : Array Value} {below : List Frame} {meth : Method} {c : Code} {H : Heap} {locs : List Loc} {cells slots : Nat} {ls : Array Slot} {u0 mc ms : Nat} (hm1 : mc ≤ R.cells) (hm2 : ms ≤ R.slots)
    (hc : zg_cx l E (d + 1) M p R s m meth c) (h1 : s.heap.size + cells = zg_sz σ) (h2 : u0 + slots = zg_us σ) (h3 : s.heap.size + mc = zg_sz r.2) (h4 : u0 + ms = zg_us r.2) (h5 : zg_rep E σ H) (h6 : ∀ q : Nat, q < zg_b E → H[q]? = s.heap[q]?) (h7 : ∀ x ∈ locs, zg_b E ≤ x.base) (h8 : lv_has ls (zg_ml M) lv)
    {T : State} {vm₁ : Vm} {mk : MethodId} (hT : T.heap = H) (X₁ : Stand p l e R s m args below meth c (T.setVm vm₁) locs cells slots) (hnamed : s.methodNamed? (zg_my M2) = some mk) {ig : Instr} (hdg : decode (zg_cc M) pc = .ok (ig, 3)) :
    ∃ t, Steps p.tables e below (doInvoke e ((T.setVm vm₁).setTop (F0 m pc ls rest)) [] mk av.toArray).1 t ∧ zg_end E below r args s mc ms t := by
  have hz : zg_sz σ ≤ zg_sz σ2 := hC.1
  have hu : zg_us σ ≤ zg_us σ2 := hC.2.1
  have k1 := k.1
  have k2 := k.2.1
  have hfr := hc.2.2.2.2.2.2.2.2.2.1
  have hlo := hc.2.2.2.2.2.2.2.2.2.2.1
  have henv : zg_env E (T.setVm vm₁) (T.setVm vm₁).heap := hc.2.2.2.2.2.2.2.1.to X₁.warmed (fun q hq => by show T.heap[q]? = _; rw [hT]; exact h6 q hq)
  have hrep : zg_rep E σ (T.setVm vm₁).heap := by show zg_rep E σ T.heap; rw [hT]; exact h5
  obtain ⟨T', L, X', hL, hr', ho', ⟨cell, hc1, hc2, hc3⟩, hst⟩ := zg_inv (r := (.inr x, σ2)) hC X₁ (g := F0 m pc ls rest) rfl (by rw [hc.2.2.1]; exact h8.1) (by rw [hc.2.1]; exact hdg) (by omega)
    (by show 2 * 0 + (rest.map fun v => v.category).sum + (zg_ml M2 + 11) + 36 * d ≤ R.locals; omega) (by show cells + (zg_sz σ2 - zg_sz σ) ≤ _; omega) (by show slots + (zg_us σ2 - zg_us σ) ≤ _; omega)
    (X₁.named hnamed) (fun a => henv.here.1 _ hm.1 a) (fun a => henv.here.1 _ hm.2.1 a) henv hrep
  have hpl : e.platform.magicAccessors = ({} : Platform).magicAccessors := by rw [X'.admits.platform]
  have hX : s.vm.findClass x.2 = some cell.cls := by rw [← X₁.warmed.alike.findClass]; exact hc3
  obtain ⟨vm2, hW2, hfind⟩ := zg_search (E := E) (s := s) hpl (own := (zg_my M).cls) (f := F0 m pc ls rest) (a := x.1) (args := args) hc.2.2.2.2.1 (fun w hw => hc.2.2.2.2.2.2.2.1.here.1 w hw args) hc.2.2.2.2.2.2.2.1.here.2.2 hX hc2 c.exceptionTable.toList
    (by rw [hc.2.2.2.2.2.2.2.2.2.2.2]; exact hca) ((T'.setTop (F0 m pc ls rest)).pushFrame (.throwing x.1)) (by rw [Stand.throwing_vm]; exact X'.warmed) (by rw [Stand.throwing_heap]; exact hc1)
  have X2 := X'.noted hW2
  obtain ⟨t, a1, b1⟩ := k.2.2 p e R s m args below meth c T'.heap (locs ++ L) (cells + (zg_sz σ2 - zg_sz σ)) (slots + (zg_us σ2 - zg_us σ)) ls u0 mc ms hm1 hm2 hc (by omega) (by omega) h3 h4 hr'
    (fun q hq => by rw [ho' q hq]; show T.heap[q]? = _; rw [hT]; exact h6 q hq) (fun x hx => (List.mem_append.mp hx).elim (h7 x) (hL x)) h8 (T'.setVm vm2) rfl X2
  refine ⟨t, hst.trans (zg_caught (c := c) (g := F0 m pc ls rest) X'.here (vm' := vm2) (hp := hp) (fun Q EE dd acts => ?_) a1), b1⟩
  rw [W.findHandler_eq (meth := meth) (code := c) (by rw [Stand.throwing_vm]; exact X'.method') X'.code]
  exact hfind Q EE dd acts
theorem zg_callVC {M2 : zg_M} {n index ci b hp : Nat} {q : vw_C} {fs : List Value} {x : Nat × String} {σ2 : zg_H} {av rest : List Value} (hdg : decode (zg_cc M) pc = .ok (.invokevirtual index, 3)) (hl : zg_lk E (zg_my M).cls index (zg_my M2)) (hm : zg_mth E M2 n) (hi : Cond.instanceMethod (zg_my M2) ∈ zg_ws E) (hse : Cond.selects (zg_my M2).cls (zg_my M2) (zg_my M2) ∈ zg_ws E)
    (hσ : σ.1 b = some (.inr (ci, fs))) (hq : (zg_cl E)[ci]? = some q) (hqc : q.1 = (zg_my M2).cls) (hn : av.length = n) (hst : st = av.reverse ++ .ref b :: rest) (hwt : (rest.map fun v => v.category).sum + zg_ml M2 ≤ 25)
    (hC : zg_C l E d M2 (.ref b :: av) σ (.inr x, σ2)) (hca : zg_catch E (zg_my M).cls x.2 pc hp (zg_hh M)) (k : zg_G l E (d + 1) M hp lv [.ref x.1] σ2 r) : zg_G l E (d + 1) M pc lv st σ r := by
  subst hst
  refine ⟨Nat.le_trans hC.1 k.1, Nat.le_trans hC.2.1 k.2.1, ?_⟩
  intro p e R s m args below meth c H locs cells slots ls u0 mc ms hm1 hm2 hc h1 h2 h3 h4 h5 h6 h7 h8 T hT X
  obtain ⟨cellB, g1, g2, g3⟩ := zg_recv (s := s) hc.2.2.2.2.2.2.2.1.here.2.1 h5 hσ hq
  obtain ⟨mk, vm₁, hnamed, X₁, go⟩ := zg_goV X hc hl hm hi hse (b := b) (by rw [hT]; exact g1) g2 (by rw [← hqc]; exact g3) (g := F0 m pc ls (av.reverse ++ .ref b :: rest)) rfl hn rfl hdg
  obtain ⟨t, a1, b1⟩ := zg_finC hC k hm hwt hca hm1 hm2 hc h1 h2 h3 h4 h5 h6 h7 h8 hT X₁ hnamed hdg
  exact ⟨t, go t a1, b1⟩
end ZG8
section ZG9
variable {l : Launch} {E : zg_E} {d : Nat} {M : zg_M} {pc : Nat} {lv : List (Nat × Value)} {st : List Value} {σ : zg_H} {r : zg_R}
theorem zg_getsN {index : Nat} {C n ds host : String} {v : Value} (hdg : decode (zg_cc M) pc = .ok (.getstatic index, 3)) (hx : ∀ U H, zg_x E U H → va_Z C n ds v (fun q => zg_b E ≤ q) U H) (hl : Cond.fieldLinkNest (zg_my M).cls index C n ds host ∈ zg_ws E) (kk : zg_G l E d M (pc + 3) lv (v :: st) σ r) : zg_G l E d M pc lv st σ r := by
  refine ⟨kk.1, kk.2.1, ?_⟩
  intro p e R s m args below meth c H locs cells slots ls u0 mc ms hm1 hm2 hc h1 h2 h3 h4 h5 h6 h7 h8
  obtain ⟨b1, b2, b3⟩ := hc.2.2.2.2.2.2.2.1.here
  exact va_getsN hc.1 hc.2.1 (hx _ _ b3) (zg_S h1 h5 h6 h7) hc.2.2.2.2.1 (b1 _ hl args) (fun x h => h) hdg (kk.2.2 p e R s m args below meth c H locs cells slots ls u0 mc ms hm1 hm2 hc h1 h2 h3 h4 h5 h6 h7 h8)
end ZG9
end
section
theorem zd_t {cc : ByteArray} {T : List (Nat × Instr × Nat)} (h : T.all (fun q => decide (decode cc q.1 = .ok q.2)) = true) (k : Nat) {pc len : Nat} {i : Instr} (hk : T[k]? = some (pc, i, len)) : decode cc pc = .ok (i, len) :=
  of_decide_eq_true (List.all_eq_true.mp h (pc, i, len) (List.mem_of_getElem? hk))
def mU_init : zg_M := (⟨"ResidueUnit", "<init>", "()V"⟩, prog_1_method_1_code, 2, none, [])
def mR_init : zg_M := (⟨"ResidueUnit$Register", "<init>", "()V"⟩, prog_3_method_1_code, 1, none, [])
def mI_init : zg_M := (⟨"ResidueUnit$Instruction", "<init>", "()V"⟩, prog_2_method_1_code, 1, none, [])
def mU_stopped : zg_M := (⟨"ResidueUnit", "stopped", "()I"⟩, prog_1_method_16_code, 1, (some .int), [])
def mU_load : zg_M := (⟨"ResidueUnit", "load", "(IJ)V"⟩, prog_1_method_2_code, 4, none, [])
def mU_requireRegister : zg_M := (⟨"ResidueUnit", "requireRegister", "(I)V"⟩, prog_1_method_17_code, 1, none, [])
def mU_isRegister : zg_M := (⟨"ResidueUnit", "isRegister", "(I)Z"⟩, prog_1_method_19_code, 1, (some .boolean), [])
def mU_inRange : zg_M := (⟨"ResidueUnit", "inRange", "(J)Z"⟩, prog_1_method_22_code, 2, (some .boolean), [])
def mR_put : zg_M := (⟨"ResidueUnit$Register", "put", "(J)V"⟩, prog_3_method_2_code, 4, none, [])
def mU_residueOf : zg_M := (⟨"ResidueUnit", "residueOf", "(JI)I"⟩, prog_1_method_29_code, 3, (some .int), [])
def mJ_floorMod_J : zg_M := (⟨"java/lang/Math", "floorMod", "(JJ)J"⟩, prog_12_method_52_code, 6, (some .long), [])
def mU_binary : zg_M := (⟨"ResidueUnit", "binary", "(I)J"⟩, prog_1_method_3_code, 2, (some .long), [])
def mR_isGood : zg_M := (⟨"ResidueUnit$Register", "isGood", "()Z"⟩, prog_3_method_7_code, 1, (some .boolean), [])
def mR_value : zg_M := (⟨"ResidueUnit$Register", "value", "()J"⟩, prog_3_method_6_code, 5, (some .long), [])
def mR_fits : zg_M := (⟨"ResidueUnit$Register", "fits", "(JI)Z"⟩, prog_3_method_12_code, 5, (some .boolean), [])
def mU_work : zg_M := (⟨"ResidueUnit", "work", "(IIII)V"⟩, prog_1_method_4_code, 5, none, [])
def mR_combine : zg_M := (⟨"ResidueUnit$Register", "combine", "(ILResidueUnit$Register;LResidueUnit$Register;)V"⟩, prog_3_method_4_code, 7, none, [])
def mU_combineResidues : zg_M := (⟨"ResidueUnit", "combineResidues", "(IIIII)I"⟩, prog_1_method_30_code, 6, (some .int), [])
def mU_combineNumbers : zg_M := (⟨"ResidueUnit", "combineNumbers", "(IJJJ)J"⟩, prog_1_method_31_code, 7, (some .long), [])
def mU_cappedProduct : zg_M := (⟨"ResidueUnit", "cappedProduct", "(JJ)J"⟩, prog_1_method_32_code, 5, (some .long), [])
def mJ_abs : zg_M := (⟨"java/lang/Math", "abs", "(J)J"⟩, prog_12_method_61_code, 2, (some .long), [])
def mU_compare : zg_M := (⟨"ResidueUnit", "compare", "(II)I"⟩, prog_1_method_5_code, 7, (some .int), [])
def mU_scale : zg_M := (⟨"ResidueUnit", "scale", "(IIIZ)V"⟩, prog_1_method_6_code, 5, none, [])
def mU_areScalingModuli : zg_M := (⟨"ResidueUnit", "areScalingModuli", "(I)Z"⟩, prog_1_method_21_code, 1, (some .boolean), [])
def mJ_bitCount : zg_M := (⟨"java/lang/Integer", "bitCount", "(I)I"⟩, prog_11_method_49_code, 1, (some .int), [])
def mU_putScaled : zg_M := (⟨"ResidueUnit", "putScaled", "(IIIZ)V"⟩, prog_1_method_27_code, 9, none, [])
def mU_productOf : zg_M := (⟨"ResidueUnit", "productOf", "(I)J"⟩, prog_1_method_28_code, 4, (some .long), [])
def mJ_floorDiv : zg_M := (⟨"java/lang/Math", "floorDiv", "(JJ)J"⟩, prog_12_method_49_code, 6, (some .long), [])
def mU_divide : zg_M := (⟨"ResidueUnit", "divide", "(IIII)V"⟩, prog_1_method_7_code, 9, none, [])
def mU_channel : zg_M := (⟨"ResidueUnit", "channel", "(II)I"⟩, prog_1_method_8_code, 3, (some .int), [])
def mU_requireChannel : zg_M := (⟨"ResidueUnit", "requireChannel", "(I)V"⟩, prog_1_method_18_code, 1, none, [])
def mU_inject : zg_M := (⟨"ResidueUnit", "inject", "(III)I"⟩, prog_1_method_9_code, 4, (some .int), [])
def mR_shift : zg_M := (⟨"ResidueUnit$Register", "shift", "(II)I"⟩, prog_3_method_5_code, 3, (some .int), [])
def mJ_floorMod_I : zg_M := (⟨"java/lang/Math", "floorMod", "(II)I"⟩, prog_12_method_50_code, 3, (some .int), [])
def mU_verify : zg_M := (⟨"ResidueUnit", "verify", "(I)I"⟩, prog_1_method_10_code, 2, (some .int), [])
def mR_fault : zg_M := (⟨"ResidueUnit$Register", "fault", "()I"⟩, prog_3_method_8_code, 2, (some .int), [])
def mR_healingResidue : zg_M := (⟨"ResidueUnit$Register", "healingResidue", "(I)I"⟩, prog_3_method_10_code, 4, (some .int), [])
def mR_numberWithout : zg_M := (⟨"ResidueUnit$Register", "numberWithout", "(I)J"⟩, prog_3_method_11_code, 8, (some .long), [])
def mU_repair : zg_M := (⟨"ResidueUnit", "repair", "(I)I"⟩, prog_1_method_11_code, 3, (some .int), [])
def mR_heal : zg_M := (⟨"ResidueUnit$Register", "heal", "(I)V"⟩, prog_3_method_9_code, 3, none, [])
def mU_sure : zg_M := (⟨"ResidueUnit", "sure", "(I)Z"⟩, prog_1_method_12_code, 2, (some .boolean), [])
def mU_bound : zg_M := (⟨"ResidueUnit", "bound", "(II)J"⟩, prog_1_method_13_code, 3, (some .long), [])
def mU_instruct : zg_M := (⟨"ResidueUnit", "instruct", "(IIIII)V"⟩, prog_1_method_14_code, 6, none, [])
def mU_isInstruction : zg_M := (⟨"ResidueUnit", "isInstruction", "(I)Z"⟩, prog_1_method_20_code, 1, (some .boolean), [])
def mU_isAllowed : zg_M := (⟨"ResidueUnit", "isAllowed", "(IIII)Z"⟩, prog_1_method_23_code, 4, (some .boolean), [])
def mI_become : zg_M := (⟨"ResidueUnit$Instruction", "become", "(IIII)V"⟩, prog_2_method_2_code, 5, none, [])
def mU_run : zg_M := (⟨"ResidueUnit", "run", "(I)I"⟩, prog_1_method_15_code, 4, (some .int), [])
def mU_step : zg_M := (⟨"ResidueUnit", "step", "(I)I"⟩, prog_1_method_24_code, 3, (some .int), [])
def mU_calculate : zg_M := (⟨"ResidueUnit", "calculate", "(LResidueUnit$Instruction;)V"⟩, prog_1_method_25_code, 2, none, [])
def mR_copyFrom : zg_M := (⟨"ResidueUnit$Register", "copyFrom", "(LResidueUnit$Register;)V"⟩, prog_3_method_3_code, 2, none, [])
def mU_reasonAt : zg_M := (⟨"ResidueUnit", "reasonAt", "(I)I"⟩, prog_1_method_26_code, 1, (some .int), [])
def tmU_init : List (Nat × Instr × Nat) := [(0, .aload_n 0, 1), (1, .invokespecial 3, 3), (4, .aload_n 0, 1), (5, .bipush 16, 2), (7, .anewarray 9, 3), (10, .putfield 11, 3), (13, .aload_n 0, 1), (14, .bipush 32, 2), (16, .anewarray 15, 3), (19, .putfield 17, 3), (22, .aload_n 0, 1), (23, .iconst 0, 1), (24, .putfield 21, 3), (27, .aload_n 0, 1), (28, .iconst 0, 1), (29, .putfield 25, 3), (32, .iconst 0, 1), (33, .istore_n 1, 1), (34, .iload_n 1, 1), (35, .bipush 16, 2), (37, .if_icmp .ge 22, 3), (40, .aload_n 0, 1), (41, .getfield 11, 3), (44, .iload_n 1, 1), (45, .new 9, 3), (48, .dup, 1), (49, .invokespecial 28, 3), (52, .aastore, 1), (53, .iinc 1 1, 3), (56, .goto (-22), 3), (59, .iconst 0, 1), (60, .istore_n 1, 1), (61, .iload_n 1, 1), (62, .bipush 32, 2), (64, .if_icmp .ge 22, 3), (67, .aload_n 0, 1), (68, .getfield 17, 3), (71, .iload_n 1, 1), (72, .new 15, 3), (75, .dup, 1), (76, .invokespecial 29, 3), (79, .aastore, 1), (80, .iinc 1 1, 3), (83, .goto (-22), 3), (86, .return_, 1)]
theorem dmU_init : tmU_init.all (fun q => decide (decode (zg_cc mU_init) q.1 = .ok q.2)) = true := by decide +kernel
def tmR_init : List (Nat × Instr × Nat) := [(0, .aload_n 0, 1), (1, .invokespecial 3, 3), (4, .aload_n 0, 1), (5, .bipush 8, 2), (7, .newarray .int, 2), (9, .putfield 9, 3), (12, .aload_n 0, 1), (13, .lconst 0, 1), (14, .putfield 15, 3), (17, .aload_n 0, 1), (18, .iconst 1, 1), (19, .putfield 19, 3), (22, .return_, 1)]
theorem dmR_init : tmR_init.all (fun q => decide (decode (zg_cc mR_init) q.1 = .ok q.2)) = true := by decide +kernel
def tmI_init : List (Nat × Instr × Nat) := [(0, .aload_n 0, 1), (1, .invokespecial 3, 3), (4, .aload_n 0, 1), (5, .iconst 0, 1), (6, .putfield 9, 3), (9, .aload_n 0, 1), (10, .iconst 0, 1), (11, .putfield 15, 3), (14, .aload_n 0, 1), (15, .iconst 0, 1), (16, .putfield 18, 3), (19, .aload_n 0, 1), (20, .iconst 0, 1), (21, .putfield 21, 3), (24, .return_, 1)]
theorem dmI_init : tmI_init.all (fun q => decide (decode (zg_cc mI_init) q.1 = .ok q.2)) = true := by decide +kernel
def tmU_stopped : List (Nat × Instr × Nat) := [(0, .aload_n 0, 1), (1, .getfield 25, 3), (4, .ireturn, 1)]
theorem dmU_stopped : tmU_stopped.all (fun q => decide (decode (zg_cc mU_stopped) q.1 = .ok q.2)) = true := by decide +kernel
def tmU_load : List (Nat × Instr × Nat) := [(0, .iload_n 1, 1), (1, .invokestatic 30, 3), (4, .lload_n 2, 1), (5, .invokestatic 34, 3), (8, .ifCond .ne 13, 3), (11, .new 38, 3), (14, .dup, 1), (15, .ldc 40, 2), (17, .invokespecial 42, 3), (20, .athrow, 1), (21, .aload_n 0, 1), (22, .getfield 11, 3), (25, .iload_n 1, 1), (26, .aaload, 1), (27, .lload_n 2, 1), (28, .invokevirtual 45, 3), (31, .return_, 1)]
theorem dmU_load : tmU_load.all (fun q => decide (decode (zg_cc mU_load) q.1 = .ok q.2)) = true := by decide +kernel
def tmU_requireRegister : List (Nat × Instr × Nat) := [(0, .iload_n 0, 1), (1, .invokestatic 142, 3), (4, .ifCond .ne 13, 3), (7, .new 118, 3), (10, .dup, 1), (11, .ldc 145, 2), (13, .invokespecial 122, 3), (16, .athrow, 1), (17, .return_, 1)]
theorem dmU_requireRegister : tmU_requireRegister.all (fun q => decide (decode (zg_cc mU_requireRegister) q.1 = .ok q.2)) = true := by decide +kernel
def tmU_isRegister : List (Nat × Instr × Nat) := [(0, .iload_n 0, 1), (1, .ifCond .lt 13, 3), (4, .iload_n 0, 1), (5, .bipush 16, 2), (7, .if_icmp .ge 7, 3), (10, .iconst 1, 1), (11, .goto 4, 3), (14, .iconst 0, 1), (15, .ireturn, 1)]
theorem dmU_isRegister : tmU_isRegister.all (fun q => decide (decode (zg_cc mU_isRegister) q.1 = .ok q.2)) = true := by decide +kernel
def tmU_inRange : List (Nat × Instr × Nat) := [(0, .lload_n 0, 1), (1, .ldc2_w 154, 3), (4, .lcmp, 1), (5, .ifCond .lt 15, 3), (8, .lload_n 0, 1), (9, .ldc2_w 156, 3), (12, .lcmp, 1), (13, .ifCond .gt 7, 3), (16, .iconst 1, 1), (17, .goto 4, 3), (20, .iconst 0, 1), (21, .ireturn, 1)]
theorem dmU_inRange : tmU_inRange.all (fun q => decide (decode (zg_cc mU_inRange) q.1 = .ok q.2)) = true := by decide +kernel
def tmR_put : List (Nat × Instr × Nat) := [(0, .iconst 0, 1), (1, .istore_n 3, 1), (2, .iload_n 3, 1), (3, .bipush 8, 2), (5, .if_icmp .ge 20, 3), (8, .aload_n 0, 1), (9, .getfield 9, 3), (12, .iload_n 3, 1), (13, .lload_n 1, 1), (14, .iload_n 3, 1), (15, .invokestatic 23, 3), (18, .iastore, 1), (19, .iinc 3 1, 3), (22, .goto (-20), 3), (25, .aload_n 0, 1), (26, .lload_n 1, 1), (27, .putfield 15, 3), (30, .aload_n 0, 1), (31, .iconst 1, 1), (32, .putfield 19, 3), (35, .return_, 1)]
theorem dmR_put : tmR_put.all (fun q => decide (decode (zg_cc mR_put) q.1 = .ok q.2)) = true := by decide +kernel
def tmU_residueOf : List (Nat × Instr × Nat) := [(0, .lload_n 0, 1), (1, .getstatic 190, 3), (4, .iload_n 2, 1), (5, .iaload, 1), (6, .i2l, 1), (7, .invokestatic 193, 3), (10, .l2i, 1), (11, .ireturn, 1)]
theorem dmU_residueOf : tmU_residueOf.all (fun q => decide (decode (zg_cc mU_residueOf) q.1 = .ok q.2)) = true := by decide +kernel
def tmJ_floorMod_J : List (Nat × Instr × Nat) := [(0, .lload_n 0, 1), (1, .lload_n 2, 1), (2, .lrem, 1), (3, .lstore 4, 2), (5, .lload_n 0, 1), (6, .lload_n 2, 1), (7, .lxor, 1), (8, .lconst 0, 1), (9, .lcmp, 1), (10, .ifCond .ge 15, 3), (13, .lload 4, 2), (15, .lconst 0, 1), (16, .lcmp, 1), (17, .ifCond .eq 8, 3), (20, .lload 4, 2), (22, .lload_n 2, 1), (23, .ladd, 1), (24, .lreturn, 1), (25, .lload 4, 2), (27, .lreturn, 1)]
theorem dmJ_floorMod_J : tmJ_floorMod_J.all (fun q => decide (decode (zg_cc mJ_floorMod_J) q.1 = .ok q.2)) = true := by decide +kernel
def tmU_binary : List (Nat × Instr × Nat) := [(0, .iload_n 1, 1), (1, .invokestatic 30, 3), (4, .aload_n 0, 1), (5, .getfield 11, 3), (8, .iload_n 1, 1), (9, .aaload, 1), (10, .invokevirtual 49, 3), (13, .ifCond .ne 13, 3), (16, .new 53, 3), (19, .dup, 1), (20, .ldc 55, 2), (22, .invokespecial 57, 3), (25, .athrow, 1), (26, .aload_n 0, 1), (27, .getfield 11, 3), (30, .iload_n 1, 1), (31, .aaload, 1), (32, .invokevirtual 58, 3), (35, .lreturn, 1)]
theorem dmU_binary : tmU_binary.all (fun q => decide (decode (zg_cc mU_binary) q.1 = .ok q.2)) = true := by decide +kernel
def tmR_isGood : List (Nat × Instr × Nat) := [(0, .aload_n 0, 1), (1, .aload_n 0, 1), (2, .invokevirtual 62, 3), (5, .iconst (-1), 1), (6, .invokevirtual 66, 3), (9, .ireturn, 1)]
theorem dmR_isGood : tmR_isGood.all (fun q => decide (decode (zg_cc mR_isGood) q.1 = .ok q.2)) = true := by decide +kernel
def tmR_value : List (Nat × Instr × Nat) := [(0, .lconst 0, 1), (1, .lstore_n 1, 1), (2, .iconst 0, 1), (3, .istore_n 3, 1), (4, .iload_n 3, 1), (5, .bipush 6, 2), (7, .if_icmp .ge 25, 3), (10, .lload_n 1, 1), (11, .aload_n 0, 1), (12, .getfield 9, 3), (15, .iload_n 3, 1), (16, .iaload, 1), (17, .i2l, 1), (18, .getstatic 54, 3), (21, .iload_n 3, 1), (22, .laload, 1), (23, .lmul, 1), (24, .ladd, 1), (25, .lstore_n 1, 1), (26, .iinc 3 1, 3), (29, .goto (-25), 3), (32, .lload_n 1, 1), (33, .ldc2_w 58, 3), (36, .lrem, 1), (37, .lstore_n 3, 1), (38, .lload_n 3, 1), (39, .ldc2_w 60, 3), (42, .lcmp, 1), (43, .ifCond .le 11, 3), (46, .lload_n 3, 1), (47, .ldc2_w 58, 3), (50, .lsub, 1), (51, .goto 4, 3), (54, .lload_n 3, 1), (55, .lreturn, 1)]
theorem dmR_value : tmR_value.all (fun q => decide (decode (zg_cc mR_value) q.1 = .ok q.2)) = true := by decide +kernel
def tmR_fits : List (Nat × Instr × Nat) := [(0, .iconst 0, 1), (1, .istore 4, 2), (3, .iload 4, 2), (5, .bipush 8, 2), (7, .if_icmp .ge 33, 3), (10, .iload 4, 2), (12, .iload_n 3, 1), (13, .if_icmp .eq 21, 3), (16, .lload_n 1, 1), (17, .iload 4, 2), (19, .invokestatic 23, 3), (22, .aload_n 0, 1), (23, .getfield 9, 3), (26, .iload 4, 2), (28, .iaload, 1), (29, .if_icmp .eq 5, 3), (32, .iconst 0, 1), (33, .ireturn, 1), (34, .iinc 4 1, 3), (37, .goto (-34), 3), (40, .lload_n 1, 1), (41, .invokestatic 41, 3), (44, .ireturn, 1)]
theorem dmR_fits : tmR_fits.all (fun q => decide (decode (zg_cc mR_fits) q.1 = .ok q.2)) = true := by decide +kernel
def tmU_work : List (Nat × Instr × Nat) := [(0, .iload_n 2, 1), (1, .invokestatic 30, 3), (4, .iload_n 3, 1), (5, .invokestatic 30, 3), (8, .iload 4, 2), (10, .invokestatic 30, 3), (13, .iload_n 1, 1), (14, .ifCond .lt 8, 3), (17, .iload_n 1, 1), (18, .iconst 3, 1), (19, .if_icmp .le 13, 3), (22, .new 38, 3), (25, .dup, 1), (26, .ldc 62, 2), (28, .invokespecial 42, 3), (31, .athrow, 1), (32, .aload_n 0, 1), (33, .getfield 11, 3), (36, .iload_n 2, 1), (37, .aaload, 1), (38, .iload_n 1, 1), (39, .aload_n 0, 1), (40, .getfield 11, 3), (43, .iload_n 3, 1), (44, .aaload, 1), (45, .aload_n 0, 1), (46, .getfield 11, 3), (49, .iload 4, 2), (51, .aaload, 1), (52, .invokevirtual 64, 3), (55, .return_, 1)]
theorem dmU_work : tmU_work.all (fun q => decide (decode (zg_cc mU_work) q.1 = .ok q.2)) = true := by decide +kernel
def tmR_combine : List (Nat × Instr × Nat) := [(0, .iconst 0, 1), (1, .istore 4, 2), (3, .iload 4, 2), (5, .bipush 8, 2), (7, .if_icmp .ge 43, 3), (10, .aload_n 0, 1), (11, .getfield 9, 3), (14, .iload 4, 2), (16, .iload_n 1, 1), (17, .iload 4, 2), (19, .aload_n 0, 1), (20, .getfield 9, 3), (23, .iload 4, 2), (25, .iaload, 1), (26, .aload_n 2, 1), (27, .getfield 9, 3), (30, .iload 4, 2), (32, .iaload, 1), (33, .aload_n 3, 1), (34, .getfield 9, 3), (37, .iload 4, 2), (39, .iaload, 1), (40, .invokestatic 33, 3), (43, .iastore, 1), (44, .iinc 4 1, 3), (47, .goto (-44), 3), (50, .aload_n 2, 1), (51, .getfield 19, 3), (54, .ifCond .eq 26, 3), (57, .aload_n 3, 1), (58, .getfield 19, 3), (61, .ifCond .eq 19, 3), (64, .aload_n 0, 1), (65, .getfield 19, 3), (68, .ifCond .ne 8, 3), (71, .iload_n 1, 1), (72, .iconst 3, 1), (73, .if_icmp .eq 7, 3), (76, .iconst 1, 1), (77, .goto 4, 3), (80, .iconst 0, 1), (81, .istore 4, 2), (83, .iload 4, 2), (85, .ifCond .eq 22, 3), (88, .iload_n 1, 1), (89, .aload_n 0, 1), (90, .getfield 15, 3), (93, .aload_n 2, 1), (94, .getfield 15, 3), (97, .aload_n 3, 1), (98, .getfield 15, 3), (101, .invokestatic 37, 3), (104, .goto 4, 3), (107, .lconst 0, 1), (108, .lstore 5, 2), (110, .aload_n 0, 1), (111, .iload 4, 2), (113, .ifCond .eq 15, 3), (116, .lload 5, 2), (118, .invokestatic 41, 3), (121, .ifCond .eq 7, 3), (124, .iconst 1, 1), (125, .goto 4, 3), (128, .iconst 0, 1), (129, .putfield 19, 3), (132, .aload_n 0, 1), (133, .aload_n 0, 1), (134, .getfield 19, 3), (137, .ifCond .eq 8, 3), (140, .lload 5, 2), (142, .goto 4, 3), (145, .lconst 0, 1), (146, .putfield 15, 3), (149, .return_, 1)]
theorem dmR_combine : tmR_combine.all (fun q => decide (decode (zg_cc mR_combine) q.1 = .ok q.2)) = true := by decide +kernel
def tmU_combineResidues : List (Nat × Instr × Nat) := [(0, .getstatic 190, 3), (3, .iload_n 1, 1), (4, .iaload, 1), (5, .istore 5, 2), (7, .iload_n 0, 1), (8, .tableswitch 55 0 2 #[28, 36, 47], 28), (36, .iload_n 3, 1), (37, .iload 4, 2), (39, .iadd, 1), (40, .iload 5, 2), (42, .irem, 1), (43, .ireturn, 1), (44, .iload_n 3, 1), (45, .iload 5, 2), (47, .iadd, 1), (48, .iload 4, 2), (50, .isub, 1), (51, .iload 5, 2), (53, .irem, 1), (54, .ireturn, 1), (55, .iload_n 3, 1), (56, .iload 4, 2), (58, .imul, 1), (59, .iload 5, 2), (61, .irem, 1), (62, .ireturn, 1), (63, .iload_n 2, 1), (64, .iload_n 3, 1), (65, .iload 4, 2), (67, .imul, 1), (68, .iadd, 1), (69, .iload 5, 2), (71, .irem, 1), (72, .ireturn, 1)]
theorem dmU_combineResidues : tmU_combineResidues.all (fun q => decide (decode (zg_cc mU_combineResidues) q.1 = .ok q.2)) = true := by decide +kernel
def tmU_combineNumbers : List (Nat × Instr × Nat) := [(0, .iload_n 0, 1), (1, .tableswitch 44 0 2 #[27, 32, 37], 27), (28, .lload_n 3, 1), (29, .lload 5, 2), (31, .ladd, 1), (32, .lreturn, 1), (33, .lload_n 3, 1), (34, .lload 5, 2), (36, .lsub, 1), (37, .lreturn, 1), (38, .lload_n 3, 1), (39, .lload 5, 2), (41, .invokestatic 196, 3), (44, .lreturn, 1), (45, .lload_n 1, 1), (46, .lload_n 3, 1), (47, .lload 5, 2), (49, .invokestatic 196, 3), (52, .ladd, 1), (53, .lreturn, 1)]
theorem dmU_combineNumbers : tmU_combineNumbers.all (fun q => decide (decode (zg_cc mU_combineNumbers) q.1 = .ok q.2)) = true := by decide +kernel
def tmU_cappedProduct : List (Nat × Instr × Nat) := [(0, .lload_n 2, 1), (1, .lconst 0, 1), (2, .lcmp, 1), (3, .ifCond .eq 23, 3), (6, .lload_n 0, 1), (7, .invokestatic 199, 3), (10, .ldc2_w 203, 3), (13, .lload_n 2, 1), (14, .invokestatic 199, 3), (17, .ldiv, 1), (18, .lcmp, 1), (19, .ifCond .le 7, 3), (22, .iconst 1, 1), (23, .goto 4, 3), (26, .iconst 0, 1), (27, .istore 4, 2), (29, .iload 4, 2), (31, .ifCond .eq 9, 3), (34, .ldc2_w 205, 3), (37, .goto 6, 3), (40, .lload_n 0, 1), (41, .lload_n 2, 1), (42, .lmul, 1), (43, .lreturn, 1)]
theorem dmU_cappedProduct : tmU_cappedProduct.all (fun q => decide (decode (zg_cc mU_cappedProduct) q.1 = .ok q.2)) = true := by decide +kernel
def tmJ_abs : List (Nat × Instr × Nat) := [(0, .lload_n 0, 1), (1, .lconst 0, 1), (2, .lcmp, 1), (3, .ifCond .ge 8, 3), (6, .lload_n 0, 1), (7, .lneg, 1), (8, .goto 4, 3), (11, .lload_n 0, 1), (12, .lreturn, 1)]
theorem dmJ_abs : tmJ_abs.all (fun q => decide (decode (zg_cc mJ_abs) q.1 = .ok q.2)) = true := by decide +kernel
def tmU_compare : List (Nat × Instr × Nat) := [(0, .iload_n 1, 1), (1, .invokestatic 30, 3), (4, .iload_n 2, 1), (5, .invokestatic 30, 3), (8, .aload_n 0, 1), (9, .getfield 11, 3), (12, .iload_n 1, 1), (13, .aaload, 1), (14, .invokevirtual 58, 3), (17, .lstore_n 3, 1), (18, .aload_n 0, 1), (19, .getfield 11, 3), (22, .iload_n 2, 1), (23, .aaload, 1), (24, .invokevirtual 58, 3), (27, .lstore 5, 2), (29, .lload_n 3, 1), (30, .lload 5, 2), (32, .lcmp, 1), (33, .ifCond .ge 7, 3), (36, .iconst (-1), 1), (37, .goto 15, 3), (40, .lload_n 3, 1), (41, .lload 5, 2), (43, .lcmp, 1), (44, .ifCond .le 7, 3), (47, .iconst 1, 1), (48, .goto 4, 3), (51, .iconst 0, 1), (52, .ireturn, 1)]
theorem dmU_compare : tmU_compare.all (fun q => decide (decode (zg_cc mU_compare) q.1 = .ok q.2)) = true := by decide +kernel
def tmU_scale : List (Nat × Instr × Nat) := [(0, .iload_n 1, 1), (1, .invokestatic 30, 3), (4, .iload_n 2, 1), (5, .invokestatic 30, 3), (8, .iload_n 3, 1), (9, .invokestatic 68, 3), (12, .ifCond .ne 13, 3), (15, .new 38, 3), (18, .dup, 1), (19, .ldc 72, 2), (21, .invokespecial 42, 3), (24, .athrow, 1), (25, .aload_n 0, 1), (26, .iload_n 1, 1), (27, .iload_n 2, 1), (28, .iload_n 3, 1), (29, .iload 4, 2), (31, .invokevirtual 74, 3), (34, .return_, 1)]
theorem dmU_scale : tmU_scale.all (fun q => decide (decode (zg_cc mU_scale) q.1 = .ok q.2)) = true := by decide +kernel
def tmU_areScalingModuli : List (Nat × Instr × Nat) := [(0, .iload_n 0, 1), (1, .ifCond .le 21, 3), (4, .iload_n 0, 1), (5, .bipush 64, 2), (7, .if_icmp .ge 15, 3), (10, .iload_n 0, 1), (11, .invokestatic 149, 3), (14, .iconst 4, 1), (15, .if_icmp .gt 7, 3), (18, .iconst 1, 1), (19, .goto 4, 3), (22, .iconst 0, 1), (23, .ireturn, 1)]
theorem dmU_areScalingModuli : tmU_areScalingModuli.all (fun q => decide (decode (zg_cc mU_areScalingModuli) q.1 = .ok q.2)) = true := by decide +kernel
def tmJ_bitCount : List (Nat × Instr × Nat) := [(0, .iload_n 0, 1), (1, .iload_n 0, 1), (2, .iconst 1, 1), (3, .iushr, 1), (4, .ldc_w 265, 3), (7, .iand, 1), (8, .isub, 1), (9, .istore_n 0, 1), (10, .iload_n 0, 1), (11, .ldc_w 266, 3), (14, .iand, 1), (15, .iload_n 0, 1), (16, .iconst 2, 1), (17, .iushr, 1), (18, .ldc_w 266, 3), (21, .iand, 1), (22, .iadd, 1), (23, .istore_n 0, 1), (24, .iload_n 0, 1), (25, .iload_n 0, 1), (26, .iconst 4, 1), (27, .iushr, 1), (28, .iadd, 1), (29, .ldc_w 267, 3), (32, .iand, 1), (33, .istore_n 0, 1), (34, .iload_n 0, 1), (35, .iload_n 0, 1), (36, .bipush 8, 2), (38, .iushr, 1), (39, .iadd, 1), (40, .istore_n 0, 1), (41, .iload_n 0, 1), (42, .iload_n 0, 1), (43, .bipush 16, 2), (45, .iushr, 1), (46, .iadd, 1), (47, .istore_n 0, 1), (48, .iload_n 0, 1), (49, .bipush 63, 2), (51, .iand, 1), (52, .ireturn, 1)]
theorem dmJ_bitCount : tmJ_bitCount.all (fun q => decide (decode (zg_cc mJ_bitCount) q.1 = .ok q.2)) = true := by decide +kernel
def tmU_putScaled : List (Nat × Instr × Nat) := [(0, .iload_n 3, 1), (1, .invokestatic 178, 3), (4, .lstore 5, 2), (6, .aload_n 0, 1), (7, .getfield 11, 3), (10, .iload_n 2, 1), (11, .aaload, 1), (12, .invokevirtual 58, 3), (15, .lstore 7, 2), (17, .aload_n 0, 1), (18, .getfield 11, 3), (21, .iload_n 1, 1), (22, .aaload, 1), (23, .iload 4, 2), (25, .ifCond .eq 24, 3), (28, .ldc2_w 182, 3), (31, .lload 7, 2), (33, .lmul, 1), (34, .lload 5, 2), (36, .ladd, 1), (37, .ldc2_w 182, 3), (40, .lload 5, 2), (42, .lmul, 1), (43, .invokestatic 184, 3), (46, .goto 10, 3), (49, .lload 7, 2), (51, .lload 5, 2), (53, .invokestatic 184, 3), (56, .invokevirtual 45, 3), (59, .return_, 1)]
theorem dmU_putScaled : tmU_putScaled.all (fun q => decide (decode (zg_cc mU_putScaled) q.1 = .ok q.2)) = true := by decide +kernel
def tmU_productOf : List (Nat × Instr × Nat) := [(0, .lconst 1, 1), (1, .lstore_n 1, 1), (2, .iconst 0, 1), (3, .istore_n 3, 1), (4, .iload_n 3, 1), (5, .bipush 6, 2), (7, .if_icmp .ge 27, 3), (10, .iload_n 0, 1), (11, .iload_n 3, 1), (12, .ishr, 1), (13, .iconst 1, 1), (14, .iand, 1), (15, .iconst 1, 1), (16, .if_icmp .ne 12, 3), (19, .lload_n 1, 1), (20, .getstatic 190, 3), (23, .iload_n 3, 1), (24, .iaload, 1), (25, .i2l, 1), (26, .lmul, 1), (27, .lstore_n 1, 1), (28, .iinc 3 1, 3), (31, .goto (-27), 3), (34, .lload_n 1, 1), (35, .lreturn, 1)]
theorem dmU_productOf : tmU_productOf.all (fun q => decide (decode (zg_cc mU_productOf) q.1 = .ok q.2)) = true := by decide +kernel
def tmJ_floorDiv : List (Nat × Instr × Nat) := [(0, .lload_n 0, 1), (1, .lload_n 2, 1), (2, .ldiv, 1), (3, .lstore 4, 2), (5, .lload_n 0, 1), (6, .lload_n 2, 1), (7, .lxor, 1), (8, .lconst 0, 1), (9, .lcmp, 1), (10, .ifCond .ge 17, 3), (13, .lload 4, 2), (15, .lload_n 2, 1), (16, .lmul, 1), (17, .lload_n 0, 1), (18, .lcmp, 1), (19, .ifCond .eq 8, 3), (22, .lload 4, 2), (24, .lconst 1, 1), (25, .lsub, 1), (26, .lreturn, 1), (27, .lload 4, 2), (29, .lreturn, 1)]
theorem dmJ_floorDiv : tmJ_floorDiv.all (fun q => decide (decode (zg_cc mJ_floorDiv) q.1 = .ok q.2)) = true := by decide +kernel
def tmU_divide : List (Nat × Instr × Nat) := [(0, .iload_n 1, 1), (1, .invokestatic 30, 3), (4, .iload_n 2, 1), (5, .invokestatic 30, 3), (8, .iload_n 3, 1), (9, .invokestatic 30, 3), (12, .iload 4, 2), (14, .invokestatic 30, 3), (17, .aload_n 0, 1), (18, .getfield 11, 3), (21, .iload_n 3, 1), (22, .aaload, 1), (23, .invokevirtual 58, 3), (26, .lstore 5, 2), (28, .aload_n 0, 1), (29, .getfield 11, 3), (32, .iload 4, 2), (34, .aaload, 1), (35, .invokevirtual 58, 3), (38, .lstore 7, 2), (40, .lload 7, 2), (42, .lconst 0, 1), (43, .lcmp, 1), (44, .ifCond .ne 13, 3), (47, .new 78, 3), (50, .dup, 1), (51, .ldc 80, 2), (53, .invokespecial 82, 3), (56, .athrow, 1), (57, .aload_n 0, 1), (58, .getfield 11, 3), (61, .iload_n 1, 1), (62, .aaload, 1), (63, .lload 5, 2), (65, .lload 7, 2), (67, .ldiv, 1), (68, .invokevirtual 45, 3), (71, .aload_n 0, 1), (72, .getfield 11, 3), (75, .iload_n 2, 1), (76, .aaload, 1), (77, .lload 5, 2), (79, .lload 7, 2), (81, .lrem, 1), (82, .invokevirtual 45, 3), (85, .return_, 1)]
theorem dmU_divide : tmU_divide.all (fun q => decide (decode (zg_cc mU_divide) q.1 = .ok q.2)) = true := by decide +kernel
def tmU_channel : List (Nat × Instr × Nat) := [(0, .iload_n 1, 1), (1, .invokestatic 30, 3), (4, .iload_n 2, 1), (5, .invokestatic 83, 3), (8, .aload_n 0, 1), (9, .getfield 11, 3), (12, .iload_n 1, 1), (13, .aaload, 1), (14, .getfield 86, 3), (17, .iload_n 2, 1), (18, .iconst 1, 1), (19, .isub, 1), (20, .iaload, 1), (21, .ireturn, 1)]
theorem dmU_channel : tmU_channel.all (fun q => decide (decode (zg_cc mU_channel) q.1 = .ok q.2)) = true := by decide +kernel
def tmU_requireChannel : List (Nat × Instr × Nat) := [(0, .iload_n 0, 1), (1, .iconst 1, 1), (2, .if_icmp .lt 9, 3), (5, .iload_n 0, 1), (6, .bipush 8, 2), (8, .if_icmp .le 13, 3), (11, .new 118, 3), (14, .dup, 1), (15, .ldc 147, 2), (17, .invokespecial 122, 3), (20, .athrow, 1), (21, .return_, 1)]
theorem dmU_requireChannel : tmU_requireChannel.all (fun q => decide (decode (zg_cc mU_requireChannel) q.1 = .ok q.2)) = true := by decide +kernel
def tmU_inject : List (Nat × Instr × Nat) := [(0, .iload_n 1, 1), (1, .invokestatic 30, 3), (4, .iload_n 2, 1), (5, .invokestatic 83, 3), (8, .aload_n 0, 1), (9, .getfield 11, 3), (12, .iload_n 1, 1), (13, .aaload, 1), (14, .iload_n 2, 1), (15, .iconst 1, 1), (16, .isub, 1), (17, .iload_n 3, 1), (18, .invokevirtual 90, 3), (21, .ireturn, 1)]
theorem dmU_inject : tmU_inject.all (fun q => decide (decode (zg_cc mU_inject) q.1 = .ok q.2)) = true := by decide +kernel
def tmR_shift : List (Nat × Instr × Nat) := [(0, .aload_n 0, 1), (1, .getfield 9, 3), (4, .iload_n 1, 1), (5, .aload_n 0, 1), (6, .getfield 9, 3), (9, .iload_n 1, 1), (10, .iaload, 1), (11, .iload_n 2, 1), (12, .getstatic 45, 3), (15, .iload_n 1, 1), (16, .iaload, 1), (17, .invokestatic 48, 3), (20, .iadd, 1), (21, .getstatic 45, 3), (24, .iload_n 1, 1), (25, .iaload, 1), (26, .irem, 1), (27, .iastore, 1), (28, .aload_n 0, 1), (29, .getfield 9, 3), (32, .iload_n 1, 1), (33, .iaload, 1), (34, .ireturn, 1)]
theorem dmR_shift : tmR_shift.all (fun q => decide (decode (zg_cc mR_shift) q.1 = .ok q.2)) = true := by decide +kernel
def tmJ_floorMod_I : List (Nat × Instr × Nat) := [(0, .iload_n 0, 1), (1, .iload_n 1, 1), (2, .irem, 1), (3, .istore_n 2, 1), (4, .iload_n 0, 1), (5, .iload_n 1, 1), (6, .ixor, 1), (7, .ifCond .ge 11, 3), (10, .iload_n 2, 1), (11, .ifCond .eq 7, 3), (14, .iload_n 2, 1), (15, .iload_n 1, 1), (16, .iadd, 1), (17, .ireturn, 1), (18, .iload_n 2, 1), (19, .ireturn, 1)]
theorem dmJ_floorMod_I : tmJ_floorMod_I.all (fun q => decide (decode (zg_cc mJ_floorMod_I) q.1 = .ok q.2)) = true := by decide +kernel
def tmU_verify : List (Nat × Instr × Nat) := [(0, .iload_n 1, 1), (1, .invokestatic 30, 3), (4, .aload_n 0, 1), (5, .getfield 11, 3), (8, .iload_n 1, 1), (9, .aaload, 1), (10, .invokevirtual 94, 3), (13, .ireturn, 1)]
theorem dmU_verify : tmU_verify.all (fun q => decide (decode (zg_cc mU_verify) q.1 = .ok q.2)) = true := by decide +kernel
def tmR_fault : List (Nat × Instr × Nat) := [(0, .aload_n 0, 1), (1, .invokevirtual 70, 3), (4, .ifCond .eq 5, 3), (7, .iconst 0, 1), (8, .ireturn, 1), (9, .iconst 0, 1), (10, .istore_n 1, 1), (11, .iload_n 1, 1), (12, .bipush 8, 2), (14, .if_icmp .ge 22, 3), (17, .aload_n 0, 1), (18, .iload_n 1, 1), (19, .invokevirtual 74, 3), (22, .iconst (-1), 1), (23, .if_icmp .eq 7, 3), (26, .iload_n 1, 1), (27, .iconst 1, 1), (28, .iadd, 1), (29, .ireturn, 1), (30, .iinc 1 1, 3), (33, .goto (-22), 3), (36, .bipush 9, 2), (38, .ireturn, 1)]
theorem dmR_fault : tmR_fault.all (fun q => decide (decode (zg_cc mR_fault) q.1 = .ok q.2)) = true := by decide +kernel
def tmR_healingResidue : List (Nat × Instr × Nat) := [(0, .iload_n 1, 1), (1, .bipush 6, 2), (3, .if_icmp .ge 11, 3), (6, .aload_n 0, 1), (7, .iload_n 1, 1), (8, .invokevirtual 78, 3), (11, .goto 7, 3), (14, .aload_n 0, 1), (15, .invokevirtual 62, 3), (18, .lstore_n 2, 1), (19, .aload_n 0, 1), (20, .lload_n 2, 1), (21, .iload_n 1, 1), (22, .invokevirtual 66, 3), (25, .ifCond .eq 11, 3), (28, .lload_n 2, 1), (29, .iload_n 1, 1), (30, .invokestatic 23, 3), (33, .goto 4, 3), (36, .iconst (-1), 1), (37, .ireturn, 1)]
theorem dmR_healingResidue : tmR_healingResidue.all (fun q => decide (decode (zg_cc mR_healingResidue) q.1 = .ok q.2)) = true := by decide +kernel
def tmR_numberWithout : List (Nat × Instr × Nat) := [(0, .ldc2_w 58, 3), (3, .getstatic 45, 3), (6, .iload_n 1, 1), (7, .iaload, 1), (8, .i2l, 1), (9, .ldiv, 1), (10, .lstore_n 2, 1), (11, .aload_n 0, 1), (12, .invokevirtual 62, 3), (15, .ldc2_w 60, 3), (18, .ladd, 1), (19, .lload_n 2, 1), (20, .invokestatic 82, 3), (23, .ldc2_w 60, 3), (26, .lsub, 1), (27, .lstore 4, 2), (29, .aload_n 0, 1), (30, .getfield 9, 3), (33, .bipush 6, 2), (35, .iaload, 1), (36, .i2l, 1), (37, .lload 4, 2), (39, .lsub, 1), (40, .getstatic 85, 3), (43, .iload_n 1, 1), (44, .iaload, 1), (45, .i2l, 1), (46, .lmul, 1), (47, .bipush 6, 2), (49, .invokestatic 23, 3), (52, .i2l, 1), (53, .lstore 6, 2), (55, .lload 4, 2), (57, .lload 6, 2), (59, .lload_n 2, 1), (60, .lmul, 1), (61, .ladd, 1), (62, .lreturn, 1)]
theorem dmR_numberWithout : tmR_numberWithout.all (fun q => decide (decode (zg_cc mR_numberWithout) q.1 = .ok q.2)) = true := by decide +kernel
def tmU_repair : List (Nat × Instr × Nat) := [(0, .iload_n 1, 1), (1, .invokestatic 30, 3), (4, .aload_n 0, 1), (5, .getfield 11, 3), (8, .iload_n 1, 1), (9, .aaload, 1), (10, .invokevirtual 94, 3), (13, .istore_n 2, 1), (14, .iload_n 2, 1), (15, .bipush 9, 2), (17, .if_icmp .ne 13, 3), (20, .new 53, 3), (23, .dup, 1), (24, .ldc 98, 2), (26, .invokespecial 57, 3), (29, .athrow, 1), (30, .iload_n 2, 1), (31, .ifCond .eq 15, 3), (34, .aload_n 0, 1), (35, .getfield 11, 3), (38, .iload_n 1, 1), (39, .aaload, 1), (40, .iload_n 2, 1), (41, .iconst 1, 1), (42, .isub, 1), (43, .invokevirtual 100, 3), (46, .iload_n 2, 1), (47, .ireturn, 1)]
theorem dmU_repair : tmU_repair.all (fun q => decide (decode (zg_cc mU_repair) q.1 = .ok q.2)) = true := by decide +kernel
def tmR_heal : List (Nat × Instr × Nat) := [(0, .aload_n 0, 1), (1, .iload_n 1, 1), (2, .invokevirtual 74, 3), (5, .istore_n 2, 1), (6, .iload_n 2, 1), (7, .iconst (-1), 1), (8, .if_icmp .eq 10, 3), (11, .aload_n 0, 1), (12, .getfield 9, 3), (15, .iload_n 1, 1), (16, .iload_n 2, 1), (17, .iastore, 1), (18, .return_, 1)]
theorem dmR_heal : tmR_heal.all (fun q => decide (decode (zg_cc mR_heal) q.1 = .ok q.2)) = true := by decide +kernel
def tmU_sure : List (Nat × Instr × Nat) := [(0, .iload_n 1, 1), (1, .invokestatic 30, 3), (4, .aload_n 0, 1), (5, .getfield 11, 3), (8, .iload_n 1, 1), (9, .aaload, 1), (10, .getfield 103, 3), (13, .ireturn, 1)]
theorem dmU_sure : tmU_sure.all (fun q => decide (decode (zg_cc mU_sure) q.1 = .ok q.2)) = true := by decide +kernel
def tmU_bound : List (Nat × Instr × Nat) := [(0, .iload_n 1, 1), (1, .invokestatic 30, 3), (4, .iload_n 2, 1), (5, .ifCond .eq 18, 3), (8, .iload_n 2, 1), (9, .iconst 1, 1), (10, .if_icmp .eq 13, 3), (13, .new 38, 3), (16, .dup, 1), (17, .ldc 107, 2), (19, .invokespecial 42, 3), (22, .athrow, 1), (23, .aload_n 0, 1), (24, .getfield 11, 3), (27, .iload_n 1, 1), (28, .aaload, 1), (29, .getfield 103, 3), (32, .ifCond .ne 13, 3), (35, .new 53, 3), (38, .dup, 1), (39, .ldc 109, 2), (41, .invokespecial 57, 3), (44, .athrow, 1), (45, .aload_n 0, 1), (46, .getfield 11, 3), (49, .iload_n 1, 1), (50, .aaload, 1), (51, .getfield 111, 3), (54, .lreturn, 1)]
theorem dmU_bound : tmU_bound.all (fun q => decide (decode (zg_cc mU_bound) q.1 = .ok q.2)) = true := by decide +kernel
def tmU_instruct : List (Nat × Instr × Nat) := [(0, .iload_n 1, 1), (1, .invokestatic 115, 3), (4, .ifCond .ne 13, 3), (7, .new 118, 3), (10, .dup, 1), (11, .ldc 120, 2), (13, .invokespecial 122, 3), (16, .athrow, 1), (17, .iload_n 2, 1), (18, .iload_n 3, 1), (19, .iload 4, 2), (21, .iload 5, 2), (23, .invokestatic 123, 3), (26, .ifCond .ne 13, 3), (29, .new 38, 3), (32, .dup, 1), (33, .ldc 127, 2), (35, .invokespecial 42, 3), (38, .athrow, 1), (39, .aload_n 0, 1), (40, .getfield 17, 3), (43, .iload_n 1, 1), (44, .aaload, 1), (45, .iload_n 2, 1), (46, .iload_n 3, 1), (47, .iload 4, 2), (49, .iload 5, 2), (51, .invokevirtual 129, 3), (54, .return_, 1)]
theorem dmU_instruct : tmU_instruct.all (fun q => decide (decode (zg_cc mU_instruct) q.1 = .ok q.2)) = true := by decide +kernel
def tmU_isInstruction : List (Nat × Instr × Nat) := [(0, .iload_n 0, 1), (1, .ifCond .lt 13, 3), (4, .iload_n 0, 1), (5, .bipush 32, 2), (7, .if_icmp .ge 7, 3), (10, .iconst 1, 1), (11, .goto 4, 3), (14, .iconst 0, 1), (15, .ireturn, 1)]
theorem dmU_isInstruction : tmU_isInstruction.all (fun q => decide (decode (zg_cc mU_isInstruction) q.1 = .ok q.2)) = true := by decide +kernel
def tmU_isAllowed : List (Nat × Instr × Nat) := [(0, .iload_n 0, 1), (1, .tableswitch 206 0 11 #[63, 65, 65, 65, 65, 92, 119, 139, 144, 164, 139, 181], 63), (64, .iconst 1, 1), (65, .ireturn, 1), (66, .iload_n 1, 1), (67, .invokestatic 142, 3), (70, .ifCond .eq 21, 3), (73, .iload_n 2, 1), (74, .invokestatic 142, 3), (77, .ifCond .eq 14, 3), (80, .iload_n 3, 1), (81, .invokestatic 142, 3), (84, .ifCond .eq 7, 3), (87, .iconst 1, 1), (88, .goto 4, 3), (91, .iconst 0, 1), (92, .ireturn, 1), (93, .iload_n 1, 1), (94, .invokestatic 142, 3), (97, .ifCond .eq 21, 3), (100, .iload_n 2, 1), (101, .invokestatic 142, 3), (104, .ifCond .eq 14, 3), (107, .iload_n 3, 1), (108, .invokestatic 68, 3), (111, .ifCond .eq 7, 3), (114, .iconst 1, 1), (115, .goto 4, 3), (118, .iconst 0, 1), (119, .ireturn, 1), (120, .iload_n 1, 1), (121, .invokestatic 142, 3), (124, .ifCond .eq 14, 3), (127, .iload_n 2, 1), (128, .invokestatic 142, 3), (131, .ifCond .eq 7, 3), (134, .iconst 1, 1), (135, .goto 4, 3), (138, .iconst 0, 1), (139, .ireturn, 1), (140, .iload_n 1, 1), (141, .invokestatic 115, 3), (144, .ireturn, 1), (145, .iload_n 1, 1), (146, .invokestatic 142, 3), (149, .ifCond .eq 14, 3), (152, .iload_n 2, 1), (153, .invokestatic 115, 3), (156, .ifCond .eq 7, 3), (159, .iconst 1, 1), (160, .goto 4, 3), (163, .iconst 0, 1), (164, .ireturn, 1), (165, .iload_n 1, 1), (166, .ifCond .lt 14, 3), (169, .iload_n 1, 1), (170, .sipush 1000, 3), (173, .if_icmp .gt 7, 3), (176, .iconst 1, 1), (177, .goto 4, 3), (180, .iconst 0, 1), (181, .ireturn, 1), (182, .iload_n 1, 1), (183, .invokestatic 142, 3), (186, .ifCond .eq 19, 3), (189, .iload_n 2, 1), (190, .bipush (-128), 2), (192, .if_icmp .lt 13, 3), (195, .iload_n 2, 1), (196, .bipush 127, 2), (198, .if_icmp .gt 7, 3), (201, .iconst 1, 1), (202, .goto 4, 3), (205, .iconst 0, 1), (206, .ireturn, 1), (207, .iconst 0, 1), (208, .ireturn, 1)]
theorem dmU_isAllowed : tmU_isAllowed.all (fun q => decide (decode (zg_cc mU_isAllowed) q.1 = .ok q.2)) = true := by decide +kernel
def tmI_become : List (Nat × Instr × Nat) := [(0, .aload_n 0, 1), (1, .iload_n 1, 1), (2, .putfield 9, 3), (5, .aload_n 0, 1), (6, .iload_n 2, 1), (7, .putfield 15, 3), (10, .aload_n 0, 1), (11, .iload_n 3, 1), (12, .putfield 18, 3), (15, .aload_n 0, 1), (16, .iload 4, 2), (18, .putfield 21, 3), (21, .return_, 1)]
theorem dmI_become : tmI_become.all (fun q => decide (decode (zg_cc mI_become) q.1 = .ok q.2)) = true := by decide +kernel
def tmU_run : List (Nat × Instr × Nat) := [(0, .iload_n 1, 1), (1, .ifCond .lt 10, 3), (4, .iload_n 1, 1), (5, .sipush 2000, 3), (8, .if_icmp .le 13, 3), (11, .new 38, 3), (14, .dup, 1), (15, .ldc 133, 2), (17, .invokespecial 42, 3), (20, .athrow, 1), (21, .aload_n 0, 1), (22, .iconst 0, 1), (23, .putfield 21, 3), (26, .iconst 0, 1), (27, .istore_n 2, 1), (28, .iconst 0, 1), (29, .istore_n 3, 1), (30, .iload_n 3, 1), (31, .iload_n 1, 1), (32, .if_icmp .ge 22, 3), (35, .iload_n 2, 1), (36, .invokestatic 115, 3), (39, .ifCond .eq 15, 3), (42, .aload_n 0, 1), (43, .iload_n 2, 1), (44, .invokevirtual 135, 3), (47, .istore_n 2, 1), (48, .iinc 3 1, 3), (51, .goto (-21), 3), (54, .aload_n 0, 1), (55, .iload_n 2, 1), (56, .invokestatic 139, 3), (59, .putfield 25, 3), (62, .iload_n 3, 1), (63, .ireturn, 1)]
theorem dmU_run : tmU_run.all (fun q => decide (decode (zg_cc mU_run) q.1 = .ok q.2)) = true := by decide +kernel
def tmU_step : List (Nat × Instr × Nat) := [(0, .aload_n 0, 1), (1, .getfield 17, 3), (4, .iload_n 1, 1), (5, .aaload, 1), (6, .astore_n 2, 1), (7, .aload_n 2, 1), (8, .getfield 158, 3), (11, .tableswitch 132 0 10 #[57, 132, 132, 132, 132, 132, 132, 59, 64, 92, 104], 57), (68, .iconst (-1), 1), (69, .ireturn, 1), (70, .aload_n 2, 1), (71, .getfield 161, 3), (74, .ireturn, 1), (75, .aload_n 0, 1), (76, .getfield 11, 3), (79, .aload_n 2, 1), (80, .getfield 161, 3), (83, .aaload, 1), (84, .invokevirtual 58, 3), (87, .lconst 0, 1), (88, .lcmp, 1), (89, .ifCond .ge 10, 3), (92, .aload_n 2, 1), (93, .getfield 164, 3), (96, .goto 6, 3), (99, .iload_n 1, 1), (100, .iconst 1, 1), (101, .iadd, 1), (102, .ireturn, 1), (103, .aload_n 0, 1), (104, .aload_n 2, 1), (105, .getfield 161, 3), (108, .putfield 21, 3), (111, .iload_n 1, 1), (112, .iconst 1, 1), (113, .iadd, 1), (114, .ireturn, 1), (115, .aload_n 0, 1), (116, .dup, 1), (117, .getfield 21, 3), (120, .iconst 1, 1), (121, .isub, 1), (122, .putfield 21, 3), (125, .aload_n 0, 1), (126, .getfield 21, 3), (129, .ifCond .eq 10, 3), (132, .aload_n 2, 1), (133, .getfield 161, 3), (136, .goto 6, 3), (139, .iload_n 1, 1), (140, .iconst 1, 1), (141, .iadd, 1), (142, .ireturn, 1), (143, .aload_n 0, 1), (144, .aload_n 2, 1), (145, .invokevirtual 167, 3), (148, .iload_n 1, 1), (149, .iconst 1, 1), (150, .iadd, 1), (151, .ireturn, 1)]
theorem dmU_step : tmU_step.all (fun q => decide (decode (zg_cc mU_step) q.1 = .ok q.2)) = true := by decide +kernel
def tmU_calculate : List (Nat × Instr × Nat) := [(0, .aload_n 1, 1), (1, .getfield 158, 3), (4, .lookupswitch 100 #[(5, 36), (6, 56), (11, 80)], 36), (40, .aload_n 0, 1), (41, .aload_n 1, 1), (42, .getfield 161, 3), (45, .aload_n 1, 1), (46, .getfield 164, 3), (49, .aload_n 1, 1), (50, .getfield 171, 3), (53, .iconst 0, 1), (54, .invokevirtual 74, 3), (57, .goto 83, 3), (60, .aload_n 0, 1), (61, .getfield 11, 3), (64, .aload_n 1, 1), (65, .getfield 161, 3), (68, .aaload, 1), (69, .aload_n 0, 1), (70, .getfield 11, 3), (73, .aload_n 1, 1), (74, .getfield 164, 3), (77, .aaload, 1), (78, .invokevirtual 174, 3), (81, .goto 59, 3), (84, .aload_n 0, 1), (85, .getfield 11, 3), (88, .aload_n 1, 1), (89, .getfield 161, 3), (92, .aaload, 1), (93, .aload_n 1, 1), (94, .getfield 164, 3), (97, .i2l, 1), (98, .invokevirtual 45, 3), (101, .goto 39, 3), (104, .aload_n 0, 1), (105, .getfield 11, 3), (108, .aload_n 1, 1), (109, .getfield 161, 3), (112, .aaload, 1), (113, .aload_n 1, 1), (114, .getfield 158, 3), (117, .iconst 1, 1), (118, .isub, 1), (119, .aload_n 0, 1), (120, .getfield 11, 3), (123, .aload_n 1, 1), (124, .getfield 164, 3), (127, .aaload, 1), (128, .aload_n 0, 1), (129, .getfield 11, 3), (132, .aload_n 1, 1), (133, .getfield 171, 3), (136, .aaload, 1), (137, .invokevirtual 64, 3), (140, .return_, 1)]
theorem dmU_calculate : tmU_calculate.all (fun q => decide (decode (zg_cc mU_calculate) q.1 = .ok q.2)) = true := by decide +kernel
def tmR_copyFrom : List (Nat × Instr × Nat) := [(0, .aload_n 1, 1), (1, .getfield 9, 3), (4, .iconst 0, 1), (5, .aload_n 0, 1), (6, .getfield 9, 3), (9, .iconst 0, 1), (10, .bipush 8, 2), (12, .invokestatic 27, 3), (15, .aload_n 0, 1), (16, .aload_n 1, 1), (17, .getfield 15, 3), (20, .putfield 15, 3), (23, .aload_n 0, 1), (24, .aload_n 1, 1), (25, .getfield 19, 3), (28, .putfield 19, 3), (31, .return_, 1)]
theorem dmR_copyFrom : tmR_copyFrom.all (fun q => decide (decode (zg_cc mR_copyFrom) q.1 = .ok q.2)) = true := by decide +kernel
def tmU_reasonAt : List (Nat × Instr × Nat) := [(0, .iload_n 0, 1), (1, .iconst (-1), 1), (2, .if_icmp .ne 5, 3), (5, .iconst 1, 1), (6, .ireturn, 1), (7, .iload_n 0, 1), (8, .invokestatic 115, 3), (11, .ifCond .eq 7, 3), (14, .iconst 3, 1), (15, .goto 4, 3), (18, .iconst 2, 1), (19, .ireturn, 1)]
theorem dmU_reasonAt : tmU_reasonAt.all (fun q => decide (decode (zg_cc mU_reasonAt) q.1 = .ok q.2)) = true := by decide +kernel
end
section
def mM_init : zg_M := (⟨"ResidueUnitModel", "<init>", "()V"⟩, prog_5_method_1_code, 4, none, [])
def mM_thrown : zg_M := (⟨"ResidueUnitModel", "thrown", "()I"⟩, prog_5_method_2_code, 1, (some .int), [])
def mM_load : zg_M := (⟨"ResidueUnitModel", "load", "(IJ)V"⟩, prog_5_method_12_code, 5, none, [])
def mM_isRegister : zg_M := (⟨"ResidueUnitModel", "isRegister", "(I)Z"⟩, prog_5_method_5_code, 1, (some .boolean), [])
def mM_in : zg_M := (⟨"ResidueUnitModel", "in", "(JJJ)Z"⟩, prog_5_method_4_code, 6, (some .boolean), [])
def mM_refuse : zg_M := (⟨"ResidueUnitModel", "refuse", "(ZZZ)Z"⟩, prog_5_method_3_code, 4, (some .boolean), [])
def mM_put : zg_M := (⟨"ResidueUnitModel", "put", "(IJ)V"⟩, prog_5_method_11_code, 5, none, [])
def mM_rest : zg_M := (⟨"ResidueUnitModel", "rest", "(JI)I"⟩, prog_5_method_6_code, 5, (some .int), [])
def mM_binary : zg_M := (⟨"ResidueUnitModel", "binary", "(I)J"⟩, prog_5_method_13_code, 3, (some .long), [])
def mM_isGood : zg_M := (⟨"ResidueUnitModel", "isGood", "(I)Z"⟩, prog_5_method_10_code, 2, (some .boolean), [])
def mM_valueOf : zg_M := (⟨"ResidueUnitModel", "valueOf", "(I)J"⟩, prog_5_method_8_code, 2, (some .long), [])
def mM_valueWith : zg_M := (⟨"ResidueUnitModel", "valueWith", "(III)J"⟩, prog_5_method_7_code, 9, (some .long), [])
def mM_fits : zg_M := (⟨"ResidueUnitModel", "fits", "(JII)Z"⟩, prog_5_method_9_code, 5, (some .boolean), [])
def mM_work : zg_M := (⟨"ResidueUnitModel", "work", "(IIII)V"⟩, prog_5_method_19_code, 6, none, [])
def mM_reckon : zg_M := (⟨"ResidueUnitModel", "reckon", "(IIII)V"⟩, prog_5_method_18_code, 12, none, [])
def mM_limit : zg_M := (⟨"ResidueUnitModel", "limit", "(IIII)V"⟩, prog_5_method_17_code, 17, none, [])
def mM_product : zg_M := (⟨"ResidueUnitModel", "product", "(JJ)J"⟩, prog_5_method_16_code, 12, (some .long), [])
def mM_least : zg_M := (⟨"ResidueUnitModel", "least", "(JJ)J"⟩, prog_5_method_14_code, 4, (some .long), [])
def mM_greatest : zg_M := (⟨"ResidueUnitModel", "greatest", "(JJ)J"⟩, prog_5_method_15_code, 4, (some .long), [])
def mM_compare : zg_M := (⟨"ResidueUnitModel", "compare", "(II)I"⟩, prog_5_method_20_code, 7, (some .int), [])
def mM_scale : zg_M := (⟨"ResidueUnitModel", "scale", "(IIIZ)V"⟩, prog_5_method_25_code, 6, none, [])
def mM_isModuli : zg_M := (⟨"ResidueUnitModel", "isModuli", "(I)Z"⟩, prog_5_method_22_code, 1, (some .boolean), [])
def mM_many : zg_M := (⟨"ResidueUnitModel", "many", "(I)I"⟩, prog_5_method_21_code, 3, (some .int), [])
def mM_scaleBy : zg_M := (⟨"ResidueUnitModel", "scaleBy", "(IIIZ)V"⟩, prog_5_method_24_code, 9, none, [])
def mM_down : zg_M := (⟨"ResidueUnitModel", "down", "(JJ)J"⟩, prog_5_method_23_code, 6, (some .long), [])
def mM_divide : zg_M := (⟨"ResidueUnitModel", "divide", "(IIII)V"⟩, prog_5_method_26_code, 10, none, [])
def mM_channel : zg_M := (⟨"ResidueUnitModel", "channel", "(II)I"⟩, prog_5_method_27_code, 3, (some .int), [])
def mM_inject : zg_M := (⟨"ResidueUnitModel", "inject", "(III)I"⟩, prog_5_method_28_code, 5, (some .int), [])
def mM_verify : zg_M := (⟨"ResidueUnitModel", "verify", "(I)I"⟩, prog_5_method_31_code, 2, (some .int), [])
def mM_faultOf : zg_M := (⟨"ResidueUnitModel", "faultOf", "(I)I"⟩, prog_5_method_30_code, 3, (some .int), [])
def mM_cure : zg_M := (⟨"ResidueUnitModel", "cure", "(II)I"⟩, prog_5_method_29_code, 6, (some .int), [])
def mM_repair : zg_M := (⟨"ResidueUnitModel", "repair", "(I)I"⟩, prog_5_method_32_code, 4, (some .int), [])
def mM_sure : zg_M := (⟨"ResidueUnitModel", "sure", "(I)Z"⟩, prog_5_method_33_code, 2, (some .boolean), [])
def mM_bound : zg_M := (⟨"ResidueUnitModel", "bound", "(II)J"⟩, prog_5_method_34_code, 5, (some .long), [])
def mM_instruct : zg_M := (⟨"ResidueUnitModel", "instruct", "(IIIII)V"⟩, prog_5_method_37_code, 7, none, [])
def mM_isInstruction : zg_M := (⟨"ResidueUnitModel", "isInstruction", "(I)Z"⟩, prog_5_method_35_code, 1, (some .boolean), [])
def mM_mayBe : zg_M := (⟨"ResidueUnitModel", "mayBe", "(IIII)Z"⟩, prog_5_method_36_code, 4, (some .boolean), [])
def mM_run : zg_M := (⟨"ResidueUnitModel", "run", "(I)I"⟩, prog_5_method_40_code, 4, (some .int), [])
def mM_perform : zg_M := (⟨"ResidueUnitModel", "perform", "(I)I"⟩, prog_5_method_39_code, 5, (some .int), [])
def mM_copy : zg_M := (⟨"ResidueUnitModel", "copy", "(II)V"⟩, prog_5_method_38_code, 4, none, [])
def mM_stopped : zg_M := (⟨"ResidueUnitModel", "stopped", "()I"⟩, prog_5_method_41_code, 1, (some .int), [])
def tmM_init : List (Nat × Instr × Nat) := [(0, .aload_n 0, 1), (1, .invokespecial 1, 3), (4, .aload_n 0, 1), (5, .bipush 8, 2), (7, .newarray .int, 2), (9, .putfield 7, 3), (12, .aload_n 0, 1), (13, .sipush 128, 3), (16, .newarray .int, 2), (18, .putfield 13, 3), (21, .aload_n 0, 1), (22, .bipush 16, 2), (24, .newarray .long, 2), (26, .putfield 16, 3), (29, .aload_n 0, 1), (30, .bipush 16, 2), (32, .newarray .long, 2), (34, .putfield 20, 3), (37, .aload_n 0, 1), (38, .bipush 16, 2), (40, .newarray .boolean, 2), (42, .putfield 23, 3), (45, .aload_n 0, 1), (46, .bipush 6, 2), (48, .newarray .long, 2), (50, .putfield 27, 3), (53, .aload_n 0, 1), (54, .sipush 128, 3), (57, .newarray .int, 2), (59, .putfield 30, 3), (62, .aload_n 0, 1), (63, .getfield 7, 3), (66, .iconst 0, 1), (67, .sipush 251, 3), (70, .iastore, 1), (71, .aload_n 0, 1), (72, .getfield 7, 3), (75, .iconst 1, 1), (76, .sipush 241, 3), (79, .iastore, 1), (80, .aload_n 0, 1), (81, .getfield 7, 3), (84, .iconst 2, 1), (85, .sipush 239, 3), (88, .iastore, 1), (89, .aload_n 0, 1), (90, .getfield 7, 3), (93, .iconst 3, 1), (94, .sipush 233, 3), (97, .iastore, 1), (98, .aload_n 0, 1), (99, .getfield 7, 3), (102, .iconst 4, 1), (103, .sipush 229, 3), (106, .iastore, 1), (107, .aload_n 0, 1), (108, .getfield 7, 3), (111, .iconst 5, 1), (112, .sipush 227, 3), (115, .iastore, 1), (116, .aload_n 0, 1), (117, .getfield 7, 3), (120, .bipush 6, 2), (122, .sipush 256, 3), (125, .iastore, 1), (126, .aload_n 0, 1), (127, .getfield 7, 3), (130, .bipush 7, 2), (132, .sipush 255, 3), (135, .iastore, 1), (136, .aload_n 0, 1), (137, .lconst 1, 1), (138, .putfield 33, 3), (141, .iconst 0, 1), (142, .istore_n 1, 1), (143, .iload_n 1, 1), (144, .bipush 6, 2), (146, .if_icmp .ge 25, 3), (149, .aload_n 0, 1), (150, .aload_n 0, 1), (151, .getfield 33, 3), (154, .aload_n 0, 1), (155, .getfield 7, 3), (158, .iload_n 1, 1), (159, .iaload, 1), (160, .i2l, 1), (161, .lmul, 1), (162, .putfield 33, 3), (165, .iinc 1 1, 3), (168, .goto (-25), 3), (171, .aload_n 0, 1), (172, .aload_n 0, 1), (173, .getfield 33, 3), (176, .lconst 1, 1), (177, .lsub, 1), (178, .ldc2_w 37, 3), (181, .ldiv, 1), (182, .putfield 39, 3), (185, .iconst 0, 1), (186, .istore_n 1, 1), (187, .iload_n 1, 1), (188, .bipush 6, 2), (190, .if_icmp .ge 65, 3), (193, .aload_n 0, 1), (194, .getfield 33, 3), (197, .aload_n 0, 1), (198, .getfield 7, 3), (201, .iload_n 1, 1), (202, .iaload, 1), (203, .i2l, 1), (204, .ldiv, 1), (205, .lstore_n 2, 1), (206, .aload_n 0, 1), (207, .getfield 27, 3), (210, .iload_n 1, 1), (211, .lload_n 2, 1), (212, .lastore, 1), (213, .aload_n 0, 1), (214, .getfield 27, 3), (217, .iload_n 1, 1), (218, .laload, 1), (219, .aload_n 0, 1), (220, .getfield 7, 3), (223, .iload_n 1, 1), (224, .iaload, 1), (225, .i2l, 1), (226, .lrem, 1), (227, .lconst 1, 1), (228, .lcmp, 1), (229, .ifCond .eq 20, 3), (232, .aload_n 0, 1), (233, .getfield 27, 3), (236, .iload_n 1, 1), (237, .aload_n 0, 1), (238, .getfield 27, 3), (241, .iload_n 1, 1), (242, .laload, 1), (243, .lload_n 2, 1), (244, .ladd, 1), (245, .lastore, 1), (246, .goto (-33), 3), (249, .iinc 1 1, 3), (252, .goto (-65), 3), (255, .iconst 0, 1), (256, .istore_n 1, 1), (257, .iload_n 1, 1), (258, .bipush 16, 2), (260, .if_icmp .ge 16, 3), (263, .aload_n 0, 1), (264, .getfield 23, 3), (267, .iload_n 1, 1), (268, .iconst 1, 1), (269, .bastore, 1), (270, .iinc 1 1, 3), (273, .goto (-16), 3), (276, .return_, 1)]
theorem dmM_init : tmM_init.all (fun q => decide (decode (zg_cc mM_init) q.1 = .ok q.2)) = true := by decide +kernel
def tmM_thrown : List (Nat × Instr × Nat) := [(0, .aload_n 0, 1), (1, .getfield 42, 3), (4, .ireturn, 1)]
theorem dmM_thrown : tmM_thrown.all (fun q => decide (decode (zg_cc mM_thrown) q.1 = .ok q.2)) = true := by decide +kernel
def tmM_load : List (Nat × Instr × Nat) := [(0, .iload_n 1, 1), (1, .invokestatic 68, 3), (4, .istore 4, 2), (6, .aload_n 0, 1), (7, .iload 4, 2), (9, .ifCond .ne 7, 3), (12, .iconst 1, 1), (13, .goto 4, 3), (16, .iconst 0, 1), (17, .iload 4, 2), (19, .ifCond .eq 23, 3), (22, .lload_n 2, 1), (23, .aload_n 0, 1), (24, .getfield 39, 3), (27, .lneg, 1), (28, .aload_n 0, 1), (29, .getfield 39, 3), (32, .invokestatic 48, 3), (35, .ifCond .ne 7, 3), (38, .iconst 1, 1), (39, .goto 4, 3), (42, .iconst 0, 1), (43, .iconst 0, 1), (44, .invokevirtual 72, 3), (47, .ifCond .ne 9, 3), (50, .aload_n 0, 1), (51, .iload_n 1, 1), (52, .lload_n 2, 1), (53, .invokevirtual 76, 3), (56, .return_, 1)]
theorem dmM_load : tmM_load.all (fun q => decide (decode (zg_cc mM_load) q.1 = .ok q.2)) = true := by decide +kernel
def tmM_isRegister : List (Nat × Instr × Nat) := [(0, .iload_n 0, 1), (1, .i2l, 1), (2, .lconst 0, 1), (3, .ldc2_w 46, 3), (6, .invokestatic 48, 3), (9, .ireturn, 1)]
theorem dmM_isRegister : tmM_isRegister.all (fun q => decide (decode (zg_cc mM_isRegister) q.1 = .ok q.2)) = true := by decide +kernel
def tmM_in : List (Nat × Instr × Nat) := [(0, .lload_n 0, 1), (1, .lload_n 2, 1), (2, .lcmp, 1), (3, .ifCond .lt 14, 3), (6, .lload_n 0, 1), (7, .lload 4, 2), (9, .lcmp, 1), (10, .ifCond .gt 7, 3), (13, .iconst 1, 1), (14, .goto 4, 3), (17, .iconst 0, 1), (18, .ireturn, 1)]
theorem dmM_in : tmM_in.all (fun q => decide (decode (zg_cc mM_in) q.1 = .ok q.2)) = true := by decide +kernel
def tmM_refuse : List (Nat × Instr × Nat) := [(0, .aload_n 0, 1), (1, .iload_n 1, 1), (2, .ifCond .eq 7, 3), (5, .iconst 1, 1), (6, .goto 20, 3), (9, .iload_n 2, 1), (10, .ifCond .eq 7, 3), (13, .iconst 2, 1), (14, .goto 12, 3), (17, .iload_n 3, 1), (18, .ifCond .eq 7, 3), (21, .iconst 3, 1), (22, .goto 4, 3), (25, .iconst 0, 1), (26, .putfield 42, 3), (29, .aload_n 0, 1), (30, .getfield 42, 3), (33, .ifCond .le 7, 3), (36, .iconst 1, 1), (37, .goto 4, 3), (40, .iconst 0, 1), (41, .ireturn, 1)]
theorem dmM_refuse : tmM_refuse.all (fun q => decide (decode (zg_cc mM_refuse) q.1 = .ok q.2)) = true := by decide +kernel
def tmM_put : List (Nat × Instr × Nat) := [(0, .iconst 0, 1), (1, .istore 4, 2), (3, .iload 4, 2), (5, .bipush 8, 2), (7, .if_icmp .ge 32, 3), (10, .aload_n 0, 1), (11, .getfield 13, 3), (14, .bipush 8, 2), (16, .iload_n 1, 1), (17, .imul, 1), (18, .iload 4, 2), (20, .iadd, 1), (21, .lload_n 2, 1), (22, .aload_n 0, 1), (23, .getfield 7, 3), (26, .iload 4, 2), (28, .iaload, 1), (29, .invokestatic 56, 3), (32, .iastore, 1), (33, .iinc 4 1, 3), (36, .goto (-33), 3), (39, .aload_n 0, 1), (40, .getfield 16, 3), (43, .iload_n 1, 1), (44, .lload_n 2, 1), (45, .lastore, 1), (46, .aload_n 0, 1), (47, .getfield 20, 3), (50, .iload_n 1, 1), (51, .lload_n 2, 1), (52, .lastore, 1), (53, .aload_n 0, 1), (54, .getfield 23, 3), (57, .iload_n 1, 1), (58, .iconst 1, 1), (59, .bastore, 1), (60, .return_, 1)]
theorem dmM_put : tmM_put.all (fun q => decide (decode (zg_cc mM_put) q.1 = .ok q.2)) = true := by decide +kernel
def tmM_rest : List (Nat × Instr × Nat) := [(0, .lload_n 0, 1), (1, .iload_n 2, 1), (2, .i2l, 1), (3, .lrem, 1), (4, .lstore_n 3, 1), (5, .lload_n 3, 1), (6, .lconst 0, 1), (7, .lcmp, 1), (8, .ifCond .ge 10, 3), (11, .lload_n 3, 1), (12, .iload_n 2, 1), (13, .i2l, 1), (14, .ladd, 1), (15, .goto 4, 3), (18, .lload_n 3, 1), (19, .l2i, 1), (20, .ireturn, 1)]
theorem dmM_rest : tmM_rest.all (fun q => decide (decode (zg_cc mM_rest) q.1 = .ok q.2)) = true := by decide +kernel
def tmM_binary : List (Nat × Instr × Nat) := [(0, .iload_n 1, 1), (1, .invokestatic 68, 3), (4, .istore_n 2, 1), (5, .aload_n 0, 1), (6, .iload_n 2, 1), (7, .ifCond .ne 7, 3), (10, .iconst 1, 1), (11, .goto 4, 3), (14, .iconst 0, 1), (15, .iload_n 2, 1), (16, .ifCond .eq 15, 3), (19, .aload_n 0, 1), (20, .iload_n 1, 1), (21, .invokevirtual 80, 3), (24, .ifCond .ne 7, 3), (27, .iconst 1, 1), (28, .goto 4, 3), (31, .iconst 0, 1), (32, .iconst 0, 1), (33, .invokevirtual 72, 3), (36, .ifCond .eq 5, 3), (39, .lconst 0, 1), (40, .lreturn, 1), (41, .aload_n 0, 1), (42, .iload_n 1, 1), (43, .invokevirtual 60, 3), (46, .lreturn, 1)]
theorem dmM_binary : tmM_binary.all (fun q => decide (decode (zg_cc mM_binary) q.1 = .ok q.2)) = true := by decide +kernel
def tmM_isGood : List (Nat × Instr × Nat) := [(0, .aload_n 0, 1), (1, .aload_n 0, 1), (2, .iload_n 1, 1), (3, .invokevirtual 60, 3), (6, .iload_n 1, 1), (7, .bipush 6, 2), (9, .invokevirtual 64, 3), (12, .ifCond .eq 22, 3), (15, .aload_n 0, 1), (16, .aload_n 0, 1), (17, .iload_n 1, 1), (18, .invokevirtual 60, 3), (21, .iload_n 1, 1), (22, .bipush 7, 2), (24, .invokevirtual 64, 3), (27, .ifCond .eq 7, 3), (30, .iconst 1, 1), (31, .goto 4, 3), (34, .iconst 0, 1), (35, .ireturn, 1)]
theorem dmM_isGood : tmM_isGood.all (fun q => decide (decode (zg_cc mM_isGood) q.1 = .ok q.2)) = true := by decide +kernel
def tmM_valueOf : List (Nat × Instr × Nat) := [(0, .aload_n 0, 1), (1, .iload_n 1, 1), (2, .iconst 0, 1), (3, .iconst 0, 1), (4, .invokevirtual 52, 3), (7, .lreturn, 1)]
theorem dmM_valueOf : tmM_valueOf.all (fun q => decide (decode (zg_cc mM_valueOf) q.1 = .ok q.2)) = true := by decide +kernel
def tmM_valueWith : List (Nat × Instr × Nat) := [(0, .lconst 0, 1), (1, .lstore 4, 2), (3, .iconst 0, 1), (4, .istore 6, 2), (6, .iload 6, 2), (8, .bipush 6, 2), (10, .if_icmp .ge 57, 3), (13, .iload 6, 2), (15, .iconst 1, 1), (16, .iadd, 1), (17, .iload_n 2, 1), (18, .if_icmp .ne 8, 3), (21, .iload_n 3, 1), (22, .i2l, 1), (23, .goto 16, 3), (26, .aload_n 0, 1), (27, .getfield 13, 3), (30, .bipush 8, 2), (32, .iload_n 1, 1), (33, .imul, 1), (34, .iload 6, 2), (36, .iadd, 1), (37, .iaload, 1), (38, .i2l, 1), (39, .lstore 7, 2), (41, .lload 4, 2), (43, .lload 7, 2), (45, .aload_n 0, 1), (46, .getfield 27, 3), (49, .iload 6, 2), (51, .laload, 1), (52, .lmul, 1), (53, .ladd, 1), (54, .aload_n 0, 1), (55, .getfield 33, 3), (58, .lrem, 1), (59, .lstore 4, 2), (61, .iinc 6 1, 3), (64, .goto (-58), 3), (67, .lload 4, 2), (69, .aload_n 0, 1), (70, .getfield 39, 3), (73, .lcmp, 1), (74, .ifCond .le 13, 3), (77, .lload 4, 2), (79, .aload_n 0, 1), (80, .getfield 33, 3), (83, .lsub, 1), (84, .goto 5, 3), (87, .lload 4, 2), (89, .lreturn, 1)]
theorem dmM_valueWith : tmM_valueWith.all (fun q => decide (decode (zg_cc mM_valueWith) q.1 = .ok q.2)) = true := by decide +kernel
def tmM_fits : List (Nat × Instr × Nat) := [(0, .lload_n 1, 1), (1, .aload_n 0, 1), (2, .getfield 7, 3), (5, .iload 4, 2), (7, .iaload, 1), (8, .invokestatic 56, 3), (11, .aload_n 0, 1), (12, .getfield 13, 3), (15, .bipush 8, 2), (17, .iload_n 3, 1), (18, .imul, 1), (19, .iload 4, 2), (21, .iadd, 1), (22, .iaload, 1), (23, .if_icmp .ne 7, 3), (26, .iconst 1, 1), (27, .goto 4, 3), (30, .iconst 0, 1), (31, .ireturn, 1)]
theorem dmM_fits : tmM_fits.all (fun q => decide (decode (zg_cc mM_fits) q.1 = .ok q.2)) = true := by decide +kernel
def tmM_work : List (Nat × Instr × Nat) := [(0, .iload_n 2, 1), (1, .invokestatic 68, 3), (4, .ifCond .eq 22, 3), (7, .iload_n 3, 1), (8, .invokestatic 68, 3), (11, .ifCond .eq 15, 3), (14, .iload 4, 2), (16, .invokestatic 68, 3), (19, .ifCond .eq 7, 3), (22, .iconst 1, 1), (23, .goto 4, 3), (26, .iconst 0, 1), (27, .istore 5, 2), (29, .aload_n 0, 1), (30, .iload 5, 2), (32, .ifCond .ne 7, 3), (35, .iconst 1, 1), (36, .goto 4, 3), (39, .iconst 0, 1), (40, .iload 5, 2), (42, .ifCond .eq 19, 3), (45, .iload_n 1, 1), (46, .i2l, 1), (47, .lconst 0, 1), (48, .ldc2_w 101, 3), (51, .invokestatic 48, 3), (54, .ifCond .ne 7, 3), (57, .iconst 1, 1), (58, .goto 4, 3), (61, .iconst 0, 1), (62, .iconst 0, 1), (63, .invokevirtual 72, 3), (66, .ifCond .ne 12, 3), (69, .aload_n 0, 1), (70, .iload_n 1, 1), (71, .iload_n 2, 1), (72, .iload_n 3, 1), (73, .iload 4, 2), (75, .invokevirtual 103, 3), (78, .return_, 1)]
theorem dmM_work : tmM_work.all (fun q => decide (decode (zg_cc mM_work) q.1 = .ok q.2)) = true := by decide +kernel
def tmM_reckon : List (Nat × Instr × Nat) := [(0, .aload_n 0, 1), (1, .iload_n 1, 1), (2, .iload_n 2, 1), (3, .iload_n 3, 1), (4, .iload 4, 2), (6, .invokevirtual 97, 3), (9, .iconst 0, 1), (10, .istore 5, 2), (12, .iload 5, 2), (14, .bipush 8, 2), (16, .if_icmp .ge 123, 3), (19, .aload_n 0, 1), (20, .getfield 13, 3), (23, .bipush 8, 2), (25, .iload_n 3, 1), (26, .imul, 1), (27, .iload 5, 2), (29, .iadd, 1), (30, .iaload, 1), (31, .i2l, 1), (32, .lstore 6, 2), (34, .aload_n 0, 1), (35, .getfield 13, 3), (38, .bipush 8, 2), (40, .iload 4, 2), (42, .imul, 1), (43, .iload 5, 2), (45, .iadd, 1), (46, .iaload, 1), (47, .i2l, 1), (48, .lstore 8, 2), (50, .iload_n 1, 1), (51, .ifCond .ne 11, 3), (54, .lload 6, 2), (56, .lload 8, 2), (58, .ladd, 1), (59, .goto 48, 3), (62, .iload_n 1, 1), (63, .iconst 1, 1), (64, .if_icmp .ne 11, 3), (67, .lload 6, 2), (69, .lload 8, 2), (71, .lsub, 1), (72, .goto 35, 3), (75, .iload_n 1, 1), (76, .iconst 2, 1), (77, .if_icmp .ne 11, 3), (80, .lload 6, 2), (82, .lload 8, 2), (84, .lmul, 1), (85, .goto 22, 3), (88, .aload_n 0, 1), (89, .getfield 13, 3), (92, .bipush 8, 2), (94, .iload_n 2, 1), (95, .imul, 1), (96, .iload 5, 2), (98, .iadd, 1), (99, .iaload, 1), (100, .i2l, 1), (101, .lload 6, 2), (103, .lload 8, 2), (105, .lmul, 1), (106, .ladd, 1), (107, .lstore 10, 2), (109, .aload_n 0, 1), (110, .getfield 13, 3), (113, .bipush 8, 2), (115, .iload_n 2, 1), (116, .imul, 1), (117, .iload 5, 2), (119, .iadd, 1), (120, .lload 10, 2), (122, .aload_n 0, 1), (123, .getfield 7, 3), (126, .iload 5, 2), (128, .iaload, 1), (129, .invokestatic 56, 3), (132, .iastore, 1), (133, .iinc 5 1, 3), (136, .goto (-124), 3), (139, .return_, 1)]
theorem dmM_reckon : tmM_reckon.all (fun q => decide (decode (zg_cc mM_reckon) q.1 = .ok q.2)) = true := by decide +kernel
def tmM_limit : List (Nat × Instr × Nat) := [(0, .iload_n 1, 1), (1, .ifCond .ne 38, 3), (4, .aload_n 0, 1), (5, .getfield 16, 3), (8, .iload_n 3, 1), (9, .laload, 1), (10, .aload_n 0, 1), (11, .getfield 16, 3), (14, .iload 4, 2), (16, .laload, 1), (17, .ladd, 1), (18, .lstore 5, 2), (20, .aload_n 0, 1), (21, .getfield 20, 3), (24, .iload_n 3, 1), (25, .laload, 1), (26, .aload_n 0, 1), (27, .getfield 20, 3), (30, .iload 4, 2), (32, .laload, 1), (33, .ladd, 1), (34, .lstore 7, 2), (36, .goto 195, 3), (39, .iload_n 1, 1), (40, .iconst 1, 1), (41, .if_icmp .ne 38, 3), (44, .aload_n 0, 1), (45, .getfield 16, 3), (48, .iload_n 3, 1), (49, .laload, 1), (50, .aload_n 0, 1), (51, .getfield 20, 3), (54, .iload 4, 2), (56, .laload, 1), (57, .lsub, 1), (58, .lstore 5, 2), (60, .aload_n 0, 1), (61, .getfield 20, 3), (64, .iload_n 3, 1), (65, .laload, 1), (66, .aload_n 0, 1), (67, .getfield 16, 3), (70, .iload 4, 2), (72, .laload, 1), (73, .lsub, 1), (74, .lstore 7, 2), (76, .goto 155, 3), (79, .aload_n 0, 1), (80, .getfield 16, 3), (83, .iload_n 3, 1), (84, .laload, 1), (85, .aload_n 0, 1), (86, .getfield 16, 3), (89, .iload 4, 2), (91, .laload, 1), (92, .invokestatic 87, 3), (95, .lstore 9, 2), (97, .aload_n 0, 1), (98, .getfield 16, 3), (101, .iload_n 3, 1), (102, .laload, 1), (103, .aload_n 0, 1), (104, .getfield 20, 3), (107, .iload 4, 2), (109, .laload, 1), (110, .invokestatic 87, 3), (113, .lstore 11, 2), (115, .aload_n 0, 1), (116, .getfield 20, 3), (119, .iload_n 3, 1), (120, .laload, 1), (121, .aload_n 0, 1), (122, .getfield 16, 3), (125, .iload 4, 2), (127, .laload, 1), (128, .invokestatic 87, 3), (131, .lstore 13, 2), (133, .aload_n 0, 1), (134, .getfield 20, 3), (137, .iload_n 3, 1), (138, .laload, 1), (139, .aload_n 0, 1), (140, .getfield 20, 3), (143, .iload 4, 2), (145, .laload, 1), (146, .invokestatic 87, 3), (149, .lstore 15, 2), (151, .lload 9, 2), (153, .lload 11, 2), (155, .invokestatic 91, 3), (158, .lload 13, 2), (160, .lload 15, 2), (162, .invokestatic 91, 3), (165, .invokestatic 91, 3), (168, .lstore 5, 2), (170, .lload 9, 2), (172, .lload 11, 2), (174, .invokestatic 94, 3), (177, .lload 13, 2), (179, .lload 15, 2), (181, .invokestatic 94, 3), (184, .invokestatic 94, 3), (187, .lstore 7, 2), (189, .iload_n 1, 1), (190, .iconst 3, 1), (191, .if_icmp .ne 15, 3), (194, .lload 5, 2), (196, .aload_n 0, 1), (197, .getfield 16, 3), (200, .iload_n 2, 1), (201, .laload, 1), (202, .ladd, 1), (203, .goto 5, 3), (206, .lload 5, 2), (208, .lstore 5, 2), (210, .iload_n 1, 1), (211, .iconst 3, 1), (212, .if_icmp .ne 15, 3), (215, .lload 7, 2), (217, .aload_n 0, 1), (218, .getfield 20, 3), (221, .iload_n 2, 1), (222, .laload, 1), (223, .ladd, 1), (224, .goto 5, 3), (227, .lload 7, 2), (229, .lstore 7, 2), (231, .aload_n 0, 1), (232, .getfield 23, 3), (235, .iload_n 3, 1), (236, .baload, 1), (237, .ifCond .eq 31, 3), (240, .aload_n 0, 1), (241, .getfield 23, 3), (244, .iload 4, 2), (246, .baload, 1), (247, .ifCond .eq 21, 3), (250, .iload_n 1, 1), (251, .iconst 3, 1), (252, .if_icmp .lt 12, 3), (255, .aload_n 0, 1), (256, .getfield 23, 3), (259, .iload_n 2, 1), (260, .baload, 1), (261, .ifCond .eq 7, 3), (264, .iconst 1, 1), (265, .goto 4, 3), (268, .iconst 0, 1), (269, .istore 9, 2), (271, .aload_n 0, 1), (272, .getfield 23, 3), (275, .iload_n 2, 1), (276, .iload 9, 2), (278, .ifCond .eq 28, 3), (281, .lload 5, 2), (283, .aload_n 0, 1), (284, .getfield 39, 3), (287, .lneg, 1), (288, .lcmp, 1), (289, .ifCond .lt 17, 3), (292, .lload 7, 2), (294, .aload_n 0, 1), (295, .getfield 39, 3), (298, .lcmp, 1), (299, .ifCond .gt 7, 3), (302, .iconst 1, 1), (303, .goto 4, 3), (306, .iconst 0, 1), (307, .bastore, 1), (308, .aload_n 0, 1), (309, .getfield 16, 3), (312, .iload_n 2, 1), (313, .aload_n 0, 1), (314, .getfield 23, 3), (317, .iload_n 2, 1), (318, .baload, 1), (319, .ifCond .eq 8, 3), (322, .lload 5, 2), (324, .goto 4, 3), (327, .lconst 0, 1), (328, .lastore, 1), (329, .aload_n 0, 1), (330, .getfield 20, 3), (333, .iload_n 2, 1), (334, .aload_n 0, 1), (335, .getfield 23, 3), (338, .iload_n 2, 1), (339, .baload, 1), (340, .ifCond .eq 8, 3), (343, .lload 7, 2), (345, .goto 4, 3), (348, .lconst 0, 1), (349, .lastore, 1), (350, .return_, 1)]
theorem dmM_limit : tmM_limit.all (fun q => decide (decode (zg_cc mM_limit) q.1 = .ok q.2)) = true := by decide +kernel
def tmM_product : List (Nat × Instr × Nat) := [(0, .lload_n 0, 1), (1, .lconst 0, 1), (2, .lcmp, 1), (3, .ifCond .ge 8, 3), (6, .lload_n 0, 1), (7, .lneg, 1), (8, .goto 4, 3), (11, .lload_n 0, 1), (12, .lstore 4, 2), (14, .lload_n 2, 1), (15, .lconst 0, 1), (16, .lcmp, 1), (17, .ifCond .ge 8, 3), (20, .lload_n 2, 1), (21, .lneg, 1), (22, .goto 4, 3), (25, .lload_n 2, 1), (26, .lstore 6, 2), (28, .lload_n 0, 1), (29, .lconst 0, 1), (30, .lcmp, 1), (31, .ifCond .ge 7, 3), (34, .iconst 1, 1), (35, .goto 4, 3), (38, .iconst 0, 1), (39, .lload_n 2, 1), (40, .lconst 0, 1), (41, .lcmp, 1), (42, .ifCond .ge 7, 3), (45, .iconst 1, 1), (46, .goto 4, 3), (49, .iconst 0, 1), (50, .if_icmp .eq 7, 3), (53, .iconst 1, 1), (54, .goto 4, 3), (57, .iconst 0, 1), (58, .istore 8, 2), (60, .lload 4, 2), (62, .lconst 0, 1), (63, .lcmp, 1), (64, .ifCond .le 19, 3), (67, .lload 6, 2), (69, .ldc2_w 83, 3), (72, .lload 4, 2), (74, .ldiv, 1), (75, .lcmp, 1), (76, .ifCond .le 7, 3), (79, .iconst 1, 1), (80, .goto 4, 3), (83, .iconst 0, 1), (84, .istore 9, 2), (86, .iload 9, 2), (88, .ifCond .eq 9, 3), (91, .ldc2_w 85, 3), (94, .goto 8, 3), (97, .lload 4, 2), (99, .lload 6, 2), (101, .lmul, 1), (102, .lstore 10, 2), (104, .iload 8, 2), (106, .ifCond .eq 9, 3), (109, .lload 10, 2), (111, .lneg, 1), (112, .goto 5, 3), (115, .lload 10, 2), (117, .lreturn, 1)]
theorem dmM_product : tmM_product.all (fun q => decide (decode (zg_cc mM_product) q.1 = .ok q.2)) = true := by decide +kernel
def tmM_least : List (Nat × Instr × Nat) := [(0, .lload_n 0, 1), (1, .lload_n 2, 1), (2, .lcmp, 1), (3, .ifCond .ge 7, 3), (6, .lload_n 0, 1), (7, .goto 4, 3), (10, .lload_n 2, 1), (11, .lreturn, 1)]
theorem dmM_least : tmM_least.all (fun q => decide (decode (zg_cc mM_least) q.1 = .ok q.2)) = true := by decide +kernel
def tmM_greatest : List (Nat × Instr × Nat) := [(0, .lload_n 0, 1), (1, .lload_n 2, 1), (2, .lcmp, 1), (3, .ifCond .le 7, 3), (6, .lload_n 0, 1), (7, .goto 4, 3), (10, .lload_n 2, 1), (11, .lreturn, 1)]
theorem dmM_greatest : tmM_greatest.all (fun q => decide (decode (zg_cc mM_greatest) q.1 = .ok q.2)) = true := by decide +kernel
def tmM_compare : List (Nat × Instr × Nat) := [(0, .aload_n 0, 1), (1, .iload_n 1, 1), (2, .invokestatic 68, 3), (5, .ifCond .eq 10, 3), (8, .iload_n 2, 1), (9, .invokestatic 68, 3), (12, .ifCond .ne 7, 3), (15, .iconst 1, 1), (16, .goto 4, 3), (19, .iconst 0, 1), (20, .iconst 0, 1), (21, .iconst 0, 1), (22, .invokevirtual 72, 3), (25, .ifCond .eq 5, 3), (28, .iconst 0, 1), (29, .ireturn, 1), (30, .aload_n 0, 1), (31, .iload_n 1, 1), (32, .invokevirtual 60, 3), (35, .lstore_n 3, 1), (36, .aload_n 0, 1), (37, .iload_n 2, 1), (38, .invokevirtual 60, 3), (41, .lstore 5, 2), (43, .lload_n 3, 1), (44, .lload 5, 2), (46, .lcmp, 1), (47, .ifCond .ge 7, 3), (50, .iconst (-1), 1), (51, .goto 15, 3), (54, .lload_n 3, 1), (55, .lload 5, 2), (57, .lcmp, 1), (58, .ifCond .le 7, 3), (61, .iconst 1, 1), (62, .goto 4, 3), (65, .iconst 0, 1), (66, .ireturn, 1)]
theorem dmM_compare : tmM_compare.all (fun q => decide (decode (zg_cc mM_compare) q.1 = .ok q.2)) = true := by decide +kernel
def tmM_scale : List (Nat × Instr × Nat) := [(0, .iload_n 1, 1), (1, .invokestatic 68, 3), (4, .ifCond .eq 14, 3), (7, .iload_n 2, 1), (8, .invokestatic 68, 3), (11, .ifCond .eq 7, 3), (14, .iconst 1, 1), (15, .goto 4, 3), (18, .iconst 0, 1), (19, .istore 5, 2), (21, .aload_n 0, 1), (22, .iload 5, 2), (24, .ifCond .ne 7, 3), (27, .iconst 1, 1), (28, .goto 4, 3), (31, .iconst 0, 1), (32, .iload 5, 2), (34, .ifCond .eq 14, 3), (37, .iload_n 3, 1), (38, .invokestatic 115, 3), (41, .ifCond .ne 7, 3), (44, .iconst 1, 1), (45, .goto 4, 3), (48, .iconst 0, 1), (49, .iconst 0, 1), (50, .invokevirtual 72, 3), (53, .ifCond .ne 12, 3), (56, .aload_n 0, 1), (57, .iload_n 1, 1), (58, .iload_n 2, 1), (59, .iload_n 3, 1), (60, .iload 4, 2), (62, .invokevirtual 118, 3), (65, .return_, 1)]
theorem dmM_scale : tmM_scale.all (fun q => decide (decode (zg_cc mM_scale) q.1 = .ok q.2)) = true := by decide +kernel
def tmM_isModuli : List (Nat × Instr × Nat) := [(0, .iload_n 0, 1), (1, .i2l, 1), (2, .lconst 1, 1), (3, .ldc2_w 106, 3), (6, .invokestatic 48, 3), (9, .ifCond .eq 15, 3), (12, .iload_n 0, 1), (13, .invokestatic 108, 3), (16, .iconst 5, 1), (17, .if_icmp .ge 7, 3), (20, .iconst 1, 1), (21, .goto 4, 3), (24, .iconst 0, 1), (25, .ireturn, 1)]
theorem dmM_isModuli : tmM_isModuli.all (fun q => decide (decode (zg_cc mM_isModuli) q.1 = .ok q.2)) = true := by decide +kernel
def tmM_many : List (Nat × Instr × Nat) := [(0, .iconst 0, 1), (1, .istore_n 1, 1), (2, .iconst 0, 1), (3, .istore_n 2, 1), (4, .iload_n 2, 1), (5, .bipush 6, 2), (7, .if_icmp .ge 17, 3), (10, .iload_n 1, 1), (11, .iload_n 0, 1), (12, .iload_n 2, 1), (13, .ishr, 1), (14, .iconst 1, 1), (15, .iand, 1), (16, .iadd, 1), (17, .istore_n 1, 1), (18, .iinc 2 1, 3), (21, .goto (-17), 3), (24, .iload_n 1, 1), (25, .ireturn, 1)]
theorem dmM_many : tmM_many.all (fun q => decide (decode (zg_cc mM_many) q.1 = .ok q.2)) = true := by decide +kernel
def tmM_scaleBy : List (Nat × Instr × Nat) := [(0, .lconst 1, 1), (1, .lstore 5, 2), (3, .iconst 0, 1), (4, .istore 7, 2), (6, .iload 7, 2), (8, .bipush 6, 2), (10, .if_icmp .ge 37, 3), (13, .iload_n 3, 1), (14, .iload 7, 2), (16, .ishr, 1), (17, .iconst 1, 1), (18, .iand, 1), (19, .iconst 1, 1), (20, .if_icmp .ne 17, 3), (23, .lload 5, 2), (25, .aload_n 0, 1), (26, .getfield 7, 3), (29, .iload 7, 2), (31, .iaload, 1), (32, .i2l, 1), (33, .lmul, 1), (34, .goto 5, 3), (37, .lload 5, 2), (39, .lstore 5, 2), (41, .iinc 7 1, 3), (44, .goto (-38), 3), (47, .aload_n 0, 1), (48, .iload_n 2, 1), (49, .invokevirtual 60, 3), (52, .lstore 7, 2), (54, .aload_n 0, 1), (55, .iload_n 1, 1), (56, .iload 4, 2), (58, .ifCond .eq 24, 3), (61, .ldc2_w 37, 3), (64, .lload 7, 2), (66, .lmul, 1), (67, .lload 5, 2), (69, .ladd, 1), (70, .ldc2_w 37, 3), (73, .lload 5, 2), (75, .lmul, 1), (76, .invokestatic 112, 3), (79, .goto 10, 3), (82, .lload 7, 2), (84, .lload 5, 2), (86, .invokestatic 112, 3), (89, .invokevirtual 76, 3), (92, .return_, 1)]
theorem dmM_scaleBy : tmM_scaleBy.all (fun q => decide (decode (zg_cc mM_scaleBy) q.1 = .ok q.2)) = true := by decide +kernel
def tmM_down : List (Nat × Instr × Nat) := [(0, .lload_n 0, 1), (1, .lload_n 2, 1), (2, .ldiv, 1), (3, .lstore 4, 2), (5, .lload 4, 2), (7, .lload_n 2, 1), (8, .lmul, 1), (9, .lload_n 0, 1), (10, .lcmp, 1), (11, .ifCond .le 10, 3), (14, .lload 4, 2), (16, .lconst 1, 1), (17, .lsub, 1), (18, .goto 5, 3), (21, .lload 4, 2), (23, .lreturn, 1)]
theorem dmM_down : tmM_down.all (fun q => decide (decode (zg_cc mM_down) q.1 = .ok q.2)) = true := by decide +kernel
def tmM_divide : List (Nat × Instr × Nat) := [(0, .iload_n 1, 1), (1, .invokestatic 68, 3), (4, .ifCond .eq 29, 3), (7, .iload_n 2, 1), (8, .invokestatic 68, 3), (11, .ifCond .eq 22, 3), (14, .iload_n 3, 1), (15, .invokestatic 68, 3), (18, .ifCond .eq 15, 3), (21, .iload 4, 2), (23, .invokestatic 68, 3), (26, .ifCond .eq 7, 3), (29, .iconst 1, 1), (30, .goto 4, 3), (33, .iconst 0, 1), (34, .istore 5, 2), (36, .aload_n 0, 1), (37, .iload 5, 2), (39, .ifCond .ne 7, 3), (42, .iconst 1, 1), (43, .goto 4, 3), (46, .iconst 0, 1), (47, .iload 5, 2), (49, .ifCond .eq 18, 3), (52, .aload_n 0, 1), (53, .iload 4, 2), (55, .invokevirtual 60, 3), (58, .lconst 0, 1), (59, .lcmp, 1), (60, .ifCond .ne 7, 3), (63, .iconst 1, 1), (64, .goto 4, 3), (67, .iconst 0, 1), (68, .iconst 0, 1), (69, .invokevirtual 72, 3), (72, .ifCond .eq 4, 3), (75, .return_, 1), (76, .aload_n 0, 1), (77, .iload_n 3, 1), (78, .invokevirtual 60, 3), (81, .lstore 6, 2), (83, .aload_n 0, 1), (84, .iload 4, 2), (86, .invokevirtual 60, 3), (89, .lstore 8, 2), (91, .aload_n 0, 1), (92, .iload_n 1, 1), (93, .lload 6, 2), (95, .lload 8, 2), (97, .ldiv, 1), (98, .invokevirtual 76, 3), (101, .aload_n 0, 1), (102, .iload_n 2, 1), (103, .lload 6, 2), (105, .lload 8, 2), (107, .lrem, 1), (108, .invokevirtual 76, 3), (111, .return_, 1)]
theorem dmM_divide : tmM_divide.all (fun q => decide (decode (zg_cc mM_divide) q.1 = .ok q.2)) = true := by decide +kernel
def tmM_channel : List (Nat × Instr × Nat) := [(0, .aload_n 0, 1), (1, .iload_n 1, 1), (2, .invokestatic 68, 3), (5, .ifCond .eq 15, 3), (8, .iload_n 2, 1), (9, .i2l, 1), (10, .lconst 1, 1), (11, .ldc2_w 122, 3), (14, .invokestatic 48, 3), (17, .ifCond .ne 7, 3), (20, .iconst 1, 1), (21, .goto 4, 3), (24, .iconst 0, 1), (25, .iconst 0, 1), (26, .iconst 0, 1), (27, .invokevirtual 72, 3), (30, .ifCond .eq 7, 3), (33, .iconst 0, 1), (34, .goto 16, 3), (37, .aload_n 0, 1), (38, .getfield 13, 3), (41, .bipush 8, 2), (43, .iload_n 1, 1), (44, .imul, 1), (45, .iload_n 2, 1), (46, .iadd, 1), (47, .iconst 1, 1), (48, .isub, 1), (49, .iaload, 1), (50, .ireturn, 1)]
theorem dmM_channel : tmM_channel.all (fun q => decide (decode (zg_cc mM_channel) q.1 = .ok q.2)) = true := by decide +kernel
def tmM_inject : List (Nat × Instr × Nat) := [(0, .aload_n 0, 1), (1, .iload_n 1, 1), (2, .invokestatic 68, 3), (5, .ifCond .eq 15, 3), (8, .iload_n 2, 1), (9, .i2l, 1), (10, .lconst 1, 1), (11, .ldc2_w 122, 3), (14, .invokestatic 48, 3), (17, .ifCond .ne 7, 3), (20, .iconst 1, 1), (21, .goto 4, 3), (24, .iconst 0, 1), (25, .iconst 0, 1), (26, .iconst 0, 1), (27, .invokevirtual 72, 3), (30, .ifCond .eq 5, 3), (33, .iconst 0, 1), (34, .ireturn, 1), (35, .bipush 8, 2), (37, .iload_n 1, 1), (38, .imul, 1), (39, .iload_n 2, 1), (40, .iadd, 1), (41, .iconst 1, 1), (42, .isub, 1), (43, .istore 4, 2), (45, .aload_n 0, 1), (46, .getfield 13, 3), (49, .iload 4, 2), (51, .aload_n 0, 1), (52, .getfield 13, 3), (55, .iload 4, 2), (57, .iaload, 1), (58, .i2l, 1), (59, .iload_n 3, 1), (60, .i2l, 1), (61, .ladd, 1), (62, .aload_n 0, 1), (63, .getfield 7, 3), (66, .iload_n 2, 1), (67, .iconst 1, 1), (68, .isub, 1), (69, .iaload, 1), (70, .invokestatic 56, 3), (73, .iastore, 1), (74, .aload_n 0, 1), (75, .getfield 13, 3), (78, .iload 4, 2), (80, .iaload, 1), (81, .ireturn, 1)]
theorem dmM_inject : tmM_inject.all (fun q => decide (decode (zg_cc mM_inject) q.1 = .ok q.2)) = true := by decide +kernel
def tmM_verify : List (Nat × Instr × Nat) := [(0, .aload_n 0, 1), (1, .iload_n 1, 1), (2, .invokestatic 68, 3), (5, .ifCond .ne 7, 3), (8, .iconst 1, 1), (9, .goto 4, 3), (12, .iconst 0, 1), (13, .iconst 0, 1), (14, .iconst 0, 1), (15, .invokevirtual 72, 3), (18, .ifCond .eq 7, 3), (21, .iconst 0, 1), (22, .goto 8, 3), (25, .aload_n 0, 1), (26, .iload_n 1, 1), (27, .invokevirtual 128, 3), (30, .ireturn, 1)]
theorem dmM_verify : tmM_verify.all (fun q => decide (decode (zg_cc mM_verify) q.1 = .ok q.2)) = true := by decide +kernel
def tmM_faultOf : List (Nat × Instr × Nat) := [(0, .aload_n 0, 1), (1, .iload_n 1, 1), (2, .invokevirtual 80, 3), (5, .ifCond .eq 5, 3), (8, .iconst 0, 1), (9, .ireturn, 1), (10, .iconst 1, 1), (11, .istore_n 2, 1), (12, .iload_n 2, 1), (13, .bipush 9, 2), (15, .if_icmp .ge 20, 3), (18, .aload_n 0, 1), (19, .iload_n 1, 1), (20, .iload_n 2, 1), (21, .invokevirtual 124, 3), (24, .ifCond .lt 5, 3), (27, .iload_n 2, 1), (28, .ireturn, 1), (29, .iinc 2 1, 3), (32, .goto (-20), 3), (35, .bipush 9, 2), (37, .ireturn, 1)]
theorem dmM_faultOf : tmM_faultOf.all (fun q => decide (decode (zg_cc mM_faultOf) q.1 = .ok q.2)) = true := by decide +kernel
def tmM_cure : List (Nat × Instr × Nat) := [(0, .iload_n 2, 1), (1, .bipush 6, 2), (3, .if_icmp .le 64, 3), (6, .aload_n 0, 1), (7, .iload_n 1, 1), (8, .invokevirtual 60, 3), (11, .lstore_n 3, 1), (12, .aload_n 0, 1), (13, .lload_n 3, 1), (14, .iload_n 1, 1), (15, .iload_n 2, 1), (16, .bipush 7, 2), (18, .if_icmp .ne 8, 3), (21, .bipush 7, 2), (23, .goto 5, 3), (26, .bipush 6, 2), (28, .invokevirtual 64, 3), (31, .istore 5, 2), (33, .iload 5, 2), (35, .ifCond .eq 30, 3), (38, .aload_n 0, 1), (39, .lload_n 3, 1), (40, .iload_n 1, 1), (41, .iload_n 2, 1), (42, .iconst 1, 1), (43, .isub, 1), (44, .invokevirtual 64, 3), (47, .ifCond .ne 18, 3), (50, .lload_n 3, 1), (51, .aload_n 0, 1), (52, .getfield 7, 3), (55, .iload_n 2, 1), (56, .iconst 1, 1), (57, .isub, 1), (58, .iaload, 1), (59, .invokestatic 56, 3), (62, .goto 4, 3), (65, .iconst (-1), 1), (66, .ireturn, 1), (67, .iconst 0, 1), (68, .istore_n 3, 1), (69, .iload_n 3, 1), (70, .aload_n 0, 1), (71, .getfield 7, 3), (74, .iload_n 2, 1), (75, .iconst 1, 1), (76, .isub, 1), (77, .iaload, 1), (78, .if_icmp .ge 61, 3), (81, .aload_n 0, 1), (82, .iload_n 1, 1), (83, .iload_n 2, 1), (84, .iload_n 3, 1), (85, .invokevirtual 52, 3), (88, .lstore 4, 2), (90, .iload_n 3, 1), (91, .aload_n 0, 1), (92, .getfield 13, 3), (95, .bipush 8, 2), (97, .iload_n 1, 1), (98, .imul, 1), (99, .iload_n 2, 1), (100, .iadd, 1), (101, .iconst 1, 1), (102, .isub, 1), (103, .iaload, 1), (104, .if_icmp .eq 29, 3), (107, .aload_n 0, 1), (108, .lload 4, 2), (110, .iload_n 1, 1), (111, .bipush 6, 2), (113, .invokevirtual 64, 3), (116, .ifCond .eq 17, 3), (119, .aload_n 0, 1), (120, .lload 4, 2), (122, .iload_n 1, 1), (123, .bipush 7, 2), (125, .invokevirtual 64, 3), (128, .ifCond .eq 5, 3), (131, .iload_n 3, 1), (132, .ireturn, 1), (133, .iinc 3 1, 3), (136, .goto (-67), 3), (139, .iconst (-1), 1), (140, .ireturn, 1)]
theorem dmM_cure : tmM_cure.all (fun q => decide (decode (zg_cc mM_cure) q.1 = .ok q.2)) = true := by decide +kernel
def tmM_repair : List (Nat × Instr × Nat) := [(0, .iload_n 1, 1), (1, .invokestatic 68, 3), (4, .istore_n 2, 1), (5, .iload_n 2, 1), (6, .ifCond .eq 11, 3), (9, .aload_n 0, 1), (10, .iload_n 1, 1), (11, .invokevirtual 128, 3), (14, .goto 4, 3), (17, .iconst 0, 1), (18, .istore_n 3, 1), (19, .aload_n 0, 1), (20, .iload_n 2, 1), (21, .ifCond .ne 7, 3), (24, .iconst 1, 1), (25, .goto 4, 3), (28, .iconst 0, 1), (29, .iload_n 3, 1), (30, .bipush 9, 2), (32, .if_icmp .ne 7, 3), (35, .iconst 1, 1), (36, .goto 4, 3), (39, .iconst 0, 1), (40, .iconst 0, 1), (41, .invokevirtual 72, 3), (44, .ifCond .eq 5, 3), (47, .iconst 0, 1), (48, .ireturn, 1), (49, .iload_n 3, 1), (50, .ifCond .le 22, 3), (53, .aload_n 0, 1), (54, .getfield 13, 3), (57, .bipush 8, 2), (59, .iload_n 1, 1), (60, .imul, 1), (61, .iload_n 3, 1), (62, .iadd, 1), (63, .iconst 1, 1), (64, .isub, 1), (65, .aload_n 0, 1), (66, .iload_n 1, 1), (67, .iload_n 3, 1), (68, .invokevirtual 124, 3), (71, .iastore, 1), (72, .iload_n 3, 1), (73, .ireturn, 1)]
theorem dmM_repair : tmM_repair.all (fun q => decide (decode (zg_cc mM_repair) q.1 = .ok q.2)) = true := by decide +kernel
def tmM_sure : List (Nat × Instr × Nat) := [(0, .aload_n 0, 1), (1, .iload_n 1, 1), (2, .invokestatic 68, 3), (5, .ifCond .ne 7, 3), (8, .iconst 1, 1), (9, .goto 4, 3), (12, .iconst 0, 1), (13, .iconst 0, 1), (14, .iconst 0, 1), (15, .invokevirtual 72, 3), (18, .ifCond .ne 16, 3), (21, .aload_n 0, 1), (22, .getfield 23, 3), (25, .iload_n 1, 1), (26, .baload, 1), (27, .ifCond .eq 7, 3), (30, .iconst 1, 1), (31, .goto 4, 3), (34, .iconst 0, 1), (35, .ireturn, 1)]
theorem dmM_sure : tmM_sure.all (fun q => decide (decode (zg_cc mM_sure) q.1 = .ok q.2)) = true := by decide +kernel
def tmM_bound : List (Nat × Instr × Nat) := [(0, .iload_n 1, 1), (1, .invokestatic 68, 3), (4, .istore_n 3, 1), (5, .iload_n 3, 1), (6, .ifCond .eq 17, 3), (9, .iload_n 2, 1), (10, .i2l, 1), (11, .lconst 0, 1), (12, .lconst 1, 1), (13, .invokestatic 48, 3), (16, .ifCond .eq 7, 3), (19, .iconst 1, 1), (20, .goto 4, 3), (23, .iconst 0, 1), (24, .istore 4, 2), (26, .aload_n 0, 1), (27, .iload_n 3, 1), (28, .ifCond .ne 7, 3), (31, .iconst 1, 1), (32, .goto 4, 3), (35, .iconst 0, 1), (36, .iload_n 3, 1), (37, .ifCond .eq 12, 3), (40, .iload 4, 2), (42, .ifCond .ne 7, 3), (45, .iconst 1, 1), (46, .goto 4, 3), (49, .iconst 0, 1), (50, .iload 4, 2), (52, .ifCond .eq 16, 3), (55, .aload_n 0, 1), (56, .getfield 23, 3), (59, .iload_n 1, 1), (60, .baload, 1), (61, .ifCond .ne 7, 3), (64, .iconst 1, 1), (65, .goto 4, 3), (68, .iconst 0, 1), (69, .invokevirtual 72, 3), (72, .ifCond .eq 5, 3), (75, .lconst 0, 1), (76, .lreturn, 1), (77, .iload_n 2, 1), (78, .ifCond .ne 12, 3), (81, .aload_n 0, 1), (82, .getfield 16, 3), (85, .iload_n 1, 1), (86, .laload, 1), (87, .goto 9, 3), (90, .aload_n 0, 1), (91, .getfield 20, 3), (94, .iload_n 1, 1), (95, .laload, 1), (96, .lreturn, 1)]
theorem dmM_bound : tmM_bound.all (fun q => decide (decode (zg_cc mM_bound) q.1 = .ok q.2)) = true := by decide +kernel
def tmM_instruct : List (Nat × Instr × Nat) := [(0, .iload_n 1, 1), (1, .invokestatic 133, 3), (4, .istore 6, 2), (6, .aload_n 0, 1), (7, .iload 6, 2), (9, .ifCond .ne 7, 3), (12, .iconst 1, 1), (13, .goto 4, 3), (16, .iconst 0, 1), (17, .iload 6, 2), (19, .ifCond .eq 19, 3), (22, .iload_n 2, 1), (23, .iload_n 3, 1), (24, .iload 4, 2), (26, .iload 5, 2), (28, .invokestatic 142, 3), (31, .ifCond .ne 7, 3), (34, .iconst 1, 1), (35, .goto 4, 3), (38, .iconst 0, 1), (39, .iconst 0, 1), (40, .invokevirtual 72, 3), (43, .ifCond .eq 4, 3), (46, .return_, 1), (47, .aload_n 0, 1), (48, .getfield 30, 3), (51, .iconst 4, 1), (52, .iload_n 1, 1), (53, .imul, 1), (54, .iload_n 2, 1), (55, .iastore, 1), (56, .aload_n 0, 1), (57, .getfield 30, 3), (60, .iconst 4, 1), (61, .iload_n 1, 1), (62, .imul, 1), (63, .iconst 1, 1), (64, .iadd, 1), (65, .iload_n 3, 1), (66, .iastore, 1), (67, .aload_n 0, 1), (68, .getfield 30, 3), (71, .iconst 4, 1), (72, .iload_n 1, 1), (73, .imul, 1), (74, .iconst 2, 1), (75, .iadd, 1), (76, .iload 4, 2), (78, .iastore, 1), (79, .aload_n 0, 1), (80, .getfield 30, 3), (83, .iconst 4, 1), (84, .iload_n 1, 1), (85, .imul, 1), (86, .iconst 3, 1), (87, .iadd, 1), (88, .iload 5, 2), (90, .iastore, 1), (91, .return_, 1)]
theorem dmM_instruct : tmM_instruct.all (fun q => decide (decode (zg_cc mM_instruct) q.1 = .ok q.2)) = true := by decide +kernel
def tmM_isInstruction : List (Nat × Instr × Nat) := [(0, .iload_n 0, 1), (1, .i2l, 1), (2, .lconst 0, 1), (3, .ldc2_w 131, 3), (6, .invokestatic 48, 3), (9, .ireturn, 1)]
theorem dmM_isInstruction : tmM_isInstruction.all (fun q => decide (decode (zg_cc mM_isInstruction) q.1 = .ok q.2)) = true := by decide +kernel
def tmM_mayBe : List (Nat × Instr × Nat) := [(0, .iload_n 0, 1), (1, .tableswitch 201 0 11 #[63, 65, 65, 65, 65, 92, 119, 139, 144, 164, 139, 174], 63), (64, .iconst 1, 1), (65, .ireturn, 1), (66, .iload_n 1, 1), (67, .invokestatic 68, 3), (70, .ifCond .eq 21, 3), (73, .iload_n 2, 1), (74, .invokestatic 68, 3), (77, .ifCond .eq 14, 3), (80, .iload_n 3, 1), (81, .invokestatic 68, 3), (84, .ifCond .eq 7, 3), (87, .iconst 1, 1), (88, .goto 4, 3), (91, .iconst 0, 1), (92, .ireturn, 1), (93, .iload_n 1, 1), (94, .invokestatic 68, 3), (97, .ifCond .eq 21, 3), (100, .iload_n 2, 1), (101, .invokestatic 68, 3), (104, .ifCond .eq 14, 3), (107, .iload_n 3, 1), (108, .invokestatic 115, 3), (111, .ifCond .eq 7, 3), (114, .iconst 1, 1), (115, .goto 4, 3), (118, .iconst 0, 1), (119, .ireturn, 1), (120, .iload_n 1, 1), (121, .invokestatic 68, 3), (124, .ifCond .eq 14, 3), (127, .iload_n 2, 1), (128, .invokestatic 68, 3), (131, .ifCond .eq 7, 3), (134, .iconst 1, 1), (135, .goto 4, 3), (138, .iconst 0, 1), (139, .ireturn, 1), (140, .iload_n 1, 1), (141, .invokestatic 133, 3), (144, .ireturn, 1), (145, .iload_n 1, 1), (146, .invokestatic 68, 3), (149, .ifCond .eq 14, 3), (152, .iload_n 2, 1), (153, .invokestatic 133, 3), (156, .ifCond .eq 7, 3), (159, .iconst 1, 1), (160, .goto 4, 3), (163, .iconst 0, 1), (164, .ireturn, 1), (165, .iload_n 1, 1), (166, .i2l, 1), (167, .lconst 0, 1), (168, .ldc2_w 136, 3), (171, .invokestatic 48, 3), (174, .ireturn, 1), (175, .iload_n 1, 1), (176, .invokestatic 68, 3), (179, .ifCond .eq 21, 3), (182, .iload_n 2, 1), (183, .i2l, 1), (184, .ldc2_w 138, 3), (187, .ldc2_w 140, 3), (190, .invokestatic 48, 3), (193, .ifCond .eq 7, 3), (196, .iconst 1, 1), (197, .goto 4, 3), (200, .iconst 0, 1), (201, .ireturn, 1), (202, .iconst 0, 1), (203, .ireturn, 1)]
theorem dmM_mayBe : tmM_mayBe.all (fun q => decide (decode (zg_cc mM_mayBe) q.1 = .ok q.2)) = true := by decide +kernel
def tmM_run : List (Nat × Instr × Nat) := [(0, .aload_n 0, 1), (1, .iload_n 1, 1), (2, .i2l, 1), (3, .lconst 0, 1), (4, .ldc2_w 153, 3), (7, .invokestatic 48, 3), (10, .ifCond .ne 7, 3), (13, .iconst 1, 1), (14, .goto 4, 3), (17, .iconst 0, 1), (18, .iconst 0, 1), (19, .iconst 0, 1), (20, .invokevirtual 72, 3), (23, .ifCond .eq 5, 3), (26, .iconst 0, 1), (27, .ireturn, 1), (28, .aload_n 0, 1), (29, .iconst 0, 1), (30, .putfield 150, 3), (33, .iconst 0, 1), (34, .istore_n 2, 1), (35, .iconst 0, 1), (36, .istore_n 3, 1), (37, .aload_n 0, 1), (38, .iconst 0, 1), (39, .putfield 155, 3), (42, .aload_n 0, 1), (43, .getfield 155, 3), (46, .ifCond .ne 61, 3), (49, .iload_n 2, 1), (50, .bipush 32, 2), (52, .if_icmp .ne 11, 3), (55, .aload_n 0, 1), (56, .iconst 2, 1), (57, .putfield 155, 3), (60, .goto (-18), 3), (63, .iload_n 3, 1), (64, .iload_n 1, 1), (65, .if_icmp .ne 11, 3), (68, .aload_n 0, 1), (69, .iconst 3, 1), (70, .putfield 155, 3), (73, .goto (-31), 3), (76, .iinc 3 1, 3), (79, .aload_n 0, 1), (80, .getfield 30, 3), (83, .iconst 4, 1), (84, .iload_n 2, 1), (85, .imul, 1), (86, .iaload, 1), (87, .ifCond .ne 11, 3), (90, .aload_n 0, 1), (91, .iconst 1, 1), (92, .putfield 155, 3), (95, .goto (-53), 3), (98, .aload_n 0, 1), (99, .iload_n 2, 1), (100, .invokevirtual 158, 3), (103, .istore_n 2, 1), (104, .goto (-62), 3), (107, .iload_n 3, 1), (108, .ireturn, 1)]
theorem dmM_run : tmM_run.all (fun q => decide (decode (zg_cc mM_run) q.1 = .ok q.2)) = true := by decide +kernel
def tmM_perform : List (Nat × Instr × Nat) := [(0, .aload_n 0, 1), (1, .getfield 30, 3), (4, .iconst 4, 1), (5, .iload_n 1, 1), (6, .imul, 1), (7, .iconst 1, 1), (8, .iadd, 1), (9, .iaload, 1), (10, .istore_n 2, 1), (11, .aload_n 0, 1), (12, .getfield 30, 3), (15, .iconst 4, 1), (16, .iload_n 1, 1), (17, .imul, 1), (18, .iconst 2, 1), (19, .iadd, 1), (20, .iaload, 1), (21, .istore_n 3, 1), (22, .aload_n 0, 1), (23, .getfield 30, 3), (26, .iconst 4, 1), (27, .iload_n 1, 1), (28, .imul, 1), (29, .iconst 3, 1), (30, .iadd, 1), (31, .iaload, 1), (32, .istore 4, 2), (34, .aload_n 0, 1), (35, .getfield 30, 3), (38, .iconst 4, 1), (39, .iload_n 1, 1), (40, .imul, 1), (41, .iaload, 1), (42, .tableswitch 126 5 11 #[42, 54, 63, 65, 83, 91, 116], 42), (84, .aload_n 0, 1), (85, .iload_n 2, 1), (86, .iload_n 3, 1), (87, .iload 4, 2), (89, .iconst 0, 1), (90, .invokevirtual 118, 3), (93, .goto 93, 3), (96, .aload_n 0, 1), (97, .iload_n 2, 1), (98, .iload_n 3, 1), (99, .invokevirtual 146, 3), (102, .goto 84, 3), (105, .iload_n 2, 1), (106, .ireturn, 1), (107, .aload_n 0, 1), (108, .iload_n 2, 1), (109, .invokevirtual 60, 3), (112, .lconst 0, 1), (113, .lcmp, 1), (114, .ifCond .ge 7, 3), (117, .iload_n 3, 1), (118, .goto 6, 3), (121, .iload_n 1, 1), (122, .iconst 1, 1), (123, .iadd, 1), (124, .ireturn, 1), (125, .aload_n 0, 1), (126, .iload_n 2, 1), (127, .putfield 150, 3), (130, .goto 56, 3), (133, .aload_n 0, 1), (134, .dup, 1), (135, .getfield 150, 3), (138, .iconst 1, 1), (139, .isub, 1), (140, .putfield 150, 3), (143, .aload_n 0, 1), (144, .getfield 150, 3), (147, .ifCond .eq 7, 3), (150, .iload_n 2, 1), (151, .goto 6, 3), (154, .iload_n 1, 1), (155, .iconst 1, 1), (156, .iadd, 1), (157, .ireturn, 1), (158, .aload_n 0, 1), (159, .iload_n 2, 1), (160, .iload_n 3, 1), (161, .i2l, 1), (162, .invokevirtual 76, 3), (165, .goto 21, 3), (168, .aload_n 0, 1), (169, .aload_n 0, 1), (170, .getfield 30, 3), (173, .iconst 4, 1), (174, .iload_n 1, 1), (175, .imul, 1), (176, .iaload, 1), (177, .iconst 1, 1), (178, .isub, 1), (179, .iload_n 2, 1), (180, .iload_n 3, 1), (181, .iload 4, 2), (183, .invokevirtual 103, 3), (186, .iload_n 1, 1), (187, .iconst 1, 1), (188, .iadd, 1), (189, .ireturn, 1)]
theorem dmM_perform : tmM_perform.all (fun q => decide (decode (zg_cc mM_perform) q.1 = .ok q.2)) = true := by decide +kernel
def tmM_copy : List (Nat × Instr × Nat) := [(0, .iconst 0, 1), (1, .istore_n 3, 1), (2, .iload_n 3, 1), (3, .bipush 8, 2), (5, .if_icmp .ge 31, 3), (8, .aload_n 0, 1), (9, .getfield 13, 3), (12, .bipush 8, 2), (14, .iload_n 1, 1), (15, .imul, 1), (16, .iload_n 3, 1), (17, .iadd, 1), (18, .aload_n 0, 1), (19, .getfield 13, 3), (22, .bipush 8, 2), (24, .iload_n 2, 1), (25, .imul, 1), (26, .iload_n 3, 1), (27, .iadd, 1), (28, .iaload, 1), (29, .iastore, 1), (30, .iinc 3 1, 3), (33, .goto (-31), 3), (36, .aload_n 0, 1), (37, .getfield 16, 3), (40, .iload_n 1, 1), (41, .aload_n 0, 1), (42, .getfield 16, 3), (45, .iload_n 2, 1), (46, .laload, 1), (47, .lastore, 1), (48, .aload_n 0, 1), (49, .getfield 20, 3), (52, .iload_n 1, 1), (53, .aload_n 0, 1), (54, .getfield 20, 3), (57, .iload_n 2, 1), (58, .laload, 1), (59, .lastore, 1), (60, .aload_n 0, 1), (61, .getfield 23, 3), (64, .iload_n 1, 1), (65, .aload_n 0, 1), (66, .getfield 23, 3), (69, .iload_n 2, 1), (70, .baload, 1), (71, .bastore, 1), (72, .return_, 1)]
theorem dmM_copy : tmM_copy.all (fun q => decide (decode (zg_cc mM_copy) q.1 = .ok q.2)) = true := by decide +kernel
def tmM_stopped : List (Nat × Instr × Nat) := [(0, .aload_n 0, 1), (1, .iconst 0, 1), (2, .putfield 42, 3), (5, .aload_n 0, 1), (6, .getfield 155, 3), (9, .ireturn, 1)]
theorem dmM_stopped : tmM_stopped.all (fun q => decide (decode (zg_cc mM_stopped) q.1 = .ok q.2)) = true := by decide +kernel
end
section
def mL_load : zg_M := (⟨"ResidueUnitLaw", "load", "(LResidueUnit;IJ)I"⟩, method_3_code, 5, (some .int), [(0, 6, 9, 13), (0, 6, 13, 15)])
def mL_binary : zg_M := (⟨"ResidueUnitLaw", "binary", "(LResidueUnit;I[J)I"⟩, method_4_code, 4, (some .int), [(0, 8, 11, 13), (0, 8, 14, 21)])
def mL_work : zg_M := (⟨"ResidueUnitLaw", "work", "(LResidueUnit;IIII)I"⟩, method_5_code, 6, (some .int), [(0, 9, 12, 13), (0, 9, 16, 15)])
def mL_compare : zg_M := (⟨"ResidueUnitLaw", "compare", "(LResidueUnit;II[J)I"⟩, method_6_code, 5, (some .int), [(0, 10, 13, 13)])
def mL_scale : zg_M := (⟨"ResidueUnitLaw", "scale", "(LResidueUnit;IIIZ)I"⟩, method_7_code, 6, (some .int), [(0, 9, 12, 13), (0, 9, 16, 15)])
def mL_divide : zg_M := (⟨"ResidueUnitLaw", "divide", "(LResidueUnit;IIII)I"⟩, method_8_code, 6, (some .int), [(0, 9, 12, 13), (0, 9, 16, 38)])
def mL_channel : zg_M := (⟨"ResidueUnitLaw", "channel", "(LResidueUnit;II[J)I"⟩, method_9_code, 5, (some .int), [(0, 10, 13, 13)])
def mL_inject : zg_M := (⟨"ResidueUnitLaw", "inject", "(LResidueUnit;III[J)I"⟩, method_10_code, 6, (some .int), [(0, 12, 15, 13)])
def mL_verify : zg_M := (⟨"ResidueUnitLaw", "verify", "(LResidueUnit;I[J)I"⟩, method_11_code, 4, (some .int), [(0, 9, 12, 13)])
def mL_repair : zg_M := (⟨"ResidueUnitLaw", "repair", "(LResidueUnit;I[J)I"⟩, method_12_code, 4, (some .int), [(0, 9, 12, 13), (0, 9, 15, 21)])
def mL_sure : zg_M := (⟨"ResidueUnitLaw", "sure", "(LResidueUnit;I[J)I"⟩, method_13_code, 4, (some .int), [(0, 16, 19, 13)])
def mL_bound : zg_M := (⟨"ResidueUnitLaw", "bound", "(LResidueUnit;II[J)I"⟩, method_14_code, 5, (some .int), [(0, 9, 12, 13), (0, 9, 16, 15), (0, 9, 20, 21)])
def mL_instruct : zg_M := (⟨"ResidueUnitLaw", "instruct", "(LResidueUnit;IIIII)I"⟩, method_15_code, 7, (some .int), [(0, 11, 14, 13), (0, 11, 18, 15)])
def mL_run : zg_M := (⟨"ResidueUnitLaw", "run", "(LResidueUnit;I[J)I"⟩, method_16_code, 4, (some .int), [(0, 9, 12, 15)])
def mL_law : zg_M := (⟨"ResidueUnitLaw", "law", "([I)Z"⟩, code, 8, (some .boolean), [])
def tmL_load : List (Nat × Instr × Nat) := [(0, .aload_n 0, 1), (1, .iload_n 1, 1), (2, .lload_n 2, 1), (3, .invokevirtual 7, 3), (6, .goto 11, 3), (9, .astore 4, 2), (11, .iconst 1, 1), (12, .ireturn, 1), (13, .astore 4, 2), (15, .iconst 2, 1), (16, .ireturn, 1), (17, .iconst 0, 1), (18, .ireturn, 1)]
theorem dmL_load : tmL_load.all (fun q => decide (decode (zg_cc mL_load) q.1 = .ok q.2)) = true := by decide +kernel
def tmL_binary : List (Nat × Instr × Nat) := [(0, .aload_n 2, 1), (1, .iconst 0, 1), (2, .aload_n 0, 1), (3, .iload_n 1, 1), (4, .invokevirtual 17, 3), (7, .lastore, 1), (8, .goto 9, 3), (11, .astore_n 3, 1), (12, .iconst 1, 1), (13, .ireturn, 1), (14, .astore_n 3, 1), (15, .iconst 2, 1), (16, .ireturn, 1), (17, .iconst 0, 1), (18, .ireturn, 1)]
theorem dmL_binary : tmL_binary.all (fun q => decide (decode (zg_cc mL_binary) q.1 = .ok q.2)) = true := by decide +kernel
def tmL_work : List (Nat × Instr × Nat) := [(0, .aload_n 0, 1), (1, .iload_n 1, 1), (2, .iload_n 2, 1), (3, .iload_n 3, 1), (4, .iload 4, 2), (6, .invokevirtual 23, 3), (9, .goto 11, 3), (12, .astore 5, 2), (14, .iconst 1, 1), (15, .ireturn, 1), (16, .astore 5, 2), (18, .iconst 2, 1), (19, .ireturn, 1), (20, .iconst 0, 1), (21, .ireturn, 1)]
theorem dmL_work : tmL_work.all (fun q => decide (decode (zg_cc mL_work) q.1 = .ok q.2)) = true := by decide +kernel
def tmL_compare : List (Nat × Instr × Nat) := [(0, .aload_n 3, 1), (1, .iconst 0, 1), (2, .aload_n 0, 1), (3, .iload_n 1, 1), (4, .iload_n 2, 1), (5, .invokevirtual 27, 3), (8, .i2l, 1), (9, .lastore, 1), (10, .goto 7, 3), (13, .astore 4, 2), (15, .iconst 1, 1), (16, .ireturn, 1), (17, .iconst 0, 1), (18, .ireturn, 1)]
theorem dmL_compare : tmL_compare.all (fun q => decide (decode (zg_cc mL_compare) q.1 = .ok q.2)) = true := by decide +kernel
def tmL_scale : List (Nat × Instr × Nat) := [(0, .aload_n 0, 1), (1, .iload_n 1, 1), (2, .iload_n 2, 1), (3, .iload_n 3, 1), (4, .iload 4, 2), (6, .invokevirtual 31, 3), (9, .goto 11, 3), (12, .astore 5, 2), (14, .iconst 1, 1), (15, .ireturn, 1), (16, .astore 5, 2), (18, .iconst 2, 1), (19, .ireturn, 1), (20, .iconst 0, 1), (21, .ireturn, 1)]
theorem dmL_scale : tmL_scale.all (fun q => decide (decode (zg_cc mL_scale) q.1 = .ok q.2)) = true := by decide +kernel
def tmL_divide : List (Nat × Instr × Nat) := [(0, .aload_n 0, 1), (1, .iload_n 1, 1), (2, .iload_n 2, 1), (3, .iload_n 3, 1), (4, .iload 4, 2), (6, .invokevirtual 35, 3), (9, .goto 11, 3), (12, .astore 5, 2), (14, .iconst 1, 1), (15, .ireturn, 1), (16, .astore 5, 2), (18, .iconst 2, 1), (19, .ireturn, 1), (20, .iconst 0, 1), (21, .ireturn, 1)]
theorem dmL_divide : tmL_divide.all (fun q => decide (decode (zg_cc mL_divide) q.1 = .ok q.2)) = true := by decide +kernel
def tmL_channel : List (Nat × Instr × Nat) := [(0, .aload_n 3, 1), (1, .iconst 0, 1), (2, .aload_n 0, 1), (3, .iload_n 1, 1), (4, .iload_n 2, 1), (5, .invokevirtual 40, 3), (8, .i2l, 1), (9, .lastore, 1), (10, .goto 7, 3), (13, .astore 4, 2), (15, .iconst 1, 1), (16, .ireturn, 1), (17, .iconst 0, 1), (18, .ireturn, 1)]
theorem dmL_channel : tmL_channel.all (fun q => decide (decode (zg_cc mL_channel) q.1 = .ok q.2)) = true := by decide +kernel
def tmL_inject : List (Nat × Instr × Nat) := [(0, .aload 4, 2), (2, .iconst 0, 1), (3, .aload_n 0, 1), (4, .iload_n 1, 1), (5, .iload_n 2, 1), (6, .iload_n 3, 1), (7, .invokevirtual 43, 3), (10, .i2l, 1), (11, .lastore, 1), (12, .goto 7, 3), (15, .astore 5, 2), (17, .iconst 1, 1), (18, .ireturn, 1), (19, .iconst 0, 1), (20, .ireturn, 1)]
theorem dmL_inject : tmL_inject.all (fun q => decide (decode (zg_cc mL_inject) q.1 = .ok q.2)) = true := by decide +kernel
def tmL_verify : List (Nat × Instr × Nat) := [(0, .aload_n 2, 1), (1, .iconst 0, 1), (2, .aload_n 0, 1), (3, .iload_n 1, 1), (4, .invokevirtual 47, 3), (7, .i2l, 1), (8, .lastore, 1), (9, .goto 6, 3), (12, .astore_n 3, 1), (13, .iconst 1, 1), (14, .ireturn, 1), (15, .iconst 0, 1), (16, .ireturn, 1)]
theorem dmL_verify : tmL_verify.all (fun q => decide (decode (zg_cc mL_verify) q.1 = .ok q.2)) = true := by decide +kernel
def tmL_repair : List (Nat × Instr × Nat) := [(0, .aload_n 2, 1), (1, .iconst 0, 1), (2, .aload_n 0, 1), (3, .iload_n 1, 1), (4, .invokevirtual 51, 3), (7, .i2l, 1), (8, .lastore, 1), (9, .goto 9, 3), (12, .astore_n 3, 1), (13, .iconst 1, 1), (14, .ireturn, 1), (15, .astore_n 3, 1), (16, .iconst 2, 1), (17, .ireturn, 1), (18, .iconst 0, 1), (19, .ireturn, 1)]
theorem dmL_repair : tmL_repair.all (fun q => decide (decode (zg_cc mL_repair) q.1 = .ok q.2)) = true := by decide +kernel
def tmL_sure : List (Nat × Instr × Nat) := [(0, .aload_n 2, 1), (1, .iconst 0, 1), (2, .aload_n 0, 1), (3, .iload_n 1, 1), (4, .invokevirtual 54, 3), (7, .ifCond .eq 7, 3), (10, .lconst 1, 1), (11, .goto 4, 3), (14, .lconst 0, 1), (15, .lastore, 1), (16, .goto 6, 3), (19, .astore_n 3, 1), (20, .iconst 1, 1), (21, .ireturn, 1), (22, .iconst 0, 1), (23, .ireturn, 1)]
theorem dmL_sure : tmL_sure.all (fun q => decide (decode (zg_cc mL_sure) q.1 = .ok q.2)) = true := by decide +kernel
def tmL_bound : List (Nat × Instr × Nat) := [(0, .aload_n 3, 1), (1, .iconst 0, 1), (2, .aload_n 0, 1), (3, .iload_n 1, 1), (4, .iload_n 2, 1), (5, .invokevirtual 58, 3), (8, .lastore, 1), (9, .goto 15, 3), (12, .astore 4, 2), (14, .iconst 1, 1), (15, .ireturn, 1), (16, .astore 4, 2), (18, .iconst 2, 1), (19, .ireturn, 1), (20, .astore 4, 2), (22, .iconst 3, 1), (23, .ireturn, 1), (24, .iconst 0, 1), (25, .ireturn, 1)]
theorem dmL_bound : tmL_bound.all (fun q => decide (decode (zg_cc mL_bound) q.1 = .ok q.2)) = true := by decide +kernel
def tmL_instruct : List (Nat × Instr × Nat) := [(0, .aload_n 0, 1), (1, .iload_n 1, 1), (2, .iload_n 2, 1), (3, .iload_n 3, 1), (4, .iload 4, 2), (6, .iload 5, 2), (8, .invokevirtual 62, 3), (11, .goto 11, 3), (14, .astore 6, 2), (16, .iconst 1, 1), (17, .ireturn, 1), (18, .astore 6, 2), (20, .iconst 2, 1), (21, .ireturn, 1), (22, .iconst 0, 1), (23, .ireturn, 1)]
theorem dmL_instruct : tmL_instruct.all (fun q => decide (decode (zg_cc mL_instruct) q.1 = .ok q.2)) = true := by decide +kernel
def tmL_run : List (Nat × Instr × Nat) := [(0, .aload_n 2, 1), (1, .iconst 0, 1), (2, .aload_n 0, 1), (3, .iload_n 1, 1), (4, .invokevirtual 66, 3), (7, .i2l, 1), (8, .lastore, 1), (9, .goto 6, 3), (12, .astore_n 3, 1), (13, .iconst 1, 1), (14, .ireturn, 1), (15, .iconst 0, 1), (16, .ireturn, 1)]
theorem dmL_run : tmL_run.all (fun q => decide (decode (zg_cc mL_run) q.1 = .ok q.2)) = true := by decide +kernel
end
section
/-! numbers: longs and ints that are integers; the residue number system of the document -/
def mz_L (a : Int) : Int64 := Int64.ofInt a
theorem mz_add (a b : Int) : mz_L a + mz_L b = mz_L (a + b) := (Int64.ofInt_add a b).symm
theorem mz_sub (a b : Int) : mz_L a - mz_L b = mz_L (a - b) := (Int64.ofInt_sub a b).symm
theorem mz_mul (a b : Int) : mz_L a * mz_L b = mz_L (a * b) := (Int64.ofInt_mul a b).symm
theorem mz_neg (a : Int) : -mz_L a = mz_L (-a) := (Int64.ofInt_neg a).symm
theorem mz_int {a : Int} (h1 : -9223372036854775808 ≤ a) (h2 : a < 9223372036854775808) : (mz_L a).toInt = a := by
  have h : (2 : Int) ^ 63 = 9223372036854775808 := by decide
  exact Int64.toInt_ofInt_of_le (by omega) (by omega)
def mz_in (a : Int) : Prop := -4000000000000000000 ≤ a ∧ a ≤ 4000000000000000000
theorem mz_inI {a : Int} (h : mz_in a) : (mz_L a).toInt = a := mz_int (by have := h.1; omega) (by have := h.2; omega)
theorem mz_lt {a b : Int} (ha : mz_in a) (hb : mz_in b) : mz_L a < mz_L b ↔ a < b := by rw [Int64.lt_iff_toInt_lt, mz_inI ha, mz_inI hb]
theorem mz_le {a b : Int} (ha : mz_in a) (hb : mz_in b) : mz_L a ≤ mz_L b ↔ a ≤ b := by rw [Int64.le_iff_toInt_le, mz_inI ha, mz_inI hb]
theorem mz_eq {a b : Int} (ha : mz_in a) (hb : mz_in b) : mz_L a = mz_L b ↔ a = b := by rw [← Int64.toInt_inj, mz_inI ha, mz_inI hb]
theorem mz_cmp {a b : Int} (ha : mz_in a) (hb : mz_in b) : lg_cmp (mz_L a) (mz_L b) = if b < a then 1 else if a = b then 0 else -1 := by
  unfold lg_cmp
  simp only [gt_iff_lt, mz_lt hb ha, mz_eq ha hb]
theorem mz_tdiv_in {a : Int} (b : Int) (ha : mz_in a) : mz_in (a.tdiv b) := by
  have h := Int.natAbs_tdiv_le_natAbs a b
  have h1 := ha.1
  have h2 := ha.2
  unfold mz_in
  omega
theorem mz_div {a b : Int} (ha : mz_in a) (hb : mz_in b) : mz_L a / mz_L b = mz_L (a.tdiv b) := by
  apply Int64.toInt_inj.1
  rw [Int64.toInt_div_of_ne_left, mz_inI ha, mz_inI hb, mz_inI (mz_tdiv_in b ha)]
  intro h
  have h2 := congrArg Int64.toInt h
  rw [mz_inI ha] at h2
  have h3 : Int64.minValue.toInt = -9223372036854775808 := by decide
  have := ha.1
  omega
theorem mz_rem {a b : Int} (ha : mz_in a) (hb : mz_in b) : mz_L a - mz_L a / mz_L b * mz_L b = mz_L (a.tmod b) := by
  rw [mz_div ha hb, mz_mul, mz_sub, Int.tmod_def, Int.mul_comm]
theorem mz_i2l {n : Nat} (h : n < 2 ^ 31) : (nI n).toInt64 = mz_L (n : Int) := by rw [nI_l h]; exact Int64.ofInt_eq_ofNat.symm
theorem mz_l2i (n : Nat) : (mz_L (n : Int)).toInt32 = nI n := by
  unfold mz_L nI
  rw [Int64.toInt32_ofInt, Int32.ofInt_eq_ofNat]
theorem mz_sign (x : Int64) : x < 0 ↔ x.toBitVec.msb = true := by
  rw [Int64.lt_iff_toInt_lt]
  show x.toBitVec.toInt < (0 : Int64).toInt ↔ _
  rw [show (0 : Int64).toInt = 0 from rfl, BitVec.toInt_neg_iff, BitVec.msb_eq_decide, decide_eq_true_eq]
  omega
theorem mz_xor (x y : Int64) : (x ^^^ y) < 0 ↔ ((x < 0) ↔ ¬ (y < 0)) := by
  rw [mz_sign, mz_sign, mz_sign, Int64.toBitVec_xor, BitVec.msb_xor]
  cases x.toBitVec.msb <;> cases y.toBitVec.msb <;> simp
theorem mz_fmod {a b : Int} (hb : 0 < b) : (if a.tmod b < 0 then a.tmod b + b else a.tmod b) = a % b := by
  have h1 := Int.emod_nonneg a (show b ≠ 0 by omega)
  have h2 := Int.emod_lt_of_pos a hb
  rw [Int.tmod_eq_emod]
  split <;> split <;> omega
def mz_m (k : Nat) : Nat := match k with
  | 0 => 251
  | 1 => 241
  | 2 => 239
  | 3 => 233
  | 4 => 229
  | 5 => 227
  | 6 => 256
  | _ => 255
def mz_w (k : Nat) : Nat := match k with
  | 0 => 35579708052411
  | 1 => 51587826637541
  | 2 => 114296418779244
  | 3 => 174356438551544
  | 4 => 16822600211098
  | _ => 132680932541996
def mz_iv (k : Nat) : Nat := match k with
  | 0 => 233
  | 1 => 187
  | 2 => 229
  | 3 => 99
  | 4 => 183
  | _ => 225
theorem mz_m_lt : ∀ k, mz_m k ≤ 256 ∧ 0 < mz_m k := by
  intro k
  unfold mz_m
  split <;> decide
def mz_sum (ρ : Nat → Nat) : Nat → Nat
  | 0 => 0
  | n + 1 => mz_sum ρ n + ρ n * mz_w n
def mz_V (a b c d e f : Nat) : Int := if (((a * 35579708052411 + b * 51587826637541 + c * 114296418779244 + d * 174356438551544 + e * 16822600211098 + f * 132680932541996) % 175107974924611 : Nat) : Int) > 87553987462305 then (((a * 35579708052411 + b * 51587826637541 + c * 114296418779244 + d * 174356438551544 + e * 16822600211098 + f * 132680932541996) % 175107974924611 : Nat) : Int) - 175107974924611 else (((a * 35579708052411 + b * 51587826637541 + c * 114296418779244 + d * 174356438551544 + e * 16822600211098 + f * 132680932541996) % 175107974924611 : Nat) : Int)
def mz_val (ρ : Nat → Nat) : Int := mz_V (ρ 0) (ρ 1) (ρ 2) (ρ 3) (ρ 4) (ρ 5)
theorem mz_val_sum (ρ : Nat → Nat) : mz_val ρ = if ((mz_sum ρ 6 % 175107974924611 : Nat) : Int) > 87553987462305 then ((mz_sum ρ 6 % 175107974924611 : Nat) : Int) - 175107974924611 else ((mz_sum ρ 6 % 175107974924611 : Nat) : Int) := by
  simp only [mz_val, mz_V, mz_sum, mz_w, Nat.zero_add]
theorem mz_V_in (a b c d e f : Nat) : -87553987462305 ≤ mz_V a b c d e f ∧ mz_V a b c d e f ≤ 87553987462305 := by
  unfold mz_V
  split <;> omega
theorem mz_exg {V X N z t st h : Int} (hX : X = V + st * z) (hN : N = ((V + h) % st - h) + t * st) : X = N + st * ((V + h) / st + z - t) := by
  have e := Int.emod_add_mul_ediv (V + h) st
  rw [Int.mul_sub, Int.mul_add, hX, hN, Int.mul_comm t st]
  omega
theorem mz_V_m0 {a b c d e f : Nat} (h : a < 251) : mz_V a b c d e f % 251 = a := by
  unfold mz_V
  split <;> omega
theorem mz_V_m1 {a b c d e f : Nat} (h : b < 241) : mz_V a b c d e f % 241 = b := by
  unfold mz_V
  split <;> omega
theorem mz_V_m2 {a b c d e f : Nat} (h : c < 239) : mz_V a b c d e f % 239 = c := by
  unfold mz_V
  split <;> omega
theorem mz_V_m3 {a b c d e f : Nat} (h : d < 233) : mz_V a b c d e f % 233 = d := by
  unfold mz_V
  split <;> omega
theorem mz_V_m4 {a b c d e f : Nat} (h : e < 229) : mz_V a b c d e f % 229 = e := by
  unfold mz_V
  split <;> omega
theorem mz_V_m5 {a b c d e f : Nat} (h : f < 227) : mz_V a b c d e f % 227 = f := by
  unfold mz_V
  split <;> omega
end
section
theorem mz_V_s0 (a b c d e f v : Nat) : ∃ z : Int, mz_V v b c d e f = mz_V a b c d e f + 697641334361 * z := by
  obtain ⟨p, hp⟩ : ∃ p, p = a * 35579708052411 + b * 51587826637541 + c * 114296418779244 + d * 174356438551544 + e * 16822600211098 + f * 132680932541996 := ⟨_, rfl⟩
  obtain ⟨q, hq⟩ : ∃ q, q = v * 35579708052411 + b * 51587826637541 + c * 114296418779244 + d * 174356438551544 + e * 16822600211098 + f * 132680932541996 := ⟨_, rfl⟩
  unfold mz_V
  rw [← hp, ← hq]
  have hpq : (q : Int) = p + 697641334361 * (51 * ((v : Int) - a)) := by omega
  have h1 : ((p % 175107974924611 : Nat) : Int) = p - 175107974924611 * (p / 175107974924611 : Nat) := by omega
  have h2 : ((q % 175107974924611 : Nat) : Int) = q - 175107974924611 * (q / 175107974924611 : Nat) := by omega
  rw [h1, h2]
  split <;> split
  · exact ⟨51 * ((v : Int) - a) - 251 * (q / 175107974924611 : Nat) + 251 * (p / 175107974924611 : Nat), by omega⟩
  · exact ⟨51 * ((v : Int) - a) - 251 * (q / 175107974924611 : Nat) + 251 * (p / 175107974924611 : Nat) - 251, by omega⟩
  · exact ⟨51 * ((v : Int) - a) - 251 * (q / 175107974924611 : Nat) + 251 * (p / 175107974924611 : Nat) + 251, by omega⟩
  · exact ⟨51 * ((v : Int) - a) - 251 * (q / 175107974924611 : Nat) + 251 * (p / 175107974924611 : Nat), by omega⟩
theorem mz_V_s1 (a b c d e f v : Nat) : ∃ z : Int, mz_V a v c d e f = mz_V a b c d e f + 726589107571 * z := by
  obtain ⟨p, hp⟩ : ∃ p, p = a * 35579708052411 + b * 51587826637541 + c * 114296418779244 + d * 174356438551544 + e * 16822600211098 + f * 132680932541996 := ⟨_, rfl⟩
  obtain ⟨q, hq⟩ : ∃ q, q = a * 35579708052411 + v * 51587826637541 + c * 114296418779244 + d * 174356438551544 + e * 16822600211098 + f * 132680932541996 := ⟨_, rfl⟩
  unfold mz_V
  rw [← hp, ← hq]
  have hpq : (q : Int) = p + 726589107571 * (71 * ((v : Int) - b)) := by omega
  have h1 : ((p % 175107974924611 : Nat) : Int) = p - 175107974924611 * (p / 175107974924611 : Nat) := by omega
  have h2 : ((q % 175107974924611 : Nat) : Int) = q - 175107974924611 * (q / 175107974924611 : Nat) := by omega
  rw [h1, h2]
  split <;> split
  · exact ⟨71 * ((v : Int) - b) - 241 * (q / 175107974924611 : Nat) + 241 * (p / 175107974924611 : Nat), by omega⟩
  · exact ⟨71 * ((v : Int) - b) - 241 * (q / 175107974924611 : Nat) + 241 * (p / 175107974924611 : Nat) - 241, by omega⟩
  · exact ⟨71 * ((v : Int) - b) - 241 * (q / 175107974924611 : Nat) + 241 * (p / 175107974924611 : Nat) + 241, by omega⟩
  · exact ⟨71 * ((v : Int) - b) - 241 * (q / 175107974924611 : Nat) + 241 * (p / 175107974924611 : Nat), by omega⟩
theorem mz_V_s2 (a b c d e f v : Nat) : ∃ z : Int, mz_V a b v d e f = mz_V a b c d e f + 732669351149 * z := by
  obtain ⟨p, hp⟩ : ∃ p, p = a * 35579708052411 + b * 51587826637541 + c * 114296418779244 + d * 174356438551544 + e * 16822600211098 + f * 132680932541996 := ⟨_, rfl⟩
  obtain ⟨q, hq⟩ : ∃ q, q = a * 35579708052411 + b * 51587826637541 + v * 114296418779244 + d * 174356438551544 + e * 16822600211098 + f * 132680932541996 := ⟨_, rfl⟩
  unfold mz_V
  rw [← hp, ← hq]
  have hpq : (q : Int) = p + 732669351149 * (156 * ((v : Int) - c)) := by omega
  have h1 : ((p % 175107974924611 : Nat) : Int) = p - 175107974924611 * (p / 175107974924611 : Nat) := by omega
  have h2 : ((q % 175107974924611 : Nat) : Int) = q - 175107974924611 * (q / 175107974924611 : Nat) := by omega
  rw [h1, h2]
  split <;> split
  · exact ⟨156 * ((v : Int) - c) - 239 * (q / 175107974924611 : Nat) + 239 * (p / 175107974924611 : Nat), by omega⟩
  · exact ⟨156 * ((v : Int) - c) - 239 * (q / 175107974924611 : Nat) + 239 * (p / 175107974924611 : Nat) - 239, by omega⟩
  · exact ⟨156 * ((v : Int) - c) - 239 * (q / 175107974924611 : Nat) + 239 * (p / 175107974924611 : Nat) + 239, by omega⟩
  · exact ⟨156 * ((v : Int) - c) - 239 * (q / 175107974924611 : Nat) + 239 * (p / 175107974924611 : Nat), by omega⟩
theorem mz_V_s3 (a b c d e f v : Nat) : ∃ z : Int, mz_V a b c v e f = mz_V a b c d e f + 751536373067 * z := by
  obtain ⟨p, hp⟩ : ∃ p, p = a * 35579708052411 + b * 51587826637541 + c * 114296418779244 + d * 174356438551544 + e * 16822600211098 + f * 132680932541996 := ⟨_, rfl⟩
  obtain ⟨q, hq⟩ : ∃ q, q = a * 35579708052411 + b * 51587826637541 + c * 114296418779244 + v * 174356438551544 + e * 16822600211098 + f * 132680932541996 := ⟨_, rfl⟩
  unfold mz_V
  rw [← hp, ← hq]
  have hpq : (q : Int) = p + 751536373067 * (232 * ((v : Int) - d)) := by omega
  have h1 : ((p % 175107974924611 : Nat) : Int) = p - 175107974924611 * (p / 175107974924611 : Nat) := by omega
  have h2 : ((q % 175107974924611 : Nat) : Int) = q - 175107974924611 * (q / 175107974924611 : Nat) := by omega
  rw [h1, h2]
  split <;> split
  · exact ⟨232 * ((v : Int) - d) - 233 * (q / 175107974924611 : Nat) + 233 * (p / 175107974924611 : Nat), by omega⟩
  · exact ⟨232 * ((v : Int) - d) - 233 * (q / 175107974924611 : Nat) + 233 * (p / 175107974924611 : Nat) - 233, by omega⟩
  · exact ⟨232 * ((v : Int) - d) - 233 * (q / 175107974924611 : Nat) + 233 * (p / 175107974924611 : Nat) + 233, by omega⟩
  · exact ⟨232 * ((v : Int) - d) - 233 * (q / 175107974924611 : Nat) + 233 * (p / 175107974924611 : Nat), by omega⟩
theorem mz_V_s4 (a b c d e f v : Nat) : ∃ z : Int, mz_V a b c d v f = mz_V a b c d e f + 764663645959 * z := by
  obtain ⟨p, hp⟩ : ∃ p, p = a * 35579708052411 + b * 51587826637541 + c * 114296418779244 + d * 174356438551544 + e * 16822600211098 + f * 132680932541996 := ⟨_, rfl⟩
  obtain ⟨q, hq⟩ : ∃ q, q = a * 35579708052411 + b * 51587826637541 + c * 114296418779244 + d * 174356438551544 + v * 16822600211098 + f * 132680932541996 := ⟨_, rfl⟩
  unfold mz_V
  rw [← hp, ← hq]
  have hpq : (q : Int) = p + 764663645959 * (22 * ((v : Int) - e)) := by omega
  have h1 : ((p % 175107974924611 : Nat) : Int) = p - 175107974924611 * (p / 175107974924611 : Nat) := by omega
  have h2 : ((q % 175107974924611 : Nat) : Int) = q - 175107974924611 * (q / 175107974924611 : Nat) := by omega
  rw [h1, h2]
  split <;> split
  · exact ⟨22 * ((v : Int) - e) - 229 * (q / 175107974924611 : Nat) + 229 * (p / 175107974924611 : Nat), by omega⟩
  · exact ⟨22 * ((v : Int) - e) - 229 * (q / 175107974924611 : Nat) + 229 * (p / 175107974924611 : Nat) - 229, by omega⟩
  · exact ⟨22 * ((v : Int) - e) - 229 * (q / 175107974924611 : Nat) + 229 * (p / 175107974924611 : Nat) + 229, by omega⟩
  · exact ⟨22 * ((v : Int) - e) - 229 * (q / 175107974924611 : Nat) + 229 * (p / 175107974924611 : Nat), by omega⟩
theorem mz_V_s5 (a b c d e f v : Nat) : ∃ z : Int, mz_V a b c d e v = mz_V a b c d e f + 771400770593 * z := by
  obtain ⟨p, hp⟩ : ∃ p, p = a * 35579708052411 + b * 51587826637541 + c * 114296418779244 + d * 174356438551544 + e * 16822600211098 + f * 132680932541996 := ⟨_, rfl⟩
  obtain ⟨q, hq⟩ : ∃ q, q = a * 35579708052411 + b * 51587826637541 + c * 114296418779244 + d * 174356438551544 + e * 16822600211098 + v * 132680932541996 := ⟨_, rfl⟩
  unfold mz_V
  rw [← hp, ← hq]
  have hpq : (q : Int) = p + 771400770593 * (172 * ((v : Int) - f)) := by omega
  have h1 : ((p % 175107974924611 : Nat) : Int) = p - 175107974924611 * (p / 175107974924611 : Nat) := by omega
  have h2 : ((q % 175107974924611 : Nat) : Int) = q - 175107974924611 * (q / 175107974924611 : Nat) := by omega
  rw [h1, h2]
  split <;> split
  · exact ⟨172 * ((v : Int) - f) - 227 * (q / 175107974924611 : Nat) + 227 * (p / 175107974924611 : Nat), by omega⟩
  · exact ⟨172 * ((v : Int) - f) - 227 * (q / 175107974924611 : Nat) + 227 * (p / 175107974924611 : Nat) - 227, by omega⟩
  · exact ⟨172 * ((v : Int) - f) - 227 * (q / 175107974924611 : Nat) + 227 * (p / 175107974924611 : Nat) + 227, by omega⟩
  · exact ⟨172 * ((v : Int) - f) - 227 * (q / 175107974924611 : Nat) + 227 * (p / 175107974924611 : Nat), by omega⟩
end
section
abbrev zc_U : Nat := 0
abbrev zc_R : Nat := 1
abbrev zc_I : Nat := 2
abbrev zc_M : Nat := 3
/-! The state of the class and of the reference, as numbers; the heap that holds it. B: the first cell of ours; the unit at B, its arrays at B + 1 and B + 2, register i at B + 3 + 2 i with its residues behind it, instruction i at B + 35 + i; the reference at B + 67, its arrays behind it, the law's own array at B + 75. -/
abbrev zs_S : Type := Int32 × Int32 × (Nat → Nat → Nat) × (Nat → Int) × (Nat → Bool) × (Nat → Nat → Int32)
/-- the reference keeps both ends of an interval: the low ones in the state, the high ones beside it -/
abbrev zs_S2 : Type := zs_S × (Nat → Int)
abbrev zs_cn (S : zs_S) : Int32 := S.1
abbrev zs_sr (S : zs_S) : Int32 := S.2.1
abbrev zs_re (S : zs_S) : Nat → Nat → Nat := S.2.2.1
abbrev zs_ex (S : zs_S) : Nat → Int := S.2.2.2.1
abbrev zs_su (S : zs_S) : Nat → Bool := S.2.2.2.2.1
abbrev zs_pg (S : zs_S) : Nat → Nat → Int32 := S.2.2.2.2.2
def zs_bi (b : Bool) : Int32 := if b = true then 1 else 0
def zs_rf (n : Nat) (g : Nat → Nat) : Nat → Option Nat := fun i => if i < n then some (g i) else none
def zs_uc (ca : Nat → ClassId) (B : Nat) (S : zs_S) (n : Nat) : Option va_E :=
  if n = 0 then some (.inr (zc_U, [.ref (B + 1), .ref (B + 2), .int (zs_cn S), .int (zs_sr S)]))
  else if n = 1 then some (.inl (ca 3, 16, .inr (.inr (.inr (.inr (zs_rf 16 (fun i => B + 3 + 2 * i)))))))
  else if n = 2 then some (.inl (ca 4, 32, .inr (.inr (.inr (.inr (zs_rf 32 (fun i => B + 35 + i)))))))
  else if n < 35 then (if n % 2 = 1 then some (.inr (zc_R, [.ref (B + n + 1), .long (mz_L (zs_ex S ((n - 3) / 2))), .int (zs_bi (zs_su S ((n - 3) / 2)))])) else some (.inl (ca 0, 8, .inl (fun j => nI (zs_re S ((n - 4) / 2) j)))))
  else some (.inr (zc_I, [.int (zs_pg S (n - 35) 0), .int (zs_pg S (n - 35) 1), .int (zs_pg S (n - 35) 2), .int (zs_pg S (n - 35) 3)]))
def zs_mo : Nat → Int32 := fun j => if j < 8 then nI (mz_m j) else 0
def zs_un : Nat → Int64 := fun j => if j < 6 then mz_L (mz_w j : Int) else 0
def zs_mc (ca : Nat → ClassId) (B : Nat) (th : Int32) (S2 : zs_S2) (o : Int64) (n : Nat) : Option va_E :=
  if n = 0 then some (.inr (zc_M, [.int th, .ref (B + 68), .ref (B + 69), .ref (B + 70), .ref (B + 71), .ref (B + 72), .ref (B + 73), .long (mz_L 175107974924611), .long (mz_L 87553987462305), .ref (B + 74), .int (zs_cn S2.1), .int (zs_sr S2.1)]))
  else if n = 1 then some (.inl (ca 0, 8, .inl zs_mo))
  else if n = 2 then some (.inl (ca 0, 128, .inl (fun j => nI (zs_re S2.1 (j / 8) (j % 8)))))
  else if n = 3 then some (.inl (ca 1, 16, .inr (.inl (fun j => mz_L (zs_ex S2.1 j)))))
  else if n = 4 then some (.inl (ca 1, 16, .inr (.inl (fun j => mz_L (S2.2 j)))))
  else if n = 5 then some (.inl (ca 2, 16, .inl (fun j => zs_bi (zs_su S2.1 j))))
  else if n = 6 then some (.inl (ca 1, 6, .inr (.inl zs_un)))
  else if n = 7 then some (.inl (ca 0, 128, .inl (fun j => zs_pg S2.1 (j / 4) (j % 4))))
  else if n = 8 then some (.inl (ca 1, 1, .inr (.inl (fun j => if j = 0 then o else 0))))
  else none
def zs_hp (ca : Nat → ClassId) (B : Nat) (S : zs_S) (th : Int32) (S2 : zs_S2) (o : Int64) : Nat → Option va_E := fun a =>
  if a < B then none else if a - B < 67 then zs_uc ca B S (a - B) else zs_mc ca B th S2 o (a - B - 67)
section ZS1
variable {ca : Nat → ClassId} {B : Nat} {S : zs_S} {S2 : zs_S2} {th : Int32} {o : Int64}
theorem zs_at_u {n : Nat} (h : n < 67) : zs_hp ca B S th S2 o (B + n) = zs_uc ca B S n := by
  unfold zs_hp
  rw [if_neg (by omega), show B + n - B = n by omega, if_pos h]
theorem zs_at_m (n : Nat) : zs_hp ca B S th S2 o (B + 67 + n) = zs_mc ca B th S2 o n := by
  unfold zs_hp
  rw [if_neg (by omega), show B + 67 + n - B = 67 + n by omega, if_neg (by omega), show 67 + n - 67 = n by omega]
theorem zs_0 : zs_hp ca B S th S2 o B = some (.inr (zc_U, [.ref (B + 1), .ref (B + 2), .int (zs_cn S), .int (zs_sr S)])) := zs_at_u (n := 0) (by omega)
theorem zs_1 : zs_hp ca B S th S2 o (B + 1) = some (.inl (ca 3, 16, .inr (.inr (.inr (.inr (zs_rf 16 (fun i => B + 3 + 2 * i))))))) := zs_at_u (n := 1) (by omega)
theorem zs_2 : zs_hp ca B S th S2 o (B + 2) = some (.inl (ca 4, 32, .inr (.inr (.inr (.inr (zs_rf 32 (fun i => B + 35 + i))))))) := zs_at_u (n := 2) (by omega)
theorem zs_reg {i : Nat} (h : i < 16) : zs_hp ca B S th S2 o (B + 3 + 2 * i) = some (.inr (zc_R, [.ref (B + 4 + 2 * i), .long (mz_L (zs_ex S i)), .int (zs_bi (zs_su S i))])) := by
  rw [show B + 3 + 2 * i = B + (3 + 2 * i) by omega, zs_at_u (by omega)]
  unfold zs_uc
  rw [if_neg (by omega), if_neg (by omega), if_neg (by omega), if_pos (by omega), if_pos (by omega), show (3 + 2 * i - 3) / 2 = i by omega, show B + (3 + 2 * i) + 1 = B + 4 + 2 * i by omega]
theorem zs_res {i : Nat} (h : i < 16) : zs_hp ca B S th S2 o (B + 4 + 2 * i) = some (.inl (ca 0, 8, .inl (fun j => nI (zs_re S i j)))) := by
  rw [show B + 4 + 2 * i = B + (4 + 2 * i) by omega, zs_at_u (by omega)]
  unfold zs_uc
  rw [if_neg (by omega), if_neg (by omega), if_neg (by omega), if_pos (by omega), if_neg (by omega), show (4 + 2 * i - 4) / 2 = i by omega]
theorem zs_ins {i : Nat} (h : i < 32) : zs_hp ca B S th S2 o (B + 35 + i) = some (.inr (zc_I, [.int (zs_pg S i 0), .int (zs_pg S i 1), .int (zs_pg S i 2), .int (zs_pg S i 3)])) := by
  rw [show B + 35 + i = B + (35 + i) by omega, zs_at_u (by omega)]
  unfold zs_uc
  rw [if_neg (by omega), if_neg (by omega), if_neg (by omega), if_neg (by omega), show 35 + i - 35 = i by omega]
theorem zs_m0 : zs_hp ca B S th S2 o (B + 67) = some (.inr (zc_M, [.int th, .ref (B + 68), .ref (B + 69), .ref (B + 70), .ref (B + 71), .ref (B + 72), .ref (B + 73), .long (mz_L 175107974924611), .long (mz_L 87553987462305), .ref (B + 74), .int (zs_cn S2.1), .int (zs_sr S2.1)])) := zs_at_m 0
theorem zs_m1 : zs_hp ca B S th S2 o (B + 68) = some (.inl (ca 0, 8, .inl zs_mo)) := zs_at_m 1
theorem zs_m2 : zs_hp ca B S th S2 o (B + 69) = some (.inl (ca 0, 128, .inl (fun j => nI (zs_re S2.1 (j / 8) (j % 8))))) := zs_at_m 2
theorem zs_m3 : zs_hp ca B S th S2 o (B + 70) = some (.inl (ca 1, 16, .inr (.inl (fun j => mz_L (zs_ex S2.1 j))))) := zs_at_m 3
theorem zs_m4 : zs_hp ca B S th S2 o (B + 71) = some (.inl (ca 1, 16, .inr (.inl (fun j => mz_L (S2.2 j))))) := zs_at_m 4
theorem zs_m5 : zs_hp ca B S th S2 o (B + 72) = some (.inl (ca 2, 16, .inl (fun j => zs_bi (zs_su S2.1 j)))) := zs_at_m 5
theorem zs_m6 : zs_hp ca B S th S2 o (B + 73) = some (.inl (ca 1, 6, .inr (.inl zs_un))) := zs_at_m 6
theorem zs_m7 : zs_hp ca B S th S2 o (B + 74) = some (.inl (ca 0, 128, .inl (fun j => zs_pg S2.1 (j / 4) (j % 4)))) := zs_at_m 7
theorem zs_m8 : zs_hp ca B S th S2 o (B + 75) = some (.inl (ca 1, 1, .inr (.inl (fun j => if j = 0 then o else 0)))) := zs_at_m 8
/-- another content at one place of the heap -/
theorem zs_put {f g : Nat → Option va_E} {w : Nat × Nat} {a : Nat} {e : va_E} (h1 : g a = some e) (h2 : ∀ q, q ≠ a → g q = f q) : zg_up (f, w) a e = (g, w) := by
  unfold zg_up
  refine Prod.ext ?_ rfl
  funext q
  show (if q = a then some e else f q) = g q
  by_cases hq : q = a
  · subst hq; rw [if_pos rfl, h1]
  · rw [if_neg hq, h2 q hq]
theorem zs_oth {f1 f2 : Nat → Option va_E} {n : Nat} (h : ∀ k, k ≠ n → f1 k = f2 k) (q : Nat) (hB : ¬ q < B) (hq : q ≠ B + n) : f1 (q - B) = f2 (q - B) := h _ (by omega)
end ZS1
def zs_u1 {α : Type} (f : Nat → α) (i : Nat) (v : α) : Nat → α := fun j => if j = i then v else f j
def zs_u2 {α : Type} (f : Nat → Nat → α) (i k : Nat) (v : α) : Nat → Nat → α := fun j t => if j = i ∧ t = k then v else f j t
end
section
theorem mz_uq0 {V X N : Int} {r : Nat} {z : Int} (hr : r < 256) (hX : X = V + 697641334361 * z) (h1 : -87553987462305 ≤ X) (h2 : X ≤ 87553987462305) (h6 : X % 256 = r) (hN : N = ((V + 87553987462305) % 697641334361 - 87553987462305) + (((r : Int) - ((V + 87553987462305) % 697641334361 - 87553987462305)) * 233) % 256 * 697641334361) : X = N := by
  obtain ⟨g, hg⟩ : ∃ g, g = (V + 87553987462305) % 697641334361 - 87553987462305 := ⟨_, rfl⟩
  rw [← hg] at hN
  obtain ⟨s, hs⟩ : ∃ s : Int, X = g + 697641334361 * s := ⟨(X - g) / 697641334361, by omega⟩
  have hs0 : 0 ≤ s := by omega
  have hs1 : s < 251 := by omega
  have ht : (((r : Int) - g) * 233) % 256 = s := by omega
  rw [ht] at hN
  omega
theorem mz_xa0 {X N s : Int} (hs : X = N + 697641334361 * s) (h1 : -87553987462305 ≤ X) (h2 : X ≤ 87553987462305) (n1 : -87553987462305 ≤ N) (n2 : N ≤ 87553987462305) : -251 < s ∧ s < 251 := by omega
theorem mz_xb0 {s u : Int} (h : 697641334361 * s = 251 * u) (h1 : -251 < s) (h2 : s < 251) : s = 0 := by
  obtain ⟨w, hw⟩ : ∃ w : Int, w = 51 * u - 141751824910 * s := ⟨_, rfl⟩
  have h3 : s = 251 * w := by
    rw [hw, Int.mul_sub, ← Int.mul_assoc, ← Int.mul_assoc, show (251 : Int) * 51 = 51 * 251 by decide, Int.mul_assoc, ← h, ← Int.mul_assoc, ← Int.sub_mul]
    rw [show ((51 : Int) * 697641334361 - 251 * 141751824910) = 1 by decide, Int.one_mul]
  clear h hw
  omega
theorem mz_ex0 {V X N : Int} {r : Nat} {z : Int} (hX : X = V + 697641334361 * z) (h1 : -87553987462305 ≤ X) (h2 : X ≤ 87553987462305) (n1 : -87553987462305 ≤ N) (n2 : N ≤ 87553987462305) (hm : X % 251 = N % 251) (hN : N = ((V + 87553987462305) % 697641334361 - 87553987462305) + (((r : Int) - ((V + 87553987462305) % 697641334361 - 87553987462305)) * 233) % 256 * 697641334361) : X = N := by
  have hs := mz_exg hX hN
  have hr := mz_xa0 hs h1 h2 n1 n2
  obtain ⟨u, hu⟩ := Int.dvd_of_emod_eq_zero (Int.emod_eq_emod_iff_emod_sub_eq_zero.mp hm)
  have h0 := mz_xb0 (u := u) (by rw [← hu, hs]; omega) hr.1 hr.2
  rw [h0, Int.mul_zero, Int.add_zero] at hs
  exact hs
theorem mz_uq1 {V X N : Int} {r : Nat} {z : Int} (hr : r < 256) (hX : X = V + 726589107571 * z) (h1 : -87553987462305 ≤ X) (h2 : X ≤ 87553987462305) (h6 : X % 256 = r) (hN : N = ((V + 87553987462305) % 726589107571 - 87553987462305) + (((r : Int) - ((V + 87553987462305) % 726589107571 - 87553987462305)) * 187) % 256 * 726589107571) : X = N := by
  obtain ⟨g, hg⟩ : ∃ g, g = (V + 87553987462305) % 726589107571 - 87553987462305 := ⟨_, rfl⟩
  rw [← hg] at hN
  obtain ⟨s, hs⟩ : ∃ s : Int, X = g + 726589107571 * s := ⟨(X - g) / 726589107571, by omega⟩
  have hs0 : 0 ≤ s := by omega
  have hs1 : s < 241 := by omega
  have ht : (((r : Int) - g) * 187) % 256 = s := by omega
  rw [ht] at hN
  omega
theorem mz_xa1 {X N s : Int} (hs : X = N + 726589107571 * s) (h1 : -87553987462305 ≤ X) (h2 : X ≤ 87553987462305) (n1 : -87553987462305 ≤ N) (n2 : N ≤ 87553987462305) : -241 < s ∧ s < 241 := by omega
theorem mz_xb1 {s u : Int} (h : 726589107571 * s = 241 * u) (h1 : -241 < s) (h2 : s < 241) : s = 0 := by
  obtain ⟨w, hw⟩ : ∃ w : Int, w = 71 * u - 214057371940 * s := ⟨_, rfl⟩
  have h3 : s = 241 * w := by
    rw [hw, Int.mul_sub, ← Int.mul_assoc, ← Int.mul_assoc, show (241 : Int) * 71 = 71 * 241 by decide, Int.mul_assoc, ← h, ← Int.mul_assoc, ← Int.sub_mul]
    rw [show ((71 : Int) * 726589107571 - 241 * 214057371940) = 1 by decide, Int.one_mul]
  clear h hw
  omega
theorem mz_ex1 {V X N : Int} {r : Nat} {z : Int} (hX : X = V + 726589107571 * z) (h1 : -87553987462305 ≤ X) (h2 : X ≤ 87553987462305) (n1 : -87553987462305 ≤ N) (n2 : N ≤ 87553987462305) (hm : X % 241 = N % 241) (hN : N = ((V + 87553987462305) % 726589107571 - 87553987462305) + (((r : Int) - ((V + 87553987462305) % 726589107571 - 87553987462305)) * 187) % 256 * 726589107571) : X = N := by
  have hs := mz_exg hX hN
  have hr := mz_xa1 hs h1 h2 n1 n2
  obtain ⟨u, hu⟩ := Int.dvd_of_emod_eq_zero (Int.emod_eq_emod_iff_emod_sub_eq_zero.mp hm)
  have h0 := mz_xb1 (u := u) (by rw [← hu, hs]; omega) hr.1 hr.2
  rw [h0, Int.mul_zero, Int.add_zero] at hs
  exact hs
theorem mz_uq2 {V X N : Int} {r : Nat} {z : Int} (hr : r < 256) (hX : X = V + 732669351149 * z) (h1 : -87553987462305 ≤ X) (h2 : X ≤ 87553987462305) (h6 : X % 256 = r) (hN : N = ((V + 87553987462305) % 732669351149 - 87553987462305) + (((r : Int) - ((V + 87553987462305) % 732669351149 - 87553987462305)) * 229) % 256 * 732669351149) : X = N := by
  obtain ⟨g, hg⟩ : ∃ g, g = (V + 87553987462305) % 732669351149 - 87553987462305 := ⟨_, rfl⟩
  rw [← hg] at hN
  obtain ⟨s, hs⟩ : ∃ s : Int, X = g + 732669351149 * s := ⟨(X - g) / 732669351149, by omega⟩
  have hs0 : 0 ≤ s := by omega
  have hs1 : s < 239 := by omega
  have ht : (((r : Int) - g) * 229) % 256 = s := by omega
  rw [ht] at hN
  omega
theorem mz_xa2 {X N s : Int} (hs : X = N + 732669351149 * s) (h1 : -87553987462305 ≤ X) (h2 : X ≤ 87553987462305) (n1 : -87553987462305 ≤ N) (n2 : N ≤ 87553987462305) : -239 < s ∧ s < 239 := by omega
theorem mz_xb2 {s u : Int} (h : 732669351149 * s = 239 * u) (h1 : -239 < s) (h2 : s < 239) : s = 0 := by
  obtain ⟨w, hw⟩ : ∃ w : Int, w = 156 * u - 478227693637 * s := ⟨_, rfl⟩
  have h3 : s = 239 * w := by
    rw [hw, Int.mul_sub, ← Int.mul_assoc, ← Int.mul_assoc, show (239 : Int) * 156 = 156 * 239 by decide, Int.mul_assoc, ← h, ← Int.mul_assoc, ← Int.sub_mul]
    rw [show ((156 : Int) * 732669351149 - 239 * 478227693637) = 1 by decide, Int.one_mul]
  clear h hw
  omega
theorem mz_ex2 {V X N : Int} {r : Nat} {z : Int} (hX : X = V + 732669351149 * z) (h1 : -87553987462305 ≤ X) (h2 : X ≤ 87553987462305) (n1 : -87553987462305 ≤ N) (n2 : N ≤ 87553987462305) (hm : X % 239 = N % 239) (hN : N = ((V + 87553987462305) % 732669351149 - 87553987462305) + (((r : Int) - ((V + 87553987462305) % 732669351149 - 87553987462305)) * 229) % 256 * 732669351149) : X = N := by
  have hs := mz_exg hX hN
  have hr := mz_xa2 hs h1 h2 n1 n2
  obtain ⟨u, hu⟩ := Int.dvd_of_emod_eq_zero (Int.emod_eq_emod_iff_emod_sub_eq_zero.mp hm)
  have h0 := mz_xb2 (u := u) (by rw [← hu, hs]; omega) hr.1 hr.2
  rw [h0, Int.mul_zero, Int.add_zero] at hs
  exact hs
end
section
theorem mz_uq3 {V X N : Int} {r : Nat} {z : Int} (hr : r < 256) (hX : X = V + 751536373067 * z) (h1 : -87553987462305 ≤ X) (h2 : X ≤ 87553987462305) (h6 : X % 256 = r) (hN : N = ((V + 87553987462305) % 751536373067 - 87553987462305) + (((r : Int) - ((V + 87553987462305) % 751536373067 - 87553987462305)) * 99) % 256 * 751536373067) : X = N := by
  obtain ⟨g, hg⟩ : ∃ g, g = (V + 87553987462305) % 751536373067 - 87553987462305 := ⟨_, rfl⟩
  rw [← hg] at hN
  obtain ⟨s, hs⟩ : ∃ s : Int, X = g + 751536373067 * s := ⟨(X - g) / 751536373067, by omega⟩
  have hs0 : 0 ≤ s := by omega
  have hs1 : s < 233 := by omega
  have ht : (((r : Int) - g) * 99) % 256 = s := by omega
  rw [ht] at hN
  omega
theorem mz_xa3 {X N s : Int} (hs : X = N + 751536373067 * s) (h1 : -87553987462305 ≤ X) (h2 : X ≤ 87553987462305) (n1 : -87553987462305 ≤ N) (n2 : N ≤ 87553987462305) : -233 < s ∧ s < 233 := by omega
theorem mz_xb3 {s u : Int} (h : 751536373067 * s = 233 * u) (h1 : -233 < s) (h2 : s < 233) : s = 0 := by
  obtain ⟨w, hw⟩ : ∃ w : Int, w = 232 * u - 748310895071 * s := ⟨_, rfl⟩
  have h3 : s = 233 * w := by
    rw [hw, Int.mul_sub, ← Int.mul_assoc, ← Int.mul_assoc, show (233 : Int) * 232 = 232 * 233 by decide, Int.mul_assoc, ← h, ← Int.mul_assoc, ← Int.sub_mul]
    rw [show ((232 : Int) * 751536373067 - 233 * 748310895071) = 1 by decide, Int.one_mul]
  clear h hw
  omega
theorem mz_ex3 {V X N : Int} {r : Nat} {z : Int} (hX : X = V + 751536373067 * z) (h1 : -87553987462305 ≤ X) (h2 : X ≤ 87553987462305) (n1 : -87553987462305 ≤ N) (n2 : N ≤ 87553987462305) (hm : X % 233 = N % 233) (hN : N = ((V + 87553987462305) % 751536373067 - 87553987462305) + (((r : Int) - ((V + 87553987462305) % 751536373067 - 87553987462305)) * 99) % 256 * 751536373067) : X = N := by
  have hs := mz_exg hX hN
  have hr := mz_xa3 hs h1 h2 n1 n2
  obtain ⟨u, hu⟩ := Int.dvd_of_emod_eq_zero (Int.emod_eq_emod_iff_emod_sub_eq_zero.mp hm)
  have h0 := mz_xb3 (u := u) (by rw [← hu, hs]; omega) hr.1 hr.2
  rw [h0, Int.mul_zero, Int.add_zero] at hs
  exact hs
theorem mz_uq4 {V X N : Int} {r : Nat} {z : Int} (hr : r < 256) (hX : X = V + 764663645959 * z) (h1 : -87553987462305 ≤ X) (h2 : X ≤ 87553987462305) (h6 : X % 256 = r) (hN : N = ((V + 87553987462305) % 764663645959 - 87553987462305) + (((r : Int) - ((V + 87553987462305) % 764663645959 - 87553987462305)) * 183) % 256 * 764663645959) : X = N := by
  obtain ⟨g, hg⟩ : ∃ g, g = (V + 87553987462305) % 764663645959 - 87553987462305 := ⟨_, rfl⟩
  rw [← hg] at hN
  obtain ⟨s, hs⟩ : ∃ s : Int, X = g + 764663645959 * s := ⟨(X - g) / 764663645959, by omega⟩
  have hs0 : 0 ≤ s := by omega
  have hs1 : s < 229 := by omega
  have ht : (((r : Int) - g) * 183) % 256 = s := by omega
  rw [ht] at hN
  omega
theorem mz_xa4 {X N s : Int} (hs : X = N + 764663645959 * s) (h1 : -87553987462305 ≤ X) (h2 : X ≤ 87553987462305) (n1 : -87553987462305 ≤ N) (n2 : N ≤ 87553987462305) : -229 < s ∧ s < 229 := by omega
theorem mz_xb4 {s u : Int} (h : 764663645959 * s = 229 * u) (h1 : -229 < s) (h2 : s < 229) : s = 0 := by
  obtain ⟨w, hw⟩ : ∃ w : Int, w = 22 * u - 73461136293 * s := ⟨_, rfl⟩
  have h3 : s = 229 * w := by
    rw [hw, Int.mul_sub, ← Int.mul_assoc, ← Int.mul_assoc, show (229 : Int) * 22 = 22 * 229 by decide, Int.mul_assoc, ← h, ← Int.mul_assoc, ← Int.sub_mul]
    rw [show ((22 : Int) * 764663645959 - 229 * 73461136293) = 1 by decide, Int.one_mul]
  clear h hw
  omega
theorem mz_ex4 {V X N : Int} {r : Nat} {z : Int} (hX : X = V + 764663645959 * z) (h1 : -87553987462305 ≤ X) (h2 : X ≤ 87553987462305) (n1 : -87553987462305 ≤ N) (n2 : N ≤ 87553987462305) (hm : X % 229 = N % 229) (hN : N = ((V + 87553987462305) % 764663645959 - 87553987462305) + (((r : Int) - ((V + 87553987462305) % 764663645959 - 87553987462305)) * 183) % 256 * 764663645959) : X = N := by
  have hs := mz_exg hX hN
  have hr := mz_xa4 hs h1 h2 n1 n2
  obtain ⟨u, hu⟩ := Int.dvd_of_emod_eq_zero (Int.emod_eq_emod_iff_emod_sub_eq_zero.mp hm)
  have h0 := mz_xb4 (u := u) (by rw [← hu, hs]; omega) hr.1 hr.2
  rw [h0, Int.mul_zero, Int.add_zero] at hs
  exact hs
theorem mz_uq5 {V X N : Int} {r : Nat} {z : Int} (hr : r < 256) (hX : X = V + 771400770593 * z) (h1 : -87553987462305 ≤ X) (h2 : X ≤ 87553987462305) (h6 : X % 256 = r) (hN : N = ((V + 87553987462305) % 771400770593 - 87553987462305) + (((r : Int) - ((V + 87553987462305) % 771400770593 - 87553987462305)) * 225) % 256 * 771400770593) : X = N := by
  obtain ⟨g, hg⟩ : ∃ g, g = (V + 87553987462305) % 771400770593 - 87553987462305 := ⟨_, rfl⟩
  rw [← hg] at hN
  obtain ⟨s, hs⟩ : ∃ s : Int, X = g + 771400770593 * s := ⟨(X - g) / 771400770593, by omega⟩
  have hs0 : 0 ≤ s := by omega
  have hs1 : s < 227 := by omega
  have ht : (((r : Int) - g) * 225) % 256 = s := by omega
  rw [ht] at hN
  omega
theorem mz_xa5 {X N s : Int} (hs : X = N + 771400770593 * s) (h1 : -87553987462305 ≤ X) (h2 : X ≤ 87553987462305) (n1 : -87553987462305 ≤ N) (n2 : N ≤ 87553987462305) : -227 < s ∧ s < 227 := by omega
theorem mz_xb5 {s u : Int} (h : 771400770593 * s = 227 * u) (h1 : -227 < s) (h2 : s < 227) : s = 0 := by
  obtain ⟨w, hw⟩ : ∃ w : Int, w = 172 * u - 584497500185 * s := ⟨_, rfl⟩
  have h3 : s = 227 * w := by
    rw [hw, Int.mul_sub, ← Int.mul_assoc, ← Int.mul_assoc, show (227 : Int) * 172 = 172 * 227 by decide, Int.mul_assoc, ← h, ← Int.mul_assoc, ← Int.sub_mul]
    rw [show ((172 : Int) * 771400770593 - 227 * 584497500185) = 1 by decide, Int.one_mul]
  clear h hw
  omega
theorem mz_ex5 {V X N : Int} {r : Nat} {z : Int} (hX : X = V + 771400770593 * z) (h1 : -87553987462305 ≤ X) (h2 : X ≤ 87553987462305) (n1 : -87553987462305 ≤ N) (n2 : N ≤ 87553987462305) (hm : X % 227 = N % 227) (hN : N = ((V + 87553987462305) % 771400770593 - 87553987462305) + (((r : Int) - ((V + 87553987462305) % 771400770593 - 87553987462305)) * 225) % 256 * 771400770593) : X = N := by
  have hs := mz_exg hX hN
  have hr := mz_xa5 hs h1 h2 n1 n2
  obtain ⟨u, hu⟩ := Int.dvd_of_emod_eq_zero (Int.emod_eq_emod_iff_emod_sub_eq_zero.mp hm)
  have h0 := mz_xb5 (u := u) (by rw [← hu, hs]; omega) hr.1 hr.2
  rw [h0, Int.mul_zero, Int.add_zero] at hs
  exact hs
end
section
def mz_st (k : Nat) : Int := match k with
  | 0 => 697641334361
  | 1 => 726589107571
  | 2 => 732669351149
  | 3 => 751536373067
  | 4 => 764663645959
  | _ => 771400770593
def mz_up (ρ : Nat → Nat) (k v : Nat) : Nat → Nat := fun j => if j = k then v else ρ j
def mz_ok (ρ : Nat → Nat) : Prop := ∀ j, j < 8 → ρ j < mz_m j
def mz_num (ρ : Nat → Nat) (k : Nat) : Int := ((mz_val ρ + 87553987462305) % mz_st k - 87553987462305) + (((ρ 6 : Int) - ((mz_val ρ + 87553987462305) % mz_st k - 87553987462305)) * (mz_iv k : Int)) % 256 * mz_st k
abbrev mz_fit (ρ : Nat → Nat) (n : Int) (skip : Nat) : Prop := (∀ j, j < 8 → j ≠ skip → n % (mz_m j : Int) = (ρ j : Int)) ∧ -87553987462305 ≤ n ∧ n ≤ 87553987462305
abbrev mz_good (ρ : Nat → Nat) : Prop := mz_val ρ % 256 = (ρ 6 : Int) ∧ mz_val ρ % 255 = (ρ 7 : Int)
abbrev mz_P (ρ : Nat → Nat) (k v : Nat) : Prop := mz_val (mz_up ρ k v) % 256 = (ρ 6 : Int) ∧ mz_val (mz_up ρ k v) % 255 = (ρ 7 : Int)
theorem mz_val_m {ρ : Nat → Nat} (hok : mz_ok ρ) : ∀ j, j < 6 → mz_val ρ % (mz_m j : Int) = (ρ j : Int)
  | 0, _ => mz_V_m0 (hok 0 (by decide))
  | 1, _ => mz_V_m1 (hok 1 (by decide))
  | 2, _ => mz_V_m2 (hok 2 (by decide))
  | 3, _ => mz_V_m3 (hok 3 (by decide))
  | 4, _ => mz_V_m4 (hok 4 (by decide))
  | 5, _ => mz_V_m5 (hok 5 (by decide))
  | j + 6, h => absurd h (by omega)
theorem mz_lt8 {P : Nat → Prop} (h0 : P 0) (h1 : P 1) (h2 : P 2) (h3 : P 3) (h4 : P 4) (h5 : P 5) (h6 : P 6) (h7 : P 7) : ∀ j, j < 8 → P j
  | 0, _ => h0
  | 1, _ => h1
  | 2, _ => h2
  | 3, _ => h3
  | 4, _ => h4
  | 5, _ => h5
  | 6, _ => h6
  | 7, _ => h7
  | j + 8, h => absurd h (by omega)
theorem mz_fit_val {ρ : Nat → Nat} (hok : mz_ok ρ) (s : Nat) (hs : 6 ≤ s) : mz_fit ρ (mz_val ρ) s ↔ ((6 ≠ s → mz_val ρ % 256 = (ρ 6 : Int)) ∧ (7 ≠ s → mz_val ρ % 255 = (ρ 7 : Int))) := by
  constructor
  · intro h
    exact ⟨fun h6 => h.1 6 (by decide) h6, fun h7 => h.1 7 (by decide) h7⟩
  · intro h
    refine ⟨mz_lt8 ?_ ?_ ?_ ?_ ?_ ?_ ?_ ?_, mz_V_in _ _ _ _ _ _⟩
    all_goals first | exact fun _ => mz_val_m hok _ (by decide) | exact h.1 | exact h.2
theorem mz_heal0 {ρ : Nat → Nat} {v : Nat} (hok : mz_ok ρ) (hv : v < 251) : mz_P ρ 0 v ↔ (mz_fit ρ (mz_num ρ 0) 0 ∧ (v : Int) = mz_num ρ 0 % 251) := by
  have hX : mz_val (mz_up ρ 0 v) = mz_V v (ρ 1) (ρ 2) (ρ 3) (ρ 4) (ρ 5) := rfl
  obtain ⟨z, hz⟩ := mz_V_s0 (ρ 0) (ρ 1) (ρ 2) (ρ 3) (ρ 4) (ρ 5) v
  have hin := mz_V_in v (ρ 1) (ρ 2) (ρ 3) (ρ 4) (ρ 5)
  have hN : mz_num ρ 0 = ((mz_V (ρ 0) (ρ 1) (ρ 2) (ρ 3) (ρ 4) (ρ 5) + 87553987462305) % 697641334361 - 87553987462305) + (((ρ 6 : Int) - ((mz_V (ρ 0) (ρ 1) (ρ 2) (ρ 3) (ρ 4) (ρ 5) + 87553987462305) % 697641334361 - 87553987462305)) * 233) % 256 * 697641334361 := rfl
  unfold mz_P
  rw [hX]
  constructor
  · rintro ⟨p6, p7⟩
    have e := mz_uq0 (hok 6 (by decide) : ρ 6 < 256) hz hin.1 hin.2 p6 hN
    rw [← e]
    exact ⟨⟨mz_lt8 (fun hn => absurd rfl hn) (fun _ => mz_V_m1 (hok 1 (by decide))) (fun _ => mz_V_m2 (hok 2 (by decide))) (fun _ => mz_V_m3 (hok 3 (by decide))) (fun _ => mz_V_m4 (hok 4 (by decide))) (fun _ => mz_V_m5 (hok 5 (by decide))) (fun _ => p6) (fun _ => p7), hin⟩, (mz_V_m0 hv).symm⟩
  · rintro ⟨⟨f1, f2, f3⟩, hv2⟩
    have e := mz_ex0 hz hin.1 hin.2 f2 f3 (by rw [mz_V_m0 hv]; exact hv2) hN
    rw [e]
    exact ⟨f1 6 (by decide) (by decide), f1 7 (by decide) (by decide)⟩
theorem mz_heal1 {ρ : Nat → Nat} {v : Nat} (hok : mz_ok ρ) (hv : v < 241) : mz_P ρ 1 v ↔ (mz_fit ρ (mz_num ρ 1) 1 ∧ (v : Int) = mz_num ρ 1 % 241) := by
  have hX : mz_val (mz_up ρ 1 v) = mz_V (ρ 0) v (ρ 2) (ρ 3) (ρ 4) (ρ 5) := rfl
  obtain ⟨z, hz⟩ := mz_V_s1 (ρ 0) (ρ 1) (ρ 2) (ρ 3) (ρ 4) (ρ 5) v
  have hin := mz_V_in (ρ 0) v (ρ 2) (ρ 3) (ρ 4) (ρ 5)
  have hN : mz_num ρ 1 = ((mz_V (ρ 0) (ρ 1) (ρ 2) (ρ 3) (ρ 4) (ρ 5) + 87553987462305) % 726589107571 - 87553987462305) + (((ρ 6 : Int) - ((mz_V (ρ 0) (ρ 1) (ρ 2) (ρ 3) (ρ 4) (ρ 5) + 87553987462305) % 726589107571 - 87553987462305)) * 187) % 256 * 726589107571 := rfl
  unfold mz_P
  rw [hX]
  constructor
  · rintro ⟨p6, p7⟩
    have e := mz_uq1 (hok 6 (by decide) : ρ 6 < 256) hz hin.1 hin.2 p6 hN
    rw [← e]
    exact ⟨⟨mz_lt8 (fun _ => mz_V_m0 (hok 0 (by decide))) (fun hn => absurd rfl hn) (fun _ => mz_V_m2 (hok 2 (by decide))) (fun _ => mz_V_m3 (hok 3 (by decide))) (fun _ => mz_V_m4 (hok 4 (by decide))) (fun _ => mz_V_m5 (hok 5 (by decide))) (fun _ => p6) (fun _ => p7), hin⟩, (mz_V_m1 hv).symm⟩
  · rintro ⟨⟨f1, f2, f3⟩, hv2⟩
    have e := mz_ex1 hz hin.1 hin.2 f2 f3 (by rw [mz_V_m1 hv]; exact hv2) hN
    rw [e]
    exact ⟨f1 6 (by decide) (by decide), f1 7 (by decide) (by decide)⟩
theorem mz_heal2 {ρ : Nat → Nat} {v : Nat} (hok : mz_ok ρ) (hv : v < 239) : mz_P ρ 2 v ↔ (mz_fit ρ (mz_num ρ 2) 2 ∧ (v : Int) = mz_num ρ 2 % 239) := by
  have hX : mz_val (mz_up ρ 2 v) = mz_V (ρ 0) (ρ 1) v (ρ 3) (ρ 4) (ρ 5) := rfl
  obtain ⟨z, hz⟩ := mz_V_s2 (ρ 0) (ρ 1) (ρ 2) (ρ 3) (ρ 4) (ρ 5) v
  have hin := mz_V_in (ρ 0) (ρ 1) v (ρ 3) (ρ 4) (ρ 5)
  have hN : mz_num ρ 2 = ((mz_V (ρ 0) (ρ 1) (ρ 2) (ρ 3) (ρ 4) (ρ 5) + 87553987462305) % 732669351149 - 87553987462305) + (((ρ 6 : Int) - ((mz_V (ρ 0) (ρ 1) (ρ 2) (ρ 3) (ρ 4) (ρ 5) + 87553987462305) % 732669351149 - 87553987462305)) * 229) % 256 * 732669351149 := rfl
  unfold mz_P
  rw [hX]
  constructor
  · rintro ⟨p6, p7⟩
    have e := mz_uq2 (hok 6 (by decide) : ρ 6 < 256) hz hin.1 hin.2 p6 hN
    rw [← e]
    exact ⟨⟨mz_lt8 (fun _ => mz_V_m0 (hok 0 (by decide))) (fun _ => mz_V_m1 (hok 1 (by decide))) (fun hn => absurd rfl hn) (fun _ => mz_V_m3 (hok 3 (by decide))) (fun _ => mz_V_m4 (hok 4 (by decide))) (fun _ => mz_V_m5 (hok 5 (by decide))) (fun _ => p6) (fun _ => p7), hin⟩, (mz_V_m2 hv).symm⟩
  · rintro ⟨⟨f1, f2, f3⟩, hv2⟩
    have e := mz_ex2 hz hin.1 hin.2 f2 f3 (by rw [mz_V_m2 hv]; exact hv2) hN
    rw [e]
    exact ⟨f1 6 (by decide) (by decide), f1 7 (by decide) (by decide)⟩
theorem mz_heal3 {ρ : Nat → Nat} {v : Nat} (hok : mz_ok ρ) (hv : v < 233) : mz_P ρ 3 v ↔ (mz_fit ρ (mz_num ρ 3) 3 ∧ (v : Int) = mz_num ρ 3 % 233) := by
  have hX : mz_val (mz_up ρ 3 v) = mz_V (ρ 0) (ρ 1) (ρ 2) v (ρ 4) (ρ 5) := rfl
  obtain ⟨z, hz⟩ := mz_V_s3 (ρ 0) (ρ 1) (ρ 2) (ρ 3) (ρ 4) (ρ 5) v
  have hin := mz_V_in (ρ 0) (ρ 1) (ρ 2) v (ρ 4) (ρ 5)
  have hN : mz_num ρ 3 = ((mz_V (ρ 0) (ρ 1) (ρ 2) (ρ 3) (ρ 4) (ρ 5) + 87553987462305) % 751536373067 - 87553987462305) + (((ρ 6 : Int) - ((mz_V (ρ 0) (ρ 1) (ρ 2) (ρ 3) (ρ 4) (ρ 5) + 87553987462305) % 751536373067 - 87553987462305)) * 99) % 256 * 751536373067 := rfl
  unfold mz_P
  rw [hX]
  constructor
  · rintro ⟨p6, p7⟩
    have e := mz_uq3 (hok 6 (by decide) : ρ 6 < 256) hz hin.1 hin.2 p6 hN
    rw [← e]
    exact ⟨⟨mz_lt8 (fun _ => mz_V_m0 (hok 0 (by decide))) (fun _ => mz_V_m1 (hok 1 (by decide))) (fun _ => mz_V_m2 (hok 2 (by decide))) (fun hn => absurd rfl hn) (fun _ => mz_V_m4 (hok 4 (by decide))) (fun _ => mz_V_m5 (hok 5 (by decide))) (fun _ => p6) (fun _ => p7), hin⟩, (mz_V_m3 hv).symm⟩
  · rintro ⟨⟨f1, f2, f3⟩, hv2⟩
    have e := mz_ex3 hz hin.1 hin.2 f2 f3 (by rw [mz_V_m3 hv]; exact hv2) hN
    rw [e]
    exact ⟨f1 6 (by decide) (by decide), f1 7 (by decide) (by decide)⟩
theorem mz_heal4 {ρ : Nat → Nat} {v : Nat} (hok : mz_ok ρ) (hv : v < 229) : mz_P ρ 4 v ↔ (mz_fit ρ (mz_num ρ 4) 4 ∧ (v : Int) = mz_num ρ 4 % 229) := by
  have hX : mz_val (mz_up ρ 4 v) = mz_V (ρ 0) (ρ 1) (ρ 2) (ρ 3) v (ρ 5) := rfl
  obtain ⟨z, hz⟩ := mz_V_s4 (ρ 0) (ρ 1) (ρ 2) (ρ 3) (ρ 4) (ρ 5) v
  have hin := mz_V_in (ρ 0) (ρ 1) (ρ 2) (ρ 3) v (ρ 5)
  have hN : mz_num ρ 4 = ((mz_V (ρ 0) (ρ 1) (ρ 2) (ρ 3) (ρ 4) (ρ 5) + 87553987462305) % 764663645959 - 87553987462305) + (((ρ 6 : Int) - ((mz_V (ρ 0) (ρ 1) (ρ 2) (ρ 3) (ρ 4) (ρ 5) + 87553987462305) % 764663645959 - 87553987462305)) * 183) % 256 * 764663645959 := rfl
  unfold mz_P
  rw [hX]
  constructor
  · rintro ⟨p6, p7⟩
    have e := mz_uq4 (hok 6 (by decide) : ρ 6 < 256) hz hin.1 hin.2 p6 hN
    rw [← e]
    exact ⟨⟨mz_lt8 (fun _ => mz_V_m0 (hok 0 (by decide))) (fun _ => mz_V_m1 (hok 1 (by decide))) (fun _ => mz_V_m2 (hok 2 (by decide))) (fun _ => mz_V_m3 (hok 3 (by decide))) (fun hn => absurd rfl hn) (fun _ => mz_V_m5 (hok 5 (by decide))) (fun _ => p6) (fun _ => p7), hin⟩, (mz_V_m4 hv).symm⟩
  · rintro ⟨⟨f1, f2, f3⟩, hv2⟩
    have e := mz_ex4 hz hin.1 hin.2 f2 f3 (by rw [mz_V_m4 hv]; exact hv2) hN
    rw [e]
    exact ⟨f1 6 (by decide) (by decide), f1 7 (by decide) (by decide)⟩
theorem mz_heal5 {ρ : Nat → Nat} {v : Nat} (hok : mz_ok ρ) (hv : v < 227) : mz_P ρ 5 v ↔ (mz_fit ρ (mz_num ρ 5) 5 ∧ (v : Int) = mz_num ρ 5 % 227) := by
  have hX : mz_val (mz_up ρ 5 v) = mz_V (ρ 0) (ρ 1) (ρ 2) (ρ 3) (ρ 4) v := rfl
  obtain ⟨z, hz⟩ := mz_V_s5 (ρ 0) (ρ 1) (ρ 2) (ρ 3) (ρ 4) (ρ 5) v
  have hin := mz_V_in (ρ 0) (ρ 1) (ρ 2) (ρ 3) (ρ 4) v
  have hN : mz_num ρ 5 = ((mz_V (ρ 0) (ρ 1) (ρ 2) (ρ 3) (ρ 4) (ρ 5) + 87553987462305) % 771400770593 - 87553987462305) + (((ρ 6 : Int) - ((mz_V (ρ 0) (ρ 1) (ρ 2) (ρ 3) (ρ 4) (ρ 5) + 87553987462305) % 771400770593 - 87553987462305)) * 225) % 256 * 771400770593 := rfl
  unfold mz_P
  rw [hX]
  constructor
  · rintro ⟨p6, p7⟩
    have e := mz_uq5 (hok 6 (by decide) : ρ 6 < 256) hz hin.1 hin.2 p6 hN
    rw [← e]
    exact ⟨⟨mz_lt8 (fun _ => mz_V_m0 (hok 0 (by decide))) (fun _ => mz_V_m1 (hok 1 (by decide))) (fun _ => mz_V_m2 (hok 2 (by decide))) (fun _ => mz_V_m3 (hok 3 (by decide))) (fun _ => mz_V_m4 (hok 4 (by decide))) (fun hn => absurd rfl hn) (fun _ => p6) (fun _ => p7), hin⟩, (mz_V_m5 hv).symm⟩
  · rintro ⟨⟨f1, f2, f3⟩, hv2⟩
    have e := mz_ex5 hz hin.1 hin.2 f2 f3 (by rw [mz_V_m5 hv]; exact hv2) hN
    rw [e]
    exact ⟨f1 6 (by decide) (by decide), f1 7 (by decide) (by decide)⟩
theorem mz_heal {ρ : Nat → Nat} (hok : mz_ok ρ) : ∀ k, k < 6 → ∀ {v : Nat}, v < mz_m k → (mz_P ρ k v ↔ (mz_fit ρ (mz_num ρ k) k ∧ (v : Int) = mz_num ρ k % (mz_m k : Int)))
  | 0, _, v, hv => mz_heal0 hok hv
  | 1, _, v, hv => mz_heal1 hok hv
  | 2, _, v, hv => mz_heal2 hok hv
  | 3, _, v, hv => mz_heal3 hok hv
  | 4, _, v, hv => mz_heal4 hok hv
  | 5, _, v, hv => mz_heal5 hok hv
  | k + 6, h, _, _ => absurd h (by omega)
end
section
/-! The tables' words, the classes, and what is there from the start -/
def zs_TU : u_T := fun k => match k with
  | 0 => ("ResidueUnit", "registers", "[LResidueUnit$Register;", true)
  | 1 => ("ResidueUnit", "program", "[LResidueUnit$Instruction;", true)
  | 2 => ("ResidueUnit", "counter", "I", false)
  | _ => ("ResidueUnit", "stopReason", "I", false)
def zs_YU : Nat → FieldType := fun k => match k with
  | 0 => (.array (.object "ResidueUnit$Register"))
  | 1 => (.array (.object "ResidueUnit$Instruction"))
  | 2 => .int
  | _ => .int
theorem zs_pU : ∀ j, j < 4 → parseFieldDescriptor (zs_TU j).2.2.1 = some (zs_YU j) := by decide +kernel
theorem zs_nU : ∀ a, a < 4 → ∀ b, b < 4 → a ≠ b → (zs_TU a).2.1 ≠ (zs_TU b).2.1 := by decide +kernel
def zs_TR : u_T := fun k => match k with
  | 0 => ("ResidueUnit$Register", "residues", "[I", true)
  | 1 => ("ResidueUnit$Register", "exact", "J", false)
  | _ => ("ResidueUnit$Register", "sure", "Z", false)
def zs_YR : Nat → FieldType := fun k => match k with
  | 0 => (.array .int)
  | 1 => .long
  | _ => .boolean
theorem zs_pR : ∀ j, j < 3 → parseFieldDescriptor (zs_TR j).2.2.1 = some (zs_YR j) := by decide +kernel
theorem zs_nR : ∀ a, a < 3 → ∀ b, b < 3 → a ≠ b → (zs_TR a).2.1 ≠ (zs_TR b).2.1 := by decide +kernel
def zs_TI : u_T := fun k => match k with
  | 0 => ("ResidueUnit$Instruction", "kind", "I", false)
  | 1 => ("ResidueUnit$Instruction", "a", "I", false)
  | 2 => ("ResidueUnit$Instruction", "b", "I", false)
  | _ => ("ResidueUnit$Instruction", "c", "I", false)
def zs_YI : Nat → FieldType := fun k => match k with
  | 0 => .int
  | 1 => .int
  | 2 => .int
  | _ => .int
theorem zs_pI : ∀ j, j < 4 → parseFieldDescriptor (zs_TI j).2.2.1 = some (zs_YI j) := by decide +kernel
theorem zs_nI : ∀ a, a < 4 → ∀ b, b < 4 → a ≠ b → (zs_TI a).2.1 ≠ (zs_TI b).2.1 := by decide +kernel
def zs_TM : u_T := fun k => match k with
  | 0 => ("ResidueUnitModel", "thrown", "I", false)
  | 1 => ("ResidueUnitModel", "moduli", "[I", true)
  | 2 => ("ResidueUnitModel", "residues", "[I", true)
  | 3 => ("ResidueUnitModel", "low", "[J", true)
  | 4 => ("ResidueUnitModel", "high", "[J", true)
  | 5 => ("ResidueUnitModel", "sure", "[Z", true)
  | 6 => ("ResidueUnitModel", "units", "[J", true)
  | 7 => ("ResidueUnitModel", "whole", "J", false)
  | 8 => ("ResidueUnitModel", "half", "J", false)
  | 9 => ("ResidueUnitModel", "program", "[I", true)
  | 10 => ("ResidueUnitModel", "counter", "I", false)
  | _ => ("ResidueUnitModel", "stopped", "I", false)
def zs_YM : Nat → FieldType := fun k => match k with
  | 0 => .int
  | 1 => (.array .int)
  | 2 => (.array .int)
  | 3 => (.array .long)
  | 4 => (.array .long)
  | 5 => (.array .boolean)
  | 6 => (.array .long)
  | 7 => .long
  | 8 => .long
  | 9 => (.array .int)
  | 10 => .int
  | _ => .int
theorem zs_pM : ∀ j, j < 12 → parseFieldDescriptor (zs_TM j).2.2.1 = some (zs_YM j) := by decide +kernel
theorem zs_nM : ∀ a, a < 12 → ∀ b, b < 12 → a ≠ b → (zs_TM a).2.1 ≠ (zs_TM b).2.1 := by decide +kernel
def zs_cl : List vw_C := [("ResidueUnit", zs_TU, 4), ("ResidueUnit$Register", zs_TR, 3), ("ResidueUnit$Instruction", zs_TI, 4), ("ResidueUnitModel", zs_TM, 12)]
def zs_gw : Cond → Bool
  | .methodLinkNest .. => true
  | .fieldLinkNest .. => true
  | .arrayOver (.object _) => true
  | w => goodWord w || (w.onTables && w.faceAtom)
def zs_ws : List Cond := lw_tbl.filter zs_gw
theorem zs_in {w : Cond} (i : Nat) (h : tables_1[i]? = some w) (hg : zs_gw w = true) : w ∈ zs_ws := List.mem_filter.mpr ⟨List.mem_append_right _ (List.mem_of_getElem? h), hg⟩
theorem zs_inP {w : Cond} (i : Nat) (h : (k2_sels lw_privs)[i]? = some w) (hg : zs_gw w = true) : w ∈ zs_ws := List.mem_filter.mpr ⟨List.mem_append_left _ (List.mem_of_getElem? h), hg⟩
theorem zs_inL {ws : List Cond} (ps : List Nat) (hp : ws = ps.filterMap (fun i => tables_1[i]?)) (hg : ws.all zs_gw = true) : ∀ w ∈ ws, w ∈ zs_ws := by
  intro w hw
  have h1 := List.all_eq_true.mp hg w hw
  rw [hp] at hw
  obtain ⟨i, -, hi⟩ := List.mem_filterMap.mp hw
  exact zs_in i hi h1
theorem zs_uw0 : ∀ w ∈ u_ws "ResidueUnit" zs_TU 4, w ∈ zs_ws := zs_inL [72, 74, 76, 78] (by decide +kernel) (by decide +kernel)
theorem zs_uw1 : ∀ w ∈ u_ws "ResidueUnit$Register" zs_TR 3, w ∈ zs_ws := zs_inL [38, 40, 42] (by decide +kernel) (by decide +kernel)
theorem zs_uw2 : ∀ w ∈ u_ws "ResidueUnit$Instruction" zs_TI 4, w ∈ zs_ws := zs_inL [59, 61, 63, 65] (by decide +kernel) (by decide +kernel)
theorem zs_uw3 : ∀ w ∈ u_ws "ResidueUnitModel" zs_TM 12, w ∈ zs_ws := zs_inL [470, 472, 474, 476, 478, 480, 482, 484, 486, 488, 490, 492] (by decide +kernel) (by decide +kernel)
/-- what differs from launch to launch: classes' numbers and slots; array classes' numbers; the first cell of ours; the tables; the texts; the script -/
abbrev zs_P : Type := va_G × (Nat → ClassId) × Nat × (Nat × Nat × Nat) × (Nat → Nat) × Nat × Nat × (Nat → Int32)
abbrev zp_ca (P : zs_P) : Nat → ClassId := P.2.1
abbrev zp_B (P : zs_P) : Nat := P.2.2.1
abbrev zp_tM (P : zs_P) : Nat := P.2.2.2.1.1
abbrev zp_tW (P : zs_P) : Nat := P.2.2.2.1.2.1
abbrev zp_tV (P : zs_P) : Nat := P.2.2.2.1.2.2
abbrev zp_q (P : zs_P) : Nat → Nat := P.2.2.2.2.1
abbrev zp_b (P : zs_P) : Nat := P.2.2.2.2.2.1
abbrev zp_L (P : zs_P) : Nat := P.2.2.2.2.2.2.1
abbrev zp_xs (P : zs_P) : Nat → Int32 := P.2.2.2.2.2.2.2
abbrev zp_A (P : zs_P) : Nat → Prop := fun q => zp_B P ≤ q
def zs_tx : List (Nat × String) := [(145, "there is no such register"), (40, "the number is not in range"), (55, "the register is not good"), (62, "there is no such op"), (72, "the moduli are not one to four of the first six"), (80, "the divisor is 0"), (147, "there is no such channel"), (98, "no single channel is the fault"), (107, "there is no such end"), (109, "the register is not sure"), (120, "there is no such instruction"), (127, "there is no such instruction to be written"), (133, "the fuel is not 0 to 2000")]
def zs_nc : List (String × String) := [("java/lang/IllegalArgumentException", "java/lang/IndexOutOfBoundsException"), ("java/lang/IllegalStateException", "java/lang/IndexOutOfBoundsException"), ("java/lang/IllegalStateException", "java/lang/IllegalArgumentException"), ("java/lang/ArithmeticException", "java/lang/IndexOutOfBoundsException")]
def zs_hw : List Cond := [.isRef (.static "java/lang/Throwable" "UNASSIGNED_STACK" "[Ljava/lang/StackTraceElement;"), .isRef (.static "java/lang/Throwable" "SUPPRESSED_SENTINEL" "Ljava/util/List;"), .laysStatic "java/lang/Throwable" "UNASSIGNED_STACK" "[Ljava/lang/StackTraceElement;", .laysStatic "java/lang/Throwable" "SUPPRESSED_SENTINEL" "Ljava/util/List;"]
def zs_X (P : zs_P) (U : State) (H : Heap) : Prop :=
  (va_Z "ResidueUnit" "MODULI" "[I" (.ref (zp_tM P)) (zp_A P) U H ∧ va_T .int (zp_tM P) 8 (fun j => .int (nI (mz_m j))) (zp_A P) U H) ∧
  (va_Z "ResidueUnit" "WEIGHTS" "[J" (.ref (zp_tW P)) (zp_A P) U H ∧ va_T .long (zp_tW P) 6 (fun j => .long (mz_L (mz_w j : Int))) (zp_A P) U H) ∧
  (va_Z "ResidueUnit" "WITNESS_INVERSES" "[I" (.ref (zp_tV P)) (zp_A P) U H ∧ va_T .int (zp_tV P) 6 (fun j => .int (nI (mz_iv j))) (zp_A P) U H) ∧
  va_T .int (zp_b P) (zp_L P) (fun j => .int (zp_xs P j)) (zp_A P) U H ∧
  (∀ q ∈ zs_tx, vk_R "ResidueUnit" q.1 q.2 (zp_q P q.1) U) ∧ (∀ q ∈ zs_nc, va_Nc q.1 q.2 U) ∧ (U.heap = H → ∀ w ∈ zs_hw, ∀ a : Array Value, w.before a U = true)
def zs_E (P : zs_P) : zg_E := (zs_ws, zs_cl, P.1, [(zp_ca P 0, .int), (zp_ca P 1, .long), (zp_ca P 2, .boolean), (zp_ca P 3, .object "ResidueUnit$Register"), (zp_ca P 4, .object "ResidueUnit$Instruction")], zp_B P, zs_X P)
theorem zt_0_0 {P : zs_P} : zg_fty (zs_E P) 0 0 (.array (.object "ResidueUnit$Register")) true := ⟨_, _, _, zs_YU, rfl, zs_pU, zs_nU, rfl, zs_pU 0 (by decide)⟩
theorem zt_0_1 {P : zs_P} : zg_fty (zs_E P) 0 1 (.array (.object "ResidueUnit$Instruction")) true := ⟨_, _, _, zs_YU, rfl, zs_pU, zs_nU, rfl, zs_pU 1 (by decide)⟩
theorem zt_0_2 {P : zs_P} : zg_fty (zs_E P) 0 2 .int false := ⟨_, _, _, zs_YU, rfl, zs_pU, zs_nU, rfl, zs_pU 2 (by decide)⟩
theorem zt_0_3 {P : zs_P} : zg_fty (zs_E P) 0 3 .int false := ⟨_, _, _, zs_YU, rfl, zs_pU, zs_nU, rfl, zs_pU 3 (by decide)⟩
theorem zt_1_0 {P : zs_P} : zg_fty (zs_E P) 1 0 (.array .int) true := ⟨_, _, _, zs_YR, rfl, zs_pR, zs_nR, rfl, zs_pR 0 (by decide)⟩
theorem zt_1_1 {P : zs_P} : zg_fty (zs_E P) 1 1 .long false := ⟨_, _, _, zs_YR, rfl, zs_pR, zs_nR, rfl, zs_pR 1 (by decide)⟩
theorem zt_1_2 {P : zs_P} : zg_fty (zs_E P) 1 2 .boolean false := ⟨_, _, _, zs_YR, rfl, zs_pR, zs_nR, rfl, zs_pR 2 (by decide)⟩
theorem zt_2_0 {P : zs_P} : zg_fty (zs_E P) 2 0 .int false := ⟨_, _, _, zs_YI, rfl, zs_pI, zs_nI, rfl, zs_pI 0 (by decide)⟩
theorem zt_2_1 {P : zs_P} : zg_fty (zs_E P) 2 1 .int false := ⟨_, _, _, zs_YI, rfl, zs_pI, zs_nI, rfl, zs_pI 1 (by decide)⟩
theorem zt_2_2 {P : zs_P} : zg_fty (zs_E P) 2 2 .int false := ⟨_, _, _, zs_YI, rfl, zs_pI, zs_nI, rfl, zs_pI 2 (by decide)⟩
theorem zt_2_3 {P : zs_P} : zg_fty (zs_E P) 2 3 .int false := ⟨_, _, _, zs_YI, rfl, zs_pI, zs_nI, rfl, zs_pI 3 (by decide)⟩
theorem zt_3_0 {P : zs_P} : zg_fty (zs_E P) 3 0 .int false := ⟨_, _, _, zs_YM, rfl, zs_pM, zs_nM, rfl, zs_pM 0 (by decide)⟩
theorem zt_3_1 {P : zs_P} : zg_fty (zs_E P) 3 1 (.array .int) true := ⟨_, _, _, zs_YM, rfl, zs_pM, zs_nM, rfl, zs_pM 1 (by decide)⟩
theorem zt_3_2 {P : zs_P} : zg_fty (zs_E P) 3 2 (.array .int) true := ⟨_, _, _, zs_YM, rfl, zs_pM, zs_nM, rfl, zs_pM 2 (by decide)⟩
theorem zt_3_3 {P : zs_P} : zg_fty (zs_E P) 3 3 (.array .long) true := ⟨_, _, _, zs_YM, rfl, zs_pM, zs_nM, rfl, zs_pM 3 (by decide)⟩
theorem zt_3_4 {P : zs_P} : zg_fty (zs_E P) 3 4 (.array .long) true := ⟨_, _, _, zs_YM, rfl, zs_pM, zs_nM, rfl, zs_pM 4 (by decide)⟩
theorem zt_3_5 {P : zs_P} : zg_fty (zs_E P) 3 5 (.array .boolean) true := ⟨_, _, _, zs_YM, rfl, zs_pM, zs_nM, rfl, zs_pM 5 (by decide)⟩
theorem zt_3_6 {P : zs_P} : zg_fty (zs_E P) 3 6 (.array .long) true := ⟨_, _, _, zs_YM, rfl, zs_pM, zs_nM, rfl, zs_pM 6 (by decide)⟩
theorem zt_3_7 {P : zs_P} : zg_fty (zs_E P) 3 7 .long false := ⟨_, _, _, zs_YM, rfl, zs_pM, zs_nM, rfl, zs_pM 7 (by decide)⟩
theorem zt_3_8 {P : zs_P} : zg_fty (zs_E P) 3 8 .long false := ⟨_, _, _, zs_YM, rfl, zs_pM, zs_nM, rfl, zs_pM 8 (by decide)⟩
theorem zt_3_9 {P : zs_P} : zg_fty (zs_E P) 3 9 (.array .int) true := ⟨_, _, _, zs_YM, rfl, zs_pM, zs_nM, rfl, zs_pM 9 (by decide)⟩
theorem zt_3_10 {P : zs_P} : zg_fty (zs_E P) 3 10 .int false := ⟨_, _, _, zs_YM, rfl, zs_pM, zs_nM, rfl, zs_pM 10 (by decide)⟩
theorem zt_3_11 {P : zs_P} : zg_fty (zs_E P) 3 11 .int false := ⟨_, _, _, zs_YM, rfl, zs_pM, zs_nM, rfl, zs_pM 11 (by decide)⟩
end
section
section ZF1
variable {P : zs_P}
theorem zk_mU_init : zg_w mU_init ∈ zs_ws := zs_in 19 (by decide +kernel) (by decide +kernel)
theorem zw_1 : Cond.initialized "ResidueUnit" ∈ zs_ws := zs_in 1 (by decide +kernel) (by decide +kernel)
theorem zm_mU_init : zg_mth (zs_E P) mU_init 0 := ⟨zk_mU_init, zw_1, by decide +kernel, by decide +kernel, by decide +kernel⟩
theorem zi_mU_init : Cond.instanceMethod (zg_my mU_init) ∈ zs_ws := zs_in 18 (by decide +kernel) (by decide +kernel)
theorem zk_mR_init : zg_w mR_init ∈ zs_ws := zs_in 30 (by decide +kernel) (by decide +kernel)
theorem zw_2 : Cond.initialized "ResidueUnit$Register" ∈ zs_ws := zs_in 2 (by decide +kernel) (by decide +kernel)
theorem zm_mR_init : zg_mth (zs_E P) mR_init 0 := ⟨zk_mR_init, zw_2, by decide +kernel, by decide +kernel, by decide +kernel⟩
theorem zi_mR_init : Cond.instanceMethod (zg_my mR_init) ∈ zs_ws := zs_in 29 (by decide +kernel) (by decide +kernel)
theorem zk_mI_init : zg_w mI_init ∈ zs_ws := zs_in 49 (by decide +kernel) (by decide +kernel)
theorem zw_3 : Cond.initialized "ResidueUnit$Instruction" ∈ zs_ws := zs_in 3 (by decide +kernel) (by decide +kernel)
theorem zm_mI_init : zg_mth (zs_E P) mI_init 0 := ⟨zk_mI_init, zw_3, by decide +kernel, by decide +kernel, by decide +kernel⟩
theorem zi_mI_init : Cond.instanceMethod (zg_my mI_init) ∈ zs_ws := zs_in 48 (by decide +kernel) (by decide +kernel)
theorem zk_mU_stopped : zg_w mU_stopped ∈ zs_ws := zs_in 84 (by decide +kernel) (by decide +kernel)
theorem zm_mU_stopped : zg_mth (zs_E P) mU_stopped 0 := ⟨zk_mU_stopped, zw_1, by decide +kernel, by decide +kernel, by decide +kernel⟩
theorem zi_mU_stopped : Cond.instanceMethod (zg_my mU_stopped) ∈ zs_ws := zs_in 82 (by decide +kernel) (by decide +kernel)
theorem zse_mU_stopped : Cond.selects (zg_my mU_stopped).cls (zg_my mU_stopped) (zg_my mU_stopped) ∈ zs_ws := zs_in 83 (by decide +kernel) (by decide +kernel)
theorem zk_mL_load : zg_w mL_load ∈ zs_ws := zs_in 87 (by decide +kernel) (by decide +kernel)
theorem zw_0 : Cond.initialized "ResidueUnitLaw" ∈ zs_ws := zs_in 0 (by decide +kernel) (by decide +kernel)
theorem zm_mL_load : zg_mth (zs_E P) mL_load 3 := ⟨zk_mL_load, zw_0, by decide +kernel, by decide +kernel, by decide +kernel⟩
theorem zst_mL_load : Cond.static (zg_my mL_load) ∈ zs_ws := zs_in 86 (by decide +kernel) (by decide +kernel)
theorem zk_mU_load : zg_w mU_load ∈ zs_ws := zs_in 93 (by decide +kernel) (by decide +kernel)
theorem zm_mU_load : zg_mth (zs_E P) mU_load 2 := ⟨zk_mU_load, zw_1, by decide +kernel, by decide +kernel, by decide +kernel⟩
theorem zi_mU_load : Cond.instanceMethod (zg_my mU_load) ∈ zs_ws := zs_in 91 (by decide +kernel) (by decide +kernel)
theorem zse_mU_load : Cond.selects (zg_my mU_load).cls (zg_my mU_load) (zg_my mU_load) ∈ zs_ws := zs_in 92 (by decide +kernel) (by decide +kernel)
theorem zk_mU_requireRegister : zg_w mU_requireRegister ∈ zs_ws := zs_in 96 (by decide +kernel) (by decide +kernel)
theorem zm_mU_requireRegister : zg_mth (zs_E P) mU_requireRegister 1 := ⟨zk_mU_requireRegister, zw_1, by decide +kernel, by decide +kernel, by decide +kernel⟩
theorem zst_mU_requireRegister : Cond.static (zg_my mU_requireRegister) ∈ zs_ws := zs_in 95 (by decide +kernel) (by decide +kernel)
theorem zk_mU_isRegister : zg_w mU_isRegister ∈ zs_ws := zs_in 99 (by decide +kernel) (by decide +kernel)
theorem zm_mU_isRegister : zg_mth (zs_E P) mU_isRegister 1 := ⟨zk_mU_isRegister, zw_1, by decide +kernel, by decide +kernel, by decide +kernel⟩
theorem zst_mU_isRegister : Cond.static (zg_my mU_isRegister) ∈ zs_ws := zs_in 98 (by decide +kernel) (by decide +kernel)
theorem zk_mU_inRange : zg_w mU_inRange ∈ zs_ws := zs_in 171 (by decide +kernel) (by decide +kernel)
theorem zm_mU_inRange : zg_mth (zs_E P) mU_inRange 1 := ⟨zk_mU_inRange, zw_1, by decide +kernel, by decide +kernel, by decide +kernel⟩
theorem zst_mU_inRange : Cond.static (zg_my mU_inRange) ∈ zs_ws := zs_in 170 (by decide +kernel) (by decide +kernel)
theorem zk_mR_put : zg_w mR_put ∈ zs_ws := zs_in 193 (by decide +kernel) (by decide +kernel)
theorem zm_mR_put : zg_mth (zs_E P) mR_put 1 := ⟨zk_mR_put, zw_2, by decide +kernel, by decide +kernel, by decide +kernel⟩
theorem zi_mR_put : Cond.instanceMethod (zg_my mR_put) ∈ zs_ws := zs_in 191 (by decide +kernel) (by decide +kernel)
theorem zse_mR_put : Cond.selects (zg_my mR_put).cls (zg_my mR_put) (zg_my mR_put) ∈ zs_ws := zs_in 192 (by decide +kernel) (by decide +kernel)
theorem zk_mU_residueOf : zg_w mU_residueOf ∈ zs_ws := zs_in 196 (by decide +kernel) (by decide +kernel)
theorem zm_mU_residueOf : zg_mth (zs_E P) mU_residueOf 2 := ⟨zk_mU_residueOf, zw_1, by decide +kernel, by decide +kernel, by decide +kernel⟩
theorem zst_mU_residueOf : Cond.static (zg_my mU_residueOf) ∈ zs_ws := zs_in 195 (by decide +kernel) (by decide +kernel)
theorem zk_mJ_floorMod_J : zg_w mJ_floorMod_J ∈ zs_ws := zs_in 201 (by decide +kernel) (by decide +kernel)
theorem zw_10 : Cond.initialized "java/lang/Math" ∈ zs_ws := zs_in 10 (by decide +kernel) (by decide +kernel)
theorem zm_mJ_floorMod_J : zg_mth (zs_E P) mJ_floorMod_J 2 := ⟨zk_mJ_floorMod_J, zw_10, by decide +kernel, by decide +kernel, by decide +kernel⟩
theorem zst_mJ_floorMod_J : Cond.static (zg_my mJ_floorMod_J) ∈ zs_ws := zs_in 200 (by decide +kernel) (by decide +kernel)
theorem zk_mL_binary : zg_w mL_binary ∈ zs_ws := zs_in 204 (by decide +kernel) (by decide +kernel)
theorem zm_mL_binary : zg_mth (zs_E P) mL_binary 3 := ⟨zk_mL_binary, zw_0, by decide +kernel, by decide +kernel, by decide +kernel⟩
theorem zst_mL_binary : Cond.static (zg_my mL_binary) ∈ zs_ws := zs_in 203 (by decide +kernel) (by decide +kernel)
theorem zk_mU_binary : zg_w mU_binary ∈ zs_ws := zs_in 209 (by decide +kernel) (by decide +kernel)
theorem zm_mU_binary : zg_mth (zs_E P) mU_binary 1 := ⟨zk_mU_binary, zw_1, by decide +kernel, by decide +kernel, by decide +kernel⟩
theorem zi_mU_binary : Cond.instanceMethod (zg_my mU_binary) ∈ zs_ws := zs_in 207 (by decide +kernel) (by decide +kernel)
theorem zse_mU_binary : Cond.selects (zg_my mU_binary).cls (zg_my mU_binary) (zg_my mU_binary) ∈ zs_ws := zs_in 208 (by decide +kernel) (by decide +kernel)
theorem zk_mR_isGood : zg_w mR_isGood ∈ zs_ws := zs_in 213 (by decide +kernel) (by decide +kernel)
theorem zm_mR_isGood : zg_mth (zs_E P) mR_isGood 0 := ⟨zk_mR_isGood, zw_2, by decide +kernel, by decide +kernel, by decide +kernel⟩
theorem zi_mR_isGood : Cond.instanceMethod (zg_my mR_isGood) ∈ zs_ws := zs_in 211 (by decide +kernel) (by decide +kernel)
theorem zse_mR_isGood : Cond.selects (zg_my mR_isGood).cls (zg_my mR_isGood) (zg_my mR_isGood) ∈ zs_ws := zs_in 212 (by decide +kernel) (by decide +kernel)
theorem zk_mR_value : zg_w mR_value ∈ zs_ws := zs_in 217 (by decide +kernel) (by decide +kernel)
theorem zm_mR_value : zg_mth (zs_E P) mR_value 0 := ⟨zk_mR_value, zw_2, by decide +kernel, by decide +kernel, by decide +kernel⟩
theorem zi_mR_value : Cond.instanceMethod (zg_my mR_value) ∈ zs_ws := zs_in 215 (by decide +kernel) (by decide +kernel)
theorem zse_mR_value : Cond.selects (zg_my mR_value).cls (zg_my mR_value) (zg_my mR_value) ∈ zs_ws := zs_in 216 (by decide +kernel) (by decide +kernel)
theorem zk_mR_fits : zg_w mR_fits ∈ zs_ws := zs_in 225 (by decide +kernel) (by decide +kernel)
theorem zm_mR_fits : zg_mth (zs_E P) mR_fits 2 := ⟨zk_mR_fits, zw_2, by decide +kernel, by decide +kernel, by decide +kernel⟩
theorem zi_mR_fits : Cond.instanceMethod (zg_my mR_fits) ∈ zs_ws := zs_in 224 (by decide +kernel) (by decide +kernel)
theorem zse_mR_fits : Cond.selects (zg_my mR_fits).cls (zg_my mR_fits) (zg_my mR_fits) ∈ zs_ws := zs_inP 1 (by decide +kernel) (by decide +kernel)
theorem zk_mL_work : zg_w mL_work ∈ zs_ws := zs_in 246 (by decide +kernel) (by decide +kernel)
theorem zm_mL_work : zg_mth (zs_E P) mL_work 5 := ⟨zk_mL_work, zw_0, by decide +kernel, by decide +kernel, by decide +kernel⟩
theorem zst_mL_work : Cond.static (zg_my mL_work) ∈ zs_ws := zs_in 245 (by decide +kernel) (by decide +kernel)
theorem zk_mU_work : zg_w mU_work ∈ zs_ws := zs_in 250 (by decide +kernel) (by decide +kernel)
theorem zm_mU_work : zg_mth (zs_E P) mU_work 4 := ⟨zk_mU_work, zw_1, by decide +kernel, by decide +kernel, by decide +kernel⟩
theorem zi_mU_work : Cond.instanceMethod (zg_my mU_work) ∈ zs_ws := zs_in 248 (by decide +kernel) (by decide +kernel)
theorem zse_mU_work : Cond.selects (zg_my mU_work).cls (zg_my mU_work) (zg_my mU_work) ∈ zs_ws := zs_in 249 (by decide +kernel) (by decide +kernel)
theorem zk_mR_combine : zg_w mR_combine ∈ zs_ws := zs_in 255 (by decide +kernel) (by decide +kernel)
theorem zm_mR_combine : zg_mth (zs_E P) mR_combine 3 := ⟨zk_mR_combine, zw_2, by decide +kernel, by decide +kernel, by decide +kernel⟩
theorem zi_mR_combine : Cond.instanceMethod (zg_my mR_combine) ∈ zs_ws := zs_in 253 (by decide +kernel) (by decide +kernel)
theorem zse_mR_combine : Cond.selects (zg_my mR_combine).cls (zg_my mR_combine) (zg_my mR_combine) ∈ zs_ws := zs_in 254 (by decide +kernel) (by decide +kernel)
theorem zk_mU_combineResidues : zg_w mU_combineResidues ∈ zs_ws := zs_in 258 (by decide +kernel) (by decide +kernel)
theorem zm_mU_combineResidues : zg_mth (zs_E P) mU_combineResidues 5 := ⟨zk_mU_combineResidues, zw_1, by decide +kernel, by decide +kernel, by decide +kernel⟩
theorem zst_mU_combineResidues : Cond.static (zg_my mU_combineResidues) ∈ zs_ws := zs_in 257 (by decide +kernel) (by decide +kernel)
theorem zk_mU_combineNumbers : zg_w mU_combineNumbers ∈ zs_ws := zs_in 261 (by decide +kernel) (by decide +kernel)
theorem zm_mU_combineNumbers : zg_mth (zs_E P) mU_combineNumbers 4 := ⟨zk_mU_combineNumbers, zw_1, by decide +kernel, by decide +kernel, by decide +kernel⟩
theorem zst_mU_combineNumbers : Cond.static (zg_my mU_combineNumbers) ∈ zs_ws := zs_in 260 (by decide +kernel) (by decide +kernel)
theorem zk_mU_cappedProduct : zg_w mU_cappedProduct ∈ zs_ws := zs_in 264 (by decide +kernel) (by decide +kernel)
theorem zm_mU_cappedProduct : zg_mth (zs_E P) mU_cappedProduct 2 := ⟨zk_mU_cappedProduct, zw_1, by decide +kernel, by decide +kernel, by decide +kernel⟩
theorem zst_mU_cappedProduct : Cond.static (zg_my mU_cappedProduct) ∈ zs_ws := zs_in 263 (by decide +kernel) (by decide +kernel)
theorem zk_mJ_abs : zg_w mJ_abs ∈ zs_ws := zs_in 267 (by decide +kernel) (by decide +kernel)
theorem zm_mJ_abs : zg_mth (zs_E P) mJ_abs 1 := ⟨zk_mJ_abs, zw_10, by decide +kernel, by decide +kernel, by decide +kernel⟩
theorem zst_mJ_abs : Cond.static (zg_my mJ_abs) ∈ zs_ws := zs_in 266 (by decide +kernel) (by decide +kernel)
theorem zk_mL_compare : zg_w mL_compare ∈ zs_ws := zs_in 272 (by decide +kernel) (by decide +kernel)
theorem zm_mL_compare : zg_mth (zs_E P) mL_compare 4 := ⟨zk_mL_compare, zw_0, by decide +kernel, by decide +kernel, by decide +kernel⟩
theorem zst_mL_compare : Cond.static (zg_my mL_compare) ∈ zs_ws := zs_in 271 (by decide +kernel) (by decide +kernel)
theorem zk_mU_compare : zg_w mU_compare ∈ zs_ws := zs_in 276 (by decide +kernel) (by decide +kernel)
theorem zm_mU_compare : zg_mth (zs_E P) mU_compare 2 := ⟨zk_mU_compare, zw_1, by decide +kernel, by decide +kernel, by decide +kernel⟩
theorem zi_mU_compare : Cond.instanceMethod (zg_my mU_compare) ∈ zs_ws := zs_in 274 (by decide +kernel) (by decide +kernel)
theorem zse_mU_compare : Cond.selects (zg_my mU_compare).cls (zg_my mU_compare) (zg_my mU_compare) ∈ zs_ws := zs_in 275 (by decide +kernel) (by decide +kernel)
theorem zk_mL_scale : zg_w mL_scale ∈ zs_ws := zs_in 279 (by decide +kernel) (by decide +kernel)
theorem zm_mL_scale : zg_mth (zs_E P) mL_scale 5 := ⟨zk_mL_scale, zw_0, by decide +kernel, by decide +kernel, by decide +kernel⟩
theorem zst_mL_scale : Cond.static (zg_my mL_scale) ∈ zs_ws := zs_in 278 (by decide +kernel) (by decide +kernel)
theorem zk_mU_scale : zg_w mU_scale ∈ zs_ws := zs_in 283 (by decide +kernel) (by decide +kernel)
theorem zm_mU_scale : zg_mth (zs_E P) mU_scale 4 := ⟨zk_mU_scale, zw_1, by decide +kernel, by decide +kernel, by decide +kernel⟩
theorem zi_mU_scale : Cond.instanceMethod (zg_my mU_scale) ∈ zs_ws := zs_in 281 (by decide +kernel) (by decide +kernel)
theorem zse_mU_scale : Cond.selects (zg_my mU_scale).cls (zg_my mU_scale) (zg_my mU_scale) ∈ zs_ws := zs_in 282 (by decide +kernel) (by decide +kernel)
theorem zk_mU_areScalingModuli : zg_w mU_areScalingModuli ∈ zs_ws := zs_in 286 (by decide +kernel) (by decide +kernel)
theorem zm_mU_areScalingModuli : zg_mth (zs_E P) mU_areScalingModuli 1 := ⟨zk_mU_areScalingModuli, zw_1, by decide +kernel, by decide +kernel, by decide +kernel⟩
theorem zst_mU_areScalingModuli : Cond.static (zg_my mU_areScalingModuli) ∈ zs_ws := zs_in 285 (by decide +kernel) (by decide +kernel)
theorem zk_mJ_bitCount : zg_w mJ_bitCount ∈ zs_ws := zs_in 289 (by decide +kernel) (by decide +kernel)
theorem zw_12 : Cond.initialized "java/lang/Integer" ∈ zs_ws := zs_in 12 (by decide +kernel) (by decide +kernel)
theorem zm_mJ_bitCount : zg_mth (zs_E P) mJ_bitCount 1 := ⟨zk_mJ_bitCount, zw_12, by decide +kernel, by decide +kernel, by decide +kernel⟩
theorem zst_mJ_bitCount : Cond.static (zg_my mJ_bitCount) ∈ zs_ws := zs_in 288 (by decide +kernel) (by decide +kernel)
theorem zk_mU_putScaled : zg_w mU_putScaled ∈ zs_ws := zs_in 297 (by decide +kernel) (by decide +kernel)
theorem zm_mU_putScaled : zg_mth (zs_E P) mU_putScaled 4 := ⟨zk_mU_putScaled, zw_1, by decide +kernel, by decide +kernel, by decide +kernel⟩
theorem zi_mU_putScaled : Cond.instanceMethod (zg_my mU_putScaled) ∈ zs_ws := zs_in 296 (by decide +kernel) (by decide +kernel)
theorem zse_mU_putScaled : Cond.selects (zg_my mU_putScaled).cls (zg_my mU_putScaled) (zg_my mU_putScaled) ∈ zs_ws := zs_inP 2 (by decide +kernel) (by decide +kernel)
theorem zk_mU_productOf : zg_w mU_productOf ∈ zs_ws := zs_in 300 (by decide +kernel) (by decide +kernel)
theorem zm_mU_productOf : zg_mth (zs_E P) mU_productOf 1 := ⟨zk_mU_productOf, zw_1, by decide +kernel, by decide +kernel, by decide +kernel⟩
theorem zst_mU_productOf : Cond.static (zg_my mU_productOf) ∈ zs_ws := zs_in 299 (by decide +kernel) (by decide +kernel)
theorem zk_mJ_floorDiv : zg_w mJ_floorDiv ∈ zs_ws := zs_in 304 (by decide +kernel) (by decide +kernel)
theorem zm_mJ_floorDiv : zg_mth (zs_E P) mJ_floorDiv 2 := ⟨zk_mJ_floorDiv, zw_10, by decide +kernel, by decide +kernel, by decide +kernel⟩
theorem zst_mJ_floorDiv : Cond.static (zg_my mJ_floorDiv) ∈ zs_ws := zs_in 303 (by decide +kernel) (by decide +kernel)
theorem zk_mL_divide : zg_w mL_divide ∈ zs_ws := zs_in 307 (by decide +kernel) (by decide +kernel)
theorem zm_mL_divide : zg_mth (zs_E P) mL_divide 5 := ⟨zk_mL_divide, zw_0, by decide +kernel, by decide +kernel, by decide +kernel⟩
theorem zst_mL_divide : Cond.static (zg_my mL_divide) ∈ zs_ws := zs_in 306 (by decide +kernel) (by decide +kernel)
theorem zk_mU_divide : zg_w mU_divide ∈ zs_ws := zs_in 312 (by decide +kernel) (by decide +kernel)
theorem zm_mU_divide : zg_mth (zs_E P) mU_divide 4 := ⟨zk_mU_divide, zw_1, by decide +kernel, by decide +kernel, by decide +kernel⟩
theorem zi_mU_divide : Cond.instanceMethod (zg_my mU_divide) ∈ zs_ws := zs_in 310 (by decide +kernel) (by decide +kernel)
theorem zse_mU_divide : Cond.selects (zg_my mU_divide).cls (zg_my mU_divide) (zg_my mU_divide) ∈ zs_ws := zs_in 311 (by decide +kernel) (by decide +kernel)
theorem zk_mL_channel : zg_w mL_channel ∈ zs_ws := zs_in 331 (by decide +kernel) (by decide +kernel)
theorem zm_mL_channel : zg_mth (zs_E P) mL_channel 4 := ⟨zk_mL_channel, zw_0, by decide +kernel, by decide +kernel, by decide +kernel⟩
theorem zst_mL_channel : Cond.static (zg_my mL_channel) ∈ zs_ws := zs_in 330 (by decide +kernel) (by decide +kernel)
theorem zk_mU_channel : zg_w mU_channel ∈ zs_ws := zs_in 335 (by decide +kernel) (by decide +kernel)
theorem zm_mU_channel : zg_mth (zs_E P) mU_channel 2 := ⟨zk_mU_channel, zw_1, by decide +kernel, by decide +kernel, by decide +kernel⟩
theorem zi_mU_channel : Cond.instanceMethod (zg_my mU_channel) ∈ zs_ws := zs_in 333 (by decide +kernel) (by decide +kernel)
theorem zse_mU_channel : Cond.selects (zg_my mU_channel).cls (zg_my mU_channel) (zg_my mU_channel) ∈ zs_ws := zs_in 334 (by decide +kernel) (by decide +kernel)
theorem zk_mU_requireChannel : zg_w mU_requireChannel ∈ zs_ws := zs_in 338 (by decide +kernel) (by decide +kernel)
theorem zm_mU_requireChannel : zg_mth (zs_E P) mU_requireChannel 1 := ⟨zk_mU_requireChannel, zw_1, by decide +kernel, by decide +kernel, by decide +kernel⟩
theorem zst_mU_requireChannel : Cond.static (zg_my mU_requireChannel) ∈ zs_ws := zs_in 337 (by decide +kernel) (by decide +kernel)
theorem zk_mL_inject : zg_w mL_inject ∈ zs_ws := zs_in 342 (by decide +kernel) (by decide +kernel)
theorem zm_mL_inject : zg_mth (zs_E P) mL_inject 5 := ⟨zk_mL_inject, zw_0, by decide +kernel, by decide +kernel, by decide +kernel⟩
theorem zst_mL_inject : Cond.static (zg_my mL_inject) ∈ zs_ws := zs_in 341 (by decide +kernel) (by decide +kernel)
theorem zk_mU_inject : zg_w mU_inject ∈ zs_ws := zs_in 346 (by decide +kernel) (by decide +kernel)
theorem zm_mU_inject : zg_mth (zs_E P) mU_inject 3 := ⟨zk_mU_inject, zw_1, by decide +kernel, by decide +kernel, by decide +kernel⟩
theorem zi_mU_inject : Cond.instanceMethod (zg_my mU_inject) ∈ zs_ws := zs_in 344 (by decide +kernel) (by decide +kernel)
theorem zse_mU_inject : Cond.selects (zg_my mU_inject).cls (zg_my mU_inject) (zg_my mU_inject) ∈ zs_ws := zs_in 345 (by decide +kernel) (by decide +kernel)
theorem zk_mR_shift : zg_w mR_shift ∈ zs_ws := zs_in 350 (by decide +kernel) (by decide +kernel)
theorem zm_mR_shift : zg_mth (zs_E P) mR_shift 2 := ⟨zk_mR_shift, zw_2, by decide +kernel, by decide +kernel, by decide +kernel⟩
theorem zi_mR_shift : Cond.instanceMethod (zg_my mR_shift) ∈ zs_ws := zs_in 348 (by decide +kernel) (by decide +kernel)
theorem zse_mR_shift : Cond.selects (zg_my mR_shift).cls (zg_my mR_shift) (zg_my mR_shift) ∈ zs_ws := zs_in 349 (by decide +kernel) (by decide +kernel)
theorem zk_mJ_floorMod_I : zg_w mJ_floorMod_I ∈ zs_ws := zs_in 354 (by decide +kernel) (by decide +kernel)
theorem zm_mJ_floorMod_I : zg_mth (zs_E P) mJ_floorMod_I 2 := ⟨zk_mJ_floorMod_I, zw_10, by decide +kernel, by decide +kernel, by decide +kernel⟩
theorem zst_mJ_floorMod_I : Cond.static (zg_my mJ_floorMod_I) ∈ zs_ws := zs_in 353 (by decide +kernel) (by decide +kernel)
theorem zk_mL_verify : zg_w mL_verify ∈ zs_ws := zs_in 357 (by decide +kernel) (by decide +kernel)
theorem zm_mL_verify : zg_mth (zs_E P) mL_verify 3 := ⟨zk_mL_verify, zw_0, by decide +kernel, by decide +kernel, by decide +kernel⟩
theorem zst_mL_verify : Cond.static (zg_my mL_verify) ∈ zs_ws := zs_in 356 (by decide +kernel) (by decide +kernel)
theorem zk_mU_verify : zg_w mU_verify ∈ zs_ws := zs_in 361 (by decide +kernel) (by decide +kernel)
theorem zm_mU_verify : zg_mth (zs_E P) mU_verify 1 := ⟨zk_mU_verify, zw_1, by decide +kernel, by decide +kernel, by decide +kernel⟩
theorem zi_mU_verify : Cond.instanceMethod (zg_my mU_verify) ∈ zs_ws := zs_in 359 (by decide +kernel) (by decide +kernel)
theorem zse_mU_verify : Cond.selects (zg_my mU_verify).cls (zg_my mU_verify) (zg_my mU_verify) ∈ zs_ws := zs_in 360 (by decide +kernel) (by decide +kernel)
theorem zk_mR_fault : zg_w mR_fault ∈ zs_ws := zs_in 365 (by decide +kernel) (by decide +kernel)
theorem zm_mR_fault : zg_mth (zs_E P) mR_fault 0 := ⟨zk_mR_fault, zw_2, by decide +kernel, by decide +kernel, by decide +kernel⟩
theorem zi_mR_fault : Cond.instanceMethod (zg_my mR_fault) ∈ zs_ws := zs_in 363 (by decide +kernel) (by decide +kernel)
theorem zse_mR_fault : Cond.selects (zg_my mR_fault).cls (zg_my mR_fault) (zg_my mR_fault) ∈ zs_ws := zs_in 364 (by decide +kernel) (by decide +kernel)
theorem zk_mR_healingResidue : zg_w mR_healingResidue ∈ zs_ws := zs_in 370 (by decide +kernel) (by decide +kernel)
theorem zm_mR_healingResidue : zg_mth (zs_E P) mR_healingResidue 1 := ⟨zk_mR_healingResidue, zw_2, by decide +kernel, by decide +kernel, by decide +kernel⟩
theorem zi_mR_healingResidue : Cond.instanceMethod (zg_my mR_healingResidue) ∈ zs_ws := zs_in 369 (by decide +kernel) (by decide +kernel)
theorem zse_mR_healingResidue : Cond.selects (zg_my mR_healingResidue).cls (zg_my mR_healingResidue) (zg_my mR_healingResidue) ∈ zs_ws := zs_inP 3 (by decide +kernel) (by decide +kernel)
theorem zk_mR_numberWithout : zg_w mR_numberWithout ∈ zs_ws := zs_in 374 (by decide +kernel) (by decide +kernel)
theorem zm_mR_numberWithout : zg_mth (zs_E P) mR_numberWithout 1 := ⟨zk_mR_numberWithout, zw_2, by decide +kernel, by decide +kernel, by decide +kernel⟩
theorem zi_mR_numberWithout : Cond.instanceMethod (zg_my mR_numberWithout) ∈ zs_ws := zs_in 373 (by decide +kernel) (by decide +kernel)
theorem zse_mR_numberWithout : Cond.selects (zg_my mR_numberWithout).cls (zg_my mR_numberWithout) (zg_my mR_numberWithout) ∈ zs_ws := zs_inP 4 (by decide +kernel) (by decide +kernel)
theorem zk_mL_repair : zg_w mL_repair ∈ zs_ws := zs_in 380 (by decide +kernel) (by decide +kernel)
theorem zm_mL_repair : zg_mth (zs_E P) mL_repair 3 := ⟨zk_mL_repair, zw_0, by decide +kernel, by decide +kernel, by decide +kernel⟩
theorem zst_mL_repair : Cond.static (zg_my mL_repair) ∈ zs_ws := zs_in 379 (by decide +kernel) (by decide +kernel)
theorem zk_mU_repair : zg_w mU_repair ∈ zs_ws := zs_in 384 (by decide +kernel) (by decide +kernel)
theorem zm_mU_repair : zg_mth (zs_E P) mU_repair 1 := ⟨zk_mU_repair, zw_1, by decide +kernel, by decide +kernel, by decide +kernel⟩
theorem zi_mU_repair : Cond.instanceMethod (zg_my mU_repair) ∈ zs_ws := zs_in 382 (by decide +kernel) (by decide +kernel)
theorem zse_mU_repair : Cond.selects (zg_my mU_repair).cls (zg_my mU_repair) (zg_my mU_repair) ∈ zs_ws := zs_in 383 (by decide +kernel) (by decide +kernel)
theorem zk_mR_heal : zg_w mR_heal ∈ zs_ws := zs_in 389 (by decide +kernel) (by decide +kernel)
theorem zm_mR_heal : zg_mth (zs_E P) mR_heal 1 := ⟨zk_mR_heal, zw_2, by decide +kernel, by decide +kernel, by decide +kernel⟩
theorem zi_mR_heal : Cond.instanceMethod (zg_my mR_heal) ∈ zs_ws := zs_in 387 (by decide +kernel) (by decide +kernel)
theorem zse_mR_heal : Cond.selects (zg_my mR_heal).cls (zg_my mR_heal) (zg_my mR_heal) ∈ zs_ws := zs_in 388 (by decide +kernel) (by decide +kernel)
theorem zk_mL_sure : zg_w mL_sure ∈ zs_ws := zs_in 392 (by decide +kernel) (by decide +kernel)
theorem zm_mL_sure : zg_mth (zs_E P) mL_sure 3 := ⟨zk_mL_sure, zw_0, by decide +kernel, by decide +kernel, by decide +kernel⟩
theorem zst_mL_sure : Cond.static (zg_my mL_sure) ∈ zs_ws := zs_in 391 (by decide +kernel) (by decide +kernel)
theorem zk_mU_sure : zg_w mU_sure ∈ zs_ws := zs_in 396 (by decide +kernel) (by decide +kernel)
theorem zm_mU_sure : zg_mth (zs_E P) mU_sure 1 := ⟨zk_mU_sure, zw_1, by decide +kernel, by decide +kernel, by decide +kernel⟩
theorem zi_mU_sure : Cond.instanceMethod (zg_my mU_sure) ∈ zs_ws := zs_in 394 (by decide +kernel) (by decide +kernel)
theorem zse_mU_sure : Cond.selects (zg_my mU_sure).cls (zg_my mU_sure) (zg_my mU_sure) ∈ zs_ws := zs_in 395 (by decide +kernel) (by decide +kernel)
theorem zk_mL_bound : zg_w mL_bound ∈ zs_ws := zs_in 399 (by decide +kernel) (by decide +kernel)
theorem zm_mL_bound : zg_mth (zs_E P) mL_bound 4 := ⟨zk_mL_bound, zw_0, by decide +kernel, by decide +kernel, by decide +kernel⟩
theorem zst_mL_bound : Cond.static (zg_my mL_bound) ∈ zs_ws := zs_in 398 (by decide +kernel) (by decide +kernel)
theorem zk_mU_bound : zg_w mU_bound ∈ zs_ws := zs_in 403 (by decide +kernel) (by decide +kernel)
theorem zm_mU_bound : zg_mth (zs_E P) mU_bound 2 := ⟨zk_mU_bound, zw_1, by decide +kernel, by decide +kernel, by decide +kernel⟩
theorem zi_mU_bound : Cond.instanceMethod (zg_my mU_bound) ∈ zs_ws := zs_in 401 (by decide +kernel) (by decide +kernel)
theorem zse_mU_bound : Cond.selects (zg_my mU_bound).cls (zg_my mU_bound) (zg_my mU_bound) ∈ zs_ws := zs_in 402 (by decide +kernel) (by decide +kernel)
theorem zk_mL_instruct : zg_w mL_instruct ∈ zs_ws := zs_in 408 (by decide +kernel) (by decide +kernel)
theorem zm_mL_instruct : zg_mth (zs_E P) mL_instruct 6 := ⟨zk_mL_instruct, zw_0, by decide +kernel, by decide +kernel, by decide +kernel⟩
theorem zst_mL_instruct : Cond.static (zg_my mL_instruct) ∈ zs_ws := zs_in 407 (by decide +kernel) (by decide +kernel)
theorem zk_mU_instruct : zg_w mU_instruct ∈ zs_ws := zs_in 412 (by decide +kernel) (by decide +kernel)
theorem zm_mU_instruct : zg_mth (zs_E P) mU_instruct 5 := ⟨zk_mU_instruct, zw_1, by decide +kernel, by decide +kernel, by decide +kernel⟩
theorem zi_mU_instruct : Cond.instanceMethod (zg_my mU_instruct) ∈ zs_ws := zs_in 410 (by decide +kernel) (by decide +kernel)
theorem zse_mU_instruct : Cond.selects (zg_my mU_instruct).cls (zg_my mU_instruct) (zg_my mU_instruct) ∈ zs_ws := zs_in 411 (by decide +kernel) (by decide +kernel)
theorem zk_mU_isInstruction : zg_w mU_isInstruction ∈ zs_ws := zs_in 415 (by decide +kernel) (by decide +kernel)
theorem zm_mU_isInstruction : zg_mth (zs_E P) mU_isInstruction 1 := ⟨zk_mU_isInstruction, zw_1, by decide +kernel, by decide +kernel, by decide +kernel⟩
theorem zst_mU_isInstruction : Cond.static (zg_my mU_isInstruction) ∈ zs_ws := zs_in 414 (by decide +kernel) (by decide +kernel)
theorem zk_mU_isAllowed : zg_w mU_isAllowed ∈ zs_ws := zs_in 419 (by decide +kernel) (by decide +kernel)
theorem zm_mU_isAllowed : zg_mth (zs_E P) mU_isAllowed 4 := ⟨zk_mU_isAllowed, zw_1, by decide +kernel, by decide +kernel, by decide +kernel⟩
theorem zst_mU_isAllowed : Cond.static (zg_my mU_isAllowed) ∈ zs_ws := zs_in 418 (by decide +kernel) (by decide +kernel)
theorem zk_mI_become : zg_w mI_become ∈ zs_ws := zs_in 424 (by decide +kernel) (by decide +kernel)
theorem zm_mI_become : zg_mth (zs_E P) mI_become 4 := ⟨zk_mI_become, zw_3, by decide +kernel, by decide +kernel, by decide +kernel⟩
theorem zi_mI_become : Cond.instanceMethod (zg_my mI_become) ∈ zs_ws := zs_in 422 (by decide +kernel) (by decide +kernel)
theorem zse_mI_become : Cond.selects (zg_my mI_become).cls (zg_my mI_become) (zg_my mI_become) ∈ zs_ws := zs_in 423 (by decide +kernel) (by decide +kernel)
theorem zk_mL_run : zg_w mL_run ∈ zs_ws := zs_in 427 (by decide +kernel) (by decide +kernel)
theorem zm_mL_run : zg_mth (zs_E P) mL_run 3 := ⟨zk_mL_run, zw_0, by decide +kernel, by decide +kernel, by decide +kernel⟩
theorem zst_mL_run : Cond.static (zg_my mL_run) ∈ zs_ws := zs_in 426 (by decide +kernel) (by decide +kernel)
theorem zk_mU_run : zg_w mU_run ∈ zs_ws := zs_in 431 (by decide +kernel) (by decide +kernel)
theorem zm_mU_run : zg_mth (zs_E P) mU_run 1 := ⟨zk_mU_run, zw_1, by decide +kernel, by decide +kernel, by decide +kernel⟩
theorem zi_mU_run : Cond.instanceMethod (zg_my mU_run) ∈ zs_ws := zs_in 429 (by decide +kernel) (by decide +kernel)
theorem zse_mU_run : Cond.selects (zg_my mU_run).cls (zg_my mU_run) (zg_my mU_run) ∈ zs_ws := zs_in 430 (by decide +kernel) (by decide +kernel)
theorem zk_mU_step : zg_w mU_step ∈ zs_ws := zs_in 436 (by decide +kernel) (by decide +kernel)
theorem zm_mU_step : zg_mth (zs_E P) mU_step 1 := ⟨zk_mU_step, zw_1, by decide +kernel, by decide +kernel, by decide +kernel⟩
theorem zi_mU_step : Cond.instanceMethod (zg_my mU_step) ∈ zs_ws := zs_in 435 (by decide +kernel) (by decide +kernel)
theorem zse_mU_step : Cond.selects (zg_my mU_step).cls (zg_my mU_step) (zg_my mU_step) ∈ zs_ws := zs_inP 5 (by decide +kernel) (by decide +kernel)
theorem zk_mU_calculate : zg_w mU_calculate ∈ zs_ws := zs_in 440 (by decide +kernel) (by decide +kernel)
theorem zm_mU_calculate : zg_mth (zs_E P) mU_calculate 1 := ⟨zk_mU_calculate, zw_1, by decide +kernel, by decide +kernel, by decide +kernel⟩
theorem zi_mU_calculate : Cond.instanceMethod (zg_my mU_calculate) ∈ zs_ws := zs_in 439 (by decide +kernel) (by decide +kernel)
theorem zse_mU_calculate : Cond.selects (zg_my mU_calculate).cls (zg_my mU_calculate) (zg_my mU_calculate) ∈ zs_ws := zs_inP 6 (by decide +kernel) (by decide +kernel)
theorem zk_mR_copyFrom : zg_w mR_copyFrom ∈ zs_ws := zs_in 444 (by decide +kernel) (by decide +kernel)
theorem zm_mR_copyFrom : zg_mth (zs_E P) mR_copyFrom 1 := ⟨zk_mR_copyFrom, zw_2, by decide +kernel, by decide +kernel, by decide +kernel⟩
theorem zi_mR_copyFrom : Cond.instanceMethod (zg_my mR_copyFrom) ∈ zs_ws := zs_in 442 (by decide +kernel) (by decide +kernel)
theorem zse_mR_copyFrom : Cond.selects (zg_my mR_copyFrom).cls (zg_my mR_copyFrom) (zg_my mR_copyFrom) ∈ zs_ws := zs_in 443 (by decide +kernel) (by decide +kernel)
theorem zk_mU_reasonAt : zg_w mU_reasonAt ∈ zs_ws := zs_in 450 (by decide +kernel) (by decide +kernel)
theorem zm_mU_reasonAt : zg_mth (zs_E P) mU_reasonAt 1 := ⟨zk_mU_reasonAt, zw_1, by decide +kernel, by decide +kernel, by decide +kernel⟩
theorem zst_mU_reasonAt : Cond.static (zg_my mU_reasonAt) ∈ zs_ws := zs_in 449 (by decide +kernel) (by decide +kernel)
theorem zk_mM_init : zg_w mM_init ∈ zs_ws := zs_in 455 (by decide +kernel) (by decide +kernel)
theorem zw_4 : Cond.initialized "ResidueUnitModel" ∈ zs_ws := zs_in 4 (by decide +kernel) (by decide +kernel)
theorem zm_mM_init : zg_mth (zs_E P) mM_init 0 := ⟨zk_mM_init, zw_4, by decide +kernel, by decide +kernel, by decide +kernel⟩
theorem zi_mM_init : Cond.instanceMethod (zg_my mM_init) ∈ zs_ws := zs_in 454 (by decide +kernel) (by decide +kernel)
theorem zk_mM_thrown : zg_w mM_thrown ∈ zs_ws := zs_in 500 (by decide +kernel) (by decide +kernel)
theorem zm_mM_thrown : zg_mth (zs_E P) mM_thrown 0 := ⟨zk_mM_thrown, zw_4, by decide +kernel, by decide +kernel, by decide +kernel⟩
theorem zi_mM_thrown : Cond.instanceMethod (zg_my mM_thrown) ∈ zs_ws := zs_in 498 (by decide +kernel) (by decide +kernel)
theorem zse_mM_thrown : Cond.selects (zg_my mM_thrown).cls (zg_my mM_thrown) (zg_my mM_thrown) ∈ zs_ws := zs_in 499 (by decide +kernel) (by decide +kernel)
theorem zk_mM_load : zg_w mM_load ∈ zs_ws := zs_in 504 (by decide +kernel) (by decide +kernel)
theorem zm_mM_load : zg_mth (zs_E P) mM_load 2 := ⟨zk_mM_load, zw_4, by decide +kernel, by decide +kernel, by decide +kernel⟩
theorem zi_mM_load : Cond.instanceMethod (zg_my mM_load) ∈ zs_ws := zs_in 502 (by decide +kernel) (by decide +kernel)
theorem zse_mM_load : Cond.selects (zg_my mM_load).cls (zg_my mM_load) (zg_my mM_load) ∈ zs_ws := zs_in 503 (by decide +kernel) (by decide +kernel)
theorem zk_mM_isRegister : zg_w mM_isRegister ∈ zs_ws := zs_in 507 (by decide +kernel) (by decide +kernel)
theorem zm_mM_isRegister : zg_mth (zs_E P) mM_isRegister 1 := ⟨zk_mM_isRegister, zw_4, by decide +kernel, by decide +kernel, by decide +kernel⟩
theorem zst_mM_isRegister : Cond.static (zg_my mM_isRegister) ∈ zs_ws := zs_in 506 (by decide +kernel) (by decide +kernel)
theorem zk_mM_in : zg_w mM_in ∈ zs_ws := zs_in 511 (by decide +kernel) (by decide +kernel)
theorem zm_mM_in : zg_mth (zs_E P) mM_in 3 := ⟨zk_mM_in, zw_4, by decide +kernel, by decide +kernel, by decide +kernel⟩
theorem zst_mM_in : Cond.static (zg_my mM_in) ∈ zs_ws := zs_in 510 (by decide +kernel) (by decide +kernel)
theorem zk_mM_refuse : zg_w mM_refuse ∈ zs_ws := zs_in 515 (by decide +kernel) (by decide +kernel)
theorem zm_mM_refuse : zg_mth (zs_E P) mM_refuse 3 := ⟨zk_mM_refuse, zw_4, by decide +kernel, by decide +kernel, by decide +kernel⟩
theorem zi_mM_refuse : Cond.instanceMethod (zg_my mM_refuse) ∈ zs_ws := zs_in 514 (by decide +kernel) (by decide +kernel)
theorem zse_mM_refuse : Cond.selects (zg_my mM_refuse).cls (zg_my mM_refuse) (zg_my mM_refuse) ∈ zs_ws := zs_inP 7 (by decide +kernel) (by decide +kernel)
theorem zk_mM_put : zg_w mM_put ∈ zs_ws := zs_in 519 (by decide +kernel) (by decide +kernel)
theorem zm_mM_put : zg_mth (zs_E P) mM_put 2 := ⟨zk_mM_put, zw_4, by decide +kernel, by decide +kernel, by decide +kernel⟩
theorem zi_mM_put : Cond.instanceMethod (zg_my mM_put) ∈ zs_ws := zs_in 518 (by decide +kernel) (by decide +kernel)
theorem zse_mM_put : Cond.selects (zg_my mM_put).cls (zg_my mM_put) (zg_my mM_put) ∈ zs_ws := zs_inP 8 (by decide +kernel) (by decide +kernel)
theorem zk_mM_rest : zg_w mM_rest ∈ zs_ws := zs_in 522 (by decide +kernel) (by decide +kernel)
theorem zm_mM_rest : zg_mth (zs_E P) mM_rest 2 := ⟨zk_mM_rest, zw_4, by decide +kernel, by decide +kernel, by decide +kernel⟩
theorem zst_mM_rest : Cond.static (zg_my mM_rest) ∈ zs_ws := zs_in 521 (by decide +kernel) (by decide +kernel)
theorem zk_mM_binary : zg_w mM_binary ∈ zs_ws := zs_in 526 (by decide +kernel) (by decide +kernel)
theorem zm_mM_binary : zg_mth (zs_E P) mM_binary 1 := ⟨zk_mM_binary, zw_4, by decide +kernel, by decide +kernel, by decide +kernel⟩
theorem zi_mM_binary : Cond.instanceMethod (zg_my mM_binary) ∈ zs_ws := zs_in 524 (by decide +kernel) (by decide +kernel)
theorem zse_mM_binary : Cond.selects (zg_my mM_binary).cls (zg_my mM_binary) (zg_my mM_binary) ∈ zs_ws := zs_in 525 (by decide +kernel) (by decide +kernel)
theorem zk_mM_isGood : zg_w mM_isGood ∈ zs_ws := zs_in 530 (by decide +kernel) (by decide +kernel)
theorem zm_mM_isGood : zg_mth (zs_E P) mM_isGood 1 := ⟨zk_mM_isGood, zw_4, by decide +kernel, by decide +kernel, by decide +kernel⟩
theorem zi_mM_isGood : Cond.instanceMethod (zg_my mM_isGood) ∈ zs_ws := zs_in 529 (by decide +kernel) (by decide +kernel)
theorem zse_mM_isGood : Cond.selects (zg_my mM_isGood).cls (zg_my mM_isGood) (zg_my mM_isGood) ∈ zs_ws := zs_inP 9 (by decide +kernel) (by decide +kernel)
theorem zk_mM_valueOf : zg_w mM_valueOf ∈ zs_ws := zs_in 534 (by decide +kernel) (by decide +kernel)
theorem zm_mM_valueOf : zg_mth (zs_E P) mM_valueOf 1 := ⟨zk_mM_valueOf, zw_4, by decide +kernel, by decide +kernel, by decide +kernel⟩
theorem zi_mM_valueOf : Cond.instanceMethod (zg_my mM_valueOf) ∈ zs_ws := zs_in 533 (by decide +kernel) (by decide +kernel)
theorem zse_mM_valueOf : Cond.selects (zg_my mM_valueOf).cls (zg_my mM_valueOf) (zg_my mM_valueOf) ∈ zs_ws := zs_inP 10 (by decide +kernel) (by decide +kernel)
theorem zk_mM_valueWith : zg_w mM_valueWith ∈ zs_ws := zs_in 538 (by decide +kernel) (by decide +kernel)
theorem zm_mM_valueWith : zg_mth (zs_E P) mM_valueWith 3 := ⟨zk_mM_valueWith, zw_4, by decide +kernel, by decide +kernel, by decide +kernel⟩
theorem zi_mM_valueWith : Cond.instanceMethod (zg_my mM_valueWith) ∈ zs_ws := zs_in 537 (by decide +kernel) (by decide +kernel)
theorem zse_mM_valueWith : Cond.selects (zg_my mM_valueWith).cls (zg_my mM_valueWith) (zg_my mM_valueWith) ∈ zs_ws := zs_inP 11 (by decide +kernel) (by decide +kernel)
theorem zk_mM_fits : zg_w mM_fits ∈ zs_ws := zs_in 542 (by decide +kernel) (by decide +kernel)
theorem zm_mM_fits : zg_mth (zs_E P) mM_fits 3 := ⟨zk_mM_fits, zw_4, by decide +kernel, by decide +kernel, by decide +kernel⟩
theorem zi_mM_fits : Cond.instanceMethod (zg_my mM_fits) ∈ zs_ws := zs_in 541 (by decide +kernel) (by decide +kernel)
theorem zse_mM_fits : Cond.selects (zg_my mM_fits).cls (zg_my mM_fits) (zg_my mM_fits) ∈ zs_ws := zs_inP 12 (by decide +kernel) (by decide +kernel)
theorem zk_mM_work : zg_w mM_work ∈ zs_ws := zs_in 546 (by decide +kernel) (by decide +kernel)
theorem zm_mM_work : zg_mth (zs_E P) mM_work 4 := ⟨zk_mM_work, zw_4, by decide +kernel, by decide +kernel, by decide +kernel⟩
theorem zi_mM_work : Cond.instanceMethod (zg_my mM_work) ∈ zs_ws := zs_in 544 (by decide +kernel) (by decide +kernel)
theorem zse_mM_work : Cond.selects (zg_my mM_work).cls (zg_my mM_work) (zg_my mM_work) ∈ zs_ws := zs_in 545 (by decide +kernel) (by decide +kernel)
theorem zk_mM_reckon : zg_w mM_reckon ∈ zs_ws := zs_in 551 (by decide +kernel) (by decide +kernel)
theorem zm_mM_reckon : zg_mth (zs_E P) mM_reckon 4 := ⟨zk_mM_reckon, zw_4, by decide +kernel, by decide +kernel, by decide +kernel⟩
theorem zi_mM_reckon : Cond.instanceMethod (zg_my mM_reckon) ∈ zs_ws := zs_in 550 (by decide +kernel) (by decide +kernel)
theorem zse_mM_reckon : Cond.selects (zg_my mM_reckon).cls (zg_my mM_reckon) (zg_my mM_reckon) ∈ zs_ws := zs_inP 13 (by decide +kernel) (by decide +kernel)
theorem zk_mM_limit : zg_w mM_limit ∈ zs_ws := zs_in 555 (by decide +kernel) (by decide +kernel)
theorem zm_mM_limit : zg_mth (zs_E P) mM_limit 4 := ⟨zk_mM_limit, zw_4, by decide +kernel, by decide +kernel, by decide +kernel⟩
theorem zi_mM_limit : Cond.instanceMethod (zg_my mM_limit) ∈ zs_ws := zs_in 554 (by decide +kernel) (by decide +kernel)
theorem zse_mM_limit : Cond.selects (zg_my mM_limit).cls (zg_my mM_limit) (zg_my mM_limit) ∈ zs_ws := zs_inP 14 (by decide +kernel) (by decide +kernel)
theorem zk_mM_product : zg_w mM_product ∈ zs_ws := zs_in 558 (by decide +kernel) (by decide +kernel)
theorem zm_mM_product : zg_mth (zs_E P) mM_product 2 := ⟨zk_mM_product, zw_4, by decide +kernel, by decide +kernel, by decide +kernel⟩
theorem zst_mM_product : Cond.static (zg_my mM_product) ∈ zs_ws := zs_in 557 (by decide +kernel) (by decide +kernel)
theorem zk_mM_least : zg_w mM_least ∈ zs_ws := zs_in 563 (by decide +kernel) (by decide +kernel)
theorem zm_mM_least : zg_mth (zs_E P) mM_least 2 := ⟨zk_mM_least, zw_4, by decide +kernel, by decide +kernel, by decide +kernel⟩
theorem zst_mM_least : Cond.static (zg_my mM_least) ∈ zs_ws := zs_in 562 (by decide +kernel) (by decide +kernel)
theorem zk_mM_greatest : zg_w mM_greatest ∈ zs_ws := zs_in 566 (by decide +kernel) (by decide +kernel)
theorem zm_mM_greatest : zg_mth (zs_E P) mM_greatest 2 := ⟨zk_mM_greatest, zw_4, by decide +kernel, by decide +kernel, by decide +kernel⟩
theorem zst_mM_greatest : Cond.static (zg_my mM_greatest) ∈ zs_ws := zs_in 565 (by decide +kernel) (by decide +kernel)
theorem zk_mM_compare : zg_w mM_compare ∈ zs_ws := zs_in 570 (by decide +kernel) (by decide +kernel)
theorem zm_mM_compare : zg_mth (zs_E P) mM_compare 2 := ⟨zk_mM_compare, zw_4, by decide +kernel, by decide +kernel, by decide +kernel⟩
theorem zi_mM_compare : Cond.instanceMethod (zg_my mM_compare) ∈ zs_ws := zs_in 568 (by decide +kernel) (by decide +kernel)
theorem zse_mM_compare : Cond.selects (zg_my mM_compare).cls (zg_my mM_compare) (zg_my mM_compare) ∈ zs_ws := zs_in 569 (by decide +kernel) (by decide +kernel)
theorem zk_mM_scale : zg_w mM_scale ∈ zs_ws := zs_in 574 (by decide +kernel) (by decide +kernel)
theorem zm_mM_scale : zg_mth (zs_E P) mM_scale 4 := ⟨zk_mM_scale, zw_4, by decide +kernel, by decide +kernel, by decide +kernel⟩
theorem zi_mM_scale : Cond.instanceMethod (zg_my mM_scale) ∈ zs_ws := zs_in 572 (by decide +kernel) (by decide +kernel)
theorem zse_mM_scale : Cond.selects (zg_my mM_scale).cls (zg_my mM_scale) (zg_my mM_scale) ∈ zs_ws := zs_in 573 (by decide +kernel) (by decide +kernel)
theorem zk_mM_isModuli : zg_w mM_isModuli ∈ zs_ws := zs_in 577 (by decide +kernel) (by decide +kernel)
theorem zm_mM_isModuli : zg_mth (zs_E P) mM_isModuli 1 := ⟨zk_mM_isModuli, zw_4, by decide +kernel, by decide +kernel, by decide +kernel⟩
theorem zst_mM_isModuli : Cond.static (zg_my mM_isModuli) ∈ zs_ws := zs_in 576 (by decide +kernel) (by decide +kernel)
theorem zk_mM_many : zg_w mM_many ∈ zs_ws := zs_in 581 (by decide +kernel) (by decide +kernel)
theorem zm_mM_many : zg_mth (zs_E P) mM_many 1 := ⟨zk_mM_many, zw_4, by decide +kernel, by decide +kernel, by decide +kernel⟩
theorem zst_mM_many : Cond.static (zg_my mM_many) ∈ zs_ws := zs_in 580 (by decide +kernel) (by decide +kernel)
theorem zk_mM_scaleBy : zg_w mM_scaleBy ∈ zs_ws := zs_in 585 (by decide +kernel) (by decide +kernel)
theorem zm_mM_scaleBy : zg_mth (zs_E P) mM_scaleBy 4 := ⟨zk_mM_scaleBy, zw_4, by decide +kernel, by decide +kernel, by decide +kernel⟩
theorem zi_mM_scaleBy : Cond.instanceMethod (zg_my mM_scaleBy) ∈ zs_ws := zs_in 584 (by decide +kernel) (by decide +kernel)
theorem zse_mM_scaleBy : Cond.selects (zg_my mM_scaleBy).cls (zg_my mM_scaleBy) (zg_my mM_scaleBy) ∈ zs_ws := zs_inP 15 (by decide +kernel) (by decide +kernel)
theorem zk_mM_down : zg_w mM_down ∈ zs_ws := zs_in 588 (by decide +kernel) (by decide +kernel)
theorem zm_mM_down : zg_mth (zs_E P) mM_down 2 := ⟨zk_mM_down, zw_4, by decide +kernel, by decide +kernel, by decide +kernel⟩
theorem zst_mM_down : Cond.static (zg_my mM_down) ∈ zs_ws := zs_in 587 (by decide +kernel) (by decide +kernel)
theorem zk_mM_divide : zg_w mM_divide ∈ zs_ws := zs_in 592 (by decide +kernel) (by decide +kernel)
theorem zm_mM_divide : zg_mth (zs_E P) mM_divide 4 := ⟨zk_mM_divide, zw_4, by decide +kernel, by decide +kernel, by decide +kernel⟩
theorem zi_mM_divide : Cond.instanceMethod (zg_my mM_divide) ∈ zs_ws := zs_in 590 (by decide +kernel) (by decide +kernel)
theorem zse_mM_divide : Cond.selects (zg_my mM_divide).cls (zg_my mM_divide) (zg_my mM_divide) ∈ zs_ws := zs_in 591 (by decide +kernel) (by decide +kernel)
theorem zk_mM_channel : zg_w mM_channel ∈ zs_ws := zs_in 596 (by decide +kernel) (by decide +kernel)
theorem zm_mM_channel : zg_mth (zs_E P) mM_channel 2 := ⟨zk_mM_channel, zw_4, by decide +kernel, by decide +kernel, by decide +kernel⟩
theorem zi_mM_channel : Cond.instanceMethod (zg_my mM_channel) ∈ zs_ws := zs_in 594 (by decide +kernel) (by decide +kernel)
theorem zse_mM_channel : Cond.selects (zg_my mM_channel).cls (zg_my mM_channel) (zg_my mM_channel) ∈ zs_ws := zs_in 595 (by decide +kernel) (by decide +kernel)
theorem zk_mM_inject : zg_w mM_inject ∈ zs_ws := zs_in 601 (by decide +kernel) (by decide +kernel)
theorem zm_mM_inject : zg_mth (zs_E P) mM_inject 3 := ⟨zk_mM_inject, zw_4, by decide +kernel, by decide +kernel, by decide +kernel⟩
theorem zi_mM_inject : Cond.instanceMethod (zg_my mM_inject) ∈ zs_ws := zs_in 599 (by decide +kernel) (by decide +kernel)
theorem zse_mM_inject : Cond.selects (zg_my mM_inject).cls (zg_my mM_inject) (zg_my mM_inject) ∈ zs_ws := zs_in 600 (by decide +kernel) (by decide +kernel)
theorem zk_mM_verify : zg_w mM_verify ∈ zs_ws := zs_in 605 (by decide +kernel) (by decide +kernel)
theorem zm_mM_verify : zg_mth (zs_E P) mM_verify 1 := ⟨zk_mM_verify, zw_4, by decide +kernel, by decide +kernel, by decide +kernel⟩
theorem zi_mM_verify : Cond.instanceMethod (zg_my mM_verify) ∈ zs_ws := zs_in 603 (by decide +kernel) (by decide +kernel)
theorem zse_mM_verify : Cond.selects (zg_my mM_verify).cls (zg_my mM_verify) (zg_my mM_verify) ∈ zs_ws := zs_in 604 (by decide +kernel) (by decide +kernel)
theorem zk_mM_faultOf : zg_w mM_faultOf ∈ zs_ws := zs_in 609 (by decide +kernel) (by decide +kernel)
theorem zm_mM_faultOf : zg_mth (zs_E P) mM_faultOf 1 := ⟨zk_mM_faultOf, zw_4, by decide +kernel, by decide +kernel, by decide +kernel⟩
theorem zi_mM_faultOf : Cond.instanceMethod (zg_my mM_faultOf) ∈ zs_ws := zs_in 608 (by decide +kernel) (by decide +kernel)
theorem zse_mM_faultOf : Cond.selects (zg_my mM_faultOf).cls (zg_my mM_faultOf) (zg_my mM_faultOf) ∈ zs_ws := zs_inP 16 (by decide +kernel) (by decide +kernel)
theorem zk_mM_cure : zg_w mM_cure ∈ zs_ws := zs_in 613 (by decide +kernel) (by decide +kernel)
theorem zm_mM_cure : zg_mth (zs_E P) mM_cure 2 := ⟨zk_mM_cure, zw_4, by decide +kernel, by decide +kernel, by decide +kernel⟩
theorem zi_mM_cure : Cond.instanceMethod (zg_my mM_cure) ∈ zs_ws := zs_in 612 (by decide +kernel) (by decide +kernel)
theorem zse_mM_cure : Cond.selects (zg_my mM_cure).cls (zg_my mM_cure) (zg_my mM_cure) ∈ zs_ws := zs_inP 17 (by decide +kernel) (by decide +kernel)
theorem zk_mM_repair : zg_w mM_repair ∈ zs_ws := zs_in 617 (by decide +kernel) (by decide +kernel)
theorem zm_mM_repair : zg_mth (zs_E P) mM_repair 1 := ⟨zk_mM_repair, zw_4, by decide +kernel, by decide +kernel, by decide +kernel⟩
theorem zi_mM_repair : Cond.instanceMethod (zg_my mM_repair) ∈ zs_ws := zs_in 615 (by decide +kernel) (by decide +kernel)
theorem zse_mM_repair : Cond.selects (zg_my mM_repair).cls (zg_my mM_repair) (zg_my mM_repair) ∈ zs_ws := zs_in 616 (by decide +kernel) (by decide +kernel)
theorem zk_mM_sure : zg_w mM_sure ∈ zs_ws := zs_in 621 (by decide +kernel) (by decide +kernel)
theorem zm_mM_sure : zg_mth (zs_E P) mM_sure 1 := ⟨zk_mM_sure, zw_4, by decide +kernel, by decide +kernel, by decide +kernel⟩
theorem zi_mM_sure : Cond.instanceMethod (zg_my mM_sure) ∈ zs_ws := zs_in 619 (by decide +kernel) (by decide +kernel)
theorem zse_mM_sure : Cond.selects (zg_my mM_sure).cls (zg_my mM_sure) (zg_my mM_sure) ∈ zs_ws := zs_in 620 (by decide +kernel) (by decide +kernel)
theorem zk_mM_bound : zg_w mM_bound ∈ zs_ws := zs_in 625 (by decide +kernel) (by decide +kernel)
theorem zm_mM_bound : zg_mth (zs_E P) mM_bound 2 := ⟨zk_mM_bound, zw_4, by decide +kernel, by decide +kernel, by decide +kernel⟩
theorem zi_mM_bound : Cond.instanceMethod (zg_my mM_bound) ∈ zs_ws := zs_in 623 (by decide +kernel) (by decide +kernel)
theorem zse_mM_bound : Cond.selects (zg_my mM_bound).cls (zg_my mM_bound) (zg_my mM_bound) ∈ zs_ws := zs_in 624 (by decide +kernel) (by decide +kernel)
theorem zk_mM_instruct : zg_w mM_instruct ∈ zs_ws := zs_in 629 (by decide +kernel) (by decide +kernel)
theorem zm_mM_instruct : zg_mth (zs_E P) mM_instruct 5 := ⟨zk_mM_instruct, zw_4, by decide +kernel, by decide +kernel, by decide +kernel⟩
theorem zi_mM_instruct : Cond.instanceMethod (zg_my mM_instruct) ∈ zs_ws := zs_in 627 (by decide +kernel) (by decide +kernel)
theorem zse_mM_instruct : Cond.selects (zg_my mM_instruct).cls (zg_my mM_instruct) (zg_my mM_instruct) ∈ zs_ws := zs_in 628 (by decide +kernel) (by decide +kernel)
theorem zk_mM_isInstruction : zg_w mM_isInstruction ∈ zs_ws := zs_in 632 (by decide +kernel) (by decide +kernel)
theorem zm_mM_isInstruction : zg_mth (zs_E P) mM_isInstruction 1 := ⟨zk_mM_isInstruction, zw_4, by decide +kernel, by decide +kernel, by decide +kernel⟩
theorem zst_mM_isInstruction : Cond.static (zg_my mM_isInstruction) ∈ zs_ws := zs_in 631 (by decide +kernel) (by decide +kernel)
theorem zk_mM_mayBe : zg_w mM_mayBe ∈ zs_ws := zs_in 636 (by decide +kernel) (by decide +kernel)
theorem zm_mM_mayBe : zg_mth (zs_E P) mM_mayBe 4 := ⟨zk_mM_mayBe, zw_4, by decide +kernel, by decide +kernel, by decide +kernel⟩
theorem zst_mM_mayBe : Cond.static (zg_my mM_mayBe) ∈ zs_ws := zs_in 635 (by decide +kernel) (by decide +kernel)
theorem zk_mM_run : zg_w mM_run ∈ zs_ws := zs_in 643 (by decide +kernel) (by decide +kernel)
theorem zm_mM_run : zg_mth (zs_E P) mM_run 1 := ⟨zk_mM_run, zw_4, by decide +kernel, by decide +kernel, by decide +kernel⟩
theorem zi_mM_run : Cond.instanceMethod (zg_my mM_run) ∈ zs_ws := zs_in 641 (by decide +kernel) (by decide +kernel)
theorem zse_mM_run : Cond.selects (zg_my mM_run).cls (zg_my mM_run) (zg_my mM_run) ∈ zs_ws := zs_in 642 (by decide +kernel) (by decide +kernel)
theorem zk_mM_perform : zg_w mM_perform ∈ zs_ws := zs_in 648 (by decide +kernel) (by decide +kernel)
theorem zm_mM_perform : zg_mth (zs_E P) mM_perform 1 := ⟨zk_mM_perform, zw_4, by decide +kernel, by decide +kernel, by decide +kernel⟩
theorem zi_mM_perform : Cond.instanceMethod (zg_my mM_perform) ∈ zs_ws := zs_in 647 (by decide +kernel) (by decide +kernel)
theorem zse_mM_perform : Cond.selects (zg_my mM_perform).cls (zg_my mM_perform) (zg_my mM_perform) ∈ zs_ws := zs_inP 18 (by decide +kernel) (by decide +kernel)
theorem zk_mM_copy : zg_w mM_copy ∈ zs_ws := zs_in 652 (by decide +kernel) (by decide +kernel)
theorem zm_mM_copy : zg_mth (zs_E P) mM_copy 2 := ⟨zk_mM_copy, zw_4, by decide +kernel, by decide +kernel, by decide +kernel⟩
theorem zi_mM_copy : Cond.instanceMethod (zg_my mM_copy) ∈ zs_ws := zs_in 651 (by decide +kernel) (by decide +kernel)
theorem zse_mM_copy : Cond.selects (zg_my mM_copy).cls (zg_my mM_copy) (zg_my mM_copy) ∈ zs_ws := zs_inP 19 (by decide +kernel) (by decide +kernel)
theorem zk_mM_stopped : zg_w mM_stopped ∈ zs_ws := zs_in 656 (by decide +kernel) (by decide +kernel)
theorem zm_mM_stopped : zg_mth (zs_E P) mM_stopped 0 := ⟨zk_mM_stopped, zw_4, by decide +kernel, by decide +kernel, by decide +kernel⟩
theorem zi_mM_stopped : Cond.instanceMethod (zg_my mM_stopped) ∈ zs_ws := zs_in 654 (by decide +kernel) (by decide +kernel)
theorem zse_mM_stopped : Cond.selects (zg_my mM_stopped).cls (zg_my mM_stopped) (zg_my mM_stopped) ∈ zs_ws := zs_in 655 (by decide +kernel) (by decide +kernel)
theorem zl_L_69 : zg_lk (zs_E P) "ResidueUnitLaw" 69 (zg_my mU_init) := Or.inl (zs_in 17 (by decide +kernel) (by decide +kernel))
theorem zl_L_130 : zg_lk (zs_E P) "ResidueUnitLaw" 130 (zg_my mU_stopped) := Or.inl (zs_in 81 (by decide +kernel) (by decide +kernel))
theorem zl_L_75 : zg_lk (zs_E P) "ResidueUnitLaw" 75 (zg_my mL_load) := Or.inl (zs_in 85 (by decide +kernel) (by decide +kernel))
theorem zl_L_7 : zg_lk (zs_E P) "ResidueUnitLaw" 7 (zg_my mU_load) := Or.inl (zs_in 90 (by decide +kernel) (by decide +kernel))
theorem zl_U_30 : zg_lk (zs_E P) "ResidueUnit" 30 (zg_my mU_requireRegister) := Or.inl (zs_in 94 (by decide +kernel) (by decide +kernel))
theorem zl_U_142 : zg_lk (zs_E P) "ResidueUnit" 142 (zg_my mU_isRegister) := Or.inl (zs_in 97 (by decide +kernel) (by decide +kernel))
theorem zl_U_34 : zg_lk (zs_E P) "ResidueUnit" 34 (zg_my mU_inRange) := Or.inl (zs_in 169 (by decide +kernel) (by decide +kernel))
theorem zl_U_45 : zg_lk (zs_E P) "ResidueUnit" 45 (zg_my mR_put) := Or.inl (zs_in 190 (by decide +kernel) (by decide +kernel))
theorem zl_U_193 : zg_lk (zs_E P) "ResidueUnit" 193 (zg_my mJ_floorMod_J) := Or.inl (zs_in 199 (by decide +kernel) (by decide +kernel))
theorem zl_L_85 : zg_lk (zs_E P) "ResidueUnitLaw" 85 (zg_my mL_binary) := Or.inl (zs_in 202 (by decide +kernel) (by decide +kernel))
theorem zl_L_17 : zg_lk (zs_E P) "ResidueUnitLaw" 17 (zg_my mU_binary) := Or.inl (zs_in 206 (by decide +kernel) (by decide +kernel))
theorem zl_U_49 : zg_lk (zs_E P) "ResidueUnit" 49 (zg_my mR_isGood) := Or.inl (zs_in 210 (by decide +kernel) (by decide +kernel))
theorem zl_R_62 : zg_lk (zs_E P) "ResidueUnit$Register" 62 (zg_my mR_value) := Or.inl (zs_in 214 (by decide +kernel) (by decide +kernel))
theorem zl_R_66 : zg_lk (zs_E P) "ResidueUnit$Register" 66 (zg_my mR_fits) := Or.inl (zs_in 222 (by decide +kernel) (by decide +kernel))
theorem zl_U_58 : zg_lk (zs_E P) "ResidueUnit" 58 (zg_my mR_value) := Or.inl (zs_in 243 (by decide +kernel) (by decide +kernel))
theorem zl_L_89 : zg_lk (zs_E P) "ResidueUnitLaw" 89 (zg_my mL_work) := Or.inl (zs_in 244 (by decide +kernel) (by decide +kernel))
theorem zl_L_23 : zg_lk (zs_E P) "ResidueUnitLaw" 23 (zg_my mU_work) := Or.inl (zs_in 247 (by decide +kernel) (by decide +kernel))
theorem zl_U_64 : zg_lk (zs_E P) "ResidueUnit" 64 (zg_my mR_combine) := Or.inl (zs_in 252 (by decide +kernel) (by decide +kernel))
theorem zl_U_196 : zg_lk (zs_E P) "ResidueUnit" 196 (zg_my mU_cappedProduct) := Or.inl (zs_in 262 (by decide +kernel) (by decide +kernel))
theorem zl_U_199 : zg_lk (zs_E P) "ResidueUnit" 199 (zg_my mJ_abs) := Or.inl (zs_in 265 (by decide +kernel) (by decide +kernel))
theorem zl_L_93 : zg_lk (zs_E P) "ResidueUnitLaw" 93 (zg_my mL_compare) := Or.inl (zs_in 270 (by decide +kernel) (by decide +kernel))
theorem zl_L_27 : zg_lk (zs_E P) "ResidueUnitLaw" 27 (zg_my mU_compare) := Or.inl (zs_in 273 (by decide +kernel) (by decide +kernel))
theorem zl_L_97 : zg_lk (zs_E P) "ResidueUnitLaw" 97 (zg_my mL_scale) := Or.inl (zs_in 277 (by decide +kernel) (by decide +kernel))
theorem zl_L_31 : zg_lk (zs_E P) "ResidueUnitLaw" 31 (zg_my mU_scale) := Or.inl (zs_in 280 (by decide +kernel) (by decide +kernel))
theorem zl_U_68 : zg_lk (zs_E P) "ResidueUnit" 68 (zg_my mU_areScalingModuli) := Or.inl (zs_in 284 (by decide +kernel) (by decide +kernel))
theorem zl_U_149 : zg_lk (zs_E P) "ResidueUnit" 149 (zg_my mJ_bitCount) := Or.inl (zs_in 287 (by decide +kernel) (by decide +kernel))
theorem zl_U_74 : zg_lk (zs_E P) "ResidueUnit" 74 (zg_my mU_putScaled) := Or.inl (zs_in 294 (by decide +kernel) (by decide +kernel))
theorem zl_U_178 : zg_lk (zs_E P) "ResidueUnit" 178 (zg_my mU_productOf) := Or.inl (zs_in 298 (by decide +kernel) (by decide +kernel))
theorem zl_U_184 : zg_lk (zs_E P) "ResidueUnit" 184 (zg_my mJ_floorDiv) := Or.inl (zs_in 302 (by decide +kernel) (by decide +kernel))
theorem zl_L_101 : zg_lk (zs_E P) "ResidueUnitLaw" 101 (zg_my mL_divide) := Or.inl (zs_in 305 (by decide +kernel) (by decide +kernel))
theorem zl_L_35 : zg_lk (zs_E P) "ResidueUnitLaw" 35 (zg_my mU_divide) := Or.inl (zs_in 309 (by decide +kernel) (by decide +kernel))
theorem zl_L_104 : zg_lk (zs_E P) "ResidueUnitLaw" 104 (zg_my mL_channel) := Or.inl (zs_in 329 (by decide +kernel) (by decide +kernel))
theorem zl_L_40 : zg_lk (zs_E P) "ResidueUnitLaw" 40 (zg_my mU_channel) := Or.inl (zs_in 332 (by decide +kernel) (by decide +kernel))
theorem zl_U_83 : zg_lk (zs_E P) "ResidueUnit" 83 (zg_my mU_requireChannel) := Or.inl (zs_in 336 (by decide +kernel) (by decide +kernel))
theorem zl_L_107 : zg_lk (zs_E P) "ResidueUnitLaw" 107 (zg_my mL_inject) := Or.inl (zs_in 340 (by decide +kernel) (by decide +kernel))
theorem zl_L_43 : zg_lk (zs_E P) "ResidueUnitLaw" 43 (zg_my mU_inject) := Or.inl (zs_in 343 (by decide +kernel) (by decide +kernel))
theorem zl_U_90 : zg_lk (zs_E P) "ResidueUnit" 90 (zg_my mR_shift) := Or.inl (zs_in 347 (by decide +kernel) (by decide +kernel))
theorem zl_R_48 : zg_lk (zs_E P) "ResidueUnit$Register" 48 (zg_my mJ_floorMod_I) := Or.inl (zs_in 352 (by decide +kernel) (by decide +kernel))
theorem zl_L_111 : zg_lk (zs_E P) "ResidueUnitLaw" 111 (zg_my mL_verify) := Or.inl (zs_in 355 (by decide +kernel) (by decide +kernel))
theorem zl_L_47 : zg_lk (zs_E P) "ResidueUnitLaw" 47 (zg_my mU_verify) := Or.inl (zs_in 358 (by decide +kernel) (by decide +kernel))
theorem zl_U_94 : zg_lk (zs_E P) "ResidueUnit" 94 (zg_my mR_fault) := Or.inl (zs_in 362 (by decide +kernel) (by decide +kernel))
theorem zl_R_70 : zg_lk (zs_E P) "ResidueUnit$Register" 70 (zg_my mR_isGood) := Or.inl (zs_in 366 (by decide +kernel) (by decide +kernel))
theorem zl_R_74 : zg_lk (zs_E P) "ResidueUnit$Register" 74 (zg_my mR_healingResidue) := Or.inl (zs_in 367 (by decide +kernel) (by decide +kernel))
theorem zl_R_78 : zg_lk (zs_E P) "ResidueUnit$Register" 78 (zg_my mR_numberWithout) := Or.inl (zs_in 371 (by decide +kernel) (by decide +kernel))
theorem zl_R_82 : zg_lk (zs_E P) "ResidueUnit$Register" 82 (zg_my mJ_floorMod_J) := Or.inl (zs_in 375 (by decide +kernel) (by decide +kernel))
theorem zl_L_114 : zg_lk (zs_E P) "ResidueUnitLaw" 114 (zg_my mL_repair) := Or.inl (zs_in 378 (by decide +kernel) (by decide +kernel))
theorem zl_L_51 : zg_lk (zs_E P) "ResidueUnitLaw" 51 (zg_my mU_repair) := Or.inl (zs_in 381 (by decide +kernel) (by decide +kernel))
theorem zl_U_100 : zg_lk (zs_E P) "ResidueUnit" 100 (zg_my mR_heal) := Or.inl (zs_in 386 (by decide +kernel) (by decide +kernel))
theorem zl_L_117 : zg_lk (zs_E P) "ResidueUnitLaw" 117 (zg_my mL_sure) := Or.inl (zs_in 390 (by decide +kernel) (by decide +kernel))
theorem zl_L_54 : zg_lk (zs_E P) "ResidueUnitLaw" 54 (zg_my mU_sure) := Or.inl (zs_in 393 (by decide +kernel) (by decide +kernel))
theorem zl_L_120 : zg_lk (zs_E P) "ResidueUnitLaw" 120 (zg_my mL_bound) := Or.inl (zs_in 397 (by decide +kernel) (by decide +kernel))
theorem zl_L_58 : zg_lk (zs_E P) "ResidueUnitLaw" 58 (zg_my mU_bound) := Or.inl (zs_in 400 (by decide +kernel) (by decide +kernel))
theorem zl_L_123 : zg_lk (zs_E P) "ResidueUnitLaw" 123 (zg_my mL_instruct) := Or.inl (zs_in 406 (by decide +kernel) (by decide +kernel))
theorem zl_L_62 : zg_lk (zs_E P) "ResidueUnitLaw" 62 (zg_my mU_instruct) := Or.inl (zs_in 409 (by decide +kernel) (by decide +kernel))
theorem zl_U_115 : zg_lk (zs_E P) "ResidueUnit" 115 (zg_my mU_isInstruction) := Or.inl (zs_in 413 (by decide +kernel) (by decide +kernel))
theorem zl_U_123 : zg_lk (zs_E P) "ResidueUnit" 123 (zg_my mU_isAllowed) := Or.inl (zs_in 417 (by decide +kernel) (by decide +kernel))
theorem zl_U_129 : zg_lk (zs_E P) "ResidueUnit" 129 (zg_my mI_become) := Or.inl (zs_in 421 (by decide +kernel) (by decide +kernel))
theorem zl_L_127 : zg_lk (zs_E P) "ResidueUnitLaw" 127 (zg_my mL_run) := Or.inl (zs_in 425 (by decide +kernel) (by decide +kernel))
theorem zl_L_66 : zg_lk (zs_E P) "ResidueUnitLaw" 66 (zg_my mU_run) := Or.inl (zs_in 428 (by decide +kernel) (by decide +kernel))
theorem zl_U_135 : zg_lk (zs_E P) "ResidueUnit" 135 (zg_my mU_step) := Or.inl (zs_in 433 (by decide +kernel) (by decide +kernel))
theorem zl_U_167 : zg_lk (zs_E P) "ResidueUnit" 167 (zg_my mU_calculate) := Or.inl (zs_in 437 (by decide +kernel) (by decide +kernel))
theorem zl_U_174 : zg_lk (zs_E P) "ResidueUnit" 174 (zg_my mR_copyFrom) := Or.inl (zs_in 441 (by decide +kernel) (by decide +kernel))
theorem zl_U_139 : zg_lk (zs_E P) "ResidueUnit" 139 (zg_my mU_reasonAt) := Or.inl (zs_in 448 (by decide +kernel) (by decide +kernel))
theorem zl_L_72 : zg_lk (zs_E P) "ResidueUnitLaw" 72 (zg_my mM_init) := Or.inl (zs_in 453 (by decide +kernel) (by decide +kernel))
theorem zl_L_81 : zg_lk (zs_E P) "ResidueUnitLaw" 81 (zg_my mM_thrown) := Or.inl (zs_in 497 (by decide +kernel) (by decide +kernel))
theorem zl_L_80 : zg_lk (zs_E P) "ResidueUnitLaw" 80 (zg_my mM_load) := Or.inl (zs_in 501 (by decide +kernel) (by decide +kernel))
theorem zl_M_68 : zg_lk (zs_E P) "ResidueUnitModel" 68 (zg_my mM_isRegister) := Or.inl (zs_in 505 (by decide +kernel) (by decide +kernel))
theorem zl_M_48 : zg_lk (zs_E P) "ResidueUnitModel" 48 (zg_my mM_in) := Or.inl (zs_in 509 (by decide +kernel) (by decide +kernel))
theorem zl_M_72 : zg_lk (zs_E P) "ResidueUnitModel" 72 (zg_my mM_refuse) := Or.inl (zs_in 512 (by decide +kernel) (by decide +kernel))
theorem zl_M_76 : zg_lk (zs_E P) "ResidueUnitModel" 76 (zg_my mM_put) := Or.inl (zs_in 516 (by decide +kernel) (by decide +kernel))
theorem zl_M_56 : zg_lk (zs_E P) "ResidueUnitModel" 56 (zg_my mM_rest) := Or.inl (zs_in 520 (by decide +kernel) (by decide +kernel))
theorem zl_L_88 : zg_lk (zs_E P) "ResidueUnitLaw" 88 (zg_my mM_binary) := Or.inl (zs_in 523 (by decide +kernel) (by decide +kernel))
theorem zl_M_80 : zg_lk (zs_E P) "ResidueUnitModel" 80 (zg_my mM_isGood) := Or.inl (zs_in 527 (by decide +kernel) (by decide +kernel))
theorem zl_M_60 : zg_lk (zs_E P) "ResidueUnitModel" 60 (zg_my mM_valueOf) := Or.inl (zs_in 531 (by decide +kernel) (by decide +kernel))
theorem zl_M_52 : zg_lk (zs_E P) "ResidueUnitModel" 52 (zg_my mM_valueWith) := Or.inl (zs_in 535 (by decide +kernel) (by decide +kernel))
theorem zl_M_64 : zg_lk (zs_E P) "ResidueUnitModel" 64 (zg_my mM_fits) := Or.inl (zs_in 539 (by decide +kernel) (by decide +kernel))
theorem zl_L_92 : zg_lk (zs_E P) "ResidueUnitLaw" 92 (zg_my mM_work) := Or.inl (zs_in 543 (by decide +kernel) (by decide +kernel))
theorem zl_M_103 : zg_lk (zs_E P) "ResidueUnitModel" 103 (zg_my mM_reckon) := Or.inl (zs_in 548 (by decide +kernel) (by decide +kernel))
theorem zl_M_97 : zg_lk (zs_E P) "ResidueUnitModel" 97 (zg_my mM_limit) := Or.inl (zs_in 552 (by decide +kernel) (by decide +kernel))
theorem zl_M_87 : zg_lk (zs_E P) "ResidueUnitModel" 87 (zg_my mM_product) := Or.inl (zs_in 556 (by decide +kernel) (by decide +kernel))
theorem zl_M_91 : zg_lk (zs_E P) "ResidueUnitModel" 91 (zg_my mM_least) := Or.inl (zs_in 561 (by decide +kernel) (by decide +kernel))
theorem zl_M_94 : zg_lk (zs_E P) "ResidueUnitModel" 94 (zg_my mM_greatest) := Or.inl (zs_in 564 (by decide +kernel) (by decide +kernel))
theorem zl_L_96 : zg_lk (zs_E P) "ResidueUnitLaw" 96 (zg_my mM_compare) := Or.inl (zs_in 567 (by decide +kernel) (by decide +kernel))
theorem zl_L_100 : zg_lk (zs_E P) "ResidueUnitLaw" 100 (zg_my mM_scale) := Or.inl (zs_in 571 (by decide +kernel) (by decide +kernel))
theorem zl_M_115 : zg_lk (zs_E P) "ResidueUnitModel" 115 (zg_my mM_isModuli) := Or.inl (zs_in 575 (by decide +kernel) (by decide +kernel))
theorem zl_M_108 : zg_lk (zs_E P) "ResidueUnitModel" 108 (zg_my mM_many) := Or.inl (zs_in 579 (by decide +kernel) (by decide +kernel))
theorem zl_M_118 : zg_lk (zs_E P) "ResidueUnitModel" 118 (zg_my mM_scaleBy) := Or.inl (zs_in 582 (by decide +kernel) (by decide +kernel))
theorem zl_M_112 : zg_lk (zs_E P) "ResidueUnitModel" 112 (zg_my mM_down) := Or.inl (zs_in 586 (by decide +kernel) (by decide +kernel))
theorem zl_L_103 : zg_lk (zs_E P) "ResidueUnitLaw" 103 (zg_my mM_divide) := Or.inl (zs_in 589 (by decide +kernel) (by decide +kernel))
theorem zl_L_106 : zg_lk (zs_E P) "ResidueUnitLaw" 106 (zg_my mM_channel) := Or.inl (zs_in 593 (by decide +kernel) (by decide +kernel))
theorem zl_L_110 : zg_lk (zs_E P) "ResidueUnitLaw" 110 (zg_my mM_inject) := Or.inl (zs_in 598 (by decide +kernel) (by decide +kernel))
theorem zl_L_113 : zg_lk (zs_E P) "ResidueUnitLaw" 113 (zg_my mM_verify) := Or.inl (zs_in 602 (by decide +kernel) (by decide +kernel))
theorem zl_M_128 : zg_lk (zs_E P) "ResidueUnitModel" 128 (zg_my mM_faultOf) := Or.inl (zs_in 606 (by decide +kernel) (by decide +kernel))
theorem zl_M_124 : zg_lk (zs_E P) "ResidueUnitModel" 124 (zg_my mM_cure) := Or.inl (zs_in 610 (by decide +kernel) (by decide +kernel))
theorem zl_L_116 : zg_lk (zs_E P) "ResidueUnitLaw" 116 (zg_my mM_repair) := Or.inl (zs_in 614 (by decide +kernel) (by decide +kernel))
theorem zl_L_119 : zg_lk (zs_E P) "ResidueUnitLaw" 119 (zg_my mM_sure) := Or.inl (zs_in 618 (by decide +kernel) (by decide +kernel))
theorem zl_L_122 : zg_lk (zs_E P) "ResidueUnitLaw" 122 (zg_my mM_bound) := Or.inl (zs_in 622 (by decide +kernel) (by decide +kernel))
theorem zl_L_126 : zg_lk (zs_E P) "ResidueUnitLaw" 126 (zg_my mM_instruct) := Or.inl (zs_in 626 (by decide +kernel) (by decide +kernel))
theorem zl_M_133 : zg_lk (zs_E P) "ResidueUnitModel" 133 (zg_my mM_isInstruction) := Or.inl (zs_in 630 (by decide +kernel) (by decide +kernel))
theorem zl_M_142 : zg_lk (zs_E P) "ResidueUnitModel" 142 (zg_my mM_mayBe) := Or.inl (zs_in 634 (by decide +kernel) (by decide +kernel))
theorem zl_L_129 : zg_lk (zs_E P) "ResidueUnitLaw" 129 (zg_my mM_run) := Or.inl (zs_in 640 (by decide +kernel) (by decide +kernel))
theorem zl_M_158 : zg_lk (zs_E P) "ResidueUnitModel" 158 (zg_my mM_perform) := Or.inl (zs_in 645 (by decide +kernel) (by decide +kernel))
theorem zl_M_146 : zg_lk (zs_E P) "ResidueUnitModel" 146 (zg_my mM_copy) := Or.inl (zs_in 649 (by decide +kernel) (by decide +kernel))
theorem zl_L_133 : zg_lk (zs_E P) "ResidueUnitLaw" 133 (zg_my mM_stopped) := Or.inl (zs_in 653 (by decide +kernel) (by decide +kernel))
theorem zl_U_28 : zg_lk (zs_E P) "ResidueUnit" 28 (zg_my mR_init) := Or.inr ⟨"ResidueUnit", zs_in 28 (by decide +kernel) (by decide +kernel)⟩
theorem zl_U_29 : zg_lk (zs_E P) "ResidueUnit" 29 (zg_my mI_init) := Or.inr ⟨"ResidueUnit", zs_in 47 (by decide +kernel) (by decide +kernel)⟩
theorem zl_R_23 : zg_lk (zs_E P) "ResidueUnit$Register" 23 (zg_my mU_residueOf) := Or.inr ⟨"ResidueUnit", zs_in 194 (by decide +kernel) (by decide +kernel)⟩
theorem zl_R_41 : zg_lk (zs_E P) "ResidueUnit$Register" 41 (zg_my mU_inRange) := Or.inr ⟨"ResidueUnit", zs_in 226 (by decide +kernel) (by decide +kernel)⟩
theorem zl_R_33 : zg_lk (zs_E P) "ResidueUnit$Register" 33 (zg_my mU_combineResidues) := Or.inr ⟨"ResidueUnit", zs_in 256 (by decide +kernel) (by decide +kernel)⟩
theorem zl_R_37 : zg_lk (zs_E P) "ResidueUnit$Register" 37 (zg_my mU_combineNumbers) := Or.inr ⟨"ResidueUnit", zs_in 259 (by decide +kernel) (by decide +kernel)⟩
theorem zf_R_9 : zg_fld (zs_E P) "ResidueUnit$Register" 9 1 0 := ⟨_, _, _, rfl, by decide, zs_in 32 (by decide +kernel) (by decide +kernel), zs_uw1⟩
theorem zf_U_86 : zg_fld (zs_E P) "ResidueUnit" 86 1 0 := ⟨_, _, _, rfl, by decide, zs_in 33 (by decide +kernel) (by decide +kernel), zs_uw1⟩
theorem zf_R_15 : zg_fld (zs_E P) "ResidueUnit$Register" 15 1 1 := ⟨_, _, _, rfl, by decide, zs_in 34 (by decide +kernel) (by decide +kernel), zs_uw1⟩
theorem zf_U_111 : zg_fld (zs_E P) "ResidueUnit" 111 1 1 := ⟨_, _, _, rfl, by decide, zs_in 35 (by decide +kernel) (by decide +kernel), zs_uw1⟩
theorem zf_R_19 : zg_fld (zs_E P) "ResidueUnit$Register" 19 1 2 := ⟨_, _, _, rfl, by decide, zs_in 36 (by decide +kernel) (by decide +kernel), zs_uw1⟩
theorem zf_U_103 : zg_fld (zs_E P) "ResidueUnit" 103 1 2 := ⟨_, _, _, rfl, by decide, zs_in 37 (by decide +kernel) (by decide +kernel), zs_uw1⟩
theorem zf_I_9 : zg_fld (zs_E P) "ResidueUnit$Instruction" 9 2 0 := ⟨_, _, _, rfl, by decide, zs_in 51 (by decide +kernel) (by decide +kernel), zs_uw2⟩
theorem zf_U_158 : zg_fld (zs_E P) "ResidueUnit" 158 2 0 := ⟨_, _, _, rfl, by decide, zs_in 52 (by decide +kernel) (by decide +kernel), zs_uw2⟩
theorem zf_I_15 : zg_fld (zs_E P) "ResidueUnit$Instruction" 15 2 1 := ⟨_, _, _, rfl, by decide, zs_in 53 (by decide +kernel) (by decide +kernel), zs_uw2⟩
theorem zf_U_161 : zg_fld (zs_E P) "ResidueUnit" 161 2 1 := ⟨_, _, _, rfl, by decide, zs_in 54 (by decide +kernel) (by decide +kernel), zs_uw2⟩
theorem zf_I_18 : zg_fld (zs_E P) "ResidueUnit$Instruction" 18 2 2 := ⟨_, _, _, rfl, by decide, zs_in 55 (by decide +kernel) (by decide +kernel), zs_uw2⟩
theorem zf_U_164 : zg_fld (zs_E P) "ResidueUnit" 164 2 2 := ⟨_, _, _, rfl, by decide, zs_in 56 (by decide +kernel) (by decide +kernel), zs_uw2⟩
theorem zf_I_21 : zg_fld (zs_E P) "ResidueUnit$Instruction" 21 2 3 := ⟨_, _, _, rfl, by decide, zs_in 57 (by decide +kernel) (by decide +kernel), zs_uw2⟩
theorem zf_U_171 : zg_fld (zs_E P) "ResidueUnit" 171 2 3 := ⟨_, _, _, rfl, by decide, zs_in 58 (by decide +kernel) (by decide +kernel), zs_uw2⟩
theorem zf_U_11 : zg_fld (zs_E P) "ResidueUnit" 11 0 0 := ⟨_, _, _, rfl, by decide, zs_in 68 (by decide +kernel) (by decide +kernel), zs_uw0⟩
theorem zf_U_17 : zg_fld (zs_E P) "ResidueUnit" 17 0 1 := ⟨_, _, _, rfl, by decide, zs_in 69 (by decide +kernel) (by decide +kernel), zs_uw0⟩
theorem zf_U_21 : zg_fld (zs_E P) "ResidueUnit" 21 0 2 := ⟨_, _, _, rfl, by decide, zs_in 70 (by decide +kernel) (by decide +kernel), zs_uw0⟩
theorem zf_U_25 : zg_fld (zs_E P) "ResidueUnit" 25 0 3 := ⟨_, _, _, rfl, by decide, zs_in 71 (by decide +kernel) (by decide +kernel), zs_uw0⟩
theorem zg_U_190 : Cond.fieldLink "ResidueUnit" 190 "ResidueUnit" "MODULI" "[I" ∈ zs_ws := zs_in 197 (by decide +kernel) (by decide +kernel)
theorem zf_M_42 : zg_fld (zs_E P) "ResidueUnitModel" 42 3 0 := ⟨_, _, _, rfl, by decide, zs_in 458 (by decide +kernel) (by decide +kernel), zs_uw3⟩
theorem zf_M_7 : zg_fld (zs_E P) "ResidueUnitModel" 7 3 1 := ⟨_, _, _, rfl, by decide, zs_in 459 (by decide +kernel) (by decide +kernel), zs_uw3⟩
theorem zf_M_13 : zg_fld (zs_E P) "ResidueUnitModel" 13 3 2 := ⟨_, _, _, rfl, by decide, zs_in 460 (by decide +kernel) (by decide +kernel), zs_uw3⟩
theorem zf_M_16 : zg_fld (zs_E P) "ResidueUnitModel" 16 3 3 := ⟨_, _, _, rfl, by decide, zs_in 461 (by decide +kernel) (by decide +kernel), zs_uw3⟩
theorem zf_M_20 : zg_fld (zs_E P) "ResidueUnitModel" 20 3 4 := ⟨_, _, _, rfl, by decide, zs_in 462 (by decide +kernel) (by decide +kernel), zs_uw3⟩
theorem zf_M_23 : zg_fld (zs_E P) "ResidueUnitModel" 23 3 5 := ⟨_, _, _, rfl, by decide, zs_in 463 (by decide +kernel) (by decide +kernel), zs_uw3⟩
theorem zf_M_27 : zg_fld (zs_E P) "ResidueUnitModel" 27 3 6 := ⟨_, _, _, rfl, by decide, zs_in 464 (by decide +kernel) (by decide +kernel), zs_uw3⟩
theorem zf_M_33 : zg_fld (zs_E P) "ResidueUnitModel" 33 3 7 := ⟨_, _, _, rfl, by decide, zs_in 465 (by decide +kernel) (by decide +kernel), zs_uw3⟩
theorem zf_M_39 : zg_fld (zs_E P) "ResidueUnitModel" 39 3 8 := ⟨_, _, _, rfl, by decide, zs_in 466 (by decide +kernel) (by decide +kernel), zs_uw3⟩
theorem zf_M_30 : zg_fld (zs_E P) "ResidueUnitModel" 30 3 9 := ⟨_, _, _, rfl, by decide, zs_in 467 (by decide +kernel) (by decide +kernel), zs_uw3⟩
theorem zf_M_150 : zg_fld (zs_E P) "ResidueUnitModel" 150 3 10 := ⟨_, _, _, rfl, by decide, zs_in 468 (by decide +kernel) (by decide +kernel), zs_uw3⟩
theorem zf_M_155 : zg_fld (zs_E P) "ResidueUnitModel" 155 3 11 := ⟨_, _, _, rfl, by decide, zs_in 469 (by decide +kernel) (by decide +kernel), zs_uw3⟩
theorem zg_R_54 : Cond.fieldLinkNest "ResidueUnit$Register" 54 "ResidueUnit" "WEIGHTS" "[J" "ResidueUnit" ∈ zs_ws := zs_in 218 (by decide +kernel) (by decide +kernel)
theorem zg_R_45 : Cond.fieldLinkNest "ResidueUnit$Register" 45 "ResidueUnit" "MODULI" "[I" "ResidueUnit" ∈ zs_ws := zs_in 351 (by decide +kernel) (by decide +kernel)
theorem zg_R_85 : Cond.fieldLinkNest "ResidueUnit$Register" 85 "ResidueUnit" "WITNESS_INVERSES" "[I" "ResidueUnit" ∈ zs_ws := zs_in 376 (by decide +kernel) (by decide +kernel)
theorem zc_U_154 : Cond.constantLong "ResidueUnit" 154 (mz_L (-87553987462305)) ∈ zs_ws := zs_in 172 (by decide +kernel) (by decide +kernel)
theorem zc_U_156 : Cond.constantLong "ResidueUnit" 156 (mz_L (87553987462305)) ∈ zs_ws := zs_in 173 (by decide +kernel) (by decide +kernel)
theorem zc_R_58 : Cond.constantLong "ResidueUnit$Register" 58 (mz_L (175107974924611)) ∈ zs_ws := zs_in 220 (by decide +kernel) (by decide +kernel)
theorem zc_R_60 : Cond.constantLong "ResidueUnit$Register" 60 (mz_L (87553987462305)) ∈ zs_ws := zs_in 221 (by decide +kernel) (by decide +kernel)
theorem zc_U_203 : Cond.constantLong "ResidueUnit" 203 (mz_L (175107974924610)) ∈ zs_ws := zs_in 268 (by decide +kernel) (by decide +kernel)
theorem zc_U_205 : Cond.constantLong "ResidueUnit" 205 (mz_L (175107974924611)) ∈ zs_ws := zs_in 269 (by decide +kernel) (by decide +kernel)
theorem zc_U_182 : Cond.constantLong "ResidueUnit" 182 (mz_L (2)) ∈ zs_ws := zs_in 301 (by decide +kernel) (by decide +kernel)
theorem zc_M_37 : Cond.constantLong "ResidueUnitModel" 37 (mz_L (2)) ∈ zs_ws := zs_in 457 (by decide +kernel) (by decide +kernel)
theorem zc_M_46 : Cond.constantLong "ResidueUnitModel" 46 (mz_L (15)) ∈ zs_ws := zs_in 508 (by decide +kernel) (by decide +kernel)
theorem zc_M_101 : Cond.constantLong "ResidueUnitModel" 101 (mz_L (3)) ∈ zs_ws := zs_in 547 (by decide +kernel) (by decide +kernel)
theorem zc_M_83 : Cond.constantLong "ResidueUnitModel" 83 (mz_L (350215949849222)) ∈ zs_ws := zs_in 559 (by decide +kernel) (by decide +kernel)
theorem zc_M_85 : Cond.constantLong "ResidueUnitModel" 85 (mz_L (525323924773833)) ∈ zs_ws := zs_in 560 (by decide +kernel) (by decide +kernel)
theorem zc_M_106 : Cond.constantLong "ResidueUnitModel" 106 (mz_L (63)) ∈ zs_ws := zs_in 578 (by decide +kernel) (by decide +kernel)
theorem zc_M_122 : Cond.constantLong "ResidueUnitModel" 122 (mz_L (8)) ∈ zs_ws := zs_in 597 (by decide +kernel) (by decide +kernel)
theorem zc_M_131 : Cond.constantLong "ResidueUnitModel" 131 (mz_L (31)) ∈ zs_ws := zs_in 633 (by decide +kernel) (by decide +kernel)
theorem zc_M_136 : Cond.constantLong "ResidueUnitModel" 136 (mz_L (1000)) ∈ zs_ws := zs_in 637 (by decide +kernel) (by decide +kernel)
theorem zc_M_138 : Cond.constantLong "ResidueUnitModel" 138 (mz_L (-128)) ∈ zs_ws := zs_in 638 (by decide +kernel) (by decide +kernel)
theorem zc_M_140 : Cond.constantLong "ResidueUnitModel" 140 (mz_L (127)) ∈ zs_ws := zs_in 639 (by decide +kernel) (by decide +kernel)
theorem zc_M_153 : Cond.constantLong "ResidueUnitModel" 153 (mz_L (2000)) ∈ zs_ws := zs_in 644 (by decide +kernel) (by decide +kernel)
theorem zc_L_73 : Cond.constantLong "ResidueUnitLaw" 73 (mz_L (4294967295)) ∈ zs_ws := zs_in 657 (by decide +kernel) (by decide +kernel)
theorem zc_J_265 : Cond.constant "java/lang/Integer" 265 (1431655765) ∈ zs_ws := zs_in 290 (by decide +kernel) (by decide +kernel)
theorem zc_J_266 : Cond.constant "java/lang/Integer" 266 (858993459) ∈ zs_ws := zs_in 291 (by decide +kernel) (by decide +kernel)
theorem zc_J_267 : Cond.constant "java/lang/Integer" 267 (252645135) ∈ zs_ws := zs_in 292 (by decide +kernel) (by decide +kernel)
theorem zcl_L_8 : Cond.classLink "ResidueUnitLaw" 8 "ResidueUnit" ∈ zs_ws := zs_in 15 (by decide +kernel) (by decide +kernel)
theorem zcl_U_9 : Cond.classLink "ResidueUnit" 9 "ResidueUnit$Register" ∈ zs_ws := zs_in 23 (by decide +kernel) (by decide +kernel)
theorem zcl_U_15 : Cond.classLink "ResidueUnit" 15 "ResidueUnit$Instruction" ∈ zs_ws := zs_in 25 (by decide +kernel) (by decide +kernel)
theorem zcl_L_13 : Cond.classLink "ResidueUnitLaw" 13 "java/lang/IndexOutOfBoundsException" ∈ zs_ws := zs_in 88 (by decide +kernel) (by decide +kernel)
theorem zcl_L_15 : Cond.classLink "ResidueUnitLaw" 15 "java/lang/IllegalArgumentException" ∈ zs_ws := zs_in 89 (by decide +kernel) (by decide +kernel)
theorem zcl_U_118 : Cond.classLink "ResidueUnit" 118 "java/lang/IndexOutOfBoundsException" ∈ zs_ws := zs_in 100 (by decide +kernel) (by decide +kernel)
theorem zcl_U_38 : Cond.classLink "ResidueUnit" 38 "java/lang/IllegalArgumentException" ∈ zs_ws := zs_in 174 (by decide +kernel) (by decide +kernel)
theorem zcl_L_21 : Cond.classLink "ResidueUnitLaw" 21 "java/lang/IllegalStateException" ∈ zs_ws := zs_in 205 (by decide +kernel) (by decide +kernel)
theorem zcl_U_53 : Cond.classLink "ResidueUnit" 53 "java/lang/IllegalStateException" ∈ zs_ws := zs_in 227 (by decide +kernel) (by decide +kernel)
theorem zcl_L_38 : Cond.classLink "ResidueUnitLaw" 38 "java/lang/ArithmeticException" ∈ zs_ws := zs_in 308 (by decide +kernel) (by decide +kernel)
theorem zcl_U_78 : Cond.classLink "ResidueUnit" 78 "java/lang/ArithmeticException" ∈ zs_ws := zs_in 313 (by decide +kernel) (by decide +kernel)
theorem zcl_L_70 : Cond.classLink "ResidueUnitLaw" 70 "ResidueUnitModel" ∈ zs_ws := zs_in 451 (by decide +kernel) (by decide +kernel)
end ZF1
end
section
abbrev zs_σ (P : zs_P) (S : zs_S) (th : Int32) (S2 : zs_S2) (o : Int64) (w : Nat × Nat) : zg_H := (zs_hp (zp_ca P) (zp_B P) S th S2 o, w)
def zs_sre (S : zs_S) (i k v : Nat) : zs_S := (S.1, S.2.1, zs_u2 (zs_re S) i k v, zs_ex S, zs_su S, zs_pg S)
def zs_sex (S : zs_S) (i : Nat) (v : Int) : zs_S := (S.1, S.2.1, zs_re S, zs_u1 (zs_ex S) i v, zs_su S, zs_pg S)
def zs_ssu (S : zs_S) (i : Nat) (b : Bool) : zs_S := (S.1, S.2.1, zs_re S, zs_ex S, zs_u1 (zs_su S) i b, zs_pg S)
def zs_scn (S : zs_S) (v : Int32) : zs_S := (v, S.2.1, zs_re S, zs_ex S, zs_su S, zs_pg S)
def zs_ssr (S : zs_S) (v : Int32) : zs_S := (S.1, v, zs_re S, zs_ex S, zs_su S, zs_pg S)
def zs_spg (S : zs_S) (i k : Nat) (v : Int32) : zs_S := (S.1, S.2.1, zs_re S, zs_ex S, zs_su S, zs_u2 (zs_pg S) i k v)
section ZS3
variable {P : zs_P} {S : zs_S} {S2 : zs_S2} {th : Int32} {o : Int64} {w : Nat × Nat}
/-- two units that differ at one place -/
theorem zs_hp_u {S' : zs_S} {n : Nat} (h : ∀ k, k ≠ n → zs_uc (zp_ca P) (zp_B P) S' k = zs_uc (zp_ca P) (zp_B P) S k) : ∀ q, q ≠ zp_B P + n → zs_hp (zp_ca P) (zp_B P) S' th S2 o q = zs_hp (zp_ca P) (zp_B P) S th S2 o q := by
  intro q hq
  unfold zs_hp
  by_cases h1 : q < zp_B P
  · rw [if_pos h1, if_pos h1]
  · rw [if_neg h1, if_neg h1]
    by_cases h2 : q - zp_B P < 67
    · rw [if_pos h2, if_pos h2]
      exact h _ (by omega)
    · rw [if_neg h2, if_neg h2]
theorem zs_hp_m {S' : zs_S2} {th' : Int32} {o' : Int64} {n : Nat} (h : ∀ k, k ≠ n → zs_mc (zp_ca P) (zp_B P) th' S' o' k = zs_mc (zp_ca P) (zp_B P) th S2 o k) : ∀ q, q ≠ zp_B P + 67 + n → zs_hp (zp_ca P) (zp_B P) S th' S' o' q = zs_hp (zp_ca P) (zp_B P) S th S2 o q := by
  intro q hq
  unfold zs_hp
  by_cases h1 : q < zp_B P
  · rw [if_pos h1, if_pos h1]
  · rw [if_neg h1, if_neg h1]
    by_cases h2 : q - zp_B P < 67
    · rw [if_pos h2, if_pos h2]
    · rw [if_neg h2, if_neg h2]
      exact h _ (by omega)
theorem zs_up_res {i k v : Nat} (hi : i < 16) : zg_up (zs_σ P S th S2 o w) (zp_B P + 4 + 2 * i) (.inl (zp_ca P 0, 8, .inl (upd (fun j => nI (zs_re S i j)) k (nI v)))) = zs_σ P (zs_sre S i k v) th S2 o w := by
  refine zs_put ?_ ?_
  · rw [zs_res hi]
    congr 4
    refine congrArg Sum.inl (funext fun j => ?_)
    show nI (if i = i ∧ j = k then v else zs_re S i j) = if j = k then nI v else nI (zs_re S i j)
    by_cases hj : j = k
    · rw [if_pos ⟨rfl, hj⟩, if_pos hj]
    · rw [if_neg (fun h => hj h.2), if_neg hj]
  · rw [show zp_B P + 4 + 2 * i = zp_B P + (4 + 2 * i) by omega]
    refine zs_hp_u fun n hn => ?_
    unfold zs_uc
    by_cases h0 : n = 0
    · rw [if_pos h0, if_pos h0]; rfl
    rw [if_neg h0, if_neg h0]
    by_cases h1 : n = 1
    · rw [if_pos h1, if_pos h1]
    rw [if_neg h1, if_neg h1]
    by_cases h2 : n = 2
    · rw [if_pos h2, if_pos h2]
    rw [if_neg h2, if_neg h2]
    by_cases h3 : n < 35
    · rw [if_pos h3, if_pos h3]
      by_cases h4 : n % 2 = 1
      · rw [if_pos h4, if_pos h4]; rfl
      · rw [if_neg h4, if_neg h4]
        congr 4
        refine congrArg Sum.inl (funext fun j => ?_)
        show nI (if (n - 4) / 2 = i ∧ j = k then v else zs_re S ((n - 4) / 2) j) = _
        rw [if_neg (fun h => hn (by have := h.1; omega))]
    · rw [if_neg h3, if_neg h3]; rfl
theorem zs_up_ex {i : Nat} {v : Int} (hi : i < 16) : zg_up (zs_σ P S th S2 o w) (zp_B P + 3 + 2 * i) (.inr (zc_R, [.ref (zp_B P + 4 + 2 * i), .long (mz_L v), .int (zs_bi (zs_su S i))])) = zs_σ P (zs_sex S i v) th S2 o w := by
  refine zs_put ?_ ?_
  · rw [zs_reg hi]
    show some (Sum.inr (zc_R, [Value.ref (zp_B P + 4 + 2 * i), Value.long (mz_L (if i = i then v else zs_ex S i)), Value.int (zs_bi (zs_su S i))])) = _
    rw [if_pos rfl]
  · rw [show zp_B P + 3 + 2 * i = zp_B P + (3 + 2 * i) by omega]
    refine zs_hp_u fun n hn => ?_
    unfold zs_uc
    by_cases h0 : n = 0
    · rw [if_pos h0, if_pos h0]; rfl
    rw [if_neg h0, if_neg h0]
    by_cases h1 : n = 1
    · rw [if_pos h1, if_pos h1]
    rw [if_neg h1, if_neg h1]
    by_cases h2 : n = 2
    · rw [if_pos h2, if_pos h2]
    rw [if_neg h2, if_neg h2]
    by_cases h3 : n < 35
    · rw [if_pos h3, if_pos h3]
      by_cases h4 : n % 2 = 1
      · rw [if_pos h4, if_pos h4]
        show some (Sum.inr (zc_R, [Value.ref (zp_B P + n + 1), Value.long (mz_L (if (n - 3) / 2 = i then v else zs_ex S ((n - 3) / 2))), Value.int (zs_bi (zs_su S ((n - 3) / 2)))])) = _
        rw [if_neg (by omega)]
      · rw [if_neg h4, if_neg h4]; rfl
    · rw [if_neg h3, if_neg h3]; rfl
theorem zs_up_su {i : Nat} {b : Bool} (hi : i < 16) : zg_up (zs_σ P S th S2 o w) (zp_B P + 3 + 2 * i) (.inr (zc_R, [.ref (zp_B P + 4 + 2 * i), .long (mz_L (zs_ex S i)), .int (zs_bi b)])) = zs_σ P (zs_ssu S i b) th S2 o w := by
  refine zs_put ?_ ?_
  · rw [zs_reg hi]
    show some (Sum.inr (zc_R, [Value.ref (zp_B P + 4 + 2 * i), Value.long (mz_L (zs_ex S i)), Value.int (zs_bi (if i = i then b else zs_su S i))])) = _
    rw [if_pos rfl]
  · rw [show zp_B P + 3 + 2 * i = zp_B P + (3 + 2 * i) by omega]
    refine zs_hp_u fun n hn => ?_
    unfold zs_uc
    by_cases h0 : n = 0
    · rw [if_pos h0, if_pos h0]; rfl
    rw [if_neg h0, if_neg h0]
    by_cases h1 : n = 1
    · rw [if_pos h1, if_pos h1]
    rw [if_neg h1, if_neg h1]
    by_cases h2 : n = 2
    · rw [if_pos h2, if_pos h2]
    rw [if_neg h2, if_neg h2]
    by_cases h3 : n < 35
    · rw [if_pos h3, if_pos h3]
      by_cases h4 : n % 2 = 1
      · rw [if_pos h4, if_pos h4]
        show some (Sum.inr (zc_R, [Value.ref (zp_B P + n + 1), Value.long (mz_L (zs_ex S ((n - 3) / 2))), Value.int (zs_bi (if (n - 3) / 2 = i then b else zs_su S ((n - 3) / 2)))])) = _
        rw [if_neg (by omega)]
      · rw [if_neg h4, if_neg h4]; rfl
    · rw [if_neg h3, if_neg h3]; rfl
theorem zs_up_cn {v : Int32} : zg_up (zs_σ P S th S2 o w) (zp_B P) (.inr (zc_U, [.ref (zp_B P + 1), .ref (zp_B P + 2), .int v, .int (zs_sr S)])) = zs_σ P (zs_scn S v) th S2 o w := by
  refine zs_put zs_0 ?_
  exact zs_hp_u (n := 0) fun n hn => by
    unfold zs_uc
    rw [if_neg hn, if_neg hn]
    rfl
theorem zs_up_sr {v : Int32} : zg_up (zs_σ P S th S2 o w) (zp_B P) (.inr (zc_U, [.ref (zp_B P + 1), .ref (zp_B P + 2), .int (zs_cn S), .int v])) = zs_σ P (zs_ssr S v) th S2 o w := by
  refine zs_put zs_0 ?_
  exact zs_hp_u (n := 0) fun n hn => by
    unfold zs_uc
    rw [if_neg hn, if_neg hn]
    rfl
end ZS3
end
section
section ZH
variable {P : zs_P}
theorem zs_cIOB : Cond.castable "java/lang/IndexOutOfBoundsException" "java/lang/IndexOutOfBoundsException" ∈ zs_ws := zs_in 102 (by decide +kernel) (by decide +kernel)
theorem zs_cIAE : Cond.castable "java/lang/IllegalArgumentException" "java/lang/IllegalArgumentException" ∈ zs_ws := zs_in 176 (by decide +kernel) (by decide +kernel)
theorem zs_cISE : Cond.castable "java/lang/IllegalStateException" "java/lang/IllegalStateException" ∈ zs_ws := zs_in 229 (by decide +kernel) (by decide +kernel)
theorem zs_cARE : Cond.castable "java/lang/ArithmeticException" "java/lang/ArithmeticException" ∈ zs_ws := zs_in 315 (by decide +kernel) (by decide +kernel)
theorem zs_ncx {C T : String} (h : (C, T) ∈ zs_nc) : ∀ U H, zg_x (zs_E P) U H → va_Nc C T U := fun U H hx => hx.2.2.2.2.2.1 (C, T) h
theorem zh_load_IOB : zg_catch (zs_E P) "ResidueUnitLaw" "java/lang/IndexOutOfBoundsException" 3 9 (zg_hh mL_load) := ⟨rfl, by decide, _, zcl_L_13, Or.inl ⟨zs_cIOB, rfl⟩⟩
theorem zh_load_IAE : zg_catch (zs_E P) "ResidueUnitLaw" "java/lang/IllegalArgumentException" 3 13 (zg_hh mL_load) := ⟨rfl, by decide, _, zcl_L_13, Or.inr ⟨zs_ncx (by decide), ⟨rfl, by decide, _, zcl_L_15, Or.inl ⟨zs_cIAE, rfl⟩⟩⟩⟩
theorem zh_binary_IOB : zg_catch (zs_E P) "ResidueUnitLaw" "java/lang/IndexOutOfBoundsException" 4 11 (zg_hh mL_binary) := ⟨rfl, by decide, _, zcl_L_13, Or.inl ⟨zs_cIOB, rfl⟩⟩
theorem zh_binary_ISE : zg_catch (zs_E P) "ResidueUnitLaw" "java/lang/IllegalStateException" 4 14 (zg_hh mL_binary) := ⟨rfl, by decide, _, zcl_L_13, Or.inr ⟨zs_ncx (by decide), ⟨rfl, by decide, _, zcl_L_21, Or.inl ⟨zs_cISE, rfl⟩⟩⟩⟩
theorem zh_work_IOB : zg_catch (zs_E P) "ResidueUnitLaw" "java/lang/IndexOutOfBoundsException" 6 12 (zg_hh mL_work) := ⟨rfl, by decide, _, zcl_L_13, Or.inl ⟨zs_cIOB, rfl⟩⟩
theorem zh_work_IAE : zg_catch (zs_E P) "ResidueUnitLaw" "java/lang/IllegalArgumentException" 6 16 (zg_hh mL_work) := ⟨rfl, by decide, _, zcl_L_13, Or.inr ⟨zs_ncx (by decide), ⟨rfl, by decide, _, zcl_L_15, Or.inl ⟨zs_cIAE, rfl⟩⟩⟩⟩
theorem zh_compare_IOB : zg_catch (zs_E P) "ResidueUnitLaw" "java/lang/IndexOutOfBoundsException" 5 13 (zg_hh mL_compare) := ⟨rfl, by decide, _, zcl_L_13, Or.inl ⟨zs_cIOB, rfl⟩⟩
theorem zh_scale_IOB : zg_catch (zs_E P) "ResidueUnitLaw" "java/lang/IndexOutOfBoundsException" 6 12 (zg_hh mL_scale) := ⟨rfl, by decide, _, zcl_L_13, Or.inl ⟨zs_cIOB, rfl⟩⟩
theorem zh_scale_IAE : zg_catch (zs_E P) "ResidueUnitLaw" "java/lang/IllegalArgumentException" 6 16 (zg_hh mL_scale) := ⟨rfl, by decide, _, zcl_L_13, Or.inr ⟨zs_ncx (by decide), ⟨rfl, by decide, _, zcl_L_15, Or.inl ⟨zs_cIAE, rfl⟩⟩⟩⟩
theorem zh_divide_IOB : zg_catch (zs_E P) "ResidueUnitLaw" "java/lang/IndexOutOfBoundsException" 6 12 (zg_hh mL_divide) := ⟨rfl, by decide, _, zcl_L_13, Or.inl ⟨zs_cIOB, rfl⟩⟩
theorem zh_divide_ARE : zg_catch (zs_E P) "ResidueUnitLaw" "java/lang/ArithmeticException" 6 16 (zg_hh mL_divide) := ⟨rfl, by decide, _, zcl_L_13, Or.inr ⟨zs_ncx (by decide), ⟨rfl, by decide, _, zcl_L_38, Or.inl ⟨zs_cARE, rfl⟩⟩⟩⟩
theorem zh_channel_IOB : zg_catch (zs_E P) "ResidueUnitLaw" "java/lang/IndexOutOfBoundsException" 5 13 (zg_hh mL_channel) := ⟨rfl, by decide, _, zcl_L_13, Or.inl ⟨zs_cIOB, rfl⟩⟩
theorem zh_inject_IOB : zg_catch (zs_E P) "ResidueUnitLaw" "java/lang/IndexOutOfBoundsException" 7 15 (zg_hh mL_inject) := ⟨rfl, by decide, _, zcl_L_13, Or.inl ⟨zs_cIOB, rfl⟩⟩
theorem zh_verify_IOB : zg_catch (zs_E P) "ResidueUnitLaw" "java/lang/IndexOutOfBoundsException" 4 12 (zg_hh mL_verify) := ⟨rfl, by decide, _, zcl_L_13, Or.inl ⟨zs_cIOB, rfl⟩⟩
theorem zh_repair_IOB : zg_catch (zs_E P) "ResidueUnitLaw" "java/lang/IndexOutOfBoundsException" 4 12 (zg_hh mL_repair) := ⟨rfl, by decide, _, zcl_L_13, Or.inl ⟨zs_cIOB, rfl⟩⟩
theorem zh_repair_ISE : zg_catch (zs_E P) "ResidueUnitLaw" "java/lang/IllegalStateException" 4 15 (zg_hh mL_repair) := ⟨rfl, by decide, _, zcl_L_13, Or.inr ⟨zs_ncx (by decide), ⟨rfl, by decide, _, zcl_L_21, Or.inl ⟨zs_cISE, rfl⟩⟩⟩⟩
theorem zh_sure_IOB : zg_catch (zs_E P) "ResidueUnitLaw" "java/lang/IndexOutOfBoundsException" 4 19 (zg_hh mL_sure) := ⟨rfl, by decide, _, zcl_L_13, Or.inl ⟨zs_cIOB, rfl⟩⟩
theorem zh_bound_IOB : zg_catch (zs_E P) "ResidueUnitLaw" "java/lang/IndexOutOfBoundsException" 5 12 (zg_hh mL_bound) := ⟨rfl, by decide, _, zcl_L_13, Or.inl ⟨zs_cIOB, rfl⟩⟩
theorem zh_bound_IAE : zg_catch (zs_E P) "ResidueUnitLaw" "java/lang/IllegalArgumentException" 5 16 (zg_hh mL_bound) := ⟨rfl, by decide, _, zcl_L_13, Or.inr ⟨zs_ncx (by decide), ⟨rfl, by decide, _, zcl_L_15, Or.inl ⟨zs_cIAE, rfl⟩⟩⟩⟩
theorem zh_bound_ISE : zg_catch (zs_E P) "ResidueUnitLaw" "java/lang/IllegalStateException" 5 20 (zg_hh mL_bound) := ⟨rfl, by decide, _, zcl_L_13, Or.inr ⟨zs_ncx (by decide), ⟨rfl, by decide, _, zcl_L_15, Or.inr ⟨zs_ncx (by decide), ⟨rfl, by decide, _, zcl_L_21, Or.inl ⟨zs_cISE, rfl⟩⟩⟩⟩⟩⟩
theorem zh_instruct_IOB : zg_catch (zs_E P) "ResidueUnitLaw" "java/lang/IndexOutOfBoundsException" 8 14 (zg_hh mL_instruct) := ⟨rfl, by decide, _, zcl_L_13, Or.inl ⟨zs_cIOB, rfl⟩⟩
theorem zh_instruct_IAE : zg_catch (zs_E P) "ResidueUnitLaw" "java/lang/IllegalArgumentException" 8 18 (zg_hh mL_instruct) := ⟨rfl, by decide, _, zcl_L_13, Or.inr ⟨zs_ncx (by decide), ⟨rfl, by decide, _, zcl_L_15, Or.inl ⟨zs_cIAE, rfl⟩⟩⟩⟩
theorem zh_run_IAE : zg_catch (zs_E P) "ResidueUnitLaw" "java/lang/IllegalArgumentException" 4 12 (zg_hh mL_run) := ⟨rfl, by decide, _, zcl_L_15, Or.inl ⟨zs_cIAE, rfl⟩⟩
end ZH
end
section
def mz_wi (a : Int) : Prop := -9223372036854775808 ≤ a ∧ a ≤ 9223372036854775807
theorem mz_in.w {a : Int} (h : mz_in a) : mz_wi a := by
  have h1 := h.1
  have h2 := h.2
  unfold mz_wi
  omega
theorem mz_cmpW {a b : Int} (ha : mz_wi a) (hb : mz_wi b) : lg_cmp (mz_L a) (mz_L b) = if b < a then 1 else if a = b then 0 else -1 := by
  have e1 : (mz_L a).toInt = a := mz_int (by have := ha.1; omega) (by have := ha.2; omega)
  have e2 : (mz_L b).toInt = b := mz_int (by have := hb.1; omega) (by have := hb.2; omega)
  unfold lg_cmp
  have h1 : (mz_L a > mz_L b) ↔ b < a := by rw [gt_iff_lt, Int64.lt_iff_toInt_lt, e1, e2]
  have h2 : (mz_L a = mz_L b) ↔ a = b := by rw [← Int64.toInt_inj, e1, e2]
  simp only [h1, h2]
theorem mz_tnp {a : Int} (b : Int) (h : a ≤ 0) : a.tmod b ≤ 0 := by
  have h1 := Int.tmod_nonneg b (show 0 ≤ -a by omega)
  rw [Int.neg_tmod] at h1
  omega
section ZM1
variable {l : Launch} {P : zs_P} {d : Nat} {σ : zg_H}
theorem zj_abs {a : Int} (ha : mz_in a) : zg_C l (zs_E P) d mJ_abs [.long (mz_L a)] σ (.inl (some (.long (mz_L (a.natAbs : Int)))), σ) := by
  refine zg_C_of (by decide +kernel) (Nat.le_of_ble_eq_true rfl) ?_
  have h0 : mz_in 0 := by unfold mz_in; omega
  refine zg_lload_n (zd_t dmJ_abs 0 rfl) rfl ?_
  refine zg_lconst (v := mz_L 0) (zd_t dmJ_abs 1 rfl) (by decide) ?_
  refine zg_lcmp (zd_t dmJ_abs 2 rfl) ?_
  refine zg_if_ge (tgt := 11) (zd_t dmJ_abs 3 rfl) (by decide) (fun h => ?_) (fun h => ?_)
  · rw [lg_cmp_ge, mz_le h0 ha] at h
    refine zg_lload_n (zd_t dmJ_abs 7 rfl) rfl ?_
    refine zg_lret (zd_t dmJ_abs 8 rfl) rfl ?_
    rw [show (a.natAbs : Int) = a by omega]
  · rw [lg_cmp_ge, mz_le h0 ha] at h
    refine zg_lload_n (zd_t dmJ_abs 4 rfl) rfl ?_
    refine zg_lneg (zd_t dmJ_abs 5 rfl) ?_
    refine zg_goto (tgt := 12) (zd_t dmJ_abs 6 rfl) (by decide) ?_
    refine zg_lret (zd_t dmJ_abs 8 rfl) rfl ?_
    rw [mz_neg, show (a.natAbs : Int) = -a by omega]
theorem zj_floorMod {a b : Int} (ha : mz_in a) (hb : mz_in b) (hp : 0 < b) : zg_C l (zs_E P) d mJ_floorMod_J [.long (mz_L a), .long (mz_L b)] σ (.inl (some (.long (mz_L (a % b)))), σ) := by
  refine zg_C_of (by decide +kernel) (Nat.le_of_ble_eq_true rfl) ?_
  have h0 : mz_in 0 := by unfold mz_in; omega
  have hb0 : ¬ mz_L b = 0 := fun h => by
    have : mz_L b = mz_L 0 := h
    rw [mz_eq hb h0] at this
    omega
  have ht : mz_in (a.tmod b) := by
    have := mz_tdiv_in b ha
    have h1 := Int.natAbs_tmod a b
    have h2 := Nat.mod_le a.natAbs b.natAbs
    have h3 := ha.1
    have h4 := ha.2
    unfold mz_in
    omega
  have e1 := Int.emod_nonneg a (show b ≠ 0 by omega)
  have e2 := Int.emod_lt_of_pos a hp
  have e3 : a.tmod b = a % b ∨ (a < 0 ∧ a.tmod b = a % b - b ∧ a % b ≠ 0) := by
    rw [Int.tmod_eq_emod]
    split
    · left; omega
    · rename_i hh
      have h5 : a < 0 ∧ ¬ b ∣ a := by omega
      right
      refine ⟨h5.1, by omega, fun h6 => h5.2 (Int.dvd_of_emod_eq_zero h6)⟩
  refine zg_lload_n (zd_t dmJ_floorMod_J 0 rfl) rfl ?_
  refine zg_lload_n (zd_t dmJ_floorMod_J 1 rfl) rfl ?_
  refine zg_lrem (zd_t dmJ_floorMod_J 2 rfl) hb0 ?_
  rw [mz_rem ha hb]
  refine zg_lstore (zd_t dmJ_floorMod_J 3 rfl) (by decide) rfl ?_
  refine zg_lload_n (zd_t dmJ_floorMod_J 4 rfl) rfl ?_
  refine zg_lload_n (zd_t dmJ_floorMod_J 5 rfl) rfl ?_
  refine zg_lxor (zd_t dmJ_floorMod_J 6 rfl) ?_
  refine zg_lconst (v := mz_L 0) (zd_t dmJ_floorMod_J 7 rfl) (by decide) ?_
  refine zg_lcmp (zd_t dmJ_floorMod_J 8 rfl) ?_
  refine zg_if_ge (tgt := 25) (zd_t dmJ_floorMod_J 9 rfl) (by decide) (fun h => ?_) (fun h => ?_)
  · rw [lg_cmp_ge] at h
    refine zg_lload (zd_t dmJ_floorMod_J 18 rfl) rfl ?_
    refine zg_lret (zd_t dmJ_floorMod_J 19 rfl) rfl ?_
    have h1 : ¬ ((mz_L a ^^^ mz_L b) < 0) := Int64.not_lt.mpr h
    rw [mz_xor] at h1
    have h2 : ¬ (mz_L b < 0) := fun h => by rw [show (0 : Int64) = mz_L 0 from rfl, mz_lt hb h0] at h; omega
    have h3 : ¬ (mz_L a < 0) := fun h9 => h1 ⟨fun _ => h2, fun _ => h9⟩
    rw [show (0 : Int64) = mz_L 0 from rfl, mz_lt ha h0] at h3
    rcases e3 with e3 | e3
    · rw [e3]
    · omega
  · rw [lg_cmp_ge] at h
    have h1 : (mz_L a ^^^ mz_L b) < 0 := Int64.not_le.mp h
    rw [mz_xor] at h1
    have h2 : ¬ (mz_L b < 0) := fun h => by rw [show (0 : Int64) = mz_L 0 from rfl, mz_lt hb h0] at h; omega
    have h3 : mz_L a < 0 := h1.mpr h2
    rw [show (0 : Int64) = mz_L 0 from rfl, mz_lt ha h0] at h3
    refine zg_lload (zd_t dmJ_floorMod_J 10 rfl) rfl ?_
    refine zg_lconst (v := mz_L 0) (zd_t dmJ_floorMod_J 11 rfl) (by decide) ?_
    refine zg_lcmp (zd_t dmJ_floorMod_J 12 rfl) ?_
    rw [mz_cmp ht h0]
    refine zg_if_eq (tgt := 25) (zd_t dmJ_floorMod_J 13 rfl) (by decide) (fun h => ?_) (fun h => ?_)
    · refine zg_lload (zd_t dmJ_floorMod_J 18 rfl) rfl ?_
      refine zg_lret (zd_t dmJ_floorMod_J 19 rfl) rfl ?_
      have h4 : a.tmod b = 0 := by
        by_cases h5 : 0 < a.tmod b
        · rw [if_pos h5] at h; exact absurd h (by decide)
        · rw [if_neg h5] at h
          by_cases h6 : a.tmod b = 0
          · exact h6
          · rw [if_neg h6] at h; exact absurd h (by decide)
      rcases e3 with e3 | e3
      · rw [e3]
      · omega
    · refine zg_lload (zd_t dmJ_floorMod_J 14 rfl) rfl ?_
      refine zg_lload_n (zd_t dmJ_floorMod_J 15 rfl) rfl ?_
      refine zg_ladd (zd_t dmJ_floorMod_J 16 rfl) ?_
      refine zg_lret (zd_t dmJ_floorMod_J 17 rfl) rfl ?_
      have h4 : a.tmod b ≠ 0 := by
        intro h6
        rw [if_neg (by omega), if_pos h6] at h
        exact h rfl
      rw [mz_add]
      rcases e3 with e3 | e3
      · exfalso
        have h7 : a.tmod b ≤ 0 := by
          have := mz_tnp b (show a ≤ 0 by omega)
          exact this
        omega
      · rw [e3.2.1, show a % b - b + b = a % b by omega]
theorem zu_isRegister (r : Int32) : zg_C l (zs_E P) d mU_isRegister [.int r] σ (.inl (some (.int (zs_bi (decide (0 ≤ r.toInt ∧ r.toInt < 16))))), σ) := by
  refine zg_C_of (by decide +kernel) (Nat.le_of_ble_eq_true rfl) ?_
  refine zg_iload_n (zd_t dmU_isRegister 0 rfl) rfl ?_
  refine zg_if_lt (tgt := 14) (zd_t dmU_isRegister 1 rfl) (by decide) (fun h => ?_) (fun h => ?_)
  · refine zg_iconst (v := (nI 0)) (zd_t dmU_isRegister 7 rfl) (by decide) ?_
    refine zg_zret (zd_t dmU_isRegister 8 rfl) rfl rfl ?_
    rw [Int32.lt_iff_toInt_lt] at h
    have h : r.toInt < 0 := h
    rw [decide_eq_false (by omega)]
    rfl
  · rw [Int32.lt_iff_toInt_lt] at h
    have h : ¬ r.toInt < 0 := h
    refine zg_iload_n (zd_t dmU_isRegister 2 rfl) rfl ?_
    refine zg_bipush (v := (nI 16)) (zd_t dmU_isRegister 3 rfl) (by decide) ?_
    refine zg_icmp_ge (tgt := 14) (zd_t dmU_isRegister 4 rfl) (by decide) (fun h2 => ?_) (fun h2 => ?_)
    · rw [Int32.le_iff_toInt_le] at h2
      have h2 : 16 ≤ r.toInt := h2
      refine zg_iconst (v := (nI 0)) (zd_t dmU_isRegister 7 rfl) (by decide) ?_
      refine zg_zret (zd_t dmU_isRegister 8 rfl) rfl rfl ?_
      rw [decide_eq_false (by omega)]
      rfl
    · rw [Int32.le_iff_toInt_le] at h2
      have h2 : ¬ 16 ≤ r.toInt := h2
      refine zg_iconst (v := (nI 1)) (zd_t dmU_isRegister 5 rfl) (by decide) ?_
      refine zg_goto (tgt := 15) (zd_t dmU_isRegister 6 rfl) (by decide) ?_
      refine zg_zret (zd_t dmU_isRegister 8 rfl) rfl rfl ?_
      rw [decide_eq_true (by omega)]
      rfl
theorem zu_inRange {v : Int} (hv : mz_wi v) : zg_C l (zs_E P) d mU_inRange [.long (mz_L v)] σ (.inl (some (.int (zs_bi (decide (-87553987462305 ≤ v ∧ v ≤ 87553987462305))))), σ) := by
  refine zg_C_of (by decide +kernel) (Nat.le_of_ble_eq_true rfl) ?_
  have h1 : mz_in (-87553987462305) := by unfold mz_in; omega
  have h2 : mz_in 87553987462305 := by unfold mz_in; omega
  refine zg_lload_n (zd_t dmU_inRange 0 rfl) rfl ?_
  refine zg_ldc2 (zd_t dmU_inRange 1 rfl) zc_U_154 ?_
  refine zg_lcmp (zd_t dmU_inRange 2 rfl) ?_
  rw [mz_cmpW hv h1.w]
  refine zg_if_lt (tgt := 20) (zd_t dmU_inRange 3 rfl) (by decide) (fun h => ?_) (fun h => ?_)
  · refine zg_iconst (v := (nI 0)) (zd_t dmU_inRange 10 rfl) (by decide) ?_
    refine zg_zret (zd_t dmU_inRange 11 rfl) rfl rfl ?_
    rw [decide_eq_false ?_]
    · rfl
    · intro h3
      by_cases h4 : -87553987462305 < v
      · rw [if_pos h4] at h; exact absurd h (by decide)
      · rw [if_neg h4, if_pos (by omega)] at h; exact absurd h (by decide)
  · have h3 : -87553987462305 ≤ v := by
      by_cases h4 : -87553987462305 ≤ v
      · exact h4
      · rw [if_neg (by omega), if_neg (by omega)] at h; exact absurd (by decide) h
    refine zg_lload_n (zd_t dmU_inRange 4 rfl) rfl ?_
    refine zg_ldc2 (zd_t dmU_inRange 5 rfl) zc_U_156 ?_
    refine zg_lcmp (zd_t dmU_inRange 6 rfl) ?_
    rw [mz_cmpW hv h2.w]
    refine zg_if_gt (tgt := 20) (zd_t dmU_inRange 7 rfl) (by decide) (fun h => ?_) (fun h => ?_)
    · refine zg_iconst (v := (nI 0)) (zd_t dmU_inRange 10 rfl) (by decide) ?_
      refine zg_zret (zd_t dmU_inRange 11 rfl) rfl rfl ?_
      rw [decide_eq_false ?_]
      · rfl
      · intro h5
        rw [if_neg (by omega)] at h
        by_cases h4 : v = 87553987462305
        · rw [if_pos h4] at h; exact absurd h (by decide)
        · rw [if_neg h4] at h; exact absurd h (by decide)
    · refine zg_iconst (v := (nI 1)) (zd_t dmU_inRange 8 rfl) (by decide) ?_
      refine zg_goto (tgt := 21) (zd_t dmU_inRange 9 rfl) (by decide) ?_
      refine zg_zret (zd_t dmU_inRange 11 rfl) rfl rfl ?_
      rw [decide_eq_true ?_]
      · rfl
      · refine ⟨h3, ?_⟩
        by_cases h4 : 87553987462305 < v
        · rw [if_pos h4] at h; exact absurd (by decide) h
        · omega
theorem zs_xM (U : State) (H : Heap) (h : zg_x (zs_E P) U H) : va_Z "ResidueUnit" "MODULI" "[I" (.ref (zp_tM P)) (fun q => zg_b (zs_E P) ≤ q) U H := h.1.1
theorem zs_yM (U : State) (H : Heap) (h : zg_x (zs_E P) U H) : va_T .int (zp_tM P) 8 (fun j => .int (nI (mz_m j))) (fun q => zg_b (zs_E P) ≤ q) U H := h.1.2
theorem zs_xW (U : State) (H : Heap) (h : zg_x (zs_E P) U H) : va_Z "ResidueUnit" "WEIGHTS" "[J" (.ref (zp_tW P)) (fun q => zg_b (zs_E P) ≤ q) U H := h.2.1.1
theorem zs_yW (U : State) (H : Heap) (h : zg_x (zs_E P) U H) : va_T .long (zp_tW P) 6 (fun j => .long (mz_L (mz_w j : Int))) (fun q => zg_b (zs_E P) ≤ q) U H := h.2.1.2
theorem zs_xV (U : State) (H : Heap) (h : zg_x (zs_E P) U H) : va_Z "ResidueUnit" "WITNESS_INVERSES" "[I" (.ref (zp_tV P)) (fun q => zg_b (zs_E P) ≤ q) U H := h.2.2.1.1
theorem zs_yV (U : State) (H : Heap) (h : zg_x (zs_E P) U H) : va_T .int (zp_tV P) 6 (fun j => .int (nI (mz_iv j))) (fun q => zg_b (zs_E P) ≤ q) U H := h.2.2.1.2
theorem mz_m_in (k : Nat) : mz_in (mz_m k : Int) := by
  have := (mz_m_lt k).1
  unfold mz_in
  omega
theorem zu_residueOf {v : Int} {k : Nat} (hv : mz_in v) (hk : k < 8) : zg_C l (zs_E P) (d + 1) mU_residueOf [.long (mz_L v), .int (nI k)] σ (.inl (some (.int (nI (v % (mz_m k : Int)).toNat))), σ) := by
  refine zg_C_of (by decide +kernel) (Nat.le_of_ble_eq_true rfl) ?_
  have hm := mz_m_lt k
  refine zg_lload_n (zd_t dmU_residueOf 0 rfl) rfl ?_
  refine zg_gets (zd_t dmU_residueOf 1 rfl) zs_xM zg_U_190 ?_
  refine zg_iload_n (zd_t dmU_residueOf 2 rfl) rfl ?_
  refine zg_ti (zd_t dmU_residueOf 3 rfl) zs_yM rfl hk (by decide) rfl ?_
  refine zg_i2l (zd_t dmU_residueOf 4 rfl) rfl ?_
  rw [mz_i2l (show mz_m k < 2 ^ 31 by omega)]
  refine zg_callS (zd_t dmU_residueOf 5 rfl) zl_U_193 zm_mJ_floorMod_J zst_mJ_floorMod_J (av := [.long (mz_L v), .long (mz_L (mz_m k : Int))]) (rest := []) rfl rfl (Nat.le_of_ble_eq_true rfl) (zj_floorMod hv (mz_m_in k) (by omega)) ?_
  refine zg_l2i (zd_t dmU_residueOf 6 rfl) (v := nI (v % (mz_m k : Int)).toNat) ?_ ?_
  · have h1 := Int.emod_nonneg v (show (mz_m k : Int) ≠ 0 by omega)
    have h2 : v % (mz_m k : Int) = ((v % (mz_m k : Int)).toNat : Int) := by omega
    rw [h2, mz_l2i, ← h2]
  · exact zg_iret (zd_t dmU_residueOf 7 rfl) rfl rfl
end ZM1
end
section
theorem mz_inc (k : Nat) : nI k + Int32.ofInt 1 = nI (k + 1) := nI_1 k
theorem zs_nb (b : Bool) : narrow .boolean (.int (zs_bi b)) = .int (zs_bi b) := by cases b <;> rfl
theorem zs_bi_ne (b : Bool) : zs_bi b = 0 ↔ b = false := by cases b <;> decide
def zs_pk (S : zs_S) (i : Nat) (v : Int) (k : Nat) : zs_S := (S.1, S.2.1, fun j t => if j = i ∧ t < k then (v % (mz_m t : Int)).toNat else zs_re S j t, zs_ex S, zs_su S, zs_pg S)
def zs_sput (S : zs_S) (i : Nat) (v : Int) : zs_S := zs_ssu (zs_sex (zs_pk S i v 8) i v) i true
theorem zs_pk_0 (S : zs_S) (i : Nat) (v : Int) : zs_pk S i v 0 = S := by
  unfold zs_pk
  simp
theorem zs_pk_s (S : zs_S) (i : Nat) (v : Int) (k : Nat) : zs_sre (zs_pk S i v k) i k (v % (mz_m k : Int)).toNat = zs_pk S i v (k + 1) := by
  unfold zs_sre zs_pk zs_u2 zs_re
  congr 3
  funext j t
  by_cases h1 : j = i ∧ t = k
  · rw [if_pos h1, if_pos ⟨h1.1, by omega⟩, h1.2]
  · rw [if_neg h1]
    by_cases h2 : j = i ∧ t < k
    · simp only [if_pos h2]
      rw [if_pos ⟨h2.1, by omega⟩]
    · simp only [if_neg h2]
      rw [if_neg (fun h => h2 ⟨h.1, by have := h.2; have : t ≠ k := fun e => h1 ⟨h.1, e⟩; omega⟩)]
section ZM2
variable {l : Launch} {P : zs_P} {d : Nat} {S : zs_S} {S2 : zs_S2} {th : Int32} {o : Int64} {w : Nat × Nat} {i : Nat}
theorem zr_put_lp {v : Int} (hi : i < 16) (hv : mz_in v) : ∀ (n k : Nat), k + n = 8 → zg_G l (zs_E P) (d + 2) mR_put 2 [(3, .int (nI k)), (0, .ref (zp_B P + 3 + 2 * i)), (1, .long (mz_L v))] [] (zs_σ P (zs_pk S i v k) th S2 o w) (.inl none, zs_σ P (zs_sput S i v) th S2 o w) := by
  intro n
  induction n with
  | zero =>
    intro k hk
    have hk : k = 8 := by omega
    subst hk
    refine zg_iload_n (zd_t dmR_put 2 rfl) rfl ?_
    refine zg_bipush (v := (nI 8)) (zd_t dmR_put 3 rfl) (by decide) ?_
    refine zg_icmp_ge (tgt := 25) (zd_t dmR_put 4 rfl) (by decide) (fun _ => ?_) (fun h => absurd (by decide) h)
    refine zg_aload_n (zd_t dmR_put 14 rfl) rfl ?_
    refine zg_lload_n (zd_t dmR_put 15 rfl) rfl ?_
    refine zg_putf (zd_t dmR_put 16 rfl) zf_R_15 zt_1_1 (zs_reg hi) (Nat.le_of_ble_eq_true rfl) rfl rfl (zs_up_ex hi) ?_
    refine zg_aload_n (zd_t dmR_put 17 rfl) rfl ?_
    refine zg_iconst (v := (nI 1)) (zd_t dmR_put 18 rfl) (by decide) ?_
    refine zg_putf (zd_t dmR_put 19 rfl) zf_R_19 zt_1_2 (zs_reg hi) (Nat.le_of_ble_eq_true rfl) rfl rfl (zs_up_su (b := true) hi) ?_
    exact zg_vret (zd_t dmR_put 20 rfl) rfl rfl
  | succ n ih =>
    intro k hk
    refine zg_iload_n (zd_t dmR_put 2 rfl) rfl ?_
    refine zg_bipush (v := (nI 8)) (zd_t dmR_put 3 rfl) (by decide) ?_
    refine zg_icmp_ge (tgt := 25) (zd_t dmR_put 4 rfl) (by decide) (fun h => absurd ((nI_leI (by decide) (by omega)).mp h) (by omega)) (fun _ => ?_)
    refine zg_aload_n (zd_t dmR_put 5 rfl) rfl ?_
    refine zg_getf (zd_t dmR_put 6 rfl) zf_R_9 (zs_reg hi) rfl ?_
    refine zg_iload_n (zd_t dmR_put 7 rfl) rfl ?_
    refine zg_lload_n (zd_t dmR_put 8 rfl) rfl ?_
    refine zg_iload_n (zd_t dmR_put 9 rfl) rfl ?_
    refine zg_callS (zd_t dmR_put 10 rfl) zl_R_23 zm_mU_residueOf zst_mU_residueOf (av := [.long (mz_L v), .int (nI k)]) (rest := [.int (nI k), .ref (zp_B P + 4 + 2 * i)]) rfl rfl (Nat.le_of_ble_eq_true rfl) (zu_residueOf hv (by omega)) ?_
    refine zg_iast (t0 := 0) (zd_t dmR_put 11 rfl) (zs_res hi) rfl rfl (show k < 8 by omega) (by decide) ((zs_up_res hi).trans (by rw [zs_pk_s])) ?_
    refine zg_iinc (lv2 := [(3, .int (nI (k + 1))), (0, .ref (zp_B P + 3 + 2 * i)), (1, .long (mz_L v))]) (zd_t dmR_put 12 rfl) rfl (mz_inc k) (by decide) rfl ?_
    refine zg_goto (tgt := 2) (zd_t dmR_put 13 rfl) (by decide) ?_
    exact ih (k + 1) (by omega)
theorem zr_put {v : Int} (hi : i < 16) (hv : mz_in v) : zg_C l (zs_E P) (d + 2) mR_put [.ref (zp_B P + 3 + 2 * i), .long (mz_L v)] (zs_σ P S th S2 o w) (.inl none, zs_σ P (zs_sput S i v) th S2 o w) := by
  refine zg_C_of (by decide +kernel) (Nat.le_of_ble_eq_true rfl) ?_
  refine zg_iconst (v := (nI 0)) (zd_t dmR_put 0 rfl) (by decide) ?_
  refine zg_istore_n (zd_t dmR_put 1 rfl) (by decide) rfl ?_
  have h := zr_put_lp (l := l) (P := P) (d := d) (S := S) (S2 := S2) (th := th) (o := o) (w := w) hi hv 8 0 rfl
  rw [zs_pk_0] at h
  exact h
theorem mz_sum_le {ρ : Nat → Nat} (h : ∀ j, j < 6 → ρ j ≤ 256) : ∀ k, k ≤ 6 → mz_sum ρ k ≤ k * 50000000000000000 := by
  intro k
  induction k with
  | zero => intro _; exact Nat.le_refl _
  | succ k ih =>
    intro hk
    have h1 := ih (by omega)
    have h2 := h k (by omega)
    have h3 : mz_w k ≤ 175000000000000 := by
      unfold mz_w
      split <;> decide
    have h4 := Nat.mul_le_mul h2 h3
    show mz_sum ρ k + ρ k * mz_w k ≤ _
    omega
theorem mz_ok_le {ρ : Nat → Nat} (h : mz_ok ρ) : ∀ j, j < 6 → ρ j ≤ 256 := fun j hj => by
  have h1 := h j (by omega)
  have h2 := (mz_m_lt j).1
  omega
theorem zr_value_lp (hi : i < 16) (hok : mz_ok (zs_re S i)) : ∀ (n k : Nat), k + n = 6 → zg_G l (zs_E P) d mR_value 4 [(3, .int (nI k)), (1, .long (mz_L (mz_sum (zs_re S i) k : Int))), (0, .ref (zp_B P + 3 + 2 * i))] [] (zs_σ P S th S2 o w) (.inl (some (.long (mz_L (mz_val (zs_re S i))))), zs_σ P S th S2 o w) := by
  have hsum : ∀ k, k ≤ 6 → mz_in (mz_sum (zs_re S i) k : Int) := fun k hk => by
    have := mz_sum_le (mz_ok_le hok) k hk
    unfold mz_in
    omega
  intro n
  induction n with
  | zero =>
    intro k hk
    have hk : k = 6 := by omega
    subst hk
    have hM : mz_in 175107974924611 := by unfold mz_in; omega
    have hH : mz_in 87553987462305 := by unfold mz_in; omega
    refine zg_iload_n (zd_t dmR_value 4 rfl) rfl ?_
    refine zg_bipush (v := (nI 6)) (zd_t dmR_value 5 rfl) (by decide) ?_
    refine zg_icmp_ge (tgt := 32) (zd_t dmR_value 6 rfl) (by decide) (fun _ => ?_) (fun h => absurd (by decide) h)
    refine zg_lload_n (zd_t dmR_value 21 rfl) rfl ?_
    refine zg_ldc2 (zd_t dmR_value 22 rfl) zc_R_58 ?_
    refine zg_lrem (zd_t dmR_value 23 rfl) (by decide) ?_
    rw [mz_rem (hsum 6 (by omega)) hM, Int.tmod_eq_emod_of_nonneg (by omega)]
    obtain ⟨q, hq⟩ : ∃ q : Nat, q = mz_sum (zs_re S i) 6 % 175107974924611 := ⟨_, rfl⟩
    have hq2 : (mz_sum (zs_re S i) 6 : Int) % 175107974924611 = (q : Int) := by omega
    have hq3 : q < 175107974924611 := by omega
    have hqi : mz_in (q : Int) := by unfold mz_in; omega
    rw [hq2]
    have hval : mz_val (zs_re S i) = if (q : Int) > 87553987462305 then (q : Int) - 175107974924611 else (q : Int) := by rw [mz_val_sum, hq]
    refine zg_lstore_n (zd_t dmR_value 24 rfl) (by decide) rfl ?_
    refine zg_lload_n (zd_t dmR_value 25 rfl) rfl ?_
    refine zg_ldc2 (zd_t dmR_value 26 rfl) zc_R_60 ?_
    refine zg_lcmp (zd_t dmR_value 27 rfl) ?_
    rw [mz_cmp hqi hH]
    refine zg_if_le (tgt := 54) (zd_t dmR_value 28 rfl) (by decide) (fun h => ?_) (fun h => ?_)
    · refine zg_lload_n (zd_t dmR_value 33 rfl) rfl ?_
      refine zg_lret (zd_t dmR_value 34 rfl) rfl ?_
      rw [hval, if_neg]
      intro h2
      rw [if_pos h2] at h
      exact absurd h (by decide)
    · refine zg_lload_n (zd_t dmR_value 29 rfl) rfl ?_
      refine zg_ldc2 (zd_t dmR_value 30 rfl) zc_R_58 ?_
      refine zg_lsub (zd_t dmR_value 31 rfl) ?_
      refine zg_goto (tgt := 55) (zd_t dmR_value 32 rfl) (by decide) ?_
      refine zg_lret (zd_t dmR_value 34 rfl) rfl ?_
      rw [hval, if_pos, mz_sub]
      apply Classical.byContradiction
      intro h2
      rw [if_neg h2] at h
      by_cases h3 : (q : Int) = 87553987462305
      · rw [if_pos h3] at h; exact absurd (by decide) h
      · rw [if_neg h3] at h; exact absurd (by decide) h
  | succ n ih =>
    intro k hk
    refine zg_iload_n (zd_t dmR_value 4 rfl) rfl ?_
    refine zg_bipush (v := (nI 6)) (zd_t dmR_value 5 rfl) (by decide) ?_
    refine zg_icmp_ge (tgt := 32) (zd_t dmR_value 6 rfl) (by decide) (fun h => absurd ((nI_leI (by decide) (by omega)).mp h) (by omega)) (fun _ => ?_)
    refine zg_lload_n (zd_t dmR_value 7 rfl) rfl ?_
    refine zg_aload_n (zd_t dmR_value 8 rfl) rfl ?_
    refine zg_getf (zd_t dmR_value 9 rfl) zf_R_9 (zs_reg hi) rfl ?_
    refine zg_iload_n (zd_t dmR_value 10 rfl) rfl ?_
    refine zg_iald (t0 := 0) (zd_t dmR_value 11 rfl) (zs_res hi) rfl rfl (show k < 8 by omega) (by decide) ?_
    refine zg_i2l (zd_t dmR_value 12 rfl) rfl ?_
    rw [mz_i2l (show zs_re S i k < 2 ^ 31 by have := mz_ok_le hok k (by omega); omega)]
    refine zg_getsN (zd_t dmR_value 13 rfl) zs_xW zg_R_54 ?_
    refine zg_iload_n (zd_t dmR_value 14 rfl) rfl ?_
    refine zg_tl (zd_t dmR_value 15 rfl) zs_yW rfl (show k < 6 by omega) (by decide) rfl ?_
    refine zg_lmul (zd_t dmR_value 16 rfl) ?_
    refine zg_ladd (zd_t dmR_value 17 rfl) ?_
    rw [mz_mul, mz_add, show (mz_sum (zs_re S i) k : Int) + (zs_re S i k : Int) * (mz_w k : Int) = ((mz_sum (zs_re S i) (k + 1) : Nat) : Int) by rw [show mz_sum (zs_re S i) (k + 1) = mz_sum (zs_re S i) k + zs_re S i k * mz_w k from rfl]; omega]
    refine zg_lstore_n (zd_t dmR_value 18 rfl) (by decide) rfl ?_
    refine zg_iinc (lv2 := [(3, .int (nI (k + 1))), (1, .long (mz_L (mz_sum (zs_re S i) (k + 1) : Int))), (0, .ref (zp_B P + 3 + 2 * i))]) (zd_t dmR_value 19 rfl) rfl (mz_inc k) (by decide) rfl ?_
    refine zg_goto (tgt := 4) (zd_t dmR_value 20 rfl) (by decide) ?_
    exact ih (k + 1) (by omega)
theorem zr_value (hi : i < 16) (hok : mz_ok (zs_re S i)) : zg_C l (zs_E P) d mR_value [.ref (zp_B P + 3 + 2 * i)] (zs_σ P S th S2 o w) (.inl (some (.long (mz_L (mz_val (zs_re S i))))), zs_σ P S th S2 o w) := by
  refine zg_C_of (by decide +kernel) (Nat.le_of_ble_eq_true rfl) ?_
  refine zg_lconst (v := mz_L 0) (zd_t dmR_value 0 rfl) (by decide) ?_
  refine zg_lstore_n (zd_t dmR_value 1 rfl) (by decide) rfl ?_
  refine zg_iconst (v := (nI 0)) (zd_t dmR_value 2 rfl) (by decide) ?_
  refine zg_istore_n (zd_t dmR_value 3 rfl) (by decide) rfl ?_
  exact zr_value_lp hi hok 6 0 rfl
theorem zr_fits_lp {n : Int} {sk : Int32} {s : Nat} (hi : i < 16) (hok : mz_ok (zs_re S i)) (hn : mz_in n) (hs : ∀ k, k < 8 → (nI k = sk ↔ k = s)) : ∀ (m k : Nat), k + m = 8 → (∀ j, j < k → j ≠ s → n % (mz_m j : Int) = (zs_re S i j : Int)) →
    zg_G l (zs_E P) (d + 2) mR_fits 3 [(4, .int (nI k)), (0, .ref (zp_B P + 3 + 2 * i)), (1, .long (mz_L n)), (3, .int sk)] [] (zs_σ P S th S2 o w) (.inl (some (.int (zs_bi (decide (mz_fit (zs_re S i) n s))))), zs_σ P S th S2 o w) := by
  intro m
  induction m with
  | zero =>
    intro k hk hall
    have hk : k = 8 := by omega
    subst hk
    refine zg_iload (zd_t dmR_fits 2 rfl) rfl ?_
    refine zg_bipush (v := (nI 8)) (zd_t dmR_fits 3 rfl) (by decide) ?_
    refine zg_icmp_ge (tgt := 40) (zd_t dmR_fits 4 rfl) (by decide) (fun _ => ?_) (fun h => absurd (by decide) h)
    refine zg_lload_n (zd_t dmR_fits 20 rfl) rfl ?_
    refine zg_callS (zd_t dmR_fits 21 rfl) zl_R_41 zm_mU_inRange zst_mU_inRange (av := [.long (mz_L n)]) (rest := []) rfl rfl (Nat.le_of_ble_eq_true rfl) (zu_inRange hn.w) ?_
    refine zg_zret (zd_t dmR_fits 22 rfl) rfl (zs_nb _) ?_
    have e : decide (mz_fit (zs_re S i) n s) = decide (-87553987462305 ≤ n ∧ n ≤ 87553987462305) := decide_eq_decide.mpr ⟨fun h => h.2, fun h => ⟨hall, h⟩⟩
    rw [e]
  | succ m ih =>
    intro k hk hall
    have next : (k ≠ s → n % (mz_m k : Int) = (zs_re S i k : Int)) → zg_G l (zs_E P) (d + 2) mR_fits 34 [(4, .int (nI k)), (0, .ref (zp_B P + 3 + 2 * i)), (1, .long (mz_L n)), (3, .int sk)] [] (zs_σ P S th S2 o w) (.inl (some (.int (zs_bi (decide (mz_fit (zs_re S i) n s))))), zs_σ P S th S2 o w) := by
      intro hk2
      refine zg_iinc (lv2 := [(4, .int (nI (k + 1))), (0, .ref (zp_B P + 3 + 2 * i)), (1, .long (mz_L n)), (3, .int sk)]) (zd_t dmR_fits 18 rfl) rfl (mz_inc k) (by decide) rfl ?_
      refine zg_goto (tgt := 3) (zd_t dmR_fits 19 rfl) (by decide) ?_
      exact ih (k + 1) (by omega) (fun j hj hne => by
        by_cases h : j = k
        · subst h; exact hk2 hne
        · exact hall j (by omega) hne)
    refine zg_iload (zd_t dmR_fits 2 rfl) rfl ?_
    refine zg_bipush (v := (nI 8)) (zd_t dmR_fits 3 rfl) (by decide) ?_
    refine zg_icmp_ge (tgt := 40) (zd_t dmR_fits 4 rfl) (by decide) (fun h => absurd ((nI_leI (by decide) (by omega)).mp h) (by omega)) (fun _ => ?_)
    refine zg_iload (zd_t dmR_fits 5 rfl) rfl ?_
    refine zg_iload_n (zd_t dmR_fits 6 rfl) rfl ?_
    refine zg_icmp_eq (tgt := 34) (zd_t dmR_fits 7 rfl) (by decide) (fun h => next (fun h2 => absurd ((hs k (by omega)).mp h) h2)) (fun h => ?_)
    have hks : k ≠ s := fun h2 => h ((hs k (by omega)).mpr h2)
    refine zg_lload_n (zd_t dmR_fits 8 rfl) rfl ?_
    refine zg_iload (zd_t dmR_fits 9 rfl) rfl ?_
    refine zg_callS (zd_t dmR_fits 10 rfl) zl_R_23 zm_mU_residueOf zst_mU_residueOf (av := [.long (mz_L n), .int (nI k)]) (rest := []) rfl rfl (Nat.le_of_ble_eq_true rfl) (zu_residueOf hn (by omega)) ?_
    refine zg_aload_n (zd_t dmR_fits 11 rfl) rfl ?_
    refine zg_getf (zd_t dmR_fits 12 rfl) zf_R_9 (zs_reg hi) rfl ?_
    refine zg_iload (zd_t dmR_fits 13 rfl) rfl ?_
    refine zg_iald (t0 := 0) (zd_t dmR_fits 14 rfl) (zs_res hi) rfl rfl (show k < 8 by omega) (by decide) ?_
    have hm := mz_m_lt k
    have h1 := Int.emod_nonneg n (show (mz_m k : Int) ≠ 0 by omega)
    have h2 := Int.emod_lt_of_pos n (show 0 < (mz_m k : Int) by omega)
    have h3 := hok k (by omega)
    refine zg_icmp_eq (tgt := 34) (zd_t dmR_fits 15 rfl) (by decide) (fun h => next (fun _ => ?_)) (fun h => ?_)
    · rw [nI_eq (by omega) (by omega)] at h
      omega
    · refine zg_iconst (v := (nI 0)) (zd_t dmR_fits 16 rfl) (by decide) ?_
      refine zg_zret (zd_t dmR_fits 17 rfl) rfl rfl ?_
      rw [decide_eq_false]
      · rfl
      · intro hf
        refine h ?_
        rw [nI_eq (by omega) (by omega)]
        have := hf.1 k (by omega) hks
        omega
theorem zr_fits {n : Int} {sk : Int32} {s : Nat} (hi : i < 16) (hok : mz_ok (zs_re S i)) (hn : mz_in n) (hs : ∀ k, k < 8 → (nI k = sk ↔ k = s)) :
    zg_C l (zs_E P) (d + 2) mR_fits [.ref (zp_B P + 3 + 2 * i), .long (mz_L n), .int sk] (zs_σ P S th S2 o w) (.inl (some (.int (zs_bi (decide (mz_fit (zs_re S i) n s))))), zs_σ P S th S2 o w) := by
  refine zg_C_of (by decide +kernel) (Nat.le_of_ble_eq_true rfl) ?_
  refine zg_iconst (v := (nI 0)) (zd_t dmR_fits 0 rfl) (by decide) ?_
  refine zg_istore (zd_t dmR_fits 1 rfl) (by decide) rfl ?_
  exact zr_fits_lp hi hok hn hs 8 0 rfl (fun j hj => absurd hj (by omega))
theorem mz_val_in (ρ : Nat → Nat) : mz_in (mz_val ρ) := by
  have h := mz_V_in (ρ 0) (ρ 1) (ρ 2) (ρ 3) (ρ 4) (ρ 5)
  show mz_in (mz_V (ρ 0) (ρ 1) (ρ 2) (ρ 3) (ρ 4) (ρ 5))
  unfold mz_in
  omega
theorem zs_cl1 : (zg_cl (zs_E P))[1]? = some ("ResidueUnit$Register", zs_TR, 3) := rfl
theorem zr_isGood (hi : i < 16) (hok : mz_ok (zs_re S i)) : zg_C l (zs_E P) (d + 3) mR_isGood [.ref (zp_B P + 3 + 2 * i)] (zs_σ P S th S2 o w) (.inl (some (.int (zs_bi (decide (mz_good (zs_re S i)))))), zs_σ P S th S2 o w) := by
  refine zg_C_of (by decide +kernel) (Nat.le_of_ble_eq_true rfl) ?_
  refine zg_aload_n (zd_t dmR_isGood 0 rfl) rfl ?_
  refine zg_aload_n (zd_t dmR_isGood 1 rfl) rfl ?_
  refine zg_callV (zd_t dmR_isGood 2 rfl) zl_R_62 zm_mR_value zi_mR_value zse_mR_value (zs_reg hi) zs_cl1 rfl (av := []) (rest := [.ref (zp_B P + 3 + 2 * i)]) rfl rfl (Nat.le_of_ble_eq_true rfl) (zr_value hi hok) ?_
  refine zg_iconst (v := (-1)) (zd_t dmR_isGood 3 rfl) (by decide) ?_
  refine zg_callV (zd_t dmR_isGood 4 rfl) zl_R_66 zm_mR_fits zi_mR_fits zse_mR_fits (zs_reg hi) zs_cl1 rfl (av := [.long (mz_L (mz_val (zs_re S i))), .int (-1)]) (rest := []) rfl rfl (Nat.le_of_ble_eq_true rfl) (zr_fits (s := 8) hi hok (mz_val_in _) (fun k hk => ⟨fun h => ?_, fun h => absurd h (by omega)⟩)) ?_
  · exfalso
    have h2 : (nI k).toInt = (-1 : Int32).toInt := by rw [h]
    rw [nI_toInt (by omega)] at h2
    have h3 : ((-1 : Int32).toInt) = -1 := by decide
    omega
  · refine zg_zret (zd_t dmR_isGood 5 rfl) rfl (zs_nb _) ?_
    have e : decide (mz_fit (zs_re S i) (mz_val (zs_re S i)) 8) = decide (mz_good (zs_re S i)) := decide_eq_decide.mpr ((mz_fit_val hok 8 (by decide)).trans ⟨fun h => ⟨h.1 (by decide), h.2 (by decide)⟩, fun h => ⟨fun _ => h.1, fun _ => h.2⟩⟩)
    rw [e]
end ZM2
end
section
/-- the heap behind an exception: one cell of six slots more -/
abbrev zs_exc (σ : zg_H) : zg_H := (σ.1, zg_sz σ + 1, zg_us σ + 6)
def zs_nm : List String := ["java/lang/RuntimeException", "java/lang/Exception"]
theorem zs_atoms {P : zs_P} {L : List Cond} (h : L.all (fun a => decide (a ∈ zs_hw) || (decide (a ∈ lw_tbl) && zs_gw a)) = true) : ∀ a ∈ L, a ∈ zg_ws (zs_E P) ∨ ∀ U H, zg_x (zs_E P) U H → U.heap = H → ∀ ar : Array Value, a.before ar U = true := by
  intro a ha
  have h1 := List.all_eq_true.mp h a ha
  rw [Bool.or_eq_true, Bool.and_eq_true, decide_eq_true_eq, decide_eq_true_eq] at h1
  rcases h1 with h1 | h1
  · exact Or.inr fun U H hx hH ar => hx.2.2.2.2.2.2 hH a h1 ar
  · exact Or.inl (List.mem_filter.mpr h1)
section ZM3
variable {l : Launch} {P : zs_P} {d : Nat} {σ : zg_H}
theorem zx_IOB : ∀ a ∈ Bundle.ownAtoms "ResidueUnit" 122 "java/lang/IndexOutOfBoundsException" zs_nm, a ∈ zg_ws (zs_E P) ∨ ∀ U H, zg_x (zs_E P) U H → U.heap = H → ∀ ar : Array Value, a.before ar U = true := zs_atoms (by decide +kernel)
theorem zx_IAE : ∀ a ∈ Bundle.ownAtoms "ResidueUnit" 42 "java/lang/IllegalArgumentException" zs_nm, a ∈ zg_ws (zs_E P) ∨ ∀ U H, zg_x (zs_E P) U H → U.heap = H → ∀ ar : Array Value, a.before ar U = true := zs_atoms (by decide +kernel)
theorem zx_ISE : ∀ a ∈ Bundle.ownAtoms "ResidueUnit" 57 "java/lang/IllegalStateException" zs_nm, a ∈ zg_ws (zs_E P) ∨ ∀ U H, zg_x (zs_E P) U H → U.heap = H → ∀ ar : Array Value, a.before ar U = true := zs_atoms (by decide +kernel)
theorem zs_str (k : Nat) (tx : String) (h : (k, tx) ∈ zs_tx) : ∀ U H, zg_x (zs_E P) U H → vk_R "ResidueUnit" k tx (zp_q P k) U := fun U H hx => hx.2.2.2.2.1 (k, tx) h
theorem zs_iIOB : Cond.initialized "java/lang/IndexOutOfBoundsException" ∈ zs_ws := zs_in 8 (by decide +kernel) (by decide +kernel)
theorem zs_iIAE : Cond.initialized "java/lang/IllegalArgumentException" ∈ zs_ws := zs_in 9 (by decide +kernel) (by decide +kernel)
theorem zs_iISE : Cond.initialized "java/lang/IllegalStateException" ∈ zs_ws := zs_in 11 (by decide +kernel) (by decide +kernel)
theorem zs_iARE : Cond.initialized "java/lang/ArithmeticException" ∈ zs_ws := zs_in 13 (by decide +kernel) (by decide +kernel)
theorem zu_requireRegister {r : Int32} (h : 0 ≤ r.toInt ∧ r.toInt < 16) : zg_C l (zs_E P) (d + 1) mU_requireRegister [.int r] σ (.inl none, σ) := by
  refine zg_C_of (by decide +kernel) (Nat.le_of_ble_eq_true rfl) ?_
  refine zg_iload_n (zd_t dmU_requireRegister 0 rfl) rfl ?_
  refine zg_callS (zd_t dmU_requireRegister 1 rfl) zl_U_142 zm_mU_isRegister zst_mU_isRegister (av := [.int r]) (rest := []) rfl rfl (Nat.le_of_ble_eq_true rfl) (zu_isRegister r) ?_
  rw [decide_eq_true h]
  refine zg_if_ne (tgt := 17) (zd_t dmU_requireRegister 2 rfl) (by decide) (fun _ => ?_) (fun h => absurd h (by decide))
  exact zg_vret (zd_t dmU_requireRegister 8 rfl) rfl rfl
theorem zu_requireRegisterX {r : Int32} (htr : l.stackTraces = false) (h : ¬ (0 ≤ r.toInt ∧ r.toInt < 16)) : zg_C l (zs_E P) (d + 6) mU_requireRegister [.int r] σ (.inr (zg_sz σ, "java/lang/IndexOutOfBoundsException"), zs_exc σ) := by
  refine zg_C_of (by decide +kernel) (Nat.le_of_ble_eq_true rfl) ?_
  refine zg_iload_n (zd_t dmU_requireRegister 0 rfl) rfl ?_
  refine zg_callS (zd_t dmU_requireRegister 1 rfl) zl_U_142 zm_mU_isRegister zst_mU_isRegister (av := [.int r]) (rest := []) rfl rfl (Nat.le_of_ble_eq_true rfl) (zu_isRegister r) ?_
  rw [decide_eq_false h]
  refine zg_if_ne (tgt := 17) (zd_t dmU_requireRegister 2 rfl) (by decide) (fun h => absurd rfl h) (fun _ => ?_)
  exact zg_throw htr (by omega) (by decide) (by decide) (zd_t dmU_requireRegister 3 rfl) (zd_t dmU_requireRegister 4 rfl) (zd_t dmU_requireRegister 5 rfl) (zd_t dmU_requireRegister 6 rfl) (zd_t dmU_requireRegister 7 rfl) zcl_U_118 zs_iIOB (zs_str 145 "there is no such register" (by decide)) (by decide +kernel) (by decide +kernel) zx_IOB (zs_in 101 (by decide +kernel) (by decide +kernel)) (fun h hh => absurd hh List.not_mem_nil) rfl
end ZM3
section ZM3b
variable {l : Launch} {P : zs_P} {d : Nat} {S : zs_S} {S2 : zs_S2} {th : Int32} {o : Int64} {w : Nat × Nat} {i : Nat}
theorem zs_rf_at {n j : Nat} {g : Nat → Nat} (h : j < n) : zs_rf n g j = some (g j) := if_pos h
theorem zs_rg {i : Nat} (h : i < 16) : 0 ≤ (nI i).toInt ∧ (nI i).toInt < 16 := by rw [nI_toInt (by omega)]; omega
theorem zu_load {v : Int} (hi : i < 16) (hv : -87553987462305 ≤ v ∧ v ≤ 87553987462305) : zg_C l (zs_E P) (d + 3) mU_load [.ref (zp_B P), .int (nI i), .long (mz_L v)] (zs_σ P S th S2 o w) (.inl none, zs_σ P (zs_sput S i v) th S2 o w) := by
  have hvi : mz_in v := by unfold mz_in; omega
  refine zg_C_of (by decide +kernel) (Nat.le_of_ble_eq_true rfl) ?_
  refine zg_iload_n (zd_t dmU_load 0 rfl) rfl ?_
  refine zg_callS (zd_t dmU_load 1 rfl) zl_U_30 zm_mU_requireRegister zst_mU_requireRegister (av := [.int (nI i)]) (rest := []) rfl rfl (Nat.le_of_ble_eq_true rfl) (zu_requireRegister (zs_rg hi)) ?_
  refine zg_lload_n (zd_t dmU_load 2 rfl) rfl ?_
  refine zg_callS (zd_t dmU_load 3 rfl) zl_U_34 zm_mU_inRange zst_mU_inRange (av := [.long (mz_L v)]) (rest := []) rfl rfl (Nat.le_of_ble_eq_true rfl) (zu_inRange hvi.w) ?_
  rw [decide_eq_true hv]
  refine zg_if_ne (tgt := 21) (zd_t dmU_load 4 rfl) (by decide) (fun _ => ?_) (fun h => absurd h (by decide))
  refine zg_aload_n (zd_t dmU_load 10 rfl) rfl ?_
  refine zg_getf (zd_t dmU_load 11 rfl) zf_U_11 zs_0 rfl ?_
  refine zg_iload_n (zd_t dmU_load 12 rfl) rfl ?_
  refine zg_aald (t0 := 3) (zd_t dmU_load 13 rfl) zs_1 rfl rfl hi (by decide) (zs_rf_at hi) ?_
  refine zg_lload_n (zd_t dmU_load 14 rfl) rfl ?_
  refine zg_callV (zd_t dmU_load 15 rfl) zl_U_45 zm_mR_put zi_mR_put zse_mR_put (zs_reg hi) zs_cl1 rfl (av := [.long (mz_L v)]) (rest := []) rfl rfl (Nat.le_of_ble_eq_true rfl) (zr_put hi hvi) ?_
  exact zg_vret (zd_t dmU_load 16 rfl) rfl rfl
theorem zu_loadX {r : Int32} {x : Int64} (htr : l.stackTraces = false) (h : ¬ (0 ≤ r.toInt ∧ r.toInt < 16)) {σ : zg_H} : zg_C l (zs_E P) (d + 7) mU_load [.ref (zp_B P), .int r, .long x] σ (.inr (zg_sz σ, "java/lang/IndexOutOfBoundsException"), zs_exc σ) := by
  refine zg_C_of (by decide +kernel) (Nat.le_of_ble_eq_true rfl) ?_
  refine zg_iload_n (zd_t dmU_load 0 rfl) rfl ?_
  exact zg_callST (zd_t dmU_load 1 rfl) zl_U_30 zm_mU_requireRegister zst_mU_requireRegister (av := [.int r]) (rest := []) rfl rfl (Nat.le_of_ble_eq_true rfl) (zu_requireRegisterX htr h) (fun h hh => absurd hh List.not_mem_nil) rfl
theorem zu_loadY {r : Int32} {v : Int} (htr : l.stackTraces = false) (h : 0 ≤ r.toInt ∧ r.toInt < 16) (hv : mz_wi v) (hv2 : ¬ (-87553987462305 ≤ v ∧ v ≤ 87553987462305)) {σ : zg_H} : zg_C l (zs_E P) (d + 7) mU_load [.ref (zp_B P), .int r, .long (mz_L v)] σ (.inr (zg_sz σ, "java/lang/IllegalArgumentException"), zs_exc σ) := by
  refine zg_C_of (by decide +kernel) (Nat.le_of_ble_eq_true rfl) ?_
  refine zg_iload_n (zd_t dmU_load 0 rfl) rfl ?_
  refine zg_callS (zd_t dmU_load 1 rfl) zl_U_30 zm_mU_requireRegister zst_mU_requireRegister (av := [.int r]) (rest := []) rfl rfl (Nat.le_of_ble_eq_true rfl) (zu_requireRegister h) ?_
  refine zg_lload_n (zd_t dmU_load 2 rfl) rfl ?_
  refine zg_callS (zd_t dmU_load 3 rfl) zl_U_34 zm_mU_inRange zst_mU_inRange (av := [.long (mz_L v)]) (rest := []) rfl rfl (Nat.le_of_ble_eq_true rfl) (zu_inRange hv) ?_
  rw [decide_eq_false hv2]
  refine zg_if_ne (tgt := 21) (zd_t dmU_load 4 rfl) (by decide) (fun h => absurd rfl h) (fun _ => ?_)
  exact zg_throw htr (by omega) (by decide) (by decide) (zd_t dmU_load 5 rfl) (zd_t dmU_load 6 rfl) (zd_t dmU_load 7 rfl) (zd_t dmU_load 8 rfl) (zd_t dmU_load 9 rfl) zcl_U_38 zs_iIAE (zs_str 40 "the number is not in range" (by decide)) (by decide +kernel) (by decide +kernel) zx_IAE (zs_in 175 (by decide +kernel) (by decide +kernel)) (fun h hh => absurd hh List.not_mem_nil) rfl
theorem zs_cl0 : (zg_cl (zs_E P))[0]? = some ("ResidueUnit", zs_TU, 4) := rfl
theorem zl_load {v : Int} (hi : i < 16) (hv : -87553987462305 ≤ v ∧ v ≤ 87553987462305) : zg_C l (zs_E P) (d + 4) mL_load [.ref (zp_B P), .int (nI i), .long (mz_L v)] (zs_σ P S th S2 o w) (.inl (some (.int 0)), zs_σ P (zs_sput S i v) th S2 o w) := by
  refine zg_C_of (by decide +kernel) (Nat.le_of_ble_eq_true rfl) ?_
  refine zg_aload_n (zd_t dmL_load 0 rfl) rfl ?_
  refine zg_iload_n (zd_t dmL_load 1 rfl) rfl ?_
  refine zg_lload_n (zd_t dmL_load 2 rfl) rfl ?_
  refine zg_callV (zd_t dmL_load 3 rfl) zl_L_7 zm_mU_load zi_mU_load zse_mU_load zs_0 zs_cl0 rfl (av := [.int (nI i), .long (mz_L v)]) (rest := []) rfl rfl (Nat.le_of_ble_eq_true rfl) (zu_load hi hv) ?_
  refine zg_goto (tgt := 17) (zd_t dmL_load 4 rfl) (by decide) ?_
  refine zg_iconst (v := (nI 0)) (zd_t dmL_load 11 rfl) (by decide) ?_
  exact zg_iret (zd_t dmL_load 12 rfl) rfl rfl
theorem zl_loadX {r : Int32} {x : Int64} (htr : l.stackTraces = false) (h : ¬ (0 ≤ r.toInt ∧ r.toInt < 16)) : zg_C l (zs_E P) (d + 8) mL_load [.ref (zp_B P), .int r, .long x] (zs_σ P S th S2 o w) (.inl (some (.int 1)), zs_exc (zs_σ P S th S2 o w)) := by
  refine zg_C_of (by decide +kernel) (Nat.le_of_ble_eq_true rfl) ?_
  refine zg_aload_n (zd_t dmL_load 0 rfl) rfl ?_
  refine zg_iload_n (zd_t dmL_load 1 rfl) rfl ?_
  refine zg_lload_n (zd_t dmL_load 2 rfl) rfl ?_
  refine zg_callVC (zd_t dmL_load 3 rfl) zl_L_7 zm_mU_load zi_mU_load zse_mU_load zs_0 zs_cl0 rfl (av := [.int r, .long x]) (rest := []) rfl rfl (Nat.le_of_ble_eq_true rfl) (zu_loadX htr h) (hp := 9) zh_load_IOB ?_
  refine zg_astore (zd_t dmL_load 5 rfl) (by decide) rfl ?_
  refine zg_iconst (v := (nI 1)) (zd_t dmL_load 6 rfl) (by decide) ?_
  exact zg_iret (zd_t dmL_load 7 rfl) rfl rfl
theorem zl_loadY {r : Int32} {v : Int} (htr : l.stackTraces = false) (h : 0 ≤ r.toInt ∧ r.toInt < 16) (hv : mz_wi v) (hv2 : ¬ (-87553987462305 ≤ v ∧ v ≤ 87553987462305)) : zg_C l (zs_E P) (d + 8) mL_load [.ref (zp_B P), .int r, .long (mz_L v)] (zs_σ P S th S2 o w) (.inl (some (.int 2)), zs_exc (zs_σ P S th S2 o w)) := by
  refine zg_C_of (by decide +kernel) (Nat.le_of_ble_eq_true rfl) ?_
  refine zg_aload_n (zd_t dmL_load 0 rfl) rfl ?_
  refine zg_iload_n (zd_t dmL_load 1 rfl) rfl ?_
  refine zg_lload_n (zd_t dmL_load 2 rfl) rfl ?_
  refine zg_callVC (zd_t dmL_load 3 rfl) zl_L_7 zm_mU_load zi_mU_load zse_mU_load zs_0 zs_cl0 rfl (av := [.int r, .long (mz_L v)]) (rest := []) rfl rfl (Nat.le_of_ble_eq_true rfl) (zu_loadY htr h hv hv2) (hp := 13) zh_load_IAE ?_
  refine zg_astore (zd_t dmL_load 8 rfl) (by decide) rfl ?_
  refine zg_iconst (v := (nI 2)) (zd_t dmL_load 9 rfl) (by decide) ?_
  exact zg_iret (zd_t dmL_load 10 rfl) rfl rfl
end ZM3b
end
section
/-! ints that are integers -/
theorem mi_toInt {n : Nat} (h : n < 2147483648) : (nI n).toInt = (n : Int) := nI_toInt h
theorem mi_rem (x : Int32) {m : Nat} (h0 : 0 < m) (hm : m < 2147483648) : (x - x / nI m * nI m).toInt = x.toInt.tmod (m : Int) := by
  have hy : (nI m).toInt = (m : Int) := nI_toInt hm
  have h1 : (x / nI m).toInt = x.toInt.tdiv (m : Int) := by
    rw [Int32.toInt_div_of_ne_right, hy]
    intro h
    have := congrArg Int32.toInt h
    rw [hy] at this
    have h3 : ((-1 : Int32).toInt) = -1 := by decide
    omega
  have h2 := Int.natAbs_tmod x.toInt (m : Int)
  have h3 : (x.toInt.tmod (m : Int)).natAbs < m := by rw [h2]; exact Nat.mod_lt _ (by omega)
  rw [Int32.toInt_sub, Int32.toInt_mul, h1, hy, Int.sub_bmod_bmod, Int.tmod_def, Int.mul_comm]
  rw [Int.tmod_def] at h3
  apply Int.bmod_eq_of_le <;> omega
theorem mi_ext {x y : Int32} (h : x.toInt = y.toInt) : x = y := Int32.toInt_inj.1 h
theorem mi_sign (x : Int32) : x < 0 ↔ x.toBitVec.msb = true := by
  rw [Int32.lt_iff_toInt_lt]
  show x.toBitVec.toInt < (0 : Int32).toInt ↔ _
  rw [show (0 : Int32).toInt = 0 from rfl, BitVec.toInt_neg_iff, BitVec.msb_eq_decide, decide_eq_true_eq]
  omega
theorem mi_xor (x y : Int32) : (x ^^^ y) < 0 ↔ ((x < 0) ↔ ¬ (y < 0)) := by
  rw [mi_sign, mi_sign, mi_sign, Int32.toBitVec_xor, BitVec.msb_xor]
  cases x.toBitVec.msb <;> cases y.toBitVec.msb <;> simp
theorem mz_tm {a b : Int} (hp : 0 < b) : a.tmod b = a % b ∨ (a < 0 ∧ a.tmod b = a % b - b ∧ a % b ≠ 0) := by
  rw [Int.tmod_eq_emod]
  split
  · left; omega
  · rename_i hh
    have h5 : a < 0 ∧ ¬ b ∣ a := by omega
    right
    refine ⟨h5.1, by omega, fun h6 => h5.2 (Int.dvd_of_emod_eq_zero h6)⟩
theorem mz_td {a b : Int} (hp : 0 < b) : (a.tdiv b = a / b ∧ (0 ≤ a ∨ a.tdiv b * b = a)) ∨ (a < 0 ∧ a.tdiv b = a / b + 1 ∧ a.tdiv b * b ≠ a) := by
  have h1 := Int.tmod_def a b
  have h2 := Int.emod_add_mul_ediv a b
  have h3 := Int.mul_comm b (a.tdiv b)
  rcases mz_tm (a := a) hp with h | ⟨h4, h5, h6⟩
  · left
    have h7 : b * a.tdiv b = b * (a / b) := by omega
    have h8 : a.tdiv b = a / b := Int.eq_of_mul_eq_mul_left (by omega) h7
    refine ⟨h8, ?_⟩
    by_cases h9 : 0 ≤ a
    · exact Or.inl h9
    · right
      have h10 : a.tmod b ≤ 0 := mz_tnp b (by omega)
      have h11 := Int.emod_nonneg a (show b ≠ 0 by omega)
      omega
  · right
    have h7 : b * a.tdiv b = b * (a / b + 1) := by rw [Int.mul_add, Int.mul_one]; omega
    have h8 := Int.emod_lt_of_pos a hp
    exact ⟨h4, Int.eq_of_mul_eq_mul_left (by omega) h7, by omega⟩
def mz_pop (x : Nat) : Nat := x % 2 + x / 2 % 2 + x / 4 % 2 + x / 8 % 2 + x / 16 % 2 + x / 32 % 2
section ZM4
variable {l : Launch} {P : zs_P} {d : Nat} {σ : zg_H}
theorem zj_floorDiv {a b : Int} (ha : mz_in a) (hb : mz_in b) (hp : 0 < b) : zg_C l (zs_E P) d mJ_floorDiv [.long (mz_L a), .long (mz_L b)] σ (.inl (some (.long (mz_L (a / b)))), σ) := by
  refine zg_C_of (by decide +kernel) (Nat.le_of_ble_eq_true rfl) ?_
  have h0 : mz_in 0 := by unfold mz_in; omega
  have hb0 : ¬ mz_L b = 0 := fun h => by
    have : mz_L b = mz_L 0 := h
    rw [mz_eq hb h0] at this
    omega
  have ht := mz_tdiv_in b ha
  have hm : mz_in (a.tdiv b * b) := by
    have h1 := Int.tmod_def a b
    have h2 := Int.natAbs_tmod a b
    have h3 := Nat.mod_le a.natAbs b.natAbs
    have h4 := ha.1
    have h5 := ha.2
    have h6 := Int.mul_comm b (a.tdiv b)
    have h7 : a.tdiv b * b = a - a.tmod b := by omega
    rw [h7]
    by_cases h8 : 0 ≤ a
    · have h9 := Int.tmod_nonneg b h8
      unfold mz_in; omega
    · have h9 := mz_tnp b (show a ≤ 0 by omega)
      unfold mz_in; omega
  have e3 := mz_td (a := a) hp
  have h2 : ¬ (mz_L b < 0) := fun h => by rw [show (0 : Int64) = mz_L 0 from rfl, mz_lt hb h0] at h; omega
  refine zg_lload_n (zd_t dmJ_floorDiv 0 rfl) rfl ?_
  refine zg_lload_n (zd_t dmJ_floorDiv 1 rfl) rfl ?_
  refine zg_ldiv (zd_t dmJ_floorDiv 2 rfl) hb0 ?_
  rw [mz_div ha hb]
  refine zg_lstore (zd_t dmJ_floorDiv 3 rfl) (by decide) rfl ?_
  refine zg_lload_n (zd_t dmJ_floorDiv 4 rfl) rfl ?_
  refine zg_lload_n (zd_t dmJ_floorDiv 5 rfl) rfl ?_
  refine zg_lxor (zd_t dmJ_floorDiv 6 rfl) ?_
  refine zg_lconst (v := mz_L 0) (zd_t dmJ_floorDiv 7 rfl) (by decide) ?_
  refine zg_lcmp (zd_t dmJ_floorDiv 8 rfl) ?_
  refine zg_if_ge (tgt := 27) (zd_t dmJ_floorDiv 9 rfl) (by decide) (fun h => ?_) (fun h => ?_)
  · rw [lg_cmp_ge] at h
    refine zg_lload (zd_t dmJ_floorDiv 20 rfl) rfl ?_
    refine zg_lret (zd_t dmJ_floorDiv 21 rfl) rfl ?_
    have h1 : ¬ ((mz_L a ^^^ mz_L b) < 0) := Int64.not_lt.mpr h
    rw [mz_xor] at h1
    have h3 : ¬ (mz_L a < 0) := fun h9 => h1 ⟨fun _ => h2, fun _ => h9⟩
    rw [show (0 : Int64) = mz_L 0 from rfl, mz_lt ha h0] at h3
    rcases e3 with e3 | e3
    · rw [e3.1]
    · omega
  · refine zg_lload (zd_t dmJ_floorDiv 10 rfl) rfl ?_
    refine zg_lload_n (zd_t dmJ_floorDiv 11 rfl) rfl ?_
    refine zg_lmul (zd_t dmJ_floorDiv 12 rfl) ?_
    refine zg_lload_n (zd_t dmJ_floorDiv 13 rfl) rfl ?_
    refine zg_lcmp (zd_t dmJ_floorDiv 14 rfl) ?_
    rw [mz_mul, mz_cmp hm ha]
    refine zg_if_eq (tgt := 27) (zd_t dmJ_floorDiv 15 rfl) (by decide) (fun h => ?_) (fun h => ?_)
    · refine zg_lload (zd_t dmJ_floorDiv 20 rfl) rfl ?_
      refine zg_lret (zd_t dmJ_floorDiv 21 rfl) rfl ?_
      have h4 : a.tdiv b * b = a := by
        by_cases h5 : a < a.tdiv b * b
        · rw [if_pos h5] at h; exact absurd h (by decide)
        · rw [if_neg h5] at h
          by_cases h6 : a.tdiv b * b = a
          · exact h6
          · rw [if_neg h6] at h; exact absurd h (by decide)
      rcases e3 with e3 | e3
      · rw [e3.1]
      · exact absurd h4 e3.2.2
    · refine zg_lload (zd_t dmJ_floorDiv 16 rfl) rfl ?_
      refine zg_lconst (v := mz_L 1) (zd_t dmJ_floorDiv 17 rfl) (by decide) ?_
      refine zg_lsub (zd_t dmJ_floorDiv 18 rfl) ?_
      refine zg_lret (zd_t dmJ_floorDiv 19 rfl) rfl ?_
      have h4 : a.tdiv b * b ≠ a := by
        intro h6
        rw [if_neg (by omega), if_pos h6] at h
        exact h rfl
      rw [mz_sub]
      rcases e3 with e3 | e3
      · exfalso
        rename_i h1
        rw [lg_cmp_ge] at h1
        have h1 : (mz_L a ^^^ mz_L b) < 0 := Int64.not_le.mp h1
        rw [mz_xor] at h1
        have h3 : mz_L a < 0 := h1.mpr h2
        rw [show (0 : Int64) = mz_L 0 from rfl, mz_lt ha h0] at h3
        rcases e3.2 with h5 | h5
        · omega
        · exact h4 h5
      · rw [e3.2.1, show a / b + 1 - 1 = a / b by omega]
theorem zj_floorModI (x : Int32) {m : Nat} (h0 : 0 < m) (hm : m ≤ 256) : zg_C l (zs_E P) d mJ_floorMod_I [.int x, .int (nI m)] σ (.inl (some (.int (nI (x.toInt % (m : Int)).toNat))), σ) := by
  refine zg_C_of (by decide +kernel) (Nat.le_of_ble_eq_true rfl) ?_
  have e1 := Int.emod_nonneg x.toInt (show (m : Int) ≠ 0 by omega)
  have e2 := Int.emod_lt_of_pos x.toInt (show 0 < (m : Int) by omega)
  have e3 := mz_tm (a := x.toInt) (show 0 < (m : Int) by omega)
  have er := mi_rem x h0 (show m < 2147483648 by omega)
  have hr : (nI (x.toInt % (m : Int)).toNat).toInt = x.toInt % (m : Int) := by rw [nI_toInt (by omega)]; omega
  have h2 : ¬ (nI m < 0) := nI_pos (by omega)
  refine zg_iload_n (zd_t dmJ_floorMod_I 0 rfl) rfl ?_
  refine zg_iload_n (zd_t dmJ_floorMod_I 1 rfl) rfl ?_
  refine zg_irem (zd_t dmJ_floorMod_I 2 rfl) (nI_ne0 h0 (by omega)) ?_
  obtain ⟨t, ht⟩ : ∃ t, t = x - x / nI m * nI m := ⟨_, rfl⟩
  rw [← ht] at er ⊢
  refine zg_istore_n (zd_t dmJ_floorMod_I 3 rfl) (by decide) rfl ?_
  refine zg_iload_n (zd_t dmJ_floorMod_I 4 rfl) rfl ?_
  refine zg_iload_n (zd_t dmJ_floorMod_I 5 rfl) rfl ?_
  refine zg_ixor (zd_t dmJ_floorMod_I 6 rfl) ?_
  refine zg_if_ge (tgt := 18) (zd_t dmJ_floorMod_I 7 rfl) (by decide) (fun h => ?_) (fun h => ?_)
  · refine zg_iload_n (zd_t dmJ_floorMod_I 14 rfl) rfl ?_
    refine zg_iret (zd_t dmJ_floorMod_I 15 rfl) rfl ?_
    have h1 : ¬ ((x ^^^ nI m) < 0) := Int32.not_lt.mpr h
    rw [mi_xor] at h1
    have h3 : ¬ (x < 0) := fun h9 => h1 ⟨fun _ => h2, fun _ => h9⟩
    rw [Int32.lt_iff_toInt_lt] at h3
    have h3 : ¬ x.toInt < 0 := h3
    have : t = nI (x.toInt % (m : Int)).toNat := mi_ext (by rw [er, hr]; rcases e3 with e3 | e3 <;> omega)
    rw [this]
  · refine zg_iload_n (zd_t dmJ_floorMod_I 8 rfl) rfl ?_
    refine zg_if_eq (tgt := 18) (zd_t dmJ_floorMod_I 9 rfl) (by decide) (fun h4 => ?_) (fun h4 => ?_)
    · refine zg_iload_n (zd_t dmJ_floorMod_I 14 rfl) rfl ?_
      refine zg_iret (zd_t dmJ_floorMod_I 15 rfl) rfl ?_
      have h5 : t.toInt = 0 := by rw [h4]; rfl
      have : t = nI (x.toInt % (m : Int)).toNat := mi_ext (by rw [er, hr]; rcases e3 with e3 | e3 <;> omega)
      rw [this]
    · refine zg_iload_n (zd_t dmJ_floorMod_I 10 rfl) rfl ?_
      refine zg_iload_n (zd_t dmJ_floorMod_I 11 rfl) rfl ?_
      refine zg_iadd (zd_t dmJ_floorMod_I 12 rfl) ?_
      refine zg_iret (zd_t dmJ_floorMod_I 13 rfl) rfl ?_
      have h1 : (x ^^^ nI m) < 0 := Int32.not_le.mp h
      rw [mi_xor] at h1
      have h3 : x < 0 := h1.mpr h2
      rw [Int32.lt_iff_toInt_lt] at h3
      have h3 : x.toInt < 0 := h3
      have h5 : t.toInt ≠ 0 := fun h6 => h4 (mi_ext (by rw [h6]; rfl))
      have h6 : t.toInt ≤ 0 := by rw [er]; exact mz_tnp _ (by omega)
      have : t + nI m = nI (x.toInt % (m : Int)).toNat := mi_ext (by
        rw [Int32.toInt_add, nI_toInt (show m < 2 ^ 31 by omega), hr]
        rcases e3 with e3 | e3
        · omega
        · rw [show t.toInt + (m : Int) = x.toInt % (m : Int) by omega]
          apply Int.bmod_eq_of_le <;> omega)
      rw [this]
theorem zu_isInstruction (r : Int32) : zg_C l (zs_E P) d mU_isInstruction [.int r] σ (.inl (some (.int (zs_bi (decide (0 ≤ r.toInt ∧ r.toInt < 32))))), σ) := by
  refine zg_C_of (by decide +kernel) (Nat.le_of_ble_eq_true rfl) ?_
  refine zg_iload_n (zd_t dmU_isInstruction 0 rfl) rfl ?_
  refine zg_if_lt (tgt := 14) (zd_t dmU_isInstruction 1 rfl) (by decide) (fun h => ?_) (fun h => ?_)
  · refine zg_iconst (v := (nI 0)) (zd_t dmU_isInstruction 7 rfl) (by decide) ?_
    refine zg_zret (zd_t dmU_isInstruction 8 rfl) rfl rfl ?_
    rw [Int32.lt_iff_toInt_lt] at h
    have h : r.toInt < 0 := h
    rw [decide_eq_false (by omega)]
    rfl
  · rw [Int32.lt_iff_toInt_lt] at h
    have h : ¬ r.toInt < 0 := h
    refine zg_iload_n (zd_t dmU_isInstruction 2 rfl) rfl ?_
    refine zg_bipush (v := (nI 32)) (zd_t dmU_isInstruction 3 rfl) (by decide) ?_
    refine zg_icmp_ge (tgt := 14) (zd_t dmU_isInstruction 4 rfl) (by decide) (fun h2 => ?_) (fun h2 => ?_)
    · rw [Int32.le_iff_toInt_le] at h2
      have h2 : 32 ≤ r.toInt := h2
      refine zg_iconst (v := (nI 0)) (zd_t dmU_isInstruction 7 rfl) (by decide) ?_
      refine zg_zret (zd_t dmU_isInstruction 8 rfl) rfl rfl ?_
      rw [decide_eq_false (by omega)]
      rfl
    · rw [Int32.le_iff_toInt_le] at h2
      have h2 : ¬ 32 ≤ r.toInt := h2
      refine zg_iconst (v := (nI 1)) (zd_t dmU_isInstruction 5 rfl) (by decide) ?_
      refine zg_goto (tgt := 15) (zd_t dmU_isInstruction 6 rfl) (by decide) ?_
      refine zg_zret (zd_t dmU_isInstruction 8 rfl) rfl rfl ?_
      rw [decide_eq_true (by omega)]
      rfl
def mz_us (x : Int32) (y : Nat) : Int32 := (x.toUInt32 >>> ((nI y).toUInt32 &&& Int32.toUInt32 31)).toInt32
def mz_b1 (x : Int32) : Int32 := x - (mz_us x 1 &&& 1431655765)
def mz_b2 (x : Int32) : Int32 := (mz_b1 x &&& 858993459) + (mz_us (mz_b1 x) 2 &&& 858993459)
def mz_b3 (x : Int32) : Int32 := (mz_b2 x + mz_us (mz_b2 x) 4) &&& 252645135
def mz_b4 (x : Int32) : Int32 := mz_b3 x + mz_us (mz_b3 x) 8
def mz_b5 (x : Int32) : Int32 := (mz_b4 x + mz_us (mz_b4 x) 16) &&& 63
theorem mz_bc : ∀ x, x < 64 → mz_b5 (nI x) = nI (mz_pop x) := by decide
theorem zj_bitCount {x : Nat} (hx : x < 64) : zg_C l (zs_E P) d mJ_bitCount [.int (nI x)] σ (.inl (some (.int (nI (mz_pop x)))), σ) := by
  refine zg_C_of (by decide +kernel) (Nat.le_of_ble_eq_true rfl) ?_
  refine zg_iload_n (zd_t dmJ_bitCount 0 rfl) rfl ?_
  refine zg_iload_n (zd_t dmJ_bitCount 1 rfl) rfl ?_
  refine zg_iconst (v := (nI 1)) (zd_t dmJ_bitCount 2 rfl) (by decide) ?_
  refine zg_iushr (zd_t dmJ_bitCount 3 rfl) rfl ?_
  refine zg_ldcw (zd_t dmJ_bitCount 4 rfl) zc_J_265 ?_
  refine zg_iand (zd_t dmJ_bitCount 5 rfl) ?_
  refine zg_isub (zd_t dmJ_bitCount 6 rfl) ?_
  refine zg_istore_n (zd_t dmJ_bitCount 7 rfl) (by decide) rfl ?_
  refine zg_iload_n (zd_t dmJ_bitCount 8 rfl) rfl ?_
  refine zg_ldcw (zd_t dmJ_bitCount 9 rfl) zc_J_266 ?_
  refine zg_iand (zd_t dmJ_bitCount 10 rfl) ?_
  refine zg_iload_n (zd_t dmJ_bitCount 11 rfl) rfl ?_
  refine zg_iconst (v := (nI 2)) (zd_t dmJ_bitCount 12 rfl) (by decide) ?_
  refine zg_iushr (zd_t dmJ_bitCount 13 rfl) rfl ?_
  refine zg_ldcw (zd_t dmJ_bitCount 14 rfl) zc_J_266 ?_
  refine zg_iand (zd_t dmJ_bitCount 15 rfl) ?_
  refine zg_iadd (zd_t dmJ_bitCount 16 rfl) ?_
  refine zg_istore_n (zd_t dmJ_bitCount 17 rfl) (by decide) rfl ?_
  refine zg_iload_n (zd_t dmJ_bitCount 18 rfl) rfl ?_
  refine zg_iload_n (zd_t dmJ_bitCount 19 rfl) rfl ?_
  refine zg_iconst (v := (nI 4)) (zd_t dmJ_bitCount 20 rfl) (by decide) ?_
  refine zg_iushr (zd_t dmJ_bitCount 21 rfl) rfl ?_
  refine zg_iadd (zd_t dmJ_bitCount 22 rfl) ?_
  refine zg_ldcw (zd_t dmJ_bitCount 23 rfl) zc_J_267 ?_
  refine zg_iand (zd_t dmJ_bitCount 24 rfl) ?_
  refine zg_istore_n (zd_t dmJ_bitCount 25 rfl) (by decide) rfl ?_
  refine zg_iload_n (zd_t dmJ_bitCount 26 rfl) rfl ?_
  refine zg_iload_n (zd_t dmJ_bitCount 27 rfl) rfl ?_
  refine zg_bipush (v := (nI 8)) (zd_t dmJ_bitCount 28 rfl) (by decide) ?_
  refine zg_iushr (zd_t dmJ_bitCount 29 rfl) rfl ?_
  refine zg_iadd (zd_t dmJ_bitCount 30 rfl) ?_
  refine zg_istore_n (zd_t dmJ_bitCount 31 rfl) (by decide) rfl ?_
  refine zg_iload_n (zd_t dmJ_bitCount 32 rfl) rfl ?_
  refine zg_iload_n (zd_t dmJ_bitCount 33 rfl) rfl ?_
  refine zg_bipush (v := (nI 16)) (zd_t dmJ_bitCount 34 rfl) (by decide) ?_
  refine zg_iushr (zd_t dmJ_bitCount 35 rfl) rfl ?_
  refine zg_iadd (zd_t dmJ_bitCount 36 rfl) ?_
  refine zg_istore_n (zd_t dmJ_bitCount 37 rfl) (by decide) rfl ?_
  refine zg_iload_n (zd_t dmJ_bitCount 38 rfl) rfl ?_
  refine zg_bipush (v := (nI 63)) (zd_t dmJ_bitCount 39 rfl) (by decide) ?_
  refine zg_iand (zd_t dmJ_bitCount 40 rfl) ?_
  refine zg_iret (zd_t dmJ_bitCount 41 rfl) rfl ?_
  rw [← mz_bc x hx]
  rfl
abbrev mz_sm (c : Int32) : Prop := 0 < c.toInt ∧ c.toInt < 64 ∧ mz_pop c.toInt.toNat ≤ 4
theorem zu_areScalingModuli (c : Int32) : zg_C l (zs_E P) (d + 1) mU_areScalingModuli [.int c] σ (.inl (some (.int (zs_bi (decide (mz_sm c))))), σ) := by
  refine zg_C_of (by decide +kernel) (Nat.le_of_ble_eq_true rfl) ?_
  refine zg_iload_n (zd_t dmU_areScalingModuli 0 rfl) rfl ?_
  refine zg_if_le (tgt := 22) (zd_t dmU_areScalingModuli 1 rfl) (by decide) (fun h => ?_) (fun h => ?_)
  · refine zg_iconst (v := (nI 0)) (zd_t dmU_areScalingModuli 11 rfl) (by decide) ?_
    refine zg_zret (zd_t dmU_areScalingModuli 12 rfl) rfl rfl ?_
    rw [Int32.le_iff_toInt_le] at h
    have h : c.toInt ≤ 0 := h
    rw [decide_eq_false (by omega)]
    rfl
  · rw [Int32.le_iff_toInt_le] at h
    have h : ¬ c.toInt ≤ 0 := h
    refine zg_iload_n (zd_t dmU_areScalingModuli 2 rfl) rfl ?_
    refine zg_bipush (v := (nI 64)) (zd_t dmU_areScalingModuli 3 rfl) (by decide) ?_
    refine zg_icmp_ge (tgt := 22) (zd_t dmU_areScalingModuli 4 rfl) (by decide) (fun h2 => ?_) (fun h2 => ?_)
    · rw [Int32.le_iff_toInt_le] at h2
      have h2 : 64 ≤ c.toInt := h2
      refine zg_iconst (v := (nI 0)) (zd_t dmU_areScalingModuli 11 rfl) (by decide) ?_
      refine zg_zret (zd_t dmU_areScalingModuli 12 rfl) rfl rfl ?_
      rw [decide_eq_false (by omega)]
      rfl
    · rw [Int32.le_iff_toInt_le] at h2
      have h2 : ¬ 64 ≤ c.toInt := h2
      obtain ⟨x, hx⟩ : ∃ x : Nat, x = c.toInt.toNat := ⟨_, rfl⟩
      have hc : c = nI x := mi_ext (by rw [nI_toInt (by omega)]; omega)
      have hp : mz_pop x < 64 := by unfold mz_pop; omega
      refine zg_iload_n (zd_t dmU_areScalingModuli 5 rfl) rfl ?_
      refine zg_callS (zd_t dmU_areScalingModuli 6 rfl) zl_U_149 zm_mJ_bitCount zst_mJ_bitCount (av := [.int c]) (rest := []) rfl rfl (Nat.le_of_ble_eq_true rfl) (by rw [hc]; exact zj_bitCount (by omega)) ?_
      refine zg_iconst (v := (nI 4)) (zd_t dmU_areScalingModuli 7 rfl) (by decide) ?_
      refine zg_icmp_gt (tgt := 22) (zd_t dmU_areScalingModuli 8 rfl) (by decide) (fun h3 => ?_) (fun h3 => ?_)
      · refine zg_iconst (v := (nI 0)) (zd_t dmU_areScalingModuli 11 rfl) (by decide) ?_
        refine zg_zret (zd_t dmU_areScalingModuli 12 rfl) rfl rfl ?_
        rw [nI_ltI (by omega) (by omega)] at h3
        rw [decide_eq_false (by unfold mz_sm; rw [← hx]; omega)]
        rfl
      · refine zg_iconst (v := (nI 1)) (zd_t dmU_areScalingModuli 9 rfl) (by decide) ?_
        refine zg_goto (tgt := 23) (zd_t dmU_areScalingModuli 10 rfl) (by decide) ?_
        refine zg_zret (zd_t dmU_areScalingModuli 12 rfl) rfl rfl ?_
        rw [nI_ltI (by omega) (by omega)] at h3
        rw [decide_eq_true (by unfold mz_sm; rw [← hx]; omega)]
        rfl
end ZM4
end
section
def mz_cap (x y : Int) : Int := if y ≠ 0 ∧ 175107974924610 / (y.natAbs : Int) < (x.natAbs : Int) then 175107974924611 else x * y
abbrev mz_hr (x : Int) : Prop := -87553987462305 ≤ x ∧ x ≤ 87553987462305
theorem mz_hr.i {x : Int} (h : mz_hr x) : mz_in x := by
  have h1 := h.1
  have h2 := h.2
  unfold mz_in
  omega
theorem mz_cap_le {x y : Int} (hx : mz_hr x) (hy : mz_hr y) : -175107974924611 ≤ mz_cap x y ∧ mz_cap x y ≤ 175107974924611 := by
  unfold mz_cap
  by_cases h : y ≠ 0 ∧ 175107974924610 / (y.natAbs : Int) < (x.natAbs : Int)
  · rw [if_pos h]; omega
  · rw [if_neg h]
    by_cases hy0 : y = 0
    · subst hy0; simp
    · have h1 : ¬ (175107974924610 / (y.natAbs : Int) < (x.natAbs : Int)) := fun h2 => h ⟨hy0, h2⟩
      have h2 : (x.natAbs : Int) ≤ 175107974924610 / (y.natAbs : Int) := by omega
      have h3 : (x.natAbs : Int) * (y.natAbs : Int) ≤ 175107974924610 := by
        have h4 := Int.mul_le_mul_of_nonneg_right h2 (show (0 : Int) ≤ (y.natAbs : Int) by omega)
        have h5 := Int.ediv_mul_le 175107974924610 (show (y.natAbs : Int) ≠ 0 by omega)
        omega
      have h4 : (x * y).natAbs = x.natAbs * y.natAbs := Int.natAbs_mul x y
      have h5 : ((x * y).natAbs : Int) ≤ 175107974924610 := by rw [h4]; simpa using h3
      omega
def mz_cn (op : Nat) (t x y : Int) : Int := match op with
  | 0 => x + y
  | 1 => x - y
  | 2 => mz_cap x y
  | _ => t + mz_cap x y
def mz_cr (op k t x y : Nat) : Nat := match op with
  | 0 => (x + y) % mz_m k
  | 1 => (x + mz_m k - y) % mz_m k
  | 2 => x * y % mz_m k
  | _ => (t + x * y) % mz_m k
theorem mz_cn_in {op : Nat} {t x y : Int} (ht : mz_hr t) (hx : mz_hr x) (hy : mz_hr y) : mz_in (mz_cn op t x y) := by
  have h := mz_cap_le hx hy
  unfold mz_cn mz_in
  split <;> omega
section ZM5
variable {l : Launch} {P : zs_P} {d : Nat} {σ : zg_H}
theorem zu_cappedProduct {x y : Int} (hx : mz_hr x) (hy : mz_hr y) : zg_C l (zs_E P) (d + 1) mU_cappedProduct [.long (mz_L x), .long (mz_L y)] σ (.inl (some (.long (mz_L (mz_cap x y)))), σ) := by
  refine zg_C_of (by decide +kernel) (Nat.le_of_ble_eq_true rfl) ?_
  have h0 : mz_in 0 := by unfold mz_in; omega
  have hM : mz_in 175107974924610 := by unfold mz_in; omega
  have hxa : mz_in (x.natAbs : Int) := by unfold mz_in; omega
  have hya : mz_in (y.natAbs : Int) := by unfold mz_in; omega
  have t1 : zg_G l (zs_E P) (d + 1) mU_cappedProduct 27 (lv_args 0 [.long (mz_L x), .long (mz_L y)]) [.int (nI 1)] σ (.inl (some (.long (mz_L 175107974924611))), σ) := by
    refine zg_istore (zd_t dmU_cappedProduct 15 rfl) (by decide) rfl ?_
    refine zg_iload (zd_t dmU_cappedProduct 16 rfl) rfl ?_
    refine zg_if_eq (tgt := 40) (zd_t dmU_cappedProduct 17 rfl) (by decide) (fun h => absurd h (by decide)) (fun _ => ?_)
    refine zg_ldc2 (zd_t dmU_cappedProduct 18 rfl) zc_U_205 ?_
    refine zg_goto (tgt := 43) (zd_t dmU_cappedProduct 19 rfl) (by decide) ?_
    exact zg_lret (zd_t dmU_cappedProduct 23 rfl) rfl rfl
  have t0 : zg_G l (zs_E P) (d + 1) mU_cappedProduct 27 (lv_args 0 [.long (mz_L x), .long (mz_L y)]) [.int (nI 0)] σ (.inl (some (.long (mz_L (x * y)))), σ) := by
    refine zg_istore (zd_t dmU_cappedProduct 15 rfl) (by decide) rfl ?_
    refine zg_iload (zd_t dmU_cappedProduct 16 rfl) rfl ?_
    refine zg_if_eq (tgt := 40) (zd_t dmU_cappedProduct 17 rfl) (by decide) (fun _ => ?_) (fun h => absurd rfl h)
    refine zg_lload_n (zd_t dmU_cappedProduct 20 rfl) rfl ?_
    refine zg_lload_n (zd_t dmU_cappedProduct 21 rfl) rfl ?_
    refine zg_lmul (zd_t dmU_cappedProduct 22 rfl) ?_
    rw [mz_mul]
    exact zg_lret (zd_t dmU_cappedProduct 23 rfl) rfl rfl
  refine zg_lload_n (zd_t dmU_cappedProduct 0 rfl) rfl ?_
  refine zg_lconst (v := mz_L 0) (zd_t dmU_cappedProduct 1 rfl) (by decide) ?_
  refine zg_lcmp (zd_t dmU_cappedProduct 2 rfl) ?_
  rw [mz_cmp hy.i h0]
  by_cases hy0 : y = 0
  · refine zg_if_eq (tgt := 26) (zd_t dmU_cappedProduct 3 rfl) (by decide) (fun _ => ?_) (fun h => absurd (by rw [if_neg (by omega), if_pos hy0]) h)
    refine zg_iconst (v := (nI 0)) (zd_t dmU_cappedProduct 14 rfl) (by decide) ?_
    rw [show mz_cap x y = x * y from if_neg (fun h => h.1 hy0)]
    exact t0
  · refine zg_if_eq (tgt := 26) (zd_t dmU_cappedProduct 3 rfl) (by decide) (fun h => ?_) (fun _ => ?_)
    · exfalso
      by_cases h2 : 0 < y
      · rw [if_pos h2] at h; exact absurd h (by decide)
      · rw [if_neg h2, if_neg hy0] at h; exact absurd h (by decide)
    refine zg_lload_n (zd_t dmU_cappedProduct 4 rfl) rfl ?_
    refine zg_callS (zd_t dmU_cappedProduct 5 rfl) zl_U_199 zm_mJ_abs zst_mJ_abs (av := [.long (mz_L x)]) (rest := []) rfl rfl (Nat.le_of_ble_eq_true rfl) (zj_abs hx.i) ?_
    refine zg_ldc2 (zd_t dmU_cappedProduct 6 rfl) zc_U_203 ?_
    refine zg_lload_n (zd_t dmU_cappedProduct 7 rfl) rfl ?_
    refine zg_callS (zd_t dmU_cappedProduct 8 rfl) zl_U_199 zm_mJ_abs zst_mJ_abs (av := [.long (mz_L y)]) (rest := [.long (mz_L 175107974924610), .long (mz_L (x.natAbs : Int))]) rfl rfl (Nat.le_of_ble_eq_true rfl) (zj_abs hy.i) ?_
    refine zg_ldiv (zd_t dmU_cappedProduct 9 rfl) (fun h => ?_) ?_
    · have h2 : mz_L (y.natAbs : Int) = mz_L 0 := h
      rw [mz_eq hya h0] at h2
      omega
    rw [mz_div hM hya, Int.tdiv_eq_ediv_of_nonneg (by omega)]
    have hq : mz_in (175107974924610 / (y.natAbs : Int)) := by
      have h1 := Int.ediv_nonneg (show (0 : Int) ≤ 175107974924610 by omega) (show (0 : Int) ≤ (y.natAbs : Int) by omega)
      have h2 := Int.ediv_le_self (y.natAbs : Int) (show (0 : Int) ≤ 175107974924610 by omega)
      unfold mz_in
      omega
    refine zg_lcmp (zd_t dmU_cappedProduct 10 rfl) ?_
    rw [mz_cmp hxa hq]
    by_cases hg : 175107974924610 / (y.natAbs : Int) < (x.natAbs : Int)
    · refine zg_if_le (tgt := 26) (zd_t dmU_cappedProduct 11 rfl) (by decide) (fun h => absurd h (by rw [if_pos hg]; decide)) (fun _ => ?_)
      refine zg_iconst (v := (nI 1)) (zd_t dmU_cappedProduct 12 rfl) (by decide) ?_
      refine zg_goto (tgt := 27) (zd_t dmU_cappedProduct 13 rfl) (by decide) ?_
      rw [show mz_cap x y = 175107974924611 from if_pos ⟨hy0, hg⟩]
      exact t1
    · refine zg_if_le (tgt := 26) (zd_t dmU_cappedProduct 11 rfl) (by decide) (fun _ => ?_) (fun h => ?_)
      · refine zg_iconst (v := (nI 0)) (zd_t dmU_cappedProduct 14 rfl) (by decide) ?_
        rw [show mz_cap x y = x * y from if_neg (fun h => hg h.2)]
        exact t0
      · exfalso
        refine h ?_
        rw [if_neg hg]
        split <;> decide
theorem zu_combineNumbers {op : Nat} {t x y : Int} (ho : op < 4) (ht : mz_hr t) (hx : mz_hr x) (hy : mz_hr y) : zg_C l (zs_E P) (d + 2) mU_combineNumbers [.int (nI op), .long (mz_L t), .long (mz_L x), .long (mz_L y)] σ (.inl (some (.long (mz_L (mz_cn op t x y)))), σ) := by
  refine zg_C_of (by decide +kernel) (Nat.le_of_ble_eq_true rfl) ?_
  refine zg_iload_n (zd_t dmU_combineNumbers 0 rfl) rfl ?_
  rcases (by omega : op = 0 ∨ op = 1 ∨ op = 2 ∨ op = 3) with rfl | rfl | rfl | rfl
  · refine zg_tableIn (off := 27) (tgt := 28) (zd_t dmU_combineNumbers 1 rfl) (by decide) (by decide) (by decide) (by decide) ?_
    refine zg_lload_n (zd_t dmU_combineNumbers 2 rfl) rfl ?_
    refine zg_lload (zd_t dmU_combineNumbers 3 rfl) rfl ?_
    refine zg_ladd (zd_t dmU_combineNumbers 4 rfl) ?_
    rw [mz_add]
    exact zg_lret (zd_t dmU_combineNumbers 5 rfl) rfl rfl
  · refine zg_tableIn (off := 32) (tgt := 33) (zd_t dmU_combineNumbers 1 rfl) (by decide) (by decide) (by decide) (by decide) ?_
    refine zg_lload_n (zd_t dmU_combineNumbers 6 rfl) rfl ?_
    refine zg_lload (zd_t dmU_combineNumbers 7 rfl) rfl ?_
    refine zg_lsub (zd_t dmU_combineNumbers 8 rfl) ?_
    rw [mz_sub]
    exact zg_lret (zd_t dmU_combineNumbers 9 rfl) rfl rfl
  · refine zg_tableIn (off := 37) (tgt := 38) (zd_t dmU_combineNumbers 1 rfl) (by decide) (by decide) (by decide) (by decide) ?_
    refine zg_lload_n (zd_t dmU_combineNumbers 10 rfl) rfl ?_
    refine zg_lload (zd_t dmU_combineNumbers 11 rfl) rfl ?_
    refine zg_callS (zd_t dmU_combineNumbers 12 rfl) zl_U_196 zm_mU_cappedProduct zst_mU_cappedProduct (av := [.long (mz_L x), .long (mz_L y)]) (rest := []) rfl rfl (Nat.le_of_ble_eq_true rfl) (zu_cappedProduct hx hy) ?_
    exact zg_lret (zd_t dmU_combineNumbers 13 rfl) rfl rfl
  · refine zg_tableOut (tgt := 45) (zd_t dmU_combineNumbers 1 rfl) (by decide) (by decide) ?_
    refine zg_lload_n (zd_t dmU_combineNumbers 14 rfl) rfl ?_
    refine zg_lload_n (zd_t dmU_combineNumbers 15 rfl) rfl ?_
    refine zg_lload (zd_t dmU_combineNumbers 16 rfl) rfl ?_
    refine zg_callS (zd_t dmU_combineNumbers 17 rfl) zl_U_196 zm_mU_cappedProduct zst_mU_cappedProduct (av := [.long (mz_L x), .long (mz_L y)]) (rest := [.long (mz_L t)]) rfl rfl (Nat.le_of_ble_eq_true rfl) (zu_cappedProduct hx hy) ?_
    refine zg_ladd (zd_t dmU_combineNumbers 18 rfl) ?_
    rw [mz_add]
    exact zg_lret (zd_t dmU_combineNumbers 19 rfl) rfl rfl
theorem zu_combineResidues {op k t x y : Nat} (ho : op < 4) (hk : k < 8) (ht : t < mz_m k) (hx : x < mz_m k) (hy : y < mz_m k) : zg_C l (zs_E P) d mU_combineResidues [.int (nI op), .int (nI k), .int (nI t), .int (nI x), .int (nI y)] σ (.inl (some (.int (nI (mz_cr op k t x y)))), σ) := by
  refine zg_C_of (by decide +kernel) (Nat.le_of_ble_eq_true rfl) ?_
  have hm := mz_m_lt k
  have hxy : x * y ≤ 65536 := by
    have := Nat.mul_le_mul (show x ≤ 256 by omega) (show y ≤ 256 by omega)
    omega
  have hmz : ¬ nI (mz_m k) = 0 := nI_ne0 hm.2 (by omega)
  refine zg_gets (zd_t dmU_combineResidues 0 rfl) zs_xM zg_U_190 ?_
  refine zg_iload_n (zd_t dmU_combineResidues 1 rfl) rfl ?_
  refine zg_ti (zd_t dmU_combineResidues 2 rfl) zs_yM rfl hk (by decide) rfl ?_
  refine zg_istore (zd_t dmU_combineResidues 3 rfl) (by decide) rfl ?_
  refine zg_iload_n (zd_t dmU_combineResidues 4 rfl) rfl ?_
  rcases (by omega : op = 0 ∨ op = 1 ∨ op = 2 ∨ op = 3) with rfl | rfl | rfl | rfl
  · refine zg_tableIn (off := 28) (tgt := 36) (zd_t dmU_combineResidues 5 rfl) (by decide) (by decide) (by decide) (by decide) ?_
    refine zg_iload_n (zd_t dmU_combineResidues 6 rfl) rfl ?_
    refine zg_iload (zd_t dmU_combineResidues 7 rfl) rfl ?_
    refine zg_iadd (zd_t dmU_combineResidues 8 rfl) ?_
    refine zg_iload (zd_t dmU_combineResidues 9 rfl) rfl ?_
    refine zg_irem (zd_t dmU_combineResidues 10 rfl) hmz ?_
    rw [nI_add, pk_rem (by omega) hm.2 (by omega)]
    exact zg_iret (zd_t dmU_combineResidues 11 rfl) rfl rfl
  · refine zg_tableIn (off := 36) (tgt := 44) (zd_t dmU_combineResidues 5 rfl) (by decide) (by decide) (by decide) (by decide) ?_
    refine zg_iload_n (zd_t dmU_combineResidues 12 rfl) rfl ?_
    refine zg_iload (zd_t dmU_combineResidues 13 rfl) rfl ?_
    refine zg_iadd (zd_t dmU_combineResidues 14 rfl) ?_
    refine zg_iload (zd_t dmU_combineResidues 15 rfl) rfl ?_
    refine zg_isub (zd_t dmU_combineResidues 16 rfl) ?_
    refine zg_iload (zd_t dmU_combineResidues 17 rfl) rfl ?_
    refine zg_irem (zd_t dmU_combineResidues 18 rfl) hmz ?_
    rw [nI_add, pk_sub (by omega), pk_rem (by omega) hm.2 (by omega)]
    exact zg_iret (zd_t dmU_combineResidues 19 rfl) rfl rfl
  · refine zg_tableIn (off := 47) (tgt := 55) (zd_t dmU_combineResidues 5 rfl) (by decide) (by decide) (by decide) (by decide) ?_
    refine zg_iload_n (zd_t dmU_combineResidues 20 rfl) rfl ?_
    refine zg_iload (zd_t dmU_combineResidues 21 rfl) rfl ?_
    refine zg_imul (zd_t dmU_combineResidues 22 rfl) ?_
    refine zg_iload (zd_t dmU_combineResidues 23 rfl) rfl ?_
    refine zg_irem (zd_t dmU_combineResidues 24 rfl) hmz ?_
    rw [pk_mul, pk_rem (by omega) hm.2 (by omega)]
    exact zg_iret (zd_t dmU_combineResidues 25 rfl) rfl rfl
  · refine zg_tableOut (tgt := 63) (zd_t dmU_combineResidues 5 rfl) (by decide) (by decide) ?_
    refine zg_iload_n (zd_t dmU_combineResidues 26 rfl) rfl ?_
    refine zg_iload_n (zd_t dmU_combineResidues 27 rfl) rfl ?_
    refine zg_iload (zd_t dmU_combineResidues 28 rfl) rfl ?_
    refine zg_imul (zd_t dmU_combineResidues 29 rfl) ?_
    refine zg_iadd (zd_t dmU_combineResidues 30 rfl) ?_
    refine zg_iload (zd_t dmU_combineResidues 31 rfl) rfl ?_
    refine zg_irem (zd_t dmU_combineResidues 32 rfl) hmz ?_
    rw [pk_mul, nI_add, pk_rem (by omega) hm.2 (by omega)]
    exact zg_iret (zd_t dmU_combineResidues 33 rfl) rfl rfl
end ZM5
end
section
def zs_ck (S : zs_S) (op e a b k : Nat) : zs_S := (S.1, S.2.1, fun j t => if j = e ∧ t < k then mz_cr op t (zs_re S e t) (zs_re S a t) (zs_re S b t) else zs_re S j t, zs_ex S, zs_su S, zs_pg S)
theorem zs_ck_0 (S : zs_S) (op e a b : Nat) : zs_ck S op e a b 0 = S := by
  unfold zs_ck
  simp
theorem zs_ck_at (S : zs_S) (op e a b k j : Nat) : zs_re (zs_ck S op e a b k) j k = zs_re S j k := if_neg (by omega)
theorem zs_ck_s (S : zs_S) (op e a b k : Nat) : zs_sre (zs_ck S op e a b k) e k (mz_cr op k (zs_re S e k) (zs_re S a k) (zs_re S b k)) = zs_ck S op e a b (k + 1) := by
  unfold zs_sre zs_ck zs_u2 zs_re
  congr 3
  funext j t
  by_cases h1 : j = e ∧ t = k
  · rw [if_pos h1, if_pos ⟨h1.1, by omega⟩, h1.2]
  · rw [if_neg h1]
    by_cases h2 : j = e ∧ t < k
    · simp only [if_pos h2]
      rw [if_pos ⟨h2.1, by omega⟩]
    · simp only [if_neg h2]
      rw [if_neg (fun h => h2 ⟨h.1, by have := h.2; have : t ≠ k := fun e => h1 ⟨h.1, e⟩; omega⟩)]
/-- whether the result can be trusted -/
def zs_tr (S : zs_S) (op e a b : Nat) : Bool := zs_su S a && zs_su S b && (zs_su S e || decide (op ≠ 3))
def zs_cres (S : zs_S) (op e a b : Nat) : Int := mz_cn op (zs_ex S e) (zs_ex S a) (zs_ex S b)
def zs_csu (S : zs_S) (op e a b : Nat) : Bool := zs_tr S op e a b && decide (mz_hr (zs_cres S op e a b))
def zs_scmb (S : zs_S) (op e a b : Nat) : zs_S := zs_sex (zs_ssu (zs_ck S op e a b 8) e (zs_csu S op e a b)) e (if zs_csu S op e a b = true then zs_cres S op e a b else 0)
section ZM6
variable {l : Launch} {P : zs_P} {d : Nat} {S : zs_S} {S2 : zs_S2} {th : Int32} {o : Int64} {w : Nat × Nat} {e a b op : Nat}
/-- from the trust on -/
theorem zr_combine_t (he : e < 16) (ha : a < 16) (hb : b < 16) (ho : op < 4) (hx : ∀ j, j < 16 → mz_hr (zs_ex S j)) : zg_G l (zs_E P) (d + 3) mR_combine 81 [(4, .int (nI 8)), (0, .ref (zp_B P + 3 + 2 * e)), (1, .int (nI op)), (2, .ref (zp_B P + 3 + 2 * a)), (3, .ref (zp_B P + 3 + 2 * b))] [.int (zs_bi (zs_tr S op e a b))] (zs_σ P (zs_ck S op e a b 8) th S2 o w) (.inl none, zs_σ P (zs_scmb S op e a b) th S2 o w) := by
  have h0 : mz_in 0 := by unfold mz_in; omega
  unfold zs_scmb
  cases htr : zs_tr S op e a b with
  | false =>
    have hs : zs_csu S op e a b = false := by unfold zs_csu; rw [htr]; rfl
    rw [hs]
    refine zg_istore (zd_t dmR_combine 41 rfl) (by decide) rfl ?_
    refine zg_iload (zd_t dmR_combine 42 rfl) rfl ?_
    refine zg_if_eq (tgt := 107) (zd_t dmR_combine 43 rfl) (by decide) (fun _ => ?_) (fun h => absurd rfl h)
    refine zg_lconst (v := mz_L 0) (zd_t dmR_combine 53 rfl) (by decide) ?_
    refine zg_lstore (zd_t dmR_combine 54 rfl) (by decide) rfl ?_
    refine zg_aload_n (zd_t dmR_combine 55 rfl) rfl ?_
    refine zg_iload (zd_t dmR_combine 56 rfl) rfl ?_
    refine zg_if_eq (tgt := 128) (zd_t dmR_combine 57 rfl) (by decide) (fun _ => ?_) (fun h => absurd rfl h)
    refine zg_iconst (v := (nI 0)) (zd_t dmR_combine 63 rfl) (by decide) ?_
    refine zg_putf (zd_t dmR_combine 64 rfl) zf_R_19 zt_1_2 (zs_reg he) (Nat.le_of_ble_eq_true rfl) rfl rfl (zs_up_su (b := false) he) ?_
    refine zg_aload_n (zd_t dmR_combine 65 rfl) rfl ?_
    refine zg_aload_n (zd_t dmR_combine 66 rfl) rfl ?_
    refine zg_getf (zd_t dmR_combine 67 rfl) zf_R_19 (zs_reg he) rfl ?_
    rw [show zs_su (zs_ssu (zs_ck S op e a b 8) e false) e = false from if_pos rfl]
    refine zg_if_eq (tgt := 145) (zd_t dmR_combine 68 rfl) (by decide) (fun _ => ?_) (fun h => absurd rfl h)
    refine zg_lconst (v := mz_L 0) (zd_t dmR_combine 71 rfl) (by decide) ?_
    refine zg_putf (zd_t dmR_combine 72 rfl) zf_R_15 zt_1_1 (zs_reg he) (Nat.le_of_ble_eq_true rfl) rfl rfl (zs_up_ex he) ?_
    exact zg_vret (zd_t dmR_combine 73 rfl) rfl rfl
  | true =>
    have hc := mz_cn_in (op := op) (hx e he) (hx a ha) (hx b hb)
    refine zg_istore (zd_t dmR_combine 41 rfl) (by decide) rfl ?_
    refine zg_iload (zd_t dmR_combine 42 rfl) rfl ?_
    refine zg_if_eq (tgt := 107) (zd_t dmR_combine 43 rfl) (by decide) (fun h => absurd h (by decide)) (fun _ => ?_)
    refine zg_iload_n (zd_t dmR_combine 44 rfl) rfl ?_
    refine zg_aload_n (zd_t dmR_combine 45 rfl) rfl ?_
    refine zg_getf (zd_t dmR_combine 46 rfl) zf_R_15 (zs_reg he) rfl ?_
    refine zg_aload_n (zd_t dmR_combine 47 rfl) rfl ?_
    refine zg_getf (zd_t dmR_combine 48 rfl) zf_R_15 (zs_reg ha) rfl ?_
    refine zg_aload_n (zd_t dmR_combine 49 rfl) rfl ?_
    refine zg_getf (zd_t dmR_combine 50 rfl) zf_R_15 (zs_reg hb) rfl ?_
    refine zg_callS (zd_t dmR_combine 51 rfl) zl_R_37 zm_mU_combineNumbers zst_mU_combineNumbers (av := [.int (nI op), .long (mz_L (zs_ex S e)), .long (mz_L (zs_ex S a)), .long (mz_L (zs_ex S b))]) (rest := []) rfl rfl (Nat.le_of_ble_eq_true rfl) (zu_combineNumbers ho (hx e he) (hx a ha) (hx b hb)) ?_
    refine zg_goto (tgt := 108) (zd_t dmR_combine 52 rfl) (by decide) ?_
    refine zg_lstore (zd_t dmR_combine 54 rfl) (by decide) rfl ?_
    refine zg_aload_n (zd_t dmR_combine 55 rfl) rfl ?_
    refine zg_iload (zd_t dmR_combine 56 rfl) rfl ?_
    refine zg_if_eq (tgt := 128) (zd_t dmR_combine 57 rfl) (by decide) (fun h => absurd h (by decide)) (fun _ => ?_)
    refine zg_lload (zd_t dmR_combine 58 rfl) rfl ?_
    refine zg_callS (zd_t dmR_combine 59 rfl) zl_R_41 zm_mU_inRange zst_mU_inRange (av := [.long (mz_L (zs_cres S op e a b))]) (rest := [.ref (zp_B P + 3 + 2 * e)]) rfl rfl (Nat.le_of_ble_eq_true rfl) (zu_inRange hc.w) ?_
    by_cases hr : mz_hr (zs_cres S op e a b)
    · have hs : zs_csu S op e a b = true := by unfold zs_csu; rw [htr, decide_eq_true hr]; rfl
      rw [decide_eq_true hr, hs]
      refine zg_if_eq (tgt := 128) (zd_t dmR_combine 60 rfl) (by decide) (fun h => absurd h (by decide)) (fun _ => ?_)
      refine zg_iconst (v := (nI 1)) (zd_t dmR_combine 61 rfl) (by decide) ?_
      refine zg_goto (tgt := 129) (zd_t dmR_combine 62 rfl) (by decide) ?_
      refine zg_putf (zd_t dmR_combine 64 rfl) zf_R_19 zt_1_2 (zs_reg he) (Nat.le_of_ble_eq_true rfl) rfl rfl (zs_up_su (b := true) he) ?_
      refine zg_aload_n (zd_t dmR_combine 65 rfl) rfl ?_
      refine zg_aload_n (zd_t dmR_combine 66 rfl) rfl ?_
      refine zg_getf (zd_t dmR_combine 67 rfl) zf_R_19 (zs_reg he) rfl ?_
      rw [show zs_su (zs_ssu (zs_ck S op e a b 8) e true) e = true from if_pos rfl]
      refine zg_if_eq (tgt := 145) (zd_t dmR_combine 68 rfl) (by decide) (fun h => absurd h (by decide)) (fun _ => ?_)
      refine zg_lload (zd_t dmR_combine 69 rfl) rfl ?_
      refine zg_goto (tgt := 146) (zd_t dmR_combine 70 rfl) (by decide) ?_
      refine zg_putf (zd_t dmR_combine 72 rfl) zf_R_15 zt_1_1 (zs_reg he) (Nat.le_of_ble_eq_true rfl) rfl rfl (zs_up_ex he) ?_
      exact zg_vret (zd_t dmR_combine 73 rfl) rfl rfl
    · have hs : zs_csu S op e a b = false := by unfold zs_csu; rw [htr, decide_eq_false hr]; rfl
      rw [decide_eq_false hr, hs]
      refine zg_if_eq (tgt := 128) (zd_t dmR_combine 60 rfl) (by decide) (fun _ => ?_) (fun h => absurd rfl h)
      refine zg_iconst (v := (nI 0)) (zd_t dmR_combine 63 rfl) (by decide) ?_
      refine zg_putf (zd_t dmR_combine 64 rfl) zf_R_19 zt_1_2 (zs_reg he) (Nat.le_of_ble_eq_true rfl) rfl rfl (zs_up_su (b := false) he) ?_
      refine zg_aload_n (zd_t dmR_combine 65 rfl) rfl ?_
      refine zg_aload_n (zd_t dmR_combine 66 rfl) rfl ?_
      refine zg_getf (zd_t dmR_combine 67 rfl) zf_R_19 (zs_reg he) rfl ?_
      rw [show zs_su (zs_ssu (zs_ck S op e a b 8) e false) e = false from if_pos rfl]
      refine zg_if_eq (tgt := 145) (zd_t dmR_combine 68 rfl) (by decide) (fun _ => ?_) (fun h => absurd rfl h)
      refine zg_lconst (v := mz_L 0) (zd_t dmR_combine 71 rfl) (by decide) ?_
      refine zg_putf (zd_t dmR_combine 72 rfl) zf_R_15 zt_1_1 (zs_reg he) (Nat.le_of_ble_eq_true rfl) rfl rfl (zs_up_ex he) ?_
      exact zg_vret (zd_t dmR_combine 73 rfl) rfl rfl
theorem zr_combine_lp (he : e < 16) (ha : a < 16) (hb : b < 16) (ho : op < 4) (hx : ∀ j, j < 16 → mz_hr (zs_ex S j)) (hok : ∀ j, j < 16 → mz_ok (zs_re S j)) : ∀ (n k : Nat), k + n = 8 →
    zg_G l (zs_E P) (d + 3) mR_combine 3 [(4, .int (nI k)), (0, .ref (zp_B P + 3 + 2 * e)), (1, .int (nI op)), (2, .ref (zp_B P + 3 + 2 * a)), (3, .ref (zp_B P + 3 + 2 * b))] [] (zs_σ P (zs_ck S op e a b k) th S2 o w) (.inl none, zs_σ P (zs_scmb S op e a b) th S2 o w) := by
  intro n
  induction n with
  | zero =>
    intro k hk
    have hk : k = 8 := by omega
    subst hk
    have tl := zr_combine_t (l := l) (P := P) (d := d) (S := S) (S2 := S2) (th := th) (o := o) (w := w) he ha hb ho hx
    refine zg_iload (zd_t dmR_combine 2 rfl) rfl ?_
    refine zg_bipush (v := (nI 8)) (zd_t dmR_combine 3 rfl) (by decide) ?_
    refine zg_icmp_ge (tgt := 50) (zd_t dmR_combine 4 rfl) (by decide) (fun _ => ?_) (fun h => absurd (by decide) h)
    have out : zs_tr S op e a b = false → zg_G l (zs_E P) (d + 3) mR_combine 80 [(4, .int (nI 8)), (0, .ref (zp_B P + 3 + 2 * e)), (1, .int (nI op)), (2, .ref (zp_B P + 3 + 2 * a)), (3, .ref (zp_B P + 3 + 2 * b))] [] (zs_σ P (zs_ck S op e a b 8) th S2 o w) (.inl none, zs_σ P (zs_scmb S op e a b) th S2 o w) := by
      intro hf
      refine zg_iconst (v := (nI 0)) (zd_t dmR_combine 40 rfl) (by decide) ?_
      rw [hf] at tl
      exact tl
    have yes : zs_tr S op e a b = true → zg_G l (zs_E P) (d + 3) mR_combine 76 [(4, .int (nI 8)), (0, .ref (zp_B P + 3 + 2 * e)), (1, .int (nI op)), (2, .ref (zp_B P + 3 + 2 * a)), (3, .ref (zp_B P + 3 + 2 * b))] [] (zs_σ P (zs_ck S op e a b 8) th S2 o w) (.inl none, zs_σ P (zs_scmb S op e a b) th S2 o w) := by
      intro hf
      refine zg_iconst (v := (nI 1)) (zd_t dmR_combine 38 rfl) (by decide) ?_
      refine zg_goto (tgt := 81) (zd_t dmR_combine 39 rfl) (by decide) ?_
      rw [hf] at tl
      exact tl
    refine zg_aload_n (zd_t dmR_combine 26 rfl) rfl ?_
    refine zg_getf (zd_t dmR_combine 27 rfl) zf_R_19 (zs_reg ha) rfl ?_
    cases h1 : zs_su S a with
    | false =>
      rw [show zs_su (zs_ck S op e a b 8) a = zs_su S a from rfl, h1]
      exact zg_if_eq (tgt := 80) (zd_t dmR_combine 28 rfl) (by decide) (fun _ => out (by unfold zs_tr; rw [h1]; rfl)) (fun h => absurd rfl h)
    | true =>
      rw [show zs_su (zs_ck S op e a b 8) a = zs_su S a from rfl, h1]
      refine zg_if_eq (tgt := 80) (zd_t dmR_combine 28 rfl) (by decide) (fun h => absurd h (by decide)) (fun _ => ?_)
      refine zg_aload_n (zd_t dmR_combine 29 rfl) rfl ?_
      refine zg_getf (zd_t dmR_combine 30 rfl) zf_R_19 (zs_reg hb) rfl ?_
      cases h2 : zs_su S b with
      | false =>
        rw [show zs_su (zs_ck S op e a b 8) b = zs_su S b from rfl, h2]
        exact zg_if_eq (tgt := 80) (zd_t dmR_combine 31 rfl) (by decide) (fun _ => out (by unfold zs_tr; rw [h1, h2]; rfl)) (fun h => absurd rfl h)
      | true =>
        rw [show zs_su (zs_ck S op e a b 8) b = zs_su S b from rfl, h2]
        refine zg_if_eq (tgt := 80) (zd_t dmR_combine 31 rfl) (by decide) (fun h => absurd h (by decide)) (fun _ => ?_)
        refine zg_aload_n (zd_t dmR_combine 32 rfl) rfl ?_
        refine zg_getf (zd_t dmR_combine 33 rfl) zf_R_19 (zs_reg he) rfl ?_
        cases h3 : zs_su S e with
        | true =>
          rw [show zs_su (zs_ck S op e a b 8) e = zs_su S e from rfl, h3]
          exact zg_if_ne (tgt := 76) (zd_t dmR_combine 34 rfl) (by decide) (fun _ => yes (by unfold zs_tr; rw [h1, h2, h3]; rfl)) (fun h => absurd h (by decide))
        | false =>
          rw [show zs_su (zs_ck S op e a b 8) e = zs_su S e from rfl, h3]
          refine zg_if_ne (tgt := 76) (zd_t dmR_combine 34 rfl) (by decide) (fun h => absurd rfl h) (fun _ => ?_)
          refine zg_iload_n (zd_t dmR_combine 35 rfl) rfl ?_
          refine zg_iconst (v := (nI 3)) (zd_t dmR_combine 36 rfl) (by decide) ?_
          by_cases h4 : op = 3
          · exact zg_icmp_eq (tgt := 80) (zd_t dmR_combine 37 rfl) (by decide) (fun _ => out (by unfold zs_tr; rw [h1, h2, h3, decide_eq_false (by omega)]; rfl)) (fun h => absurd (by rw [h4]) h)
          · exact zg_icmp_eq (tgt := 80) (zd_t dmR_combine 37 rfl) (by decide) (fun h => absurd ((nI_eq (by omega) (by decide)).mp h) h4) (fun _ => yes (by unfold zs_tr; rw [h1, h2, h3, decide_eq_true h4]; rfl))
  | succ n ih =>
    intro k hk
    have hk8 : k < 8 := by omega
    refine zg_iload (zd_t dmR_combine 2 rfl) rfl ?_
    refine zg_bipush (v := (nI 8)) (zd_t dmR_combine 3 rfl) (by decide) ?_
    refine zg_icmp_ge (tgt := 50) (zd_t dmR_combine 4 rfl) (by decide) (fun h => absurd ((nI_leI (by decide) (by omega)).mp h) (by omega)) (fun _ => ?_)
    refine zg_aload_n (zd_t dmR_combine 5 rfl) rfl ?_
    refine zg_getf (zd_t dmR_combine 6 rfl) zf_R_9 (zs_reg he) rfl ?_
    refine zg_iload (zd_t dmR_combine 7 rfl) rfl ?_
    refine zg_iload_n (zd_t dmR_combine 8 rfl) rfl ?_
    refine zg_iload (zd_t dmR_combine 9 rfl) rfl ?_
    refine zg_aload_n (zd_t dmR_combine 10 rfl) rfl ?_
    refine zg_getf (zd_t dmR_combine 11 rfl) zf_R_9 (zs_reg he) rfl ?_
    refine zg_iload (zd_t dmR_combine 12 rfl) rfl ?_
    refine zg_iald (t0 := 0) (zd_t dmR_combine 13 rfl) (zs_res he) rfl rfl hk8 (by decide) ?_
    refine zg_aload_n (zd_t dmR_combine 14 rfl) rfl ?_
    refine zg_getf (zd_t dmR_combine 15 rfl) zf_R_9 (zs_reg ha) rfl ?_
    refine zg_iload (zd_t dmR_combine 16 rfl) rfl ?_
    refine zg_iald (t0 := 0) (zd_t dmR_combine 17 rfl) (zs_res ha) rfl rfl hk8 (by decide) ?_
    refine zg_aload_n (zd_t dmR_combine 18 rfl) rfl ?_
    refine zg_getf (zd_t dmR_combine 19 rfl) zf_R_9 (zs_reg hb) rfl ?_
    refine zg_iload (zd_t dmR_combine 20 rfl) rfl ?_
    refine zg_iald (t0 := 0) (zd_t dmR_combine 21 rfl) (zs_res hb) rfl rfl hk8 (by decide) ?_
    rw [zs_ck_at, zs_ck_at, zs_ck_at]
    refine zg_callS (zd_t dmR_combine 22 rfl) zl_R_33 zm_mU_combineResidues zst_mU_combineResidues (av := [.int (nI op), .int (nI k), .int (nI (zs_re S e k)), .int (nI (zs_re S a k)), .int (nI (zs_re S b k))]) (rest := [.int (nI k), .ref (zp_B P + 4 + 2 * e)]) rfl rfl (Nat.le_of_ble_eq_true rfl) (zu_combineResidues ho hk8 (hok e he k hk8) (hok a ha k hk8) (hok b hb k hk8)) ?_
    refine zg_iast (t0 := 0) (zd_t dmR_combine 23 rfl) (zs_res he) rfl rfl hk8 (by decide) ((zs_up_res he).trans (by rw [zs_ck_s])) ?_
    refine zg_iinc (lv2 := [(4, .int (nI (k + 1))), (0, .ref (zp_B P + 3 + 2 * e)), (1, .int (nI op)), (2, .ref (zp_B P + 3 + 2 * a)), (3, .ref (zp_B P + 3 + 2 * b))]) (zd_t dmR_combine 24 rfl) rfl (mz_inc k) (by decide) rfl ?_
    refine zg_goto (tgt := 3) (zd_t dmR_combine 25 rfl) (by decide) ?_
    exact ih (k + 1) (by omega)
theorem zr_combine (he : e < 16) (ha : a < 16) (hb : b < 16) (ho : op < 4) (hx : ∀ j, j < 16 → mz_hr (zs_ex S j)) (hok : ∀ j, j < 16 → mz_ok (zs_re S j)) : zg_C l (zs_E P) (d + 3) mR_combine [.ref (zp_B P + 3 + 2 * e), .int (nI op), .ref (zp_B P + 3 + 2 * a), .ref (zp_B P + 3 + 2 * b)] (zs_σ P S th S2 o w) (.inl none, zs_σ P (zs_scmb S op e a b) th S2 o w) := by
  refine zg_C_of (by decide +kernel) (Nat.le_of_ble_eq_true rfl) ?_
  refine zg_iconst (v := (nI 0)) (zd_t dmR_combine 0 rfl) (by decide) ?_
  refine zg_istore (zd_t dmR_combine 1 rfl) (by decide) rfl ?_
  have h := zr_combine_lp (l := l) (P := P) (d := d) (S := S) (S2 := S2) (th := th) (o := o) (w := w) he ha hb ho hx hok 8 0 rfl
  rw [zs_ck_0] at h
  exact h
end ZM6
end
section
theorem mz_stk : ∀ k, k < 6 → (175107974924611 : Int).tdiv (mz_m k : Int) = mz_st k
  | 0, _ => by decide +kernel
  | 1, _ => by decide +kernel
  | 2, _ => by decide +kernel
  | 3, _ => by decide +kernel
  | 4, _ => by decide +kernel
  | 5, _ => by decide +kernel
  | n + 6, h => absurd h (by omega)
theorem mz_stp : ∀ k, 0 < mz_st k ∧ mz_st k < 800000000000 := by
  intro k
  unfold mz_st
  split <;> decide
theorem mz_ivl : ∀ k, mz_iv k < 256 := by
  intro k
  unfold mz_iv
  split <;> decide
theorem mz_num_in (ρ : Nat → Nat) (h6 : ρ 6 < 256) (k : Nat) : mz_in (((mz_val ρ + 87553987462305) % mz_st k - 87553987462305)) ∧ mz_in ((((ρ 6 : Int) - ((mz_val ρ + 87553987462305) % mz_st k - 87553987462305)) * (mz_iv k : Int))) ∧ mz_in (mz_num ρ k) := by
  have hs := mz_stp k
  have hi := mz_ivl k
  have h1 := Int.emod_nonneg (mz_val ρ + 87553987462305) (show mz_st k ≠ 0 by omega)
  have h2 := Int.emod_lt_of_pos (mz_val ρ + 87553987462305) hs.1
  unfold mz_num
  obtain ⟨a, ha⟩ : ∃ a, a = (mz_val ρ + 87553987462305) % mz_st k := ⟨_, rfl⟩
  rw [← ha] at h1 h2 ⊢
  obtain ⟨i, hi2⟩ : ∃ i : Int, i = (mz_iv k : Int) := ⟨_, rfl⟩
  rw [← hi2]
  have hi3 : 0 ≤ i ∧ i < 256 := by omega
  obtain ⟨x, hx⟩ : ∃ x : Int, x = (ρ 6 : Int) - (a - 87553987462305) := ⟨_, rfl⟩
  rw [← hx]
  have hx2 : -800000000000 ≤ x ∧ x ≤ 87553987462561 := by omega
  have p1 : x * i ≤ 87553987462561 * 256 := by
    by_cases h : 0 ≤ x
    · exact Int.mul_le_mul hx2.2 (by omega) hi3.1 (by omega)
    · have := Int.mul_nonneg (show 0 ≤ -x by omega) hi3.1
      rw [Int.neg_mul] at this
      omega
  have p2 : (-x) * i ≤ 800000000000 * 256 := by
    by_cases h : 0 ≤ -x
    · exact Int.mul_le_mul (by omega) (by omega) hi3.1 (by omega)
    · have := Int.mul_nonneg (show 0 ≤ x by omega) hi3.1
      rw [Int.neg_mul]
      omega
  rw [Int.neg_mul] at p2
  obtain ⟨y, hy⟩ : ∃ y : Int, y = x * i := ⟨_, rfl⟩
  rw [← hy] at p1 p2 ⊢
  have q1 : 0 ≤ y % 256 ∧ y % 256 < 256 := by omega
  obtain ⟨z, hz⟩ : ∃ z : Int, z = y % 256 := ⟨_, rfl⟩
  rw [← hz] at q1 ⊢
  have p3 : z * mz_st k ≤ 256 * 800000000000 := Int.mul_le_mul (by omega) (by omega) (by omega) (by omega)
  have p4 := Int.mul_nonneg q1.1 (show 0 ≤ mz_st k by omega)
  unfold mz_in
  refine ⟨⟨by omega, by omega⟩, ⟨by omega, by omega⟩, ⟨by omega, by omega⟩⟩
def mz_hn (ρ : Nat → Nat) (k : Nat) : Int := if k < 6 then mz_num ρ k else mz_val ρ
abbrev mz_hf (ρ : Nat → Nat) (k : Nat) : Prop := mz_fit ρ (mz_hn ρ k) k
def mz_ht (ρ : Nat → Nat) (k : Nat) : Nat := (mz_hn ρ k % (mz_m k : Int)).toNat
/-- the first channel from k on that heals, 9 where there is none -/
def mz_ff (ρ : Nat → Nat) : Nat → Nat → Nat
  | 0, _ => 9
  | n + 1, k => if mz_hf ρ k then k + 1 else mz_ff ρ n (k + 1)
def mz_fault (ρ : Nat → Nat) : Nat := if mz_good ρ then 0 else mz_ff ρ 8 0
theorem mz_ff_le (ρ : Nat → Nat) : ∀ n k, k + n = 8 → mz_ff ρ n k ≤ 9
  | 0, _, _ => Nat.le_refl _
  | n + 1, k, h => by
    unfold mz_ff
    split
    · omega
    · exact mz_ff_le ρ n (k + 1) (by omega)
theorem mz_hn_in {ρ : Nat → Nat} (hok : mz_ok ρ) (k : Nat) : mz_in (mz_hn ρ k) := by
  unfold mz_hn
  split
  · exact (mz_num_in ρ (hok 6 (by omega)) k).2.2
  · exact mz_val_in ρ
theorem mz_ht_lt (ρ : Nat → Nat) (k : Nat) : mz_ht ρ k < mz_m k := by
  have hm := mz_m_lt k
  have h1 := Int.emod_nonneg (mz_hn ρ k) (show (mz_m k : Int) ≠ 0 by omega)
  have h2 := Int.emod_lt_of_pos (mz_hn ρ k) (show 0 < (mz_m k : Int) by omega)
  unfold mz_ht
  omega
section ZM7
variable {l : Launch} {P : zs_P} {d : Nat} {S : zs_S} {S2 : zs_S2} {th : Int32} {o : Int64} {w : Nat × Nat} {i k : Nat}
theorem zr_numberWithout (hi : i < 16) (hk : k < 6) (hok : mz_ok (zs_re S i)) : zg_C l (zs_E P) (d + 2) mR_numberWithout [.ref (zp_B P + 3 + 2 * i), .int (nI k)] (zs_σ P S th S2 o w) (.inl (some (.long (mz_L (mz_num (zs_re S i) k)))), zs_σ P S th S2 o w) := by
  refine zg_C_of (by decide +kernel) (Nat.le_of_ble_eq_true rfl) ?_
  have hm := mz_m_lt k
  have hs := mz_stp k
  have hiv := mz_ivl k
  have h6 : zs_re S i 6 < 256 := hok 6 (by omega)
  have hn := mz_num_in (zs_re S i) h6 k
  have hM : mz_in 175107974924611 := by unfold mz_in; omega
  have hst : mz_in (mz_st k) := by unfold mz_in; omega
  have hv := mz_V_in (zs_re S i 0) (zs_re S i 1) (zs_re S i 2) (zs_re S i 3) (zs_re S i 4) (zs_re S i 5)
  have hvh : mz_in (mz_val (zs_re S i) + 87553987462305) := by
    unfold mz_in mz_val
    omega
  have hm0 : ¬ mz_L (mz_m k : Int) = 0 := fun h => by
    have h0 : mz_in 0 := by unfold mz_in; omega
    have : mz_L (mz_m k : Int) = mz_L 0 := h
    rw [mz_eq (mz_m_in k) h0] at this
    omega
  refine zg_ldc2 (zd_t dmR_numberWithout 0 rfl) zc_R_58 ?_
  refine zg_getsN (zd_t dmR_numberWithout 1 rfl) zs_xM zg_R_45 ?_
  refine zg_iload_n (zd_t dmR_numberWithout 2 rfl) rfl ?_
  refine zg_ti (zd_t dmR_numberWithout 3 rfl) zs_yM rfl (show k < 8 by omega) (by decide) rfl ?_
  refine zg_i2l (zd_t dmR_numberWithout 4 rfl) rfl ?_
  rw [mz_i2l (show mz_m k < 2 ^ 31 by omega)]
  refine zg_ldiv (zd_t dmR_numberWithout 5 rfl) hm0 ?_
  rw [mz_div hM (mz_m_in k), mz_stk k hk]
  refine zg_lstore_n (zd_t dmR_numberWithout 6 rfl) (by decide) rfl ?_
  refine zg_aload_n (zd_t dmR_numberWithout 7 rfl) rfl ?_
  refine zg_callV (zd_t dmR_numberWithout 8 rfl) zl_R_62 zm_mR_value zi_mR_value zse_mR_value (zs_reg hi) zs_cl1 rfl (av := []) (rest := []) rfl rfl (Nat.le_of_ble_eq_true rfl) (zr_value hi hok) ?_
  refine zg_ldc2 (zd_t dmR_numberWithout 9 rfl) zc_R_60 ?_
  refine zg_ladd (zd_t dmR_numberWithout 10 rfl) ?_
  rw [mz_add]
  refine zg_lload_n (zd_t dmR_numberWithout 11 rfl) rfl ?_
  refine zg_callS (zd_t dmR_numberWithout 12 rfl) zl_R_82 zm_mJ_floorMod_J zst_mJ_floorMod_J (av := [.long (mz_L (mz_val (zs_re S i) + 87553987462305)), .long (mz_L (mz_st k))]) (rest := []) rfl rfl (Nat.le_of_ble_eq_true rfl) (zj_floorMod hvh hst hs.1) ?_
  refine zg_ldc2 (zd_t dmR_numberWithout 13 rfl) zc_R_60 ?_
  refine zg_lsub (zd_t dmR_numberWithout 14 rfl) ?_
  rw [mz_sub]
  refine zg_lstore (zd_t dmR_numberWithout 15 rfl) (by decide) rfl ?_
  refine zg_aload_n (zd_t dmR_numberWithout 16 rfl) rfl ?_
  refine zg_getf (zd_t dmR_numberWithout 17 rfl) zf_R_9 (zs_reg hi) rfl ?_
  refine zg_bipush (v := (nI 6)) (zd_t dmR_numberWithout 18 rfl) (by decide) ?_
  refine zg_iald (k := 6) (t0 := 0) (zd_t dmR_numberWithout 19 rfl) (zs_res hi) rfl rfl (by decide) (by decide) ?_
  refine zg_i2l (zd_t dmR_numberWithout 20 rfl) rfl ?_
  rw [mz_i2l (show zs_re S i 6 < 2 ^ 31 by omega)]
  refine zg_lload (zd_t dmR_numberWithout 21 rfl) rfl ?_
  refine zg_lsub (zd_t dmR_numberWithout 22 rfl) ?_
  rw [mz_sub]
  refine zg_getsN (zd_t dmR_numberWithout 23 rfl) zs_xV zg_R_85 ?_
  refine zg_iload_n (zd_t dmR_numberWithout 24 rfl) rfl ?_
  refine zg_ti (zd_t dmR_numberWithout 25 rfl) zs_yV rfl hk (by decide) rfl ?_
  refine zg_i2l (zd_t dmR_numberWithout 26 rfl) rfl ?_
  rw [mz_i2l (show mz_iv k < 2 ^ 31 by omega)]
  refine zg_lmul (zd_t dmR_numberWithout 27 rfl) ?_
  refine zg_bipush (v := (nI 6)) (zd_t dmR_numberWithout 28 rfl) (by decide) ?_
  rw [mz_mul]
  refine zg_callS (zd_t dmR_numberWithout 29 rfl) zl_R_23 zm_mU_residueOf zst_mU_residueOf (av := [.long (mz_L (((zs_re S i 6 : Int) - ((mz_val (zs_re S i) + 87553987462305) % mz_st k - 87553987462305)) * (mz_iv k : Int))), .int (nI 6)]) (rest := []) rfl rfl (Nat.le_of_ble_eq_true rfl) (zu_residueOf hn.2.1 (by decide)) ?_
  have q : (((((zs_re S i 6 : Int) - ((mz_val (zs_re S i) + 87553987462305) % mz_st k - 87553987462305)) * (mz_iv k : Int)) % (mz_m 6 : Int)).toNat : Int) = ((((zs_re S i 6 : Int) - ((mz_val (zs_re S i) + 87553987462305) % mz_st k - 87553987462305)) * (mz_iv k : Int)) % 256) := by
    show (((_ : Int) % (256 : Int)).toNat : Int) = _
    omega
  refine zg_i2l (zd_t dmR_numberWithout 30 rfl) rfl ?_
  rw [mz_i2l (by omega), q]
  refine zg_lstore (zd_t dmR_numberWithout 31 rfl) (by decide) rfl ?_
  refine zg_lload (zd_t dmR_numberWithout 32 rfl) rfl ?_
  refine zg_lload (zd_t dmR_numberWithout 33 rfl) rfl ?_
  refine zg_lload_n (zd_t dmR_numberWithout 34 rfl) rfl ?_
  refine zg_lmul (zd_t dmR_numberWithout 35 rfl) ?_
  refine zg_ladd (zd_t dmR_numberWithout 36 rfl) ?_
  rw [mz_mul, mz_add]
  exact zg_lret (zd_t dmR_numberWithout 37 rfl) rfl rfl
theorem zs_hs (hk : k < 8) : ∀ j, j < 8 → (nI j = nI k ↔ j = k) := fun j hj => nI_eq (by omega) (by omega)
theorem zr_healingResidue (hi : i < 16) (hk : k < 8) (hok : mz_ok (zs_re S i)) : zg_C l (zs_E P) (d + 3) mR_healingResidue [.ref (zp_B P + 3 + 2 * i), .int (nI k)] (zs_σ P S th S2 o w) (.inl (some (.int (if mz_hf (zs_re S i) k then nI (mz_ht (zs_re S i) k) else -1))), zs_σ P S th S2 o w) := by
  refine zg_C_of (by decide +kernel) (Nat.le_of_ble_eq_true rfl) ?_
  have hni := mz_hn_in hok k
  have tl : ∀ x, x = mz_hn (zs_re S i) k → zg_G l (zs_E P) (d + 3) mR_healingResidue 18 [(0, .ref (zp_B P + 3 + 2 * i)), (1, .int (nI k))] [.long (mz_L x)] (zs_σ P S th S2 o w) (.inl (some (.int (if mz_hf (zs_re S i) k then nI (mz_ht (zs_re S i) k) else -1))), zs_σ P S th S2 o w) := by
    intro x hx
    subst hx
    refine zg_lstore_n (zd_t dmR_healingResidue 9 rfl) (by decide) rfl ?_
    refine zg_aload_n (zd_t dmR_healingResidue 10 rfl) rfl ?_
    refine zg_lload_n (zd_t dmR_healingResidue 11 rfl) rfl ?_
    refine zg_iload_n (zd_t dmR_healingResidue 12 rfl) rfl ?_
    refine zg_callV (zd_t dmR_healingResidue 13 rfl) zl_R_66 zm_mR_fits zi_mR_fits zse_mR_fits (zs_reg hi) zs_cl1 rfl (av := [.long (mz_L (mz_hn (zs_re S i) k)), .int (nI k)]) (rest := []) rfl rfl (Nat.le_of_ble_eq_true rfl) (zr_fits (s := k) hi hok hni (zs_hs hk)) ?_
    by_cases hf : mz_hf (zs_re S i) k
    · rw [decide_eq_true hf, if_pos hf]
      refine zg_if_eq (tgt := 36) (zd_t dmR_healingResidue 14 rfl) (by decide) (fun h => absurd h (by decide)) (fun _ => ?_)
      refine zg_lload_n (zd_t dmR_healingResidue 15 rfl) rfl ?_
      refine zg_iload_n (zd_t dmR_healingResidue 16 rfl) rfl ?_
      refine zg_callS (zd_t dmR_healingResidue 17 rfl) zl_R_23 zm_mU_residueOf zst_mU_residueOf (av := [.long (mz_L (mz_hn (zs_re S i) k)), .int (nI k)]) (rest := []) rfl rfl (Nat.le_of_ble_eq_true rfl) (zu_residueOf hni hk) ?_
      refine zg_goto (tgt := 37) (zd_t dmR_healingResidue 18 rfl) (by decide) ?_
      exact zg_iret (zd_t dmR_healingResidue 20 rfl) rfl rfl
    · rw [decide_eq_false hf, if_neg hf]
      refine zg_if_eq (tgt := 36) (zd_t dmR_healingResidue 14 rfl) (by decide) (fun _ => ?_) (fun h => absurd rfl h)
      refine zg_iconst (v := (-1)) (zd_t dmR_healingResidue 19 rfl) (by decide) ?_
      exact zg_iret (zd_t dmR_healingResidue 20 rfl) rfl rfl
  refine zg_iload_n (zd_t dmR_healingResidue 0 rfl) rfl ?_
  refine zg_bipush (v := (nI 6)) (zd_t dmR_healingResidue 1 rfl) (by decide) ?_
  by_cases h6 : k < 6
  · refine zg_icmp_ge (tgt := 14) (zd_t dmR_healingResidue 2 rfl) (by decide) (fun h => absurd ((nI_leI (by decide) (by omega)).mp h) (by omega)) (fun _ => ?_)
    refine zg_aload_n (zd_t dmR_healingResidue 3 rfl) rfl ?_
    refine zg_iload_n (zd_t dmR_healingResidue 4 rfl) rfl ?_
    refine zg_callV (zd_t dmR_healingResidue 5 rfl) zl_R_78 zm_mR_numberWithout zi_mR_numberWithout zse_mR_numberWithout (zs_reg hi) zs_cl1 rfl (av := [.int (nI k)]) (rest := []) rfl rfl (Nat.le_of_ble_eq_true rfl) (zr_numberWithout hi h6 hok) ?_
    refine zg_goto (tgt := 18) (zd_t dmR_healingResidue 6 rfl) (by decide) ?_
    exact tl _ (if_pos h6).symm
  · refine zg_icmp_ge (tgt := 14) (zd_t dmR_healingResidue 2 rfl) (by decide) (fun _ => ?_) (fun h => absurd ((nI_leI (by decide) (by omega)).mpr (by omega)) h)
    refine zg_aload_n (zd_t dmR_healingResidue 7 rfl) rfl ?_
    refine zg_callV (zd_t dmR_healingResidue 8 rfl) zl_R_62 zm_mR_value zi_mR_value zse_mR_value (zs_reg hi) zs_cl1 rfl (av := []) (rest := []) rfl rfl (Nat.le_of_ble_eq_true rfl) (zr_value hi hok) ?_
    exact tl _ (if_neg h6).symm
theorem mz_ht_ne (ρ : Nat → Nat) (k : Nat) : ¬ nI (mz_ht ρ k) = (-1 : Int32) := fun h => by
  have h1 := mz_ht_lt ρ k
  have h2 := (mz_m_lt k).1
  have h3 := congrArg Int32.toInt h
  rw [nI_toInt (by omega)] at h3
  have h4 : ((-1 : Int32).toInt) = -1 := by decide
  omega
theorem zr_fault_lp (hi : i < 16) (hok : mz_ok (zs_re S i)) : ∀ (n k : Nat), k + n = 8 → zg_G l (zs_E P) (d + 4) mR_fault 11 [(1, .int (nI k)), (0, .ref (zp_B P + 3 + 2 * i))] [] (zs_σ P S th S2 o w) (.inl (some (.int (nI (mz_ff (zs_re S i) n k)))), zs_σ P S th S2 o w) := by
  intro n
  induction n with
  | zero =>
    intro k hk
    have hk : k = 8 := by omega
    subst hk
    refine zg_iload_n (zd_t dmR_fault 7 rfl) rfl ?_
    refine zg_bipush (v := (nI 8)) (zd_t dmR_fault 8 rfl) (by decide) ?_
    refine zg_icmp_ge (tgt := 36) (zd_t dmR_fault 9 rfl) (by decide) (fun _ => ?_) (fun h => absurd (by decide) h)
    refine zg_bipush (v := (nI 9)) (zd_t dmR_fault 21 rfl) (by decide) ?_
    exact zg_iret (zd_t dmR_fault 22 rfl) rfl rfl
  | succ n ih =>
    intro k hk
    have hk8 : k < 8 := by omega
    refine zg_iload_n (zd_t dmR_fault 7 rfl) rfl ?_
    refine zg_bipush (v := (nI 8)) (zd_t dmR_fault 8 rfl) (by decide) ?_
    refine zg_icmp_ge (tgt := 36) (zd_t dmR_fault 9 rfl) (by decide) (fun h => absurd ((nI_leI (by decide) (by omega)).mp h) (by omega)) (fun _ => ?_)
    refine zg_aload_n (zd_t dmR_fault 10 rfl) rfl ?_
    refine zg_iload_n (zd_t dmR_fault 11 rfl) rfl ?_
    refine zg_callV (zd_t dmR_fault 12 rfl) zl_R_74 zm_mR_healingResidue zi_mR_healingResidue zse_mR_healingResidue (zs_reg hi) zs_cl1 rfl (av := [.int (nI k)]) (rest := []) rfl rfl (Nat.le_of_ble_eq_true rfl) (zr_healingResidue hi hk8 hok) ?_
    refine zg_iconst (v := (-1)) (zd_t dmR_fault 13 rfl) (by decide) ?_
    unfold mz_ff
    by_cases hf : mz_hf (zs_re S i) k
    · rw [if_pos hf, if_pos hf]
      refine zg_icmp_eq (tgt := 30) (zd_t dmR_fault 14 rfl) (by decide) (fun h => absurd h (mz_ht_ne _ _)) (fun _ => ?_)
      refine zg_iload_n (zd_t dmR_fault 15 rfl) rfl ?_
      refine zg_iconst (v := (nI 1)) (zd_t dmR_fault 16 rfl) (by decide) ?_
      refine zg_iadd (zd_t dmR_fault 17 rfl) ?_
      rw [nI_add]
      exact zg_iret (zd_t dmR_fault 18 rfl) rfl rfl
    · rw [if_neg hf, if_neg hf]
      refine zg_icmp_eq (tgt := 30) (zd_t dmR_fault 14 rfl) (by decide) (fun _ => ?_) (fun h => absurd rfl h)
      refine zg_iinc (lv2 := [(1, .int (nI (k + 1))), (0, .ref (zp_B P + 3 + 2 * i))]) (zd_t dmR_fault 19 rfl) rfl (mz_inc k) (by decide) rfl ?_
      refine zg_goto (tgt := 11) (zd_t dmR_fault 20 rfl) (by decide) ?_
      exact ih (k + 1) (by omega)
theorem zr_fault (hi : i < 16) (hok : mz_ok (zs_re S i)) : zg_C l (zs_E P) (d + 4) mR_fault [.ref (zp_B P + 3 + 2 * i)] (zs_σ P S th S2 o w) (.inl (some (.int (nI (mz_fault (zs_re S i))))), zs_σ P S th S2 o w) := by
  refine zg_C_of (by decide +kernel) (Nat.le_of_ble_eq_true rfl) ?_
  refine zg_aload_n (zd_t dmR_fault 0 rfl) rfl ?_
  refine zg_callV (zd_t dmR_fault 1 rfl) zl_R_70 zm_mR_isGood zi_mR_isGood zse_mR_isGood (zs_reg hi) zs_cl1 rfl (av := []) (rest := []) rfl rfl (Nat.le_of_ble_eq_true rfl) (zr_isGood hi hok) ?_
  unfold mz_fault
  by_cases hg : mz_good (zs_re S i)
  · rw [decide_eq_true hg, if_pos hg]
    refine zg_if_eq (tgt := 9) (zd_t dmR_fault 2 rfl) (by decide) (fun h => absurd h (by decide)) (fun _ => ?_)
    refine zg_iconst (v := (nI 0)) (zd_t dmR_fault 3 rfl) (by decide) ?_
    exact zg_iret (zd_t dmR_fault 4 rfl) rfl rfl
  · rw [decide_eq_false hg, if_neg hg]
    refine zg_if_eq (tgt := 9) (zd_t dmR_fault 2 rfl) (by decide) (fun _ => ?_) (fun h => absurd rfl h)
    refine zg_iconst (v := (nI 0)) (zd_t dmR_fault 5 rfl) (by decide) ?_
    refine zg_istore_n (zd_t dmR_fault 6 rfl) (by decide) rfl ?_
    exact zr_fault_lp hi hok 8 0 rfl
theorem zr_heal (hi : i < 16) (hk : k < 8) (hok : mz_ok (zs_re S i)) (hf : mz_hf (zs_re S i) k) : zg_C l (zs_E P) (d + 4) mR_heal [.ref (zp_B P + 3 + 2 * i), .int (nI k)] (zs_σ P S th S2 o w) (.inl none, zs_σ P (zs_sre S i k (mz_ht (zs_re S i) k)) th S2 o w) := by
  refine zg_C_of (by decide +kernel) (Nat.le_of_ble_eq_true rfl) ?_
  refine zg_aload_n (zd_t dmR_heal 0 rfl) rfl ?_
  refine zg_iload_n (zd_t dmR_heal 1 rfl) rfl ?_
  refine zg_callV (zd_t dmR_heal 2 rfl) zl_R_74 zm_mR_healingResidue zi_mR_healingResidue zse_mR_healingResidue (zs_reg hi) zs_cl1 rfl (av := [.int (nI k)]) (rest := []) rfl rfl (Nat.le_of_ble_eq_true rfl) (zr_healingResidue hi hk hok) ?_
  rw [if_pos hf]
  refine zg_istore_n (zd_t dmR_heal 3 rfl) (by decide) rfl ?_
  refine zg_iload_n (zd_t dmR_heal 4 rfl) rfl ?_
  refine zg_iconst (v := (-1)) (zd_t dmR_heal 5 rfl) (by decide) ?_
  refine zg_icmp_eq (tgt := 18) (zd_t dmR_heal 6 rfl) (by decide) (fun h => absurd h (mz_ht_ne _ _)) (fun _ => ?_)
  refine zg_aload_n (zd_t dmR_heal 7 rfl) rfl ?_
  refine zg_getf (zd_t dmR_heal 8 rfl) zf_R_9 (zs_reg hi) rfl ?_
  refine zg_iload_n (zd_t dmR_heal 9 rfl) rfl ?_
  refine zg_iload_n (zd_t dmR_heal 10 rfl) rfl ?_
  refine zg_iast (t0 := 0) (zd_t dmR_heal 11 rfl) (zs_res hi) rfl rfl hk (by decide) (zs_up_res hi) ?_
  exact zg_vret (zd_t dmR_heal 12 rfl) rfl rfl
def mz_sh (r : Nat) (e : Int32) (k : Nat) : Nat := (r + (e.toInt % (mz_m k : Int)).toNat) % mz_m k
theorem zr_shift {e : Int32} (hi : i < 16) (hk : k < 8) (hok : mz_ok (zs_re S i)) : zg_C l (zs_E P) (d + 1) mR_shift [.ref (zp_B P + 3 + 2 * i), .int (nI k), .int e] (zs_σ P S th S2 o w) (.inl (some (.int (nI (mz_sh (zs_re S i k) e k)))), zs_σ P (zs_sre S i k (mz_sh (zs_re S i k) e k)) th S2 o w) := by
  refine zg_C_of (by decide +kernel) (Nat.le_of_ble_eq_true rfl) ?_
  have hm := mz_m_lt k
  have hr := hok k hk
  have h2 := Int.emod_lt_of_pos e.toInt (show 0 < (mz_m k : Int) by omega)
  have h1 := Int.emod_nonneg e.toInt (show (mz_m k : Int) ≠ 0 by omega)
  refine zg_aload_n (zd_t dmR_shift 0 rfl) rfl ?_
  refine zg_getf (zd_t dmR_shift 1 rfl) zf_R_9 (zs_reg hi) rfl ?_
  refine zg_iload_n (zd_t dmR_shift 2 rfl) rfl ?_
  refine zg_aload_n (zd_t dmR_shift 3 rfl) rfl ?_
  refine zg_getf (zd_t dmR_shift 4 rfl) zf_R_9 (zs_reg hi) rfl ?_
  refine zg_iload_n (zd_t dmR_shift 5 rfl) rfl ?_
  refine zg_iald (t0 := 0) (zd_t dmR_shift 6 rfl) (zs_res hi) rfl rfl hk (by decide) ?_
  refine zg_iload_n (zd_t dmR_shift 7 rfl) rfl ?_
  refine zg_getsN (zd_t dmR_shift 8 rfl) zs_xM zg_R_45 ?_
  refine zg_iload_n (zd_t dmR_shift 9 rfl) rfl ?_
  refine zg_ti (zd_t dmR_shift 10 rfl) zs_yM rfl hk (by decide) rfl ?_
  refine zg_callS (zd_t dmR_shift 11 rfl) zl_R_48 zm_mJ_floorMod_I zst_mJ_floorMod_I (av := [.int e, .int (nI (mz_m k))]) (rest := [.int (nI (zs_re S i k)), .int (nI k), .ref (zp_B P + 4 + 2 * i)]) rfl rfl (Nat.le_of_ble_eq_true rfl) (zj_floorModI e hm.2 hm.1) ?_
  refine zg_iadd (zd_t dmR_shift 12 rfl) ?_
  rw [nI_add]
  refine zg_getsN (zd_t dmR_shift 13 rfl) zs_xM zg_R_45 ?_
  refine zg_iload_n (zd_t dmR_shift 14 rfl) rfl ?_
  refine zg_ti (zd_t dmR_shift 15 rfl) zs_yM rfl hk (by decide) rfl ?_
  refine zg_irem (zd_t dmR_shift 16 rfl) (nI_ne0 hm.2 (by omega)) ?_
  rw [pk_rem (by omega) hm.2 (by omega)]
  refine zg_iast (t0 := 0) (zd_t dmR_shift 17 rfl) (zs_res hi) rfl rfl hk (by decide) (zs_up_res hi) ?_
  refine zg_aload_n (zd_t dmR_shift 18 rfl) rfl ?_
  refine zg_getf (zd_t dmR_shift 19 rfl) zf_R_9 (zs_reg hi) rfl ?_
  refine zg_iload_n (zd_t dmR_shift 20 rfl) rfl ?_
  refine zg_iald (t0 := 0) (zd_t dmR_shift 21 rfl) (zs_res hi) rfl rfl hk (by decide) ?_
  rw [show zs_re (zs_sre S i k ((zs_re S i k + (e.toInt % (mz_m k : Int)).toNat) % mz_m k)) i k = mz_sh (zs_re S i k) e k from if_pos ⟨rfl, rfl⟩]
  exact zg_iret (zd_t dmR_shift 22 rfl) rfl rfl
end ZM7
end
section
theorem zs_fb (b : Bool) : fits .boolean (.int (zs_bi b)) = true := by cases b <;> rfl
section ZM8
variable {l : Launch} {E : zg_E} {d : Nat} {M : zg_M} {pc : Nat} {lv : List (Nat × Value)} {σ : zg_H} {r : zg_R}
theorem zg_acopy {index a0 a t0 N : Nat} {c0 : ClassId} {f g : Nat → Int32} {z n : Int32} {σ2 : zg_H} (hdg : decode (zg_cc M) pc = .ok (.invokestatic index, 3)) (hlink : Cond.methodLink (zg_my M).cls index arraycopyName ∈ zg_ws E) (hnat : Cond.native arraycopyName ∈ zg_ws E) (hstat : Cond.static arraycopyName ∈ zg_ws E) (hini : Cond.initialized "java/lang/System" ∈ zg_ws E)
    (ha0 : σ.1 a0 = some (.inl (c0, N, .inl f))) (ha1 : σ.1 a = some (.inl (c0, N, .inl g))) (ht : (zg_ty E)[t0]? = some (c0, .int)) (hz : z = nI 0) (hn : n = nI N) (hN : N < 2 ^ 31) (hd : 1 ≤ d) (hw : nativeFrameWords "java/lang/System" "arraycopy" 5 + 11 ≤ 36) (h2 : zg_up σ a (.inl (c0, N, .inl (va_cpy f g 0 0 N))) = σ2) (kk : zg_G l E d M (pc + 3) lv [] σ2 r) :
    zg_G l E d M pc lv [.int n, .int z, .ref a, .int z, .ref a0] σ r := by
  subst h2 hn hz
  refine ⟨kk.1, kk.2.1, ?_⟩
  intro p e R s m args below meth c H locs cells slots ls u0 mc ms hm1 hm2 hc h1 h2 h3 h4 h5 h6 h7 h8
  obtain ⟨b1, b2, b3⟩ := hc.2.2.2.2.2.2.2.1.here
  have hts : ∀ w ∈ zg_ws E, w.before args s = true := fun w hw => b1 w hw args
  have hfr : d ≤ R.frames := hc.2.2.2.2.2.2.2.2.2.1
  have hlo : 36 * d ≤ R.locals := hc.2.2.2.2.2.2.2.2.2.2.1
  have hc0 : H[a0]? = some (vp_cell c0 (N, .inl f)) := (h5.2.2 a0 _ ha0).1
  have hc1 : H[a]? = some (vp_cell c0 (N, .inl g)) := (h5.2.2 a _ ha1).1
  have hNc : (nI N).toNatClampNeg = N := nI_clamp hN
  have hNi : (nI N).toInt = (N : Int) := nI_toInt hN
  intro T hT X
  obtain ⟨-, k0, hk0, cm0, hkk0⟩ := (b2.2 t0 _ ht).1 N (fun j => .int (f j))
  obtain ⟨-, k1, hk1, cm1, hkk1⟩ := (b2.2 t0 _ ht).1 N (fun j => .int (g j))
  obtain ⟨vm', X', step⟩ := X.arraycopy hc.1 hc.2.2.2.2.1 (hts _ hlink) (hts _ hnat) (hts _ hstat) (hts _ hini) (src := a0) (dst := a) (cs := vp_cell c0 (N, .inl f)) (cd := vp_cell c0 (N, .inl g)) (srcPos := nI 0) (destPos := nI 0) (n := nI N) (by rw [hT]; exact hc0) (by rw [hT]; exact hc1)
    (fun _ h => by cases h) (fun _ h => by cases h) (fun h => by cases h) (fun h => by cases h) hk0 hk1 hkk0 hkk1 (show (refKind .int != refKind .int || !refKind .int && FieldType.int != FieldType.int) = false by decide) (by decide) (by decide) (nI_pos hN)
    (by rw [hNi]; show ¬ _ > ((arrV c0 N (fun j => .int (f j))).slots.size : Int); rw [arrV_size]; show ¬ (0 + (N : Int) > N); omega)
    (by rw [hNi]; show ¬ _ > ((arrV c0 N (fun j => .int (g j))).slots.size : Int); rw [arrV_size]; show ¬ (0 + (N : Int) > N); omega)
    (fun vm₁ _ i hi => by
      have hi : i < N := by rw [hNc] at hi; exact hi
      have e : (vp_cell c0 (N, .inl f)).slots.getD (0 + i) .null = .int (f (0 + i)) := by
        show (arrV c0 N (fun j => .int (f j))).slots.getD _ _ = _
        rw [Array.getD_eq_getD_getElem?, arrV_read _ _ (by omega)]
        rfl
      refine ⟨?_, ?_⟩
      · show fits _ ((vp_cell c0 (N, .inl f)).slots.getD (0 + i) .null) = true
        rw [e]
        rfl
      · show _
        erw [e]
        exact trivial)
    (g := F0 m pc ls [.int (nI N), .int (nI 0), .ref a, .int (nI 0), .ref a0]) rfl (by rw [hc.2.2.1]; exact h8.1) (rest := []) rfl (by rw [hc.2.1]; exact hdg) (by omega) (by show 2 * 0 + 0 + (nativeFrameWords "java/lang/System" "arraycopy" 5 + 11) ≤ _; omega)
  have e1 : copied (vp_cell c0 (N, .inl f)) (vp_cell c0 (N, .inl g)) (nI 0) (nI 0) (nI N) = vp_cell c0 (N, .inl (va_cpy f g 0 0 N)) := by
    have := va_copied (fun z => .int z) c0 c0 (n0 := N) (n1 := N) (sp := 0) (dp := 0) (n := N) f g (by omega)
    show _ = arrV c0 N (fun j => Value.int (va_cpy f g 0 0 N j))
    rw [← this]
    show Cell.storeRun _ (nI 0).toNatClampNeg (Cell.stretch _ (nI 0).toNatClampNeg (nI N).toNatClampNeg) = _
    rw [hNc]
    rfl
  rw [e1] at X' step
  have hl : a < H.size := (Array.getElem?_eq_some_iff.mp hc1).1
  have hheap : ((T.setVm vm').setCell a (vp_cell c0 (N, .inl (va_cpy f g 0 0 N)))).heap = H.setIfInBounds a (vp_cell c0 (N, .inl (va_cpy f g 0 0 N))) := by rw [← hT]; rfl
  have oq : ∀ q : Nat, q ≠ a → (H.setIfInBounds a (vp_cell c0 (N, .inl (va_cpy f g 0 0 N))))[q]? = H[q]? := fun q hq => by simp [Array.getElem?_setIfInBounds, Ne.symm hq]
  have he : va_at (zg_D E) (zg_cl E) (a, .inl (c0, N, .inl (va_cpy f g 0 0 N))) (H.setIfInBounds a (vp_cell c0 (N, .inl (va_cpy f g 0 0 N)))) := by
    show (H.setIfInBounds a _)[a]? = some (vp_cell _ _)
    simp [Array.getElem?_setIfInBounds, hl]
  obtain ⟨t, a1, b1⟩ := kk.2.2 p e R s m args below meth c _ _ cells slots ls u0 mc ms hm1 hm2 hc h1 h2 h3 h4 (zg_rep_up h5 ha1 (by simp) oq he) (zg_old_up h5 ha1 oq h6) (fun x hx => by
      rcases List.mem_append.mp hx with h | h
      · exact h7 x h
      · obtain ⟨z, -, hz⟩ := List.mem_map.mp h
        rw [← hz]
        exact (h5.2.2 a _ ha1).2) h8 _ hheap X'
  exact ⟨t, step t a1, b1⟩
end ZM8
def zs_scp (S : zs_S) (i j : Nat) : zs_S := zs_ssu (zs_sex (S.1, S.2.1, fun q t => if q = i ∧ t < 8 then zs_re S j t else zs_re S q t, zs_ex S, zs_su S, zs_pg S) i (zs_ex S j)) i (zs_su S j)
section ZM8b
variable {l : Launch} {P : zs_P} {d : Nat} {S : zs_S} {S2 : zs_S2} {th : Int32} {o : Int64} {w : Nat × Nat} {i j : Nat}
theorem zs_up_cp (hi : i < 16) : zg_up (zs_σ P S th S2 o w) (zp_B P + 4 + 2 * i) (.inl (zp_ca P 0, 8, .inl (va_cpy (fun t => nI (zs_re S j t)) (fun t => nI (zs_re S i t)) 0 0 8))) = zs_σ P (S.1, S.2.1, fun q t => if q = i ∧ t < 8 then zs_re S j t else zs_re S q t, zs_ex S, zs_su S, zs_pg S) th S2 o w := by
  refine zs_put ?_ ?_
  · rw [zs_res hi]
    congr 4
    refine congrArg Sum.inl (funext fun t => ?_)
    show nI (if i = i ∧ t < 8 then zs_re S j t else zs_re S i t) = if 0 ≤ t ∧ t < 0 + 8 then nI (zs_re S j (0 + (t - 0))) else nI (zs_re S i t)
    by_cases ht : t < 8
    · rw [if_pos ⟨rfl, ht⟩, if_pos ⟨Nat.zero_le _, by omega⟩, show 0 + (t - 0) = t by omega]
    · rw [if_neg (fun h => ht h.2), if_neg (fun h => ht (by omega))]
  · rw [show zp_B P + 4 + 2 * i = zp_B P + (4 + 2 * i) by omega]
    refine zs_hp_u fun n hn => ?_
    unfold zs_uc
    by_cases h0 : n = 0
    · rw [if_pos h0, if_pos h0]
    rw [if_neg h0, if_neg h0]
    by_cases h1 : n = 1
    · rw [if_pos h1, if_pos h1]
    rw [if_neg h1, if_neg h1]
    by_cases h2 : n = 2
    · rw [if_pos h2, if_pos h2]
    rw [if_neg h2, if_neg h2]
    by_cases h3 : n < 35
    · rw [if_pos h3, if_pos h3]
      by_cases h4 : n % 2 = 1
      · rw [if_pos h4, if_pos h4]
      · rw [if_neg h4, if_neg h4]
        congr 4
        refine congrArg Sum.inl (funext fun t => ?_)
        show nI (if (n - 4) / 2 = i ∧ t < 8 then zs_re S j t else zs_re S ((n - 4) / 2) t) = _
        rw [if_neg (fun h => hn (by have := h.1; omega))]
    · rw [if_neg h3, if_neg h3]
theorem zr_copyFrom (hi : i < 16) (hj : j < 16) : zg_C l (zs_E P) (d + 1) mR_copyFrom [.ref (zp_B P + 3 + 2 * i), .ref (zp_B P + 3 + 2 * j)] (zs_σ P S th S2 o w) (.inl none, zs_σ P (zs_scp S i j) th S2 o w) := by
  refine zg_C_of (by decide +kernel) (Nat.le_of_ble_eq_true rfl) ?_
  refine zg_aload_n (zd_t dmR_copyFrom 0 rfl) rfl ?_
  refine zg_getf (zd_t dmR_copyFrom 1 rfl) zf_R_9 (zs_reg hj) rfl ?_
  refine zg_iconst (v := (nI 0)) (zd_t dmR_copyFrom 2 rfl) (by decide) ?_
  refine zg_aload_n (zd_t dmR_copyFrom 3 rfl) rfl ?_
  refine zg_getf (zd_t dmR_copyFrom 4 rfl) zf_R_9 (zs_reg hi) rfl ?_
  refine zg_iconst (v := (nI 0)) (zd_t dmR_copyFrom 5 rfl) (by decide) ?_
  refine zg_bipush (v := (nI 8)) (zd_t dmR_copyFrom 6 rfl) (by decide) ?_
  refine zg_acopy (t0 := 0) (N := 8) (zd_t dmR_copyFrom 7 rfl) (zs_in 445 (by decide +kernel) (by decide +kernel)) (zs_in 447 (by decide +kernel) (by decide +kernel)) (zs_in 446 (by decide +kernel) (by decide +kernel)) (zs_in 14 (by decide +kernel) (by decide +kernel)) (zs_res hj) (zs_res hi) rfl rfl rfl (by decide) (by omega) (by decide +kernel) (zs_up_cp hi) ?_
  refine zg_aload_n (zd_t dmR_copyFrom 8 rfl) rfl ?_
  refine zg_aload_n (zd_t dmR_copyFrom 9 rfl) rfl ?_
  refine zg_getf (zd_t dmR_copyFrom 10 rfl) zf_R_15 (zs_reg hj) rfl ?_
  refine zg_putf (zd_t dmR_copyFrom 11 rfl) zf_R_15 zt_1_1 (zs_reg hi) (Nat.le_of_ble_eq_true rfl) rfl rfl (zs_up_ex (v := zs_ex S j) hi) ?_
  refine zg_aload_n (zd_t dmR_copyFrom 12 rfl) rfl ?_
  refine zg_aload_n (zd_t dmR_copyFrom 13 rfl) rfl ?_
  refine zg_getf (zd_t dmR_copyFrom 14 rfl) zf_R_19 (zs_reg hj) rfl ?_
  refine zg_putf (zd_t dmR_copyFrom 15 rfl) zf_R_19 zt_1_2 (zs_reg hi) (Nat.le_of_ble_eq_true rfl) (zs_nb _) (zs_fb _) (zs_up_su (b := zs_su S j) hi) ?_
  exact zg_vret (zd_t dmR_copyFrom 16 rfl) rfl rfl
end ZM8b
end
section
abbrev zs_ir (r : Int32) : Prop := 0 ≤ r.toInt ∧ r.toInt < 16
abbrev zs_ii (r : Int32) : Prop := 0 ≤ r.toInt ∧ r.toInt < 32
abbrev zs_ch (k : Int32) : Prop := 1 ≤ k.toInt ∧ k.toInt ≤ 8
def zs_al (k : Nat) (a b c : Int32) : Bool :=
  if k = 0 then true else if k < 5 then decide (zs_ir a) && (decide (zs_ir b) && decide (zs_ir c)) else if k = 5 then decide (zs_ir a) && (decide (zs_ir b) && decide (mz_sm c)) else if k = 6 then decide (zs_ir a) && decide (zs_ir b) else if k = 7 then decide (zs_ii a) else if k = 8 then decide (zs_ir a) && decide (zs_ii b) else if k = 9 then decide (0 ≤ a.toInt ∧ a.toInt ≤ 1000) else if k = 10 then decide (zs_ii a) else decide (zs_ir a) && decide (-128 ≤ b.toInt ∧ b.toInt ≤ 127)
/-- whether an instruction may be written -/
def zs_alw (k a b c : Int32) : Bool := if 0 ≤ k.toInt ∧ k.toInt ≤ 11 then zs_al k.toInt.toNat a b c else false
theorem zx_ARE {P : zs_P} : ∀ a ∈ Bundle.ownAtoms "ResidueUnit" 82 "java/lang/ArithmeticException" zs_nm, a ∈ zg_ws (zs_E P) ∨ ∀ U H, zg_x (zs_E P) U H → U.heap = H → ∀ ar : Array Value, a.before ar U = true := zs_atoms (by decide +kernel)
theorem zs_cl2 {P : zs_P} : (zg_cl (zs_E P))[2]? = some ("ResidueUnit$Instruction", zs_TI, 4) := rfl
theorem zs_cl3 {P : zs_P} : (zg_cl (zs_E P))[3]? = some ("ResidueUnitModel", zs_TM, 12) := rfl
theorem mz_bit : ∀ x, x < 64 → ∀ k, k < 6 → (nI x >>> (nI k &&& 31)) &&& nI 1 = nI (x / 2 ^ k % 2) := by decide +kernel
def mz_pr (x : Nat) : Nat → Nat
  | 0 => 1
  | k + 1 => if x / 2 ^ k % 2 = 1 then mz_pr x k * mz_m k else mz_pr x k
theorem mz_pr_le : ∀ x, x < 64 → mz_pop x ≤ 4 → 1 ≤ mz_pr x 6 ∧ mz_pr x 6 < 4000000000 := by decide +kernel
def mz_sc (v s : Int) (n : Bool) : Int := if n = true then (2 * v + s) / (2 * s) else v / s
theorem mz_sc_hr {v s : Int} {n : Bool} (hv : mz_hr v) (hs : 1 ≤ s) : mz_hr (mz_sc v s n) := by
  unfold mz_sc
  have h1 := hv.1
  have h2 := hv.2
  split
  · constructor
    · rw [Int.le_ediv_iff_mul_le (by omega)]
      omega
    · have : (2 * v + s) / (2 * s) < 87553987462306 := by
        rw [Int.ediv_lt_iff_lt_mul (by omega)]
        omega
      omega
  · constructor
    · rw [Int.le_ediv_iff_mul_le (by omega)]
      omega
    · have : v / s < 87553987462306 := by
        rw [Int.ediv_lt_iff_lt_mul (by omega)]
        omega
      omega
theorem zs_nof {x : Int32} {n : Nat} (h : 0 ≤ x.toInt) (h2 : x.toInt < n) (hn : n < 2 ^ 31) : ∃ j : Nat, j < n ∧ x = nI j := ⟨x.toInt.toNat, by omega, mi_ext (by rw [nI_toInt (by omega)]; omega)⟩
section ZM9
variable {l : Launch} {P : zs_P} {d : Nat} {σ : zg_H}
theorem zu_requireChannel {k : Int32} (h : zs_ch k) : zg_C l (zs_E P) d mU_requireChannel [.int k] σ (.inl none, σ) := by
  refine zg_C_of (by decide +kernel) (Nat.le_of_ble_eq_true rfl) ?_
  refine zg_iload_n (zd_t dmU_requireChannel 0 rfl) rfl ?_
  refine zg_iconst (v := (nI 1)) (zd_t dmU_requireChannel 1 rfl) (by decide) ?_
  refine zg_icmp_lt (tgt := 11) (zd_t dmU_requireChannel 2 rfl) (by decide) (fun h1 => ?_) (fun h1 => ?_)
  · rw [Int32.lt_iff_toInt_lt] at h1
    have h1 : k.toInt < 1 := h1
    omega
  refine zg_iload_n (zd_t dmU_requireChannel 3 rfl) rfl ?_
  refine zg_bipush (v := (nI 8)) (zd_t dmU_requireChannel 4 rfl) (by decide) ?_
  refine zg_icmp_le (tgt := 21) (zd_t dmU_requireChannel 5 rfl) (by decide) (fun h2 => ?_) (fun h2 => ?_)
  · exact zg_vret (zd_t dmU_requireChannel 11 rfl) rfl rfl
  · rw [Int32.le_iff_toInt_le] at h2
    have h2 : ¬ k.toInt ≤ 8 := h2
    omega
theorem zu_requireChannelX {k : Int32} (htr : l.stackTraces = false) (h : ¬ zs_ch k) : zg_C l (zs_E P) (d + 6) mU_requireChannel [.int k] σ (.inr (zg_sz σ, "java/lang/IndexOutOfBoundsException"), zs_exc σ) := by
  refine zg_C_of (by decide +kernel) (Nat.le_of_ble_eq_true rfl) ?_
  refine zg_iload_n (zd_t dmU_requireChannel 0 rfl) rfl ?_
  refine zg_iconst (v := (nI 1)) (zd_t dmU_requireChannel 1 rfl) (by decide) ?_
  refine zg_icmp_lt (tgt := 11) (zd_t dmU_requireChannel 2 rfl) (by decide) (fun h1 => ?_) (fun h1 => ?_)
  · exact zg_throw htr (by omega) (by decide) (by decide) (zd_t dmU_requireChannel 6 rfl) (zd_t dmU_requireChannel 7 rfl) (zd_t dmU_requireChannel 8 rfl) (zd_t dmU_requireChannel 9 rfl) (zd_t dmU_requireChannel 10 rfl) zcl_U_118 zs_iIOB (zs_str 147 "there is no such channel" (by decide)) (by decide +kernel) (by decide +kernel) zx_IOB (zs_in 101 (by decide +kernel) (by decide +kernel)) (fun h hh => absurd hh List.not_mem_nil) rfl
  rw [Int32.lt_iff_toInt_lt] at h1
  have h1 : ¬ k.toInt < 1 := h1
  refine zg_iload_n (zd_t dmU_requireChannel 3 rfl) rfl ?_
  refine zg_bipush (v := (nI 8)) (zd_t dmU_requireChannel 4 rfl) (by decide) ?_
  refine zg_icmp_le (tgt := 21) (zd_t dmU_requireChannel 5 rfl) (by decide) (fun h2 => ?_) (fun h2 => ?_)
  · rw [Int32.le_iff_toInt_le] at h2
    have h2 : k.toInt ≤ 8 := h2
    omega
  · exact zg_throw htr (by omega) (by decide) (by decide) (zd_t dmU_requireChannel 6 rfl) (zd_t dmU_requireChannel 7 rfl) (zd_t dmU_requireChannel 8 rfl) (zd_t dmU_requireChannel 9 rfl) (zd_t dmU_requireChannel 10 rfl) zcl_U_118 zs_iIOB (zs_str 147 "there is no such channel" (by decide)) (by decide +kernel) (by decide +kernel) zx_IOB (zs_in 101 (by decide +kernel) (by decide +kernel)) (fun h hh => absurd hh List.not_mem_nil) rfl
theorem zu_al_1 {k a b c : Int32} : zg_G l (zs_E P) (d + 2) mU_isAllowed 66 (lv_args 0 [.int k, .int a, .int b, .int c]) [] σ (.inl (some (.int (zs_bi (decide (zs_ir a) && (decide (zs_ir b) && decide (zs_ir c)))))), σ) := by
  refine zg_iload_n (zd_t dmU_isAllowed 4 rfl) rfl ?_
  refine zg_callS (zd_t dmU_isAllowed 5 rfl) zl_U_142 zm_mU_isRegister zst_mU_isRegister (av := _) (rest := _) (by rfl) (by rfl) (by exact Nat.le_of_ble_eq_true rfl) (zu_isRegister a) ?_
  cases decide (zs_ir a) with
  | false =>
    refine zg_if_eq (tgt := 91) (zd_t dmU_isAllowed 6 rfl) (by decide) (fun _ => ?_) (fun hq => absurd (by decide) hq)
    refine zg_iconst (v := (nI 0)) (zd_t dmU_isAllowed 15 rfl) (by decide) ?_
    exact zg_zret (zd_t dmU_isAllowed 16 rfl) rfl rfl rfl
  | true =>
    refine zg_if_eq (tgt := 91) (zd_t dmU_isAllowed 6 rfl) (by decide) (fun hq => absurd hq (by decide)) (fun _ => ?_)
    refine zg_iload_n (zd_t dmU_isAllowed 7 rfl) rfl ?_
    refine zg_callS (zd_t dmU_isAllowed 8 rfl) zl_U_142 zm_mU_isRegister zst_mU_isRegister (av := _) (rest := _) (by rfl) (by rfl) (by exact Nat.le_of_ble_eq_true rfl) (zu_isRegister b) ?_
    cases decide (zs_ir b) with
    | false =>
      refine zg_if_eq (tgt := 91) (zd_t dmU_isAllowed 9 rfl) (by decide) (fun _ => ?_) (fun hq => absurd (by decide) hq)
      refine zg_iconst (v := (nI 0)) (zd_t dmU_isAllowed 15 rfl) (by decide) ?_
      exact zg_zret (zd_t dmU_isAllowed 16 rfl) rfl rfl rfl
    | true =>
      refine zg_if_eq (tgt := 91) (zd_t dmU_isAllowed 9 rfl) (by decide) (fun hq => absurd hq (by decide)) (fun _ => ?_)
      refine zg_iload_n (zd_t dmU_isAllowed 10 rfl) rfl ?_
      refine zg_callS (zd_t dmU_isAllowed 11 rfl) zl_U_142 zm_mU_isRegister zst_mU_isRegister (av := _) (rest := _) (by rfl) (by rfl) (by exact Nat.le_of_ble_eq_true rfl) (zu_isRegister c) ?_
      cases decide (zs_ir c) with
      | false =>
        refine zg_if_eq (tgt := 91) (zd_t dmU_isAllowed 12 rfl) (by decide) (fun _ => ?_) (fun hq => absurd (by decide) hq)
        refine zg_iconst (v := (nI 0)) (zd_t dmU_isAllowed 15 rfl) (by decide) ?_
        exact zg_zret (zd_t dmU_isAllowed 16 rfl) rfl rfl rfl
      | true =>
        refine zg_if_eq (tgt := 91) (zd_t dmU_isAllowed 12 rfl) (by decide) (fun hq => absurd hq (by decide)) (fun _ => ?_)
        refine zg_iconst (v := (nI 1)) (zd_t dmU_isAllowed 13 rfl) (by decide) ?_
        refine zg_goto (tgt := 92) (zd_t dmU_isAllowed 14 rfl) (by decide) ?_
        exact zg_zret (zd_t dmU_isAllowed 16 rfl) rfl rfl rfl
theorem zu_al_5 {k a b c : Int32} : zg_G l (zs_E P) (d + 2) mU_isAllowed 93 (lv_args 0 [.int k, .int a, .int b, .int c]) [] σ (.inl (some (.int (zs_bi (decide (zs_ir a) && (decide (zs_ir b) && decide (mz_sm c)))))), σ) := by
  refine zg_iload_n (zd_t dmU_isAllowed 17 rfl) rfl ?_
  refine zg_callS (zd_t dmU_isAllowed 18 rfl) zl_U_142 zm_mU_isRegister zst_mU_isRegister (av := _) (rest := _) (by rfl) (by rfl) (by exact Nat.le_of_ble_eq_true rfl) (zu_isRegister a) ?_
  cases decide (zs_ir a) with
  | false =>
    refine zg_if_eq (tgt := 118) (zd_t dmU_isAllowed 19 rfl) (by decide) (fun _ => ?_) (fun hq => absurd (by decide) hq)
    refine zg_iconst (v := (nI 0)) (zd_t dmU_isAllowed 28 rfl) (by decide) ?_
    exact zg_zret (zd_t dmU_isAllowed 29 rfl) rfl rfl rfl
  | true =>
    refine zg_if_eq (tgt := 118) (zd_t dmU_isAllowed 19 rfl) (by decide) (fun hq => absurd hq (by decide)) (fun _ => ?_)
    refine zg_iload_n (zd_t dmU_isAllowed 20 rfl) rfl ?_
    refine zg_callS (zd_t dmU_isAllowed 21 rfl) zl_U_142 zm_mU_isRegister zst_mU_isRegister (av := _) (rest := _) (by rfl) (by rfl) (by exact Nat.le_of_ble_eq_true rfl) (zu_isRegister b) ?_
    cases decide (zs_ir b) with
    | false =>
      refine zg_if_eq (tgt := 118) (zd_t dmU_isAllowed 22 rfl) (by decide) (fun _ => ?_) (fun hq => absurd (by decide) hq)
      refine zg_iconst (v := (nI 0)) (zd_t dmU_isAllowed 28 rfl) (by decide) ?_
      exact zg_zret (zd_t dmU_isAllowed 29 rfl) rfl rfl rfl
    | true =>
      refine zg_if_eq (tgt := 118) (zd_t dmU_isAllowed 22 rfl) (by decide) (fun hq => absurd hq (by decide)) (fun _ => ?_)
      refine zg_iload_n (zd_t dmU_isAllowed 23 rfl) rfl ?_
      refine zg_callS (zd_t dmU_isAllowed 24 rfl) zl_U_68 zm_mU_areScalingModuli zst_mU_areScalingModuli (av := _) (rest := _) (by rfl) (by rfl) (by exact Nat.le_of_ble_eq_true rfl) (zu_areScalingModuli c) ?_
      cases decide (mz_sm c) with
      | false =>
        refine zg_if_eq (tgt := 118) (zd_t dmU_isAllowed 25 rfl) (by decide) (fun _ => ?_) (fun hq => absurd (by decide) hq)
        refine zg_iconst (v := (nI 0)) (zd_t dmU_isAllowed 28 rfl) (by decide) ?_
        exact zg_zret (zd_t dmU_isAllowed 29 rfl) rfl rfl rfl
      | true =>
        refine zg_if_eq (tgt := 118) (zd_t dmU_isAllowed 25 rfl) (by decide) (fun hq => absurd hq (by decide)) (fun _ => ?_)
        refine zg_iconst (v := (nI 1)) (zd_t dmU_isAllowed 26 rfl) (by decide) ?_
        refine zg_goto (tgt := 119) (zd_t dmU_isAllowed 27 rfl) (by decide) ?_
        exact zg_zret (zd_t dmU_isAllowed 29 rfl) rfl rfl rfl
theorem zu_al_6 {k a b c : Int32} : zg_G l (zs_E P) (d + 2) mU_isAllowed 120 (lv_args 0 [.int k, .int a, .int b, .int c]) [] σ (.inl (some (.int (zs_bi (decide (zs_ir a) && decide (zs_ir b))))), σ) := by
  refine zg_iload_n (zd_t dmU_isAllowed 30 rfl) rfl ?_
  refine zg_callS (zd_t dmU_isAllowed 31 rfl) zl_U_142 zm_mU_isRegister zst_mU_isRegister (av := _) (rest := _) (by rfl) (by rfl) (by exact Nat.le_of_ble_eq_true rfl) (zu_isRegister a) ?_
  cases decide (zs_ir a) with
  | false =>
    refine zg_if_eq (tgt := 138) (zd_t dmU_isAllowed 32 rfl) (by decide) (fun _ => ?_) (fun hq => absurd (by decide) hq)
    refine zg_iconst (v := (nI 0)) (zd_t dmU_isAllowed 38 rfl) (by decide) ?_
    exact zg_zret (zd_t dmU_isAllowed 39 rfl) rfl rfl rfl
  | true =>
    refine zg_if_eq (tgt := 138) (zd_t dmU_isAllowed 32 rfl) (by decide) (fun hq => absurd hq (by decide)) (fun _ => ?_)
    refine zg_iload_n (zd_t dmU_isAllowed 33 rfl) rfl ?_
    refine zg_callS (zd_t dmU_isAllowed 34 rfl) zl_U_142 zm_mU_isRegister zst_mU_isRegister (av := _) (rest := _) (by rfl) (by rfl) (by exact Nat.le_of_ble_eq_true rfl) (zu_isRegister b) ?_
    cases decide (zs_ir b) with
    | false =>
      refine zg_if_eq (tgt := 138) (zd_t dmU_isAllowed 35 rfl) (by decide) (fun _ => ?_) (fun hq => absurd (by decide) hq)
      refine zg_iconst (v := (nI 0)) (zd_t dmU_isAllowed 38 rfl) (by decide) ?_
      exact zg_zret (zd_t dmU_isAllowed 39 rfl) rfl rfl rfl
    | true =>
      refine zg_if_eq (tgt := 138) (zd_t dmU_isAllowed 35 rfl) (by decide) (fun hq => absurd hq (by decide)) (fun _ => ?_)
      refine zg_iconst (v := (nI 1)) (zd_t dmU_isAllowed 36 rfl) (by decide) ?_
      refine zg_goto (tgt := 139) (zd_t dmU_isAllowed 37 rfl) (by decide) ?_
      exact zg_zret (zd_t dmU_isAllowed 39 rfl) rfl rfl rfl
theorem zu_al_8 {k a b c : Int32} : zg_G l (zs_E P) (d + 2) mU_isAllowed 145 (lv_args 0 [.int k, .int a, .int b, .int c]) [] σ (.inl (some (.int (zs_bi (decide (zs_ir a) && decide (zs_ii b))))), σ) := by
  refine zg_iload_n (zd_t dmU_isAllowed 43 rfl) rfl ?_
  refine zg_callS (zd_t dmU_isAllowed 44 rfl) zl_U_142 zm_mU_isRegister zst_mU_isRegister (av := _) (rest := _) (by rfl) (by rfl) (by exact Nat.le_of_ble_eq_true rfl) (zu_isRegister a) ?_
  cases decide (zs_ir a) with
  | false =>
    refine zg_if_eq (tgt := 163) (zd_t dmU_isAllowed 45 rfl) (by decide) (fun _ => ?_) (fun hq => absurd (by decide) hq)
    refine zg_iconst (v := (nI 0)) (zd_t dmU_isAllowed 51 rfl) (by decide) ?_
    exact zg_zret (zd_t dmU_isAllowed 52 rfl) rfl rfl rfl
  | true =>
    refine zg_if_eq (tgt := 163) (zd_t dmU_isAllowed 45 rfl) (by decide) (fun hq => absurd hq (by decide)) (fun _ => ?_)
    refine zg_iload_n (zd_t dmU_isAllowed 46 rfl) rfl ?_
    refine zg_callS (zd_t dmU_isAllowed 47 rfl) zl_U_115 zm_mU_isInstruction zst_mU_isInstruction (av := _) (rest := _) (by rfl) (by rfl) (by exact Nat.le_of_ble_eq_true rfl) (zu_isInstruction b) ?_
    cases decide (zs_ii b) with
    | false =>
      refine zg_if_eq (tgt := 163) (zd_t dmU_isAllowed 48 rfl) (by decide) (fun _ => ?_) (fun hq => absurd (by decide) hq)
      refine zg_iconst (v := (nI 0)) (zd_t dmU_isAllowed 51 rfl) (by decide) ?_
      exact zg_zret (zd_t dmU_isAllowed 52 rfl) rfl rfl rfl
    | true =>
      refine zg_if_eq (tgt := 163) (zd_t dmU_isAllowed 48 rfl) (by decide) (fun hq => absurd hq (by decide)) (fun _ => ?_)
      refine zg_iconst (v := (nI 1)) (zd_t dmU_isAllowed 49 rfl) (by decide) ?_
      refine zg_goto (tgt := 164) (zd_t dmU_isAllowed 50 rfl) (by decide) ?_
      exact zg_zret (zd_t dmU_isAllowed 52 rfl) rfl rfl rfl
theorem zu_al_7 {k a b c : Int32} : zg_G l (zs_E P) (d + 2) mU_isAllowed 140 (lv_args 0 [.int k, .int a, .int b, .int c]) [] σ (.inl (some (.int (zs_bi (decide (zs_ii a))))), σ) := by
  refine zg_iload_n (zd_t dmU_isAllowed 40 rfl) rfl ?_
  refine zg_callS (zd_t dmU_isAllowed 41 rfl) zl_U_115 zm_mU_isInstruction zst_mU_isInstruction (av := _) (rest := _) (by rfl) (by rfl) (by exact Nat.le_of_ble_eq_true rfl) (zu_isInstruction a) ?_
  exact zg_zret (zd_t dmU_isAllowed 42 rfl) rfl (zs_nb _) rfl
theorem zu_al_9 {k a b c : Int32} : zg_G l (zs_E P) (d + 2) mU_isAllowed 165 (lv_args 0 [.int k, .int a, .int b, .int c]) [] σ (.inl (some (.int (zs_bi (decide (0 ≤ a.toInt ∧ a.toInt ≤ 1000))))), σ) := by
  refine zg_iload_n (zd_t dmU_isAllowed 53 rfl) rfl ?_
  refine zg_if_lt (tgt := 180) (zd_t dmU_isAllowed 54 rfl) (by decide) (fun h => ?_) (fun h => ?_)
  · rw [Int32.lt_iff_toInt_lt] at h
    have h : a.toInt < 0 := h
    refine zg_iconst (v := (nI 0)) (zd_t dmU_isAllowed 60 rfl) (by decide) ?_
    refine zg_zret (zd_t dmU_isAllowed 61 rfl) rfl rfl ?_
    rw [decide_eq_false (by omega)]
    rfl
  rw [Int32.lt_iff_toInt_lt] at h
  have h : ¬ a.toInt < 0 := h
  refine zg_iload_n (zd_t dmU_isAllowed 55 rfl) rfl ?_
  refine zg_sipush (v := (nI 1000)) (zd_t dmU_isAllowed 56 rfl) (by decide) ?_
  refine zg_icmp_gt (tgt := 180) (zd_t dmU_isAllowed 57 rfl) (by decide) (fun h2 => ?_) (fun h2 => ?_)
  · rw [Int32.lt_iff_toInt_lt] at h2
    have h2 : 1000 < a.toInt := h2
    refine zg_iconst (v := (nI 0)) (zd_t dmU_isAllowed 60 rfl) (by decide) ?_
    refine zg_zret (zd_t dmU_isAllowed 61 rfl) rfl rfl ?_
    rw [decide_eq_false (by omega)]
    rfl
  · rw [Int32.lt_iff_toInt_lt] at h2
    have h2 : ¬ 1000 < a.toInt := h2
    refine zg_iconst (v := (nI 1)) (zd_t dmU_isAllowed 58 rfl) (by decide) ?_
    refine zg_goto (tgt := 181) (zd_t dmU_isAllowed 59 rfl) (by decide) ?_
    refine zg_zret (zd_t dmU_isAllowed 61 rfl) rfl rfl ?_
    rw [decide_eq_true (by omega)]
    rfl
theorem zu_al_11 {k a b c : Int32} : zg_G l (zs_E P) (d + 2) mU_isAllowed 182 (lv_args 0 [.int k, .int a, .int b, .int c]) [] σ (.inl (some (.int (zs_bi (decide (zs_ir a) && decide (-128 ≤ b.toInt ∧ b.toInt ≤ 127))))), σ) := by
  refine zg_iload_n (zd_t dmU_isAllowed 62 rfl) rfl ?_
  refine zg_callS (zd_t dmU_isAllowed 63 rfl) zl_U_142 zm_mU_isRegister zst_mU_isRegister (av := _) (rest := _) (by rfl) (by rfl) (by exact Nat.le_of_ble_eq_true rfl) (zu_isRegister a) ?_
  cases decide (zs_ir a) with
  | false =>
    refine zg_if_eq (tgt := 205) (zd_t dmU_isAllowed 64 rfl) (by decide) (fun _ => ?_) (fun hq => absurd (by decide) hq)
    refine zg_iconst (v := (nI 0)) (zd_t dmU_isAllowed 73 rfl) (by decide) ?_
    exact zg_zret (zd_t dmU_isAllowed 74 rfl) rfl rfl rfl
  | true =>
    refine zg_if_eq (tgt := 205) (zd_t dmU_isAllowed 64 rfl) (by decide) (fun hq => absurd hq (by decide)) (fun _ => ?_)
    refine zg_iload_n (zd_t dmU_isAllowed 65 rfl) rfl ?_
    refine zg_bipush (v := (-128)) (zd_t dmU_isAllowed 66 rfl) (by decide) ?_
    refine zg_icmp_lt (tgt := 205) (zd_t dmU_isAllowed 67 rfl) (by decide) (fun h => ?_) (fun h => ?_)
    · rw [Int32.lt_iff_toInt_lt] at h
      have h : b.toInt < -128 := h
      refine zg_iconst (v := (nI 0)) (zd_t dmU_isAllowed 73 rfl) (by decide) ?_
      refine zg_zret (zd_t dmU_isAllowed 74 rfl) rfl rfl ?_
      rw [decide_eq_false (by omega)]
      rfl
    rw [Int32.lt_iff_toInt_lt] at h
    have h : ¬ b.toInt < -128 := h
    refine zg_iload_n (zd_t dmU_isAllowed 68 rfl) rfl ?_
    refine zg_bipush (v := (nI 127)) (zd_t dmU_isAllowed 69 rfl) (by decide) ?_
    refine zg_icmp_gt (tgt := 205) (zd_t dmU_isAllowed 70 rfl) (by decide) (fun h2 => ?_) (fun h2 => ?_)
    · rw [Int32.lt_iff_toInt_lt] at h2
      have h2 : 127 < b.toInt := h2
      refine zg_iconst (v := (nI 0)) (zd_t dmU_isAllowed 73 rfl) (by decide) ?_
      refine zg_zret (zd_t dmU_isAllowed 74 rfl) rfl rfl ?_
      rw [decide_eq_false (by omega)]
      rfl
    · rw [Int32.lt_iff_toInt_lt] at h2
      have h2 : ¬ 127 < b.toInt := h2
      refine zg_iconst (v := (nI 1)) (zd_t dmU_isAllowed 71 rfl) (by decide) ?_
      refine zg_goto (tgt := 206) (zd_t dmU_isAllowed 72 rfl) (by decide) ?_
      refine zg_zret (zd_t dmU_isAllowed 74 rfl) rfl rfl ?_
      rw [decide_eq_true (by omega)]
      rfl
theorem zu_isAllowed (k a b c : Int32) : zg_C l (zs_E P) (d + 2) mU_isAllowed [.int k, .int a, .int b, .int c] σ (.inl (some (.int (zs_bi (zs_alw k a b c)))), σ) := by
  refine zg_C_of (by decide +kernel) (Nat.le_of_ble_eq_true rfl) ?_
  refine zg_iload_n (zd_t dmU_isAllowed 0 rfl) rfl ?_
  unfold zs_alw
  by_cases hk : 0 ≤ k.toInt ∧ k.toInt ≤ 11
  · rw [if_pos hk]
    obtain ⟨n, hn, rfl⟩ := zs_nof (n := 12) hk.1 (by omega) (by decide)
    rcases (by omega : n = 0 ∨ n = 1 ∨ n = 2 ∨ n = 3 ∨ n = 4 ∨ n = 5 ∨ n = 6 ∨ n = 7 ∨ n = 8 ∨ n = 9 ∨ n = 10 ∨ n = 11) with rfl | rfl | rfl | rfl | rfl | rfl | rfl | rfl | rfl | rfl | rfl | rfl
    · refine zg_tableIn (off := 63) (tgt := 64) (zd_t dmU_isAllowed 1 rfl) (by decide) (by decide) (by decide) (by decide) ?_
      refine zg_iconst (v := (nI 1)) (zd_t dmU_isAllowed 2 rfl) (by decide) ?_
      exact zg_zret (zd_t dmU_isAllowed 3 rfl) rfl rfl rfl
    · refine zg_tableIn (off := 65) (tgt := 66) (zd_t dmU_isAllowed 1 rfl) (by decide) (by decide) (by decide) (by decide) ?_
      exact zu_al_1
    · refine zg_tableIn (off := 65) (tgt := 66) (zd_t dmU_isAllowed 1 rfl) (by decide) (by decide) (by decide) (by decide) ?_
      exact zu_al_1
    · refine zg_tableIn (off := 65) (tgt := 66) (zd_t dmU_isAllowed 1 rfl) (by decide) (by decide) (by decide) (by decide) ?_
      exact zu_al_1
    · refine zg_tableIn (off := 65) (tgt := 66) (zd_t dmU_isAllowed 1 rfl) (by decide) (by decide) (by decide) (by decide) ?_
      exact zu_al_1
    · refine zg_tableIn (off := 92) (tgt := 93) (zd_t dmU_isAllowed 1 rfl) (by decide) (by decide) (by decide) (by decide) ?_
      exact zu_al_5
    · refine zg_tableIn (off := 119) (tgt := 120) (zd_t dmU_isAllowed 1 rfl) (by decide) (by decide) (by decide) (by decide) ?_
      exact zu_al_6
    · refine zg_tableIn (off := 139) (tgt := 140) (zd_t dmU_isAllowed 1 rfl) (by decide) (by decide) (by decide) (by decide) ?_
      exact zu_al_7
    · refine zg_tableIn (off := 144) (tgt := 145) (zd_t dmU_isAllowed 1 rfl) (by decide) (by decide) (by decide) (by decide) ?_
      exact zu_al_8
    · refine zg_tableIn (off := 164) (tgt := 165) (zd_t dmU_isAllowed 1 rfl) (by decide) (by decide) (by decide) (by decide) ?_
      exact zu_al_9
    · refine zg_tableIn (off := 139) (tgt := 140) (zd_t dmU_isAllowed 1 rfl) (by decide) (by decide) (by decide) (by decide) ?_
      exact zu_al_7
    · refine zg_tableIn (off := 181) (tgt := 182) (zd_t dmU_isAllowed 1 rfl) (by decide) (by decide) (by decide) (by decide) ?_
      exact zu_al_11
  · rw [if_neg hk]
    refine zg_tableOut (tgt := 207) (zd_t dmU_isAllowed 1 rfl) (by omega) (by decide) ?_
    refine zg_iconst (v := (nI 0)) (zd_t dmU_isAllowed 75 rfl) (by decide) ?_
    exact zg_zret (zd_t dmU_isAllowed 76 rfl) rfl rfl rfl
theorem zu_productOf_lp {x : Nat} (hx : x < 64) : ∀ (n k : Nat), k + n = 6 → zg_G l (zs_E P) d mU_productOf 4 [(3, .int (nI k)), (1, .long (mz_L (mz_pr x k : Int))), (0, .int (nI x))] [] σ (.inl (some (.long (mz_L (mz_pr x 6 : Int)))), σ) := by
  intro n
  induction n with
  | zero =>
    intro k hk
    have hk : k = 6 := by omega
    subst hk
    refine zg_iload_n (zd_t dmU_productOf 4 rfl) rfl ?_
    refine zg_bipush (v := (nI 6)) (zd_t dmU_productOf 5 rfl) (by decide) ?_
    refine zg_icmp_ge (tgt := 34) (zd_t dmU_productOf 6 rfl) (by decide) (fun _ => ?_) (fun hq => absurd (by decide) hq)
    refine zg_lload_n (zd_t dmU_productOf 23 rfl) rfl ?_
    exact zg_lret (zd_t dmU_productOf 24 rfl) rfl rfl
  | succ n ih =>
    intro k hk
    have hm := mz_m_lt k
    have nx : zg_G l (zs_E P) d mU_productOf 28 [(1, .long (mz_L (mz_pr x (k + 1) : Int))), (3, .int (nI k)), (0, .int (nI x))] [] σ (.inl (some (.long (mz_L (mz_pr x 6 : Int)))), σ) := by
      refine zg_iinc (lv2 := [(3, .int (nI (k + 1))), (1, .long (mz_L (mz_pr x (k + 1) : Int))), (0, .int (nI x))]) (zd_t dmU_productOf 21 rfl) rfl (mz_inc k) (by decide) rfl ?_
      refine zg_goto (tgt := 4) (zd_t dmU_productOf 22 rfl) (by decide) ?_
      exact ih (k + 1) (by omega)
    refine zg_iload_n (zd_t dmU_productOf 4 rfl) rfl ?_
    refine zg_bipush (v := (nI 6)) (zd_t dmU_productOf 5 rfl) (by decide) ?_
    refine zg_icmp_ge (tgt := 34) (zd_t dmU_productOf 6 rfl) (by decide) (fun hq => absurd hq (fun h => absurd ((nI_leI (by decide) (by omega)).mp h) (by omega))) (fun _ => ?_)
    refine zg_iload_n (zd_t dmU_productOf 7 rfl) rfl ?_
    refine zg_iload_n (zd_t dmU_productOf 8 rfl) rfl ?_
    refine zg_ishr (zd_t dmU_productOf 9 rfl) ?_
    refine zg_iconst (v := (nI 1)) (zd_t dmU_productOf 10 rfl) (by decide) ?_
    refine zg_iand (zd_t dmU_productOf 11 rfl) ?_
    refine zg_iconst (v := (nI 1)) (zd_t dmU_productOf 12 rfl) (by decide) ?_
    rw [mz_bit x hx k (by omega)]
    by_cases hb : x / 2 ^ k % 2 = 1
    · refine zg_icmp_ne (tgt := 28) (zd_t dmU_productOf 13 rfl) (by decide) (fun hq => absurd (by rw [hb]) hq) (fun _ => ?_)
      refine zg_lload_n (zd_t dmU_productOf 14 rfl) rfl ?_
      refine zg_gets (zd_t dmU_productOf 15 rfl) zs_xM zg_U_190 ?_
      refine zg_iload_n (zd_t dmU_productOf 16 rfl) rfl ?_
      refine zg_ti (zd_t dmU_productOf 17 rfl) zs_yM rfl (show k < 8 by omega) (by decide) rfl ?_
      refine zg_i2l (zd_t dmU_productOf 18 rfl) rfl ?_
      rw [mz_i2l (show mz_m k < 2 ^ 31 by omega)]
      refine zg_lmul (zd_t dmU_productOf 19 rfl) ?_
      rw [mz_mul, show (mz_pr x k : Int) * (mz_m k : Int) = (mz_pr x (k + 1) : Int) by rw [show mz_pr x (k + 1) = mz_pr x k * mz_m k from if_pos hb]; omega]
      refine zg_lstore_n (zd_t dmU_productOf 20 rfl) (by decide) rfl ?_
      exact nx
    · have e : mz_pr x k = mz_pr x (k + 1) := (if_neg hb).symm
      refine zg_icmp_ne (tgt := 28) (zd_t dmU_productOf 13 rfl) (by decide) (fun _ => ?_) (fun hq => absurd hq (fun h => hb ((nI_eq (by omega) (by decide)).mp h)))
      rw [e]
      exact zg_lv [1, 0, 2] rfl nx
theorem zu_productOf {x : Nat} (hx : x < 64) : zg_C l (zs_E P) d mU_productOf [.int (nI x)] σ (.inl (some (.long (mz_L (mz_pr x 6 : Int)))), σ) := by
  refine zg_C_of (by decide +kernel) (Nat.le_of_ble_eq_true rfl) ?_
  refine zg_lconst (v := mz_L 1) (zd_t dmU_productOf 0 rfl) (by decide) ?_
  refine zg_lstore_n (zd_t dmU_productOf 1 rfl) (by decide) rfl ?_
  refine zg_iconst (v := (nI 0)) (zd_t dmU_productOf 2 rfl) (by decide) ?_
  refine zg_istore_n (zd_t dmU_productOf 3 rfl) (by decide) rfl ?_
  exact zu_productOf_lp hx 6 0 rfl
def zs_rs (n : Int32) : Nat := if n = -1 then 1 else if zs_ii n then 3 else 2
theorem zu_reasonAt (n : Int32) : zg_C l (zs_E P) (d + 1) mU_reasonAt [.int n] σ (.inl (some (.int (nI (zs_rs n)))), σ) := by
  refine zg_C_of (by decide +kernel) (Nat.le_of_ble_eq_true rfl) ?_
  unfold zs_rs
  refine zg_iload_n (zd_t dmU_reasonAt 0 rfl) rfl ?_
  refine zg_iconst (v := (-1)) (zd_t dmU_reasonAt 1 rfl) (by decide) ?_
  by_cases h : n = -1
  · rw [if_pos h]
    refine zg_icmp_ne (tgt := 7) (zd_t dmU_reasonAt 2 rfl) (by decide) (fun hq => absurd h hq) (fun _ => ?_)
    refine zg_iconst (v := (nI 1)) (zd_t dmU_reasonAt 3 rfl) (by decide) ?_
    exact zg_iret (zd_t dmU_reasonAt 4 rfl) rfl rfl
  · rw [if_neg h]
    refine zg_icmp_ne (tgt := 7) (zd_t dmU_reasonAt 2 rfl) (by decide) (fun _ => ?_) (fun hq => absurd hq h)
    refine zg_iload_n (zd_t dmU_reasonAt 5 rfl) rfl ?_
    refine zg_callS (zd_t dmU_reasonAt 6 rfl) zl_U_115 zm_mU_isInstruction zst_mU_isInstruction (av := _) (rest := _) (by rfl) (by rfl) (by exact Nat.le_of_ble_eq_true rfl) (zu_isInstruction n) ?_
    by_cases h2 : zs_ii n
    · rw [decide_eq_true h2, if_pos h2]
      refine zg_if_eq (tgt := 18) (zd_t dmU_reasonAt 7 rfl) (by decide) (fun hq => absurd hq (by decide)) (fun _ => ?_)
      refine zg_iconst (v := (nI 3)) (zd_t dmU_reasonAt 8 rfl) (by decide) ?_
      refine zg_goto (tgt := 19) (zd_t dmU_reasonAt 9 rfl) (by decide) ?_
      exact zg_iret (zd_t dmU_reasonAt 11 rfl) rfl rfl
    · rw [decide_eq_false h2, if_neg h2]
      refine zg_if_eq (tgt := 18) (zd_t dmU_reasonAt 7 rfl) (by decide) (fun _ => ?_) (fun hq => absurd (by decide) hq)
      refine zg_iconst (v := (nI 2)) (zd_t dmU_reasonAt 10 rfl) (by decide) ?_
      exact zg_iret (zd_t dmU_reasonAt 11 rfl) rfl rfl
end ZM9
section ZM9b
variable {l : Launch} {P : zs_P} {d : Nat} {S : zs_S} {S2 : zs_S2} {th : Int32} {o : Int64} {w : Nat × Nat} {e a b i : Nat}
def zs_ssc (S : zs_S) (e a x : Nat) (n : Bool) : zs_S := zs_sput S e (mz_sc (mz_val (zs_re S a)) (mz_pr x 6 : Int) n)
theorem mz_val_hr (ρ : Nat → Nat) : mz_hr (mz_val ρ) := mz_V_in (ρ 0) (ρ 1) (ρ 2) (ρ 3) (ρ 4) (ρ 5)
theorem zu_putScaled {x : Nat} {n : Bool} (he : e < 16) (ha : a < 16) (hx : x < 64) (hp : mz_pop x ≤ 4) (hok : mz_ok (zs_re S a)) : zg_C l (zs_E P) (d + 3) mU_putScaled [.ref (zp_B P), .int (nI e), .int (nI a), .int (nI x), .int (zs_bi n)] (zs_σ P S th S2 o w) (.inl none, zs_σ P (zs_ssc S e a x n) th S2 o w) := by
  refine zg_C_of (by decide +kernel) (Nat.le_of_ble_eq_true rfl) ?_
  have hpr := mz_pr_le x hx hp
  have hv := mz_val_hr (zs_re S a)
  obtain ⟨s, hs⟩ : ∃ s : Int, s = (mz_pr x 6 : Int) := ⟨_, rfl⟩
  have hs1 : 1 ≤ s ∧ s < 4000000000 := by omega
  have hsi : mz_in s := by unfold mz_in; omega
  have hsc := mz_sc_hr (n := n) hv hs1.1
  unfold zs_ssc
  rw [← hs]
  refine zg_iload_n (zd_t dmU_putScaled 0 rfl) rfl ?_
  refine zg_callS (zd_t dmU_putScaled 1 rfl) zl_U_178 zm_mU_productOf zst_mU_productOf (av := _) (rest := _) (by rfl) (by rfl) (by exact Nat.le_of_ble_eq_true rfl) (zu_productOf hx) ?_
  rw [← hs]
  refine zg_lstore (zd_t dmU_putScaled 2 rfl) (by decide) rfl ?_
  refine zg_aload_n (zd_t dmU_putScaled 3 rfl) rfl ?_
  refine zg_getf (zd_t dmU_putScaled 4 rfl) zf_U_11 zs_0 rfl ?_
  refine zg_iload_n (zd_t dmU_putScaled 5 rfl) rfl ?_
  refine zg_aald (t0 := 3) (zd_t dmU_putScaled 6 rfl) zs_1 rfl rfl ha (by decide) (zs_rf_at ha) ?_
  refine zg_callV (zd_t dmU_putScaled 7 rfl) zl_U_58 zm_mR_value zi_mR_value zse_mR_value (zs_reg ha) zs_cl1 rfl (av := _) (rest := _) (by rfl) (by rfl) (by exact Nat.le_of_ble_eq_true rfl) (zr_value ha hok) ?_
  refine zg_lstore (zd_t dmU_putScaled 8 rfl) (by decide) rfl ?_
  refine zg_aload_n (zd_t dmU_putScaled 9 rfl) rfl ?_
  refine zg_getf (zd_t dmU_putScaled 10 rfl) zf_U_11 zs_0 rfl ?_
  refine zg_iload_n (zd_t dmU_putScaled 11 rfl) rfl ?_
  refine zg_aald (t0 := 3) (zd_t dmU_putScaled 12 rfl) zs_1 rfl rfl he (by decide) (zs_rf_at he) ?_
  refine zg_iload (zd_t dmU_putScaled 13 rfl) rfl ?_
  cases n with
  | true =>
    rw [show mz_sc (mz_val (zs_re S a)) s true = (2 * mz_val (zs_re S a) + s) / (2 * s) from if_pos rfl] at hsc ⊢
    refine zg_if_eq (tgt := 49) (zd_t dmU_putScaled 14 rfl) (by decide) (fun hq => absurd hq (by decide)) (fun _ => ?_)
    refine zg_ldc2 (zd_t dmU_putScaled 15 rfl) zc_U_182 ?_
    refine zg_lload (zd_t dmU_putScaled 16 rfl) rfl ?_
    refine zg_lmul (zd_t dmU_putScaled 17 rfl) ?_
    refine zg_lload (zd_t dmU_putScaled 18 rfl) rfl ?_
    refine zg_ladd (zd_t dmU_putScaled 19 rfl) ?_
    refine zg_ldc2 (zd_t dmU_putScaled 20 rfl) zc_U_182 ?_
    refine zg_lload (zd_t dmU_putScaled 21 rfl) rfl ?_
    refine zg_lmul (zd_t dmU_putScaled 22 rfl) ?_
    rw [mz_mul, mz_mul, mz_add]
    refine zg_callS (zd_t dmU_putScaled 23 rfl) zl_U_184 zm_mJ_floorDiv zst_mJ_floorDiv (av := _) (rest := _) (by rfl) (by rfl) (by exact Nat.le_of_ble_eq_true rfl) (zj_floorDiv (by unfold mz_in; omega) (by unfold mz_in; omega) (by omega)) ?_
    refine zg_goto (tgt := 56) (zd_t dmU_putScaled 24 rfl) (by decide) ?_
    refine zg_callV (zd_t dmU_putScaled 28 rfl) zl_U_45 zm_mR_put zi_mR_put zse_mR_put (zs_reg he) zs_cl1 rfl (av := _) (rest := _) (by rfl) (by rfl) (by exact Nat.le_of_ble_eq_true rfl) (zr_put he hsc.i) ?_
    exact zg_vret (zd_t dmU_putScaled 29 rfl) rfl rfl
  | false =>
    rw [show mz_sc (mz_val (zs_re S a)) s false = mz_val (zs_re S a) / s from if_neg (by decide)] at hsc ⊢
    refine zg_if_eq (tgt := 49) (zd_t dmU_putScaled 14 rfl) (by decide) (fun _ => ?_) (fun hq => absurd (by decide) hq)
    refine zg_lload (zd_t dmU_putScaled 25 rfl) rfl ?_
    refine zg_lload (zd_t dmU_putScaled 26 rfl) rfl ?_
    refine zg_callS (zd_t dmU_putScaled 27 rfl) zl_U_184 zm_mJ_floorDiv zst_mJ_floorDiv (av := _) (rest := _) (by rfl) (by rfl) (by exact Nat.le_of_ble_eq_true rfl) (zj_floorDiv hv.i hsi (by omega)) ?_
    refine zg_callV (zd_t dmU_putScaled 28 rfl) zl_U_45 zm_mR_put zi_mR_put zse_mR_put (zs_reg he) zs_cl1 rfl (av := _) (rest := _) (by rfl) (by rfl) (by exact Nat.le_of_ble_eq_true rfl) (zr_put he hsc.i) ?_
    exact zg_vret (zd_t dmU_putScaled 29 rfl) rfl rfl
end ZM9b
end
section
def zs_inv (S : zs_S) : Prop := (∀ j, j < 16 → mz_ok (zs_re S j)) ∧ (∀ j, j < 16 → mz_hr (zs_ex S j)) ∧ (∀ i, i < 32 → zs_alw (zs_pg S i 0) (zs_pg S i 1) (zs_pg S i 2) (zs_pg S i 3) = true)
theorem zs_chg {k : Nat} (h : k < 8) : zs_ch (nI (k + 1)) := by unfold zs_ch; rw [nI_toInt (by omega)]; omega
section ZM10
variable {l : Launch} {P : zs_P} {d : Nat} {S : zs_S} {S2 : zs_S2} {th : Int32} {o : Int64} {w : Nat × Nat} {e a b i k : Nat}
theorem zu_binaryX {r : Int32} {σ : zg_H} (htr : l.stackTraces = false) (h : ¬ (zs_ir r)) : zg_C l (zs_E P) (d + 7) mU_binary [.ref (zp_B P), .int r] σ (.inr (zg_sz σ, "java/lang/IndexOutOfBoundsException"), zs_exc σ) := by
  refine zg_C_of (by decide +kernel) (Nat.le_of_ble_eq_true rfl) ?_
  refine zg_iload_n (zd_t dmU_binary 0 rfl) rfl ?_
  by_cases h0 : zs_ir r
  · skip
    refine zg_callS (zd_t dmU_binary 1 rfl) zl_U_30 zm_mU_requireRegister zst_mU_requireRegister (av := _) (rest := _) (by rfl) (by rfl) (by exact Nat.le_of_ble_eq_true rfl) (zu_requireRegister h0) ?_
    exact absurd h0 h
  · exact zg_callST (zd_t dmU_binary 1 rfl) zl_U_30 zm_mU_requireRegister zst_mU_requireRegister (av := _) (rest := _) (by rfl) (by rfl) (by exact Nat.le_of_ble_eq_true rfl) (zu_requireRegisterX htr h0) (fun h hh => absurd hh List.not_mem_nil) rfl
theorem zu_workX {p e a b : Int32} {σ : zg_H} (htr : l.stackTraces = false) (h : ¬ (zs_ir e ∧ zs_ir a ∧ zs_ir b)) : zg_C l (zs_E P) (d + 7) mU_work [.ref (zp_B P), .int p, .int e, .int a, .int b] σ (.inr (zg_sz σ, "java/lang/IndexOutOfBoundsException"), zs_exc σ) := by
  refine zg_C_of (by decide +kernel) (Nat.le_of_ble_eq_true rfl) ?_
  refine zg_iload_n (zd_t dmU_work 0 rfl) rfl ?_
  by_cases h0 : zs_ir e
  · skip
    refine zg_callS (zd_t dmU_work 1 rfl) zl_U_30 zm_mU_requireRegister zst_mU_requireRegister (av := _) (rest := _) (by rfl) (by rfl) (by exact Nat.le_of_ble_eq_true rfl) (zu_requireRegister h0) ?_
    refine zg_iload_n (zd_t dmU_work 2 rfl) rfl ?_
    by_cases h1 : zs_ir a
    · skip
      refine zg_callS (zd_t dmU_work 3 rfl) zl_U_30 zm_mU_requireRegister zst_mU_requireRegister (av := _) (rest := _) (by rfl) (by rfl) (by exact Nat.le_of_ble_eq_true rfl) (zu_requireRegister h1) ?_
      refine zg_iload (zd_t dmU_work 4 rfl) rfl ?_
      by_cases h2 : zs_ir b
      · skip
        refine zg_callS (zd_t dmU_work 5 rfl) zl_U_30 zm_mU_requireRegister zst_mU_requireRegister (av := _) (rest := _) (by rfl) (by rfl) (by exact Nat.le_of_ble_eq_true rfl) (zu_requireRegister h2) ?_
        exact absurd ⟨h0, h1, h2⟩ h
      · exact zg_callST (zd_t dmU_work 5 rfl) zl_U_30 zm_mU_requireRegister zst_mU_requireRegister (av := _) (rest := _) (by rfl) (by rfl) (by exact Nat.le_of_ble_eq_true rfl) (zu_requireRegisterX htr h2) (fun h hh => absurd hh List.not_mem_nil) rfl
    · exact zg_callST (zd_t dmU_work 3 rfl) zl_U_30 zm_mU_requireRegister zst_mU_requireRegister (av := _) (rest := _) (by rfl) (by rfl) (by exact Nat.le_of_ble_eq_true rfl) (zu_requireRegisterX htr h1) (fun h hh => absurd hh List.not_mem_nil) rfl
  · exact zg_callST (zd_t dmU_work 1 rfl) zl_U_30 zm_mU_requireRegister zst_mU_requireRegister (av := _) (rest := _) (by rfl) (by rfl) (by exact Nat.le_of_ble_eq_true rfl) (zu_requireRegisterX htr h0) (fun h hh => absurd hh List.not_mem_nil) rfl
theorem zu_compareX {a b : Int32} {σ : zg_H} (htr : l.stackTraces = false) (h : ¬ (zs_ir a ∧ zs_ir b)) : zg_C l (zs_E P) (d + 7) mU_compare [.ref (zp_B P), .int a, .int b] σ (.inr (zg_sz σ, "java/lang/IndexOutOfBoundsException"), zs_exc σ) := by
  refine zg_C_of (by decide +kernel) (Nat.le_of_ble_eq_true rfl) ?_
  refine zg_iload_n (zd_t dmU_compare 0 rfl) rfl ?_
  by_cases h0 : zs_ir a
  · skip
    refine zg_callS (zd_t dmU_compare 1 rfl) zl_U_30 zm_mU_requireRegister zst_mU_requireRegister (av := _) (rest := _) (by rfl) (by rfl) (by exact Nat.le_of_ble_eq_true rfl) (zu_requireRegister h0) ?_
    refine zg_iload_n (zd_t dmU_compare 2 rfl) rfl ?_
    by_cases h1 : zs_ir b
    · skip
      refine zg_callS (zd_t dmU_compare 3 rfl) zl_U_30 zm_mU_requireRegister zst_mU_requireRegister (av := _) (rest := _) (by rfl) (by rfl) (by exact Nat.le_of_ble_eq_true rfl) (zu_requireRegister h1) ?_
      exact absurd ⟨h0, h1⟩ h
    · exact zg_callST (zd_t dmU_compare 3 rfl) zl_U_30 zm_mU_requireRegister zst_mU_requireRegister (av := _) (rest := _) (by rfl) (by rfl) (by exact Nat.le_of_ble_eq_true rfl) (zu_requireRegisterX htr h1) (fun h hh => absurd hh List.not_mem_nil) rfl
  · exact zg_callST (zd_t dmU_compare 1 rfl) zl_U_30 zm_mU_requireRegister zst_mU_requireRegister (av := _) (rest := _) (by rfl) (by rfl) (by exact Nat.le_of_ble_eq_true rfl) (zu_requireRegisterX htr h0) (fun h hh => absurd hh List.not_mem_nil) rfl
theorem zu_scaleX {e a c z : Int32} {σ : zg_H} (htr : l.stackTraces = false) (h : ¬ (zs_ir e ∧ zs_ir a)) : zg_C l (zs_E P) (d + 7) mU_scale [.ref (zp_B P), .int e, .int a, .int c, .int z] σ (.inr (zg_sz σ, "java/lang/IndexOutOfBoundsException"), zs_exc σ) := by
  refine zg_C_of (by decide +kernel) (Nat.le_of_ble_eq_true rfl) ?_
  refine zg_iload_n (zd_t dmU_scale 0 rfl) rfl ?_
  by_cases h0 : zs_ir e
  · skip
    refine zg_callS (zd_t dmU_scale 1 rfl) zl_U_30 zm_mU_requireRegister zst_mU_requireRegister (av := _) (rest := _) (by rfl) (by rfl) (by exact Nat.le_of_ble_eq_true rfl) (zu_requireRegister h0) ?_
    refine zg_iload_n (zd_t dmU_scale 2 rfl) rfl ?_
    by_cases h1 : zs_ir a
    · skip
      refine zg_callS (zd_t dmU_scale 3 rfl) zl_U_30 zm_mU_requireRegister zst_mU_requireRegister (av := _) (rest := _) (by rfl) (by rfl) (by exact Nat.le_of_ble_eq_true rfl) (zu_requireRegister h1) ?_
      exact absurd ⟨h0, h1⟩ h
    · exact zg_callST (zd_t dmU_scale 3 rfl) zl_U_30 zm_mU_requireRegister zst_mU_requireRegister (av := _) (rest := _) (by rfl) (by rfl) (by exact Nat.le_of_ble_eq_true rfl) (zu_requireRegisterX htr h1) (fun h hh => absurd hh List.not_mem_nil) rfl
  · exact zg_callST (zd_t dmU_scale 1 rfl) zl_U_30 zm_mU_requireRegister zst_mU_requireRegister (av := _) (rest := _) (by rfl) (by rfl) (by exact Nat.le_of_ble_eq_true rfl) (zu_requireRegisterX htr h0) (fun h hh => absurd hh List.not_mem_nil) rfl
theorem zu_divideX {q r a b : Int32} {σ : zg_H} (htr : l.stackTraces = false) (h : ¬ (zs_ir q ∧ zs_ir r ∧ zs_ir a ∧ zs_ir b)) : zg_C l (zs_E P) (d + 7) mU_divide [.ref (zp_B P), .int q, .int r, .int a, .int b] σ (.inr (zg_sz σ, "java/lang/IndexOutOfBoundsException"), zs_exc σ) := by
  refine zg_C_of (by decide +kernel) (Nat.le_of_ble_eq_true rfl) ?_
  refine zg_iload_n (zd_t dmU_divide 0 rfl) rfl ?_
  by_cases h0 : zs_ir q
  · skip
    refine zg_callS (zd_t dmU_divide 1 rfl) zl_U_30 zm_mU_requireRegister zst_mU_requireRegister (av := _) (rest := _) (by rfl) (by rfl) (by exact Nat.le_of_ble_eq_true rfl) (zu_requireRegister h0) ?_
    refine zg_iload_n (zd_t dmU_divide 2 rfl) rfl ?_
    by_cases h1 : zs_ir r
    · skip
      refine zg_callS (zd_t dmU_divide 3 rfl) zl_U_30 zm_mU_requireRegister zst_mU_requireRegister (av := _) (rest := _) (by rfl) (by rfl) (by exact Nat.le_of_ble_eq_true rfl) (zu_requireRegister h1) ?_
      refine zg_iload_n (zd_t dmU_divide 4 rfl) rfl ?_
      by_cases h2 : zs_ir a
      · skip
        refine zg_callS (zd_t dmU_divide 5 rfl) zl_U_30 zm_mU_requireRegister zst_mU_requireRegister (av := _) (rest := _) (by rfl) (by rfl) (by exact Nat.le_of_ble_eq_true rfl) (zu_requireRegister h2) ?_
        refine zg_iload (zd_t dmU_divide 6 rfl) rfl ?_
        by_cases h3 : zs_ir b
        · skip
          refine zg_callS (zd_t dmU_divide 7 rfl) zl_U_30 zm_mU_requireRegister zst_mU_requireRegister (av := _) (rest := _) (by rfl) (by rfl) (by exact Nat.le_of_ble_eq_true rfl) (zu_requireRegister h3) ?_
          exact absurd ⟨h0, h1, h2, h3⟩ h
        · exact zg_callST (zd_t dmU_divide 7 rfl) zl_U_30 zm_mU_requireRegister zst_mU_requireRegister (av := _) (rest := _) (by rfl) (by rfl) (by exact Nat.le_of_ble_eq_true rfl) (zu_requireRegisterX htr h3) (fun h hh => absurd hh List.not_mem_nil) rfl
      · exact zg_callST (zd_t dmU_divide 5 rfl) zl_U_30 zm_mU_requireRegister zst_mU_requireRegister (av := _) (rest := _) (by rfl) (by rfl) (by exact Nat.le_of_ble_eq_true rfl) (zu_requireRegisterX htr h2) (fun h hh => absurd hh List.not_mem_nil) rfl
    · exact zg_callST (zd_t dmU_divide 3 rfl) zl_U_30 zm_mU_requireRegister zst_mU_requireRegister (av := _) (rest := _) (by rfl) (by rfl) (by exact Nat.le_of_ble_eq_true rfl) (zu_requireRegisterX htr h1) (fun h hh => absurd hh List.not_mem_nil) rfl
  · exact zg_callST (zd_t dmU_divide 1 rfl) zl_U_30 zm_mU_requireRegister zst_mU_requireRegister (av := _) (rest := _) (by rfl) (by rfl) (by exact Nat.le_of_ble_eq_true rfl) (zu_requireRegisterX htr h0) (fun h hh => absurd hh List.not_mem_nil) rfl
theorem zu_channelX {r k : Int32} {σ : zg_H} (htr : l.stackTraces = false) (h : ¬ (zs_ir r ∧ zs_ch k)) : zg_C l (zs_E P) (d + 7) mU_channel [.ref (zp_B P), .int r, .int k] σ (.inr (zg_sz σ, "java/lang/IndexOutOfBoundsException"), zs_exc σ) := by
  refine zg_C_of (by decide +kernel) (Nat.le_of_ble_eq_true rfl) ?_
  refine zg_iload_n (zd_t dmU_channel 0 rfl) rfl ?_
  by_cases h0 : zs_ir r
  · skip
    refine zg_callS (zd_t dmU_channel 1 rfl) zl_U_30 zm_mU_requireRegister zst_mU_requireRegister (av := _) (rest := _) (by rfl) (by rfl) (by exact Nat.le_of_ble_eq_true rfl) (zu_requireRegister h0) ?_
    refine zg_iload_n (zd_t dmU_channel 2 rfl) rfl ?_
    by_cases h1 : zs_ch k
    · skip
      refine zg_callS (zd_t dmU_channel 3 rfl) zl_U_83 zm_mU_requireChannel zst_mU_requireChannel (av := _) (rest := _) (by rfl) (by rfl) (by exact Nat.le_of_ble_eq_true rfl) (zu_requireChannel h1) ?_
      exact absurd ⟨h0, h1⟩ h
    · exact zg_callST (zd_t dmU_channel 3 rfl) zl_U_83 zm_mU_requireChannel zst_mU_requireChannel (av := _) (rest := _) (by rfl) (by rfl) (by exact Nat.le_of_ble_eq_true rfl) (zu_requireChannelX htr h1) (fun h hh => absurd hh List.not_mem_nil) rfl
  · exact zg_callST (zd_t dmU_channel 1 rfl) zl_U_30 zm_mU_requireRegister zst_mU_requireRegister (av := _) (rest := _) (by rfl) (by rfl) (by exact Nat.le_of_ble_eq_true rfl) (zu_requireRegisterX htr h0) (fun h hh => absurd hh List.not_mem_nil) rfl
theorem zu_injectX {r k e : Int32} {σ : zg_H} (htr : l.stackTraces = false) (h : ¬ (zs_ir r ∧ zs_ch k)) : zg_C l (zs_E P) (d + 7) mU_inject [.ref (zp_B P), .int r, .int k, .int e] σ (.inr (zg_sz σ, "java/lang/IndexOutOfBoundsException"), zs_exc σ) := by
  refine zg_C_of (by decide +kernel) (Nat.le_of_ble_eq_true rfl) ?_
  refine zg_iload_n (zd_t dmU_inject 0 rfl) rfl ?_
  by_cases h0 : zs_ir r
  · skip
    refine zg_callS (zd_t dmU_inject 1 rfl) zl_U_30 zm_mU_requireRegister zst_mU_requireRegister (av := _) (rest := _) (by rfl) (by rfl) (by exact Nat.le_of_ble_eq_true rfl) (zu_requireRegister h0) ?_
    refine zg_iload_n (zd_t dmU_inject 2 rfl) rfl ?_
    by_cases h1 : zs_ch k
    · skip
      refine zg_callS (zd_t dmU_inject 3 rfl) zl_U_83 zm_mU_requireChannel zst_mU_requireChannel (av := _) (rest := _) (by rfl) (by rfl) (by exact Nat.le_of_ble_eq_true rfl) (zu_requireChannel h1) ?_
      exact absurd ⟨h0, h1⟩ h
    · exact zg_callST (zd_t dmU_inject 3 rfl) zl_U_83 zm_mU_requireChannel zst_mU_requireChannel (av := _) (rest := _) (by rfl) (by rfl) (by exact Nat.le_of_ble_eq_true rfl) (zu_requireChannelX htr h1) (fun h hh => absurd hh List.not_mem_nil) rfl
  · exact zg_callST (zd_t dmU_inject 1 rfl) zl_U_30 zm_mU_requireRegister zst_mU_requireRegister (av := _) (rest := _) (by rfl) (by rfl) (by exact Nat.le_of_ble_eq_true rfl) (zu_requireRegisterX htr h0) (fun h hh => absurd hh List.not_mem_nil) rfl
theorem zu_verifyX {r : Int32} {σ : zg_H} (htr : l.stackTraces = false) (h : ¬ (zs_ir r)) : zg_C l (zs_E P) (d + 7) mU_verify [.ref (zp_B P), .int r] σ (.inr (zg_sz σ, "java/lang/IndexOutOfBoundsException"), zs_exc σ) := by
  refine zg_C_of (by decide +kernel) (Nat.le_of_ble_eq_true rfl) ?_
  refine zg_iload_n (zd_t dmU_verify 0 rfl) rfl ?_
  by_cases h0 : zs_ir r
  · skip
    refine zg_callS (zd_t dmU_verify 1 rfl) zl_U_30 zm_mU_requireRegister zst_mU_requireRegister (av := _) (rest := _) (by rfl) (by rfl) (by exact Nat.le_of_ble_eq_true rfl) (zu_requireRegister h0) ?_
    exact absurd h0 h
  · exact zg_callST (zd_t dmU_verify 1 rfl) zl_U_30 zm_mU_requireRegister zst_mU_requireRegister (av := _) (rest := _) (by rfl) (by rfl) (by exact Nat.le_of_ble_eq_true rfl) (zu_requireRegisterX htr h0) (fun h hh => absurd hh List.not_mem_nil) rfl
theorem zu_repairX {r : Int32} {σ : zg_H} (htr : l.stackTraces = false) (h : ¬ (zs_ir r)) : zg_C l (zs_E P) (d + 7) mU_repair [.ref (zp_B P), .int r] σ (.inr (zg_sz σ, "java/lang/IndexOutOfBoundsException"), zs_exc σ) := by
  refine zg_C_of (by decide +kernel) (Nat.le_of_ble_eq_true rfl) ?_
  refine zg_iload_n (zd_t dmU_repair 0 rfl) rfl ?_
  by_cases h0 : zs_ir r
  · skip
    refine zg_callS (zd_t dmU_repair 1 rfl) zl_U_30 zm_mU_requireRegister zst_mU_requireRegister (av := _) (rest := _) (by rfl) (by rfl) (by exact Nat.le_of_ble_eq_true rfl) (zu_requireRegister h0) ?_
    exact absurd h0 h
  · exact zg_callST (zd_t dmU_repair 1 rfl) zl_U_30 zm_mU_requireRegister zst_mU_requireRegister (av := _) (rest := _) (by rfl) (by rfl) (by exact Nat.le_of_ble_eq_true rfl) (zu_requireRegisterX htr h0) (fun h hh => absurd hh List.not_mem_nil) rfl
theorem zu_sureX {r : Int32} {σ : zg_H} (htr : l.stackTraces = false) (h : ¬ (zs_ir r)) : zg_C l (zs_E P) (d + 7) mU_sure [.ref (zp_B P), .int r] σ (.inr (zg_sz σ, "java/lang/IndexOutOfBoundsException"), zs_exc σ) := by
  refine zg_C_of (by decide +kernel) (Nat.le_of_ble_eq_true rfl) ?_
  refine zg_iload_n (zd_t dmU_sure 0 rfl) rfl ?_
  by_cases h0 : zs_ir r
  · skip
    refine zg_callS (zd_t dmU_sure 1 rfl) zl_U_30 zm_mU_requireRegister zst_mU_requireRegister (av := _) (rest := _) (by rfl) (by rfl) (by exact Nat.le_of_ble_eq_true rfl) (zu_requireRegister h0) ?_
    exact absurd h0 h
  · exact zg_callST (zd_t dmU_sure 1 rfl) zl_U_30 zm_mU_requireRegister zst_mU_requireRegister (av := _) (rest := _) (by rfl) (by rfl) (by exact Nat.le_of_ble_eq_true rfl) (zu_requireRegisterX htr h0) (fun h hh => absurd hh List.not_mem_nil) rfl
theorem zu_boundX {r n : Int32} {σ : zg_H} (htr : l.stackTraces = false) (h : ¬ (zs_ir r)) : zg_C l (zs_E P) (d + 7) mU_bound [.ref (zp_B P), .int r, .int n] σ (.inr (zg_sz σ, "java/lang/IndexOutOfBoundsException"), zs_exc σ) := by
  refine zg_C_of (by decide +kernel) (Nat.le_of_ble_eq_true rfl) ?_
  refine zg_iload_n (zd_t dmU_bound 0 rfl) rfl ?_
  by_cases h0 : zs_ir r
  · skip
    refine zg_callS (zd_t dmU_bound 1 rfl) zl_U_30 zm_mU_requireRegister zst_mU_requireRegister (av := _) (rest := _) (by rfl) (by rfl) (by exact Nat.le_of_ble_eq_true rfl) (zu_requireRegister h0) ?_
    exact absurd h0 h
  · exact zg_callST (zd_t dmU_bound 1 rfl) zl_U_30 zm_mU_requireRegister zst_mU_requireRegister (av := _) (rest := _) (by rfl) (by rfl) (by exact Nat.le_of_ble_eq_true rfl) (zu_requireRegisterX htr h0) (fun h hh => absurd hh List.not_mem_nil) rfl
theorem zu_binary (hi : i < 16) (hok : mz_ok (zs_re S i)) (hg : mz_good (zs_re S i)) : zg_C l (zs_E P) (d + 6) mU_binary [.ref (zp_B P), .int (nI i)] (zs_σ P S th S2 o w) (.inl (some (.long (mz_L (mz_val (zs_re S i))))), (zs_σ P S th S2 o w)) := by
  refine zg_C_of (by decide +kernel) (Nat.le_of_ble_eq_true rfl) ?_
  refine zg_iload_n (zd_t dmU_binary 0 rfl) rfl ?_
  refine zg_callS (zd_t dmU_binary 1 rfl) zl_U_30 zm_mU_requireRegister zst_mU_requireRegister (av := _) (rest := _) (by rfl) (by rfl) (by exact Nat.le_of_ble_eq_true rfl) (zu_requireRegister (zs_rg hi)) ?_
  refine zg_aload_n (zd_t dmU_binary 2 rfl) rfl ?_
  refine zg_getf (zd_t dmU_binary 3 rfl) zf_U_11 zs_0 rfl ?_
  refine zg_iload_n (zd_t dmU_binary 4 rfl) rfl ?_
  refine zg_aald (t0 := 3) (zd_t dmU_binary 5 rfl) zs_1 rfl rfl hi (by decide) (zs_rf_at hi) ?_
  refine zg_callV (zd_t dmU_binary 6 rfl) zl_U_49 zm_mR_isGood zi_mR_isGood zse_mR_isGood (zs_reg hi) zs_cl1 rfl (av := _) (rest := _) (by rfl) (by rfl) (by exact Nat.le_of_ble_eq_true rfl) (zr_isGood hi hok) ?_
  rw [decide_eq_true hg]
  refine zg_if_ne (tgt := 26) (zd_t dmU_binary 7 rfl) (by decide) (fun _ => ?_) (fun hq => absurd hq (by decide))
  refine zg_aload_n (zd_t dmU_binary 13 rfl) rfl ?_
  refine zg_getf (zd_t dmU_binary 14 rfl) zf_U_11 zs_0 rfl ?_
  refine zg_iload_n (zd_t dmU_binary 15 rfl) rfl ?_
  refine zg_aald (t0 := 3) (zd_t dmU_binary 16 rfl) zs_1 rfl rfl hi (by decide) (zs_rf_at hi) ?_
  refine zg_callV (zd_t dmU_binary 17 rfl) zl_U_58 zm_mR_value zi_mR_value zse_mR_value (zs_reg hi) zs_cl1 rfl (av := _) (rest := _) (by rfl) (by rfl) (by exact Nat.le_of_ble_eq_true rfl) (zr_value hi hok) ?_
  exact zg_lret (zd_t dmU_binary 18 rfl) rfl rfl
theorem zu_binaryY (htr : l.stackTraces = false) (hi : i < 16) (hok : mz_ok (zs_re S i)) (hg : ¬ mz_good (zs_re S i)) : zg_C l (zs_E P) (d + 7) mU_binary [.ref (zp_B P), .int (nI i)] (zs_σ P S th S2 o w) (.inr (zg_sz (zs_σ P S th S2 o w), "java/lang/IllegalStateException"), zs_exc (zs_σ P S th S2 o w)) := by
  refine zg_C_of (by decide +kernel) (Nat.le_of_ble_eq_true rfl) ?_
  refine zg_iload_n (zd_t dmU_binary 0 rfl) rfl ?_
  refine zg_callS (zd_t dmU_binary 1 rfl) zl_U_30 zm_mU_requireRegister zst_mU_requireRegister (av := _) (rest := _) (by rfl) (by rfl) (by exact Nat.le_of_ble_eq_true rfl) (zu_requireRegister (zs_rg hi)) ?_
  refine zg_aload_n (zd_t dmU_binary 2 rfl) rfl ?_
  refine zg_getf (zd_t dmU_binary 3 rfl) zf_U_11 zs_0 rfl ?_
  refine zg_iload_n (zd_t dmU_binary 4 rfl) rfl ?_
  refine zg_aald (t0 := 3) (zd_t dmU_binary 5 rfl) zs_1 rfl rfl hi (by decide) (zs_rf_at hi) ?_
  refine zg_callV (zd_t dmU_binary 6 rfl) zl_U_49 zm_mR_isGood zi_mR_isGood zse_mR_isGood (zs_reg hi) zs_cl1 rfl (av := _) (rest := _) (by rfl) (by rfl) (by exact Nat.le_of_ble_eq_true rfl) (zr_isGood hi hok) ?_
  rw [decide_eq_false hg]
  refine zg_if_ne (tgt := 26) (zd_t dmU_binary 7 rfl) (by decide) (fun hq => absurd (by decide) hq) (fun _ => ?_)
  exact zg_throw htr (by omega) (by decide) (by decide) (zd_t dmU_binary 8 rfl) (zd_t dmU_binary 9 rfl) (zd_t dmU_binary 10 rfl) (zd_t dmU_binary 11 rfl) (zd_t dmU_binary 12 rfl) zcl_U_53 zs_iISE (zs_str 55 "the register is not good" (by decide)) (by decide +kernel) (by decide +kernel) zx_ISE (zs_in 228 (by decide +kernel) (by decide +kernel)) (fun h hh => absurd hh List.not_mem_nil) rfl
theorem zu_work {p : Nat} (hp : p < 4) (he : e < 16) (ha : a < 16) (hb : b < 16) (hI : zs_inv S) : zg_C l (zs_E P) (d + 6) mU_work [.ref (zp_B P), .int (nI p), .int (nI e), .int (nI a), .int (nI b)] (zs_σ P S th S2 o w) (.inl none, zs_σ P (zs_scmb S p e a b) th S2 o w) := by
  refine zg_C_of (by decide +kernel) (Nat.le_of_ble_eq_true rfl) ?_
  refine zg_iload_n (zd_t dmU_work 0 rfl) rfl ?_
  refine zg_callS (zd_t dmU_work 1 rfl) zl_U_30 zm_mU_requireRegister zst_mU_requireRegister (av := _) (rest := _) (by rfl) (by rfl) (by exact Nat.le_of_ble_eq_true rfl) (zu_requireRegister (zs_rg he)) ?_
  refine zg_iload_n (zd_t dmU_work 2 rfl) rfl ?_
  refine zg_callS (zd_t dmU_work 3 rfl) zl_U_30 zm_mU_requireRegister zst_mU_requireRegister (av := _) (rest := _) (by rfl) (by rfl) (by exact Nat.le_of_ble_eq_true rfl) (zu_requireRegister (zs_rg ha)) ?_
  refine zg_iload (zd_t dmU_work 4 rfl) rfl ?_
  refine zg_callS (zd_t dmU_work 5 rfl) zl_U_30 zm_mU_requireRegister zst_mU_requireRegister (av := _) (rest := _) (by rfl) (by rfl) (by exact Nat.le_of_ble_eq_true rfl) (zu_requireRegister (zs_rg hb)) ?_
  refine zg_iload_n (zd_t dmU_work 6 rfl) rfl ?_
  refine zg_if_lt (tgt := 22) (zd_t dmU_work 7 rfl) (by decide) (fun hq => absurd hq (nI_pos (by omega))) (fun _ => ?_)
  refine zg_iload_n (zd_t dmU_work 8 rfl) rfl ?_
  refine zg_iconst (v := (nI 3)) (zd_t dmU_work 9 rfl) (by decide) ?_
  refine zg_icmp_le (tgt := 32) (zd_t dmU_work 10 rfl) (by decide) (fun _ => ?_) (fun hq => absurd ((nI_leI (by omega) (by decide)).mpr (by omega)) hq)
  refine zg_aload_n (zd_t dmU_work 16 rfl) rfl ?_
  refine zg_getf (zd_t dmU_work 17 rfl) zf_U_11 zs_0 rfl ?_
  refine zg_iload_n (zd_t dmU_work 18 rfl) rfl ?_
  refine zg_aald (t0 := 3) (zd_t dmU_work 19 rfl) zs_1 rfl rfl he (by decide) (zs_rf_at he) ?_
  refine zg_iload_n (zd_t dmU_work 20 rfl) rfl ?_
  refine zg_aload_n (zd_t dmU_work 21 rfl) rfl ?_
  refine zg_getf (zd_t dmU_work 22 rfl) zf_U_11 zs_0 rfl ?_
  refine zg_iload_n (zd_t dmU_work 23 rfl) rfl ?_
  refine zg_aald (t0 := 3) (zd_t dmU_work 24 rfl) zs_1 rfl rfl ha (by decide) (zs_rf_at ha) ?_
  refine zg_aload_n (zd_t dmU_work 25 rfl) rfl ?_
  refine zg_getf (zd_t dmU_work 26 rfl) zf_U_11 zs_0 rfl ?_
  refine zg_iload (zd_t dmU_work 27 rfl) rfl ?_
  refine zg_aald (t0 := 3) (zd_t dmU_work 28 rfl) zs_1 rfl rfl hb (by decide) (zs_rf_at hb) ?_
  refine zg_callV (zd_t dmU_work 29 rfl) zl_U_64 zm_mR_combine zi_mR_combine zse_mR_combine (zs_reg he) zs_cl1 rfl (av := _) (rest := _) (by rfl) (by rfl) (by exact Nat.le_of_ble_eq_true rfl) (zr_combine he ha hb hp hI.2.1 hI.1) ?_
  exact zg_vret (zd_t dmU_work 30 rfl) rfl rfl
theorem zu_workY (htr : l.stackTraces = false) {p : Int32} (hp : ¬ (0 ≤ p.toInt ∧ p.toInt ≤ 3)) (he : e < 16) (ha : a < 16) (hb : b < 16) : zg_C l (zs_E P) (d + 7) mU_work [.ref (zp_B P), .int p, .int (nI e), .int (nI a), .int (nI b)] (zs_σ P S th S2 o w) (.inr (zg_sz (zs_σ P S th S2 o w), "java/lang/IllegalArgumentException"), zs_exc (zs_σ P S th S2 o w)) := by
  refine zg_C_of (by decide +kernel) (Nat.le_of_ble_eq_true rfl) ?_
  refine zg_iload_n (zd_t dmU_work 0 rfl) rfl ?_
  refine zg_callS (zd_t dmU_work 1 rfl) zl_U_30 zm_mU_requireRegister zst_mU_requireRegister (av := _) (rest := _) (by rfl) (by rfl) (by exact Nat.le_of_ble_eq_true rfl) (zu_requireRegister (zs_rg he)) ?_
  refine zg_iload_n (zd_t dmU_work 2 rfl) rfl ?_
  refine zg_callS (zd_t dmU_work 3 rfl) zl_U_30 zm_mU_requireRegister zst_mU_requireRegister (av := _) (rest := _) (by rfl) (by rfl) (by exact Nat.le_of_ble_eq_true rfl) (zu_requireRegister (zs_rg ha)) ?_
  refine zg_iload (zd_t dmU_work 4 rfl) rfl ?_
  refine zg_callS (zd_t dmU_work 5 rfl) zl_U_30 zm_mU_requireRegister zst_mU_requireRegister (av := _) (rest := _) (by rfl) (by rfl) (by exact Nat.le_of_ble_eq_true rfl) (zu_requireRegister (zs_rg hb)) ?_
  refine zg_iload_n (zd_t dmU_work 6 rfl) rfl ?_
  refine zg_if_lt (tgt := 22) (zd_t dmU_work 7 rfl) (by decide) (fun h1 => ?_) (fun h1 => ?_)
  · exact zg_throw htr (by omega) (by decide) (by decide) (zd_t dmU_work 11 rfl) (zd_t dmU_work 12 rfl) (zd_t dmU_work 13 rfl) (zd_t dmU_work 14 rfl) (zd_t dmU_work 15 rfl) zcl_U_38 zs_iIAE (zs_str 62 "there is no such op" (by decide)) (by decide +kernel) (by decide +kernel) zx_IAE (zs_in 175 (by decide +kernel) (by decide +kernel)) (fun h hh => absurd hh List.not_mem_nil) rfl
  rw [Int32.lt_iff_toInt_lt] at h1
  have h1 : ¬ p.toInt < 0 := h1
  refine zg_iload_n (zd_t dmU_work 8 rfl) rfl ?_
  refine zg_iconst (v := (nI 3)) (zd_t dmU_work 9 rfl) (by decide) ?_
  refine zg_icmp_le (tgt := 32) (zd_t dmU_work 10 rfl) (by decide) (fun h2 => ?_) (fun h2 => ?_)
  · rw [Int32.le_iff_toInt_le] at h2
    have h2 : p.toInt ≤ 3 := h2
    omega
  · exact zg_throw htr (by omega) (by decide) (by decide) (zd_t dmU_work 11 rfl) (zd_t dmU_work 12 rfl) (zd_t dmU_work 13 rfl) (zd_t dmU_work 14 rfl) (zd_t dmU_work 15 rfl) zcl_U_38 zs_iIAE (zs_str 62 "there is no such op" (by decide)) (by decide +kernel) (by decide +kernel) zx_IAE (zs_in 175 (by decide +kernel) (by decide +kernel)) (fun h hh => absurd hh List.not_mem_nil) rfl
def mz_cp (x y : Int) : Int32 := if x < y then -1 else if y < x then 1 else 0
theorem zu_compare (ha : a < 16) (hb : b < 16) (hI : zs_inv S) : zg_C l (zs_E P) (d + 6) mU_compare [.ref (zp_B P), .int (nI a), .int (nI b)] (zs_σ P S th S2 o w) (.inl (some (.int (mz_cp (mz_val (zs_re S a)) (mz_val (zs_re S b))))), (zs_σ P S th S2 o w)) := by
  refine zg_C_of (by decide +kernel) (Nat.le_of_ble_eq_true rfl) ?_
  refine zg_iload_n (zd_t dmU_compare 0 rfl) rfl ?_
  refine zg_callS (zd_t dmU_compare 1 rfl) zl_U_30 zm_mU_requireRegister zst_mU_requireRegister (av := _) (rest := _) (by rfl) (by rfl) (by exact Nat.le_of_ble_eq_true rfl) (zu_requireRegister (zs_rg ha)) ?_
  refine zg_iload_n (zd_t dmU_compare 2 rfl) rfl ?_
  refine zg_callS (zd_t dmU_compare 3 rfl) zl_U_30 zm_mU_requireRegister zst_mU_requireRegister (av := _) (rest := _) (by rfl) (by rfl) (by exact Nat.le_of_ble_eq_true rfl) (zu_requireRegister (zs_rg hb)) ?_
  have v1 := mz_val_in (zs_re S a)
  have v2 := mz_val_in (zs_re S b)
  unfold mz_cp
  refine zg_aload_n (zd_t dmU_compare 4 rfl) rfl ?_
  refine zg_getf (zd_t dmU_compare 5 rfl) zf_U_11 zs_0 rfl ?_
  refine zg_iload_n (zd_t dmU_compare 6 rfl) rfl ?_
  refine zg_aald (t0 := 3) (zd_t dmU_compare 7 rfl) zs_1 rfl rfl ha (by decide) (zs_rf_at ha) ?_
  refine zg_callV (zd_t dmU_compare 8 rfl) zl_U_58 zm_mR_value zi_mR_value zse_mR_value (zs_reg ha) zs_cl1 rfl (av := _) (rest := _) (by rfl) (by rfl) (by exact Nat.le_of_ble_eq_true rfl) (zr_value ha (hI.1 a ha)) ?_
  refine zg_lstore_n (zd_t dmU_compare 9 rfl) (by decide) rfl ?_
  refine zg_aload_n (zd_t dmU_compare 10 rfl) rfl ?_
  refine zg_getf (zd_t dmU_compare 11 rfl) zf_U_11 zs_0 rfl ?_
  refine zg_iload_n (zd_t dmU_compare 12 rfl) rfl ?_
  refine zg_aald (t0 := 3) (zd_t dmU_compare 13 rfl) zs_1 rfl rfl hb (by decide) (zs_rf_at hb) ?_
  refine zg_callV (zd_t dmU_compare 14 rfl) zl_U_58 zm_mR_value zi_mR_value zse_mR_value (zs_reg hb) zs_cl1 rfl (av := _) (rest := _) (by rfl) (by rfl) (by exact Nat.le_of_ble_eq_true rfl) (zr_value hb (hI.1 b hb)) ?_
  refine zg_lstore (zd_t dmU_compare 15 rfl) (by decide) rfl ?_
  refine zg_lload_n (zd_t dmU_compare 16 rfl) rfl ?_
  refine zg_lload (zd_t dmU_compare 17 rfl) rfl ?_
  refine zg_lcmp (zd_t dmU_compare 18 rfl) ?_
  refine zg_if_ge (tgt := 40) (zd_t dmU_compare 19 rfl) (by decide) (fun h1 => ?_) (fun h1 => ?_)
  · rw [lg_cmp_ge, mz_le v2 v1] at h1
    rw [if_neg (by omega)]
    refine zg_lload_n (zd_t dmU_compare 22 rfl) rfl ?_
    refine zg_lload (zd_t dmU_compare 23 rfl) rfl ?_
    refine zg_lcmp (zd_t dmU_compare 24 rfl) ?_
    refine zg_if_le (tgt := 51) (zd_t dmU_compare 25 rfl) (by decide) (fun h2 => ?_) (fun h2 => ?_)
    · rw [lg_cmp_le, mz_le v1 v2] at h2
      rw [if_neg (by omega)]
      refine zg_iconst (v := (nI 0)) (zd_t dmU_compare 28 rfl) (by decide) ?_
      exact zg_iret (zd_t dmU_compare 29 rfl) rfl rfl
    · rw [lg_cmp_le, mz_le v1 v2] at h2
      rw [if_pos (by omega)]
      refine zg_iconst (v := (nI 1)) (zd_t dmU_compare 26 rfl) (by decide) ?_
      refine zg_goto (tgt := 52) (zd_t dmU_compare 27 rfl) (by decide) ?_
      exact zg_iret (zd_t dmU_compare 29 rfl) rfl rfl
  · rw [lg_cmp_ge, mz_le v2 v1] at h1
    rw [if_pos (by omega)]
    refine zg_iconst (v := (-1)) (zd_t dmU_compare 20 rfl) (by decide) ?_
    refine zg_goto (tgt := 52) (zd_t dmU_compare 21 rfl) (by decide) ?_
    exact zg_iret (zd_t dmU_compare 29 rfl) rfl rfl
theorem zu_scale {x : Nat} {n : Bool} (he : e < 16) (ha : a < 16) (hx : x < 64) (hm : mz_sm (nI x)) (hp : mz_pop x ≤ 4) (hI : zs_inv S) : zg_C l (zs_E P) (d + 6) mU_scale [.ref (zp_B P), .int (nI e), .int (nI a), .int (nI x), .int (zs_bi n)] (zs_σ P S th S2 o w) (.inl none, zs_σ P (zs_ssc S e a x n) th S2 o w) := by
  refine zg_C_of (by decide +kernel) (Nat.le_of_ble_eq_true rfl) ?_
  refine zg_iload_n (zd_t dmU_scale 0 rfl) rfl ?_
  refine zg_callS (zd_t dmU_scale 1 rfl) zl_U_30 zm_mU_requireRegister zst_mU_requireRegister (av := _) (rest := _) (by rfl) (by rfl) (by exact Nat.le_of_ble_eq_true rfl) (zu_requireRegister (zs_rg he)) ?_
  refine zg_iload_n (zd_t dmU_scale 2 rfl) rfl ?_
  refine zg_callS (zd_t dmU_scale 3 rfl) zl_U_30 zm_mU_requireRegister zst_mU_requireRegister (av := _) (rest := _) (by rfl) (by rfl) (by exact Nat.le_of_ble_eq_true rfl) (zu_requireRegister (zs_rg ha)) ?_
  refine zg_iload_n (zd_t dmU_scale 4 rfl) rfl ?_
  refine zg_callS (zd_t dmU_scale 5 rfl) zl_U_68 zm_mU_areScalingModuli zst_mU_areScalingModuli (av := _) (rest := _) (by rfl) (by rfl) (by exact Nat.le_of_ble_eq_true rfl) (zu_areScalingModuli (nI x)) ?_
  rw [decide_eq_true hm]
  refine zg_if_ne (tgt := 25) (zd_t dmU_scale 6 rfl) (by decide) (fun _ => ?_) (fun hq => absurd hq (by decide))
  refine zg_aload_n (zd_t dmU_scale 12 rfl) rfl ?_
  refine zg_iload_n (zd_t dmU_scale 13 rfl) rfl ?_
  refine zg_iload_n (zd_t dmU_scale 14 rfl) rfl ?_
  refine zg_iload_n (zd_t dmU_scale 15 rfl) rfl ?_
  refine zg_iload (zd_t dmU_scale 16 rfl) rfl ?_
  refine zg_callV (zd_t dmU_scale 17 rfl) zl_U_74 zm_mU_putScaled zi_mU_putScaled zse_mU_putScaled zs_0 zs_cl0 rfl (av := _) (rest := _) (by rfl) (by rfl) (by exact Nat.le_of_ble_eq_true rfl) (zu_putScaled he ha hx hp (hI.1 a ha)) ?_
  exact zg_vret (zd_t dmU_scale 18 rfl) rfl rfl
theorem zu_scaleY (htr : l.stackTraces = false) {c z : Int32} (he : e < 16) (ha : a < 16) (hm : ¬ mz_sm c) : zg_C l (zs_E P) (d + 7) mU_scale [.ref (zp_B P), .int (nI e), .int (nI a), .int c, .int z] (zs_σ P S th S2 o w) (.inr (zg_sz (zs_σ P S th S2 o w), "java/lang/IllegalArgumentException"), zs_exc (zs_σ P S th S2 o w)) := by
  refine zg_C_of (by decide +kernel) (Nat.le_of_ble_eq_true rfl) ?_
  refine zg_iload_n (zd_t dmU_scale 0 rfl) rfl ?_
  refine zg_callS (zd_t dmU_scale 1 rfl) zl_U_30 zm_mU_requireRegister zst_mU_requireRegister (av := _) (rest := _) (by rfl) (by rfl) (by exact Nat.le_of_ble_eq_true rfl) (zu_requireRegister (zs_rg he)) ?_
  refine zg_iload_n (zd_t dmU_scale 2 rfl) rfl ?_
  refine zg_callS (zd_t dmU_scale 3 rfl) zl_U_30 zm_mU_requireRegister zst_mU_requireRegister (av := _) (rest := _) (by rfl) (by rfl) (by exact Nat.le_of_ble_eq_true rfl) (zu_requireRegister (zs_rg ha)) ?_
  refine zg_iload_n (zd_t dmU_scale 4 rfl) rfl ?_
  refine zg_callS (zd_t dmU_scale 5 rfl) zl_U_68 zm_mU_areScalingModuli zst_mU_areScalingModuli (av := _) (rest := _) (by rfl) (by rfl) (by exact Nat.le_of_ble_eq_true rfl) (zu_areScalingModuli c) ?_
  rw [decide_eq_false hm]
  refine zg_if_ne (tgt := 25) (zd_t dmU_scale 6 rfl) (by decide) (fun hq => absurd (by decide) hq) (fun _ => ?_)
  exact zg_throw htr (by omega) (by decide) (by decide) (zd_t dmU_scale 7 rfl) (zd_t dmU_scale 8 rfl) (zd_t dmU_scale 9 rfl) (zd_t dmU_scale 10 rfl) (zd_t dmU_scale 11 rfl) zcl_U_38 zs_iIAE (zs_str 72 "the moduli are not one to four of the first six" (by decide)) (by decide +kernel) (by decide +kernel) zx_IAE (zs_in 175 (by decide +kernel) (by decide +kernel)) (fun h hh => absurd hh List.not_mem_nil) rfl
theorem mz_td_hr {x : Int} (y : Int) (hx : mz_hr x) : mz_hr (x.tdiv y) ∧ mz_hr (x.tmod y) := by
  have h1 := Int.natAbs_tmod x y
  have h2 := Nat.mod_le x.natAbs y.natAbs
  have h3 : (x.tdiv y).natAbs = x.natAbs / y.natAbs := Int.natAbs_tdiv x y
  have h4 := Nat.div_le_self x.natAbs y.natAbs
  have h5 := hx.1
  have h6 := hx.2
  refine ⟨⟨?_, ?_⟩, ⟨?_, ?_⟩⟩ <;> omega
def zs_sdv (S : zs_S) (q r a b : Nat) : zs_S := zs_sput (zs_sput S q ((mz_val (zs_re S a)).tdiv (mz_val (zs_re S b)))) r ((mz_val (zs_re S a)).tmod (mz_val (zs_re S b)))
theorem zu_divide {q r : Nat} (hq : q < 16) (hr : r < 16) (ha : a < 16) (hb : b < 16) (hI : zs_inv S) (hz : mz_val (zs_re S b) ≠ 0) : zg_C l (zs_E P) (d + 6) mU_divide [.ref (zp_B P), .int (nI q), .int (nI r), .int (nI a), .int (nI b)] (zs_σ P S th S2 o w) (.inl none, zs_σ P (zs_sdv S q r a b) th S2 o w) := by
  refine zg_C_of (by decide +kernel) (Nat.le_of_ble_eq_true rfl) ?_
  refine zg_iload_n (zd_t dmU_divide 0 rfl) rfl ?_
  refine zg_callS (zd_t dmU_divide 1 rfl) zl_U_30 zm_mU_requireRegister zst_mU_requireRegister (av := _) (rest := _) (by rfl) (by rfl) (by exact Nat.le_of_ble_eq_true rfl) (zu_requireRegister (zs_rg hq)) ?_
  refine zg_iload_n (zd_t dmU_divide 2 rfl) rfl ?_
  refine zg_callS (zd_t dmU_divide 3 rfl) zl_U_30 zm_mU_requireRegister zst_mU_requireRegister (av := _) (rest := _) (by rfl) (by rfl) (by exact Nat.le_of_ble_eq_true rfl) (zu_requireRegister (zs_rg hr)) ?_
  refine zg_iload_n (zd_t dmU_divide 4 rfl) rfl ?_
  refine zg_callS (zd_t dmU_divide 5 rfl) zl_U_30 zm_mU_requireRegister zst_mU_requireRegister (av := _) (rest := _) (by rfl) (by rfl) (by exact Nat.le_of_ble_eq_true rfl) (zu_requireRegister (zs_rg ha)) ?_
  refine zg_iload (zd_t dmU_divide 6 rfl) rfl ?_
  refine zg_callS (zd_t dmU_divide 7 rfl) zl_U_30 zm_mU_requireRegister zst_mU_requireRegister (av := _) (rest := _) (by rfl) (by rfl) (by exact Nat.le_of_ble_eq_true rfl) (zu_requireRegister (zs_rg hb)) ?_
  have v1 := mz_val_hr (zs_re S a)
  have v2 := mz_val_hr (zs_re S b)
  have h0 : mz_in 0 := by unfold mz_in; omega
  refine zg_aload_n (zd_t dmU_divide 8 rfl) rfl ?_
  refine zg_getf (zd_t dmU_divide 9 rfl) zf_U_11 zs_0 rfl ?_
  refine zg_iload_n (zd_t dmU_divide 10 rfl) rfl ?_
  refine zg_aald (t0 := 3) (zd_t dmU_divide 11 rfl) zs_1 rfl rfl ha (by decide) (zs_rf_at ha) ?_
  refine zg_callV (zd_t dmU_divide 12 rfl) zl_U_58 zm_mR_value zi_mR_value zse_mR_value (zs_reg ha) zs_cl1 rfl (av := _) (rest := _) (by rfl) (by rfl) (by exact Nat.le_of_ble_eq_true rfl) (zr_value ha (hI.1 a ha)) ?_
  refine zg_lstore (zd_t dmU_divide 13 rfl) (by decide) rfl ?_
  refine zg_aload_n (zd_t dmU_divide 14 rfl) rfl ?_
  refine zg_getf (zd_t dmU_divide 15 rfl) zf_U_11 zs_0 rfl ?_
  refine zg_iload (zd_t dmU_divide 16 rfl) rfl ?_
  refine zg_aald (t0 := 3) (zd_t dmU_divide 17 rfl) zs_1 rfl rfl hb (by decide) (zs_rf_at hb) ?_
  refine zg_callV (zd_t dmU_divide 18 rfl) zl_U_58 zm_mR_value zi_mR_value zse_mR_value (zs_reg hb) zs_cl1 rfl (av := _) (rest := _) (by rfl) (by rfl) (by exact Nat.le_of_ble_eq_true rfl) (zr_value hb (hI.1 b hb)) ?_
  refine zg_lstore (zd_t dmU_divide 19 rfl) (by decide) rfl ?_
  refine zg_lload (zd_t dmU_divide 20 rfl) rfl ?_
  refine zg_lconst (v := mz_L 0) (zd_t dmU_divide 21 rfl) (by decide) ?_
  refine zg_lcmp (zd_t dmU_divide 22 rfl) ?_
  rw [mz_cmp v2.i h0]
  have hc : ¬ (if 0 < mz_val (zs_re S b) then (1 : Int32) else if mz_val (zs_re S b) = 0 then 0 else -1) = 0 := by
    split
    · decide
    · decide
  have hy0 : ¬ mz_L (mz_val (zs_re S b)) = 0 := fun h => by
    have : mz_L (mz_val (zs_re S b)) = mz_L 0 := h
    rw [mz_eq v2.i h0] at this
    exact hz this
  have hd := mz_td_hr (mz_val (zs_re S b)) v1
  unfold zs_sdv
  refine zg_if_ne (tgt := 57) (zd_t dmU_divide 23 rfl) (by decide) (fun _ => ?_) (fun hq => absurd hq hc)
  refine zg_aload_n (zd_t dmU_divide 29 rfl) rfl ?_
  refine zg_getf (zd_t dmU_divide 30 rfl) zf_U_11 zs_0 rfl ?_
  refine zg_iload_n (zd_t dmU_divide 31 rfl) rfl ?_
  refine zg_aald (t0 := 3) (zd_t dmU_divide 32 rfl) zs_1 rfl rfl hq (by decide) (zs_rf_at hq) ?_
  refine zg_lload (zd_t dmU_divide 33 rfl) rfl ?_
  refine zg_lload (zd_t dmU_divide 34 rfl) rfl ?_
  refine zg_ldiv (zd_t dmU_divide 35 rfl) hy0 ?_
  rw [mz_div v1.i v2.i]
  refine zg_callV (zd_t dmU_divide 36 rfl) zl_U_45 zm_mR_put zi_mR_put zse_mR_put (zs_reg hq) zs_cl1 rfl (av := _) (rest := _) (by rfl) (by rfl) (by exact Nat.le_of_ble_eq_true rfl) (zr_put hq hd.1.i) ?_
  refine zg_aload_n (zd_t dmU_divide 37 rfl) rfl ?_
  refine zg_getf (zd_t dmU_divide 38 rfl) zf_U_11 zs_0 rfl ?_
  refine zg_iload_n (zd_t dmU_divide 39 rfl) rfl ?_
  refine zg_aald (t0 := 3) (zd_t dmU_divide 40 rfl) zs_1 rfl rfl hr (by decide) (zs_rf_at hr) ?_
  refine zg_lload (zd_t dmU_divide 41 rfl) rfl ?_
  refine zg_lload (zd_t dmU_divide 42 rfl) rfl ?_
  refine zg_lrem (zd_t dmU_divide 43 rfl) hy0 ?_
  rw [mz_rem v1.i v2.i]
  refine zg_callV (zd_t dmU_divide 44 rfl) zl_U_45 zm_mR_put zi_mR_put zse_mR_put (zs_reg hr) zs_cl1 rfl (av := _) (rest := _) (by rfl) (by rfl) (by exact Nat.le_of_ble_eq_true rfl) (zr_put hr hd.2.i) ?_
  exact zg_vret (zd_t dmU_divide 45 rfl) rfl rfl
theorem zu_divideY (htr : l.stackTraces = false) {q r : Nat} (hq : q < 16) (hr : r < 16) (ha : a < 16) (hb : b < 16) (hI : zs_inv S) (hz : mz_val (zs_re S b) = 0) : zg_C l (zs_E P) (d + 7) mU_divide [.ref (zp_B P), .int (nI q), .int (nI r), .int (nI a), .int (nI b)] (zs_σ P S th S2 o w) (.inr (zg_sz (zs_σ P S th S2 o w), "java/lang/ArithmeticException"), zs_exc (zs_σ P S th S2 o w)) := by
  refine zg_C_of (by decide +kernel) (Nat.le_of_ble_eq_true rfl) ?_
  refine zg_iload_n (zd_t dmU_divide 0 rfl) rfl ?_
  refine zg_callS (zd_t dmU_divide 1 rfl) zl_U_30 zm_mU_requireRegister zst_mU_requireRegister (av := _) (rest := _) (by rfl) (by rfl) (by exact Nat.le_of_ble_eq_true rfl) (zu_requireRegister (zs_rg hq)) ?_
  refine zg_iload_n (zd_t dmU_divide 2 rfl) rfl ?_
  refine zg_callS (zd_t dmU_divide 3 rfl) zl_U_30 zm_mU_requireRegister zst_mU_requireRegister (av := _) (rest := _) (by rfl) (by rfl) (by exact Nat.le_of_ble_eq_true rfl) (zu_requireRegister (zs_rg hr)) ?_
  refine zg_iload_n (zd_t dmU_divide 4 rfl) rfl ?_
  refine zg_callS (zd_t dmU_divide 5 rfl) zl_U_30 zm_mU_requireRegister zst_mU_requireRegister (av := _) (rest := _) (by rfl) (by rfl) (by exact Nat.le_of_ble_eq_true rfl) (zu_requireRegister (zs_rg ha)) ?_
  refine zg_iload (zd_t dmU_divide 6 rfl) rfl ?_
  refine zg_callS (zd_t dmU_divide 7 rfl) zl_U_30 zm_mU_requireRegister zst_mU_requireRegister (av := _) (rest := _) (by rfl) (by rfl) (by exact Nat.le_of_ble_eq_true rfl) (zu_requireRegister (zs_rg hb)) ?_
  have v1 := mz_val_hr (zs_re S a)
  have v2 := mz_val_hr (zs_re S b)
  have h0 : mz_in 0 := by unfold mz_in; omega
  refine zg_aload_n (zd_t dmU_divide 8 rfl) rfl ?_
  refine zg_getf (zd_t dmU_divide 9 rfl) zf_U_11 zs_0 rfl ?_
  refine zg_iload_n (zd_t dmU_divide 10 rfl) rfl ?_
  refine zg_aald (t0 := 3) (zd_t dmU_divide 11 rfl) zs_1 rfl rfl ha (by decide) (zs_rf_at ha) ?_
  refine zg_callV (zd_t dmU_divide 12 rfl) zl_U_58 zm_mR_value zi_mR_value zse_mR_value (zs_reg ha) zs_cl1 rfl (av := _) (rest := _) (by rfl) (by rfl) (by exact Nat.le_of_ble_eq_true rfl) (zr_value ha (hI.1 a ha)) ?_
  refine zg_lstore (zd_t dmU_divide 13 rfl) (by decide) rfl ?_
  refine zg_aload_n (zd_t dmU_divide 14 rfl) rfl ?_
  refine zg_getf (zd_t dmU_divide 15 rfl) zf_U_11 zs_0 rfl ?_
  refine zg_iload (zd_t dmU_divide 16 rfl) rfl ?_
  refine zg_aald (t0 := 3) (zd_t dmU_divide 17 rfl) zs_1 rfl rfl hb (by decide) (zs_rf_at hb) ?_
  refine zg_callV (zd_t dmU_divide 18 rfl) zl_U_58 zm_mR_value zi_mR_value zse_mR_value (zs_reg hb) zs_cl1 rfl (av := _) (rest := _) (by rfl) (by rfl) (by exact Nat.le_of_ble_eq_true rfl) (zr_value hb (hI.1 b hb)) ?_
  refine zg_lstore (zd_t dmU_divide 19 rfl) (by decide) rfl ?_
  refine zg_lload (zd_t dmU_divide 20 rfl) rfl ?_
  refine zg_lconst (v := mz_L 0) (zd_t dmU_divide 21 rfl) (by decide) ?_
  refine zg_lcmp (zd_t dmU_divide 22 rfl) ?_
  rw [mz_cmp v2.i h0]
  have hc : (if 0 < mz_val (zs_re S b) then (1 : Int32) else if mz_val (zs_re S b) = 0 then 0 else -1) = 0 := by
    rw [if_neg (by omega), if_pos hz]
  refine zg_if_ne (tgt := 57) (zd_t dmU_divide 23 rfl) (by decide) (fun hq => absurd hc hq) (fun _ => ?_)
  exact zg_throw htr (by omega) (by decide) (by decide) (zd_t dmU_divide 24 rfl) (zd_t dmU_divide 25 rfl) (zd_t dmU_divide 26 rfl) (zd_t dmU_divide 27 rfl) (zd_t dmU_divide 28 rfl) zcl_U_78 zs_iARE (zs_str 80 "the divisor is 0" (by decide)) (by decide +kernel) (by decide +kernel) zx_ARE (zs_in 314 (by decide +kernel) (by decide +kernel)) (fun h hh => absurd hh List.not_mem_nil) rfl
theorem zu_channel (hi : i < 16) (hk : k < 8) : zg_C l (zs_E P) (d + 6) mU_channel [.ref (zp_B P), .int (nI i), .int (nI (k + 1))] (zs_σ P S th S2 o w) (.inl (some (.int (nI (zs_re S i k)))), (zs_σ P S th S2 o w)) := by
  refine zg_C_of (by decide +kernel) (Nat.le_of_ble_eq_true rfl) ?_
  refine zg_iload_n (zd_t dmU_channel 0 rfl) rfl ?_
  refine zg_callS (zd_t dmU_channel 1 rfl) zl_U_30 zm_mU_requireRegister zst_mU_requireRegister (av := _) (rest := _) (by rfl) (by rfl) (by exact Nat.le_of_ble_eq_true rfl) (zu_requireRegister (zs_rg hi)) ?_
  refine zg_iload_n (zd_t dmU_channel 2 rfl) rfl ?_
  refine zg_callS (zd_t dmU_channel 3 rfl) zl_U_83 zm_mU_requireChannel zst_mU_requireChannel (av := _) (rest := _) (by rfl) (by rfl) (by exact Nat.le_of_ble_eq_true rfl) (zu_requireChannel (zs_chg hk)) ?_
  refine zg_aload_n (zd_t dmU_channel 4 rfl) rfl ?_
  refine zg_getf (zd_t dmU_channel 5 rfl) zf_U_11 zs_0 rfl ?_
  refine zg_iload_n (zd_t dmU_channel 6 rfl) rfl ?_
  refine zg_aald (t0 := 3) (zd_t dmU_channel 7 rfl) zs_1 rfl rfl hi (by decide) (zs_rf_at hi) ?_
  refine zg_getf (zd_t dmU_channel 8 rfl) zf_U_86 (zs_reg hi) rfl ?_
  refine zg_iload_n (zd_t dmU_channel 9 rfl) rfl ?_
  refine zg_iconst (v := (nI 1)) (zd_t dmU_channel 10 rfl) (by decide) ?_
  refine zg_isub (zd_t dmU_channel 11 rfl) ?_
  refine zg_iald (t0 := 0) (zd_t dmU_channel 12 rfl) (zs_res hi) rfl (nI_pred k) hk (by decide) ?_
  exact zg_iret (zd_t dmU_channel 13 rfl) rfl rfl
theorem zu_inject {e : Int32} (hi : i < 16) (hk : k < 8) (hI : zs_inv S) : zg_C l (zs_E P) (d + 6) mU_inject [.ref (zp_B P), .int (nI i), .int (nI (k + 1)), .int e] (zs_σ P S th S2 o w) (.inl (some (.int (nI (mz_sh (zs_re S i k) e k)))), zs_σ P (zs_sre S i k (mz_sh (zs_re S i k) e k)) th S2 o w) := by
  refine zg_C_of (by decide +kernel) (Nat.le_of_ble_eq_true rfl) ?_
  refine zg_iload_n (zd_t dmU_inject 0 rfl) rfl ?_
  refine zg_callS (zd_t dmU_inject 1 rfl) zl_U_30 zm_mU_requireRegister zst_mU_requireRegister (av := _) (rest := _) (by rfl) (by rfl) (by exact Nat.le_of_ble_eq_true rfl) (zu_requireRegister (zs_rg hi)) ?_
  refine zg_iload_n (zd_t dmU_inject 2 rfl) rfl ?_
  refine zg_callS (zd_t dmU_inject 3 rfl) zl_U_83 zm_mU_requireChannel zst_mU_requireChannel (av := _) (rest := _) (by rfl) (by rfl) (by exact Nat.le_of_ble_eq_true rfl) (zu_requireChannel (zs_chg hk)) ?_
  refine zg_aload_n (zd_t dmU_inject 4 rfl) rfl ?_
  refine zg_getf (zd_t dmU_inject 5 rfl) zf_U_11 zs_0 rfl ?_
  refine zg_iload_n (zd_t dmU_inject 6 rfl) rfl ?_
  refine zg_aald (t0 := 3) (zd_t dmU_inject 7 rfl) zs_1 rfl rfl hi (by decide) (zs_rf_at hi) ?_
  refine zg_iload_n (zd_t dmU_inject 8 rfl) rfl ?_
  refine zg_iconst (v := (nI 1)) (zd_t dmU_inject 9 rfl) (by decide) ?_
  refine zg_isub (zd_t dmU_inject 10 rfl) ?_
  refine zg_iload_n (zd_t dmU_inject 11 rfl) rfl ?_
  rw [show nI (k + 1) - nI 1 = nI k from nI_pred k]
  refine zg_callV (zd_t dmU_inject 12 rfl) zl_U_90 zm_mR_shift zi_mR_shift zse_mR_shift (zs_reg hi) zs_cl1 rfl (av := _) (rest := _) (by rfl) (by rfl) (by exact Nat.le_of_ble_eq_true rfl) (zr_shift hi hk (hI.1 i hi)) ?_
  exact zg_iret (zd_t dmU_inject 13 rfl) rfl rfl
theorem zu_verify (hi : i < 16) (hI : zs_inv S) : zg_C l (zs_E P) (d + 6) mU_verify [.ref (zp_B P), .int (nI i)] (zs_σ P S th S2 o w) (.inl (some (.int (nI (mz_fault (zs_re S i))))), (zs_σ P S th S2 o w)) := by
  refine zg_C_of (by decide +kernel) (Nat.le_of_ble_eq_true rfl) ?_
  refine zg_iload_n (zd_t dmU_verify 0 rfl) rfl ?_
  refine zg_callS (zd_t dmU_verify 1 rfl) zl_U_30 zm_mU_requireRegister zst_mU_requireRegister (av := _) (rest := _) (by rfl) (by rfl) (by exact Nat.le_of_ble_eq_true rfl) (zu_requireRegister (zs_rg hi)) ?_
  refine zg_aload_n (zd_t dmU_verify 2 rfl) rfl ?_
  refine zg_getf (zd_t dmU_verify 3 rfl) zf_U_11 zs_0 rfl ?_
  refine zg_iload_n (zd_t dmU_verify 4 rfl) rfl ?_
  refine zg_aald (t0 := 3) (zd_t dmU_verify 5 rfl) zs_1 rfl rfl hi (by decide) (zs_rf_at hi) ?_
  refine zg_callV (zd_t dmU_verify 6 rfl) zl_U_94 zm_mR_fault zi_mR_fault zse_mR_fault (zs_reg hi) zs_cl1 rfl (av := _) (rest := _) (by rfl) (by rfl) (by exact Nat.le_of_ble_eq_true rfl) (zr_fault hi (hI.1 i hi)) ?_
  exact zg_iret (zd_t dmU_verify 7 rfl) rfl rfl
theorem mz_ff_spec (ρ : Nat → Nat) : ∀ n k, k + n = 8 → mz_ff ρ n k ≠ 9 → k + 1 ≤ mz_ff ρ n k ∧ mz_ff ρ n k ≤ 8 ∧ mz_hf ρ (mz_ff ρ n k - 1)
  | 0, _, _, h => absurd rfl h
  | n + 1, k, h, h2 => by
    unfold mz_ff at h2 ⊢
    by_cases hf : mz_hf ρ k
    · rw [if_pos hf]
      exact ⟨by omega, by omega, hf⟩
    · rw [if_neg hf] at h2 ⊢
      have := mz_ff_spec ρ n (k + 1) (by omega) h2
      exact ⟨by omega, this.2.1, this.2.2⟩
theorem mz_fault_spec {ρ : Nat → Nat} (h9 : mz_fault ρ ≠ 9) (h0 : mz_fault ρ ≠ 0) : ¬ mz_good ρ ∧ 1 ≤ mz_fault ρ ∧ mz_fault ρ ≤ 8 ∧ mz_hf ρ (mz_fault ρ - 1) := by
  unfold mz_fault at h9 h0 ⊢
  by_cases hg : mz_good ρ
  · rw [if_pos hg] at h0
    exact absurd rfl h0
  · rw [if_neg hg] at h9 ⊢
    have := mz_ff_spec ρ 8 0 rfl h9
    exact ⟨hg, this.1, this.2.1, this.2.2⟩
theorem mz_fault_le (ρ : Nat → Nat) : mz_fault ρ ≤ 9 := by
  unfold mz_fault
  split
  · omega
  · exact mz_ff_le ρ 8 0 rfl
/-- the unit behind a repair -/
def zs_srp (S : zs_S) (i : Nat) : zs_S := if mz_fault (zs_re S i) = 0 then S else zs_sre S i (mz_fault (zs_re S i) - 1) (mz_ht (zs_re S i) (mz_fault (zs_re S i) - 1))
theorem zu_repair (hi : i < 16) (hI : zs_inv S) (h9 : mz_fault (zs_re S i) ≠ 9) : zg_C l (zs_E P) (d + 6) mU_repair [.ref (zp_B P), .int (nI i)] (zs_σ P S th S2 o w) (.inl (some (.int (nI (mz_fault (zs_re S i))))), zs_σ P (zs_srp S i) th S2 o w) := by
  refine zg_C_of (by decide +kernel) (Nat.le_of_ble_eq_true rfl) ?_
  refine zg_iload_n (zd_t dmU_repair 0 rfl) rfl ?_
  refine zg_callS (zd_t dmU_repair 1 rfl) zl_U_30 zm_mU_requireRegister zst_mU_requireRegister (av := _) (rest := _) (by rfl) (by rfl) (by exact Nat.le_of_ble_eq_true rfl) (zu_requireRegister (zs_rg hi)) ?_
  have hle := mz_fault_le (zs_re S i)
  unfold zs_srp
  refine zg_aload_n (zd_t dmU_repair 2 rfl) rfl ?_
  refine zg_getf (zd_t dmU_repair 3 rfl) zf_U_11 zs_0 rfl ?_
  refine zg_iload_n (zd_t dmU_repair 4 rfl) rfl ?_
  refine zg_aald (t0 := 3) (zd_t dmU_repair 5 rfl) zs_1 rfl rfl hi (by decide) (zs_rf_at hi) ?_
  refine zg_callV (zd_t dmU_repair 6 rfl) zl_U_94 zm_mR_fault zi_mR_fault zse_mR_fault (zs_reg hi) zs_cl1 rfl (av := _) (rest := _) (by rfl) (by rfl) (by exact Nat.le_of_ble_eq_true rfl) (zr_fault hi (hI.1 i hi)) ?_
  refine zg_istore_n (zd_t dmU_repair 7 rfl) (by decide) rfl ?_
  refine zg_iload_n (zd_t dmU_repair 8 rfl) rfl ?_
  refine zg_bipush (v := (nI 9)) (zd_t dmU_repair 9 rfl) (by decide) ?_
  refine zg_icmp_ne (tgt := 30) (zd_t dmU_repair 10 rfl) (by decide) (fun _ => ?_) (fun hq => absurd hq (fun h => h9 ((nI_eq (by omega) (by decide)).mp h)))
  refine zg_iload_n (zd_t dmU_repair 16 rfl) rfl ?_
  by_cases h0 : mz_fault (zs_re S i) = 0
  · rw [if_pos h0]
    refine zg_if_eq (tgt := 46) (zd_t dmU_repair 17 rfl) (by decide) (fun _ => ?_) (fun hq => absurd (by rw [h0]; rfl) hq)
    refine zg_iload_n (zd_t dmU_repair 26 rfl) rfl ?_
    exact zg_iret (zd_t dmU_repair 27 rfl) rfl rfl
  · rw [if_neg h0]
    have hsp := mz_fault_spec h9 h0
    refine zg_if_eq (tgt := 46) (zd_t dmU_repair 17 rfl) (by decide) (fun hq => absurd hq (fun h => h0 ((nI_eq (by omega) (by decide)).mp h))) (fun _ => ?_)
    refine zg_aload_n (zd_t dmU_repair 18 rfl) rfl ?_
    refine zg_getf (zd_t dmU_repair 19 rfl) zf_U_11 zs_0 rfl ?_
    refine zg_iload_n (zd_t dmU_repair 20 rfl) rfl ?_
    refine zg_aald (t0 := 3) (zd_t dmU_repair 21 rfl) zs_1 rfl rfl hi (by decide) (zs_rf_at hi) ?_
    refine zg_iload_n (zd_t dmU_repair 22 rfl) rfl ?_
    refine zg_iconst (v := (nI 1)) (zd_t dmU_repair 23 rfl) (by decide) ?_
    refine zg_isub (zd_t dmU_repair 24 rfl) ?_
    rw [show nI (mz_fault (zs_re S i)) - nI 1 = nI (mz_fault (zs_re S i) - 1) by
      have := nI_pred (mz_fault (zs_re S i) - 1)
      rw [show mz_fault (zs_re S i) - 1 + 1 = mz_fault (zs_re S i) by omega] at this
      exact this]
    refine zg_callV (zd_t dmU_repair 25 rfl) zl_U_100 zm_mR_heal zi_mR_heal zse_mR_heal (zs_reg hi) zs_cl1 rfl (av := _) (rest := _) (by rfl) (by rfl) (by exact Nat.le_of_ble_eq_true rfl) (zr_heal (k := mz_fault (zs_re S i) - 1) hi (by omega) (hI.1 i hi) hsp.2.2.2) ?_
    refine zg_iload_n (zd_t dmU_repair 26 rfl) rfl ?_
    exact zg_iret (zd_t dmU_repair 27 rfl) rfl rfl
theorem zu_repairY (htr : l.stackTraces = false) (hi : i < 16) (hI : zs_inv S) (h9 : mz_fault (zs_re S i) = 9) : zg_C l (zs_E P) (d + 7) mU_repair [.ref (zp_B P), .int (nI i)] (zs_σ P S th S2 o w) (.inr (zg_sz (zs_σ P S th S2 o w), "java/lang/IllegalStateException"), zs_exc (zs_σ P S th S2 o w)) := by
  refine zg_C_of (by decide +kernel) (Nat.le_of_ble_eq_true rfl) ?_
  refine zg_iload_n (zd_t dmU_repair 0 rfl) rfl ?_
  refine zg_callS (zd_t dmU_repair 1 rfl) zl_U_30 zm_mU_requireRegister zst_mU_requireRegister (av := _) (rest := _) (by rfl) (by rfl) (by exact Nat.le_of_ble_eq_true rfl) (zu_requireRegister (zs_rg hi)) ?_
  refine zg_aload_n (zd_t dmU_repair 2 rfl) rfl ?_
  refine zg_getf (zd_t dmU_repair 3 rfl) zf_U_11 zs_0 rfl ?_
  refine zg_iload_n (zd_t dmU_repair 4 rfl) rfl ?_
  refine zg_aald (t0 := 3) (zd_t dmU_repair 5 rfl) zs_1 rfl rfl hi (by decide) (zs_rf_at hi) ?_
  refine zg_callV (zd_t dmU_repair 6 rfl) zl_U_94 zm_mR_fault zi_mR_fault zse_mR_fault (zs_reg hi) zs_cl1 rfl (av := _) (rest := _) (by rfl) (by rfl) (by exact Nat.le_of_ble_eq_true rfl) (zr_fault hi (hI.1 i hi)) ?_
  rw [h9]
  refine zg_istore_n (zd_t dmU_repair 7 rfl) (by decide) rfl ?_
  refine zg_iload_n (zd_t dmU_repair 8 rfl) rfl ?_
  refine zg_bipush (v := (nI 9)) (zd_t dmU_repair 9 rfl) (by decide) ?_
  refine zg_icmp_ne (tgt := 30) (zd_t dmU_repair 10 rfl) (by decide) (fun hq => absurd (by decide) hq) (fun _ => ?_)
  exact zg_throw htr (by omega) (by decide) (by decide) (zd_t dmU_repair 11 rfl) (zd_t dmU_repair 12 rfl) (zd_t dmU_repair 13 rfl) (zd_t dmU_repair 14 rfl) (zd_t dmU_repair 15 rfl) zcl_U_53 zs_iISE (zs_str 98 "no single channel is the fault" (by decide)) (by decide +kernel) (by decide +kernel) zx_ISE (zs_in 228 (by decide +kernel) (by decide +kernel)) (fun h hh => absurd hh List.not_mem_nil) rfl
theorem zu_sure (hi : i < 16) : zg_C l (zs_E P) (d + 6) mU_sure [.ref (zp_B P), .int (nI i)] (zs_σ P S th S2 o w) (.inl (some (.int (zs_bi (zs_su S i)))), (zs_σ P S th S2 o w)) := by
  refine zg_C_of (by decide +kernel) (Nat.le_of_ble_eq_true rfl) ?_
  refine zg_iload_n (zd_t dmU_sure 0 rfl) rfl ?_
  refine zg_callS (zd_t dmU_sure 1 rfl) zl_U_30 zm_mU_requireRegister zst_mU_requireRegister (av := _) (rest := _) (by rfl) (by rfl) (by exact Nat.le_of_ble_eq_true rfl) (zu_requireRegister (zs_rg hi)) ?_
  refine zg_aload_n (zd_t dmU_sure 2 rfl) rfl ?_
  refine zg_getf (zd_t dmU_sure 3 rfl) zf_U_11 zs_0 rfl ?_
  refine zg_iload_n (zd_t dmU_sure 4 rfl) rfl ?_
  refine zg_aald (t0 := 3) (zd_t dmU_sure 5 rfl) zs_1 rfl rfl hi (by decide) (zs_rf_at hi) ?_
  refine zg_getf (zd_t dmU_sure 6 rfl) zf_U_103 (zs_reg hi) rfl ?_
  exact zg_zret (zd_t dmU_sure 7 rfl) rfl (zs_nb _) rfl
theorem zu_bound {n : Nat} (hi : i < 16) (hn : n < 2) (hs : zs_su S i = true) : zg_C l (zs_E P) (d + 6) mU_bound [.ref (zp_B P), .int (nI i), .int (nI n)] (zs_σ P S th S2 o w) (.inl (some (.long (mz_L (zs_ex S i)))), (zs_σ P S th S2 o w)) := by
  refine zg_C_of (by decide +kernel) (Nat.le_of_ble_eq_true rfl) ?_
  refine zg_iload_n (zd_t dmU_bound 0 rfl) rfl ?_
  refine zg_callS (zd_t dmU_bound 1 rfl) zl_U_30 zm_mU_requireRegister zst_mU_requireRegister (av := _) (rest := _) (by rfl) (by rfl) (by exact Nat.le_of_ble_eq_true rfl) (zu_requireRegister (zs_rg hi)) ?_
  have g : zg_G l (zs_E P) (d + 6) mU_bound 23 (lv_args 0 [.ref (zp_B P), .int (nI i), .int (nI n)]) [] (zs_σ P S th S2 o w) (.inl (some (.long (mz_L (zs_ex S i)))), zs_σ P S th S2 o w) := by
    refine zg_aload_n (zd_t dmU_bound 12 rfl) rfl ?_
    refine zg_getf (zd_t dmU_bound 13 rfl) zf_U_11 zs_0 rfl ?_
    refine zg_iload_n (zd_t dmU_bound 14 rfl) rfl ?_
    refine zg_aald (t0 := 3) (zd_t dmU_bound 15 rfl) zs_1 rfl rfl hi (by decide) (zs_rf_at hi) ?_
    refine zg_getf (zd_t dmU_bound 16 rfl) zf_U_103 (zs_reg hi) rfl ?_
    rw [hs]
    refine zg_if_ne (tgt := 45) (zd_t dmU_bound 17 rfl) (by decide) (fun _ => ?_) (fun hq => absurd hq (by decide))
    refine zg_aload_n (zd_t dmU_bound 23 rfl) rfl ?_
    refine zg_getf (zd_t dmU_bound 24 rfl) zf_U_11 zs_0 rfl ?_
    refine zg_iload_n (zd_t dmU_bound 25 rfl) rfl ?_
    refine zg_aald (t0 := 3) (zd_t dmU_bound 26 rfl) zs_1 rfl rfl hi (by decide) (zs_rf_at hi) ?_
    refine zg_getf (zd_t dmU_bound 27 rfl) zf_U_111 (zs_reg hi) rfl ?_
    exact zg_lret (zd_t dmU_bound 28 rfl) rfl rfl
  refine zg_iload_n (zd_t dmU_bound 2 rfl) rfl ?_
  rcases (by omega : n = 0 ∨ n = 1) with rfl | rfl
  · refine zg_if_eq (tgt := 23) (zd_t dmU_bound 3 rfl) (by decide) (fun _ => ?_) (fun hq => absurd (by decide) hq)
    exact g
  · refine zg_if_eq (tgt := 23) (zd_t dmU_bound 3 rfl) (by decide) (fun hq => absurd hq (by decide)) (fun _ => ?_)
    refine zg_iload_n (zd_t dmU_bound 4 rfl) rfl ?_
    refine zg_iconst (v := (nI 1)) (zd_t dmU_bound 5 rfl) (by decide) ?_
    refine zg_icmp_eq (tgt := 23) (zd_t dmU_bound 6 rfl) (by decide) (fun _ => ?_) (fun hq => absurd (by decide) hq)
    exact g
theorem zu_boundY (htr : l.stackTraces = false) {n : Int32} (hi : i < 16) (hn : ¬ (n = 0 ∨ n = 1)) : zg_C l (zs_E P) (d + 7) mU_bound [.ref (zp_B P), .int (nI i), .int n] (zs_σ P S th S2 o w) (.inr (zg_sz (zs_σ P S th S2 o w), "java/lang/IllegalArgumentException"), zs_exc (zs_σ P S th S2 o w)) := by
  refine zg_C_of (by decide +kernel) (Nat.le_of_ble_eq_true rfl) ?_
  refine zg_iload_n (zd_t dmU_bound 0 rfl) rfl ?_
  refine zg_callS (zd_t dmU_bound 1 rfl) zl_U_30 zm_mU_requireRegister zst_mU_requireRegister (av := _) (rest := _) (by rfl) (by rfl) (by exact Nat.le_of_ble_eq_true rfl) (zu_requireRegister (zs_rg hi)) ?_
  refine zg_iload_n (zd_t dmU_bound 2 rfl) rfl ?_
  refine zg_if_eq (tgt := 23) (zd_t dmU_bound 3 rfl) (by decide) (fun hq => absurd hq (fun h => hn (Or.inl h))) (fun _ => ?_)
  refine zg_iload_n (zd_t dmU_bound 4 rfl) rfl ?_
  refine zg_iconst (v := (nI 1)) (zd_t dmU_bound 5 rfl) (by decide) ?_
  refine zg_icmp_eq (tgt := 23) (zd_t dmU_bound 6 rfl) (by decide) (fun hq => absurd hq (fun h => hn (Or.inr h))) (fun _ => ?_)
  exact zg_throw htr (by omega) (by decide) (by decide) (zd_t dmU_bound 7 rfl) (zd_t dmU_bound 8 rfl) (zd_t dmU_bound 9 rfl) (zd_t dmU_bound 10 rfl) (zd_t dmU_bound 11 rfl) zcl_U_38 zs_iIAE (zs_str 107 "there is no such end" (by decide)) (by decide +kernel) (by decide +kernel) zx_IAE (zs_in 175 (by decide +kernel) (by decide +kernel)) (fun h hh => absurd hh List.not_mem_nil) rfl
theorem zu_boundZ (htr : l.stackTraces = false) {n : Nat} (hi : i < 16) (hn : n < 2) (hs : zs_su S i = false) : zg_C l (zs_E P) (d + 7) mU_bound [.ref (zp_B P), .int (nI i), .int (nI n)] (zs_σ P S th S2 o w) (.inr (zg_sz (zs_σ P S th S2 o w), "java/lang/IllegalStateException"), zs_exc (zs_σ P S th S2 o w)) := by
  refine zg_C_of (by decide +kernel) (Nat.le_of_ble_eq_true rfl) ?_
  refine zg_iload_n (zd_t dmU_bound 0 rfl) rfl ?_
  refine zg_callS (zd_t dmU_bound 1 rfl) zl_U_30 zm_mU_requireRegister zst_mU_requireRegister (av := _) (rest := _) (by rfl) (by rfl) (by exact Nat.le_of_ble_eq_true rfl) (zu_requireRegister (zs_rg hi)) ?_
  have g : zg_G l (zs_E P) (d + 7) mU_bound 23 (lv_args 0 [.ref (zp_B P), .int (nI i), .int (nI n)]) [] (zs_σ P S th S2 o w) (.inr (zg_sz (zs_σ P S th S2 o w), "java/lang/IllegalStateException"), zs_exc (zs_σ P S th S2 o w)) := by
    refine zg_aload_n (zd_t dmU_bound 12 rfl) rfl ?_
    refine zg_getf (zd_t dmU_bound 13 rfl) zf_U_11 zs_0 rfl ?_
    refine zg_iload_n (zd_t dmU_bound 14 rfl) rfl ?_
    refine zg_aald (t0 := 3) (zd_t dmU_bound 15 rfl) zs_1 rfl rfl hi (by decide) (zs_rf_at hi) ?_
    refine zg_getf (zd_t dmU_bound 16 rfl) zf_U_103 (zs_reg hi) rfl ?_
    rw [hs]
    refine zg_if_ne (tgt := 45) (zd_t dmU_bound 17 rfl) (by decide) (fun hq => absurd (by decide) hq) (fun _ => ?_)
    exact zg_throw htr (by omega) (by decide) (by decide) (zd_t dmU_bound 18 rfl) (zd_t dmU_bound 19 rfl) (zd_t dmU_bound 20 rfl) (zd_t dmU_bound 21 rfl) (zd_t dmU_bound 22 rfl) zcl_U_53 zs_iISE (zs_str 109 "the register is not sure" (by decide)) (by decide +kernel) (by decide +kernel) zx_ISE (zs_in 228 (by decide +kernel) (by decide +kernel)) (fun h hh => absurd hh List.not_mem_nil) rfl
  refine zg_iload_n (zd_t dmU_bound 2 rfl) rfl ?_
  rcases (by omega : n = 0 ∨ n = 1) with rfl | rfl
  · refine zg_if_eq (tgt := 23) (zd_t dmU_bound 3 rfl) (by decide) (fun _ => ?_) (fun hq => absurd (by decide) hq)
    exact g
  · refine zg_if_eq (tgt := 23) (zd_t dmU_bound 3 rfl) (by decide) (fun hq => absurd hq (by decide)) (fun _ => ?_)
    refine zg_iload_n (zd_t dmU_bound 4 rfl) rfl ?_
    refine zg_iconst (v := (nI 1)) (zd_t dmU_bound 5 rfl) (by decide) ?_
    refine zg_icmp_eq (tgt := 23) (zd_t dmU_bound 6 rfl) (by decide) (fun _ => ?_) (fun hq => absurd (by decide) hq)
    exact g
theorem zu_stopped  : zg_C l (zs_E P) (d + 6) mU_stopped [.ref (zp_B P)] (zs_σ P S th S2 o w) (.inl (some (.int (zs_sr S))), (zs_σ P S th S2 o w)) := by
  refine zg_C_of (by decide +kernel) (Nat.le_of_ble_eq_true rfl) ?_
  refine zg_aload_n (zd_t dmU_stopped 0 rfl) rfl ?_
  refine zg_getf (zd_t dmU_stopped 1 rfl) zf_U_25 zs_0 rfl ?_
  exact zg_iret (zd_t dmU_stopped 2 rfl) rfl rfl
end ZM10
end
section
abbrev zs_n (x : Int32) : Nat := x.toInt.toNat
theorem zs_n_nI {n : Nat} (h : n < 2147483648) : zs_n (nI n) = n := by unfold zs_n; rw [nI_toInt h]; omega
theorem zs_irN {r : Int32} (h : zs_ir r) : ∃ j : Nat, j < 16 ∧ r = nI j := zs_nof h.1 h.2 (by decide)
theorem zs_iiN {r : Int32} (h : zs_ii r) : ∃ j : Nat, j < 32 ∧ r = nI j := zs_nof h.1 h.2 (by decide)
theorem zs_smN {r : Int32} (h : mz_sm r) : ∃ j : Nat, j < 64 ∧ r = nI j ∧ mz_pop j ≤ 4 := by
  obtain ⟨j, h1, h2⟩ := zs_nof (n := 64) (x := r) (by have := h.1; omega) h.2.1 (by decide)
  refine ⟨j, h1, h2, ?_⟩
  have := h.2.2
  rw [h2, show (nI j).toInt.toNat = j from zs_n_nI (by omega)] at this
  exact this
theorem zs_i2l (b : Int32) : b.toInt64 = mz_L b.toInt := by
  have h1 := Int32.le_toInt b
  have h2 := Int32.toInt_lt b
  exact Int64.toInt_inj.mp (by rw [Int32.toInt_toInt64, mz_int (by omega) (by omega)])
theorem zs_alw_k {k a b c : Int32} (h : zs_alw k a b c = true) : ∃ n, n < 12 ∧ k = nI n ∧ zs_al n a b c = true := by
  unfold zs_alw at h
  by_cases hk : 0 ≤ k.toInt ∧ k.toInt ≤ 11
  · rw [if_pos hk] at h
    obtain ⟨n, hn, rfl⟩ := zs_nof (n := 12) hk.1 (by omega) (by decide)
    rw [show (nI n).toInt.toNat = n from zs_n_nI (by omega)] at h
    exact ⟨n, hn, rfl, h⟩
  · rw [if_neg hk] at h
    exact absurd h (by decide)
theorem zs_al_w {n : Nat} {a b c : Int32} (h : zs_al n a b c = true) (h1 : 1 ≤ n) (h2 : n < 5) : zs_ir a ∧ zs_ir b ∧ zs_ir c := by
  unfold zs_al at h
  rw [if_neg (by omega), if_pos h2] at h
  simpa only [Bool.and_eq_true, decide_eq_true_eq] using h
theorem zs_al_5 {a b c : Int32} (h : zs_al 5 a b c = true) : zs_ir a ∧ zs_ir b ∧ mz_sm c := by
  have h : (decide (zs_ir a) && (decide (zs_ir b) && decide (mz_sm c))) = true := h
  simpa only [Bool.and_eq_true, decide_eq_true_eq] using h
theorem zs_al_6 {a b c : Int32} (h : zs_al 6 a b c = true) : zs_ir a ∧ zs_ir b := by
  have h : (decide (zs_ir a) && decide (zs_ir b)) = true := h
  simpa only [Bool.and_eq_true, decide_eq_true_eq] using h
theorem zs_al_7 {a b c : Int32} (h : zs_al 7 a b c = true) : zs_ii a := by
  have h : decide (zs_ii a) = true := h
  exact of_decide_eq_true h
theorem zs_al_8 {a b c : Int32} (h : zs_al 8 a b c = true) : zs_ir a ∧ zs_ii b := by
  have h : (decide (zs_ir a) && decide (zs_ii b)) = true := h
  simpa only [Bool.and_eq_true, decide_eq_true_eq] using h
theorem zs_al_10 {a b c : Int32} (h : zs_al 10 a b c = true) : zs_ii a := by
  have h : decide (zs_ii a) = true := h
  exact of_decide_eq_true h
theorem zs_al_11 {a b c : Int32} (h : zs_al 11 a b c = true) : zs_ir a ∧ -128 ≤ b.toInt ∧ b.toInt ≤ 127 := by
  have h : (decide (zs_ir a) && decide (-128 ≤ b.toInt ∧ b.toInt ≤ 127)) = true := h
  simpa only [Bool.and_eq_true, decide_eq_true_eq] using h
/-- the unit behind an instruction of kind n -/
def zs_stn (S : zs_S) (n : Nat) (a b c : Int32) : zs_S :=
  if n = 9 then zs_scn S a else if n = 10 then zs_scn S (zs_cn S - nI 1) else if n = 5 then zs_ssc S (zs_n a) (zs_n b) (zs_n c) false else if n = 6 then zs_scp S (zs_n a) (zs_n b) else if n = 11 then zs_sput S (zs_n a) b.toInt else if 1 ≤ n ∧ n < 5 then zs_scmb S (n - 1) (zs_n a) (zs_n b) (zs_n c) else S
def zs_nxn (S : zs_S) (i n : Nat) (a b : Int32) : Int32 :=
  if n = 0 then -1 else if n = 7 then a else if n = 8 then (if mz_val (zs_re S (zs_n a)) < 0 then b else nI (i + 1)) else if n = 10 then (if zs_cn S - nI 1 = 0 then nI (i + 1) else a) else nI (i + 1)
def zs_st (S : zs_S) (i : Nat) : zs_S := zs_stn S (zs_n (zs_pg S i 0)) (zs_pg S i 1) (zs_pg S i 2) (zs_pg S i 3)
def zs_nx (S : zs_S) (i : Nat) : Int32 := zs_nxn S i (zs_n (zs_pg S i 0)) (zs_pg S i 1) (zs_pg S i 2)
def zs_rn : Nat → zs_S → Int32 → Nat × Int32 × zs_S
  | 0, S, nx => (0, nx, S)
  | n + 1, S, nx => if zs_ii nx then ((zs_rn n (zs_st S (zs_n nx)) (zs_nx S (zs_n nx))).1 + 1, (zs_rn n (zs_st S (zs_n nx)) (zs_nx S (zs_n nx))).2) else (0, nx, S)
def zs_srun (S : zs_S) (f : Nat) : zs_S := zs_ssr (zs_rn f (zs_scn S 0) 0).2.2 (nI (zs_rs (zs_rn f (zs_scn S 0) 0).2.1))
def zs_sins (S : zs_S) (i : Nat) (k a b c : Int32) : zs_S := zs_spg (zs_spg (zs_spg (zs_spg S i 0 k) i 1 a) i 2 b) i 3 c
/-! what is kept -/
theorem mz_cr_lt (op k t x y : Nat) : mz_cr op k t x y < mz_m k := by
  have := (mz_m_lt k).2
  unfold mz_cr
  split <;> exact Nat.mod_lt _ this
theorem mz_md_lt (v : Int) (k : Nat) : (v % (mz_m k : Int)).toNat < mz_m k := by
  have hm := mz_m_lt k
  have h1 := Int.emod_nonneg v (show (mz_m k : Int) ≠ 0 by omega)
  have h2 := Int.emod_lt_of_pos v (show 0 < (mz_m k : Int) by omega)
  omega
theorem mz_hr_0 : mz_hr 0 := by unfold mz_hr; omega
theorem zs_inv_put {S : zs_S} {i : Nat} {v : Int} (hI : zs_inv S) (hv : mz_hr v) : zs_inv (zs_sput S i v) := by
  refine ⟨fun j hj t ht => ?_, fun j hj => ?_, hI.2.2⟩
  · show (if j = i ∧ t < 8 then (v % (mz_m t : Int)).toNat else zs_re S j t) < mz_m t
    split
    · exact mz_md_lt v t
    · exact hI.1 j hj t ht
  · show mz_hr (if j = i then v else zs_ex S j)
    split
    · exact hv
    · exact hI.2.1 j hj
theorem zs_inv_cmb {S : zs_S} {op e a b : Nat} (hI : zs_inv S) : zs_inv (zs_scmb S op e a b) := by
  refine ⟨fun j hj t ht => ?_, fun j hj => ?_, hI.2.2⟩
  · show (if j = e ∧ t < 8 then mz_cr op t (zs_re S e t) (zs_re S a t) (zs_re S b t) else zs_re S j t) < mz_m t
    split
    · exact mz_cr_lt _ _ _ _ _
    · exact hI.1 j hj t ht
  · show mz_hr (if j = e then (if zs_csu S op e a b = true then zs_cres S op e a b else 0) else zs_ex S j)
    split
    · split
      · rename_i h
        unfold zs_csu at h
        rw [Bool.and_eq_true, decide_eq_true_eq] at h
        exact h.2
      · exact mz_hr_0
    · exact hI.2.1 j hj
theorem zs_inv_cp {S : zs_S} {i j : Nat} (hI : zs_inv S) (hj : j < 16) : zs_inv (zs_scp S i j) := by
  refine ⟨fun q hq t ht => ?_, fun q hq => ?_, hI.2.2⟩
  · show (if q = i ∧ t < 8 then zs_re S j t else zs_re S q t) < mz_m t
    split
    · exact hI.1 j hj t ht
    · exact hI.1 q hq t ht
  · show mz_hr (if q = i then zs_ex S j else zs_ex S q)
    split
    · exact hI.2.1 j hj
    · exact hI.2.1 q hq
theorem zs_inv_re {S : zs_S} {i k v : Nat} (hI : zs_inv S) (hv : v < mz_m k) : zs_inv (zs_sre S i k v) := by
  refine ⟨fun j hj t ht => ?_, hI.2.1, hI.2.2⟩
  show (if j = i ∧ t = k then v else zs_re S j t) < mz_m t
  split
  · rename_i h
    rw [h.2]
    exact hv
  · exact hI.1 j hj t ht
theorem zs_inv_sc {S : zs_S} {e a x : Nat} {n : Bool} (hI : zs_inv S) (hx : x < 64) (hp : mz_pop x ≤ 4) : zs_inv (zs_ssc S e a x n) :=
  zs_inv_put hI (mz_sc_hr (mz_val_hr _) (by have := (mz_pr_le x hx hp).1; omega))
theorem zs_inv_ins {S : zs_S} {i : Nat} {k a b c : Int32} (hI : zs_inv S) (h : zs_alw k a b c = true) : zs_inv (zs_sins S i k a b c) := by
  refine ⟨hI.1, hI.2.1, fun j hj => ?_⟩
  by_cases hji : j = i
  · have e0 : zs_pg (zs_sins S i k a b c) j 0 = k := by subst hji; simp [zs_sins, zs_spg, zs_pg, zs_u2]
    have e1 : zs_pg (zs_sins S i k a b c) j 1 = a := by subst hji; simp [zs_sins, zs_spg, zs_pg, zs_u2]
    have e2 : zs_pg (zs_sins S i k a b c) j 2 = b := by subst hji; simp [zs_sins, zs_spg, zs_pg, zs_u2]
    have e3 : zs_pg (zs_sins S i k a b c) j 3 = c := by subst hji; simp [zs_sins, zs_spg, zs_pg, zs_u2]
    rw [e0, e1, e2, e3]
    exact h
  · have e : ∀ t, zs_pg (zs_sins S i k a b c) j t = zs_pg S j t := fun t => by simp [zs_sins, zs_spg, zs_pg, zs_u2, hji]
    rw [e, e, e, e]
    exact hI.2.2 j hj
theorem zs_inv_stn {S : zs_S} {n : Nat} {a b c : Int32} (hI : zs_inv S) (hn : n < 12) (h : zs_al n a b c = true) : zs_inv (zs_stn S n a b c) := by
  rcases (by omega : (n = 0 ∨ n = 7 ∨ n = 8) ∨ (1 ≤ n ∧ n < 5) ∨ n = 5 ∨ n = 6 ∨ n = 9 ∨ n = 10 ∨ n = 11) with h0 | h0 | h0 | h0 | h0 | h0 | h0
  · have : zs_stn S n a b c = S := by rcases h0 with rfl | rfl | rfl <;> rfl
    rw [this]
    exact hI
  · have : zs_stn S n a b c = zs_scmb S (n - 1) (zs_n a) (zs_n b) (zs_n c) := by
      unfold zs_stn
      rw [if_neg (by omega), if_neg (by omega), if_neg (by omega), if_neg (by omega), if_neg (by omega), if_pos h0]
    rw [this]
    exact zs_inv_cmb hI
  · subst h0
    obtain ⟨x, hx, e, hp⟩ := zs_smN (zs_al_5 h).2.2
    show zs_inv (zs_ssc S (zs_n a) (zs_n b) (zs_n c) false)
    rw [e, zs_n_nI (by omega)]
    exact zs_inv_sc hI hx hp
  · subst h0
    obtain ⟨x, hx, e⟩ := zs_irN (zs_al_6 h).2
    show zs_inv (zs_scp S (zs_n a) (zs_n b))
    rw [e, zs_n_nI (by omega)]
    exact zs_inv_cp hI hx
  · subst h0
    exact hI
  · subst h0
    exact hI
  · subst h0
    have := (zs_al_11 h).2
    exact zs_inv_put hI (by unfold mz_hr; omega)
theorem zs_inv_st {S : zs_S} {i : Nat} (hI : zs_inv S) (hi : i < 32) : zs_inv (zs_st S i) := by
  obtain ⟨n, hn, e, h⟩ := zs_alw_k (hI.2.2 i hi)
  unfold zs_st
  rw [e, zs_n_nI (by omega)]
  exact zs_inv_stn hI hn h
theorem zs_inv_rn : ∀ (n : Nat) {S : zs_S} {nx : Int32}, zs_inv S → zs_inv (zs_rn n S nx).2.2
  | 0, _, _, h => h
  | n + 1, S, nx, h => by
    unfold zs_rn
    split
    · rename_i h1
      obtain ⟨j, hj, e⟩ := zs_iiN h1
      exact zs_inv_rn n (zs_inv_st h (by rw [e, zs_n_nI (by omega)]; exact hj))
    · exact h
theorem zs_inv_run {S : zs_S} {f : Nat} (hI : zs_inv S) : zs_inv (zs_srun S f) := zs_inv_rn f (S := zs_scn S 0) hI
section ZM11
variable {l : Launch} {P : zs_P} {d : Nat} {S : zs_S} {S2 : zs_S2} {th : Int32} {o : Int64} {w : Nat × Nat} {e a b i k : Nat}
theorem zs_up_pg {v : Int32} (hi : i < 32) (hk : k < 4) : zg_up (zs_σ P S th S2 o w) (zp_B P + 35 + i) (.inr (zc_I, ([.int (zs_pg S i 0), .int (zs_pg S i 1), .int (zs_pg S i 2), .int (zs_pg S i 3)] : List Value).set k (.int v))) = zs_σ P (zs_spg S i k v) th S2 o w := by
  refine zs_put ?_ ?_
  · rw [zs_ins hi]
    show some (Sum.inr (zc_I, [Value.int (if i = i ∧ 0 = k then v else zs_pg S i 0), Value.int (if i = i ∧ 1 = k then v else zs_pg S i 1), Value.int (if i = i ∧ 2 = k then v else zs_pg S i 2), Value.int (if i = i ∧ 3 = k then v else zs_pg S i 3)])) = _
    rcases (by omega : k = 0 ∨ k = 1 ∨ k = 2 ∨ k = 3) with rfl | rfl | rfl | rfl <;> simp
  · rw [show zp_B P + 35 + i = zp_B P + (35 + i) by omega]
    refine zs_hp_u fun n hn => ?_
    unfold zs_uc
    by_cases h0 : n = 0
    · rw [if_pos h0, if_pos h0]; rfl
    rw [if_neg h0, if_neg h0]
    by_cases h1 : n = 1
    · rw [if_pos h1, if_pos h1]
    rw [if_neg h1, if_neg h1]
    by_cases h2 : n = 2
    · rw [if_pos h2, if_pos h2]
    rw [if_neg h2, if_neg h2]
    by_cases h3 : n < 35
    · rw [if_pos h3, if_pos h3]; rfl
    · rw [if_neg h3, if_neg h3]
      have e : ∀ t, zs_pg (zs_spg S i k v) (n - 35) t = zs_pg S (n - 35) t := fun t => if_neg (fun h => hn (by have := h.1; omega))
      rw [e, e, e, e]
theorem zi_become {x y z u : Int32} (hi : i < 32) : zg_C l (zs_E P) d mI_become [.ref (zp_B P + 35 + i), .int x, .int y, .int z, .int u] (zs_σ P S th S2 o w) (.inl none, zs_σ P (zs_sins S i x y z u) th S2 o w) := by
  refine zg_C_of (by decide +kernel) (Nat.le_of_ble_eq_true rfl) ?_
  refine zg_aload_n (zd_t dmI_become 0 rfl) rfl ?_
  refine zg_iload_n (zd_t dmI_become 1 rfl) rfl ?_
  refine zg_putf (zd_t dmI_become 2 rfl) zf_I_9 zt_2_0 (zs_ins hi) (Nat.le_of_ble_eq_true rfl) rfl rfl (zs_up_pg (k := 0) hi (by decide)) ?_
  refine zg_aload_n (zd_t dmI_become 3 rfl) rfl ?_
  refine zg_iload_n (zd_t dmI_become 4 rfl) rfl ?_
  refine zg_putf (zd_t dmI_become 5 rfl) zf_I_15 zt_2_1 (zs_ins hi) (Nat.le_of_ble_eq_true rfl) rfl rfl (zs_up_pg (k := 1) hi (by decide)) ?_
  refine zg_aload_n (zd_t dmI_become 6 rfl) rfl ?_
  refine zg_iload_n (zd_t dmI_become 7 rfl) rfl ?_
  refine zg_putf (zd_t dmI_become 8 rfl) zf_I_18 zt_2_2 (zs_ins hi) (Nat.le_of_ble_eq_true rfl) rfl rfl (zs_up_pg (k := 2) hi (by decide)) ?_
  refine zg_aload_n (zd_t dmI_become 9 rfl) rfl ?_
  refine zg_iload (zd_t dmI_become 10 rfl) rfl ?_
  refine zg_putf (zd_t dmI_become 11 rfl) zf_I_21 zt_2_3 (zs_ins hi) (Nat.le_of_ble_eq_true rfl) rfl rfl (zs_up_pg (k := 3) hi (by decide)) ?_
  exact zg_vret (zd_t dmI_become 12 rfl) rfl rfl
theorem zs_rgi {i : Nat} (h : i < 32) : zs_ii (nI i) := by unfold zs_ii; rw [nI_toInt (by omega)]; omega
theorem zu_instruct {x y z u : Int32} (hi : i < 32) (ha : zs_alw x y z u = true) : zg_C l (zs_E P) (d + 6) mU_instruct [.ref (zp_B P), .int (nI i), .int x, .int y, .int z, .int u] (zs_σ P S th S2 o w) (.inl none, zs_σ P (zs_sins S i x y z u) th S2 o w) := by
  refine zg_C_of (by decide +kernel) (Nat.le_of_ble_eq_true rfl) ?_
  refine zg_iload_n (zd_t dmU_instruct 0 rfl) rfl ?_
  refine zg_callS (zd_t dmU_instruct 1 rfl) zl_U_115 zm_mU_isInstruction zst_mU_isInstruction (av := _) (rest := _) (by rfl) (by rfl) (by exact Nat.le_of_ble_eq_true rfl) (zu_isInstruction (nI i)) ?_
  rw [decide_eq_true (zs_rgi hi)]
  refine zg_if_ne (tgt := 17) (zd_t dmU_instruct 2 rfl) (by decide) (fun _ => ?_) (fun hq => absurd hq (by decide))
  refine zg_iload_n (zd_t dmU_instruct 8 rfl) rfl ?_
  refine zg_iload_n (zd_t dmU_instruct 9 rfl) rfl ?_
  refine zg_iload (zd_t dmU_instruct 10 rfl) rfl ?_
  refine zg_iload (zd_t dmU_instruct 11 rfl) rfl ?_
  refine zg_callS (zd_t dmU_instruct 12 rfl) zl_U_123 zm_mU_isAllowed zst_mU_isAllowed (av := _) (rest := _) (by rfl) (by rfl) (by exact Nat.le_of_ble_eq_true rfl) (zu_isAllowed x y z u) ?_
  rw [ha]
  refine zg_if_ne (tgt := 39) (zd_t dmU_instruct 13 rfl) (by decide) (fun _ => ?_) (fun hq => absurd hq (by decide))
  refine zg_aload_n (zd_t dmU_instruct 19 rfl) rfl ?_
  refine zg_getf (zd_t dmU_instruct 20 rfl) zf_U_17 zs_0 rfl ?_
  refine zg_iload_n (zd_t dmU_instruct 21 rfl) rfl ?_
  refine zg_aald (t0 := 4) (zd_t dmU_instruct 22 rfl) zs_2 rfl rfl hi (by decide) (zs_rf_at hi) ?_
  refine zg_iload_n (zd_t dmU_instruct 23 rfl) rfl ?_
  refine zg_iload_n (zd_t dmU_instruct 24 rfl) rfl ?_
  refine zg_iload (zd_t dmU_instruct 25 rfl) rfl ?_
  refine zg_iload (zd_t dmU_instruct 26 rfl) rfl ?_
  refine zg_callV (zd_t dmU_instruct 27 rfl) zl_U_129 zm_mI_become zi_mI_become zse_mI_become (zs_ins hi) zs_cl2 rfl (av := _) (rest := _) (by rfl) (by rfl) (by exact Nat.le_of_ble_eq_true rfl) (zi_become hi) ?_
  exact zg_vret (zd_t dmU_instruct 28 rfl) rfl rfl
theorem zu_instructX {r x y z u : Int32} {σ : zg_H} (htr : l.stackTraces = false) (h : ¬ zs_ii r) : zg_C l (zs_E P) (d + 7) mU_instruct [.ref (zp_B P), .int r, .int x, .int y, .int z, .int u] σ (.inr (zg_sz σ, "java/lang/IndexOutOfBoundsException"), zs_exc σ) := by
  refine zg_C_of (by decide +kernel) (Nat.le_of_ble_eq_true rfl) ?_
  refine zg_iload_n (zd_t dmU_instruct 0 rfl) rfl ?_
  refine zg_callS (zd_t dmU_instruct 1 rfl) zl_U_115 zm_mU_isInstruction zst_mU_isInstruction (av := _) (rest := _) (by rfl) (by rfl) (by exact Nat.le_of_ble_eq_true rfl) (zu_isInstruction r) ?_
  rw [decide_eq_false h]
  refine zg_if_ne (tgt := 17) (zd_t dmU_instruct 2 rfl) (by decide) (fun hq => absurd (by decide) hq) (fun _ => ?_)
  exact zg_throw htr (by omega) (by decide) (by decide) (zd_t dmU_instruct 3 rfl) (zd_t dmU_instruct 4 rfl) (zd_t dmU_instruct 5 rfl) (zd_t dmU_instruct 6 rfl) (zd_t dmU_instruct 7 rfl) zcl_U_118 zs_iIOB (zs_str 120 "there is no such instruction" (by decide)) (by decide +kernel) (by decide +kernel) zx_IOB (zs_in 101 (by decide +kernel) (by decide +kernel)) (fun h hh => absurd hh List.not_mem_nil) rfl
theorem zu_instructY {r x y z u : Int32} {σ : zg_H} (htr : l.stackTraces = false) (h : zs_ii r) (ha : zs_alw x y z u = false) : zg_C l (zs_E P) (d + 7) mU_instruct [.ref (zp_B P), .int r, .int x, .int y, .int z, .int u] σ (.inr (zg_sz σ, "java/lang/IllegalArgumentException"), zs_exc σ) := by
  refine zg_C_of (by decide +kernel) (Nat.le_of_ble_eq_true rfl) ?_
  refine zg_iload_n (zd_t dmU_instruct 0 rfl) rfl ?_
  refine zg_callS (zd_t dmU_instruct 1 rfl) zl_U_115 zm_mU_isInstruction zst_mU_isInstruction (av := _) (rest := _) (by rfl) (by rfl) (by exact Nat.le_of_ble_eq_true rfl) (zu_isInstruction r) ?_
  rw [decide_eq_true h]
  refine zg_if_ne (tgt := 17) (zd_t dmU_instruct 2 rfl) (by decide) (fun _ => ?_) (fun hq => absurd hq (by decide))
  refine zg_iload_n (zd_t dmU_instruct 8 rfl) rfl ?_
  refine zg_iload_n (zd_t dmU_instruct 9 rfl) rfl ?_
  refine zg_iload (zd_t dmU_instruct 10 rfl) rfl ?_
  refine zg_iload (zd_t dmU_instruct 11 rfl) rfl ?_
  refine zg_callS (zd_t dmU_instruct 12 rfl) zl_U_123 zm_mU_isAllowed zst_mU_isAllowed (av := _) (rest := _) (by rfl) (by rfl) (by exact Nat.le_of_ble_eq_true rfl) (zu_isAllowed x y z u) ?_
  rw [ha]
  refine zg_if_ne (tgt := 39) (zd_t dmU_instruct 13 rfl) (by decide) (fun hq => absurd (by decide) hq) (fun _ => ?_)
  exact zg_throw htr (by omega) (by decide) (by decide) (zd_t dmU_instruct 14 rfl) (zd_t dmU_instruct 15 rfl) (zd_t dmU_instruct 16 rfl) (zd_t dmU_instruct 17 rfl) (zd_t dmU_instruct 18 rfl) zcl_U_38 zs_iIAE (zs_str 127 "there is no such instruction to be written" (by decide)) (by decide +kernel) (by decide +kernel) zx_IAE (zs_in 175 (by decide +kernel) (by decide +kernel)) (fun h hh => absurd hh List.not_mem_nil) rfl
theorem zu_calculate {n : Nat} (hi : i < 32) (hI : zs_inv S) (hn : zs_pg S i 0 = nI n) (hk : zs_al n (zs_pg S i 1) (zs_pg S i 2) (zs_pg S i 3) = true) (h0 : (1 ≤ n ∧ n < 5) ∨ n = 5 ∨ n = 6 ∨ n = 11) : zg_C l (zs_E P) (d + 4) mU_calculate [.ref (zp_B P), .ref (zp_B P + 35 + i)] (zs_σ P S th S2 o w) (.inl none, zs_σ P (zs_stn S n (zs_pg S i 1) (zs_pg S i 2) (zs_pg S i 3)) th S2 o w) := by
  refine zg_C_of (by decide +kernel) (Nat.le_of_ble_eq_true rfl) ?_
  refine zg_aload_n (zd_t dmU_calculate 0 rfl) rfl ?_
  refine zg_getf (zd_t dmU_calculate 1 rfl) zf_U_158 (zs_ins hi) rfl ?_
  rw [hn]
  rcases h0 with h0 | rfl | rfl | rfl
  · obtain ⟨x, hx, ex⟩ := zs_irN (zs_al_w hk h0.1 h0.2).1
    obtain ⟨y, hy, ey⟩ := zs_irN (zs_al_w hk h0.1 h0.2).2.1
    obtain ⟨z, hz, ez⟩ := zs_irN (zs_al_w hk h0.1 h0.2).2.2
    have : zs_stn S n (zs_pg S i 1) (zs_pg S i 2) (zs_pg S i 3) = zs_scmb S (n - 1) x y z := by
      unfold zs_stn
      rw [if_neg (by omega), if_neg (by omega), if_neg (by omega), if_neg (by omega), if_neg (by omega), if_pos h0, ex, ey, ez, zs_n_nI (by omega), zs_n_nI (by omega), zs_n_nI (by omega)]
    rw [this]
    have tl : zg_G l (zs_E P) (d + 4) mU_calculate 104 (lv_args 0 [.ref (zp_B P), .ref (zp_B P + 35 + i)]) [] (zs_σ P S th S2 o w) (.inl none, zs_σ P (zs_scmb S (n - 1) x y z) th S2 o w) := by
      refine zg_aload_n (zd_t dmU_calculate 35 rfl) rfl ?_
      refine zg_getf (zd_t dmU_calculate 36 rfl) zf_U_11 zs_0 rfl ?_
      refine zg_aload_n (zd_t dmU_calculate 37 rfl) rfl ?_
      refine zg_getf (zd_t dmU_calculate 38 rfl) zf_U_161 (zs_ins hi) rfl ?_
      rw [ex]
      refine zg_aald (t0 := 3) (zd_t dmU_calculate 39 rfl) zs_1 rfl rfl hx (by decide) (zs_rf_at hx) ?_
      refine zg_aload_n (zd_t dmU_calculate 40 rfl) rfl ?_
      refine zg_getf (zd_t dmU_calculate 41 rfl) zf_U_158 (zs_ins hi) rfl ?_
      refine zg_iconst (v := (nI 1)) (zd_t dmU_calculate 42 rfl) (by decide) ?_
      refine zg_isub (zd_t dmU_calculate 43 rfl) ?_
      rw [hn, show nI n - nI 1 = nI (n - 1) by
        have := nI_pred (n - 1)
        rw [show n - 1 + 1 = n by omega] at this
        exact this]
      refine zg_aload_n (zd_t dmU_calculate 44 rfl) rfl ?_
      refine zg_getf (zd_t dmU_calculate 45 rfl) zf_U_11 zs_0 rfl ?_
      refine zg_aload_n (zd_t dmU_calculate 46 rfl) rfl ?_
      refine zg_getf (zd_t dmU_calculate 47 rfl) zf_U_164 (zs_ins hi) rfl ?_
      rw [ey]
      refine zg_aald (t0 := 3) (zd_t dmU_calculate 48 rfl) zs_1 rfl rfl hy (by decide) (zs_rf_at hy) ?_
      refine zg_aload_n (zd_t dmU_calculate 49 rfl) rfl ?_
      refine zg_getf (zd_t dmU_calculate 50 rfl) zf_U_11 zs_0 rfl ?_
      refine zg_aload_n (zd_t dmU_calculate 51 rfl) rfl ?_
      refine zg_getf (zd_t dmU_calculate 52 rfl) zf_U_171 (zs_ins hi) rfl ?_
      rw [ez]
      refine zg_aald (t0 := 3) (zd_t dmU_calculate 53 rfl) zs_1 rfl rfl hz (by decide) (zs_rf_at hz) ?_
      refine zg_callV (zd_t dmU_calculate 54 rfl) zl_U_64 zm_mR_combine zi_mR_combine zse_mR_combine (zs_reg hx) zs_cl1 rfl (av := _) (rest := _) (by rfl) (by rfl) (by exact Nat.le_of_ble_eq_true rfl) (zr_combine hx hy hz (by omega) hI.2.1 hI.1) ?_
      exact zg_vret (zd_t dmU_calculate 55 rfl) rfl rfl
    rcases (by omega : n = 1 ∨ n = 2 ∨ n = 3 ∨ n = 4) with rfl | rfl | rfl | rfl
    · exact zg_lookup (off := 100) (tgt := 104) (zd_t dmU_calculate 2 rfl) (by decide) (by decide) (by decide) tl
    · exact zg_lookup (off := 100) (tgt := 104) (zd_t dmU_calculate 2 rfl) (by decide) (by decide) (by decide) tl
    · exact zg_lookup (off := 100) (tgt := 104) (zd_t dmU_calculate 2 rfl) (by decide) (by decide) (by decide) tl
    · exact zg_lookup (off := 100) (tgt := 104) (zd_t dmU_calculate 2 rfl) (by decide) (by decide) (by decide) tl
  · obtain ⟨x, hx, ex⟩ := zs_irN (zs_al_5 hk).1
    obtain ⟨y, hy, ey⟩ := zs_irN (zs_al_5 hk).2.1
    obtain ⟨z, hz, ez, hp⟩ := zs_smN (zs_al_5 hk).2.2
    have : zs_stn S 5 (zs_pg S i 1) (zs_pg S i 2) (zs_pg S i 3) = zs_ssc S x y z false := by
      rw [ex, ey, ez]
      show zs_ssc S (zs_n (nI x)) (zs_n (nI y)) (zs_n (nI z)) false = _
      rw [zs_n_nI (by omega), zs_n_nI (by omega), zs_n_nI (by omega)]
    rw [this]
    refine zg_lookup (off := 36) (tgt := 40) (zd_t dmU_calculate 2 rfl) (by decide) (by decide) (by decide) ?_
    refine zg_aload_n (zd_t dmU_calculate 3 rfl) rfl ?_
    refine zg_aload_n (zd_t dmU_calculate 4 rfl) rfl ?_
    refine zg_getf (zd_t dmU_calculate 5 rfl) zf_U_161 (zs_ins hi) rfl ?_
    refine zg_aload_n (zd_t dmU_calculate 6 rfl) rfl ?_
    refine zg_getf (zd_t dmU_calculate 7 rfl) zf_U_164 (zs_ins hi) rfl ?_
    refine zg_aload_n (zd_t dmU_calculate 8 rfl) rfl ?_
    refine zg_getf (zd_t dmU_calculate 9 rfl) zf_U_171 (zs_ins hi) rfl ?_
    refine zg_iconst (v := (nI 0)) (zd_t dmU_calculate 10 rfl) (by decide) ?_
    rw [ex, ey, ez]
    refine zg_callV (zd_t dmU_calculate 11 rfl) zl_U_74 zm_mU_putScaled zi_mU_putScaled zse_mU_putScaled zs_0 zs_cl0 rfl (av := _) (rest := _) (by rfl) (by rfl) (by exact Nat.le_of_ble_eq_true rfl) (zu_putScaled (n := false) hx hy hz hp (hI.1 y hy)) ?_
    refine zg_goto (tgt := 140) (zd_t dmU_calculate 12 rfl) (by decide) ?_
    exact zg_vret (zd_t dmU_calculate 55 rfl) rfl rfl
  · obtain ⟨x, hx, ex⟩ := zs_irN (zs_al_6 hk).1
    obtain ⟨y, hy, ey⟩ := zs_irN (zs_al_6 hk).2
    have : zs_stn S 6 (zs_pg S i 1) (zs_pg S i 2) (zs_pg S i 3) = zs_scp S x y := by
      rw [ex, ey]
      show zs_scp S (zs_n (nI x)) (zs_n (nI y)) = _
      rw [zs_n_nI (by omega), zs_n_nI (by omega)]
    rw [this]
    refine zg_lookup (off := 56) (tgt := 60) (zd_t dmU_calculate 2 rfl) (by decide) (by decide) (by decide) ?_
    refine zg_aload_n (zd_t dmU_calculate 13 rfl) rfl ?_
    refine zg_getf (zd_t dmU_calculate 14 rfl) zf_U_11 zs_0 rfl ?_
    refine zg_aload_n (zd_t dmU_calculate 15 rfl) rfl ?_
    refine zg_getf (zd_t dmU_calculate 16 rfl) zf_U_161 (zs_ins hi) rfl ?_
    rw [ex]
    refine zg_aald (t0 := 3) (zd_t dmU_calculate 17 rfl) zs_1 rfl rfl hx (by decide) (zs_rf_at hx) ?_
    refine zg_aload_n (zd_t dmU_calculate 18 rfl) rfl ?_
    refine zg_getf (zd_t dmU_calculate 19 rfl) zf_U_11 zs_0 rfl ?_
    refine zg_aload_n (zd_t dmU_calculate 20 rfl) rfl ?_
    refine zg_getf (zd_t dmU_calculate 21 rfl) zf_U_164 (zs_ins hi) rfl ?_
    rw [ey]
    refine zg_aald (t0 := 3) (zd_t dmU_calculate 22 rfl) zs_1 rfl rfl hy (by decide) (zs_rf_at hy) ?_
    refine zg_callV (zd_t dmU_calculate 23 rfl) zl_U_174 zm_mR_copyFrom zi_mR_copyFrom zse_mR_copyFrom (zs_reg hx) zs_cl1 rfl (av := _) (rest := _) (by rfl) (by rfl) (by exact Nat.le_of_ble_eq_true rfl) (zr_copyFrom hx hy) ?_
    refine zg_goto (tgt := 140) (zd_t dmU_calculate 24 rfl) (by decide) ?_
    exact zg_vret (zd_t dmU_calculate 55 rfl) rfl rfl
  · obtain ⟨x, hx, ex⟩ := zs_irN (zs_al_11 hk).1
    have hb := (zs_al_11 hk).2
    have : zs_stn S 11 (zs_pg S i 1) (zs_pg S i 2) (zs_pg S i 3) = zs_sput S x (zs_pg S i 2).toInt := by
      rw [ex]
      show zs_sput S (zs_n (nI x)) _ = _
      rw [zs_n_nI (by omega)]
    rw [this]
    refine zg_lookup (off := 80) (tgt := 84) (zd_t dmU_calculate 2 rfl) (by decide) (by decide) (by decide) ?_
    refine zg_aload_n (zd_t dmU_calculate 25 rfl) rfl ?_
    refine zg_getf (zd_t dmU_calculate 26 rfl) zf_U_11 zs_0 rfl ?_
    refine zg_aload_n (zd_t dmU_calculate 27 rfl) rfl ?_
    refine zg_getf (zd_t dmU_calculate 28 rfl) zf_U_161 (zs_ins hi) rfl ?_
    rw [ex]
    refine zg_aald (t0 := 3) (zd_t dmU_calculate 29 rfl) zs_1 rfl rfl hx (by decide) (zs_rf_at hx) ?_
    refine zg_aload_n (zd_t dmU_calculate 30 rfl) rfl ?_
    refine zg_getf (zd_t dmU_calculate 31 rfl) zf_U_164 (zs_ins hi) rfl ?_
    refine zg_i2l (zd_t dmU_calculate 32 rfl) rfl ?_
    rw [zs_i2l]
    refine zg_callV (zd_t dmU_calculate 33 rfl) zl_U_45 zm_mR_put zi_mR_put zse_mR_put (zs_reg hx) zs_cl1 rfl (av := _) (rest := _) (by rfl) (by rfl) (by exact Nat.le_of_ble_eq_true rfl) (zr_put hx (by unfold mz_in; omega)) ?_
    refine zg_goto (tgt := 140) (zd_t dmU_calculate 34 rfl) (by decide) ?_
    exact zg_vret (zd_t dmU_calculate 55 rfl) rfl rfl
theorem zu_step_0 : zg_G l (zs_E P) (d + 5) mU_step 68 [(2, .ref (zp_B P + 35 + i)), (0, .ref (zp_B P)), (1, .int (nI i))] [] (zs_σ P S th S2 o w) (.inl (some (.int (-1))), (zs_σ P S th S2 o w)) := by
  refine zg_iconst (v := (-1)) (zd_t dmU_step 8 rfl) (by decide) ?_
  exact zg_iret (zd_t dmU_step 9 rfl) rfl rfl
theorem zu_step_7 (hi : i < 32) : zg_G l (zs_E P) (d + 5) mU_step 70 [(2, .ref (zp_B P + 35 + i)), (0, .ref (zp_B P)), (1, .int (nI i))] [] (zs_σ P S th S2 o w) (.inl (some (.int (zs_pg S i 1))), (zs_σ P S th S2 o w)) := by
  refine zg_aload_n (zd_t dmU_step 10 rfl) rfl ?_
  refine zg_getf (zd_t dmU_step 11 rfl) zf_U_161 (zs_ins hi) rfl ?_
  exact zg_iret (zd_t dmU_step 12 rfl) rfl rfl
theorem zu_step_8 {x : Nat} (hi : i < 32) (hx : x < 16) (ex : zs_pg S i 1 = nI x) (hI : zs_inv S) : zg_G l (zs_E P) (d + 5) mU_step 75 [(2, .ref (zp_B P + 35 + i)), (0, .ref (zp_B P)), (1, .int (nI i))] [] (zs_σ P S th S2 o w) (.inl (some (.int (if mz_val (zs_re S x) < 0 then zs_pg S i 2 else nI (i + 1)))), (zs_σ P S th S2 o w)) := by
  have hv := mz_val_in (zs_re S x)
  have h0 : mz_in 0 := by unfold mz_in; omega
  refine zg_aload_n (zd_t dmU_step 13 rfl) rfl ?_
  refine zg_getf (zd_t dmU_step 14 rfl) zf_U_11 zs_0 rfl ?_
  refine zg_aload_n (zd_t dmU_step 15 rfl) rfl ?_
  refine zg_getf (zd_t dmU_step 16 rfl) zf_U_161 (zs_ins hi) rfl ?_
  rw [ex]
  refine zg_aald (t0 := 3) (zd_t dmU_step 17 rfl) zs_1 rfl rfl hx (by decide) (zs_rf_at hx) ?_
  refine zg_callV (zd_t dmU_step 18 rfl) zl_U_58 zm_mR_value zi_mR_value zse_mR_value (zs_reg hx) zs_cl1 rfl (av := _) (rest := _) (by rfl) (by rfl) (by exact Nat.le_of_ble_eq_true rfl) (zr_value hx (hI.1 x hx)) ?_
  refine zg_lconst (v := mz_L 0) (zd_t dmU_step 19 rfl) (by decide) ?_
  refine zg_lcmp (zd_t dmU_step 20 rfl) ?_
  refine zg_if_ge (tgt := 99) (zd_t dmU_step 21 rfl) (by decide) (fun h1 => ?_) (fun h1 => ?_)
  · rw [lg_cmp_ge, mz_le h0 hv] at h1
    rw [if_neg (by omega)]
    refine zg_iload_n (zd_t dmU_step 25 rfl) rfl ?_
    refine zg_iconst (v := (nI 1)) (zd_t dmU_step 26 rfl) (by decide) ?_
    refine zg_iadd (zd_t dmU_step 27 rfl) ?_
    rw [nI_add]
    exact zg_iret (zd_t dmU_step 28 rfl) rfl rfl
  · rw [lg_cmp_ge, mz_le h0 hv] at h1
    rw [if_pos (by omega)]
    refine zg_aload_n (zd_t dmU_step 22 rfl) rfl ?_
    refine zg_getf (zd_t dmU_step 23 rfl) zf_U_164 (zs_ins hi) rfl ?_
    refine zg_goto (tgt := 102) (zd_t dmU_step 24 rfl) (by decide) ?_
    exact zg_iret (zd_t dmU_step 28 rfl) rfl rfl
theorem zu_step_9 (hi : i < 32) : zg_G l (zs_E P) (d + 5) mU_step 103 [(2, .ref (zp_B P + 35 + i)), (0, .ref (zp_B P)), (1, .int (nI i))] [] (zs_σ P S th S2 o w) (.inl (some (.int (nI (i + 1)))), zs_σ P (zs_scn S (zs_pg S i 1)) th S2 o w) := by
  refine zg_aload_n (zd_t dmU_step 29 rfl) rfl ?_
  refine zg_aload_n (zd_t dmU_step 30 rfl) rfl ?_
  refine zg_getf (zd_t dmU_step 31 rfl) zf_U_161 (zs_ins hi) rfl ?_
  refine zg_putf (zd_t dmU_step 32 rfl) zf_U_21 zt_0_2 zs_0 (Nat.le_of_ble_eq_true rfl) rfl rfl zs_up_cn ?_
  refine zg_iload_n (zd_t dmU_step 33 rfl) rfl ?_
  refine zg_iconst (v := (nI 1)) (zd_t dmU_step 34 rfl) (by decide) ?_
  refine zg_iadd (zd_t dmU_step 35 rfl) ?_
  rw [nI_add]
  exact zg_iret (zd_t dmU_step 36 rfl) rfl rfl
theorem zu_step_10 (hi : i < 32) : zg_G l (zs_E P) (d + 5) mU_step 115 [(2, .ref (zp_B P + 35 + i)), (0, .ref (zp_B P)), (1, .int (nI i))] [] (zs_σ P S th S2 o w) (.inl (some (.int (if zs_cn S - nI 1 = 0 then nI (i + 1) else zs_pg S i 1))), zs_σ P (zs_scn S (zs_cn S - nI 1)) th S2 o w) := by
  refine zg_aload_n (zd_t dmU_step 37 rfl) rfl ?_
  refine zg_dup (zd_t dmU_step 38 rfl) rfl ?_
  refine zg_getf (zd_t dmU_step 39 rfl) zf_U_21 zs_0 rfl ?_
  refine zg_iconst (v := (nI 1)) (zd_t dmU_step 40 rfl) (by decide) ?_
  refine zg_isub (zd_t dmU_step 41 rfl) ?_
  refine zg_putf (zd_t dmU_step 42 rfl) zf_U_21 zt_0_2 zs_0 (Nat.le_of_ble_eq_true rfl) rfl rfl zs_up_cn ?_
  refine zg_aload_n (zd_t dmU_step 43 rfl) rfl ?_
  refine zg_getf (zd_t dmU_step 44 rfl) zf_U_21 zs_0 rfl ?_
  refine zg_if_eq (tgt := 139) (zd_t dmU_step 45 rfl) (by decide) (fun h1 => ?_) (fun h1 => ?_)
  · have h1 : zs_cn S - nI 1 = 0 := h1
    rw [if_pos h1]
    refine zg_iload_n (zd_t dmU_step 49 rfl) rfl ?_
    refine zg_iconst (v := (nI 1)) (zd_t dmU_step 50 rfl) (by decide) ?_
    refine zg_iadd (zd_t dmU_step 51 rfl) ?_
    rw [nI_add]
    exact zg_iret (zd_t dmU_step 52 rfl) rfl rfl
  · have h1 : ¬ zs_cn S - nI 1 = 0 := h1
    rw [if_neg h1]
    refine zg_aload_n (zd_t dmU_step 46 rfl) rfl ?_
    refine zg_getf (zd_t dmU_step 47 rfl) zf_U_161 (zs_ins hi) rfl ?_
    refine zg_goto (tgt := 142) (zd_t dmU_step 48 rfl) (by decide) ?_
    exact zg_iret (zd_t dmU_step 52 rfl) rfl rfl
theorem zu_step_c {n : Nat} (hi : i < 32) (hI : zs_inv S) (ek : zs_pg S i 0 = nI n) (hal : zs_al n (zs_pg S i 1) (zs_pg S i 2) (zs_pg S i 3) = true) (h0 : (1 ≤ n ∧ n < 5) ∨ n = 5 ∨ n = 6 ∨ n = 11) : zg_G l (zs_E P) (d + 5) mU_step 143 [(2, .ref (zp_B P + 35 + i)), (0, .ref (zp_B P)), (1, .int (nI i))] [] (zs_σ P S th S2 o w) (.inl (some (.int (nI (i + 1)))), zs_σ P (zs_stn S n (zs_pg S i 1) (zs_pg S i 2) (zs_pg S i 3)) th S2 o w) := by
  refine zg_aload_n (zd_t dmU_step 53 rfl) rfl ?_
  refine zg_aload_n (zd_t dmU_step 54 rfl) rfl ?_
  refine zg_callV (zd_t dmU_step 55 rfl) zl_U_167 zm_mU_calculate zi_mU_calculate zse_mU_calculate zs_0 zs_cl0 rfl (av := _) (rest := _) (by rfl) (by rfl) (by exact Nat.le_of_ble_eq_true rfl) (zu_calculate hi hI ek hal h0) ?_
  refine zg_iload_n (zd_t dmU_step 56 rfl) rfl ?_
  refine zg_iconst (v := (nI 1)) (zd_t dmU_step 57 rfl) (by decide) ?_
  refine zg_iadd (zd_t dmU_step 58 rfl) ?_
  rw [nI_add]
  exact zg_iret (zd_t dmU_step 59 rfl) rfl rfl
theorem zu_step_t0  : zg_G l (zs_E P) (d + 5) mU_step 11 [(2, .ref (zp_B P + 35 + i)), (0, .ref (zp_B P)), (1, .int (nI i))] [.int (nI 0)] (zs_σ P S th S2 o w) (.inl (some (.int (-1))), zs_σ P (S) th S2 o w) :=
  zg_tableIn (off := 57) (tgt := 68) (zd_t dmU_step 7 rfl) (by decide) (by decide) (by decide) (by decide) zu_step_0
theorem zu_step_t7 (hi : i < 32) : zg_G l (zs_E P) (d + 5) mU_step 11 [(2, .ref (zp_B P + 35 + i)), (0, .ref (zp_B P)), (1, .int (nI i))] [.int (nI 7)] (zs_σ P S th S2 o w) (.inl (some (.int (zs_pg S i 1))), zs_σ P (S) th S2 o w) :=
  zg_tableIn (off := 59) (tgt := 70) (zd_t dmU_step 7 rfl) (by decide) (by decide) (by decide) (by decide) (zu_step_7 hi)
theorem zu_step_t8 {x : Nat} (hi : i < 32) (hx : x < 16) (ex : zs_pg S i 1 = nI x) (hI : zs_inv S) : zg_G l (zs_E P) (d + 5) mU_step 11 [(2, .ref (zp_B P + 35 + i)), (0, .ref (zp_B P)), (1, .int (nI i))] [.int (nI 8)] (zs_σ P S th S2 o w) (.inl (some (.int (if mz_val (zs_re S x) < 0 then zs_pg S i 2 else nI (i + 1)))), zs_σ P (S) th S2 o w) :=
  zg_tableIn (off := 64) (tgt := 75) (zd_t dmU_step 7 rfl) (by decide) (by decide) (by decide) (by decide) (zu_step_8 hi hx ex hI)
theorem zu_step_t9 (hi : i < 32) : zg_G l (zs_E P) (d + 5) mU_step 11 [(2, .ref (zp_B P + 35 + i)), (0, .ref (zp_B P)), (1, .int (nI i))] [.int (nI 9)] (zs_σ P S th S2 o w) (.inl (some (.int (nI (i + 1)))), zs_σ P (zs_scn S (zs_pg S i 1)) th S2 o w) :=
  zg_tableIn (off := 92) (tgt := 103) (zd_t dmU_step 7 rfl) (by decide) (by decide) (by decide) (by decide) (zu_step_9 hi)
theorem zu_step_t10 (hi : i < 32) : zg_G l (zs_E P) (d + 5) mU_step 11 [(2, .ref (zp_B P + 35 + i)), (0, .ref (zp_B P)), (1, .int (nI i))] [.int (nI 10)] (zs_σ P S th S2 o w) (.inl (some (.int (if zs_cn S - nI 1 = 0 then nI (i + 1) else zs_pg S i 1))), zs_σ P (zs_scn S (zs_cn S - nI 1)) th S2 o w) :=
  zg_tableIn (off := 104) (tgt := 115) (zd_t dmU_step 7 rfl) (by decide) (by decide) (by decide) (by decide) (zu_step_10 hi)
theorem zu_step_t1 (hi : i < 32) (hI : zs_inv S) (ek : zs_pg S i 0 = nI 1) (hal : zs_al 1 (zs_pg S i 1) (zs_pg S i 2) (zs_pg S i 3) = true) : zg_G l (zs_E P) (d + 5) mU_step 11 [(2, .ref (zp_B P + 35 + i)), (0, .ref (zp_B P)), (1, .int (nI i))] [.int (nI 1)] (zs_σ P S th S2 o w) (.inl (some (.int (nI (i + 1)))), zs_σ P (zs_stn S 1 (zs_pg S i 1) (zs_pg S i 2) (zs_pg S i 3)) th S2 o w) :=
  zg_tableIn (off := 132) (tgt := 143) (zd_t dmU_step 7 rfl) (by decide) (by decide) (by decide) (by decide) (zu_step_c hi hI ek hal (by decide))
theorem zu_step_t2 (hi : i < 32) (hI : zs_inv S) (ek : zs_pg S i 0 = nI 2) (hal : zs_al 2 (zs_pg S i 1) (zs_pg S i 2) (zs_pg S i 3) = true) : zg_G l (zs_E P) (d + 5) mU_step 11 [(2, .ref (zp_B P + 35 + i)), (0, .ref (zp_B P)), (1, .int (nI i))] [.int (nI 2)] (zs_σ P S th S2 o w) (.inl (some (.int (nI (i + 1)))), zs_σ P (zs_stn S 2 (zs_pg S i 1) (zs_pg S i 2) (zs_pg S i 3)) th S2 o w) :=
  zg_tableIn (off := 132) (tgt := 143) (zd_t dmU_step 7 rfl) (by decide) (by decide) (by decide) (by decide) (zu_step_c hi hI ek hal (by decide))
theorem zu_step_t3 (hi : i < 32) (hI : zs_inv S) (ek : zs_pg S i 0 = nI 3) (hal : zs_al 3 (zs_pg S i 1) (zs_pg S i 2) (zs_pg S i 3) = true) : zg_G l (zs_E P) (d + 5) mU_step 11 [(2, .ref (zp_B P + 35 + i)), (0, .ref (zp_B P)), (1, .int (nI i))] [.int (nI 3)] (zs_σ P S th S2 o w) (.inl (some (.int (nI (i + 1)))), zs_σ P (zs_stn S 3 (zs_pg S i 1) (zs_pg S i 2) (zs_pg S i 3)) th S2 o w) :=
  zg_tableIn (off := 132) (tgt := 143) (zd_t dmU_step 7 rfl) (by decide) (by decide) (by decide) (by decide) (zu_step_c hi hI ek hal (by decide))
theorem zu_step_t4 (hi : i < 32) (hI : zs_inv S) (ek : zs_pg S i 0 = nI 4) (hal : zs_al 4 (zs_pg S i 1) (zs_pg S i 2) (zs_pg S i 3) = true) : zg_G l (zs_E P) (d + 5) mU_step 11 [(2, .ref (zp_B P + 35 + i)), (0, .ref (zp_B P)), (1, .int (nI i))] [.int (nI 4)] (zs_σ P S th S2 o w) (.inl (some (.int (nI (i + 1)))), zs_σ P (zs_stn S 4 (zs_pg S i 1) (zs_pg S i 2) (zs_pg S i 3)) th S2 o w) :=
  zg_tableIn (off := 132) (tgt := 143) (zd_t dmU_step 7 rfl) (by decide) (by decide) (by decide) (by decide) (zu_step_c hi hI ek hal (by decide))
theorem zu_step_t5 (hi : i < 32) (hI : zs_inv S) (ek : zs_pg S i 0 = nI 5) (hal : zs_al 5 (zs_pg S i 1) (zs_pg S i 2) (zs_pg S i 3) = true) : zg_G l (zs_E P) (d + 5) mU_step 11 [(2, .ref (zp_B P + 35 + i)), (0, .ref (zp_B P)), (1, .int (nI i))] [.int (nI 5)] (zs_σ P S th S2 o w) (.inl (some (.int (nI (i + 1)))), zs_σ P (zs_stn S 5 (zs_pg S i 1) (zs_pg S i 2) (zs_pg S i 3)) th S2 o w) :=
  zg_tableIn (off := 132) (tgt := 143) (zd_t dmU_step 7 rfl) (by decide) (by decide) (by decide) (by decide) (zu_step_c hi hI ek hal (by decide))
theorem zu_step_t6 (hi : i < 32) (hI : zs_inv S) (ek : zs_pg S i 0 = nI 6) (hal : zs_al 6 (zs_pg S i 1) (zs_pg S i 2) (zs_pg S i 3) = true) : zg_G l (zs_E P) (d + 5) mU_step 11 [(2, .ref (zp_B P + 35 + i)), (0, .ref (zp_B P)), (1, .int (nI i))] [.int (nI 6)] (zs_σ P S th S2 o w) (.inl (some (.int (nI (i + 1)))), zs_σ P (zs_stn S 6 (zs_pg S i 1) (zs_pg S i 2) (zs_pg S i 3)) th S2 o w) :=
  zg_tableIn (off := 132) (tgt := 143) (zd_t dmU_step 7 rfl) (by decide) (by decide) (by decide) (by decide) (zu_step_c hi hI ek hal (by decide))
theorem zu_step_t11 (hi : i < 32) (hI : zs_inv S) (ek : zs_pg S i 0 = nI 11) (hal : zs_al 11 (zs_pg S i 1) (zs_pg S i 2) (zs_pg S i 3) = true) : zg_G l (zs_E P) (d + 5) mU_step 11 [(2, .ref (zp_B P + 35 + i)), (0, .ref (zp_B P)), (1, .int (nI i))] [.int (nI 11)] (zs_σ P S th S2 o w) (.inl (some (.int (nI (i + 1)))), zs_σ P (zs_stn S 11 (zs_pg S i 1) (zs_pg S i 2) (zs_pg S i 3)) th S2 o w) :=
  zg_tableOut (tgt := 143) (zd_t dmU_step 7 rfl) (by decide) (by decide) (zu_step_c hi hI ek hal (by decide))
theorem zs_nx1 (S : zs_S) (i : Nat) {n : Nat} (a b : Int32) (h : (1 ≤ n ∧ n < 7) ∨ n = 9 ∨ n = 11) : zs_nxn S i n a b = nI (i + 1) := by
  unfold zs_nxn
  rw [if_neg (by omega), if_neg (by omega), if_neg (by omega), if_neg (by omega)]
theorem zs_st0 (S : zs_S) {n : Nat} (a b c : Int32) (h : n = 0 ∨ n = 7 ∨ n = 8) : zs_stn S n a b c = S := by
  unfold zs_stn
  rw [if_neg (by omega), if_neg (by omega), if_neg (by omega), if_neg (by omega), if_neg (by omega), if_neg (by omega)]
theorem zs_st9 (S : zs_S) (a b c : Int32) : zs_stn S 9 a b c = zs_scn S a := if_pos rfl
theorem zs_st10 (S : zs_S) (a b c : Int32) : zs_stn S 10 a b c = zs_scn S (zs_cn S - nI 1) := by
  unfold zs_stn
  rw [if_neg (by omega), if_pos rfl]
theorem zs_nx0 (S : zs_S) (i : Nat) (a b : Int32) : zs_nxn S i 0 a b = -1 := if_pos rfl
theorem zs_nx7 (S : zs_S) (i : Nat) (a b : Int32) : zs_nxn S i 7 a b = a := by
  unfold zs_nxn
  rw [if_neg (by omega), if_pos rfl]
theorem zs_nx8 (S : zs_S) (i : Nat) {x : Nat} (b : Int32) (hx : x < 16) : zs_nxn S i 8 (nI x) b = if mz_val (zs_re S x) < 0 then b else nI (i + 1) := by
  unfold zs_nxn
  rw [if_neg (by omega), if_neg (by omega), if_pos rfl, zs_n_nI (by omega)]
theorem zs_nx10 (S : zs_S) (i : Nat) (a b : Int32) : zs_nxn S i 10 a b = if zs_cn S - nI 1 = 0 then nI (i + 1) else a := by
  unfold zs_nxn
  rw [if_neg (by omega), if_neg (by omega), if_neg (by omega), if_pos rfl]
theorem zu_step_k {n : Nat} (hi : i < 32) (hI : zs_inv S) (ek : zs_pg S i 0 = nI n) (hn : n < 12) (hal : zs_al n (zs_pg S i 1) (zs_pg S i 2) (zs_pg S i 3) = true) : zg_G l (zs_E P) (d + 5) mU_step 11 [(2, .ref (zp_B P + 35 + i)), (0, .ref (zp_B P)), (1, .int (nI i))] [.int (nI n)] (zs_σ P S th S2 o w) (.inl (some (.int (zs_nxn S i n (zs_pg S i 1) (zs_pg S i 2)))), zs_σ P (zs_stn S n (zs_pg S i 1) (zs_pg S i 2) (zs_pg S i 3)) th S2 o w) := by
  rcases (by omega : n = 0 ∨ n = 7 ∨ n = 8 ∨ n = 9 ∨ n = 10 ∨ n = 1 ∨ n = 2 ∨ n = 3 ∨ n = 4 ∨ n = 5 ∨ n = 6 ∨ n = 11) with rfl | rfl | rfl | rfl | rfl | rfl | rfl | rfl | rfl | rfl | rfl | rfl
  · rw [zs_nx0, zs_st0 S _ _ _ (by omega)]
    exact zu_step_t0
  · rw [zs_nx7, zs_st0 S _ _ _ (by omega)]
    exact zu_step_t7 hi
  · obtain ⟨x, hx, ex⟩ := zs_irN (zs_al_8 hal).1
    have g := zu_step_t8 (l := l) (P := P) (d := d) (S2 := S2) (th := th) (o := o) (w := w) hi hx ex hI
    rw [zs_st0 S _ _ _ (by omega), show zs_nxn S i 8 (zs_pg S i 1) (zs_pg S i 2) = (if mz_val (zs_re S x) < 0 then zs_pg S i 2 else nI (i + 1)) by rw [ex]; exact zs_nx8 S i _ hx]
    exact g
  · rw [zs_nx1 S i _ _ (by omega), zs_st9]
    exact zu_step_t9 hi
  · rw [zs_nx10, zs_st10]
    exact zu_step_t10 hi
  · rw [zs_nx1 S i _ _ (by omega)]
    exact zu_step_t1 hi hI ek hal
  · rw [zs_nx1 S i _ _ (by omega)]
    exact zu_step_t2 hi hI ek hal
  · rw [zs_nx1 S i _ _ (by omega)]
    exact zu_step_t3 hi hI ek hal
  · rw [zs_nx1 S i _ _ (by omega)]
    exact zu_step_t4 hi hI ek hal
  · rw [zs_nx1 S i _ _ (by omega)]
    exact zu_step_t5 hi hI ek hal
  · rw [zs_nx1 S i _ _ (by omega)]
    exact zu_step_t6 hi hI ek hal
  · rw [zs_nx1 S i _ _ (by omega)]
    exact zu_step_t11 hi hI ek hal
theorem zu_step (hi : i < 32) (hI : zs_inv S) : zg_C l (zs_E P) (d + 5) mU_step [.ref (zp_B P), .int (nI i)] (zs_σ P S th S2 o w) (.inl (some (.int (zs_nx S i))), zs_σ P (zs_st S i) th S2 o w) := by
  refine zg_C_of (by decide +kernel) (Nat.le_of_ble_eq_true rfl) ?_
  obtain ⟨n, hn, ek, hal⟩ := zs_alw_k (hI.2.2 i hi)
  have e1 : zs_st S i = zs_stn S n (zs_pg S i 1) (zs_pg S i 2) (zs_pg S i 3) := by unfold zs_st; rw [ek, zs_n_nI (by omega)]
  have e2 : zs_nx S i = zs_nxn S i n (zs_pg S i 1) (zs_pg S i 2) := by unfold zs_nx; rw [ek, zs_n_nI (by omega)]
  rw [e1, e2]
  refine zg_aload_n (zd_t dmU_step 0 rfl) rfl ?_
  refine zg_getf (zd_t dmU_step 1 rfl) zf_U_17 zs_0 rfl ?_
  refine zg_iload_n (zd_t dmU_step 2 rfl) rfl ?_
  refine zg_aald (t0 := 4) (zd_t dmU_step 3 rfl) zs_2 rfl rfl hi (by decide) (zs_rf_at hi) ?_
  refine zg_astore_n (zd_t dmU_step 4 rfl) (by decide) rfl ?_
  refine zg_aload_n (zd_t dmU_step 5 rfl) rfl ?_
  refine zg_getf (zd_t dmU_step 6 rfl) zf_U_158 (zs_ins hi) rfl ?_
  rw [ek]
  exact zu_step_k hi hI ek hn hal
theorem zu_run_lp {f : Nat} (hf : f ≤ 2000) : ∀ (n k : Nat), k + n = f → ∀ (S : zs_S) (nx : Int32), zs_inv S → zg_G l (zs_E P) (d + 6) mU_run 30 [(3, .int (nI k)), (2, .int nx), (0, .ref (zp_B P)), (1, .int (nI f))] [] (zs_σ P S th S2 o w) (.inl (some (.int (nI (k + (zs_rn n S nx).1)))), zs_σ P (zs_ssr (zs_rn n S nx).2.2 (nI (zs_rs (zs_rn n S nx).2.1))) th S2 o w) := by
  intro n
  have out : ∀ (k : Nat) (S : zs_S) (nx : Int32), zg_G l (zs_E P) (d + 6) mU_run 54 [(3, .int (nI k)), (2, .int nx), (0, .ref (zp_B P)), (1, .int (nI f))] [] (zs_σ P S th S2 o w) (.inl (some (.int (nI k))), zs_σ P (zs_ssr S (nI (zs_rs nx))) th S2 o w) := by
    intro k S nx
    refine zg_aload_n (zd_t dmU_run 29 rfl) rfl ?_
    refine zg_iload_n (zd_t dmU_run 30 rfl) rfl ?_
    refine zg_callS (zd_t dmU_run 31 rfl) zl_U_139 zm_mU_reasonAt zst_mU_reasonAt (av := _) (rest := _) (by rfl) (by rfl) (by exact Nat.le_of_ble_eq_true rfl) (zu_reasonAt nx) ?_
    refine zg_putf (zd_t dmU_run 32 rfl) zf_U_25 zt_0_3 zs_0 (Nat.le_of_ble_eq_true rfl) rfl rfl zs_up_sr ?_
    refine zg_iload_n (zd_t dmU_run 33 rfl) rfl ?_
    exact zg_iret (zd_t dmU_run 34 rfl) rfl rfl
  induction n with
  | zero =>
    intro k hk S nx hI
    have hk : k = f := by omega
    subst hk
    refine zg_iload_n (zd_t dmU_run 17 rfl) rfl ?_
    refine zg_iload_n (zd_t dmU_run 18 rfl) rfl ?_
    refine zg_icmp_ge (tgt := 54) (zd_t dmU_run 19 rfl) (by decide) (fun _ => ?_) (fun hq => absurd ((nI_leI (by omega) (by omega)).mpr (Nat.le_refl _)) hq)
    exact out k S nx
  | succ n ih =>
    intro k hk S nx hI
    refine zg_iload_n (zd_t dmU_run 17 rfl) rfl ?_
    refine zg_iload_n (zd_t dmU_run 18 rfl) rfl ?_
    refine zg_icmp_ge (tgt := 54) (zd_t dmU_run 19 rfl) (by decide) (fun hq => absurd hq (fun h => absurd ((nI_leI (by omega) (by omega)).mp h) (by omega))) (fun _ => ?_)
    refine zg_iload_n (zd_t dmU_run 20 rfl) rfl ?_
    refine zg_callS (zd_t dmU_run 21 rfl) zl_U_115 zm_mU_isInstruction zst_mU_isInstruction (av := _) (rest := _) (by rfl) (by rfl) (by exact Nat.le_of_ble_eq_true rfl) (zu_isInstruction nx) ?_
    unfold zs_rn
    by_cases hx : zs_ii nx
    · rw [decide_eq_true hx, if_pos hx]
      obtain ⟨j, hj, rfl⟩ := zs_iiN hx
      rw [zs_n_nI (by omega)]
      refine zg_if_eq (tgt := 54) (zd_t dmU_run 22 rfl) (by decide) (fun hq => absurd hq (by decide)) (fun _ => ?_)
      refine zg_aload_n (zd_t dmU_run 23 rfl) rfl ?_
      refine zg_iload_n (zd_t dmU_run 24 rfl) rfl ?_
      refine zg_callV (zd_t dmU_run 25 rfl) zl_U_135 zm_mU_step zi_mU_step zse_mU_step zs_0 zs_cl0 rfl (av := _) (rest := _) (by rfl) (by rfl) (by exact Nat.le_of_ble_eq_true rfl) (zu_step hj hI) ?_
      refine zg_istore_n (zd_t dmU_run 26 rfl) (by decide) rfl ?_
      refine zg_iinc (lv2 := [(3, .int (nI (k + 1))), (2, .int (zs_nx S j)), (0, .ref (zp_B P)), (1, .int (nI f))]) (zd_t dmU_run 27 rfl) rfl (mz_inc k) (by decide) rfl ?_
      refine zg_goto (tgt := 30) (zd_t dmU_run 28 rfl) (by decide) ?_
      have := ih (k + 1) (by omega) (zs_st S j) (zs_nx S j) (zs_inv_st hI hj)
      rw [show k + 1 + (zs_rn n (zs_st S j) (zs_nx S j)).1 = k + ((zs_rn n (zs_st S j) (zs_nx S j)).1 + 1) by omega] at this
      exact this
    · rw [decide_eq_false hx, if_neg hx]
      refine zg_if_eq (tgt := 54) (zd_t dmU_run 22 rfl) (by decide) (fun _ => ?_) (fun hq => absurd (by decide) hq)
      exact out k S nx
theorem zu_run {f : Nat} (hf : f ≤ 2000) (hI : zs_inv S) : zg_C l (zs_E P) (d + 6) mU_run [.ref (zp_B P), .int (nI f)] (zs_σ P S th S2 o w) (.inl (some (.int (nI (zs_rn f (zs_scn S 0) 0).1))), zs_σ P (zs_srun S f) th S2 o w) := by
  refine zg_C_of (by decide +kernel) (Nat.le_of_ble_eq_true rfl) ?_
  refine zg_iload_n (zd_t dmU_run 0 rfl) rfl ?_
  refine zg_if_lt (tgt := 11) (zd_t dmU_run 1 rfl) (by decide) (fun hq => absurd hq (nI_pos (by omega))) (fun _ => ?_)
  refine zg_iload_n (zd_t dmU_run 2 rfl) rfl ?_
  refine zg_sipush (v := (nI 2000)) (zd_t dmU_run 3 rfl) (by decide) ?_
  refine zg_icmp_le (tgt := 21) (zd_t dmU_run 4 rfl) (by decide) (fun _ => ?_) (fun hq => absurd ((nI_leI (by omega) (by decide)).mpr hf) hq)
  refine zg_aload_n (zd_t dmU_run 10 rfl) rfl ?_
  refine zg_iconst (v := (nI 0)) (zd_t dmU_run 11 rfl) (by decide) ?_
  refine zg_putf (zd_t dmU_run 12 rfl) zf_U_21 zt_0_2 zs_0 (Nat.le_of_ble_eq_true rfl) rfl rfl zs_up_cn ?_
  refine zg_iconst (v := (nI 0)) (zd_t dmU_run 13 rfl) (by decide) ?_
  refine zg_istore_n (zd_t dmU_run 14 rfl) (by decide) rfl ?_
  refine zg_iconst (v := (nI 0)) (zd_t dmU_run 15 rfl) (by decide) ?_
  refine zg_istore_n (zd_t dmU_run 16 rfl) (by decide) rfl ?_
  have := zu_run_lp (l := l) (P := P) (d := d) (S2 := S2) (th := th) (o := o) (w := w) hf f 0 (by omega) (zs_scn S 0) 0 hI
  rw [Nat.zero_add] at this
  exact this
theorem zu_runX {f : Int32} {σ : zg_H} (htr : l.stackTraces = false) (h : ¬ (0 ≤ f.toInt ∧ f.toInt ≤ 2000)) : zg_C l (zs_E P) (d + 7) mU_run [.ref (zp_B P), .int f] σ (.inr (zg_sz σ, "java/lang/IllegalArgumentException"), zs_exc σ) := by
  refine zg_C_of (by decide +kernel) (Nat.le_of_ble_eq_true rfl) ?_
  refine zg_iload_n (zd_t dmU_run 0 rfl) rfl ?_
  refine zg_if_lt (tgt := 11) (zd_t dmU_run 1 rfl) (by decide) (fun h1 => ?_) (fun h1 => ?_)
  · exact zg_throw htr (by omega) (by decide) (by decide) (zd_t dmU_run 5 rfl) (zd_t dmU_run 6 rfl) (zd_t dmU_run 7 rfl) (zd_t dmU_run 8 rfl) (zd_t dmU_run 9 rfl) zcl_U_38 zs_iIAE (zs_str 133 "the fuel is not 0 to 2000" (by decide)) (by decide +kernel) (by decide +kernel) zx_IAE (zs_in 175 (by decide +kernel) (by decide +kernel)) (fun h hh => absurd hh List.not_mem_nil) rfl
  rw [Int32.lt_iff_toInt_lt] at h1
  have h1 : ¬ f.toInt < 0 := h1
  refine zg_iload_n (zd_t dmU_run 2 rfl) rfl ?_
  refine zg_sipush (v := (nI 2000)) (zd_t dmU_run 3 rfl) (by decide) ?_
  refine zg_icmp_le (tgt := 21) (zd_t dmU_run 4 rfl) (by decide) (fun h2 => ?_) (fun h2 => ?_)
  · rw [Int32.le_iff_toInt_le] at h2
    have h2 : f.toInt ≤ 2000 := h2
    omega
  · exact zg_throw htr (by omega) (by decide) (by decide) (zd_t dmU_run 5 rfl) (zd_t dmU_run 6 rfl) (zd_t dmU_run 7 rfl) (zd_t dmU_run 8 rfl) (zd_t dmU_run 9 rfl) zcl_U_38 zs_iIAE (zs_str 133 "the fuel is not 0 to 2000" (by decide)) (by decide +kernel) (by decide +kernel) zx_IAE (zs_in 175 (by decide +kernel) (by decide +kernel)) (fun h hh => absurd hh List.not_mem_nil) rfl
end ZM11
end
section
section ZM12
variable {l : Launch} {P : zs_P} {d : Nat} {S : zs_S} {S2 : zs_S2} {th : Int32} {o : Int64} {w : Nat × Nat} {e a b i k : Nat}
theorem zs_up_out {v : Int64} : zg_up (zs_σ P S th S2 o w) (zp_B P + 75) (.inl (zp_ca P 1, 1, .inr (.inl (vp_updL (fun j => if j = 0 then o else 0) 0 v)))) = zs_σ P S th S2 v w := by
  refine zs_put ?_ ?_
  · rw [zs_m8]
    congr 5
    refine congrArg Sum.inl (funext fun j => ?_)
    show (if j = 0 then v else 0) = if j = 0 then v else if j = 0 then o else 0
    by_cases h : j = 0
    · rw [if_pos h, if_pos h]
    · rw [if_neg h, if_neg h, if_neg h]
  · rw [show zp_B P + 75 = zp_B P + 67 + 8 by omega]
    refine zs_hp_m fun n hn => ?_
    unfold zs_mc
    rw [if_neg hn, if_neg hn]
theorem zl_binary (hi : i < 16) (hok : mz_ok (zs_re S i)) (hg : mz_good (zs_re S i)) : zg_C l (zs_E P) (d + 7) mL_binary [.ref (zp_B P), .int (nI i), .ref (zp_B P + 75)] (zs_σ P S th S2 o w) (.inl (some (.int (nI 0))), zs_σ P (S) th S2 (mz_L (mz_val (zs_re S i))) w) := by
  refine zg_C_of (by decide +kernel) (Nat.le_of_ble_eq_true rfl) ?_
  refine zg_aload_n (zd_t dmL_binary 0 rfl) rfl ?_
  refine zg_iconst (v := (nI 0)) (zd_t dmL_binary 1 rfl) (by decide) ?_
  refine zg_aload_n (zd_t dmL_binary 2 rfl) rfl ?_
  refine zg_iload_n (zd_t dmL_binary 3 rfl) rfl ?_
  refine zg_callV (zd_t dmL_binary 4 rfl) zl_L_17 zm_mU_binary zi_mU_binary zse_mU_binary zs_0 zs_cl0 rfl (av := _) (rest := _) (by rfl) (by rfl) (by exact Nat.le_of_ble_eq_true rfl) (zu_binary hi hok hg) ?_
  refine zg_last (k := 0) (t0 := 1) (zd_t dmL_binary 5 rfl) zs_m8 rfl rfl (by decide) (by decide) zs_up_out ?_
  refine zg_goto (tgt := 17) (zd_t dmL_binary 6 rfl) (by decide) ?_
  refine zg_iconst (v := (nI 0)) (zd_t dmL_binary 13 rfl) (by decide) ?_
  exact zg_iret (zd_t dmL_binary 14 rfl) rfl rfl
theorem zl_binaryX (htr : l.stackTraces = false) {r : Int32} (h : ¬ zs_ir r) : zg_C l (zs_E P) (d + 8) mL_binary [.ref (zp_B P), .int r, .ref (zp_B P + 75)] (zs_σ P S th S2 o w) (.inl (some (.int (nI 1))), zs_exc (zs_σ P S th S2 o w)) := by
  refine zg_C_of (by decide +kernel) (Nat.le_of_ble_eq_true rfl) ?_
  refine zg_aload_n (zd_t dmL_binary 0 rfl) rfl ?_
  refine zg_iconst (v := (nI 0)) (zd_t dmL_binary 1 rfl) (by decide) ?_
  refine zg_aload_n (zd_t dmL_binary 2 rfl) rfl ?_
  refine zg_iload_n (zd_t dmL_binary 3 rfl) rfl ?_
  refine zg_callVC (zd_t dmL_binary 4 rfl) zl_L_17 zm_mU_binary zi_mU_binary zse_mU_binary zs_0 zs_cl0 rfl (av := _) (rest := _) (by rfl) (by rfl) (by exact Nat.le_of_ble_eq_true rfl) (zu_binaryX htr h) (hp := 11) zh_binary_IOB ?_
  refine zg_astore_n (zd_t dmL_binary 7 rfl) (by decide) rfl ?_
  refine zg_iconst (v := (nI 1)) (zd_t dmL_binary 8 rfl) (by decide) ?_
  exact zg_iret (zd_t dmL_binary 9 rfl) rfl rfl
theorem zl_binaryY (htr : l.stackTraces = false) (hi : i < 16) (hok : mz_ok (zs_re S i)) (hg : ¬ mz_good (zs_re S i)) : zg_C l (zs_E P) (d + 8) mL_binary [.ref (zp_B P), .int (nI i), .ref (zp_B P + 75)] (zs_σ P S th S2 o w) (.inl (some (.int (nI 2))), zs_exc (zs_σ P S th S2 o w)) := by
  refine zg_C_of (by decide +kernel) (Nat.le_of_ble_eq_true rfl) ?_
  refine zg_aload_n (zd_t dmL_binary 0 rfl) rfl ?_
  refine zg_iconst (v := (nI 0)) (zd_t dmL_binary 1 rfl) (by decide) ?_
  refine zg_aload_n (zd_t dmL_binary 2 rfl) rfl ?_
  refine zg_iload_n (zd_t dmL_binary 3 rfl) rfl ?_
  refine zg_callVC (zd_t dmL_binary 4 rfl) zl_L_17 zm_mU_binary zi_mU_binary zse_mU_binary zs_0 zs_cl0 rfl (av := _) (rest := _) (by rfl) (by rfl) (by exact Nat.le_of_ble_eq_true rfl) (zu_binaryY htr hi hok hg) (hp := 14) zh_binary_ISE ?_
  refine zg_astore_n (zd_t dmL_binary 10 rfl) (by decide) rfl ?_
  refine zg_iconst (v := (nI 2)) (zd_t dmL_binary 11 rfl) (by decide) ?_
  exact zg_iret (zd_t dmL_binary 12 rfl) rfl rfl
theorem zl_work {p : Nat} (hp : p < 4) (he : e < 16) (ha : a < 16) (hb : b < 16) (hI : zs_inv S) : zg_C l (zs_E P) (d + 7) mL_work [.ref (zp_B P), .int (nI p), .int (nI e), .int (nI a), .int (nI b)] (zs_σ P S th S2 o w) (.inl (some (.int (nI 0))), zs_σ P (zs_scmb S p e a b) th S2 o w) := by
  refine zg_C_of (by decide +kernel) (Nat.le_of_ble_eq_true rfl) ?_
  refine zg_aload_n (zd_t dmL_work 0 rfl) rfl ?_
  refine zg_iload_n (zd_t dmL_work 1 rfl) rfl ?_
  refine zg_iload_n (zd_t dmL_work 2 rfl) rfl ?_
  refine zg_iload_n (zd_t dmL_work 3 rfl) rfl ?_
  refine zg_iload (zd_t dmL_work 4 rfl) rfl ?_
  refine zg_callV (zd_t dmL_work 5 rfl) zl_L_23 zm_mU_work zi_mU_work zse_mU_work zs_0 zs_cl0 rfl (av := _) (rest := _) (by rfl) (by rfl) (by exact Nat.le_of_ble_eq_true rfl) (zu_work hp he ha hb hI) ?_
  refine zg_goto (tgt := 20) (zd_t dmL_work 6 rfl) (by decide) ?_
  refine zg_iconst (v := (nI 0)) (zd_t dmL_work 13 rfl) (by decide) ?_
  exact zg_iret (zd_t dmL_work 14 rfl) rfl rfl
theorem zl_workX (htr : l.stackTraces = false) {p x y z : Int32} (h : ¬ (zs_ir x ∧ zs_ir y ∧ zs_ir z)) : zg_C l (zs_E P) (d + 8) mL_work [.ref (zp_B P), .int p, .int x, .int y, .int z] (zs_σ P S th S2 o w) (.inl (some (.int (nI 1))), zs_exc (zs_σ P S th S2 o w)) := by
  refine zg_C_of (by decide +kernel) (Nat.le_of_ble_eq_true rfl) ?_
  refine zg_aload_n (zd_t dmL_work 0 rfl) rfl ?_
  refine zg_iload_n (zd_t dmL_work 1 rfl) rfl ?_
  refine zg_iload_n (zd_t dmL_work 2 rfl) rfl ?_
  refine zg_iload_n (zd_t dmL_work 3 rfl) rfl ?_
  refine zg_iload (zd_t dmL_work 4 rfl) rfl ?_
  refine zg_callVC (zd_t dmL_work 5 rfl) zl_L_23 zm_mU_work zi_mU_work zse_mU_work zs_0 zs_cl0 rfl (av := _) (rest := _) (by rfl) (by rfl) (by exact Nat.le_of_ble_eq_true rfl) (zu_workX htr h) (hp := 12) zh_work_IOB ?_
  refine zg_astore (zd_t dmL_work 7 rfl) (by decide) rfl ?_
  refine zg_iconst (v := (nI 1)) (zd_t dmL_work 8 rfl) (by decide) ?_
  exact zg_iret (zd_t dmL_work 9 rfl) rfl rfl
theorem zl_workY (htr : l.stackTraces = false) {p : Int32} (hp : ¬ (0 ≤ p.toInt ∧ p.toInt ≤ 3)) (he : e < 16) (ha : a < 16) (hb : b < 16) : zg_C l (zs_E P) (d + 8) mL_work [.ref (zp_B P), .int p, .int (nI e), .int (nI a), .int (nI b)] (zs_σ P S th S2 o w) (.inl (some (.int (nI 2))), zs_exc (zs_σ P S th S2 o w)) := by
  refine zg_C_of (by decide +kernel) (Nat.le_of_ble_eq_true rfl) ?_
  refine zg_aload_n (zd_t dmL_work 0 rfl) rfl ?_
  refine zg_iload_n (zd_t dmL_work 1 rfl) rfl ?_
  refine zg_iload_n (zd_t dmL_work 2 rfl) rfl ?_
  refine zg_iload_n (zd_t dmL_work 3 rfl) rfl ?_
  refine zg_iload (zd_t dmL_work 4 rfl) rfl ?_
  refine zg_callVC (zd_t dmL_work 5 rfl) zl_L_23 zm_mU_work zi_mU_work zse_mU_work zs_0 zs_cl0 rfl (av := _) (rest := _) (by rfl) (by rfl) (by exact Nat.le_of_ble_eq_true rfl) (zu_workY htr hp he ha hb) (hp := 16) zh_work_IAE ?_
  refine zg_astore (zd_t dmL_work 10 rfl) (by decide) rfl ?_
  refine zg_iconst (v := (nI 2)) (zd_t dmL_work 11 rfl) (by decide) ?_
  exact zg_iret (zd_t dmL_work 12 rfl) rfl rfl
theorem zl_compare (ha : a < 16) (hb : b < 16) (hI : zs_inv S) : zg_C l (zs_E P) (d + 7) mL_compare [.ref (zp_B P), .int (nI a), .int (nI b), .ref (zp_B P + 75)] (zs_σ P S th S2 o w) (.inl (some (.int (nI 0))), zs_σ P (S) th S2 ((mz_cp (mz_val (zs_re S a)) (mz_val (zs_re S b))).toInt64) w) := by
  refine zg_C_of (by decide +kernel) (Nat.le_of_ble_eq_true rfl) ?_
  refine zg_aload_n (zd_t dmL_compare 0 rfl) rfl ?_
  refine zg_iconst (v := (nI 0)) (zd_t dmL_compare 1 rfl) (by decide) ?_
  refine zg_aload_n (zd_t dmL_compare 2 rfl) rfl ?_
  refine zg_iload_n (zd_t dmL_compare 3 rfl) rfl ?_
  refine zg_iload_n (zd_t dmL_compare 4 rfl) rfl ?_
  refine zg_callV (zd_t dmL_compare 5 rfl) zl_L_27 zm_mU_compare zi_mU_compare zse_mU_compare zs_0 zs_cl0 rfl (av := _) (rest := _) (by rfl) (by rfl) (by exact Nat.le_of_ble_eq_true rfl) (zu_compare ha hb hI) ?_
  refine zg_i2l (zd_t dmL_compare 6 rfl) rfl ?_
  refine zg_last (k := 0) (t0 := 1) (zd_t dmL_compare 7 rfl) zs_m8 rfl rfl (by decide) (by decide) zs_up_out ?_
  refine zg_goto (tgt := 17) (zd_t dmL_compare 8 rfl) (by decide) ?_
  refine zg_iconst (v := (nI 0)) (zd_t dmL_compare 12 rfl) (by decide) ?_
  exact zg_iret (zd_t dmL_compare 13 rfl) rfl rfl
theorem zl_compareX (htr : l.stackTraces = false) {x y : Int32} (h : ¬ (zs_ir x ∧ zs_ir y)) : zg_C l (zs_E P) (d + 8) mL_compare [.ref (zp_B P), .int x, .int y, .ref (zp_B P + 75)] (zs_σ P S th S2 o w) (.inl (some (.int (nI 1))), zs_exc (zs_σ P S th S2 o w)) := by
  refine zg_C_of (by decide +kernel) (Nat.le_of_ble_eq_true rfl) ?_
  refine zg_aload_n (zd_t dmL_compare 0 rfl) rfl ?_
  refine zg_iconst (v := (nI 0)) (zd_t dmL_compare 1 rfl) (by decide) ?_
  refine zg_aload_n (zd_t dmL_compare 2 rfl) rfl ?_
  refine zg_iload_n (zd_t dmL_compare 3 rfl) rfl ?_
  refine zg_iload_n (zd_t dmL_compare 4 rfl) rfl ?_
  refine zg_callVC (zd_t dmL_compare 5 rfl) zl_L_27 zm_mU_compare zi_mU_compare zse_mU_compare zs_0 zs_cl0 rfl (av := _) (rest := _) (by rfl) (by rfl) (by exact Nat.le_of_ble_eq_true rfl) (zu_compareX htr h) (hp := 13) zh_compare_IOB ?_
  refine zg_astore (zd_t dmL_compare 9 rfl) (by decide) rfl ?_
  refine zg_iconst (v := (nI 1)) (zd_t dmL_compare 10 rfl) (by decide) ?_
  exact zg_iret (zd_t dmL_compare 11 rfl) rfl rfl
theorem zl_scale {x : Nat} {n : Bool} (he : e < 16) (ha : a < 16) (hx : x < 64) (hm : mz_sm (nI x)) (hp : mz_pop x ≤ 4) (hI : zs_inv S) : zg_C l (zs_E P) (d + 7) mL_scale [.ref (zp_B P), .int (nI e), .int (nI a), .int (nI x), .int (zs_bi n)] (zs_σ P S th S2 o w) (.inl (some (.int (nI 0))), zs_σ P (zs_ssc S e a x n) th S2 o w) := by
  refine zg_C_of (by decide +kernel) (Nat.le_of_ble_eq_true rfl) ?_
  refine zg_aload_n (zd_t dmL_scale 0 rfl) rfl ?_
  refine zg_iload_n (zd_t dmL_scale 1 rfl) rfl ?_
  refine zg_iload_n (zd_t dmL_scale 2 rfl) rfl ?_
  refine zg_iload_n (zd_t dmL_scale 3 rfl) rfl ?_
  refine zg_iload (zd_t dmL_scale 4 rfl) rfl ?_
  refine zg_callV (zd_t dmL_scale 5 rfl) zl_L_31 zm_mU_scale zi_mU_scale zse_mU_scale zs_0 zs_cl0 rfl (av := _) (rest := _) (by rfl) (by rfl) (by exact Nat.le_of_ble_eq_true rfl) (zu_scale he ha hx hm hp hI) ?_
  refine zg_goto (tgt := 20) (zd_t dmL_scale 6 rfl) (by decide) ?_
  refine zg_iconst (v := (nI 0)) (zd_t dmL_scale 13 rfl) (by decide) ?_
  exact zg_iret (zd_t dmL_scale 14 rfl) rfl rfl
theorem zl_scaleX (htr : l.stackTraces = false) {x y c z : Int32} (h : ¬ (zs_ir x ∧ zs_ir y)) : zg_C l (zs_E P) (d + 8) mL_scale [.ref (zp_B P), .int x, .int y, .int c, .int z] (zs_σ P S th S2 o w) (.inl (some (.int (nI 1))), zs_exc (zs_σ P S th S2 o w)) := by
  refine zg_C_of (by decide +kernel) (Nat.le_of_ble_eq_true rfl) ?_
  refine zg_aload_n (zd_t dmL_scale 0 rfl) rfl ?_
  refine zg_iload_n (zd_t dmL_scale 1 rfl) rfl ?_
  refine zg_iload_n (zd_t dmL_scale 2 rfl) rfl ?_
  refine zg_iload_n (zd_t dmL_scale 3 rfl) rfl ?_
  refine zg_iload (zd_t dmL_scale 4 rfl) rfl ?_
  refine zg_callVC (zd_t dmL_scale 5 rfl) zl_L_31 zm_mU_scale zi_mU_scale zse_mU_scale zs_0 zs_cl0 rfl (av := _) (rest := _) (by rfl) (by rfl) (by exact Nat.le_of_ble_eq_true rfl) (zu_scaleX htr h) (hp := 12) zh_scale_IOB ?_
  refine zg_astore (zd_t dmL_scale 7 rfl) (by decide) rfl ?_
  refine zg_iconst (v := (nI 1)) (zd_t dmL_scale 8 rfl) (by decide) ?_
  exact zg_iret (zd_t dmL_scale 9 rfl) rfl rfl
theorem zl_scaleY (htr : l.stackTraces = false) {c z : Int32} (he : e < 16) (ha : a < 16) (hm : ¬ mz_sm c) : zg_C l (zs_E P) (d + 8) mL_scale [.ref (zp_B P), .int (nI e), .int (nI a), .int c, .int z] (zs_σ P S th S2 o w) (.inl (some (.int (nI 2))), zs_exc (zs_σ P S th S2 o w)) := by
  refine zg_C_of (by decide +kernel) (Nat.le_of_ble_eq_true rfl) ?_
  refine zg_aload_n (zd_t dmL_scale 0 rfl) rfl ?_
  refine zg_iload_n (zd_t dmL_scale 1 rfl) rfl ?_
  refine zg_iload_n (zd_t dmL_scale 2 rfl) rfl ?_
  refine zg_iload_n (zd_t dmL_scale 3 rfl) rfl ?_
  refine zg_iload (zd_t dmL_scale 4 rfl) rfl ?_
  refine zg_callVC (zd_t dmL_scale 5 rfl) zl_L_31 zm_mU_scale zi_mU_scale zse_mU_scale zs_0 zs_cl0 rfl (av := _) (rest := _) (by rfl) (by rfl) (by exact Nat.le_of_ble_eq_true rfl) (zu_scaleY htr he ha hm) (hp := 16) zh_scale_IAE ?_
  refine zg_astore (zd_t dmL_scale 10 rfl) (by decide) rfl ?_
  refine zg_iconst (v := (nI 2)) (zd_t dmL_scale 11 rfl) (by decide) ?_
  exact zg_iret (zd_t dmL_scale 12 rfl) rfl rfl
theorem zl_divide {q r : Nat} (hq : q < 16) (hr : r < 16) (ha : a < 16) (hb : b < 16) (hI : zs_inv S) (hz : mz_val (zs_re S b) ≠ 0) : zg_C l (zs_E P) (d + 7) mL_divide [.ref (zp_B P), .int (nI q), .int (nI r), .int (nI a), .int (nI b)] (zs_σ P S th S2 o w) (.inl (some (.int (nI 0))), zs_σ P (zs_sdv S q r a b) th S2 o w) := by
  refine zg_C_of (by decide +kernel) (Nat.le_of_ble_eq_true rfl) ?_
  refine zg_aload_n (zd_t dmL_divide 0 rfl) rfl ?_
  refine zg_iload_n (zd_t dmL_divide 1 rfl) rfl ?_
  refine zg_iload_n (zd_t dmL_divide 2 rfl) rfl ?_
  refine zg_iload_n (zd_t dmL_divide 3 rfl) rfl ?_
  refine zg_iload (zd_t dmL_divide 4 rfl) rfl ?_
  refine zg_callV (zd_t dmL_divide 5 rfl) zl_L_35 zm_mU_divide zi_mU_divide zse_mU_divide zs_0 zs_cl0 rfl (av := _) (rest := _) (by rfl) (by rfl) (by exact Nat.le_of_ble_eq_true rfl) (zu_divide hq hr ha hb hI hz) ?_
  refine zg_goto (tgt := 20) (zd_t dmL_divide 6 rfl) (by decide) ?_
  refine zg_iconst (v := (nI 0)) (zd_t dmL_divide 13 rfl) (by decide) ?_
  exact zg_iret (zd_t dmL_divide 14 rfl) rfl rfl
theorem zl_divideX (htr : l.stackTraces = false) {x y z u : Int32} (h : ¬ (zs_ir x ∧ zs_ir y ∧ zs_ir z ∧ zs_ir u)) : zg_C l (zs_E P) (d + 8) mL_divide [.ref (zp_B P), .int x, .int y, .int z, .int u] (zs_σ P S th S2 o w) (.inl (some (.int (nI 1))), zs_exc (zs_σ P S th S2 o w)) := by
  refine zg_C_of (by decide +kernel) (Nat.le_of_ble_eq_true rfl) ?_
  refine zg_aload_n (zd_t dmL_divide 0 rfl) rfl ?_
  refine zg_iload_n (zd_t dmL_divide 1 rfl) rfl ?_
  refine zg_iload_n (zd_t dmL_divide 2 rfl) rfl ?_
  refine zg_iload_n (zd_t dmL_divide 3 rfl) rfl ?_
  refine zg_iload (zd_t dmL_divide 4 rfl) rfl ?_
  refine zg_callVC (zd_t dmL_divide 5 rfl) zl_L_35 zm_mU_divide zi_mU_divide zse_mU_divide zs_0 zs_cl0 rfl (av := _) (rest := _) (by rfl) (by rfl) (by exact Nat.le_of_ble_eq_true rfl) (zu_divideX htr h) (hp := 12) zh_divide_IOB ?_
  refine zg_astore (zd_t dmL_divide 7 rfl) (by decide) rfl ?_
  refine zg_iconst (v := (nI 1)) (zd_t dmL_divide 8 rfl) (by decide) ?_
  exact zg_iret (zd_t dmL_divide 9 rfl) rfl rfl
theorem zl_divideY (htr : l.stackTraces = false) {q r : Nat} (hq : q < 16) (hr : r < 16) (ha : a < 16) (hb : b < 16) (hI : zs_inv S) (hz : mz_val (zs_re S b) = 0) : zg_C l (zs_E P) (d + 8) mL_divide [.ref (zp_B P), .int (nI q), .int (nI r), .int (nI a), .int (nI b)] (zs_σ P S th S2 o w) (.inl (some (.int (nI 2))), zs_exc (zs_σ P S th S2 o w)) := by
  refine zg_C_of (by decide +kernel) (Nat.le_of_ble_eq_true rfl) ?_
  refine zg_aload_n (zd_t dmL_divide 0 rfl) rfl ?_
  refine zg_iload_n (zd_t dmL_divide 1 rfl) rfl ?_
  refine zg_iload_n (zd_t dmL_divide 2 rfl) rfl ?_
  refine zg_iload_n (zd_t dmL_divide 3 rfl) rfl ?_
  refine zg_iload (zd_t dmL_divide 4 rfl) rfl ?_
  refine zg_callVC (zd_t dmL_divide 5 rfl) zl_L_35 zm_mU_divide zi_mU_divide zse_mU_divide zs_0 zs_cl0 rfl (av := _) (rest := _) (by rfl) (by rfl) (by exact Nat.le_of_ble_eq_true rfl) (zu_divideY htr hq hr ha hb hI hz) (hp := 16) zh_divide_ARE ?_
  refine zg_astore (zd_t dmL_divide 10 rfl) (by decide) rfl ?_
  refine zg_iconst (v := (nI 2)) (zd_t dmL_divide 11 rfl) (by decide) ?_
  exact zg_iret (zd_t dmL_divide 12 rfl) rfl rfl
theorem zl_channel (hi : i < 16) (hk : k < 8) : zg_C l (zs_E P) (d + 7) mL_channel [.ref (zp_B P), .int (nI i), .int (nI (k + 1)), .ref (zp_B P + 75)] (zs_σ P S th S2 o w) (.inl (some (.int (nI 0))), zs_σ P (S) th S2 ((nI (zs_re S i k)).toInt64) w) := by
  refine zg_C_of (by decide +kernel) (Nat.le_of_ble_eq_true rfl) ?_
  refine zg_aload_n (zd_t dmL_channel 0 rfl) rfl ?_
  refine zg_iconst (v := (nI 0)) (zd_t dmL_channel 1 rfl) (by decide) ?_
  refine zg_aload_n (zd_t dmL_channel 2 rfl) rfl ?_
  refine zg_iload_n (zd_t dmL_channel 3 rfl) rfl ?_
  refine zg_iload_n (zd_t dmL_channel 4 rfl) rfl ?_
  refine zg_callV (zd_t dmL_channel 5 rfl) zl_L_40 zm_mU_channel zi_mU_channel zse_mU_channel zs_0 zs_cl0 rfl (av := _) (rest := _) (by rfl) (by rfl) (by exact Nat.le_of_ble_eq_true rfl) (zu_channel hi hk) ?_
  refine zg_i2l (zd_t dmL_channel 6 rfl) rfl ?_
  refine zg_last (k := 0) (t0 := 1) (zd_t dmL_channel 7 rfl) zs_m8 rfl rfl (by decide) (by decide) zs_up_out ?_
  refine zg_goto (tgt := 17) (zd_t dmL_channel 8 rfl) (by decide) ?_
  refine zg_iconst (v := (nI 0)) (zd_t dmL_channel 12 rfl) (by decide) ?_
  exact zg_iret (zd_t dmL_channel 13 rfl) rfl rfl
theorem zl_channelX (htr : l.stackTraces = false) {x y : Int32} (h : ¬ (zs_ir x ∧ zs_ch y)) : zg_C l (zs_E P) (d + 8) mL_channel [.ref (zp_B P), .int x, .int y, .ref (zp_B P + 75)] (zs_σ P S th S2 o w) (.inl (some (.int (nI 1))), zs_exc (zs_σ P S th S2 o w)) := by
  refine zg_C_of (by decide +kernel) (Nat.le_of_ble_eq_true rfl) ?_
  refine zg_aload_n (zd_t dmL_channel 0 rfl) rfl ?_
  refine zg_iconst (v := (nI 0)) (zd_t dmL_channel 1 rfl) (by decide) ?_
  refine zg_aload_n (zd_t dmL_channel 2 rfl) rfl ?_
  refine zg_iload_n (zd_t dmL_channel 3 rfl) rfl ?_
  refine zg_iload_n (zd_t dmL_channel 4 rfl) rfl ?_
  refine zg_callVC (zd_t dmL_channel 5 rfl) zl_L_40 zm_mU_channel zi_mU_channel zse_mU_channel zs_0 zs_cl0 rfl (av := _) (rest := _) (by rfl) (by rfl) (by exact Nat.le_of_ble_eq_true rfl) (zu_channelX htr h) (hp := 13) zh_channel_IOB ?_
  refine zg_astore (zd_t dmL_channel 9 rfl) (by decide) rfl ?_
  refine zg_iconst (v := (nI 1)) (zd_t dmL_channel 10 rfl) (by decide) ?_
  exact zg_iret (zd_t dmL_channel 11 rfl) rfl rfl
theorem zl_inject {z : Int32} (hi : i < 16) (hk : k < 8) (hI : zs_inv S) : zg_C l (zs_E P) (d + 7) mL_inject [.ref (zp_B P), .int (nI i), .int (nI (k + 1)), .int z, .ref (zp_B P + 75)] (zs_σ P S th S2 o w) (.inl (some (.int (nI 0))), zs_σ P (zs_sre S i k (mz_sh (zs_re S i k) z k)) th S2 ((nI (mz_sh (zs_re S i k) z k)).toInt64) w) := by
  refine zg_C_of (by decide +kernel) (Nat.le_of_ble_eq_true rfl) ?_
  refine zg_aload (zd_t dmL_inject 0 rfl) rfl ?_
  refine zg_iconst (v := (nI 0)) (zd_t dmL_inject 1 rfl) (by decide) ?_
  refine zg_aload_n (zd_t dmL_inject 2 rfl) rfl ?_
  refine zg_iload_n (zd_t dmL_inject 3 rfl) rfl ?_
  refine zg_iload_n (zd_t dmL_inject 4 rfl) rfl ?_
  refine zg_iload_n (zd_t dmL_inject 5 rfl) rfl ?_
  refine zg_callV (zd_t dmL_inject 6 rfl) zl_L_43 zm_mU_inject zi_mU_inject zse_mU_inject zs_0 zs_cl0 rfl (av := _) (rest := _) (by rfl) (by rfl) (by exact Nat.le_of_ble_eq_true rfl) (zu_inject hi hk hI) ?_
  refine zg_i2l (zd_t dmL_inject 7 rfl) rfl ?_
  refine zg_last (k := 0) (t0 := 1) (zd_t dmL_inject 8 rfl) zs_m8 rfl rfl (by decide) (by decide) zs_up_out ?_
  refine zg_goto (tgt := 19) (zd_t dmL_inject 9 rfl) (by decide) ?_
  refine zg_iconst (v := (nI 0)) (zd_t dmL_inject 13 rfl) (by decide) ?_
  exact zg_iret (zd_t dmL_inject 14 rfl) rfl rfl
theorem zl_injectX (htr : l.stackTraces = false) {x y z : Int32} (h : ¬ (zs_ir x ∧ zs_ch y)) : zg_C l (zs_E P) (d + 8) mL_inject [.ref (zp_B P), .int x, .int y, .int z, .ref (zp_B P + 75)] (zs_σ P S th S2 o w) (.inl (some (.int (nI 1))), zs_exc (zs_σ P S th S2 o w)) := by
  refine zg_C_of (by decide +kernel) (Nat.le_of_ble_eq_true rfl) ?_
  refine zg_aload (zd_t dmL_inject 0 rfl) rfl ?_
  refine zg_iconst (v := (nI 0)) (zd_t dmL_inject 1 rfl) (by decide) ?_
  refine zg_aload_n (zd_t dmL_inject 2 rfl) rfl ?_
  refine zg_iload_n (zd_t dmL_inject 3 rfl) rfl ?_
  refine zg_iload_n (zd_t dmL_inject 4 rfl) rfl ?_
  refine zg_iload_n (zd_t dmL_inject 5 rfl) rfl ?_
  refine zg_callVC (zd_t dmL_inject 6 rfl) zl_L_43 zm_mU_inject zi_mU_inject zse_mU_inject zs_0 zs_cl0 rfl (av := _) (rest := _) (by rfl) (by rfl) (by exact Nat.le_of_ble_eq_true rfl) (zu_injectX htr h) (hp := 15) zh_inject_IOB ?_
  refine zg_astore (zd_t dmL_inject 10 rfl) (by decide) rfl ?_
  refine zg_iconst (v := (nI 1)) (zd_t dmL_inject 11 rfl) (by decide) ?_
  exact zg_iret (zd_t dmL_inject 12 rfl) rfl rfl
theorem zl_verify (hi : i < 16) (hI : zs_inv S) : zg_C l (zs_E P) (d + 7) mL_verify [.ref (zp_B P), .int (nI i), .ref (zp_B P + 75)] (zs_σ P S th S2 o w) (.inl (some (.int (nI 0))), zs_σ P (S) th S2 ((nI (mz_fault (zs_re S i))).toInt64) w) := by
  refine zg_C_of (by decide +kernel) (Nat.le_of_ble_eq_true rfl) ?_
  refine zg_aload_n (zd_t dmL_verify 0 rfl) rfl ?_
  refine zg_iconst (v := (nI 0)) (zd_t dmL_verify 1 rfl) (by decide) ?_
  refine zg_aload_n (zd_t dmL_verify 2 rfl) rfl ?_
  refine zg_iload_n (zd_t dmL_verify 3 rfl) rfl ?_
  refine zg_callV (zd_t dmL_verify 4 rfl) zl_L_47 zm_mU_verify zi_mU_verify zse_mU_verify zs_0 zs_cl0 rfl (av := _) (rest := _) (by rfl) (by rfl) (by exact Nat.le_of_ble_eq_true rfl) (zu_verify hi hI) ?_
  refine zg_i2l (zd_t dmL_verify 5 rfl) rfl ?_
  refine zg_last (k := 0) (t0 := 1) (zd_t dmL_verify 6 rfl) zs_m8 rfl rfl (by decide) (by decide) zs_up_out ?_
  refine zg_goto (tgt := 15) (zd_t dmL_verify 7 rfl) (by decide) ?_
  refine zg_iconst (v := (nI 0)) (zd_t dmL_verify 11 rfl) (by decide) ?_
  exact zg_iret (zd_t dmL_verify 12 rfl) rfl rfl
theorem zl_verifyX (htr : l.stackTraces = false) {x : Int32} (h : ¬ zs_ir x) : zg_C l (zs_E P) (d + 8) mL_verify [.ref (zp_B P), .int x, .ref (zp_B P + 75)] (zs_σ P S th S2 o w) (.inl (some (.int (nI 1))), zs_exc (zs_σ P S th S2 o w)) := by
  refine zg_C_of (by decide +kernel) (Nat.le_of_ble_eq_true rfl) ?_
  refine zg_aload_n (zd_t dmL_verify 0 rfl) rfl ?_
  refine zg_iconst (v := (nI 0)) (zd_t dmL_verify 1 rfl) (by decide) ?_
  refine zg_aload_n (zd_t dmL_verify 2 rfl) rfl ?_
  refine zg_iload_n (zd_t dmL_verify 3 rfl) rfl ?_
  refine zg_callVC (zd_t dmL_verify 4 rfl) zl_L_47 zm_mU_verify zi_mU_verify zse_mU_verify zs_0 zs_cl0 rfl (av := _) (rest := _) (by rfl) (by rfl) (by exact Nat.le_of_ble_eq_true rfl) (zu_verifyX htr h) (hp := 12) zh_verify_IOB ?_
  refine zg_astore_n (zd_t dmL_verify 8 rfl) (by decide) rfl ?_
  refine zg_iconst (v := (nI 1)) (zd_t dmL_verify 9 rfl) (by decide) ?_
  exact zg_iret (zd_t dmL_verify 10 rfl) rfl rfl
theorem zl_repair (hi : i < 16) (hI : zs_inv S) (h9 : mz_fault (zs_re S i) ≠ 9) : zg_C l (zs_E P) (d + 7) mL_repair [.ref (zp_B P), .int (nI i), .ref (zp_B P + 75)] (zs_σ P S th S2 o w) (.inl (some (.int (nI 0))), zs_σ P (zs_srp S i) th S2 ((nI (mz_fault (zs_re S i))).toInt64) w) := by
  refine zg_C_of (by decide +kernel) (Nat.le_of_ble_eq_true rfl) ?_
  refine zg_aload_n (zd_t dmL_repair 0 rfl) rfl ?_
  refine zg_iconst (v := (nI 0)) (zd_t dmL_repair 1 rfl) (by decide) ?_
  refine zg_aload_n (zd_t dmL_repair 2 rfl) rfl ?_
  refine zg_iload_n (zd_t dmL_repair 3 rfl) rfl ?_
  refine zg_callV (zd_t dmL_repair 4 rfl) zl_L_51 zm_mU_repair zi_mU_repair zse_mU_repair zs_0 zs_cl0 rfl (av := _) (rest := _) (by rfl) (by rfl) (by exact Nat.le_of_ble_eq_true rfl) (zu_repair hi hI h9) ?_
  refine zg_i2l (zd_t dmL_repair 5 rfl) rfl ?_
  refine zg_last (k := 0) (t0 := 1) (zd_t dmL_repair 6 rfl) zs_m8 rfl rfl (by decide) (by decide) zs_up_out ?_
  refine zg_goto (tgt := 18) (zd_t dmL_repair 7 rfl) (by decide) ?_
  refine zg_iconst (v := (nI 0)) (zd_t dmL_repair 14 rfl) (by decide) ?_
  exact zg_iret (zd_t dmL_repair 15 rfl) rfl rfl
theorem zl_repairX (htr : l.stackTraces = false) {x : Int32} (h : ¬ zs_ir x) : zg_C l (zs_E P) (d + 8) mL_repair [.ref (zp_B P), .int x, .ref (zp_B P + 75)] (zs_σ P S th S2 o w) (.inl (some (.int (nI 1))), zs_exc (zs_σ P S th S2 o w)) := by
  refine zg_C_of (by decide +kernel) (Nat.le_of_ble_eq_true rfl) ?_
  refine zg_aload_n (zd_t dmL_repair 0 rfl) rfl ?_
  refine zg_iconst (v := (nI 0)) (zd_t dmL_repair 1 rfl) (by decide) ?_
  refine zg_aload_n (zd_t dmL_repair 2 rfl) rfl ?_
  refine zg_iload_n (zd_t dmL_repair 3 rfl) rfl ?_
  refine zg_callVC (zd_t dmL_repair 4 rfl) zl_L_51 zm_mU_repair zi_mU_repair zse_mU_repair zs_0 zs_cl0 rfl (av := _) (rest := _) (by rfl) (by rfl) (by exact Nat.le_of_ble_eq_true rfl) (zu_repairX htr h) (hp := 12) zh_repair_IOB ?_
  refine zg_astore_n (zd_t dmL_repair 8 rfl) (by decide) rfl ?_
  refine zg_iconst (v := (nI 1)) (zd_t dmL_repair 9 rfl) (by decide) ?_
  exact zg_iret (zd_t dmL_repair 10 rfl) rfl rfl
theorem zl_repairY (htr : l.stackTraces = false) (hi : i < 16) (hI : zs_inv S) (h9 : mz_fault (zs_re S i) = 9) : zg_C l (zs_E P) (d + 8) mL_repair [.ref (zp_B P), .int (nI i), .ref (zp_B P + 75)] (zs_σ P S th S2 o w) (.inl (some (.int (nI 2))), zs_exc (zs_σ P S th S2 o w)) := by
  refine zg_C_of (by decide +kernel) (Nat.le_of_ble_eq_true rfl) ?_
  refine zg_aload_n (zd_t dmL_repair 0 rfl) rfl ?_
  refine zg_iconst (v := (nI 0)) (zd_t dmL_repair 1 rfl) (by decide) ?_
  refine zg_aload_n (zd_t dmL_repair 2 rfl) rfl ?_
  refine zg_iload_n (zd_t dmL_repair 3 rfl) rfl ?_
  refine zg_callVC (zd_t dmL_repair 4 rfl) zl_L_51 zm_mU_repair zi_mU_repair zse_mU_repair zs_0 zs_cl0 rfl (av := _) (rest := _) (by rfl) (by rfl) (by exact Nat.le_of_ble_eq_true rfl) (zu_repairY htr hi hI h9) (hp := 15) zh_repair_ISE ?_
  refine zg_astore_n (zd_t dmL_repair 11 rfl) (by decide) rfl ?_
  refine zg_iconst (v := (nI 2)) (zd_t dmL_repair 12 rfl) (by decide) ?_
  exact zg_iret (zd_t dmL_repair 13 rfl) rfl rfl
theorem zl_sure (hi : i < 16) : zg_C l (zs_E P) (d + 7) mL_sure [.ref (zp_B P), .int (nI i), .ref (zp_B P + 75)] (zs_σ P S th S2 o w) (.inl (some (.int (nI 0))), zs_σ P (S) th S2 (mz_L (if zs_su S i = true then 1 else 0)) w) := by
  refine zg_C_of (by decide +kernel) (Nat.le_of_ble_eq_true rfl) ?_
  refine zg_aload_n (zd_t dmL_sure 0 rfl) rfl ?_
  refine zg_iconst (v := (nI 0)) (zd_t dmL_sure 1 rfl) (by decide) ?_
  refine zg_aload_n (zd_t dmL_sure 2 rfl) rfl ?_
  refine zg_iload_n (zd_t dmL_sure 3 rfl) rfl ?_
  refine zg_callV (zd_t dmL_sure 4 rfl) zl_L_54 zm_mU_sure zi_mU_sure zse_mU_sure zs_0 zs_cl0 rfl (av := _) (rest := _) (by rfl) (by rfl) (by exact Nat.le_of_ble_eq_true rfl) (zu_sure hi) ?_
  cases zs_su S i with
  | false =>
    refine zg_if_eq (tgt := 14) (zd_t dmL_sure 5 rfl) (by decide) (fun _ => ?_) (fun hq => absurd (by decide) hq)
    refine zg_lconst (v := mz_L 0) (zd_t dmL_sure 8 rfl) (by decide) ?_
    refine zg_last (k := 0) (t0 := 1) (zd_t dmL_sure 9 rfl) zs_m8 rfl rfl (by decide) (by decide) zs_up_out ?_
    refine zg_goto (tgt := 22) (zd_t dmL_sure 10 rfl) (by decide) ?_
    refine zg_iconst (v := (nI 0)) (zd_t dmL_sure 14 rfl) (by decide) ?_
    exact zg_iret (zd_t dmL_sure 15 rfl) rfl rfl
  | true =>
    refine zg_if_eq (tgt := 14) (zd_t dmL_sure 5 rfl) (by decide) (fun hq => absurd hq (by decide)) (fun _ => ?_)
    refine zg_lconst (v := mz_L 1) (zd_t dmL_sure 6 rfl) (by decide) ?_
    refine zg_goto (tgt := 15) (zd_t dmL_sure 7 rfl) (by decide) ?_
    refine zg_last (k := 0) (t0 := 1) (zd_t dmL_sure 9 rfl) zs_m8 rfl rfl (by decide) (by decide) zs_up_out ?_
    refine zg_goto (tgt := 22) (zd_t dmL_sure 10 rfl) (by decide) ?_
    refine zg_iconst (v := (nI 0)) (zd_t dmL_sure 14 rfl) (by decide) ?_
    exact zg_iret (zd_t dmL_sure 15 rfl) rfl rfl
theorem zl_sureX (htr : l.stackTraces = false) {x : Int32} (h : ¬ zs_ir x) : zg_C l (zs_E P) (d + 8) mL_sure [.ref (zp_B P), .int x, .ref (zp_B P + 75)] (zs_σ P S th S2 o w) (.inl (some (.int (nI 1))), zs_exc (zs_σ P S th S2 o w)) := by
  refine zg_C_of (by decide +kernel) (Nat.le_of_ble_eq_true rfl) ?_
  refine zg_aload_n (zd_t dmL_sure 0 rfl) rfl ?_
  refine zg_iconst (v := (nI 0)) (zd_t dmL_sure 1 rfl) (by decide) ?_
  refine zg_aload_n (zd_t dmL_sure 2 rfl) rfl ?_
  refine zg_iload_n (zd_t dmL_sure 3 rfl) rfl ?_
  refine zg_callVC (zd_t dmL_sure 4 rfl) zl_L_54 zm_mU_sure zi_mU_sure zse_mU_sure zs_0 zs_cl0 rfl (av := _) (rest := _) (by rfl) (by rfl) (by exact Nat.le_of_ble_eq_true rfl) (zu_sureX htr h) (hp := 19) zh_sure_IOB ?_
  refine zg_astore_n (zd_t dmL_sure 11 rfl) (by decide) rfl ?_
  refine zg_iconst (v := (nI 1)) (zd_t dmL_sure 12 rfl) (by decide) ?_
  exact zg_iret (zd_t dmL_sure 13 rfl) rfl rfl
theorem zl_bound {n : Nat} (hi : i < 16) (hn : n < 2) (hs : zs_su S i = true) : zg_C l (zs_E P) (d + 7) mL_bound [.ref (zp_B P), .int (nI i), .int (nI n), .ref (zp_B P + 75)] (zs_σ P S th S2 o w) (.inl (some (.int (nI 0))), zs_σ P (S) th S2 (mz_L (zs_ex S i)) w) := by
  refine zg_C_of (by decide +kernel) (Nat.le_of_ble_eq_true rfl) ?_
  refine zg_aload_n (zd_t dmL_bound 0 rfl) rfl ?_
  refine zg_iconst (v := (nI 0)) (zd_t dmL_bound 1 rfl) (by decide) ?_
  refine zg_aload_n (zd_t dmL_bound 2 rfl) rfl ?_
  refine zg_iload_n (zd_t dmL_bound 3 rfl) rfl ?_
  refine zg_iload_n (zd_t dmL_bound 4 rfl) rfl ?_
  refine zg_callV (zd_t dmL_bound 5 rfl) zl_L_58 zm_mU_bound zi_mU_bound zse_mU_bound zs_0 zs_cl0 rfl (av := _) (rest := _) (by rfl) (by rfl) (by exact Nat.le_of_ble_eq_true rfl) (zu_bound hi hn hs) ?_
  refine zg_last (k := 0) (t0 := 1) (zd_t dmL_bound 6 rfl) zs_m8 rfl rfl (by decide) (by decide) zs_up_out ?_
  refine zg_goto (tgt := 24) (zd_t dmL_bound 7 rfl) (by decide) ?_
  refine zg_iconst (v := (nI 0)) (zd_t dmL_bound 17 rfl) (by decide) ?_
  exact zg_iret (zd_t dmL_bound 18 rfl) rfl rfl
theorem zl_boundX (htr : l.stackTraces = false) {x y : Int32} (h : ¬ zs_ir x) : zg_C l (zs_E P) (d + 8) mL_bound [.ref (zp_B P), .int x, .int y, .ref (zp_B P + 75)] (zs_σ P S th S2 o w) (.inl (some (.int (nI 1))), zs_exc (zs_σ P S th S2 o w)) := by
  refine zg_C_of (by decide +kernel) (Nat.le_of_ble_eq_true rfl) ?_
  refine zg_aload_n (zd_t dmL_bound 0 rfl) rfl ?_
  refine zg_iconst (v := (nI 0)) (zd_t dmL_bound 1 rfl) (by decide) ?_
  refine zg_aload_n (zd_t dmL_bound 2 rfl) rfl ?_
  refine zg_iload_n (zd_t dmL_bound 3 rfl) rfl ?_
  refine zg_iload_n (zd_t dmL_bound 4 rfl) rfl ?_
  refine zg_callVC (zd_t dmL_bound 5 rfl) zl_L_58 zm_mU_bound zi_mU_bound zse_mU_bound zs_0 zs_cl0 rfl (av := _) (rest := _) (by rfl) (by rfl) (by exact Nat.le_of_ble_eq_true rfl) (zu_boundX htr h) (hp := 12) zh_bound_IOB ?_
  refine zg_astore (zd_t dmL_bound 8 rfl) (by decide) rfl ?_
  refine zg_iconst (v := (nI 1)) (zd_t dmL_bound 9 rfl) (by decide) ?_
  exact zg_iret (zd_t dmL_bound 10 rfl) rfl rfl
theorem zl_boundY (htr : l.stackTraces = false) {n : Int32} (hi : i < 16) (hn : ¬ (n = 0 ∨ n = 1)) : zg_C l (zs_E P) (d + 8) mL_bound [.ref (zp_B P), .int (nI i), .int n, .ref (zp_B P + 75)] (zs_σ P S th S2 o w) (.inl (some (.int (nI 2))), zs_exc (zs_σ P S th S2 o w)) := by
  refine zg_C_of (by decide +kernel) (Nat.le_of_ble_eq_true rfl) ?_
  refine zg_aload_n (zd_t dmL_bound 0 rfl) rfl ?_
  refine zg_iconst (v := (nI 0)) (zd_t dmL_bound 1 rfl) (by decide) ?_
  refine zg_aload_n (zd_t dmL_bound 2 rfl) rfl ?_
  refine zg_iload_n (zd_t dmL_bound 3 rfl) rfl ?_
  refine zg_iload_n (zd_t dmL_bound 4 rfl) rfl ?_
  refine zg_callVC (zd_t dmL_bound 5 rfl) zl_L_58 zm_mU_bound zi_mU_bound zse_mU_bound zs_0 zs_cl0 rfl (av := _) (rest := _) (by rfl) (by rfl) (by exact Nat.le_of_ble_eq_true rfl) (zu_boundY htr hi hn) (hp := 16) zh_bound_IAE ?_
  refine zg_astore (zd_t dmL_bound 11 rfl) (by decide) rfl ?_
  refine zg_iconst (v := (nI 2)) (zd_t dmL_bound 12 rfl) (by decide) ?_
  exact zg_iret (zd_t dmL_bound 13 rfl) rfl rfl
theorem zl_boundZ (htr : l.stackTraces = false) {n : Nat} (hi : i < 16) (hn : n < 2) (hs : zs_su S i = false) : zg_C l (zs_E P) (d + 8) mL_bound [.ref (zp_B P), .int (nI i), .int (nI n), .ref (zp_B P + 75)] (zs_σ P S th S2 o w) (.inl (some (.int (nI 3))), zs_exc (zs_σ P S th S2 o w)) := by
  refine zg_C_of (by decide +kernel) (Nat.le_of_ble_eq_true rfl) ?_
  refine zg_aload_n (zd_t dmL_bound 0 rfl) rfl ?_
  refine zg_iconst (v := (nI 0)) (zd_t dmL_bound 1 rfl) (by decide) ?_
  refine zg_aload_n (zd_t dmL_bound 2 rfl) rfl ?_
  refine zg_iload_n (zd_t dmL_bound 3 rfl) rfl ?_
  refine zg_iload_n (zd_t dmL_bound 4 rfl) rfl ?_
  refine zg_callVC (zd_t dmL_bound 5 rfl) zl_L_58 zm_mU_bound zi_mU_bound zse_mU_bound zs_0 zs_cl0 rfl (av := _) (rest := _) (by rfl) (by rfl) (by exact Nat.le_of_ble_eq_true rfl) (zu_boundZ htr hi hn hs) (hp := 20) zh_bound_ISE ?_
  refine zg_astore (zd_t dmL_bound 14 rfl) (by decide) rfl ?_
  refine zg_iconst (v := (nI 3)) (zd_t dmL_bound 15 rfl) (by decide) ?_
  exact zg_iret (zd_t dmL_bound 16 rfl) rfl rfl
theorem zl_instruct {x y z u : Int32} (hi : i < 32) (ha : zs_alw x y z u = true) : zg_C l (zs_E P) (d + 7) mL_instruct [.ref (zp_B P), .int (nI i), .int x, .int y, .int z, .int u] (zs_σ P S th S2 o w) (.inl (some (.int (nI 0))), zs_σ P (zs_sins S i x y z u) th S2 o w) := by
  refine zg_C_of (by decide +kernel) (Nat.le_of_ble_eq_true rfl) ?_
  refine zg_aload_n (zd_t dmL_instruct 0 rfl) rfl ?_
  refine zg_iload_n (zd_t dmL_instruct 1 rfl) rfl ?_
  refine zg_iload_n (zd_t dmL_instruct 2 rfl) rfl ?_
  refine zg_iload_n (zd_t dmL_instruct 3 rfl) rfl ?_
  refine zg_iload (zd_t dmL_instruct 4 rfl) rfl ?_
  refine zg_iload (zd_t dmL_instruct 5 rfl) rfl ?_
  refine zg_callV (zd_t dmL_instruct 6 rfl) zl_L_62 zm_mU_instruct zi_mU_instruct zse_mU_instruct zs_0 zs_cl0 rfl (av := _) (rest := _) (by rfl) (by rfl) (by exact Nat.le_of_ble_eq_true rfl) (zu_instruct hi ha) ?_
  refine zg_goto (tgt := 22) (zd_t dmL_instruct 7 rfl) (by decide) ?_
  refine zg_iconst (v := (nI 0)) (zd_t dmL_instruct 14 rfl) (by decide) ?_
  exact zg_iret (zd_t dmL_instruct 15 rfl) rfl rfl
theorem zl_instructX (htr : l.stackTraces = false) {r x y z u : Int32} (h : ¬ zs_ii r) : zg_C l (zs_E P) (d + 8) mL_instruct [.ref (zp_B P), .int r, .int x, .int y, .int z, .int u] (zs_σ P S th S2 o w) (.inl (some (.int (nI 1))), zs_exc (zs_σ P S th S2 o w)) := by
  refine zg_C_of (by decide +kernel) (Nat.le_of_ble_eq_true rfl) ?_
  refine zg_aload_n (zd_t dmL_instruct 0 rfl) rfl ?_
  refine zg_iload_n (zd_t dmL_instruct 1 rfl) rfl ?_
  refine zg_iload_n (zd_t dmL_instruct 2 rfl) rfl ?_
  refine zg_iload_n (zd_t dmL_instruct 3 rfl) rfl ?_
  refine zg_iload (zd_t dmL_instruct 4 rfl) rfl ?_
  refine zg_iload (zd_t dmL_instruct 5 rfl) rfl ?_
  refine zg_callVC (zd_t dmL_instruct 6 rfl) zl_L_62 zm_mU_instruct zi_mU_instruct zse_mU_instruct zs_0 zs_cl0 rfl (av := _) (rest := _) (by rfl) (by rfl) (by exact Nat.le_of_ble_eq_true rfl) (zu_instructX htr h) (hp := 14) zh_instruct_IOB ?_
  refine zg_astore (zd_t dmL_instruct 8 rfl) (by decide) rfl ?_
  refine zg_iconst (v := (nI 1)) (zd_t dmL_instruct 9 rfl) (by decide) ?_
  exact zg_iret (zd_t dmL_instruct 10 rfl) rfl rfl
theorem zl_instructY (htr : l.stackTraces = false) {r x y z u : Int32} (h : zs_ii r) (ha : zs_alw x y z u = false) : zg_C l (zs_E P) (d + 8) mL_instruct [.ref (zp_B P), .int r, .int x, .int y, .int z, .int u] (zs_σ P S th S2 o w) (.inl (some (.int (nI 2))), zs_exc (zs_σ P S th S2 o w)) := by
  refine zg_C_of (by decide +kernel) (Nat.le_of_ble_eq_true rfl) ?_
  refine zg_aload_n (zd_t dmL_instruct 0 rfl) rfl ?_
  refine zg_iload_n (zd_t dmL_instruct 1 rfl) rfl ?_
  refine zg_iload_n (zd_t dmL_instruct 2 rfl) rfl ?_
  refine zg_iload_n (zd_t dmL_instruct 3 rfl) rfl ?_
  refine zg_iload (zd_t dmL_instruct 4 rfl) rfl ?_
  refine zg_iload (zd_t dmL_instruct 5 rfl) rfl ?_
  refine zg_callVC (zd_t dmL_instruct 6 rfl) zl_L_62 zm_mU_instruct zi_mU_instruct zse_mU_instruct zs_0 zs_cl0 rfl (av := _) (rest := _) (by rfl) (by rfl) (by exact Nat.le_of_ble_eq_true rfl) (zu_instructY htr h ha) (hp := 18) zh_instruct_IAE ?_
  refine zg_astore (zd_t dmL_instruct 11 rfl) (by decide) rfl ?_
  refine zg_iconst (v := (nI 2)) (zd_t dmL_instruct 12 rfl) (by decide) ?_
  exact zg_iret (zd_t dmL_instruct 13 rfl) rfl rfl
theorem zl_run {f : Nat} (hf : f ≤ 2000) (hI : zs_inv S) : zg_C l (zs_E P) (d + 7) mL_run [.ref (zp_B P), .int (nI f), .ref (zp_B P + 75)] (zs_σ P S th S2 o w) (.inl (some (.int (nI 0))), zs_σ P (zs_srun S f) th S2 ((nI (zs_rn f (zs_scn S 0) 0).1).toInt64) w) := by
  refine zg_C_of (by decide +kernel) (Nat.le_of_ble_eq_true rfl) ?_
  refine zg_aload_n (zd_t dmL_run 0 rfl) rfl ?_
  refine zg_iconst (v := (nI 0)) (zd_t dmL_run 1 rfl) (by decide) ?_
  refine zg_aload_n (zd_t dmL_run 2 rfl) rfl ?_
  refine zg_iload_n (zd_t dmL_run 3 rfl) rfl ?_
  refine zg_callV (zd_t dmL_run 4 rfl) zl_L_66 zm_mU_run zi_mU_run zse_mU_run zs_0 zs_cl0 rfl (av := _) (rest := _) (by rfl) (by rfl) (by exact Nat.le_of_ble_eq_true rfl) (zu_run hf hI) ?_
  refine zg_i2l (zd_t dmL_run 5 rfl) rfl ?_
  refine zg_last (k := 0) (t0 := 1) (zd_t dmL_run 6 rfl) zs_m8 rfl rfl (by decide) (by decide) zs_up_out ?_
  refine zg_goto (tgt := 15) (zd_t dmL_run 7 rfl) (by decide) ?_
  refine zg_iconst (v := (nI 0)) (zd_t dmL_run 11 rfl) (by decide) ?_
  exact zg_iret (zd_t dmL_run 12 rfl) rfl rfl
theorem zl_runX (htr : l.stackTraces = false) {f : Int32} (h : ¬ (0 ≤ f.toInt ∧ f.toInt ≤ 2000)) : zg_C l (zs_E P) (d + 8) mL_run [.ref (zp_B P), .int f, .ref (zp_B P + 75)] (zs_σ P S th S2 o w) (.inl (some (.int (nI 1))), zs_exc (zs_σ P S th S2 o w)) := by
  refine zg_C_of (by decide +kernel) (Nat.le_of_ble_eq_true rfl) ?_
  refine zg_aload_n (zd_t dmL_run 0 rfl) rfl ?_
  refine zg_iconst (v := (nI 0)) (zd_t dmL_run 1 rfl) (by decide) ?_
  refine zg_aload_n (zd_t dmL_run 2 rfl) rfl ?_
  refine zg_iload_n (zd_t dmL_run 3 rfl) rfl ?_
  refine zg_callVC (zd_t dmL_run 4 rfl) zl_L_66 zm_mU_run zi_mU_run zse_mU_run zs_0 zs_cl0 rfl (av := _) (rest := _) (by rfl) (by rfl) (by exact Nat.le_of_ble_eq_true rfl) (zu_runX htr h) (hp := 12) zh_run_IAE ?_
  refine zg_astore_n (zd_t dmL_run 8 rfl) (by decide) rfl ?_
  refine zg_iconst (v := (nI 1)) (zd_t dmL_run 9 rfl) (by decide) ?_
  exact zg_iret (zd_t dmL_run 10 rfl) rfl rfl
end ZM12
end
section
theorem zs_q8 {i k : Nat} (h : k < 8) : (8 * i + k) / 8 = i ∧ (8 * i + k) % 8 = k := by omega
theorem zs_q4 {i k : Nat} (h : k < 4) : (4 * i + k) / 4 = i ∧ (4 * i + k) % 4 = k := by omega
theorem zs_ix8 (i k : Nat) : nI 8 * nI i + nI k = nI (8 * i + k) := by rw [pk_mul, nI_add]
theorem zs_ix4 (i k : Nat) : nI 4 * nI i + nI k = nI (4 * i + k) := by rw [pk_mul, nI_add]
def zs_rc (b1 b2 b3 : Bool) : Nat := if b1 = true then 1 else if b2 = true then 2 else if b3 = true then 3 else 0
section ZM13
variable {l : Launch} {P : zs_P} {d : Nat} {S : zs_S} {T : zs_S} {h : Nat → Int} {th : Int32} {o : Int64} {w : Nat × Nat} {e a b i k : Nat}
theorem zs_um_th {v : Int32} : zg_up (zs_σ P S th (T, h) o w) (zp_B P + 67) (.inr (zc_M, [.int v, .ref (zp_B P + 68), .ref (zp_B P + 69), .ref (zp_B P + 70), .ref (zp_B P + 71), .ref (zp_B P + 72), .ref (zp_B P + 73), .long (mz_L 175107974924611), .long (mz_L 87553987462305), .ref (zp_B P + 74), .int (zs_cn T), .int (zs_sr T)])) = zs_σ P S v (T, h) o w := by
  refine zs_put zs_m0 (zs_hp_m (n := 0) fun n hn => ?_)
  unfold zs_mc
  rw [if_neg hn, if_neg hn]
theorem zs_um_cn {v : Int32} : zg_up (zs_σ P S th (T, h) o w) (zp_B P + 67) (.inr (zc_M, [.int th, .ref (zp_B P + 68), .ref (zp_B P + 69), .ref (zp_B P + 70), .ref (zp_B P + 71), .ref (zp_B P + 72), .ref (zp_B P + 73), .long (mz_L 175107974924611), .long (mz_L 87553987462305), .ref (zp_B P + 74), .int v, .int (zs_sr T)])) = zs_σ P S th (zs_scn T v, h) o w := by
  refine zs_put zs_m0 (zs_hp_m (n := 0) fun n hn => ?_)
  unfold zs_mc
  rw [if_neg hn, if_neg hn]
  rfl
theorem zs_um_sr {v : Int32} : zg_up (zs_σ P S th (T, h) o w) (zp_B P + 67) (.inr (zc_M, [.int th, .ref (zp_B P + 68), .ref (zp_B P + 69), .ref (zp_B P + 70), .ref (zp_B P + 71), .ref (zp_B P + 72), .ref (zp_B P + 73), .long (mz_L 175107974924611), .long (mz_L 87553987462305), .ref (zp_B P + 74), .int (zs_cn T), .int v])) = zs_σ P S th (zs_ssr T v, h) o w := by
  refine zs_put zs_m0 (zs_hp_m (n := 0) fun n hn => ?_)
  unfold zs_mc
  rw [if_neg hn, if_neg hn]
  rfl
theorem zs_um_re {v : Nat} (hk : k < 8) : zg_up (zs_σ P S th (T, h) o w) (zp_B P + 69) (.inl (zp_ca P 0, 128, .inl (upd (fun j => nI (zs_re T (j / 8) (j % 8))) (8 * i + k) (nI v)))) = zs_σ P S th (zs_sre T i k v, h) o w := by
  refine zs_put ?_ (zs_hp_m (n := 2) fun n hn => ?_)
  · rw [zs_m2]
    congr 4
    refine congrArg Sum.inl (funext fun j => ?_)
    show nI (if j / 8 = i ∧ j % 8 = k then v else zs_re T (j / 8) (j % 8)) = if j = 8 * i + k then nI v else nI (zs_re T (j / 8) (j % 8))
    by_cases hj : j = 8 * i + k
    · rw [if_pos hj, if_pos (by omega)]
    · rw [if_neg hj, if_neg (by omega)]
  · unfold zs_mc
    rw [if_neg hn, if_neg hn]
    rfl
theorem zs_um_lo {v : Int} : zg_up (zs_σ P S th (T, h) o w) (zp_B P + 70) (.inl (zp_ca P 1, 16, .inr (.inl (vp_updL (fun j => mz_L (zs_ex T j)) i (mz_L v))))) = zs_σ P S th (zs_sex T i v, h) o w := by
  refine zs_put ?_ (zs_hp_m (n := 3) fun n hn => ?_)
  · rw [zs_m3]
    congr 5
    refine congrArg Sum.inl (funext fun j => ?_)
    show mz_L (if j = i then v else zs_ex T j) = if j = i then mz_L v else mz_L (zs_ex T j)
    split <;> rfl
  · unfold zs_mc
    rw [if_neg hn, if_neg hn]
    rfl
theorem zs_um_hi {v : Int} : zg_up (zs_σ P S th (T, h) o w) (zp_B P + 71) (.inl (zp_ca P 1, 16, .inr (.inl (vp_updL (fun j => mz_L (h j)) i (mz_L v))))) = zs_σ P S th (T, zs_u1 h i v) o w := by
  refine zs_put ?_ (zs_hp_m (n := 4) fun n hn => ?_)
  · rw [zs_m4]
    congr 5
    refine congrArg Sum.inl (funext fun j => ?_)
    show mz_L (if j = i then v else h j) = if j = i then mz_L v else mz_L (h j)
    split <;> rfl
  · unfold zs_mc
    rw [if_neg hn, if_neg hn]
theorem zs_um_su {v : Bool} : zg_up (zs_σ P S th (T, h) o w) (zp_B P + 72) (.inl (zp_ca P 2, 16, .inl (upd (fun j => zs_bi (zs_su T j)) i (zs_bi v)))) = zs_σ P S th (zs_ssu T i v, h) o w := by
  refine zs_put ?_ (zs_hp_m (n := 5) fun n hn => ?_)
  · rw [zs_m5]
    congr 4
    refine congrArg Sum.inl (funext fun j => ?_)
    show zs_bi (if j = i then v else zs_su T j) = if j = i then zs_bi v else zs_bi (zs_su T j)
    split <;> rfl
  · unfold zs_mc
    rw [if_neg hn, if_neg hn]
    rfl
theorem zs_um_pg {v : Int32} (hk : k < 4) : zg_up (zs_σ P S th (T, h) o w) (zp_B P + 74) (.inl (zp_ca P 0, 128, .inl (upd (fun j => zs_pg T (j / 4) (j % 4)) (4 * i + k) v))) = zs_σ P S th (zs_spg T i k v, h) o w := by
  refine zs_put ?_ (zs_hp_m (n := 7) fun n hn => ?_)
  · rw [zs_m7]
    congr 4
    refine congrArg Sum.inl (funext fun j => ?_)
    show (if j / 4 = i ∧ j % 4 = k then v else zs_pg T (j / 4) (j % 4)) = if j = 4 * i + k then v else zs_pg T (j / 4) (j % 4)
    by_cases hj : j = 4 * i + k
    · rw [if_pos hj, if_pos (by omega)]
    · rw [if_neg hj, if_neg (by omega)]
  · unfold zs_mc
    rw [if_neg hn, if_neg hn]
    rfl
theorem zm_refuse_t {c : Nat} (hc : c < 4) : zg_G l (zs_E P) d mM_refuse 26 [(0, .ref (zp_B P + 67))] [.int (nI c), .ref (zp_B P + 67)] (zs_σ P S th (T, h) o w) (.inl (some (.int (zs_bi (decide (0 < c))))), zs_σ P S (nI c) (T, h) o w) := by
  refine zg_putf (zd_t dmM_refuse 14 rfl) zf_M_42 zt_3_0 zs_m0 (Nat.le_of_ble_eq_true rfl) rfl rfl zs_um_th ?_
  refine zg_aload_n (zd_t dmM_refuse 15 rfl) rfl ?_
  refine zg_getf (zd_t dmM_refuse 16 rfl) zf_M_42 zs_m0 rfl ?_
  by_cases h0 : c = 0
  · subst h0
    refine zg_if_le (tgt := 40) (zd_t dmM_refuse 17 rfl) (by decide) (fun _ => ?_) (fun hq => absurd (by decide) hq)
    refine zg_iconst (v := (nI 0)) (zd_t dmM_refuse 20 rfl) (by decide) ?_
    exact zg_zret (zd_t dmM_refuse 21 rfl) rfl rfl rfl
  · rw [decide_eq_true (by omega)]
    refine zg_if_le (tgt := 40) (zd_t dmM_refuse 17 rfl) (by decide) (fun hq => absurd hq (nI_nle (by omega) (by omega))) (fun _ => ?_)
    refine zg_iconst (v := (nI 1)) (zd_t dmM_refuse 18 rfl) (by decide) ?_
    refine zg_goto (tgt := 41) (zd_t dmM_refuse 19 rfl) (by decide) ?_
    exact zg_zret (zd_t dmM_refuse 21 rfl) rfl rfl rfl
theorem zm_refuse (b1 b2 b3 : Bool) : zg_C l (zs_E P) d mM_refuse [.ref (zp_B P + 67), .int (zs_bi b1), .int (zs_bi b2), .int (zs_bi b3)] (zs_σ P S th (T, h) o w) (.inl (some (.int (zs_bi (b1 || b2 || b3)))), zs_σ P S (nI (zs_rc b1 b2 b3)) (T, h) o w) := by
  refine zg_C_of (by decide +kernel) (Nat.le_of_ble_eq_true rfl) ?_
  refine zg_aload_n (zd_t dmM_refuse 0 rfl) rfl ?_
  refine zg_iload_n (zd_t dmM_refuse 1 rfl) rfl ?_
  cases b1 with
  | true =>
    refine zg_if_eq (tgt := 9) (zd_t dmM_refuse 2 rfl) (by decide) (fun hq => absurd hq (by decide)) (fun _ => ?_)
    refine zg_iconst (v := (nI 1)) (zd_t dmM_refuse 3 rfl) (by decide) ?_
    refine zg_goto (tgt := 26) (zd_t dmM_refuse 4 rfl) (by decide) ?_
    exact zg_lv [0] rfl (zm_refuse_t (c := 1) (by decide))
  | false =>
    refine zg_if_eq (tgt := 9) (zd_t dmM_refuse 2 rfl) (by decide) (fun _ => ?_) (fun hq => absurd (by decide) hq)
    refine zg_iload_n (zd_t dmM_refuse 5 rfl) rfl ?_
    cases b2 with
    | true =>
      refine zg_if_eq (tgt := 17) (zd_t dmM_refuse 6 rfl) (by decide) (fun hq => absurd hq (by decide)) (fun _ => ?_)
      refine zg_iconst (v := (nI 2)) (zd_t dmM_refuse 7 rfl) (by decide) ?_
      refine zg_goto (tgt := 26) (zd_t dmM_refuse 8 rfl) (by decide) ?_
      exact zg_lv [0] rfl (zm_refuse_t (c := 2) (by decide))
    | false =>
      refine zg_if_eq (tgt := 17) (zd_t dmM_refuse 6 rfl) (by decide) (fun _ => ?_) (fun hq => absurd (by decide) hq)
      refine zg_iload_n (zd_t dmM_refuse 9 rfl) rfl ?_
      cases b3 with
      | true =>
        refine zg_if_eq (tgt := 25) (zd_t dmM_refuse 10 rfl) (by decide) (fun hq => absurd hq (by decide)) (fun _ => ?_)
        refine zg_iconst (v := (nI 3)) (zd_t dmM_refuse 11 rfl) (by decide) ?_
        refine zg_goto (tgt := 26) (zd_t dmM_refuse 12 rfl) (by decide) ?_
        exact zg_lv [0] rfl (zm_refuse_t (c := 3) (by decide))
      | false =>
        refine zg_if_eq (tgt := 25) (zd_t dmM_refuse 10 rfl) (by decide) (fun _ => ?_) (fun hq => absurd (by decide) hq)
        refine zg_iconst (v := (nI 0)) (zd_t dmM_refuse 13 rfl) (by decide) ?_
        exact zg_lv [0] rfl (zm_refuse_t (c := 0) (by decide))
theorem zm_in {σ : zg_H} {x y z : Int} (hx : mz_wi x) (hy : mz_wi y) (hz : mz_wi z) : zg_C l (zs_E P) d mM_in [.long (mz_L x), .long (mz_L y), .long (mz_L z)] σ (.inl (some (.int (zs_bi (decide (y ≤ x ∧ x ≤ z))))), σ) := by
  refine zg_C_of (by decide +kernel) (Nat.le_of_ble_eq_true rfl) ?_
  refine zg_lload_n (zd_t dmM_in 0 rfl) rfl ?_
  refine zg_lload_n (zd_t dmM_in 1 rfl) rfl ?_
  refine zg_lcmp (zd_t dmM_in 2 rfl) ?_
  rw [mz_cmpW hx hy]
  by_cases h1 : y ≤ x
  · have e : ¬ (if y < x then (1 : Int32) else if x = y then 0 else -1) < 0 := by
      by_cases h2 : y < x
      · rw [if_pos h2]; decide
      · rw [if_neg h2, if_pos (by omega)]; decide
    refine zg_if_lt (tgt := 17) (zd_t dmM_in 3 rfl) (by decide) (fun hq => absurd hq e) (fun _ => ?_)
    refine zg_lload_n (zd_t dmM_in 4 rfl) rfl ?_
    refine zg_lload (zd_t dmM_in 5 rfl) rfl ?_
    refine zg_lcmp (zd_t dmM_in 6 rfl) ?_
    rw [mz_cmpW hx hz]
    by_cases h2 : x ≤ z
    · have e2 : ¬ 0 < (if z < x then (1 : Int32) else if x = z then 0 else -1) := by
        rw [if_neg (by omega)]
        split <;> decide
      refine zg_if_gt (tgt := 17) (zd_t dmM_in 7 rfl) (by decide) (fun hq => absurd hq e2) (fun _ => ?_)
      rw [decide_eq_true (by omega)]
      refine zg_iconst (v := (nI 1)) (zd_t dmM_in 8 rfl) (by decide) ?_
      refine zg_goto (tgt := 18) (zd_t dmM_in 9 rfl) (by decide) ?_
      exact zg_zret (zd_t dmM_in 11 rfl) rfl rfl rfl
    · have e2 : 0 < (if z < x then (1 : Int32) else if x = z then 0 else -1) := by
        rw [if_pos (by omega)]
        decide
      refine zg_if_gt (tgt := 17) (zd_t dmM_in 7 rfl) (by decide) (fun _ => ?_) (fun hq => absurd e2 hq)
      rw [decide_eq_false (by omega)]
      refine zg_iconst (v := (nI 0)) (zd_t dmM_in 10 rfl) (by decide) ?_
      exact zg_zret (zd_t dmM_in 11 rfl) rfl rfl rfl
  · have e : (if y < x then (1 : Int32) else if x = y then 0 else -1) < 0 := by
      rw [if_neg (by omega), if_neg (by omega)]
      decide
    refine zg_if_lt (tgt := 17) (zd_t dmM_in 3 rfl) (by decide) (fun _ => ?_) (fun hq => absurd e hq)
    rw [decide_eq_false (by omega)]
    refine zg_iconst (v := (nI 0)) (zd_t dmM_in 10 rfl) (by decide) ?_
    exact zg_zret (zd_t dmM_in 11 rfl) rfl rfl rfl
theorem zs_wi32 (x : Int32) : mz_wi x.toInt := by
  have h1 := Int32.le_toInt x
  have h2 := Int32.toInt_lt x
  unfold mz_wi
  omega
theorem zm_isRegister {σ : zg_H} (r : Int32) : zg_C l (zs_E P) (d + 1) mM_isRegister [.int r] σ (.inl (some (.int (zs_bi (decide (zs_ir r))))), σ) := by
  refine zg_C_of (by decide +kernel) (Nat.le_of_ble_eq_true rfl) ?_
  refine zg_iload_n (zd_t dmM_isRegister 0 rfl) rfl ?_
  refine zg_i2l (zd_t dmM_isRegister 1 rfl) rfl ?_
  rw [zs_i2l]
  refine zg_lconst (v := mz_L 0) (zd_t dmM_isRegister 2 rfl) (by decide) ?_
  refine zg_ldc2 (zd_t dmM_isRegister 3 rfl) zc_M_46 ?_
  refine zg_callS (zd_t dmM_isRegister 4 rfl) zl_M_48 zm_mM_in zst_mM_in (av := _) (rest := _) (by rfl) (by rfl) (by exact Nat.le_of_ble_eq_true rfl) (zm_in (x := r.toInt) (y := 0) (z := 15) (zs_wi32 r) (by unfold mz_wi; omega) (by unfold mz_wi; omega)) ?_
  refine zg_zret (zd_t dmM_isRegister 5 rfl) rfl (zs_nb _) ?_
  rw [show decide (zs_ir r) = decide (0 ≤ r.toInt ∧ r.toInt ≤ 15) from decide_eq_decide.mpr (by unfold zs_ir; omega)]
theorem zm_isInstruction {σ : zg_H} (r : Int32) : zg_C l (zs_E P) (d + 1) mM_isInstruction [.int r] σ (.inl (some (.int (zs_bi (decide (zs_ii r))))), σ) := by
  refine zg_C_of (by decide +kernel) (Nat.le_of_ble_eq_true rfl) ?_
  refine zg_iload_n (zd_t dmM_isInstruction 0 rfl) rfl ?_
  refine zg_i2l (zd_t dmM_isInstruction 1 rfl) rfl ?_
  rw [zs_i2l]
  refine zg_lconst (v := mz_L 0) (zd_t dmM_isInstruction 2 rfl) (by decide) ?_
  refine zg_ldc2 (zd_t dmM_isInstruction 3 rfl) zc_M_131 ?_
  refine zg_callS (zd_t dmM_isInstruction 4 rfl) zl_M_48 zm_mM_in zst_mM_in (av := _) (rest := _) (by rfl) (by rfl) (by exact Nat.le_of_ble_eq_true rfl) (zm_in (x := r.toInt) (y := 0) (z := 31) (zs_wi32 r) (by unfold mz_wi; omega) (by unfold mz_wi; omega)) ?_
  refine zg_zret (zd_t dmM_isInstruction 5 rfl) rfl (zs_nb _) ?_
  rw [show decide (zs_ii r) = decide (0 ≤ r.toInt ∧ r.toInt ≤ 31) from decide_eq_decide.mpr (by unfold zs_ii; omega)]
theorem zm_rest {σ : zg_H} {v : Int} {m : Nat} (hv : mz_in v) (h0 : 0 < m) (hm : m ≤ 256) : zg_C l (zs_E P) d mM_rest [.long (mz_L v), .int (nI m)] σ (.inl (some (.int (nI (v % (m : Int)).toNat))), σ) := by
  refine zg_C_of (by decide +kernel) (Nat.le_of_ble_eq_true rfl) ?_
  have hmi : mz_in (m : Int) := by unfold mz_in; omega
  have hz : mz_in 0 := by unfold mz_in; omega
  have hm0 : ¬ mz_L (m : Int) = 0 := fun h => by
    have : mz_L (m : Int) = mz_L 0 := h
    rw [mz_eq hmi hz] at this
    omega
  have h1 := Int.emod_nonneg v (show (m : Int) ≠ 0 by omega)
  have h2 := Int.emod_lt_of_pos v (show 0 < (m : Int) by omega)
  have h3 := mz_tm (a := v) (show 0 < (m : Int) by omega)
  have hti : mz_in (v.tmod (m : Int)) := by unfold mz_in; rcases h3 with h3 | h3 <;> omega
  refine zg_lload_n (zd_t dmM_rest 0 rfl) rfl ?_
  refine zg_iload_n (zd_t dmM_rest 1 rfl) rfl ?_
  refine zg_i2l (zd_t dmM_rest 2 rfl) rfl ?_
  rw [mz_i2l (show m < 2 ^ 31 by omega)]
  refine zg_lrem (zd_t dmM_rest 3 rfl) hm0 ?_
  rw [mz_rem hv hmi]
  refine zg_lstore_n (zd_t dmM_rest 4 rfl) (by decide) rfl ?_
  refine zg_lload_n (zd_t dmM_rest 5 rfl) rfl ?_
  refine zg_lconst (v := mz_L 0) (zd_t dmM_rest 6 rfl) (by decide) ?_
  refine zg_lcmp (zd_t dmM_rest 7 rfl) ?_
  refine zg_if_ge (tgt := 18) (zd_t dmM_rest 8 rfl) (by decide) (fun h4 => ?_) (fun h4 => ?_)
  · rw [lg_cmp_ge, mz_le hz hti] at h4
    refine zg_lload_n (zd_t dmM_rest 14 rfl) rfl ?_
    refine zg_l2i (zd_t dmM_rest 15 rfl) (v := nI (v % (m : Int)).toNat) ?_ ?_
    · have : v.tmod (m : Int) = ((v % (m : Int)).toNat : Int) := by rcases h3 with h3 | h3 <;> omega
      rw [this, mz_l2i]
    · exact zg_iret (zd_t dmM_rest 16 rfl) rfl rfl
  · rw [lg_cmp_ge, mz_le hz hti] at h4
    refine zg_lload_n (zd_t dmM_rest 9 rfl) rfl ?_
    refine zg_iload_n (zd_t dmM_rest 10 rfl) rfl ?_
    refine zg_i2l (zd_t dmM_rest 11 rfl) rfl ?_
    rw [mz_i2l (show m < 2 ^ 31 by omega)]
    refine zg_ladd (zd_t dmM_rest 12 rfl) ?_
    refine zg_goto (tgt := 19) (zd_t dmM_rest 13 rfl) (by decide) ?_
    rw [mz_add]
    refine zg_l2i (zd_t dmM_rest 15 rfl) (v := nI (v % (m : Int)).toNat) ?_ ?_
    · have : v.tmod (m : Int) + (m : Int) = ((v % (m : Int)).toNat : Int) := by rcases h3 with h3 | h3 <;> omega
      rw [this, mz_l2i]
    · exact zg_iret (zd_t dmM_rest 16 rfl) rfl rfl
/-- a row with another residue in the place before c -/
def mz_alt (ρ : Nat → Nat) (c v : Nat) : Nat → Nat := fun j => if j + 1 = c then v else ρ j
theorem zm_valueWith_lp {c v : Nat} (hi : i < 16) (hc : c ≤ 6) (hv : v ≤ 256) (hok : mz_ok (zs_re T i)) : ∀ (n k : Nat), k + n = 6 → zg_G l (zs_E P) d mM_valueWith 6 [(6, .int (nI k)), (4, .long (mz_L ((mz_sum (mz_alt (zs_re T i) c v) k % 175107974924611 : Nat) : Int))), (0, .ref (zp_B P + 67)), (1, .int (nI i)), (2, .int (nI c)), (3, .int (nI v))] [] (zs_σ P S th (T, h) o w) (.inl (some (.long (mz_L (mz_val (mz_alt (zs_re T i) c v))))), zs_σ P S th (T, h) o w) := by
  have hM : mz_in 175107974924611 := by unfold mz_in; omega
  have hH : mz_in 87553987462305 := by unfold mz_in; omega
  intro n
  induction n with
  | zero =>
    intro k hk
    have hk : k = 6 := by omega
    subst hk
    obtain ⟨q, hq⟩ : ∃ q : Nat, q = mz_sum (mz_alt (zs_re T i) c v) 6 % 175107974924611 := ⟨_, rfl⟩
    have hval : mz_val (mz_alt (zs_re T i) c v) = if (q : Int) > 87553987462305 then (q : Int) - 175107974924611 else (q : Int) := by rw [mz_val_sum, hq]
    rw [← hq]
    have hq3 : q < 175107974924611 := by omega
    have hqi : mz_in (q : Int) := by unfold mz_in; omega
    refine zg_iload (zd_t dmM_valueWith 4 rfl) rfl ?_
    refine zg_bipush (v := (nI 6)) (zd_t dmM_valueWith 5 rfl) (by decide) ?_
    refine zg_icmp_ge (tgt := 67) (zd_t dmM_valueWith 6 rfl) (by decide) (fun _ => ?_) (fun hq => absurd (by decide) hq)
    refine zg_lload (zd_t dmM_valueWith 39 rfl) rfl ?_
    refine zg_aload_n (zd_t dmM_valueWith 40 rfl) rfl ?_
    refine zg_getf (zd_t dmM_valueWith 41 rfl) zf_M_39 zs_m0 rfl ?_
    refine zg_lcmp (zd_t dmM_valueWith 42 rfl) ?_
    refine zg_if_le (tgt := 87) (zd_t dmM_valueWith 43 rfl) (by decide) (fun h1 => ?_) (fun h1 => ?_)
    · rw [lg_cmp_le, mz_le hqi hH] at h1
      refine zg_lload (zd_t dmM_valueWith 49 rfl) rfl ?_
      refine zg_lret (zd_t dmM_valueWith 50 rfl) rfl ?_
      rw [hval, if_neg (by omega)]
    · rw [lg_cmp_le, mz_le hqi hH] at h1
      refine zg_lload (zd_t dmM_valueWith 44 rfl) rfl ?_
      refine zg_aload_n (zd_t dmM_valueWith 45 rfl) rfl ?_
      refine zg_getf (zd_t dmM_valueWith 46 rfl) zf_M_33 zs_m0 rfl ?_
      refine zg_lsub (zd_t dmM_valueWith 47 rfl) ?_
      refine zg_goto (tgt := 89) (zd_t dmM_valueWith 48 rfl) (by decide) ?_
      refine zg_lret (zd_t dmM_valueWith 50 rfl) rfl ?_
      rw [hval, if_pos (by omega), mz_sub]
  | succ n ih =>
    intro k hk
    obtain ⟨q, hq⟩ : ∃ q : Nat, q = mz_sum (mz_alt (zs_re T i) c v) k % 175107974924611 := ⟨_, rfl⟩
    rw [← hq]
    have hq3 : q < 175107974924611 := by omega
    have hr := hok k (by omega)
    have hm := mz_m_lt k
    have hw : mz_w k ≤ 175000000000000 := by unfold mz_w; split <;> decide
    have tl : ∀ x : Nat, x = mz_alt (zs_re T i) c v k → x ≤ 256 → zg_G l (zs_E P) d mM_valueWith 39 [(6, .int (nI k)), (4, .long (mz_L (q : Int))), (0, .ref (zp_B P + 67)), (1, .int (nI i)), (2, .int (nI c)), (3, .int (nI v))] [.long (mz_L (x : Int))] (zs_σ P S th (T, h) o w) (.inl (some (.long (mz_L (mz_val (mz_alt (zs_re T i) c v))))), zs_σ P S th (T, h) o w) := by
      intro x hx hx2
      have hxw := Nat.mul_le_mul hx2 hw
      refine zg_lstore (zd_t dmM_valueWith 24 rfl) (by decide) rfl ?_
      refine zg_lload (zd_t dmM_valueWith 25 rfl) rfl ?_
      refine zg_lload (zd_t dmM_valueWith 26 rfl) rfl ?_
      refine zg_aload_n (zd_t dmM_valueWith 27 rfl) rfl ?_
      refine zg_getf (zd_t dmM_valueWith 28 rfl) zf_M_27 zs_m0 rfl ?_
      refine zg_iload (zd_t dmM_valueWith 29 rfl) rfl ?_
      refine zg_lald (t0 := 1) (zd_t dmM_valueWith 30 rfl) zs_m6 rfl rfl (show k < 6 by omega) (by decide) ?_
      rw [show zs_un k = mz_L (mz_w k : Int) from if_pos (by omega)]
      refine zg_lmul (zd_t dmM_valueWith 31 rfl) ?_
      refine zg_ladd (zd_t dmM_valueWith 32 rfl) ?_
      refine zg_aload_n (zd_t dmM_valueWith 33 rfl) rfl ?_
      refine zg_getf (zd_t dmM_valueWith 34 rfl) zf_M_33 zs_m0 rfl ?_
      rw [mz_mul, mz_add]
      refine zg_lrem (zd_t dmM_valueWith 35 rfl) (by decide) ?_
      rw [show (q : Int) + (x : Int) * (mz_w k : Int) = ((q + x * mz_w k : Nat) : Int) by omega]
      rw [mz_rem (by unfold mz_in; omega) hM, Int.tmod_eq_emod_of_nonneg (by omega)]
      have e : ((q + x * mz_w k : Nat) : Int) % 175107974924611 = ((mz_sum (mz_alt (zs_re T i) c v) (k + 1) % 175107974924611 : Nat) : Int) := by
        rw [show mz_sum (mz_alt (zs_re T i) c v) (k + 1) = mz_sum (mz_alt (zs_re T i) c v) k + mz_alt (zs_re T i) c v k * mz_w k from rfl, ← hx]
        omega
      rw [e]
      refine zg_lstore (zd_t dmM_valueWith 36 rfl) (by decide) rfl ?_
      refine zg_iinc (lv2 := [(6, .int (nI (k + 1))), (4, .long (mz_L ((mz_sum (mz_alt (zs_re T i) c v) (k + 1) % 175107974924611 : Nat) : Int))), (7, .long (mz_L (x : Int))), (0, .ref (zp_B P + 67)), (1, .int (nI i)), (2, .int (nI c)), (3, .int (nI v))]) (zd_t dmM_valueWith 37 rfl) rfl (mz_inc k) (by decide) rfl ?_
      refine zg_goto (tgt := 6) (zd_t dmM_valueWith 38 rfl) (by decide) ?_
      exact zg_lv [0, 1, 3, 4, 5, 6] rfl (ih (k + 1) (by omega))
    refine zg_iload (zd_t dmM_valueWith 4 rfl) rfl ?_
    refine zg_bipush (v := (nI 6)) (zd_t dmM_valueWith 5 rfl) (by decide) ?_
    refine zg_icmp_ge (tgt := 67) (zd_t dmM_valueWith 6 rfl) (by decide) (fun hq => absurd hq (fun h => absurd ((nI_leI (by decide) (by omega)).mp h) (by omega))) (fun _ => ?_)
    refine zg_iload (zd_t dmM_valueWith 7 rfl) rfl ?_
    refine zg_iconst (v := (nI 1)) (zd_t dmM_valueWith 8 rfl) (by decide) ?_
    refine zg_iadd (zd_t dmM_valueWith 9 rfl) ?_
    refine zg_iload_n (zd_t dmM_valueWith 10 rfl) rfl ?_
    rw [nI_add]
    by_cases hkc : k + 1 = c
    · refine zg_icmp_ne (tgt := 26) (zd_t dmM_valueWith 11 rfl) (by decide) (fun hq => absurd (by rw [hkc]) hq) (fun _ => ?_)
      refine zg_iload_n (zd_t dmM_valueWith 12 rfl) rfl ?_
      refine zg_i2l (zd_t dmM_valueWith 13 rfl) rfl ?_
      rw [mz_i2l (show v < 2 ^ 31 by omega)]
      refine zg_goto (tgt := 39) (zd_t dmM_valueWith 14 rfl) (by decide) ?_
      exact tl v (if_pos hkc).symm hv
    · refine zg_icmp_ne (tgt := 26) (zd_t dmM_valueWith 11 rfl) (by decide) (fun _ => ?_) (fun hq => absurd hq (fun h => hkc ((nI_eq (by omega) (by omega)).mp h)))
      refine zg_aload_n (zd_t dmM_valueWith 15 rfl) rfl ?_
      refine zg_getf (zd_t dmM_valueWith 16 rfl) zf_M_13 zs_m0 rfl ?_
      refine zg_bipush (v := (nI 8)) (zd_t dmM_valueWith 17 rfl) (by decide) ?_
      refine zg_iload_n (zd_t dmM_valueWith 18 rfl) rfl ?_
      refine zg_imul (zd_t dmM_valueWith 19 rfl) ?_
      refine zg_iload (zd_t dmM_valueWith 20 rfl) rfl ?_
      refine zg_iadd (zd_t dmM_valueWith 21 rfl) ?_
      refine zg_iald (k := 8 * i + k) (t0 := 0) (zd_t dmM_valueWith 22 rfl) zs_m2 rfl (zs_ix8 i k) (by omega) (by decide) ?_
      rw [(zs_q8 (show k < 8 by omega)).1, (zs_q8 (show k < 8 by omega)).2]
      refine zg_i2l (zd_t dmM_valueWith 23 rfl) rfl ?_
      rw [mz_i2l (show zs_re T i k < 2 ^ 31 by omega)]
      exact tl (zs_re T i k) (if_neg hkc).symm (by omega)
theorem zm_valueWith {c v : Nat} (hi : i < 16) (hc : c ≤ 6) (hv : v ≤ 256) (hok : mz_ok (zs_re T i)) : zg_C l (zs_E P) d mM_valueWith [.ref (zp_B P + 67), .int (nI i), .int (nI c), .int (nI v)] (zs_σ P S th (T, h) o w) (.inl (some (.long (mz_L (mz_val (mz_alt (zs_re T i) c v))))), zs_σ P S th (T, h) o w) := by
  refine zg_C_of (by decide +kernel) (Nat.le_of_ble_eq_true rfl) ?_
  refine zg_lconst (v := mz_L 0) (zd_t dmM_valueWith 0 rfl) (by decide) ?_
  refine zg_lstore (zd_t dmM_valueWith 1 rfl) (by decide) rfl ?_
  refine zg_iconst (v := (nI 0)) (zd_t dmM_valueWith 2 rfl) (by decide) ?_
  refine zg_istore (zd_t dmM_valueWith 3 rfl) (by decide) rfl ?_
  exact zm_valueWith_lp hi hc hv hok 6 0 rfl
theorem zm_valueOf (hi : i < 16) (hok : mz_ok (zs_re T i)) : zg_C l (zs_E P) (d + 1) mM_valueOf [.ref (zp_B P + 67), .int (nI i)] (zs_σ P S th (T, h) o w) (.inl (some (.long (mz_L (mz_val (zs_re T i))))), zs_σ P S th (T, h) o w) := by
  refine zg_C_of (by decide +kernel) (Nat.le_of_ble_eq_true rfl) ?_
  refine zg_aload_n (zd_t dmM_valueOf 0 rfl) rfl ?_
  refine zg_iload_n (zd_t dmM_valueOf 1 rfl) rfl ?_
  refine zg_iconst (v := (nI 0)) (zd_t dmM_valueOf 2 rfl) (by decide) ?_
  refine zg_iconst (v := (nI 0)) (zd_t dmM_valueOf 3 rfl) (by decide) ?_
  refine zg_callV (zd_t dmM_valueOf 4 rfl) zl_M_52 zm_mM_valueWith zi_mM_valueWith zse_mM_valueWith zs_m0 zs_cl3 rfl (av := _) (rest := _) (by rfl) (by rfl) (by exact Nat.le_of_ble_eq_true rfl) (zm_valueWith (c := 0) (v := 0) hi (by decide) (by decide) hok) ?_
  rw [show mz_val (mz_alt (zs_re T i) 0 0) = mz_val (zs_re T i) from rfl]
  exact zg_lret (zd_t dmM_valueOf 5 rfl) rfl rfl
theorem zm_fits {v : Int} (hi : i < 16) (hk : k < 8) (hv : mz_in v) (hok : mz_ok (zs_re T i)) : zg_C l (zs_E P) (d + 1) mM_fits [.ref (zp_B P + 67), .long (mz_L v), .int (nI i), .int (nI k)] (zs_σ P S th (T, h) o w) (.inl (some (.int (zs_bi (decide (v % (mz_m k : Int) = (zs_re T i k : Int)))))), zs_σ P S th (T, h) o w) := by
  refine zg_C_of (by decide +kernel) (Nat.le_of_ble_eq_true rfl) ?_
  have hm := mz_m_lt k
  have hr := hok k hk
  have h1 := mz_md_lt v k
  have h2 := Int.emod_nonneg v (show (mz_m k : Int) ≠ 0 by omega)
  refine zg_lload_n (zd_t dmM_fits 0 rfl) rfl ?_
  refine zg_aload_n (zd_t dmM_fits 1 rfl) rfl ?_
  refine zg_getf (zd_t dmM_fits 2 rfl) zf_M_7 zs_m0 rfl ?_
  refine zg_iload (zd_t dmM_fits 3 rfl) rfl ?_
  refine zg_iald (k := k) (t0 := 0) (zd_t dmM_fits 4 rfl) zs_m1 rfl rfl hk (by decide) ?_
  rw [show zs_mo k = nI (mz_m k) from if_pos hk]
  refine zg_callS (zd_t dmM_fits 5 rfl) zl_M_56 zm_mM_rest zst_mM_rest (av := _) (rest := _) (by rfl) (by rfl) (by exact Nat.le_of_ble_eq_true rfl) (zm_rest hv hm.2 hm.1) ?_
  refine zg_aload_n (zd_t dmM_fits 6 rfl) rfl ?_
  refine zg_getf (zd_t dmM_fits 7 rfl) zf_M_13 zs_m0 rfl ?_
  refine zg_bipush (v := (nI 8)) (zd_t dmM_fits 8 rfl) (by decide) ?_
  refine zg_iload_n (zd_t dmM_fits 9 rfl) rfl ?_
  refine zg_imul (zd_t dmM_fits 10 rfl) ?_
  refine zg_iload (zd_t dmM_fits 11 rfl) rfl ?_
  refine zg_iadd (zd_t dmM_fits 12 rfl) ?_
  refine zg_iald (k := 8 * i + k) (t0 := 0) (zd_t dmM_fits 13 rfl) zs_m2 rfl (zs_ix8 i k) (by omega) (by decide) ?_
  rw [(zs_q8 hk).1, (zs_q8 hk).2]
  have en : nI (v % (mz_m k : Int)).toNat = nI (zs_re T i k) ↔ v % (mz_m k : Int) = (zs_re T i k : Int) := by rw [nI_eq (by omega) (by omega)]; omega
  by_cases hf : v % (mz_m k : Int) = (zs_re T i k : Int)
  · rw [decide_eq_true hf]
    refine zg_icmp_ne (tgt := 30) (zd_t dmM_fits 14 rfl) (by decide) (fun hq => absurd (en.mpr hf) hq) (fun _ => ?_)
    refine zg_iconst (v := (nI 1)) (zd_t dmM_fits 15 rfl) (by decide) ?_
    refine zg_goto (tgt := 31) (zd_t dmM_fits 16 rfl) (by decide) ?_
    exact zg_zret (zd_t dmM_fits 18 rfl) rfl rfl rfl
  · rw [decide_eq_false hf]
    refine zg_icmp_ne (tgt := 30) (zd_t dmM_fits 14 rfl) (by decide) (fun _ => ?_) (fun hq => absurd hq (fun h => hf (en.mp h)))
    refine zg_iconst (v := (nI 0)) (zd_t dmM_fits 17 rfl) (by decide) ?_
    exact zg_zret (zd_t dmM_fits 18 rfl) rfl rfl rfl
theorem zm_isGood (hi : i < 16) (hok : mz_ok (zs_re T i)) : zg_C l (zs_E P) (d + 2) mM_isGood [.ref (zp_B P + 67), .int (nI i)] (zs_σ P S th (T, h) o w) (.inl (some (.int (zs_bi (decide (mz_good (zs_re T i)))))), zs_σ P S th (T, h) o w) := by
  refine zg_C_of (by decide +kernel) (Nat.le_of_ble_eq_true rfl) ?_
  refine zg_aload_n (zd_t dmM_isGood 0 rfl) rfl ?_
  refine zg_aload_n (zd_t dmM_isGood 1 rfl) rfl ?_
  refine zg_iload_n (zd_t dmM_isGood 2 rfl) rfl ?_
  refine zg_callV (zd_t dmM_isGood 3 rfl) zl_M_60 zm_mM_valueOf zi_mM_valueOf zse_mM_valueOf zs_m0 zs_cl3 rfl (av := _) (rest := _) (by rfl) (by rfl) (by exact Nat.le_of_ble_eq_true rfl) (zm_valueOf hi hok) ?_
  refine zg_iload_n (zd_t dmM_isGood 4 rfl) rfl ?_
  refine zg_bipush (v := (nI 6)) (zd_t dmM_isGood 5 rfl) (by decide) ?_
  refine zg_callV (zd_t dmM_isGood 6 rfl) zl_M_64 zm_mM_fits zi_mM_fits zse_mM_fits zs_m0 zs_cl3 rfl (av := _) (rest := _) (by rfl) (by rfl) (by exact Nat.le_of_ble_eq_true rfl) (zm_fits (k := 6) hi (by decide) (mz_val_in _) hok) ?_
  rw [show (mz_m 6 : Int) = 256 from rfl]
  by_cases h1 : mz_val (zs_re T i) % 256 = (zs_re T i 6 : Int)
  · rw [decide_eq_true h1]
    refine zg_if_eq (tgt := 34) (zd_t dmM_isGood 7 rfl) (by decide) (fun hq => absurd hq (by decide)) (fun _ => ?_)
    refine zg_aload_n (zd_t dmM_isGood 8 rfl) rfl ?_
    refine zg_aload_n (zd_t dmM_isGood 9 rfl) rfl ?_
    refine zg_iload_n (zd_t dmM_isGood 10 rfl) rfl ?_
    refine zg_callV (zd_t dmM_isGood 11 rfl) zl_M_60 zm_mM_valueOf zi_mM_valueOf zse_mM_valueOf zs_m0 zs_cl3 rfl (av := _) (rest := _) (by rfl) (by rfl) (by exact Nat.le_of_ble_eq_true rfl) (zm_valueOf hi hok) ?_
    refine zg_iload_n (zd_t dmM_isGood 12 rfl) rfl ?_
    refine zg_bipush (v := (nI 7)) (zd_t dmM_isGood 13 rfl) (by decide) ?_
    refine zg_callV (zd_t dmM_isGood 14 rfl) zl_M_64 zm_mM_fits zi_mM_fits zse_mM_fits zs_m0 zs_cl3 rfl (av := _) (rest := _) (by rfl) (by rfl) (by exact Nat.le_of_ble_eq_true rfl) (zm_fits (k := 7) hi (by decide) (mz_val_in _) hok) ?_
    rw [show (mz_m 7 : Int) = 255 from rfl]
    by_cases h2 : mz_val (zs_re T i) % 255 = (zs_re T i 7 : Int)
    · rw [decide_eq_true h2, decide_eq_true (show mz_good (zs_re T i) from ⟨h1, h2⟩)]
      refine zg_if_eq (tgt := 34) (zd_t dmM_isGood 15 rfl) (by decide) (fun hq => absurd hq (by decide)) (fun _ => ?_)
      refine zg_iconst (v := (nI 1)) (zd_t dmM_isGood 16 rfl) (by decide) ?_
      refine zg_goto (tgt := 35) (zd_t dmM_isGood 17 rfl) (by decide) ?_
      exact zg_zret (zd_t dmM_isGood 19 rfl) rfl rfl rfl
    · rw [decide_eq_false h2, decide_eq_false (fun hg : mz_good (zs_re T i) => h2 hg.2)]
      refine zg_if_eq (tgt := 34) (zd_t dmM_isGood 15 rfl) (by decide) (fun _ => ?_) (fun hq => absurd (by decide) hq)
      refine zg_iconst (v := (nI 0)) (zd_t dmM_isGood 18 rfl) (by decide) ?_
      exact zg_zret (zd_t dmM_isGood 19 rfl) rfl rfl rfl
  · rw [decide_eq_false h1, decide_eq_false (fun hg : mz_good (zs_re T i) => h1 hg.1)]
    refine zg_if_eq (tgt := 34) (zd_t dmM_isGood 7 rfl) (by decide) (fun _ => ?_) (fun hq => absurd (by decide) hq)
    refine zg_iconst (v := (nI 0)) (zd_t dmM_isGood 18 rfl) (by decide) ?_
    exact zg_zret (zd_t dmM_isGood 19 rfl) rfl rfl rfl
theorem zm_put_lp {v : Int} (hi : i < 16) (hv : mz_in v) : ∀ (n k : Nat), k + n = 8 → zg_G l (zs_E P) (d + 1) mM_put 3 [(4, .int (nI k)), (0, .ref (zp_B P + 67)), (1, .int (nI i)), (2, .long (mz_L v))] [] (zs_σ P S th (zs_pk T i v k, h) o w) (.inl none, zs_σ P S th (zs_sput T i v, zs_u1 h i v) o w) := by
  intro n
  induction n with
  | zero =>
    intro k hk
    have hk : k = 8 := by omega
    subst hk
    refine zg_iload (zd_t dmM_put 2 rfl) rfl ?_
    refine zg_bipush (v := (nI 8)) (zd_t dmM_put 3 rfl) (by decide) ?_
    refine zg_icmp_ge (tgt := 39) (zd_t dmM_put 4 rfl) (by decide) (fun _ => ?_) (fun hq => absurd (by decide) hq)
    refine zg_aload_n (zd_t dmM_put 21 rfl) rfl ?_
    refine zg_getf (zd_t dmM_put 22 rfl) zf_M_16 zs_m0 rfl ?_
    refine zg_iload_n (zd_t dmM_put 23 rfl) rfl ?_
    refine zg_lload_n (zd_t dmM_put 24 rfl) rfl ?_
    refine zg_last (k := i) (t0 := 1) (zd_t dmM_put 25 rfl) zs_m3 rfl rfl hi (by decide) zs_um_lo ?_
    refine zg_aload_n (zd_t dmM_put 26 rfl) rfl ?_
    refine zg_getf (zd_t dmM_put 27 rfl) zf_M_20 zs_m0 rfl ?_
    refine zg_iload_n (zd_t dmM_put 28 rfl) rfl ?_
    refine zg_lload_n (zd_t dmM_put 29 rfl) rfl ?_
    refine zg_last (k := i) (t0 := 1) (zd_t dmM_put 30 rfl) zs_m4 rfl rfl hi (by decide) zs_um_hi ?_
    refine zg_aload_n (zd_t dmM_put 31 rfl) rfl ?_
    refine zg_getf (zd_t dmM_put 32 rfl) zf_M_23 zs_m0 rfl ?_
    refine zg_iload_n (zd_t dmM_put 33 rfl) rfl ?_
    refine zg_iconst (v := (nI 1)) (zd_t dmM_put 34 rfl) (by decide) ?_
    refine zg_zast (k := i) (t0 := 2) (zd_t dmM_put 35 rfl) zs_m5 rfl rfl hi (by decide) rfl (zs_um_su (v := true)) ?_
    exact zg_vret (zd_t dmM_put 36 rfl) rfl rfl
  | succ n ih =>
    intro k hk
    have hm := mz_m_lt k
    refine zg_iload (zd_t dmM_put 2 rfl) rfl ?_
    refine zg_bipush (v := (nI 8)) (zd_t dmM_put 3 rfl) (by decide) ?_
    refine zg_icmp_ge (tgt := 39) (zd_t dmM_put 4 rfl) (by decide) (fun hq => absurd hq (fun h => absurd ((nI_leI (by decide) (by omega)).mp h) (by omega))) (fun _ => ?_)
    refine zg_aload_n (zd_t dmM_put 5 rfl) rfl ?_
    refine zg_getf (zd_t dmM_put 6 rfl) zf_M_13 zs_m0 rfl ?_
    refine zg_bipush (v := (nI 8)) (zd_t dmM_put 7 rfl) (by decide) ?_
    refine zg_iload_n (zd_t dmM_put 8 rfl) rfl ?_
    refine zg_imul (zd_t dmM_put 9 rfl) ?_
    refine zg_iload (zd_t dmM_put 10 rfl) rfl ?_
    refine zg_iadd (zd_t dmM_put 11 rfl) ?_
    refine zg_lload_n (zd_t dmM_put 12 rfl) rfl ?_
    refine zg_aload_n (zd_t dmM_put 13 rfl) rfl ?_
    refine zg_getf (zd_t dmM_put 14 rfl) zf_M_7 zs_m0 rfl ?_
    refine zg_iload (zd_t dmM_put 15 rfl) rfl ?_
    refine zg_iald (k := k) (t0 := 0) (zd_t dmM_put 16 rfl) zs_m1 rfl rfl (show k < 8 by omega) (by decide) ?_
    rw [show zs_mo k = nI (mz_m k) from if_pos (by omega)]
    refine zg_callS (zd_t dmM_put 17 rfl) zl_M_56 zm_mM_rest zst_mM_rest (av := _) (rest := _) (by rfl) (by rfl) (by exact Nat.le_of_ble_eq_true rfl) (zm_rest hv hm.2 hm.1) ?_
    refine zg_iast (k := 8 * i + k) (t0 := 0) (zd_t dmM_put 18 rfl) zs_m2 rfl (zs_ix8 i k) (by omega) (by decide) ((zs_um_re (by omega)).trans (by rw [zs_pk_s])) ?_
    refine zg_iinc (lv2 := [(4, .int (nI (k + 1))), (0, .ref (zp_B P + 67)), (1, .int (nI i)), (2, .long (mz_L v))]) (zd_t dmM_put 19 rfl) rfl (mz_inc k) (by decide) rfl ?_
    refine zg_goto (tgt := 3) (zd_t dmM_put 20 rfl) (by decide) ?_
    exact ih (k + 1) (by omega)
theorem zm_put {v : Int} (hi : i < 16) (hv : mz_in v) : zg_C l (zs_E P) (d + 1) mM_put [.ref (zp_B P + 67), .int (nI i), .long (mz_L v)] (zs_σ P S th (T, h) o w) (.inl none, zs_σ P S th (zs_sput T i v, zs_u1 h i v) o w) := by
  refine zg_C_of (by decide +kernel) (Nat.le_of_ble_eq_true rfl) ?_
  refine zg_iconst (v := (nI 0)) (zd_t dmM_put 0 rfl) (by decide) ?_
  refine zg_istore (zd_t dmM_put 1 rfl) (by decide) rfl ?_
  have g := zm_put_lp (l := l) (P := P) (d := d) (S := S) (T := T) (h := h) (th := th) (o := o) (w := w) hi hv 8 0 rfl
  rw [zs_pk_0] at g
  exact g
end ZM13
end
section
def mz_pa (X Y : Int) : Int := if 0 < X ∧ 350215949849222 / X < Y then 525323924773833 else X * Y
def mz_sg (m : Bool) (p : Int) : Int := if m = true then -p else p
def mz_pd (x y : Int) : Int := mz_sg (decide (x < 0) != decide (y < 0)) (mz_pa (x.natAbs : Int) (y.natAbs : Int))
theorem mz_sg_mul (x y : Int) : mz_sg (decide (x < 0) != decide (y < 0)) ((x.natAbs : Int) * (y.natAbs : Int)) = x * y := by
  unfold mz_sg
  by_cases hx : x < 0 <;> by_cases hy : y < 0
  · rw [decide_eq_true hx, decide_eq_true hy, if_neg (by decide), show (x.natAbs : Int) = -x by omega, show (y.natAbs : Int) = -y by omega, Int.neg_mul_neg]
  · rw [decide_eq_true hx, decide_eq_false hy, if_pos (by decide), show (x.natAbs : Int) = -x by omega, show (y.natAbs : Int) = y by omega, Int.neg_mul, Int.neg_neg]
  · rw [decide_eq_false hx, decide_eq_true hy, if_pos (by decide), show (x.natAbs : Int) = x by omega, show (y.natAbs : Int) = -y by omega, Int.mul_neg, Int.neg_neg]
  · rw [decide_eq_false hx, decide_eq_false hy, if_neg (by decide), show (x.natAbs : Int) = x by omega, show (y.natAbs : Int) = y by omega]
theorem mz_pd_spec (x y : Int) : ((x * y).natAbs ≤ 175107974924610 → mz_pd x y = x * y) ∧ (175107974924611 ≤ (x * y).natAbs → 175107974924611 ≤ (mz_pd x y).natAbs) := by
  have hm := mz_sg_mul x y
  have ha : ((x.natAbs : Int) * (y.natAbs : Int)) = ((x * y).natAbs : Int) := by rw [Int.natAbs_mul]; rfl
  unfold mz_pd mz_pa
  obtain ⟨X, hX⟩ : ∃ X : Int, X = (x.natAbs : Int) := ⟨_, rfl⟩
  obtain ⟨Y, hY⟩ : ∃ Y : Int, Y = (y.natAbs : Int) := ⟨_, rfl⟩
  rw [← hX, ← hY] at hm ha ⊢
  by_cases hc : 0 < X ∧ 350215949849222 / X < Y
  · rw [if_pos hc]
    have h1 := (Int.ediv_lt_iff_lt_mul hc.1).mp hc.2
    have h2 : 350215949849222 < X * Y := by rw [Int.mul_comm]; exact h1
    constructor
    · intro h; omega
    · intro _
      unfold mz_sg
      split <;> decide
  · rw [if_neg hc, hm]
    exact ⟨fun _ => rfl, fun h => h⟩
theorem mz_cap_spec (x y : Int) : ((x * y).natAbs ≤ 175107974924610 → mz_cap x y = x * y) ∧ (175107974924611 ≤ (x * y).natAbs → mz_cap x y = 175107974924611) := by
  have ha : ((x.natAbs : Int) * (y.natAbs : Int)) = ((x * y).natAbs : Int) := by rw [Int.natAbs_mul]; rfl
  unfold mz_cap
  obtain ⟨X, hX⟩ : ∃ X : Int, X = (x.natAbs : Int) := ⟨_, rfl⟩
  obtain ⟨Y, hY⟩ : ∃ Y : Int, Y = (y.natAbs : Int) := ⟨_, rfl⟩
  rw [← hX, ← hY] at ha ⊢
  by_cases hc : y ≠ 0 ∧ 175107974924610 / Y < X
  · rw [if_pos hc]
    have h1 := (Int.ediv_lt_iff_lt_mul (show 0 < Y by omega)).mp hc.2
    exact ⟨fun h => by omega, fun _ => rfl⟩
  · rw [if_neg hc]
    refine ⟨fun _ => rfl, fun h => ?_⟩
    exfalso
    by_cases hy : y = 0
    · rw [hy, Int.mul_zero] at h
      exact absurd h (by decide)
    · have h2 : ¬ 175107974924610 / Y < X := fun h => hc ⟨hy, h⟩
      rw [Int.ediv_lt_iff_lt_mul (show 0 < Y by omega)] at h2
      omega
/-- the model's number -/
def mz_mn (op : Nat) (t x y : Int) : Int := if op = 0 then x + y else if op = 1 then x - y else if op = 3 then mz_pd x y + t else mz_pd x y
theorem mz_mn_eq {op : Nat} {t x y : Int} (ho : op < 4) (ht : mz_hr t) : (mz_hr (mz_cn op t x y) ↔ mz_hr (mz_mn op t x y)) ∧ (mz_hr (mz_cn op t x y) → mz_cn op t x y = mz_mn op t x y) := by
  have h1 := ht.1
  have h2 := ht.2
  have hp := mz_pd_spec x y
  have hc := mz_cap_spec x y
  unfold mz_mn mz_cn
  rcases (by omega : op = 0 ∨ op = 1 ∨ op = 2 ∨ op = 3) with rfl | rfl | rfl | rfl
  · exact ⟨Iff.rfl, fun _ => rfl⟩
  · exact ⟨Iff.rfl, fun _ => rfl⟩
  · show (mz_hr (mz_cap x y) ↔ mz_hr (mz_pd x y)) ∧ (mz_hr (mz_cap x y) → mz_cap x y = mz_pd x y)
    by_cases hs : (x * y).natAbs ≤ 175107974924610
    · rw [hp.1 hs, hc.1 hs]
      exact ⟨Iff.rfl, fun _ => rfl⟩
    · have e1 := hp.2 (by omega)
      have e2 := hc.2 (by omega)
      rw [e2]
      unfold mz_hr
      omega
  · show (mz_hr (t + mz_cap x y) ↔ mz_hr (mz_pd x y + t)) ∧ (mz_hr (t + mz_cap x y) → t + mz_cap x y = mz_pd x y + t)
    by_cases hs : (x * y).natAbs ≤ 175107974924610
    · rw [hp.1 hs, hc.1 hs, Int.add_comm]
      exact ⟨Iff.rfl, fun _ => rfl⟩
    · have e1 := hp.2 (by omega)
      have e2 := hc.2 (by omega)
      rw [e2]
      unfold mz_hr
      omega
theorem mz_pd_in {x y : Int} : mz_pd x y ≤ 525323924773833 ∧ -525323924773833 ≤ mz_pd x y := by
  unfold mz_pd mz_pa
  have hX : 0 ≤ (x.natAbs : Int) := by omega
  have hY : 0 ≤ (y.natAbs : Int) := by omega
  obtain ⟨X, hX2⟩ : ∃ X : Int, X = (x.natAbs : Int) := ⟨_, rfl⟩
  obtain ⟨Y, hY2⟩ : ∃ Y : Int, Y = (y.natAbs : Int) := ⟨_, rfl⟩
  rw [← hX2] at hX
  rw [← hY2] at hY
  rw [← hX2, ← hY2]
  have hk : 0 ≤ (if 0 < X ∧ 350215949849222 / X < Y then 525323924773833 else X * Y) ∧ (if 0 < X ∧ 350215949849222 / X < Y then 525323924773833 else X * Y) ≤ 525323924773833 := by
    by_cases hc : 0 < X ∧ 350215949849222 / X < Y
    · rw [if_pos hc]; omega
    · rw [if_neg hc]
      refine ⟨Int.mul_nonneg hX hY, ?_⟩
      by_cases h0 : 0 < X
      · have h2 : ¬ 350215949849222 / X < Y := fun h => hc ⟨h0, h⟩
        rw [Int.ediv_lt_iff_lt_mul h0, Int.mul_comm] at h2
        omega
      · rw [show X = 0 by omega, Int.zero_mul]
        omega
  unfold mz_sg
  split <;> omega
section ZM14
variable {l : Launch} {P : zs_P} {d : Nat} {σ : zg_H}
theorem zm_least {x : Int} (hx : mz_in x) : zg_C l (zs_E P) d mM_least [.long (mz_L x), .long (mz_L x)] σ (.inl (some (.long (mz_L x))), σ) := by
  refine zg_C_of (by decide +kernel) (Nat.le_of_ble_eq_true rfl) ?_
  refine zg_lload_n (zd_t dmM_least 0 rfl) rfl ?_
  refine zg_lload_n (zd_t dmM_least 1 rfl) rfl ?_
  refine zg_lcmp (zd_t dmM_least 2 rfl) ?_
  refine zg_if_ge (tgt := 10) (zd_t dmM_least 3 rfl) (by decide) (fun h1 => ?_) (fun h1 => ?_)
  · refine zg_lload_n (zd_t dmM_least 6 rfl) rfl ?_
    exact zg_lret (zd_t dmM_least 7 rfl) rfl rfl
  · refine zg_lload_n (zd_t dmM_least 4 rfl) rfl ?_
    refine zg_goto (tgt := 11) (zd_t dmM_least 5 rfl) (by decide) ?_
    exact zg_lret (zd_t dmM_least 7 rfl) rfl rfl
theorem zm_greatest {x : Int} (hx : mz_in x) : zg_C l (zs_E P) d mM_greatest [.long (mz_L x), .long (mz_L x)] σ (.inl (some (.long (mz_L x))), σ) := by
  refine zg_C_of (by decide +kernel) (Nat.le_of_ble_eq_true rfl) ?_
  refine zg_lload_n (zd_t dmM_greatest 0 rfl) rfl ?_
  refine zg_lload_n (zd_t dmM_greatest 1 rfl) rfl ?_
  refine zg_lcmp (zd_t dmM_greatest 2 rfl) ?_
  refine zg_if_le (tgt := 10) (zd_t dmM_greatest 3 rfl) (by decide) (fun h1 => ?_) (fun h1 => ?_)
  · refine zg_lload_n (zd_t dmM_greatest 6 rfl) rfl ?_
    exact zg_lret (zd_t dmM_greatest 7 rfl) rfl rfl
  · refine zg_lload_n (zd_t dmM_greatest 4 rfl) rfl ?_
    refine zg_goto (tgt := 11) (zd_t dmM_greatest 5 rfl) (by decide) ?_
    exact zg_lret (zd_t dmM_greatest 7 rfl) rfl rfl
theorem zm_product_t {p : Int} {m : Bool} {lv : List (Nat × Value)} : zg_G l (zs_E P) d mM_product 104 ((10, .long (mz_L p)) :: (8, .int (zs_bi m)) :: lv) [] σ (.inl (some (.long (mz_L (mz_sg m p)))), σ) := by
  cases m with
  | true =>
    refine zg_iload (zd_t dmM_product 59 rfl) rfl ?_
    refine zg_if_eq (tgt := 115) (zd_t dmM_product 60 rfl) (by decide) (fun hq => absurd hq (by decide)) (fun _ => ?_)
    refine zg_lload (zd_t dmM_product 61 rfl) rfl ?_
    refine zg_lneg (zd_t dmM_product 62 rfl) ?_
    refine zg_goto (tgt := 117) (zd_t dmM_product 63 rfl) (by decide) ?_
    rw [mz_neg]
    exact zg_lret (zd_t dmM_product 65 rfl) rfl rfl
  | false =>
    refine zg_iload (zd_t dmM_product 59 rfl) rfl ?_
    refine zg_if_eq (tgt := 115) (zd_t dmM_product 60 rfl) (by decide) (fun _ => ?_) (fun hq => absurd (by decide) hq)
    refine zg_lload (zd_t dmM_product 64 rfl) rfl ?_
    exact zg_lret (zd_t dmM_product 65 rfl) rfl rfl
theorem zm_product_x {X Y : Int} {m : Bool} {u v : Value} (hX : 0 ≤ X ∧ X ≤ 87553987462305) (hY : 0 ≤ Y ∧ Y ≤ 87553987462305) : zg_G l (zs_E P) d mM_product 60 [(8, .int (zs_bi m)), (6, .long (mz_L Y)), (4, .long (mz_L X)), (0, u), (2, v)] [] σ (.inl (some (.long (mz_L (mz_sg m (mz_pa X Y))))), σ) := by
  have h0 : mz_in 0 := by unfold mz_in; omega
  have hXi : mz_in X := by unfold mz_in; omega
  have hYi : mz_in Y := by unfold mz_in; omega
  have hMi : mz_in 350215949849222 := by unfold mz_in; omega
  unfold mz_pa
  refine zg_lload (zd_t dmM_product 37 rfl) rfl ?_
  refine zg_lconst (v := mz_L 0) (zd_t dmM_product 38 rfl) (by decide) ?_
  refine zg_lcmp (zd_t dmM_product 39 rfl) ?_
  refine zg_if_le (tgt := 83) (zd_t dmM_product 40 rfl) (by decide) (fun h1 => ?_) (fun h1 => ?_)
  · rw [lg_cmp_le, mz_le hXi h0] at h1
    rw [if_neg (by omega)]
    refine zg_iconst (v := (nI 0)) (zd_t dmM_product 49 rfl) (by decide) ?_
    refine zg_istore (zd_t dmM_product 50 rfl) (by decide) rfl ?_
    refine zg_iload (zd_t dmM_product 51 rfl) rfl ?_
    refine zg_if_eq (tgt := 97) (zd_t dmM_product 52 rfl) (by decide) (fun _ => ?_) (fun hq => absurd (by decide) hq)
    refine zg_lload (zd_t dmM_product 55 rfl) rfl ?_
    refine zg_lload (zd_t dmM_product 56 rfl) rfl ?_
    refine zg_lmul (zd_t dmM_product 57 rfl) ?_
    refine zg_lstore (zd_t dmM_product 58 rfl) (by decide) rfl ?_
    rw [mz_mul]
    exact zg_lv [0, 2, 3, 4, 5, 6] rfl zm_product_t
  · rw [lg_cmp_le, mz_le hXi h0] at h1
    have hx0 : ¬ mz_L X = 0 := fun h => by
      have : mz_L X = mz_L 0 := h
      rw [mz_eq hXi h0] at this
      omega
    have hq : mz_in (350215949849222 / X) := by
      have a1 := Int.ediv_nonneg (show (0 : Int) ≤ 350215949849222 by omega) hX.1
      have a2 := Int.ediv_le_self X (show (0 : Int) ≤ 350215949849222 by omega)
      unfold mz_in
      omega
    refine zg_lload (zd_t dmM_product 41 rfl) rfl ?_
    refine zg_ldc2 (zd_t dmM_product 42 rfl) zc_M_83 ?_
    refine zg_lload (zd_t dmM_product 43 rfl) rfl ?_
    refine zg_ldiv (zd_t dmM_product 44 rfl) hx0 ?_
    rw [mz_div hMi hXi, Int.tdiv_eq_ediv_of_nonneg (by omega)]
    refine zg_lcmp (zd_t dmM_product 45 rfl) ?_
    refine zg_if_le (tgt := 83) (zd_t dmM_product 46 rfl) (by decide) (fun h2 => ?_) (fun h2 => ?_)
    · rw [lg_cmp_le, mz_le hYi hq] at h2
      rw [if_neg (by omega)]
      refine zg_iconst (v := (nI 0)) (zd_t dmM_product 49 rfl) (by decide) ?_
      refine zg_istore (zd_t dmM_product 50 rfl) (by decide) rfl ?_
      refine zg_iload (zd_t dmM_product 51 rfl) rfl ?_
      refine zg_if_eq (tgt := 97) (zd_t dmM_product 52 rfl) (by decide) (fun _ => ?_) (fun hq => absurd (by decide) hq)
      refine zg_lload (zd_t dmM_product 55 rfl) rfl ?_
      refine zg_lload (zd_t dmM_product 56 rfl) rfl ?_
      refine zg_lmul (zd_t dmM_product 57 rfl) ?_
      refine zg_lstore (zd_t dmM_product 58 rfl) (by decide) rfl ?_
      rw [mz_mul]
      exact zg_lv [0, 2, 3, 4, 5, 6] rfl zm_product_t
    · rw [lg_cmp_le, mz_le hYi hq] at h2
      rw [if_pos (by omega)]
      refine zg_iconst (v := (nI 1)) (zd_t dmM_product 47 rfl) (by decide) ?_
      refine zg_goto (tgt := 84) (zd_t dmM_product 48 rfl) (by decide) ?_
      refine zg_istore (zd_t dmM_product 50 rfl) (by decide) rfl ?_
      refine zg_iload (zd_t dmM_product 51 rfl) rfl ?_
      refine zg_if_eq (tgt := 97) (zd_t dmM_product 52 rfl) (by decide) (fun hq => absurd hq (by decide)) (fun _ => ?_)
      refine zg_ldc2 (zd_t dmM_product 53 rfl) zc_M_85 ?_
      refine zg_goto (tgt := 102) (zd_t dmM_product 54 rfl) (by decide) ?_
      refine zg_lstore (zd_t dmM_product 58 rfl) (by decide) rfl ?_
      exact zg_lv [0, 2, 3, 4, 5, 6] rfl zm_product_t
theorem zm_product {x y : Int} (hx : mz_hr x) (hy : mz_hr y) : zg_C l (zs_E P) d mM_product [.long (mz_L x), .long (mz_L y)] σ (.inl (some (.long (mz_L (mz_pd x y)))), σ) := by
  refine zg_C_of (by decide +kernel) (Nat.le_of_ble_eq_true rfl) ?_
  have h0 : mz_in 0 := by unfold mz_in; omega
  have hx1 := hx.1
  have hx2 := hx.2
  have hy1 := hy.1
  have hy2 := hy.2
  have tl : ∀ X Y : Int, X = (x.natAbs : Int) → Y = (y.natAbs : Int) → zg_G l (zs_E P) d mM_product 28 [(6, .long (mz_L Y)), (4, .long (mz_L X)), (0, .long (mz_L x)), (2, .long (mz_L y))] [] σ (.inl (some (.long (mz_L (mz_pd x y)))), σ) := by
    intro X Y eX eY
    subst eX eY
    have fin : ∀ m : Bool, m = (decide (x < 0) != decide (y < 0)) → zg_G l (zs_E P) d mM_product 60 [(8, .int (zs_bi m)), (6, .long (mz_L (y.natAbs : Int))), (4, .long (mz_L (x.natAbs : Int))), (0, .long (mz_L x)), (2, .long (mz_L y))] [] σ (.inl (some (.long (mz_L (mz_pd x y)))), σ) := by
      intro m hm
      have g := zm_product_x (l := l) (P := P) (d := d) (σ := σ) (m := m) (u := .long (mz_L x)) (v := .long (mz_L y)) (show 0 ≤ (x.natAbs : Int) ∧ (x.natAbs : Int) ≤ 87553987462305 by omega) (show 0 ≤ (y.natAbs : Int) ∧ (y.natAbs : Int) ≤ 87553987462305 by omega)
      unfold mz_pd
      rw [← hm]
      exact g
    refine zg_lload_n (zd_t dmM_product 18 rfl) rfl ?_
    refine zg_lconst (v := mz_L 0) (zd_t dmM_product 19 rfl) (by decide) ?_
    refine zg_lcmp (zd_t dmM_product 20 rfl) ?_
    refine zg_if_ge (tgt := 38) (zd_t dmM_product 21 rfl) (by decide) (fun h1 => ?_) (fun h1 => ?_)
    · rw [lg_cmp_ge, mz_le h0 hx.i] at h1
      refine zg_iconst (v := (nI 0)) (zd_t dmM_product 24 rfl) (by decide) ?_
      refine zg_lload_n (zd_t dmM_product 25 rfl) rfl ?_
      refine zg_lconst (v := mz_L 0) (zd_t dmM_product 26 rfl) (by decide) ?_
      refine zg_lcmp (zd_t dmM_product 27 rfl) ?_
      refine zg_if_ge (tgt := 49) (zd_t dmM_product 28 rfl) (by decide) (fun h2 => ?_) (fun h2 => ?_)
      · rw [lg_cmp_ge, mz_le h0 hy.i] at h2
        refine zg_iconst (v := (nI 0)) (zd_t dmM_product 31 rfl) (by decide) ?_
        refine zg_icmp_eq (tgt := 57) (zd_t dmM_product 32 rfl) (by decide) (fun _ => ?_) (fun hq => absurd (by decide) hq)
        refine zg_iconst (v := (nI 0)) (zd_t dmM_product 35 rfl) (by decide) ?_
        refine zg_istore (zd_t dmM_product 36 rfl) (by decide) rfl ?_
        exact fin false (by rw [decide_eq_false (by omega), decide_eq_false (by omega)]; rfl)
      · rw [lg_cmp_ge, mz_le h0 hy.i] at h2
        refine zg_iconst (v := (nI 1)) (zd_t dmM_product 29 rfl) (by decide) ?_
        refine zg_goto (tgt := 50) (zd_t dmM_product 30 rfl) (by decide) ?_
        refine zg_icmp_eq (tgt := 57) (zd_t dmM_product 32 rfl) (by decide) (fun hq => absurd hq (by decide)) (fun _ => ?_)
        refine zg_iconst (v := (nI 1)) (zd_t dmM_product 33 rfl) (by decide) ?_
        refine zg_goto (tgt := 58) (zd_t dmM_product 34 rfl) (by decide) ?_
        refine zg_istore (zd_t dmM_product 36 rfl) (by decide) rfl ?_
        exact fin true (by rw [decide_eq_false (by omega), decide_eq_true (by omega)]; rfl)
    · rw [lg_cmp_ge, mz_le h0 hx.i] at h1
      refine zg_iconst (v := (nI 1)) (zd_t dmM_product 22 rfl) (by decide) ?_
      refine zg_goto (tgt := 39) (zd_t dmM_product 23 rfl) (by decide) ?_
      refine zg_lload_n (zd_t dmM_product 25 rfl) rfl ?_
      refine zg_lconst (v := mz_L 0) (zd_t dmM_product 26 rfl) (by decide) ?_
      refine zg_lcmp (zd_t dmM_product 27 rfl) ?_
      refine zg_if_ge (tgt := 49) (zd_t dmM_product 28 rfl) (by decide) (fun h2 => ?_) (fun h2 => ?_)
      · rw [lg_cmp_ge, mz_le h0 hy.i] at h2
        refine zg_iconst (v := (nI 0)) (zd_t dmM_product 31 rfl) (by decide) ?_
        refine zg_icmp_eq (tgt := 57) (zd_t dmM_product 32 rfl) (by decide) (fun hq => absurd hq (by decide)) (fun _ => ?_)
        refine zg_iconst (v := (nI 1)) (zd_t dmM_product 33 rfl) (by decide) ?_
        refine zg_goto (tgt := 58) (zd_t dmM_product 34 rfl) (by decide) ?_
        refine zg_istore (zd_t dmM_product 36 rfl) (by decide) rfl ?_
        exact fin true (by rw [decide_eq_true (by omega), decide_eq_false (by omega)]; rfl)
      · rw [lg_cmp_ge, mz_le h0 hy.i] at h2
        refine zg_iconst (v := (nI 1)) (zd_t dmM_product 29 rfl) (by decide) ?_
        refine zg_goto (tgt := 50) (zd_t dmM_product 30 rfl) (by decide) ?_
        refine zg_icmp_eq (tgt := 57) (zd_t dmM_product 32 rfl) (by decide) (fun _ => ?_) (fun hq => absurd (by decide) hq)
        refine zg_iconst (v := (nI 0)) (zd_t dmM_product 35 rfl) (by decide) ?_
        refine zg_istore (zd_t dmM_product 36 rfl) (by decide) rfl ?_
        exact fin false (by rw [decide_eq_true (by omega), decide_eq_true (by omega)]; rfl)
  have tl2 : ∀ X : Int, X = (x.natAbs : Int) → zg_G l (zs_E P) d mM_product 14 [(4, .long (mz_L X)), (0, .long (mz_L x)), (2, .long (mz_L y))] [] σ (.inl (some (.long (mz_L (mz_pd x y)))), σ) := by
    intro X eX
    refine zg_lload_n (zd_t dmM_product 9 rfl) rfl ?_
    refine zg_lconst (v := mz_L 0) (zd_t dmM_product 10 rfl) (by decide) ?_
    refine zg_lcmp (zd_t dmM_product 11 rfl) ?_
    refine zg_if_ge (tgt := 25) (zd_t dmM_product 12 rfl) (by decide) (fun h1 => ?_) (fun h1 => ?_)
    · rw [lg_cmp_ge, mz_le h0 hy.i] at h1
      refine zg_lload_n (zd_t dmM_product 16 rfl) rfl ?_
      refine zg_lstore (zd_t dmM_product 17 rfl) (by decide) rfl ?_
      exact tl X y eX (by omega)
    · rw [lg_cmp_ge, mz_le h0 hy.i] at h1
      refine zg_lload_n (zd_t dmM_product 13 rfl) rfl ?_
      refine zg_lneg (zd_t dmM_product 14 rfl) ?_
      refine zg_goto (tgt := 26) (zd_t dmM_product 15 rfl) (by decide) ?_
      refine zg_lstore (zd_t dmM_product 17 rfl) (by decide) rfl ?_
      rw [mz_neg]
      exact tl X (-y) eX (by omega)
  refine zg_lload_n (zd_t dmM_product 0 rfl) rfl ?_
  refine zg_lconst (v := mz_L 0) (zd_t dmM_product 1 rfl) (by decide) ?_
  refine zg_lcmp (zd_t dmM_product 2 rfl) ?_
  refine zg_if_ge (tgt := 11) (zd_t dmM_product 3 rfl) (by decide) (fun h1 => ?_) (fun h1 => ?_)
  · rw [lg_cmp_ge, mz_le h0 hx.i] at h1
    refine zg_lload_n (zd_t dmM_product 7 rfl) rfl ?_
    refine zg_lstore (zd_t dmM_product 8 rfl) (by decide) rfl ?_
    exact tl2 x (by omega)
  · rw [lg_cmp_ge, mz_le h0 hx.i] at h1
    refine zg_lload_n (zd_t dmM_product 4 rfl) rfl ?_
    refine zg_lneg (zd_t dmM_product 5 rfl) ?_
    refine zg_goto (tgt := 12) (zd_t dmM_product 6 rfl) (by decide) ?_
    refine zg_lstore (zd_t dmM_product 8 rfl) (by decide) rfl ?_
    rw [mz_neg]
    exact tl2 (-x) (by omega)
def mz_mny (x : Nat) : Nat → Nat
  | 0 => 0
  | k + 1 => mz_mny x k + x / 2 ^ k % 2
theorem mz_mny_pop : ∀ x, x < 64 → mz_mny x 6 = mz_pop x := by decide +kernel
theorem zm_many_lp {x : Nat} (hx : x < 64) : ∀ (n k : Nat), k + n = 6 → zg_G l (zs_E P) d mM_many 4 [(2, .int (nI k)), (1, .int (nI (mz_mny x k))), (0, .int (nI x))] [] σ (.inl (some (.int (nI (mz_pop x)))), σ) := by
  intro n
  induction n with
  | zero =>
    intro k hk
    have hk : k = 6 := by omega
    subst hk
    refine zg_iload_n (zd_t dmM_many 4 rfl) rfl ?_
    refine zg_bipush (v := (nI 6)) (zd_t dmM_many 5 rfl) (by decide) ?_
    refine zg_icmp_ge (tgt := 24) (zd_t dmM_many 6 rfl) (by decide) (fun _ => ?_) (fun hq => absurd (by decide) hq)
    refine zg_iload_n (zd_t dmM_many 17 rfl) rfl ?_
    rw [mz_mny_pop x hx]
    exact zg_iret (zd_t dmM_many 18 rfl) rfl rfl
  | succ n ih =>
    intro k hk
    refine zg_iload_n (zd_t dmM_many 4 rfl) rfl ?_
    refine zg_bipush (v := (nI 6)) (zd_t dmM_many 5 rfl) (by decide) ?_
    refine zg_icmp_ge (tgt := 24) (zd_t dmM_many 6 rfl) (by decide) (fun hq => absurd hq (fun h => absurd ((nI_leI (by decide) (by omega)).mp h) (by omega))) (fun _ => ?_)
    refine zg_iload_n (zd_t dmM_many 7 rfl) rfl ?_
    refine zg_iload_n (zd_t dmM_many 8 rfl) rfl ?_
    refine zg_iload_n (zd_t dmM_many 9 rfl) rfl ?_
    refine zg_ishr (zd_t dmM_many 10 rfl) ?_
    refine zg_iconst (v := (nI 1)) (zd_t dmM_many 11 rfl) (by decide) ?_
    refine zg_iand (zd_t dmM_many 12 rfl) ?_
    rw [mz_bit x hx k (by omega)]
    refine zg_iadd (zd_t dmM_many 13 rfl) ?_
    rw [nI_add, show mz_mny x k + x / 2 ^ k % 2 = mz_mny x (k + 1) from rfl]
    refine zg_istore_n (zd_t dmM_many 14 rfl) (by decide) rfl ?_
    refine zg_iinc (lv2 := [(2, .int (nI (k + 1))), (1, .int (nI (mz_mny x (k + 1)))), (0, .int (nI x))]) (zd_t dmM_many 15 rfl) rfl (mz_inc k) (by decide) rfl ?_
    refine zg_goto (tgt := 4) (zd_t dmM_many 16 rfl) (by decide) ?_
    exact ih (k + 1) (by omega)
theorem zm_many {x : Nat} (hx : x < 64) : zg_C l (zs_E P) d mM_many [.int (nI x)] σ (.inl (some (.int (nI (mz_pop x)))), σ) := by
  refine zg_C_of (by decide +kernel) (Nat.le_of_ble_eq_true rfl) ?_
  refine zg_iconst (v := (nI 0)) (zd_t dmM_many 0 rfl) (by decide) ?_
  refine zg_istore_n (zd_t dmM_many 1 rfl) (by decide) rfl ?_
  refine zg_iconst (v := (nI 0)) (zd_t dmM_many 2 rfl) (by decide) ?_
  refine zg_istore_n (zd_t dmM_many 3 rfl) (by decide) rfl ?_
  exact zm_many_lp hx 6 0 rfl
theorem zm_isModuli (c : Int32) : zg_C l (zs_E P) (d + 1) mM_isModuli [.int c] σ (.inl (some (.int (zs_bi (decide (mz_sm c))))), σ) := by
  refine zg_C_of (by decide +kernel) (Nat.le_of_ble_eq_true rfl) ?_
  refine zg_iload_n (zd_t dmM_isModuli 0 rfl) rfl ?_
  refine zg_i2l (zd_t dmM_isModuli 1 rfl) rfl ?_
  rw [zs_i2l]
  refine zg_lconst (v := mz_L 1) (zd_t dmM_isModuli 2 rfl) (by decide) ?_
  refine zg_ldc2 (zd_t dmM_isModuli 3 rfl) zc_M_106 ?_
  refine zg_callS (zd_t dmM_isModuli 4 rfl) zl_M_48 zm_mM_in zst_mM_in (av := _) (rest := _) (by rfl) (by rfl) (by exact Nat.le_of_ble_eq_true rfl) (zm_in (x := c.toInt) (y := 1) (z := 63) (zs_wi32 c) (by unfold mz_wi; omega) (by unfold mz_wi; omega)) ?_
  by_cases h1 : 1 ≤ c.toInt ∧ c.toInt ≤ 63
  · rw [decide_eq_true h1]
    obtain ⟨x, hx, rfl⟩ := zs_nof (n := 64) (x := c) (by omega) (by omega) (by decide)
    have hp : mz_pop x < 64 := by unfold mz_pop; omega
    have e : (nI x).toInt.toNat = x := zs_n_nI (by omega)
    refine zg_if_eq (tgt := 24) (zd_t dmM_isModuli 5 rfl) (by decide) (fun hq => absurd hq (by decide)) (fun _ => ?_)
    refine zg_iload_n (zd_t dmM_isModuli 6 rfl) rfl ?_
    refine zg_callS (zd_t dmM_isModuli 7 rfl) zl_M_108 zm_mM_many zst_mM_many (av := _) (rest := _) (by rfl) (by rfl) (by exact Nat.le_of_ble_eq_true rfl) (zm_many hx) ?_
    refine zg_iconst (v := (nI 5)) (zd_t dmM_isModuli 8 rfl) (by decide) ?_
    by_cases h2 : mz_pop x ≤ 4
    · rw [decide_eq_true (show mz_sm (nI x) from ⟨by omega, by omega, by rw [e]; exact h2⟩)]
      refine zg_icmp_ge (tgt := 24) (zd_t dmM_isModuli 9 rfl) (by decide) (fun hq => absurd hq (fun h => absurd ((nI_leI (by decide) (by omega)).mp h) (by omega))) (fun _ => ?_)
      refine zg_iconst (v := (nI 1)) (zd_t dmM_isModuli 10 rfl) (by decide) ?_
      refine zg_goto (tgt := 25) (zd_t dmM_isModuli 11 rfl) (by decide) ?_
      exact zg_zret (zd_t dmM_isModuli 13 rfl) rfl rfl rfl
    · rw [decide_eq_false (fun h : mz_sm (nI x) => h2 (by have := h.2.2; rw [e] at this; exact this))]
      refine zg_icmp_ge (tgt := 24) (zd_t dmM_isModuli 9 rfl) (by decide) (fun _ => ?_) (fun hq => absurd ((nI_leI (by decide) (by omega)).mpr (by omega)) hq)
      refine zg_iconst (v := (nI 0)) (zd_t dmM_isModuli 12 rfl) (by decide) ?_
      exact zg_zret (zd_t dmM_isModuli 13 rfl) rfl rfl rfl
  · rw [decide_eq_false h1, decide_eq_false (fun h : mz_sm c => h1 (by have := h.1; have := h.2.1; omega))]
    refine zg_if_eq (tgt := 24) (zd_t dmM_isModuli 5 rfl) (by decide) (fun _ => ?_) (fun hq => absurd (by decide) hq)
    refine zg_iconst (v := (nI 0)) (zd_t dmM_isModuli 12 rfl) (by decide) ?_
    exact zg_zret (zd_t dmM_isModuli 13 rfl) rfl rfl rfl
theorem zm_down {a b : Int} (ha : mz_in a) (hb : mz_in b) (hp : 0 < b) : zg_C l (zs_E P) d mM_down [.long (mz_L a), .long (mz_L b)] σ (.inl (some (.long (mz_L (a / b)))), σ) := by
  refine zg_C_of (by decide +kernel) (Nat.le_of_ble_eq_true rfl) ?_
  have h0 : mz_in 0 := by unfold mz_in; omega
  have hb0 : ¬ mz_L b = 0 := fun h => by
    have : mz_L b = mz_L 0 := h
    rw [mz_eq hb h0] at this
    omega
  have hm : mz_in (a.tdiv b * b) := by
    have h1 := Int.tmod_def a b
    have h2 := Int.natAbs_tmod a b
    have h3 := Nat.mod_le a.natAbs b.natAbs
    have h4 := ha.1
    have h5 := ha.2
    have h6 := Int.mul_comm b (a.tdiv b)
    have h7 : a.tdiv b * b = a - a.tmod b := by omega
    rw [h7]
    by_cases h8 : 0 ≤ a
    · have h9 := Int.tmod_nonneg b h8
      unfold mz_in; omega
    · have h9 := mz_tnp b (show a ≤ 0 by omega)
      unfold mz_in; omega
  have e3 := mz_td (a := a) hp
  have e4 := Int.emod_add_mul_ediv a b
  have e5 := Int.emod_lt_of_pos a hp
  have e6 := Int.mul_comm b (a / b)
  have e7 := Int.emod_nonneg a (show b ≠ 0 by omega)
  refine zg_lload_n (zd_t dmM_down 0 rfl) rfl ?_
  refine zg_lload_n (zd_t dmM_down 1 rfl) rfl ?_
  refine zg_ldiv (zd_t dmM_down 2 rfl) hb0 ?_
  rw [mz_div ha hb]
  refine zg_lstore (zd_t dmM_down 3 rfl) (by decide) rfl ?_
  refine zg_lload (zd_t dmM_down 4 rfl) rfl ?_
  refine zg_lload_n (zd_t dmM_down 5 rfl) rfl ?_
  refine zg_lmul (zd_t dmM_down 6 rfl) ?_
  refine zg_lload_n (zd_t dmM_down 7 rfl) rfl ?_
  rw [mz_mul]
  refine zg_lcmp (zd_t dmM_down 8 rfl) ?_
  refine zg_if_le (tgt := 21) (zd_t dmM_down 9 rfl) (by decide) (fun h1 => ?_) (fun h1 => ?_)
  · rw [lg_cmp_le, mz_le hm ha] at h1
    refine zg_lload (zd_t dmM_down 14 rfl) rfl ?_
    refine zg_lret (zd_t dmM_down 15 rfl) rfl ?_
    rcases e3 with e3 | e3
    · rw [e3.1]
    · exfalso
      have : a.tdiv b * b = a / b * b + b := by rw [e3.2.1, Int.add_mul, Int.one_mul]
      omega
  · rw [lg_cmp_le, mz_le hm ha] at h1
    refine zg_lload (zd_t dmM_down 10 rfl) rfl ?_
    refine zg_lconst (v := mz_L 1) (zd_t dmM_down 11 rfl) (by decide) ?_
    refine zg_lsub (zd_t dmM_down 12 rfl) ?_
    refine zg_goto (tgt := 23) (zd_t dmM_down 13 rfl) (by decide) ?_
    refine zg_lret (zd_t dmM_down 15 rfl) rfl ?_
    rw [mz_sub]
    rcases e3 with e3 | e3
    · exfalso
      rw [e3.1] at h1
      omega
    · rw [e3.2.1, show a / b + 1 - 1 = a / b by omega]
end ZM14
end
section
/-- the model's interval behind a sum or product -/
def zs_lim (T : zs_S) (op e a b : Nat) : Bool := zs_tr T op e a b && decide (mz_hr (mz_mn op (zs_ex T e) (zs_ex T a) (zs_ex T b)))
def zs_lv (T : zs_S) (op e a b : Nat) : Int := if zs_lim T op e a b = true then mz_mn op (zs_ex T e) (zs_ex T a) (zs_ex T b) else 0
theorem zs_lim_eq {T : zs_S} {op e a b : Nat} (ho : op < 4) (he : mz_hr (zs_ex T e)) : zs_lim T op e a b = zs_csu T op e a b ∧ zs_lv T op e a b = if zs_csu T op e a b = true then zs_cres T op e a b else 0 := by
  have h := mz_mn_eq (x := zs_ex T a) (y := zs_ex T b) ho he
  have h1 : zs_lim T op e a b = zs_csu T op e a b := by
    unfold zs_lim zs_csu zs_cres
    rw [decide_eq_decide.mpr h.1]
  refine ⟨h1, ?_⟩
  unfold zs_lv
  rw [h1]
  by_cases hs : zs_csu T op e a b = true
  · rw [if_pos hs, if_pos hs]
    unfold zs_csu at hs
    rw [Bool.and_eq_true, decide_eq_true_eq] at hs
    exact (h.2 hs.2).symm
  · rw [if_neg hs, if_neg hs]
section ZM15
variable {l : Launch} {P : zs_P} {d : Nat} {S : zs_S} {T : zs_S} {h : Nat → Int} {th : Int32} {o : Int64} {w : Nat × Nat} {e a b i k op : Nat}
theorem zm_limit_308 {s : Bool} {R : Int} {u1 u2 u3 u4 : Value} (he : e < 16) : zg_G l (zs_E P) d mM_limit 307 [(9, u1), (0, .ref (zp_B P + 67)), (1, u2), (2, .int (nI e)), (3, u3), (4, u4), (5, .long (mz_L R)), (7, .long (mz_L R))] [.int (zs_bi s), .int (nI e), .ref (zp_B P + 72)] (zs_σ P S th (T, zs_ex T) o w) (.inl none, zs_σ P S th (zs_sex (zs_ssu T e s) e (if s = true then R else 0), zs_u1 (zs_ex T) e (if s = true then R else 0)) o w) := by
  refine zg_zast (k := e) (t0 := 2) (zd_t dmM_limit 168 rfl) zs_m5 rfl rfl he (by decide) (zs_nb _) zs_um_su ?_
  cases s with
  | true =>
    rw [if_pos rfl]
    refine zg_aload_n (zd_t dmM_limit 169 rfl) rfl ?_
    refine zg_getf (zd_t dmM_limit 170 rfl) zf_M_16 zs_m0 rfl ?_
    refine zg_iload_n (zd_t dmM_limit 171 rfl) rfl ?_
    refine zg_aload_n (zd_t dmM_limit 172 rfl) rfl ?_
    refine zg_getf (zd_t dmM_limit 173 rfl) zf_M_23 zs_m0 rfl ?_
    refine zg_iload_n (zd_t dmM_limit 174 rfl) rfl ?_
    refine zg_zald (k := e) (t0 := 2) (zd_t dmM_limit 175 rfl) zs_m5 rfl rfl he (by decide) ?_
    rw [show zs_su (zs_ssu T e true, zs_ex T).1 e = true from if_pos rfl]
    refine zg_if_eq (tgt := 327) (zd_t dmM_limit 176 rfl) (by decide) (fun hq => absurd hq (by decide)) (fun _ => ?_)
    refine zg_lload (zd_t dmM_limit 177 rfl) rfl ?_
    refine zg_goto (tgt := 328) (zd_t dmM_limit 178 rfl) (by decide) ?_
    refine zg_last (k := e) (t0 := 1) (zd_t dmM_limit 180 rfl) zs_m3 rfl rfl he (by decide) zs_um_lo ?_
    refine zg_aload_n (zd_t dmM_limit 181 rfl) rfl ?_
    refine zg_getf (zd_t dmM_limit 182 rfl) zf_M_20 zs_m0 rfl ?_
    refine zg_iload_n (zd_t dmM_limit 183 rfl) rfl ?_
    refine zg_aload_n (zd_t dmM_limit 184 rfl) rfl ?_
    refine zg_getf (zd_t dmM_limit 185 rfl) zf_M_23 zs_m0 rfl ?_
    refine zg_iload_n (zd_t dmM_limit 186 rfl) rfl ?_
    refine zg_zald (k := e) (t0 := 2) (zd_t dmM_limit 187 rfl) zs_m5 rfl rfl he (by decide) ?_
    rw [show zs_su (zs_sex (zs_ssu T e true) e R, zs_ex T).1 e = true from if_pos rfl]
    refine zg_if_eq (tgt := 348) (zd_t dmM_limit 188 rfl) (by decide) (fun hq => absurd hq (by decide)) (fun _ => ?_)
    refine zg_lload (zd_t dmM_limit 189 rfl) rfl ?_
    refine zg_goto (tgt := 349) (zd_t dmM_limit 190 rfl) (by decide) ?_
    refine zg_last (k := e) (t0 := 1) (zd_t dmM_limit 192 rfl) zs_m4 rfl rfl he (by decide) zs_um_hi ?_
    exact zg_vret (zd_t dmM_limit 193 rfl) rfl rfl
  | false =>
    rw [if_neg (by decide)]
    refine zg_aload_n (zd_t dmM_limit 169 rfl) rfl ?_
    refine zg_getf (zd_t dmM_limit 170 rfl) zf_M_16 zs_m0 rfl ?_
    refine zg_iload_n (zd_t dmM_limit 171 rfl) rfl ?_
    refine zg_aload_n (zd_t dmM_limit 172 rfl) rfl ?_
    refine zg_getf (zd_t dmM_limit 173 rfl) zf_M_23 zs_m0 rfl ?_
    refine zg_iload_n (zd_t dmM_limit 174 rfl) rfl ?_
    refine zg_zald (k := e) (t0 := 2) (zd_t dmM_limit 175 rfl) zs_m5 rfl rfl he (by decide) ?_
    rw [show zs_su (zs_ssu T e false, zs_ex T).1 e = false from if_pos rfl]
    refine zg_if_eq (tgt := 327) (zd_t dmM_limit 176 rfl) (by decide) (fun _ => ?_) (fun hq => absurd (by decide) hq)
    refine zg_lconst (v := mz_L 0) (zd_t dmM_limit 179 rfl) (by decide) ?_
    refine zg_last (k := e) (t0 := 1) (zd_t dmM_limit 180 rfl) zs_m3 rfl rfl he (by decide) zs_um_lo ?_
    refine zg_aload_n (zd_t dmM_limit 181 rfl) rfl ?_
    refine zg_getf (zd_t dmM_limit 182 rfl) zf_M_20 zs_m0 rfl ?_
    refine zg_iload_n (zd_t dmM_limit 183 rfl) rfl ?_
    refine zg_aload_n (zd_t dmM_limit 184 rfl) rfl ?_
    refine zg_getf (zd_t dmM_limit 185 rfl) zf_M_23 zs_m0 rfl ?_
    refine zg_iload_n (zd_t dmM_limit 186 rfl) rfl ?_
    refine zg_zald (k := e) (t0 := 2) (zd_t dmM_limit 187 rfl) zs_m5 rfl rfl he (by decide) ?_
    rw [show zs_su (zs_sex (zs_ssu T e false) e 0, zs_ex T).1 e = false from if_pos rfl]
    refine zg_if_eq (tgt := 348) (zd_t dmM_limit 188 rfl) (by decide) (fun _ => ?_) (fun hq => absurd (by decide) hq)
    refine zg_lconst (v := mz_L 0) (zd_t dmM_limit 191 rfl) (by decide) ?_
    refine zg_last (k := e) (t0 := 1) (zd_t dmM_limit 192 rfl) zs_m4 rfl rfl he (by decide) zs_um_hi ?_
    exact zg_vret (zd_t dmM_limit 193 rfl) rfl rfl
theorem zm_limit_269 {t : Bool} {R : Int} {u2 u3 u4 : Value} (he : e < 16) (hR : mz_in R) : zg_G l (zs_E P) d mM_limit 269 [(0, .ref (zp_B P + 67)), (1, u2), (2, .int (nI e)), (3, u3), (4, u4), (5, .long (mz_L R)), (7, .long (mz_L R))] [.int (zs_bi t)] (zs_σ P S th (T, zs_ex T) o w) (.inl none, zs_σ P S th (zs_sex (zs_ssu T e (t && decide (mz_hr R))) e (if (t && decide (mz_hr R)) = true then R else 0), zs_u1 (zs_ex T) e (if (t && decide (mz_hr R)) = true then R else 0)) o w) := by
  have hH : mz_in 87553987462305 := by unfold mz_in; omega
  have hH2 : mz_in (-87553987462305) := by unfold mz_in; omega
  refine zg_istore (zd_t dmM_limit 148 rfl) (by decide) rfl ?_
  refine zg_aload_n (zd_t dmM_limit 149 rfl) rfl ?_
  refine zg_getf (zd_t dmM_limit 150 rfl) zf_M_23 zs_m0 rfl ?_
  refine zg_iload_n (zd_t dmM_limit 151 rfl) rfl ?_
  refine zg_iload (zd_t dmM_limit 152 rfl) rfl ?_
  cases t with
  | false =>
    refine zg_if_eq (tgt := 306) (zd_t dmM_limit 153 rfl) (by decide) (fun _ => ?_) (fun hq => absurd (by decide) hq)
    refine zg_iconst (v := (nI 0)) (zd_t dmM_limit 167 rfl) (by decide) ?_
    exact zm_limit_308 he
  | true =>
    refine zg_if_eq (tgt := 306) (zd_t dmM_limit 153 rfl) (by decide) (fun hq => absurd hq (by decide)) (fun _ => ?_)
    refine zg_lload (zd_t dmM_limit 154 rfl) rfl ?_
    refine zg_aload_n (zd_t dmM_limit 155 rfl) rfl ?_
    refine zg_getf (zd_t dmM_limit 156 rfl) zf_M_39 zs_m0 rfl ?_
    refine zg_lneg (zd_t dmM_limit 157 rfl) ?_
    rw [mz_neg]
    refine zg_lcmp (zd_t dmM_limit 158 rfl) ?_
    rw [mz_cmp hR hH2]
    by_cases h1 : -87553987462305 ≤ R
    · have e1 : ¬ (if -87553987462305 < R then (1 : Int32) else if R = -87553987462305 then 0 else -1) < 0 := by
        by_cases h2 : -87553987462305 < R
        · rw [if_pos h2]; decide
        · rw [if_neg h2, if_pos (by omega)]; decide
      refine zg_if_lt (tgt := 306) (zd_t dmM_limit 159 rfl) (by decide) (fun hq => absurd hq e1) (fun _ => ?_)
      refine zg_lload (zd_t dmM_limit 160 rfl) rfl ?_
      refine zg_aload_n (zd_t dmM_limit 161 rfl) rfl ?_
      refine zg_getf (zd_t dmM_limit 162 rfl) zf_M_39 zs_m0 rfl ?_
      refine zg_lcmp (zd_t dmM_limit 163 rfl) ?_
      rw [mz_cmp hR hH]
      by_cases h2 : R ≤ 87553987462305
      · have e2 : ¬ 0 < (if 87553987462305 < R then (1 : Int32) else if R = 87553987462305 then 0 else -1) := by
          rw [if_neg (by omega)]
          split <;> decide
        refine zg_if_gt (tgt := 306) (zd_t dmM_limit 164 rfl) (by decide) (fun hq => absurd hq e2) (fun _ => ?_)
        rw [decide_eq_true (show mz_hr R from ⟨h1, h2⟩)]
        refine zg_iconst (v := (nI 1)) (zd_t dmM_limit 165 rfl) (by decide) ?_
        refine zg_goto (tgt := 307) (zd_t dmM_limit 166 rfl) (by decide) ?_
        exact zm_limit_308 (s := true) he
      · have e2 : 0 < (if 87553987462305 < R then (1 : Int32) else if R = 87553987462305 then 0 else -1) := by
          rw [if_pos (by omega)]
          decide
        refine zg_if_gt (tgt := 306) (zd_t dmM_limit 164 rfl) (by decide) (fun _ => ?_) (fun hq => absurd e2 hq)
        rw [decide_eq_false (fun hh : mz_hr R => h2 hh.2)]
        refine zg_iconst (v := (nI 0)) (zd_t dmM_limit 167 rfl) (by decide) ?_
        exact zm_limit_308 (s := false) he
    · have e1 : (if -87553987462305 < R then (1 : Int32) else if R = -87553987462305 then 0 else -1) < 0 := by
        rw [if_neg (by omega), if_neg (by omega)]
        decide
      refine zg_if_lt (tgt := 306) (zd_t dmM_limit 159 rfl) (by decide) (fun _ => ?_) (fun hq => absurd e1 hq)
      rw [decide_eq_false (fun hh : mz_hr R => h1 hh.1)]
      refine zg_iconst (v := (nI 0)) (zd_t dmM_limit 167 rfl) (by decide) ?_
      exact zm_limit_308 (s := false) he
theorem zm_limit_231 {R : Int} (ho : op < 4) (he : e < 16) (ha : a < 16) (hb : b < 16) (hR : mz_in R) : zg_G l (zs_E P) d mM_limit 231 [(0, .ref (zp_B P + 67)), (1, .int (nI op)), (2, .int (nI e)), (3, .int (nI a)), (4, .int (nI b)), (5, .long (mz_L R)), (7, .long (mz_L R))] [] (zs_σ P S th (T, zs_ex T) o w) (.inl none, zs_σ P S th (zs_sex (zs_ssu T e (zs_tr T op e a b && decide (mz_hr R))) e (if (zs_tr T op e a b && decide (mz_hr R)) = true then R else 0), zs_u1 (zs_ex T) e (if (zs_tr T op e a b && decide (mz_hr R)) = true then R else 0)) o w) := by
  have tl : ∀ t : Bool, t = zs_tr T op e a b → zg_G l (zs_E P) d mM_limit 269 [(0, .ref (zp_B P + 67)), (1, .int (nI op)), (2, .int (nI e)), (3, .int (nI a)), (4, .int (nI b)), (5, .long (mz_L R)), (7, .long (mz_L R))] [.int (zs_bi t)] (zs_σ P S th (T, zs_ex T) o w) (.inl none, zs_σ P S th (zs_sex (zs_ssu T e (zs_tr T op e a b && decide (mz_hr R))) e (if (zs_tr T op e a b && decide (mz_hr R)) = true then R else 0), zs_u1 (zs_ex T) e (if (zs_tr T op e a b && decide (mz_hr R)) = true then R else 0)) o w) := by
    intro t ht
    have g := zm_limit_269 (l := l) (P := P) (d := d) (S := S) (T := T) (th := th) (o := o) (w := w) (t := t) (u2 := .int (nI op)) (u3 := .int (nI a)) (u4 := .int (nI b)) he hR
    rw [← ht]
    exact g
  refine zg_aload_n (zd_t dmM_limit 127 rfl) rfl ?_
  refine zg_getf (zd_t dmM_limit 128 rfl) zf_M_23 zs_m0 rfl ?_
  refine zg_iload_n (zd_t dmM_limit 129 rfl) rfl ?_
  refine zg_zald (k := a) (t0 := 2) (zd_t dmM_limit 130 rfl) zs_m5 rfl rfl ha (by decide) ?_
  cases h1 : zs_su T a with
  | false =>
    refine zg_if_eq (tgt := 268) (zd_t dmM_limit 131 rfl) (by decide) (fun _ => ?_) (fun hq => absurd (by decide) hq)
    refine zg_iconst (v := (nI 0)) (zd_t dmM_limit 147 rfl) (by decide) ?_
    exact tl false (by unfold zs_tr; rw [h1]; rfl)
  | true =>
    refine zg_if_eq (tgt := 268) (zd_t dmM_limit 131 rfl) (by decide) (fun hq => absurd hq (by decide)) (fun _ => ?_)
    refine zg_aload_n (zd_t dmM_limit 132 rfl) rfl ?_
    refine zg_getf (zd_t dmM_limit 133 rfl) zf_M_23 zs_m0 rfl ?_
    refine zg_iload (zd_t dmM_limit 134 rfl) rfl ?_
    refine zg_zald (k := b) (t0 := 2) (zd_t dmM_limit 135 rfl) zs_m5 rfl rfl hb (by decide) ?_
    cases h2 : zs_su T b with
    | false =>
      refine zg_if_eq (tgt := 268) (zd_t dmM_limit 136 rfl) (by decide) (fun _ => ?_) (fun hq => absurd (by decide) hq)
      refine zg_iconst (v := (nI 0)) (zd_t dmM_limit 147 rfl) (by decide) ?_
      exact tl false (by unfold zs_tr; rw [h1, h2]; rfl)
    | true =>
      refine zg_if_eq (tgt := 268) (zd_t dmM_limit 136 rfl) (by decide) (fun hq => absurd hq (by decide)) (fun _ => ?_)
      refine zg_iload_n (zd_t dmM_limit 137 rfl) rfl ?_
      refine zg_iconst (v := (nI 3)) (zd_t dmM_limit 138 rfl) (by decide) ?_
      by_cases h3 : op < 3
      · refine zg_icmp_lt (tgt := 264) (zd_t dmM_limit 139 rfl) (by decide) (fun _ => ?_) (fun hq => absurd ((nI_ltI (by omega) (by decide)).mpr h3) hq)
        refine zg_iconst (v := (nI 1)) (zd_t dmM_limit 145 rfl) (by decide) ?_
        refine zg_goto (tgt := 269) (zd_t dmM_limit 146 rfl) (by decide) ?_
        exact tl true (by unfold zs_tr; rw [h1, h2, decide_eq_true (by omega), Bool.or_true]; rfl)
      · refine zg_icmp_lt (tgt := 264) (zd_t dmM_limit 139 rfl) (by decide) (fun hq => absurd hq (fun h => h3 ((nI_ltI (by omega) (by decide)).mp h))) (fun _ => ?_)
        refine zg_aload_n (zd_t dmM_limit 140 rfl) rfl ?_
        refine zg_getf (zd_t dmM_limit 141 rfl) zf_M_23 zs_m0 rfl ?_
        refine zg_iload_n (zd_t dmM_limit 142 rfl) rfl ?_
        refine zg_zald (k := e) (t0 := 2) (zd_t dmM_limit 143 rfl) zs_m5 rfl rfl he (by decide) ?_
        cases h4 : zs_su T e with
        | false =>
          refine zg_if_eq (tgt := 268) (zd_t dmM_limit 144 rfl) (by decide) (fun _ => ?_) (fun hq => absurd (by decide) hq)
          refine zg_iconst (v := (nI 0)) (zd_t dmM_limit 147 rfl) (by decide) ?_
          exact tl false (by unfold zs_tr; rw [h1, h2, h4, decide_eq_false (by omega)]; rfl)
        | true =>
          refine zg_if_eq (tgt := 268) (zd_t dmM_limit 144 rfl) (by decide) (fun hq => absurd hq (by decide)) (fun _ => ?_)
          refine zg_iconst (v := (nI 1)) (zd_t dmM_limit 145 rfl) (by decide) ?_
          refine zg_goto (tgt := 269) (zd_t dmM_limit 146 rfl) (by decide) ?_
          exact tl true (by unfold zs_tr; rw [h1, h2, h4]; rfl)
theorem mz_mn_in {op : Nat} {t x y : Int} (ht : mz_hr t) (hx : mz_hr x) (hy : mz_hr y) : mz_in (mz_mn op t x y) := by
  have h1 := mz_pd_in (x := x) (y := y)
  have h2 := ht.1
  have h3 := ht.2
  have h4 := hx.1
  have h5 := hx.2
  have h6 := hy.1
  have h7 := hy.2
  unfold mz_mn mz_in
  split
  · omega
  · split
    · omega
    · split <;> omega
theorem zm_limit (ho : op < 4) (he : e < 16) (ha : a < 16) (hb : b < 16) (hx : ∀ j, j < 16 → mz_hr (zs_ex T j)) : zg_C l (zs_E P) (d + 1) mM_limit [.ref (zp_B P + 67), .int (nI op), .int (nI e), .int (nI a), .int (nI b)] (zs_σ P S th (T, zs_ex T) o w) (.inl none, zs_σ P S th (zs_sex (zs_ssu T e (zs_lim T op e a b)) e (zs_lv T op e a b), zs_u1 (zs_ex T) e (zs_lv T op e a b)) o w) := by
  refine zg_C_of (by decide +kernel) (Nat.le_of_ble_eq_true rfl) ?_
  have hR := mz_mn_in (op := op) (hx e he) (hx a ha) (hx b hb)
  have tl := zm_limit_231 (l := l) (P := P) (d := d + 1) (S := S) (T := T) (th := th) (o := o) (w := w) ho he ha hb hR
  unfold zs_lv zs_lim
  refine zg_iload_n (zd_t dmM_limit 0 rfl) rfl ?_
  by_cases h0 : op = 0
  · rw [show mz_mn op (zs_ex T e) (zs_ex T a) (zs_ex T b) = zs_ex T a + zs_ex T b from if_pos h0] at tl ⊢
    refine zg_if_ne (tgt := 39) (zd_t dmM_limit 1 rfl) (by decide) (fun hq => absurd (by rw [h0]; rfl) hq) (fun _ => ?_)
    refine zg_aload_n (zd_t dmM_limit 2 rfl) rfl ?_
    refine zg_getf (zd_t dmM_limit 3 rfl) zf_M_16 zs_m0 rfl ?_
    refine zg_iload_n (zd_t dmM_limit 4 rfl) rfl ?_
    refine zg_lald (k := a) (t0 := 1) (zd_t dmM_limit 5 rfl) zs_m3 rfl rfl ha (by decide) ?_
    refine zg_aload_n (zd_t dmM_limit 6 rfl) rfl ?_
    refine zg_getf (zd_t dmM_limit 7 rfl) zf_M_16 zs_m0 rfl ?_
    refine zg_iload (zd_t dmM_limit 8 rfl) rfl ?_
    refine zg_lald (k := b) (t0 := 1) (zd_t dmM_limit 9 rfl) zs_m3 rfl rfl hb (by decide) ?_
    refine zg_ladd (zd_t dmM_limit 10 rfl) ?_
    rw [mz_add]
    refine zg_lstore (zd_t dmM_limit 11 rfl) (by decide) rfl ?_
    refine zg_aload_n (zd_t dmM_limit 12 rfl) rfl ?_
    refine zg_getf (zd_t dmM_limit 13 rfl) zf_M_20 zs_m0 rfl ?_
    refine zg_iload_n (zd_t dmM_limit 14 rfl) rfl ?_
    refine zg_lald (k := a) (t0 := 1) (zd_t dmM_limit 15 rfl) zs_m4 rfl rfl ha (by decide) ?_
    refine zg_aload_n (zd_t dmM_limit 16 rfl) rfl ?_
    refine zg_getf (zd_t dmM_limit 17 rfl) zf_M_20 zs_m0 rfl ?_
    refine zg_iload (zd_t dmM_limit 18 rfl) rfl ?_
    refine zg_lald (k := b) (t0 := 1) (zd_t dmM_limit 19 rfl) zs_m4 rfl rfl hb (by decide) ?_
    refine zg_ladd (zd_t dmM_limit 20 rfl) ?_
    rw [mz_add]
    refine zg_lstore (zd_t dmM_limit 21 rfl) (by decide) rfl ?_
    refine zg_goto (tgt := 231) (zd_t dmM_limit 22 rfl) (by decide) ?_
    exact zg_lv [2, 3, 4, 5, 6, 1, 0] rfl tl
  · refine zg_if_ne (tgt := 39) (zd_t dmM_limit 1 rfl) (by decide) (fun _ => ?_) (fun hq => absurd hq (nI_ne0 (by omega) (by omega)))
    refine zg_iload_n (zd_t dmM_limit 23 rfl) rfl ?_
    refine zg_iconst (v := (nI 1)) (zd_t dmM_limit 24 rfl) (by decide) ?_
    by_cases h1 : op = 1
    · rw [show mz_mn op (zs_ex T e) (zs_ex T a) (zs_ex T b) = zs_ex T a - zs_ex T b by unfold mz_mn; rw [if_neg h0, if_pos h1]] at tl ⊢
      refine zg_icmp_ne (tgt := 79) (zd_t dmM_limit 25 rfl) (by decide) (fun hq => absurd (by rw [h1]) hq) (fun _ => ?_)
      refine zg_aload_n (zd_t dmM_limit 26 rfl) rfl ?_
      refine zg_getf (zd_t dmM_limit 27 rfl) zf_M_16 zs_m0 rfl ?_
      refine zg_iload_n (zd_t dmM_limit 28 rfl) rfl ?_
      refine zg_lald (k := a) (t0 := 1) (zd_t dmM_limit 29 rfl) zs_m3 rfl rfl ha (by decide) ?_
      refine zg_aload_n (zd_t dmM_limit 30 rfl) rfl ?_
      refine zg_getf (zd_t dmM_limit 31 rfl) zf_M_20 zs_m0 rfl ?_
      refine zg_iload (zd_t dmM_limit 32 rfl) rfl ?_
      refine zg_lald (k := b) (t0 := 1) (zd_t dmM_limit 33 rfl) zs_m4 rfl rfl hb (by decide) ?_
      refine zg_lsub (zd_t dmM_limit 34 rfl) ?_
      rw [mz_sub]
      refine zg_lstore (zd_t dmM_limit 35 rfl) (by decide) rfl ?_
      refine zg_aload_n (zd_t dmM_limit 36 rfl) rfl ?_
      refine zg_getf (zd_t dmM_limit 37 rfl) zf_M_20 zs_m0 rfl ?_
      refine zg_iload_n (zd_t dmM_limit 38 rfl) rfl ?_
      refine zg_lald (k := a) (t0 := 1) (zd_t dmM_limit 39 rfl) zs_m4 rfl rfl ha (by decide) ?_
      refine zg_aload_n (zd_t dmM_limit 40 rfl) rfl ?_
      refine zg_getf (zd_t dmM_limit 41 rfl) zf_M_16 zs_m0 rfl ?_
      refine zg_iload (zd_t dmM_limit 42 rfl) rfl ?_
      refine zg_lald (k := b) (t0 := 1) (zd_t dmM_limit 43 rfl) zs_m3 rfl rfl hb (by decide) ?_
      refine zg_lsub (zd_t dmM_limit 44 rfl) ?_
      rw [mz_sub]
      refine zg_lstore (zd_t dmM_limit 45 rfl) (by decide) rfl ?_
      refine zg_goto (tgt := 231) (zd_t dmM_limit 46 rfl) (by decide) ?_
      exact zg_lv [2, 3, 4, 5, 6, 1, 0] rfl tl
    · refine zg_icmp_ne (tgt := 79) (zd_t dmM_limit 25 rfl) (by decide) (fun _ => ?_) (fun hq => absurd hq (fun h => h1 ((nI_eq (by omega) (by decide)).mp h)))
      have pin : mz_in (mz_pd (zs_ex T a) (zs_ex T b)) := by
        have := mz_pd_in (x := zs_ex T a) (y := zs_ex T b)
        unfold mz_in
        omega
      refine zg_aload_n (zd_t dmM_limit 47 rfl) rfl ?_
      refine zg_getf (zd_t dmM_limit 48 rfl) zf_M_16 zs_m0 rfl ?_
      refine zg_iload_n (zd_t dmM_limit 49 rfl) rfl ?_
      refine zg_lald (k := a) (t0 := 1) (zd_t dmM_limit 50 rfl) zs_m3 rfl rfl ha (by decide) ?_
      refine zg_aload_n (zd_t dmM_limit 51 rfl) rfl ?_
      refine zg_getf (zd_t dmM_limit 52 rfl) zf_M_16 zs_m0 rfl ?_
      refine zg_iload (zd_t dmM_limit 53 rfl) rfl ?_
      refine zg_lald (k := b) (t0 := 1) (zd_t dmM_limit 54 rfl) zs_m3 rfl rfl hb (by decide) ?_
      refine zg_callS (zd_t dmM_limit 55 rfl) zl_M_87 zm_mM_product zst_mM_product (av := _) (rest := _) (by rfl) (by rfl) (by exact Nat.le_of_ble_eq_true rfl) (zm_product (hx a ha) (hx b hb)) ?_
      refine zg_lstore (zd_t dmM_limit 56 rfl) (by decide) rfl ?_
      refine zg_aload_n (zd_t dmM_limit 57 rfl) rfl ?_
      refine zg_getf (zd_t dmM_limit 58 rfl) zf_M_16 zs_m0 rfl ?_
      refine zg_iload_n (zd_t dmM_limit 59 rfl) rfl ?_
      refine zg_lald (k := a) (t0 := 1) (zd_t dmM_limit 60 rfl) zs_m3 rfl rfl ha (by decide) ?_
      refine zg_aload_n (zd_t dmM_limit 61 rfl) rfl ?_
      refine zg_getf (zd_t dmM_limit 62 rfl) zf_M_20 zs_m0 rfl ?_
      refine zg_iload (zd_t dmM_limit 63 rfl) rfl ?_
      refine zg_lald (k := b) (t0 := 1) (zd_t dmM_limit 64 rfl) zs_m4 rfl rfl hb (by decide) ?_
      refine zg_callS (zd_t dmM_limit 65 rfl) zl_M_87 zm_mM_product zst_mM_product (av := _) (rest := _) (by rfl) (by rfl) (by exact Nat.le_of_ble_eq_true rfl) (zm_product (hx a ha) (hx b hb)) ?_
      refine zg_lstore (zd_t dmM_limit 66 rfl) (by decide) rfl ?_
      refine zg_aload_n (zd_t dmM_limit 67 rfl) rfl ?_
      refine zg_getf (zd_t dmM_limit 68 rfl) zf_M_20 zs_m0 rfl ?_
      refine zg_iload_n (zd_t dmM_limit 69 rfl) rfl ?_
      refine zg_lald (k := a) (t0 := 1) (zd_t dmM_limit 70 rfl) zs_m4 rfl rfl ha (by decide) ?_
      refine zg_aload_n (zd_t dmM_limit 71 rfl) rfl ?_
      refine zg_getf (zd_t dmM_limit 72 rfl) zf_M_16 zs_m0 rfl ?_
      refine zg_iload (zd_t dmM_limit 73 rfl) rfl ?_
      refine zg_lald (k := b) (t0 := 1) (zd_t dmM_limit 74 rfl) zs_m3 rfl rfl hb (by decide) ?_
      refine zg_callS (zd_t dmM_limit 75 rfl) zl_M_87 zm_mM_product zst_mM_product (av := _) (rest := _) (by rfl) (by rfl) (by exact Nat.le_of_ble_eq_true rfl) (zm_product (hx a ha) (hx b hb)) ?_
      refine zg_lstore (zd_t dmM_limit 76 rfl) (by decide) rfl ?_
      refine zg_aload_n (zd_t dmM_limit 77 rfl) rfl ?_
      refine zg_getf (zd_t dmM_limit 78 rfl) zf_M_20 zs_m0 rfl ?_
      refine zg_iload_n (zd_t dmM_limit 79 rfl) rfl ?_
      refine zg_lald (k := a) (t0 := 1) (zd_t dmM_limit 80 rfl) zs_m4 rfl rfl ha (by decide) ?_
      refine zg_aload_n (zd_t dmM_limit 81 rfl) rfl ?_
      refine zg_getf (zd_t dmM_limit 82 rfl) zf_M_20 zs_m0 rfl ?_
      refine zg_iload (zd_t dmM_limit 83 rfl) rfl ?_
      refine zg_lald (k := b) (t0 := 1) (zd_t dmM_limit 84 rfl) zs_m4 rfl rfl hb (by decide) ?_
      refine zg_callS (zd_t dmM_limit 85 rfl) zl_M_87 zm_mM_product zst_mM_product (av := _) (rest := _) (by rfl) (by rfl) (by exact Nat.le_of_ble_eq_true rfl) (zm_product (hx a ha) (hx b hb)) ?_
      refine zg_lstore (zd_t dmM_limit 86 rfl) (by decide) rfl ?_
      refine zg_lload (zd_t dmM_limit 87 rfl) rfl ?_
      refine zg_lload (zd_t dmM_limit 88 rfl) rfl ?_
      refine zg_callS (zd_t dmM_limit 89 rfl) zl_M_91 zm_mM_least zst_mM_least (av := _) (rest := _) (by rfl) (by rfl) (by exact Nat.le_of_ble_eq_true rfl) (zm_least pin) ?_
      refine zg_lload (zd_t dmM_limit 90 rfl) rfl ?_
      refine zg_lload (zd_t dmM_limit 91 rfl) rfl ?_
      refine zg_callS (zd_t dmM_limit 92 rfl) zl_M_91 zm_mM_least zst_mM_least (av := _) (rest := _) (by rfl) (by rfl) (by exact Nat.le_of_ble_eq_true rfl) (zm_least pin) ?_
      refine zg_callS (zd_t dmM_limit 93 rfl) zl_M_91 zm_mM_least zst_mM_least (av := _) (rest := _) (by rfl) (by rfl) (by exact Nat.le_of_ble_eq_true rfl) (zm_least pin) ?_
      refine zg_lstore (zd_t dmM_limit 94 rfl) (by decide) rfl ?_
      refine zg_lload (zd_t dmM_limit 95 rfl) rfl ?_
      refine zg_lload (zd_t dmM_limit 96 rfl) rfl ?_
      refine zg_callS (zd_t dmM_limit 97 rfl) zl_M_94 zm_mM_greatest zst_mM_greatest (av := _) (rest := _) (by rfl) (by rfl) (by exact Nat.le_of_ble_eq_true rfl) (zm_greatest pin) ?_
      refine zg_lload (zd_t dmM_limit 98 rfl) rfl ?_
      refine zg_lload (zd_t dmM_limit 99 rfl) rfl ?_
      refine zg_callS (zd_t dmM_limit 100 rfl) zl_M_94 zm_mM_greatest zst_mM_greatest (av := _) (rest := _) (by rfl) (by rfl) (by exact Nat.le_of_ble_eq_true rfl) (zm_greatest pin) ?_
      refine zg_callS (zd_t dmM_limit 101 rfl) zl_M_94 zm_mM_greatest zst_mM_greatest (av := _) (rest := _) (by rfl) (by rfl) (by exact Nat.le_of_ble_eq_true rfl) (zm_greatest pin) ?_
      refine zg_lstore (zd_t dmM_limit 102 rfl) (by decide) rfl ?_
      refine zg_iload_n (zd_t dmM_limit 103 rfl) rfl ?_
      refine zg_iconst (v := (nI 3)) (zd_t dmM_limit 104 rfl) (by decide) ?_
      by_cases h3 : op = 3
      · rw [show mz_mn op (zs_ex T e) (zs_ex T a) (zs_ex T b) = mz_pd (zs_ex T a) (zs_ex T b) + zs_ex T e by unfold mz_mn; rw [if_neg h0, if_neg h1, if_pos h3]] at tl ⊢
        refine zg_icmp_ne (tgt := 206) (zd_t dmM_limit 105 rfl) (by decide) (fun hq => absurd (by rw [h3]) hq) (fun _ => ?_)
        refine zg_lload (zd_t dmM_limit 106 rfl) rfl ?_
        refine zg_aload_n (zd_t dmM_limit 107 rfl) rfl ?_
        refine zg_getf (zd_t dmM_limit 108 rfl) zf_M_16 zs_m0 rfl ?_
        refine zg_iload_n (zd_t dmM_limit 109 rfl) rfl ?_
        refine zg_lald (k := e) (t0 := 1) (zd_t dmM_limit 110 rfl) zs_m3 rfl rfl he (by decide) ?_
        refine zg_ladd (zd_t dmM_limit 111 rfl) ?_
        rw [mz_add]
        refine zg_goto (tgt := 208) (zd_t dmM_limit 112 rfl) (by decide) ?_
        refine zg_lstore (zd_t dmM_limit 114 rfl) (by decide) rfl ?_
        refine zg_iload_n (zd_t dmM_limit 115 rfl) rfl ?_
        refine zg_iconst (v := (nI 3)) (zd_t dmM_limit 116 rfl) (by decide) ?_
        refine zg_icmp_ne (tgt := 227) (zd_t dmM_limit 117 rfl) (by decide) (fun hq => absurd (by rw [h3]) hq) (fun _ => ?_)
        refine zg_lload (zd_t dmM_limit 118 rfl) rfl ?_
        refine zg_aload_n (zd_t dmM_limit 119 rfl) rfl ?_
        refine zg_getf (zd_t dmM_limit 120 rfl) zf_M_20 zs_m0 rfl ?_
        refine zg_iload_n (zd_t dmM_limit 121 rfl) rfl ?_
        refine zg_lald (k := e) (t0 := 1) (zd_t dmM_limit 122 rfl) zs_m4 rfl rfl he (by decide) ?_
        refine zg_ladd (zd_t dmM_limit 123 rfl) ?_
        rw [mz_add]
        refine zg_goto (tgt := 229) (zd_t dmM_limit 124 rfl) (by decide) ?_
        refine zg_lstore (zd_t dmM_limit 126 rfl) (by decide) rfl ?_
        exact zg_lv [6, 7, 8, 9, 10, 1, 0] rfl tl
      · rw [show mz_mn op (zs_ex T e) (zs_ex T a) (zs_ex T b) = mz_pd (zs_ex T a) (zs_ex T b) by unfold mz_mn; rw [if_neg h0, if_neg h1, if_neg h3]] at tl ⊢
        refine zg_icmp_ne (tgt := 206) (zd_t dmM_limit 105 rfl) (by decide) (fun _ => ?_) (fun hq => absurd hq (fun h => h3 ((nI_eq (by omega) (by decide)).mp h)))
        refine zg_lload (zd_t dmM_limit 113 rfl) rfl ?_
        refine zg_lstore (zd_t dmM_limit 114 rfl) (by decide) rfl ?_
        refine zg_iload_n (zd_t dmM_limit 115 rfl) rfl ?_
        refine zg_iconst (v := (nI 3)) (zd_t dmM_limit 116 rfl) (by decide) ?_
        refine zg_icmp_ne (tgt := 227) (zd_t dmM_limit 117 rfl) (by decide) (fun _ => ?_) (fun hq => absurd hq (fun h => h3 ((nI_eq (by omega) (by decide)).mp h)))
        refine zg_lload (zd_t dmM_limit 125 rfl) rfl ?_
        refine zg_lstore (zd_t dmM_limit 126 rfl) (by decide) rfl ?_
        exact zg_lv [6, 7, 8, 9, 10, 1, 0] rfl tl
end ZM15
end
section
abbrev zs_b (T : zs_S) : zs_S2 := (T, zs_ex T)
theorem zs_bput (T : zs_S) (i : Nat) (v : Int) : ((zs_sput T i v, zs_u1 (zs_ex T) i v) : zs_S2) = zs_b (zs_sput T i v) := rfl
def mz_vv (op : Nat) (t x y : Int) : Int := if op = 0 then x + y else if op = 1 then x - y else if op = 2 then x * y else t + x * y
theorem mz_vv_cr {op k t x y : Nat} (ho : op < 4) (hx : x < mz_m k) (hy : y < mz_m k) : (mz_vv op (t : Int) (x : Int) (y : Int) % (mz_m k : Int)).toNat = mz_cr op k t x y := by
  have hm := mz_m_lt k
  unfold mz_vv mz_cr
  rcases (by omega : op = 0 ∨ op = 1 ∨ op = 2 ∨ op = 3) with rfl | rfl | rfl | rfl
  · show (((x : Int) + (y : Int)) % (mz_m k : Int)).toNat = (x + y) % mz_m k
    rw [← Int.natCast_add, ← Int.natCast_emod, Int.toNat_natCast]
  · show (((x : Int) - (y : Int)) % (mz_m k : Int)).toNat = (x + mz_m k - y) % mz_m k
    have e : ((x : Int) - (y : Int)) % (mz_m k : Int) = (((x + mz_m k - y : Nat) : Int)) % (mz_m k : Int) := by
      rw [show (((x + mz_m k - y : Nat) : Int)) = ((x : Int) - (y : Int)) + (mz_m k : Int) by omega, Int.add_emod_right]
    rw [e, ← Int.natCast_emod, Int.toNat_natCast]
  · show (((x : Int) * (y : Int)) % (mz_m k : Int)).toNat = (x * y) % mz_m k
    rw [← Int.natCast_mul, ← Int.natCast_emod, Int.toNat_natCast]
  · show (((t : Int) + (x : Int) * (y : Int)) % (mz_m k : Int)).toNat = (t + x * y) % mz_m k
    rw [← Int.natCast_mul, ← Int.natCast_add, ← Int.natCast_emod, Int.toNat_natCast]
theorem mz_vv_in {op t x y : Nat} (ht : t ≤ 256) (hx : x ≤ 256) (hy : y ≤ 256) : mz_in (mz_vv op (t : Int) (x : Int) (y : Int)) := by
  have h1 := Nat.mul_le_mul hx hy
  have h2 : ((x : Int) * (y : Int)) = ((x * y : Nat) : Int) := by rw [Int.natCast_mul]
  unfold mz_vv mz_in
  rw [h2]
  split
  · omega
  · split
    · omega
    · split <;> omega
section ZM16
variable {l : Launch} {P : zs_P} {d : Nat} {S : zs_S} {T : zs_S} {h : Nat → Int} {th : Int32} {o : Int64} {w : Nat × Nat} {e a b i k op : Nat}
theorem zm_reckon_t {V : Int} {u6 u8 : Value} (hk : k < 8) (he : e < 16) (hV : mz_in V) {r : zg_R}
    (kk : zg_G l (zs_E P) (d + 1) mM_reckon 12 [(5, .int (nI (k + 1))), (0, .ref (zp_B P + 67)), (1, .int (nI op)), (2, .int (nI e)), (3, .int (nI a)), (4, .int (nI b))] [] (zs_σ P S th (zs_sre T e k (V % (mz_m k : Int)).toNat, h) o w) r) :
    zg_G l (zs_E P) (d + 1) mM_reckon 107 [(8, u8), (6, u6), (5, .int (nI k)), (0, .ref (zp_B P + 67)), (1, .int (nI op)), (2, .int (nI e)), (3, .int (nI a)), (4, .int (nI b))] [.long (mz_L V)] (zs_σ P S th (T, h) o w) r := by
  have hm := mz_m_lt k
  refine zg_lstore (zd_t dmM_reckon 64 rfl) (by decide) rfl ?_
  refine zg_aload_n (zd_t dmM_reckon 65 rfl) rfl ?_
  refine zg_getf (zd_t dmM_reckon 66 rfl) zf_M_13 zs_m0 rfl ?_
  refine zg_bipush (v := (nI 8)) (zd_t dmM_reckon 67 rfl) (by decide) ?_
  refine zg_iload_n (zd_t dmM_reckon 68 rfl) rfl ?_
  refine zg_imul (zd_t dmM_reckon 69 rfl) ?_
  refine zg_iload (zd_t dmM_reckon 70 rfl) rfl ?_
  refine zg_iadd (zd_t dmM_reckon 71 rfl) ?_
  refine zg_lload (zd_t dmM_reckon 72 rfl) rfl ?_
  refine zg_aload_n (zd_t dmM_reckon 73 rfl) rfl ?_
  refine zg_getf (zd_t dmM_reckon 74 rfl) zf_M_7 zs_m0 rfl ?_
  refine zg_iload (zd_t dmM_reckon 75 rfl) rfl ?_
  refine zg_iald (k := k) (t0 := 0) (zd_t dmM_reckon 76 rfl) zs_m1 rfl rfl hk (by decide) ?_
  rw [show zs_mo k = nI (mz_m k) from if_pos hk]
  refine zg_callS (zd_t dmM_reckon 77 rfl) zl_M_56 zm_mM_rest zst_mM_rest (av := _) (rest := _) (by rfl) (by rfl) (by exact Nat.le_of_ble_eq_true rfl) (zm_rest hV hm.2 hm.1) ?_
  refine zg_iast (k := 8 * e + k) (t0 := 0) (zd_t dmM_reckon 78 rfl) zs_m2 rfl (zs_ix8 e k) (by omega) (by decide) (zs_um_re hk) ?_
  refine zg_iinc (lv2 := [(5, .int (nI (k + 1))), (10, .long (mz_L V)), (8, u8), (6, u6), (0, .ref (zp_B P + 67)), (1, .int (nI op)), (2, .int (nI e)), (3, .int (nI a)), (4, .int (nI b))]) (zd_t dmM_reckon 79 rfl) rfl (mz_inc k) (by decide) rfl ?_
  refine zg_goto (tgt := 12) (zd_t dmM_reckon 80 rfl) (by decide) ?_
  exact zg_lv [0, 4, 5, 6, 7, 8] rfl kk
theorem zm_reckon_lp (ho : op < 4) (he : e < 16) (ha : a < 16) (hb : b < 16) (hok : ∀ j, j < 16 → mz_ok (zs_re T j)) : ∀ (n k : Nat), k + n = 8 → zg_G l (zs_E P) (d + 1) mM_reckon 12 [(5, .int (nI k)), (0, .ref (zp_B P + 67)), (1, .int (nI op)), (2, .int (nI e)), (3, .int (nI a)), (4, .int (nI b))] [] (zs_σ P S th (zs_ck T op e a b k, h) o w) (.inl none, zs_σ P S th (zs_ck T op e a b 8, h) o w) := by
  intro n
  induction n with
  | zero =>
    intro k hk
    have hk : k = 8 := by omega
    subst hk
    refine zg_iload (zd_t dmM_reckon 8 rfl) rfl ?_
    refine zg_bipush (v := (nI 8)) (zd_t dmM_reckon 9 rfl) (by decide) ?_
    refine zg_icmp_ge (tgt := 139) (zd_t dmM_reckon 10 rfl) (by decide) (fun _ => ?_) (fun hq => absurd (by decide) hq)
    exact zg_vret (zd_t dmM_reckon 81 rfl) rfl rfl
  | succ n ih =>
    intro k hk
    have hk8 : k < 8 := by omega
    have hm := mz_m_lt k
    have r1 := hok e he k hk8
    have r2 := hok a ha k hk8
    have r3 := hok b hb k hk8
    have nx := ih (k + 1) (by omega)
    rw [← zs_ck_s, ← mz_vv_cr ho r2 r3] at nx
    have hV : mz_in (mz_vv op (zs_re T e k : Int) (zs_re T a k : Int) (zs_re T b k : Int)) := mz_vv_in (by omega) (by omega) (by omega)
    have tl : ∀ V, V = mz_vv op (zs_re T e k : Int) (zs_re T a k : Int) (zs_re T b k : Int) → zg_G l (zs_E P) (d + 1) mM_reckon 107 [(8, .long (mz_L (zs_re T b k : Int))), (6, .long (mz_L (zs_re T a k : Int))), (5, .int (nI k)), (0, .ref (zp_B P + 67)), (1, .int (nI op)), (2, .int (nI e)), (3, .int (nI a)), (4, .int (nI b))] [.long (mz_L V)] (zs_σ P S th (zs_ck T op e a b k, h) o w) (.inl none, zs_σ P S th (zs_ck T op e a b 8, h) o w) := by
      intro V hv
      subst hv
      exact zm_reckon_t hk8 he hV nx
    refine zg_iload (zd_t dmM_reckon 8 rfl) rfl ?_
    refine zg_bipush (v := (nI 8)) (zd_t dmM_reckon 9 rfl) (by decide) ?_
    refine zg_icmp_ge (tgt := 139) (zd_t dmM_reckon 10 rfl) (by decide) (fun hq => absurd hq (fun h => absurd ((nI_leI (by decide) (by omega)).mp h) (by omega))) (fun _ => ?_)
    refine zg_aload_n (zd_t dmM_reckon 11 rfl) rfl ?_
    refine zg_getf (zd_t dmM_reckon 12 rfl) zf_M_13 zs_m0 rfl ?_
    refine zg_bipush (v := (nI 8)) (zd_t dmM_reckon 13 rfl) (by decide) ?_
    refine zg_iload_n (zd_t dmM_reckon 14 rfl) rfl ?_
    refine zg_imul (zd_t dmM_reckon 15 rfl) ?_
    refine zg_iload (zd_t dmM_reckon 16 rfl) rfl ?_
    refine zg_iadd (zd_t dmM_reckon 17 rfl) ?_
    refine zg_iald (k := 8 * a + k) (t0 := 0) (zd_t dmM_reckon 18 rfl) zs_m2 rfl (zs_ix8 a k) (by omega) (by decide) ?_
    rw [(zs_q8 hk8).1, (zs_q8 hk8).2, zs_ck_at]
    refine zg_i2l (zd_t dmM_reckon 19 rfl) rfl ?_
    rw [mz_i2l (show zs_re T a k < 2 ^ 31 by omega)]
    refine zg_lstore (zd_t dmM_reckon 20 rfl) (by decide) rfl ?_
    refine zg_aload_n (zd_t dmM_reckon 21 rfl) rfl ?_
    refine zg_getf (zd_t dmM_reckon 22 rfl) zf_M_13 zs_m0 rfl ?_
    refine zg_bipush (v := (nI 8)) (zd_t dmM_reckon 23 rfl) (by decide) ?_
    refine zg_iload (zd_t dmM_reckon 24 rfl) rfl ?_
    refine zg_imul (zd_t dmM_reckon 25 rfl) ?_
    refine zg_iload (zd_t dmM_reckon 26 rfl) rfl ?_
    refine zg_iadd (zd_t dmM_reckon 27 rfl) ?_
    refine zg_iald (k := 8 * b + k) (t0 := 0) (zd_t dmM_reckon 28 rfl) zs_m2 rfl (zs_ix8 b k) (by omega) (by decide) ?_
    rw [(zs_q8 hk8).1, (zs_q8 hk8).2, zs_ck_at]
    refine zg_i2l (zd_t dmM_reckon 29 rfl) rfl ?_
    rw [mz_i2l (show zs_re T b k < 2 ^ 31 by omega)]
    refine zg_lstore (zd_t dmM_reckon 30 rfl) (by decide) rfl ?_
    refine zg_iload_n (zd_t dmM_reckon 31 rfl) rfl ?_
    by_cases h0 : op = 0
    · refine zg_if_ne (tgt := 62) (zd_t dmM_reckon 32 rfl) (by decide) (fun hq => absurd (by rw [h0]; rfl) hq) (fun _ => ?_)
      refine zg_lload (zd_t dmM_reckon 33 rfl) rfl ?_
      refine zg_lload (zd_t dmM_reckon 34 rfl) rfl ?_
      refine zg_ladd (zd_t dmM_reckon 35 rfl) ?_
      rw [mz_add]
      refine zg_goto (tgt := 107) (zd_t dmM_reckon 36 rfl) (by decide) ?_
      exact tl _ (if_pos h0).symm
    · refine zg_if_ne (tgt := 62) (zd_t dmM_reckon 32 rfl) (by decide) (fun _ => ?_) (fun hq => absurd hq (nI_ne0 (by omega) (by omega)))
      refine zg_iload_n (zd_t dmM_reckon 37 rfl) rfl ?_
      refine zg_iconst (v := (nI 1)) (zd_t dmM_reckon 38 rfl) (by decide) ?_
      by_cases h1 : op = 1
      · refine zg_icmp_ne (tgt := 75) (zd_t dmM_reckon 39 rfl) (by decide) (fun hq => absurd (by rw [h1]) hq) (fun _ => ?_)
        refine zg_lload (zd_t dmM_reckon 40 rfl) rfl ?_
        refine zg_lload (zd_t dmM_reckon 41 rfl) rfl ?_
        refine zg_lsub (zd_t dmM_reckon 42 rfl) ?_
        rw [mz_sub]
        refine zg_goto (tgt := 107) (zd_t dmM_reckon 43 rfl) (by decide) ?_
        exact tl _ (by unfold mz_vv; rw [if_neg h0, if_pos h1])
      · refine zg_icmp_ne (tgt := 75) (zd_t dmM_reckon 39 rfl) (by decide) (fun _ => ?_) (fun hq => absurd hq (fun h => h1 ((nI_eq (by omega) (by decide)).mp h)))
        refine zg_iload_n (zd_t dmM_reckon 44 rfl) rfl ?_
        refine zg_iconst (v := (nI 2)) (zd_t dmM_reckon 45 rfl) (by decide) ?_
        by_cases h2 : op = 2
        · refine zg_icmp_ne (tgt := 88) (zd_t dmM_reckon 46 rfl) (by decide) (fun hq => absurd (by rw [h2]) hq) (fun _ => ?_)
          refine zg_lload (zd_t dmM_reckon 47 rfl) rfl ?_
          refine zg_lload (zd_t dmM_reckon 48 rfl) rfl ?_
          refine zg_lmul (zd_t dmM_reckon 49 rfl) ?_
          rw [mz_mul]
          refine zg_goto (tgt := 107) (zd_t dmM_reckon 50 rfl) (by decide) ?_
          exact tl _ (by unfold mz_vv; rw [if_neg h0, if_neg h1, if_pos h2])
        · refine zg_icmp_ne (tgt := 88) (zd_t dmM_reckon 46 rfl) (by decide) (fun _ => ?_) (fun hq => absurd hq (fun h => h2 ((nI_eq (by omega) (by decide)).mp h)))
          refine zg_aload_n (zd_t dmM_reckon 51 rfl) rfl ?_
          refine zg_getf (zd_t dmM_reckon 52 rfl) zf_M_13 zs_m0 rfl ?_
          refine zg_bipush (v := (nI 8)) (zd_t dmM_reckon 53 rfl) (by decide) ?_
          refine zg_iload_n (zd_t dmM_reckon 54 rfl) rfl ?_
          refine zg_imul (zd_t dmM_reckon 55 rfl) ?_
          refine zg_iload (zd_t dmM_reckon 56 rfl) rfl ?_
          refine zg_iadd (zd_t dmM_reckon 57 rfl) ?_
          refine zg_iald (k := 8 * e + k) (t0 := 0) (zd_t dmM_reckon 58 rfl) zs_m2 rfl (zs_ix8 e k) (by omega) (by decide) ?_
          rw [(zs_q8 hk8).1, (zs_q8 hk8).2, zs_ck_at]
          refine zg_i2l (zd_t dmM_reckon 59 rfl) rfl ?_
          rw [mz_i2l (show zs_re T e k < 2 ^ 31 by omega)]
          refine zg_lload (zd_t dmM_reckon 60 rfl) rfl ?_
          refine zg_lload (zd_t dmM_reckon 61 rfl) rfl ?_
          refine zg_lmul (zd_t dmM_reckon 62 rfl) ?_
          refine zg_ladd (zd_t dmM_reckon 63 rfl) ?_
          rw [mz_mul, mz_add]
          exact tl _ (by unfold mz_vv; rw [if_neg h0, if_neg h1, if_neg h2])
theorem zm_reckon (ho : op < 4) (he : e < 16) (ha : a < 16) (hb : b < 16) (hI : zs_inv T) : zg_C l (zs_E P) (d + 2) mM_reckon [.ref (zp_B P + 67), .int (nI op), .int (nI e), .int (nI a), .int (nI b)] (zs_σ P S th (zs_b T) o w) (.inl none, zs_σ P S th (zs_b (zs_scmb T op e a b)) o w) := by
  refine zg_C_of (by decide +kernel) (Nat.le_of_ble_eq_true rfl) ?_
  have e1 := zs_lim_eq (T := T) (a := a) (b := b) ho (hI.2.1 e he)
  refine zg_aload_n (zd_t dmM_reckon 0 rfl) rfl ?_
  refine zg_iload_n (zd_t dmM_reckon 1 rfl) rfl ?_
  refine zg_iload_n (zd_t dmM_reckon 2 rfl) rfl ?_
  refine zg_iload_n (zd_t dmM_reckon 3 rfl) rfl ?_
  refine zg_iload (zd_t dmM_reckon 4 rfl) rfl ?_
  refine zg_callV (zd_t dmM_reckon 5 rfl) zl_M_97 zm_mM_limit zi_mM_limit zse_mM_limit zs_m0 zs_cl3 rfl (av := _) (rest := _) (by rfl) (by rfl) (by exact Nat.le_of_ble_eq_true rfl) (zm_limit ho he ha hb hI.2.1) ?_
  rw [e1.2, e1.1]
  refine zg_iconst (v := (nI 0)) (zd_t dmM_reckon 6 rfl) (by decide) ?_
  refine zg_istore (zd_t dmM_reckon 7 rfl) (by decide) rfl ?_
  obtain ⟨T1, hT⟩ : ∃ T1, T1 = zs_sex (zs_ssu T e (zs_csu T op e a b)) e (if zs_csu T op e a b = true then zs_cres T op e a b else 0) := ⟨_, rfl⟩
  have g := zm_reckon_lp (l := l) (P := P) (d := d + 1) (S := S) (T := T1) (h := zs_ex T1) (th := th) (o := o) (w := w) ho he ha hb (fun j hj => by rw [hT]; exact hI.1 j hj) 8 0 rfl
  rw [zs_ck_0, hT] at g
  exact g
theorem zm_scaleBy_lp {x : Nat} {z4 : Int32} (hx : x < 64) {r : zg_R} (kk : zg_G l (zs_E P) d mM_scaleBy 47 [(5, .long (mz_L (mz_pr x 6 : Int))), (0, .ref (zp_B P + 67)), (1, .int (nI e)), (2, .int (nI a)), (3, .int (nI x)), (4, .int z4)] [] (zs_σ P S th (T, h) o w) r) : ∀ (n k : Nat), k + n = 6 → zg_G l (zs_E P) d mM_scaleBy 6 [(7, .int (nI k)), (5, .long (mz_L (mz_pr x k : Int))), (0, .ref (zp_B P + 67)), (1, .int (nI e)), (2, .int (nI a)), (3, .int (nI x)), (4, .int z4)] [] (zs_σ P S th (T, h) o w) r := by
  intro n
  induction n with
  | zero =>
    intro k hk
    have hk : k = 6 := by omega
    subst hk
    refine zg_iload (zd_t dmM_scaleBy 4 rfl) rfl ?_
    refine zg_bipush (v := (nI 6)) (zd_t dmM_scaleBy 5 rfl) (by decide) ?_
    refine zg_icmp_ge (tgt := 47) (zd_t dmM_scaleBy 6 rfl) (by decide) (fun _ => ?_) (fun hq => absurd (by decide) hq)
    exact zg_lv [1, 2, 3, 4, 5, 6] rfl kk
  | succ n ih =>
    intro k hk
    have hm := mz_m_lt k
    have nx : zg_G l (zs_E P) d mM_scaleBy 39 [(7, .int (nI k)), (5, .long (mz_L (mz_pr x k : Int))), (0, .ref (zp_B P + 67)), (1, .int (nI e)), (2, .int (nI a)), (3, .int (nI x)), (4, .int z4)] [.long (mz_L (mz_pr x (k + 1) : Int))] (zs_σ P S th (T, h) o w) r := by
      refine zg_lstore (zd_t dmM_scaleBy 23 rfl) (by decide) rfl ?_
      refine zg_iinc (lv2 := [(7, .int (nI (k + 1))), (5, .long (mz_L (mz_pr x (k + 1) : Int))), (0, .ref (zp_B P + 67)), (1, .int (nI e)), (2, .int (nI a)), (3, .int (nI x)), (4, .int z4)]) (zd_t dmM_scaleBy 24 rfl) rfl (mz_inc k) (by decide) rfl ?_
      refine zg_goto (tgt := 6) (zd_t dmM_scaleBy 25 rfl) (by decide) ?_
      exact ih (k + 1) (by omega)
    refine zg_iload (zd_t dmM_scaleBy 4 rfl) rfl ?_
    refine zg_bipush (v := (nI 6)) (zd_t dmM_scaleBy 5 rfl) (by decide) ?_
    refine zg_icmp_ge (tgt := 47) (zd_t dmM_scaleBy 6 rfl) (by decide) (fun hq => absurd hq (fun h => absurd ((nI_leI (by decide) (by omega)).mp h) (by omega))) (fun _ => ?_)
    refine zg_iload_n (zd_t dmM_scaleBy 7 rfl) rfl ?_
    refine zg_iload (zd_t dmM_scaleBy 8 rfl) rfl ?_
    refine zg_ishr (zd_t dmM_scaleBy 9 rfl) ?_
    refine zg_iconst (v := (nI 1)) (zd_t dmM_scaleBy 10 rfl) (by decide) ?_
    refine zg_iand (zd_t dmM_scaleBy 11 rfl) ?_
    refine zg_iconst (v := (nI 1)) (zd_t dmM_scaleBy 12 rfl) (by decide) ?_
    rw [mz_bit x hx k (by omega)]
    by_cases hb : x / 2 ^ k % 2 = 1
    · refine zg_icmp_ne (tgt := 37) (zd_t dmM_scaleBy 13 rfl) (by decide) (fun hq => absurd (by rw [hb]) hq) (fun _ => ?_)
      refine zg_lload (zd_t dmM_scaleBy 14 rfl) rfl ?_
      refine zg_aload_n (zd_t dmM_scaleBy 15 rfl) rfl ?_
      refine zg_getf (zd_t dmM_scaleBy 16 rfl) zf_M_7 zs_m0 rfl ?_
      refine zg_iload (zd_t dmM_scaleBy 17 rfl) rfl ?_
      refine zg_iald (k := k) (t0 := 0) (zd_t dmM_scaleBy 18 rfl) zs_m1 rfl rfl (show k < 8 by omega) (by decide) ?_
      rw [show zs_mo k = nI (mz_m k) from if_pos (by omega)]
      refine zg_i2l (zd_t dmM_scaleBy 19 rfl) rfl ?_
      rw [mz_i2l (show mz_m k < 2 ^ 31 by omega)]
      refine zg_lmul (zd_t dmM_scaleBy 20 rfl) ?_
      rw [mz_mul, show (mz_pr x k : Int) * (mz_m k : Int) = (mz_pr x (k + 1) : Int) by rw [show mz_pr x (k + 1) = mz_pr x k * mz_m k from if_pos hb]; omega]
      refine zg_goto (tgt := 39) (zd_t dmM_scaleBy 21 rfl) (by decide) ?_
      exact nx
    · have e : mz_pr x (k + 1) = mz_pr x k := if_neg hb
      refine zg_icmp_ne (tgt := 37) (zd_t dmM_scaleBy 13 rfl) (by decide) (fun _ => ?_) (fun hq => absurd hq (fun h => hb ((nI_eq (by omega) (by decide)).mp h)))
      rw [e] at nx
      refine zg_lload (zd_t dmM_scaleBy 22 rfl) rfl ?_
      exact nx
theorem zm_scaleBy {x : Nat} {n : Bool} (he : e < 16) (ha : a < 16) (hx : x < 64) (hp : mz_pop x ≤ 4) (hI : zs_inv T) : zg_C l (zs_E P) (d + 2) mM_scaleBy [.ref (zp_B P + 67), .int (nI e), .int (nI a), .int (nI x), .int (zs_bi n)] (zs_σ P S th (zs_b T) o w) (.inl none, zs_σ P S th (zs_b (zs_ssc T e a x n)) o w) := by
  refine zg_C_of (by decide +kernel) (Nat.le_of_ble_eq_true rfl) ?_
  have hpr := mz_pr_le x hx hp
  have hv := mz_val_hr (zs_re T a)
  refine zg_lconst (v := mz_L 1) (zd_t dmM_scaleBy 0 rfl) (by decide) ?_
  refine zg_lstore (zd_t dmM_scaleBy 1 rfl) (by decide) rfl ?_
  refine zg_iconst (v := (nI 0)) (zd_t dmM_scaleBy 2 rfl) (by decide) ?_
  refine zg_istore (zd_t dmM_scaleBy 3 rfl) (by decide) rfl ?_
  refine zm_scaleBy_lp hx ?_ 6 0 rfl
  obtain ⟨s, hs⟩ : ∃ s : Int, s = (mz_pr x 6 : Int) := ⟨_, rfl⟩
  have hs1 : 1 ≤ s ∧ s < 4000000000 := by omega
  have hsi : mz_in s := by unfold mz_in; omega
  have hsc := mz_sc_hr (n := n) hv hs1.1
  unfold zs_ssc
  rw [← hs]
  refine zg_aload_n (zd_t dmM_scaleBy 26 rfl) rfl ?_
  refine zg_iload_n (zd_t dmM_scaleBy 27 rfl) rfl ?_
  refine zg_callV (zd_t dmM_scaleBy 28 rfl) zl_M_60 zm_mM_valueOf zi_mM_valueOf zse_mM_valueOf zs_m0 zs_cl3 rfl (av := _) (rest := _) (by rfl) (by rfl) (by exact Nat.le_of_ble_eq_true rfl) (zm_valueOf ha (hI.1 a ha)) ?_
  refine zg_lstore (zd_t dmM_scaleBy 29 rfl) (by decide) rfl ?_
  refine zg_aload_n (zd_t dmM_scaleBy 30 rfl) rfl ?_
  refine zg_iload_n (zd_t dmM_scaleBy 31 rfl) rfl ?_
  refine zg_iload (zd_t dmM_scaleBy 32 rfl) rfl ?_
  cases n with
  | true =>
    rw [show mz_sc (mz_val (zs_re T a)) s true = (2 * mz_val (zs_re T a) + s) / (2 * s) from if_pos rfl] at hsc ⊢
    refine zg_if_eq (tgt := 82) (zd_t dmM_scaleBy 33 rfl) (by decide) (fun hq => absurd hq (by decide)) (fun _ => ?_)
    refine zg_ldc2 (zd_t dmM_scaleBy 34 rfl) zc_M_37 ?_
    refine zg_lload (zd_t dmM_scaleBy 35 rfl) rfl ?_
    refine zg_lmul (zd_t dmM_scaleBy 36 rfl) ?_
    refine zg_lload (zd_t dmM_scaleBy 37 rfl) rfl ?_
    refine zg_ladd (zd_t dmM_scaleBy 38 rfl) ?_
    refine zg_ldc2 (zd_t dmM_scaleBy 39 rfl) zc_M_37 ?_
    refine zg_lload (zd_t dmM_scaleBy 40 rfl) rfl ?_
    refine zg_lmul (zd_t dmM_scaleBy 41 rfl) ?_
    rw [mz_mul, mz_mul, mz_add]
    refine zg_callS (zd_t dmM_scaleBy 42 rfl) zl_M_112 zm_mM_down zst_mM_down (av := _) (rest := _) (by rfl) (by rfl) (by exact Nat.le_of_ble_eq_true rfl) (zm_down (by unfold mz_in; omega) (by unfold mz_in; omega) (by omega)) ?_
    refine zg_goto (tgt := 89) (zd_t dmM_scaleBy 43 rfl) (by decide) ?_
    refine zg_callV (zd_t dmM_scaleBy 47 rfl) zl_M_76 zm_mM_put zi_mM_put zse_mM_put zs_m0 zs_cl3 rfl (av := _) (rest := _) (by rfl) (by rfl) (by exact Nat.le_of_ble_eq_true rfl) (zm_put he hsc.i) ?_
    exact zg_vret (zd_t dmM_scaleBy 48 rfl) rfl rfl
  | false =>
    rw [show mz_sc (mz_val (zs_re T a)) s false = mz_val (zs_re T a) / s from if_neg (by decide)] at hsc ⊢
    refine zg_if_eq (tgt := 82) (zd_t dmM_scaleBy 33 rfl) (by decide) (fun _ => ?_) (fun hq => absurd (by decide) hq)
    refine zg_lload (zd_t dmM_scaleBy 44 rfl) rfl ?_
    refine zg_lload (zd_t dmM_scaleBy 45 rfl) rfl ?_
    refine zg_callS (zd_t dmM_scaleBy 46 rfl) zl_M_112 zm_mM_down zst_mM_down (av := _) (rest := _) (by rfl) (by rfl) (by exact Nat.le_of_ble_eq_true rfl) (zm_down hv.i hsi (by omega)) ?_
    refine zg_callV (zd_t dmM_scaleBy 47 rfl) zl_M_76 zm_mM_put zi_mM_put zse_mM_put zs_m0 zs_cl3 rfl (av := _) (rest := _) (by rfl) (by rfl) (by exact Nat.le_of_ble_eq_true rfl) (zm_put he hsc.i) ?_
    exact zg_vret (zd_t dmM_scaleBy 48 rfl) rfl rfl
def zs_cpk (T : zs_S) (i j k : Nat) : zs_S := (T.1, T.2.1, fun q t => if q = i ∧ t < k then zs_re T j t else zs_re T q t, zs_ex T, zs_su T, zs_pg T)
theorem zs_cpk_0 (T : zs_S) (i j : Nat) : zs_cpk T i j 0 = T := by
  unfold zs_cpk
  simp
theorem zs_cpk_at (T : zs_S) (i j k q : Nat) : zs_re (zs_cpk T i j k) q k = zs_re T q k := if_neg (by omega)
theorem zs_cpk_s (T : zs_S) (i j k : Nat) : zs_sre (zs_cpk T i j k) i k (zs_re T j k) = zs_cpk T i j (k + 1) := by
  unfold zs_sre zs_cpk zs_u2 zs_re
  congr 3
  funext q t
  by_cases h1 : q = i ∧ t = k
  · rw [if_pos h1, if_pos ⟨h1.1, by omega⟩, h1.2]
  · rw [if_neg h1]
    by_cases h2 : q = i ∧ t < k
    · simp only [if_pos h2]
      rw [if_pos ⟨h2.1, by omega⟩]
    · simp only [if_neg h2]
      rw [if_neg (fun h => h2 ⟨h.1, by have := h.2; have : t ≠ k := fun e => h1 ⟨h.1, e⟩; omega⟩)]
theorem zm_copy_lp (ha : a < 16) (hb : b < 16) : ∀ (n k : Nat), k + n = 8 → zg_G l (zs_E P) d mM_copy 2 [(3, .int (nI k)), (0, .ref (zp_B P + 67)), (1, .int (nI a)), (2, .int (nI b))] [] (zs_σ P S th (zs_cpk T a b k, zs_ex T) o w) (.inl none, zs_σ P S th (zs_b (zs_scp T a b)) o w) := by
  intro n
  induction n with
  | zero =>
    intro k hk
    have hk : k = 8 := by omega
    subst hk
    refine zg_iload_n (zd_t dmM_copy 2 rfl) rfl ?_
    refine zg_bipush (v := (nI 8)) (zd_t dmM_copy 3 rfl) (by decide) ?_
    refine zg_icmp_ge (tgt := 36) (zd_t dmM_copy 4 rfl) (by decide) (fun _ => ?_) (fun hq => absurd (by decide) hq)
    refine zg_aload_n (zd_t dmM_copy 23 rfl) rfl ?_
    refine zg_getf (zd_t dmM_copy 24 rfl) zf_M_16 zs_m0 rfl ?_
    refine zg_iload_n (zd_t dmM_copy 25 rfl) rfl ?_
    refine zg_aload_n (zd_t dmM_copy 26 rfl) rfl ?_
    refine zg_getf (zd_t dmM_copy 27 rfl) zf_M_16 zs_m0 rfl ?_
    refine zg_iload_n (zd_t dmM_copy 28 rfl) rfl ?_
    refine zg_lald (k := b) (t0 := 1) (zd_t dmM_copy 29 rfl) zs_m3 rfl rfl hb (by decide) ?_
    refine zg_last (k := a) (t0 := 1) (zd_t dmM_copy 30 rfl) zs_m3 rfl rfl ha (by decide) zs_um_lo ?_
    refine zg_aload_n (zd_t dmM_copy 31 rfl) rfl ?_
    refine zg_getf (zd_t dmM_copy 32 rfl) zf_M_20 zs_m0 rfl ?_
    refine zg_iload_n (zd_t dmM_copy 33 rfl) rfl ?_
    refine zg_aload_n (zd_t dmM_copy 34 rfl) rfl ?_
    refine zg_getf (zd_t dmM_copy 35 rfl) zf_M_20 zs_m0 rfl ?_
    refine zg_iload_n (zd_t dmM_copy 36 rfl) rfl ?_
    refine zg_lald (k := b) (t0 := 1) (zd_t dmM_copy 37 rfl) zs_m4 rfl rfl hb (by decide) ?_
    refine zg_last (k := a) (t0 := 1) (zd_t dmM_copy 38 rfl) zs_m4 rfl rfl ha (by decide) zs_um_hi ?_
    refine zg_aload_n (zd_t dmM_copy 39 rfl) rfl ?_
    refine zg_getf (zd_t dmM_copy 40 rfl) zf_M_23 zs_m0 rfl ?_
    refine zg_iload_n (zd_t dmM_copy 41 rfl) rfl ?_
    refine zg_aload_n (zd_t dmM_copy 42 rfl) rfl ?_
    refine zg_getf (zd_t dmM_copy 43 rfl) zf_M_23 zs_m0 rfl ?_
    refine zg_iload_n (zd_t dmM_copy 44 rfl) rfl ?_
    refine zg_zald (k := b) (t0 := 2) (zd_t dmM_copy 45 rfl) zs_m5 rfl rfl hb (by decide) ?_
    refine zg_zast (k := a) (t0 := 2) (zd_t dmM_copy 46 rfl) zs_m5 rfl rfl ha (by decide) (zs_nb _) zs_um_su ?_
    exact zg_vret (zd_t dmM_copy 47 rfl) rfl rfl
  | succ n ih =>
    intro k hk
    have hk8 : k < 8 := by omega
    refine zg_iload_n (zd_t dmM_copy 2 rfl) rfl ?_
    refine zg_bipush (v := (nI 8)) (zd_t dmM_copy 3 rfl) (by decide) ?_
    refine zg_icmp_ge (tgt := 36) (zd_t dmM_copy 4 rfl) (by decide) (fun hq => absurd hq (fun h => absurd ((nI_leI (by decide) (by omega)).mp h) (by omega))) (fun _ => ?_)
    refine zg_aload_n (zd_t dmM_copy 5 rfl) rfl ?_
    refine zg_getf (zd_t dmM_copy 6 rfl) zf_M_13 zs_m0 rfl ?_
    refine zg_bipush (v := (nI 8)) (zd_t dmM_copy 7 rfl) (by decide) ?_
    refine zg_iload_n (zd_t dmM_copy 8 rfl) rfl ?_
    refine zg_imul (zd_t dmM_copy 9 rfl) ?_
    refine zg_iload_n (zd_t dmM_copy 10 rfl) rfl ?_
    refine zg_iadd (zd_t dmM_copy 11 rfl) ?_
    refine zg_aload_n (zd_t dmM_copy 12 rfl) rfl ?_
    refine zg_getf (zd_t dmM_copy 13 rfl) zf_M_13 zs_m0 rfl ?_
    refine zg_bipush (v := (nI 8)) (zd_t dmM_copy 14 rfl) (by decide) ?_
    refine zg_iload_n (zd_t dmM_copy 15 rfl) rfl ?_
    refine zg_imul (zd_t dmM_copy 16 rfl) ?_
    refine zg_iload_n (zd_t dmM_copy 17 rfl) rfl ?_
    refine zg_iadd (zd_t dmM_copy 18 rfl) ?_
    refine zg_iald (k := 8 * b + k) (t0 := 0) (zd_t dmM_copy 19 rfl) zs_m2 rfl (zs_ix8 b k) (by omega) (by decide) ?_
    rw [(zs_q8 hk8).1, (zs_q8 hk8).2, zs_cpk_at]
    refine zg_iast (k := 8 * a + k) (t0 := 0) (zd_t dmM_copy 20 rfl) zs_m2 rfl (zs_ix8 a k) (by omega) (by decide) ((zs_um_re hk8).trans (by rw [zs_cpk_s])) ?_
    refine zg_iinc (lv2 := [(3, .int (nI (k + 1))), (0, .ref (zp_B P + 67)), (1, .int (nI a)), (2, .int (nI b))]) (zd_t dmM_copy 21 rfl) rfl (mz_inc k) (by decide) rfl ?_
    refine zg_goto (tgt := 2) (zd_t dmM_copy 22 rfl) (by decide) ?_
    exact ih (k + 1) (by omega)
theorem zm_copy (ha : a < 16) (hb : b < 16) : zg_C l (zs_E P) d mM_copy [.ref (zp_B P + 67), .int (nI a), .int (nI b)] (zs_σ P S th (zs_b T) o w) (.inl none, zs_σ P S th (zs_b (zs_scp T a b)) o w) := by
  refine zg_C_of (by decide +kernel) (Nat.le_of_ble_eq_true rfl) ?_
  refine zg_iconst (v := (nI 0)) (zd_t dmM_copy 0 rfl) (by decide) ?_
  refine zg_istore_n (zd_t dmM_copy 1 rfl) (by decide) rfl ?_
  have g := zm_copy_lp (l := l) (P := P) (d := d) (S := S) (T := T) (th := th) (o := o) (w := w) ha hb 8 0 rfl
  rw [zs_cpk_0] at g
  exact g
theorem mz_alt_up (ρ : Nat → Nat) (k v : Nat) : mz_alt ρ (k + 1) v = mz_up ρ k v := by
  funext j
  unfold mz_alt mz_up
  by_cases hj : j = k
  · rw [if_pos hj, if_pos (by omega)]
  · rw [if_neg hj, if_neg (by omega)]
theorem mz_up_same (ρ : Nat → Nat) (k : Nat) : mz_up ρ k (ρ k) = ρ := by
  funext j
  unfold mz_up
  by_cases hj : j = k
  · rw [if_pos hj, hj]
  · rw [if_neg hj]
theorem mz_P_ne {ρ : Nat → Nat} {k : Nat} (hg : ¬ mz_good ρ) : ¬ mz_P ρ k (ρ k) := by
  unfold mz_P
  rw [mz_up_same]
  exact hg
theorem mz_hf_P {ρ : Nat → Nat} (hok : mz_ok ρ) {k v : Nat} (hk : k < 6) (hv : v < mz_m k) : mz_P ρ k v ↔ (mz_hf ρ k ∧ v = mz_ht ρ k) := by
  have h := mz_heal hok k hk hv
  have hm := mz_m_lt k
  have h1 := Int.emod_nonneg (mz_num ρ k) (show (mz_m k : Int) ≠ 0 by omega)
  rw [h]
  have e : mz_hn ρ k = mz_num ρ k := if_pos hk
  unfold mz_hf mz_ht
  rw [e]
  constructor
  · intro hh
    exact ⟨hh.1, by have := hh.2; omega⟩
  · intro hh
    exact ⟨hh.1, by have := hh.2; omega⟩
theorem mz_hf_6 {ρ : Nat → Nat} (hok : mz_ok ρ) : mz_hf ρ 6 ↔ mz_val ρ % 255 = (ρ 7 : Int) := by
  have h := mz_fit_val hok 6 (by decide)
  have e : mz_hn ρ 6 = mz_val ρ := if_neg (by decide)
  unfold mz_hf
  rw [e, h]
  exact ⟨fun hh => hh.2 (by decide), fun hh => ⟨fun h => absurd rfl h, fun _ => hh⟩⟩
theorem mz_hf_7 {ρ : Nat → Nat} (hok : mz_ok ρ) : mz_hf ρ 7 ↔ mz_val ρ % 256 = (ρ 6 : Int) := by
  have h := mz_fit_val hok 7 (by decide)
  have e : mz_hn ρ 7 = mz_val ρ := if_neg (by decide)
  unfold mz_hf
  rw [e, h]
  exact ⟨fun hh => hh.1 (by decide), fun hh => ⟨fun _ => hh, fun h => absurd rfl h⟩⟩
/-- what the model finds for channel k -/
def mz_cu (ρ : Nat → Nat) (k : Nat) : Int32 := if mz_hf ρ k then nI (mz_ht ρ k) else -1
theorem mz_cu_6 {ρ : Nat → Nat} (hh : mz_hf ρ 6) : mz_cu ρ 6 = nI (mz_val ρ % 256).toNat := by
  have e : mz_hn ρ 6 = mz_val ρ := if_neg (by decide)
  unfold mz_cu mz_ht
  rw [if_pos hh, e]
  rfl
theorem mz_cu_7 {ρ : Nat → Nat} (hh : mz_hf ρ 7) : mz_cu ρ 7 = nI (mz_val ρ % 255).toNat := by
  have e : mz_hn ρ 7 = mz_val ρ := if_neg (by decide)
  unfold mz_cu mz_ht
  rw [if_pos hh, e]
  rfl
theorem zm_cure_lp (hi : i < 16) (hk : k < 6) (hok : mz_ok (zs_re T i)) (hg : ¬ mz_good (zs_re T i)) : ∀ (n v : Nat), v + n = mz_m k → (mz_hf (zs_re T i) k → v ≤ mz_ht (zs_re T i) k) → zg_G l (zs_E P) (d + 2) mM_cure 69 [(3, .int (nI v)), (0, .ref (zp_B P + 67)), (1, .int (nI i)), (2, .int (nI (k + 1)))] [] (zs_σ P S th (T, h) o w) (.inl (some (.int (mz_cu (zs_re T i) k))), zs_σ P S th (T, h) o w) := by
  have hm := mz_m_lt k
  intro n
  induction n with
  | zero =>
    intro v hv hle
    have hlt := mz_ht_lt (zs_re T i) k
    refine zg_iload_n (zd_t dmM_cure 41 rfl) rfl ?_
    refine zg_aload_n (zd_t dmM_cure 42 rfl) rfl ?_
    refine zg_getf (zd_t dmM_cure 43 rfl) zf_M_7 zs_m0 rfl ?_
    refine zg_iload_n (zd_t dmM_cure 44 rfl) rfl ?_
    refine zg_iconst (v := (nI 1)) (zd_t dmM_cure 45 rfl) (by decide) ?_
    refine zg_isub (zd_t dmM_cure 46 rfl) ?_
    refine zg_iald (k := k) (t0 := 0) (zd_t dmM_cure 47 rfl) zs_m1 rfl (nI_pred k) (by omega) (by decide) ?_
    rw [show zs_mo k = nI (mz_m k) from if_pos (by omega)]
    refine zg_icmp_ge (tgt := 139) (zd_t dmM_cure 48 rfl) (by decide) (fun _ => ?_) (fun hq => absurd ((nI_leI (by omega) (by omega)).mpr (by omega)) hq)
    refine zg_iconst (v := (-1)) (zd_t dmM_cure 83 rfl) (by decide) ?_
    rw [show mz_cu (zs_re T i) k = -1 from if_neg (fun hf => by have := hle hf; omega)]
    exact zg_iret (zd_t dmM_cure 84 rfl) rfl rfl
  | succ n ih =>
    intro v hv hle
    have hr := hok k (by omega)
    have hP := mz_hf_P hok hk (v := v) (by omega)
    have nx : ¬ (mz_hf (zs_re T i) k ∧ v = mz_ht (zs_re T i) k) → ∀ u4 : Value, zg_G l (zs_E P) (d + 2) mM_cure 133 [(4, u4), (3, .int (nI v)), (0, .ref (zp_B P + 67)), (1, .int (nI i)), (2, .int (nI (k + 1)))] [] (zs_σ P S th (T, h) o w) (.inl (some (.int (mz_cu (zs_re T i) k))), zs_σ P S th (T, h) o w) := by
      intro hne u4
      refine zg_iinc (lv2 := [(3, .int (nI (v + 1))), (4, u4), (0, .ref (zp_B P + 67)), (1, .int (nI i)), (2, .int (nI (k + 1)))]) (zd_t dmM_cure 81 rfl) rfl (mz_inc v) (by decide) rfl ?_
      refine zg_goto (tgt := 69) (zd_t dmM_cure 82 rfl) (by decide) ?_
      exact zg_lv [0, 2, 3, 4] rfl (ih (v + 1) (by omega) (fun hf => by
        have h1 := hle hf
        have h2 : v ≠ mz_ht (zs_re T i) k := fun e => hne ⟨hf, e⟩
        omega))
    refine zg_iload_n (zd_t dmM_cure 41 rfl) rfl ?_
    refine zg_aload_n (zd_t dmM_cure 42 rfl) rfl ?_
    refine zg_getf (zd_t dmM_cure 43 rfl) zf_M_7 zs_m0 rfl ?_
    refine zg_iload_n (zd_t dmM_cure 44 rfl) rfl ?_
    refine zg_iconst (v := (nI 1)) (zd_t dmM_cure 45 rfl) (by decide) ?_
    refine zg_isub (zd_t dmM_cure 46 rfl) ?_
    refine zg_iald (k := k) (t0 := 0) (zd_t dmM_cure 47 rfl) zs_m1 rfl (nI_pred k) (by omega) (by decide) ?_
    rw [show zs_mo k = nI (mz_m k) from if_pos (by omega)]
    refine zg_icmp_ge (tgt := 139) (zd_t dmM_cure 48 rfl) (by decide) (fun hq => absurd hq (fun h => absurd ((nI_leI (by omega) (by omega)).mp h) (by omega))) (fun _ => ?_)
    refine zg_aload_n (zd_t dmM_cure 49 rfl) rfl ?_
    refine zg_iload_n (zd_t dmM_cure 50 rfl) rfl ?_
    refine zg_iload_n (zd_t dmM_cure 51 rfl) rfl ?_
    refine zg_iload_n (zd_t dmM_cure 52 rfl) rfl ?_
    refine zg_callV (zd_t dmM_cure 53 rfl) zl_M_52 zm_mM_valueWith zi_mM_valueWith zse_mM_valueWith zs_m0 zs_cl3 rfl (av := _) (rest := _) (by rfl) (by rfl) (by exact Nat.le_of_ble_eq_true rfl) (zm_valueWith (c := k + 1) (v := v) hi (by omega) (by omega) hok) ?_
    rw [mz_alt_up]
    refine zg_lstore (zd_t dmM_cure 54 rfl) (by decide) rfl ?_
    refine zg_iload_n (zd_t dmM_cure 55 rfl) rfl ?_
    refine zg_aload_n (zd_t dmM_cure 56 rfl) rfl ?_
    refine zg_getf (zd_t dmM_cure 57 rfl) zf_M_13 zs_m0 rfl ?_
    refine zg_bipush (v := (nI 8)) (zd_t dmM_cure 58 rfl) (by decide) ?_
    refine zg_iload_n (zd_t dmM_cure 59 rfl) rfl ?_
    refine zg_imul (zd_t dmM_cure 60 rfl) ?_
    refine zg_iload_n (zd_t dmM_cure 61 rfl) rfl ?_
    refine zg_iadd (zd_t dmM_cure 62 rfl) ?_
    refine zg_iconst (v := (nI 1)) (zd_t dmM_cure 63 rfl) (by decide) ?_
    refine zg_isub (zd_t dmM_cure 64 rfl) ?_
    refine zg_iald (k := 8 * i + k) (t0 := 0) (zd_t dmM_cure 65 rfl) zs_m2 rfl (by rw [zs_ix8, show 8 * i + (k + 1) = 8 * i + k + 1 by omega]; exact nI_pred _) (by omega) (by decide) ?_
    rw [(zs_q8 (show k < 8 by omega)).1, (zs_q8 (show k < 8 by omega)).2]
    by_cases hvr : v = zs_re T i k
    · refine zg_icmp_eq (tgt := 133) (zd_t dmM_cure 66 rfl) (by decide) (fun _ => ?_) (fun hq => absurd (by rw [hvr]) hq)
      exact nx (fun hh => mz_P_ne hg (k := k) (by rw [← hvr]; exact hP.mpr hh)) _
    · refine zg_icmp_eq (tgt := 133) (zd_t dmM_cure 66 rfl) (by decide) (fun hq => absurd hq (fun h => hvr ((nI_eq (by omega) (show zs_re T i k < 2 ^ 31 by omega)).mp h))) (fun _ => ?_)
      refine zg_aload_n (zd_t dmM_cure 67 rfl) rfl ?_
      refine zg_lload (zd_t dmM_cure 68 rfl) rfl ?_
      refine zg_iload_n (zd_t dmM_cure 69 rfl) rfl ?_
      refine zg_bipush (v := (nI 6)) (zd_t dmM_cure 70 rfl) (by decide) ?_
      refine zg_callV (zd_t dmM_cure 71 rfl) zl_M_64 zm_mM_fits zi_mM_fits zse_mM_fits zs_m0 zs_cl3 rfl (av := _) (rest := _) (by rfl) (by rfl) (by exact Nat.le_of_ble_eq_true rfl) (zm_fits (k := 6) hi (by decide) (mz_val_in _) hok) ?_
      rw [show (mz_m 6 : Int) = 256 from rfl]
      by_cases h6 : mz_val (mz_up (zs_re T i) k v) % 256 = (zs_re T i 6 : Int)
      · rw [decide_eq_true h6]
        refine zg_if_eq (tgt := 133) (zd_t dmM_cure 72 rfl) (by decide) (fun hq => absurd hq (by decide)) (fun _ => ?_)
        refine zg_aload_n (zd_t dmM_cure 73 rfl) rfl ?_
        refine zg_lload (zd_t dmM_cure 74 rfl) rfl ?_
        refine zg_iload_n (zd_t dmM_cure 75 rfl) rfl ?_
        refine zg_bipush (v := (nI 7)) (zd_t dmM_cure 76 rfl) (by decide) ?_
        refine zg_callV (zd_t dmM_cure 77 rfl) zl_M_64 zm_mM_fits zi_mM_fits zse_mM_fits zs_m0 zs_cl3 rfl (av := _) (rest := _) (by rfl) (by rfl) (by exact Nat.le_of_ble_eq_true rfl) (zm_fits (k := 7) hi (by decide) (mz_val_in _) hok) ?_
        rw [show (mz_m 7 : Int) = 255 from rfl]
        by_cases h7 : mz_val (mz_up (zs_re T i) k v) % 255 = (zs_re T i 7 : Int)
        · rw [decide_eq_true h7]
          refine zg_if_eq (tgt := 133) (zd_t dmM_cure 78 rfl) (by decide) (fun hq => absurd hq (by decide)) (fun _ => ?_)
          refine zg_iload_n (zd_t dmM_cure 79 rfl) rfl ?_
          have hh := hP.mp ⟨h6, h7⟩
          rw [show mz_cu (zs_re T i) k = nI v by unfold mz_cu; rw [if_pos hh.1, ← hh.2]]
          exact zg_iret (zd_t dmM_cure 80 rfl) rfl rfl
        · rw [decide_eq_false h7]
          refine zg_if_eq (tgt := 133) (zd_t dmM_cure 78 rfl) (by decide) (fun _ => ?_) (fun hq => absurd (by decide) hq)
          exact nx (fun hh => h7 (hP.mpr hh).2) _
      · rw [decide_eq_false h6]
        refine zg_if_eq (tgt := 133) (zd_t dmM_cure 72 rfl) (by decide) (fun _ => ?_) (fun hq => absurd (by decide) hq)
        exact nx (fun hh => h6 (hP.mpr hh).1) _
theorem zm_cure (hi : i < 16) (hk : k < 8) (hok : mz_ok (zs_re T i)) (hg : ¬ mz_good (zs_re T i)) : zg_C l (zs_E P) (d + 2) mM_cure [.ref (zp_B P + 67), .int (nI i), .int (nI (k + 1))] (zs_σ P S th (T, h) o w) (.inl (some (.int (mz_cu (zs_re T i) k))), zs_σ P S th (T, h) o w) := by
  refine zg_C_of (by decide +kernel) (Nat.le_of_ble_eq_true rfl) ?_
  refine zg_iload_n (zd_t dmM_cure 0 rfl) rfl ?_
  refine zg_bipush (v := (nI 6)) (zd_t dmM_cure 1 rfl) (by decide) ?_
  by_cases h6 : k < 6
  · refine zg_icmp_le (tgt := 67) (zd_t dmM_cure 2 rfl) (by decide) (fun _ => ?_) (fun hq => absurd ((nI_leI (by omega) (by decide)).mpr (by omega)) hq)
    refine zg_iconst (v := (nI 0)) (zd_t dmM_cure 39 rfl) (by decide) ?_
    refine zg_istore_n (zd_t dmM_cure 40 rfl) (by decide) rfl ?_
    exact zm_cure_lp hi h6 hok hg (mz_m k) 0 (by omega) (fun _ => Nat.zero_le _)
  · refine zg_icmp_le (tgt := 67) (zd_t dmM_cure 2 rfl) (by decide) (fun hq => absurd hq (fun h => absurd ((nI_leI (by omega) (by decide)).mp h) (by omega))) (fun _ => ?_)
    refine zg_aload_n (zd_t dmM_cure 3 rfl) rfl ?_
    refine zg_iload_n (zd_t dmM_cure 4 rfl) rfl ?_
    refine zg_callV (zd_t dmM_cure 5 rfl) zl_M_60 zm_mM_valueOf zi_mM_valueOf zse_mM_valueOf zs_m0 zs_cl3 rfl (av := _) (rest := _) (by rfl) (by rfl) (by exact Nat.le_of_ble_eq_true rfl) (zm_valueOf hi hok) ?_
    refine zg_lstore_n (zd_t dmM_cure 6 rfl) (by decide) rfl ?_
    refine zg_aload_n (zd_t dmM_cure 7 rfl) rfl ?_
    refine zg_lload_n (zd_t dmM_cure 8 rfl) rfl ?_
    refine zg_iload_n (zd_t dmM_cure 9 rfl) rfl ?_
    refine zg_iload_n (zd_t dmM_cure 10 rfl) rfl ?_
    refine zg_bipush (v := (nI 7)) (zd_t dmM_cure 11 rfl) (by decide) ?_
    rcases (by omega : k = 6 ∨ k = 7) with rfl | rfl
    · refine zg_icmp_ne (tgt := 26) (zd_t dmM_cure 12 rfl) (by decide) (fun hq => absurd (by decide) hq) (fun _ => ?_)
      refine zg_bipush (v := (nI 7)) (zd_t dmM_cure 13 rfl) (by decide) ?_
      refine zg_goto (tgt := 28) (zd_t dmM_cure 14 rfl) (by decide) ?_
      refine zg_callV (zd_t dmM_cure 16 rfl) zl_M_64 zm_mM_fits zi_mM_fits zse_mM_fits zs_m0 zs_cl3 rfl (av := _) (rest := _) (by rfl) (by rfl) (by exact Nat.le_of_ble_eq_true rfl) (zm_fits (k := 7) hi (by decide) (mz_val_in _) hok) ?_
      rw [show (mz_m 7 : Int) = 255 from rfl]
      refine zg_istore (zd_t dmM_cure 17 rfl) (by decide) rfl ?_
      refine zg_iload (zd_t dmM_cure 18 rfl) rfl ?_
      by_cases h7 : mz_val (zs_re T i) % 255 = (zs_re T i 7 : Int)
      · rw [decide_eq_true h7, mz_cu_6 ((mz_hf_6 hok).mpr h7)]
        refine zg_if_eq (tgt := 65) (zd_t dmM_cure 19 rfl) (by decide) (fun hq => absurd hq (by decide)) (fun _ => ?_)
        refine zg_aload_n (zd_t dmM_cure 20 rfl) rfl ?_
        refine zg_lload_n (zd_t dmM_cure 21 rfl) rfl ?_
        refine zg_iload_n (zd_t dmM_cure 22 rfl) rfl ?_
        refine zg_iload_n (zd_t dmM_cure 23 rfl) rfl ?_
        refine zg_iconst (v := (nI 1)) (zd_t dmM_cure 24 rfl) (by decide) ?_
        refine zg_isub (zd_t dmM_cure 25 rfl) ?_
        refine zg_callV (zd_t dmM_cure 26 rfl) zl_M_64 zm_mM_fits zi_mM_fits zse_mM_fits zs_m0 zs_cl3 rfl (av := _) (rest := _) (by rfl) (by rfl) (by exact Nat.le_of_ble_eq_true rfl) (zm_fits (k := 6) hi (by decide) (mz_val_in _) hok) ?_
        rw [show (mz_m 6 : Int) = 256 from rfl, decide_eq_false (fun h8 : mz_val (zs_re T i) % 256 = (zs_re T i 6 : Int) => hg ⟨h8, h7⟩)]
        refine zg_if_ne (tgt := 65) (zd_t dmM_cure 27 rfl) (by decide) (fun hq => absurd (by decide) hq) (fun _ => ?_)
        refine zg_lload_n (zd_t dmM_cure 28 rfl) rfl ?_
        refine zg_aload_n (zd_t dmM_cure 29 rfl) rfl ?_
        refine zg_getf (zd_t dmM_cure 30 rfl) zf_M_7 zs_m0 rfl ?_
        refine zg_iload_n (zd_t dmM_cure 31 rfl) rfl ?_
        refine zg_iconst (v := (nI 1)) (zd_t dmM_cure 32 rfl) (by decide) ?_
        refine zg_isub (zd_t dmM_cure 33 rfl) ?_
        refine zg_iald (k := 6) (t0 := 0) (zd_t dmM_cure 34 rfl) zs_m1 rfl (by decide) (by decide) (by decide) ?_
        rw [show zs_mo 6 = nI 256 from rfl]
        refine zg_callS (zd_t dmM_cure 35 rfl) zl_M_56 zm_mM_rest zst_mM_rest (av := _) (rest := _) (by rfl) (by rfl) (by exact Nat.le_of_ble_eq_true rfl) (zm_rest (m := 256) (mz_val_in _) (by decide) (by decide)) ?_
        rw [show ((256 : Nat) : Int) = 256 from rfl]
        refine zg_goto (tgt := 66) (zd_t dmM_cure 36 rfl) (by decide) ?_
        exact zg_iret (zd_t dmM_cure 38 rfl) rfl rfl
      · rw [decide_eq_false h7, show mz_cu (zs_re T i) 6 = -1 from if_neg (fun hh => h7 ((mz_hf_6 hok).mp hh))]
        refine zg_if_eq (tgt := 65) (zd_t dmM_cure 19 rfl) (by decide) (fun _ => ?_) (fun hq => absurd (by decide) hq)
        refine zg_iconst (v := (-1)) (zd_t dmM_cure 37 rfl) (by decide) ?_
        exact zg_iret (zd_t dmM_cure 38 rfl) rfl rfl
    · refine zg_icmp_ne (tgt := 26) (zd_t dmM_cure 12 rfl) (by decide) (fun _ => ?_) (fun hq => absurd hq (by decide))
      refine zg_bipush (v := (nI 6)) (zd_t dmM_cure 15 rfl) (by decide) ?_
      refine zg_callV (zd_t dmM_cure 16 rfl) zl_M_64 zm_mM_fits zi_mM_fits zse_mM_fits zs_m0 zs_cl3 rfl (av := _) (rest := _) (by rfl) (by rfl) (by exact Nat.le_of_ble_eq_true rfl) (zm_fits (k := 6) hi (by decide) (mz_val_in _) hok) ?_
      rw [show (mz_m 6 : Int) = 256 from rfl]
      refine zg_istore (zd_t dmM_cure 17 rfl) (by decide) rfl ?_
      refine zg_iload (zd_t dmM_cure 18 rfl) rfl ?_
      by_cases h7 : mz_val (zs_re T i) % 256 = (zs_re T i 6 : Int)
      · rw [decide_eq_true h7, mz_cu_7 ((mz_hf_7 hok).mpr h7)]
        refine zg_if_eq (tgt := 65) (zd_t dmM_cure 19 rfl) (by decide) (fun hq => absurd hq (by decide)) (fun _ => ?_)
        refine zg_aload_n (zd_t dmM_cure 20 rfl) rfl ?_
        refine zg_lload_n (zd_t dmM_cure 21 rfl) rfl ?_
        refine zg_iload_n (zd_t dmM_cure 22 rfl) rfl ?_
        refine zg_iload_n (zd_t dmM_cure 23 rfl) rfl ?_
        refine zg_iconst (v := (nI 1)) (zd_t dmM_cure 24 rfl) (by decide) ?_
        refine zg_isub (zd_t dmM_cure 25 rfl) ?_
        refine zg_callV (zd_t dmM_cure 26 rfl) zl_M_64 zm_mM_fits zi_mM_fits zse_mM_fits zs_m0 zs_cl3 rfl (av := _) (rest := _) (by rfl) (by rfl) (by exact Nat.le_of_ble_eq_true rfl) (zm_fits (k := 7) hi (by decide) (mz_val_in _) hok) ?_
        rw [show (mz_m 7 : Int) = 255 from rfl, decide_eq_false (fun h8 : mz_val (zs_re T i) % 255 = (zs_re T i 7 : Int) => hg ⟨h7, h8⟩)]
        refine zg_if_ne (tgt := 65) (zd_t dmM_cure 27 rfl) (by decide) (fun hq => absurd (by decide) hq) (fun _ => ?_)
        refine zg_lload_n (zd_t dmM_cure 28 rfl) rfl ?_
        refine zg_aload_n (zd_t dmM_cure 29 rfl) rfl ?_
        refine zg_getf (zd_t dmM_cure 30 rfl) zf_M_7 zs_m0 rfl ?_
        refine zg_iload_n (zd_t dmM_cure 31 rfl) rfl ?_
        refine zg_iconst (v := (nI 1)) (zd_t dmM_cure 32 rfl) (by decide) ?_
        refine zg_isub (zd_t dmM_cure 33 rfl) ?_
        refine zg_iald (k := 7) (t0 := 0) (zd_t dmM_cure 34 rfl) zs_m1 rfl (by decide) (by decide) (by decide) ?_
        rw [show zs_mo 7 = nI 255 from rfl]
        refine zg_callS (zd_t dmM_cure 35 rfl) zl_M_56 zm_mM_rest zst_mM_rest (av := _) (rest := _) (by rfl) (by rfl) (by exact Nat.le_of_ble_eq_true rfl) (zm_rest (m := 255) (mz_val_in _) (by decide) (by decide)) ?_
        rw [show ((255 : Nat) : Int) = 255 from rfl]
        refine zg_goto (tgt := 66) (zd_t dmM_cure 36 rfl) (by decide) ?_
        exact zg_iret (zd_t dmM_cure 38 rfl) rfl rfl
      · rw [decide_eq_false h7, show mz_cu (zs_re T i) 7 = -1 from if_neg (fun hh => h7 ((mz_hf_7 hok).mp hh))]
        refine zg_if_eq (tgt := 65) (zd_t dmM_cure 19 rfl) (by decide) (fun _ => ?_) (fun hq => absurd (by decide) hq)
        refine zg_iconst (v := (-1)) (zd_t dmM_cure 37 rfl) (by decide) ?_
        exact zg_iret (zd_t dmM_cure 38 rfl) rfl rfl
theorem mz_cu_neg (ρ : Nat → Nat) (k : Nat) : mz_cu ρ k < 0 ↔ ¬ mz_hf ρ k := by
  unfold mz_cu
  by_cases hf : mz_hf ρ k
  · rw [if_pos hf]
    exact ⟨fun h => absurd h (nI_pos (by have := mz_ht_lt ρ k; have := mz_m_lt k; omega)), fun h => absurd hf h⟩
  · rw [if_neg hf]
    exact ⟨fun _ => hf, fun _ => by decide⟩
theorem zm_faultOf_lp (hi : i < 16) (hok : mz_ok (zs_re T i)) (hg : ¬ mz_good (zs_re T i)) : ∀ (n k : Nat), k + n = 8 → zg_G l (zs_E P) (d + 3) mM_faultOf 12 [(2, .int (nI (k + 1))), (0, .ref (zp_B P + 67)), (1, .int (nI i))] [] (zs_σ P S th (T, h) o w) (.inl (some (.int (nI (mz_ff (zs_re T i) n k)))), zs_σ P S th (T, h) o w) := by
  intro n
  induction n with
  | zero =>
    intro k hk
    have hk : k = 8 := by omega
    subst hk
    refine zg_iload_n (zd_t dmM_faultOf 8 rfl) rfl ?_
    refine zg_bipush (v := (nI 9)) (zd_t dmM_faultOf 9 rfl) (by decide) ?_
    refine zg_icmp_ge (tgt := 35) (zd_t dmM_faultOf 10 rfl) (by decide) (fun _ => ?_) (fun hq => absurd (by decide) hq)
    refine zg_bipush (v := (nI 9)) (zd_t dmM_faultOf 20 rfl) (by decide) ?_
    exact zg_iret (zd_t dmM_faultOf 21 rfl) rfl rfl
  | succ n ih =>
    intro k hk
    refine zg_iload_n (zd_t dmM_faultOf 8 rfl) rfl ?_
    refine zg_bipush (v := (nI 9)) (zd_t dmM_faultOf 9 rfl) (by decide) ?_
    refine zg_icmp_ge (tgt := 35) (zd_t dmM_faultOf 10 rfl) (by decide) (fun hq => absurd hq (fun h => absurd ((nI_leI (by decide) (by omega)).mp h) (by omega))) (fun _ => ?_)
    refine zg_aload_n (zd_t dmM_faultOf 11 rfl) rfl ?_
    refine zg_iload_n (zd_t dmM_faultOf 12 rfl) rfl ?_
    refine zg_iload_n (zd_t dmM_faultOf 13 rfl) rfl ?_
    refine zg_callV (zd_t dmM_faultOf 14 rfl) zl_M_124 zm_mM_cure zi_mM_cure zse_mM_cure zs_m0 zs_cl3 rfl (av := _) (rest := _) (by rfl) (by rfl) (by exact Nat.le_of_ble_eq_true rfl) (zm_cure (k := k) hi (by omega) hok hg) ?_
    unfold mz_ff
    by_cases hf : mz_hf (zs_re T i) k
    · rw [if_pos hf]
      refine zg_if_lt (tgt := 29) (zd_t dmM_faultOf 15 rfl) (by decide) (fun hq => absurd hq (fun h => absurd hf ((mz_cu_neg _ _).mp h))) (fun _ => ?_)
      refine zg_iload_n (zd_t dmM_faultOf 16 rfl) rfl ?_
      exact zg_iret (zd_t dmM_faultOf 17 rfl) rfl rfl
    · rw [if_neg hf]
      refine zg_if_lt (tgt := 29) (zd_t dmM_faultOf 15 rfl) (by decide) (fun _ => ?_) (fun hq => absurd ((mz_cu_neg _ _).mpr hf) hq)
      refine zg_iinc (lv2 := [(2, .int (nI (k + 1 + 1))), (0, .ref (zp_B P + 67)), (1, .int (nI i))]) (zd_t dmM_faultOf 18 rfl) rfl (mz_inc (k + 1)) (by decide) rfl ?_
      refine zg_goto (tgt := 12) (zd_t dmM_faultOf 19 rfl) (by decide) ?_
      exact ih (k + 1) (by omega)
theorem zm_faultOf (hi : i < 16) (hok : mz_ok (zs_re T i)) : zg_C l (zs_E P) (d + 3) mM_faultOf [.ref (zp_B P + 67), .int (nI i)] (zs_σ P S th (T, h) o w) (.inl (some (.int (nI (mz_fault (zs_re T i))))), zs_σ P S th (T, h) o w) := by
  refine zg_C_of (by decide +kernel) (Nat.le_of_ble_eq_true rfl) ?_
  refine zg_aload_n (zd_t dmM_faultOf 0 rfl) rfl ?_
  refine zg_iload_n (zd_t dmM_faultOf 1 rfl) rfl ?_
  refine zg_callV (zd_t dmM_faultOf 2 rfl) zl_M_80 zm_mM_isGood zi_mM_isGood zse_mM_isGood zs_m0 zs_cl3 rfl (av := _) (rest := _) (by rfl) (by rfl) (by exact Nat.le_of_ble_eq_true rfl) (zm_isGood hi hok) ?_
  unfold mz_fault
  by_cases hg : mz_good (zs_re T i)
  · rw [decide_eq_true hg, if_pos hg]
    refine zg_if_eq (tgt := 10) (zd_t dmM_faultOf 3 rfl) (by decide) (fun hq => absurd hq (by decide)) (fun _ => ?_)
    refine zg_iconst (v := (nI 0)) (zd_t dmM_faultOf 4 rfl) (by decide) ?_
    exact zg_iret (zd_t dmM_faultOf 5 rfl) rfl rfl
  · rw [decide_eq_false hg, if_neg hg]
    refine zg_if_eq (tgt := 10) (zd_t dmM_faultOf 3 rfl) (by decide) (fun _ => ?_) (fun hq => absurd (by decide) hq)
    refine zg_iconst (v := (nI 1)) (zd_t dmM_faultOf 6 rfl) (by decide) ?_
    refine zg_istore_n (zd_t dmM_faultOf 7 rfl) (by decide) rfl ?_
    exact zm_faultOf_lp hi hok hg 8 0 rfl
theorem zm_al_1 {σ : zg_H} {k a b c : Int32} : zg_G l (zs_E P) (d + 2) mM_mayBe 66 (lv_args 0 [.int k, .int a, .int b, .int c]) [] σ (.inl (some (.int (zs_bi (decide (zs_ir a) && (decide (zs_ir b) && decide (zs_ir c)))))), σ) := by
  refine zg_iload_n (zd_t dmM_mayBe 4 rfl) rfl ?_
  refine zg_callS (zd_t dmM_mayBe 5 rfl) zl_M_68 zm_mM_isRegister zst_mM_isRegister (av := _) (rest := _) (by rfl) (by rfl) (by exact Nat.le_of_ble_eq_true rfl) (zm_isRegister a) ?_
  cases decide (zs_ir a) with
  | false =>
    refine zg_if_eq (tgt := 91) (zd_t dmM_mayBe 6 rfl) (by decide) (fun _ => ?_) (fun hq => absurd (by decide) hq)
    refine zg_iconst (v := (nI 0)) (zd_t dmM_mayBe 15 rfl) (by decide) ?_
    exact zg_zret (zd_t dmM_mayBe 16 rfl) rfl rfl rfl
  | true =>
    refine zg_if_eq (tgt := 91) (zd_t dmM_mayBe 6 rfl) (by decide) (fun hq => absurd hq (by decide)) (fun _ => ?_)
    refine zg_iload_n (zd_t dmM_mayBe 7 rfl) rfl ?_
    refine zg_callS (zd_t dmM_mayBe 8 rfl) zl_M_68 zm_mM_isRegister zst_mM_isRegister (av := _) (rest := _) (by rfl) (by rfl) (by exact Nat.le_of_ble_eq_true rfl) (zm_isRegister b) ?_
    cases decide (zs_ir b) with
    | false =>
      refine zg_if_eq (tgt := 91) (zd_t dmM_mayBe 9 rfl) (by decide) (fun _ => ?_) (fun hq => absurd (by decide) hq)
      refine zg_iconst (v := (nI 0)) (zd_t dmM_mayBe 15 rfl) (by decide) ?_
      exact zg_zret (zd_t dmM_mayBe 16 rfl) rfl rfl rfl
    | true =>
      refine zg_if_eq (tgt := 91) (zd_t dmM_mayBe 9 rfl) (by decide) (fun hq => absurd hq (by decide)) (fun _ => ?_)
      refine zg_iload_n (zd_t dmM_mayBe 10 rfl) rfl ?_
      refine zg_callS (zd_t dmM_mayBe 11 rfl) zl_M_68 zm_mM_isRegister zst_mM_isRegister (av := _) (rest := _) (by rfl) (by rfl) (by exact Nat.le_of_ble_eq_true rfl) (zm_isRegister c) ?_
      cases decide (zs_ir c) with
      | false =>
        refine zg_if_eq (tgt := 91) (zd_t dmM_mayBe 12 rfl) (by decide) (fun _ => ?_) (fun hq => absurd (by decide) hq)
        refine zg_iconst (v := (nI 0)) (zd_t dmM_mayBe 15 rfl) (by decide) ?_
        exact zg_zret (zd_t dmM_mayBe 16 rfl) rfl rfl rfl
      | true =>
        refine zg_if_eq (tgt := 91) (zd_t dmM_mayBe 12 rfl) (by decide) (fun hq => absurd hq (by decide)) (fun _ => ?_)
        refine zg_iconst (v := (nI 1)) (zd_t dmM_mayBe 13 rfl) (by decide) ?_
        refine zg_goto (tgt := 92) (zd_t dmM_mayBe 14 rfl) (by decide) ?_
        exact zg_zret (zd_t dmM_mayBe 16 rfl) rfl rfl rfl
theorem zm_al_5 {σ : zg_H} {k a b c : Int32} : zg_G l (zs_E P) (d + 2) mM_mayBe 93 (lv_args 0 [.int k, .int a, .int b, .int c]) [] σ (.inl (some (.int (zs_bi (decide (zs_ir a) && (decide (zs_ir b) && decide (mz_sm c)))))), σ) := by
  refine zg_iload_n (zd_t dmM_mayBe 17 rfl) rfl ?_
  refine zg_callS (zd_t dmM_mayBe 18 rfl) zl_M_68 zm_mM_isRegister zst_mM_isRegister (av := _) (rest := _) (by rfl) (by rfl) (by exact Nat.le_of_ble_eq_true rfl) (zm_isRegister a) ?_
  cases decide (zs_ir a) with
  | false =>
    refine zg_if_eq (tgt := 118) (zd_t dmM_mayBe 19 rfl) (by decide) (fun _ => ?_) (fun hq => absurd (by decide) hq)
    refine zg_iconst (v := (nI 0)) (zd_t dmM_mayBe 28 rfl) (by decide) ?_
    exact zg_zret (zd_t dmM_mayBe 29 rfl) rfl rfl rfl
  | true =>
    refine zg_if_eq (tgt := 118) (zd_t dmM_mayBe 19 rfl) (by decide) (fun hq => absurd hq (by decide)) (fun _ => ?_)
    refine zg_iload_n (zd_t dmM_mayBe 20 rfl) rfl ?_
    refine zg_callS (zd_t dmM_mayBe 21 rfl) zl_M_68 zm_mM_isRegister zst_mM_isRegister (av := _) (rest := _) (by rfl) (by rfl) (by exact Nat.le_of_ble_eq_true rfl) (zm_isRegister b) ?_
    cases decide (zs_ir b) with
    | false =>
      refine zg_if_eq (tgt := 118) (zd_t dmM_mayBe 22 rfl) (by decide) (fun _ => ?_) (fun hq => absurd (by decide) hq)
      refine zg_iconst (v := (nI 0)) (zd_t dmM_mayBe 28 rfl) (by decide) ?_
      exact zg_zret (zd_t dmM_mayBe 29 rfl) rfl rfl rfl
    | true =>
      refine zg_if_eq (tgt := 118) (zd_t dmM_mayBe 22 rfl) (by decide) (fun hq => absurd hq (by decide)) (fun _ => ?_)
      refine zg_iload_n (zd_t dmM_mayBe 23 rfl) rfl ?_
      refine zg_callS (zd_t dmM_mayBe 24 rfl) zl_M_115 zm_mM_isModuli zst_mM_isModuli (av := _) (rest := _) (by rfl) (by rfl) (by exact Nat.le_of_ble_eq_true rfl) (zm_isModuli c) ?_
      cases decide (mz_sm c) with
      | false =>
        refine zg_if_eq (tgt := 118) (zd_t dmM_mayBe 25 rfl) (by decide) (fun _ => ?_) (fun hq => absurd (by decide) hq)
        refine zg_iconst (v := (nI 0)) (zd_t dmM_mayBe 28 rfl) (by decide) ?_
        exact zg_zret (zd_t dmM_mayBe 29 rfl) rfl rfl rfl
      | true =>
        refine zg_if_eq (tgt := 118) (zd_t dmM_mayBe 25 rfl) (by decide) (fun hq => absurd hq (by decide)) (fun _ => ?_)
        refine zg_iconst (v := (nI 1)) (zd_t dmM_mayBe 26 rfl) (by decide) ?_
        refine zg_goto (tgt := 119) (zd_t dmM_mayBe 27 rfl) (by decide) ?_
        exact zg_zret (zd_t dmM_mayBe 29 rfl) rfl rfl rfl
theorem zm_al_6 {σ : zg_H} {k a b c : Int32} : zg_G l (zs_E P) (d + 2) mM_mayBe 120 (lv_args 0 [.int k, .int a, .int b, .int c]) [] σ (.inl (some (.int (zs_bi (decide (zs_ir a) && decide (zs_ir b))))), σ) := by
  refine zg_iload_n (zd_t dmM_mayBe 30 rfl) rfl ?_
  refine zg_callS (zd_t dmM_mayBe 31 rfl) zl_M_68 zm_mM_isRegister zst_mM_isRegister (av := _) (rest := _) (by rfl) (by rfl) (by exact Nat.le_of_ble_eq_true rfl) (zm_isRegister a) ?_
  cases decide (zs_ir a) with
  | false =>
    refine zg_if_eq (tgt := 138) (zd_t dmM_mayBe 32 rfl) (by decide) (fun _ => ?_) (fun hq => absurd (by decide) hq)
    refine zg_iconst (v := (nI 0)) (zd_t dmM_mayBe 38 rfl) (by decide) ?_
    exact zg_zret (zd_t dmM_mayBe 39 rfl) rfl rfl rfl
  | true =>
    refine zg_if_eq (tgt := 138) (zd_t dmM_mayBe 32 rfl) (by decide) (fun hq => absurd hq (by decide)) (fun _ => ?_)
    refine zg_iload_n (zd_t dmM_mayBe 33 rfl) rfl ?_
    refine zg_callS (zd_t dmM_mayBe 34 rfl) zl_M_68 zm_mM_isRegister zst_mM_isRegister (av := _) (rest := _) (by rfl) (by rfl) (by exact Nat.le_of_ble_eq_true rfl) (zm_isRegister b) ?_
    cases decide (zs_ir b) with
    | false =>
      refine zg_if_eq (tgt := 138) (zd_t dmM_mayBe 35 rfl) (by decide) (fun _ => ?_) (fun hq => absurd (by decide) hq)
      refine zg_iconst (v := (nI 0)) (zd_t dmM_mayBe 38 rfl) (by decide) ?_
      exact zg_zret (zd_t dmM_mayBe 39 rfl) rfl rfl rfl
    | true =>
      refine zg_if_eq (tgt := 138) (zd_t dmM_mayBe 35 rfl) (by decide) (fun hq => absurd hq (by decide)) (fun _ => ?_)
      refine zg_iconst (v := (nI 1)) (zd_t dmM_mayBe 36 rfl) (by decide) ?_
      refine zg_goto (tgt := 139) (zd_t dmM_mayBe 37 rfl) (by decide) ?_
      exact zg_zret (zd_t dmM_mayBe 39 rfl) rfl rfl rfl
theorem zm_al_8 {σ : zg_H} {k a b c : Int32} : zg_G l (zs_E P) (d + 2) mM_mayBe 145 (lv_args 0 [.int k, .int a, .int b, .int c]) [] σ (.inl (some (.int (zs_bi (decide (zs_ir a) && decide (zs_ii b))))), σ) := by
  refine zg_iload_n (zd_t dmM_mayBe 43 rfl) rfl ?_
  refine zg_callS (zd_t dmM_mayBe 44 rfl) zl_M_68 zm_mM_isRegister zst_mM_isRegister (av := _) (rest := _) (by rfl) (by rfl) (by exact Nat.le_of_ble_eq_true rfl) (zm_isRegister a) ?_
  cases decide (zs_ir a) with
  | false =>
    refine zg_if_eq (tgt := 163) (zd_t dmM_mayBe 45 rfl) (by decide) (fun _ => ?_) (fun hq => absurd (by decide) hq)
    refine zg_iconst (v := (nI 0)) (zd_t dmM_mayBe 51 rfl) (by decide) ?_
    exact zg_zret (zd_t dmM_mayBe 52 rfl) rfl rfl rfl
  | true =>
    refine zg_if_eq (tgt := 163) (zd_t dmM_mayBe 45 rfl) (by decide) (fun hq => absurd hq (by decide)) (fun _ => ?_)
    refine zg_iload_n (zd_t dmM_mayBe 46 rfl) rfl ?_
    refine zg_callS (zd_t dmM_mayBe 47 rfl) zl_M_133 zm_mM_isInstruction zst_mM_isInstruction (av := _) (rest := _) (by rfl) (by rfl) (by exact Nat.le_of_ble_eq_true rfl) (zm_isInstruction b) ?_
    cases decide (zs_ii b) with
    | false =>
      refine zg_if_eq (tgt := 163) (zd_t dmM_mayBe 48 rfl) (by decide) (fun _ => ?_) (fun hq => absurd (by decide) hq)
      refine zg_iconst (v := (nI 0)) (zd_t dmM_mayBe 51 rfl) (by decide) ?_
      exact zg_zret (zd_t dmM_mayBe 52 rfl) rfl rfl rfl
    | true =>
      refine zg_if_eq (tgt := 163) (zd_t dmM_mayBe 48 rfl) (by decide) (fun hq => absurd hq (by decide)) (fun _ => ?_)
      refine zg_iconst (v := (nI 1)) (zd_t dmM_mayBe 49 rfl) (by decide) ?_
      refine zg_goto (tgt := 164) (zd_t dmM_mayBe 50 rfl) (by decide) ?_
      exact zg_zret (zd_t dmM_mayBe 52 rfl) rfl rfl rfl
theorem zm_al_7 {σ : zg_H} {k a b c : Int32} : zg_G l (zs_E P) (d + 2) mM_mayBe 140 (lv_args 0 [.int k, .int a, .int b, .int c]) [] σ (.inl (some (.int (zs_bi (decide (zs_ii a))))), σ) := by
  refine zg_iload_n (zd_t dmM_mayBe 40 rfl) rfl ?_
  refine zg_callS (zd_t dmM_mayBe 41 rfl) zl_M_133 zm_mM_isInstruction zst_mM_isInstruction (av := _) (rest := _) (by rfl) (by rfl) (by exact Nat.le_of_ble_eq_true rfl) (zm_isInstruction a) ?_
  exact zg_zret (zd_t dmM_mayBe 42 rfl) rfl (zs_nb _) rfl
theorem zm_al_9 {σ : zg_H} {k a b c : Int32} : zg_G l (zs_E P) (d + 2) mM_mayBe 165 (lv_args 0 [.int k, .int a, .int b, .int c]) [] σ (.inl (some (.int (zs_bi (decide (0 ≤ a.toInt ∧ a.toInt ≤ 1000))))), σ) := by
  refine zg_iload_n (zd_t dmM_mayBe 53 rfl) rfl ?_
  refine zg_i2l (zd_t dmM_mayBe 54 rfl) rfl ?_
  rw [zs_i2l]
  refine zg_lconst (v := mz_L 0) (zd_t dmM_mayBe 55 rfl) (by decide) ?_
  refine zg_ldc2 (zd_t dmM_mayBe 56 rfl) zc_M_136 ?_
  refine zg_callS (zd_t dmM_mayBe 57 rfl) zl_M_48 zm_mM_in zst_mM_in (av := _) (rest := _) (by rfl) (by rfl) (by exact Nat.le_of_ble_eq_true rfl) (zm_in (x := a.toInt) (y := 0) (z := 1000) (zs_wi32 a) (by unfold mz_wi; omega) (by unfold mz_wi; omega)) ?_
  exact zg_zret (zd_t dmM_mayBe 58 rfl) rfl (zs_nb _) rfl
theorem zm_al_11 {σ : zg_H} {k a b c : Int32} : zg_G l (zs_E P) (d + 2) mM_mayBe 175 (lv_args 0 [.int k, .int a, .int b, .int c]) [] σ (.inl (some (.int (zs_bi (decide (zs_ir a) && decide (-128 ≤ b.toInt ∧ b.toInt ≤ 127))))), σ) := by
  refine zg_iload_n (zd_t dmM_mayBe 59 rfl) rfl ?_
  refine zg_callS (zd_t dmM_mayBe 60 rfl) zl_M_68 zm_mM_isRegister zst_mM_isRegister (av := _) (rest := _) (by rfl) (by rfl) (by exact Nat.le_of_ble_eq_true rfl) (zm_isRegister a) ?_
  cases decide (zs_ir a) with
  | false =>
    refine zg_if_eq (tgt := 200) (zd_t dmM_mayBe 61 rfl) (by decide) (fun _ => ?_) (fun hq => absurd (by decide) hq)
    refine zg_iconst (v := (nI 0)) (zd_t dmM_mayBe 70 rfl) (by decide) ?_
    exact zg_zret (zd_t dmM_mayBe 71 rfl) rfl rfl rfl
  | true =>
    refine zg_if_eq (tgt := 200) (zd_t dmM_mayBe 61 rfl) (by decide) (fun hq => absurd hq (by decide)) (fun _ => ?_)
    refine zg_iload_n (zd_t dmM_mayBe 62 rfl) rfl ?_
    refine zg_i2l (zd_t dmM_mayBe 63 rfl) rfl ?_
    rw [zs_i2l]
    refine zg_ldc2 (zd_t dmM_mayBe 64 rfl) zc_M_138 ?_
    refine zg_ldc2 (zd_t dmM_mayBe 65 rfl) zc_M_140 ?_
    refine zg_callS (zd_t dmM_mayBe 66 rfl) zl_M_48 zm_mM_in zst_mM_in (av := _) (rest := _) (by rfl) (by rfl) (by exact Nat.le_of_ble_eq_true rfl) (zm_in (x := b.toInt) (y := -128) (z := 127) (zs_wi32 b) (by unfold mz_wi; omega) (by unfold mz_wi; omega)) ?_
    cases decide (-128 ≤ b.toInt ∧ b.toInt ≤ 127) with
    | false =>
      refine zg_if_eq (tgt := 200) (zd_t dmM_mayBe 67 rfl) (by decide) (fun _ => ?_) (fun hq => absurd (by decide) hq)
      refine zg_iconst (v := (nI 0)) (zd_t dmM_mayBe 70 rfl) (by decide) ?_
      exact zg_zret (zd_t dmM_mayBe 71 rfl) rfl rfl rfl
    | true =>
      refine zg_if_eq (tgt := 200) (zd_t dmM_mayBe 67 rfl) (by decide) (fun hq => absurd hq (by decide)) (fun _ => ?_)
      refine zg_iconst (v := (nI 1)) (zd_t dmM_mayBe 68 rfl) (by decide) ?_
      refine zg_goto (tgt := 201) (zd_t dmM_mayBe 69 rfl) (by decide) ?_
      exact zg_zret (zd_t dmM_mayBe 71 rfl) rfl rfl rfl
theorem zm_mayBe {σ : zg_H} (k a b c : Int32) : zg_C l (zs_E P) (d + 2) mM_mayBe [.int k, .int a, .int b, .int c] σ (.inl (some (.int (zs_bi (zs_alw k a b c)))), σ) := by
  refine zg_C_of (by decide +kernel) (Nat.le_of_ble_eq_true rfl) ?_
  refine zg_iload_n (zd_t dmM_mayBe 0 rfl) rfl ?_
  unfold zs_alw
  by_cases hk : 0 ≤ k.toInt ∧ k.toInt ≤ 11
  · rw [if_pos hk]
    obtain ⟨n, hn, rfl⟩ := zs_nof (n := 12) hk.1 (by omega) (by decide)
    rcases (by omega : n = 0 ∨ n = 1 ∨ n = 2 ∨ n = 3 ∨ n = 4 ∨ n = 5 ∨ n = 6 ∨ n = 7 ∨ n = 8 ∨ n = 9 ∨ n = 10 ∨ n = 11) with rfl | rfl | rfl | rfl | rfl | rfl | rfl | rfl | rfl | rfl | rfl | rfl
    · refine zg_tableIn (off := 63) (tgt := 64) (zd_t dmM_mayBe 1 rfl) (by decide) (by decide) (by decide) (by decide) ?_
      refine zg_iconst (v := (nI 1)) (zd_t dmM_mayBe 2 rfl) (by decide) ?_
      exact zg_zret (zd_t dmM_mayBe 3 rfl) rfl rfl rfl
    · refine zg_tableIn (off := 65) (tgt := 66) (zd_t dmM_mayBe 1 rfl) (by decide) (by decide) (by decide) (by decide) ?_
      exact zm_al_1
    · refine zg_tableIn (off := 65) (tgt := 66) (zd_t dmM_mayBe 1 rfl) (by decide) (by decide) (by decide) (by decide) ?_
      exact zm_al_1
    · refine zg_tableIn (off := 65) (tgt := 66) (zd_t dmM_mayBe 1 rfl) (by decide) (by decide) (by decide) (by decide) ?_
      exact zm_al_1
    · refine zg_tableIn (off := 65) (tgt := 66) (zd_t dmM_mayBe 1 rfl) (by decide) (by decide) (by decide) (by decide) ?_
      exact zm_al_1
    · refine zg_tableIn (off := 92) (tgt := 93) (zd_t dmM_mayBe 1 rfl) (by decide) (by decide) (by decide) (by decide) ?_
      exact zm_al_5
    · refine zg_tableIn (off := 119) (tgt := 120) (zd_t dmM_mayBe 1 rfl) (by decide) (by decide) (by decide) (by decide) ?_
      exact zm_al_6
    · refine zg_tableIn (off := 139) (tgt := 140) (zd_t dmM_mayBe 1 rfl) (by decide) (by decide) (by decide) (by decide) ?_
      exact zm_al_7
    · refine zg_tableIn (off := 144) (tgt := 145) (zd_t dmM_mayBe 1 rfl) (by decide) (by decide) (by decide) (by decide) ?_
      exact zm_al_8
    · refine zg_tableIn (off := 164) (tgt := 165) (zd_t dmM_mayBe 1 rfl) (by decide) (by decide) (by decide) (by decide) ?_
      exact zm_al_9
    · refine zg_tableIn (off := 139) (tgt := 140) (zd_t dmM_mayBe 1 rfl) (by decide) (by decide) (by decide) (by decide) ?_
      exact zm_al_7
    · refine zg_tableIn (off := 174) (tgt := 175) (zd_t dmM_mayBe 1 rfl) (by decide) (by decide) (by decide) (by decide) ?_
      exact zm_al_11
  · rw [if_neg hk]
    refine zg_tableOut (tgt := 202) (zd_t dmM_mayBe 1 rfl) (by omega) (by decide) ?_
    refine zg_iconst (v := (nI 0)) (zd_t dmM_mayBe 72 rfl) (by decide) ?_
    exact zg_zret (zd_t dmM_mayBe 73 rfl) rfl rfl rfl
end ZM16
end
section
theorem mz_sh_eq {r k : Nat} (e : Int32) : (((r : Int) + e.toInt) % (mz_m k : Int)).toNat = mz_sh r e k := by
  have hm := mz_m_lt k
  have h1 := Int.emod_nonneg e.toInt (show (mz_m k : Int) ≠ 0 by omega)
  unfold mz_sh
  obtain ⟨q, hq⟩ : ∃ q : Nat, e.toInt % (mz_m k : Int) = (q : Int) := ⟨(e.toInt % (mz_m k : Int)).toNat, by omega⟩
  rw [← Int.add_emod_emod, hq, Int.toNat_natCast, ← Int.natCast_add, ← Int.natCast_emod, Int.toNat_natCast]
section ZM17
variable {l : Launch} {P : zs_P} {d : Nat} {S : zs_S} {T : zs_S} {th : Int32} {o : Int64} {w : Nat × Nat} {e a b i k : Nat}
theorem zm_load {v : Int} (hi : i < 16) (hv : mz_hr v) : zg_C l (zs_E P) (d + 4) mM_load [.ref (zp_B P + 67), .int (nI i), .long (mz_L v)] (zs_σ P S th (zs_b T) o w) (.inl (none), zs_σ P S (nI 0) (zs_b (zs_sput T i v)) o w) := by
  refine zg_C_of (by decide +kernel) (Nat.le_of_ble_eq_true rfl) ?_
  refine zg_iload_n (zd_t dmM_load 0 rfl) rfl ?_
  refine zg_callS (zd_t dmM_load 1 rfl) zl_M_68 zm_mM_isRegister zst_mM_isRegister (av := _) (rest := _) (by rfl) (by rfl) (by exact Nat.le_of_ble_eq_true rfl) (zm_isRegister (nI i)) ?_
  refine zg_istore (zd_t dmM_load 2 rfl) (by decide) rfl ?_
  refine zg_aload_n (zd_t dmM_load 3 rfl) rfl ?_
  refine zg_iload (zd_t dmM_load 4 rfl) rfl ?_
  rw [decide_eq_true (zs_rg hi)]
  refine zg_if_ne (tgt := 16) (zd_t dmM_load 5 rfl) (by decide) (fun _ => ?_) (fun hq => absurd hq (by decide))
  refine zg_iconst (v := (nI 0)) (zd_t dmM_load 8 rfl) (by decide) ?_
  refine zg_iload (zd_t dmM_load 9 rfl) rfl ?_
  refine zg_if_eq (tgt := 42) (zd_t dmM_load 10 rfl) (by decide) (fun hq => absurd hq (by decide)) (fun _ => ?_)
  refine zg_lload_n (zd_t dmM_load 11 rfl) rfl ?_
  refine zg_aload_n (zd_t dmM_load 12 rfl) rfl ?_
  refine zg_getf (zd_t dmM_load 13 rfl) zf_M_39 zs_m0 rfl ?_
  refine zg_lneg (zd_t dmM_load 14 rfl) ?_
  refine zg_aload_n (zd_t dmM_load 15 rfl) rfl ?_
  refine zg_getf (zd_t dmM_load 16 rfl) zf_M_39 zs_m0 rfl ?_
  rw [mz_neg]
  refine zg_callS (zd_t dmM_load 17 rfl) zl_M_48 zm_mM_in zst_mM_in (av := _) (rest := _) (by rfl) (by rfl) (by exact Nat.le_of_ble_eq_true rfl) (zm_in (x := v) (y := -87553987462305) (z := 87553987462305) hv.i.w (by unfold mz_wi; omega) (by unfold mz_wi; omega)) ?_
  rw [decide_eq_true hv]
  refine zg_if_ne (tgt := 42) (zd_t dmM_load 18 rfl) (by decide) (fun _ => ?_) (fun hq => absurd hq (by decide))
  refine zg_iconst (v := (nI 0)) (zd_t dmM_load 21 rfl) (by decide) ?_
  refine zg_iconst (v := (nI 0)) (zd_t dmM_load 22 rfl) (by decide) ?_
  refine zg_callV (zd_t dmM_load 23 rfl) zl_M_72 zm_mM_refuse zi_mM_refuse zse_mM_refuse zs_m0 zs_cl3 rfl (av := _) (rest := _) (by rfl) (by rfl) (by exact Nat.le_of_ble_eq_true rfl) (zm_refuse false false false) ?_
  rw [show zs_rc false false false = 0 from rfl]
  refine zg_if_ne (tgt := 56) (zd_t dmM_load 24 rfl) (by decide) (fun hq => absurd (by decide) hq) (fun _ => ?_)
  refine zg_aload_n (zd_t dmM_load 25 rfl) rfl ?_
  refine zg_iload_n (zd_t dmM_load 26 rfl) rfl ?_
  refine zg_lload_n (zd_t dmM_load 27 rfl) rfl ?_
  refine zg_callV (zd_t dmM_load 28 rfl) zl_M_76 zm_mM_put zi_mM_put zse_mM_put zs_m0 zs_cl3 rfl (av := _) (rest := _) (by rfl) (by rfl) (by exact Nat.le_of_ble_eq_true rfl) (zm_put hi hv.i) ?_
  exact zg_vret (zd_t dmM_load 29 rfl) rfl rfl
theorem zm_loadX {r : Int32} {x : Int64} (h : ¬ zs_ir r) : zg_C l (zs_E P) (d + 4) mM_load [.ref (zp_B P + 67), .int r, .long x] (zs_σ P S th (zs_b T) o w) (.inl (none), zs_σ P S (nI 1) (zs_b (T)) o w) := by
  refine zg_C_of (by decide +kernel) (Nat.le_of_ble_eq_true rfl) ?_
  refine zg_iload_n (zd_t dmM_load 0 rfl) rfl ?_
  refine zg_callS (zd_t dmM_load 1 rfl) zl_M_68 zm_mM_isRegister zst_mM_isRegister (av := _) (rest := _) (by rfl) (by rfl) (by exact Nat.le_of_ble_eq_true rfl) (zm_isRegister r) ?_
  refine zg_istore (zd_t dmM_load 2 rfl) (by decide) rfl ?_
  refine zg_aload_n (zd_t dmM_load 3 rfl) rfl ?_
  refine zg_iload (zd_t dmM_load 4 rfl) rfl ?_
  rw [decide_eq_false h]
  refine zg_if_ne (tgt := 16) (zd_t dmM_load 5 rfl) (by decide) (fun hq => absurd (by decide) hq) (fun _ => ?_)
  refine zg_iconst (v := (nI 1)) (zd_t dmM_load 6 rfl) (by decide) ?_
  refine zg_goto (tgt := 17) (zd_t dmM_load 7 rfl) (by decide) ?_
  refine zg_iload (zd_t dmM_load 9 rfl) rfl ?_
  refine zg_if_eq (tgt := 42) (zd_t dmM_load 10 rfl) (by decide) (fun _ => ?_) (fun hq => absurd (by decide) hq)
  refine zg_iconst (v := (nI 0)) (zd_t dmM_load 21 rfl) (by decide) ?_
  refine zg_iconst (v := (nI 0)) (zd_t dmM_load 22 rfl) (by decide) ?_
  refine zg_callV (zd_t dmM_load 23 rfl) zl_M_72 zm_mM_refuse zi_mM_refuse zse_mM_refuse zs_m0 zs_cl3 rfl (av := _) (rest := _) (by rfl) (by rfl) (by exact Nat.le_of_ble_eq_true rfl) (zm_refuse true false false) ?_
  rw [show zs_rc true false false = 1 from rfl]
  refine zg_if_ne (tgt := 56) (zd_t dmM_load 24 rfl) (by decide) (fun _ => ?_) (fun hq => absurd hq (by decide))
  exact zg_vret (zd_t dmM_load 29 rfl) rfl rfl
theorem zm_loadY {v : Int} (hi : i < 16) (hw : mz_wi v) (hv : ¬ mz_hr v) : zg_C l (zs_E P) (d + 4) mM_load [.ref (zp_B P + 67), .int (nI i), .long (mz_L v)] (zs_σ P S th (zs_b T) o w) (.inl (none), zs_σ P S (nI 2) (zs_b (T)) o w) := by
  refine zg_C_of (by decide +kernel) (Nat.le_of_ble_eq_true rfl) ?_
  refine zg_iload_n (zd_t dmM_load 0 rfl) rfl ?_
  refine zg_callS (zd_t dmM_load 1 rfl) zl_M_68 zm_mM_isRegister zst_mM_isRegister (av := _) (rest := _) (by rfl) (by rfl) (by exact Nat.le_of_ble_eq_true rfl) (zm_isRegister (nI i)) ?_
  refine zg_istore (zd_t dmM_load 2 rfl) (by decide) rfl ?_
  refine zg_aload_n (zd_t dmM_load 3 rfl) rfl ?_
  refine zg_iload (zd_t dmM_load 4 rfl) rfl ?_
  rw [decide_eq_true (zs_rg hi)]
  refine zg_if_ne (tgt := 16) (zd_t dmM_load 5 rfl) (by decide) (fun _ => ?_) (fun hq => absurd hq (by decide))
  refine zg_iconst (v := (nI 0)) (zd_t dmM_load 8 rfl) (by decide) ?_
  refine zg_iload (zd_t dmM_load 9 rfl) rfl ?_
  refine zg_if_eq (tgt := 42) (zd_t dmM_load 10 rfl) (by decide) (fun hq => absurd hq (by decide)) (fun _ => ?_)
  refine zg_lload_n (zd_t dmM_load 11 rfl) rfl ?_
  refine zg_aload_n (zd_t dmM_load 12 rfl) rfl ?_
  refine zg_getf (zd_t dmM_load 13 rfl) zf_M_39 zs_m0 rfl ?_
  refine zg_lneg (zd_t dmM_load 14 rfl) ?_
  refine zg_aload_n (zd_t dmM_load 15 rfl) rfl ?_
  refine zg_getf (zd_t dmM_load 16 rfl) zf_M_39 zs_m0 rfl ?_
  rw [mz_neg]
  refine zg_callS (zd_t dmM_load 17 rfl) zl_M_48 zm_mM_in zst_mM_in (av := _) (rest := _) (by rfl) (by rfl) (by exact Nat.le_of_ble_eq_true rfl) (zm_in (x := v) (y := -87553987462305) (z := 87553987462305) hw (by unfold mz_wi; omega) (by unfold mz_wi; omega)) ?_
  rw [decide_eq_false hv]
  refine zg_if_ne (tgt := 42) (zd_t dmM_load 18 rfl) (by decide) (fun hq => absurd (by decide) hq) (fun _ => ?_)
  refine zg_iconst (v := (nI 1)) (zd_t dmM_load 19 rfl) (by decide) ?_
  refine zg_goto (tgt := 43) (zd_t dmM_load 20 rfl) (by decide) ?_
  refine zg_iconst (v := (nI 0)) (zd_t dmM_load 22 rfl) (by decide) ?_
  refine zg_callV (zd_t dmM_load 23 rfl) zl_M_72 zm_mM_refuse zi_mM_refuse zse_mM_refuse zs_m0 zs_cl3 rfl (av := _) (rest := _) (by rfl) (by rfl) (by exact Nat.le_of_ble_eq_true rfl) (zm_refuse false true false) ?_
  rw [show zs_rc false true false = 2 from rfl]
  refine zg_if_ne (tgt := 56) (zd_t dmM_load 24 rfl) (by decide) (fun _ => ?_) (fun hq => absurd hq (by decide))
  exact zg_vret (zd_t dmM_load 29 rfl) rfl rfl
theorem zm_binary (hi : i < 16) (hok : mz_ok (zs_re T i)) (hg : mz_good (zs_re T i)) : zg_C l (zs_E P) (d + 4) mM_binary [.ref (zp_B P + 67), .int (nI i)] (zs_σ P S th (zs_b T) o w) (.inl (some (.long (mz_L (mz_val (zs_re T i))))), zs_σ P S (nI 0) (zs_b (T)) o w) := by
  refine zg_C_of (by decide +kernel) (Nat.le_of_ble_eq_true rfl) ?_
  refine zg_iload_n (zd_t dmM_binary 0 rfl) rfl ?_
  refine zg_callS (zd_t dmM_binary 1 rfl) zl_M_68 zm_mM_isRegister zst_mM_isRegister (av := _) (rest := _) (by rfl) (by rfl) (by exact Nat.le_of_ble_eq_true rfl) (zm_isRegister (nI i)) ?_
  refine zg_istore_n (zd_t dmM_binary 2 rfl) (by decide) rfl ?_
  refine zg_aload_n (zd_t dmM_binary 3 rfl) rfl ?_
  refine zg_iload_n (zd_t dmM_binary 4 rfl) rfl ?_
  rw [decide_eq_true (zs_rg hi)]
  refine zg_if_ne (tgt := 14) (zd_t dmM_binary 5 rfl) (by decide) (fun _ => ?_) (fun hq => absurd hq (by decide))
  refine zg_iconst (v := (nI 0)) (zd_t dmM_binary 8 rfl) (by decide) ?_
  refine zg_iload_n (zd_t dmM_binary 9 rfl) rfl ?_
  refine zg_if_eq (tgt := 31) (zd_t dmM_binary 10 rfl) (by decide) (fun hq => absurd hq (by decide)) (fun _ => ?_)
  refine zg_aload_n (zd_t dmM_binary 11 rfl) rfl ?_
  refine zg_iload_n (zd_t dmM_binary 12 rfl) rfl ?_
  refine zg_callV (zd_t dmM_binary 13 rfl) zl_M_80 zm_mM_isGood zi_mM_isGood zse_mM_isGood zs_m0 zs_cl3 rfl (av := _) (rest := _) (by rfl) (by rfl) (by exact Nat.le_of_ble_eq_true rfl) (zm_isGood hi hok) ?_
  rw [decide_eq_true hg]
  refine zg_if_ne (tgt := 31) (zd_t dmM_binary 14 rfl) (by decide) (fun _ => ?_) (fun hq => absurd hq (by decide))
  refine zg_iconst (v := (nI 0)) (zd_t dmM_binary 17 rfl) (by decide) ?_
  refine zg_iconst (v := (nI 0)) (zd_t dmM_binary 18 rfl) (by decide) ?_
  refine zg_callV (zd_t dmM_binary 19 rfl) zl_M_72 zm_mM_refuse zi_mM_refuse zse_mM_refuse zs_m0 zs_cl3 rfl (av := _) (rest := _) (by rfl) (by rfl) (by exact Nat.le_of_ble_eq_true rfl) (zm_refuse false false false) ?_
  rw [show zs_rc false false false = 0 from rfl]
  refine zg_if_eq (tgt := 41) (zd_t dmM_binary 20 rfl) (by decide) (fun _ => ?_) (fun hq => absurd (by decide) hq)
  refine zg_aload_n (zd_t dmM_binary 23 rfl) rfl ?_
  refine zg_iload_n (zd_t dmM_binary 24 rfl) rfl ?_
  refine zg_callV (zd_t dmM_binary 25 rfl) zl_M_60 zm_mM_valueOf zi_mM_valueOf zse_mM_valueOf zs_m0 zs_cl3 rfl (av := _) (rest := _) (by rfl) (by rfl) (by exact Nat.le_of_ble_eq_true rfl) (zm_valueOf hi hok) ?_
  exact zg_lret (zd_t dmM_binary 26 rfl) rfl rfl
theorem zm_binaryX {r : Int32} (h : ¬ zs_ir r) : zg_C l (zs_E P) (d + 4) mM_binary [.ref (zp_B P + 67), .int r] (zs_σ P S th (zs_b T) o w) (.inl (some (.long (mz_L 0))), zs_σ P S (nI 1) (zs_b (T)) o w) := by
  refine zg_C_of (by decide +kernel) (Nat.le_of_ble_eq_true rfl) ?_
  refine zg_iload_n (zd_t dmM_binary 0 rfl) rfl ?_
  refine zg_callS (zd_t dmM_binary 1 rfl) zl_M_68 zm_mM_isRegister zst_mM_isRegister (av := _) (rest := _) (by rfl) (by rfl) (by exact Nat.le_of_ble_eq_true rfl) (zm_isRegister r) ?_
  refine zg_istore_n (zd_t dmM_binary 2 rfl) (by decide) rfl ?_
  refine zg_aload_n (zd_t dmM_binary 3 rfl) rfl ?_
  refine zg_iload_n (zd_t dmM_binary 4 rfl) rfl ?_
  rw [decide_eq_false h]
  refine zg_if_ne (tgt := 14) (zd_t dmM_binary 5 rfl) (by decide) (fun hq => absurd (by decide) hq) (fun _ => ?_)
  refine zg_iconst (v := (nI 1)) (zd_t dmM_binary 6 rfl) (by decide) ?_
  refine zg_goto (tgt := 15) (zd_t dmM_binary 7 rfl) (by decide) ?_
  refine zg_iload_n (zd_t dmM_binary 9 rfl) rfl ?_
  refine zg_if_eq (tgt := 31) (zd_t dmM_binary 10 rfl) (by decide) (fun _ => ?_) (fun hq => absurd (by decide) hq)
  refine zg_iconst (v := (nI 0)) (zd_t dmM_binary 17 rfl) (by decide) ?_
  refine zg_iconst (v := (nI 0)) (zd_t dmM_binary 18 rfl) (by decide) ?_
  refine zg_callV (zd_t dmM_binary 19 rfl) zl_M_72 zm_mM_refuse zi_mM_refuse zse_mM_refuse zs_m0 zs_cl3 rfl (av := _) (rest := _) (by rfl) (by rfl) (by exact Nat.le_of_ble_eq_true rfl) (zm_refuse true false false) ?_
  rw [show zs_rc true false false = 1 from rfl]
  refine zg_if_eq (tgt := 41) (zd_t dmM_binary 20 rfl) (by decide) (fun hq => absurd hq (by decide)) (fun _ => ?_)
  refine zg_lconst (v := mz_L 0) (zd_t dmM_binary 21 rfl) (by decide) ?_
  exact zg_lret (zd_t dmM_binary 22 rfl) rfl rfl
theorem zm_binaryY (hi : i < 16) (hok : mz_ok (zs_re T i)) (hg : ¬ mz_good (zs_re T i)) : zg_C l (zs_E P) (d + 4) mM_binary [.ref (zp_B P + 67), .int (nI i)] (zs_σ P S th (zs_b T) o w) (.inl (some (.long (mz_L 0))), zs_σ P S (nI 2) (zs_b (T)) o w) := by
  refine zg_C_of (by decide +kernel) (Nat.le_of_ble_eq_true rfl) ?_
  refine zg_iload_n (zd_t dmM_binary 0 rfl) rfl ?_
  refine zg_callS (zd_t dmM_binary 1 rfl) zl_M_68 zm_mM_isRegister zst_mM_isRegister (av := _) (rest := _) (by rfl) (by rfl) (by exact Nat.le_of_ble_eq_true rfl) (zm_isRegister (nI i)) ?_
  refine zg_istore_n (zd_t dmM_binary 2 rfl) (by decide) rfl ?_
  refine zg_aload_n (zd_t dmM_binary 3 rfl) rfl ?_
  refine zg_iload_n (zd_t dmM_binary 4 rfl) rfl ?_
  rw [decide_eq_true (zs_rg hi)]
  refine zg_if_ne (tgt := 14) (zd_t dmM_binary 5 rfl) (by decide) (fun _ => ?_) (fun hq => absurd hq (by decide))
  refine zg_iconst (v := (nI 0)) (zd_t dmM_binary 8 rfl) (by decide) ?_
  refine zg_iload_n (zd_t dmM_binary 9 rfl) rfl ?_
  refine zg_if_eq (tgt := 31) (zd_t dmM_binary 10 rfl) (by decide) (fun hq => absurd hq (by decide)) (fun _ => ?_)
  refine zg_aload_n (zd_t dmM_binary 11 rfl) rfl ?_
  refine zg_iload_n (zd_t dmM_binary 12 rfl) rfl ?_
  refine zg_callV (zd_t dmM_binary 13 rfl) zl_M_80 zm_mM_isGood zi_mM_isGood zse_mM_isGood zs_m0 zs_cl3 rfl (av := _) (rest := _) (by rfl) (by rfl) (by exact Nat.le_of_ble_eq_true rfl) (zm_isGood hi hok) ?_
  rw [decide_eq_false hg]
  refine zg_if_ne (tgt := 31) (zd_t dmM_binary 14 rfl) (by decide) (fun hq => absurd (by decide) hq) (fun _ => ?_)
  refine zg_iconst (v := (nI 1)) (zd_t dmM_binary 15 rfl) (by decide) ?_
  refine zg_goto (tgt := 32) (zd_t dmM_binary 16 rfl) (by decide) ?_
  refine zg_iconst (v := (nI 0)) (zd_t dmM_binary 18 rfl) (by decide) ?_
  refine zg_callV (zd_t dmM_binary 19 rfl) zl_M_72 zm_mM_refuse zi_mM_refuse zse_mM_refuse zs_m0 zs_cl3 rfl (av := _) (rest := _) (by rfl) (by rfl) (by exact Nat.le_of_ble_eq_true rfl) (zm_refuse false true false) ?_
  rw [show zs_rc false true false = 2 from rfl]
  refine zg_if_eq (tgt := 41) (zd_t dmM_binary 20 rfl) (by decide) (fun hq => absurd hq (by decide)) (fun _ => ?_)
  refine zg_lconst (v := mz_L 0) (zd_t dmM_binary 21 rfl) (by decide) ?_
  exact zg_lret (zd_t dmM_binary 22 rfl) rfl rfl
theorem zm_work {q : Nat} (hq : q < 4) (he : e < 16) (ha : a < 16) (hb : b < 16) (hI : zs_inv T) : zg_C l (zs_E P) (d + 4) mM_work [.ref (zp_B P + 67), .int (nI q), .int (nI e), .int (nI a), .int (nI b)] (zs_σ P S th (zs_b T) o w) (.inl (none), zs_σ P S (nI 0) (zs_b (zs_scmb T q e a b)) o w) := by
  refine zg_C_of (by decide +kernel) (Nat.le_of_ble_eq_true rfl) ?_
  refine zg_iload_n (zd_t dmM_work 0 rfl) rfl ?_
  refine zg_callS (zd_t dmM_work 1 rfl) zl_M_68 zm_mM_isRegister zst_mM_isRegister (av := _) (rest := _) (by rfl) (by rfl) (by exact Nat.le_of_ble_eq_true rfl) (zm_isRegister (nI e)) ?_
  rw [decide_eq_true (zs_rg he)]
  refine zg_if_eq (tgt := 26) (zd_t dmM_work 2 rfl) (by decide) (fun hq => absurd hq (by decide)) (fun _ => ?_)
  refine zg_iload_n (zd_t dmM_work 3 rfl) rfl ?_
  refine zg_callS (zd_t dmM_work 4 rfl) zl_M_68 zm_mM_isRegister zst_mM_isRegister (av := _) (rest := _) (by rfl) (by rfl) (by exact Nat.le_of_ble_eq_true rfl) (zm_isRegister (nI a)) ?_
  rw [decide_eq_true (zs_rg ha)]
  refine zg_if_eq (tgt := 26) (zd_t dmM_work 5 rfl) (by decide) (fun hq => absurd hq (by decide)) (fun _ => ?_)
  refine zg_iload (zd_t dmM_work 6 rfl) rfl ?_
  refine zg_callS (zd_t dmM_work 7 rfl) zl_M_68 zm_mM_isRegister zst_mM_isRegister (av := _) (rest := _) (by rfl) (by rfl) (by exact Nat.le_of_ble_eq_true rfl) (zm_isRegister (nI b)) ?_
  rw [decide_eq_true (zs_rg hb)]
  refine zg_if_eq (tgt := 26) (zd_t dmM_work 8 rfl) (by decide) (fun hq => absurd hq (by decide)) (fun _ => ?_)
  refine zg_iconst (v := (nI 1)) (zd_t dmM_work 9 rfl) (by decide) ?_
  refine zg_goto (tgt := 27) (zd_t dmM_work 10 rfl) (by decide) ?_
  refine zg_istore (zd_t dmM_work 12 rfl) (by decide) rfl ?_
  refine zg_aload_n (zd_t dmM_work 13 rfl) rfl ?_
  refine zg_iload (zd_t dmM_work 14 rfl) rfl ?_
  refine zg_if_ne (tgt := 39) (zd_t dmM_work 15 rfl) (by decide) (fun _ => ?_) (fun hq => absurd hq (by decide))
  refine zg_iconst (v := (nI 0)) (zd_t dmM_work 18 rfl) (by decide) ?_
  refine zg_iload (zd_t dmM_work 19 rfl) rfl ?_
  refine zg_if_eq (tgt := 61) (zd_t dmM_work 20 rfl) (by decide) (fun hq => absurd hq (by decide)) (fun _ => ?_)
  refine zg_iload_n (zd_t dmM_work 21 rfl) rfl ?_
  refine zg_i2l (zd_t dmM_work 22 rfl) rfl ?_
  refine zg_lconst (v := mz_L 0) (zd_t dmM_work 23 rfl) (by decide) ?_
  refine zg_ldc2 (zd_t dmM_work 24 rfl) zc_M_101 ?_
  rw [zs_i2l]
  refine zg_callS (zd_t dmM_work 25 rfl) zl_M_48 zm_mM_in zst_mM_in (av := _) (rest := _) (by rfl) (by rfl) (by exact Nat.le_of_ble_eq_true rfl) (zm_in (x := (nI q).toInt) (y := 0) (z := 3) (zs_wi32 _) (by unfold mz_wi; omega) (by unfold mz_wi; omega)) ?_
  rw [decide_eq_true (by rw [nI_toInt (by omega)]; omega)]
  refine zg_if_ne (tgt := 61) (zd_t dmM_work 26 rfl) (by decide) (fun _ => ?_) (fun hq => absurd hq (by decide))
  refine zg_iconst (v := (nI 0)) (zd_t dmM_work 29 rfl) (by decide) ?_
  refine zg_iconst (v := (nI 0)) (zd_t dmM_work 30 rfl) (by decide) ?_
  refine zg_callV (zd_t dmM_work 31 rfl) zl_M_72 zm_mM_refuse zi_mM_refuse zse_mM_refuse zs_m0 zs_cl3 rfl (av := _) (rest := _) (by rfl) (by rfl) (by exact Nat.le_of_ble_eq_true rfl) (zm_refuse false false false) ?_
  rw [show zs_rc false false false = 0 from rfl]
  refine zg_if_ne (tgt := 78) (zd_t dmM_work 32 rfl) (by decide) (fun hq => absurd (by decide) hq) (fun _ => ?_)
  refine zg_aload_n (zd_t dmM_work 33 rfl) rfl ?_
  refine zg_iload_n (zd_t dmM_work 34 rfl) rfl ?_
  refine zg_iload_n (zd_t dmM_work 35 rfl) rfl ?_
  refine zg_iload_n (zd_t dmM_work 36 rfl) rfl ?_
  refine zg_iload (zd_t dmM_work 37 rfl) rfl ?_
  refine zg_callV (zd_t dmM_work 38 rfl) zl_M_103 zm_mM_reckon zi_mM_reckon zse_mM_reckon zs_m0 zs_cl3 rfl (av := _) (rest := _) (by rfl) (by rfl) (by exact Nat.le_of_ble_eq_true rfl) (zm_reckon hq he ha hb hI) ?_
  exact zg_vret (zd_t dmM_work 39 rfl) rfl rfl
theorem zm_workX {q x y z : Int32} (h : ¬ (zs_ir x ∧ zs_ir y ∧ zs_ir z)) : zg_C l (zs_E P) (d + 4) mM_work [.ref (zp_B P + 67), .int q, .int x, .int y, .int z] (zs_σ P S th (zs_b T) o w) (.inl (none), zs_σ P S (nI 1) (zs_b (T)) o w) := by
  refine zg_C_of (by decide +kernel) (Nat.le_of_ble_eq_true rfl) ?_
  by_cases h0 : zs_ir x
  · skip
    by_cases h1 : zs_ir y
    · skip
      by_cases h2 : zs_ir z
      · skip
        exact absurd ⟨h0, h1, h2⟩ h
      · skip
        refine zg_iload_n (zd_t dmM_work 0 rfl) rfl ?_
        refine zg_callS (zd_t dmM_work 1 rfl) zl_M_68 zm_mM_isRegister zst_mM_isRegister (av := _) (rest := _) (by rfl) (by rfl) (by exact Nat.le_of_ble_eq_true rfl) (zm_isRegister x) ?_
        rw [decide_eq_true h0]
        refine zg_if_eq (tgt := 26) (zd_t dmM_work 2 rfl) (by decide) (fun hq => absurd hq (by decide)) (fun _ => ?_)
        refine zg_iload_n (zd_t dmM_work 3 rfl) rfl ?_
        refine zg_callS (zd_t dmM_work 4 rfl) zl_M_68 zm_mM_isRegister zst_mM_isRegister (av := _) (rest := _) (by rfl) (by rfl) (by exact Nat.le_of_ble_eq_true rfl) (zm_isRegister y) ?_
        rw [decide_eq_true h1]
        refine zg_if_eq (tgt := 26) (zd_t dmM_work 5 rfl) (by decide) (fun hq => absurd hq (by decide)) (fun _ => ?_)
        refine zg_iload (zd_t dmM_work 6 rfl) rfl ?_
        refine zg_callS (zd_t dmM_work 7 rfl) zl_M_68 zm_mM_isRegister zst_mM_isRegister (av := _) (rest := _) (by rfl) (by rfl) (by exact Nat.le_of_ble_eq_true rfl) (zm_isRegister z) ?_
        rw [decide_eq_false h2]
        refine zg_if_eq (tgt := 26) (zd_t dmM_work 8 rfl) (by decide) (fun _ => ?_) (fun hq => absurd (by decide) hq)
        refine zg_iconst (v := (nI 0)) (zd_t dmM_work 11 rfl) (by decide) ?_
        refine zg_istore (zd_t dmM_work 12 rfl) (by decide) rfl ?_
        refine zg_aload_n (zd_t dmM_work 13 rfl) rfl ?_
        refine zg_iload (zd_t dmM_work 14 rfl) rfl ?_
        refine zg_if_ne (tgt := 39) (zd_t dmM_work 15 rfl) (by decide) (fun hq => absurd (by decide) hq) (fun _ => ?_)
        refine zg_iconst (v := (nI 1)) (zd_t dmM_work 16 rfl) (by decide) ?_
        refine zg_goto (tgt := 40) (zd_t dmM_work 17 rfl) (by decide) ?_
        refine zg_iload (zd_t dmM_work 19 rfl) rfl ?_
        refine zg_if_eq (tgt := 61) (zd_t dmM_work 20 rfl) (by decide) (fun _ => ?_) (fun hq => absurd (by decide) hq)
        refine zg_iconst (v := (nI 0)) (zd_t dmM_work 29 rfl) (by decide) ?_
        refine zg_iconst (v := (nI 0)) (zd_t dmM_work 30 rfl) (by decide) ?_
        refine zg_callV (zd_t dmM_work 31 rfl) zl_M_72 zm_mM_refuse zi_mM_refuse zse_mM_refuse zs_m0 zs_cl3 rfl (av := _) (rest := _) (by rfl) (by rfl) (by exact Nat.le_of_ble_eq_true rfl) (zm_refuse true false false) ?_
        rw [show zs_rc true false false = 1 from rfl]
        refine zg_if_ne (tgt := 78) (zd_t dmM_work 32 rfl) (by decide) (fun _ => ?_) (fun hq => absurd hq (by decide))
        exact zg_vret (zd_t dmM_work 39 rfl) rfl rfl
    · skip
      refine zg_iload_n (zd_t dmM_work 0 rfl) rfl ?_
      refine zg_callS (zd_t dmM_work 1 rfl) zl_M_68 zm_mM_isRegister zst_mM_isRegister (av := _) (rest := _) (by rfl) (by rfl) (by exact Nat.le_of_ble_eq_true rfl) (zm_isRegister x) ?_
      rw [decide_eq_true h0]
      refine zg_if_eq (tgt := 26) (zd_t dmM_work 2 rfl) (by decide) (fun hq => absurd hq (by decide)) (fun _ => ?_)
      refine zg_iload_n (zd_t dmM_work 3 rfl) rfl ?_
      refine zg_callS (zd_t dmM_work 4 rfl) zl_M_68 zm_mM_isRegister zst_mM_isRegister (av := _) (rest := _) (by rfl) (by rfl) (by exact Nat.le_of_ble_eq_true rfl) (zm_isRegister y) ?_
      rw [decide_eq_false h1]
      refine zg_if_eq (tgt := 26) (zd_t dmM_work 5 rfl) (by decide) (fun _ => ?_) (fun hq => absurd (by decide) hq)
      refine zg_iconst (v := (nI 0)) (zd_t dmM_work 11 rfl) (by decide) ?_
      refine zg_istore (zd_t dmM_work 12 rfl) (by decide) rfl ?_
      refine zg_aload_n (zd_t dmM_work 13 rfl) rfl ?_
      refine zg_iload (zd_t dmM_work 14 rfl) rfl ?_
      refine zg_if_ne (tgt := 39) (zd_t dmM_work 15 rfl) (by decide) (fun hq => absurd (by decide) hq) (fun _ => ?_)
      refine zg_iconst (v := (nI 1)) (zd_t dmM_work 16 rfl) (by decide) ?_
      refine zg_goto (tgt := 40) (zd_t dmM_work 17 rfl) (by decide) ?_
      refine zg_iload (zd_t dmM_work 19 rfl) rfl ?_
      refine zg_if_eq (tgt := 61) (zd_t dmM_work 20 rfl) (by decide) (fun _ => ?_) (fun hq => absurd (by decide) hq)
      refine zg_iconst (v := (nI 0)) (zd_t dmM_work 29 rfl) (by decide) ?_
      refine zg_iconst (v := (nI 0)) (zd_t dmM_work 30 rfl) (by decide) ?_
      refine zg_callV (zd_t dmM_work 31 rfl) zl_M_72 zm_mM_refuse zi_mM_refuse zse_mM_refuse zs_m0 zs_cl3 rfl (av := _) (rest := _) (by rfl) (by rfl) (by exact Nat.le_of_ble_eq_true rfl) (zm_refuse true false false) ?_
      rw [show zs_rc true false false = 1 from rfl]
      refine zg_if_ne (tgt := 78) (zd_t dmM_work 32 rfl) (by decide) (fun _ => ?_) (fun hq => absurd hq (by decide))
      exact zg_vret (zd_t dmM_work 39 rfl) rfl rfl
  · skip
    refine zg_iload_n (zd_t dmM_work 0 rfl) rfl ?_
    refine zg_callS (zd_t dmM_work 1 rfl) zl_M_68 zm_mM_isRegister zst_mM_isRegister (av := _) (rest := _) (by rfl) (by rfl) (by exact Nat.le_of_ble_eq_true rfl) (zm_isRegister x) ?_
    rw [decide_eq_false h0]
    refine zg_if_eq (tgt := 26) (zd_t dmM_work 2 rfl) (by decide) (fun _ => ?_) (fun hq => absurd (by decide) hq)
    refine zg_iconst (v := (nI 0)) (zd_t dmM_work 11 rfl) (by decide) ?_
    refine zg_istore (zd_t dmM_work 12 rfl) (by decide) rfl ?_
    refine zg_aload_n (zd_t dmM_work 13 rfl) rfl ?_
    refine zg_iload (zd_t dmM_work 14 rfl) rfl ?_
    refine zg_if_ne (tgt := 39) (zd_t dmM_work 15 rfl) (by decide) (fun hq => absurd (by decide) hq) (fun _ => ?_)
    refine zg_iconst (v := (nI 1)) (zd_t dmM_work 16 rfl) (by decide) ?_
    refine zg_goto (tgt := 40) (zd_t dmM_work 17 rfl) (by decide) ?_
    refine zg_iload (zd_t dmM_work 19 rfl) rfl ?_
    refine zg_if_eq (tgt := 61) (zd_t dmM_work 20 rfl) (by decide) (fun _ => ?_) (fun hq => absurd (by decide) hq)
    refine zg_iconst (v := (nI 0)) (zd_t dmM_work 29 rfl) (by decide) ?_
    refine zg_iconst (v := (nI 0)) (zd_t dmM_work 30 rfl) (by decide) ?_
    refine zg_callV (zd_t dmM_work 31 rfl) zl_M_72 zm_mM_refuse zi_mM_refuse zse_mM_refuse zs_m0 zs_cl3 rfl (av := _) (rest := _) (by rfl) (by rfl) (by exact Nat.le_of_ble_eq_true rfl) (zm_refuse true false false) ?_
    rw [show zs_rc true false false = 1 from rfl]
    refine zg_if_ne (tgt := 78) (zd_t dmM_work 32 rfl) (by decide) (fun _ => ?_) (fun hq => absurd hq (by decide))
    exact zg_vret (zd_t dmM_work 39 rfl) rfl rfl
theorem zm_workY {q : Int32} (hq : ¬ (0 ≤ q.toInt ∧ q.toInt ≤ 3)) (he : e < 16) (ha : a < 16) (hb : b < 16) : zg_C l (zs_E P) (d + 4) mM_work [.ref (zp_B P + 67), .int q, .int (nI e), .int (nI a), .int (nI b)] (zs_σ P S th (zs_b T) o w) (.inl (none), zs_σ P S (nI 2) (zs_b (T)) o w) := by
  refine zg_C_of (by decide +kernel) (Nat.le_of_ble_eq_true rfl) ?_
  refine zg_iload_n (zd_t dmM_work 0 rfl) rfl ?_
  refine zg_callS (zd_t dmM_work 1 rfl) zl_M_68 zm_mM_isRegister zst_mM_isRegister (av := _) (rest := _) (by rfl) (by rfl) (by exact Nat.le_of_ble_eq_true rfl) (zm_isRegister (nI e)) ?_
  rw [decide_eq_true (zs_rg he)]
  refine zg_if_eq (tgt := 26) (zd_t dmM_work 2 rfl) (by decide) (fun hq => absurd hq (by decide)) (fun _ => ?_)
  refine zg_iload_n (zd_t dmM_work 3 rfl) rfl ?_
  refine zg_callS (zd_t dmM_work 4 rfl) zl_M_68 zm_mM_isRegister zst_mM_isRegister (av := _) (rest := _) (by rfl) (by rfl) (by exact Nat.le_of_ble_eq_true rfl) (zm_isRegister (nI a)) ?_
  rw [decide_eq_true (zs_rg ha)]
  refine zg_if_eq (tgt := 26) (zd_t dmM_work 5 rfl) (by decide) (fun hq => absurd hq (by decide)) (fun _ => ?_)
  refine zg_iload (zd_t dmM_work 6 rfl) rfl ?_
  refine zg_callS (zd_t dmM_work 7 rfl) zl_M_68 zm_mM_isRegister zst_mM_isRegister (av := _) (rest := _) (by rfl) (by rfl) (by exact Nat.le_of_ble_eq_true rfl) (zm_isRegister (nI b)) ?_
  rw [decide_eq_true (zs_rg hb)]
  refine zg_if_eq (tgt := 26) (zd_t dmM_work 8 rfl) (by decide) (fun hq => absurd hq (by decide)) (fun _ => ?_)
  refine zg_iconst (v := (nI 1)) (zd_t dmM_work 9 rfl) (by decide) ?_
  refine zg_goto (tgt := 27) (zd_t dmM_work 10 rfl) (by decide) ?_
  refine zg_istore (zd_t dmM_work 12 rfl) (by decide) rfl ?_
  refine zg_aload_n (zd_t dmM_work 13 rfl) rfl ?_
  refine zg_iload (zd_t dmM_work 14 rfl) rfl ?_
  refine zg_if_ne (tgt := 39) (zd_t dmM_work 15 rfl) (by decide) (fun _ => ?_) (fun hq => absurd hq (by decide))
  refine zg_iconst (v := (nI 0)) (zd_t dmM_work 18 rfl) (by decide) ?_
  refine zg_iload (zd_t dmM_work 19 rfl) rfl ?_
  refine zg_if_eq (tgt := 61) (zd_t dmM_work 20 rfl) (by decide) (fun hq => absurd hq (by decide)) (fun _ => ?_)
  refine zg_iload_n (zd_t dmM_work 21 rfl) rfl ?_
  refine zg_i2l (zd_t dmM_work 22 rfl) rfl ?_
  refine zg_lconst (v := mz_L 0) (zd_t dmM_work 23 rfl) (by decide) ?_
  refine zg_ldc2 (zd_t dmM_work 24 rfl) zc_M_101 ?_
  rw [zs_i2l]
  refine zg_callS (zd_t dmM_work 25 rfl) zl_M_48 zm_mM_in zst_mM_in (av := _) (rest := _) (by rfl) (by rfl) (by exact Nat.le_of_ble_eq_true rfl) (zm_in (x := q.toInt) (y := 0) (z := 3) (zs_wi32 _) (by unfold mz_wi; omega) (by unfold mz_wi; omega)) ?_
  rw [decide_eq_false hq]
  refine zg_if_ne (tgt := 61) (zd_t dmM_work 26 rfl) (by decide) (fun hq => absurd (by decide) hq) (fun _ => ?_)
  refine zg_iconst (v := (nI 1)) (zd_t dmM_work 27 rfl) (by decide) ?_
  refine zg_goto (tgt := 62) (zd_t dmM_work 28 rfl) (by decide) ?_
  refine zg_iconst (v := (nI 0)) (zd_t dmM_work 30 rfl) (by decide) ?_
  refine zg_callV (zd_t dmM_work 31 rfl) zl_M_72 zm_mM_refuse zi_mM_refuse zse_mM_refuse zs_m0 zs_cl3 rfl (av := _) (rest := _) (by rfl) (by rfl) (by exact Nat.le_of_ble_eq_true rfl) (zm_refuse false true false) ?_
  rw [show zs_rc false true false = 2 from rfl]
  refine zg_if_ne (tgt := 78) (zd_t dmM_work 32 rfl) (by decide) (fun _ => ?_) (fun hq => absurd hq (by decide))
  exact zg_vret (zd_t dmM_work 39 rfl) rfl rfl
theorem zm_compare_t {σ : zg_H} {x y : Int} {lv : List (Nat × Value)} (v1 : mz_in x) (v2 : mz_in y) : zg_G l (zs_E P) d mM_compare 43 ((5, .long (mz_L y)) :: (3, .long (mz_L x)) :: lv) [] σ (.inl (some (.int (mz_cp x y))), σ) := by
  unfold mz_cp
  refine zg_lload_n (zd_t dmM_compare 24 rfl) rfl ?_
  refine zg_lload (zd_t dmM_compare 25 rfl) rfl ?_
  refine zg_lcmp (zd_t dmM_compare 26 rfl) ?_
  refine zg_if_ge (tgt := 54) (zd_t dmM_compare 27 rfl) (by decide) (fun h1 => ?_) (fun h1 => ?_)
  · rw [lg_cmp_ge, mz_le v2 v1] at h1
    rw [if_neg (by omega)]
    refine zg_lload_n (zd_t dmM_compare 30 rfl) rfl ?_
    refine zg_lload (zd_t dmM_compare 31 rfl) rfl ?_
    refine zg_lcmp (zd_t dmM_compare 32 rfl) ?_
    refine zg_if_le (tgt := 65) (zd_t dmM_compare 33 rfl) (by decide) (fun h2 => ?_) (fun h2 => ?_)
    · rw [lg_cmp_le, mz_le v1 v2] at h2
      rw [if_neg (by omega)]
      refine zg_iconst (v := (nI 0)) (zd_t dmM_compare 36 rfl) (by decide) ?_
      exact zg_iret (zd_t dmM_compare 37 rfl) rfl rfl
    · rw [lg_cmp_le, mz_le v1 v2] at h2
      rw [if_pos (by omega)]
      refine zg_iconst (v := (nI 1)) (zd_t dmM_compare 34 rfl) (by decide) ?_
      refine zg_goto (tgt := 66) (zd_t dmM_compare 35 rfl) (by decide) ?_
      exact zg_iret (zd_t dmM_compare 37 rfl) rfl rfl
  · rw [lg_cmp_ge, mz_le v2 v1] at h1
    rw [if_pos (by omega)]
    refine zg_iconst (v := (-1)) (zd_t dmM_compare 28 rfl) (by decide) ?_
    refine zg_goto (tgt := 66) (zd_t dmM_compare 29 rfl) (by decide) ?_
    exact zg_iret (zd_t dmM_compare 37 rfl) rfl rfl
theorem zm_compare (ha : a < 16) (hb : b < 16) (hI : zs_inv T) : zg_C l (zs_E P) (d + 4) mM_compare [.ref (zp_B P + 67), .int (nI a), .int (nI b)] (zs_σ P S th (zs_b T) o w) (.inl (some (.int (mz_cp (mz_val (zs_re T a)) (mz_val (zs_re T b))))), zs_σ P S (nI 0) (zs_b (T)) o w) := by
  refine zg_C_of (by decide +kernel) (Nat.le_of_ble_eq_true rfl) ?_
  refine zg_aload_n (zd_t dmM_compare 0 rfl) rfl ?_
  refine zg_iload_n (zd_t dmM_compare 1 rfl) rfl ?_
  refine zg_callS (zd_t dmM_compare 2 rfl) zl_M_68 zm_mM_isRegister zst_mM_isRegister (av := _) (rest := _) (by rfl) (by rfl) (by exact Nat.le_of_ble_eq_true rfl) (zm_isRegister (nI a)) ?_
  rw [decide_eq_true (zs_rg ha)]
  refine zg_if_eq (tgt := 15) (zd_t dmM_compare 3 rfl) (by decide) (fun hq => absurd hq (by decide)) (fun _ => ?_)
  refine zg_iload_n (zd_t dmM_compare 4 rfl) rfl ?_
  refine zg_callS (zd_t dmM_compare 5 rfl) zl_M_68 zm_mM_isRegister zst_mM_isRegister (av := _) (rest := _) (by rfl) (by rfl) (by exact Nat.le_of_ble_eq_true rfl) (zm_isRegister (nI b)) ?_
  rw [decide_eq_true (zs_rg hb)]
  refine zg_if_ne (tgt := 19) (zd_t dmM_compare 6 rfl) (by decide) (fun _ => ?_) (fun hq => absurd hq (by decide))
  refine zg_iconst (v := (nI 0)) (zd_t dmM_compare 9 rfl) (by decide) ?_
  refine zg_iconst (v := (nI 0)) (zd_t dmM_compare 10 rfl) (by decide) ?_
  refine zg_iconst (v := (nI 0)) (zd_t dmM_compare 11 rfl) (by decide) ?_
  refine zg_callV (zd_t dmM_compare 12 rfl) zl_M_72 zm_mM_refuse zi_mM_refuse zse_mM_refuse zs_m0 zs_cl3 rfl (av := _) (rest := _) (by rfl) (by rfl) (by exact Nat.le_of_ble_eq_true rfl) (zm_refuse false false false) ?_
  rw [show zs_rc false false false = 0 from rfl]
  refine zg_if_eq (tgt := 30) (zd_t dmM_compare 13 rfl) (by decide) (fun _ => ?_) (fun hq => absurd (by decide) hq)
  refine zg_aload_n (zd_t dmM_compare 16 rfl) rfl ?_
  refine zg_iload_n (zd_t dmM_compare 17 rfl) rfl ?_
  refine zg_callV (zd_t dmM_compare 18 rfl) zl_M_60 zm_mM_valueOf zi_mM_valueOf zse_mM_valueOf zs_m0 zs_cl3 rfl (av := _) (rest := _) (by rfl) (by rfl) (by exact Nat.le_of_ble_eq_true rfl) (zm_valueOf ha (hI.1 a ha)) ?_
  refine zg_lstore_n (zd_t dmM_compare 19 rfl) (by decide) rfl ?_
  refine zg_aload_n (zd_t dmM_compare 20 rfl) rfl ?_
  refine zg_iload_n (zd_t dmM_compare 21 rfl) rfl ?_
  refine zg_callV (zd_t dmM_compare 22 rfl) zl_M_60 zm_mM_valueOf zi_mM_valueOf zse_mM_valueOf zs_m0 zs_cl3 rfl (av := _) (rest := _) (by rfl) (by rfl) (by exact Nat.le_of_ble_eq_true rfl) (zm_valueOf hb (hI.1 b hb)) ?_
  refine zg_lstore (zd_t dmM_compare 23 rfl) (by decide) rfl ?_
  exact zm_compare_t (mz_val_in _) (mz_val_in _)
theorem zm_compareX {x y : Int32} (h : ¬ (zs_ir x ∧ zs_ir y)) : zg_C l (zs_E P) (d + 4) mM_compare [.ref (zp_B P + 67), .int x, .int y] (zs_σ P S th (zs_b T) o w) (.inl (some (.int (nI 0))), zs_σ P S (nI 1) (zs_b (T)) o w) := by
  refine zg_C_of (by decide +kernel) (Nat.le_of_ble_eq_true rfl) ?_
  by_cases h0 : zs_ir x
  · skip
    by_cases h1 : zs_ir y
    · skip
      exact absurd ⟨h0, h1⟩ h
    · skip
      refine zg_aload_n (zd_t dmM_compare 0 rfl) rfl ?_
      refine zg_iload_n (zd_t dmM_compare 1 rfl) rfl ?_
      refine zg_callS (zd_t dmM_compare 2 rfl) zl_M_68 zm_mM_isRegister zst_mM_isRegister (av := _) (rest := _) (by rfl) (by rfl) (by exact Nat.le_of_ble_eq_true rfl) (zm_isRegister x) ?_
      rw [decide_eq_true h0]
      refine zg_if_eq (tgt := 15) (zd_t dmM_compare 3 rfl) (by decide) (fun hq => absurd hq (by decide)) (fun _ => ?_)
      refine zg_iload_n (zd_t dmM_compare 4 rfl) rfl ?_
      refine zg_callS (zd_t dmM_compare 5 rfl) zl_M_68 zm_mM_isRegister zst_mM_isRegister (av := _) (rest := _) (by rfl) (by rfl) (by exact Nat.le_of_ble_eq_true rfl) (zm_isRegister y) ?_
      rw [decide_eq_false h1]
      refine zg_if_ne (tgt := 19) (zd_t dmM_compare 6 rfl) (by decide) (fun hq => absurd (by decide) hq) (fun _ => ?_)
      refine zg_iconst (v := (nI 1)) (zd_t dmM_compare 7 rfl) (by decide) ?_
      refine zg_goto (tgt := 20) (zd_t dmM_compare 8 rfl) (by decide) ?_
      refine zg_iconst (v := (nI 0)) (zd_t dmM_compare 10 rfl) (by decide) ?_
      refine zg_iconst (v := (nI 0)) (zd_t dmM_compare 11 rfl) (by decide) ?_
      refine zg_callV (zd_t dmM_compare 12 rfl) zl_M_72 zm_mM_refuse zi_mM_refuse zse_mM_refuse zs_m0 zs_cl3 rfl (av := _) (rest := _) (by rfl) (by rfl) (by exact Nat.le_of_ble_eq_true rfl) (zm_refuse true false false) ?_
      rw [show zs_rc true false false = 1 from rfl]
      refine zg_if_eq (tgt := 30) (zd_t dmM_compare 13 rfl) (by decide) (fun hq => absurd hq (by decide)) (fun _ => ?_)
      refine zg_iconst (v := (nI 0)) (zd_t dmM_compare 14 rfl) (by decide) ?_
      exact zg_iret (zd_t dmM_compare 15 rfl) rfl rfl
  · skip
    refine zg_aload_n (zd_t dmM_compare 0 rfl) rfl ?_
    refine zg_iload_n (zd_t dmM_compare 1 rfl) rfl ?_
    refine zg_callS (zd_t dmM_compare 2 rfl) zl_M_68 zm_mM_isRegister zst_mM_isRegister (av := _) (rest := _) (by rfl) (by rfl) (by exact Nat.le_of_ble_eq_true rfl) (zm_isRegister x) ?_
    rw [decide_eq_false h0]
    refine zg_if_eq (tgt := 15) (zd_t dmM_compare 3 rfl) (by decide) (fun _ => ?_) (fun hq => absurd (by decide) hq)
    refine zg_iconst (v := (nI 1)) (zd_t dmM_compare 7 rfl) (by decide) ?_
    refine zg_goto (tgt := 20) (zd_t dmM_compare 8 rfl) (by decide) ?_
    refine zg_iconst (v := (nI 0)) (zd_t dmM_compare 10 rfl) (by decide) ?_
    refine zg_iconst (v := (nI 0)) (zd_t dmM_compare 11 rfl) (by decide) ?_
    refine zg_callV (zd_t dmM_compare 12 rfl) zl_M_72 zm_mM_refuse zi_mM_refuse zse_mM_refuse zs_m0 zs_cl3 rfl (av := _) (rest := _) (by rfl) (by rfl) (by exact Nat.le_of_ble_eq_true rfl) (zm_refuse true false false) ?_
    rw [show zs_rc true false false = 1 from rfl]
    refine zg_if_eq (tgt := 30) (zd_t dmM_compare 13 rfl) (by decide) (fun hq => absurd hq (by decide)) (fun _ => ?_)
    refine zg_iconst (v := (nI 0)) (zd_t dmM_compare 14 rfl) (by decide) ?_
    exact zg_iret (zd_t dmM_compare 15 rfl) rfl rfl
theorem zm_scale {x : Nat} {n : Bool} (he : e < 16) (ha : a < 16) (hx : x < 64) (hm : mz_sm (nI x)) (hp : mz_pop x ≤ 4) (hI : zs_inv T) : zg_C l (zs_E P) (d + 4) mM_scale [.ref (zp_B P + 67), .int (nI e), .int (nI a), .int (nI x), .int (zs_bi n)] (zs_σ P S th (zs_b T) o w) (.inl (none), zs_σ P S (nI 0) (zs_b (zs_ssc T e a x n)) o w) := by
  refine zg_C_of (by decide +kernel) (Nat.le_of_ble_eq_true rfl) ?_
  refine zg_iload_n (zd_t dmM_scale 0 rfl) rfl ?_
  refine zg_callS (zd_t dmM_scale 1 rfl) zl_M_68 zm_mM_isRegister zst_mM_isRegister (av := _) (rest := _) (by rfl) (by rfl) (by exact Nat.le_of_ble_eq_true rfl) (zm_isRegister (nI e)) ?_
  rw [decide_eq_true (zs_rg he)]
  refine zg_if_eq (tgt := 18) (zd_t dmM_scale 2 rfl) (by decide) (fun hq => absurd hq (by decide)) (fun _ => ?_)
  refine zg_iload_n (zd_t dmM_scale 3 rfl) rfl ?_
  refine zg_callS (zd_t dmM_scale 4 rfl) zl_M_68 zm_mM_isRegister zst_mM_isRegister (av := _) (rest := _) (by rfl) (by rfl) (by exact Nat.le_of_ble_eq_true rfl) (zm_isRegister (nI a)) ?_
  rw [decide_eq_true (zs_rg ha)]
  refine zg_if_eq (tgt := 18) (zd_t dmM_scale 5 rfl) (by decide) (fun hq => absurd hq (by decide)) (fun _ => ?_)
  refine zg_iconst (v := (nI 1)) (zd_t dmM_scale 6 rfl) (by decide) ?_
  refine zg_goto (tgt := 19) (zd_t dmM_scale 7 rfl) (by decide) ?_
  refine zg_istore (zd_t dmM_scale 9 rfl) (by decide) rfl ?_
  refine zg_aload_n (zd_t dmM_scale 10 rfl) rfl ?_
  refine zg_iload (zd_t dmM_scale 11 rfl) rfl ?_
  refine zg_if_ne (tgt := 31) (zd_t dmM_scale 12 rfl) (by decide) (fun _ => ?_) (fun hq => absurd hq (by decide))
  refine zg_iconst (v := (nI 0)) (zd_t dmM_scale 15 rfl) (by decide) ?_
  refine zg_iload (zd_t dmM_scale 16 rfl) rfl ?_
  refine zg_if_eq (tgt := 48) (zd_t dmM_scale 17 rfl) (by decide) (fun hq => absurd hq (by decide)) (fun _ => ?_)
  refine zg_iload_n (zd_t dmM_scale 18 rfl) rfl ?_
  refine zg_callS (zd_t dmM_scale 19 rfl) zl_M_115 zm_mM_isModuli zst_mM_isModuli (av := _) (rest := _) (by rfl) (by rfl) (by exact Nat.le_of_ble_eq_true rfl) (zm_isModuli (nI x)) ?_
  rw [decide_eq_true hm]
  refine zg_if_ne (tgt := 48) (zd_t dmM_scale 20 rfl) (by decide) (fun _ => ?_) (fun hq => absurd hq (by decide))
  refine zg_iconst (v := (nI 0)) (zd_t dmM_scale 23 rfl) (by decide) ?_
  refine zg_iconst (v := (nI 0)) (zd_t dmM_scale 24 rfl) (by decide) ?_
  refine zg_callV (zd_t dmM_scale 25 rfl) zl_M_72 zm_mM_refuse zi_mM_refuse zse_mM_refuse zs_m0 zs_cl3 rfl (av := _) (rest := _) (by rfl) (by rfl) (by exact Nat.le_of_ble_eq_true rfl) (zm_refuse false false false) ?_
  rw [show zs_rc false false false = 0 from rfl]
  refine zg_if_ne (tgt := 65) (zd_t dmM_scale 26 rfl) (by decide) (fun hq => absurd (by decide) hq) (fun _ => ?_)
  refine zg_aload_n (zd_t dmM_scale 27 rfl) rfl ?_
  refine zg_iload_n (zd_t dmM_scale 28 rfl) rfl ?_
  refine zg_iload_n (zd_t dmM_scale 29 rfl) rfl ?_
  refine zg_iload_n (zd_t dmM_scale 30 rfl) rfl ?_
  refine zg_iload (zd_t dmM_scale 31 rfl) rfl ?_
  refine zg_callV (zd_t dmM_scale 32 rfl) zl_M_118 zm_mM_scaleBy zi_mM_scaleBy zse_mM_scaleBy zs_m0 zs_cl3 rfl (av := _) (rest := _) (by rfl) (by rfl) (by exact Nat.le_of_ble_eq_true rfl) (zm_scaleBy he ha hx hp hI) ?_
  exact zg_vret (zd_t dmM_scale 33 rfl) rfl rfl
theorem zm_scaleX {x y c z : Int32} (h : ¬ (zs_ir x ∧ zs_ir y)) : zg_C l (zs_E P) (d + 4) mM_scale [.ref (zp_B P + 67), .int x, .int y, .int c, .int z] (zs_σ P S th (zs_b T) o w) (.inl (none), zs_σ P S (nI 1) (zs_b (T)) o w) := by
  refine zg_C_of (by decide +kernel) (Nat.le_of_ble_eq_true rfl) ?_
  by_cases h0 : zs_ir x
  · skip
    by_cases h1 : zs_ir y
    · skip
      exact absurd ⟨h0, h1⟩ h
    · skip
      refine zg_iload_n (zd_t dmM_scale 0 rfl) rfl ?_
      refine zg_callS (zd_t dmM_scale 1 rfl) zl_M_68 zm_mM_isRegister zst_mM_isRegister (av := _) (rest := _) (by rfl) (by rfl) (by exact Nat.le_of_ble_eq_true rfl) (zm_isRegister x) ?_
      rw [decide_eq_true h0]
      refine zg_if_eq (tgt := 18) (zd_t dmM_scale 2 rfl) (by decide) (fun hq => absurd hq (by decide)) (fun _ => ?_)
      refine zg_iload_n (zd_t dmM_scale 3 rfl) rfl ?_
      refine zg_callS (zd_t dmM_scale 4 rfl) zl_M_68 zm_mM_isRegister zst_mM_isRegister (av := _) (rest := _) (by rfl) (by rfl) (by exact Nat.le_of_ble_eq_true rfl) (zm_isRegister y) ?_
      rw [decide_eq_false h1]
      refine zg_if_eq (tgt := 18) (zd_t dmM_scale 5 rfl) (by decide) (fun _ => ?_) (fun hq => absurd (by decide) hq)
      refine zg_iconst (v := (nI 0)) (zd_t dmM_scale 8 rfl) (by decide) ?_
      refine zg_istore (zd_t dmM_scale 9 rfl) (by decide) rfl ?_
      refine zg_aload_n (zd_t dmM_scale 10 rfl) rfl ?_
      refine zg_iload (zd_t dmM_scale 11 rfl) rfl ?_
      refine zg_if_ne (tgt := 31) (zd_t dmM_scale 12 rfl) (by decide) (fun hq => absurd (by decide) hq) (fun _ => ?_)
      refine zg_iconst (v := (nI 1)) (zd_t dmM_scale 13 rfl) (by decide) ?_
      refine zg_goto (tgt := 32) (zd_t dmM_scale 14 rfl) (by decide) ?_
      refine zg_iload (zd_t dmM_scale 16 rfl) rfl ?_
      refine zg_if_eq (tgt := 48) (zd_t dmM_scale 17 rfl) (by decide) (fun _ => ?_) (fun hq => absurd (by decide) hq)
      refine zg_iconst (v := (nI 0)) (zd_t dmM_scale 23 rfl) (by decide) ?_
      refine zg_iconst (v := (nI 0)) (zd_t dmM_scale 24 rfl) (by decide) ?_
      refine zg_callV (zd_t dmM_scale 25 rfl) zl_M_72 zm_mM_refuse zi_mM_refuse zse_mM_refuse zs_m0 zs_cl3 rfl (av := _) (rest := _) (by rfl) (by rfl) (by exact Nat.le_of_ble_eq_true rfl) (zm_refuse true false false) ?_
      rw [show zs_rc true false false = 1 from rfl]
      refine zg_if_ne (tgt := 65) (zd_t dmM_scale 26 rfl) (by decide) (fun _ => ?_) (fun hq => absurd hq (by decide))
      exact zg_vret (zd_t dmM_scale 33 rfl) rfl rfl
  · skip
    refine zg_iload_n (zd_t dmM_scale 0 rfl) rfl ?_
    refine zg_callS (zd_t dmM_scale 1 rfl) zl_M_68 zm_mM_isRegister zst_mM_isRegister (av := _) (rest := _) (by rfl) (by rfl) (by exact Nat.le_of_ble_eq_true rfl) (zm_isRegister x) ?_
    rw [decide_eq_false h0]
    refine zg_if_eq (tgt := 18) (zd_t dmM_scale 2 rfl) (by decide) (fun _ => ?_) (fun hq => absurd (by decide) hq)
    refine zg_iconst (v := (nI 0)) (zd_t dmM_scale 8 rfl) (by decide) ?_
    refine zg_istore (zd_t dmM_scale 9 rfl) (by decide) rfl ?_
    refine zg_aload_n (zd_t dmM_scale 10 rfl) rfl ?_
    refine zg_iload (zd_t dmM_scale 11 rfl) rfl ?_
    refine zg_if_ne (tgt := 31) (zd_t dmM_scale 12 rfl) (by decide) (fun hq => absurd (by decide) hq) (fun _ => ?_)
    refine zg_iconst (v := (nI 1)) (zd_t dmM_scale 13 rfl) (by decide) ?_
    refine zg_goto (tgt := 32) (zd_t dmM_scale 14 rfl) (by decide) ?_
    refine zg_iload (zd_t dmM_scale 16 rfl) rfl ?_
    refine zg_if_eq (tgt := 48) (zd_t dmM_scale 17 rfl) (by decide) (fun _ => ?_) (fun hq => absurd (by decide) hq)
    refine zg_iconst (v := (nI 0)) (zd_t dmM_scale 23 rfl) (by decide) ?_
    refine zg_iconst (v := (nI 0)) (zd_t dmM_scale 24 rfl) (by decide) ?_
    refine zg_callV (zd_t dmM_scale 25 rfl) zl_M_72 zm_mM_refuse zi_mM_refuse zse_mM_refuse zs_m0 zs_cl3 rfl (av := _) (rest := _) (by rfl) (by rfl) (by exact Nat.le_of_ble_eq_true rfl) (zm_refuse true false false) ?_
    rw [show zs_rc true false false = 1 from rfl]
    refine zg_if_ne (tgt := 65) (zd_t dmM_scale 26 rfl) (by decide) (fun _ => ?_) (fun hq => absurd hq (by decide))
    exact zg_vret (zd_t dmM_scale 33 rfl) rfl rfl
theorem zm_scaleY {c z : Int32} (he : e < 16) (ha : a < 16) (hm : ¬ mz_sm c) : zg_C l (zs_E P) (d + 4) mM_scale [.ref (zp_B P + 67), .int (nI e), .int (nI a), .int c, .int z] (zs_σ P S th (zs_b T) o w) (.inl (none), zs_σ P S (nI 2) (zs_b (T)) o w) := by
  refine zg_C_of (by decide +kernel) (Nat.le_of_ble_eq_true rfl) ?_
  refine zg_iload_n (zd_t dmM_scale 0 rfl) rfl ?_
  refine zg_callS (zd_t dmM_scale 1 rfl) zl_M_68 zm_mM_isRegister zst_mM_isRegister (av := _) (rest := _) (by rfl) (by rfl) (by exact Nat.le_of_ble_eq_true rfl) (zm_isRegister (nI e)) ?_
  rw [decide_eq_true (zs_rg he)]
  refine zg_if_eq (tgt := 18) (zd_t dmM_scale 2 rfl) (by decide) (fun hq => absurd hq (by decide)) (fun _ => ?_)
  refine zg_iload_n (zd_t dmM_scale 3 rfl) rfl ?_
  refine zg_callS (zd_t dmM_scale 4 rfl) zl_M_68 zm_mM_isRegister zst_mM_isRegister (av := _) (rest := _) (by rfl) (by rfl) (by exact Nat.le_of_ble_eq_true rfl) (zm_isRegister (nI a)) ?_
  rw [decide_eq_true (zs_rg ha)]
  refine zg_if_eq (tgt := 18) (zd_t dmM_scale 5 rfl) (by decide) (fun hq => absurd hq (by decide)) (fun _ => ?_)
  refine zg_iconst (v := (nI 1)) (zd_t dmM_scale 6 rfl) (by decide) ?_
  refine zg_goto (tgt := 19) (zd_t dmM_scale 7 rfl) (by decide) ?_
  refine zg_istore (zd_t dmM_scale 9 rfl) (by decide) rfl ?_
  refine zg_aload_n (zd_t dmM_scale 10 rfl) rfl ?_
  refine zg_iload (zd_t dmM_scale 11 rfl) rfl ?_
  refine zg_if_ne (tgt := 31) (zd_t dmM_scale 12 rfl) (by decide) (fun _ => ?_) (fun hq => absurd hq (by decide))
  refine zg_iconst (v := (nI 0)) (zd_t dmM_scale 15 rfl) (by decide) ?_
  refine zg_iload (zd_t dmM_scale 16 rfl) rfl ?_
  refine zg_if_eq (tgt := 48) (zd_t dmM_scale 17 rfl) (by decide) (fun hq => absurd hq (by decide)) (fun _ => ?_)
  refine zg_iload_n (zd_t dmM_scale 18 rfl) rfl ?_
  refine zg_callS (zd_t dmM_scale 19 rfl) zl_M_115 zm_mM_isModuli zst_mM_isModuli (av := _) (rest := _) (by rfl) (by rfl) (by exact Nat.le_of_ble_eq_true rfl) (zm_isModuli c) ?_
  rw [decide_eq_false hm]
  refine zg_if_ne (tgt := 48) (zd_t dmM_scale 20 rfl) (by decide) (fun hq => absurd (by decide) hq) (fun _ => ?_)
  refine zg_iconst (v := (nI 1)) (zd_t dmM_scale 21 rfl) (by decide) ?_
  refine zg_goto (tgt := 49) (zd_t dmM_scale 22 rfl) (by decide) ?_
  refine zg_iconst (v := (nI 0)) (zd_t dmM_scale 24 rfl) (by decide) ?_
  refine zg_callV (zd_t dmM_scale 25 rfl) zl_M_72 zm_mM_refuse zi_mM_refuse zse_mM_refuse zs_m0 zs_cl3 rfl (av := _) (rest := _) (by rfl) (by rfl) (by exact Nat.le_of_ble_eq_true rfl) (zm_refuse false true false) ?_
  rw [show zs_rc false true false = 2 from rfl]
  refine zg_if_ne (tgt := 65) (zd_t dmM_scale 26 rfl) (by decide) (fun _ => ?_) (fun hq => absurd hq (by decide))
  exact zg_vret (zd_t dmM_scale 33 rfl) rfl rfl
theorem zm_divide {q r : Nat} (hq : q < 16) (hr : r < 16) (ha : a < 16) (hb : b < 16) (hI : zs_inv T) (hz : mz_val (zs_re T b) ≠ 0) : zg_C l (zs_E P) (d + 4) mM_divide [.ref (zp_B P + 67), .int (nI q), .int (nI r), .int (nI a), .int (nI b)] (zs_σ P S th (zs_b T) o w) (.inl (none), zs_σ P S (nI 0) (zs_b (zs_sdv T q r a b)) o w) := by
  refine zg_C_of (by decide +kernel) (Nat.le_of_ble_eq_true rfl) ?_
  have v1 := mz_val_hr (zs_re T a)
  have v2 := mz_val_hr (zs_re T b)
  have h0 : mz_in 0 := by unfold mz_in; omega
  have hc : ¬ (if 0 < mz_val (zs_re T b) then (1 : Int32) else if mz_val (zs_re T b) = 0 then 0 else -1) = 0 := by
    split
    · decide
    · decide
  have hy0 : ¬ mz_L (mz_val (zs_re T b)) = 0 := fun h => by
    have : mz_L (mz_val (zs_re T b)) = mz_L 0 := h
    rw [mz_eq v2.i h0] at this
    exact hz this
  have hd := mz_td_hr (mz_val (zs_re T b)) v1
  unfold zs_sdv
  refine zg_iload_n (zd_t dmM_divide 0 rfl) rfl ?_
  refine zg_callS (zd_t dmM_divide 1 rfl) zl_M_68 zm_mM_isRegister zst_mM_isRegister (av := _) (rest := _) (by rfl) (by rfl) (by exact Nat.le_of_ble_eq_true rfl) (zm_isRegister (nI q)) ?_
  rw [decide_eq_true (zs_rg hq)]
  refine zg_if_eq (tgt := 33) (zd_t dmM_divide 2 rfl) (by decide) (fun hq => absurd hq (by decide)) (fun _ => ?_)
  refine zg_iload_n (zd_t dmM_divide 3 rfl) rfl ?_
  refine zg_callS (zd_t dmM_divide 4 rfl) zl_M_68 zm_mM_isRegister zst_mM_isRegister (av := _) (rest := _) (by rfl) (by rfl) (by exact Nat.le_of_ble_eq_true rfl) (zm_isRegister (nI r)) ?_
  rw [decide_eq_true (zs_rg hr)]
  refine zg_if_eq (tgt := 33) (zd_t dmM_divide 5 rfl) (by decide) (fun hq => absurd hq (by decide)) (fun _ => ?_)
  refine zg_iload_n (zd_t dmM_divide 6 rfl) rfl ?_
  refine zg_callS (zd_t dmM_divide 7 rfl) zl_M_68 zm_mM_isRegister zst_mM_isRegister (av := _) (rest := _) (by rfl) (by rfl) (by exact Nat.le_of_ble_eq_true rfl) (zm_isRegister (nI a)) ?_
  rw [decide_eq_true (zs_rg ha)]
  refine zg_if_eq (tgt := 33) (zd_t dmM_divide 8 rfl) (by decide) (fun hq => absurd hq (by decide)) (fun _ => ?_)
  refine zg_iload (zd_t dmM_divide 9 rfl) rfl ?_
  refine zg_callS (zd_t dmM_divide 10 rfl) zl_M_68 zm_mM_isRegister zst_mM_isRegister (av := _) (rest := _) (by rfl) (by rfl) (by exact Nat.le_of_ble_eq_true rfl) (zm_isRegister (nI b)) ?_
  rw [decide_eq_true (zs_rg hb)]
  refine zg_if_eq (tgt := 33) (zd_t dmM_divide 11 rfl) (by decide) (fun hq => absurd hq (by decide)) (fun _ => ?_)
  refine zg_iconst (v := (nI 1)) (zd_t dmM_divide 12 rfl) (by decide) ?_
  refine zg_goto (tgt := 34) (zd_t dmM_divide 13 rfl) (by decide) ?_
  refine zg_istore (zd_t dmM_divide 15 rfl) (by decide) rfl ?_
  refine zg_aload_n (zd_t dmM_divide 16 rfl) rfl ?_
  refine zg_iload (zd_t dmM_divide 17 rfl) rfl ?_
  refine zg_if_ne (tgt := 46) (zd_t dmM_divide 18 rfl) (by decide) (fun _ => ?_) (fun hq => absurd hq (by decide))
  refine zg_iconst (v := (nI 0)) (zd_t dmM_divide 21 rfl) (by decide) ?_
  refine zg_iload (zd_t dmM_divide 22 rfl) rfl ?_
  refine zg_if_eq (tgt := 67) (zd_t dmM_divide 23 rfl) (by decide) (fun hq => absurd hq (by decide)) (fun _ => ?_)
  refine zg_aload_n (zd_t dmM_divide 24 rfl) rfl ?_
  refine zg_iload (zd_t dmM_divide 25 rfl) rfl ?_
  refine zg_callV (zd_t dmM_divide 26 rfl) zl_M_60 zm_mM_valueOf zi_mM_valueOf zse_mM_valueOf zs_m0 zs_cl3 rfl (av := _) (rest := _) (by rfl) (by rfl) (by exact Nat.le_of_ble_eq_true rfl) (zm_valueOf hb (hI.1 b hb)) ?_
  refine zg_lconst (v := mz_L 0) (zd_t dmM_divide 27 rfl) (by decide) ?_
  refine zg_lcmp (zd_t dmM_divide 28 rfl) ?_
  rw [mz_cmp v2.i h0]
  refine zg_if_ne (tgt := 67) (zd_t dmM_divide 29 rfl) (by decide) (fun _ => ?_) (fun hq => absurd hq hc)
  refine zg_iconst (v := (nI 0)) (zd_t dmM_divide 32 rfl) (by decide) ?_
  refine zg_iconst (v := (nI 0)) (zd_t dmM_divide 33 rfl) (by decide) ?_
  refine zg_callV (zd_t dmM_divide 34 rfl) zl_M_72 zm_mM_refuse zi_mM_refuse zse_mM_refuse zs_m0 zs_cl3 rfl (av := _) (rest := _) (by rfl) (by rfl) (by exact Nat.le_of_ble_eq_true rfl) (zm_refuse false false false) ?_
  rw [show zs_rc false false false = 0 from rfl]
  refine zg_if_eq (tgt := 76) (zd_t dmM_divide 35 rfl) (by decide) (fun _ => ?_) (fun hq => absurd (by decide) hq)
  refine zg_aload_n (zd_t dmM_divide 37 rfl) rfl ?_
  refine zg_iload_n (zd_t dmM_divide 38 rfl) rfl ?_
  refine zg_callV (zd_t dmM_divide 39 rfl) zl_M_60 zm_mM_valueOf zi_mM_valueOf zse_mM_valueOf zs_m0 zs_cl3 rfl (av := _) (rest := _) (by rfl) (by rfl) (by exact Nat.le_of_ble_eq_true rfl) (zm_valueOf ha (hI.1 a ha)) ?_
  refine zg_lstore (zd_t dmM_divide 40 rfl) (by decide) rfl ?_
  refine zg_aload_n (zd_t dmM_divide 41 rfl) rfl ?_
  refine zg_iload (zd_t dmM_divide 42 rfl) rfl ?_
  refine zg_callV (zd_t dmM_divide 43 rfl) zl_M_60 zm_mM_valueOf zi_mM_valueOf zse_mM_valueOf zs_m0 zs_cl3 rfl (av := _) (rest := _) (by rfl) (by rfl) (by exact Nat.le_of_ble_eq_true rfl) (zm_valueOf hb (hI.1 b hb)) ?_
  refine zg_lstore (zd_t dmM_divide 44 rfl) (by decide) rfl ?_
  refine zg_aload_n (zd_t dmM_divide 45 rfl) rfl ?_
  refine zg_iload_n (zd_t dmM_divide 46 rfl) rfl ?_
  refine zg_lload (zd_t dmM_divide 47 rfl) rfl ?_
  refine zg_lload (zd_t dmM_divide 48 rfl) rfl ?_
  refine zg_ldiv (zd_t dmM_divide 49 rfl) hy0 ?_
  rw [mz_div v1.i v2.i]
  refine zg_callV (zd_t dmM_divide 50 rfl) zl_M_76 zm_mM_put zi_mM_put zse_mM_put zs_m0 zs_cl3 rfl (av := _) (rest := _) (by rfl) (by rfl) (by exact Nat.le_of_ble_eq_true rfl) (zm_put hq hd.1.i) ?_
  refine zg_aload_n (zd_t dmM_divide 51 rfl) rfl ?_
  refine zg_iload_n (zd_t dmM_divide 52 rfl) rfl ?_
  refine zg_lload (zd_t dmM_divide 53 rfl) rfl ?_
  refine zg_lload (zd_t dmM_divide 54 rfl) rfl ?_
  refine zg_lrem (zd_t dmM_divide 55 rfl) hy0 ?_
  rw [mz_rem v1.i v2.i]
  refine zg_callV (zd_t dmM_divide 56 rfl) zl_M_76 zm_mM_put zi_mM_put zse_mM_put zs_m0 zs_cl3 rfl (av := _) (rest := _) (by rfl) (by rfl) (by exact Nat.le_of_ble_eq_true rfl) (zm_put hr hd.2.i) ?_
  exact zg_vret (zd_t dmM_divide 57 rfl) rfl rfl
theorem zm_divideX {x y z u : Int32} (h : ¬ (zs_ir x ∧ zs_ir y ∧ zs_ir z ∧ zs_ir u)) : zg_C l (zs_E P) (d + 4) mM_divide [.ref (zp_B P + 67), .int x, .int y, .int z, .int u] (zs_σ P S th (zs_b T) o w) (.inl (none), zs_σ P S (nI 1) (zs_b (T)) o w) := by
  refine zg_C_of (by decide +kernel) (Nat.le_of_ble_eq_true rfl) ?_
  by_cases h0 : zs_ir x
  · skip
    by_cases h1 : zs_ir y
    · skip
      by_cases h2 : zs_ir z
      · skip
        by_cases h3 : zs_ir u
        · skip
          exact absurd ⟨h0, h1, h2, h3⟩ h
        · skip
          refine zg_iload_n (zd_t dmM_divide 0 rfl) rfl ?_
          refine zg_callS (zd_t dmM_divide 1 rfl) zl_M_68 zm_mM_isRegister zst_mM_isRegister (av := _) (rest := _) (by rfl) (by rfl) (by exact Nat.le_of_ble_eq_true rfl) (zm_isRegister x) ?_
          rw [decide_eq_true h0]
          refine zg_if_eq (tgt := 33) (zd_t dmM_divide 2 rfl) (by decide) (fun hq => absurd hq (by decide)) (fun _ => ?_)
          refine zg_iload_n (zd_t dmM_divide 3 rfl) rfl ?_
          refine zg_callS (zd_t dmM_divide 4 rfl) zl_M_68 zm_mM_isRegister zst_mM_isRegister (av := _) (rest := _) (by rfl) (by rfl) (by exact Nat.le_of_ble_eq_true rfl) (zm_isRegister y) ?_
          rw [decide_eq_true h1]
          refine zg_if_eq (tgt := 33) (zd_t dmM_divide 5 rfl) (by decide) (fun hq => absurd hq (by decide)) (fun _ => ?_)
          refine zg_iload_n (zd_t dmM_divide 6 rfl) rfl ?_
          refine zg_callS (zd_t dmM_divide 7 rfl) zl_M_68 zm_mM_isRegister zst_mM_isRegister (av := _) (rest := _) (by rfl) (by rfl) (by exact Nat.le_of_ble_eq_true rfl) (zm_isRegister z) ?_
          rw [decide_eq_true h2]
          refine zg_if_eq (tgt := 33) (zd_t dmM_divide 8 rfl) (by decide) (fun hq => absurd hq (by decide)) (fun _ => ?_)
          refine zg_iload (zd_t dmM_divide 9 rfl) rfl ?_
          refine zg_callS (zd_t dmM_divide 10 rfl) zl_M_68 zm_mM_isRegister zst_mM_isRegister (av := _) (rest := _) (by rfl) (by rfl) (by exact Nat.le_of_ble_eq_true rfl) (zm_isRegister u) ?_
          rw [decide_eq_false h3]
          refine zg_if_eq (tgt := 33) (zd_t dmM_divide 11 rfl) (by decide) (fun _ => ?_) (fun hq => absurd (by decide) hq)
          refine zg_iconst (v := (nI 0)) (zd_t dmM_divide 14 rfl) (by decide) ?_
          refine zg_istore (zd_t dmM_divide 15 rfl) (by decide) rfl ?_
          refine zg_aload_n (zd_t dmM_divide 16 rfl) rfl ?_
          refine zg_iload (zd_t dmM_divide 17 rfl) rfl ?_
          refine zg_if_ne (tgt := 46) (zd_t dmM_divide 18 rfl) (by decide) (fun hq => absurd (by decide) hq) (fun _ => ?_)
          refine zg_iconst (v := (nI 1)) (zd_t dmM_divide 19 rfl) (by decide) ?_
          refine zg_goto (tgt := 47) (zd_t dmM_divide 20 rfl) (by decide) ?_
          refine zg_iload (zd_t dmM_divide 22 rfl) rfl ?_
          refine zg_if_eq (tgt := 67) (zd_t dmM_divide 23 rfl) (by decide) (fun _ => ?_) (fun hq => absurd (by decide) hq)
          refine zg_iconst (v := (nI 0)) (zd_t dmM_divide 32 rfl) (by decide) ?_
          refine zg_iconst (v := (nI 0)) (zd_t dmM_divide 33 rfl) (by decide) ?_
          refine zg_callV (zd_t dmM_divide 34 rfl) zl_M_72 zm_mM_refuse zi_mM_refuse zse_mM_refuse zs_m0 zs_cl3 rfl (av := _) (rest := _) (by rfl) (by rfl) (by exact Nat.le_of_ble_eq_true rfl) (zm_refuse true false false) ?_
          rw [show zs_rc true false false = 1 from rfl]
          refine zg_if_eq (tgt := 76) (zd_t dmM_divide 35 rfl) (by decide) (fun hq => absurd hq (by decide)) (fun _ => ?_)
          exact zg_vret (zd_t dmM_divide 36 rfl) rfl rfl
      · skip
        refine zg_iload_n (zd_t dmM_divide 0 rfl) rfl ?_
        refine zg_callS (zd_t dmM_divide 1 rfl) zl_M_68 zm_mM_isRegister zst_mM_isRegister (av := _) (rest := _) (by rfl) (by rfl) (by exact Nat.le_of_ble_eq_true rfl) (zm_isRegister x) ?_
        rw [decide_eq_true h0]
        refine zg_if_eq (tgt := 33) (zd_t dmM_divide 2 rfl) (by decide) (fun hq => absurd hq (by decide)) (fun _ => ?_)
        refine zg_iload_n (zd_t dmM_divide 3 rfl) rfl ?_
        refine zg_callS (zd_t dmM_divide 4 rfl) zl_M_68 zm_mM_isRegister zst_mM_isRegister (av := _) (rest := _) (by rfl) (by rfl) (by exact Nat.le_of_ble_eq_true rfl) (zm_isRegister y) ?_
        rw [decide_eq_true h1]
        refine zg_if_eq (tgt := 33) (zd_t dmM_divide 5 rfl) (by decide) (fun hq => absurd hq (by decide)) (fun _ => ?_)
        refine zg_iload_n (zd_t dmM_divide 6 rfl) rfl ?_
        refine zg_callS (zd_t dmM_divide 7 rfl) zl_M_68 zm_mM_isRegister zst_mM_isRegister (av := _) (rest := _) (by rfl) (by rfl) (by exact Nat.le_of_ble_eq_true rfl) (zm_isRegister z) ?_
        rw [decide_eq_false h2]
        refine zg_if_eq (tgt := 33) (zd_t dmM_divide 8 rfl) (by decide) (fun _ => ?_) (fun hq => absurd (by decide) hq)
        refine zg_iconst (v := (nI 0)) (zd_t dmM_divide 14 rfl) (by decide) ?_
        refine zg_istore (zd_t dmM_divide 15 rfl) (by decide) rfl ?_
        refine zg_aload_n (zd_t dmM_divide 16 rfl) rfl ?_
        refine zg_iload (zd_t dmM_divide 17 rfl) rfl ?_
        refine zg_if_ne (tgt := 46) (zd_t dmM_divide 18 rfl) (by decide) (fun hq => absurd (by decide) hq) (fun _ => ?_)
        refine zg_iconst (v := (nI 1)) (zd_t dmM_divide 19 rfl) (by decide) ?_
        refine zg_goto (tgt := 47) (zd_t dmM_divide 20 rfl) (by decide) ?_
        refine zg_iload (zd_t dmM_divide 22 rfl) rfl ?_
        refine zg_if_eq (tgt := 67) (zd_t dmM_divide 23 rfl) (by decide) (fun _ => ?_) (fun hq => absurd (by decide) hq)
        refine zg_iconst (v := (nI 0)) (zd_t dmM_divide 32 rfl) (by decide) ?_
        refine zg_iconst (v := (nI 0)) (zd_t dmM_divide 33 rfl) (by decide) ?_
        refine zg_callV (zd_t dmM_divide 34 rfl) zl_M_72 zm_mM_refuse zi_mM_refuse zse_mM_refuse zs_m0 zs_cl3 rfl (av := _) (rest := _) (by rfl) (by rfl) (by exact Nat.le_of_ble_eq_true rfl) (zm_refuse true false false) ?_
        rw [show zs_rc true false false = 1 from rfl]
        refine zg_if_eq (tgt := 76) (zd_t dmM_divide 35 rfl) (by decide) (fun hq => absurd hq (by decide)) (fun _ => ?_)
        exact zg_vret (zd_t dmM_divide 36 rfl) rfl rfl
    · skip
      refine zg_iload_n (zd_t dmM_divide 0 rfl) rfl ?_
      refine zg_callS (zd_t dmM_divide 1 rfl) zl_M_68 zm_mM_isRegister zst_mM_isRegister (av := _) (rest := _) (by rfl) (by rfl) (by exact Nat.le_of_ble_eq_true rfl) (zm_isRegister x) ?_
      rw [decide_eq_true h0]
      refine zg_if_eq (tgt := 33) (zd_t dmM_divide 2 rfl) (by decide) (fun hq => absurd hq (by decide)) (fun _ => ?_)
      refine zg_iload_n (zd_t dmM_divide 3 rfl) rfl ?_
      refine zg_callS (zd_t dmM_divide 4 rfl) zl_M_68 zm_mM_isRegister zst_mM_isRegister (av := _) (rest := _) (by rfl) (by rfl) (by exact Nat.le_of_ble_eq_true rfl) (zm_isRegister y) ?_
      rw [decide_eq_false h1]
      refine zg_if_eq (tgt := 33) (zd_t dmM_divide 5 rfl) (by decide) (fun _ => ?_) (fun hq => absurd (by decide) hq)
      refine zg_iconst (v := (nI 0)) (zd_t dmM_divide 14 rfl) (by decide) ?_
      refine zg_istore (zd_t dmM_divide 15 rfl) (by decide) rfl ?_
      refine zg_aload_n (zd_t dmM_divide 16 rfl) rfl ?_
      refine zg_iload (zd_t dmM_divide 17 rfl) rfl ?_
      refine zg_if_ne (tgt := 46) (zd_t dmM_divide 18 rfl) (by decide) (fun hq => absurd (by decide) hq) (fun _ => ?_)
      refine zg_iconst (v := (nI 1)) (zd_t dmM_divide 19 rfl) (by decide) ?_
      refine zg_goto (tgt := 47) (zd_t dmM_divide 20 rfl) (by decide) ?_
      refine zg_iload (zd_t dmM_divide 22 rfl) rfl ?_
      refine zg_if_eq (tgt := 67) (zd_t dmM_divide 23 rfl) (by decide) (fun _ => ?_) (fun hq => absurd (by decide) hq)
      refine zg_iconst (v := (nI 0)) (zd_t dmM_divide 32 rfl) (by decide) ?_
      refine zg_iconst (v := (nI 0)) (zd_t dmM_divide 33 rfl) (by decide) ?_
      refine zg_callV (zd_t dmM_divide 34 rfl) zl_M_72 zm_mM_refuse zi_mM_refuse zse_mM_refuse zs_m0 zs_cl3 rfl (av := _) (rest := _) (by rfl) (by rfl) (by exact Nat.le_of_ble_eq_true rfl) (zm_refuse true false false) ?_
      rw [show zs_rc true false false = 1 from rfl]
      refine zg_if_eq (tgt := 76) (zd_t dmM_divide 35 rfl) (by decide) (fun hq => absurd hq (by decide)) (fun _ => ?_)
      exact zg_vret (zd_t dmM_divide 36 rfl) rfl rfl
  · skip
    refine zg_iload_n (zd_t dmM_divide 0 rfl) rfl ?_
    refine zg_callS (zd_t dmM_divide 1 rfl) zl_M_68 zm_mM_isRegister zst_mM_isRegister (av := _) (rest := _) (by rfl) (by rfl) (by exact Nat.le_of_ble_eq_true rfl) (zm_isRegister x) ?_
    rw [decide_eq_false h0]
    refine zg_if_eq (tgt := 33) (zd_t dmM_divide 2 rfl) (by decide) (fun _ => ?_) (fun hq => absurd (by decide) hq)
    refine zg_iconst (v := (nI 0)) (zd_t dmM_divide 14 rfl) (by decide) ?_
    refine zg_istore (zd_t dmM_divide 15 rfl) (by decide) rfl ?_
    refine zg_aload_n (zd_t dmM_divide 16 rfl) rfl ?_
    refine zg_iload (zd_t dmM_divide 17 rfl) rfl ?_
    refine zg_if_ne (tgt := 46) (zd_t dmM_divide 18 rfl) (by decide) (fun hq => absurd (by decide) hq) (fun _ => ?_)
    refine zg_iconst (v := (nI 1)) (zd_t dmM_divide 19 rfl) (by decide) ?_
    refine zg_goto (tgt := 47) (zd_t dmM_divide 20 rfl) (by decide) ?_
    refine zg_iload (zd_t dmM_divide 22 rfl) rfl ?_
    refine zg_if_eq (tgt := 67) (zd_t dmM_divide 23 rfl) (by decide) (fun _ => ?_) (fun hq => absurd (by decide) hq)
    refine zg_iconst (v := (nI 0)) (zd_t dmM_divide 32 rfl) (by decide) ?_
    refine zg_iconst (v := (nI 0)) (zd_t dmM_divide 33 rfl) (by decide) ?_
    refine zg_callV (zd_t dmM_divide 34 rfl) zl_M_72 zm_mM_refuse zi_mM_refuse zse_mM_refuse zs_m0 zs_cl3 rfl (av := _) (rest := _) (by rfl) (by rfl) (by exact Nat.le_of_ble_eq_true rfl) (zm_refuse true false false) ?_
    rw [show zs_rc true false false = 1 from rfl]
    refine zg_if_eq (tgt := 76) (zd_t dmM_divide 35 rfl) (by decide) (fun hq => absurd hq (by decide)) (fun _ => ?_)
    exact zg_vret (zd_t dmM_divide 36 rfl) rfl rfl
theorem zm_divideY {q r : Nat} (hq : q < 16) (hr : r < 16) (ha : a < 16) (hb : b < 16) (hI : zs_inv T) (hz : mz_val (zs_re T b) = 0) : zg_C l (zs_E P) (d + 4) mM_divide [.ref (zp_B P + 67), .int (nI q), .int (nI r), .int (nI a), .int (nI b)] (zs_σ P S th (zs_b T) o w) (.inl (none), zs_σ P S (nI 2) (zs_b (T)) o w) := by
  refine zg_C_of (by decide +kernel) (Nat.le_of_ble_eq_true rfl) ?_
  have v1 := mz_val_hr (zs_re T a)
  have v2 := mz_val_hr (zs_re T b)
  have h0 : mz_in 0 := by unfold mz_in; omega
  have hc : (if 0 < mz_val (zs_re T b) then (1 : Int32) else if mz_val (zs_re T b) = 0 then 0 else -1) = 0 := by
    rw [if_neg (by omega), if_pos hz]
  refine zg_iload_n (zd_t dmM_divide 0 rfl) rfl ?_
  refine zg_callS (zd_t dmM_divide 1 rfl) zl_M_68 zm_mM_isRegister zst_mM_isRegister (av := _) (rest := _) (by rfl) (by rfl) (by exact Nat.le_of_ble_eq_true rfl) (zm_isRegister (nI q)) ?_
  rw [decide_eq_true (zs_rg hq)]
  refine zg_if_eq (tgt := 33) (zd_t dmM_divide 2 rfl) (by decide) (fun hq => absurd hq (by decide)) (fun _ => ?_)
  refine zg_iload_n (zd_t dmM_divide 3 rfl) rfl ?_
  refine zg_callS (zd_t dmM_divide 4 rfl) zl_M_68 zm_mM_isRegister zst_mM_isRegister (av := _) (rest := _) (by rfl) (by rfl) (by exact Nat.le_of_ble_eq_true rfl) (zm_isRegister (nI r)) ?_
  rw [decide_eq_true (zs_rg hr)]
  refine zg_if_eq (tgt := 33) (zd_t dmM_divide 5 rfl) (by decide) (fun hq => absurd hq (by decide)) (fun _ => ?_)
  refine zg_iload_n (zd_t dmM_divide 6 rfl) rfl ?_
  refine zg_callS (zd_t dmM_divide 7 rfl) zl_M_68 zm_mM_isRegister zst_mM_isRegister (av := _) (rest := _) (by rfl) (by rfl) (by exact Nat.le_of_ble_eq_true rfl) (zm_isRegister (nI a)) ?_
  rw [decide_eq_true (zs_rg ha)]
  refine zg_if_eq (tgt := 33) (zd_t dmM_divide 8 rfl) (by decide) (fun hq => absurd hq (by decide)) (fun _ => ?_)
  refine zg_iload (zd_t dmM_divide 9 rfl) rfl ?_
  refine zg_callS (zd_t dmM_divide 10 rfl) zl_M_68 zm_mM_isRegister zst_mM_isRegister (av := _) (rest := _) (by rfl) (by rfl) (by exact Nat.le_of_ble_eq_true rfl) (zm_isRegister (nI b)) ?_
  rw [decide_eq_true (zs_rg hb)]
  refine zg_if_eq (tgt := 33) (zd_t dmM_divide 11 rfl) (by decide) (fun hq => absurd hq (by decide)) (fun _ => ?_)
  refine zg_iconst (v := (nI 1)) (zd_t dmM_divide 12 rfl) (by decide) ?_
  refine zg_goto (tgt := 34) (zd_t dmM_divide 13 rfl) (by decide) ?_
  refine zg_istore (zd_t dmM_divide 15 rfl) (by decide) rfl ?_
  refine zg_aload_n (zd_t dmM_divide 16 rfl) rfl ?_
  refine zg_iload (zd_t dmM_divide 17 rfl) rfl ?_
  refine zg_if_ne (tgt := 46) (zd_t dmM_divide 18 rfl) (by decide) (fun _ => ?_) (fun hq => absurd hq (by decide))
  refine zg_iconst (v := (nI 0)) (zd_t dmM_divide 21 rfl) (by decide) ?_
  refine zg_iload (zd_t dmM_divide 22 rfl) rfl ?_
  refine zg_if_eq (tgt := 67) (zd_t dmM_divide 23 rfl) (by decide) (fun hq => absurd hq (by decide)) (fun _ => ?_)
  refine zg_aload_n (zd_t dmM_divide 24 rfl) rfl ?_
  refine zg_iload (zd_t dmM_divide 25 rfl) rfl ?_
  refine zg_callV (zd_t dmM_divide 26 rfl) zl_M_60 zm_mM_valueOf zi_mM_valueOf zse_mM_valueOf zs_m0 zs_cl3 rfl (av := _) (rest := _) (by rfl) (by rfl) (by exact Nat.le_of_ble_eq_true rfl) (zm_valueOf hb (hI.1 b hb)) ?_
  refine zg_lconst (v := mz_L 0) (zd_t dmM_divide 27 rfl) (by decide) ?_
  refine zg_lcmp (zd_t dmM_divide 28 rfl) ?_
  rw [mz_cmp v2.i h0]
  refine zg_if_ne (tgt := 67) (zd_t dmM_divide 29 rfl) (by decide) (fun hq => absurd hc hq) (fun _ => ?_)
  refine zg_iconst (v := (nI 1)) (zd_t dmM_divide 30 rfl) (by decide) ?_
  refine zg_goto (tgt := 68) (zd_t dmM_divide 31 rfl) (by decide) ?_
  refine zg_iconst (v := (nI 0)) (zd_t dmM_divide 33 rfl) (by decide) ?_
  refine zg_callV (zd_t dmM_divide 34 rfl) zl_M_72 zm_mM_refuse zi_mM_refuse zse_mM_refuse zs_m0 zs_cl3 rfl (av := _) (rest := _) (by rfl) (by rfl) (by exact Nat.le_of_ble_eq_true rfl) (zm_refuse false true false) ?_
  rw [show zs_rc false true false = 2 from rfl]
  refine zg_if_eq (tgt := 76) (zd_t dmM_divide 35 rfl) (by decide) (fun hq => absurd hq (by decide)) (fun _ => ?_)
  exact zg_vret (zd_t dmM_divide 36 rfl) rfl rfl
theorem zm_channel (hi : i < 16) (hk : k < 8) : zg_C l (zs_E P) (d + 4) mM_channel [.ref (zp_B P + 67), .int (nI i), .int (nI (k + 1))] (zs_σ P S th (zs_b T) o w) (.inl (some (.int (nI (zs_re T i k)))), zs_σ P S (nI 0) (zs_b (T)) o w) := by
  refine zg_C_of (by decide +kernel) (Nat.le_of_ble_eq_true rfl) ?_
  refine zg_aload_n (zd_t dmM_channel 0 rfl) rfl ?_
  refine zg_iload_n (zd_t dmM_channel 1 rfl) rfl ?_
  refine zg_callS (zd_t dmM_channel 2 rfl) zl_M_68 zm_mM_isRegister zst_mM_isRegister (av := _) (rest := _) (by rfl) (by rfl) (by exact Nat.le_of_ble_eq_true rfl) (zm_isRegister (nI i)) ?_
  rw [decide_eq_true (zs_rg hi)]
  refine zg_if_eq (tgt := 20) (zd_t dmM_channel 3 rfl) (by decide) (fun hq => absurd hq (by decide)) (fun _ => ?_)
  refine zg_iload_n (zd_t dmM_channel 4 rfl) rfl ?_
  refine zg_i2l (zd_t dmM_channel 5 rfl) rfl ?_
  refine zg_lconst (v := mz_L 1) (zd_t dmM_channel 6 rfl) (by decide) ?_
  refine zg_ldc2 (zd_t dmM_channel 7 rfl) zc_M_122 ?_
  rw [zs_i2l]
  refine zg_callS (zd_t dmM_channel 8 rfl) zl_M_48 zm_mM_in zst_mM_in (av := _) (rest := _) (by rfl) (by rfl) (by exact Nat.le_of_ble_eq_true rfl) (zm_in (x := (nI (k + 1)).toInt) (y := 1) (z := 8) (zs_wi32 _) (by unfold mz_wi; omega) (by unfold mz_wi; omega)) ?_
  rw [decide_eq_true (zs_chg hk)]
  refine zg_if_ne (tgt := 24) (zd_t dmM_channel 9 rfl) (by decide) (fun _ => ?_) (fun hq => absurd hq (by decide))
  refine zg_iconst (v := (nI 0)) (zd_t dmM_channel 12 rfl) (by decide) ?_
  refine zg_iconst (v := (nI 0)) (zd_t dmM_channel 13 rfl) (by decide) ?_
  refine zg_iconst (v := (nI 0)) (zd_t dmM_channel 14 rfl) (by decide) ?_
  refine zg_callV (zd_t dmM_channel 15 rfl) zl_M_72 zm_mM_refuse zi_mM_refuse zse_mM_refuse zs_m0 zs_cl3 rfl (av := _) (rest := _) (by rfl) (by rfl) (by exact Nat.le_of_ble_eq_true rfl) (zm_refuse false false false) ?_
  rw [show zs_rc false false false = 0 from rfl]
  refine zg_if_eq (tgt := 37) (zd_t dmM_channel 16 rfl) (by decide) (fun _ => ?_) (fun hq => absurd (by decide) hq)
  refine zg_aload_n (zd_t dmM_channel 19 rfl) rfl ?_
  refine zg_getf (zd_t dmM_channel 20 rfl) zf_M_13 zs_m0 rfl ?_
  refine zg_bipush (v := (nI 8)) (zd_t dmM_channel 21 rfl) (by decide) ?_
  refine zg_iload_n (zd_t dmM_channel 22 rfl) rfl ?_
  refine zg_imul (zd_t dmM_channel 23 rfl) ?_
  refine zg_iload_n (zd_t dmM_channel 24 rfl) rfl ?_
  refine zg_iadd (zd_t dmM_channel 25 rfl) ?_
  refine zg_iconst (v := (nI 1)) (zd_t dmM_channel 26 rfl) (by decide) ?_
  refine zg_isub (zd_t dmM_channel 27 rfl) ?_
  refine zg_iald (k := 8 * i + k) (t0 := 0) (zd_t dmM_channel 28 rfl) zs_m2 rfl (by rw [zs_ix8, show 8 * i + (k + 1) = 8 * i + k + 1 by omega]; exact nI_pred _) (by omega) (by decide) ?_
  rw [(zs_q8 hk).1, (zs_q8 hk).2]
  exact zg_iret (zd_t dmM_channel 29 rfl) rfl rfl
theorem zm_channelX {x y : Int32} (h : ¬ (zs_ir x ∧ zs_ch y)) : zg_C l (zs_E P) (d + 4) mM_channel [.ref (zp_B P + 67), .int x, .int y] (zs_σ P S th (zs_b T) o w) (.inl (some (.int (nI 0))), zs_σ P S (nI 1) (zs_b (T)) o w) := by
  refine zg_C_of (by decide +kernel) (Nat.le_of_ble_eq_true rfl) ?_
  by_cases h0 : zs_ir x
  · have h1 : ¬ zs_ch y := fun h1 => h ⟨h0, h1⟩
    refine zg_aload_n (zd_t dmM_channel 0 rfl) rfl ?_
    refine zg_iload_n (zd_t dmM_channel 1 rfl) rfl ?_
    refine zg_callS (zd_t dmM_channel 2 rfl) zl_M_68 zm_mM_isRegister zst_mM_isRegister (av := _) (rest := _) (by rfl) (by rfl) (by exact Nat.le_of_ble_eq_true rfl) (zm_isRegister x) ?_
    rw [decide_eq_true h0]
    refine zg_if_eq (tgt := 20) (zd_t dmM_channel 3 rfl) (by decide) (fun hq => absurd hq (by decide)) (fun _ => ?_)
    refine zg_iload_n (zd_t dmM_channel 4 rfl) rfl ?_
    refine zg_i2l (zd_t dmM_channel 5 rfl) rfl ?_
    refine zg_lconst (v := mz_L 1) (zd_t dmM_channel 6 rfl) (by decide) ?_
    refine zg_ldc2 (zd_t dmM_channel 7 rfl) zc_M_122 ?_
    rw [zs_i2l]
    refine zg_callS (zd_t dmM_channel 8 rfl) zl_M_48 zm_mM_in zst_mM_in (av := _) (rest := _) (by rfl) (by rfl) (by exact Nat.le_of_ble_eq_true rfl) (zm_in (x := y.toInt) (y := 1) (z := 8) (zs_wi32 _) (by unfold mz_wi; omega) (by unfold mz_wi; omega)) ?_
    rw [decide_eq_false h1]
    refine zg_if_ne (tgt := 24) (zd_t dmM_channel 9 rfl) (by decide) (fun hq => absurd (by decide) hq) (fun _ => ?_)
    refine zg_iconst (v := (nI 1)) (zd_t dmM_channel 10 rfl) (by decide) ?_
    refine zg_goto (tgt := 25) (zd_t dmM_channel 11 rfl) (by decide) ?_
    refine zg_iconst (v := (nI 0)) (zd_t dmM_channel 13 rfl) (by decide) ?_
    refine zg_iconst (v := (nI 0)) (zd_t dmM_channel 14 rfl) (by decide) ?_
    refine zg_callV (zd_t dmM_channel 15 rfl) zl_M_72 zm_mM_refuse zi_mM_refuse zse_mM_refuse zs_m0 zs_cl3 rfl (av := _) (rest := _) (by rfl) (by rfl) (by exact Nat.le_of_ble_eq_true rfl) (zm_refuse true false false) ?_
    rw [show zs_rc true false false = 1 from rfl]
    refine zg_if_eq (tgt := 37) (zd_t dmM_channel 16 rfl) (by decide) (fun hq => absurd hq (by decide)) (fun _ => ?_)
    refine zg_iconst (v := (nI 0)) (zd_t dmM_channel 17 rfl) (by decide) ?_
    refine zg_goto (tgt := 50) (zd_t dmM_channel 18 rfl) (by decide) ?_
    exact zg_iret (zd_t dmM_channel 29 rfl) rfl rfl
  · skip
    refine zg_aload_n (zd_t dmM_channel 0 rfl) rfl ?_
    refine zg_iload_n (zd_t dmM_channel 1 rfl) rfl ?_
    refine zg_callS (zd_t dmM_channel 2 rfl) zl_M_68 zm_mM_isRegister zst_mM_isRegister (av := _) (rest := _) (by rfl) (by rfl) (by exact Nat.le_of_ble_eq_true rfl) (zm_isRegister x) ?_
    rw [decide_eq_false h0]
    refine zg_if_eq (tgt := 20) (zd_t dmM_channel 3 rfl) (by decide) (fun _ => ?_) (fun hq => absurd (by decide) hq)
    refine zg_iconst (v := (nI 1)) (zd_t dmM_channel 10 rfl) (by decide) ?_
    refine zg_goto (tgt := 25) (zd_t dmM_channel 11 rfl) (by decide) ?_
    refine zg_iconst (v := (nI 0)) (zd_t dmM_channel 13 rfl) (by decide) ?_
    refine zg_iconst (v := (nI 0)) (zd_t dmM_channel 14 rfl) (by decide) ?_
    refine zg_callV (zd_t dmM_channel 15 rfl) zl_M_72 zm_mM_refuse zi_mM_refuse zse_mM_refuse zs_m0 zs_cl3 rfl (av := _) (rest := _) (by rfl) (by rfl) (by exact Nat.le_of_ble_eq_true rfl) (zm_refuse true false false) ?_
    rw [show zs_rc true false false = 1 from rfl]
    refine zg_if_eq (tgt := 37) (zd_t dmM_channel 16 rfl) (by decide) (fun hq => absurd hq (by decide)) (fun _ => ?_)
    refine zg_iconst (v := (nI 0)) (zd_t dmM_channel 17 rfl) (by decide) ?_
    refine zg_goto (tgt := 50) (zd_t dmM_channel 18 rfl) (by decide) ?_
    exact zg_iret (zd_t dmM_channel 29 rfl) rfl rfl
theorem zm_inject {z : Int32} (hi : i < 16) (hk : k < 8) (hI : zs_inv T) : zg_C l (zs_E P) (d + 4) mM_inject [.ref (zp_B P + 67), .int (nI i), .int (nI (k + 1)), .int z] (zs_σ P S th (zs_b T) o w) (.inl (some (.int (nI (mz_sh (zs_re T i k) z k)))), zs_σ P S (nI 0) (zs_b (zs_sre T i k (mz_sh (zs_re T i k) z k))) o w) := by
  refine zg_C_of (by decide +kernel) (Nat.le_of_ble_eq_true rfl) ?_
  have hm := mz_m_lt k
  have hr := hI.1 i hi k hk
  have z1 := Int32.le_toInt z
  have z2 := Int32.toInt_lt z
  refine zg_aload_n (zd_t dmM_inject 0 rfl) rfl ?_
  refine zg_iload_n (zd_t dmM_inject 1 rfl) rfl ?_
  refine zg_callS (zd_t dmM_inject 2 rfl) zl_M_68 zm_mM_isRegister zst_mM_isRegister (av := _) (rest := _) (by rfl) (by rfl) (by exact Nat.le_of_ble_eq_true rfl) (zm_isRegister (nI i)) ?_
  rw [decide_eq_true (zs_rg hi)]
  refine zg_if_eq (tgt := 20) (zd_t dmM_inject 3 rfl) (by decide) (fun hq => absurd hq (by decide)) (fun _ => ?_)
  refine zg_iload_n (zd_t dmM_inject 4 rfl) rfl ?_
  refine zg_i2l (zd_t dmM_inject 5 rfl) rfl ?_
  refine zg_lconst (v := mz_L 1) (zd_t dmM_inject 6 rfl) (by decide) ?_
  refine zg_ldc2 (zd_t dmM_inject 7 rfl) zc_M_122 ?_
  rw [zs_i2l]
  refine zg_callS (zd_t dmM_inject 8 rfl) zl_M_48 zm_mM_in zst_mM_in (av := _) (rest := _) (by rfl) (by rfl) (by exact Nat.le_of_ble_eq_true rfl) (zm_in (x := (nI (k + 1)).toInt) (y := 1) (z := 8) (zs_wi32 _) (by unfold mz_wi; omega) (by unfold mz_wi; omega)) ?_
  rw [decide_eq_true (zs_chg hk)]
  refine zg_if_ne (tgt := 24) (zd_t dmM_inject 9 rfl) (by decide) (fun _ => ?_) (fun hq => absurd hq (by decide))
  refine zg_iconst (v := (nI 0)) (zd_t dmM_inject 12 rfl) (by decide) ?_
  refine zg_iconst (v := (nI 0)) (zd_t dmM_inject 13 rfl) (by decide) ?_
  refine zg_iconst (v := (nI 0)) (zd_t dmM_inject 14 rfl) (by decide) ?_
  refine zg_callV (zd_t dmM_inject 15 rfl) zl_M_72 zm_mM_refuse zi_mM_refuse zse_mM_refuse zs_m0 zs_cl3 rfl (av := _) (rest := _) (by rfl) (by rfl) (by exact Nat.le_of_ble_eq_true rfl) (zm_refuse false false false) ?_
  rw [show zs_rc false false false = 0 from rfl]
  refine zg_if_eq (tgt := 35) (zd_t dmM_inject 16 rfl) (by decide) (fun _ => ?_) (fun hq => absurd (by decide) hq)
  refine zg_bipush (v := (nI 8)) (zd_t dmM_inject 19 rfl) (by decide) ?_
  refine zg_iload_n (zd_t dmM_inject 20 rfl) rfl ?_
  refine zg_imul (zd_t dmM_inject 21 rfl) ?_
  refine zg_iload_n (zd_t dmM_inject 22 rfl) rfl ?_
  refine zg_iadd (zd_t dmM_inject 23 rfl) ?_
  refine zg_iconst (v := (nI 1)) (zd_t dmM_inject 24 rfl) (by decide) ?_
  refine zg_isub (zd_t dmM_inject 25 rfl) ?_
  refine zg_istore (zd_t dmM_inject 26 rfl) (by decide) rfl ?_
  refine zg_aload_n (zd_t dmM_inject 27 rfl) rfl ?_
  refine zg_getf (zd_t dmM_inject 28 rfl) zf_M_13 zs_m0 rfl ?_
  refine zg_iload (zd_t dmM_inject 29 rfl) rfl ?_
  refine zg_aload_n (zd_t dmM_inject 30 rfl) rfl ?_
  refine zg_getf (zd_t dmM_inject 31 rfl) zf_M_13 zs_m0 rfl ?_
  refine zg_iload (zd_t dmM_inject 32 rfl) rfl ?_
  refine zg_iald (k := 8 * i + k) (t0 := 0) (zd_t dmM_inject 33 rfl) zs_m2 rfl (by rw [zs_ix8, show 8 * i + (k + 1) = 8 * i + k + 1 by omega]; exact nI_pred _) (by omega) (by decide) ?_
  rw [(zs_q8 hk).1, (zs_q8 hk).2]
  refine zg_i2l (zd_t dmM_inject 34 rfl) rfl ?_
  refine zg_iload_n (zd_t dmM_inject 35 rfl) rfl ?_
  refine zg_i2l (zd_t dmM_inject 36 rfl) rfl ?_
  refine zg_ladd (zd_t dmM_inject 37 rfl) ?_
  rw [mz_i2l (show zs_re T i k < 2 ^ 31 by omega), zs_i2l, mz_add]
  refine zg_aload_n (zd_t dmM_inject 38 rfl) rfl ?_
  refine zg_getf (zd_t dmM_inject 39 rfl) zf_M_7 zs_m0 rfl ?_
  refine zg_iload_n (zd_t dmM_inject 40 rfl) rfl ?_
  refine zg_iconst (v := (nI 1)) (zd_t dmM_inject 41 rfl) (by decide) ?_
  refine zg_isub (zd_t dmM_inject 42 rfl) ?_
  refine zg_iald (k := k) (t0 := 0) (zd_t dmM_inject 43 rfl) zs_m1 rfl (nI_pred k) hk (by decide) ?_
  rw [show zs_mo k = nI (mz_m k) from if_pos hk]
  refine zg_callS (zd_t dmM_inject 44 rfl) zl_M_56 zm_mM_rest zst_mM_rest (av := _) (rest := _) (by rfl) (by rfl) (by exact Nat.le_of_ble_eq_true rfl) (zm_rest (v := (zs_re T i k : Int) + z.toInt) (by unfold mz_in; omega) hm.2 hm.1) ?_
  rw [mz_sh_eq]
  refine zg_iast (k := 8 * i + k) (t0 := 0) (zd_t dmM_inject 45 rfl) zs_m2 rfl (by rw [zs_ix8, show 8 * i + (k + 1) = 8 * i + k + 1 by omega]; exact nI_pred _) (by omega) (by decide) (zs_um_re hk) ?_
  refine zg_aload_n (zd_t dmM_inject 46 rfl) rfl ?_
  refine zg_getf (zd_t dmM_inject 47 rfl) zf_M_13 zs_m0 rfl ?_
  refine zg_iload (zd_t dmM_inject 48 rfl) rfl ?_
  refine zg_iald (k := 8 * i + k) (t0 := 0) (zd_t dmM_inject 49 rfl) zs_m2 rfl (by rw [zs_ix8, show 8 * i + (k + 1) = 8 * i + k + 1 by omega]; exact nI_pred _) (by omega) (by decide) ?_
  rw [(zs_q8 hk).1, (zs_q8 hk).2]
  rw [show zs_re (zs_sre T i k (mz_sh (zs_re T i k) z k), zs_ex T).1 i k = mz_sh (zs_re T i k) z k from if_pos ⟨rfl, rfl⟩]
  exact zg_iret (zd_t dmM_inject 50 rfl) rfl rfl
theorem zm_injectX {x y z : Int32} (h : ¬ (zs_ir x ∧ zs_ch y)) : zg_C l (zs_E P) (d + 4) mM_inject [.ref (zp_B P + 67), .int x, .int y, .int z] (zs_σ P S th (zs_b T) o w) (.inl (some (.int (nI 0))), zs_σ P S (nI 1) (zs_b (T)) o w) := by
  refine zg_C_of (by decide +kernel) (Nat.le_of_ble_eq_true rfl) ?_
  by_cases h0 : zs_ir x
  · have h1 : ¬ zs_ch y := fun h1 => h ⟨h0, h1⟩
    refine zg_aload_n (zd_t dmM_inject 0 rfl) rfl ?_
    refine zg_iload_n (zd_t dmM_inject 1 rfl) rfl ?_
    refine zg_callS (zd_t dmM_inject 2 rfl) zl_M_68 zm_mM_isRegister zst_mM_isRegister (av := _) (rest := _) (by rfl) (by rfl) (by exact Nat.le_of_ble_eq_true rfl) (zm_isRegister x) ?_
    rw [decide_eq_true h0]
    refine zg_if_eq (tgt := 20) (zd_t dmM_inject 3 rfl) (by decide) (fun hq => absurd hq (by decide)) (fun _ => ?_)
    refine zg_iload_n (zd_t dmM_inject 4 rfl) rfl ?_
    refine zg_i2l (zd_t dmM_inject 5 rfl) rfl ?_
    refine zg_lconst (v := mz_L 1) (zd_t dmM_inject 6 rfl) (by decide) ?_
    refine zg_ldc2 (zd_t dmM_inject 7 rfl) zc_M_122 ?_
    rw [zs_i2l]
    refine zg_callS (zd_t dmM_inject 8 rfl) zl_M_48 zm_mM_in zst_mM_in (av := _) (rest := _) (by rfl) (by rfl) (by exact Nat.le_of_ble_eq_true rfl) (zm_in (x := y.toInt) (y := 1) (z := 8) (zs_wi32 _) (by unfold mz_wi; omega) (by unfold mz_wi; omega)) ?_
    rw [decide_eq_false h1]
    refine zg_if_ne (tgt := 24) (zd_t dmM_inject 9 rfl) (by decide) (fun hq => absurd (by decide) hq) (fun _ => ?_)
    refine zg_iconst (v := (nI 1)) (zd_t dmM_inject 10 rfl) (by decide) ?_
    refine zg_goto (tgt := 25) (zd_t dmM_inject 11 rfl) (by decide) ?_
    refine zg_iconst (v := (nI 0)) (zd_t dmM_inject 13 rfl) (by decide) ?_
    refine zg_iconst (v := (nI 0)) (zd_t dmM_inject 14 rfl) (by decide) ?_
    refine zg_callV (zd_t dmM_inject 15 rfl) zl_M_72 zm_mM_refuse zi_mM_refuse zse_mM_refuse zs_m0 zs_cl3 rfl (av := _) (rest := _) (by rfl) (by rfl) (by exact Nat.le_of_ble_eq_true rfl) (zm_refuse true false false) ?_
    rw [show zs_rc true false false = 1 from rfl]
    refine zg_if_eq (tgt := 35) (zd_t dmM_inject 16 rfl) (by decide) (fun hq => absurd hq (by decide)) (fun _ => ?_)
    refine zg_iconst (v := (nI 0)) (zd_t dmM_inject 17 rfl) (by decide) ?_
    exact zg_iret (zd_t dmM_inject 18 rfl) rfl rfl
  · skip
    refine zg_aload_n (zd_t dmM_inject 0 rfl) rfl ?_
    refine zg_iload_n (zd_t dmM_inject 1 rfl) rfl ?_
    refine zg_callS (zd_t dmM_inject 2 rfl) zl_M_68 zm_mM_isRegister zst_mM_isRegister (av := _) (rest := _) (by rfl) (by rfl) (by exact Nat.le_of_ble_eq_true rfl) (zm_isRegister x) ?_
    rw [decide_eq_false h0]
    refine zg_if_eq (tgt := 20) (zd_t dmM_inject 3 rfl) (by decide) (fun _ => ?_) (fun hq => absurd (by decide) hq)
    refine zg_iconst (v := (nI 1)) (zd_t dmM_inject 10 rfl) (by decide) ?_
    refine zg_goto (tgt := 25) (zd_t dmM_inject 11 rfl) (by decide) ?_
    refine zg_iconst (v := (nI 0)) (zd_t dmM_inject 13 rfl) (by decide) ?_
    refine zg_iconst (v := (nI 0)) (zd_t dmM_inject 14 rfl) (by decide) ?_
    refine zg_callV (zd_t dmM_inject 15 rfl) zl_M_72 zm_mM_refuse zi_mM_refuse zse_mM_refuse zs_m0 zs_cl3 rfl (av := _) (rest := _) (by rfl) (by rfl) (by exact Nat.le_of_ble_eq_true rfl) (zm_refuse true false false) ?_
    rw [show zs_rc true false false = 1 from rfl]
    refine zg_if_eq (tgt := 35) (zd_t dmM_inject 16 rfl) (by decide) (fun hq => absurd hq (by decide)) (fun _ => ?_)
    refine zg_iconst (v := (nI 0)) (zd_t dmM_inject 17 rfl) (by decide) ?_
    exact zg_iret (zd_t dmM_inject 18 rfl) rfl rfl
theorem zm_verify (hi : i < 16) (hI : zs_inv T) : zg_C l (zs_E P) (d + 4) mM_verify [.ref (zp_B P + 67), .int (nI i)] (zs_σ P S th (zs_b T) o w) (.inl (some (.int (nI (mz_fault (zs_re T i))))), zs_σ P S (nI 0) (zs_b (T)) o w) := by
  refine zg_C_of (by decide +kernel) (Nat.le_of_ble_eq_true rfl) ?_
  refine zg_aload_n (zd_t dmM_verify 0 rfl) rfl ?_
  refine zg_iload_n (zd_t dmM_verify 1 rfl) rfl ?_
  refine zg_callS (zd_t dmM_verify 2 rfl) zl_M_68 zm_mM_isRegister zst_mM_isRegister (av := _) (rest := _) (by rfl) (by rfl) (by exact Nat.le_of_ble_eq_true rfl) (zm_isRegister (nI i)) ?_
  rw [decide_eq_true (zs_rg hi)]
  refine zg_if_ne (tgt := 12) (zd_t dmM_verify 3 rfl) (by decide) (fun _ => ?_) (fun hq => absurd hq (by decide))
  refine zg_iconst (v := (nI 0)) (zd_t dmM_verify 6 rfl) (by decide) ?_
  refine zg_iconst (v := (nI 0)) (zd_t dmM_verify 7 rfl) (by decide) ?_
  refine zg_iconst (v := (nI 0)) (zd_t dmM_verify 8 rfl) (by decide) ?_
  refine zg_callV (zd_t dmM_verify 9 rfl) zl_M_72 zm_mM_refuse zi_mM_refuse zse_mM_refuse zs_m0 zs_cl3 rfl (av := _) (rest := _) (by rfl) (by rfl) (by exact Nat.le_of_ble_eq_true rfl) (zm_refuse false false false) ?_
  rw [show zs_rc false false false = 0 from rfl]
  refine zg_if_eq (tgt := 25) (zd_t dmM_verify 10 rfl) (by decide) (fun _ => ?_) (fun hq => absurd (by decide) hq)
  refine zg_aload_n (zd_t dmM_verify 13 rfl) rfl ?_
  refine zg_iload_n (zd_t dmM_verify 14 rfl) rfl ?_
  refine zg_callV (zd_t dmM_verify 15 rfl) zl_M_128 zm_mM_faultOf zi_mM_faultOf zse_mM_faultOf zs_m0 zs_cl3 rfl (av := _) (rest := _) (by rfl) (by rfl) (by exact Nat.le_of_ble_eq_true rfl) (zm_faultOf hi (hI.1 i hi)) ?_
  exact zg_iret (zd_t dmM_verify 16 rfl) rfl rfl
theorem zm_verifyX {x : Int32} (h : ¬ zs_ir x) : zg_C l (zs_E P) (d + 4) mM_verify [.ref (zp_B P + 67), .int x] (zs_σ P S th (zs_b T) o w) (.inl (some (.int (nI 0))), zs_σ P S (nI 1) (zs_b (T)) o w) := by
  refine zg_C_of (by decide +kernel) (Nat.le_of_ble_eq_true rfl) ?_
  refine zg_aload_n (zd_t dmM_verify 0 rfl) rfl ?_
  refine zg_iload_n (zd_t dmM_verify 1 rfl) rfl ?_
  refine zg_callS (zd_t dmM_verify 2 rfl) zl_M_68 zm_mM_isRegister zst_mM_isRegister (av := _) (rest := _) (by rfl) (by rfl) (by exact Nat.le_of_ble_eq_true rfl) (zm_isRegister x) ?_
  rw [decide_eq_false h]
  refine zg_if_ne (tgt := 12) (zd_t dmM_verify 3 rfl) (by decide) (fun hq => absurd (by decide) hq) (fun _ => ?_)
  refine zg_iconst (v := (nI 1)) (zd_t dmM_verify 4 rfl) (by decide) ?_
  refine zg_goto (tgt := 13) (zd_t dmM_verify 5 rfl) (by decide) ?_
  refine zg_iconst (v := (nI 0)) (zd_t dmM_verify 7 rfl) (by decide) ?_
  refine zg_iconst (v := (nI 0)) (zd_t dmM_verify 8 rfl) (by decide) ?_
  refine zg_callV (zd_t dmM_verify 9 rfl) zl_M_72 zm_mM_refuse zi_mM_refuse zse_mM_refuse zs_m0 zs_cl3 rfl (av := _) (rest := _) (by rfl) (by rfl) (by exact Nat.le_of_ble_eq_true rfl) (zm_refuse true false false) ?_
  rw [show zs_rc true false false = 1 from rfl]
  refine zg_if_eq (tgt := 25) (zd_t dmM_verify 10 rfl) (by decide) (fun hq => absurd hq (by decide)) (fun _ => ?_)
  refine zg_iconst (v := (nI 0)) (zd_t dmM_verify 11 rfl) (by decide) ?_
  refine zg_goto (tgt := 30) (zd_t dmM_verify 12 rfl) (by decide) ?_
  exact zg_iret (zd_t dmM_verify 16 rfl) rfl rfl
theorem zm_repair (hi : i < 16) (hI : zs_inv T) (h9 : mz_fault (zs_re T i) ≠ 9) : zg_C l (zs_E P) (d + 4) mM_repair [.ref (zp_B P + 67), .int (nI i)] (zs_σ P S th (zs_b T) o w) (.inl (some (.int (nI (mz_fault (zs_re T i))))), zs_σ P S (nI 0) (zs_b (zs_srp T i)) o w) := by
  refine zg_C_of (by decide +kernel) (Nat.le_of_ble_eq_true rfl) ?_
  have hle := mz_fault_le (zs_re T i)
  unfold zs_srp
  by_cases h0 : mz_fault (zs_re T i) = 0
  · rw [if_pos h0]
    refine zg_iload_n (zd_t dmM_repair 0 rfl) rfl ?_
    refine zg_callS (zd_t dmM_repair 1 rfl) zl_M_68 zm_mM_isRegister zst_mM_isRegister (av := _) (rest := _) (by rfl) (by rfl) (by exact Nat.le_of_ble_eq_true rfl) (zm_isRegister (nI i)) ?_
    refine zg_istore_n (zd_t dmM_repair 2 rfl) (by decide) rfl ?_
    refine zg_iload_n (zd_t dmM_repair 3 rfl) rfl ?_
    rw [decide_eq_true (zs_rg hi)]
    refine zg_if_eq (tgt := 17) (zd_t dmM_repair 4 rfl) (by decide) (fun hq => absurd hq (by decide)) (fun _ => ?_)
    refine zg_aload_n (zd_t dmM_repair 5 rfl) rfl ?_
    refine zg_iload_n (zd_t dmM_repair 6 rfl) rfl ?_
    refine zg_callV (zd_t dmM_repair 7 rfl) zl_M_128 zm_mM_faultOf zi_mM_faultOf zse_mM_faultOf zs_m0 zs_cl3 rfl (av := _) (rest := _) (by rfl) (by rfl) (by exact Nat.le_of_ble_eq_true rfl) (zm_faultOf hi (hI.1 i hi)) ?_
    refine zg_goto (tgt := 18) (zd_t dmM_repair 8 rfl) (by decide) ?_
    refine zg_istore_n (zd_t dmM_repair 10 rfl) (by decide) rfl ?_
    refine zg_aload_n (zd_t dmM_repair 11 rfl) rfl ?_
    refine zg_iload_n (zd_t dmM_repair 12 rfl) rfl ?_
    refine zg_if_ne (tgt := 28) (zd_t dmM_repair 13 rfl) (by decide) (fun _ => ?_) (fun hq => absurd hq (by decide))
    refine zg_iconst (v := (nI 0)) (zd_t dmM_repair 16 rfl) (by decide) ?_
    refine zg_iload_n (zd_t dmM_repair 17 rfl) rfl ?_
    refine zg_bipush (v := (nI 9)) (zd_t dmM_repair 18 rfl) (by decide) ?_
    refine zg_icmp_ne (tgt := 39) (zd_t dmM_repair 19 rfl) (by decide) (fun _ => ?_) (fun hq => absurd hq (fun h => h9 ((nI_eq (by omega) (by decide)).mp h)))
    refine zg_iconst (v := (nI 0)) (zd_t dmM_repair 22 rfl) (by decide) ?_
    refine zg_iconst (v := (nI 0)) (zd_t dmM_repair 23 rfl) (by decide) ?_
    refine zg_callV (zd_t dmM_repair 24 rfl) zl_M_72 zm_mM_refuse zi_mM_refuse zse_mM_refuse zs_m0 zs_cl3 rfl (av := _) (rest := _) (by rfl) (by rfl) (by exact Nat.le_of_ble_eq_true rfl) (zm_refuse false false false) ?_
    rw [show zs_rc false false false = 0 from rfl]
    refine zg_if_eq (tgt := 49) (zd_t dmM_repair 25 rfl) (by decide) (fun _ => ?_) (fun hq => absurd (by decide) hq)
    refine zg_iload_n (zd_t dmM_repair 28 rfl) rfl ?_
    refine zg_if_le (tgt := 72) (zd_t dmM_repair 29 rfl) (by decide) (fun _ => ?_) (fun hq => absurd (by rw [h0]; decide) hq)
    refine zg_iload_n (zd_t dmM_repair 44 rfl) rfl ?_
    exact zg_iret (zd_t dmM_repair 45 rfl) rfl rfl
  · rw [if_neg h0]
    have hsp := mz_fault_spec h9 h0
    obtain ⟨f, hf⟩ : ∃ f, mz_fault (zs_re T i) = f + 1 := ⟨mz_fault (zs_re T i) - 1, by omega⟩
    have hf8 : f < 8 := by omega
    have hhf : mz_hf (zs_re T i) f := by have := hsp.2.2.2; rw [hf] at this; exact this
    refine zg_iload_n (zd_t dmM_repair 0 rfl) rfl ?_
    refine zg_callS (zd_t dmM_repair 1 rfl) zl_M_68 zm_mM_isRegister zst_mM_isRegister (av := _) (rest := _) (by rfl) (by rfl) (by exact Nat.le_of_ble_eq_true rfl) (zm_isRegister (nI i)) ?_
    refine zg_istore_n (zd_t dmM_repair 2 rfl) (by decide) rfl ?_
    refine zg_iload_n (zd_t dmM_repair 3 rfl) rfl ?_
    rw [decide_eq_true (zs_rg hi)]
    refine zg_if_eq (tgt := 17) (zd_t dmM_repair 4 rfl) (by decide) (fun hq => absurd hq (by decide)) (fun _ => ?_)
    refine zg_aload_n (zd_t dmM_repair 5 rfl) rfl ?_
    refine zg_iload_n (zd_t dmM_repair 6 rfl) rfl ?_
    refine zg_callV (zd_t dmM_repair 7 rfl) zl_M_128 zm_mM_faultOf zi_mM_faultOf zse_mM_faultOf zs_m0 zs_cl3 rfl (av := _) (rest := _) (by rfl) (by rfl) (by exact Nat.le_of_ble_eq_true rfl) (zm_faultOf hi (hI.1 i hi)) ?_
    refine zg_goto (tgt := 18) (zd_t dmM_repair 8 rfl) (by decide) ?_
    refine zg_istore_n (zd_t dmM_repair 10 rfl) (by decide) rfl ?_
    refine zg_aload_n (zd_t dmM_repair 11 rfl) rfl ?_
    refine zg_iload_n (zd_t dmM_repair 12 rfl) rfl ?_
    refine zg_if_ne (tgt := 28) (zd_t dmM_repair 13 rfl) (by decide) (fun _ => ?_) (fun hq => absurd hq (by decide))
    refine zg_iconst (v := (nI 0)) (zd_t dmM_repair 16 rfl) (by decide) ?_
    refine zg_iload_n (zd_t dmM_repair 17 rfl) rfl ?_
    refine zg_bipush (v := (nI 9)) (zd_t dmM_repair 18 rfl) (by decide) ?_
    refine zg_icmp_ne (tgt := 39) (zd_t dmM_repair 19 rfl) (by decide) (fun _ => ?_) (fun hq => absurd hq (fun h => h9 ((nI_eq (by omega) (by decide)).mp h)))
    refine zg_iconst (v := (nI 0)) (zd_t dmM_repair 22 rfl) (by decide) ?_
    refine zg_iconst (v := (nI 0)) (zd_t dmM_repair 23 rfl) (by decide) ?_
    refine zg_callV (zd_t dmM_repair 24 rfl) zl_M_72 zm_mM_refuse zi_mM_refuse zse_mM_refuse zs_m0 zs_cl3 rfl (av := _) (rest := _) (by rfl) (by rfl) (by exact Nat.le_of_ble_eq_true rfl) (zm_refuse false false false) ?_
    rw [show zs_rc false false false = 0 from rfl]
    refine zg_if_eq (tgt := 49) (zd_t dmM_repair 25 rfl) (by decide) (fun _ => ?_) (fun hq => absurd (by decide) hq)
    refine zg_iload_n (zd_t dmM_repair 28 rfl) rfl ?_
    rw [hf]
    refine zg_if_le (tgt := 72) (zd_t dmM_repair 29 rfl) (by decide) (fun hq => absurd hq (nI_nle (by omega) (by omega))) (fun _ => ?_)
    refine zg_aload_n (zd_t dmM_repair 30 rfl) rfl ?_
    refine zg_getf (zd_t dmM_repair 31 rfl) zf_M_13 zs_m0 rfl ?_
    refine zg_bipush (v := (nI 8)) (zd_t dmM_repair 32 rfl) (by decide) ?_
    refine zg_iload_n (zd_t dmM_repair 33 rfl) rfl ?_
    refine zg_imul (zd_t dmM_repair 34 rfl) ?_
    refine zg_iload_n (zd_t dmM_repair 35 rfl) rfl ?_
    refine zg_iadd (zd_t dmM_repair 36 rfl) ?_
    refine zg_iconst (v := (nI 1)) (zd_t dmM_repair 37 rfl) (by decide) ?_
    refine zg_isub (zd_t dmM_repair 38 rfl) ?_
    refine zg_aload_n (zd_t dmM_repair 39 rfl) rfl ?_
    refine zg_iload_n (zd_t dmM_repair 40 rfl) rfl ?_
    refine zg_iload_n (zd_t dmM_repair 41 rfl) rfl ?_
    refine zg_callV (zd_t dmM_repair 42 rfl) zl_M_124 zm_mM_cure zi_mM_cure zse_mM_cure zs_m0 zs_cl3 rfl (av := _) (rest := _) (by rfl) (by rfl) (by exact Nat.le_of_ble_eq_true rfl) (zm_cure (k := f) hi hf8 (hI.1 i hi) hsp.1) ?_
    rw [show mz_cu (zs_re T i) f = nI (mz_ht (zs_re T i) f) from if_pos hhf]
    refine zg_iast (k := 8 * i + f) (t0 := 0) (zd_t dmM_repair 43 rfl) zs_m2 rfl (by rw [zs_ix8, show 8 * i + (f + 1) = 8 * i + f + 1 by omega]; exact nI_pred _) (by omega) (by decide) (zs_um_re hf8) ?_
    refine zg_iload_n (zd_t dmM_repair 44 rfl) rfl ?_
    exact zg_iret (zd_t dmM_repair 45 rfl) rfl rfl
theorem zm_repairX {x : Int32} (h : ¬ zs_ir x) : zg_C l (zs_E P) (d + 4) mM_repair [.ref (zp_B P + 67), .int x] (zs_σ P S th (zs_b T) o w) (.inl (some (.int (nI 0))), zs_σ P S (nI 1) (zs_b (T)) o w) := by
  refine zg_C_of (by decide +kernel) (Nat.le_of_ble_eq_true rfl) ?_
  refine zg_iload_n (zd_t dmM_repair 0 rfl) rfl ?_
  refine zg_callS (zd_t dmM_repair 1 rfl) zl_M_68 zm_mM_isRegister zst_mM_isRegister (av := _) (rest := _) (by rfl) (by rfl) (by exact Nat.le_of_ble_eq_true rfl) (zm_isRegister x) ?_
  refine zg_istore_n (zd_t dmM_repair 2 rfl) (by decide) rfl ?_
  refine zg_iload_n (zd_t dmM_repair 3 rfl) rfl ?_
  rw [decide_eq_false h]
  refine zg_if_eq (tgt := 17) (zd_t dmM_repair 4 rfl) (by decide) (fun _ => ?_) (fun hq => absurd (by decide) hq)
  refine zg_iconst (v := (nI 0)) (zd_t dmM_repair 9 rfl) (by decide) ?_
  refine zg_istore_n (zd_t dmM_repair 10 rfl) (by decide) rfl ?_
  refine zg_aload_n (zd_t dmM_repair 11 rfl) rfl ?_
  refine zg_iload_n (zd_t dmM_repair 12 rfl) rfl ?_
  refine zg_if_ne (tgt := 28) (zd_t dmM_repair 13 rfl) (by decide) (fun hq => absurd (by decide) hq) (fun _ => ?_)
  refine zg_iconst (v := (nI 1)) (zd_t dmM_repair 14 rfl) (by decide) ?_
  refine zg_goto (tgt := 29) (zd_t dmM_repair 15 rfl) (by decide) ?_
  refine zg_iload_n (zd_t dmM_repair 17 rfl) rfl ?_
  refine zg_bipush (v := (nI 9)) (zd_t dmM_repair 18 rfl) (by decide) ?_
  refine zg_icmp_ne (tgt := 39) (zd_t dmM_repair 19 rfl) (by decide) (fun _ => ?_) (fun hq => absurd hq (by decide))
  refine zg_iconst (v := (nI 0)) (zd_t dmM_repair 22 rfl) (by decide) ?_
  refine zg_iconst (v := (nI 0)) (zd_t dmM_repair 23 rfl) (by decide) ?_
  refine zg_callV (zd_t dmM_repair 24 rfl) zl_M_72 zm_mM_refuse zi_mM_refuse zse_mM_refuse zs_m0 zs_cl3 rfl (av := _) (rest := _) (by rfl) (by rfl) (by exact Nat.le_of_ble_eq_true rfl) (zm_refuse true false false) ?_
  rw [show zs_rc true false false = 1 from rfl]
  refine zg_if_eq (tgt := 49) (zd_t dmM_repair 25 rfl) (by decide) (fun hq => absurd hq (by decide)) (fun _ => ?_)
  refine zg_iconst (v := (nI 0)) (zd_t dmM_repair 26 rfl) (by decide) ?_
  exact zg_iret (zd_t dmM_repair 27 rfl) rfl rfl
theorem zm_repairY (hi : i < 16) (hI : zs_inv T) (h9 : mz_fault (zs_re T i) = 9) : zg_C l (zs_E P) (d + 4) mM_repair [.ref (zp_B P + 67), .int (nI i)] (zs_σ P S th (zs_b T) o w) (.inl (some (.int (nI 0))), zs_σ P S (nI 2) (zs_b (T)) o w) := by
  refine zg_C_of (by decide +kernel) (Nat.le_of_ble_eq_true rfl) ?_
  refine zg_iload_n (zd_t dmM_repair 0 rfl) rfl ?_
  refine zg_callS (zd_t dmM_repair 1 rfl) zl_M_68 zm_mM_isRegister zst_mM_isRegister (av := _) (rest := _) (by rfl) (by rfl) (by exact Nat.le_of_ble_eq_true rfl) (zm_isRegister (nI i)) ?_
  refine zg_istore_n (zd_t dmM_repair 2 rfl) (by decide) rfl ?_
  refine zg_iload_n (zd_t dmM_repair 3 rfl) rfl ?_
  rw [decide_eq_true (zs_rg hi)]
  refine zg_if_eq (tgt := 17) (zd_t dmM_repair 4 rfl) (by decide) (fun hq => absurd hq (by decide)) (fun _ => ?_)
  refine zg_aload_n (zd_t dmM_repair 5 rfl) rfl ?_
  refine zg_iload_n (zd_t dmM_repair 6 rfl) rfl ?_
  refine zg_callV (zd_t dmM_repair 7 rfl) zl_M_128 zm_mM_faultOf zi_mM_faultOf zse_mM_faultOf zs_m0 zs_cl3 rfl (av := _) (rest := _) (by rfl) (by rfl) (by exact Nat.le_of_ble_eq_true rfl) (zm_faultOf hi (hI.1 i hi)) ?_
  refine zg_goto (tgt := 18) (zd_t dmM_repair 8 rfl) (by decide) ?_
  refine zg_istore_n (zd_t dmM_repair 10 rfl) (by decide) rfl ?_
  refine zg_aload_n (zd_t dmM_repair 11 rfl) rfl ?_
  refine zg_iload_n (zd_t dmM_repair 12 rfl) rfl ?_
  refine zg_if_ne (tgt := 28) (zd_t dmM_repair 13 rfl) (by decide) (fun _ => ?_) (fun hq => absurd hq (by decide))
  refine zg_iconst (v := (nI 0)) (zd_t dmM_repair 16 rfl) (by decide) ?_
  refine zg_iload_n (zd_t dmM_repair 17 rfl) rfl ?_
  refine zg_bipush (v := (nI 9)) (zd_t dmM_repair 18 rfl) (by decide) ?_
  rw [h9]
  refine zg_icmp_ne (tgt := 39) (zd_t dmM_repair 19 rfl) (by decide) (fun hq => absurd (by decide) hq) (fun _ => ?_)
  refine zg_iconst (v := (nI 1)) (zd_t dmM_repair 20 rfl) (by decide) ?_
  refine zg_goto (tgt := 40) (zd_t dmM_repair 21 rfl) (by decide) ?_
  refine zg_iconst (v := (nI 0)) (zd_t dmM_repair 23 rfl) (by decide) ?_
  refine zg_callV (zd_t dmM_repair 24 rfl) zl_M_72 zm_mM_refuse zi_mM_refuse zse_mM_refuse zs_m0 zs_cl3 rfl (av := _) (rest := _) (by rfl) (by rfl) (by exact Nat.le_of_ble_eq_true rfl) (zm_refuse false true false) ?_
  rw [show zs_rc false true false = 2 from rfl]
  refine zg_if_eq (tgt := 49) (zd_t dmM_repair 25 rfl) (by decide) (fun hq => absurd hq (by decide)) (fun _ => ?_)
  refine zg_iconst (v := (nI 0)) (zd_t dmM_repair 26 rfl) (by decide) ?_
  exact zg_iret (zd_t dmM_repair 27 rfl) rfl rfl
theorem zm_sure (hi : i < 16) : zg_C l (zs_E P) (d + 4) mM_sure [.ref (zp_B P + 67), .int (nI i)] (zs_σ P S th (zs_b T) o w) (.inl (some (.int (zs_bi (zs_su T i)))), zs_σ P S (nI 0) (zs_b (T)) o w) := by
  refine zg_C_of (by decide +kernel) (Nat.le_of_ble_eq_true rfl) ?_
  cases hs : zs_su T i with
  | false =>
    refine zg_aload_n (zd_t dmM_sure 0 rfl) rfl ?_
    refine zg_iload_n (zd_t dmM_sure 1 rfl) rfl ?_
    refine zg_callS (zd_t dmM_sure 2 rfl) zl_M_68 zm_mM_isRegister zst_mM_isRegister (av := _) (rest := _) (by rfl) (by rfl) (by exact Nat.le_of_ble_eq_true rfl) (zm_isRegister (nI i)) ?_
    rw [decide_eq_true (zs_rg hi)]
    refine zg_if_ne (tgt := 12) (zd_t dmM_sure 3 rfl) (by decide) (fun _ => ?_) (fun hq => absurd hq (by decide))
    refine zg_iconst (v := (nI 0)) (zd_t dmM_sure 6 rfl) (by decide) ?_
    refine zg_iconst (v := (nI 0)) (zd_t dmM_sure 7 rfl) (by decide) ?_
    refine zg_iconst (v := (nI 0)) (zd_t dmM_sure 8 rfl) (by decide) ?_
    refine zg_callV (zd_t dmM_sure 9 rfl) zl_M_72 zm_mM_refuse zi_mM_refuse zse_mM_refuse zs_m0 zs_cl3 rfl (av := _) (rest := _) (by rfl) (by rfl) (by exact Nat.le_of_ble_eq_true rfl) (zm_refuse false false false) ?_
    rw [show zs_rc false false false = 0 from rfl]
    refine zg_if_ne (tgt := 34) (zd_t dmM_sure 10 rfl) (by decide) (fun hq => absurd (by decide) hq) (fun _ => ?_)
    refine zg_aload_n (zd_t dmM_sure 11 rfl) rfl ?_
    refine zg_getf (zd_t dmM_sure 12 rfl) zf_M_23 zs_m0 rfl ?_
    refine zg_iload_n (zd_t dmM_sure 13 rfl) rfl ?_
    refine zg_zald (k := i) (t0 := 2) (zd_t dmM_sure 14 rfl) zs_m5 rfl rfl hi (by decide) ?_
    rw [show zs_su (zs_b T).1 i = false from hs]
    refine zg_if_eq (tgt := 34) (zd_t dmM_sure 15 rfl) (by decide) (fun _ => ?_) (fun hq => absurd (by decide) hq)
    refine zg_iconst (v := (nI 0)) (zd_t dmM_sure 18 rfl) (by decide) ?_
    exact zg_zret (zd_t dmM_sure 19 rfl) rfl (by first | rfl | exact zs_nb _) rfl
  | true =>
    refine zg_aload_n (zd_t dmM_sure 0 rfl) rfl ?_
    refine zg_iload_n (zd_t dmM_sure 1 rfl) rfl ?_
    refine zg_callS (zd_t dmM_sure 2 rfl) zl_M_68 zm_mM_isRegister zst_mM_isRegister (av := _) (rest := _) (by rfl) (by rfl) (by exact Nat.le_of_ble_eq_true rfl) (zm_isRegister (nI i)) ?_
    rw [decide_eq_true (zs_rg hi)]
    refine zg_if_ne (tgt := 12) (zd_t dmM_sure 3 rfl) (by decide) (fun _ => ?_) (fun hq => absurd hq (by decide))
    refine zg_iconst (v := (nI 0)) (zd_t dmM_sure 6 rfl) (by decide) ?_
    refine zg_iconst (v := (nI 0)) (zd_t dmM_sure 7 rfl) (by decide) ?_
    refine zg_iconst (v := (nI 0)) (zd_t dmM_sure 8 rfl) (by decide) ?_
    refine zg_callV (zd_t dmM_sure 9 rfl) zl_M_72 zm_mM_refuse zi_mM_refuse zse_mM_refuse zs_m0 zs_cl3 rfl (av := _) (rest := _) (by rfl) (by rfl) (by exact Nat.le_of_ble_eq_true rfl) (zm_refuse false false false) ?_
    rw [show zs_rc false false false = 0 from rfl]
    refine zg_if_ne (tgt := 34) (zd_t dmM_sure 10 rfl) (by decide) (fun hq => absurd (by decide) hq) (fun _ => ?_)
    refine zg_aload_n (zd_t dmM_sure 11 rfl) rfl ?_
    refine zg_getf (zd_t dmM_sure 12 rfl) zf_M_23 zs_m0 rfl ?_
    refine zg_iload_n (zd_t dmM_sure 13 rfl) rfl ?_
    refine zg_zald (k := i) (t0 := 2) (zd_t dmM_sure 14 rfl) zs_m5 rfl rfl hi (by decide) ?_
    rw [show zs_su (zs_b T).1 i = true from hs]
    refine zg_if_eq (tgt := 34) (zd_t dmM_sure 15 rfl) (by decide) (fun hq => absurd hq (by decide)) (fun _ => ?_)
    refine zg_iconst (v := (nI 1)) (zd_t dmM_sure 16 rfl) (by decide) ?_
    refine zg_goto (tgt := 35) (zd_t dmM_sure 17 rfl) (by decide) ?_
    exact zg_zret (zd_t dmM_sure 19 rfl) rfl (by first | rfl | exact zs_nb _) rfl
theorem zm_sureX {x : Int32} (h : ¬ zs_ir x) : zg_C l (zs_E P) (d + 4) mM_sure [.ref (zp_B P + 67), .int x] (zs_σ P S th (zs_b T) o w) (.inl (some (.int (nI 0))), zs_σ P S (nI 1) (zs_b (T)) o w) := by
  refine zg_C_of (by decide +kernel) (Nat.le_of_ble_eq_true rfl) ?_
  refine zg_aload_n (zd_t dmM_sure 0 rfl) rfl ?_
  refine zg_iload_n (zd_t dmM_sure 1 rfl) rfl ?_
  refine zg_callS (zd_t dmM_sure 2 rfl) zl_M_68 zm_mM_isRegister zst_mM_isRegister (av := _) (rest := _) (by rfl) (by rfl) (by exact Nat.le_of_ble_eq_true rfl) (zm_isRegister x) ?_
  rw [decide_eq_false h]
  refine zg_if_ne (tgt := 12) (zd_t dmM_sure 3 rfl) (by decide) (fun hq => absurd (by decide) hq) (fun _ => ?_)
  refine zg_iconst (v := (nI 1)) (zd_t dmM_sure 4 rfl) (by decide) ?_
  refine zg_goto (tgt := 13) (zd_t dmM_sure 5 rfl) (by decide) ?_
  refine zg_iconst (v := (nI 0)) (zd_t dmM_sure 7 rfl) (by decide) ?_
  refine zg_iconst (v := (nI 0)) (zd_t dmM_sure 8 rfl) (by decide) ?_
  refine zg_callV (zd_t dmM_sure 9 rfl) zl_M_72 zm_mM_refuse zi_mM_refuse zse_mM_refuse zs_m0 zs_cl3 rfl (av := _) (rest := _) (by rfl) (by rfl) (by exact Nat.le_of_ble_eq_true rfl) (zm_refuse true false false) ?_
  rw [show zs_rc true false false = 1 from rfl]
  refine zg_if_ne (tgt := 34) (zd_t dmM_sure 10 rfl) (by decide) (fun _ => ?_) (fun hq => absurd hq (by decide))
  refine zg_iconst (v := (nI 0)) (zd_t dmM_sure 18 rfl) (by decide) ?_
  exact zg_zret (zd_t dmM_sure 19 rfl) rfl (by first | rfl | exact zs_nb _) rfl
theorem zm_bound {n : Nat} (hi : i < 16) (hn : n < 2) (hs : zs_su T i = true) : zg_C l (zs_E P) (d + 4) mM_bound [.ref (zp_B P + 67), .int (nI i), .int (nI n)] (zs_σ P S th (zs_b T) o w) (.inl (some (.long (mz_L (zs_ex T i)))), zs_σ P S (nI 0) (zs_b (T)) o w) := by
  refine zg_C_of (by decide +kernel) (Nat.le_of_ble_eq_true rfl) ?_
  by_cases hn0 : n = 0
  · skip
    refine zg_iload_n (zd_t dmM_bound 0 rfl) rfl ?_
    refine zg_callS (zd_t dmM_bound 1 rfl) zl_M_68 zm_mM_isRegister zst_mM_isRegister (av := _) (rest := _) (by rfl) (by rfl) (by exact Nat.le_of_ble_eq_true rfl) (zm_isRegister (nI i)) ?_
    refine zg_istore_n (zd_t dmM_bound 2 rfl) (by decide) rfl ?_
    refine zg_iload_n (zd_t dmM_bound 3 rfl) rfl ?_
    rw [decide_eq_true (zs_rg hi)]
    refine zg_if_eq (tgt := 23) (zd_t dmM_bound 4 rfl) (by decide) (fun hq => absurd hq (by decide)) (fun _ => ?_)
    refine zg_iload_n (zd_t dmM_bound 5 rfl) rfl ?_
    refine zg_i2l (zd_t dmM_bound 6 rfl) rfl ?_
    refine zg_lconst (v := mz_L 0) (zd_t dmM_bound 7 rfl) (by decide) ?_
    refine zg_lconst (v := mz_L 1) (zd_t dmM_bound 8 rfl) (by decide) ?_
    rw [zs_i2l]
    refine zg_callS (zd_t dmM_bound 9 rfl) zl_M_48 zm_mM_in zst_mM_in (av := _) (rest := _) (by rfl) (by rfl) (by exact Nat.le_of_ble_eq_true rfl) (zm_in (x := (nI n).toInt) (y := 0) (z := 1) (zs_wi32 _) (by unfold mz_wi; omega) (by unfold mz_wi; omega)) ?_
    rw [decide_eq_true (by rw [nI_toInt (by omega)]; omega)]
    refine zg_if_eq (tgt := 23) (zd_t dmM_bound 10 rfl) (by decide) (fun hq => absurd hq (by decide)) (fun _ => ?_)
    refine zg_iconst (v := (nI 1)) (zd_t dmM_bound 11 rfl) (by decide) ?_
    refine zg_goto (tgt := 24) (zd_t dmM_bound 12 rfl) (by decide) ?_
    refine zg_istore (zd_t dmM_bound 14 rfl) (by decide) rfl ?_
    refine zg_aload_n (zd_t dmM_bound 15 rfl) rfl ?_
    refine zg_iload_n (zd_t dmM_bound 16 rfl) rfl ?_
    refine zg_if_ne (tgt := 35) (zd_t dmM_bound 17 rfl) (by decide) (fun _ => ?_) (fun hq => absurd hq (by decide))
    refine zg_iconst (v := (nI 0)) (zd_t dmM_bound 20 rfl) (by decide) ?_
    refine zg_iload_n (zd_t dmM_bound 21 rfl) rfl ?_
    refine zg_if_eq (tgt := 49) (zd_t dmM_bound 22 rfl) (by decide) (fun hq => absurd hq (by decide)) (fun _ => ?_)
    refine zg_iload (zd_t dmM_bound 23 rfl) rfl ?_
    refine zg_if_ne (tgt := 49) (zd_t dmM_bound 24 rfl) (by decide) (fun _ => ?_) (fun hq => absurd hq (by decide))
    refine zg_iconst (v := (nI 0)) (zd_t dmM_bound 27 rfl) (by decide) ?_
    refine zg_iload (zd_t dmM_bound 28 rfl) rfl ?_
    refine zg_if_eq (tgt := 68) (zd_t dmM_bound 29 rfl) (by decide) (fun hq => absurd hq (by decide)) (fun _ => ?_)
    refine zg_aload_n (zd_t dmM_bound 30 rfl) rfl ?_
    refine zg_getf (zd_t dmM_bound 31 rfl) zf_M_23 zs_m0 rfl ?_
    refine zg_iload_n (zd_t dmM_bound 32 rfl) rfl ?_
    refine zg_zald (k := i) (t0 := 2) (zd_t dmM_bound 33 rfl) zs_m5 rfl rfl hi (by decide) ?_
    rw [show zs_su (zs_b T).1 i = true from hs]
    refine zg_if_ne (tgt := 68) (zd_t dmM_bound 34 rfl) (by decide) (fun _ => ?_) (fun hq => absurd hq (by decide))
    refine zg_iconst (v := (nI 0)) (zd_t dmM_bound 37 rfl) (by decide) ?_
    refine zg_callV (zd_t dmM_bound 38 rfl) zl_M_72 zm_mM_refuse zi_mM_refuse zse_mM_refuse zs_m0 zs_cl3 rfl (av := _) (rest := _) (by rfl) (by rfl) (by exact Nat.le_of_ble_eq_true rfl) (zm_refuse false false false) ?_
    rw [show zs_rc false false false = 0 from rfl]
    refine zg_if_eq (tgt := 77) (zd_t dmM_bound 39 rfl) (by decide) (fun _ => ?_) (fun hq => absurd (by decide) hq)
    refine zg_iload_n (zd_t dmM_bound 42 rfl) rfl ?_
    refine zg_if_ne (tgt := 90) (zd_t dmM_bound 43 rfl) (by decide) (fun hq => absurd (by rw [hn0]; rfl) hq) (fun _ => ?_)
    refine zg_aload_n (zd_t dmM_bound 44 rfl) rfl ?_
    refine zg_getf (zd_t dmM_bound 45 rfl) zf_M_16 zs_m0 rfl ?_
    refine zg_iload_n (zd_t dmM_bound 46 rfl) rfl ?_
    refine zg_lald (k := i) (t0 := 1) (zd_t dmM_bound 47 rfl) zs_m3 rfl rfl hi (by decide) ?_
    refine zg_goto (tgt := 96) (zd_t dmM_bound 48 rfl) (by decide) ?_
    exact zg_lret (zd_t dmM_bound 53 rfl) rfl rfl
  · skip
    refine zg_iload_n (zd_t dmM_bound 0 rfl) rfl ?_
    refine zg_callS (zd_t dmM_bound 1 rfl) zl_M_68 zm_mM_isRegister zst_mM_isRegister (av := _) (rest := _) (by rfl) (by rfl) (by exact Nat.le_of_ble_eq_true rfl) (zm_isRegister (nI i)) ?_
    refine zg_istore_n (zd_t dmM_bound 2 rfl) (by decide) rfl ?_
    refine zg_iload_n (zd_t dmM_bound 3 rfl) rfl ?_
    rw [decide_eq_true (zs_rg hi)]
    refine zg_if_eq (tgt := 23) (zd_t dmM_bound 4 rfl) (by decide) (fun hq => absurd hq (by decide)) (fun _ => ?_)
    refine zg_iload_n (zd_t dmM_bound 5 rfl) rfl ?_
    refine zg_i2l (zd_t dmM_bound 6 rfl) rfl ?_
    refine zg_lconst (v := mz_L 0) (zd_t dmM_bound 7 rfl) (by decide) ?_
    refine zg_lconst (v := mz_L 1) (zd_t dmM_bound 8 rfl) (by decide) ?_
    rw [zs_i2l]
    refine zg_callS (zd_t dmM_bound 9 rfl) zl_M_48 zm_mM_in zst_mM_in (av := _) (rest := _) (by rfl) (by rfl) (by exact Nat.le_of_ble_eq_true rfl) (zm_in (x := (nI n).toInt) (y := 0) (z := 1) (zs_wi32 _) (by unfold mz_wi; omega) (by unfold mz_wi; omega)) ?_
    rw [decide_eq_true (by rw [nI_toInt (by omega)]; omega)]
    refine zg_if_eq (tgt := 23) (zd_t dmM_bound 10 rfl) (by decide) (fun hq => absurd hq (by decide)) (fun _ => ?_)
    refine zg_iconst (v := (nI 1)) (zd_t dmM_bound 11 rfl) (by decide) ?_
    refine zg_goto (tgt := 24) (zd_t dmM_bound 12 rfl) (by decide) ?_
    refine zg_istore (zd_t dmM_bound 14 rfl) (by decide) rfl ?_
    refine zg_aload_n (zd_t dmM_bound 15 rfl) rfl ?_
    refine zg_iload_n (zd_t dmM_bound 16 rfl) rfl ?_
    refine zg_if_ne (tgt := 35) (zd_t dmM_bound 17 rfl) (by decide) (fun _ => ?_) (fun hq => absurd hq (by decide))
    refine zg_iconst (v := (nI 0)) (zd_t dmM_bound 20 rfl) (by decide) ?_
    refine zg_iload_n (zd_t dmM_bound 21 rfl) rfl ?_
    refine zg_if_eq (tgt := 49) (zd_t dmM_bound 22 rfl) (by decide) (fun hq => absurd hq (by decide)) (fun _ => ?_)
    refine zg_iload (zd_t dmM_bound 23 rfl) rfl ?_
    refine zg_if_ne (tgt := 49) (zd_t dmM_bound 24 rfl) (by decide) (fun _ => ?_) (fun hq => absurd hq (by decide))
    refine zg_iconst (v := (nI 0)) (zd_t dmM_bound 27 rfl) (by decide) ?_
    refine zg_iload (zd_t dmM_bound 28 rfl) rfl ?_
    refine zg_if_eq (tgt := 68) (zd_t dmM_bound 29 rfl) (by decide) (fun hq => absurd hq (by decide)) (fun _ => ?_)
    refine zg_aload_n (zd_t dmM_bound 30 rfl) rfl ?_
    refine zg_getf (zd_t dmM_bound 31 rfl) zf_M_23 zs_m0 rfl ?_
    refine zg_iload_n (zd_t dmM_bound 32 rfl) rfl ?_
    refine zg_zald (k := i) (t0 := 2) (zd_t dmM_bound 33 rfl) zs_m5 rfl rfl hi (by decide) ?_
    rw [show zs_su (zs_b T).1 i = true from hs]
    refine zg_if_ne (tgt := 68) (zd_t dmM_bound 34 rfl) (by decide) (fun _ => ?_) (fun hq => absurd hq (by decide))
    refine zg_iconst (v := (nI 0)) (zd_t dmM_bound 37 rfl) (by decide) ?_
    refine zg_callV (zd_t dmM_bound 38 rfl) zl_M_72 zm_mM_refuse zi_mM_refuse zse_mM_refuse zs_m0 zs_cl3 rfl (av := _) (rest := _) (by rfl) (by rfl) (by exact Nat.le_of_ble_eq_true rfl) (zm_refuse false false false) ?_
    rw [show zs_rc false false false = 0 from rfl]
    refine zg_if_eq (tgt := 77) (zd_t dmM_bound 39 rfl) (by decide) (fun _ => ?_) (fun hq => absurd (by decide) hq)
    refine zg_iload_n (zd_t dmM_bound 42 rfl) rfl ?_
    refine zg_if_ne (tgt := 90) (zd_t dmM_bound 43 rfl) (by decide) (fun _ => ?_) (fun hq => absurd hq (nI_ne0 (by omega) (by omega)))
    refine zg_aload_n (zd_t dmM_bound 49 rfl) rfl ?_
    refine zg_getf (zd_t dmM_bound 50 rfl) zf_M_20 zs_m0 rfl ?_
    refine zg_iload_n (zd_t dmM_bound 51 rfl) rfl ?_
    refine zg_lald (k := i) (t0 := 1) (zd_t dmM_bound 52 rfl) zs_m4 rfl rfl hi (by decide) ?_
    exact zg_lret (zd_t dmM_bound 53 rfl) rfl rfl
theorem zm_boundX {x y : Int32} (h : ¬ zs_ir x) : zg_C l (zs_E P) (d + 4) mM_bound [.ref (zp_B P + 67), .int x, .int y] (zs_σ P S th (zs_b T) o w) (.inl (some (.long (mz_L 0))), zs_σ P S (nI 1) (zs_b (T)) o w) := by
  refine zg_C_of (by decide +kernel) (Nat.le_of_ble_eq_true rfl) ?_
  refine zg_iload_n (zd_t dmM_bound 0 rfl) rfl ?_
  refine zg_callS (zd_t dmM_bound 1 rfl) zl_M_68 zm_mM_isRegister zst_mM_isRegister (av := _) (rest := _) (by rfl) (by rfl) (by exact Nat.le_of_ble_eq_true rfl) (zm_isRegister x) ?_
  refine zg_istore_n (zd_t dmM_bound 2 rfl) (by decide) rfl ?_
  refine zg_iload_n (zd_t dmM_bound 3 rfl) rfl ?_
  rw [decide_eq_false h]
  refine zg_if_eq (tgt := 23) (zd_t dmM_bound 4 rfl) (by decide) (fun _ => ?_) (fun hq => absurd (by decide) hq)
  refine zg_iconst (v := (nI 0)) (zd_t dmM_bound 13 rfl) (by decide) ?_
  refine zg_istore (zd_t dmM_bound 14 rfl) (by decide) rfl ?_
  refine zg_aload_n (zd_t dmM_bound 15 rfl) rfl ?_
  refine zg_iload_n (zd_t dmM_bound 16 rfl) rfl ?_
  refine zg_if_ne (tgt := 35) (zd_t dmM_bound 17 rfl) (by decide) (fun hq => absurd (by decide) hq) (fun _ => ?_)
  refine zg_iconst (v := (nI 1)) (zd_t dmM_bound 18 rfl) (by decide) ?_
  refine zg_goto (tgt := 36) (zd_t dmM_bound 19 rfl) (by decide) ?_
  refine zg_iload_n (zd_t dmM_bound 21 rfl) rfl ?_
  refine zg_if_eq (tgt := 49) (zd_t dmM_bound 22 rfl) (by decide) (fun _ => ?_) (fun hq => absurd (by decide) hq)
  refine zg_iconst (v := (nI 0)) (zd_t dmM_bound 27 rfl) (by decide) ?_
  refine zg_iload (zd_t dmM_bound 28 rfl) rfl ?_
  refine zg_if_eq (tgt := 68) (zd_t dmM_bound 29 rfl) (by decide) (fun _ => ?_) (fun hq => absurd (by decide) hq)
  refine zg_iconst (v := (nI 0)) (zd_t dmM_bound 37 rfl) (by decide) ?_
  refine zg_callV (zd_t dmM_bound 38 rfl) zl_M_72 zm_mM_refuse zi_mM_refuse zse_mM_refuse zs_m0 zs_cl3 rfl (av := _) (rest := _) (by rfl) (by rfl) (by exact Nat.le_of_ble_eq_true rfl) (zm_refuse true false false) ?_
  rw [show zs_rc true false false = 1 from rfl]
  refine zg_if_eq (tgt := 77) (zd_t dmM_bound 39 rfl) (by decide) (fun hq => absurd hq (by decide)) (fun _ => ?_)
  refine zg_lconst (v := mz_L 0) (zd_t dmM_bound 40 rfl) (by decide) ?_
  exact zg_lret (zd_t dmM_bound 41 rfl) rfl rfl
theorem zm_boundY {n : Int32} (hi : i < 16) (hn : ¬ (n = 0 ∨ n = 1)) : zg_C l (zs_E P) (d + 4) mM_bound [.ref (zp_B P + 67), .int (nI i), .int n] (zs_σ P S th (zs_b T) o w) (.inl (some (.long (mz_L 0))), zs_σ P S (nI 2) (zs_b (T)) o w) := by
  refine zg_C_of (by decide +kernel) (Nat.le_of_ble_eq_true rfl) ?_
  have hn2 : ¬ (0 ≤ n.toInt ∧ n.toInt ≤ 1) := fun h => hn (by
    rcases (by omega : n.toInt = 0 ∨ n.toInt = 1) with h1 | h1
    · exact Or.inl (mi_ext h1)
    · exact Or.inr (mi_ext h1))
  refine zg_iload_n (zd_t dmM_bound 0 rfl) rfl ?_
  refine zg_callS (zd_t dmM_bound 1 rfl) zl_M_68 zm_mM_isRegister zst_mM_isRegister (av := _) (rest := _) (by rfl) (by rfl) (by exact Nat.le_of_ble_eq_true rfl) (zm_isRegister (nI i)) ?_
  refine zg_istore_n (zd_t dmM_bound 2 rfl) (by decide) rfl ?_
  refine zg_iload_n (zd_t dmM_bound 3 rfl) rfl ?_
  rw [decide_eq_true (zs_rg hi)]
  refine zg_if_eq (tgt := 23) (zd_t dmM_bound 4 rfl) (by decide) (fun hq => absurd hq (by decide)) (fun _ => ?_)
  refine zg_iload_n (zd_t dmM_bound 5 rfl) rfl ?_
  refine zg_i2l (zd_t dmM_bound 6 rfl) rfl ?_
  refine zg_lconst (v := mz_L 0) (zd_t dmM_bound 7 rfl) (by decide) ?_
  refine zg_lconst (v := mz_L 1) (zd_t dmM_bound 8 rfl) (by decide) ?_
  rw [zs_i2l]
  refine zg_callS (zd_t dmM_bound 9 rfl) zl_M_48 zm_mM_in zst_mM_in (av := _) (rest := _) (by rfl) (by rfl) (by exact Nat.le_of_ble_eq_true rfl) (zm_in (x := n.toInt) (y := 0) (z := 1) (zs_wi32 _) (by unfold mz_wi; omega) (by unfold mz_wi; omega)) ?_
  rw [decide_eq_false hn2]
  refine zg_if_eq (tgt := 23) (zd_t dmM_bound 10 rfl) (by decide) (fun _ => ?_) (fun hq => absurd (by decide) hq)
  refine zg_iconst (v := (nI 0)) (zd_t dmM_bound 13 rfl) (by decide) ?_
  refine zg_istore (zd_t dmM_bound 14 rfl) (by decide) rfl ?_
  refine zg_aload_n (zd_t dmM_bound 15 rfl) rfl ?_
  refine zg_iload_n (zd_t dmM_bound 16 rfl) rfl ?_
  refine zg_if_ne (tgt := 35) (zd_t dmM_bound 17 rfl) (by decide) (fun _ => ?_) (fun hq => absurd hq (by decide))
  refine zg_iconst (v := (nI 0)) (zd_t dmM_bound 20 rfl) (by decide) ?_
  refine zg_iload_n (zd_t dmM_bound 21 rfl) rfl ?_
  refine zg_if_eq (tgt := 49) (zd_t dmM_bound 22 rfl) (by decide) (fun hq => absurd hq (by decide)) (fun _ => ?_)
  refine zg_iload (zd_t dmM_bound 23 rfl) rfl ?_
  refine zg_if_ne (tgt := 49) (zd_t dmM_bound 24 rfl) (by decide) (fun hq => absurd (by decide) hq) (fun _ => ?_)
  refine zg_iconst (v := (nI 1)) (zd_t dmM_bound 25 rfl) (by decide) ?_
  refine zg_goto (tgt := 50) (zd_t dmM_bound 26 rfl) (by decide) ?_
  refine zg_iload (zd_t dmM_bound 28 rfl) rfl ?_
  refine zg_if_eq (tgt := 68) (zd_t dmM_bound 29 rfl) (by decide) (fun _ => ?_) (fun hq => absurd (by decide) hq)
  refine zg_iconst (v := (nI 0)) (zd_t dmM_bound 37 rfl) (by decide) ?_
  refine zg_callV (zd_t dmM_bound 38 rfl) zl_M_72 zm_mM_refuse zi_mM_refuse zse_mM_refuse zs_m0 zs_cl3 rfl (av := _) (rest := _) (by rfl) (by rfl) (by exact Nat.le_of_ble_eq_true rfl) (zm_refuse false true false) ?_
  rw [show zs_rc false true false = 2 from rfl]
  refine zg_if_eq (tgt := 77) (zd_t dmM_bound 39 rfl) (by decide) (fun hq => absurd hq (by decide)) (fun _ => ?_)
  refine zg_lconst (v := mz_L 0) (zd_t dmM_bound 40 rfl) (by decide) ?_
  exact zg_lret (zd_t dmM_bound 41 rfl) rfl rfl
theorem zm_boundZ {n : Nat} (hi : i < 16) (hn : n < 2) (hs : zs_su T i = false) : zg_C l (zs_E P) (d + 4) mM_bound [.ref (zp_B P + 67), .int (nI i), .int (nI n)] (zs_σ P S th (zs_b T) o w) (.inl (some (.long (mz_L 0))), zs_σ P S (nI 3) (zs_b (T)) o w) := by
  refine zg_C_of (by decide +kernel) (Nat.le_of_ble_eq_true rfl) ?_
  refine zg_iload_n (zd_t dmM_bound 0 rfl) rfl ?_
  refine zg_callS (zd_t dmM_bound 1 rfl) zl_M_68 zm_mM_isRegister zst_mM_isRegister (av := _) (rest := _) (by rfl) (by rfl) (by exact Nat.le_of_ble_eq_true rfl) (zm_isRegister (nI i)) ?_
  refine zg_istore_n (zd_t dmM_bound 2 rfl) (by decide) rfl ?_
  refine zg_iload_n (zd_t dmM_bound 3 rfl) rfl ?_
  rw [decide_eq_true (zs_rg hi)]
  refine zg_if_eq (tgt := 23) (zd_t dmM_bound 4 rfl) (by decide) (fun hq => absurd hq (by decide)) (fun _ => ?_)
  refine zg_iload_n (zd_t dmM_bound 5 rfl) rfl ?_
  refine zg_i2l (zd_t dmM_bound 6 rfl) rfl ?_
  refine zg_lconst (v := mz_L 0) (zd_t dmM_bound 7 rfl) (by decide) ?_
  refine zg_lconst (v := mz_L 1) (zd_t dmM_bound 8 rfl) (by decide) ?_
  rw [zs_i2l]
  refine zg_callS (zd_t dmM_bound 9 rfl) zl_M_48 zm_mM_in zst_mM_in (av := _) (rest := _) (by rfl) (by rfl) (by exact Nat.le_of_ble_eq_true rfl) (zm_in (x := (nI n).toInt) (y := 0) (z := 1) (zs_wi32 _) (by unfold mz_wi; omega) (by unfold mz_wi; omega)) ?_
  rw [decide_eq_true (by rw [nI_toInt (by omega)]; omega)]
  refine zg_if_eq (tgt := 23) (zd_t dmM_bound 10 rfl) (by decide) (fun hq => absurd hq (by decide)) (fun _ => ?_)
  refine zg_iconst (v := (nI 1)) (zd_t dmM_bound 11 rfl) (by decide) ?_
  refine zg_goto (tgt := 24) (zd_t dmM_bound 12 rfl) (by decide) ?_
  refine zg_istore (zd_t dmM_bound 14 rfl) (by decide) rfl ?_
  refine zg_aload_n (zd_t dmM_bound 15 rfl) rfl ?_
  refine zg_iload_n (zd_t dmM_bound 16 rfl) rfl ?_
  refine zg_if_ne (tgt := 35) (zd_t dmM_bound 17 rfl) (by decide) (fun _ => ?_) (fun hq => absurd hq (by decide))
  refine zg_iconst (v := (nI 0)) (zd_t dmM_bound 20 rfl) (by decide) ?_
  refine zg_iload_n (zd_t dmM_bound 21 rfl) rfl ?_
  refine zg_if_eq (tgt := 49) (zd_t dmM_bound 22 rfl) (by decide) (fun hq => absurd hq (by decide)) (fun _ => ?_)
  refine zg_iload (zd_t dmM_bound 23 rfl) rfl ?_
  refine zg_if_ne (tgt := 49) (zd_t dmM_bound 24 rfl) (by decide) (fun _ => ?_) (fun hq => absurd hq (by decide))
  refine zg_iconst (v := (nI 0)) (zd_t dmM_bound 27 rfl) (by decide) ?_
  refine zg_iload (zd_t dmM_bound 28 rfl) rfl ?_
  refine zg_if_eq (tgt := 68) (zd_t dmM_bound 29 rfl) (by decide) (fun hq => absurd hq (by decide)) (fun _ => ?_)
  refine zg_aload_n (zd_t dmM_bound 30 rfl) rfl ?_
  refine zg_getf (zd_t dmM_bound 31 rfl) zf_M_23 zs_m0 rfl ?_
  refine zg_iload_n (zd_t dmM_bound 32 rfl) rfl ?_
  refine zg_zald (k := i) (t0 := 2) (zd_t dmM_bound 33 rfl) zs_m5 rfl rfl hi (by decide) ?_
  rw [show zs_su (zs_b T).1 i = false from hs]
  refine zg_if_ne (tgt := 68) (zd_t dmM_bound 34 rfl) (by decide) (fun hq => absurd (by decide) hq) (fun _ => ?_)
  refine zg_iconst (v := (nI 1)) (zd_t dmM_bound 35 rfl) (by decide) ?_
  refine zg_goto (tgt := 69) (zd_t dmM_bound 36 rfl) (by decide) ?_
  refine zg_callV (zd_t dmM_bound 38 rfl) zl_M_72 zm_mM_refuse zi_mM_refuse zse_mM_refuse zs_m0 zs_cl3 rfl (av := _) (rest := _) (by rfl) (by rfl) (by exact Nat.le_of_ble_eq_true rfl) (zm_refuse false false true) ?_
  rw [show zs_rc false false true = 3 from rfl]
  refine zg_if_eq (tgt := 77) (zd_t dmM_bound 39 rfl) (by decide) (fun hq => absurd hq (by decide)) (fun _ => ?_)
  refine zg_lconst (v := mz_L 0) (zd_t dmM_bound 40 rfl) (by decide) ?_
  exact zg_lret (zd_t dmM_bound 41 rfl) rfl rfl
theorem zm_instruct {x y z u : Int32} (hi : i < 32) (ha : zs_alw x y z u = true) : zg_C l (zs_E P) (d + 4) mM_instruct [.ref (zp_B P + 67), .int (nI i), .int x, .int y, .int z, .int u] (zs_σ P S th (zs_b T) o w) (.inl (none), zs_σ P S (nI 0) (zs_b (zs_sins T i x y z u)) o w) := by
  refine zg_C_of (by decide +kernel) (Nat.le_of_ble_eq_true rfl) ?_
  refine zg_iload_n (zd_t dmM_instruct 0 rfl) rfl ?_
  refine zg_callS (zd_t dmM_instruct 1 rfl) zl_M_133 zm_mM_isInstruction zst_mM_isInstruction (av := _) (rest := _) (by rfl) (by rfl) (by exact Nat.le_of_ble_eq_true rfl) (zm_isInstruction (nI i)) ?_
  refine zg_istore (zd_t dmM_instruct 2 rfl) (by decide) rfl ?_
  refine zg_aload_n (zd_t dmM_instruct 3 rfl) rfl ?_
  refine zg_iload (zd_t dmM_instruct 4 rfl) rfl ?_
  rw [decide_eq_true (zs_rgi hi)]
  refine zg_if_ne (tgt := 16) (zd_t dmM_instruct 5 rfl) (by decide) (fun _ => ?_) (fun hq => absurd hq (by decide))
  refine zg_iconst (v := (nI 0)) (zd_t dmM_instruct 8 rfl) (by decide) ?_
  refine zg_iload (zd_t dmM_instruct 9 rfl) rfl ?_
  refine zg_if_eq (tgt := 38) (zd_t dmM_instruct 10 rfl) (by decide) (fun hq => absurd hq (by decide)) (fun _ => ?_)
  refine zg_iload_n (zd_t dmM_instruct 11 rfl) rfl ?_
  refine zg_iload_n (zd_t dmM_instruct 12 rfl) rfl ?_
  refine zg_iload (zd_t dmM_instruct 13 rfl) rfl ?_
  refine zg_iload (zd_t dmM_instruct 14 rfl) rfl ?_
  refine zg_callS (zd_t dmM_instruct 15 rfl) zl_M_142 zm_mM_mayBe zst_mM_mayBe (av := _) (rest := _) (by rfl) (by rfl) (by exact Nat.le_of_ble_eq_true rfl) (zm_mayBe x y z u) ?_
  rw [ha]
  refine zg_if_ne (tgt := 38) (zd_t dmM_instruct 16 rfl) (by decide) (fun _ => ?_) (fun hq => absurd hq (by decide))
  refine zg_iconst (v := (nI 0)) (zd_t dmM_instruct 19 rfl) (by decide) ?_
  refine zg_iconst (v := (nI 0)) (zd_t dmM_instruct 20 rfl) (by decide) ?_
  refine zg_callV (zd_t dmM_instruct 21 rfl) zl_M_72 zm_mM_refuse zi_mM_refuse zse_mM_refuse zs_m0 zs_cl3 rfl (av := _) (rest := _) (by rfl) (by rfl) (by exact Nat.le_of_ble_eq_true rfl) (zm_refuse false false false) ?_
  rw [show zs_rc false false false = 0 from rfl]
  refine zg_if_eq (tgt := 47) (zd_t dmM_instruct 22 rfl) (by decide) (fun _ => ?_) (fun hq => absurd (by decide) hq)
  refine zg_aload_n (zd_t dmM_instruct 24 rfl) rfl ?_
  refine zg_getf (zd_t dmM_instruct 25 rfl) zf_M_30 zs_m0 rfl ?_
  refine zg_iconst (v := (nI 4)) (zd_t dmM_instruct 26 rfl) (by decide) ?_
  refine zg_iload_n (zd_t dmM_instruct 27 rfl) rfl ?_
  refine zg_imul (zd_t dmM_instruct 28 rfl) ?_
  refine zg_iload_n (zd_t dmM_instruct 29 rfl) rfl ?_
  refine zg_iast (k := 4 * i + 0) (t0 := 0) (zd_t dmM_instruct 30 rfl) zs_m7 rfl (by rw [pk_mul]; rfl) (by omega) (by decide) (zs_um_pg (k := 0) (by decide)) ?_
  refine zg_aload_n (zd_t dmM_instruct 31 rfl) rfl ?_
  refine zg_getf (zd_t dmM_instruct 32 rfl) zf_M_30 zs_m0 rfl ?_
  refine zg_iconst (v := (nI 4)) (zd_t dmM_instruct 33 rfl) (by decide) ?_
  refine zg_iload_n (zd_t dmM_instruct 34 rfl) rfl ?_
  refine zg_imul (zd_t dmM_instruct 35 rfl) ?_
  refine zg_iconst (v := (nI 1)) (zd_t dmM_instruct 36 rfl) (by decide) ?_
  refine zg_iadd (zd_t dmM_instruct 37 rfl) ?_
  refine zg_iload_n (zd_t dmM_instruct 38 rfl) rfl ?_
  refine zg_iast (k := 4 * i + 1) (t0 := 0) (zd_t dmM_instruct 39 rfl) zs_m7 rfl (zs_ix4 i 1) (by omega) (by decide) (zs_um_pg (k := 1) (by decide)) ?_
  refine zg_aload_n (zd_t dmM_instruct 40 rfl) rfl ?_
  refine zg_getf (zd_t dmM_instruct 41 rfl) zf_M_30 zs_m0 rfl ?_
  refine zg_iconst (v := (nI 4)) (zd_t dmM_instruct 42 rfl) (by decide) ?_
  refine zg_iload_n (zd_t dmM_instruct 43 rfl) rfl ?_
  refine zg_imul (zd_t dmM_instruct 44 rfl) ?_
  refine zg_iconst (v := (nI 2)) (zd_t dmM_instruct 45 rfl) (by decide) ?_
  refine zg_iadd (zd_t dmM_instruct 46 rfl) ?_
  refine zg_iload (zd_t dmM_instruct 47 rfl) rfl ?_
  refine zg_iast (k := 4 * i + 2) (t0 := 0) (zd_t dmM_instruct 48 rfl) zs_m7 rfl (zs_ix4 i 2) (by omega) (by decide) (zs_um_pg (k := 2) (by decide)) ?_
  refine zg_aload_n (zd_t dmM_instruct 49 rfl) rfl ?_
  refine zg_getf (zd_t dmM_instruct 50 rfl) zf_M_30 zs_m0 rfl ?_
  refine zg_iconst (v := (nI 4)) (zd_t dmM_instruct 51 rfl) (by decide) ?_
  refine zg_iload_n (zd_t dmM_instruct 52 rfl) rfl ?_
  refine zg_imul (zd_t dmM_instruct 53 rfl) ?_
  refine zg_iconst (v := (nI 3)) (zd_t dmM_instruct 54 rfl) (by decide) ?_
  refine zg_iadd (zd_t dmM_instruct 55 rfl) ?_
  refine zg_iload (zd_t dmM_instruct 56 rfl) rfl ?_
  refine zg_iast (k := 4 * i + 3) (t0 := 0) (zd_t dmM_instruct 57 rfl) zs_m7 rfl (zs_ix4 i 3) (by omega) (by decide) (zs_um_pg (k := 3) (by decide)) ?_
  exact zg_vret (zd_t dmM_instruct 58 rfl) rfl rfl
theorem zm_instructX {r x y z u : Int32} (h : ¬ zs_ii r) : zg_C l (zs_E P) (d + 4) mM_instruct [.ref (zp_B P + 67), .int r, .int x, .int y, .int z, .int u] (zs_σ P S th (zs_b T) o w) (.inl (none), zs_σ P S (nI 1) (zs_b (T)) o w) := by
  refine zg_C_of (by decide +kernel) (Nat.le_of_ble_eq_true rfl) ?_
  refine zg_iload_n (zd_t dmM_instruct 0 rfl) rfl ?_
  refine zg_callS (zd_t dmM_instruct 1 rfl) zl_M_133 zm_mM_isInstruction zst_mM_isInstruction (av := _) (rest := _) (by rfl) (by rfl) (by exact Nat.le_of_ble_eq_true rfl) (zm_isInstruction r) ?_
  refine zg_istore (zd_t dmM_instruct 2 rfl) (by decide) rfl ?_
  refine zg_aload_n (zd_t dmM_instruct 3 rfl) rfl ?_
  refine zg_iload (zd_t dmM_instruct 4 rfl) rfl ?_
  rw [decide_eq_false h]
  refine zg_if_ne (tgt := 16) (zd_t dmM_instruct 5 rfl) (by decide) (fun hq => absurd (by decide) hq) (fun _ => ?_)
  refine zg_iconst (v := (nI 1)) (zd_t dmM_instruct 6 rfl) (by decide) ?_
  refine zg_goto (tgt := 17) (zd_t dmM_instruct 7 rfl) (by decide) ?_
  refine zg_iload (zd_t dmM_instruct 9 rfl) rfl ?_
  refine zg_if_eq (tgt := 38) (zd_t dmM_instruct 10 rfl) (by decide) (fun _ => ?_) (fun hq => absurd (by decide) hq)
  refine zg_iconst (v := (nI 0)) (zd_t dmM_instruct 19 rfl) (by decide) ?_
  refine zg_iconst (v := (nI 0)) (zd_t dmM_instruct 20 rfl) (by decide) ?_
  refine zg_callV (zd_t dmM_instruct 21 rfl) zl_M_72 zm_mM_refuse zi_mM_refuse zse_mM_refuse zs_m0 zs_cl3 rfl (av := _) (rest := _) (by rfl) (by rfl) (by exact Nat.le_of_ble_eq_true rfl) (zm_refuse true false false) ?_
  rw [show zs_rc true false false = 1 from rfl]
  refine zg_if_eq (tgt := 47) (zd_t dmM_instruct 22 rfl) (by decide) (fun hq => absurd hq (by decide)) (fun _ => ?_)
  exact zg_vret (zd_t dmM_instruct 23 rfl) rfl rfl
theorem zm_instructY {r x y z u : Int32} (h : zs_ii r) (ha : zs_alw x y z u = false) : zg_C l (zs_E P) (d + 4) mM_instruct [.ref (zp_B P + 67), .int r, .int x, .int y, .int z, .int u] (zs_σ P S th (zs_b T) o w) (.inl (none), zs_σ P S (nI 2) (zs_b (T)) o w) := by
  refine zg_C_of (by decide +kernel) (Nat.le_of_ble_eq_true rfl) ?_
  refine zg_iload_n (zd_t dmM_instruct 0 rfl) rfl ?_
  refine zg_callS (zd_t dmM_instruct 1 rfl) zl_M_133 zm_mM_isInstruction zst_mM_isInstruction (av := _) (rest := _) (by rfl) (by rfl) (by exact Nat.le_of_ble_eq_true rfl) (zm_isInstruction r) ?_
  refine zg_istore (zd_t dmM_instruct 2 rfl) (by decide) rfl ?_
  refine zg_aload_n (zd_t dmM_instruct 3 rfl) rfl ?_
  refine zg_iload (zd_t dmM_instruct 4 rfl) rfl ?_
  rw [decide_eq_true h]
  refine zg_if_ne (tgt := 16) (zd_t dmM_instruct 5 rfl) (by decide) (fun _ => ?_) (fun hq => absurd hq (by decide))
  refine zg_iconst (v := (nI 0)) (zd_t dmM_instruct 8 rfl) (by decide) ?_
  refine zg_iload (zd_t dmM_instruct 9 rfl) rfl ?_
  refine zg_if_eq (tgt := 38) (zd_t dmM_instruct 10 rfl) (by decide) (fun hq => absurd hq (by decide)) (fun _ => ?_)
  refine zg_iload_n (zd_t dmM_instruct 11 rfl) rfl ?_
  refine zg_iload_n (zd_t dmM_instruct 12 rfl) rfl ?_
  refine zg_iload (zd_t dmM_instruct 13 rfl) rfl ?_
  refine zg_iload (zd_t dmM_instruct 14 rfl) rfl ?_
  refine zg_callS (zd_t dmM_instruct 15 rfl) zl_M_142 zm_mM_mayBe zst_mM_mayBe (av := _) (rest := _) (by rfl) (by rfl) (by exact Nat.le_of_ble_eq_true rfl) (zm_mayBe x y z u) ?_
  rw [ha]
  refine zg_if_ne (tgt := 38) (zd_t dmM_instruct 16 rfl) (by decide) (fun hq => absurd (by decide) hq) (fun _ => ?_)
  refine zg_iconst (v := (nI 1)) (zd_t dmM_instruct 17 rfl) (by decide) ?_
  refine zg_goto (tgt := 39) (zd_t dmM_instruct 18 rfl) (by decide) ?_
  refine zg_iconst (v := (nI 0)) (zd_t dmM_instruct 20 rfl) (by decide) ?_
  refine zg_callV (zd_t dmM_instruct 21 rfl) zl_M_72 zm_mM_refuse zi_mM_refuse zse_mM_refuse zs_m0 zs_cl3 rfl (av := _) (rest := _) (by rfl) (by rfl) (by exact Nat.le_of_ble_eq_true rfl) (zm_refuse false true false) ?_
  rw [show zs_rc false true false = 2 from rfl]
  refine zg_if_eq (tgt := 47) (zd_t dmM_instruct 22 rfl) (by decide) (fun hq => absurd hq (by decide)) (fun _ => ?_)
  exact zg_vret (zd_t dmM_instruct 23 rfl) rfl rfl
theorem zm_stopped  : zg_C l (zs_E P) (d + 4) mM_stopped [.ref (zp_B P + 67)] (zs_σ P S th (zs_b T) o w) (.inl (some (.int (zs_sr T))), zs_σ P S (nI 0) (zs_b (T)) o w) := by
  refine zg_C_of (by decide +kernel) (Nat.le_of_ble_eq_true rfl) ?_
  refine zg_aload_n (zd_t dmM_stopped 0 rfl) rfl ?_
  refine zg_iconst (v := (nI 0)) (zd_t dmM_stopped 1 rfl) (by decide) ?_
  refine zg_putf (zd_t dmM_stopped 2 rfl) zf_M_42 zt_3_0 zs_m0 (Nat.le_of_ble_eq_true rfl) rfl rfl zs_um_th ?_
  refine zg_aload_n (zd_t dmM_stopped 3 rfl) rfl ?_
  refine zg_getf (zd_t dmM_stopped 4 rfl) zf_M_155 zs_m0 rfl ?_
  exact zg_iret (zd_t dmM_stopped 5 rfl) rfl rfl
theorem zm_thrown {S2 : zs_S2} : zg_C l (zs_E P) d mM_thrown [.ref (zp_B P + 67)] (zs_σ P S th S2 o w) (.inl (some (.int th)), zs_σ P S th S2 o w) := by
  refine zg_C_of (by decide +kernel) (Nat.le_of_ble_eq_true rfl) ?_
  refine zg_aload_n (zd_t dmM_thrown 0 rfl) rfl ?_
  refine zg_getf (zd_t dmM_thrown 1 rfl) zf_M_42 zs_m0 rfl ?_
  exact zg_iret (zd_t dmM_thrown 2 rfl) rfl rfl
end ZM17
end
section
theorem zs_stw {T : zs_S} {n x y z : Nat} {a b c : Int32} (h : 1 ≤ n ∧ n < 5) (hx : x < 16) (hy : y < 16) (hz : z < 16) (ex : a = nI x) (ey : b = nI y) (ez : c = nI z) : zs_stn T n a b c = zs_scmb T (n - 1) x y z := by
  unfold zs_stn
  rw [if_neg (by omega), if_neg (by omega), if_neg (by omega), if_neg (by omega), if_neg (by omega), if_pos h, ex, ey, ez, zs_n_nI (by omega), zs_n_nI (by omega), zs_n_nI (by omega)]
theorem zs_st5 {T : zs_S} {x y z : Nat} {a b c : Int32} (hx : x < 16) (hy : y < 16) (hz : z < 64) (ex : a = nI x) (ey : b = nI y) (ez : c = nI z) : zs_stn T 5 a b c = zs_ssc T x y z false := by
  unfold zs_stn
  rw [if_neg (by omega), if_neg (by omega), if_pos rfl, ex, ey, ez, zs_n_nI (by omega), zs_n_nI (by omega), zs_n_nI (by omega)]
theorem zs_st6 {T : zs_S} {x y : Nat} {a b c : Int32} (hx : x < 16) (hy : y < 16) (ex : a = nI x) (ey : b = nI y) : zs_stn T 6 a b c = zs_scp T x y := by
  unfold zs_stn
  rw [if_neg (by omega), if_neg (by omega), if_neg (by omega), if_pos rfl, ex, ey, zs_n_nI (by omega), zs_n_nI (by omega)]
theorem zs_st11 {T : zs_S} {x : Nat} {a b c : Int32} (hx : x < 16) (ex : a = nI x) : zs_stn T 11 a b c = zs_sput T x b.toInt := by
  unfold zs_stn
  rw [if_neg (by omega), if_neg (by omega), if_neg (by omega), if_neg (by omega), if_pos rfl, ex, zs_n_nI (by omega)]
theorem zs_rs3 {j : Nat} (h : j < 32) : zs_rs (nI j) = 3 := by
  unfold zs_rs
  rw [if_neg (fun h2 => by
    have h3 := congrArg Int32.toInt h2
    rw [nI_toInt (by omega)] at h3
    have h4 : ((-1 : Int32).toInt) = -1 := by decide
    omega), if_pos (zs_rgi h)]
theorem zs_rn_out (n : Nat) (T : zs_S) {j : Int32} (h : ¬ zs_ii j) : zs_rn (n + 1) T j = (0, j, T) := by
  unfold zs_rn
  rw [if_neg h]
theorem zs_rn_in (n : Nat) (T : zs_S) {j : Nat} (h : j < 32) : zs_rn (n + 1) T (nI j) = ((zs_rn n (zs_st T j) (zs_nx T j)).1 + 1, (zs_rn n (zs_st T j) (zs_nx T j)).2) := by
  have e : zs_n (nI j) = j := zs_n_nI (by omega)
  conv => lhs; unfold zs_rn
  rw [if_pos (zs_rgi h), e]
theorem zs_rn_stop : ∀ (n : Nat) (T : zs_S), zs_rn n T (-1) = (0, -1, T)
  | 0, _ => rfl
  | n + 1, T => zs_rn_out n T (by decide)
theorem zs_st_0 {T : zs_S} {j : Nat} (h : zs_pg T j 0 = 0) (_ : Nat) : zs_st T j = T := by
  unfold zs_st
  rw [h, show zs_n 0 = 0 from rfl]
  exact zs_st0 T _ _ _ (by omega)
theorem zs_nx_0 {T : zs_S} {j : Nat} (h : zs_pg T j 0 = 0) : zs_nx T j = -1 := by
  unfold zs_nx
  rw [h, show zs_n 0 = 0 from rfl]
  exact zs_nx0 T j _ _
theorem zs_nx_le {T : zs_S} {j : Nat} (hI : zs_inv T) (hj : j < 32) (h0 : zs_pg T j 0 ≠ 0) : ∃ j2, j2 ≤ 32 ∧ zs_nx T j = nI j2 := by
  obtain ⟨n, hn, ek, hal⟩ := zs_alw_k (hI.2.2 j hj)
  have e2 : zs_nx T j = zs_nxn T j n (zs_pg T j 1) (zs_pg T j 2) := by unfold zs_nx; rw [ek, zs_n_nI (by omega)]
  have hn0 : n ≠ 0 := fun h => h0 (by rw [ek, h]; rfl)
  rw [e2]
  by_cases h1 : (1 ≤ n ∧ n < 7) ∨ n = 9 ∨ n = 11
  · exact ⟨j + 1, by omega, zs_nx1 T j _ _ h1⟩
  · rcases (by omega : n = 7 ∨ n = 8 ∨ n = 10) with rfl | rfl | rfl
    · obtain ⟨x, hx, ex⟩ := zs_iiN (zs_al_7 hal)
      exact ⟨x, by omega, (zs_nx7 T j _ _).trans ex⟩
    · obtain ⟨x, hx, ex⟩ := zs_irN (zs_al_8 hal).1
      obtain ⟨y, hy, ey⟩ := zs_iiN (zs_al_8 hal).2
      rw [ex, ey, zs_nx8 T j _ hx]
      by_cases hv : mz_val (zs_re T x) < 0
      · exact ⟨y, by omega, if_pos hv⟩
      · exact ⟨j + 1, by omega, if_neg hv⟩
    · obtain ⟨x, hx, ex⟩ := zs_iiN (zs_al_10 hal)
      rw [ex, zs_nx10]
      by_cases hv : zs_cn T - nI 1 = 0
      · exact ⟨j + 1, by omega, if_pos hv⟩
      · exact ⟨x, by omega, if_neg hv⟩
theorem zs_sr_stn (T : zs_S) (n : Nat) (a b c : Int32) : zs_sr (zs_stn T n a b c) = zs_sr T := by
  unfold zs_stn
  split
  · rfl
  · split
    · rfl
    · split
      · rfl
      · split
        · rfl
        · split
          · rfl
          · split <;> rfl
theorem zs_sr_st (T : zs_S) (j : Nat) : zs_sr (zs_st T j) = zs_sr T := zs_sr_stn T _ _ _ _
/-- the reason that stood before does not count -/
theorem zs_stn_ssr (T : zs_S) (z : Int32) (n : Nat) (a b c : Int32) : zs_stn (zs_ssr T z) n a b c = zs_ssr (zs_stn T n a b c) z := by
  unfold zs_stn
  split
  · rfl
  · split
    · rfl
    · split
      · rfl
      · split
        · rfl
        · split
          · rfl
          · split <;> rfl
theorem zs_st_ssr (T : zs_S) (z : Int32) (j : Nat) : zs_st (zs_ssr T z) j = zs_ssr (zs_st T j) z := zs_stn_ssr T z _ _ _ _
theorem zs_nx_ssr (T : zs_S) (z : Int32) (j : Nat) : zs_nx (zs_ssr T z) j = zs_nx T j := rfl
theorem zs_rn_ssr0 (z : Int32) : ∀ (n : Nat) (T : zs_S) (j : Int32), zs_rn n (zs_ssr T z) j = ((zs_rn n T j).1, (zs_rn n T j).2.1, zs_ssr (zs_rn n T j).2.2 z)
  | 0, _, _ => rfl
  | n + 1, T, j => by
    by_cases h : zs_ii j
    · have e := zs_rn_ssr0 z n (zs_st T (zs_n j)) (zs_nx T (zs_n j))
      conv => lhs; unfold zs_rn
      conv => rhs; unfold zs_rn
      rw [if_pos h, if_pos h, zs_st_ssr, zs_nx_ssr, e]
    · rw [zs_rn_out n _ h, zs_rn_out n _ h]
theorem zs_ssr_ssr (T : zs_S) (y z : Int32) : zs_ssr (zs_ssr T y) z = zs_ssr T z := rfl
theorem zs_rn_ssr (f : Nat) (T : zs_S) (z : Int32) : (zs_rn f (zs_ssr T z) (nI 0)).1 = (zs_rn f T (nI 0)).1 := by rw [zs_rn_ssr0]
section ZM18
variable {l : Launch} {P : zs_P} {d : Nat} {S : zs_S} {T : zs_S} {th : Int32} {o : Int64} {w : Nat × Nat} {e a b i k : Nat}
theorem zm_pf_5 {x y z : Nat} (hx : x < 16) (hy : y < 16) (hz : z < 64) (hp : mz_pop z ≤ 4) (ex : zs_pg T i 1 = nI x) (ey : zs_pg T i 2 = nI y) (ez : zs_pg T i 3 = nI z) (hI : zs_inv T) : zg_G l (zs_E P) (d + 3) mM_perform 84 [(4, .int (zs_pg T i 3)), (3, .int (zs_pg T i 2)), (2, .int (zs_pg T i 1)), (0, .ref (zp_B P + 67)), (1, .int (nI i))] [] (zs_σ P S th (zs_b T) o w) (.inl (some (.int (nI (i + 1)))), zs_σ P S th (zs_b (zs_ssc T x y z false)) o w) := by
  rw [ex, ey, ez]
  refine zg_aload_n (zd_t dmM_perform 34 rfl) rfl ?_
  refine zg_iload_n (zd_t dmM_perform 35 rfl) rfl ?_
  refine zg_iload_n (zd_t dmM_perform 36 rfl) rfl ?_
  refine zg_iload (zd_t dmM_perform 37 rfl) rfl ?_
  refine zg_iconst (v := (nI 0)) (zd_t dmM_perform 38 rfl) (by decide) ?_
  refine zg_callV (zd_t dmM_perform 39 rfl) zl_M_118 zm_mM_scaleBy zi_mM_scaleBy zse_mM_scaleBy zs_m0 zs_cl3 rfl (av := _) (rest := _) (by rfl) (by rfl) (by exact Nat.le_of_ble_eq_true rfl) (zm_scaleBy (n := false) hx hy hz hp hI) ?_
  refine zg_goto (tgt := 186) (zd_t dmM_perform 40 rfl) (by decide) ?_
  refine zg_iload_n (zd_t dmM_perform 98 rfl) rfl ?_
  refine zg_iconst (v := (nI 1)) (zd_t dmM_perform 99 rfl) (by decide) ?_
  refine zg_iadd (zd_t dmM_perform 100 rfl) ?_
  rw [nI_add]
  exact zg_iret (zd_t dmM_perform 101 rfl) rfl rfl
theorem zm_pf_6 {x y : Nat} (hx : x < 16) (hy : y < 16) (ex : zs_pg T i 1 = nI x) (ey : zs_pg T i 2 = nI y) : zg_G l (zs_E P) (d + 3) mM_perform 96 [(4, .int (zs_pg T i 3)), (3, .int (zs_pg T i 2)), (2, .int (zs_pg T i 1)), (0, .ref (zp_B P + 67)), (1, .int (nI i))] [] (zs_σ P S th (zs_b T) o w) (.inl (some (.int (nI (i + 1)))), zs_σ P S th (zs_b (zs_scp T x y)) o w) := by
  rw [ex, ey]
  refine zg_aload_n (zd_t dmM_perform 41 rfl) rfl ?_
  refine zg_iload_n (zd_t dmM_perform 42 rfl) rfl ?_
  refine zg_iload_n (zd_t dmM_perform 43 rfl) rfl ?_
  refine zg_callV (zd_t dmM_perform 44 rfl) zl_M_146 zm_mM_copy zi_mM_copy zse_mM_copy zs_m0 zs_cl3 rfl (av := _) (rest := _) (by rfl) (by rfl) (by exact Nat.le_of_ble_eq_true rfl) (zm_copy hx hy) ?_
  refine zg_goto (tgt := 186) (zd_t dmM_perform 45 rfl) (by decide) ?_
  refine zg_iload_n (zd_t dmM_perform 98 rfl) rfl ?_
  refine zg_iconst (v := (nI 1)) (zd_t dmM_perform 99 rfl) (by decide) ?_
  refine zg_iadd (zd_t dmM_perform 100 rfl) ?_
  rw [nI_add]
  exact zg_iret (zd_t dmM_perform 101 rfl) rfl rfl
theorem zm_pf_7  : zg_G l (zs_E P) (d + 3) mM_perform 105 [(4, .int (zs_pg T i 3)), (3, .int (zs_pg T i 2)), (2, .int (zs_pg T i 1)), (0, .ref (zp_B P + 67)), (1, .int (nI i))] [] (zs_σ P S th (zs_b T) o w) (.inl (some (.int (zs_pg T i 1))), zs_σ P S th (zs_b (T)) o w) := by
  refine zg_iload_n (zd_t dmM_perform 46 rfl) rfl ?_
  exact zg_iret (zd_t dmM_perform 47 rfl) rfl rfl
theorem zm_pf_8 {x : Nat} (hx : x < 16) (ex : zs_pg T i 1 = nI x) (hI : zs_inv T) : zg_G l (zs_E P) (d + 3) mM_perform 107 [(4, .int (zs_pg T i 3)), (3, .int (zs_pg T i 2)), (2, .int (zs_pg T i 1)), (0, .ref (zp_B P + 67)), (1, .int (nI i))] [] (zs_σ P S th (zs_b T) o w) (.inl (some (.int (if mz_val (zs_re T x) < 0 then zs_pg T i 2 else nI (i + 1)))), zs_σ P S th (zs_b (T)) o w) := by
  have hv := mz_val_in (zs_re T x)
  have h0 : mz_in 0 := by unfold mz_in; omega
  rw [ex]
  refine zg_aload_n (zd_t dmM_perform 48 rfl) rfl ?_
  refine zg_iload_n (zd_t dmM_perform 49 rfl) rfl ?_
  refine zg_callV (zd_t dmM_perform 50 rfl) zl_M_60 zm_mM_valueOf zi_mM_valueOf zse_mM_valueOf zs_m0 zs_cl3 rfl (av := _) (rest := _) (by rfl) (by rfl) (by exact Nat.le_of_ble_eq_true rfl) (zm_valueOf hx (hI.1 x hx)) ?_
  refine zg_lconst (v := mz_L 0) (zd_t dmM_perform 51 rfl) (by decide) ?_
  refine zg_lcmp (zd_t dmM_perform 52 rfl) ?_
  refine zg_if_ge (tgt := 121) (zd_t dmM_perform 53 rfl) (by decide) (fun h1 => ?_) (fun h1 => ?_)
  · rw [lg_cmp_ge, mz_le h0 hv] at h1
    rw [if_neg (by omega)]
    refine zg_iload_n (zd_t dmM_perform 56 rfl) rfl ?_
    refine zg_iconst (v := (nI 1)) (zd_t dmM_perform 57 rfl) (by decide) ?_
    refine zg_iadd (zd_t dmM_perform 58 rfl) ?_
    rw [nI_add]
    exact zg_iret (zd_t dmM_perform 59 rfl) rfl rfl
  · rw [lg_cmp_ge, mz_le h0 hv] at h1
    rw [if_pos (by omega)]
    refine zg_iload_n (zd_t dmM_perform 54 rfl) rfl ?_
    refine zg_goto (tgt := 124) (zd_t dmM_perform 55 rfl) (by decide) ?_
    exact zg_iret (zd_t dmM_perform 59 rfl) rfl rfl
theorem zm_pf_9  : zg_G l (zs_E P) (d + 3) mM_perform 125 [(4, .int (zs_pg T i 3)), (3, .int (zs_pg T i 2)), (2, .int (zs_pg T i 1)), (0, .ref (zp_B P + 67)), (1, .int (nI i))] [] (zs_σ P S th (zs_b T) o w) (.inl (some (.int (nI (i + 1)))), zs_σ P S th (zs_b (zs_scn T (zs_pg T i 1))) o w) := by
  refine zg_aload_n (zd_t dmM_perform 60 rfl) rfl ?_
  refine zg_iload_n (zd_t dmM_perform 61 rfl) rfl ?_
  refine zg_putf (zd_t dmM_perform 62 rfl) zf_M_150 zt_3_10 zs_m0 (Nat.le_of_ble_eq_true rfl) rfl rfl zs_um_cn ?_
  refine zg_goto (tgt := 186) (zd_t dmM_perform 63 rfl) (by decide) ?_
  refine zg_iload_n (zd_t dmM_perform 98 rfl) rfl ?_
  refine zg_iconst (v := (nI 1)) (zd_t dmM_perform 99 rfl) (by decide) ?_
  refine zg_iadd (zd_t dmM_perform 100 rfl) ?_
  rw [nI_add]
  exact zg_iret (zd_t dmM_perform 101 rfl) rfl rfl
theorem zm_pf_10  : zg_G l (zs_E P) (d + 3) mM_perform 133 [(4, .int (zs_pg T i 3)), (3, .int (zs_pg T i 2)), (2, .int (zs_pg T i 1)), (0, .ref (zp_B P + 67)), (1, .int (nI i))] [] (zs_σ P S th (zs_b T) o w) (.inl (some (.int (if zs_cn T - nI 1 = 0 then nI (i + 1) else zs_pg T i 1))), zs_σ P S th (zs_b (zs_scn T (zs_cn T - nI 1))) o w) := by
  refine zg_aload_n (zd_t dmM_perform 64 rfl) rfl ?_
  refine zg_dup (zd_t dmM_perform 65 rfl) rfl ?_
  refine zg_getf (zd_t dmM_perform 66 rfl) zf_M_150 zs_m0 rfl ?_
  refine zg_iconst (v := (nI 1)) (zd_t dmM_perform 67 rfl) (by decide) ?_
  refine zg_isub (zd_t dmM_perform 68 rfl) ?_
  refine zg_putf (zd_t dmM_perform 69 rfl) zf_M_150 zt_3_10 zs_m0 (Nat.le_of_ble_eq_true rfl) rfl rfl zs_um_cn ?_
  refine zg_aload_n (zd_t dmM_perform 70 rfl) rfl ?_
  refine zg_getf (zd_t dmM_perform 71 rfl) zf_M_150 zs_m0 rfl ?_
  refine zg_if_eq (tgt := 154) (zd_t dmM_perform 72 rfl) (by decide) (fun h1 => ?_) (fun h1 => ?_)
  · have h1 : zs_cn T - nI 1 = 0 := h1
    rw [if_pos h1]
    refine zg_iload_n (zd_t dmM_perform 75 rfl) rfl ?_
    refine zg_iconst (v := (nI 1)) (zd_t dmM_perform 76 rfl) (by decide) ?_
    refine zg_iadd (zd_t dmM_perform 77 rfl) ?_
    rw [nI_add]
    exact zg_iret (zd_t dmM_perform 78 rfl) rfl rfl
  · have h1 : ¬ zs_cn T - nI 1 = 0 := h1
    rw [if_neg h1]
    refine zg_iload_n (zd_t dmM_perform 73 rfl) rfl ?_
    refine zg_goto (tgt := 157) (zd_t dmM_perform 74 rfl) (by decide) ?_
    exact zg_iret (zd_t dmM_perform 78 rfl) rfl rfl
theorem zm_pf_11 {x : Nat} (hx : x < 16) (ex : zs_pg T i 1 = nI x) (hb : -128 ≤ (zs_pg T i 2).toInt ∧ (zs_pg T i 2).toInt ≤ 127) : zg_G l (zs_E P) (d + 3) mM_perform 158 [(4, .int (zs_pg T i 3)), (3, .int (zs_pg T i 2)), (2, .int (zs_pg T i 1)), (0, .ref (zp_B P + 67)), (1, .int (nI i))] [] (zs_σ P S th (zs_b T) o w) (.inl (some (.int (nI (i + 1)))), zs_σ P S th (zs_b (zs_sput T x (zs_pg T i 2).toInt)) o w) := by
  rw [ex]
  refine zg_aload_n (zd_t dmM_perform 79 rfl) rfl ?_
  refine zg_iload_n (zd_t dmM_perform 80 rfl) rfl ?_
  refine zg_iload_n (zd_t dmM_perform 81 rfl) rfl ?_
  refine zg_i2l (zd_t dmM_perform 82 rfl) rfl ?_
  rw [zs_i2l]
  refine zg_callV (zd_t dmM_perform 83 rfl) zl_M_76 zm_mM_put zi_mM_put zse_mM_put zs_m0 zs_cl3 rfl (av := _) (rest := _) (by rfl) (by rfl) (by exact Nat.le_of_ble_eq_true rfl) (zm_put hx (by unfold mz_in; omega)) ?_
  refine zg_goto (tgt := 186) (zd_t dmM_perform 84 rfl) (by decide) ?_
  refine zg_iload_n (zd_t dmM_perform 98 rfl) rfl ?_
  refine zg_iconst (v := (nI 1)) (zd_t dmM_perform 99 rfl) (by decide) ?_
  refine zg_iadd (zd_t dmM_perform 100 rfl) ?_
  rw [nI_add]
  exact zg_iret (zd_t dmM_perform 101 rfl) rfl rfl
theorem zm_pf_w {n x y z : Nat} (hi : i < 32) (h1 : 1 ≤ n) (h5 : n < 5) (en : zs_pg T i 0 = nI n) (hx : x < 16) (hy : y < 16) (hz : z < 16) (ex : zs_pg T i 1 = nI x) (ey : zs_pg T i 2 = nI y) (ez : zs_pg T i 3 = nI z) (hI : zs_inv T) : zg_G l (zs_E P) (d + 3) mM_perform 168 [(4, .int (zs_pg T i 3)), (3, .int (zs_pg T i 2)), (2, .int (zs_pg T i 1)), (0, .ref (zp_B P + 67)), (1, .int (nI i))] [] (zs_σ P S th (zs_b T) o w) (.inl (some (.int (nI (i + 1)))), zs_σ P S th (zs_b (zs_scmb T (n - 1) x y z)) o w) := by
  rw [ex, ey, ez]
  refine zg_aload_n (zd_t dmM_perform 85 rfl) rfl ?_
  refine zg_aload_n (zd_t dmM_perform 86 rfl) rfl ?_
  refine zg_getf (zd_t dmM_perform 87 rfl) zf_M_30 zs_m0 rfl ?_
  refine zg_iconst (v := (nI 4)) (zd_t dmM_perform 88 rfl) (by decide) ?_
  refine zg_iload_n (zd_t dmM_perform 89 rfl) rfl ?_
  refine zg_imul (zd_t dmM_perform 90 rfl) ?_
  refine zg_iald (k := 4 * i + 0) (t0 := 0) (zd_t dmM_perform 91 rfl) zs_m7 rfl (by rw [pk_mul]; rfl) (by omega) (by decide) ?_
  rw [(zs_q4 (show 0 < 4 by decide)).1, (zs_q4 (show 0 < 4 by decide)).2, show zs_pg (zs_b T).1 i 0 = nI n from en]
  refine zg_iconst (v := (nI 1)) (zd_t dmM_perform 92 rfl) (by decide) ?_
  refine zg_isub (zd_t dmM_perform 93 rfl) ?_
  rw [pk_sub h1]
  refine zg_iload_n (zd_t dmM_perform 94 rfl) rfl ?_
  refine zg_iload_n (zd_t dmM_perform 95 rfl) rfl ?_
  refine zg_iload (zd_t dmM_perform 96 rfl) rfl ?_
  refine zg_callV (zd_t dmM_perform 97 rfl) zl_M_103 zm_mM_reckon zi_mM_reckon zse_mM_reckon zs_m0 zs_cl3 rfl (av := _) (rest := _) (by rfl) (by rfl) (by exact Nat.le_of_ble_eq_true rfl) (zm_reckon (by omega) hx hy hz hI) ?_
  refine zg_iload_n (zd_t dmM_perform 98 rfl) rfl ?_
  refine zg_iconst (v := (nI 1)) (zd_t dmM_perform 99 rfl) (by decide) ?_
  refine zg_iadd (zd_t dmM_perform 100 rfl) ?_
  rw [nI_add]
  exact zg_iret (zd_t dmM_perform 101 rfl) rfl rfl
theorem zm_pf_k {n : Nat} (hi : i < 32) (hI : zs_inv T) (ek : zs_pg T i 0 = nI n) (hn : n < 12) (h0 : n ≠ 0) (hal : zs_al n (zs_pg T i 1) (zs_pg T i 2) (zs_pg T i 3) = true) : zg_G l (zs_E P) (d + 3) mM_perform 42 [(4, .int (zs_pg T i 3)), (3, .int (zs_pg T i 2)), (2, .int (zs_pg T i 1)), (0, .ref (zp_B P + 67)), (1, .int (nI i))] [.int (nI n)] (zs_σ P S th (zs_b T) o w) (.inl (some (.int (zs_nxn T i n (zs_pg T i 1) (zs_pg T i 2)))), zs_σ P S th (zs_b (zs_stn T n (zs_pg T i 1) (zs_pg T i 2) (zs_pg T i 3))) o w) := by
  rcases (by omega : (1 ≤ n ∧ n < 5) ∨ n = 5 ∨ n = 6 ∨ n = 7 ∨ n = 8 ∨ n = 9 ∨ n = 10 ∨ n = 11) with h5 | rfl | rfl | rfl | rfl | rfl | rfl | rfl
  · obtain ⟨x, hx, ex⟩ := zs_irN (zs_al_w hal h5.1 h5.2).1
    obtain ⟨y, hy, ey⟩ := zs_irN (zs_al_w hal h5.1 h5.2).2.1
    obtain ⟨z, hz, ez⟩ := zs_irN (zs_al_w hal h5.1 h5.2).2.2
    rw [zs_nx1 T i _ _ (by omega), zs_stw h5 hx hy hz ex ey ez]
    exact zg_tableOut (tgt := 168) (zd_t dmM_perform 33 rfl) (Or.inl (by rw [nI_toInt (by omega)]; omega)) (by decide) (zm_pf_w hi h5.1 h5.2 ek hx hy hz ex ey ez hI)
  · obtain ⟨x, hx, ex⟩ := zs_irN (zs_al_5 hal).1
    obtain ⟨y, hy, ey⟩ := zs_irN (zs_al_5 hal).2.1
    obtain ⟨z, hz, ez, hp⟩ := zs_smN (zs_al_5 hal).2.2
    rw [zs_nx1 T i _ _ (by omega), zs_st5 hx hy hz ex ey ez]
    exact zg_tableIn (off := 42) (tgt := 84) (zd_t dmM_perform 33 rfl) (by decide) (by decide) (by decide) (by decide) (zm_pf_5 hx hy hz hp ex ey ez hI)
  · obtain ⟨x, hx, ex⟩ := zs_irN (zs_al_6 hal).1
    obtain ⟨y, hy, ey⟩ := zs_irN (zs_al_6 hal).2
    rw [zs_nx1 T i _ _ (by omega), zs_st6 hx hy ex ey]
    exact zg_tableIn (off := 54) (tgt := 96) (zd_t dmM_perform 33 rfl) (by decide) (by decide) (by decide) (by decide) (zm_pf_6 hx hy ex ey)
  · rw [zs_nx7, zs_st0 T _ _ _ (by omega)]
    exact zg_tableIn (off := 63) (tgt := 105) (zd_t dmM_perform 33 rfl) (by decide) (by decide) (by decide) (by decide) zm_pf_7
  · obtain ⟨x, hx, ex⟩ := zs_irN (zs_al_8 hal).1
    rw [zs_st0 T _ _ _ (by omega), show zs_nxn T i 8 (zs_pg T i 1) (zs_pg T i 2) = (if mz_val (zs_re T x) < 0 then zs_pg T i 2 else nI (i + 1)) by rw [ex]; exact zs_nx8 T i _ hx]
    exact zg_tableIn (off := 65) (tgt := 107) (zd_t dmM_perform 33 rfl) (by decide) (by decide) (by decide) (by decide) (zm_pf_8 hx ex hI)
  · rw [zs_nx1 T i _ _ (by omega), zs_st9]
    exact zg_tableIn (off := 83) (tgt := 125) (zd_t dmM_perform 33 rfl) (by decide) (by decide) (by decide) (by decide) zm_pf_9
  · rw [zs_nx10, zs_st10]
    exact zg_tableIn (off := 91) (tgt := 133) (zd_t dmM_perform 33 rfl) (by decide) (by decide) (by decide) (by decide) zm_pf_10
  · obtain ⟨x, hx, ex⟩ := zs_irN (zs_al_11 hal).1
    rw [zs_nx1 T i _ _ (by omega), zs_st11 hx ex]
    exact zg_tableIn (off := 116) (tgt := 158) (zd_t dmM_perform 33 rfl) (by decide) (by decide) (by decide) (by decide) (zm_pf_11 hx ex (zs_al_11 hal).2)
theorem zm_perform (hi : i < 32) (hI : zs_inv T) (h0 : zs_pg T i 0 ≠ 0) : zg_C l (zs_E P) (d + 3) mM_perform [.ref (zp_B P + 67), .int (nI i)] (zs_σ P S th (zs_b T) o w) (.inl (some (.int (zs_nx T i))), zs_σ P S th (zs_b (zs_st T i)) o w) := by
  refine zg_C_of (by decide +kernel) (Nat.le_of_ble_eq_true rfl) ?_
  obtain ⟨n, hn, ek, hal⟩ := zs_alw_k (hI.2.2 i hi)
  have e1 : zs_st T i = zs_stn T n (zs_pg T i 1) (zs_pg T i 2) (zs_pg T i 3) := by unfold zs_st; rw [ek, zs_n_nI (by omega)]
  have e2 : zs_nx T i = zs_nxn T i n (zs_pg T i 1) (zs_pg T i 2) := by unfold zs_nx; rw [ek, zs_n_nI (by omega)]
  rw [e1, e2]
  refine zg_aload_n (zd_t dmM_perform 0 rfl) rfl ?_
  refine zg_getf (zd_t dmM_perform 1 rfl) zf_M_30 zs_m0 rfl ?_
  refine zg_iconst (v := (nI 4)) (zd_t dmM_perform 2 rfl) (by decide) ?_
  refine zg_iload_n (zd_t dmM_perform 3 rfl) rfl ?_
  refine zg_imul (zd_t dmM_perform 4 rfl) ?_
  refine zg_iconst (v := (nI 1)) (zd_t dmM_perform 5 rfl) (by decide) ?_
  refine zg_iadd (zd_t dmM_perform 6 rfl) ?_
  refine zg_iald (k := 4 * i + 1) (t0 := 0) (zd_t dmM_perform 7 rfl) zs_m7 rfl (zs_ix4 i 1) (by omega) (by decide) ?_
  rw [(zs_q4 (show 1 < 4 by decide)).1, (zs_q4 (show 1 < 4 by decide)).2]
  refine zg_istore_n (zd_t dmM_perform 8 rfl) (by decide) rfl ?_
  refine zg_aload_n (zd_t dmM_perform 9 rfl) rfl ?_
  refine zg_getf (zd_t dmM_perform 10 rfl) zf_M_30 zs_m0 rfl ?_
  refine zg_iconst (v := (nI 4)) (zd_t dmM_perform 11 rfl) (by decide) ?_
  refine zg_iload_n (zd_t dmM_perform 12 rfl) rfl ?_
  refine zg_imul (zd_t dmM_perform 13 rfl) ?_
  refine zg_iconst (v := (nI 2)) (zd_t dmM_perform 14 rfl) (by decide) ?_
  refine zg_iadd (zd_t dmM_perform 15 rfl) ?_
  refine zg_iald (k := 4 * i + 2) (t0 := 0) (zd_t dmM_perform 16 rfl) zs_m7 rfl (zs_ix4 i 2) (by omega) (by decide) ?_
  rw [(zs_q4 (show 2 < 4 by decide)).1, (zs_q4 (show 2 < 4 by decide)).2]
  refine zg_istore_n (zd_t dmM_perform 17 rfl) (by decide) rfl ?_
  refine zg_aload_n (zd_t dmM_perform 18 rfl) rfl ?_
  refine zg_getf (zd_t dmM_perform 19 rfl) zf_M_30 zs_m0 rfl ?_
  refine zg_iconst (v := (nI 4)) (zd_t dmM_perform 20 rfl) (by decide) ?_
  refine zg_iload_n (zd_t dmM_perform 21 rfl) rfl ?_
  refine zg_imul (zd_t dmM_perform 22 rfl) ?_
  refine zg_iconst (v := (nI 3)) (zd_t dmM_perform 23 rfl) (by decide) ?_
  refine zg_iadd (zd_t dmM_perform 24 rfl) ?_
  refine zg_iald (k := 4 * i + 3) (t0 := 0) (zd_t dmM_perform 25 rfl) zs_m7 rfl (zs_ix4 i 3) (by omega) (by decide) ?_
  rw [(zs_q4 (show 3 < 4 by decide)).1, (zs_q4 (show 3 < 4 by decide)).2]
  refine zg_istore (zd_t dmM_perform 26 rfl) (by decide) rfl ?_
  refine zg_aload_n (zd_t dmM_perform 27 rfl) rfl ?_
  refine zg_getf (zd_t dmM_perform 28 rfl) zf_M_30 zs_m0 rfl ?_
  refine zg_iconst (v := (nI 4)) (zd_t dmM_perform 29 rfl) (by decide) ?_
  refine zg_iload_n (zd_t dmM_perform 30 rfl) rfl ?_
  refine zg_imul (zd_t dmM_perform 31 rfl) ?_
  refine zg_iald (k := 4 * i + 0) (t0 := 0) (zd_t dmM_perform 32 rfl) zs_m7 rfl (by rw [pk_mul]; rfl) (by omega) (by decide) ?_
  rw [(zs_q4 (show 0 < 4 by decide)).1, (zs_q4 (show 0 < 4 by decide)).2]
  rw [show zs_pg (zs_b T).1 i 0 = nI n from ek]
  exact zm_pf_k hi hI ek hn (fun hn0 => h0 (by rw [ek, hn0]; rfl)) hal
/-- the model's loop: fuel left n, at instruction nx -/
theorem zm_run_end {T : zs_S} {f k : Nat} {nx z : Int32} (hz : z ≠ 0) : zg_G l (zs_E P) (d + 4) mM_run 42 [(3, .int (nI k)), (2, .int nx), (0, .ref (zp_B P + 67)), (1, .int (nI f))] [] (zs_σ P S th (zs_b (zs_ssr T z)) o w) (.inl (some (.int (nI k))), zs_σ P S th (zs_b (zs_ssr T z)) o w) := by
  refine zg_aload_n (zd_t dmM_run 26 rfl) rfl ?_
  refine zg_getf (zd_t dmM_run 27 rfl) zf_M_155 zs_m0 rfl ?_
  refine zg_if_ne (tgt := 107) (zd_t dmM_run 28 rfl) (by decide) (fun _ => ?_) (fun hq => absurd hq hz)
  refine zg_iload_n (zd_t dmM_run 60 rfl) rfl ?_
  exact zg_iret (zd_t dmM_run 61 rfl) rfl rfl
theorem zm_run_lp {f : Nat} (hf : f ≤ 2000) : ∀ (n k : Nat), k + n = f → ∀ (T : zs_S) (j : Nat), j ≤ 32 → zs_inv T → zs_sr T = 0 → zg_G l (zs_E P) (d + 4) mM_run 42 [(3, .int (nI k)), (2, .int (nI j)), (0, .ref (zp_B P + 67)), (1, .int (nI f))] [] (zs_σ P S th (zs_b T) o w) (.inl (some (.int (nI (k + (zs_rn n T (nI j)).1)))), zs_σ P S th (zs_b (zs_ssr (zs_rn n T (nI j)).2.2 (nI (zs_rs (zs_rn n T (nI j)).2.1)))) o w) := by
  intro n
  induction n with
  | zero =>
    intro k hk T j hj hI hs
    have hk : k = f := by omega
    subst hk
    show zg_G l (zs_E P) (d + 4) mM_run 42 _ [] _ (.inl (some (.int (nI (k + 0)))), zs_σ P S th (zs_b (zs_ssr T (nI (zs_rs (nI j))))) o w)
    refine zg_aload_n (zd_t dmM_run 26 rfl) rfl ?_
    refine zg_getf (zd_t dmM_run 27 rfl) zf_M_155 zs_m0 rfl ?_
    refine zg_if_ne (tgt := 107) (zd_t dmM_run 28 rfl) (by decide) (fun hq => absurd hs hq) (fun _ => ?_)
    refine zg_iload_n (zd_t dmM_run 29 rfl) rfl ?_
    refine zg_bipush (v := (nI 32)) (zd_t dmM_run 30 rfl) (by decide) ?_
    by_cases hj2 : j = 32
    · rw [show zs_rs (nI j) = 2 by rw [hj2]; decide]
      refine zg_icmp_ne (tgt := 63) (zd_t dmM_run 31 rfl) (by decide) (fun hq => absurd (by rw [hj2]) hq) (fun _ => ?_)
      refine zg_aload_n (zd_t dmM_run 32 rfl) rfl ?_
      refine zg_iconst (v := (nI 2)) (zd_t dmM_run 33 rfl) (by decide) ?_
      refine zg_putf (zd_t dmM_run 34 rfl) zf_M_155 zt_3_11 zs_m0 (Nat.le_of_ble_eq_true rfl) rfl rfl zs_um_sr ?_
      refine zg_goto (tgt := 42) (zd_t dmM_run 35 rfl) (by decide) ?_
      exact zm_run_end (by decide)
    · rw [zs_rs3 (show j < 32 by omega)]
      refine zg_icmp_ne (tgt := 63) (zd_t dmM_run 31 rfl) (by decide) (fun _ => ?_) (fun hq => absurd hq (fun h => hj2 ((nI_eq (by omega) (by decide)).mp h)))
      refine zg_iload_n (zd_t dmM_run 36 rfl) rfl ?_
      refine zg_iload_n (zd_t dmM_run 37 rfl) rfl ?_
      refine zg_icmp_ne (tgt := 76) (zd_t dmM_run 38 rfl) (by decide) (fun hq => absurd rfl hq) (fun _ => ?_)
      refine zg_aload_n (zd_t dmM_run 39 rfl) rfl ?_
      refine zg_iconst (v := (nI 3)) (zd_t dmM_run 40 rfl) (by decide) ?_
      refine zg_putf (zd_t dmM_run 41 rfl) zf_M_155 zt_3_11 zs_m0 (Nat.le_of_ble_eq_true rfl) rfl rfl zs_um_sr ?_
      refine zg_goto (tgt := 42) (zd_t dmM_run 42 rfl) (by decide) ?_
      exact zm_run_end (by decide)
  | succ n ih =>
    intro k hk T j hj hI hs
    refine zg_aload_n (zd_t dmM_run 26 rfl) rfl ?_
    refine zg_getf (zd_t dmM_run 27 rfl) zf_M_155 zs_m0 rfl ?_
    refine zg_if_ne (tgt := 107) (zd_t dmM_run 28 rfl) (by decide) (fun hq => absurd hs hq) (fun _ => ?_)
    refine zg_iload_n (zd_t dmM_run 29 rfl) rfl ?_
    refine zg_bipush (v := (nI 32)) (zd_t dmM_run 30 rfl) (by decide) ?_
    by_cases hj2 : j = 32
    · rw [zs_rn_out n T (j := nI j) (by rw [hj2]; decide)]
      rw [show zs_rs (nI j) = 2 by rw [hj2]; decide]
      refine zg_icmp_ne (tgt := 63) (zd_t dmM_run 31 rfl) (by decide) (fun hq => absurd (by rw [hj2]) hq) (fun _ => ?_)
      refine zg_aload_n (zd_t dmM_run 32 rfl) rfl ?_
      refine zg_iconst (v := (nI 2)) (zd_t dmM_run 33 rfl) (by decide) ?_
      refine zg_putf (zd_t dmM_run 34 rfl) zf_M_155 zt_3_11 zs_m0 (Nat.le_of_ble_eq_true rfl) rfl rfl zs_um_sr ?_
      refine zg_goto (tgt := 42) (zd_t dmM_run 35 rfl) (by decide) ?_
      exact zm_run_end (by decide)
    · have hj3 : j < 32 := by omega
      rw [zs_rn_in n T hj3]
      refine zg_icmp_ne (tgt := 63) (zd_t dmM_run 31 rfl) (by decide) (fun _ => ?_) (fun hq => absurd hq (fun h => hj2 ((nI_eq (by omega) (by decide)).mp h)))
      refine zg_iload_n (zd_t dmM_run 36 rfl) rfl ?_
      refine zg_iload_n (zd_t dmM_run 37 rfl) rfl ?_
      refine zg_icmp_ne (tgt := 76) (zd_t dmM_run 38 rfl) (by decide) (fun _ => ?_) (fun hq => absurd hq (fun h => absurd ((nI_eq (by omega) (by omega)).mp h) (by omega)))
      refine zg_iinc (lv2 := [(3, .int (nI (k + 1))), (2, .int (nI j)), (0, .ref (zp_B P + 67)), (1, .int (nI f))]) (zd_t dmM_run 43 rfl) rfl (mz_inc k) (by decide) rfl ?_
      refine zg_aload_n (zd_t dmM_run 44 rfl) rfl ?_
      refine zg_getf (zd_t dmM_run 45 rfl) zf_M_30 zs_m0 rfl ?_
      refine zg_iconst (v := (nI 4)) (zd_t dmM_run 46 rfl) (by decide) ?_
      refine zg_iload_n (zd_t dmM_run 47 rfl) rfl ?_
      refine zg_imul (zd_t dmM_run 48 rfl) ?_
      refine zg_iald (k := 4 * j + 0) (t0 := 0) (zd_t dmM_run 49 rfl) zs_m7 rfl (by rw [pk_mul]; rfl) (by omega) (by decide) ?_
      rw [(zs_q4 (show 0 < 4 by decide)).1, (zs_q4 (show 0 < 4 by decide)).2]
      by_cases h0 : zs_pg T j 0 = 0
      · have e2 := zs_st_0 h0 j
        have e1 := zs_nx_0 h0
        rw [e1, e2, zs_rn_stop]
        show zg_G l (zs_E P) (d + 4) mM_run _ _ _ _ (.inl (some (.int (nI (k + (0 + 1))))), zs_σ P S th (zs_b (zs_ssr T (nI (zs_rs (-1))))) o w)
        rw [show zs_rs (-1) = 1 by decide]
        refine zg_if_ne (tgt := 98) (zd_t dmM_run 50 rfl) (by decide) (fun hq => absurd h0 hq) (fun _ => ?_)
        refine zg_aload_n (zd_t dmM_run 51 rfl) rfl ?_
        refine zg_iconst (v := (nI 1)) (zd_t dmM_run 52 rfl) (by decide) ?_
        refine zg_putf (zd_t dmM_run 53 rfl) zf_M_155 zt_3_11 zs_m0 (Nat.le_of_ble_eq_true rfl) rfl rfl zs_um_sr ?_
        refine zg_goto (tgt := 42) (zd_t dmM_run 54 rfl) (by decide) ?_
        exact zm_run_end (by decide)
      · refine zg_if_ne (tgt := 98) (zd_t dmM_run 50 rfl) (by decide) (fun _ => ?_) (fun hq => absurd hq h0)
        refine zg_aload_n (zd_t dmM_run 55 rfl) rfl ?_
        refine zg_iload_n (zd_t dmM_run 56 rfl) rfl ?_
        refine zg_callV (zd_t dmM_run 57 rfl) zl_M_158 zm_mM_perform zi_mM_perform zse_mM_perform zs_m0 zs_cl3 rfl (av := _) (rest := _) (by rfl) (by rfl) (by exact Nat.le_of_ble_eq_true rfl) (zm_perform hj3 hI h0) ?_
        refine zg_istore_n (zd_t dmM_run 58 rfl) (by decide) rfl ?_
        refine zg_goto (tgt := 42) (zd_t dmM_run 59 rfl) (by decide) ?_
        obtain ⟨j2, hj4, e2⟩ := zs_nx_le hI hj3 h0
        rw [e2]
        have g := ih (k + 1) (by omega) (zs_st T j) j2 hj4 (zs_inv_st hI hj3) (by rw [zs_sr_st]; exact hs)
        rw [show k + 1 + (zs_rn n (zs_st T j) (nI j2)).1 = k + ((zs_rn n (zs_st T j) (nI j2)).1 + 1) by omega] at g
        exact zg_lv [1, 0, 2, 3] rfl g
theorem zm_run {f : Nat} (hf : f ≤ 2000) (hI : zs_inv T) : zg_C l (zs_E P) (d + 4) mM_run [.ref (zp_B P + 67), .int (nI f)] (zs_σ P S th (zs_b T) o w) (.inl (some (.int (nI (zs_rn f (zs_scn T 0) 0).1))), zs_σ P S (nI 0) (zs_b (zs_srun T f)) o w) := by
  refine zg_C_of (by decide +kernel) (Nat.le_of_ble_eq_true rfl) ?_
  have g := zm_run_lp (l := l) (P := P) (d := d) (S := S) (th := nI 0) (o := o) (w := w) hf f 0 (by omega) (zs_ssr (zs_scn T (nI 0)) (nI 0)) 0 (by omega) hI rfl
  simp only [zs_rn_ssr0] at g
  rw [Nat.zero_add, zs_ssr_ssr] at g
  unfold zs_srun
  rw [show (0 : Int32) = nI 0 from rfl]
  refine zg_aload_n (zd_t dmM_run 0 rfl) rfl ?_
  refine zg_iload_n (zd_t dmM_run 1 rfl) rfl ?_
  refine zg_i2l (zd_t dmM_run 2 rfl) rfl ?_
  refine zg_lconst (v := mz_L 0) (zd_t dmM_run 3 rfl) (by decide) ?_
  refine zg_ldc2 (zd_t dmM_run 4 rfl) zc_M_153 ?_
  rw [zs_i2l]
  refine zg_callS (zd_t dmM_run 5 rfl) zl_M_48 zm_mM_in zst_mM_in (av := _) (rest := _) (by rfl) (by rfl) (by exact Nat.le_of_ble_eq_true rfl) (zm_in (x := (nI f).toInt) (y := 0) (z := 2000) (zs_wi32 _) (by unfold mz_wi; omega) (by unfold mz_wi; omega)) ?_
  rw [decide_eq_true (by rw [nI_toInt (by omega)]; omega)]
  refine zg_if_ne (tgt := 17) (zd_t dmM_run 6 rfl) (by decide) (fun _ => ?_) (fun hq => absurd hq (by decide))
  refine zg_iconst (v := (nI 0)) (zd_t dmM_run 9 rfl) (by decide) ?_
  refine zg_iconst (v := (nI 0)) (zd_t dmM_run 10 rfl) (by decide) ?_
  refine zg_iconst (v := (nI 0)) (zd_t dmM_run 11 rfl) (by decide) ?_
  refine zg_callV (zd_t dmM_run 12 rfl) zl_M_72 zm_mM_refuse zi_mM_refuse zse_mM_refuse zs_m0 zs_cl3 rfl (av := _) (rest := _) (by rfl) (by rfl) (by exact Nat.le_of_ble_eq_true rfl) (zm_refuse false false false) ?_
  rw [show zs_rc false false false = 0 from rfl]
  refine zg_if_eq (tgt := 28) (zd_t dmM_run 13 rfl) (by decide) (fun _ => ?_) (fun hq => absurd (by decide) hq)
  refine zg_aload_n (zd_t dmM_run 16 rfl) rfl ?_
  refine zg_iconst (v := (nI 0)) (zd_t dmM_run 17 rfl) (by decide) ?_
  refine zg_putf (zd_t dmM_run 18 rfl) zf_M_150 zt_3_10 zs_m0 (Nat.le_of_ble_eq_true rfl) rfl rfl zs_um_cn ?_
  refine zg_iconst (v := (nI 0)) (zd_t dmM_run 19 rfl) (by decide) ?_
  refine zg_istore_n (zd_t dmM_run 20 rfl) (by decide) rfl ?_
  refine zg_iconst (v := (nI 0)) (zd_t dmM_run 21 rfl) (by decide) ?_
  refine zg_istore_n (zd_t dmM_run 22 rfl) (by decide) rfl ?_
  refine zg_aload_n (zd_t dmM_run 23 rfl) rfl ?_
  refine zg_iconst (v := (nI 0)) (zd_t dmM_run 24 rfl) (by decide) ?_
  refine zg_putf (zd_t dmM_run 25 rfl) zf_M_155 zt_3_11 zs_m0 (Nat.le_of_ble_eq_true rfl) rfl rfl zs_um_sr ?_
  exact g
theorem zm_runX {f : Int32} (h : ¬ (0 ≤ f.toInt ∧ f.toInt ≤ 2000)) : zg_C l (zs_E P) (d + 4) mM_run [.ref (zp_B P + 67), .int f] (zs_σ P S th (zs_b T) o w) (.inl (some (.int (nI 0))), zs_σ P S (nI 1) (zs_b T) o w) := by
  refine zg_C_of (by decide +kernel) (Nat.le_of_ble_eq_true rfl) ?_
  refine zg_aload_n (zd_t dmM_run 0 rfl) rfl ?_
  refine zg_iload_n (zd_t dmM_run 1 rfl) rfl ?_
  refine zg_i2l (zd_t dmM_run 2 rfl) rfl ?_
  refine zg_lconst (v := mz_L 0) (zd_t dmM_run 3 rfl) (by decide) ?_
  refine zg_ldc2 (zd_t dmM_run 4 rfl) zc_M_153 ?_
  rw [zs_i2l]
  refine zg_callS (zd_t dmM_run 5 rfl) zl_M_48 zm_mM_in zst_mM_in (av := _) (rest := _) (by rfl) (by rfl) (by exact Nat.le_of_ble_eq_true rfl) (zm_in (x := f.toInt) (y := 0) (z := 2000) (zs_wi32 _) (by unfold mz_wi; omega) (by unfold mz_wi; omega)) ?_
  rw [decide_eq_false h]
  refine zg_if_ne (tgt := 17) (zd_t dmM_run 6 rfl) (by decide) (fun hq => absurd (by decide) hq) (fun _ => ?_)
  refine zg_iconst (v := (nI 1)) (zd_t dmM_run 7 rfl) (by decide) ?_
  refine zg_goto (tgt := 18) (zd_t dmM_run 8 rfl) (by decide) ?_
  refine zg_iconst (v := (nI 0)) (zd_t dmM_run 10 rfl) (by decide) ?_
  refine zg_iconst (v := (nI 0)) (zd_t dmM_run 11 rfl) (by decide) ?_
  refine zg_callV (zd_t dmM_run 12 rfl) zl_M_72 zm_mM_refuse zi_mM_refuse zse_mM_refuse zs_m0 zs_cl3 rfl (av := _) (rest := _) (by rfl) (by rfl) (by exact Nat.le_of_ble_eq_true rfl) (zm_refuse true false false) ?_
  rw [show zs_rc true false false = 1 from rfl]
  refine zg_if_eq (tgt := 28) (zd_t dmM_run 13 rfl) (by decide) (fun hq => absurd hq (by decide)) (fun _ => ?_)
  refine zg_iconst (v := (nI 0)) (zd_t dmM_run 14 rfl) (by decide) ?_
  exact zg_iret (zd_t dmM_run 15 rfl) rfl rfl
end ZM18
end
section
/-! heaps that grow: the cells from A on are a list -/
def zb_l (A : Nat) (f : Nat → Option va_E) (L : List va_E) : Nat → Option va_E := fun q => if q < A then f q else L[q - A]?
section ZM19a
variable {A : Nat} {f : Nat → Option va_E} {L L2 : List va_E} {e : va_E}
theorem zb_at {a : Nat} (k : Nat) (ha : a = A + k) (h : L[k]? = some e) : zb_l A f L a = some e := by
  unfold zb_l
  rw [if_neg (by omega), ha, show A + k - A = k by omega]
  exact h
theorem zb_al {s us n : Nat} (hs : s = A + L.length) (h : L ++ [e] = L2) : zg_al (zb_l A f L, s, us) e n = (zb_l A f L2, s + 1, us + n) := by
  unfold zg_al
  have : (fun q => if q = s then some e else zb_l A f L q) = zb_l A f L2 := by
    funext q
    unfold zb_l
    by_cases h1 : q < A
    · rw [if_neg (by omega), if_pos h1, if_pos h1]
    · rw [if_neg h1, if_neg h1, ← h, List.getElem?_append]
      by_cases h2 : q = s
      · rw [if_pos h2, if_neg (by omega), h2, show s - A - L.length = 0 by omega]
        rfl
      · rw [if_neg h2]
        by_cases h3 : q - A < L.length
        · rw [if_pos h3]
        · rw [if_neg h3, List.getElem?_eq_none (by omega), List.getElem?_eq_none (by simp only [List.length_cons, List.length_nil]; omega)]
  show ((fun q => if q = s then some e else zb_l A f L q), s + 1, us + n) = _
  rw [this]
theorem zb_up {a : Nat} {w : Nat × Nat} (k : Nat) (hk : k < L.length) (ha : a = A + k) (h : L.set k e = L2) : zg_up (zb_l A f L, w) a e = (zb_l A f L2, w) := by
  unfold zg_up
  have : (fun q => if q = a then some e else zb_l A f L q) = zb_l A f L2 := by
    funext q
    unfold zb_l
    by_cases h1 : q < A
    · rw [if_neg (by omega), if_pos h1, if_pos h1]
    · rw [if_neg h1, if_neg h1, ← h, List.getElem?_set]
      by_cases h2 : q = a
      · rw [if_pos h2, if_pos (by omega), if_pos hk]
      · rw [if_neg h2, if_neg (by omega)]
  show ((fun q => if q = a then some e else zb_l A f L q), w) = _
  rw [this]
theorem zb_set1 (x y : va_E) : (L ++ [x]).set L.length y = L ++ [y] := by simp
theorem zb_set2 (x y z : va_E) : (L ++ [x, y]).set L.length z = L ++ [z, y] := by simp
theorem zb_get1 (x : va_E) : (L ++ [x])[L.length]? = some x := by simp
theorem zb_get2 (x y : va_E) : (L ++ [x, y])[L.length]? = some x := by simp
end ZM19a
def zb_rD : va_E := .inr (1, [.null, .long 0, .int 0])
def zb_iD : va_E := .inr (2, [.int 0, .int 0, .int 0, .int 0])
def zb_uD : va_E := .inr (0, [.null, .null, .int 0, .int 0])
def zb_re (ca : Nat → ClassId) : va_E := .inl (ca 0, 8, .inl (fun _ => nI 0))
def zb_rg (b : Nat) : va_E := .inr (1, [.ref (b + 1), .long (mz_L 0), .int (zs_bi true)])
section ZM19
variable {l : Launch} {P : zs_P} {d : Nat} {A us : Nat} {f : Nat → Option va_E} {L : List va_E}
theorem zs_oi : Cond.instanceMethod Lib.objectInit ∈ zg_ws (zs_E P) := zs_in 21 (by decide +kernel) (by decide +kernel)
theorem zs_oc : Cond.code Lib.objectInit ⟨#[0xb1]⟩ 1 none ∈ zg_ws (zs_E P) := zs_in 22 (by decide +kernel) (by decide +kernel)
theorem zi_init {w : Nat × Nat} : zg_C l (zs_E P) (d + 1) mI_init [.ref (A + L.length)] (zb_l A f (L ++ [zb_iD]), w) (.inl none, (zb_l A f (L ++ [zb_iD]), w)) := by
  refine zg_C_of (by decide +kernel) (Nat.le_of_ble_eq_true rfl) ?_
  have hat : (zb_l A f (L ++ [zb_iD]), w).1 (A + L.length) = some zb_iD := zb_at L.length rfl (zb_get1 _)
  have hup : zg_up (zb_l A f (L ++ [zb_iD]), w) (A + L.length) zb_iD = (zb_l A f (L ++ [zb_iD]), w) := zb_up L.length (by simp) rfl (zb_set1 _ _)
  refine zg_aload_n (zd_t dmI_init 0 rfl) rfl ?_
  refine zg_objInit (zd_t dmI_init 1 rfl) (zs_in 50 (by decide +kernel) (by decide +kernel)) zs_oi zs_oc (by decide) ?_
  refine zg_aload_n (zd_t dmI_init 2 rfl) rfl ?_
  refine zg_iconst (v := (nI 0)) (zd_t dmI_init 3 rfl) (by decide) ?_
  refine zg_putf (zd_t dmI_init 4 rfl) zf_I_9 zt_2_0 hat (Nat.le_of_ble_eq_true rfl) rfl rfl hup ?_
  refine zg_aload_n (zd_t dmI_init 5 rfl) rfl ?_
  refine zg_iconst (v := (nI 0)) (zd_t dmI_init 6 rfl) (by decide) ?_
  refine zg_putf (zd_t dmI_init 7 rfl) zf_I_15 zt_2_1 hat (Nat.le_of_ble_eq_true rfl) rfl rfl hup ?_
  refine zg_aload_n (zd_t dmI_init 8 rfl) rfl ?_
  refine zg_iconst (v := (nI 0)) (zd_t dmI_init 9 rfl) (by decide) ?_
  refine zg_putf (zd_t dmI_init 10 rfl) zf_I_18 zt_2_2 hat (Nat.le_of_ble_eq_true rfl) rfl rfl hup ?_
  refine zg_aload_n (zd_t dmI_init 11 rfl) rfl ?_
  refine zg_iconst (v := (nI 0)) (zd_t dmI_init 12 rfl) (by decide) ?_
  refine zg_putf (zd_t dmI_init 13 rfl) zf_I_21 zt_2_3 hat (Nat.le_of_ble_eq_true rfl) rfl rfl hup ?_
  exact zg_vret (zd_t dmI_init 14 rfl) rfl rfl
theorem zr_init : zg_C l (zs_E P) (d + 1) mR_init [.ref (A + L.length)] (zb_l A f (L ++ [zb_rD]), A + L.length + 1, us) (.inl none, (zb_l A f (L ++ [zb_rg (A + L.length), zb_re (zp_ca P)]), A + L.length + 1 + 1, us + 8)) := by
  refine zg_C_of (by decide +kernel) (Nat.le_of_ble_eq_true rfl) ?_
  refine zg_aload_n (zd_t dmR_init 0 rfl) rfl ?_
  refine zg_objInit (zd_t dmR_init 1 rfl) (zs_in 31 (by decide +kernel) (by decide +kernel)) zs_oi zs_oc (by decide) ?_
  refine zg_aload_n (zd_t dmR_init 2 rfl) rfl ?_
  refine zg_bipush (v := (nI 8)) (zd_t dmR_init 3 rfl) (by decide) ?_
  refine zg_newa (t0 := 0) (N := 8) (a0 := (8, .inl (fun _ => nI 0))) (zd_t dmR_init 4 rfl) rfl (zs_in 45 (by decide +kernel) (by decide +kernel)) rfl (fun C h => by cases h) rfl (by decide) (fun _ => rfl) (by decide) (zb_al (L2 := L ++ [zb_rD, zb_re (zp_ca P)]) (by simp; omega) (by simp [zb_re])) ?_
  refine zg_putF (zd_t dmR_init 5 rfl) zf_R_9 zt_1_0 (fun C T N h => by cases h; rfl) rfl (zb_at L.length rfl (zb_get2 _ _)) (Nat.le_of_ble_eq_true rfl) rfl rfl (zb_up L.length (by simp) rfl (zb_set2 _ _ _)) ?_
  refine zg_aload_n (zd_t dmR_init 6 rfl) rfl ?_
  refine zg_lconst (v := mz_L 0) (zd_t dmR_init 7 rfl) (by decide) ?_
  refine zg_putf (zd_t dmR_init 8 rfl) zf_R_15 zt_1_1 (zb_at L.length rfl (zb_get2 _ _)) (Nat.le_of_ble_eq_true rfl) rfl rfl (zb_up L.length (by simp) rfl (zb_set2 _ _ _)) ?_
  refine zg_aload_n (zd_t dmR_init 9 rfl) rfl ?_
  refine zg_iconst (v := (nI 1)) (zd_t dmR_init 10 rfl) (by decide) ?_
  refine zg_putf (zd_t dmR_init 11 rfl) zf_R_19 zt_1_2 (zb_at L.length rfl (zb_get2 _ _)) (Nat.le_of_ble_eq_true rfl) rfl rfl (zb_up (L2 := L ++ [zb_rg (A + L.length), zb_re (zp_ca P)]) L.length (by simp) rfl (zb_set2 _ _ _)) ?_
  exact zg_vret (zd_t dmR_init 12 rfl) rfl rfl
end ZM19
end
section
def zb_aR (B : Nat) (ca : Nat → ClassId) (r : Nat) : va_E := .inl (ca 3, 16, .inr (.inr (.inr (.inr (zs_rf r (fun i => B + 3 + 2 * i))))))
def zb_aI (B : Nat) (ca : Nat → ClassId) (i : Nat) : va_E := .inl (ca 4, 32, .inr (.inr (.inr (.inr (zs_rf i (fun i => B + 35 + i))))))
def zb_un (B : Nat) : va_E := .inr (0, [.ref (B + 1), .ref (B + 2), .int 0, .int 0])
def zb_rs (B : Nat) (ca : Nat → ClassId) : Nat → List va_E
  | 0 => []
  | r + 1 => zb_rs B ca r ++ [zb_rg (B + (3 + 2 * r)), zb_re ca]
def zb_is : Nat → List va_E
  | 0 => []
  | i + 1 => zb_is i ++ [zb_iD]
theorem zb_rs_len (B : Nat) (ca : Nat → ClassId) : ∀ r, (zb_rs B ca r).length = 2 * r
  | 0 => rfl
  | r + 1 => by
    unfold zb_rs
    rw [List.length_append, zb_rs_len B ca r]
    simp only [List.length_cons, List.length_nil]
    omega
theorem zb_is_len : ∀ i, (zb_is i).length = i
  | 0 => rfl
  | i + 1 => by
    unfold zb_is
    rw [List.length_append, zb_is_len i]
    rfl
def zb_L (B : Nat) (ca : Nat → ClassId) (r i : Nat) : List va_E := zb_un B :: zb_aR B ca r :: zb_aI B ca i :: (zb_rs B ca r ++ zb_is i)
theorem zb_L_len (B : Nat) (ca : Nat → ClassId) (r i : Nat) : (zb_L B ca r i).length = 3 + 2 * r + i := by
  unfold zb_L
  simp only [List.length_cons, List.length_append, zb_rs_len, zb_is_len]
  omega
theorem zs_rf_0 (g : Nat → Nat) : zs_rf 0 g = fun _ => none := by
  funext j
  unfold zs_rf
  rw [if_neg (by omega)]
theorem zs_rf_s (r : Nat) (g : Nat → Nat) {v : Nat} (hv : v = g r) : va_up (zs_rf r g) r (some v) = zs_rf (r + 1) g := by
  funext j
  unfold va_up zs_rf
  by_cases h : j = r
  · rw [if_pos h, if_pos (by omega), h, hv]
  · rw [if_neg h]
    by_cases h2 : j < r
    · rw [if_pos h2, if_pos (by omega)]
    · rw [if_neg h2, if_neg (by omega)]
section ZM20
variable {l : Launch} {P : zs_P} {d : Nat} {us : Nat} {f : Nat → Option va_E}
theorem zb_e4 {g g2 : Nat → Option va_E} {a a2 b b2 : Nat} (h1 : g = g2) (h2 : a = a2) (h3 : b = b2) : ((g, a, b) : zg_H) = (g2, a2, b2) := by rw [h1, h2, h3]
theorem zu_init_2 (u : Nat) : ∀ (n i : Nat), i + n = 32 → zg_G l (zs_E P) (d + 2) mU_init 61 [(1, .int (nI i)), (0, .ref (zp_B P))] [] (zb_l (zp_B P) f (zb_L (zp_B P) (zp_ca P) 16 i), zp_B P + (zb_L (zp_B P) (zp_ca P) 16 i).length, us + 4 * i) (.inl none, (zb_l (zp_B P) f (zb_L (zp_B P) (zp_ca P) 16 32), zp_B P + (zb_L (zp_B P) (zp_ca P) 16 32).length, us + 4 * 32)) := by
  intro n
  induction n with
  | zero =>
    intro i hi
    have hi : i = 32 := by omega
    subst hi
    refine zg_iload_n (zd_t dmU_init 32 rfl) rfl ?_
    refine zg_bipush (v := (nI 32)) (zd_t dmU_init 33 rfl) (by decide) ?_
    refine zg_icmp_ge (tgt := 86) (zd_t dmU_init 34 rfl) (by decide) (fun _ => ?_) (fun hq => absurd (by decide) hq)
    exact zg_vret (zd_t dmU_init 44 rfl) rfl rfl
  | succ n ih =>
    intro i hi
    have hlen := zb_L_len (zp_B P) (zp_ca P) 16 i
    refine zg_iload_n (zd_t dmU_init 32 rfl) rfl ?_
    refine zg_bipush (v := (nI 32)) (zd_t dmU_init 33 rfl) (by decide) ?_
    refine zg_icmp_ge (tgt := 86) (zd_t dmU_init 34 rfl) (by decide) (fun hq => absurd hq (fun h => absurd ((nI_leI (by decide) (by omega)).mp h) (by omega))) (fun _ => ?_)
    refine zg_aload_n (zd_t dmU_init 35 rfl) rfl ?_
    refine zg_getf (zd_t dmU_init 36 rfl) zf_U_17 (zb_at (k := 0) rfl rfl) rfl ?_
    refine zg_iload_n (zd_t dmU_init 37 rfl) rfl ?_
    refine zg_new zs_YI (zd_t dmU_init 38 rfl) zs_cl2 zs_pI zs_uw2 zcl_U_15 (zs_in 46 (by decide +kernel) (by decide +kernel)) (zs_in 3 (by decide +kernel) (by decide +kernel)) (fs := [.int 0, .int 0, .int 0, .int 0]) (by decide) (zb_al (L2 := zb_L (zp_B P) (zp_ca P) 16 i ++ [zb_iD]) rfl rfl) ?_
    refine zg_dup (zd_t dmU_init 39 rfl) rfl ?_
    refine zg_callI (zd_t dmU_init 40 rfl) zl_U_29 zm_mI_init zi_mI_init rfl rfl rfl (av := []) (rest := [.ref (zp_B P + (zb_L (zp_B P) (zp_ca P) 16 i).length), .int (nI i), .ref (zp_B P + 2)]) rfl rfl (Nat.le_of_ble_eq_true rfl) zi_init ?_
    refine zg_aast (k := i) (t0 := 4) (zd_t dmU_init 41 rfl) (zb_at (k := 2) rfl rfl) rfl (zb_at (k := (zb_L (zp_B P) (zp_ca P) 16 i).length) rfl (zb_get1 _)) zs_cl2 rfl (by omega) (by decide) (zb_up (L2 := zb_L (zp_B P) (zp_ca P) 16 (i + 1)) 2 (by rw [List.length_append, hlen]; omega) rfl ?_) ?_
    · rw [zs_rf_s i (fun i => zp_B P + 35 + i) (by rw [hlen]; omega)]
      show zb_un (zp_B P) :: zb_aR (zp_B P) (zp_ca P) 16 :: zb_aI (zp_B P) (zp_ca P) (i + 1) :: ((zb_rs (zp_B P) (zp_ca P) 16 ++ zb_is i) ++ [zb_iD]) = zb_un (zp_B P) :: zb_aR (zp_B P) (zp_ca P) 16 :: zb_aI (zp_B P) (zp_ca P) (i + 1) :: (zb_rs (zp_B P) (zp_ca P) 16 ++ (zb_is i ++ [zb_iD]))
      rw [List.append_assoc]
    refine zg_iinc (lv2 := [(1, .int (nI (i + 1))), (0, .ref (zp_B P))]) (zd_t dmU_init 42 rfl) rfl (mz_inc i) (by decide) rfl ?_
    refine zg_goto (tgt := 61) (zd_t dmU_init 43 rfl) (by decide) ?_
    exact zg_eq (ih (i + 1) (by omega)) rfl rfl rfl (zb_e4 rfl (by rw [hlen, zb_L_len]; omega) (by omega)) rfl
theorem zu_init_1 : ∀ (n r : Nat), r + n = 16 → zg_G l (zs_E P) (d + 2) mU_init 34 [(1, .int (nI r)), (0, .ref (zp_B P))] [] (zb_l (zp_B P) f (zb_L (zp_B P) (zp_ca P) r 0), zp_B P + (zb_L (zp_B P) (zp_ca P) r 0).length, us + 11 * r) (.inl none, (zb_l (zp_B P) f (zb_L (zp_B P) (zp_ca P) 16 32), zp_B P + (zb_L (zp_B P) (zp_ca P) 16 32).length, us + 11 * 16 + 4 * 32)) := by
  intro n
  induction n with
  | zero =>
    intro r hr
    have hr : r = 16 := by omega
    subst hr
    refine zg_iload_n (zd_t dmU_init 18 rfl) rfl ?_
    refine zg_bipush (v := (nI 16)) (zd_t dmU_init 19 rfl) (by decide) ?_
    refine zg_icmp_ge (tgt := 59) (zd_t dmU_init 20 rfl) (by decide) (fun _ => ?_) (fun hq => absurd (by decide) hq)
    refine zg_iconst (v := (nI 0)) (zd_t dmU_init 30 rfl) (by decide) ?_
    refine zg_istore_n (zd_t dmU_init 31 rfl) (by decide) rfl ?_
    exact zu_init_2 0 32 0 rfl
  | succ n ih =>
    intro r hr
    have hlen := zb_L_len (zp_B P) (zp_ca P) r 0
    refine zg_iload_n (zd_t dmU_init 18 rfl) rfl ?_
    refine zg_bipush (v := (nI 16)) (zd_t dmU_init 19 rfl) (by decide) ?_
    refine zg_icmp_ge (tgt := 59) (zd_t dmU_init 20 rfl) (by decide) (fun hq => absurd hq (fun h => absurd ((nI_leI (by decide) (by omega)).mp h) (by omega))) (fun _ => ?_)
    refine zg_aload_n (zd_t dmU_init 21 rfl) rfl ?_
    refine zg_getf (zd_t dmU_init 22 rfl) zf_U_11 (zb_at (k := 0) rfl rfl) rfl ?_
    refine zg_iload_n (zd_t dmU_init 23 rfl) rfl ?_
    refine zg_new zs_YR (zd_t dmU_init 24 rfl) zs_cl1 zs_pR zs_uw1 zcl_U_9 (zs_in 27 (by decide +kernel) (by decide +kernel)) (zs_in 2 (by decide +kernel) (by decide +kernel)) (fs := [.null, .long 0, .int 0]) (by decide) (zb_al (L2 := zb_L (zp_B P) (zp_ca P) r 0 ++ [zb_rD]) rfl rfl) ?_
    refine zg_dup (zd_t dmU_init 25 rfl) rfl ?_
    refine zg_callI (zd_t dmU_init 26 rfl) zl_U_28 zm_mR_init zi_mR_init rfl rfl rfl (av := []) (rest := [.ref (zp_B P + (zb_L (zp_B P) (zp_ca P) r 0).length), .int (nI r), .ref (zp_B P + 1)]) rfl rfl (Nat.le_of_ble_eq_true rfl) zr_init ?_
    refine zg_aast (k := r) (t0 := 3) (zd_t dmU_init 27 rfl) (zb_at (k := 1) rfl rfl) rfl (zb_at (k := (zb_L (zp_B P) (zp_ca P) r 0).length) rfl (zb_get2 _ _)) zs_cl1 rfl (by omega) (by decide) (zb_up (L2 := zb_L (zp_B P) (zp_ca P) (r + 1) 0) 1 (by rw [List.length_append, hlen]; omega) rfl ?_) ?_
    · rw [zs_rf_s r (fun i => zp_B P + 3 + 2 * i) (by rw [hlen]; omega), hlen]
      show zb_un (zp_B P) :: zb_aR (zp_B P) (zp_ca P) (r + 1) :: zb_aI (zp_B P) (zp_ca P) 0 :: ((zb_rs (zp_B P) (zp_ca P) r ++ []) ++ [zb_rg (zp_B P + (3 + 2 * r + 0)), zb_re (zp_ca P)]) = zb_un (zp_B P) :: zb_aR (zp_B P) (zp_ca P) (r + 1) :: zb_aI (zp_B P) (zp_ca P) 0 :: ((zb_rs (zp_B P) (zp_ca P) r ++ [zb_rg (zp_B P + (3 + 2 * r)), zb_re (zp_ca P)]) ++ [])
      rw [List.append_nil, List.append_nil]
      rfl
    refine zg_iinc (lv2 := [(1, .int (nI (r + 1))), (0, .ref (zp_B P))]) (zd_t dmU_init 28 rfl) rfl (mz_inc r) (by decide) rfl ?_
    refine zg_goto (tgt := 34) (zd_t dmU_init 29 rfl) (by decide) ?_
    exact zg_eq (ih (r + 1) (by omega)) rfl rfl rfl (zb_e4 rfl (by rw [hlen, zb_L_len]; omega) (by omega)) rfl
theorem zu_init : zg_C l (zs_E P) (d + 2) mU_init [.ref (zp_B P)] (zb_l (zp_B P) f [zb_uD], zp_B P + 1, us) (.inl none, (zb_l (zp_B P) f (zb_L (zp_B P) (zp_ca P) 16 32), zp_B P + (zb_L (zp_B P) (zp_ca P) 16 32).length, us + 16 + 32 + 11 * 16 + 4 * 32)) := by
  refine zg_C_of (by decide +kernel) (Nat.le_of_ble_eq_true rfl) ?_
  refine zg_aload_n (zd_t dmU_init 0 rfl) rfl ?_
  refine zg_objInit (zd_t dmU_init 1 rfl) (zs_in 20 (by decide +kernel) (by decide +kernel)) zs_oi zs_oc (by decide) ?_
  refine zg_aload_n (zd_t dmU_init 2 rfl) rfl ?_
  refine zg_bipush (v := (nI 16)) (zd_t dmU_init 3 rfl) (by decide) ?_
  refine zg_anew (t0 := 3) (N := 16) (zd_t dmU_init 4 rfl) zcl_U_9 (zs_in 24 (by decide +kernel) (by decide +kernel)) rfl rfl (by decide) (zb_al (L2 := [zb_uD, zb_aR (zp_B P) (zp_ca P) 0]) rfl (by unfold zb_aR; rw [zs_rf_0]; rfl)) ?_
  refine zg_putF (zd_t dmU_init 5 rfl) zf_U_11 zt_0_0 (fun C T N h => by cases h; rfl) rfl (zb_at (k := 0) rfl rfl) (Nat.le_of_ble_eq_true rfl) rfl rfl (zb_up 0 (Nat.le_of_ble_eq_true rfl) rfl rfl) ?_
  refine zg_aload_n (zd_t dmU_init 6 rfl) rfl ?_
  refine zg_bipush (v := (nI 32)) (zd_t dmU_init 7 rfl) (by decide) ?_
  refine zg_anew (t0 := 4) (N := 32) (zd_t dmU_init 8 rfl) zcl_U_15 (zs_in 26 (by decide +kernel) (by decide +kernel)) rfl rfl (by decide) (zb_al (L2 := [.inr (0, [.ref (zp_B P + 1), .null, .int 0, .int 0]), zb_aR (zp_B P) (zp_ca P) 0, zb_aI (zp_B P) (zp_ca P) 0]) rfl (by unfold zb_aI; rw [zs_rf_0]; rfl)) ?_
  refine zg_putF (zd_t dmU_init 9 rfl) zf_U_17 zt_0_1 (fun C T N h => by cases h; rfl) rfl (zb_at (k := 0) rfl rfl) (Nat.le_of_ble_eq_true rfl) rfl rfl (zb_up 0 (Nat.le_of_ble_eq_true rfl) rfl rfl) ?_
  refine zg_aload_n (zd_t dmU_init 10 rfl) rfl ?_
  refine zg_iconst (v := (nI 0)) (zd_t dmU_init 11 rfl) (by decide) ?_
  refine zg_putf (zd_t dmU_init 12 rfl) zf_U_21 zt_0_2 (zb_at (k := 0) rfl rfl) (Nat.le_of_ble_eq_true rfl) rfl rfl (zb_up 0 (Nat.le_of_ble_eq_true rfl) rfl rfl) ?_
  refine zg_aload_n (zd_t dmU_init 13 rfl) rfl ?_
  refine zg_iconst (v := (nI 0)) (zd_t dmU_init 14 rfl) (by decide) ?_
  refine zg_putf (zd_t dmU_init 15 rfl) zf_U_25 zt_0_3 (zb_at (k := 0) rfl rfl) (Nat.le_of_ble_eq_true rfl) rfl rfl (zb_up (L2 := zb_L (zp_B P) (zp_ca P) 0 0) 0 (Nat.le_of_ble_eq_true rfl) rfl rfl) ?_
  refine zg_iconst (v := (nI 0)) (zd_t dmU_init 16 rfl) (by decide) ?_
  refine zg_istore_n (zd_t dmU_init 17 rfl) (by decide) rfl ?_
  exact zu_init_1 16 0 rfl
end ZM20
end
section
def zb_mo (k : Nat) : Nat → Int32 := fun j => if j < k then nI (mz_m j) else 0
theorem zb_mo_0 : (fun _ => (0 : Int32)) = zb_mo 0 := by
  funext j
  unfold zb_mo
  rw [if_neg (by omega)]
theorem zb_mo_s (k : Nat) : upd (zb_mo k) k (nI (mz_m k)) = zb_mo (k + 1) := by
  funext j
  show (if j = k then nI (mz_m k) else if j < k then nI (mz_m j) else 0) = if j < k + 1 then nI (mz_m j) else 0
  by_cases h : j = k
  · rw [if_pos h, if_pos (by omega), h]
  · rw [if_neg h]
    by_cases h2 : j < k
    · rw [if_pos h2, if_pos (by omega)]
    · rw [if_neg h2, if_neg (by omega)]
def zb_uk (k : Nat) : Nat → Int64 := fun j => if j < k then mz_L (mz_w j : Int) else 0
theorem zb_uk_0 : (fun _ => (0 : Int64)) = zb_uk 0 := by
  funext j
  unfold zb_uk
  rw [if_neg (by omega)]
theorem zb_uk_s (k : Nat) : vp_updL (zb_uk k) k (mz_L (mz_w k : Int)) = zb_uk (k + 1) := by
  funext j
  show (if j = k then mz_L (mz_w k : Int) else if j < k then mz_L (mz_w j : Int) else 0) = if j < k + 1 then mz_L (mz_w j : Int) else 0
  by_cases h : j = k
  · rw [if_pos h, if_pos (by omega), h]
  · rw [if_neg h]
    by_cases h2 : j < k
    · rw [if_pos h2, if_pos (by omega)]
    · rw [if_neg h2, if_neg (by omega)]
theorem zb_updL2 (f : Nat → Int64) (k : Nat) (x y : Int64) : vp_updL (vp_updL f k x) k y = vp_updL f k y := by
  funext j
  show (if j = k then y else if j = k then x else f j) = if j = k then y else f j
  by_cases h : j = k
  · rw [if_pos h, if_pos h]
  · rw [if_neg h, if_neg h, if_neg h]
def zb_sk (k : Nat) : Nat → Int32 := fun j => zs_bi (decide (j < k))
theorem zb_sk_0 : (fun _ => (0 : Int32)) = zb_sk 0 := by
  funext j
  unfold zb_sk
  rw [decide_eq_false (by omega)]
  rfl
theorem zb_sk_s (k : Nat) : upd (zb_sk k) k (nI 1) = zb_sk (k + 1) := by
  funext j
  show (if j = k then nI 1 else zs_bi (decide (j < k))) = zs_bi (decide (j < k + 1))
  by_cases h : j = k
  · rw [if_pos h, decide_eq_true (by omega)]
    rfl
  · rw [if_neg h, show decide (j < k + 1) = decide (j < k) from decide_eq_decide.mpr (by omega)]
def zb_wh : Nat → Nat
  | 0 => 1
  | k + 1 => zb_wh k * mz_m k
/-- how many steps the search for a unit takes -/
def mz_tk (k : Nat) : Nat := mz_w k / (mz_st k).toNat
theorem mz_tk_w : ∀ k, k < 6 → 1 ≤ mz_tk k ∧ mz_tk k ≤ 256 ∧ (mz_w k : Int) = mz_st k * (mz_tk k : Int) ∧ (mz_st k * (mz_tk k : Int)) % (mz_m k : Int) = 1 := by decide +kernel
theorem mz_tk_n : ∀ k, k < 6 → ∀ c, c < mz_tk k → 1 ≤ c → ¬ (mz_st k * (c : Int)) % (mz_m k : Int) = 1 := by decide +kernel
/-- the model's cells while it is made -/
def zb_M (A : Nat) (ca : Nat → ClassId) (wh hf : Int64) (un : Nat → Int64) (su : Nat → Int32) : List va_E := [.inr (3, [.int 0, .ref (A + 1), .ref (A + 2), .ref (A + 3), .ref (A + 4), .ref (A + 5), .ref (A + 6), .long wh, .long hf, .ref (A + 7), .int 0, .int 0]), .inl (ca 0, 8, .inl (zb_mo 8)), .inl (ca 0, 128, .inl (fun _ => 0)), .inl (ca 1, 16, .inr (.inl (fun _ => 0))), .inl (ca 1, 16, .inr (.inl (fun _ => 0))), .inl (ca 2, 16, .inl su), .inl (ca 1, 6, .inr (.inl un)), .inl (ca 0, 128, .inl (fun _ => 0))]
section ZM21
variable {l : Launch} {P : zs_P} {d A us : Nat} {f : Nat → Option va_E} {w : Nat × Nat}
theorem zm_init_3 {wh hf : Int64} {un : Nat → Int64} : ∀ (n k : Nat), k + n = 16 → zg_G l (zs_E P) (d + 1) mM_init 257 [(1, .int (nI k)), (0, .ref A)] [] (zb_l A f (zb_M A (zp_ca P) wh hf un (zb_sk k)), w) (.inl none, (zb_l A f (zb_M A (zp_ca P) wh hf un (zb_sk 16)), w)) := by
  intro n
  induction n with
  | zero =>
    intro k hk
    have hk : k = 16 := by omega
    subst hk
    refine zg_iload_n (zd_t dmM_init 145 rfl) rfl ?_
    refine zg_bipush (v := (nI 16)) (zd_t dmM_init 146 rfl) (by decide) ?_
    refine zg_icmp_ge (tgt := 276) (zd_t dmM_init 147 rfl) (by decide) (fun _ => ?_) (fun hq => absurd (by decide) hq)
    exact zg_vret (zd_t dmM_init 155 rfl) rfl rfl
  | succ n ih =>
    intro k hk
    refine zg_iload_n (zd_t dmM_init 145 rfl) rfl ?_
    refine zg_bipush (v := (nI 16)) (zd_t dmM_init 146 rfl) (by decide) ?_
    refine zg_icmp_ge (tgt := 276) (zd_t dmM_init 147 rfl) (by decide) (fun hq => absurd hq (fun h => absurd ((nI_leI (by decide) (by omega)).mp h) (by omega))) (fun _ => ?_)
    refine zg_aload_n (zd_t dmM_init 148 rfl) rfl ?_
    refine zg_getf (zd_t dmM_init 149 rfl) zf_M_23 (zb_at (k := 0) rfl rfl) rfl ?_
    refine zg_iload_n (zd_t dmM_init 150 rfl) rfl ?_
    refine zg_iconst (v := (nI 1)) (zd_t dmM_init 151 rfl) (by decide) ?_
    refine zg_zast (k := k) (t0 := 2) (zd_t dmM_init 152 rfl) (zb_at (k := 5) rfl rfl) rfl rfl (show k < 16 by omega) (by decide) rfl (zb_up (L2 := zb_M A (zp_ca P) wh hf un (zb_sk (k + 1))) 5 (Nat.le_of_ble_eq_true rfl) rfl (by rw [zb_sk_s]; rfl)) ?_
    refine zg_iinc (lv2 := [(1, .int (nI (k + 1))), (0, .ref A)]) (zd_t dmM_init 153 rfl) rfl (mz_inc k) (by decide) rfl ?_
    refine zg_goto (tgt := 257) (zd_t dmM_init 154 rfl) (by decide) ?_
    exact ih (k + 1) (by omega)
/-- the search for one unit -/
theorem zm_init_w {hf : Int64} {su : Nat → Int32} {k : Nat} {r : zg_R} (hk : k < 6) (kk : zg_G l (zs_E P) (d + 1) mM_init 249 [(2, .long (mz_L (mz_st k))), (1, .int (nI k)), (0, .ref A)] [] (zb_l A f (zb_M A (zp_ca P) (mz_L 175107974924611) hf (zb_uk (k + 1)) su), w) r) : ∀ (n c : Nat), 1 ≤ c → c + n = mz_tk k → zg_G l (zs_E P) (d + 1) mM_init 213 [(2, .long (mz_L (mz_st k))), (1, .int (nI k)), (0, .ref A)] [] (zb_l A f (zb_M A (zp_ca P) (mz_L 175107974924611) hf (vp_updL (zb_uk k) k (mz_L (mz_st k * (c : Int)))) su), w) r := by
  have hm := mz_m_lt k
  have ht := mz_tk_w k hk
  have hs := mz_stp k
  have hmi := mz_m_in k
  have h1i : mz_in 1 := by unfold mz_in; omega
  have hm0 : ¬ mz_L (mz_m k : Int) = 0 := fun h => by
    have h0 : mz_in 0 := by unfold mz_in; omega
    have : mz_L (mz_m k : Int) = mz_L 0 := h
    rw [mz_eq hmi h0] at this
    omega
  intro n
  induction n with
  | zero =>
    intro c hc hcn
    have hc2 : c = mz_tk k := by omega
    have hv : mz_in (mz_st k * (c : Int)) := by
      rw [hc2, ← ht.2.2.1]
      have : mz_w k ≤ 175000000000000 := by unfold mz_w; split <;> decide
      unfold mz_in
      omega
    have hmod : (mz_st k * (c : Int)).tmod (mz_m k : Int) = 1 := by
      rw [Int.tmod_eq_emod_of_nonneg (Int.mul_nonneg (by omega) (by omega)), hc2]
      exact ht.2.2.2
    refine zg_aload_n (zd_t dmM_init 117 rfl) rfl ?_
    refine zg_getf (zd_t dmM_init 118 rfl) zf_M_27 (zb_at (k := 0) rfl rfl) rfl ?_
    refine zg_iload_n (zd_t dmM_init 119 rfl) rfl ?_
    refine zg_lald (k := k) (t0 := 1) (zd_t dmM_init 120 rfl) (zb_at (k := 6) rfl rfl) rfl rfl hk (by decide) ?_
    rw [show vp_updL (zb_uk k) k (mz_L (mz_st k * (c : Int))) k = mz_L (mz_st k * (c : Int)) from if_pos rfl]
    refine zg_aload_n (zd_t dmM_init 121 rfl) rfl ?_
    refine zg_getf (zd_t dmM_init 122 rfl) zf_M_7 (zb_at (k := 0) rfl rfl) rfl ?_
    refine zg_iload_n (zd_t dmM_init 123 rfl) rfl ?_
    refine zg_iald (k := k) (t0 := 0) (zd_t dmM_init 124 rfl) (zb_at (k := 1) rfl rfl) rfl rfl (show k < 8 by omega) (by decide) ?_
    rw [show zb_mo 8 k = nI (mz_m k) from if_pos (by omega)]
    refine zg_i2l (zd_t dmM_init 125 rfl) rfl ?_
    rw [mz_i2l (show mz_m k < 2 ^ 31 by omega)]
    refine zg_lrem (zd_t dmM_init 126 rfl) hm0 ?_
    rw [mz_rem hv hmi, hmod]
    refine zg_lconst (v := mz_L 1) (zd_t dmM_init 127 rfl) (by decide) ?_
    refine zg_lcmp (zd_t dmM_init 128 rfl) ?_
    refine zg_if_eq (tgt := 249) (zd_t dmM_init 129 rfl) (by decide) (fun _ => ?_) (fun hq => absurd (by decide) hq)
    rw [hc2, ← ht.2.2.1, zb_uk_s]
    exact kk
  | succ n ih =>
    intro c hc hcn
    have hcl : mz_st k * (c : Int) ≤ 800000000000 * 256 := Int.mul_le_mul (by omega) (by omega) (by omega) (by omega)
    have hc0 := Int.mul_nonneg (show 0 ≤ mz_st k by omega) (show 0 ≤ (c : Int) by omega)
    have hv : mz_in (mz_st k * (c : Int)) := by unfold mz_in; omega
    have hmod : (mz_st k * (c : Int)).tmod (mz_m k : Int) = (mz_st k * (c : Int)) % (mz_m k : Int) := Int.tmod_eq_emod_of_nonneg hc0
    have hne := mz_tk_n k hk c (by omega) hc
    have hmi2 : mz_in ((mz_st k * (c : Int)) % (mz_m k : Int)) := by
      have a1 := Int.emod_nonneg (mz_st k * (c : Int)) (show (mz_m k : Int) ≠ 0 by omega)
      have a2 := Int.emod_lt_of_pos (mz_st k * (c : Int)) (show 0 < (mz_m k : Int) by omega)
      unfold mz_in
      omega
    refine zg_aload_n (zd_t dmM_init 117 rfl) rfl ?_
    refine zg_getf (zd_t dmM_init 118 rfl) zf_M_27 (zb_at (k := 0) rfl rfl) rfl ?_
    refine zg_iload_n (zd_t dmM_init 119 rfl) rfl ?_
    refine zg_lald (k := k) (t0 := 1) (zd_t dmM_init 120 rfl) (zb_at (k := 6) rfl rfl) rfl rfl hk (by decide) ?_
    rw [show vp_updL (zb_uk k) k (mz_L (mz_st k * (c : Int))) k = mz_L (mz_st k * (c : Int)) from if_pos rfl]
    refine zg_aload_n (zd_t dmM_init 121 rfl) rfl ?_
    refine zg_getf (zd_t dmM_init 122 rfl) zf_M_7 (zb_at (k := 0) rfl rfl) rfl ?_
    refine zg_iload_n (zd_t dmM_init 123 rfl) rfl ?_
    refine zg_iald (k := k) (t0 := 0) (zd_t dmM_init 124 rfl) (zb_at (k := 1) rfl rfl) rfl rfl (show k < 8 by omega) (by decide) ?_
    rw [show zb_mo 8 k = nI (mz_m k) from if_pos (by omega)]
    refine zg_i2l (zd_t dmM_init 125 rfl) rfl ?_
    rw [mz_i2l (show mz_m k < 2 ^ 31 by omega)]
    refine zg_lrem (zd_t dmM_init 126 rfl) hm0 ?_
    rw [mz_rem hv hmi, hmod]
    refine zg_lconst (v := mz_L 1) (zd_t dmM_init 127 rfl) (by decide) ?_
    refine zg_lcmp (zd_t dmM_init 128 rfl) ?_
    rw [mz_cmp hmi2 h1i]
    have hcc : ¬ (if 1 < (mz_st k * (c : Int)) % (mz_m k : Int) then (1 : Int32) else if (mz_st k * (c : Int)) % (mz_m k : Int) = 1 then 0 else -1) = 0 := by
      by_cases q1 : 1 < (mz_st k * (c : Int)) % (mz_m k : Int)
      · rw [if_pos q1]; decide
      · rw [if_neg q1, if_neg hne]; decide
    refine zg_if_eq (tgt := 249) (zd_t dmM_init 129 rfl) (by decide) (fun hq => absurd hq hcc) (fun _ => ?_)
    refine zg_aload_n (zd_t dmM_init 130 rfl) rfl ?_
    refine zg_getf (zd_t dmM_init 131 rfl) zf_M_27 (zb_at (k := 0) rfl rfl) rfl ?_
    refine zg_iload_n (zd_t dmM_init 132 rfl) rfl ?_
    refine zg_aload_n (zd_t dmM_init 133 rfl) rfl ?_
    refine zg_getf (zd_t dmM_init 134 rfl) zf_M_27 (zb_at (k := 0) rfl rfl) rfl ?_
    refine zg_iload_n (zd_t dmM_init 135 rfl) rfl ?_
    refine zg_lald (k := k) (t0 := 1) (zd_t dmM_init 136 rfl) (zb_at (k := 6) rfl rfl) rfl rfl hk (by decide) ?_
    rw [show vp_updL (zb_uk k) k (mz_L (mz_st k * (c : Int))) k = mz_L (mz_st k * (c : Int)) from if_pos rfl]
    refine zg_lload_n (zd_t dmM_init 137 rfl) rfl ?_
    refine zg_ladd (zd_t dmM_init 138 rfl) ?_
    rw [mz_add, show mz_st k * (c : Int) + mz_st k = mz_st k * ((c + 1 : Nat) : Int) by rw [Int.natCast_add, Int.mul_add]; omega]
    refine zg_last (k := k) (t0 := 1) (zd_t dmM_init 139 rfl) (zb_at (k := 6) rfl rfl) rfl rfl hk (by decide) (zb_up (L2 := zb_M A (zp_ca P) (mz_L 175107974924611) hf (vp_updL (zb_uk k) k (mz_L (mz_st k * ((c + 1 : Nat) : Int)))) su) 6 (Nat.le_of_ble_eq_true rfl) rfl (by rw [zb_updL2]; rfl)) ?_
    refine zg_goto (tgt := 213) (zd_t dmM_init 140 rfl) (by decide) ?_
    exact ih (c + 1) (by omega) (by omega)
theorem zm_init_2 : ∀ (n k : Nat), k + n = 6 → ∀ u2 : List (Nat × Value), zg_G l (zs_E P) (d + 1) mM_init 187 ((1, .int (nI k)) :: (0, .ref A) :: u2) [] (zb_l A f (zb_M A (zp_ca P) (mz_L 175107974924611) (mz_L 87553987462305) (zb_uk k) (zb_sk 0)), w) (.inl none, (zb_l A f (zb_M A (zp_ca P) (mz_L 175107974924611) (mz_L 87553987462305) (zb_uk 6) (zb_sk 16)), w)) := by
  intro n
  induction n with
  | zero =>
    intro k hk u2
    have hk : k = 6 := by omega
    subst hk
    refine zg_lv [0, 1] (lv2 := [(1, .int (nI 6)), (0, .ref A)]) rfl ?_
    refine zg_iload_n (zd_t dmM_init 100 rfl) rfl ?_
    refine zg_bipush (v := (nI 6)) (zd_t dmM_init 101 rfl) (by decide) ?_
    refine zg_icmp_ge (tgt := 255) (zd_t dmM_init 102 rfl) (by decide) (fun _ => ?_) (fun hq => absurd (by decide) hq)
    refine zg_iconst (v := (nI 0)) (zd_t dmM_init 143 rfl) (by decide) ?_
    refine zg_istore_n (zd_t dmM_init 144 rfl) (by decide) rfl ?_
    exact zm_init_3 16 0 rfl
  | succ n ih =>
    intro k hk u2
    have hk6 : k < 6 := by omega
    have hm := mz_m_lt k
    have hMi : mz_in 175107974924611 := by unfold mz_in; omega
    have hmi := mz_m_in k
    have ht := mz_tk_w k hk6
    have hm0 : ¬ mz_L (mz_m k : Int) = 0 := fun h => by
      have h0 : mz_in 0 := by unfold mz_in; omega
      have : mz_L (mz_m k : Int) = mz_L 0 := h
      rw [mz_eq hmi h0] at this
      omega
    refine zg_lv [0, 1] (lv2 := [(1, .int (nI k)), (0, .ref A)]) rfl ?_
    refine zg_iload_n (zd_t dmM_init 100 rfl) rfl ?_
    refine zg_bipush (v := (nI 6)) (zd_t dmM_init 101 rfl) (by decide) ?_
    refine zg_icmp_ge (tgt := 255) (zd_t dmM_init 102 rfl) (by decide) (fun hq => absurd hq (fun h => absurd ((nI_leI (by decide) (by omega)).mp h) (by omega))) (fun _ => ?_)
    refine zg_aload_n (zd_t dmM_init 103 rfl) rfl ?_
    refine zg_getf (zd_t dmM_init 104 rfl) zf_M_33 (zb_at (k := 0) rfl rfl) rfl ?_
    refine zg_aload_n (zd_t dmM_init 105 rfl) rfl ?_
    refine zg_getf (zd_t dmM_init 106 rfl) zf_M_7 (zb_at (k := 0) rfl rfl) rfl ?_
    refine zg_iload_n (zd_t dmM_init 107 rfl) rfl ?_
    refine zg_iald (k := k) (t0 := 0) (zd_t dmM_init 108 rfl) (zb_at (k := 1) rfl rfl) rfl rfl (show k < 8 by omega) (by decide) ?_
    rw [show zb_mo 8 k = nI (mz_m k) from if_pos (by omega)]
    refine zg_i2l (zd_t dmM_init 109 rfl) rfl ?_
    rw [mz_i2l (show mz_m k < 2 ^ 31 by omega)]
    refine zg_ldiv (zd_t dmM_init 110 rfl) hm0 ?_
    rw [mz_div hMi hmi, mz_stk k hk6]
    refine zg_lstore_n (zd_t dmM_init 111 rfl) (by decide) rfl ?_
    refine zg_aload_n (zd_t dmM_init 112 rfl) rfl ?_
    refine zg_getf (zd_t dmM_init 113 rfl) zf_M_27 (zb_at (k := 0) rfl rfl) rfl ?_
    refine zg_iload_n (zd_t dmM_init 114 rfl) rfl ?_
    refine zg_lload_n (zd_t dmM_init 115 rfl) rfl ?_
    refine zg_last (k := k) (t0 := 1) (zd_t dmM_init 116 rfl) (zb_at (k := 6) rfl rfl) rfl rfl hk6 (by decide) (zb_up (L2 := zb_M A (zp_ca P) (mz_L 175107974924611) (mz_L 87553987462305) (vp_updL (zb_uk k) k (mz_L (mz_st k * ((1 : Nat) : Int)))) (zb_sk 0)) 6 (Nat.le_of_ble_eq_true rfl) rfl (by rw [show mz_st k * ((1 : Nat) : Int) = mz_st k from Int.mul_one _]; rfl)) ?_
    refine zm_init_w hk6 ?_ (mz_tk k - 1) 1 (by omega) (by omega)
    refine zg_iinc (lv2 := [(1, .int (nI (k + 1))), (2, .long (mz_L (mz_st k))), (0, .ref A)]) (zd_t dmM_init 141 rfl) rfl (mz_inc k) (by decide) rfl ?_
    refine zg_goto (tgt := 187) (zd_t dmM_init 142 rfl) (by decide) ?_
    exact zg_lv [0, 2, 1] rfl (ih (k + 1) (by omega) [(2, .long (mz_L (mz_st k)))])
theorem zm_init_1 : ∀ (n k : Nat), k + n = 6 → zg_G l (zs_E P) (d + 1) mM_init 143 [(1, .int (nI k)), (0, .ref A)] [] (zb_l A f (zb_M A (zp_ca P) (mz_L (zb_wh k : Int)) 0 (zb_uk 0) (zb_sk 0)), w) (.inl none, (zb_l A f (zb_M A (zp_ca P) (mz_L 175107974924611) (mz_L 87553987462305) (zb_uk 6) (zb_sk 16)), w)) := by
  intro n
  induction n with
  | zero =>
    intro k hk
    have hk : k = 6 := by omega
    subst hk
    rw [show ((zb_wh 6 : Nat) : Int) = 175107974924611 by decide +kernel]
    have h1 : mz_in 175107974924610 := by unfold mz_in; omega
    have h2 : mz_in 2 := by unfold mz_in; omega
    refine zg_iload_n (zd_t dmM_init 75 rfl) rfl ?_
    refine zg_bipush (v := (nI 6)) (zd_t dmM_init 76 rfl) (by decide) ?_
    refine zg_icmp_ge (tgt := 171) (zd_t dmM_init 77 rfl) (by decide) (fun _ => ?_) (fun hq => absurd (by decide) hq)
    refine zg_aload_n (zd_t dmM_init 90 rfl) rfl ?_
    refine zg_aload_n (zd_t dmM_init 91 rfl) rfl ?_
    refine zg_getf (zd_t dmM_init 92 rfl) zf_M_33 (zb_at (k := 0) rfl rfl) rfl ?_
    refine zg_lconst (v := mz_L 1) (zd_t dmM_init 93 rfl) (by decide) ?_
    refine zg_lsub (zd_t dmM_init 94 rfl) ?_
    refine zg_ldc2 (zd_t dmM_init 95 rfl) zc_M_37 ?_
    rw [mz_sub, show (175107974924611 : Int) - 1 = 175107974924610 from rfl]
    refine zg_ldiv (zd_t dmM_init 96 rfl) (by decide) ?_
    rw [mz_div h1 h2, show (175107974924610 : Int).tdiv 2 = 87553987462305 by decide +kernel]
    refine zg_putf (zd_t dmM_init 97 rfl) zf_M_39 zt_3_8 (zb_at (k := 0) rfl rfl) (Nat.le_of_ble_eq_true rfl) rfl rfl (zb_up (L2 := zb_M A (zp_ca P) (mz_L 175107974924611) (mz_L 87553987462305) (zb_uk 0) (zb_sk 0)) 0 (Nat.le_of_ble_eq_true rfl) rfl rfl) ?_
    refine zg_iconst (v := (nI 0)) (zd_t dmM_init 98 rfl) (by decide) ?_
    refine zg_istore_n (zd_t dmM_init 99 rfl) (by decide) rfl ?_
    exact zm_init_2 6 0 rfl []
  | succ n ih =>
    intro k hk
    have hm := mz_m_lt k
    refine zg_iload_n (zd_t dmM_init 75 rfl) rfl ?_
    refine zg_bipush (v := (nI 6)) (zd_t dmM_init 76 rfl) (by decide) ?_
    refine zg_icmp_ge (tgt := 171) (zd_t dmM_init 77 rfl) (by decide) (fun hq => absurd hq (fun h => absurd ((nI_leI (by decide) (by omega)).mp h) (by omega))) (fun _ => ?_)
    refine zg_aload_n (zd_t dmM_init 78 rfl) rfl ?_
    refine zg_aload_n (zd_t dmM_init 79 rfl) rfl ?_
    refine zg_getf (zd_t dmM_init 80 rfl) zf_M_33 (zb_at (k := 0) rfl rfl) rfl ?_
    refine zg_aload_n (zd_t dmM_init 81 rfl) rfl ?_
    refine zg_getf (zd_t dmM_init 82 rfl) zf_M_7 (zb_at (k := 0) rfl rfl) rfl ?_
    refine zg_iload_n (zd_t dmM_init 83 rfl) rfl ?_
    refine zg_iald (k := k) (t0 := 0) (zd_t dmM_init 84 rfl) (zb_at (k := 1) rfl rfl) rfl rfl (show k < 8 by omega) (by decide) ?_
    rw [show zb_mo 8 k = nI (mz_m k) from if_pos (by omega)]
    refine zg_i2l (zd_t dmM_init 85 rfl) rfl ?_
    rw [mz_i2l (show mz_m k < 2 ^ 31 by omega)]
    refine zg_lmul (zd_t dmM_init 86 rfl) ?_
    rw [mz_mul, show (zb_wh k : Int) * (mz_m k : Int) = (zb_wh (k + 1) : Int) by rw [show zb_wh (k + 1) = zb_wh k * mz_m k from rfl]; omega]
    refine zg_putf (zd_t dmM_init 87 rfl) zf_M_33 zt_3_7 (zb_at (k := 0) rfl rfl) (Nat.le_of_ble_eq_true rfl) rfl rfl (zb_up (L2 := zb_M A (zp_ca P) (mz_L (zb_wh (k + 1) : Int)) 0 (zb_uk 0) (zb_sk 0)) 0 (Nat.le_of_ble_eq_true rfl) rfl rfl) ?_
    refine zg_iinc (lv2 := [(1, .int (nI (k + 1))), (0, .ref A)]) (zd_t dmM_init 88 rfl) rfl (mz_inc k) (by decide) rfl ?_
    refine zg_goto (tgt := 143) (zd_t dmM_init 89 rfl) (by decide) ?_
    exact ih (k + 1) (by omega)
def zb_mD : va_E := .inr (3, [.int 0, .null, .null, .null, .null, .null, .null, .long 0, .long 0, .null, .int 0, .int 0])
theorem zm_init : zg_C l (zs_E P) (d + 1) mM_init [.ref A] (zb_l A f [zb_mD], A + 1, us) (.inl none, (zb_l A f (zb_M A (zp_ca P) (mz_L 175107974924611) (mz_L 87553987462305) (zb_uk 6) (zb_sk 16)), A + 8, us + 8 + 128 + 16 + 16 + 16 + 6 + 128)) := by
  refine zg_C_of (by decide +kernel) (Nat.le_of_ble_eq_true rfl) ?_
  refine zg_aload_n (zd_t dmM_init 0 rfl) rfl ?_
  refine zg_objInit (zd_t dmM_init 1 rfl) (zs_in 456 (by decide +kernel) (by decide +kernel)) zs_oi zs_oc (by decide) ?_
  refine zg_aload_n (zd_t dmM_init 2 rfl) rfl ?_
  refine zg_bipush (v := (nI 8)) (zd_t dmM_init 3 rfl) (by decide) ?_
  refine zg_newa (t0 := 0) (N := 8) (a0 := (8, .inl (fun _ => 0))) (zd_t dmM_init 4 rfl) rfl (zs_in 45 (by decide +kernel) (by decide +kernel)) rfl (fun C h => by cases h) rfl (by decide) (fun _ => rfl) (by decide) (zb_al (L2 := [.inr (3, [.int 0, .null, .null, .null, .null, .null, .null, .long 0, .long 0, .null, .int 0, .int 0]), .inl (zp_ca P 0, 8, .inl (zb_mo 0))]) rfl (by rw [← zb_mo_0]; rfl)) ?_
  refine zg_putF (zd_t dmM_init 5 rfl) zf_M_7 zt_3_1 (fun C T N h => by cases h; rfl) rfl (zb_at (k := 0) rfl rfl) (Nat.le_of_ble_eq_true rfl) rfl rfl (zb_up (L2 := [.inr (3, [.int 0, .ref (A + 1), .null, .null, .null, .null, .null, .long 0, .long 0, .null, .int 0, .int 0]), .inl (zp_ca P 0, 8, .inl (zb_mo 0))]) 0 (Nat.le_of_ble_eq_true rfl) rfl rfl) ?_
  refine zg_aload_n (zd_t dmM_init 6 rfl) rfl ?_
  refine zg_sipush (v := (nI 128)) (zd_t dmM_init 7 rfl) (by decide) ?_
  refine zg_newa (t0 := 0) (N := 128) (a0 := (128, .inl (fun _ => 0))) (zd_t dmM_init 8 rfl) rfl (zs_in 45 (by decide +kernel) (by decide +kernel)) rfl (fun C h => by cases h) rfl (by decide) (fun _ => rfl) (by decide) (zb_al (L2 := [.inr (3, [.int 0, .ref (A + 1), .null, .null, .null, .null, .null, .long 0, .long 0, .null, .int 0, .int 0]), .inl (zp_ca P 0, 8, .inl (zb_mo 0)), .inl (zp_ca P 0, 128, .inl (fun _ => 0))]) rfl (rfl)) ?_
  refine zg_putF (zd_t dmM_init 9 rfl) zf_M_13 zt_3_2 (fun C T N h => by cases h; rfl) rfl (zb_at (k := 0) rfl rfl) (Nat.le_of_ble_eq_true rfl) rfl rfl (zb_up (L2 := [.inr (3, [.int 0, .ref (A + 1), .ref (A + 2), .null, .null, .null, .null, .long 0, .long 0, .null, .int 0, .int 0]), .inl (zp_ca P 0, 8, .inl (zb_mo 0)), .inl (zp_ca P 0, 128, .inl (fun _ => 0))]) 0 (Nat.le_of_ble_eq_true rfl) rfl rfl) ?_
  refine zg_aload_n (zd_t dmM_init 10 rfl) rfl ?_
  refine zg_bipush (v := (nI 16)) (zd_t dmM_init 11 rfl) (by decide) ?_
  refine zg_newa (t0 := 1) (N := 16) (a0 := (16, .inr (.inl (fun _ => 0)))) (zd_t dmM_init 12 rfl) rfl (zs_in 495 (by decide +kernel) (by decide +kernel)) rfl (fun C h => by cases h) rfl (by decide) (fun _ => rfl) (by decide) (zb_al (L2 := [.inr (3, [.int 0, .ref (A + 1), .ref (A + 2), .null, .null, .null, .null, .long 0, .long 0, .null, .int 0, .int 0]), .inl (zp_ca P 0, 8, .inl (zb_mo 0)), .inl (zp_ca P 0, 128, .inl (fun _ => 0)), .inl (zp_ca P 1, 16, .inr (.inl (fun _ => 0)))]) rfl (rfl)) ?_
  refine zg_putF (zd_t dmM_init 13 rfl) zf_M_16 zt_3_3 (fun C T N h => by cases h; rfl) rfl (zb_at (k := 0) rfl rfl) (Nat.le_of_ble_eq_true rfl) rfl rfl (zb_up (L2 := [.inr (3, [.int 0, .ref (A + 1), .ref (A + 2), .ref (A + 3), .null, .null, .null, .long 0, .long 0, .null, .int 0, .int 0]), .inl (zp_ca P 0, 8, .inl (zb_mo 0)), .inl (zp_ca P 0, 128, .inl (fun _ => 0)), .inl (zp_ca P 1, 16, .inr (.inl (fun _ => 0)))]) 0 (Nat.le_of_ble_eq_true rfl) rfl rfl) ?_
  refine zg_aload_n (zd_t dmM_init 14 rfl) rfl ?_
  refine zg_bipush (v := (nI 16)) (zd_t dmM_init 15 rfl) (by decide) ?_
  refine zg_newa (t0 := 1) (N := 16) (a0 := (16, .inr (.inl (fun _ => 0)))) (zd_t dmM_init 16 rfl) rfl (zs_in 495 (by decide +kernel) (by decide +kernel)) rfl (fun C h => by cases h) rfl (by decide) (fun _ => rfl) (by decide) (zb_al (L2 := [.inr (3, [.int 0, .ref (A + 1), .ref (A + 2), .ref (A + 3), .null, .null, .null, .long 0, .long 0, .null, .int 0, .int 0]), .inl (zp_ca P 0, 8, .inl (zb_mo 0)), .inl (zp_ca P 0, 128, .inl (fun _ => 0)), .inl (zp_ca P 1, 16, .inr (.inl (fun _ => 0))), .inl (zp_ca P 1, 16, .inr (.inl (fun _ => 0)))]) rfl (rfl)) ?_
  refine zg_putF (zd_t dmM_init 17 rfl) zf_M_20 zt_3_4 (fun C T N h => by cases h; rfl) rfl (zb_at (k := 0) rfl rfl) (Nat.le_of_ble_eq_true rfl) rfl rfl (zb_up (L2 := [.inr (3, [.int 0, .ref (A + 1), .ref (A + 2), .ref (A + 3), .ref (A + 4), .null, .null, .long 0, .long 0, .null, .int 0, .int 0]), .inl (zp_ca P 0, 8, .inl (zb_mo 0)), .inl (zp_ca P 0, 128, .inl (fun _ => 0)), .inl (zp_ca P 1, 16, .inr (.inl (fun _ => 0))), .inl (zp_ca P 1, 16, .inr (.inl (fun _ => 0)))]) 0 (Nat.le_of_ble_eq_true rfl) rfl rfl) ?_
  refine zg_aload_n (zd_t dmM_init 18 rfl) rfl ?_
  refine zg_bipush (v := (nI 16)) (zd_t dmM_init 19 rfl) (by decide) ?_
  refine zg_newa (t0 := 2) (N := 16) (a0 := (16, .inl (fun _ => 0))) (zd_t dmM_init 20 rfl) rfl (zs_in 496 (by decide +kernel) (by decide +kernel)) rfl (fun C h => by cases h) rfl (by decide) (fun _ => rfl) (by decide) (zb_al (L2 := [.inr (3, [.int 0, .ref (A + 1), .ref (A + 2), .ref (A + 3), .ref (A + 4), .null, .null, .long 0, .long 0, .null, .int 0, .int 0]), .inl (zp_ca P 0, 8, .inl (zb_mo 0)), .inl (zp_ca P 0, 128, .inl (fun _ => 0)), .inl (zp_ca P 1, 16, .inr (.inl (fun _ => 0))), .inl (zp_ca P 1, 16, .inr (.inl (fun _ => 0))), .inl (zp_ca P 2, 16, .inl (zb_sk 0))]) rfl (by rw [← zb_sk_0]; rfl)) ?_
  refine zg_putF (zd_t dmM_init 21 rfl) zf_M_23 zt_3_5 (fun C T N h => by cases h; rfl) rfl (zb_at (k := 0) rfl rfl) (Nat.le_of_ble_eq_true rfl) rfl rfl (zb_up (L2 := [.inr (3, [.int 0, .ref (A + 1), .ref (A + 2), .ref (A + 3), .ref (A + 4), .ref (A + 5), .null, .long 0, .long 0, .null, .int 0, .int 0]), .inl (zp_ca P 0, 8, .inl (zb_mo 0)), .inl (zp_ca P 0, 128, .inl (fun _ => 0)), .inl (zp_ca P 1, 16, .inr (.inl (fun _ => 0))), .inl (zp_ca P 1, 16, .inr (.inl (fun _ => 0))), .inl (zp_ca P 2, 16, .inl (zb_sk 0))]) 0 (Nat.le_of_ble_eq_true rfl) rfl rfl) ?_
  refine zg_aload_n (zd_t dmM_init 22 rfl) rfl ?_
  refine zg_bipush (v := (nI 6)) (zd_t dmM_init 23 rfl) (by decide) ?_
  refine zg_newa (t0 := 1) (N := 6) (a0 := (6, .inr (.inl (fun _ => 0)))) (zd_t dmM_init 24 rfl) rfl (zs_in 495 (by decide +kernel) (by decide +kernel)) rfl (fun C h => by cases h) rfl (by decide) (fun _ => rfl) (by decide) (zb_al (L2 := [.inr (3, [.int 0, .ref (A + 1), .ref (A + 2), .ref (A + 3), .ref (A + 4), .ref (A + 5), .null, .long 0, .long 0, .null, .int 0, .int 0]), .inl (zp_ca P 0, 8, .inl (zb_mo 0)), .inl (zp_ca P 0, 128, .inl (fun _ => 0)), .inl (zp_ca P 1, 16, .inr (.inl (fun _ => 0))), .inl (zp_ca P 1, 16, .inr (.inl (fun _ => 0))), .inl (zp_ca P 2, 16, .inl (zb_sk 0)), .inl (zp_ca P 1, 6, .inr (.inl (zb_uk 0)))]) rfl (by rw [← zb_uk_0]; rfl)) ?_
  refine zg_putF (zd_t dmM_init 25 rfl) zf_M_27 zt_3_6 (fun C T N h => by cases h; rfl) rfl (zb_at (k := 0) rfl rfl) (Nat.le_of_ble_eq_true rfl) rfl rfl (zb_up (L2 := [.inr (3, [.int 0, .ref (A + 1), .ref (A + 2), .ref (A + 3), .ref (A + 4), .ref (A + 5), .ref (A + 6), .long 0, .long 0, .null, .int 0, .int 0]), .inl (zp_ca P 0, 8, .inl (zb_mo 0)), .inl (zp_ca P 0, 128, .inl (fun _ => 0)), .inl (zp_ca P 1, 16, .inr (.inl (fun _ => 0))), .inl (zp_ca P 1, 16, .inr (.inl (fun _ => 0))), .inl (zp_ca P 2, 16, .inl (zb_sk 0)), .inl (zp_ca P 1, 6, .inr (.inl (zb_uk 0)))]) 0 (Nat.le_of_ble_eq_true rfl) rfl rfl) ?_
  refine zg_aload_n (zd_t dmM_init 26 rfl) rfl ?_
  refine zg_sipush (v := (nI 128)) (zd_t dmM_init 27 rfl) (by decide) ?_
  refine zg_newa (t0 := 0) (N := 128) (a0 := (128, .inl (fun _ => 0))) (zd_t dmM_init 28 rfl) rfl (zs_in 45 (by decide +kernel) (by decide +kernel)) rfl (fun C h => by cases h) rfl (by decide) (fun _ => rfl) (by decide) (zb_al (L2 := [.inr (3, [.int 0, .ref (A + 1), .ref (A + 2), .ref (A + 3), .ref (A + 4), .ref (A + 5), .ref (A + 6), .long 0, .long 0, .null, .int 0, .int 0]), .inl (zp_ca P 0, 8, .inl (zb_mo 0)), .inl (zp_ca P 0, 128, .inl (fun _ => 0)), .inl (zp_ca P 1, 16, .inr (.inl (fun _ => 0))), .inl (zp_ca P 1, 16, .inr (.inl (fun _ => 0))), .inl (zp_ca P 2, 16, .inl (zb_sk 0)), .inl (zp_ca P 1, 6, .inr (.inl (zb_uk 0))), .inl (zp_ca P 0, 128, .inl (fun _ => 0))]) rfl (rfl)) ?_
  refine zg_putF (zd_t dmM_init 29 rfl) zf_M_30 zt_3_9 (fun C T N h => by cases h; rfl) rfl (zb_at (k := 0) rfl rfl) (Nat.le_of_ble_eq_true rfl) rfl rfl (zb_up (L2 := [.inr (3, [.int 0, .ref (A + 1), .ref (A + 2), .ref (A + 3), .ref (A + 4), .ref (A + 5), .ref (A + 6), .long 0, .long 0, .ref (A + 7), .int 0, .int 0]), .inl (zp_ca P 0, 8, .inl (zb_mo 0)), .inl (zp_ca P 0, 128, .inl (fun _ => 0)), .inl (zp_ca P 1, 16, .inr (.inl (fun _ => 0))), .inl (zp_ca P 1, 16, .inr (.inl (fun _ => 0))), .inl (zp_ca P 2, 16, .inl (zb_sk 0)), .inl (zp_ca P 1, 6, .inr (.inl (zb_uk 0))), .inl (zp_ca P 0, 128, .inl (fun _ => 0))]) 0 (Nat.le_of_ble_eq_true rfl) rfl rfl) ?_
  refine zg_aload_n (zd_t dmM_init 30 rfl) rfl ?_
  refine zg_getf (zd_t dmM_init 31 rfl) zf_M_7 (zb_at (k := 0) rfl rfl) rfl ?_
  refine zg_iconst (v := (nI 0)) (zd_t dmM_init 32 rfl) (by decide) ?_
  refine zg_sipush (v := (nI 251)) (zd_t dmM_init 33 rfl) (by decide) ?_
  refine zg_iast (k := 0) (t0 := 0) (zd_t dmM_init 34 rfl) (zb_at (k := 1) rfl rfl) rfl rfl (by decide) (by decide) (zb_up (L2 := [.inr (3, [.int 0, .ref (A + 1), .ref (A + 2), .ref (A + 3), .ref (A + 4), .ref (A + 5), .ref (A + 6), .long 0, .long 0, .ref (A + 7), .int 0, .int 0]), .inl (zp_ca P 0, 8, .inl (zb_mo 1)), .inl (zp_ca P 0, 128, .inl (fun _ => 0)), .inl (zp_ca P 1, 16, .inr (.inl (fun _ => 0))), .inl (zp_ca P 1, 16, .inr (.inl (fun _ => 0))), .inl (zp_ca P 2, 16, .inl (zb_sk 0)), .inl (zp_ca P 1, 6, .inr (.inl (zb_uk 0))), .inl (zp_ca P 0, 128, .inl (fun _ => 0))]) 1 (Nat.le_of_ble_eq_true rfl) rfl (by rw [show zb_mo 1 = upd (zb_mo 0) 0 (nI (mz_m 0)) from (zb_mo_s 0).symm]; rfl)) ?_
  refine zg_aload_n (zd_t dmM_init 35 rfl) rfl ?_
  refine zg_getf (zd_t dmM_init 36 rfl) zf_M_7 (zb_at (k := 0) rfl rfl) rfl ?_
  refine zg_iconst (v := (nI 1)) (zd_t dmM_init 37 rfl) (by decide) ?_
  refine zg_sipush (v := (nI 241)) (zd_t dmM_init 38 rfl) (by decide) ?_
  refine zg_iast (k := 1) (t0 := 0) (zd_t dmM_init 39 rfl) (zb_at (k := 1) rfl rfl) rfl rfl (by decide) (by decide) (zb_up (L2 := [.inr (3, [.int 0, .ref (A + 1), .ref (A + 2), .ref (A + 3), .ref (A + 4), .ref (A + 5), .ref (A + 6), .long 0, .long 0, .ref (A + 7), .int 0, .int 0]), .inl (zp_ca P 0, 8, .inl (zb_mo 2)), .inl (zp_ca P 0, 128, .inl (fun _ => 0)), .inl (zp_ca P 1, 16, .inr (.inl (fun _ => 0))), .inl (zp_ca P 1, 16, .inr (.inl (fun _ => 0))), .inl (zp_ca P 2, 16, .inl (zb_sk 0)), .inl (zp_ca P 1, 6, .inr (.inl (zb_uk 0))), .inl (zp_ca P 0, 128, .inl (fun _ => 0))]) 1 (Nat.le_of_ble_eq_true rfl) rfl (by rw [show zb_mo 2 = upd (zb_mo 1) 1 (nI (mz_m 1)) from (zb_mo_s 1).symm]; rfl)) ?_
  refine zg_aload_n (zd_t dmM_init 40 rfl) rfl ?_
  refine zg_getf (zd_t dmM_init 41 rfl) zf_M_7 (zb_at (k := 0) rfl rfl) rfl ?_
  refine zg_iconst (v := (nI 2)) (zd_t dmM_init 42 rfl) (by decide) ?_
  refine zg_sipush (v := (nI 239)) (zd_t dmM_init 43 rfl) (by decide) ?_
  refine zg_iast (k := 2) (t0 := 0) (zd_t dmM_init 44 rfl) (zb_at (k := 1) rfl rfl) rfl rfl (by decide) (by decide) (zb_up (L2 := [.inr (3, [.int 0, .ref (A + 1), .ref (A + 2), .ref (A + 3), .ref (A + 4), .ref (A + 5), .ref (A + 6), .long 0, .long 0, .ref (A + 7), .int 0, .int 0]), .inl (zp_ca P 0, 8, .inl (zb_mo 3)), .inl (zp_ca P 0, 128, .inl (fun _ => 0)), .inl (zp_ca P 1, 16, .inr (.inl (fun _ => 0))), .inl (zp_ca P 1, 16, .inr (.inl (fun _ => 0))), .inl (zp_ca P 2, 16, .inl (zb_sk 0)), .inl (zp_ca P 1, 6, .inr (.inl (zb_uk 0))), .inl (zp_ca P 0, 128, .inl (fun _ => 0))]) 1 (Nat.le_of_ble_eq_true rfl) rfl (by rw [show zb_mo 3 = upd (zb_mo 2) 2 (nI (mz_m 2)) from (zb_mo_s 2).symm]; rfl)) ?_
  refine zg_aload_n (zd_t dmM_init 45 rfl) rfl ?_
  refine zg_getf (zd_t dmM_init 46 rfl) zf_M_7 (zb_at (k := 0) rfl rfl) rfl ?_
  refine zg_iconst (v := (nI 3)) (zd_t dmM_init 47 rfl) (by decide) ?_
  refine zg_sipush (v := (nI 233)) (zd_t dmM_init 48 rfl) (by decide) ?_
  refine zg_iast (k := 3) (t0 := 0) (zd_t dmM_init 49 rfl) (zb_at (k := 1) rfl rfl) rfl rfl (by decide) (by decide) (zb_up (L2 := [.inr (3, [.int 0, .ref (A + 1), .ref (A + 2), .ref (A + 3), .ref (A + 4), .ref (A + 5), .ref (A + 6), .long 0, .long 0, .ref (A + 7), .int 0, .int 0]), .inl (zp_ca P 0, 8, .inl (zb_mo 4)), .inl (zp_ca P 0, 128, .inl (fun _ => 0)), .inl (zp_ca P 1, 16, .inr (.inl (fun _ => 0))), .inl (zp_ca P 1, 16, .inr (.inl (fun _ => 0))), .inl (zp_ca P 2, 16, .inl (zb_sk 0)), .inl (zp_ca P 1, 6, .inr (.inl (zb_uk 0))), .inl (zp_ca P 0, 128, .inl (fun _ => 0))]) 1 (Nat.le_of_ble_eq_true rfl) rfl (by rw [show zb_mo 4 = upd (zb_mo 3) 3 (nI (mz_m 3)) from (zb_mo_s 3).symm]; rfl)) ?_
  refine zg_aload_n (zd_t dmM_init 50 rfl) rfl ?_
  refine zg_getf (zd_t dmM_init 51 rfl) zf_M_7 (zb_at (k := 0) rfl rfl) rfl ?_
  refine zg_iconst (v := (nI 4)) (zd_t dmM_init 52 rfl) (by decide) ?_
  refine zg_sipush (v := (nI 229)) (zd_t dmM_init 53 rfl) (by decide) ?_
  refine zg_iast (k := 4) (t0 := 0) (zd_t dmM_init 54 rfl) (zb_at (k := 1) rfl rfl) rfl rfl (by decide) (by decide) (zb_up (L2 := [.inr (3, [.int 0, .ref (A + 1), .ref (A + 2), .ref (A + 3), .ref (A + 4), .ref (A + 5), .ref (A + 6), .long 0, .long 0, .ref (A + 7), .int 0, .int 0]), .inl (zp_ca P 0, 8, .inl (zb_mo 5)), .inl (zp_ca P 0, 128, .inl (fun _ => 0)), .inl (zp_ca P 1, 16, .inr (.inl (fun _ => 0))), .inl (zp_ca P 1, 16, .inr (.inl (fun _ => 0))), .inl (zp_ca P 2, 16, .inl (zb_sk 0)), .inl (zp_ca P 1, 6, .inr (.inl (zb_uk 0))), .inl (zp_ca P 0, 128, .inl (fun _ => 0))]) 1 (Nat.le_of_ble_eq_true rfl) rfl (by rw [show zb_mo 5 = upd (zb_mo 4) 4 (nI (mz_m 4)) from (zb_mo_s 4).symm]; rfl)) ?_
  refine zg_aload_n (zd_t dmM_init 55 rfl) rfl ?_
  refine zg_getf (zd_t dmM_init 56 rfl) zf_M_7 (zb_at (k := 0) rfl rfl) rfl ?_
  refine zg_iconst (v := (nI 5)) (zd_t dmM_init 57 rfl) (by decide) ?_
  refine zg_sipush (v := (nI 227)) (zd_t dmM_init 58 rfl) (by decide) ?_
  refine zg_iast (k := 5) (t0 := 0) (zd_t dmM_init 59 rfl) (zb_at (k := 1) rfl rfl) rfl rfl (by decide) (by decide) (zb_up (L2 := [.inr (3, [.int 0, .ref (A + 1), .ref (A + 2), .ref (A + 3), .ref (A + 4), .ref (A + 5), .ref (A + 6), .long 0, .long 0, .ref (A + 7), .int 0, .int 0]), .inl (zp_ca P 0, 8, .inl (zb_mo 6)), .inl (zp_ca P 0, 128, .inl (fun _ => 0)), .inl (zp_ca P 1, 16, .inr (.inl (fun _ => 0))), .inl (zp_ca P 1, 16, .inr (.inl (fun _ => 0))), .inl (zp_ca P 2, 16, .inl (zb_sk 0)), .inl (zp_ca P 1, 6, .inr (.inl (zb_uk 0))), .inl (zp_ca P 0, 128, .inl (fun _ => 0))]) 1 (Nat.le_of_ble_eq_true rfl) rfl (by rw [show zb_mo 6 = upd (zb_mo 5) 5 (nI (mz_m 5)) from (zb_mo_s 5).symm]; rfl)) ?_
  refine zg_aload_n (zd_t dmM_init 60 rfl) rfl ?_
  refine zg_getf (zd_t dmM_init 61 rfl) zf_M_7 (zb_at (k := 0) rfl rfl) rfl ?_
  refine zg_bipush (v := (nI 6)) (zd_t dmM_init 62 rfl) (by decide) ?_
  refine zg_sipush (v := (nI 256)) (zd_t dmM_init 63 rfl) (by decide) ?_
  refine zg_iast (k := 6) (t0 := 0) (zd_t dmM_init 64 rfl) (zb_at (k := 1) rfl rfl) rfl rfl (by decide) (by decide) (zb_up (L2 := [.inr (3, [.int 0, .ref (A + 1), .ref (A + 2), .ref (A + 3), .ref (A + 4), .ref (A + 5), .ref (A + 6), .long 0, .long 0, .ref (A + 7), .int 0, .int 0]), .inl (zp_ca P 0, 8, .inl (zb_mo 7)), .inl (zp_ca P 0, 128, .inl (fun _ => 0)), .inl (zp_ca P 1, 16, .inr (.inl (fun _ => 0))), .inl (zp_ca P 1, 16, .inr (.inl (fun _ => 0))), .inl (zp_ca P 2, 16, .inl (zb_sk 0)), .inl (zp_ca P 1, 6, .inr (.inl (zb_uk 0))), .inl (zp_ca P 0, 128, .inl (fun _ => 0))]) 1 (Nat.le_of_ble_eq_true rfl) rfl (by rw [show zb_mo 7 = upd (zb_mo 6) 6 (nI (mz_m 6)) from (zb_mo_s 6).symm]; rfl)) ?_
  refine zg_aload_n (zd_t dmM_init 65 rfl) rfl ?_
  refine zg_getf (zd_t dmM_init 66 rfl) zf_M_7 (zb_at (k := 0) rfl rfl) rfl ?_
  refine zg_bipush (v := (nI 7)) (zd_t dmM_init 67 rfl) (by decide) ?_
  refine zg_sipush (v := (nI 255)) (zd_t dmM_init 68 rfl) (by decide) ?_
  refine zg_iast (k := 7) (t0 := 0) (zd_t dmM_init 69 rfl) (zb_at (k := 1) rfl rfl) rfl rfl (by decide) (by decide) (zb_up (L2 := [.inr (3, [.int 0, .ref (A + 1), .ref (A + 2), .ref (A + 3), .ref (A + 4), .ref (A + 5), .ref (A + 6), .long 0, .long 0, .ref (A + 7), .int 0, .int 0]), .inl (zp_ca P 0, 8, .inl (zb_mo 8)), .inl (zp_ca P 0, 128, .inl (fun _ => 0)), .inl (zp_ca P 1, 16, .inr (.inl (fun _ => 0))), .inl (zp_ca P 1, 16, .inr (.inl (fun _ => 0))), .inl (zp_ca P 2, 16, .inl (zb_sk 0)), .inl (zp_ca P 1, 6, .inr (.inl (zb_uk 0))), .inl (zp_ca P 0, 128, .inl (fun _ => 0))]) 1 (Nat.le_of_ble_eq_true rfl) rfl (by rw [show zb_mo 8 = upd (zb_mo 7) 7 (nI (mz_m 7)) from (zb_mo_s 7).symm]; rfl)) ?_
  refine zg_aload_n (zd_t dmM_init 70 rfl) rfl ?_
  refine zg_lconst (v := mz_L 1) (zd_t dmM_init 71 rfl) (by decide) ?_
  refine zg_putf (zd_t dmM_init 72 rfl) zf_M_33 zt_3_7 (zb_at (k := 0) rfl rfl) (Nat.le_of_ble_eq_true rfl) rfl rfl (zb_up (L2 := zb_M A (zp_ca P) (mz_L (zb_wh 0 : Int)) 0 (zb_uk 0) (zb_sk 0)) 0 (Nat.le_of_ble_eq_true rfl) rfl rfl) ?_
  refine zg_iconst (v := (nI 0)) (zd_t dmM_init 73 rfl) (by decide) ?_
  refine zg_istore_n (zd_t dmM_init 74 rfl) (by decide) rfl ?_
  exact zm_init_1 6 0 rfl
end ZM21
end
