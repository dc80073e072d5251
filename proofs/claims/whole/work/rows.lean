section
/-! A judgement over whole heaps: 'zg_G l E d M pc lv st σ r': from pc of method M, with the locals lv, the operand stack st and the heap σ, the invocation ends with r (an answer or a thrown object, and the heap then). -/
abbrev zg_E : Type := List Cond × List vw_C × va_G × List (ClassId × FieldType) × Nat × (State → Heap → Prop)
abbrev zg_H : Type := (Nat → Option va_E) × Nat × Nat
abbrev zg_M : Type := MethodName × ByteArray × Nat × Option FieldType × List (Nat × Nat × Nat × Nat)
abbrev zg_R : Type := (Option Value ⊕ (Nat × String)) × zg_H
abbrev zg_ws (E : zg_E) : List Cond := E.1
abbrev zg_cl (E : zg_E) : List vw_C := E.2.1
abbrev zg_D (E : zg_E) : va_G := E.2.2.1
abbrev zg_ty (E : zg_E) : List (ClassId × FieldType) := E.2.2.2.1
abbrev zg_b (E : zg_E) : Nat := E.2.2.2.2.1
abbrev zg_x (E : zg_E) : State → Heap → Prop := E.2.2.2.2.2
abbrev zg_my (M : zg_M) : MethodName := M.1
abbrev zg_cc (M : zg_M) : ByteArray := M.2.1
abbrev zg_ml (M : zg_M) : Nat := M.2.2.1
abbrev zg_rt (M : zg_M) : Option FieldType := M.2.2.2.1
abbrev zg_hh (M : zg_M) : List (Nat × Nat × Nat × Nat) := M.2.2.2.2
abbrev zg_sz (σ : zg_H) : Nat := σ.2.1
abbrev zg_us (σ : zg_H) : Nat := σ.2.2
/-- what holds of the tables and of the old cells, at the start and at every later moment -/
def zg_base (E : zg_E) (U : State) (H : Heap) : Prop := (∀ w ∈ zg_ws E, ∀ a : Array Value, w.before a U = true) ∧ va_K (zg_D E) (zg_cl E) (zg_ty E) U ∧ zg_x E U H
def zg_env (E : zg_E) (U : State) (H : Heap) : Prop := ∀ (V : State) (H' : Heap), U.WarmedH V.vm → (∀ q : Nat, q < zg_b E → H'[q]? = H[q]?) → zg_base E V H'
theorem zg_env.here {E : zg_E} {U : State} {H : Heap} (h : zg_env E U H) : zg_base E U H := h U H (State.WarmedH.refl U) (fun _ _ => rfl)
theorem zg_env.to {E : zg_E} {U V : State} {H H' : Heap} (h : zg_env E U H) (hW : U.WarmedH V.vm) (hH : ∀ q : Nat, q < zg_b E → H'[q]? = H[q]?) : zg_env E V H' :=
  fun V2 H2 w2 e2 => h V2 H2 (State.WarmedH.trans hW w2) (fun q hq => (e2 q hq).trans (hH q hq))
/-- the heap holds the cells of σ, and is as large as σ says -/
def zg_rep (E : zg_E) (σ : zg_H) (H : Heap) : Prop := H.size = zg_sz σ ∧ zg_b E ≤ H.size ∧ ∀ (a : Nat) (e : va_E), σ.1 a = some e → va_at (zg_D E) (zg_cl E) (a, e) H ∧ zg_b E ≤ a
def zg_Q (E : zg_E) (r : zg_R) : Array Value → State → Outcome → State → Prop := fun _ st o t =>
  zg_rep E r.2 t.heap ∧ (∀ q : Nat, q < zg_b E → t.heap[q]? = st.heap[q]?) ∧
    match r.1 with
    | .inl v => o = .returned v
    | .inr x => o = .threw x.1 ∧ ∃ cell : Cell, t.heap[x.1]? = some cell ∧ cell.vm.isStatics = false ∧ st.vm.findClass x.2 = some cell.cls
def zg_fe (first t : State) (L : List Loc) (k n : Nat) : Prop := first.WarmedH t.vm ∧ first.sameButNew ({ t with vm := first.vm } : State) L k n
def zg_end (E : zg_E) (below : List Frame) (r : zg_R) (a : Array Value) (s : State) (mc ms : Nat) : State → Prop := fun t =>
  ∃ o, t.status = .running ∧ Ended t below o ∧ zg_Q E r a s o t ∧ ∃ L, zg_fe s t L mc ms ∧ ∀ q ∈ L, zg_b E ≤ q.base
def zg_w (M : zg_M) : Cond := match zg_hh M with
  | [] => .code (zg_my M) (zg_cc M) (zg_ml M) (zg_rt M)
  | h :: t => .codeWith (zg_my M) (zg_cc M) (zg_ml M) (zg_rt M) (h :: t)
def zg_rm (d nc ns : Nat) : Room := { frames := d, cells := nc, slots := ns, locals := 36 * d }
/-- a call's contract -/
def zg_C (l : Launch) (E : zg_E) (d : Nat) (M : zg_M) (av : List Value) (σ : zg_H) (r : zg_R) : Prop :=
  zg_sz σ ≤ zg_sz r.2 ∧ zg_us σ ≤ zg_us r.2 ∧
    MetFree l (zg_my M) (headSpec [zg_w M] (zg_rm d (zg_sz r.2 - zg_sz σ) (zg_us r.2 - zg_us σ)))
      (fun a U => a = av.toArray ∧ zg_env E U U.heap ∧ zg_rep E σ U.heap) (fun _ _ _ _ _ => True)
      (fun a st o t => zg_Q E r a st o t ∧ ∃ L, zg_fe st t L (zg_sz r.2 - zg_sz σ) (zg_us r.2 - zg_us σ) ∧ ∀ q ∈ L, zg_b E ≤ q.base)
def zg_cx (l : Launch) (E : zg_E) (d : Nat) (M : zg_M) (p : Program) (R : Room) (s : State) (m : MethodId) (meth : Method) (c : Code) : Prop :=
  p.tables.exec = Jvm.exec ∧ c.code = zg_cc M ∧ c.maxLocals = zg_ml M ∧ meth.sig.returnType = zg_rt M ∧ s.vm.findClass (zg_my M).cls = some m.cls ∧ meth.locks = false ∧ meth.name = (zg_my M).name ∧
    zg_env E s s.heap ∧ zg_b E ≤ s.heap.size ∧ d ≤ R.frames ∧ 36 * d ≤ R.locals ∧ c.exceptionTable.toList.map (fun h => (h.startPc, h.endPc, h.handlerPc, h.catchType)) = zg_hh M
def zg_G (l : Launch) (E : zg_E) (d : Nat) (M : zg_M) (pc : Nat) (lv : List (Nat × Value)) (st : List Value) (σ : zg_H) (r : zg_R) : Prop :=
  zg_sz σ ≤ zg_sz r.2 ∧ zg_us σ ≤ zg_us r.2 ∧
    ∀ (p : Program) (e : Env) (R : Room) (s : State) (m : MethodId) (args : Array Value) (below : List Frame) (meth : Method) (c : Code) (H : Heap) (locs : List Loc) (cells slots : Nat) (ls : Array Slot) (u0 mc ms : Nat), mc ≤ R.cells → ms ≤ R.slots →
      zg_cx l E d M p R s m meth c → s.heap.size + cells = zg_sz σ → u0 + slots = zg_us σ → s.heap.size + mc = zg_sz r.2 → u0 + ms = zg_us r.2 →
      zg_rep E σ H → (∀ q : Nat, q < zg_b E → H[q]? = s.heap[q]?) → (∀ x ∈ locs, zg_b E ≤ x.base) → lv_has ls (zg_ml M) lv →
      W p l e R s m args below meth c H locs cells slots (zg_end E below r args s mc ms) (F0 m pc ls st)
section ZG1
variable {l : Launch} {E : zg_E} {d : Nat} {M : zg_M} {pc : Nat} {lv : List (Nat × Value)} {st : List Value} {σ : zg_H} {r : zg_R}
/-- a step that leaves heap and locals as they are -/
theorem zg_step {pc2 : Nat} {st2 : List Value}
    (h : ∀ (p : Program) (e : Env) (R : Room) (s : State) (m : MethodId) (args : Array Value) (below : List Frame) (meth : Method) (c : Code) (H : Heap) (locs : List Loc) (cells slots : Nat) (ls : Array Slot) (Q : State → Prop),
      p.tables.exec = Jvm.exec → c.code = zg_cc M → lv_has ls (zg_ml M) lv → W p l e R s m args below meth c H locs cells slots Q (F0 m pc2 ls st2) → W p l e R s m args below meth c H locs cells slots Q (F0 m pc ls st))
    (k : zg_G l E d M pc2 lv st2 σ r) : zg_G l E d M pc lv st σ r := by
  refine ⟨k.1, k.2.1, ?_⟩
  intro p e R s m args below meth c H locs cells slots ls u0 mc ms hm1 hm2 hc h1 h2 h3 h4 h5 h6 h7 h8
  exact h p e R s m args below meth c H locs cells slots ls _ hc.1 hc.2.1 h8 (k.2.2 p e R s m args below meth c H locs cells slots ls u0 mc ms hm1 hm2 hc h1 h2 h3 h4 h5 h6 h7 h8)
/-- the same, new locals -/
theorem zg_stepL {pc2 : Nat} {st2 : List Value} {lv2 : List (Nat × Value)}
    (h : ∀ (p : Program) (e : Env) (R : Room) (s : State) (m : MethodId) (args : Array Value) (below : List Frame) (meth : Method) (c : Code) (H : Heap) (locs : List Loc) (cells slots : Nat) (ls : Array Slot) (Q : State → Prop),
      p.tables.exec = Jvm.exec → c.code = zg_cc M → lv_has ls (zg_ml M) lv → (∀ ls2 : Array Slot, lv_has ls2 (zg_ml M) lv2 → W p l e R s m args below meth c H locs cells slots Q (F0 m pc2 ls2 st2)) → W p l e R s m args below meth c H locs cells slots Q (F0 m pc ls st))
    (k : zg_G l E d M pc2 lv2 st2 σ r) : zg_G l E d M pc lv st σ r := by
  refine ⟨k.1, k.2.1, ?_⟩
  intro p e R s m args below meth c H locs cells slots ls u0 mc ms hm1 hm2 hc h1 h2 h3 h4 h5 h6 h7 h8
  exact h p e R s m args below meth c H locs cells slots ls _ hc.1 hc.2.1 h8 (fun ls2 h9 => k.2.2 p e R s m args below meth c H locs cells slots ls2 u0 mc ms hm1 hm2 hc h1 h2 h3 h4 h5 h6 h7 h9)
/-- a branch -/
theorem zg_stepB {P : Prop} {pc2 pc3 : Nat} {st2 st3 : List Value}
    (h : ∀ (p : Program) (e : Env) (R : Room) (s : State) (m : MethodId) (args : Array Value) (below : List Frame) (meth : Method) (c : Code) (H : Heap) (locs : List Loc) (cells slots : Nat) (ls : Array Slot) (Q : State → Prop),
      p.tables.exec = Jvm.exec → c.code = zg_cc M → (P → W p l e R s m args below meth c H locs cells slots Q (F0 m pc2 ls st2)) → (¬ P → W p l e R s m args below meth c H locs cells slots Q (F0 m pc3 ls st3)) → W p l e R s m args below meth c H locs cells slots Q (F0 m pc ls st))
    (k : P → zg_G l E d M pc2 lv st2 σ r) (k2 : ¬ P → zg_G l E d M pc3 lv st3 σ r) : zg_G l E d M pc lv st σ r := by
  have hle : zg_sz σ ≤ zg_sz r.2 ∧ zg_us σ ≤ zg_us r.2 := by
    by_cases hP : P
    · exact ⟨(k hP).1, (k hP).2.1⟩
    · exact ⟨(k2 hP).1, (k2 hP).2.1⟩
  refine ⟨hle.1, hle.2, ?_⟩
  intro p e R s m args below meth c H locs cells slots ls u0 mc ms hm1 hm2 hc h1 h2 h3 h4 h5 h6 h7 h8
  exact h p e R s m args below meth c H locs cells slots ls _ hc.1 hc.2.1 (fun hP => (k hP).2.2 p e R s m args below meth c H locs cells slots ls u0 mc ms hm1 hm2 hc h1 h2 h3 h4 h5 h6 h7 h8)
    (fun hP => (k2 hP).2.2 p e R s m args below meth c H locs cells slots ls u0 mc ms hm1 hm2 hc h1 h2 h3 h4 h5 h6 h7 h8)
/-- fewer locals, in any order -/
theorem zg_lv {lv2 : List (Nat × Value)} (ks : List Nat) (hl : lv_pick lv ks = lv2) (k : zg_G l E d M pc lv2 st σ r) : zg_G l E d M pc lv st σ r := by
  refine ⟨k.1, k.2.1, ?_⟩
  intro p e R s m args below meth c H locs cells slots ls u0 mc ms hm1 hm2 hc h1 h2 h3 h4 h5 h6 h7 h8
  exact k.2.2 p e R s m args below meth c H locs cells slots ls u0 mc ms hm1 hm2 hc h1 h2 h3 h4 h5 h6 h7 (lv_sub h8 ks hl)
theorem zg_eq {pc2 : Nat} {lv2 : List (Nat × Value)} {st2 : List Value} {σ2 : zg_H} {r2 : zg_R} (k : zg_G l E d M pc2 lv2 st2 σ2 r2) (e1 : pc = pc2) (e2 : lv = lv2) (e3 : st = st2) (e4 : σ = σ2) (e5 : r = r2) : zg_G l E d M pc lv st σ r := by
  subst e1 e2 e3 e4 e5
  exact k
end ZG1
/-- what a local holds -/
def zg_at (lv : List (Nat × Value)) (i : Nat) : Option Value := (lv.find? (fun q => q.1 == i)).map (fun q => q.2)
theorem zg_at_has {ls : Array Slot} {n : Nat} {lv : List (Nat × Value)} (h : lv_has ls n lv) {i : Nat} {v : Value} (hv : zg_at lv i = some v) : ls[i]? = some (.val v) := by
  unfold zg_at at hv
  cases hf : lv.find? (fun q => q.1 == i) with
  | none => rw [hf] at hv; cases hv
  | some q =>
    rw [hf] at hv
    have h1 : q.2 = v := Option.some.inj hv
    have h2 := List.find?_some hf
    have h3 : q.1 = i := by simpa using h2
    have h4 := h.2.2 q (List.mem_of_find?_eq_some hf)
    rw [h3, h1] at h4
    exact h4
/-- a place of the list for iinc -/
theorem zg_at_mem {lv : List (Nat × Value)} {i : Nat} {v : Value} (hv : zg_at lv i = some v) : ∃ k : Nat, lv[k]? = some (i, v) := by
  unfold zg_at at hv
  cases hf : lv.find? (fun q => q.1 == i) with
  | none => rw [hf] at hv; cases hv
  | some q =>
    rw [hf] at hv
    have h1 : q.2 = v := Option.some.inj hv
    have h2 := List.find?_some hf
    have h3 : q.1 = i := by simpa using h2
    obtain ⟨k, hk⟩ := List.getElem?_of_mem (List.mem_of_find?_eq_some hf)
    exact ⟨k, by rw [hk, ← h1, ← h3]⟩
def zg_st1 (lv : List (Nat × Value)) (i : Nat) (v : Value) : List (Nat × Value) := (i, v) :: lv.filter (fun q => !(q.1 == i) && !(q.1 + 1 == i && q.2.category == 2))
def zg_st2 (lv : List (Nat × Value)) (i : Nat) (v : Value) : List (Nat × Value) := (i, v) :: lv.filter (fun q => !(q.1 == i) && (!(q.1 == i + 1) && !(q.1 + 1 == i && q.2.category == 2)))
section ZG2
variable {l : Launch} {E : zg_E} {d : Nat} {M : zg_M} {pc : Nat} {lv : List (Nat × Value)} {st : List Value} {σ : zg_H} {r : zg_R}
theorem zg_iconst {n : Int} {v : Int32} (hdg : decode (zg_cc M) pc = .ok (.iconst n, 1)) (hv : Int32.ofInt n = v) (k : zg_G l E d M (pc + 1) lv (.int v :: st) σ r) : zg_G l E d M pc lv (st) σ r :=
  zg_step (fun p e R s m args below meth c H locs cells slots ls Q hx hb hl w => lv_iconst hx hb hdg hv w) k
theorem zg_bipush {n : Int} {v : Int32} (hdg : decode (zg_cc M) pc = .ok (.bipush n, 2)) (hv : (Int8.ofInt n).toInt32 = v) (k : zg_G l E d M (pc + 2) lv (.int v :: st) σ r) : zg_G l E d M pc lv (st) σ r :=
  zg_step (fun p e R s m args below meth c H locs cells slots ls Q hx hb hl w => lv_bipush hx hb hdg hv w) k
theorem zg_sipush {n : Int} {v : Int32} (hdg : decode (zg_cc M) pc = .ok (.sipush n, 3)) (hv : (Int16.ofInt n).toInt32 = v) (k : zg_G l E d M (pc + 3) lv (.int v :: st) σ r) : zg_G l E d M pc lv (st) σ r :=
  zg_step (fun p e R s m args below meth c H locs cells slots ls Q hx hb hl w => lv_sipush hx hb hdg hv w) k
theorem zg_lconst {n : Fin 2} {v : Int64} (hdg : decode (zg_cc M) pc = .ok (.lconst n, 1)) (hv : Int64.ofNat (n : Nat) = v) (k : zg_G l E d M (pc + 1) lv (.long v :: st) σ r) : zg_G l E d M pc lv (st) σ r :=
  zg_step (fun p e R s m args below meth c H locs cells slots ls Q hx hb hl w => lv_lconst hx hb hdg hv w) k
theorem zg_iadd {x y : Int32} (hdg : decode (zg_cc M) pc = .ok (.iadd, 1)) (k : zg_G l E d M (pc + 1) lv (.int (x + y) :: st) σ r) : zg_G l E d M pc lv (.int y :: .int x :: st) σ r :=
  zg_step (fun p e R s m args below meth c H locs cells slots ls Q hx hb hl w => lv_iadd hx hb hdg w) k
theorem zg_isub {x y : Int32} (hdg : decode (zg_cc M) pc = .ok (.isub, 1)) (k : zg_G l E d M (pc + 1) lv (.int (x - y) :: st) σ r) : zg_G l E d M pc lv (.int y :: .int x :: st) σ r :=
  zg_step (fun p e R s m args below meth c H locs cells slots ls Q hx hb hl w => lv_isub hx hb hdg w) k
theorem zg_imul {x y : Int32} (hdg : decode (zg_cc M) pc = .ok (.imul, 1)) (k : zg_G l E d M (pc + 1) lv (.int (x * y) :: st) σ r) : zg_G l E d M pc lv (.int y :: .int x :: st) σ r :=
  zg_step (fun p e R s m args below meth c H locs cells slots ls Q hx hb hl w => lv_imul hx hb hdg w) k
theorem zg_iand {x y : Int32} (hdg : decode (zg_cc M) pc = .ok (.iand, 1)) (k : zg_G l E d M (pc + 1) lv (.int (x &&& y) :: st) σ r) : zg_G l E d M pc lv (.int y :: .int x :: st) σ r :=
  zg_step (fun p e R s m args below meth c H locs cells slots ls Q hx hb hl w => lv_iand hx hb hdg w) k
theorem zg_ior {x y : Int32} (hdg : decode (zg_cc M) pc = .ok (.ior, 1)) (k : zg_G l E d M (pc + 1) lv (.int (x ||| y) :: st) σ r) : zg_G l E d M pc lv (.int y :: .int x :: st) σ r :=
  zg_step (fun p e R s m args below meth c H locs cells slots ls Q hx hb hl w => lv_ior hx hb hdg w) k
theorem zg_ixor {x y : Int32} (hdg : decode (zg_cc M) pc = .ok (.ixor, 1)) (k : zg_G l E d M (pc + 1) lv (.int (x ^^^ y) :: st) σ r) : zg_G l E d M pc lv (.int y :: .int x :: st) σ r :=
  zg_step (fun p e R s m args below meth c H locs cells slots ls Q hx hb hl w => lv_ixor hx hb hdg w) k
theorem zg_idiv {x y : Int32} (hdg : decode (zg_cc M) pc = .ok (.idiv, 1)) (hne : ¬ y = 0) (k : zg_G l E d M (pc + 1) lv (.int (x / y) :: st) σ r) : zg_G l E d M pc lv (.int y :: .int x :: st) σ r :=
  zg_step (fun p e R s m args below meth c H locs cells slots ls Q hx hb hl w => lv_idiv hx hb hdg hne w) k
theorem zg_irem {x y : Int32} (hdg : decode (zg_cc M) pc = .ok (.irem, 1)) (hne : ¬ y = 0) (k : zg_G l E d M (pc + 1) lv (.int (x - x / y * y) :: st) σ r) : zg_G l E d M pc lv (.int y :: .int x :: st) σ r :=
  zg_step (fun p e R s m args below meth c H locs cells slots ls Q hx hb hl w => lv_irem hx hb hdg hne w) k
theorem zg_ineg {x : Int32} (hdg : decode (zg_cc M) pc = .ok (.ineg, 1)) (k : zg_G l E d M (pc + 1) lv (.int (-x) :: st) σ r) : zg_G l E d M pc lv (.int x :: st) σ r :=
  zg_step (fun p e R s m args below meth c H locs cells slots ls Q hx hb hl w => lv_ineg hx hb hdg w) k
theorem zg_ladd {x y : Int64} (hdg : decode (zg_cc M) pc = .ok (.ladd, 1)) (k : zg_G l E d M (pc + 1) lv (.long (x + y) :: st) σ r) : zg_G l E d M pc lv (.long y :: .long x :: st) σ r :=
  zg_step (fun p e R s m args below meth c H locs cells slots ls Q hx hb hl w => lv_ladd hx hb hdg w) k
theorem zg_lsub {x y : Int64} (hdg : decode (zg_cc M) pc = .ok (.lsub, 1)) (k : zg_G l E d M (pc + 1) lv (.long (x - y) :: st) σ r) : zg_G l E d M pc lv (.long y :: .long x :: st) σ r :=
  zg_step (fun p e R s m args below meth c H locs cells slots ls Q hx hb hl w => lv_lsub hx hb hdg w) k
theorem zg_lmul {x y : Int64} (hdg : decode (zg_cc M) pc = .ok (.lmul, 1)) (k : zg_G l E d M (pc + 1) lv (.long (x * y) :: st) σ r) : zg_G l E d M pc lv (.long y :: .long x :: st) σ r :=
  zg_step (fun p e R s m args below meth c H locs cells slots ls Q hx hb hl w => lv_lmul hx hb hdg w) k
theorem zg_land {x y : Int64} (hdg : decode (zg_cc M) pc = .ok (.land, 1)) (k : zg_G l E d M (pc + 1) lv (.long (x &&& y) :: st) σ r) : zg_G l E d M pc lv (.long y :: .long x :: st) σ r :=
  zg_step (fun p e R s m args below meth c H locs cells slots ls Q hx hb hl w => lv_land hx hb hdg w) k
theorem zg_lor {x y : Int64} (hdg : decode (zg_cc M) pc = .ok (.lor, 1)) (k : zg_G l E d M (pc + 1) lv (.long (x ||| y) :: st) σ r) : zg_G l E d M pc lv (.long y :: .long x :: st) σ r :=
  zg_step (fun p e R s m args below meth c H locs cells slots ls Q hx hb hl w => lv_lor hx hb hdg w) k
theorem zg_lxor {x y : Int64} (hdg : decode (zg_cc M) pc = .ok (.lxor, 1)) (k : zg_G l E d M (pc + 1) lv (.long (x ^^^ y) :: st) σ r) : zg_G l E d M pc lv (.long y :: .long x :: st) σ r :=
  zg_step (fun p e R s m args below meth c H locs cells slots ls Q hx hb hl w => lv_lxor hx hb hdg w) k
theorem zg_ldiv {x y : Int64} (hdg : decode (zg_cc M) pc = .ok (.ldiv, 1)) (hne : ¬ y = 0) (k : zg_G l E d M (pc + 1) lv (.long (x / y) :: st) σ r) : zg_G l E d M pc lv (.long y :: .long x :: st) σ r :=
  zg_step (fun p e R s m args below meth c H locs cells slots ls Q hx hb hl w => lv_ldiv hx hb hdg hne w) k
theorem zg_lrem {x y : Int64} (hdg : decode (zg_cc M) pc = .ok (.lrem, 1)) (hne : ¬ y = 0) (k : zg_G l E d M (pc + 1) lv (.long (x - x / y * y) :: st) σ r) : zg_G l E d M pc lv (.long y :: .long x :: st) σ r :=
  zg_step (fun p e R s m args below meth c H locs cells slots ls Q hx hb hl w => lv_lrem hx hb hdg hne w) k
theorem zg_lneg {x : Int64} (hdg : decode (zg_cc M) pc = .ok (.lneg, 1)) (k : zg_G l E d M (pc + 1) lv (.long (-x) :: st) σ r) : zg_G l E d M pc lv (.long x :: st) σ r :=
  zg_step (fun p e R s m args below meth c H locs cells slots ls Q hx hb hl w => lv_lneg hx hb hdg w) k
theorem zg_ishl {x y : Int32} (hdg : decode (zg_cc M) pc = .ok (.ishl, 1)) (k : zg_G l E d M (pc + 1) lv (.int (x <<< (y &&& 31)) :: st) σ r) : zg_G l E d M pc lv (.int y :: .int x :: st) σ r :=
  zg_step (fun p e R s m args below meth c H locs cells slots ls Q hx hb hl w => lv_ishl hx hb hdg w) k
theorem zg_ishr {x y : Int32} (hdg : decode (zg_cc M) pc = .ok (.ishr, 1)) (k : zg_G l E d M (pc + 1) lv (.int (x >>> (y &&& 31)) :: st) σ r) : zg_G l E d M pc lv (.int y :: .int x :: st) σ r :=
  zg_step (fun p e R s m args below meth c H locs cells slots ls Q hx hb hl w => lv_ishr hx hb hdg w) k
theorem zg_i2l {x : Int32} {v : Int64} (hdg : decode (zg_cc M) pc = .ok (.i2l, 1)) (hv : x.toInt64 = v) (k : zg_G l E d M (pc + 1) lv (.long v :: st) σ r) : zg_G l E d M pc lv (.int x :: st) σ r :=
  zg_step (fun p e R s m args below meth c H locs cells slots ls Q hx hb hl w => lv_i2l hx hb hdg hv w) k
theorem zg_l2i {x : Int64} {v : Int32} (hdg : decode (zg_cc M) pc = .ok (.l2i, 1)) (hv : x.toInt32 = v) (k : zg_G l E d M (pc + 1) lv (.int v :: st) σ r) : zg_G l E d M pc lv (.long x :: st) σ r :=
  zg_step (fun p e R s m args below meth c H locs cells slots ls Q hx hb hl w => lv_l2i hx hb hdg hv w) k
theorem zg_lshl {x v : Int64} {y : Int32} (hdg : decode (zg_cc M) pc = .ok (.lshl, 1)) (hv : x <<< (y.toInt64 &&& 63) = v) (k : zg_G l E d M (pc + 1) lv (.long v :: st) σ r) : zg_G l E d M pc lv (.int y :: .long x :: st) σ r :=
  zg_step (fun p e R s m args below meth c H locs cells slots ls Q hx hb hl w => lv_lshl hx hb hdg hv w) k
theorem zg_lshr {x v : Int64} {y : Int32} (hdg : decode (zg_cc M) pc = .ok (.lshr, 1)) (hv : x >>> (y.toInt64 &&& 63) = v) (k : zg_G l E d M (pc + 1) lv (.long v :: st) σ r) : zg_G l E d M pc lv (.int y :: .long x :: st) σ r :=
  zg_step (fun p e R s m args below meth c H locs cells slots ls Q hx hb hl w => lv_lshr hx hb hdg hv w) k
theorem zg_iushr {x y v : Int32} (hdg : decode (zg_cc M) pc = .ok (.iushr, 1)) (hv : (x.toUInt32 >>> (y.toUInt32 &&& Int32.toUInt32 31)).toInt32 = v) (k : zg_G l E d M (pc + 1) lv (.int v :: st) σ r) : zg_G l E d M pc lv (.int y :: .int x :: st) σ r :=
  zg_step (fun p e R s m args below meth c H locs cells slots ls Q hx hb hl w => lv_iushr hx hb hdg hv w) k
theorem zg_lushr {x v : Int64} {y : Int32} (hdg : decode (zg_cc M) pc = .ok (.lushr, 1)) (hv : (x.toUInt64 >>> (y.toInt64.toUInt64 &&& Int64.toUInt64 63)).toInt64 = v) (k : zg_G l E d M (pc + 1) lv (.long v :: st) σ r) : zg_G l E d M pc lv (.int y :: .long x :: st) σ r :=
  zg_step (fun p e R s m args below meth c H locs cells slots ls Q hx hb hl w => lv_lushr hx hb hdg hv w) k
theorem zg_dup {va : Value} (hdg : decode (zg_cc M) pc = .ok (.dup, 1)) (hva : va.category = 1) (k : zg_G l E d M (pc + 1) lv (va :: va :: st) σ r) : zg_G l E d M pc lv (va :: st) σ r :=
  zg_step (fun p e R s m args below meth c H locs cells slots ls Q hx hb hl w => lv_dup hx hb hdg hva w) k
theorem zg_pop {va : Value} (hdg : decode (zg_cc M) pc = .ok (.pop, 1)) (hva : va.category = 1) (k : zg_G l E d M (pc + 1) lv (st) σ r) : zg_G l E d M pc lv (va :: st) σ r :=
  zg_step (fun p e R s m args below meth c H locs cells slots ls Q hx hb hl w => lv_pop hx hb hdg hva w) k
theorem zg_dup_x1 {va vb : Value} (hdg : decode (zg_cc M) pc = .ok (.dup_x1, 1)) (hva : va.category = 1) (hvb : vb.category = 1) (k : zg_G l E d M (pc + 1) lv (va :: vb :: va :: st) σ r) : zg_G l E d M pc lv (va :: vb :: st) σ r :=
  zg_step (fun p e R s m args below meth c H locs cells slots ls Q hx hb hl w => lv_dup_x1 hx hb hdg hva hvb w) k
theorem zg_dup_x2 {va vb vd : Value} (hdg : decode (zg_cc M) pc = .ok (.dup_x2, 1)) (hva : va.category = 1) (hvb : vb.category = 1) (hvd : vd.category = 1) (k : zg_G l E d M (pc + 1) lv (va :: vb :: vd :: va :: st) σ r) : zg_G l E d M pc lv (va :: vb :: vd :: st) σ r :=
  zg_step (fun p e R s m args below meth c H locs cells slots ls Q hx hb hl w => lv_dup_x2 hx hb hdg hva hvb hvd w) k
theorem zg_dup2_11 {va vb : Value} (hdg : decode (zg_cc M) pc = .ok (.dup2, 1)) (hva : va.category = 1) (hvb : vb.category = 1) (k : zg_G l E d M (pc + 1) lv (va :: vb :: va :: vb :: st) σ r) : zg_G l E d M pc lv (va :: vb :: st) σ r :=
  zg_step (fun p e R s m args below meth c H locs cells slots ls Q hx hb hl w => lv_dup2_11 hx hb hdg hva hvb w) k
theorem zg_dup2_2 {va : Value} (hdg : decode (zg_cc M) pc = .ok (.dup2, 1)) (hva : va.category = 2) (k : zg_G l E d M (pc + 1) lv (va :: va :: st) σ r) : zg_G l E d M pc lv (va :: st) σ r :=
  zg_step (fun p e R s m args below meth c H locs cells slots ls Q hx hb hl w => lv_dup2_2 hx hb hdg hva w) k
theorem zg_pop2_2 {va : Value} (hdg : decode (zg_cc M) pc = .ok (.pop2, 1)) (hva : va.category = 2) (k : zg_G l E d M (pc + 1) lv (st) σ r) : zg_G l E d M pc lv (va :: st) σ r :=
  zg_step (fun p e R s m args below meth c H locs cells slots ls Q hx hb hl w => lv_pop2_2 hx hb hdg hva w) k
theorem zg_dup2_x1_2 {va vb : Value} (hdg : decode (zg_cc M) pc = .ok (.dup2_x1, 1)) (hva : va.category = 2) (hvb : vb.category = 1) (k : zg_G l E d M (pc + 1) lv (va :: vb :: va :: st) σ r) : zg_G l E d M pc lv (va :: vb :: st) σ r :=
  zg_step (fun p e R s m args below meth c H locs cells slots ls Q hx hb hl w => lv_dup2_x1_2 hx hb hdg hva hvb w) k
theorem zg_dup2_x2_2 {va vb vd : Value} (hdg : decode (zg_cc M) pc = .ok (.dup2_x2, 1)) (hva : va.category = 2) (hvb : vb.category = 1) (hvd : vd.category = 1) (k : zg_G l E d M (pc + 1) lv (va :: vb :: vd :: va :: st) σ r) : zg_G l E d M pc lv (va :: vb :: vd :: st) σ r :=
  zg_step (fun p e R s m args below meth c H locs cells slots ls Q hx hb hl w => lv_dup2_x2_2 hx hb hdg hva hvb hvd w) k
theorem zg_goto {off : Int} {tgt : Nat} (hdg : decode (zg_cc M) pc = .ok (.goto off, 3)) (ht : (pc : Int) + off = (tgt : Int)) (k : zg_G l E d M tgt lv st σ r) : zg_G l E d M pc lv st σ r :=
  zg_step (fun p e R s m args below meth c H locs cells slots ls Q hx hb hl w => lv_goto hx hb hdg ht w) k
theorem zg_lcmp {x y : Int64} (hdg : decode (zg_cc M) pc = .ok (.lcmp, 1)) (k : zg_G l E d M (pc + 1) lv (.int (lg_cmp x y) :: st) σ r) : zg_G l E d M pc lv (.long y :: .long x :: st) σ r :=
  zg_step (fun p e R s m args below meth c H locs cells slots ls Q hx hb hl w => W.lcmp hx hb hdg w) k
theorem zg_if_eq {x : Int32} {off : Int} {tgt : Nat} (hdg : decode (zg_cc M) pc = .ok (.ifCond .eq off, 3)) (ht : (pc : Int) + off = (tgt : Int)) (kt : x = 0 → zg_G l E d M tgt lv st σ r) (kf : ¬ x = 0 → zg_G l E d M (pc + 3) lv st σ r) : zg_G l E d M pc lv (.int x :: st) σ r :=
  zg_stepB (P := x = 0) (fun p e R s m args below meth c H locs cells slots ls Q hx hb w1 w2 => lv_if_eq hx hb hdg ht w1 w2) kt kf
theorem zg_if_ne {x : Int32} {off : Int} {tgt : Nat} (hdg : decode (zg_cc M) pc = .ok (.ifCond .ne off, 3)) (ht : (pc : Int) + off = (tgt : Int)) (kt : ¬ x = 0 → zg_G l E d M tgt lv st σ r) (kf : x = 0 → zg_G l E d M (pc + 3) lv st σ r) : zg_G l E d M pc lv (.int x :: st) σ r :=
  zg_stepB (P := x = 0) (fun p e R s m args below meth c H locs cells slots ls Q hx hb w1 w2 => lv_if_ne hx hb hdg ht w2 w1) kf kt
theorem zg_if_lt {x : Int32} {off : Int} {tgt : Nat} (hdg : decode (zg_cc M) pc = .ok (.ifCond .lt off, 3)) (ht : (pc : Int) + off = (tgt : Int)) (kt : x < 0 → zg_G l E d M tgt lv st σ r) (kf : ¬ x < 0 → zg_G l E d M (pc + 3) lv st σ r) : zg_G l E d M pc lv (.int x :: st) σ r :=
  zg_stepB (P := x < 0) (fun p e R s m args below meth c H locs cells slots ls Q hx hb w1 w2 => lv_if_lt hx hb hdg ht w1 w2) kt kf
theorem zg_if_ge {x : Int32} {off : Int} {tgt : Nat} (hdg : decode (zg_cc M) pc = .ok (.ifCond .ge off, 3)) (ht : (pc : Int) + off = (tgt : Int)) (kt : 0 ≤ x → zg_G l E d M tgt lv st σ r) (kf : ¬ 0 ≤ x → zg_G l E d M (pc + 3) lv st σ r) : zg_G l E d M pc lv (.int x :: st) σ r :=
  zg_stepB (P := 0 ≤ x) (fun p e R s m args below meth c H locs cells slots ls Q hx hb w1 w2 => lv_if_ge hx hb hdg ht w1 w2) kt kf
theorem zg_if_gt {x : Int32} {off : Int} {tgt : Nat} (hdg : decode (zg_cc M) pc = .ok (.ifCond .gt off, 3)) (ht : (pc : Int) + off = (tgt : Int)) (kt : 0 < x → zg_G l E d M tgt lv st σ r) (kf : ¬ 0 < x → zg_G l E d M (pc + 3) lv st σ r) : zg_G l E d M pc lv (.int x :: st) σ r :=
  zg_stepB (P := 0 < x) (fun p e R s m args below meth c H locs cells slots ls Q hx hb w1 w2 => lv_if_gt hx hb hdg ht w1 w2) kt kf
theorem zg_if_le {x : Int32} {off : Int} {tgt : Nat} (hdg : decode (zg_cc M) pc = .ok (.ifCond .le off, 3)) (ht : (pc : Int) + off = (tgt : Int)) (kt : x ≤ 0 → zg_G l E d M tgt lv st σ r) (kf : ¬ x ≤ 0 → zg_G l E d M (pc + 3) lv st σ r) : zg_G l E d M pc lv (.int x :: st) σ r :=
  zg_stepB (P := x ≤ 0) (fun p e R s m args below meth c H locs cells slots ls Q hx hb w1 w2 => lv_if_le hx hb hdg ht w1 w2) kt kf
theorem zg_icmp_eq {x y : Int32} {off : Int} {tgt : Nat} (hdg : decode (zg_cc M) pc = .ok (.if_icmp .eq off, 3)) (ht : (pc : Int) + off = (tgt : Int)) (kt : x = y → zg_G l E d M tgt lv st σ r) (kf : ¬ x = y → zg_G l E d M (pc + 3) lv st σ r) : zg_G l E d M pc lv (.int y :: .int x :: st) σ r :=
  zg_stepB (P := x = y) (fun p e R s m args below meth c H locs cells slots ls Q hx hb w1 w2 => lv_icmp_eq hx hb hdg ht w1 w2) kt kf
theorem zg_icmp_ne {x y : Int32} {off : Int} {tgt : Nat} (hdg : decode (zg_cc M) pc = .ok (.if_icmp .ne off, 3)) (ht : (pc : Int) + off = (tgt : Int)) (kt : ¬ x = y → zg_G l E d M tgt lv st σ r) (kf : x = y → zg_G l E d M (pc + 3) lv st σ r) : zg_G l E d M pc lv (.int y :: .int x :: st) σ r :=
  zg_stepB (P := x = y) (fun p e R s m args below meth c H locs cells slots ls Q hx hb w1 w2 => lv_icmp_ne hx hb hdg ht w2 w1) kf kt
theorem zg_icmp_lt {x y : Int32} {off : Int} {tgt : Nat} (hdg : decode (zg_cc M) pc = .ok (.if_icmp .lt off, 3)) (ht : (pc : Int) + off = (tgt : Int)) (kt : x < y → zg_G l E d M tgt lv st σ r) (kf : ¬ x < y → zg_G l E d M (pc + 3) lv st σ r) : zg_G l E d M pc lv (.int y :: .int x :: st) σ r :=
  zg_stepB (P := x < y) (fun p e R s m args below meth c H locs cells slots ls Q hx hb w1 w2 => lv_icmp_lt hx hb hdg ht w1 w2) kt kf
theorem zg_icmp_ge {x y : Int32} {off : Int} {tgt : Nat} (hdg : decode (zg_cc M) pc = .ok (.if_icmp .ge off, 3)) (ht : (pc : Int) + off = (tgt : Int)) (kt : y ≤ x → zg_G l E d M tgt lv st σ r) (kf : ¬ y ≤ x → zg_G l E d M (pc + 3) lv st σ r) : zg_G l E d M pc lv (.int y :: .int x :: st) σ r :=
  zg_stepB (P := y ≤ x) (fun p e R s m args below meth c H locs cells slots ls Q hx hb w1 w2 => lv_icmp_ge hx hb hdg ht w1 w2) kt kf
theorem zg_icmp_gt {x y : Int32} {off : Int} {tgt : Nat} (hdg : decode (zg_cc M) pc = .ok (.if_icmp .gt off, 3)) (ht : (pc : Int) + off = (tgt : Int)) (kt : y < x → zg_G l E d M tgt lv st σ r) (kf : ¬ y < x → zg_G l E d M (pc + 3) lv st σ r) : zg_G l E d M pc lv (.int y :: .int x :: st) σ r :=
  zg_stepB (P := y < x) (fun p e R s m args below meth c H locs cells slots ls Q hx hb w1 w2 => lv_icmp_gt hx hb hdg ht w1 w2) kt kf
theorem zg_icmp_le {x y : Int32} {off : Int} {tgt : Nat} (hdg : decode (zg_cc M) pc = .ok (.if_icmp .le off, 3)) (ht : (pc : Int) + off = (tgt : Int)) (kt : x ≤ y → zg_G l E d M tgt lv st σ r) (kf : ¬ x ≤ y → zg_G l E d M (pc + 3) lv st σ r) : zg_G l E d M pc lv (.int y :: .int x :: st) σ r :=
  zg_stepB (P := x ≤ y) (fun p e R s m args below meth c H locs cells slots ls Q hx hb w1 w2 => lv_icmp_le hx hb hdg ht w1 w2) kt kf
theorem zg_iload {i : Nat} {x : Int32} (hdg : decode (zg_cc M) pc = .ok (.iload i, 2)) (hv : zg_at lv i = some (.int x)) (k : zg_G l E d M (pc + 2) lv (.int x :: st) σ r) : zg_G l E d M pc lv st σ r :=
  zg_step (fun p e R s m args below meth c H locs cells slots ls Q hx hb hl w => lv_iload hx hb hdg (zg_at_has hl hv) w) k
theorem zg_iload_n {i : Fin 4} {x : Int32} (hdg : decode (zg_cc M) pc = .ok (.iload_n i, 1)) (hv : zg_at lv (i : Nat) = some (.int x)) (k : zg_G l E d M (pc + 1) lv (.int x :: st) σ r) : zg_G l E d M pc lv st σ r :=
  zg_step (fun p e R s m args below meth c H locs cells slots ls Q hx hb hl w => lv_iload_n hx hb hdg rfl (zg_at_has hl hv) w) k
theorem zg_lload {i : Nat} {x : Int64} (hdg : decode (zg_cc M) pc = .ok (.lload i, 2)) (hv : zg_at lv i = some (.long x)) (k : zg_G l E d M (pc + 2) lv (.long x :: st) σ r) : zg_G l E d M pc lv st σ r :=
  zg_step (fun p e R s m args below meth c H locs cells slots ls Q hx hb hl w => lv_lload hx hb hdg (zg_at_has hl hv) w) k
theorem zg_lload_n {i : Fin 4} {x : Int64} (hdg : decode (zg_cc M) pc = .ok (.lload_n i, 1)) (hv : zg_at lv (i : Nat) = some (.long x)) (k : zg_G l E d M (pc + 1) lv (.long x :: st) σ r) : zg_G l E d M pc lv st σ r :=
  zg_step (fun p e R s m args below meth c H locs cells slots ls Q hx hb hl w => lv_lload_n hx hb hdg rfl (zg_at_has hl hv) w) k
theorem zg_aload {i : Nat} {x : Nat} (hdg : decode (zg_cc M) pc = .ok (.aload i, 2)) (hv : zg_at lv i = some (.ref x)) (k : zg_G l E d M (pc + 2) lv (.ref x :: st) σ r) : zg_G l E d M pc lv st σ r :=
  zg_step (fun p e R s m args below meth c H locs cells slots ls Q hx hb hl w => lv_aload hx hb hdg (zg_at_has hl hv) w) k
theorem zg_aload_n {i : Fin 4} {x : Nat} (hdg : decode (zg_cc M) pc = .ok (.aload_n i, 1)) (hv : zg_at lv (i : Nat) = some (.ref x)) (k : zg_G l E d M (pc + 1) lv (.ref x :: st) σ r) : zg_G l E d M pc lv st σ r :=
  zg_step (fun p e R s m args below meth c H locs cells slots ls Q hx hb hl w => lv_aload_n hx hb hdg rfl (zg_at_has hl hv) w) k
theorem zg_istore {i : Nat} {x : Int32} {lv2 : List (Nat × Value)} (hdg : decode (zg_cc M) pc = .ok (.istore i, 2)) (hn : i < zg_ml M) (he : zg_st1 lv i (.int x) = lv2) (k : zg_G l E d M (pc + 2) lv2 st σ r) : zg_G l E d M pc lv (.int x :: st) σ r :=
  zg_stepL (fun p e R s m args below meth c H locs cells slots ls Q hx hb hl w => lv_istore hx hb hdg hl hn he w) k
theorem zg_istore_n {i : Fin 4} {x : Int32} {lv2 : List (Nat × Value)} (hdg : decode (zg_cc M) pc = .ok (.istore_n i, 1)) (hn : (i : Nat) < zg_ml M) (he : zg_st1 lv (i : Nat) (.int x) = lv2) (k : zg_G l E d M (pc + 1) lv2 st σ r) : zg_G l E d M pc lv (.int x :: st) σ r :=
  zg_stepL (fun p e R s m args below meth c H locs cells slots ls Q hx hb hl w => lv_istore_n hx hb hdg rfl hl hn he w) k
theorem zg_lstore {i : Nat} {x : Int64} {lv2 : List (Nat × Value)} (hdg : decode (zg_cc M) pc = .ok (.lstore i, 2)) (hn : i + 1 < zg_ml M) (he : zg_st2 lv i (.long x) = lv2) (k : zg_G l E d M (pc + 2) lv2 st σ r) : zg_G l E d M pc lv (.long x :: st) σ r :=
  zg_stepL (fun p e R s m args below meth c H locs cells slots ls Q hx hb hl w => lv_lstore hx hb hdg hl hn he w) k
theorem zg_lstore_n {i : Fin 4} {x : Int64} {lv2 : List (Nat × Value)} (hdg : decode (zg_cc M) pc = .ok (.lstore_n i, 1)) (hn : (i : Nat) + 1 < zg_ml M) (he : zg_st2 lv (i : Nat) (.long x) = lv2) (k : zg_G l E d M (pc + 1) lv2 st σ r) : zg_G l E d M pc lv (.long x :: st) σ r :=
  zg_stepL (fun p e R s m args below meth c H locs cells slots ls Q hx hb hl w => lv_lstore_n hx hb hdg rfl hl hn he w) k
theorem zg_astore {i : Nat} {x : Nat} {lv2 : List (Nat × Value)} (hdg : decode (zg_cc M) pc = .ok (.astore i, 2)) (hn : i < zg_ml M) (he : zg_st1 lv i (.ref x) = lv2) (k : zg_G l E d M (pc + 2) lv2 st σ r) : zg_G l E d M pc lv (.ref x :: st) σ r :=
  zg_stepL (fun p e R s m args below meth c H locs cells slots ls Q hx hb hl w => lv_astore hx hb hdg hl hn he w) k
theorem zg_astore_n {i : Fin 4} {x : Nat} {lv2 : List (Nat × Value)} (hdg : decode (zg_cc M) pc = .ok (.astore_n i, 1)) (hn : (i : Nat) < zg_ml M) (he : zg_st1 lv (i : Nat) (.ref x) = lv2) (k : zg_G l E d M (pc + 1) lv2 st σ r) : zg_G l E d M pc lv (.ref x :: st) σ r :=
  zg_stepL (fun p e R s m args below meth c H locs cells slots ls Q hx hb hl w => lv_astore_n hx hb hdg rfl hl hn he w) k
theorem zg_iinc {i : Nat} {n : Int} {x v : Int32} {lv2 : List (Nat × Value)} (hdg : decode (zg_cc M) pc = .ok (.iinc i n, 3)) (ha : zg_at lv i = some (.int x)) (hv : x + Int32.ofInt n = v) (hn : i < zg_ml M) (he : zg_st1 lv i (.int v) = lv2) (k : zg_G l E d M (pc + 3) lv2 st σ r) : zg_G l E d M pc lv st σ r := by
  obtain ⟨j, hj⟩ := zg_at_mem ha
  exact zg_stepL (fun p e R s m args below meth c H locs cells slots ls Q hx hb hl w => lv_iinc hx hb hdg hl hj hv hn he w) k
theorem zg_tableIn {dflt lo hi : Int} {offs : Array Int} {len : Nat} {x : Int32} {off : Int} {tgt : Nat} (hdg : decode (zg_cc M) pc = .ok (.tableswitch dflt lo hi offs, len)) (h1 : ¬ x.toInt < lo) (h2 : ¬ hi < x.toInt) (ho : offs[(x.toInt - lo).toNat]? = some off) (ht : (pc : Int) + off = (tgt : Int)) (k : zg_G l E d M tgt lv st σ r) : zg_G l E d M pc lv (.int x :: st) σ r :=
  zg_step (fun p e R s m args below meth c H locs cells slots ls Q hx hb hl w => lv_tableIn hx hb hdg h1 h2 ho ht w) k
theorem zg_tableOut {dflt lo hi : Int} {offs : Array Int} {len : Nat} {x : Int32} {tgt : Nat} (hdg : decode (zg_cc M) pc = .ok (.tableswitch dflt lo hi offs, len)) (h : x.toInt < lo ∨ hi < x.toInt) (ht : (pc : Int) + dflt = (tgt : Int)) (k : zg_G l E d M tgt lv st σ r) : zg_G l E d M pc lv (.int x :: st) σ r :=
  zg_step (fun p e R s m args below meth c H locs cells slots ls Q hx hb hl w => lv_tableOut hx hb hdg h ht w) k
theorem zg_lookup {dflt : Int} {ps : Array (Int × Int)} {len : Nat} {x : Int32} {off : Int} {tgt : Nat} (hdg : decode (zg_cc M) pc = .ok (.lookupswitch dflt ps, len)) (hp : (ps.toList.zip (ps.toList.drop 1)).all (fun (a, next) => a.1 < next.1) = true) (ho : Op.lookupswitch.offset ps.toList dflt x.toInt = off) (ht : (pc : Int) + off = (tgt : Int)) (k : zg_G l E d M tgt lv st σ r) : zg_G l E d M pc lv (.int x :: st) σ r :=
  zg_step (fun p e R s m args below meth c H locs cells slots ls Q hx hb hl w => lv_lookup hx hb hdg hp ho ht w) k
end ZG2
section ZG3
variable {l : Launch} {E : zg_E} {d : Nat} {M : zg_M} {pc : Nat} {lv : List (Nat × Value)} {st : List Value} {σ : zg_H} {r : zg_R}
theorem zg_mq {p : Program} {e : Env} {R : Room} {s : State} {m : MethodId} {args : Array Value} {below : List Frame} {meth : Method} {c : Code} {H : Heap} {locs : List Loc} {cells slots mc ms : Nat} {g : JFrame}
    (w : W p l e R s m args below meth c H locs cells slots (MQ below (zg_Q E r) args s mc ms (fun q => zg_b E ≤ q)) g) : W p l e R s m args below meth c H locs cells slots (zg_end E below r args s mc ms) g := by
  intro T hT X
  obtain ⟨t, a, o, b1, b2, b3, L, ⟨hv, hW, hs⟩, hL⟩ := w T hT X
  exact ⟨t, a, o, b1, b2, b3, L, ⟨hW, hs⟩, hL⟩
theorem zg_iret {v : Int32} (hdg : decode (zg_cc M) pc = .ok (.ireturn, 1)) (hrt : zg_rt M = some .int) (hr : r = (.inl (some (.int v)), σ)) : zg_G l E d M pc lv [.int v] σ r := by
  subst hr
  refine ⟨Nat.le_refl _, Nat.le_refl _, ?_⟩
  intro p e R s m args below meth c H locs cells slots ls u0 mc ms hm1 hm2 hc h1 h2 h3 h4 h5 h6 h7 h8
  have e1 : cells = mc := by dsimp only at h3; omega
  have e2 : slots = ms := by dsimp only at h4; omega
  subst e1 e2
  exact zg_mq (W.iret hc.1 hc.2.1 (hc.2.2.2.1.trans hrt) (fun t ht hW => ⟨by rw [ht]; exact h5, fun q hq => by rw [ht]; exact h6 q hq, rfl⟩) h7 hdg hc.2.2.2.2.2.1)
theorem zg_zret {v : Int32} {ty : FieldType} (hdg : decode (zg_cc M) pc = .ok (.ireturn, 1)) (hrt : zg_rt M = some ty) (hn : narrow ty (.int v) = .int v) (hr : r = (.inl (some (.int v)), σ)) : zg_G l E d M pc lv [.int v] σ r := by
  subst hr
  refine ⟨Nat.le_refl _, Nat.le_refl _, ?_⟩
  intro p e R s m args below meth c H locs cells slots ls u0 mc ms hm1 hm2 hc h1 h2 h3 h4 h5 h6 h7 h8
  have e1 : cells = mc := by dsimp only at h3; omega
  have e2 : slots = ms := by dsimp only at h4; omega
  subst e1 e2
  exact zg_mq (W.zret hc.1 hc.2.1 (hc.2.2.2.1.trans hrt) hn (fun t ht hW => ⟨by rw [ht]; exact h5, fun q hq => by rw [ht]; exact h6 q hq, rfl⟩) h7 hdg hc.2.2.2.2.2.1)
theorem zg_lret {v : Int64} (hdg : decode (zg_cc M) pc = .ok (.lreturn, 1)) (hrt : zg_rt M = some .long) (hr : r = (.inl (some (.long v)), σ)) : zg_G l E d M pc lv [.long v] σ r := by
  subst hr
  refine ⟨Nat.le_refl _, Nat.le_refl _, ?_⟩
  intro p e R s m args below meth c H locs cells slots ls u0 mc ms hm1 hm2 hc h1 h2 h3 h4 h5 h6 h7 h8
  have e1 : cells = mc := by dsimp only at h3; omega
  have e2 : slots = ms := by dsimp only at h4; omega
  subst e1 e2
  exact zg_mq (W.lret hc.1 hc.2.1 (hc.2.2.2.1.trans hrt) (fun t ht hW => ⟨by rw [ht]; exact h5, fun q hq => by rw [ht]; exact h6 q hq, rfl⟩) h7 hdg hc.2.2.2.2.2.1)
theorem zg_vret (hdg : decode (zg_cc M) pc = .ok (.return_, 1)) (hrt : zg_rt M = none) (hr : r = (.inl none, σ)) : zg_G l E d M pc lv [] σ r := by
  subst hr
  refine ⟨Nat.le_refl _, Nat.le_refl _, ?_⟩
  intro p e R s m args below meth c H locs cells slots ls u0 mc ms hm1 hm2 hc h1 h2 h3 h4 h5 h6 h7 h8
  have e1 : cells = mc := by dsimp only at h3; omega
  have e2 : slots = ms := by dsimp only at h4; omega
  subst e1 e2
  exact zg_mq (W.vret hc.1 hc.2.1 (hc.2.2.2.1.trans hrt) (fun t ht hW => ⟨by rw [ht]; exact h5, fun q hq => by rw [ht]; exact h6 q hq, rfl⟩) h7 hdg hc.2.2.2.2.2.1)
theorem zg_one {D : va_G} {cl : List vw_C} {q : Nat × va_E} {H : Heap} (h : va_at D cl q H) : va_P D cl [q] H := by
  intro k x hk
  cases k with
  | zero =>
    have : q = x := Option.some.inj hk
    rw [← this]; exact h
  | succ k => simp at hk
/-- a field of a class of ours: what the tables say of it -/
def zg_fld (E : zg_E) (own : String) (index ci k : Nat) : Prop := ∃ (C : String) (T : u_T) (N : Nat), (zg_cl E)[ci]? = some (C, T, N) ∧ k < N ∧ Cond.fieldLink own index (T k).1 (T k).2.1 (T k).2.2.1 ∈ zg_ws E ∧ ∀ w ∈ u_ws C T N, w ∈ zg_ws E
def zg_fty (E : zg_E) (ci k : Nat) (ty : FieldType) (fin : Bool) : Prop := ∃ (C : String) (T : u_T) (N : Nat) (ty0 : Nat → FieldType), (zg_cl E)[ci]? = some (C, T, N) ∧ (∀ j, j < N → parseFieldDescriptor (T j).2.2.1 = some (ty0 j)) ∧ (∀ a, a < N → ∀ b, b < N → a ≠ b → (T a).2.1 ≠ (T b).2.1) ∧ (T k).2.2.2 = fin ∧ parseFieldDescriptor (T k).2.2.1 = some ty
theorem zg_getf {index ci k a : Nat} {fs : List Value} {v : Value} (hdg : decode (zg_cc M) pc = .ok (.getfield index, 3)) (hf : zg_fld E (zg_my M).cls index ci k) (hσ : σ.1 a = some (.inr (ci, fs))) (hv : fs[k]? = some v)
    (kk : zg_G l E d M (pc + 3) lv (v :: st) σ r) : zg_G l E d M pc lv (.ref a :: st) σ r := by
  refine ⟨kk.1, kk.2.1, ?_⟩
  intro p e R s m args below meth c H locs cells slots ls u0 mc ms hm1 hm2 hc h1 h2 h3 h4 h5 h6 h7 h8
  obtain ⟨C, T, N, c1, c2, c3, c4⟩ := hf
  obtain ⟨b1, b2, b3⟩ := hc.2.2.2.2.2.2.2.1.here
  have hts : ∀ w ∈ zg_ws E, w.before args s = true := fun w hw => b1 w hw args
  exact va_get (D := zg_D E) (cl := zg_cl E) (tys := zg_ty E) (ws := [(a, .inr (ci, fs))]) (C := C) (T := T) (N := N) (ci := ci) hc.1 hc.2.1 hts c4 hc.2.2.2.2.1 b2 (zg_one (h5.2.2 a _ hσ).1) 0 rfl c1 k c2 (hts _ c3) (fun x hx => hx) hv hdg
    (kk.2.2 p e R s m args below meth c H locs cells slots ls u0 mc ms hm1 hm2 hc h1 h2 h3 h4 h5 h6 h7 h8)
/-- the heap with another content at a -/
def zg_up (σ : zg_H) (a : Nat) (e : va_E) : zg_H := (fun q => if q = a then some e else σ.1 q, σ.2)
theorem zg_rep_up {σ : zg_H} {H H1 : Heap} {a : Nat} {e0 e : va_E} (h : zg_rep E σ H) (ha : σ.1 a = some e0) (hz : H1.size = H.size) (ho : ∀ q : Nat, q ≠ a → H1[q]? = H[q]?) (he : va_at (zg_D E) (zg_cl E) (a, e) H1) : zg_rep E (zg_up σ a e) H1 := by
  refine ⟨hz.trans h.1, by rw [hz]; exact h.2.1, fun q x hx => ?_⟩
  by_cases hq : q = a
  · subst hq
    have hx : (if q = q then some e else σ.1 q) = some x := hx
    rw [if_pos rfl] at hx
    cases hx
    exact ⟨he, (h.2.2 _ _ ha).2⟩
  · have hx : (if q = a then some e else σ.1 q) = some x := hx
    rw [if_neg hq] at hx
    exact ⟨(h.2.2 q x hx).1.kept (ho q hq), (h.2.2 q x hx).2⟩
theorem zg_old_up {σ : zg_H} {H H1 H0 : Heap} {a : Nat} {e0 : va_E} (h : zg_rep E σ H) (ha : σ.1 a = some e0) (ho : ∀ q : Nat, q ≠ a → H1[q]? = H[q]?) (h6 : ∀ q : Nat, q < zg_b E → H[q]? = H0[q]?) : ∀ q : Nat, q < zg_b E → H1[q]? = H0[q]? := by
  intro q hq
  have := (h.2.2 _ _ ha).2
  rw [ho q (by omega)]
  exact h6 q hq
theorem zg_locs_up {σ : zg_H} {H : Heap} {a i : Nat} {e0 : va_E} {locs : List Loc} (h : zg_rep E σ H) (ha : σ.1 a = some e0) (h7 : ∀ x ∈ locs, zg_b E ≤ x.base) : ∀ x ∈ locs ++ [(⟨a, i⟩ : Loc)], zg_b E ≤ x.base := by
  intro x hx
  rcases List.mem_append.mp hx with hx | hx
  · exact h7 x hx
  · rw [List.mem_singleton.mp hx]; exact (h.2.2 _ _ ha).2
theorem zg_putf {index ci k a : Nat} {fs : List Value} {v : Value} {ty : FieldType} {σ2 : zg_H} (hdg : decode (zg_cc M) pc = .ok (.putfield index, 3)) (hf : zg_fld E (zg_my M).cls index ci k) (ht : zg_fty E ci k ty false) (hσ : σ.1 a = some (.inr (ci, fs))) (hl : k < fs.length)
    (hn : narrow ty v = v) (hfit : fits ty v = true) (h2 : zg_up σ a (.inr (ci, fs.set k v)) = σ2) (kk : zg_G l E d M (pc + 3) lv st σ2 r) : zg_G l E d M pc lv (v :: .ref a :: st) σ r := by
  subst h2
  refine ⟨kk.1, kk.2.1, ?_⟩
  intro p e R s m args below meth c H locs cells slots ls u0 mc ms hm1 hm2 hc h1 h2 h3 h4 h5 h6 h7 h8
  obtain ⟨C, T, N, c1, c2, c3, c4⟩ := hf
  obtain ⟨C', T', N', ty0, g1, g2, g3, g4, g5⟩ := ht
  cases Option.some.inj (c1.symm.trans g1)
  obtain ⟨b1, b2, b3⟩ := hc.2.2.2.2.2.2.2.1.here
  have hts : ∀ w ∈ zg_ws E, w.before args s = true := fun w hw => b1 w hw args
  have hap := va_apart (own := (zg_my M).cls) hts c4 ty0 g2 g3 b2 c1
  obtain ⟨r9, h9, cell, q1, q2, q3, q4⟩ := (h5.2.2 a _ hσ).1
  have hr9 : r9 = (C, T, N) := Option.some.inj (h9.symm.trans c1)
  subst hr9
  obtain ⟨hS, hfc, kC, hkC, hkind⟩ := b2.1 ci _ c1
  obtain ⟨cf, kf, fi, f, hi, hsl⟩ := hS k c2
  have hlay := hts _ (c4 _ (u_in_lay c2))
  unfold u_lay at hlay
  rw [if_neg (by rw [g4]; decide)] at hlay
  have hst := (u_facts hfc hkC (u_lays hts c4 c2) hi).1
  have h10 := u_store hfc hkC hkind hlay hi g5 hn hfit
  refine W.putK hc.1 hc.2.1 (f := f) ⟨hc.2.2.2.2.1, hts _ c3, ⟨_, _, _, hi⟩, hst⟩ (by rw [q2]; exact h10) q1 q3 (by rw [hsl]; exact k2_hasslot (q4 k c2)) rfl rfl hdg fun H' e1 e2 e3 => ?_
  rw [hsl] at e1 ⊢
  have he : va_at (zg_D E) (zg_cl E) (a, .inr (ci, fs.set k v)) H' := ⟨_, c1, t_OB.to (V := updV (vp_V fs) k v) ⟨_, e1, q2, q3, t_set q4 hap c2 v⟩ (fun j _ => vp_updV_set hl v j)⟩
  exact kk.2.2 p e R s m args below meth c H' _ cells slots ls u0 mc ms hm1 hm2 hc h1 h2 h3 h4 (zg_rep_up h5 hσ e2 e3 he) (zg_old_up h5 hσ e3 h6) (zg_locs_up h5 hσ h7) h8
/-- a final field, in a constructor -/
theorem zg_putF {index ci k a : Nat} {fs : List Value} {v : Value} {ty : FieldType} {σ2 : zg_H} (hdg : decode (zg_cc M) pc = .ok (.putfield index, 3)) (hf : zg_fld E (zg_my M).cls index ci k) (ht : zg_fty E ci k ty true) (hown : ∀ (C : String) (T : u_T) (N : Nat), (zg_cl E)[ci]? = some (C, T, N) → (T k).1 = (zg_my M).cls) (hnm : (zg_my M).name = "<init>") (hσ : σ.1 a = some (.inr (ci, fs))) (hl : k < fs.length)
    (hn : narrow ty v = v) (hfit : fits ty v = true) (h2 : zg_up σ a (.inr (ci, fs.set k v)) = σ2) (kk : zg_G l E d M (pc + 3) lv st σ2 r) : zg_G l E d M pc lv (v :: .ref a :: st) σ r := by
  subst h2
  refine ⟨kk.1, kk.2.1, ?_⟩
  intro p e R s m args below meth c H locs cells slots ls u0 mc ms hm1 hm2 hc h1 h2 h3 h4 h5 h6 h7 h8
  obtain ⟨C, T, N, c1, c2, c3, c4⟩ := hf
  obtain ⟨C', T', N', ty0, g1, g2, g3, g4, g5⟩ := ht
  cases Option.some.inj (c1.symm.trans g1)
  obtain ⟨b1, b2, b3⟩ := hc.2.2.2.2.2.2.2.1.here
  have hts : ∀ w ∈ zg_ws E, w.before args s = true := fun w hw => b1 w hw args
  have hap := va_apart (own := (zg_my M).cls) hts c4 ty0 g2 g3 b2 c1
  obtain ⟨r9, h9, cell, q1, q2, q3, q4⟩ := (h5.2.2 a _ hσ).1
  have hr9 : r9 = (C, T, N) := Option.some.inj (h9.symm.trans c1)
  subst hr9
  obtain ⟨hS, hfc, kC, hkC, hkind⟩ := b2.1 ci _ c1
  obtain ⟨cf, kf, fi, f, hi, hsl⟩ := hS k c2
  have hlay := hts _ (c4 _ (u_in_lay c2))
  unfold u_lay at hlay
  rw [if_pos g4] at hlay
  have hst := (u_facts hfc hkC (u_lays hts c4 c2) hi).1
  have hcf : m.cls = cf := by
    obtain ⟨_, _, c', _, _, _, -, -, hf', -, -, -, hown2, -⟩ := Cond.laysFinal_spec hlay
    have e1 : c' = cf := by have := hi.symm.trans hf'; simp at this; exact this.1.symm
    rw [hown C T N c1] at hown2
    rw [← e1]; exact Option.some.inj (hc.2.2.2.2.1.symm.trans hown2)
  have h10 := u_fits hfc hkC hkind (Or.inr hlay) hi g5 hn hfit
  refine W.putFinK hc.1 hc.2.1 hc.2.2.2.2.1 (hts _ c3) hi hst hcf (hc.2.2.2.2.2.2.1.trans hnm) (by rw [q2]; exact h10) q1 q3 (by rw [hsl]; exact k2_hasslot (q4 k c2)) rfl rfl hdg fun H' e1 e2 e3 => ?_
  rw [hsl] at e1 ⊢
  have he : va_at (zg_D E) (zg_cl E) (a, .inr (ci, fs.set k v)) H' := ⟨_, c1, t_OB.to (V := updV (vp_V fs) k v) ⟨_, e1, q2, q3, t_set q4 hap c2 v⟩ (fun j _ => vp_updV_set hl v j)⟩
  exact kk.2.2 p e R s m args below meth c H' _ cells slots ls u0 mc ms hm1 hm2 hc h1 h2 h3 h4 (zg_rep_up h5 hσ e2 e3 he) (zg_old_up h5 hσ e3 h6) (zg_locs_up h5 hσ h7) h8
/-- arrays -/
theorem zg_iald {a k n t0 : Nat} {i : Int32} {cA : ClassId} {f : Nat → Int32} (hdg : decode (zg_cc M) pc = .ok (.iaload, 1)) (hσ : σ.1 a = some (.inl (cA, n, .inl f))) (ht : (zg_ty E)[t0]? = some (cA, .int)) (hi : i = nI k) (hk : k < n) (hn : n < 2 ^ 31)
    (kk : zg_G l E d M (pc + 1) lv (.int (f k) :: st) σ r) : zg_G l E d M pc lv (.int i :: .ref a :: st) σ r := by
  subst hi
  refine ⟨kk.1, kk.2.1, ?_⟩
  intro p e R s m args below meth c H locs cells slots ls u0 mc ms hm1 hm2 hc h1 h2 h3 h4 h5 h6 h7 h8
  obtain ⟨b1, b2, b3⟩ := hc.2.2.2.2.2.2.2.1.here
  refine va_iald (D := zg_D E) (cl := zg_cl E) (tys := zg_ty E) (ws := [(a, .inl (cA, n, .inl f))]) hc.1 hc.2.1 b2 (zg_one (h5.2.2 a _ hσ).1) 0 t0 rfl ht (vp_in_nI hk hn) hdg ?_
  rw [nI_clamp (Nat.lt_trans hk hn)]
  exact kk.2.2 p e R s m args below meth c H locs cells slots ls u0 mc ms hm1 hm2 hc h1 h2 h3 h4 h5 h6 h7 h8
theorem zg_zald {a k n t0 : Nat} {i : Int32} {cA : ClassId} {f : Nat → Int32} (hdg : decode (zg_cc M) pc = .ok (.baload, 1)) (hσ : σ.1 a = some (.inl (cA, n, .inl f))) (ht : (zg_ty E)[t0]? = some (cA, .boolean)) (hi : i = nI k) (hk : k < n) (hn : n < 2 ^ 31)
    (kk : zg_G l E d M (pc + 1) lv (.int (f k) :: st) σ r) : zg_G l E d M pc lv (.int i :: .ref a :: st) σ r := by
  subst hi
  refine ⟨kk.1, kk.2.1, ?_⟩
  intro p e R s m args below meth c H locs cells slots ls u0 mc ms hm1 hm2 hc h1 h2 h3 h4 h5 h6 h7 h8
  obtain ⟨b1, b2, b3⟩ := hc.2.2.2.2.2.2.2.1.here
  refine va_zald (D := zg_D E) (cl := zg_cl E) (tys := zg_ty E) (ws := [(a, .inl (cA, n, .inl f))]) hc.1 hc.2.1 b2 (zg_one (h5.2.2 a _ hσ).1) 0 t0 rfl ht (vp_in_nI hk hn) hdg ?_
  rw [nI_clamp (Nat.lt_trans hk hn)]
  exact kk.2.2 p e R s m args below meth c H locs cells slots ls u0 mc ms hm1 hm2 hc h1 h2 h3 h4 h5 h6 h7 h8
theorem zg_lald {a k n t0 : Nat} {i : Int32} {cA : ClassId} {f : Nat → Int64} (hdg : decode (zg_cc M) pc = .ok (.laload, 1)) (hσ : σ.1 a = some (.inl (cA, n, .inr (.inl f)))) (ht : (zg_ty E)[t0]? = some (cA, .long)) (hi : i = nI k) (hk : k < n) (hn : n < 2 ^ 31)
    (kk : zg_G l E d M (pc + 1) lv (.long (f k) :: st) σ r) : zg_G l E d M pc lv (.int i :: .ref a :: st) σ r := by
  subst hi
  refine ⟨kk.1, kk.2.1, ?_⟩
  intro p e R s m args below meth c H locs cells slots ls u0 mc ms hm1 hm2 hc h1 h2 h3 h4 h5 h6 h7 h8
  obtain ⟨b1, b2, b3⟩ := hc.2.2.2.2.2.2.2.1.here
  refine va_lald (D := zg_D E) (cl := zg_cl E) (tys := zg_ty E) (ws := [(a, .inl (cA, n, .inr (.inl f)))]) hc.1 hc.2.1 b2 (zg_one (h5.2.2 a _ hσ).1) 0 t0 rfl ht (vp_in_nI hk hn) hdg ?_
  rw [nI_clamp (Nat.lt_trans hk hn)]
  exact kk.2.2 p e R s m args below meth c H locs cells slots ls u0 mc ms hm1 hm2 hc h1 h2 h3 h4 h5 h6 h7 h8
theorem zg_aald {a k n t0 b : Nat} {i : Int32} {cA : ClassId} {C : String} {f : Nat → Option Nat} (hdg : decode (zg_cc M) pc = .ok (.aaload, 1)) (hσ : σ.1 a = some (.inl (cA, n, .inr (.inr (.inr (.inr f)))))) (ht : (zg_ty E)[t0]? = some (cA, .object C)) (hi : i = nI k) (hk : k < n) (hn : n < 2 ^ 31) (hb : f k = some b)
    (kk : zg_G l E d M (pc + 1) lv (.ref b :: st) σ r) : zg_G l E d M pc lv (.int i :: .ref a :: st) σ r := by
  subst hi
  refine ⟨kk.1, kk.2.1, ?_⟩
  intro p e R s m args below meth c H locs cells slots ls u0 mc ms hm1 hm2 hc h1 h2 h3 h4 h5 h6 h7 h8
  obtain ⟨b1, b2, b3⟩ := hc.2.2.2.2.2.2.2.1.here
  refine va_aldq (D := zg_D E) (cl := zg_cl E) (tys := zg_ty E) (ws := [(a, .inl (cA, n, .inr (.inr (.inr (.inr f)))))]) hc.1 hc.2.1 b2 (zg_one (h5.2.2 a _ hσ).1) 0 t0 rfl ht (vp_in_nI hk hn) hdg ?_
  rw [nI_clamp (Nat.lt_trans hk hn), hb]
  exact kk.2.2 p e R s m args below meth c H locs cells slots ls u0 mc ms hm1 hm2 hc h1 h2 h3 h4 h5 h6 h7 h8
theorem zg_iast {a k n t0 : Nat} {i x : Int32} {cA : ClassId} {f : Nat → Int32} {σ2 : zg_H} (hdg : decode (zg_cc M) pc = .ok (.iastore, 1)) (hσ : σ.1 a = some (.inl (cA, n, .inl f))) (ht : (zg_ty E)[t0]? = some (cA, .int)) (hi : i = nI k) (hk : k < n) (hn : n < 2 ^ 31)
    (h2 : zg_up σ a (.inl (cA, n, .inl (upd f k x))) = σ2) (kk : zg_G l E d M (pc + 1) lv st σ2 r) : zg_G l E d M pc lv (.int x :: .int i :: .ref a :: st) σ r := by
  subst hi h2
  refine ⟨kk.1, kk.2.1, ?_⟩
  intro p e R s m args below meth c H locs cells slots ls u0 mc ms hm1 hm2 hc h1 h2 h3 h4 h5 h6 h7 h8
  obtain ⟨b1, b2, b3⟩ := hc.2.2.2.2.2.2.2.1.here
  have hcell := (h5.2.2 a _ hσ).1
  refine W.iast hc.1 hc.2.1 hcell ((b2.2 t0 _ ht).1 n (fun j => .int (f j))) (fun q => by cases q) (by show ¬ (nI k < 0 ∨ (arrV _ _ _).slots.size ≤ _); rw [arrV_size]; exact vp_in_nI hk hn) rfl rfl hdg fun H1 e1 z oq => ?_
  have he : va_at (zg_D E) (zg_cl E) (a, .inl (cA, n, .inl (upd f k x))) H1 := by
    show H1[a]? = some (vp_cell _ _)
    rw [e1, vp_cell_i, vp_cell_i, arrV_store, nI_clamp (Nat.lt_trans hk hn)]
    congr 2
    funext q
    by_cases hq : q = k
    · subst hq; simp [updV, upd]
    · simp [updV, upd, hq]
  exact kk.2.2 p e R s m args below meth c H1 _ cells slots ls u0 mc ms hm1 hm2 hc h1 h2 h3 h4 (zg_rep_up h5 hσ z oq he) (zg_old_up h5 hσ oq h6) (zg_locs_up h5 hσ h7) h8
theorem zg_last {a k n t0 : Nat} {i : Int32} {x : Int64} {cA : ClassId} {f : Nat → Int64} {σ2 : zg_H} (hdg : decode (zg_cc M) pc = .ok (.lastore, 1)) (hσ : σ.1 a = some (.inl (cA, n, .inr (.inl f)))) (ht : (zg_ty E)[t0]? = some (cA, .long)) (hi : i = nI k) (hk : k < n) (hn : n < 2 ^ 31)
    (h2 : zg_up σ a (.inl (cA, n, .inr (.inl (vp_updL f k x)))) = σ2) (kk : zg_G l E d M (pc + 1) lv st σ2 r) : zg_G l E d M pc lv (.long x :: .int i :: .ref a :: st) σ r := by
  subst hi h2
  refine ⟨kk.1, kk.2.1, ?_⟩
  intro p e R s m args below meth c H locs cells slots ls u0 mc ms hm1 hm2 hc h1 h2 h3 h4 h5 h6 h7 h8
  obtain ⟨b1, b2, b3⟩ := hc.2.2.2.2.2.2.2.1.here
  have hcell := (h5.2.2 a _ hσ).1
  refine W.last hc.1 hc.2.1 hcell ((b2.2 t0 _ ht).1 n (fun j => .long (f j))) (fun q => by cases q) (by show ¬ (nI k < 0 ∨ (arrV _ _ _).slots.size ≤ _); rw [arrV_size]; exact vp_in_nI hk hn) rfl rfl hdg fun H1 e1 z oq => ?_
  have he : va_at (zg_D E) (zg_cl E) (a, .inl (cA, n, .inr (.inl (vp_updL f k x)))) H1 := by
    show H1[a]? = some (vp_cell _ _)
    rw [e1, vp_cell_l, vp_cell_l, arrV_store, nI_clamp (Nat.lt_trans hk hn)]
    congr 2
    funext q
    by_cases hq : q = k
    · subst hq; simp [updV, vp_updL]
    · simp [updV, vp_updL, hq]
  exact kk.2.2 p e R s m args below meth c H1 _ cells slots ls u0 mc ms hm1 hm2 hc h1 h2 h3 h4 (zg_rep_up h5 hσ z oq he) (zg_old_up h5 hσ oq h6) (zg_locs_up h5 hσ h7) h8
theorem zg_zast {a k n t0 : Nat} {i x : Int32} {cA : ClassId} {f : Nat → Int32} {σ2 : zg_H} (hdg : decode (zg_cc M) pc = .ok (.bastore, 1)) (hσ : σ.1 a = some (.inl (cA, n, .inl f))) (ht : (zg_ty E)[t0]? = some (cA, .boolean)) (hi : i = nI k) (hk : k < n) (hn : n < 2 ^ 31) (hx : narrow .boolean (.int x) = .int x)
    (h2 : zg_up σ a (.inl (cA, n, .inl (upd f k x))) = σ2) (kk : zg_G l E d M (pc + 1) lv st σ2 r) : zg_G l E d M pc lv (.int x :: .int i :: .ref a :: st) σ r := by
  subst hi h2
  refine ⟨kk.1, kk.2.1, ?_⟩
  intro p e R s m args below meth c H locs cells slots ls u0 mc ms hm1 hm2 hc h1 h2 h3 h4 h5 h6 h7 h8
  obtain ⟨b1, b2, b3⟩ := hc.2.2.2.2.2.2.2.1.here
  have hcell := (h5.2.2 a _ hσ).1
  refine W.zast hc.1 hc.2.1 hcell ((b2.2 t0 _ ht).1 n (fun j => .int (f j))) (fun q => by cases q) (by show ¬ (nI k < 0 ∨ (arrV _ _ _).slots.size ≤ _); rw [arrV_size]; exact vp_in_nI hk hn) rfl rfl hdg fun H1 e1 z oq => ?_
  have he : va_at (zg_D E) (zg_cl E) (a, .inl (cA, n, .inl (upd f k x))) H1 := by
    show H1[a]? = some (vp_cell _ _)
    rw [e1, hx, vp_cell_i, vp_cell_i, arrV_store, nI_clamp (Nat.lt_trans hk hn)]
    congr 2
    funext q
    by_cases hq : q = k
    · subst hq; simp [updV, upd]
    · simp [updV, upd, hq]
  exact kk.2.2 p e R s m args below meth c H1 _ cells slots ls u0 mc ms hm1 hm2 hc h1 h2 h3 h4 (zg_rep_up h5 hσ z oq he) (zg_old_up h5 hσ oq h6) (zg_locs_up h5 hσ h7) h8
end ZG3
end
section
section ZG4
variable {l : Launch} {E : zg_E} {d : Nat} {M : zg_M} {pc : Nat} {lv : List (Nat × Value)} {st : List Value} {σ : zg_H} {r : zg_R}
theorem zg_aast {a k n t0 v ci : Nat} {i : Int32} {cA : ClassId} {q : vw_C} {vs : List Value} {f : Nat → Option Nat} {σ2 : zg_H} (hdg : decode (zg_cc M) pc = .ok (.aastore, 1)) (hσ : σ.1 a = some (.inl (cA, n, .inr (.inr (.inr (.inr f)))))) (ht : (zg_ty E)[t0]? = some (cA, .object q.1)) (hv : σ.1 v = some (.inr (ci, vs))) (hq : (zg_cl E)[ci]? = some q)
    (hi : i = nI k) (hk : k < n) (hn : n < 2 ^ 31) (h2 : zg_up σ a (.inl (cA, n, .inr (.inr (.inr (.inr (va_up f k (some v))))))) = σ2) (kk : zg_G l E d M (pc + 1) lv st σ2 r) : zg_G l E d M pc lv (.ref v :: .int i :: .ref a :: st) σ r := by
  subst hi h2
  refine ⟨kk.1, kk.2.1, ?_⟩
  intro p e R s m args below meth c H locs cells slots ls u0 mc ms hm1 hm2 hc h1 h2 h3 h4 h5 h6 h7 h8
  obtain ⟨b1, b2, b3⟩ := hc.2.2.2.2.2.2.2.1.here
  have hcell := (h5.2.2 a _ hσ).1
  obtain ⟨r', hr', cellV, g1, g2, g3, -⟩ := (h5.2.2 v _ hv).1
  have hcls := (b2.1 ci q hq).2
  obtain ⟨kA, comp, k1, k2, k3, -⟩ := (b2.2 t0 _ ht).2
  have hcomp : comp = (zg_D E).1 ci := Option.some.inj (k3.symm.trans hcls.1)
  subst hcomp
  obtain ⟨kC, hkC, -⟩ := hcls.2
  refine W.aast hc.1 hc.2.1 hcell (fun q h => by cases h) (fun h => by cases h) k1 k2 rfl hkC ⟨nI_pos (Nat.lt_trans hk hn), by show _ < (arrV _ _ _).slots.size; rw [arrV_size, nI_clamp (Nat.lt_trans hk hn)]; exact hk⟩ g1 (fun q h => by rw [g3] at h; cases h) (by rw [g2]; exact hkC) (by rw [g2]; exact va_assign hcls) rfl rfl hdg fun H1 e1 z oq => ?_
  have he : va_at (zg_D E) (zg_cl E) (a, .inl (cA, n, .inr (.inr (.inr (.inr (va_up f k (some v))))))) H1 := by
    show H1[a]? = some (vp_cell _ _)
    rw [e1, vp_cell_q, vp_cell_q, arrV_store, nI_clamp (Nat.lt_trans hk hn)]
    congr 2
    funext x
    by_cases hx : x = k
    · subst hx; simp [updV, va_up, va_rf]
    · simp [updV, va_up, hx]
  exact kk.2.2 p e R s m args below meth c H1 _ cells slots ls u0 mc ms hm1 hm2 hc h1 h2 h3 h4 (zg_rep_up h5 hσ z oq he) (zg_old_up h5 hσ oq h6) (zg_locs_up h5 hσ h7) h8
/-- the heap with a new cell of n slots -/
def zg_al (σ : zg_H) (e : va_E) (n : Nat) : zg_H := (fun q => if q = zg_sz σ then some e else σ.1 q, zg_sz σ + 1, zg_us σ + n)
theorem zg_rep_al {σ : zg_H} {H H1 : Heap} {e : va_E} (n : Nat) (h : zg_rep E σ H) (hz : H1.size = H.size + 1) (ho : ∀ q : Nat, q < H.size → H1[q]? = H[q]?) (he : va_at (zg_D E) (zg_cl E) (H.size, e) H1) : zg_rep E (zg_al σ e n) H1 := by
  refine ⟨by rw [hz, h.1]; rfl, by have := h.2.1; omega, fun q x hx => ?_⟩
  have hx : (if q = zg_sz σ then some e else σ.1 q) = some x := hx
  by_cases hq : q = zg_sz σ
  · rw [if_pos hq] at hx
    cases hx
    rw [← h.1] at hq
    subst hq
    exact ⟨he, h.2.1⟩
  · rw [if_neg hq] at hx
    exact ⟨(h.2.2 q x hx).1.kept (ho q (h.2.2 q x hx).1.lt), (h.2.2 q x hx).2⟩
theorem zg_new {index ci N : Nat} {C : String} {T : u_T} {fs : List Value} {σ2 : zg_H} (ty : Nat → FieldType) (hdg : decode (zg_cc M) pc = .ok (.new index, 3)) (hq : (zg_cl E)[ci]? = some (C, T, N)) (hty : ∀ k, k < N → parseFieldDescriptor (T k).2.2.1 = some (ty k)) (hin : ∀ w ∈ u_ws C T N, w ∈ zg_ws E)
    (hcl : Cond.classLink (zg_my M).cls index C ∈ zg_ws E) (hins : Cond.instantiable C N ∈ zg_ws E) (hini : Cond.initialized C ∈ zg_ws E) (hfs : ∀ j, j < N → defaultValue (ty j) = vp_V fs j) (h2 : zg_al σ (.inr (ci, fs)) N = σ2)
    (kk : zg_G l E d M (pc + 3) lv (.ref (zg_sz σ) :: st) σ2 r) : zg_G l E d M pc lv st σ r := by
  subst h2
  have k1 : zg_sz σ + 1 ≤ zg_sz r.2 := kk.1
  have k2 : zg_us σ + N ≤ zg_us r.2 := kk.2.1
  refine ⟨by omega, by omega, ?_⟩
  intro p e R s m args below meth c H locs cells slots ls u0 mc ms hm1 hm2 hc h1 h2 h3 h4 h5 h6 h7 h8
  obtain ⟨b1, b2, b3⟩ := hc.2.2.2.2.2.2.2.1.here
  have hts : ∀ w ∈ zg_ws E, w.before args s = true := fun w hw => b1 w hw args
  have hKn := b2.1 ci _ hq
  refine W.newcK hc.1 hc.2.1 hc.2.2.2.2.1 (hts _ hcl) (hts _ hins) (hts _ hini) rfl hdg (by omega) (by omega) hKn.2.1 h5.1 fun H1 kC hkC e1 z1 o1 => ?_
  have o1 : ∀ q : Nat, q < H.size → H1[q]? = H[q]? := fun q hq => o1 q (by rw [← h5.1]; exact hq)
  have he : va_at (zg_D E) (zg_cl E) (H.size, .inr (ci, fs)) H1 := ⟨_, hq, by rw [h5.1]; exact (u_born ty hts hin hKn hkC e1 hty).to hfs⟩
  exact kk.2.2 p e R s m args below meth c H1 locs (cells + 1) (slots + N) ls u0 mc ms hm1 hm2 hc (by show _ = zg_sz σ + 1; omega) (by show _ = zg_us σ + N; omega) h3 h4 (zg_rep_al N h5 (by rw [z1, h5.1]) o1 he) (fun q hq => by rw [o1 q (Nat.lt_of_lt_of_le hq h5.2.1)]; exact h6 q hq) h7 h8
theorem zg_newa {atype : ArrayType} {ty : FieldType} {t0 N : Nat} {n : Int32} {cA : ClassId} {a0 : vp_A} {σ2 : zg_H} (hdg : decode (zg_cc M) pc = .ok (.newarray atype, 2)) (hty : newarray.typeOf atype = ty) (hw : Cond.arrayClass ty ∈ zg_ws E) (ht : (zg_ty E)[t0]? = some (cA, ty)) (hno : ∀ C, ty ≠ .object C) (hn : n = nI N) (hN : N ≤ 1000) (ha : ∀ cB : ClassId, vp_cell cB a0 = arrV cB N (fun _ => defaultValue ty)) (hcb : componentBytes ty ≤ 8)
    (h2 : zg_al σ (.inl (cA, a0)) N = σ2) (kk : zg_G l E d M (pc + 2) lv (.ref (zg_sz σ) :: st) σ2 r) : zg_G l E d M pc lv (.int n :: st) σ r := by
  subst h2 hn hty
  have k1 : zg_sz σ + 1 ≤ zg_sz r.2 := kk.1
  have k2 : zg_us σ + N ≤ zg_us r.2 := kk.2.1
  refine ⟨by omega, by omega, ?_⟩
  intro p e R s m args below meth c H locs cells slots ls u0 mc ms hm1 hm2 hc h1 h2 h3 h4 h5 h6 h7 h8
  obtain ⟨b1, b2, b3⟩ := hc.2.2.2.2.2.2.2.1.here
  have hts : ∀ w ∈ zg_ws E, w.before args s = true := fun w hw => b1 w hw args
  have hN2 : N < 2 ^ 31 := by omega
  have hNb : N * componentBytes (newarray.typeOf atype) ≤ 536870912 := by
    have := Nat.mul_le_mul hN hcb
    omega
  refine va_newaK hc.1 hc.2.1 (hts _ hw) rfl hdg rfl (nI_pos hN2) (nI_clamp hN2) hNb (by omega) (by omega) h5.1 fun H1 cB e1 z1 o1 hAr hNm => ?_
  have o1 : ∀ q : Nat, q < H.size → H1[q]? = H[q]? := fun q hq => o1 q (by rw [← h5.1]; exact hq)
  have hcAB : cB = cA := by
    have hra := (b2.2 t0 _ ht).2
    have : s.vm.findClass ("[" ++ (newarray.typeOf atype).toString) = some cA := by
      cases atype <;> exact hra
    exact Option.some.inj (hNm.symm.trans this)
  subst hcAB
  have he : va_at (zg_D E) (zg_cl E) (H.size, .inl (cB, a0)) H1 := by
    show H1[H.size]? = some (vp_cell cB a0)
    rw [ha, h5.1]; exact e1
  exact kk.2.2 p e R s m args below meth c H1 locs (cells + 1) (slots + N) ls u0 mc ms hm1 hm2 hc (by show _ = zg_sz σ + 1; omega) (by show _ = zg_us σ + N; omega) h3 h4 (zg_rep_al N h5 (by rw [z1, h5.1]) o1 he) (fun q hq => by rw [o1 q (Nat.lt_of_lt_of_le hq h5.2.1)]; exact h6 q hq) h7 h8
theorem zg_anew {index t0 N : Nat} {n : Int32} {C : String} {cA : ClassId} {σ2 : zg_H} (hdg : decode (zg_cc M) pc = .ok (.anewarray index, 3)) (hcl : Cond.classLink (zg_my M).cls index C ∈ zg_ws E) (hov : Cond.arrayOver (.object C) ∈ zg_ws E) (ht : (zg_ty E)[t0]? = some (cA, .object C)) (hn : n = nI N) (hN : N ≤ 1000)
    (h2 : zg_al σ (.inl (cA, N, .inr (.inr (.inr (.inr (fun _ => none)))))) N = σ2) (kk : zg_G l E d M (pc + 3) lv (.ref (zg_sz σ) :: st) σ2 r) : zg_G l E d M pc lv (.int n :: st) σ r := by
  subst h2 hn
  have k1 : zg_sz σ + 1 ≤ zg_sz r.2 := kk.1
  have k2 : zg_us σ + N ≤ zg_us r.2 := kk.2.1
  refine ⟨by omega, by omega, ?_⟩
  intro p e R s m args below meth c H locs cells slots ls u0 mc ms hm1 hm2 hc h1 h2 h3 h4 h5 h6 h7 h8
  obtain ⟨b1, b2, b3⟩ := hc.2.2.2.2.2.2.2.1.here
  have hts : ∀ w ∈ zg_ws E, w.before args s = true := fun w hw => b1 w hw args
  have hN2 : N < 2 ^ 31 := by omega
  have hcl2 : (nI N).toNatClampNeg = N := nI_clamp hN2
  refine W.anew hc.1 hc.2.1 hc.2.2.2.2.1 (hts _ hcl) (hts _ hov) rfl hdg rfl (nI_pos hN2) (by rw [hcl2]; omega) (by omega) (by rw [hcl2]; omega) fun cB kA comp f1 f2 f3 f4 => ?_
  rw [hcl2]
  generalize hH1 : H.push ({ cls := cB, slots := Array.replicate N .null, vm := .none } : Cell) = H1
  have z1 : H1.size = H.size + 1 := by rw [← hH1, Array.size_push]
  have e1 : H1[H.size]? = some (arrV cB N (fun _ => .null)) := by rw [← hH1, Array.getElem?_push_size, ← arrV_new]
  have o1 : ∀ q : Nat, q < H.size → H1[q]? = H[q]? := fun q hq => by rw [← hH1, Array.getElem?_push, if_neg (Nat.ne_of_lt hq)]
  have hcAB : cB = cA := by
    obtain ⟨kA2, comp2, g1, g2, g3, g4⟩ := (b2.2 t0 _ ht).2
    exact Option.some.inj (f1.symm.trans g4)
  subst hcAB
  have he : va_at (zg_D E) (zg_cl E) (H.size, .inl (cB, N, .inr (.inr (.inr (.inr (fun _ => none)))))) H1 := by
    show H1[H.size]? = some (vp_cell _ _)
    rw [vp_cell_q]; exact e1
  rw [h5.1]
  exact kk.2.2 p e R s m args below meth c H1 locs (cells + 1) (slots + N) ls u0 mc ms hm1 hm2 hc (by show _ = zg_sz σ + 1; omega) (by show _ = zg_us σ + N; omega) h3 h4 (zg_rep_al N h5 z1 o1 he) (fun q hq => by rw [o1 q (Nat.lt_of_lt_of_le hq h5.2.1)]; exact h6 q hq) h7 h8
/-- an int constant -/
theorem zg_ldcw {index : Nat} {v : Int32} (hdg : decode (zg_cc M) pc = .ok (.ldc_w index, 3)) (hw : Cond.constant (zg_my M).cls index v ∈ zg_ws E) (kk : zg_G l E d M (pc + 3) lv (.int v :: st) σ r) : zg_G l E d M pc lv st σ r := by
  refine ⟨kk.1, kk.2.1, ?_⟩
  intro p e R s m args below meth c H locs cells slots ls u0 mc ms hm1 hm2 hc h1 h2 h3 h4 h5 h6 h7 h8
  obtain ⟨b1, b2, b3⟩ := hc.2.2.2.2.2.2.2.1.here
  exact lv_ldcw hc.1 hc.2.1 hc.2.2.2.2.1 (b1 _ hw args) hdg (kk.2.2 p e R s m args below meth c H locs cells slots ls u0 mc ms hm1 hm2 hc h1 h2 h3 h4 h5 h6 h7 h8)
/-- a long constant -/
theorem zg_ldc2 {index : Nat} {v : Int64} (hdg : decode (zg_cc M) pc = .ok (.ldc2_w index, 3)) (hw : Cond.constantLong (zg_my M).cls index v ∈ zg_ws E) (kk : zg_G l E d M (pc + 3) lv (.long v :: st) σ r) : zg_G l E d M pc lv st σ r := by
  refine ⟨kk.1, kk.2.1, ?_⟩
  intro p e R s m args below meth c H locs cells slots ls u0 mc ms hm1 hm2 hc h1 h2 h3 h4 h5 h6 h7 h8
  obtain ⟨b1, b2, b3⟩ := hc.2.2.2.2.2.2.2.1.here
  exact W.ldc2 hc.1 hc.2.1 hc.2.2.2.2.1 (b1 _ hw args) rfl hdg (kk.2.2 p e R s m args below meth c H locs cells slots ls u0 mc ms hm1 hm2 hc h1 h2 h3 h4 h5 h6 h7 h8)
theorem zg_S {σ : zg_H} {s : State} {H : Heap} {locs : List Loc} {cells : Nat} (h1 : s.heap.size + cells = zg_sz σ) (h5 : zg_rep E σ H) (h6 : ∀ q : Nat, q < zg_b E → H[q]? = s.heap[q]?) (h7 : ∀ x ∈ locs, zg_b E ≤ x.base) : va_S (fun q => zg_b E ≤ q) s.heap H locs :=
  ⟨by rw [h5.1]; omega, fun q _ hq => h6 q (by omega), h7⟩
/-- a static that nobody writes -/
theorem zg_gets {index : Nat} {C n ds : String} {v : Value} (hdg : decode (zg_cc M) pc = .ok (.getstatic index, 3)) (hx : ∀ U H, zg_x E U H → va_Z C n ds v (fun q => zg_b E ≤ q) U H) (hl : Cond.fieldLink (zg_my M).cls index C n ds ∈ zg_ws E) (kk : zg_G l E d M (pc + 3) lv (v :: st) σ r) : zg_G l E d M pc lv st σ r := by
  refine ⟨kk.1, kk.2.1, ?_⟩
  intro p e R s m args below meth c H locs cells slots ls u0 mc ms hm1 hm2 hc h1 h2 h3 h4 h5 h6 h7 h8
  obtain ⟨b1, b2, b3⟩ := hc.2.2.2.2.2.2.2.1.here
  exact va_gets hc.1 hc.2.1 (hx _ _ b3) (zg_S h1 h5 h6 h7) hc.2.2.2.2.1 (b1 _ hl args) (fun x h => h) hdg (kk.2.2 p e R s m args below meth c H locs cells slots ls u0 mc ms hm1 hm2 hc h1 h2 h3 h4 h5 h6 h7 h8)
/-- a table that nobody writes -/
theorem zg_ti {t N k : Nat} {i : Int32} {f : Nat → Value} {v : Value} (hdg : decode (zg_cc M) pc = .ok (.iaload, 1)) (hx : ∀ U H, zg_x E U H → va_T .int t N f (fun q => zg_b E ≤ q) U H) (hi : i = nI k) (hk : k < N) (hN : N < 2 ^ 31) (hv : f k = v) (kk : zg_G l E d M (pc + 1) lv (v :: st) σ r) : zg_G l E d M pc lv (.int i :: .ref t :: st) σ r := by
  subst hi
  refine ⟨kk.1, kk.2.1, ?_⟩
  intro p e R s m args below meth c H locs cells slots ls u0 mc ms hm1 hm2 hc h1 h2 h3 h4 h5 h6 h7 h8
  obtain ⟨b1, b2, b3⟩ := hc.2.2.2.2.2.2.2.1.here
  exact va_ti hc.1 hc.2.1 (hx _ _ b3) (zg_S h1 h5 h6 h7) (vp_in_nI hk hN) (by rw [nI_clamp (Nat.lt_trans hk hN)]; exact hv) hdg (kk.2.2 p e R s m args below meth c H locs cells slots ls u0 mc ms hm1 hm2 hc h1 h2 h3 h4 h5 h6 h7 h8)
theorem zg_tl {t N k : Nat} {i : Int32} {f : Nat → Value} {v : Value} (hdg : decode (zg_cc M) pc = .ok (.laload, 1)) (hx : ∀ U H, zg_x E U H → va_T .long t N f (fun q => zg_b E ≤ q) U H) (hi : i = nI k) (hk : k < N) (hN : N < 2 ^ 31) (hv : f k = v) (kk : zg_G l E d M (pc + 1) lv (v :: st) σ r) : zg_G l E d M pc lv (.int i :: .ref t :: st) σ r := by
  subst hi
  refine ⟨kk.1, kk.2.1, ?_⟩
  intro p e R s m args below meth c H locs cells slots ls u0 mc ms hm1 hm2 hc h1 h2 h3 h4 h5 h6 h7 h8
  obtain ⟨b1, b2, b3⟩ := hc.2.2.2.2.2.2.2.1.here
  exact va_tl hc.1 hc.2.1 (hx _ _ b3) (zg_S h1 h5 h6 h7) (vp_in_nI hk hN) (by rw [nI_clamp (Nat.lt_trans hk hN)]; exact hv) hdg (kk.2.2 p e R s m args below meth c H locs cells slots ls u0 mc ms hm1 hm2 hc h1 h2 h3 h4 h5 h6 h7 h8)
theorem zg_tlen {t N : Nat} {v : Int32} {ty : FieldType} {f : Nat → Value} (hdg : decode (zg_cc M) pc = .ok (.arraylength, 1)) (hx : ∀ U H, zg_x E U H → va_T ty t N f (fun q => zg_b E ≤ q) U H) (hv : nI N = v) (kk : zg_G l E d M (pc + 1) lv (.int v :: st) σ r) : zg_G l E d M pc lv (.ref t :: st) σ r := by
  refine ⟨kk.1, kk.2.1, ?_⟩
  intro p e R s m args below meth c H locs cells slots ls u0 mc ms hm1 hm2 hc h1 h2 h3 h4 h5 h6 h7 h8
  obtain ⟨b1, b2, b3⟩ := hc.2.2.2.2.2.2.2.1.here
  exact va_tlen hc.1 hc.2.1 (hx _ _ b3) (zg_S h1 h5 h6 h7) hv hdg (kk.2.2 p e R s m args below meth c H locs cells slots ls u0 mc ms hm1 hm2 hc h1 h2 h3 h4 h5 h6 h7 h8)
/-- Object's constructor -/
theorem zg_objInit {index a : Nat} (hdg : decode (zg_cc M) pc = .ok (.invokespecial index, 3)) (hl : Cond.methodLink (zg_my M).cls index Lib.objectInit ∈ zg_ws E) (hi : Cond.instanceMethod Lib.objectInit ∈ zg_ws E) (hcd : Cond.code Lib.objectInit ⟨#[0xb1]⟩ 1 none ∈ zg_ws E) (hst : (st.map fun v => v.category).sum ≤ 20)
    (kk : zg_G l E (d + 1) M (pc + 3) lv st σ r) : zg_G l E (d + 1) M pc lv (.ref a :: st) σ r := by
  refine ⟨kk.1, kk.2.1, ?_⟩
  intro p e R s m args below meth c H locs cells slots ls u0 mc ms hm1 hm2 hc h1 h2 h3 h4 h5 h6 h7 h8
  obtain ⟨b1, b2, b3⟩ := hc.2.2.2.2.2.2.2.1.here
  have hf := hc.2.2.2.2.2.2.2.2.2.1
  have hlo := hc.2.2.2.2.2.2.2.2.2.2.1
  exact W.objInit hc.1 hc.2.1 hc.2.2.2.2.1 (b1 _ hl args) (b1 _ hi args) (b1 _ hcd args) rfl (by rw [hc.2.2.1]; exact h8.1) rfl hdg (by omega) (by show 2 * 0 + _ + 12 ≤ _; omega)
    (kk.2.2 p e R s m args below meth c H locs cells slots ls u0 mc ms hm1 hm2 hc h1 h2 h3 h4 h5 h6 h7 h8)
end ZG4
section ZG5
variable {l : Launch} {E : zg_E} {d : Nat} {M : zg_M} {pc : Nat} {lv : List (Nat × Value)} {st : List Value} {σ : zg_H} {r : zg_R}
theorem zg_w_spec {a : Array Value} {U : State} {mk : MethodId} (h : (zg_w M).before a U = true) (hn : U.methodNamed? (zg_my M) = some mk) :
    ∃ (meth : Method) (c : Code), U.vm.method? mk = some meth ∧ meth.code = some c ∧ c.code = zg_cc M ∧ c.maxLocals = zg_ml M ∧ meth.sig.returnType = zg_rt M ∧ meth.locks = false ∧
      c.exceptionTable.toList.map (fun h => (h.startPc, h.endPc, h.handlerPc, h.catchType)) = zg_hh M ∧ parseMethodDescriptor (zg_my M).desc = some meth.sig := by
  obtain ⟨y, cc, ml, rt, hh⟩ := M
  cases hh with
  | nil =>
    have h : (Cond.code y cc ml rt).before a U = true := h
    obtain ⟨meth, c, q1, q2, q3, q4, q5, q6, q7, q8⟩ := Cond.code_spec hn h
    refine ⟨meth, c, q1, q2, q3, q4, q5, q6, ?_, q8⟩
    have : c.exceptionTable = #[] := by simpa using q7
    rw [this]
    rfl
  | cons x t =>
    have h : (Cond.codeWith y cc ml rt (x :: t)).before a U = true := h
    obtain ⟨m9, meth, c, hn9, q1, q2, q3, q4, q5, q6, q7, q8⟩ := Cond.codeWith_spec h
    cases hn.symm.trans hn9
    exact ⟨meth, c, q1, q2, q3, q4, q6, q7, q5, q8⟩
theorem zg_C_of {av : List Value} (hpl : plainFor (zg_my M) = true) (hsl : (lg_sl av).length ≤ zg_ml M) (k : zg_G l E d M 0 (lv_args 0 av) [] σ r) : zg_C l E d M av σ r := by
  refine ⟨k.1, k.2.1, ?_⟩
  refine MetFree.of_bodySF (code := zg_cc M) (maxLocals := zg_ml M) (ret := zg_rt M) hpl ?_ ?_
  · intro args s m h hn
    obtain ⟨meth, c, q1, q2, q3, q4, q5, q6, -⟩ := zg_w_spec (atoms_spec (ws := [zg_w M]) h _ List.mem_cons_self) hn
    exact ⟨meth, c, q1, q2, q3, q4, q5, q6⟩
  · intro p e s m args below meth c s₁ B hml hP _
    obtain ⟨rfl, hE, hR⟩ := hP
    have hh0 : s₁.heap = s.heap := by rw [B.state]; rfl
    obtain ⟨meth', c', q1, q2, q3, q4, q5, q6, q7, q8⟩ := zg_w_spec (atoms_spec (ws := [zg_w M]) B.pre _ List.mem_cons_self) B.named
    cases B.method.symm.trans q1
    cases (Stand.of_body B).code.symm.trans q2
    have k1 := k.1
    have k2 := k.2.1
    have hr1 := hR.1
    have hcx : zg_cx l E d M p (zg_rm d (zg_sz r.2 - zg_sz σ) (zg_us r.2 - zg_us σ)) s m meth c :=
      ⟨B.exec, B.bytes, hml, B.returns, findClass_of_methodNamed B.named, B.notSynchronized, (name_of_methodNamed B.named B.method).1, hE, hR.2.1, Nat.le_refl _, Nat.le_refl _, q7⟩
    have w := k.2.2 p e (zg_rm d (zg_sz r.2 - zg_sz σ) (zg_us r.2 - zg_us σ)) s m av.toArray below meth c s.heap [] 0 0 _ (zg_us σ) (zg_sz r.2 - zg_sz σ) (zg_us r.2 - zg_us σ) (Nat.le_refl _) (Nat.le_refl _) hcx hr1 rfl
      (by show s.heap.size + (zg_sz r.2 - zg_sz σ) = zg_sz r.2; omega) (by show zg_us σ + (zg_us r.2 - zg_us σ) = zg_us r.2; omega) hR (fun _ _ => rfl) (fun x hx => by cases hx) (lv_entry av hsl)
    obtain ⟨t, a1, o, b1, b2, b3, b4⟩ := w s₁ hh0 (Stand.of_body B)
    rw [lg_entry_eq]
    exact ⟨t, o, a1, b1, b2, b3, b4⟩
/-- a call by its contract, whatever its end -/
theorem zg_inv {av : List Value} (hC : zg_C l E d M av σ r) {p : Program} {e : Env} {R : Room} {s : State} {m : MethodId} {args : Array Value} {below : List Frame} {meth : Method} {c : Code} {T : State} {locs : List Loc} {cells slots : Nat}
    (X : Stand p l e R s m args below meth c T locs cells slots) {g : JFrame} {ig : Instr} {len : Nat} {mk : MethodId} (hg : g.method = m) (hsize : g.locals.size = c.maxLocals) (hdg : decode c.code g.pc = .ok (ig, len))
    (hfr : d + 1 ≤ R.frames) (hlo : 2 * g.monitorRoom + (g.stack.map fun v => v.category).sum + (zg_ml M + 11) + 36 * d ≤ R.locals) (hce : cells + (zg_sz r.2 - zg_sz σ) ≤ R.cells) (hsl : slots + (zg_us r.2 - zg_us σ) ≤ R.slots)
    (hn : T.methodNamed? (zg_my M) = some mk) (hw : ∀ a : Array Value, (zg_w M).before a T = true) (hini : ∀ a : Array Value, (Cond.initialized (zg_my M).cls).before a T = true) (henv : zg_env E T T.heap) (hrep : zg_rep E σ T.heap) :
    ∃ (T' : State) (L : List Loc), Stand p l e R s m args below meth c T' (locs ++ L) (cells + (zg_sz r.2 - zg_sz σ)) (slots + (zg_us r.2 - zg_us σ)) ∧ (∀ q ∈ L, zg_b E ≤ q.base) ∧ zg_rep E r.2 T'.heap ∧ (∀ q : Nat, q < zg_b E → T'.heap[q]? = T.heap[q]?) ∧
      match r.1 with
      | .inl v => Steps p.tables e below (doInvoke e (T.setTop g) [] mk av.toArray).1 (T'.setTop { g with pc := g.pc + len, stack := v.toList ++ g.stack })
      | .inr x => (∃ cell : Cell, T'.heap[x.1]? = some cell ∧ cell.vm.isStatics = false ∧ T.vm.findClass x.2 = some cell.cls) ∧
          Steps p.tables e below (doInvoke e (T.setTop g) [] mk av.toArray).1 ((T'.setTop g).pushFrame (.throwing x.1)) := by
  obtain ⟨hz, hu, hM⟩ := hC
  obtain ⟨methY, cY, hmY, hcY, -, hlY, -⟩ := zg_w_spec (hw #[]) hn
  obtain ⟨kY, hkY, -⟩ := className_of_methodNamed hn
  have hinitY : kY.init = .initialized := Cond.initialized_spec (findClass_of_methodNamed hn) hkY (hini #[])
  have h : At T g.method c below := by rw [hg]; exact X.here
  have hpre : (headSpec [zg_w M] (zg_rm d (zg_sz r.2 - zg_sz σ) (zg_us r.2 - zg_us σ))).pre.before av.toArray T = true :=
    atoms_intro fun w hw' => by rw [List.mem_singleton.mp hw']; exact hw _
  have happ : (headSpec [zg_w M] (zg_rm d (zg_sz r.2 - zg_sz σ) (zg_us r.2 - zg_us σ))).appliesLoose (zg_my M) e.platform (T.calling g mk av.toArray) = true :=
    Spec.appliesLoose_calling (g := g) h hdg hn hkY hinitY
      (X.room_calling (g := g) (R' := zg_rm d (zg_sz r.2 - zg_sz σ) (zg_us r.2 - zg_us σ)) hsize hmY hcY hfr (by rw [hlY]; exact hlo) hce hsl) hpre
  obtain ⟨mid, hmid⟩ := h.above
  have hfrm : (T.setTop g).frames = (.java g :: mid) ++ below := by rw [State.frames_setTop' g h.top, hmid]; rfl
  obtain ⟨o, s₂, hsteps, -, hend, ⟨hq1, hq2, hq3⟩, L, ⟨hW₂, e2, q2, q3, q4, q5, q6⟩, hL⟩ := Steps.callFree hM p X.admits X.cas X.clock (acts := []) hfrm happ ⟨rfl, henv, hrep⟩ trivial
  rw [State.frames_setTop' g h.top] at hend
  have e3 : s₂ = ({ (T.calling g mk av.toArray).setFrames s₂.frames with heap := s₂.heap, slotsUsed := s₂.slotsUsed } : State).setVm s₂.vm := by
    have : s₂ = ({ s₂ with vm := ((T.setTop g).pushFrame (.invoking mk av.toArray)).vm } : State).setVm s₂.vm := rfl
    rw [e2] at this
    exact this
  have hW' : T.WarmedH s₂.vm := hW₂
  obtain ⟨g₀, hg0⟩ := Option.isSome_iff_exists.mp h.top
  obtain ⟨fr, hr⟩ := State.topJava?_eq_some.mp hg0
  have hsame : T.sameButNew ({ T with heap := s₂.heap, slotsUsed := s₂.slotsUsed } : State) L (zg_sz r.2 - zg_sz σ) (zg_us r.2 - zg_us σ) := by
    refine ⟨?_, q2, q3, q4, q5, q6⟩
    obtain ⟨t, ht, -⟩ := State.frames_cons hr
    show ({ T with heap := s₂.heap, slotsUsed := s₂.slotsUsed } : State) = { T.setFrames T.frames with heap := s₂.heap, slotsUsed := s₂.slotsUsed }
    rw [State.setFrames_self ht]
  have hSt : Stand p l e R s m args below meth c (({ T with heap := s₂.heap, slotsUsed := s₂.slotsUsed } : State).setVm s₂.vm) (locs ++ L) (cells + (zg_sz r.2 - zg_sz σ)) (slots + (zg_us r.2 - zg_us σ)) :=
    ⟨X.admits, X.cas, X.clock, X.frames, X.room, X.hears, X.method, X.code, (X.here.setHeapUsed s₂.heap s₂.slotsUsed).setVm hW'.alike, X.tail, State.WarmedH.trans X.warmed hW', X.limits, X.bytes, X.same.trans (hsame.setVm s.vm)⟩
  have hr' : (({ T with heap := s₂.heap, slotsUsed := s₂.slotsUsed } : State).setVm s₂.vm).frames = .java g₀ :: fr := hr
  refine ⟨(({ T with heap := s₂.heap, slotsUsed := s₂.slotsUsed } : State).setVm s₂.vm), L, hSt, hL, hq1, hq2, ?_⟩
  cases hr1 : r.1 with
  | inl v =>
    rw [hr1] at hq3
    have hq3 : o = .returned v := hq3
    subst hq3
    obtain ⟨c₂, i₂, len₂, hc₂, hd₂, hf₂⟩ := hend
    have hcc : c₂ = c := by
      have h1 : s₂.code? g.method = T.code? g.method := by
        rw [State.code?_eq, State.code?_eq, hW'.alike.method?]
      exact Option.some.inj (hc₂.symm.trans (h1.trans h.code))
    subst hcc
    have hlen : len₂ = len := by rw [hdg] at hd₂; cases hd₂; rfl
    subst hlen
    have hs₂ : s₂ = (({ T with heap := s₂.heap, slotsUsed := s₂.slotsUsed } : State).setVm s₂.vm).setTop { g with pc := g.pc + len₂, stack := v.toList ++ g.stack } := by
      refine e3.trans ?_
      rw [hf₂, State.calling_eq h.top, State.setFrames_setFrames, State.setTop_of_frames _ hr', hr]
      rfl
    show Steps p.tables e below _ ((({ T with heap := s₂.heap, slotsUsed := s₂.slotsUsed } : State).setVm s₂.vm).setTop { g with pc := g.pc + len₂, stack := v.toList ++ g.stack })
    rw [← hs₂]
    exact hsteps
  | inr x =>
    rw [hr1] at hq3
    obtain ⟨ho, hcell⟩ : o = .threw x.1 ∧ _ := hq3
    subst ho
    have hf₂ : s₂.frames = .throwing x.1 :: .java g :: T.frames.tail := hend
    have hs₂ : s₂ = ((({ T with heap := s₂.heap, slotsUsed := s₂.slotsUsed } : State).setVm s₂.vm).setTop g).pushFrame (.throwing x.1) := by
      refine e3.trans ?_
      rw [hf₂, State.calling_eq h.top, State.setFrames_setFrames, State.pushFrame, State.frames_setTop _ hr', State.setTop_of_frames _ hr', State.setFrames_setFrames, hr]
      rfl
    refine ⟨hcell, ?_⟩
    show Steps p.tables e below _ (((({ T with heap := s₂.heap, slotsUsed := s₂.slotsUsed } : State).setVm s₂.vm).setTop g).pushFrame (.throwing x.1))
    rw [← hs₂]
    exact hsteps
/-- what the tables say of a method that is called -/
def zg_mth (E : zg_E) (M2 : zg_M) (n : Nat) : Prop := zg_w M2 ∈ zg_ws E ∧ Cond.initialized (zg_my M2).cls ∈ zg_ws E ∧ (zg_my M2).cls ≠ "java/lang/invoke/MethodHandle" ∧ (zg_my M2).cls ≠ "java/lang/invoke/VarHandle" ∧ (parseMethodDescriptor (zg_my M2).desc).map (fun q => q.parameters.length) = some n
theorem zg_mth.len {E : zg_E} {M2 : zg_M} {n : Nat} (h : zg_mth E M2 n) {sig : MethodDescriptor} (hs : parseMethodDescriptor (zg_my M2).desc = some sig) : n = sig.parameters.length := by
  have h2 := h.2.2.2.2
  rw [hs] at h2
  exact (Option.some.inj h2).symm
def zg_lk (E : zg_E) (own : String) (index : Nat) (y : MethodName) : Prop := Cond.methodLink own index y ∈ zg_ws E ∨ ∃ host, Cond.methodLinkNest own index y host ∈ zg_ws E
/-- the call as far as the frame of the callee: static -/
theorem zg_goS {M2 : zg_M} {n index : Nat} {p : Program} {e : Env} {R : Room} {s : State} {m : MethodId} {args : Array Value} {below : List Frame} {meth : Method} {c : Code} {T : State} {locs : List Loc} {cells slots : Nat}
    (X : Stand p l e R s m args below meth c T locs cells slots) (hc : zg_cx l E d M p R s m meth c) (hl : zg_lk E (zg_my M).cls index (zg_my M2)) (hm : zg_mth E M2 n) (hs : Cond.static (zg_my M2) ∈ zg_ws E)
    {g : JFrame} (hg : g.method = m) {av rest : List Value} (hn : av.length = n) (hstack : g.stack = av.reverse ++ rest) (hdg : decode (zg_cc M) g.pc = .ok (.invokestatic index, 3)) :
    ∃ (mk : MethodId) (vm₁ : Vm), s.methodNamed? (zg_my M2) = some mk ∧ Stand p l e R s m args below meth c (T.setVm vm₁) locs cells slots ∧
      ∀ target, Steps p.tables e below (doInvoke e ((T.setVm vm₁).setTop { g with stack := rest }) [] mk av.toArray).1 target → Steps p.tables e below (T.setTop g) target := by
  obtain ⟨b1, b2, b3⟩ := hc.2.2.2.2.2.2.2.1.here
  have hdg' : decode c.code g.pc = .ok (.invokestatic index, 3) := by rw [hc.2.1]; exact hdg
  have hwb := b1 _ hm.1 args
  obtain ⟨mk, hnamed⟩ : ∃ mk, s.methodNamed? (zg_my M2) = some mk := by
    obtain ⟨y, cc, ml, rt, hh⟩ := M2
    cases hh with
    | nil => exact Cond.code_named (show (Cond.code y cc ml rt).before args s = true from hwb)
    | cons x t =>
      obtain ⟨m9, _, _, hn9, -⟩ := Cond.codeWith_spec (show (Cond.codeWith y cc ml rt (x :: t)).before args s = true from hwb)
      exact ⟨m9, hn9⟩
  obtain ⟨methM, cM, hmethM, -, -, -, -, -, -, hsigM⟩ := zg_w_spec hwb hnamed
  have hstatic : methM.isStatic = true := Cond.static_spec hnamed hmethM (b1 _ hs args)
  obtain ⟨kP, hkP, -⟩ := className_of_methodNamed hnamed
  have hinitP : kP.init = .initialized := Cond.initialized_spec (findClass_of_methodNamed hnamed) hkP (b1 _ hm.2.1 args)
  rcases hl with hl | ⟨host, hl⟩
  · obtain ⟨vm₁, X₁, hstep₁⟩ := X.invokestatic hc.1 hc.2.2.2.2.1 (b1 _ hl args) hnamed hmethM hstatic hkP hinitP ⟨hm.2.2.1, hm.2.2.2.1⟩ (g := g) hg (argsL := av) (rest := rest) (hn.trans (hm.len hsigM)) hstack hdg'
    exact ⟨mk, vm₁, hnamed, X₁, fun target h => hstep₁ _ fun acts => by rw [doInvoke_state]; exact h⟩
  · obtain ⟨vm₁, X₁, hstep₁⟩ := X.invokestaticNest hc.1 hc.2.2.2.2.1 (b1 _ hl args) hnamed hmethM hstatic hkP hinitP ⟨hm.2.2.1, hm.2.2.2.1⟩ (g := g) hg (argsL := av) (rest := rest) (hn.trans (hm.len hsigM)) hstack hdg'
    exact ⟨mk, vm₁, hnamed, X₁, fun target h => hstep₁ _ fun acts => by rw [doInvoke_state]; exact h⟩
/-- virtual, on an object whose class is C -/
theorem zg_goV {M2 : zg_M} {n index : Nat} {p : Program} {e : Env} {R : Room} {s : State} {m : MethodId} {args : Array Value} {below : List Frame} {meth : Method} {c : Code} {T : State} {locs : List Loc} {cells slots : Nat}
    (X : Stand p l e R s m args below meth c T locs cells slots) (hc : zg_cx l E d M p R s m meth c) (hl : zg_lk E (zg_my M).cls index (zg_my M2)) (hm : zg_mth E M2 n) (hi : Cond.instanceMethod (zg_my M2) ∈ zg_ws E) (hse : Cond.selects (zg_my M2).cls (zg_my M2) (zg_my M2) ∈ zg_ws E)
    {b : Nat} {cellB : Cell} (hcell : T.heap[b]? = some cellB) (hobj : cellB.vm.isStatics = false) (hcls : s.vm.findClass (zg_my M2).cls = some cellB.cls)
    {g : JFrame} (hg : g.method = m) {av rest : List Value} (hn : av.length = n) (hstack : g.stack = av.reverse ++ .ref b :: rest) (hdg : decode (zg_cc M) g.pc = .ok (.invokevirtual index, 3)) :
    ∃ (mk : MethodId) (vm₁ : Vm), s.methodNamed? (zg_my M2) = some mk ∧ Stand p l e R s m args below meth c (T.setVm vm₁) locs cells slots ∧
      ∀ target, Steps p.tables e below (doInvoke e ((T.setVm vm₁).setTop { g with stack := rest }) [] mk (Value.ref b :: av).toArray).1 target → Steps p.tables e below (T.setTop g) target := by
  obtain ⟨b1, b2, b3⟩ := hc.2.2.2.2.2.2.2.1.here
  have hdg' : decode c.code g.pc = .ok (.invokevirtual index, 3) := by rw [hc.2.1]; exact hdg
  obtain ⟨mk, methM, hnamed, hmethM, hstM, habM⟩ := Cond.instanceMethod_spec (b1 _ hi args)
  obtain ⟨methM', cM, hmethM', -, -, -, -, -, -, hsigM⟩ := zg_w_spec (b1 _ hm.1 args) hnamed
  cases hmethM.symm.trans hmethM'
  have hy : (zg_my M2).cls ≠ "java/lang/invoke/MethodHandle" ∧ (zg_my M2).cls ≠ "java/lang/invoke/VarHandle" := ⟨hm.2.2.1, hm.2.2.2.1⟩
  obtain ⟨c2, r2, m2, q1, q2, q3, q4, kP, hkP, hkPi⟩ := Cond.selects_spec (b1 _ hse args)
  cases hcls.symm.trans q1
  cases (State.methodFound?_of_named hnamed hy).symm.trans q2
  cases hnamed.symm.trans q3
  have hselP : selectMethod e.platform s.vm cellB.cls mk = .method mk := by rw [Launch.admits_selectMethod X.admits]; exact q4
  rcases hl with hl | ⟨host, hl⟩
  · obtain ⟨vm₁, X₁, hstep₁⟩ := X.invokevirtual hc.1 hc.2.2.2.2.1 (b1 _ hl args) hnamed hmethM hstM hkP hkPi hy (a := b) (cell := cellB) hcell
      (fun z h => by rw [h] at hobj; cases hobj) hselP hmethM habM hkP hkPi (g := g) hg (argsL := av) (rest := rest) (hn.trans (hm.len hsigM)) hstack hdg'
    exact ⟨mk, vm₁, hnamed, X₁, fun target h => hstep₁ _ fun acts => by rw [doInvoke_state]; exact h⟩
  · obtain ⟨vm₁, X₁, hstep₁⟩ := X.invokevirtualNest hc.1 hc.2.2.2.2.1 (b1 _ hl args) hnamed hmethM hstM hkP hkPi hy (a := b) (cell := cellB) hcell
      (fun z h => by rw [h] at hobj; cases hobj) hselP hmethM habM hkP hkPi (g := g) hg (argsL := av) (rest := rest) (hn.trans (hm.len hsigM)) hstack hdg'
    exact ⟨mk, vm₁, hnamed, X₁, fun target h => hstep₁ _ fun acts => by rw [doInvoke_state]; exact h⟩
/-- a constructor -/
theorem zg_goI {M2 : zg_M} {n index : Nat} {p : Program} {e : Env} {R : Room} {s : State} {m : MethodId} {args : Array Value} {below : List Frame} {meth : Method} {c : Code} {T : State} {locs : List Loc} {cells slots : Nat}
    (X : Stand p l e R s m args below meth c T locs cells slots) (hc : zg_cx l E d M p R s m meth c) (hl : zg_lk E (zg_my M).cls index (zg_my M2)) (hm : zg_mth E M2 n) (hi : Cond.instanceMethod (zg_my M2) ∈ zg_ws E) (hnm : (zg_my M2).name = "<init>") (hrt : zg_rt M2 = none) (hhh : zg_hh M2 = [])
    {b : Nat} {g : JFrame} (hg : g.method = m) {av rest : List Value} (hn : av.length = n) (hstack : g.stack = av.reverse ++ .ref b :: rest) (hdg : decode (zg_cc M) g.pc = .ok (.invokespecial index, 3)) :
    ∃ (mk : MethodId) (vm₁ : Vm), s.methodNamed? (zg_my M2) = some mk ∧ Stand p l e R s m args below meth c (T.setVm vm₁) locs cells slots ∧
      ∀ target, Steps p.tables e below (doInvoke e ((T.setVm vm₁).setTop { g with stack := rest }) [] mk (Value.ref b :: av).toArray).1 target → Steps p.tables e below (T.setTop g) target := by
  obtain ⟨b1, b2, b3⟩ := hc.2.2.2.2.2.2.2.1.here
  subst hg
  have hdg' : decode c.code g.pc = .ok (.invokespecial index, 3) := by rw [hc.2.1]; exact hdg
  have hpl : e.platform.magicAccessors = ({} : Platform).magicAccessors := by rw [X.admits.platform]
  have hcode : (Cond.code (zg_my M2) (zg_cc M2) (zg_ml M2) none).before args s = true := by
    have h := b1 _ hm.1 args
    obtain ⟨y, cc, ml, rt, hh⟩ := M2
    have hhh : hh = [] := hhh
    have hrt : rt = none := hrt
    subst hhh hrt
    exact h
  have hy : (zg_my M2).cls ≠ "java/lang/invoke/MethodHandle" ∧ (zg_my M2).cls ≠ "java/lang/invoke/VarHandle" := ⟨hm.2.2.1, hm.2.2.2.1⟩
  rcases hl with hl | ⟨host, hl⟩
  · obtain ⟨mk, methM, cM, kP, vm₁, hnamed, hmethM, hcodeM, -, hlocalsM, -, hkP, -, hW₁, hstep₁⟩ := Steps.initColdArgs (e := e) X.here hc.1 X.warmed hpl hc.2.2.2.2.1 hnm hy (b1 _ hl args) (b1 _ hi args) hcode (f := g) rfl (fun sig h => hn.trans (hm.len h)) hstack hdg'
    exact ⟨mk, vm₁, hnamed, X.noted hW₁, fun target h => hstep₁ _ fun acts => by rw [doInvoke_state]; exact h⟩
  · obtain ⟨mk, methM, cM, kP, vm₁, hnamed, hmethM, hcodeM, -, hlocalsM, -, hkP, -, hW₁, hstep₁⟩ := Steps.initColdArgsNest (e := e) X.here hc.1 X.warmed hpl hc.2.2.2.2.1 hnm hy (b1 _ hl args) (b1 _ hi args) hcode (f := g) rfl (fun sig h => hn.trans (hm.len h)) hstack hdg'
    exact ⟨mk, vm₁, hnamed, X.noted hW₁, fun target h => hstep₁ _ fun acts => by rw [doInvoke_state]; exact h⟩
end ZG5
end
section
section ZG6
variable {l : Launch} {E : zg_E} {d : Nat} {M : zg_M} {pc : Nat} {lv : List (Nat × Value)} {st : List Value} {σ : zg_H} {r : zg_R}
/-- behind a call that returns -/
theorem zg_fin {M2 : zg_M} {v : Option Value} {σ2 : zg_H} {av rest : List Value} {n : Nat} (hC : zg_C l E d M2 av σ (.inl v, σ2)) (k : zg_G l E (d + 1) M (pc + 3) lv (v.toList ++ rest) σ2 r) (hm : zg_mth E M2 n) (hwt : (rest.map fun v => v.category).sum + zg_ml M2 ≤ 25)
    {p : Program} {e : Env} {R : Room} {s : State} {m : MethodId} {args : Array Value} {below : List Frame} {meth : Method} {c : Code} {H : Heap} {locs : List Loc} {cells slots : Nat} {ls : Array Slot} {u0 mc ms : Nat} (hm1 : mc ≤ R.cells) (hm2 : ms ≤ R.slots)
    (hc : zg_cx l E (d + 1) M p R s m meth c) (h1 : s.heap.size + cells = zg_sz σ) (h2 : u0 + slots = zg_us σ) (h3 : s.heap.size + mc = zg_sz r.2) (h4 : u0 + ms = zg_us r.2) (h5 : zg_rep E σ H) (h6 : ∀ q : Nat, q < zg_b E → H[q]? = s.heap[q]?) (h7 : ∀ x ∈ locs, zg_b E ≤ x.base) (h8 : lv_has ls (zg_ml M) lv)
    {T : State} {vm₁ : Vm} {mk : MethodId} (hT : T.heap = H) (X₁ : Stand p l e R s m args below meth c (T.setVm vm₁) locs cells slots) (hnamed : s.methodNamed? (zg_my M2) = some mk) {ig : Instr} (hdg : decode (zg_cc M) pc = .ok (ig, 3)) :
    ∃ t, Steps p.tables e below (doInvoke e ((T.setVm vm₁).setTop (F0 m pc ls rest)) [] mk av.toArray).1 t ∧ zg_end E below r args s mc ms t := by
  have hz : zg_sz σ ≤ zg_sz σ2 := hC.1
  have hu : zg_us σ ≤ zg_us σ2 := hC.2.1
  have k1 := k.1
  have k2 := k.2.1
  have hfr := hc.2.2.2.2.2.2.2.2.2.1
  have hlo := hc.2.2.2.2.2.2.2.2.2.2.1
  have henv : zg_env E (T.setVm vm₁) (T.setVm vm₁).heap := hc.2.2.2.2.2.2.2.1.to X₁.warmed (fun q hq => by show T.heap[q]? = _; rw [hT]; exact h6 q hq)
  have hrep : zg_rep E σ (T.setVm vm₁).heap := by show zg_rep E σ T.heap; rw [hT]; exact h5
  obtain ⟨T', L, X', hL, hr', ho', hst⟩ := zg_inv (r := (.inl v, σ2)) hC X₁ (g := F0 m pc ls rest) rfl (by rw [hc.2.2.1]; exact h8.1) (by rw [hc.2.1]; exact hdg) (by omega)
    (by show 2 * 0 + (rest.map fun v => v.category).sum + (zg_ml M2 + 11) + 36 * d ≤ R.locals; omega) (by show cells + (zg_sz σ2 - zg_sz σ) ≤ _; omega) (by show slots + (zg_us σ2 - zg_us σ) ≤ _; omega)
    (X₁.named hnamed) (fun a => henv.here.1 _ hm.1 a) (fun a => henv.here.1 _ hm.2.1 a) henv hrep
  obtain ⟨t, a1, b1⟩ := k.2.2 p e R s m args below meth c T'.heap (locs ++ L) (cells + (zg_sz σ2 - zg_sz σ)) (slots + (zg_us σ2 - zg_us σ)) ls u0 mc ms hm1 hm2 hc (by omega) (by omega) h3 h4 hr'
    (fun q hq => by rw [ho' q hq]; show T.heap[q]? = _; rw [hT]; exact h6 q hq) (fun x hx => (List.mem_append.mp hx).elim (h7 x) (hL x)) h8 T' rfl X'
  exact ⟨t, hst.trans a1, b1⟩
/-- a call that throws, and no row of the table covers it: out of the method -/
theorem zg_finT {M2 : zg_M} {x : Nat × String} {σ2 : zg_H} {av rest : List Value} {n : Nat} (hC : zg_C l E d M2 av σ (.inr x, σ2)) (hm : zg_mth E M2 n) (hwt : (rest.map fun v => v.category).sum + zg_ml M2 ≤ 25) (hcov : ∀ h ∈ zg_hh M, (decide (h.1 ≤ pc) && decide (pc < h.2.1)) = false) (hr : r = (.inr x, σ2))
    {p : Program} {e : Env} {R : Room} {s : State} {m : MethodId} {args : Array Value} {below : List Frame} {meth : Method} {c : Code} {H : Heap} {locs : List Loc} {cells slots : Nat} {ls : Array Slot} {u0 mc ms : Nat} (hm1 : mc ≤ R.cells) (hm2 : ms ≤ R.slots)
    (hc : zg_cx l E (d + 1) M p R s m meth c) (h1 : s.heap.size + cells = zg_sz σ) (h2 : u0 + slots = zg_us σ) (h3 : s.heap.size + mc = zg_sz r.2) (h4 : u0 + ms = zg_us r.2) (h5 : zg_rep E σ H) (h6 : ∀ q : Nat, q < zg_b E → H[q]? = s.heap[q]?) (h7 : ∀ x ∈ locs, zg_b E ≤ x.base) (h8 : lv_has ls (zg_ml M) lv)
    {T : State} {vm₁ : Vm} {mk : MethodId} (hT : T.heap = H) (X₁ : Stand p l e R s m args below meth c (T.setVm vm₁) locs cells slots) (hnamed : s.methodNamed? (zg_my M2) = some mk) {ig : Instr} (hdg : decode (zg_cc M) pc = .ok (ig, 3)) :
    ∃ t, Steps p.tables e below (doInvoke e ((T.setVm vm₁).setTop (F0 m pc ls rest)) [] mk av.toArray).1 t ∧ zg_end E below r args s mc ms t := by
  subst hr
  have hz : zg_sz σ ≤ zg_sz σ2 := hC.1
  have hu : zg_us σ ≤ zg_us σ2 := hC.2.1
  have h3 : s.heap.size + mc = zg_sz σ2 := h3
  have h4 : u0 + ms = zg_us σ2 := h4
  have hfr := hc.2.2.2.2.2.2.2.2.2.1
  have hlo := hc.2.2.2.2.2.2.2.2.2.2.1
  have henv : zg_env E (T.setVm vm₁) (T.setVm vm₁).heap := hc.2.2.2.2.2.2.2.1.to X₁.warmed (fun q hq => by show T.heap[q]? = _; rw [hT]; exact h6 q hq)
  have hrep : zg_rep E σ (T.setVm vm₁).heap := by show zg_rep E σ T.heap; rw [hT]; exact h5
  obtain ⟨T', L, X', hL, hr', ho', ⟨cell, hc1, hc2, hc3⟩, hst⟩ := zg_inv (r := (.inr x, σ2)) hC X₁ (g := F0 m pc ls rest) rfl (by rw [hc.2.2.1]; exact h8.1) (by rw [hc.2.1]; exact hdg) (by omega)
    (by show 2 * 0 + (rest.map fun v => v.category).sum + (zg_ml M2 + 11) + 36 * d ≤ R.locals; omega) (by show cells + (zg_sz σ2 - zg_sz σ) ≤ _; omega) (by show slots + (zg_us σ2 - zg_us σ) ≤ _; omega)
    (X₁.named hnamed) (fun a => henv.here.1 _ hm.1 a) (fun a => henv.here.1 _ hm.2.1 a) henv hrep
  have hout : ∀ y ∈ c.exceptionTable.toList, covers y (F0 m pc ls rest).pc = false := by
    intro y hy
    exact hcov (y.startPc, y.endPc, y.handlerPc, y.catchType) (by rw [← hc.2.2.2.2.2.2.2.2.2.2.2]; exact List.mem_map.mpr ⟨y, hy, rfl⟩)
  obtain ⟨hwalk, hrun, hended, hWU, hsame⟩ := X'.leaveThrown x.1 (g := F0 m pc ls rest) rfl rfl rfl hout hc.2.2.2.2.2.1
  have e1 : cells + (zg_sz σ2 - zg_sz σ) = mc := by omega
  have e2 : slots + (zg_us σ2 - zg_us σ) = ms := by omega
  rw [show cells + (zg_sz ((Sum.inr x, σ2) : zg_R).2 - zg_sz σ) = mc from e1, show slots + (zg_us ((Sum.inr x, σ2) : zg_R).2 - zg_us σ) = ms from e2] at hsame
  refine ⟨_, hst.trans hwalk, .threw x.1, hrun, hended, ⟨hr', fun q hq => ?_, rfl, cell, hc1, hc2, ?_⟩, locs ++ L, ⟨hWU, hsame⟩, fun q hq => (List.mem_append.mp hq).elim (h7 q) (hL q)⟩
  · show T'.heap[q]? = _
    rw [ho' q hq]; show T.heap[q]? = _; rw [hT]; exact h6 q hq
  · rw [← X₁.warmed.alike.findClass]; exact hc3
theorem zg_callS {M2 : zg_M} {n index : Nat} {v : Option Value} {σ2 : zg_H} {av rest : List Value} (hdg : decode (zg_cc M) pc = .ok (.invokestatic index, 3)) (hl : zg_lk E (zg_my M).cls index (zg_my M2)) (hm : zg_mth E M2 n) (hs : Cond.static (zg_my M2) ∈ zg_ws E) (hn : av.length = n) (hst : st = av.reverse ++ rest) (hwt : (rest.map fun v => v.category).sum + zg_ml M2 ≤ 25)
    (hC : zg_C l E d M2 av σ (.inl v, σ2)) (k : zg_G l E (d + 1) M (pc + 3) lv (v.toList ++ rest) σ2 r) : zg_G l E (d + 1) M pc lv st σ r := by
  subst hst
  refine ⟨Nat.le_trans hC.1 k.1, Nat.le_trans hC.2.1 k.2.1, ?_⟩
  intro p e R s m args below meth c H locs cells slots ls u0 mc ms hm1 hm2 hc h1 h2 h3 h4 h5 h6 h7 h8 T hT X
  obtain ⟨mk, vm₁, hnamed, X₁, go⟩ := zg_goS X hc hl hm hs (g := F0 m pc ls (av.reverse ++ rest)) rfl hn rfl hdg
  obtain ⟨t, a1, b1⟩ := zg_fin hC k hm hwt hm1 hm2 hc h1 h2 h3 h4 h5 h6 h7 h8 hT X₁ hnamed hdg
  exact ⟨t, go t a1, b1⟩
theorem zg_callST {M2 : zg_M} {n index : Nat} {x : Nat × String} {σ2 : zg_H} {av rest : List Value} (hdg : decode (zg_cc M) pc = .ok (.invokestatic index, 3)) (hl : zg_lk E (zg_my M).cls index (zg_my M2)) (hm : zg_mth E M2 n) (hs : Cond.static (zg_my M2) ∈ zg_ws E) (hn : av.length = n) (hst : st = av.reverse ++ rest) (hwt : (rest.map fun v => v.category).sum + zg_ml M2 ≤ 25)
    (hC : zg_C l E d M2 av σ (.inr x, σ2)) (hcov : ∀ h ∈ zg_hh M, (decide (h.1 ≤ pc) && decide (pc < h.2.1)) = false) (hr : r = (.inr x, σ2)) : zg_G l E (d + 1) M pc lv st σ r := by
  subst hst
  refine ⟨by rw [hr]; exact hC.1, by rw [hr]; exact hC.2.1, ?_⟩
  intro p e R s m args below meth c H locs cells slots ls u0 mc ms hm1 hm2 hc h1 h2 h3 h4 h5 h6 h7 h8 T hT X
  obtain ⟨mk, vm₁, hnamed, X₁, go⟩ := zg_goS X hc hl hm hs (g := F0 m pc ls (av.reverse ++ rest)) rfl hn rfl hdg
  obtain ⟨t, a1, b1⟩ := zg_finT hC hm hwt hcov hr hm1 hm2 hc h1 h2 h3 h4 h5 h6 h7 h8 hT X₁ hnamed hdg
  exact ⟨t, go t a1, b1⟩
theorem zg_recv {ci b : Nat} {q : vw_C} {fs : List Value} {H : Heap} {s : State} (hK : va_K (zg_D E) (zg_cl E) (zg_ty E) s) (h5 : zg_rep E σ H) (hσ : σ.1 b = some (.inr (ci, fs))) (hq : (zg_cl E)[ci]? = some q) : ∃ cell : Cell, H[b]? = some cell ∧ cell.vm.isStatics = false ∧ s.vm.findClass q.1 = some cell.cls :=
  va_recv (ws := [(b, .inr (ci, fs))]) (q0 := 0) hK (zg_one (h5.2.2 b _ hσ).1) hq rfl
theorem zg_callV {M2 : zg_M} {n index ci b : Nat} {q : vw_C} {fs : List Value} {v : Option Value} {σ2 : zg_H} {av rest : List Value} (hdg : decode (zg_cc M) pc = .ok (.invokevirtual index, 3)) (hl : zg_lk E (zg_my M).cls index (zg_my M2)) (hm : zg_mth E M2 n) (hi : Cond.instanceMethod (zg_my M2) ∈ zg_ws E) (hse : Cond.selects (zg_my M2).cls (zg_my M2) (zg_my M2) ∈ zg_ws E)
    (hσ : σ.1 b = some (.inr (ci, fs))) (hq : (zg_cl E)[ci]? = some q) (hqc : q.1 = (zg_my M2).cls) (hn : av.length = n) (hst : st = av.reverse ++ .ref b :: rest) (hwt : (rest.map fun v => v.category).sum + zg_ml M2 ≤ 25)
    (hC : zg_C l E d M2 (.ref b :: av) σ (.inl v, σ2)) (k : zg_G l E (d + 1) M (pc + 3) lv (v.toList ++ rest) σ2 r) : zg_G l E (d + 1) M pc lv st σ r := by
  subst hst
  refine ⟨Nat.le_trans hC.1 k.1, Nat.le_trans hC.2.1 k.2.1, ?_⟩
  intro p e R s m args below meth c H locs cells slots ls u0 mc ms hm1 hm2 hc h1 h2 h3 h4 h5 h6 h7 h8 T hT X
  obtain ⟨cellB, g1, g2, g3⟩ := zg_recv (s := s) hc.2.2.2.2.2.2.2.1.here.2.1 h5 hσ hq
  obtain ⟨mk, vm₁, hnamed, X₁, go⟩ := zg_goV X hc hl hm hi hse (b := b) (by rw [hT]; exact g1) g2 (by rw [← hqc]; exact g3) (g := F0 m pc ls (av.reverse ++ .ref b :: rest)) rfl hn rfl hdg
  obtain ⟨t, a1, b1⟩ := zg_fin hC k hm hwt hm1 hm2 hc h1 h2 h3 h4 h5 h6 h7 h8 hT X₁ hnamed hdg
  exact ⟨t, go t a1, b1⟩
theorem zg_callI {M2 : zg_M} {n index b : Nat} {v : Option Value} {σ2 : zg_H} {av rest : List Value} (hdg : decode (zg_cc M) pc = .ok (.invokespecial index, 3)) (hl : zg_lk E (zg_my M).cls index (zg_my M2)) (hm : zg_mth E M2 n) (hi : Cond.instanceMethod (zg_my M2) ∈ zg_ws E) (hnm : (zg_my M2).name = "<init>") (hrt : zg_rt M2 = none) (hhh : zg_hh M2 = [])
    (hn : av.length = n) (hst : st = av.reverse ++ .ref b :: rest) (hwt : (rest.map fun v => v.category).sum + zg_ml M2 ≤ 25)
    (hC : zg_C l E d M2 (.ref b :: av) σ (.inl v, σ2)) (k : zg_G l E (d + 1) M (pc + 3) lv (v.toList ++ rest) σ2 r) : zg_G l E (d + 1) M pc lv st σ r := by
  subst hst
  refine ⟨Nat.le_trans hC.1 k.1, Nat.le_trans hC.2.1 k.2.1, ?_⟩
  intro p e R s m args below meth c H locs cells slots ls u0 mc ms hm1 hm2 hc h1 h2 h3 h4 h5 h6 h7 h8 T hT X
  obtain ⟨mk, vm₁, hnamed, X₁, go⟩ := zg_goI X hc hl hm hi hnm hrt hhh (b := b) (g := F0 m pc ls (av.reverse ++ .ref b :: rest)) rfl hn rfl hdg
  obtain ⟨t, a1, b1⟩ := zg_fin hC k hm hwt hm1 hm2 hc h1 h2 h3 h4 h5 h6 h7 h8 hT X₁ hnamed hdg
  exact ⟨t, go t a1, b1⟩
end ZG6
section ZG7
variable {l : Launch} {E : zg_E} {d : Nat} {M : zg_M} {pc : Nat} {lv : List (Nat × Value)} {st : List Value} {σ : zg_H} {r : zg_R}
/-- the same invocation, as if it had begun with the heap of now -/
theorem zg_restart {p : Program} {e : Env} {R : Room} {s : State} {m : MethodId} {args : Array Value} {below : List Frame} {meth : Method} {c : Code} {T : State} {locs : List Loc} {cells slots : Nat} (X : Stand p l e R s m args below meth c T locs cells slots) (hce : cells ≤ R.cells) (hsl : slots ≤ R.slots) :
    Stand p l e { frames := R.frames, cells := R.cells - cells, slots := R.slots - slots, locals := R.locals } (T.setFrames (.invoking m args :: below)) m args below meth c T [] 0 0 := by
  obtain ⟨g₀, hfr⟩ := X.frames_eq
  have hcur : T.cur < T.threads.size := State.cur_lt_of_frames hfr
  have hF : (T.setFrames (.invoking m args :: below)).frames = .invoking m args :: below := State.frames_setFrames _ hcur
  have hlu : (T.setFrames (.invoking m args :: below)).localsInUse = s.localsInUse := by
    rw [State.localsInUse_invoking hF (show (T.setFrames (.invoking m args :: below)).vm.method? m = some meth from X.method') X.code, State.localsInUse_invoking X.frames X.method X.code]
  refine ⟨X.admits, X.cas, X.clock, hF, ?_, ?_, X.method', X.code, X.here, X.tail, State.WarmedH.refl _, by rw [State.stackLimits_setFrames], by rw [State.stackBytes_setFrames], ?_⟩
  · have hr := X.room
    have hz := X.heapSize
    have hu := X.used
    have hbk := X.book
    simp only [State.hasRoom, Bool.and_eq_true, decide_eq_true_eq] at hr ⊢
    rw [X.frames] at hr
    rw [hlu, hF, State.stackLimits_setFrames, State.stackBytes_setFrames, X.limits, X.bytes]
    refine ⟨⟨⟨⟨hr.1.1.1.1, hr.1.1.1.2⟩, ?_⟩, ?_⟩, hbk⟩
    · have := hr.1.1.2
      show T.heap.size + (R.cells - cells) ≤ _
      omega
    · have := hr.1.2
      show T.slotsUsed + (R.slots - slots) ≤ _
      omega
  · have h1 := X.hears
    rcases below with _ | ⟨y, rest⟩
    · simp only [State.hears] at h1 ⊢
      show (T.vm.method? m).any _ = true
      rw [X.warmed.alike.method?]; exact h1
    · cases y <;> simp only [State.hears, State.code?_eq] at h1 ⊢ <;> first | exact h1 | (show ((T.vm.method? _).bind _ |>.bind _).isSome = true; rw [X.warmed.alike.method?]; exact h1) | (show (T.vm.method? m).any _ = true; rw [X.warmed.alike.method?]; exact h1)
  · obtain ⟨t, ht, -⟩ := State.frames_cons hF
    have h := (State.sameButNew.refl (T.setFrames (.invoking m args :: below)) ht).setFrames T.frames (show (T.setFrames (.invoking m args :: below)).cur < _ from State.cur_lt_of_frames hF)
    obtain ⟨t2, ht2, -⟩ := State.frames_cons hfr
    rw [State.setFrames_setFrames, State.setFrames_self ht2] at h
    exact h
/-- new X("..") is made and thrown; no row of the table covers it -/
theorem zg_throw {X tx : String} {names : List String} {ia ib ic q : Nat} (htr : l.stackTraces = false) (hd : 6 ≤ d) (hnl : names.length ≤ 2) (hst : (st.map fun v => v.category).sum ≤ 8)
    (d1 : decode (zg_cc M) pc = .ok (.new ia, 3)) (d2 : decode (zg_cc M) (pc + 3) = .ok (.dup, 1)) (d3 : decode (zg_cc M) (pc + 4) = .ok (.ldc ib, 2)) (d4 : decode (zg_cc M) (pc + 6) = .ok (.invokespecial ic, 3)) (d5 : decode (zg_cc M) (pc + 9) = .ok (.athrow, 1))
    (hcl : Cond.classLink (zg_my M).cls ia X ∈ zg_ws E) (hini : Cond.initialized X ∈ zg_ws E) (hstr : ∀ U H, zg_x E U H → vk_R (zg_my M).cls ib tx q U) (hfit : Bundle.fit X = true) (hfits : ∀ n ∈ names, Bundle.fit n = true)
    (hat : ∀ a ∈ Bundle.ownAtoms (zg_my M).cls ic X names, a ∈ zg_ws E) (hcov : ∀ h ∈ zg_hh M, (decide (h.1 ≤ pc + 9) && decide (pc + 9 < h.2.1)) = false)
    (hr : r = (.inr (zg_sz σ, X), (σ.1, zg_sz σ + 1, zg_us σ + 6))) : zg_G l E d M pc lv st σ r := by
  subst hr
  refine ⟨by show zg_sz σ ≤ zg_sz σ + 1; omega, by show zg_us σ ≤ zg_us σ + 6; omega, ?_⟩
  intro p e R s m args below meth c H locs cells slots ls u0 mc ms hm1 hm2 hc h1 h2 h3 h4 h5 h6 h7 h8 T hT X1
  have h3 : s.heap.size + mc = zg_sz σ + 1 := h3
  have h4 : u0 + ms = zg_us σ + 6 := h4
  have hTz : T.heap.size = zg_sz σ := by rw [hT]; exact h5.1
  have hfr := hc.2.2.2.2.2.2.2.2.2.1
  have hlo := hc.2.2.2.2.2.2.2.2.2.2.1
  have X0 := zg_restart X1 (by omega) (by omega)
  obtain ⟨s', hs'⟩ : ∃ s', s' = T.setFrames (.invoking m args :: below) := ⟨_, rfl⟩
  rw [← hs'] at X0
  have hh : s'.heap = T.heap := by rw [hs']; rfl
  have hvm : s'.vm = T.vm := by rw [hs']; rfl
  have henv : zg_env E s' s'.heap := hc.2.2.2.2.2.2.2.1.to (by rw [hvm]; exact X1.warmed) (fun q hq => by rw [hh, hT]; exact h6 q hq)
  obtain ⟨b1, b2, b3⟩ := henv.here
  have hts : ∀ w ∈ zg_ws E, w.before args s' = true := fun w hw => b1 w hw args
  have hown : s'.vm.findClass (zg_my M).cls = some m.cls := by rw [hvm, X1.warmed.alike.findClass]; exact hc.2.2.2.2.1
  have hout : ∀ y ∈ c.exceptionTable.toList, covers y (pc + 6 + 3) = false := by
    intro y hy
    exact hcov (y.startPc, y.endPc, y.handlerPc, y.catchType) (by rw [← hc.2.2.2.2.2.2.2.2.2.2.2]; exact List.mem_map.mpr ⟨y, hy, rfl⟩)
  have hins : Cond.instantiable X 6 ∈ zg_ws E := hat _ (by simp [Bundle.ownAtoms])
  have key : W p l e { frames := R.frames, cells := R.cells - cells, slots := R.slots - slots, locals := R.locals } s' m args below meth c T.heap [] 0 0
      (fun t => t.status = .running ∧ Ended t below (.threw T.heap.size) ∧ s'.WarmedH t.vm ∧ s'.sameButNew ({ t with vm := s'.vm } : State) [] 1 6 ∧ ∃ cell : Cell, t.heap[T.heap.size]? = some cell ∧ cell.vm.isStatics = false ∧ s'.vm.findClass X = some cell.cls) (F0 m pc ls st) := by
    obtain ⟨cX, kX, hfc, hkX, -⟩ := Cond.instantiable_spec (hts _ hins)
    refine W.newcK hc.1 hc.2.1 hown (hts _ hcl) (hts _ hins) (hts _ hini) rfl d1 (by show 0 + 1 ≤ R.cells - cells; omega) (by show 0 + 6 ≤ R.slots - slots; omega) hfc rfl fun H1 kC hkC e1 z1 o1 => ?_
    refine lv_dup hc.1 hc.2.1 d2 rfl ?_
    refine va_ldcS hc.1 hc.2.1 hown (hstr _ _ b3) d3 ?_
    intro T1 hT1 X2
    obtain ⟨U, st1, st2, st3, st4, st5, ce, hce, hO⟩ := X2.ctorThrowS hc.1 (by rw [X2.admits.platform]; exact htr) hown hfit hfits (fun a ha => hts a (hat a ha)) (fun x hx => by cases hx) hfc hkC (a := T.heap.size) (by rw [hT1]; exact e1) (by rw [hh]; exact Nat.le_refl _) (msg := .ref q) rfl
      (g := F0 m (pc + 6) ls (.ref q :: .ref T.heap.size :: .ref T.heap.size :: st)) rfl (by rw [hc.2.2.1]; exact h8.1) rfl rfl rfl (by rw [hc.2.1]; exact d4) (by rw [hc.2.1]; exact d5) hout (by show names.length + 3 < R.frames; omega)
      (by show 2 * 0 + (1 + (st.map fun v => v.category).sum) + (13 * (names.length + 1) + 42) ≤ R.locals; omega) hc.2.2.2.2.2.1
    exact ⟨U, st1, st2, st3, st4, by simpa using st5, ce, hce, by rw [hO.vm]; rfl, hO.cls⟩
  obtain ⟨t, a1, g1, g2, g3, g4, cell, g5, g6, g7⟩ := key T rfl X0
  have hold : ∀ (q : Nat) (cl : Cell), T.heap[q]? = some cl → t.heap[q]? = some cl := fun q cl hq => State.sameButNew.old_cell g4 (by rw [hh]; exact hq)
  have hold2 : ∀ q : Nat, q < T.heap.size → t.heap[q]? = T.heap[q]? := fun q hq => by
    rw [Array.getElem?_eq_getElem hq]
    exact hold q _ (Array.getElem?_eq_getElem hq)
  have hsz : t.heap.size = zg_sz σ + 1 := by
    have u1 : t.heap.size ≤ s'.heap.size + 1 := g4.2.2.1
    have u2 := (Array.getElem?_eq_some_iff.mp g5).1
    rw [hh] at u1
    omega
  have hsame : T.sameButNew ({ t with vm := s'.vm } : State) [] 1 6 := by
    obtain ⟨e1, e2⟩ := g4
    refine ⟨?_, ?_⟩
    · rw [hs', State.setFrames_setFrames] at e1
      rw [hs']
      exact e1
    · rw [hh] at e2
      have hus : s'.slotsUsed = T.slotsUsed := by rw [hs']; rfl
      rw [hus] at e2
      exact e2
  have hS := X1.same.trans (hsame.setVm s.vm)
  rw [List.append_nil] at hS
  have em : cells + 1 = mc := by omega
  have es : slots + 6 = ms := by omega
  rw [em, es] at hS
  have hW : s.WarmedH t.vm := State.WarmedH.trans X1.warmed (show T.WarmedH t.vm by
    have := g3
    rw [hs'] at this
    exact this)
  rw [hTz] at g2 g5
  refine ⟨t, a1, .threw (zg_sz σ), g1, g2, ⟨⟨hsz, by have := h5.2.1; have := h5.1; omega, fun a e9 he9 => ?_⟩, fun q hq => ?_, rfl, cell, g5, g6, ?_⟩, locs, ⟨hW, hS⟩, h7⟩
  · have h9 := h5.2.2 a e9 he9
    refine ⟨h9.1.kept ?_, h9.2⟩
    rw [hold2 a (by rw [hT]; exact h9.1.lt), hT]
  · rw [hold2 q (by rw [hT]; exact Nat.lt_of_lt_of_le hq h5.2.1), hT]
    exact h6 q hq
  · rw [hvm, X1.warmed.alike.findClass] at g7
    exact g7
end ZG7
section ZG8
variable {l : Launch} {E : zg_E} {d : Nat} {M : zg_M} {pc : Nat} {lv : List (Nat × Value)} {st : List Value} {σ : zg_H} {r : zg_R}
/-- the first row of the table that takes an X thrown at pc leads to hp -/
def zg_catch (E : zg_E) (own X : String) (pc hp : Nat) : List (Nat × Nat × Nat × Nat) → Prop
  | [] => False
  | h :: t => (decide (h.1 ≤ pc) && decide (pc < h.2.1)) = true ∧ h.2.2.2 ≠ 0 ∧ ∃ Y : String, Cond.classLink own h.2.2.2 Y ∈ zg_ws E ∧
      ((Cond.castable X Y ∈ zg_ws E ∧ h.2.2.1 = hp) ∨ ((∀ U H, zg_x E U H → va_Nc X Y U) ∧ zg_catch E own X pc hp t))
theorem zg_go_cold {EE : CtlPost} {e : Env} {dd : Bool} {acts : List Action} {s : State} {f : JFrame} {a : Addr} {Q : Handler → Pre} {x : ExceptionTableEntry} {t : List ExceptionTableEntry} {cY : ClassId} {vm' : Vm} {cell : Cell} (hx : covers x f.pc = true) (h0 : x.catchType ≠ 0)
    (hg : (Jvm.resolveClass f.method.cls x.catchType).Gives e.toSetting s.vm (.ok cY) vm') (hsz : vm'.classes.size ≤ s.vm.classes.size) (hcell : s.heap[a]? = some cell) (hobj : ∀ k, cell.vm ≠ .statics k) (hk : ∃ k, vm'.classes[cell.cls]? = some k) (hc : ∃ k, vm'.classes[cY]? = some k) :
    wp (findHandler.go f a (x :: t)) Q EE e dd acts s ↔ if vm'.assignable cell.cls cY = true then Q (.found x.handlerPc) dd acts (s.setVm vm') else wp (findHandler.go f a t) Q EE e dd acts (s.setVm vm') := by
  simp only [covers] at hx
  obtain ⟨ha, ht⟩ := hg.op (op := VmOp.resolveClass f.method.cls x.catchType) rfl
  cases hfit : vm'.assignable cell.cls cY <;>
    simp [findHandler.go, hx, h0, ha, ht, hsz, hcell, hobj, hk, hc, hfit, VmOp.dirties, VmOp.acts]
theorem zg_search {e : Env} {s : State} (hpl : e.platform.magicAccessors = ({} : Platform).magicAccessors) {own X : String} {f : JFrame} {a : Addr} {cell : Cell} {args : Array Value} (hown : s.vm.findClass own = some f.method.cls) (hws : ∀ w ∈ zg_ws E, w.before args s = true) {Hx : Heap} (hxx : zg_x E s Hx)
    (hX : s.vm.findClass X = some cell.cls) (hobj : cell.vm.isStatics = false) {hp : Nat} :
    ∀ (es : List ExceptionTableEntry), zg_catch E own X f.pc hp (es.map (fun h => (h.startPc, h.endPc, h.handlerPc, h.catchType))) → ∀ (T : State), s.WarmedH T.vm → T.heap[a]? = some cell →
      ∃ vm' : Vm, s.WarmedH vm' ∧ ∀ (Q : Handler → Pre) (EE : CtlPost) (dd : Bool) (acts : List Action), wp (findHandler.go f a es) Q EE e dd acts T ↔ Q (.found hp) dd acts (T.setVm vm') := by
  intro es
  induction es with
  | nil => intro h; exact absurd h id
  | cons x t ih =>
    intro h T hW hcell
    obtain ⟨hx, h0, Y, hY, hor⟩ := h
    obtain ⟨cY, hcY, hcl⟩ := Cond.classLink_spec hown (hws _ hY) e.platform hpl
    obtain ⟨hg, hW1, -⟩ := State.classEntry (e := e) hW hcl
    generalize T.vm.noted f.method.cls x.catchType (.cls cY) = vm1 at hg hW1
    have hsz : vm1.classes.size ≤ T.vm.classes.size := by rw [hW1.2.1, hW.2.1]; exact Nat.le_refl _
    have hkX : ∃ k, vm1.classes[cell.cls]? = some k := Vm.classAt_of_findClass (name := X) (by rw [hW1.alike.findClass]; exact hX)
    have hkY : ∃ k, vm1.classes[cY]? = some k := Vm.classAt_of_findClass (name := Y) (by rw [hW1.alike.findClass]; exact hcY)
    rcases hor with ⟨hy, rfl⟩ | ⟨hn, hr⟩
    · obtain ⟨c3, t3, w1, w2, w3⟩ := Cond.castable_spec (hws _ hy)
      cases hX.symm.trans w1
      cases hcY.symm.trans w2
      refine ⟨vm1, hW1, fun Q EE dd acts => ?_⟩
      rw [zg_go_cold hx h0 hg hsz hcell (VmData.ne_statics_of hobj) hkX hkY, if_pos (by rw [hW1.alike.assignable]; exact w3)]
    · obtain ⟨c3, t3, w1, w2, w3⟩ := hn s Hx hxx
      cases hX.symm.trans w1
      cases hcY.symm.trans w2
      obtain ⟨vm2, hW2, hgo⟩ := ih hr (T.setVm vm1) hW1 hcell
      refine ⟨vm2, hW2, fun Q EE dd acts => ?_⟩
      rw [zg_go_cold hx h0 hg hsz hcell (VmData.ne_statics_of hobj) hkX hkY, if_neg (by rw [hW1.alike.assignable, w3]; decide)]
      exact hgo Q EE dd acts
theorem zg_stepCatch {e : Env} {s : State} {a : Addr} {f : JFrame} {fr : List Frame} {hp : Nat} {vm' : Vm} (hfind : ∀ (Q : Handler → Pre) (EE : CtlPost) (dd : Bool) (acts : List Action), wp (findHandler f a) Q EE e dd acts s ↔ Q (.found hp) dd acts (s.setVm vm')) :
    (stepThrowing e s a (.java f :: fr)).Is ((s.setVm vm').setFrames (.java { f with pc := hp, stack := [.ref a] } :: fr)) [] := by
  simp only [stepThrowing, searchFrame, vmDo]
  generalize hr : Sem.go _ e false [] s = res
  obtain ⟨as, rfl, ha⟩ := Sem.eq_ok_of hr (a := Handler.found hp) (s' := s.setVm vm') (acts' := []) (by simp [hfind _ _ _ _])
  exact ⟨rfl, ha⟩
theorem zg_caught {tb : Tables} {e : Env} {T target : State} {g : JFrame} {c : Code} {below : List Frame} {a : Addr} {vm' : Vm} (h : At T g.method c below) {hp : Nat}
    (hfind : ∀ (Q : Handler → Pre) (EE : CtlPost) (dd : Bool) (acts : List Action), wp (findHandler g a) Q EE e dd acts ((T.setTop g).pushFrame (.throwing a)) ↔ Q (.found hp) dd acts (((T.setTop g).pushFrame (.throwing a)).setVm vm'))
    (hrest : Steps tb e below ((T.setVm vm').setTop { g with pc := hp, stack := [.ref a] }) target) : Steps tb e below ((T.setTop g).pushFrame (.throwing a)) target := by
  obtain ⟨hgo, hw⟩ := h.throwing a
  refine Steps.head hgo hw ?_
  rw [stepThread_throwing (frames_entered h.top _), (zg_stepCatch (s := (T.setTop g).pushFrame (.throwing a)) hfind).1]
  obtain ⟨g₀, hg⟩ := Option.isSome_iff_exists.mp h.top
  obtain ⟨fr, hr⟩ := State.topJava?_eq_some.mp hg
  have hr' : (T.setVm vm').frames = .java g₀ :: fr := hr
  rw [State.setTop_of_frames _ hr'] at hrest
  rw [State.pushFrame, State.setTop_of_frames _ hr, State.setFrames_setFrames, hr]
  show Steps tb e below (((T.setVm vm').setFrames (.throwing a :: (T.setFrames (.java g :: fr)).frames)).setFrames (.java { g with pc := hp, stack := [.ref a] } :: fr)) target
  rw [State.setFrames_setFrames]
  exact hrest
/-- a call that throws an X, and a row of the table takes it -/
theorem zg_finC {M2 : zg_M} {x : Nat × String} {σ2 : zg_H} {av rest : List Value} {n hp : Nat} (hC : zg_C l E d M2 av σ (.inr x, σ2)) (k : zg_G l E (d + 1) M hp lv [.ref x.1] σ2 r) (hm : zg_mth E M2 n) (hwt : (rest.map fun v => v.category).sum + zg_ml M2 ≤ 25) (hca : zg_catch E (zg_my M).cls x.2 pc hp (zg_hh M))
    {p : Program} {e : Env} {R : Room} {s : State} {m : MethodId} {args : Array Value} {below : List Frame} {meth : Method} {c : Code} {H : Heap} {locs : List Loc} {cells slots : Nat} {ls : Array Slot} {u0 mc ms : Nat} (hm1 : mc ≤ R.cells) (hm2 : ms ≤ R.slots)
    (hc : zg_cx l E (d + 1) M p R s m meth c) (h1 : s.heap.size + cells = zg_sz σ) (h2 : u0 + slots = zg_us σ) (h3 : s.heap.size + mc = zg_sz r.2) (h4 : u0 + ms = zg_us r.2) (h5 : zg_rep E σ H) (h6 : ∀ q : Nat, q < zg_b E → H[q]? = s.heap[q]?) (h7 : ∀ x ∈ locs, zg_b E ≤ x.base) (h8 : lv_has ls (zg_ml M) lv)
    {T : State} {vm₁ : Vm} {mk : MethodId} (hT : T.heap = H) (X₁ : Stand p l e R s m args below meth c (T.setVm vm₁) locs cells slots) (hnamed : s.methodNamed? (zg_my M2) = some mk) {ig : Instr} (hdg : decode (zg_cc M) pc = .ok (ig, 3)) :
    ∃ t, Steps p.tables e below (doInvoke e ((T.setVm vm₁).setTop (F0 m pc ls rest)) [] mk av.toArray).1 t ∧ zg_end E below r args s mc ms t := by
  have hz : zg_sz σ ≤ zg_sz σ2 := hC.1
  have hu : zg_us σ ≤ zg_us σ2 := hC.2.1
  have k1 := k.1
  have k2 := k.2.1
  have hfr := hc.2.2.2.2.2.2.2.2.2.1
  have hlo := hc.2.2.2.2.2.2.2.2.2.2.1
  have henv : zg_env E (T.setVm vm₁) (T.setVm vm₁).heap := hc.2.2.2.2.2.2.2.1.to X₁.warmed (fun q hq => by show T.heap[q]? = _; rw [hT]; exact h6 q hq)
  have hrep : zg_rep E σ (T.setVm vm₁).heap := by show zg_rep E σ T.heap; rw [hT]; exact h5
  obtain ⟨T', L, X', hL, hr', ho', ⟨cell, hc1, hc2, hc3⟩, hst⟩ := zg_inv (r := (.inr x, σ2)) hC X₁ (g := F0 m pc ls rest) rfl (by rw [hc.2.2.1]; exact h8.1) (by rw [hc.2.1]; exact hdg) (by omega)
    (by show 2 * 0 + (rest.map fun v => v.category).sum + (zg_ml M2 + 11) + 36 * d ≤ R.locals; omega) (by show cells + (zg_sz σ2 - zg_sz σ) ≤ _; omega) (by show slots + (zg_us σ2 - zg_us σ) ≤ _; omega)
    (X₁.named hnamed) (fun a => henv.here.1 _ hm.1 a) (fun a => henv.here.1 _ hm.2.1 a) henv hrep
  have hpl : e.platform.magicAccessors = ({} : Platform).magicAccessors := by rw [X'.admits.platform]
  have hX : s.vm.findClass x.2 = some cell.cls := by rw [← X₁.warmed.alike.findClass]; exact hc3
  obtain ⟨vm2, hW2, hfind⟩ := zg_search (E := E) (s := s) hpl (own := (zg_my M).cls) (f := F0 m pc ls rest) (a := x.1) (args := args) hc.2.2.2.2.1 (fun w hw => hc.2.2.2.2.2.2.2.1.here.1 w hw args) hc.2.2.2.2.2.2.2.1.here.2.2 hX hc2 c.exceptionTable.toList
    (by rw [hc.2.2.2.2.2.2.2.2.2.2.2]; exact hca) ((T'.setTop (F0 m pc ls rest)).pushFrame (.throwing x.1)) (by rw [Stand.throwing_vm]; exact X'.warmed) (by rw [Stand.throwing_heap]; exact hc1)
  have X2 := X'.noted hW2
  obtain ⟨t, a1, b1⟩ := k.2.2 p e R s m args below meth c T'.heap (locs ++ L) (cells + (zg_sz σ2 - zg_sz σ)) (slots + (zg_us σ2 - zg_us σ)) ls u0 mc ms hm1 hm2 hc (by omega) (by omega) h3 h4 hr'
    (fun q hq => by rw [ho' q hq]; show T.heap[q]? = _; rw [hT]; exact h6 q hq) (fun x hx => (List.mem_append.mp hx).elim (h7 x) (hL x)) h8 (T'.setVm vm2) rfl X2
  refine ⟨t, hst.trans (zg_caught (c := c) (g := F0 m pc ls rest) X'.here (vm' := vm2) (hp := hp) (fun Q EE dd acts => ?_) a1), b1⟩
  rw [W.findHandler_eq (meth := meth) (code := c) (by rw [Stand.throwing_vm]; exact X'.method') X'.code]
  exact hfind Q EE dd acts
theorem zg_callVC {M2 : zg_M} {n index ci b hp : Nat} {q : vw_C} {fs : List Value} {x : Nat × String} {σ2 : zg_H} {av rest : List Value} (hdg : decode (zg_cc M) pc = .ok (.invokevirtual index, 3)) (hl : zg_lk E (zg_my M).cls index (zg_my M2)) (hm : zg_mth E M2 n) (hi : Cond.instanceMethod (zg_my M2) ∈ zg_ws E) (hse : Cond.selects (zg_my M2).cls (zg_my M2) (zg_my M2) ∈ zg_ws E)
    (hσ : σ.1 b = some (.inr (ci, fs))) (hq : (zg_cl E)[ci]? = some q) (hqc : q.1 = (zg_my M2).cls) (hn : av.length = n) (hst : st = av.reverse ++ .ref b :: rest) (hwt : (rest.map fun v => v.category).sum + zg_ml M2 ≤ 25)
    (hC : zg_C l E d M2 (.ref b :: av) σ (.inr x, σ2)) (hca : zg_catch E (zg_my M).cls x.2 pc hp (zg_hh M)) (k : zg_G l E (d + 1) M hp lv [.ref x.1] σ2 r) : zg_G l E (d + 1) M pc lv st σ r := by
  subst hst
  refine ⟨Nat.le_trans hC.1 k.1, Nat.le_trans hC.2.1 k.2.1, ?_⟩
  intro p e R s m args below meth c H locs cells slots ls u0 mc ms hm1 hm2 hc h1 h2 h3 h4 h5 h6 h7 h8 T hT X
  obtain ⟨cellB, g1, g2, g3⟩ := zg_recv (s := s) hc.2.2.2.2.2.2.2.1.here.2.1 h5 hσ hq
  obtain ⟨mk, vm₁, hnamed, X₁, go⟩ := zg_goV X hc hl hm hi hse (b := b) (by rw [hT]; exact g1) g2 (by rw [← hqc]; exact g3) (g := F0 m pc ls (av.reverse ++ .ref b :: rest)) rfl hn rfl hdg
  obtain ⟨t, a1, b1⟩ := zg_finC hC k hm hwt hca hm1 hm2 hc h1 h2 h3 h4 h5 h6 h7 h8 hT X₁ hnamed hdg
  exact ⟨t, go t a1, b1⟩
end ZG8
end
section
theorem zd_t {cc : ByteArray} {T : List (Nat × Instr × Nat)} (h : T.all (fun q => decide (decode cc q.1 = .ok q.2)) = true) (k : Nat) {pc len : Nat} {i : Instr} (hk : T[k]? = some (pc, i, len)) : decode cc pc = .ok (i, len) :=
  of_decide_eq_true (List.all_eq_true.mp h (pc, i, len) (List.mem_of_getElem? hk))
def mU_init : zg_M := (⟨"ResidueUnit", "<init>", "()V"⟩, prog_1_method_1_code, 2, none, [])
def mR_init : zg_M := (⟨"ResidueUnit$Register", "<init>", "()V"⟩, prog_3_method_1_code, 1, none, [])
def mI_init : zg_M := (⟨"ResidueUnit$Instruction", "<init>", "()V"⟩, prog_2_method_1_code, 1, none, [])
def mU_stopped : zg_M := (⟨"ResidueUnit", "stopped", "()I"⟩, prog_1_method_16_code, 1, (some .int), [])
def mU_load : zg_M := (⟨"ResidueUnit", "load", "(IJ)V"⟩, prog_1_method_2_code, 4, none, [])
def mU_requireRegister : zg_M := (⟨"ResidueUnit", "requireRegister", "(I)V"⟩, prog_1_method_17_code, 1, none, [])
def mU_isRegister : zg_M := (⟨"ResidueUnit", "isRegister", "(I)Z"⟩, prog_1_method_19_code, 1, (some .boolean), [])
def mU_inRange : zg_M := (⟨"ResidueUnit", "inRange", "(J)Z"⟩, prog_1_method_22_code, 2, (some .boolean), [])
def mR_put : zg_M := (⟨"ResidueUnit$Register", "put", "(J)V"⟩, prog_3_method_2_code, 4, none, [])
def mU_residueOf : zg_M := (⟨"ResidueUnit", "residueOf", "(JI)I"⟩, prog_1_method_29_code, 3, (some .int), [])
def mJ_floorMod_J : zg_M := (⟨"java/lang/Math", "floorMod", "(JJ)J"⟩, prog_12_method_52_code, 6, (some .long), [])
def mU_binary : zg_M := (⟨"ResidueUnit", "binary", "(I)J"⟩, prog_1_method_3_code, 2, (some .long), [])
def mR_isGood : zg_M := (⟨"ResidueUnit$Register", "isGood", "()Z"⟩, prog_3_method_7_code, 1, (some .boolean), [])
def mR_value : zg_M := (⟨"ResidueUnit$Register", "value", "()J"⟩, prog_3_method_6_code, 5, (some .long), [])
def mR_fits : zg_M := (⟨"ResidueUnit$Register", "fits", "(JI)Z"⟩, prog_3_method_12_code, 5, (some .boolean), [])
def mU_work : zg_M := (⟨"ResidueUnit", "work", "(IIII)V"⟩, prog_1_method_4_code, 5, none, [])
def mR_combine : zg_M := (⟨"ResidueUnit$Register", "combine", "(ILResidueUnit$Register;LResidueUnit$Register;)V"⟩, prog_3_method_4_code, 7, none, [])
def mU_combineResidues : zg_M := (⟨"ResidueUnit", "combineResidues", "(IIIII)I"⟩, prog_1_method_30_code, 6, (some .int), [])
def mU_combineNumbers : zg_M := (⟨"ResidueUnit", "combineNumbers", "(IJJJ)J"⟩, prog_1_method_31_code, 7, (some .long), [])
def mU_cappedProduct : zg_M := (⟨"ResidueUnit", "cappedProduct", "(JJ)J"⟩, prog_1_method_32_code, 5, (some .long), [])
def mJ_abs : zg_M := (⟨"java/lang/Math", "abs", "(J)J"⟩, prog_12_method_61_code, 2, (some .long), [])
def mU_compare : zg_M := (⟨"ResidueUnit", "compare", "(II)I"⟩, prog_1_method_5_code, 7, (some .int), [])
def mU_scale : zg_M := (⟨"ResidueUnit", "scale", "(IIIZ)V"⟩, prog_1_method_6_code, 5, none, [])
def mU_areScalingModuli : zg_M := (⟨"ResidueUnit", "areScalingModuli", "(I)Z"⟩, prog_1_method_21_code, 1, (some .boolean), [])
def mJ_bitCount : zg_M := (⟨"java/lang/Integer", "bitCount", "(I)I"⟩, prog_11_method_49_code, 1, (some .int), [])
def mU_putScaled : zg_M := (⟨"ResidueUnit", "putScaled", "(IIIZ)V"⟩, prog_1_method_27_code, 9, none, [])
def mU_productOf : zg_M := (⟨"ResidueUnit", "productOf", "(I)J"⟩, prog_1_method_28_code, 4, (some .long), [])
def mJ_floorDiv : zg_M := (⟨"java/lang/Math", "floorDiv", "(JJ)J"⟩, prog_12_method_49_code, 6, (some .long), [])
def mU_divide : zg_M := (⟨"ResidueUnit", "divide", "(IIII)V"⟩, prog_1_method_7_code, 9, none, [])
def mU_channel : zg_M := (⟨"ResidueUnit", "channel", "(II)I"⟩, prog_1_method_8_code, 3, (some .int), [])
def mU_requireChannel : zg_M := (⟨"ResidueUnit", "requireChannel", "(I)V"⟩, prog_1_method_18_code, 1, none, [])
def mU_inject : zg_M := (⟨"ResidueUnit", "inject", "(III)I"⟩, prog_1_method_9_code, 4, (some .int), [])
def mR_shift : zg_M := (⟨"ResidueUnit$Register", "shift", "(II)I"⟩, prog_3_method_5_code, 3, (some .int), [])
def mJ_floorMod_I : zg_M := (⟨"java/lang/Math", "floorMod", "(II)I"⟩, prog_12_method_50_code, 3, (some .int), [])
def mU_verify : zg_M := (⟨"ResidueUnit", "verify", "(I)I"⟩, prog_1_method_10_code, 2, (some .int), [])
def mR_fault : zg_M := (⟨"ResidueUnit$Register", "fault", "()I"⟩, prog_3_method_8_code, 2, (some .int), [])
def mR_healingResidue : zg_M := (⟨"ResidueUnit$Register", "healingResidue", "(I)I"⟩, prog_3_method_10_code, 4, (some .int), [])
def mR_numberWithout : zg_M := (⟨"ResidueUnit$Register", "numberWithout", "(I)J"⟩, prog_3_method_11_code, 8, (some .long), [])
def mU_repair : zg_M := (⟨"ResidueUnit", "repair", "(I)I"⟩, prog_1_method_11_code, 3, (some .int), [])
def mR_heal : zg_M := (⟨"ResidueUnit$Register", "heal", "(I)V"⟩, prog_3_method_9_code, 3, none, [])
def mU_sure : zg_M := (⟨"ResidueUnit", "sure", "(I)Z"⟩, prog_1_method_12_code, 2, (some .boolean), [])
def mU_bound : zg_M := (⟨"ResidueUnit", "bound", "(II)J"⟩, prog_1_method_13_code, 3, (some .long), [])
def mU_instruct : zg_M := (⟨"ResidueUnit", "instruct", "(IIIII)V"⟩, prog_1_method_14_code, 6, none, [])
def mU_isInstruction : zg_M := (⟨"ResidueUnit", "isInstruction", "(I)Z"⟩, prog_1_method_20_code, 1, (some .boolean), [])
def mU_isAllowed : zg_M := (⟨"ResidueUnit", "isAllowed", "(IIII)Z"⟩, prog_1_method_23_code, 4, (some .boolean), [])
def mI_become : zg_M := (⟨"ResidueUnit$Instruction", "become", "(IIII)V"⟩, prog_2_method_2_code, 5, none, [])
def mU_run : zg_M := (⟨"ResidueUnit", "run", "(I)I"⟩, prog_1_method_15_code, 4, (some .int), [])
def mU_step : zg_M := (⟨"ResidueUnit", "step", "(I)I"⟩, prog_1_method_24_code, 3, (some .int), [])
def mU_calculate : zg_M := (⟨"ResidueUnit", "calculate", "(LResidueUnit$Instruction;)V"⟩, prog_1_method_25_code, 2, none, [])
def mR_copyFrom : zg_M := (⟨"ResidueUnit$Register", "copyFrom", "(LResidueUnit$Register;)V"⟩, prog_3_method_3_code, 2, none, [])
def mU_reasonAt : zg_M := (⟨"ResidueUnit", "reasonAt", "(I)I"⟩, prog_1_method_26_code, 1, (some .int), [])
def tmU_init : List (Nat × Instr × Nat) := [(0, .aload_n 0, 1), (1, .invokespecial 3, 3), (4, .aload_n 0, 1), (5, .bipush 16, 2), (7, .anewarray 9, 3), (10, .putfield 11, 3), (13, .aload_n 0, 1), (14, .bipush 32, 2), (16, .anewarray 15, 3), (19, .putfield 17, 3), (22, .aload_n 0, 1), (23, .iconst 0, 1), (24, .putfield 21, 3), (27, .aload_n 0, 1), (28, .iconst 0, 1), (29, .putfield 25, 3), (32, .iconst 0, 1), (33, .istore_n 1, 1), (34, .iload_n 1, 1), (35, .bipush 16, 2), (37, .if_icmp .ge 22, 3), (40, .aload_n 0, 1), (41, .getfield 11, 3), (44, .iload_n 1, 1), (45, .new 9, 3), (48, .dup, 1), (49, .invokespecial 28, 3), (52, .aastore, 1), (53, .iinc 1 1, 3), (56, .goto (-22), 3), (59, .iconst 0, 1), (60, .istore_n 1, 1), (61, .iload_n 1, 1), (62, .bipush 32, 2), (64, .if_icmp .ge 22, 3), (67, .aload_n 0, 1), (68, .getfield 17, 3), (71, .iload_n 1, 1), (72, .new 15, 3), (75, .dup, 1), (76, .invokespecial 29, 3), (79, .aastore, 1), (80, .iinc 1 1, 3), (83, .goto (-22), 3), (86, .return_, 1)]
theorem dmU_init : tmU_init.all (fun q => decide (decode (zg_cc mU_init) q.1 = .ok q.2)) = true := by decide +kernel
def tmR_init : List (Nat × Instr × Nat) := [(0, .aload_n 0, 1), (1, .invokespecial 3, 3), (4, .aload_n 0, 1), (5, .bipush 8, 2), (7, .newarray .int, 2), (9, .putfield 9, 3), (12, .aload_n 0, 1), (13, .lconst 0, 1), (14, .putfield 15, 3), (17, .aload_n 0, 1), (18, .iconst 1, 1), (19, .putfield 19, 3), (22, .return_, 1)]
theorem dmR_init : tmR_init.all (fun q => decide (decode (zg_cc mR_init) q.1 = .ok q.2)) = true := by decide +kernel
def tmI_init : List (Nat × Instr × Nat) := [(0, .aload_n 0, 1), (1, .invokespecial 3, 3), (4, .aload_n 0, 1), (5, .iconst 0, 1), (6, .putfield 9, 3), (9, .aload_n 0, 1), (10, .iconst 0, 1), (11, .putfield 15, 3), (14, .aload_n 0, 1), (15, .iconst 0, 1), (16, .putfield 18, 3), (19, .aload_n 0, 1), (20, .iconst 0, 1), (21, .putfield 21, 3), (24, .return_, 1)]
theorem dmI_init : tmI_init.all (fun q => decide (decode (zg_cc mI_init) q.1 = .ok q.2)) = true := by decide +kernel
def tmU_stopped : List (Nat × Instr × Nat) := [(0, .aload_n 0, 1), (1, .getfield 25, 3), (4, .ireturn, 1)]
theorem dmU_stopped : tmU_stopped.all (fun q => decide (decode (zg_cc mU_stopped) q.1 = .ok q.2)) = true := by decide +kernel
def tmU_load : List (Nat × Instr × Nat) := [(0, .iload_n 1, 1), (1, .invokestatic 30, 3), (4, .lload_n 2, 1), (5, .invokestatic 34, 3), (8, .ifCond .ne 13, 3), (11, .new 38, 3), (14, .dup, 1), (15, .ldc 40, 2), (17, .invokespecial 42, 3), (20, .athrow, 1), (21, .aload_n 0, 1), (22, .getfield 11, 3), (25, .iload_n 1, 1), (26, .aaload, 1), (27, .lload_n 2, 1), (28, .invokevirtual 45, 3), (31, .return_, 1)]
theorem dmU_load : tmU_load.all (fun q => decide (decode (zg_cc mU_load) q.1 = .ok q.2)) = true := by decide +kernel
def tmU_requireRegister : List (Nat × Instr × Nat) := [(0, .iload_n 0, 1), (1, .invokestatic 142, 3), (4, .ifCond .ne 13, 3), (7, .new 118, 3), (10, .dup, 1), (11, .ldc 145, 2), (13, .invokespecial 122, 3), (16, .athrow, 1), (17, .return_, 1)]
theorem dmU_requireRegister : tmU_requireRegister.all (fun q => decide (decode (zg_cc mU_requireRegister) q.1 = .ok q.2)) = true := by decide +kernel
def tmU_isRegister : List (Nat × Instr × Nat) := [(0, .iload_n 0, 1), (1, .ifCond .lt 13, 3), (4, .iload_n 0, 1), (5, .bipush 16, 2), (7, .if_icmp .ge 7, 3), (10, .iconst 1, 1), (11, .goto 4, 3), (14, .iconst 0, 1), (15, .ireturn, 1)]
theorem dmU_isRegister : tmU_isRegister.all (fun q => decide (decode (zg_cc mU_isRegister) q.1 = .ok q.2)) = true := by decide +kernel
def tmU_inRange : List (Nat × Instr × Nat) := [(0, .lload_n 0, 1), (1, .ldc2_w 154, 3), (4, .lcmp, 1), (5, .ifCond .lt 15, 3), (8, .lload_n 0, 1), (9, .ldc2_w 156, 3), (12, .lcmp, 1), (13, .ifCond .gt 7, 3), (16, .iconst 1, 1), (17, .goto 4, 3), (20, .iconst 0, 1), (21, .ireturn, 1)]
theorem dmU_inRange : tmU_inRange.all (fun q => decide (decode (zg_cc mU_inRange) q.1 = .ok q.2)) = true := by decide +kernel
def tmR_put : List (Nat × Instr × Nat) := [(0, .iconst 0, 1), (1, .istore_n 3, 1), (2, .iload_n 3, 1), (3, .bipush 8, 2), (5, .if_icmp .ge 20, 3), (8, .aload_n 0, 1), (9, .getfield 9, 3), (12, .iload_n 3, 1), (13, .lload_n 1, 1), (14, .iload_n 3, 1), (15, .invokestatic 23, 3), (18, .iastore, 1), (19, .iinc 3 1, 3), (22, .goto (-20), 3), (25, .aload_n 0, 1), (26, .lload_n 1, 1), (27, .putfield 15, 3), (30, .aload_n 0, 1), (31, .iconst 1, 1), (32, .putfield 19, 3), (35, .return_, 1)]
theorem dmR_put : tmR_put.all (fun q => decide (decode (zg_cc mR_put) q.1 = .ok q.2)) = true := by decide +kernel
def tmU_residueOf : List (Nat × Instr × Nat) := [(0, .lload_n 0, 1), (1, .getstatic 190, 3), (4, .iload_n 2, 1), (5, .iaload, 1), (6, .i2l, 1), (7, .invokestatic 193, 3), (10, .l2i, 1), (11, .ireturn, 1)]
theorem dmU_residueOf : tmU_residueOf.all (fun q => decide (decode (zg_cc mU_residueOf) q.1 = .ok q.2)) = true := by decide +kernel
def tmJ_floorMod_J : List (Nat × Instr × Nat) := [(0, .lload_n 0, 1), (1, .lload_n 2, 1), (2, .lrem, 1), (3, .lstore 4, 2), (5, .lload_n 0, 1), (6, .lload_n 2, 1), (7, .lxor, 1), (8, .lconst 0, 1), (9, .lcmp, 1), (10, .ifCond .ge 15, 3), (13, .lload 4, 2), (15, .lconst 0, 1), (16, .lcmp, 1), (17, .ifCond .eq 8, 3), (20, .lload 4, 2), (22, .lload_n 2, 1), (23, .ladd, 1), (24, .lreturn, 1), (25, .lload 4, 2), (27, .lreturn, 1)]
theorem dmJ_floorMod_J : tmJ_floorMod_J.all (fun q => decide (decode (zg_cc mJ_floorMod_J) q.1 = .ok q.2)) = true := by decide +kernel
def tmU_binary : List (Nat × Instr × Nat) := [(0, .iload_n 1, 1), (1, .invokestatic 30, 3), (4, .aload_n 0, 1), (5, .getfield 11, 3), (8, .iload_n 1, 1), (9, .aaload, 1), (10, .invokevirtual 49, 3), (13, .ifCond .ne 13, 3), (16, .new 53, 3), (19, .dup, 1), (20, .ldc 55, 2), (22, .invokespecial 57, 3), (25, .athrow, 1), (26, .aload_n 0, 1), (27, .getfield 11, 3), (30, .iload_n 1, 1), (31, .aaload, 1), (32, .invokevirtual 58, 3), (35, .lreturn, 1)]
theorem dmU_binary : tmU_binary.all (fun q => decide (decode (zg_cc mU_binary) q.1 = .ok q.2)) = true := by decide +kernel
def tmR_isGood : List (Nat × Instr × Nat) := [(0, .aload_n 0, 1), (1, .aload_n 0, 1), (2, .invokevirtual 62, 3), (5, .iconst (-1), 1), (6, .invokevirtual 66, 3), (9, .ireturn, 1)]
theorem dmR_isGood : tmR_isGood.all (fun q => decide (decode (zg_cc mR_isGood) q.1 = .ok q.2)) = true := by decide +kernel
def tmR_value : List (Nat × Instr × Nat) := [(0, .lconst 0, 1), (1, .lstore_n 1, 1), (2, .iconst 0, 1), (3, .istore_n 3, 1), (4, .iload_n 3, 1), (5, .bipush 6, 2), (7, .if_icmp .ge 25, 3), (10, .lload_n 1, 1), (11, .aload_n 0, 1), (12, .getfield 9, 3), (15, .iload_n 3, 1), (16, .iaload, 1), (17, .i2l, 1), (18, .getstatic 54, 3), (21, .iload_n 3, 1), (22, .laload, 1), (23, .lmul, 1), (24, .ladd, 1), (25, .lstore_n 1, 1), (26, .iinc 3 1, 3), (29, .goto (-25), 3), (32, .lload_n 1, 1), (33, .ldc2_w 58, 3), (36, .lrem, 1), (37, .lstore_n 3, 1), (38, .lload_n 3, 1), (39, .ldc2_w 60, 3), (42, .lcmp, 1), (43, .ifCond .le 11, 3), (46, .lload_n 3, 1), (47, .ldc2_w 58, 3), (50, .lsub, 1), (51, .goto 4, 3), (54, .lload_n 3, 1), (55, .lreturn, 1)]
theorem dmR_value : tmR_value.all (fun q => decide (decode (zg_cc mR_value) q.1 = .ok q.2)) = true := by decide +kernel
def tmR_fits : List (Nat × Instr × Nat) := [(0, .iconst 0, 1), (1, .istore 4, 2), (3, .iload 4, 2), (5, .bipush 8, 2), (7, .if_icmp .ge 33, 3), (10, .iload 4, 2), (12, .iload_n 3, 1), (13, .if_icmp .eq 21, 3), (16, .lload_n 1, 1), (17, .iload 4, 2), (19, .invokestatic 23, 3), (22, .aload_n 0, 1), (23, .getfield 9, 3), (26, .iload 4, 2), (28, .iaload, 1), (29, .if_icmp .eq 5, 3), (32, .iconst 0, 1), (33, .ireturn, 1), (34, .iinc 4 1, 3), (37, .goto (-34), 3), (40, .lload_n 1, 1), (41, .invokestatic 41, 3), (44, .ireturn, 1)]
theorem dmR_fits : tmR_fits.all (fun q => decide (decode (zg_cc mR_fits) q.1 = .ok q.2)) = true := by decide +kernel
def tmU_work : List (Nat × Instr × Nat) := [(0, .iload_n 2, 1), (1, .invokestatic 30, 3), (4, .iload_n 3, 1), (5, .invokestatic 30, 3), (8, .iload 4, 2), (10, .invokestatic 30, 3), (13, .iload_n 1, 1), (14, .ifCond .lt 8, 3), (17, .iload_n 1, 1), (18, .iconst 3, 1), (19, .if_icmp .le 13, 3), (22, .new 38, 3), (25, .dup, 1), (26, .ldc 62, 2), (28, .invokespecial 42, 3), (31, .athrow, 1), (32, .aload_n 0, 1), (33, .getfield 11, 3), (36, .iload_n 2, 1), (37, .aaload, 1), (38, .iload_n 1, 1), (39, .aload_n 0, 1), (40, .getfield 11, 3), (43, .iload_n 3, 1), (44, .aaload, 1), (45, .aload_n 0, 1), (46, .getfield 11, 3), (49, .iload 4, 2), (51, .aaload, 1), (52, .invokevirtual 64, 3), (55, .return_, 1)]
theorem dmU_work : tmU_work.all (fun q => decide (decode (zg_cc mU_work) q.1 = .ok q.2)) = true := by decide +kernel
def tmR_combine : List (Nat × Instr × Nat) := [(0, .iconst 0, 1), (1, .istore 4, 2), (3, .iload 4, 2), (5, .bipush 8, 2), (7, .if_icmp .ge 43, 3), (10, .aload_n 0, 1), (11, .getfield 9, 3), (14, .iload 4, 2), (16, .iload_n 1, 1), (17, .iload 4, 2), (19, .aload_n 0, 1), (20, .getfield 9, 3), (23, .iload 4, 2), (25, .iaload, 1), (26, .aload_n 2, 1), (27, .getfield 9, 3), (30, .iload 4, 2), (32, .iaload, 1), (33, .aload_n 3, 1), (34, .getfield 9, 3), (37, .iload 4, 2), (39, .iaload, 1), (40, .invokestatic 33, 3), (43, .iastore, 1), (44, .iinc 4 1, 3), (47, .goto (-44), 3), (50, .aload_n 2, 1), (51, .getfield 19, 3), (54, .ifCond .eq 26, 3), (57, .aload_n 3, 1), (58, .getfield 19, 3), (61, .ifCond .eq 19, 3), (64, .aload_n 0, 1), (65, .getfield 19, 3), (68, .ifCond .ne 8, 3), (71, .iload_n 1, 1), (72, .iconst 3, 1), (73, .if_icmp .eq 7, 3), (76, .iconst 1, 1), (77, .goto 4, 3), (80, .iconst 0, 1), (81, .istore 4, 2), (83, .iload 4, 2), (85, .ifCond .eq 22, 3), (88, .iload_n 1, 1), (89, .aload_n 0, 1), (90, .getfield 15, 3), (93, .aload_n 2, 1), (94, .getfield 15, 3), (97, .aload_n 3, 1), (98, .getfield 15, 3), (101, .invokestatic 37, 3), (104, .goto 4, 3), (107, .lconst 0, 1), (108, .lstore 5, 2), (110, .aload_n 0, 1), (111, .iload 4, 2), (113, .ifCond .eq 15, 3), (116, .lload 5, 2), (118, .invokestatic 41, 3), (121, .ifCond .eq 7, 3), (124, .iconst 1, 1), (125, .goto 4, 3), (128, .iconst 0, 1), (129, .putfield 19, 3), (132, .aload_n 0, 1), (133, .aload_n 0, 1), (134, .getfield 19, 3), (137, .ifCond .eq 8, 3), (140, .lload 5, 2), (142, .goto 4, 3), (145, .lconst 0, 1), (146, .putfield 15, 3), (149, .return_, 1)]
theorem dmR_combine : tmR_combine.all (fun q => decide (decode (zg_cc mR_combine) q.1 = .ok q.2)) = true := by decide +kernel
def tmU_combineResidues : List (Nat × Instr × Nat) := [(0, .getstatic 190, 3), (3, .iload_n 1, 1), (4, .iaload, 1), (5, .istore 5, 2), (7, .iload_n 0, 1), (8, .tableswitch 55 0 2 #[28, 36, 47], 28), (36, .iload_n 3, 1), (37, .iload 4, 2), (39, .iadd, 1), (40, .iload 5, 2), (42, .irem, 1), (43, .ireturn, 1), (44, .iload_n 3, 1), (45, .iload 5, 2), (47, .iadd, 1), (48, .iload 4, 2), (50, .isub, 1), (51, .iload 5, 2), (53, .irem, 1), (54, .ireturn, 1), (55, .iload_n 3, 1), (56, .iload 4, 2), (58, .imul, 1), (59, .iload 5, 2), (61, .irem, 1), (62, .ireturn, 1), (63, .iload_n 2, 1), (64, .iload_n 3, 1), (65, .iload 4, 2), (67, .imul, 1), (68, .iadd, 1), (69, .iload 5, 2), (71, .irem, 1), (72, .ireturn, 1)]
theorem dmU_combineResidues : tmU_combineResidues.all (fun q => decide (decode (zg_cc mU_combineResidues) q.1 = .ok q.2)) = true := by decide +kernel
def tmU_combineNumbers : List (Nat × Instr × Nat) := [(0, .iload_n 0, 1), (1, .tableswitch 44 0 2 #[27, 32, 37], 27), (28, .lload_n 3, 1), (29, .lload 5, 2), (31, .ladd, 1), (32, .lreturn, 1), (33, .lload_n 3, 1), (34, .lload 5, 2), (36, .lsub, 1), (37, .lreturn, 1), (38, .lload_n 3, 1), (39, .lload 5, 2), (41, .invokestatic 196, 3), (44, .lreturn, 1), (45, .lload_n 1, 1), (46, .lload_n 3, 1), (47, .lload 5, 2), (49, .invokestatic 196, 3), (52, .ladd, 1), (53, .lreturn, 1)]
theorem dmU_combineNumbers : tmU_combineNumbers.all (fun q => decide (decode (zg_cc mU_combineNumbers) q.1 = .ok q.2)) = true := by decide +kernel
def tmU_cappedProduct : List (Nat × Instr × Nat) := [(0, .lload_n 2, 1), (1, .lconst 0, 1), (2, .lcmp, 1), (3, .ifCond .eq 23, 3), (6, .lload_n 0, 1), (7, .invokestatic 199, 3), (10, .ldc2_w 203, 3), (13, .lload_n 2, 1), (14, .invokestatic 199, 3), (17, .ldiv, 1), (18, .lcmp, 1), (19, .ifCond .le 7, 3), (22, .iconst 1, 1), (23, .goto 4, 3), (26, .iconst 0, 1), (27, .istore 4, 2), (29, .iload 4, 2), (31, .ifCond .eq 9, 3), (34, .ldc2_w 205, 3), (37, .goto 6, 3), (40, .lload_n 0, 1), (41, .lload_n 2, 1), (42, .lmul, 1), (43, .lreturn, 1)]
theorem dmU_cappedProduct : tmU_cappedProduct.all (fun q => decide (decode (zg_cc mU_cappedProduct) q.1 = .ok q.2)) = true := by decide +kernel
def tmJ_abs : List (Nat × Instr × Nat) := [(0, .lload_n 0, 1), (1, .lconst 0, 1), (2, .lcmp, 1), (3, .ifCond .ge 8, 3), (6, .lload_n 0, 1), (7, .lneg, 1), (8, .goto 4, 3), (11, .lload_n 0, 1), (12, .lreturn, 1)]
theorem dmJ_abs : tmJ_abs.all (fun q => decide (decode (zg_cc mJ_abs) q.1 = .ok q.2)) = true := by decide +kernel
def tmU_compare : List (Nat × Instr × Nat) := [(0, .iload_n 1, 1), (1, .invokestatic 30, 3), (4, .iload_n 2, 1), (5, .invokestatic 30, 3), (8, .aload_n 0, 1), (9, .getfield 11, 3), (12, .iload_n 1, 1), (13, .aaload, 1), (14, .invokevirtual 58, 3), (17, .lstore_n 3, 1), (18, .aload_n 0, 1), (19, .getfield 11, 3), (22, .iload_n 2, 1), (23, .aaload, 1), (24, .invokevirtual 58, 3), (27, .lstore 5, 2), (29, .lload_n 3, 1), (30, .lload 5, 2), (32, .lcmp, 1), (33, .ifCond .ge 7, 3), (36, .iconst (-1), 1), (37, .goto 15, 3), (40, .lload_n 3, 1), (41, .lload 5, 2), (43, .lcmp, 1), (44, .ifCond .le 7, 3), (47, .iconst 1, 1), (48, .goto 4, 3), (51, .iconst 0, 1), (52, .ireturn, 1)]
theorem dmU_compare : tmU_compare.all (fun q => decide (decode (zg_cc mU_compare) q.1 = .ok q.2)) = true := by decide +kernel
def tmU_scale : List (Nat × Instr × Nat) := [(0, .iload_n 1, 1), (1, .invokestatic 30, 3), (4, .iload_n 2, 1), (5, .invokestatic 30, 3), (8, .iload_n 3, 1), (9, .invokestatic 68, 3), (12, .ifCond .ne 13, 3), (15, .new 38, 3), (18, .dup, 1), (19, .ldc 72, 2), (21, .invokespecial 42, 3), (24, .athrow, 1), (25, .aload_n 0, 1), (26, .iload_n 1, 1), (27, .iload_n 2, 1), (28, .iload_n 3, 1), (29, .iload 4, 2), (31, .invokevirtual 74, 3), (34, .return_, 1)]
theorem dmU_scale : tmU_scale.all (fun q => decide (decode (zg_cc mU_scale) q.1 = .ok q.2)) = true := by decide +kernel
def tmU_areScalingModuli : List (Nat × Instr × Nat) := [(0, .iload_n 0, 1), (1, .ifCond .le 21, 3), (4, .iload_n 0, 1), (5, .bipush 64, 2), (7, .if_icmp .ge 15, 3), (10, .iload_n 0, 1), (11, .invokestatic 149, 3), (14, .iconst 4, 1), (15, .if_icmp .gt 7, 3), (18, .iconst 1, 1), (19, .goto 4, 3), (22, .iconst 0, 1), (23, .ireturn, 1)]
theorem dmU_areScalingModuli : tmU_areScalingModuli.all (fun q => decide (decode (zg_cc mU_areScalingModuli) q.1 = .ok q.2)) = true := by decide +kernel
def tmJ_bitCount : List (Nat × Instr × Nat) := [(0, .iload_n 0, 1), (1, .iload_n 0, 1), (2, .iconst 1, 1), (3, .iushr, 1), (4, .ldc_w 265, 3), (7, .iand, 1), (8, .isub, 1), (9, .istore_n 0, 1), (10, .iload_n 0, 1), (11, .ldc_w 266, 3), (14, .iand, 1), (15, .iload_n 0, 1), (16, .iconst 2, 1), (17, .iushr, 1), (18, .ldc_w 266, 3), (21, .iand, 1), (22, .iadd, 1), (23, .istore_n 0, 1), (24, .iload_n 0, 1), (25, .iload_n 0, 1), (26, .iconst 4, 1), (27, .iushr, 1), (28, .iadd, 1), (29, .ldc_w 267, 3), (32, .iand, 1), (33, .istore_n 0, 1), (34, .iload_n 0, 1), (35, .iload_n 0, 1), (36, .bipush 8, 2), (38, .iushr, 1), (39, .iadd, 1), (40, .istore_n 0, 1), (41, .iload_n 0, 1), (42, .iload_n 0, 1), (43, .bipush 16, 2), (45, .iushr, 1), (46, .iadd, 1), (47, .istore_n 0, 1), (48, .iload_n 0, 1), (49, .bipush 63, 2), (51, .iand, 1), (52, .ireturn, 1)]
theorem dmJ_bitCount : tmJ_bitCount.all (fun q => decide (decode (zg_cc mJ_bitCount) q.1 = .ok q.2)) = true := by decide +kernel
def tmU_putScaled : List (Nat × Instr × Nat) := [(0, .iload_n 3, 1), (1, .invokestatic 178, 3), (4, .lstore 5, 2), (6, .aload_n 0, 1), (7, .getfield 11, 3), (10, .iload_n 2, 1), (11, .aaload, 1), (12, .invokevirtual 58, 3), (15, .lstore 7, 2), (17, .aload_n 0, 1), (18, .getfield 11, 3), (21, .iload_n 1, 1), (22, .aaload, 1), (23, .iload 4, 2), (25, .ifCond .eq 24, 3), (28, .ldc2_w 182, 3), (31, .lload 7, 2), (33, .lmul, 1), (34, .lload 5, 2), (36, .ladd, 1), (37, .ldc2_w 182, 3), (40, .lload 5, 2), (42, .lmul, 1), (43, .invokestatic 184, 3), (46, .goto 10, 3), (49, .lload 7, 2), (51, .lload 5, 2), (53, .invokestatic 184, 3), (56, .invokevirtual 45, 3), (59, .return_, 1)]
theorem dmU_putScaled : tmU_putScaled.all (fun q => decide (decode (zg_cc mU_putScaled) q.1 = .ok q.2)) = true := by decide +kernel
def tmU_productOf : List (Nat × Instr × Nat) := [(0, .lconst 1, 1), (1, .lstore_n 1, 1), (2, .iconst 0, 1), (3, .istore_n 3, 1), (4, .iload_n 3, 1), (5, .bipush 6, 2), (7, .if_icmp .ge 27, 3), (10, .iload_n 0, 1), (11, .iload_n 3, 1), (12, .ishr, 1), (13, .iconst 1, 1), (14, .iand, 1), (15, .iconst 1, 1), (16, .if_icmp .ne 12, 3), (19, .lload_n 1, 1), (20, .getstatic 190, 3), (23, .iload_n 3, 1), (24, .iaload, 1), (25, .i2l, 1), (26, .lmul, 1), (27, .lstore_n 1, 1), (28, .iinc 3 1, 3), (31, .goto (-27), 3), (34, .lload_n 1, 1), (35, .lreturn, 1)]
theorem dmU_productOf : tmU_productOf.all (fun q => decide (decode (zg_cc mU_productOf) q.1 = .ok q.2)) = true := by decide +kernel
def tmJ_floorDiv : List (Nat × Instr × Nat) := [(0, .lload_n 0, 1), (1, .lload_n 2, 1), (2, .ldiv, 1), (3, .lstore 4, 2), (5, .lload_n 0, 1), (6, .lload_n 2, 1), (7, .lxor, 1), (8, .lconst 0, 1), (9, .lcmp, 1), (10, .ifCond .ge 17, 3), (13, .lload 4, 2), (15, .lload_n 2, 1), (16, .lmul, 1), (17, .lload_n 0, 1), (18, .lcmp, 1), (19, .ifCond .eq 8, 3), (22, .lload 4, 2), (24, .lconst 1, 1), (25, .lsub, 1), (26, .lreturn, 1), (27, .lload 4, 2), (29, .lreturn, 1)]
theorem dmJ_floorDiv : tmJ_floorDiv.all (fun q => decide (decode (zg_cc mJ_floorDiv) q.1 = .ok q.2)) = true := by decide +kernel
def tmU_divide : List (Nat × Instr × Nat) := [(0, .iload_n 1, 1), (1, .invokestatic 30, 3), (4, .iload_n 2, 1), (5, .invokestatic 30, 3), (8, .iload_n 3, 1), (9, .invokestatic 30, 3), (12, .iload 4, 2), (14, .invokestatic 30, 3), (17, .aload_n 0, 1), (18, .getfield 11, 3), (21, .iload_n 3, 1), (22, .aaload, 1), (23, .invokevirtual 58, 3), (26, .lstore 5, 2), (28, .aload_n 0, 1), (29, .getfield 11, 3), (32, .iload 4, 2), (34, .aaload, 1), (35, .invokevirtual 58, 3), (38, .lstore 7, 2), (40, .lload 7, 2), (42, .lconst 0, 1), (43, .lcmp, 1), (44, .ifCond .ne 13, 3), (47, .new 78, 3), (50, .dup, 1), (51, .ldc 80, 2), (53, .invokespecial 82, 3), (56, .athrow, 1), (57, .aload_n 0, 1), (58, .getfield 11, 3), (61, .iload_n 1, 1), (62, .aaload, 1), (63, .lload 5, 2), (65, .lload 7, 2), (67, .ldiv, 1), (68, .invokevirtual 45, 3), (71, .aload_n 0, 1), (72, .getfield 11, 3), (75, .iload_n 2, 1), (76, .aaload, 1), (77, .lload 5, 2), (79, .lload 7, 2), (81, .lrem, 1), (82, .invokevirtual 45, 3), (85, .return_, 1)]
theorem dmU_divide : tmU_divide.all (fun q => decide (decode (zg_cc mU_divide) q.1 = .ok q.2)) = true := by decide +kernel
def tmU_channel : List (Nat × Instr × Nat) := [(0, .iload_n 1, 1), (1, .invokestatic 30, 3), (4, .iload_n 2, 1), (5, .invokestatic 83, 3), (8, .aload_n 0, 1), (9, .getfield 11, 3), (12, .iload_n 1, 1), (13, .aaload, 1), (14, .getfield 86, 3), (17, .iload_n 2, 1), (18, .iconst 1, 1), (19, .isub, 1), (20, .iaload, 1), (21, .ireturn, 1)]
theorem dmU_channel : tmU_channel.all (fun q => decide (decode (zg_cc mU_channel) q.1 = .ok q.2)) = true := by decide +kernel
def tmU_requireChannel : List (Nat × Instr × Nat) := [(0, .iload_n 0, 1), (1, .iconst 1, 1), (2, .if_icmp .lt 9, 3), (5, .iload_n 0, 1), (6, .bipush 8, 2), (8, .if_icmp .le 13, 3), (11, .new 118, 3), (14, .dup, 1), (15, .ldc 147, 2), (17, .invokespecial 122, 3), (20, .athrow, 1), (21, .return_, 1)]
theorem dmU_requireChannel : tmU_requireChannel.all (fun q => decide (decode (zg_cc mU_requireChannel) q.1 = .ok q.2)) = true := by decide +kernel
def tmU_inject : List (Nat × Instr × Nat) := [(0, .iload_n 1, 1), (1, .invokestatic 30, 3), (4, .iload_n 2, 1), (5, .invokestatic 83, 3), (8, .aload_n 0, 1), (9, .getfield 11, 3), (12, .iload_n 1, 1), (13, .aaload, 1), (14, .iload_n 2, 1), (15, .iconst 1, 1), (16, .isub, 1), (17, .iload_n 3, 1), (18, .invokevirtual 90, 3), (21, .ireturn, 1)]
theorem dmU_inject : tmU_inject.all (fun q => decide (decode (zg_cc mU_inject) q.1 = .ok q.2)) = true := by decide +kernel
def tmR_shift : List (Nat × Instr × Nat) := [(0, .aload_n 0, 1), (1, .getfield 9, 3), (4, .iload_n 1, 1), (5, .aload_n 0, 1), (6, .getfield 9, 3), (9, .iload_n 1, 1), (10, .iaload, 1), (11, .iload_n 2, 1), (12, .getstatic 45, 3), (15, .iload_n 1, 1), (16, .iaload, 1), (17, .invokestatic 48, 3), (20, .iadd, 1), (21, .getstatic 45, 3), (24, .iload_n 1, 1), (25, .iaload, 1), (26, .irem, 1), (27, .iastore, 1), (28, .aload_n 0, 1), (29, .getfield 9, 3), (32, .iload_n 1, 1), (33, .iaload, 1), (34, .ireturn, 1)]
theorem dmR_shift : tmR_shift.all (fun q => decide (decode (zg_cc mR_shift) q.1 = .ok q.2)) = true := by decide +kernel
def tmJ_floorMod_I : List (Nat × Instr × Nat) := [(0, .iload_n 0, 1), (1, .iload_n 1, 1), (2, .irem, 1), (3, .istore_n 2, 1), (4, .iload_n 0, 1), (5, .iload_n 1, 1), (6, .ixor, 1), (7, .ifCond .ge 11, 3), (10, .iload_n 2, 1), (11, .ifCond .eq 7, 3), (14, .iload_n 2, 1), (15, .iload_n 1, 1), (16, .iadd, 1), (17, .ireturn, 1), (18, .iload_n 2, 1), (19, .ireturn, 1)]
theorem dmJ_floorMod_I : tmJ_floorMod_I.all (fun q => decide (decode (zg_cc mJ_floorMod_I) q.1 = .ok q.2)) = true := by decide +kernel
def tmU_verify : List (Nat × Instr × Nat) := [(0, .iload_n 1, 1), (1, .invokestatic 30, 3), (4, .aload_n 0, 1), (5, .getfield 11, 3), (8, .iload_n 1, 1), (9, .aaload, 1), (10, .invokevirtual 94, 3), (13, .ireturn, 1)]
theorem dmU_verify : tmU_verify.all (fun q => decide (decode (zg_cc mU_verify) q.1 = .ok q.2)) = true := by decide +kernel
def tmR_fault : List (Nat × Instr × Nat) := [(0, .aload_n 0, 1), (1, .invokevirtual 70, 3), (4, .ifCond .eq 5, 3), (7, .iconst 0, 1), (8, .ireturn, 1), (9, .iconst 0, 1), (10, .istore_n 1, 1), (11, .iload_n 1, 1), (12, .bipush 8, 2), (14, .if_icmp .ge 22, 3), (17, .aload_n 0, 1), (18, .iload_n 1, 1), (19, .invokevirtual 74, 3), (22, .iconst (-1), 1), (23, .if_icmp .eq 7, 3), (26, .iload_n 1, 1), (27, .iconst 1, 1), (28, .iadd, 1), (29, .ireturn, 1), (30, .iinc 1 1, 3), (33, .goto (-22), 3), (36, .bipush 9, 2), (38, .ireturn, 1)]
theorem dmR_fault : tmR_fault.all (fun q => decide (decode (zg_cc mR_fault) q.1 = .ok q.2)) = true := by decide +kernel
def tmR_healingResidue : List (Nat × Instr × Nat) := [(0, .iload_n 1, 1), (1, .bipush 6, 2), (3, .if_icmp .ge 11, 3), (6, .aload_n 0, 1), (7, .iload_n 1, 1), (8, .invokevirtual 78, 3), (11, .goto 7, 3), (14, .aload_n 0, 1), (15, .invokevirtual 62, 3), (18, .lstore_n 2, 1), (19, .aload_n 0, 1), (20, .lload_n 2, 1), (21, .iload_n 1, 1), (22, .invokevirtual 66, 3), (25, .ifCond .eq 11, 3), (28, .lload_n 2, 1), (29, .iload_n 1, 1), (30, .invokestatic 23, 3), (33, .goto 4, 3), (36, .iconst (-1), 1), (37, .ireturn, 1)]
theorem dmR_healingResidue : tmR_healingResidue.all (fun q => decide (decode (zg_cc mR_healingResidue) q.1 = .ok q.2)) = true := by decide +kernel
def tmR_numberWithout : List (Nat × Instr × Nat) := [(0, .ldc2_w 58, 3), (3, .getstatic 45, 3), (6, .iload_n 1, 1), (7, .iaload, 1), (8, .i2l, 1), (9, .ldiv, 1), (10, .lstore_n 2, 1), (11, .aload_n 0, 1), (12, .invokevirtual 62, 3), (15, .ldc2_w 60, 3), (18, .ladd, 1), (19, .lload_n 2, 1), (20, .invokestatic 82, 3), (23, .ldc2_w 60, 3), (26, .lsub, 1), (27, .lstore 4, 2), (29, .aload_n 0, 1), (30, .getfield 9, 3), (33, .bipush 6, 2), (35, .iaload, 1), (36, .i2l, 1), (37, .lload 4, 2), (39, .lsub, 1), (40, .getstatic 85, 3), (43, .iload_n 1, 1), (44, .iaload, 1), (45, .i2l, 1), (46, .lmul, 1), (47, .bipush 6, 2), (49, .invokestatic 23, 3), (52, .i2l, 1), (53, .lstore 6, 2), (55, .lload 4, 2), (57, .lload 6, 2), (59, .lload_n 2, 1), (60, .lmul, 1), (61, .ladd, 1), (62, .lreturn, 1)]
theorem dmR_numberWithout : tmR_numberWithout.all (fun q => decide (decode (zg_cc mR_numberWithout) q.1 = .ok q.2)) = true := by decide +kernel
def tmU_repair : List (Nat × Instr × Nat) := [(0, .iload_n 1, 1), (1, .invokestatic 30, 3), (4, .aload_n 0, 1), (5, .getfield 11, 3), (8, .iload_n 1, 1), (9, .aaload, 1), (10, .invokevirtual 94, 3), (13, .istore_n 2, 1), (14, .iload_n 2, 1), (15, .bipush 9, 2), (17, .if_icmp .ne 13, 3), (20, .new 53, 3), (23, .dup, 1), (24, .ldc 98, 2), (26, .invokespecial 57, 3), (29, .athrow, 1), (30, .iload_n 2, 1), (31, .ifCond .eq 15, 3), (34, .aload_n 0, 1), (35, .getfield 11, 3), (38, .iload_n 1, 1), (39, .aaload, 1), (40, .iload_n 2, 1), (41, .iconst 1, 1), (42, .isub, 1), (43, .invokevirtual 100, 3), (46, .iload_n 2, 1), (47, .ireturn, 1)]
theorem dmU_repair : tmU_repair.all (fun q => decide (decode (zg_cc mU_repair) q.1 = .ok q.2)) = true := by decide +kernel
def tmR_heal : List (Nat × Instr × Nat) := [(0, .aload_n 0, 1), (1, .iload_n 1, 1), (2, .invokevirtual 74, 3), (5, .istore_n 2, 1), (6, .iload_n 2, 1), (7, .iconst (-1), 1), (8, .if_icmp .eq 10, 3), (11, .aload_n 0, 1), (12, .getfield 9, 3), (15, .iload_n 1, 1), (16, .iload_n 2, 1), (17, .iastore, 1), (18, .return_, 1)]
theorem dmR_heal : tmR_heal.all (fun q => decide (decode (zg_cc mR_heal) q.1 = .ok q.2)) = true := by decide +kernel
def tmU_sure : List (Nat × Instr × Nat) := [(0, .iload_n 1, 1), (1, .invokestatic 30, 3), (4, .aload_n 0, 1), (5, .getfield 11, 3), (8, .iload_n 1, 1), (9, .aaload, 1), (10, .getfield 103, 3), (13, .ireturn, 1)]
theorem dmU_sure : tmU_sure.all (fun q => decide (decode (zg_cc mU_sure) q.1 = .ok q.2)) = true := by decide +kernel
def tmU_bound : List (Nat × Instr × Nat) := [(0, .iload_n 1, 1), (1, .invokestatic 30, 3), (4, .iload_n 2, 1), (5, .ifCond .eq 18, 3), (8, .iload_n 2, 1), (9, .iconst 1, 1), (10, .if_icmp .eq 13, 3), (13, .new 38, 3), (16, .dup, 1), (17, .ldc 107, 2), (19, .invokespecial 42, 3), (22, .athrow, 1), (23, .aload_n 0, 1), (24, .getfield 11, 3), (27, .iload_n 1, 1), (28, .aaload, 1), (29, .getfield 103, 3), (32, .ifCond .ne 13, 3), (35, .new 53, 3), (38, .dup, 1), (39, .ldc 109, 2), (41, .invokespecial 57, 3), (44, .athrow, 1), (45, .aload_n 0, 1), (46, .getfield 11, 3), (49, .iload_n 1, 1), (50, .aaload, 1), (51, .getfield 111, 3), (54, .lreturn, 1)]
theorem dmU_bound : tmU_bound.all (fun q => decide (decode (zg_cc mU_bound) q.1 = .ok q.2)) = true := by decide +kernel
def tmU_instruct : List (Nat × Instr × Nat) := [(0, .iload_n 1, 1), (1, .invokestatic 115, 3), (4, .ifCond .ne 13, 3), (7, .new 118, 3), (10, .dup, 1), (11, .ldc 120, 2), (13, .invokespecial 122, 3), (16, .athrow, 1), (17, .iload_n 2, 1), (18, .iload_n 3, 1), (19, .iload 4, 2), (21, .iload 5, 2), (23, .invokestatic 123, 3), (26, .ifCond .ne 13, 3), (29, .new 38, 3), (32, .dup, 1), (33, .ldc 127, 2), (35, .invokespecial 42, 3), (38, .athrow, 1), (39, .aload_n 0, 1), (40, .getfield 17, 3), (43, .iload_n 1, 1), (44, .aaload, 1), (45, .iload_n 2, 1), (46, .iload_n 3, 1), (47, .iload 4, 2), (49, .iload 5, 2), (51, .invokevirtual 129, 3), (54, .return_, 1)]
theorem dmU_instruct : tmU_instruct.all (fun q => decide (decode (zg_cc mU_instruct) q.1 = .ok q.2)) = true := by decide +kernel
def tmU_isInstruction : List (Nat × Instr × Nat) := [(0, .iload_n 0, 1), (1, .ifCond .lt 13, 3), (4, .iload_n 0, 1), (5, .bipush 32, 2), (7, .if_icmp .ge 7, 3), (10, .iconst 1, 1), (11, .goto 4, 3), (14, .iconst 0, 1), (15, .ireturn, 1)]
theorem dmU_isInstruction : tmU_isInstruction.all (fun q => decide (decode (zg_cc mU_isInstruction) q.1 = .ok q.2)) = true := by decide +kernel
def tmU_isAllowed : List (Nat × Instr × Nat) := [(0, .iload_n 0, 1), (1, .tableswitch 206 0 11 #[63, 65, 65, 65, 65, 92, 119, 139, 144, 164, 139, 181], 63), (64, .iconst 1, 1), (65, .ireturn, 1), (66, .iload_n 1, 1), (67, .invokestatic 142, 3), (70, .ifCond .eq 21, 3), (73, .iload_n 2, 1), (74, .invokestatic 142, 3), (77, .ifCond .eq 14, 3), (80, .iload_n 3, 1), (81, .invokestatic 142, 3), (84, .ifCond .eq 7, 3), (87, .iconst 1, 1), (88, .goto 4, 3), (91, .iconst 0, 1), (92, .ireturn, 1), (93, .iload_n 1, 1), (94, .invokestatic 142, 3), (97, .ifCond .eq 21, 3), (100, .iload_n 2, 1), (101, .invokestatic 142, 3), (104, .ifCond .eq 14, 3), (107, .iload_n 3, 1), (108, .invokestatic 68, 3), (111, .ifCond .eq 7, 3), (114, .iconst 1, 1), (115, .goto 4, 3), (118, .iconst 0, 1), (119, .ireturn, 1), (120, .iload_n 1, 1), (121, .invokestatic 142, 3), (124, .ifCond .eq 14, 3), (127, .iload_n 2, 1), (128, .invokestatic 142, 3), (131, .ifCond .eq 7, 3), (134, .iconst 1, 1), (135, .goto 4, 3), (138, .iconst 0, 1), (139, .ireturn, 1), (140, .iload_n 1, 1), (141, .invokestatic 115, 3), (144, .ireturn, 1), (145, .iload_n 1, 1), (146, .invokestatic 142, 3), (149, .ifCond .eq 14, 3), (152, .iload_n 2, 1), (153, .invokestatic 115, 3), (156, .ifCond .eq 7, 3), (159, .iconst 1, 1), (160, .goto 4, 3), (163, .iconst 0, 1), (164, .ireturn, 1), (165, .iload_n 1, 1), (166, .ifCond .lt 14, 3), (169, .iload_n 1, 1), (170, .sipush 1000, 3), (173, .if_icmp .gt 7, 3), (176, .iconst 1, 1), (177, .goto 4, 3), (180, .iconst 0, 1), (181, .ireturn, 1), (182, .iload_n 1, 1), (183, .invokestatic 142, 3), (186, .ifCond .eq 19, 3), (189, .iload_n 2, 1), (190, .bipush (-128), 2), (192, .if_icmp .lt 13, 3), (195, .iload_n 2, 1), (196, .bipush 127, 2), (198, .if_icmp .gt 7, 3), (201, .iconst 1, 1), (202, .goto 4, 3), (205, .iconst 0, 1), (206, .ireturn, 1), (207, .iconst 0, 1), (208, .ireturn, 1)]
theorem dmU_isAllowed : tmU_isAllowed.all (fun q => decide (decode (zg_cc mU_isAllowed) q.1 = .ok q.2)) = true := by decide +kernel
def tmI_become : List (Nat × Instr × Nat) := [(0, .aload_n 0, 1), (1, .iload_n 1, 1), (2, .putfield 9, 3), (5, .aload_n 0, 1), (6, .iload_n 2, 1), (7, .putfield 15, 3), (10, .aload_n 0, 1), (11, .iload_n 3, 1), (12, .putfield 18, 3), (15, .aload_n 0, 1), (16, .iload 4, 2), (18, .putfield 21, 3), (21, .return_, 1)]
theorem dmI_become : tmI_become.all (fun q => decide (decode (zg_cc mI_become) q.1 = .ok q.2)) = true := by decide +kernel
def tmU_run : List (Nat × Instr × Nat) := [(0, .iload_n 1, 1), (1, .ifCond .lt 10, 3), (4, .iload_n 1, 1), (5, .sipush 2000, 3), (8, .if_icmp .le 13, 3), (11, .new 38, 3), (14, .dup, 1), (15, .ldc 133, 2), (17, .invokespecial 42, 3), (20, .athrow, 1), (21, .aload_n 0, 1), (22, .iconst 0, 1), (23, .putfield 21, 3), (26, .iconst 0, 1), (27, .istore_n 2, 1), (28, .iconst 0, 1), (29, .istore_n 3, 1), (30, .iload_n 3, 1), (31, .iload_n 1, 1), (32, .if_icmp .ge 22, 3), (35, .iload_n 2, 1), (36, .invokestatic 115, 3), (39, .ifCond .eq 15, 3), (42, .aload_n 0, 1), (43, .iload_n 2, 1), (44, .invokevirtual 135, 3), (47, .istore_n 2, 1), (48, .iinc 3 1, 3), (51, .goto (-21), 3), (54, .aload_n 0, 1), (55, .iload_n 2, 1), (56, .invokestatic 139, 3), (59, .putfield 25, 3), (62, .iload_n 3, 1), (63, .ireturn, 1)]
theorem dmU_run : tmU_run.all (fun q => decide (decode (zg_cc mU_run) q.1 = .ok q.2)) = true := by decide +kernel
def tmU_step : List (Nat × Instr × Nat) := [(0, .aload_n 0, 1), (1, .getfield 17, 3), (4, .iload_n 1, 1), (5, .aaload, 1), (6, .astore_n 2, 1), (7, .aload_n 2, 1), (8, .getfield 158, 3), (11, .tableswitch 132 0 10 #[57, 132, 132, 132, 132, 132, 132, 59, 64, 92, 104], 57), (68, .iconst (-1), 1), (69, .ireturn, 1), (70, .aload_n 2, 1), (71, .getfield 161, 3), (74, .ireturn, 1), (75, .aload_n 0, 1), (76, .getfield 11, 3), (79, .aload_n 2, 1), (80, .getfield 161, 3), (83, .aaload, 1), (84, .invokevirtual 58, 3), (87, .lconst 0, 1), (88, .lcmp, 1), (89, .ifCond .ge 10, 3), (92, .aload_n 2, 1), (93, .getfield 164, 3), (96, .goto 6, 3), (99, .iload_n 1, 1), (100, .iconst 1, 1), (101, .iadd, 1), (102, .ireturn, 1), (103, .aload_n 0, 1), (104, .aload_n 2, 1), (105, .getfield 161, 3), (108, .putfield 21, 3), (111, .iload_n 1, 1), (112, .iconst 1, 1), (113, .iadd, 1), (114, .ireturn, 1), (115, .aload_n 0, 1), (116, .dup, 1), (117, .getfield 21, 3), (120, .iconst 1, 1), (121, .isub, 1), (122, .putfield 21, 3), (125, .aload_n 0, 1), (126, .getfield 21, 3), (129, .ifCond .eq 10, 3), (132, .aload_n 2, 1), (133, .getfield 161, 3), (136, .goto 6, 3), (139, .iload_n 1, 1), (140, .iconst 1, 1), (141, .iadd, 1), (142, .ireturn, 1), (143, .aload_n 0, 1), (144, .aload_n 2, 1), (145, .invokevirtual 167, 3), (148, .iload_n 1, 1), (149, .iconst 1, 1), (150, .iadd, 1), (151, .ireturn, 1)]
theorem dmU_step : tmU_step.all (fun q => decide (decode (zg_cc mU_step) q.1 = .ok q.2)) = true := by decide +kernel
def tmU_calculate : List (Nat × Instr × Nat) := [(0, .aload_n 1, 1), (1, .getfield 158, 3), (4, .lookupswitch 100 #[(5, 36), (6, 56), (11, 80)], 36), (40, .aload_n 0, 1), (41, .aload_n 1, 1), (42, .getfield 161, 3), (45, .aload_n 1, 1), (46, .getfield 164, 3), (49, .aload_n 1, 1), (50, .getfield 171, 3), (53, .iconst 0, 1), (54, .invokevirtual 74, 3), (57, .goto 83, 3), (60, .aload_n 0, 1), (61, .getfield 11, 3), (64, .aload_n 1, 1), (65, .getfield 161, 3), (68, .aaload, 1), (69, .aload_n 0, 1), (70, .getfield 11, 3), (73, .aload_n 1, 1), (74, .getfield 164, 3), (77, .aaload, 1), (78, .invokevirtual 174, 3), (81, .goto 59, 3), (84, .aload_n 0, 1), (85, .getfield 11, 3), (88, .aload_n 1, 1), (89, .getfield 161, 3), (92, .aaload, 1), (93, .aload_n 1, 1), (94, .getfield 164, 3), (97, .i2l, 1), (98, .invokevirtual 45, 3), (101, .goto 39, 3), (104, .aload_n 0, 1), (105, .getfield 11, 3), (108, .aload_n 1, 1), (109, .getfield 161, 3), (112, .aaload, 1), (113, .aload_n 1, 1), (114, .getfield 158, 3), (117, .iconst 1, 1), (118, .isub, 1), (119, .aload_n 0, 1), (120, .getfield 11, 3), (123, .aload_n 1, 1), (124, .getfield 164, 3), (127, .aaload, 1), (128, .aload_n 0, 1), (129, .getfield 11, 3), (132, .aload_n 1, 1), (133, .getfield 171, 3), (136, .aaload, 1), (137, .invokevirtual 64, 3), (140, .return_, 1)]
theorem dmU_calculate : tmU_calculate.all (fun q => decide (decode (zg_cc mU_calculate) q.1 = .ok q.2)) = true := by decide +kernel
def tmR_copyFrom : List (Nat × Instr × Nat) := [(0, .aload_n 1, 1), (1, .getfield 9, 3), (4, .iconst 0, 1), (5, .aload_n 0, 1), (6, .getfield 9, 3), (9, .iconst 0, 1), (10, .bipush 8, 2), (12, .invokestatic 27, 3), (15, .aload_n 0, 1), (16, .aload_n 1, 1), (17, .getfield 15, 3), (20, .putfield 15, 3), (23, .aload_n 0, 1), (24, .aload_n 1, 1), (25, .getfield 19, 3), (28, .putfield 19, 3), (31, .return_, 1)]
theorem dmR_copyFrom : tmR_copyFrom.all (fun q => decide (decode (zg_cc mR_copyFrom) q.1 = .ok q.2)) = true := by decide +kernel
def tmU_reasonAt : List (Nat × Instr × Nat) := [(0, .iload_n 0, 1), (1, .iconst (-1), 1), (2, .if_icmp .ne 5, 3), (5, .iconst 1, 1), (6, .ireturn, 1), (7, .iload_n 0, 1), (8, .invokestatic 115, 3), (11, .ifCond .eq 7, 3), (14, .iconst 3, 1), (15, .goto 4, 3), (18, .iconst 2, 1), (19, .ireturn, 1)]
theorem dmU_reasonAt : tmU_reasonAt.all (fun q => decide (decode (zg_cc mU_reasonAt) q.1 = .ok q.2)) = true := by decide +kernel
end
section
/-! numbers: longs and ints that are integers; the residue number system of the document -/
def mz_L (a : Int) : Int64 := Int64.ofInt a
theorem mz_add (a b : Int) : mz_L a + mz_L b = mz_L (a + b) := (Int64.ofInt_add a b).symm
theorem mz_sub (a b : Int) : mz_L a - mz_L b = mz_L (a - b) := (Int64.ofInt_sub a b).symm
theorem mz_mul (a b : Int) : mz_L a * mz_L b = mz_L (a * b) := (Int64.ofInt_mul a b).symm
theorem mz_neg (a : Int) : -mz_L a = mz_L (-a) := (Int64.ofInt_neg a).symm
theorem mz_int {a : Int} (h1 : -9223372036854775808 ≤ a) (h2 : a < 9223372036854775808) : (mz_L a).toInt = a := by
  have h : (2 : Int) ^ 63 = 9223372036854775808 := by decide
  exact Int64.toInt_ofInt_of_le (by omega) (by omega)
def mz_in (a : Int) : Prop := -4000000000000000000 ≤ a ∧ a ≤ 4000000000000000000
theorem mz_inI {a : Int} (h : mz_in a) : (mz_L a).toInt = a := mz_int (by have := h.1; omega) (by have := h.2; omega)
theorem mz_lt {a b : Int} (ha : mz_in a) (hb : mz_in b) : mz_L a < mz_L b ↔ a < b := by rw [Int64.lt_iff_toInt_lt, mz_inI ha, mz_inI hb]
theorem mz_le {a b : Int} (ha : mz_in a) (hb : mz_in b) : mz_L a ≤ mz_L b ↔ a ≤ b := by rw [Int64.le_iff_toInt_le, mz_inI ha, mz_inI hb]
theorem mz_eq {a b : Int} (ha : mz_in a) (hb : mz_in b) : mz_L a = mz_L b ↔ a = b := by rw [← Int64.toInt_inj, mz_inI ha, mz_inI hb]
theorem mz_cmp {a b : Int} (ha : mz_in a) (hb : mz_in b) : lg_cmp (mz_L a) (mz_L b) = if b < a then 1 else if a = b then 0 else -1 := by
  unfold lg_cmp
  simp only [gt_iff_lt, mz_lt hb ha, mz_eq ha hb]
theorem mz_tdiv_in {a : Int} (b : Int) (ha : mz_in a) : mz_in (a.tdiv b) := by
  have h := Int.natAbs_tdiv_le_natAbs a b
  have h1 := ha.1
  have h2 := ha.2
  unfold mz_in
  omega
theorem mz_div {a b : Int} (ha : mz_in a) (hb : mz_in b) : mz_L a / mz_L b = mz_L (a.tdiv b) := by
  apply Int64.toInt_inj.1
  rw [Int64.toInt_div_of_ne_left, mz_inI ha, mz_inI hb, mz_inI (mz_tdiv_in b ha)]
  intro h
  have h2 := congrArg Int64.toInt h
  rw [mz_inI ha] at h2
  have h3 : Int64.minValue.toInt = -9223372036854775808 := by decide
  have := ha.1
  omega
theorem mz_rem {a b : Int} (ha : mz_in a) (hb : mz_in b) : mz_L a - mz_L a / mz_L b * mz_L b = mz_L (a.tmod b) := by
  rw [mz_div ha hb, mz_mul, mz_sub, Int.tmod_def, Int.mul_comm]
theorem mz_i2l {n : Nat} (h : n < 2 ^ 31) : (nI n).toInt64 = mz_L (n : Int) := by rw [nI_l h]; exact Int64.ofInt_eq_ofNat.symm
theorem mz_l2i (n : Nat) : (mz_L (n : Int)).toInt32 = nI n := by
  unfold mz_L nI
  rw [Int64.toInt32_ofInt, Int32.ofInt_eq_ofNat]
theorem mz_sign (x : Int64) : x < 0 ↔ x.toBitVec.msb = true := by
  rw [Int64.lt_iff_toInt_lt]
  show x.toBitVec.toInt < (0 : Int64).toInt ↔ _
  rw [show (0 : Int64).toInt = 0 from rfl, BitVec.toInt_neg_iff, BitVec.msb_eq_decide, decide_eq_true_eq]
  omega
theorem mz_xor (x y : Int64) : (x ^^^ y) < 0 ↔ ((x < 0) ↔ ¬ (y < 0)) := by
  rw [mz_sign, mz_sign, mz_sign, Int64.toBitVec_xor, BitVec.msb_xor]
  cases x.toBitVec.msb <;> cases y.toBitVec.msb <;> simp
theorem mz_fmod {a b : Int} (hb : 0 < b) : (if a.tmod b < 0 then a.tmod b + b else a.tmod b) = a % b := by
  have h1 := Int.emod_nonneg a (show b ≠ 0 by omega)
  have h2 := Int.emod_lt_of_pos a hb
  rw [Int.tmod_eq_emod]
  split <;> split <;> omega
def mz_m (k : Nat) : Nat := match k with
  | 0 => 251
  | 1 => 241
  | 2 => 239
  | 3 => 233
  | 4 => 229
  | 5 => 227
  | 6 => 256
  | _ => 255
def mz_w (k : Nat) : Nat := match k with
  | 0 => 35579708052411
  | 1 => 51587826637541
  | 2 => 114296418779244
  | 3 => 174356438551544
  | 4 => 16822600211098
  | _ => 132680932541996
def mz_iv (k : Nat) : Nat := match k with
  | 0 => 233
  | 1 => 187
  | 2 => 229
  | 3 => 99
  | 4 => 183
  | _ => 225
theorem mz_m_lt : ∀ k, mz_m k ≤ 256 ∧ 0 < mz_m k := by
  intro k
  unfold mz_m
  split <;> decide
def mz_sum (ρ : Nat → Nat) : Nat → Nat
  | 0 => 0
  | n + 1 => mz_sum ρ n + ρ n * mz_w n
def mz_V (a b c d e f : Nat) : Int := if (((a * 35579708052411 + b * 51587826637541 + c * 114296418779244 + d * 174356438551544 + e * 16822600211098 + f * 132680932541996) % 175107974924611 : Nat) : Int) > 87553987462305 then (((a * 35579708052411 + b * 51587826637541 + c * 114296418779244 + d * 174356438551544 + e * 16822600211098 + f * 132680932541996) % 175107974924611 : Nat) : Int) - 175107974924611 else (((a * 35579708052411 + b * 51587826637541 + c * 114296418779244 + d * 174356438551544 + e * 16822600211098 + f * 132680932541996) % 175107974924611 : Nat) : Int)
def mz_val (ρ : Nat → Nat) : Int := mz_V (ρ 0) (ρ 1) (ρ 2) (ρ 3) (ρ 4) (ρ 5)
theorem mz_val_sum (ρ : Nat → Nat) : mz_val ρ = if ((mz_sum ρ 6 % 175107974924611 : Nat) : Int) > 87553987462305 then ((mz_sum ρ 6 % 175107974924611 : Nat) : Int) - 175107974924611 else ((mz_sum ρ 6 % 175107974924611 : Nat) : Int) := by
  simp only [mz_val, mz_V, mz_sum, mz_w, Nat.zero_add]
theorem mz_V_in (a b c d e f : Nat) : -87553987462305 ≤ mz_V a b c d e f ∧ mz_V a b c d e f ≤ 87553987462305 := by
  unfold mz_V
  split <;> omega
theorem mz_V_m0 {a b c d e f : Nat} (h : a < 251) : mz_V a b c d e f % 251 = a := by
  unfold mz_V
  split <;> omega
theorem mz_V_m1 {a b c d e f : Nat} (h : b < 241) : mz_V a b c d e f % 241 = b := by
  unfold mz_V
  split <;> omega
theorem mz_V_m2 {a b c d e f : Nat} (h : c < 239) : mz_V a b c d e f % 239 = c := by
  unfold mz_V
  split <;> omega
theorem mz_V_m3 {a b c d e f : Nat} (h : d < 233) : mz_V a b c d e f % 233 = d := by
  unfold mz_V
  split <;> omega
theorem mz_V_m4 {a b c d e f : Nat} (h : e < 229) : mz_V a b c d e f % 229 = e := by
  unfold mz_V
  split <;> omega
theorem mz_V_m5 {a b c d e f : Nat} (h : f < 227) : mz_V a b c d e f % 227 = f := by
  unfold mz_V
  split <;> omega
theorem mz_V_s0 (a b c d e f v : Nat) : ∃ z : Int, mz_V v b c d e f = mz_V a b c d e f + 697641334361 * z := by
  obtain ⟨p, hp⟩ : ∃ p, p = a * 35579708052411 + b * 51587826637541 + c * 114296418779244 + d * 174356438551544 + e * 16822600211098 + f * 132680932541996 := ⟨_, rfl⟩
  obtain ⟨q, hq⟩ : ∃ q, q = v * 35579708052411 + b * 51587826637541 + c * 114296418779244 + d * 174356438551544 + e * 16822600211098 + f * 132680932541996 := ⟨_, rfl⟩
  unfold mz_V
  rw [← hp, ← hq]
  have hpq : (q : Int) = p + 697641334361 * (51 * ((v : Int) - a)) := by omega
  have h1 : ((p % 175107974924611 : Nat) : Int) = p - 175107974924611 * (p / 175107974924611 : Nat) := by omega
  have h2 : ((q % 175107974924611 : Nat) : Int) = q - 175107974924611 * (q / 175107974924611 : Nat) := by omega
  rw [h1, h2]
  split <;> split
  · exact ⟨51 * ((v : Int) - a) - 251 * (q / 175107974924611 : Nat) + 251 * (p / 175107974924611 : Nat), by omega⟩
  · exact ⟨51 * ((v : Int) - a) - 251 * (q / 175107974924611 : Nat) + 251 * (p / 175107974924611 : Nat) - 251, by omega⟩
  · exact ⟨51 * ((v : Int) - a) - 251 * (q / 175107974924611 : Nat) + 251 * (p / 175107974924611 : Nat) + 251, by omega⟩
  · exact ⟨51 * ((v : Int) - a) - 251 * (q / 175107974924611 : Nat) + 251 * (p / 175107974924611 : Nat), by omega⟩
theorem mz_uq0 {V X N : Int} {r : Nat} {z : Int} (hr : r < 256) (hX : X = V + 697641334361 * z) (h1 : -87553987462305 ≤ X) (h2 : X ≤ 87553987462305) (h6 : X % 256 = r) (hN : N = ((V + 87553987462305) % 697641334361 - 87553987462305) + (((r : Int) - ((V + 87553987462305) % 697641334361 - 87553987462305)) * 233) % 256 * 697641334361) : X = N := by
  obtain ⟨g, hg⟩ : ∃ g, g = (V + 87553987462305) % 697641334361 - 87553987462305 := ⟨_, rfl⟩
  rw [← hg] at hN
  obtain ⟨s, hs⟩ : ∃ s : Int, X = g + 697641334361 * s := ⟨(X - g) / 697641334361, by omega⟩
  have hs0 : 0 ≤ s := by omega
  have hs1 : s < 251 := by omega
  have ht : (((r : Int) - g) * 233) % 256 = s := by omega
  rw [ht] at hN
  omega
theorem mz_ex0 {V X N : Int} {r : Nat} {z : Int} (hX : X = V + 697641334361 * z) (h1 : -87553987462305 ≤ X) (h2 : X ≤ 87553987462305) (n1 : -87553987462305 ≤ N) (n2 : N ≤ 87553987462305) (hm : X % 251 = N % 251) (hN : N = ((V + 87553987462305) % 697641334361 - 87553987462305) + (((r : Int) - ((V + 87553987462305) % 697641334361 - 87553987462305)) * 233) % 256 * 697641334361) : X = N := by
  obtain ⟨t, ht⟩ : ∃ t, t = (((r : Int) - ((V + 87553987462305) % 697641334361 - 87553987462305)) * 233) % 256 := ⟨_, rfl⟩
  rw [← ht] at hN
  clear ht
  obtain ⟨s, hs⟩ : ∃ s : Int, X = N + 697641334361 * s := ⟨(V + 87553987462305) / 697641334361 + z - t, by
    have h := Int.emod_add_mul_ediv (V + 87553987462305) 697641334361
    omega⟩
  have hs1 : -251 < s := by omega
  have hs2 : s < 251 := by omega
  clear hN hX
  omega
theorem mz_V_s1 (a b c d e f v : Nat) : ∃ z : Int, mz_V a v c d e f = mz_V a b c d e f + 726589107571 * z := by
  obtain ⟨p, hp⟩ : ∃ p, p = a * 35579708052411 + b * 51587826637541 + c * 114296418779244 + d * 174356438551544 + e * 16822600211098 + f * 132680932541996 := ⟨_, rfl⟩
  obtain ⟨q, hq⟩ : ∃ q, q = a * 35579708052411 + v * 51587826637541 + c * 114296418779244 + d * 174356438551544 + e * 16822600211098 + f * 132680932541996 := ⟨_, rfl⟩
  unfold mz_V
  rw [← hp, ← hq]
  have hpq : (q : Int) = p + 726589107571 * (71 * ((v : Int) - b)) := by omega
  have h1 : ((p % 175107974924611 : Nat) : Int) = p - 175107974924611 * (p / 175107974924611 : Nat) := by omega
  have h2 : ((q % 175107974924611 : Nat) : Int) = q - 175107974924611 * (q / 175107974924611 : Nat) := by omega
  rw [h1, h2]
  split <;> split
  · exact ⟨71 * ((v : Int) - b) - 241 * (q / 175107974924611 : Nat) + 241 * (p / 175107974924611 : Nat), by omega⟩
  · exact ⟨71 * ((v : Int) - b) - 241 * (q / 175107974924611 : Nat) + 241 * (p / 175107974924611 : Nat) - 241, by omega⟩
  · exact ⟨71 * ((v : Int) - b) - 241 * (q / 175107974924611 : Nat) + 241 * (p / 175107974924611 : Nat) + 241, by omega⟩
  · exact ⟨71 * ((v : Int) - b) - 241 * (q / 175107974924611 : Nat) + 241 * (p / 175107974924611 : Nat), by omega⟩
theorem mz_uq1 {V X N : Int} {r : Nat} {z : Int} (hr : r < 256) (hX : X = V + 726589107571 * z) (h1 : -87553987462305 ≤ X) (h2 : X ≤ 87553987462305) (h6 : X % 256 = r) (hN : N = ((V + 87553987462305) % 726589107571 - 87553987462305) + (((r : Int) - ((V + 87553987462305) % 726589107571 - 87553987462305)) * 187) % 256 * 726589107571) : X = N := by
  obtain ⟨g, hg⟩ : ∃ g, g = (V + 87553987462305) % 726589107571 - 87553987462305 := ⟨_, rfl⟩
  rw [← hg] at hN
  obtain ⟨s, hs⟩ : ∃ s : Int, X = g + 726589107571 * s := ⟨(X - g) / 726589107571, by omega⟩
  have hs0 : 0 ≤ s := by omega
  have hs1 : s < 241 := by omega
  have ht : (((r : Int) - g) * 187) % 256 = s := by omega
  rw [ht] at hN
  omega
theorem mz_ex1 {V X N : Int} {r : Nat} {z : Int} (hX : X = V + 726589107571 * z) (h1 : -87553987462305 ≤ X) (h2 : X ≤ 87553987462305) (n1 : -87553987462305 ≤ N) (n2 : N ≤ 87553987462305) (hm : X % 241 = N % 241) (hN : N = ((V + 87553987462305) % 726589107571 - 87553987462305) + (((r : Int) - ((V + 87553987462305) % 726589107571 - 87553987462305)) * 187) % 256 * 726589107571) : X = N := by
  obtain ⟨t, ht⟩ : ∃ t, t = (((r : Int) - ((V + 87553987462305) % 726589107571 - 87553987462305)) * 187) % 256 := ⟨_, rfl⟩
  rw [← ht] at hN
  clear ht
  obtain ⟨s, hs⟩ : ∃ s : Int, X = N + 726589107571 * s := ⟨(V + 87553987462305) / 726589107571 + z - t, by
    have h := Int.emod_add_mul_ediv (V + 87553987462305) 726589107571
    omega⟩
  have hs1 : -241 < s := by omega
  have hs2 : s < 241 := by omega
  clear hN hX
  omega
theorem mz_V_s2 (a b c d e f v : Nat) : ∃ z : Int, mz_V a b v d e f = mz_V a b c d e f + 732669351149 * z := by
  obtain ⟨p, hp⟩ : ∃ p, p = a * 35579708052411 + b * 51587826637541 + c * 114296418779244 + d * 174356438551544 + e * 16822600211098 + f * 132680932541996 := ⟨_, rfl⟩
  obtain ⟨q, hq⟩ : ∃ q, q = a * 35579708052411 + b * 51587826637541 + v * 114296418779244 + d * 174356438551544 + e * 16822600211098 + f * 132680932541996 := ⟨_, rfl⟩
  unfold mz_V
  rw [← hp, ← hq]
  have hpq : (q : Int) = p + 732669351149 * (156 * ((v : Int) - c)) := by omega
  have h1 : ((p % 175107974924611 : Nat) : Int) = p - 175107974924611 * (p / 175107974924611 : Nat) := by omega
  have h2 : ((q % 175107974924611 : Nat) : Int) = q - 175107974924611 * (q / 175107974924611 : Nat) := by omega
  rw [h1, h2]
  split <;> split
  · exact ⟨156 * ((v : Int) - c) - 239 * (q / 175107974924611 : Nat) + 239 * (p / 175107974924611 : Nat), by omega⟩
  · exact ⟨156 * ((v : Int) - c) - 239 * (q / 175107974924611 : Nat) + 239 * (p / 175107974924611 : Nat) - 239, by omega⟩
  · exact ⟨156 * ((v : Int) - c) - 239 * (q / 175107974924611 : Nat) + 239 * (p / 175107974924611 : Nat) + 239, by omega⟩
  · exact ⟨156 * ((v : Int) - c) - 239 * (q / 175107974924611 : Nat) + 239 * (p / 175107974924611 : Nat), by omega⟩
theorem mz_uq2 {V X N : Int} {r : Nat} {z : Int} (hr : r < 256) (hX : X = V + 732669351149 * z) (h1 : -87553987462305 ≤ X) (h2 : X ≤ 87553987462305) (h6 : X % 256 = r) (hN : N = ((V + 87553987462305) % 732669351149 - 87553987462305) + (((r : Int) - ((V + 87553987462305) % 732669351149 - 87553987462305)) * 229) % 256 * 732669351149) : X = N := by
  obtain ⟨g, hg⟩ : ∃ g, g = (V + 87553987462305) % 732669351149 - 87553987462305 := ⟨_, rfl⟩
  rw [← hg] at hN
  obtain ⟨s, hs⟩ : ∃ s : Int, X = g + 732669351149 * s := ⟨(X - g) / 732669351149, by omega⟩
  have hs0 : 0 ≤ s := by omega
  have hs1 : s < 239 := by omega
  have ht : (((r : Int) - g) * 229) % 256 = s := by omega
  rw [ht] at hN
  omega
theorem mz_ex2 {V X N : Int} {r : Nat} {z : Int} (hX : X = V + 732669351149 * z) (h1 : -87553987462305 ≤ X) (h2 : X ≤ 87553987462305) (n1 : -87553987462305 ≤ N) (n2 : N ≤ 87553987462305) (hm : X % 239 = N % 239) (hN : N = ((V + 87553987462305) % 732669351149 - 87553987462305) + (((r : Int) - ((V + 87553987462305) % 732669351149 - 87553987462305)) * 229) % 256 * 732669351149) : X = N := by
  obtain ⟨t, ht⟩ : ∃ t, t = (((r : Int) - ((V + 87553987462305) % 732669351149 - 87553987462305)) * 229) % 256 := ⟨_, rfl⟩
  rw [← ht] at hN
  clear ht
  obtain ⟨s, hs⟩ : ∃ s : Int, X = N + 732669351149 * s := ⟨(V + 87553987462305) / 732669351149 + z - t, by
    have h := Int.emod_add_mul_ediv (V + 87553987462305) 732669351149
    omega⟩
  have hs1 : -239 < s := by omega
  have hs2 : s < 239 := by omega
  clear hN hX
  omega
theorem mz_V_s3 (a b c d e f v : Nat) : ∃ z : Int, mz_V a b c v e f = mz_V a b c d e f + 751536373067 * z := by
  obtain ⟨p, hp⟩ : ∃ p, p = a * 35579708052411 + b * 51587826637541 + c * 114296418779244 + d * 174356438551544 + e * 16822600211098 + f * 132680932541996 := ⟨_, rfl⟩
  obtain ⟨q, hq⟩ : ∃ q, q = a * 35579708052411 + b * 51587826637541 + c * 114296418779244 + v * 174356438551544 + e * 16822600211098 + f * 132680932541996 := ⟨_, rfl⟩
  unfold mz_V
  rw [← hp, ← hq]
  have hpq : (q : Int) = p + 751536373067 * (232 * ((v : Int) - d)) := by omega
  have h1 : ((p % 175107974924611 : Nat) : Int) = p - 175107974924611 * (p / 175107974924611 : Nat) := by omega
  have h2 : ((q % 175107974924611 : Nat) : Int) = q - 175107974924611 * (q / 175107974924611 : Nat) := by omega
  rw [h1, h2]
  split <;> split
  · exact ⟨232 * ((v : Int) - d) - 233 * (q / 175107974924611 : Nat) + 233 * (p / 175107974924611 : Nat), by omega⟩
  · exact ⟨232 * ((v : Int) - d) - 233 * (q / 175107974924611 : Nat) + 233 * (p / 175107974924611 : Nat) - 233, by omega⟩
  · exact ⟨232 * ((v : Int) - d) - 233 * (q / 175107974924611 : Nat) + 233 * (p / 175107974924611 : Nat) + 233, by omega⟩
  · exact ⟨232 * ((v : Int) - d) - 233 * (q / 175107974924611 : Nat) + 233 * (p / 175107974924611 : Nat), by omega⟩
theorem mz_uq3 {V X N : Int} {r : Nat} {z : Int} (hr : r < 256) (hX : X = V + 751536373067 * z) (h1 : -87553987462305 ≤ X) (h2 : X ≤ 87553987462305) (h6 : X % 256 = r) (hN : N = ((V + 87553987462305) % 751536373067 - 87553987462305) + (((r : Int) - ((V + 87553987462305) % 751536373067 - 87553987462305)) * 99) % 256 * 751536373067) : X = N := by
  obtain ⟨g, hg⟩ : ∃ g, g = (V + 87553987462305) % 751536373067 - 87553987462305 := ⟨_, rfl⟩
  rw [← hg] at hN
  obtain ⟨s, hs⟩ : ∃ s : Int, X = g + 751536373067 * s := ⟨(X - g) / 751536373067, by omega⟩
  have hs0 : 0 ≤ s := by omega
  have hs1 : s < 233 := by omega
  have ht : (((r : Int) - g) * 99) % 256 = s := by omega
  rw [ht] at hN
  omega
theorem mz_ex3 {V X N : Int} {r : Nat} {z : Int} (hX : X = V + 751536373067 * z) (h1 : -87553987462305 ≤ X) (h2 : X ≤ 87553987462305) (n1 : -87553987462305 ≤ N) (n2 : N ≤ 87553987462305) (hm : X % 233 = N % 233) (hN : N = ((V + 87553987462305) % 751536373067 - 87553987462305) + (((r : Int) - ((V + 87553987462305) % 751536373067 - 87553987462305)) * 99) % 256 * 751536373067) : X = N := by
  obtain ⟨t, ht⟩ : ∃ t, t = (((r : Int) - ((V + 87553987462305) % 751536373067 - 87553987462305)) * 99) % 256 := ⟨_, rfl⟩
  rw [← ht] at hN
  clear ht
  obtain ⟨s, hs⟩ : ∃ s : Int, X = N + 751536373067 * s := ⟨(V + 87553987462305) / 751536373067 + z - t, by
    have h := Int.emod_add_mul_ediv (V + 87553987462305) 751536373067
    omega⟩
  have hs1 : -233 < s := by omega
  have hs2 : s < 233 := by omega
  clear hN hX
  omega
theorem mz_V_s4 (a b c d e f v : Nat) : ∃ z : Int, mz_V a b c d v f = mz_V a b c d e f + 764663645959 * z := by
  obtain ⟨p, hp⟩ : ∃ p, p = a * 35579708052411 + b * 51587826637541 + c * 114296418779244 + d * 174356438551544 + e * 16822600211098 + f * 132680932541996 := ⟨_, rfl⟩
  obtain ⟨q, hq⟩ : ∃ q, q = a * 35579708052411 + b * 51587826637541 + c * 114296418779244 + d * 174356438551544 + v * 16822600211098 + f * 132680932541996 := ⟨_, rfl⟩
  unfold mz_V
  rw [← hp, ← hq]
  have hpq : (q : Int) = p + 764663645959 * (22 * ((v : Int) - e)) := by omega
  have h1 : ((p % 175107974924611 : Nat) : Int) = p - 175107974924611 * (p / 175107974924611 : Nat) := by omega
  have h2 : ((q % 175107974924611 : Nat) : Int) = q - 175107974924611 * (q / 175107974924611 : Nat) := by omega
  rw [h1, h2]
  split <;> split
  · exact ⟨22 * ((v : Int) - e) - 229 * (q / 175107974924611 : Nat) + 229 * (p / 175107974924611 : Nat), by omega⟩
  · exact ⟨22 * ((v : Int) - e) - 229 * (q / 175107974924611 : Nat) + 229 * (p / 175107974924611 : Nat) - 229, by omega⟩
  · exact ⟨22 * ((v : Int) - e) - 229 * (q / 175107974924611 : Nat) + 229 * (p / 175107974924611 : Nat) + 229, by omega⟩
  · exact ⟨22 * ((v : Int) - e) - 229 * (q / 175107974924611 : Nat) + 229 * (p / 175107974924611 : Nat), by omega⟩
theorem mz_uq4 {V X N : Int} {r : Nat} {z : Int} (hr : r < 256) (hX : X = V + 764663645959 * z) (h1 : -87553987462305 ≤ X) (h2 : X ≤ 87553987462305) (h6 : X % 256 = r) (hN : N = ((V + 87553987462305) % 764663645959 - 87553987462305) + (((r : Int) - ((V + 87553987462305) % 764663645959 - 87553987462305)) * 183) % 256 * 764663645959) : X = N := by
  obtain ⟨g, hg⟩ : ∃ g, g = (V + 87553987462305) % 764663645959 - 87553987462305 := ⟨_, rfl⟩
  rw [← hg] at hN
  obtain ⟨s, hs⟩ : ∃ s : Int, X = g + 764663645959 * s := ⟨(X - g) / 764663645959, by omega⟩
  have hs0 : 0 ≤ s := by omega
  have hs1 : s < 229 := by omega
  have ht : (((r : Int) - g) * 183) % 256 = s := by omega
  rw [ht] at hN
  omega
theorem mz_ex4 {V X N : Int} {r : Nat} {z : Int} (hX : X = V + 764663645959 * z) (h1 : -87553987462305 ≤ X) (h2 : X ≤ 87553987462305) (n1 : -87553987462305 ≤ N) (n2 : N ≤ 87553987462305) (hm : X % 229 = N % 229) (hN : N = ((V + 87553987462305) % 764663645959 - 87553987462305) + (((r : Int) - ((V + 87553987462305) % 764663645959 - 87553987462305)) * 183) % 256 * 764663645959) : X = N := by
  obtain ⟨t, ht⟩ : ∃ t, t = (((r : Int) - ((V + 87553987462305) % 764663645959 - 87553987462305)) * 183) % 256 := ⟨_, rfl⟩
  rw [← ht] at hN
  clear ht
  obtain ⟨s, hs⟩ : ∃ s : Int, X = N + 764663645959 * s := ⟨(V + 87553987462305) / 764663645959 + z - t, by
    have h := Int.emod_add_mul_ediv (V + 87553987462305) 764663645959
    omega⟩
  have hs1 : -229 < s := by omega
  have hs2 : s < 229 := by omega
  clear hN hX
  omega
theorem mz_V_s5 (a b c d e f v : Nat) : ∃ z : Int, mz_V a b c d e v = mz_V a b c d e f + 771400770593 * z := by
  obtain ⟨p, hp⟩ : ∃ p, p = a * 35579708052411 + b * 51587826637541 + c * 114296418779244 + d * 174356438551544 + e * 16822600211098 + f * 132680932541996 := ⟨_, rfl⟩
  obtain ⟨q, hq⟩ : ∃ q, q = a * 35579708052411 + b * 51587826637541 + c * 114296418779244 + d * 174356438551544 + e * 16822600211098 + v * 132680932541996 := ⟨_, rfl⟩
  unfold mz_V
  rw [← hp, ← hq]
  have hpq : (q : Int) = p + 771400770593 * (172 * ((v : Int) - f)) := by omega
  have h1 : ((p % 175107974924611 : Nat) : Int) = p - 175107974924611 * (p / 175107974924611 : Nat) := by omega
  have h2 : ((q % 175107974924611 : Nat) : Int) = q - 175107974924611 * (q / 175107974924611 : Nat) := by omega
  rw [h1, h2]
  split <;> split
  · exact ⟨172 * ((v : Int) - f) - 227 * (q / 175107974924611 : Nat) + 227 * (p / 175107974924611 : Nat), by omega⟩
  · exact ⟨172 * ((v : Int) - f) - 227 * (q / 175107974924611 : Nat) + 227 * (p / 175107974924611 : Nat) - 227, by omega⟩
  · exact ⟨172 * ((v : Int) - f) - 227 * (q / 175107974924611 : Nat) + 227 * (p / 175107974924611 : Nat) + 227, by omega⟩
  · exact ⟨172 * ((v : Int) - f) - 227 * (q / 175107974924611 : Nat) + 227 * (p / 175107974924611 : Nat), by omega⟩
theorem mz_uq5 {V X N : Int} {r : Nat} {z : Int} (hr : r < 256) (hX : X = V + 771400770593 * z) (h1 : -87553987462305 ≤ X) (h2 : X ≤ 87553987462305) (h6 : X % 256 = r) (hN : N = ((V + 87553987462305) % 771400770593 - 87553987462305) + (((r : Int) - ((V + 87553987462305) % 771400770593 - 87553987462305)) * 225) % 256 * 771400770593) : X = N := by
  obtain ⟨g, hg⟩ : ∃ g, g = (V + 87553987462305) % 771400770593 - 87553987462305 := ⟨_, rfl⟩
  rw [← hg] at hN
  obtain ⟨s, hs⟩ : ∃ s : Int, X = g + 771400770593 * s := ⟨(X - g) / 771400770593, by omega⟩
  have hs0 : 0 ≤ s := by omega
  have hs1 : s < 227 := by omega
  have ht : (((r : Int) - g) * 225) % 256 = s := by omega
  rw [ht] at hN
  omega
theorem mz_ex5 {V X N : Int} {r : Nat} {z : Int} (hX : X = V + 771400770593 * z) (h1 : -87553987462305 ≤ X) (h2 : X ≤ 87553987462305) (n1 : -87553987462305 ≤ N) (n2 : N ≤ 87553987462305) (hm : X % 227 = N % 227) (hN : N = ((V + 87553987462305) % 771400770593 - 87553987462305) + (((r : Int) - ((V + 87553987462305) % 771400770593 - 87553987462305)) * 225) % 256 * 771400770593) : X = N := by
  obtain ⟨t, ht⟩ : ∃ t, t = (((r : Int) - ((V + 87553987462305) % 771400770593 - 87553987462305)) * 225) % 256 := ⟨_, rfl⟩
  rw [← ht] at hN
  clear ht
  obtain ⟨s, hs⟩ : ∃ s : Int, X = N + 771400770593 * s := ⟨(V + 87553987462305) / 771400770593 + z - t, by
    have h := Int.emod_add_mul_ediv (V + 87553987462305) 771400770593
    omega⟩
  have hs1 : -227 < s := by omega
  have hs2 : s < 227 := by omega
  clear hN hX
  omega
def mz_st (k : Nat) : Int := match k with
  | 0 => 697641334361
  | 1 => 726589107571
  | 2 => 732669351149
  | 3 => 751536373067
  | 4 => 764663645959
  | _ => 771400770593
def mz_up (ρ : Nat → Nat) (k v : Nat) : Nat → Nat := fun j => if j = k then v else ρ j
def mz_ok (ρ : Nat → Nat) : Prop := ∀ j, j < 8 → ρ j < mz_m j
def mz_num (ρ : Nat → Nat) (k : Nat) : Int := ((mz_val ρ + 87553987462305) % mz_st k - 87553987462305) + (((ρ 6 : Int) - ((mz_val ρ + 87553987462305) % mz_st k - 87553987462305)) * (mz_iv k : Int)) % 256 * mz_st k
abbrev mz_fit (ρ : Nat → Nat) (n : Int) (skip : Nat) : Prop := (∀ j, j < 8 → j ≠ skip → n % (mz_m j : Int) = (ρ j : Int)) ∧ -87553987462305 ≤ n ∧ n ≤ 87553987462305
abbrev mz_good (ρ : Nat → Nat) : Prop := mz_val ρ % 256 = (ρ 6 : Int) ∧ mz_val ρ % 255 = (ρ 7 : Int)
abbrev mz_P (ρ : Nat → Nat) (k v : Nat) : Prop := mz_val (mz_up ρ k v) % 256 = (ρ 6 : Int) ∧ mz_val (mz_up ρ k v) % 255 = (ρ 7 : Int)
theorem mz_val_m {ρ : Nat → Nat} (hok : mz_ok ρ) : ∀ j, j < 6 → mz_val ρ % (mz_m j : Int) = (ρ j : Int)
  | 0, _ => mz_V_m0 (hok 0 (by decide))
  | 1, _ => mz_V_m1 (hok 1 (by decide))
  | 2, _ => mz_V_m2 (hok 2 (by decide))
  | 3, _ => mz_V_m3 (hok 3 (by decide))
  | 4, _ => mz_V_m4 (hok 4 (by decide))
  | 5, _ => mz_V_m5 (hok 5 (by decide))
  | j + 6, h => absurd h (by omega)
theorem mz_lt8 {P : Nat → Prop} (h0 : P 0) (h1 : P 1) (h2 : P 2) (h3 : P 3) (h4 : P 4) (h5 : P 5) (h6 : P 6) (h7 : P 7) : ∀ j, j < 8 → P j
  | 0, _ => h0
  | 1, _ => h1
  | 2, _ => h2
  | 3, _ => h3
  | 4, _ => h4
  | 5, _ => h5
  | 6, _ => h6
  | 7, _ => h7
  | j + 8, h => absurd h (by omega)
theorem mz_fit_val {ρ : Nat → Nat} (hok : mz_ok ρ) (s : Nat) (hs : 6 ≤ s) : mz_fit ρ (mz_val ρ) s ↔ ((6 ≠ s → mz_val ρ % 256 = (ρ 6 : Int)) ∧ (7 ≠ s → mz_val ρ % 255 = (ρ 7 : Int))) := by
  constructor
  · intro h
    exact ⟨fun h6 => h.1 6 (by decide) h6, fun h7 => h.1 7 (by decide) h7⟩
  · intro h
    refine ⟨mz_lt8 ?_ ?_ ?_ ?_ ?_ ?_ ?_ ?_, mz_V_in _ _ _ _ _ _⟩
    all_goals first | exact fun _ => mz_val_m hok _ (by decide) | exact h.1 | exact h.2
theorem mz_heal0 {ρ : Nat → Nat} {v : Nat} (hok : mz_ok ρ) (hv : v < 251) : mz_P ρ 0 v ↔ (mz_fit ρ (mz_num ρ 0) 0 ∧ (v : Int) = mz_num ρ 0 % 251) := by
  have hX : mz_val (mz_up ρ 0 v) = mz_V v (ρ 1) (ρ 2) (ρ 3) (ρ 4) (ρ 5) := rfl
  obtain ⟨z, hz⟩ := mz_V_s0 (ρ 0) (ρ 1) (ρ 2) (ρ 3) (ρ 4) (ρ 5) v
  have hin := mz_V_in v (ρ 1) (ρ 2) (ρ 3) (ρ 4) (ρ 5)
  have hN : mz_num ρ 0 = ((mz_V (ρ 0) (ρ 1) (ρ 2) (ρ 3) (ρ 4) (ρ 5) + 87553987462305) % 697641334361 - 87553987462305) + (((ρ 6 : Int) - ((mz_V (ρ 0) (ρ 1) (ρ 2) (ρ 3) (ρ 4) (ρ 5) + 87553987462305) % 697641334361 - 87553987462305)) * 233) % 256 * 697641334361 := rfl
  unfold mz_P
  rw [hX]
  constructor
  · rintro ⟨p6, p7⟩
    have e := mz_uq0 (hok 6 (by decide) : ρ 6 < 256) hz hin.1 hin.2 p6 hN
    rw [← e]
    exact ⟨⟨mz_lt8 (fun hn => absurd rfl hn) (fun _ => mz_V_m1 (hok 1 (by decide))) (fun _ => mz_V_m2 (hok 2 (by decide))) (fun _ => mz_V_m3 (hok 3 (by decide))) (fun _ => mz_V_m4 (hok 4 (by decide))) (fun _ => mz_V_m5 (hok 5 (by decide))) (fun _ => p6) (fun _ => p7), hin⟩, (mz_V_m0 hv).symm⟩
  · rintro ⟨⟨f1, f2, f3⟩, hv2⟩
    have e := mz_ex0 hz hin.1 hin.2 f2 f3 (by rw [mz_V_m0 hv]; exact hv2) hN
    rw [e]
    exact ⟨f1 6 (by decide) (by decide), f1 7 (by decide) (by decide)⟩
theorem mz_heal1 {ρ : Nat → Nat} {v : Nat} (hok : mz_ok ρ) (hv : v < 241) : mz_P ρ 1 v ↔ (mz_fit ρ (mz_num ρ 1) 1 ∧ (v : Int) = mz_num ρ 1 % 241) := by
  have hX : mz_val (mz_up ρ 1 v) = mz_V (ρ 0) v (ρ 2) (ρ 3) (ρ 4) (ρ 5) := rfl
  obtain ⟨z, hz⟩ := mz_V_s1 (ρ 0) (ρ 1) (ρ 2) (ρ 3) (ρ 4) (ρ 5) v
  have hin := mz_V_in (ρ 0) v (ρ 2) (ρ 3) (ρ 4) (ρ 5)
  have hN : mz_num ρ 1 = ((mz_V (ρ 0) (ρ 1) (ρ 2) (ρ 3) (ρ 4) (ρ 5) + 87553987462305) % 726589107571 - 87553987462305) + (((ρ 6 : Int) - ((mz_V (ρ 0) (ρ 1) (ρ 2) (ρ 3) (ρ 4) (ρ 5) + 87553987462305) % 726589107571 - 87553987462305)) * 187) % 256 * 726589107571 := rfl
  unfold mz_P
  rw [hX]
  constructor
  · rintro ⟨p6, p7⟩
    have e := mz_uq1 (hok 6 (by decide) : ρ 6 < 256) hz hin.1 hin.2 p6 hN
    rw [← e]
    exact ⟨⟨mz_lt8 (fun _ => mz_V_m0 (hok 0 (by decide))) (fun hn => absurd rfl hn) (fun _ => mz_V_m2 (hok 2 (by decide))) (fun _ => mz_V_m3 (hok 3 (by decide))) (fun _ => mz_V_m4 (hok 4 (by decide))) (fun _ => mz_V_m5 (hok 5 (by decide))) (fun _ => p6) (fun _ => p7), hin⟩, (mz_V_m1 hv).symm⟩
  · rintro ⟨⟨f1, f2, f3⟩, hv2⟩
    have e := mz_ex1 hz hin.1 hin.2 f2 f3 (by rw [mz_V_m1 hv]; exact hv2) hN
    rw [e]
    exact ⟨f1 6 (by decide) (by decide), f1 7 (by decide) (by decide)⟩
theorem mz_heal2 {ρ : Nat → Nat} {v : Nat} (hok : mz_ok ρ) (hv : v < 239) : mz_P ρ 2 v ↔ (mz_fit ρ (mz_num ρ 2) 2 ∧ (v : Int) = mz_num ρ 2 % 239) := by
  have hX : mz_val (mz_up ρ 2 v) = mz_V (ρ 0) (ρ 1) v (ρ 3) (ρ 4) (ρ 5) := rfl
  obtain ⟨z, hz⟩ := mz_V_s2 (ρ 0) (ρ 1) (ρ 2) (ρ 3) (ρ 4) (ρ 5) v
  have hin := mz_V_in (ρ 0) (ρ 1) v (ρ 3) (ρ 4) (ρ 5)
  have hN : mz_num ρ 2 = ((mz_V (ρ 0) (ρ 1) (ρ 2) (ρ 3) (ρ 4) (ρ 5) + 87553987462305) % 732669351149 - 87553987462305) + (((ρ 6 : Int) - ((mz_V (ρ 0) (ρ 1) (ρ 2) (ρ 3) (ρ 4) (ρ 5) + 87553987462305) % 732669351149 - 87553987462305)) * 229) % 256 * 732669351149 := rfl
  unfold mz_P
  rw [hX]
  constructor
  · rintro ⟨p6, p7⟩
    have e := mz_uq2 (hok 6 (by decide) : ρ 6 < 256) hz hin.1 hin.2 p6 hN
    rw [← e]
    exact ⟨⟨mz_lt8 (fun _ => mz_V_m0 (hok 0 (by decide))) (fun _ => mz_V_m1 (hok 1 (by decide))) (fun hn => absurd rfl hn) (fun _ => mz_V_m3 (hok 3 (by decide))) (fun _ => mz_V_m4 (hok 4 (by decide))) (fun _ => mz_V_m5 (hok 5 (by decide))) (fun _ => p6) (fun _ => p7), hin⟩, (mz_V_m2 hv).symm⟩
  · rintro ⟨⟨f1, f2, f3⟩, hv2⟩
    have e := mz_ex2 hz hin.1 hin.2 f2 f3 (by rw [mz_V_m2 hv]; exact hv2) hN
    rw [e]
    exact ⟨f1 6 (by decide) (by decide), f1 7 (by decide) (by decide)⟩
theorem mz_heal3 {ρ : Nat → Nat} {v : Nat} (hok : mz_ok ρ) (hv : v < 233) : mz_P ρ 3 v ↔ (mz_fit ρ (mz_num ρ 3) 3 ∧ (v : Int) = mz_num ρ 3 % 233) := by
  have hX : mz_val (mz_up ρ 3 v) = mz_V (ρ 0) (ρ 1) (ρ 2) v (ρ 4) (ρ 5) := rfl
  obtain ⟨z, hz⟩ := mz_V_s3 (ρ 0) (ρ 1) (ρ 2) (ρ 3) (ρ 4) (ρ 5) v
  have hin := mz_V_in (ρ 0) (ρ 1) (ρ 2) v (ρ 4) (ρ 5)
  have hN : mz_num ρ 3 = ((mz_V (ρ 0) (ρ 1) (ρ 2) (ρ 3) (ρ 4) (ρ 5) + 87553987462305) % 751536373067 - 87553987462305) + (((ρ 6 : Int) - ((mz_V (ρ 0) (ρ 1) (ρ 2) (ρ 3) (ρ 4) (ρ 5) + 87553987462305) % 751536373067 - 87553987462305)) * 99) % 256 * 751536373067 := rfl
  unfold mz_P
  rw [hX]
  constructor
  · rintro ⟨p6, p7⟩
    have e := mz_uq3 (hok 6 (by decide) : ρ 6 < 256) hz hin.1 hin.2 p6 hN
    rw [← e]
    exact ⟨⟨mz_lt8 (fun _ => mz_V_m0 (hok 0 (by decide))) (fun _ => mz_V_m1 (hok 1 (by decide))) (fun _ => mz_V_m2 (hok 2 (by decide))) (fun hn => absurd rfl hn) (fun _ => mz_V_m4 (hok 4 (by decide))) (fun _ => mz_V_m5 (hok 5 (by decide))) (fun _ => p6) (fun _ => p7), hin⟩, (mz_V_m3 hv).symm⟩
  · rintro ⟨⟨f1, f2, f3⟩, hv2⟩
    have e := mz_ex3 hz hin.1 hin.2 f2 f3 (by rw [mz_V_m3 hv]; exact hv2) hN
    rw [e]
    exact ⟨f1 6 (by decide) (by decide), f1 7 (by decide) (by decide)⟩
theorem mz_heal4 {ρ : Nat → Nat} {v : Nat} (hok : mz_ok ρ) (hv : v < 229) : mz_P ρ 4 v ↔ (mz_fit ρ (mz_num ρ 4) 4 ∧ (v : Int) = mz_num ρ 4 % 229) := by
  have hX : mz_val (mz_up ρ 4 v) = mz_V (ρ 0) (ρ 1) (ρ 2) (ρ 3) v (ρ 5) := rfl
  obtain ⟨z, hz⟩ := mz_V_s4 (ρ 0) (ρ 1) (ρ 2) (ρ 3) (ρ 4) (ρ 5) v
  have hin := mz_V_in (ρ 0) (ρ 1) (ρ 2) (ρ 3) v (ρ 5)
  have hN : mz_num ρ 4 = ((mz_V (ρ 0) (ρ 1) (ρ 2) (ρ 3) (ρ 4) (ρ 5) + 87553987462305) % 764663645959 - 87553987462305) + (((ρ 6 : Int) - ((mz_V (ρ 0) (ρ 1) (ρ 2) (ρ 3) (ρ 4) (ρ 5) + 87553987462305) % 764663645959 - 87553987462305)) * 183) % 256 * 764663645959 := rfl
  unfold mz_P
  rw [hX]
  constructor
  · rintro ⟨p6, p7⟩
    have e := mz_uq4 (hok 6 (by decide) : ρ 6 < 256) hz hin.1 hin.2 p6 hN
    rw [← e]
    exact ⟨⟨mz_lt8 (fun _ => mz_V_m0 (hok 0 (by decide))) (fun _ => mz_V_m1 (hok 1 (by decide))) (fun _ => mz_V_m2 (hok 2 (by decide))) (fun _ => mz_V_m3 (hok 3 (by decide))) (fun hn => absurd rfl hn) (fun _ => mz_V_m5 (hok 5 (by decide))) (fun _ => p6) (fun _ => p7), hin⟩, (mz_V_m4 hv).symm⟩
  · rintro ⟨⟨f1, f2, f3⟩, hv2⟩
    have e := mz_ex4 hz hin.1 hin.2 f2 f3 (by rw [mz_V_m4 hv]; exact hv2) hN
    rw [e]
    exact ⟨f1 6 (by decide) (by decide), f1 7 (by decide) (by decide)⟩
theorem mz_heal5 {ρ : Nat → Nat} {v : Nat} (hok : mz_ok ρ) (hv : v < 227) : mz_P ρ 5 v ↔ (mz_fit ρ (mz_num ρ 5) 5 ∧ (v : Int) = mz_num ρ 5 % 227) := by
  have hX : mz_val (mz_up ρ 5 v) = mz_V (ρ 0) (ρ 1) (ρ 2) (ρ 3) (ρ 4) v := rfl
  obtain ⟨z, hz⟩ := mz_V_s5 (ρ 0) (ρ 1) (ρ 2) (ρ 3) (ρ 4) (ρ 5) v
  have hin := mz_V_in (ρ 0) (ρ 1) (ρ 2) (ρ 3) (ρ 4) v
  have hN : mz_num ρ 5 = ((mz_V (ρ 0) (ρ 1) (ρ 2) (ρ 3) (ρ 4) (ρ 5) + 87553987462305) % 771400770593 - 87553987462305) + (((ρ 6 : Int) - ((mz_V (ρ 0) (ρ 1) (ρ 2) (ρ 3) (ρ 4) (ρ 5) + 87553987462305) % 771400770593 - 87553987462305)) * 225) % 256 * 771400770593 := rfl
  unfold mz_P
  rw [hX]
  constructor
  · rintro ⟨p6, p7⟩
    have e := mz_uq5 (hok 6 (by decide) : ρ 6 < 256) hz hin.1 hin.2 p6 hN
    rw [← e]
    exact ⟨⟨mz_lt8 (fun _ => mz_V_m0 (hok 0 (by decide))) (fun _ => mz_V_m1 (hok 1 (by decide))) (fun _ => mz_V_m2 (hok 2 (by decide))) (fun _ => mz_V_m3 (hok 3 (by decide))) (fun _ => mz_V_m4 (hok 4 (by decide))) (fun hn => absurd rfl hn) (fun _ => p6) (fun _ => p7), hin⟩, (mz_V_m5 hv).symm⟩
  · rintro ⟨⟨f1, f2, f3⟩, hv2⟩
    have e := mz_ex5 hz hin.1 hin.2 f2 f3 (by rw [mz_V_m5 hv]; exact hv2) hN
    rw [e]
    exact ⟨f1 6 (by decide) (by decide), f1 7 (by decide) (by decide)⟩
theorem mz_heal {ρ : Nat → Nat} (hok : mz_ok ρ) : ∀ k, k < 6 → ∀ {v : Nat}, v < mz_m k → (mz_P ρ k v ↔ (mz_fit ρ (mz_num ρ k) k ∧ (v : Int) = mz_num ρ k % (mz_m k : Int)))
  | 0, _, v, hv => mz_heal0 hok hv
  | 1, _, v, hv => mz_heal1 hok hv
  | 2, _, v, hv => mz_heal2 hok hv
  | 3, _, v, hv => mz_heal3 hok hv
  | 4, _, v, hv => mz_heal4 hok hv
  | 5, _, v, hv => mz_heal5 hok hv
  | k + 6, h, _, _ => absurd h (by omega)
end
