/-! A judgement over whole heaps: 'zg_G l E d M pc lv st σ r': from pc of method M, with the locals lv, the operand stack st and the heap σ, the invocation ends with r (an answer or a thrown object, and the heap then). -/
abbrev zg_E : Type := List Cond × List vw_C × va_G × List (ClassId × FieldType) × Nat × (State → Heap → Prop)
abbrev zg_H : Type := (Nat → Option va_E) × Nat × Nat
abbrev zg_M : Type := MethodName × ByteArray × Nat × Option FieldType × List (Nat × Nat × Nat × Nat)
abbrev zg_R : Type := (Option Value ⊕ (Nat × String)) × zg_H
abbrev zg_ws (E : zg_E) : List Cond := E.1
abbrev zg_cl (E : zg_E) : List vw_C := E.2.1
abbrev zg_D (E : zg_E) : va_G := E.2.2.1
abbrev zg_ty (E : zg_E) : List (ClassId × FieldType) := E.2.2.2.1
abbrev zg_b (E : zg_E) : Nat := E.2.2.2.2.1
abbrev zg_x (E : zg_E) : State → Heap → Prop := E.2.2.2.2.2
abbrev zg_my (M : zg_M) : MethodName := M.1
abbrev zg_cc (M : zg_M) : ByteArray := M.2.1
abbrev zg_ml (M : zg_M) : Nat := M.2.2.1
abbrev zg_rt (M : zg_M) : Option FieldType := M.2.2.2.1
abbrev zg_hh (M : zg_M) : List (Nat × Nat × Nat × Nat) := M.2.2.2.2
abbrev zg_sz (σ : zg_H) : Nat := σ.2.1
abbrev zg_us (σ : zg_H) : Nat := σ.2.2
/-- what holds of the tables and of the old cells, at the start and at every later moment -/
def zg_base (E : zg_E) (U : State) (H : Heap) : Prop := (∀ w ∈ zg_ws E, ∀ a : Array Value, w.before a U = true) ∧ va_K (zg_D E) (zg_cl E) (zg_ty E) U ∧ zg_x E U H
def zg_env (E : zg_E) (U : State) (H : Heap) : Prop := ∀ (V : State) (H' : Heap), U.WarmedH V.vm → (∀ q : Nat, q < zg_b E → H'[q]? = H[q]?) → zg_base E V H'
theorem zg_env.here {E : zg_E} {U : State} {H : Heap} (h : zg_env E U H) : zg_base E U H := h U H (State.WarmedH.refl U) (fun _ _ => rfl)
theorem zg_env.to {E : zg_E} {U V : State} {H H' : Heap} (h : zg_env E U H) (hW : U.WarmedH V.vm) (hH : ∀ q : Nat, q < zg_b E → H'[q]? = H[q]?) : zg_env E V H' :=
  fun V2 H2 w2 e2 => h V2 H2 (State.WarmedH.trans hW w2) (fun q hq => (e2 q hq).trans (hH q hq))
/-- the heap holds the cells of σ, and is as large as σ says -/
def zg_rep (E : zg_E) (σ : zg_H) (H : Heap) : Prop := H.size = zg_sz σ ∧ zg_b E ≤ H.size ∧ ∀ (a : Nat) (e : va_E), σ.1 a = some e → va_at (zg_D E) (zg_cl E) (a, e) H ∧ zg_b E ≤ a
def zg_Q (E : zg_E) (r : zg_R) : Array Value → State → Outcome → State → Prop := fun _ st o t =>
  zg_rep E r.2 t.heap ∧ (∀ q : Nat, q < zg_b E → t.heap[q]? = st.heap[q]?) ∧
    match r.1 with
    | .inl v => o = .returned v
    | .inr x => o = .threw x.1 ∧ ∃ cell : Cell, t.heap[x.1]? = some cell ∧ cell.vm.isStatics = false ∧ st.vm.findClass x.2 = some cell.cls
def zg_fe (first t : State) (L : List Loc) (k n : Nat) : Prop := first.WarmedH t.vm ∧ first.sameButNew ({ t with vm := first.vm } : State) L k n
def zg_end (E : zg_E) (below : List Frame) (r : zg_R) (a : Array Value) (s : State) (mc ms : Nat) : State → Prop := fun t =>
  ∃ o, t.status = .running ∧ Ended t below o ∧ zg_Q E r a s o t ∧ ∃ L, zg_fe s t L mc ms ∧ ∀ q ∈ L, zg_b E ≤ q.base
def zg_w (M : zg_M) : Cond := match zg_hh M with
  | [] => .code (zg_my M) (zg_cc M) (zg_ml M) (zg_rt M)
  | h :: t => .codeWith (zg_my M) (zg_cc M) (zg_ml M) (zg_rt M) (h :: t)
def zg_rm (d nc ns : Nat) : Room := { frames := d, cells := nc, slots := ns, locals := 36 * d }
/-- a call's contract -/
def zg_C (l : Launch) (E : zg_E) (d : Nat) (M : zg_M) (av : List Value) (σ : zg_H) (r : zg_R) : Prop :=
  zg_sz σ ≤ zg_sz r.2 ∧ zg_us σ ≤ zg_us r.2 ∧
    MetFree l (zg_my M) (headSpec [zg_w M] (zg_rm d (zg_sz r.2 - zg_sz σ) (zg_us r.2 - zg_us σ)))
      (fun a U => a = av.toArray ∧ zg_env E U U.heap ∧ zg_rep E σ U.heap) (fun _ _ _ _ _ => True)
      (fun a st o t => zg_Q E r a st o t ∧ ∃ L, zg_fe st t L (zg_sz r.2 - zg_sz σ) (zg_us r.2 - zg_us σ) ∧ ∀ q ∈ L, zg_b E ≤ q.base)
def zg_cx (l : Launch) (E : zg_E) (d : Nat) (M : zg_M) (p : Program) (R : Room) (s : State) (m : MethodId) (meth : Method) (c : Code) : Prop :=
  p.tables.exec = Jvm.exec ∧ c.code = zg_cc M ∧ c.maxLocals = zg_ml M ∧ meth.sig.returnType = zg_rt M ∧ s.vm.findClass (zg_my M).cls = some m.cls ∧ meth.locks = false ∧ meth.name = (zg_my M).name ∧
    zg_env E s s.heap ∧ zg_b E ≤ s.heap.size ∧ d ≤ R.frames ∧ 36 * d ≤ R.locals ∧ c.exceptionTable.toList.map (fun h => (h.startPc, h.endPc, h.handlerPc, h.catchType)) = zg_hh M
def zg_G (l : Launch) (E : zg_E) (d : Nat) (M : zg_M) (pc : Nat) (lv : List (Nat × Value)) (st : List Value) (σ : zg_H) (r : zg_R) : Prop :=
  zg_sz σ ≤ zg_sz r.2 ∧ zg_us σ ≤ zg_us r.2 ∧
    ∀ (p : Program) (e : Env) (R : Room) (s : State) (m : MethodId) (args : Array Value) (below : List Frame) (meth : Method) (c : Code) (H : Heap) (locs : List Loc) (cells slots : Nat) (ls : Array Slot) (u0 mc ms : Nat), mc ≤ R.cells → ms ≤ R.slots →
      zg_cx l E d M p R s m meth c → s.heap.size + cells = zg_sz σ → u0 + slots = zg_us σ → s.heap.size + mc = zg_sz r.2 → u0 + ms = zg_us r.2 →
      zg_rep E σ H → (∀ q : Nat, q < zg_b E → H[q]? = s.heap[q]?) → (∀ x ∈ locs, zg_b E ≤ x.base) → lv_has ls (zg_ml M) lv →
      W p l e R s m args below meth c H locs cells slots (zg_end E below r args s mc ms) (F0 m pc ls st)
section ZG1
variable {l : Launch} {E : zg_E} {d : Nat} {M : zg_M} {pc : Nat} {lv : List (Nat × Value)} {st : List Value} {σ : zg_H} {r : zg_R}
/-- a step that leaves heap and locals as they are -/
theorem zg_step {pc2 : Nat} {st2 : List Value}
    (h : ∀ (p : Program) (e : Env) (R : Room) (s : State) (m : MethodId) (args : Array Value) (below : List Frame) (meth : Method) (c : Code) (H : Heap) (locs : List Loc) (cells slots : Nat) (ls : Array Slot) (Q : State → Prop),
      p.tables.exec = Jvm.exec → c.code = zg_cc M → lv_has ls (zg_ml M) lv → W p l e R s m args below meth c H locs cells slots Q (F0 m pc2 ls st2) → W p l e R s m args below meth c H locs cells slots Q (F0 m pc ls st))
    (k : zg_G l E d M pc2 lv st2 σ r) : zg_G l E d M pc lv st σ r := by
  refine ⟨k.1, k.2.1, ?_⟩
  intro p e R s m args below meth c H locs cells slots ls u0 mc ms hm1 hm2 hc h1 h2 h3 h4 h5 h6 h7 h8
  exact h p e R s m args below meth c H locs cells slots ls _ hc.1 hc.2.1 h8 (k.2.2 p e R s m args below meth c H locs cells slots ls u0 mc ms hm1 hm2 hc h1 h2 h3 h4 h5 h6 h7 h8)
/-- the same, new locals -/
theorem zg_stepL {pc2 : Nat} {st2 : List Value} {lv2 : List (Nat × Value)}
    (h : ∀ (p : Program) (e : Env) (R : Room) (s : State) (m : MethodId) (args : Array Value) (below : List Frame) (meth : Method) (c : Code) (H : Heap) (locs : List Loc) (cells slots : Nat) (ls : Array Slot) (Q : State → Prop),
      p.tables.exec = Jvm.exec → c.code = zg_cc M → lv_has ls (zg_ml M) lv → (∀ ls2 : Array Slot, lv_has ls2 (zg_ml M) lv2 → W p l e R s m args below meth c H locs cells slots Q (F0 m pc2 ls2 st2)) → W p l e R s m args below meth c H locs cells slots Q (F0 m pc ls st))
    (k : zg_G l E d M pc2 lv2 st2 σ r) : zg_G l E d M pc lv st σ r := by
  refine ⟨k.1, k.2.1, ?_⟩
  intro p e R s m args below meth c H locs cells slots ls u0 mc ms hm1 hm2 hc h1 h2 h3 h4 h5 h6 h7 h8
  exact h p e R s m args below meth c H locs cells slots ls _ hc.1 hc.2.1 h8 (fun ls2 h9 => k.2.2 p e R s m args below meth c H locs cells slots ls2 u0 mc ms hm1 hm2 hc h1 h2 h3 h4 h5 h6 h7 h9)
/-- a branch -/
theorem zg_stepB {P : Prop} {pc2 pc3 : Nat} {st2 st3 : List Value}
    (h : ∀ (p : Program) (e : Env) (R : Room) (s : State) (m : MethodId) (args : Array Value) (below : List Frame) (meth : Method) (c : Code) (H : Heap) (locs : List Loc) (cells slots : Nat) (ls : Array Slot) (Q : State → Prop),
      p.tables.exec = Jvm.exec → c.code = zg_cc M → (P → W p l e R s m args below meth c H locs cells slots Q (F0 m pc2 ls st2)) → (¬ P → W p l e R s m args below meth c H locs cells slots Q (F0 m pc3 ls st3)) → W p l e R s m args below meth c H locs cells slots Q (F0 m pc ls st))
    (k : P → zg_G l E d M pc2 lv st2 σ r) (k2 : ¬ P → zg_G l E d M pc3 lv st3 σ r) : zg_G l E d M pc lv st σ r := by
  have hle : zg_sz σ ≤ zg_sz r.2 ∧ zg_us σ ≤ zg_us r.2 := by
    by_cases hP : P
    · exact ⟨(k hP).1, (k hP).2.1⟩
    · exact ⟨(k2 hP).1, (k2 hP).2.1⟩
  refine ⟨hle.1, hle.2, ?_⟩
  intro p e R s m args below meth c H locs cells slots ls u0 mc ms hm1 hm2 hc h1 h2 h3 h4 h5 h6 h7 h8
  exact h p e R s m args below meth c H locs cells slots ls _ hc.1 hc.2.1 (fun hP => (k hP).2.2 p e R s m args below meth c H locs cells slots ls u0 mc ms hm1 hm2 hc h1 h2 h3 h4 h5 h6 h7 h8)
    (fun hP => (k2 hP).2.2 p e R s m args below meth c H locs cells slots ls u0 mc ms hm1 hm2 hc h1 h2 h3 h4 h5 h6 h7 h8)
/-- fewer locals, in any order -/
theorem zg_lv {lv2 : List (Nat × Value)} (ks : List Nat) (hl : lv_pick lv ks = lv2) (k : zg_G l E d M pc lv2 st σ r) : zg_G l E d M pc lv st σ r := by
  refine ⟨k.1, k.2.1, ?_⟩
  intro p e R s m args below meth c H locs cells slots ls u0 mc ms hm1 hm2 hc h1 h2 h3 h4 h5 h6 h7 h8
  exact k.2.2 p e R s m args below meth c H locs cells slots ls u0 mc ms hm1 hm2 hc h1 h2 h3 h4 h5 h6 h7 (lv_sub h8 ks hl)
theorem zg_eq {pc2 : Nat} {lv2 : List (Nat × Value)} {st2 : List Value} {σ2 : zg_H} {r2 : zg_R} (k : zg_G l E d M pc2 lv2 st2 σ2 r2) (e1 : pc = pc2) (e2 : lv = lv2) (e3 : st = st2) (e4 : σ = σ2) (e5 : r = r2) : zg_G l E d M pc lv st σ r := by
  subst e1 e2 e3 e4 e5
  exact k
end ZG1
/-- what a local holds -/
def zg_at (lv : List (Nat × Value)) (i : Nat) : Option Value := (lv.find? (fun q => q.1 == i)).map (fun q => q.2)
theorem zg_at_has {ls : Array Slot} {n : Nat} {lv : List (Nat × Value)} (h : lv_has ls n lv) {i : Nat} {v : Value} (hv : zg_at lv i = some v) : ls[i]? = some (.val v) := by
  unfold zg_at at hv
  cases hf : lv.find? (fun q => q.1 == i) with
  | none => rw [hf] at hv; cases hv
  | some q =>
    rw [hf] at hv
    have h1 : q.2 = v := Option.some.inj hv
    have h2 := List.find?_some hf
    have h3 : q.1 = i := by simpa using h2
    have h4 := h.2.2 q (List.mem_of_find?_eq_some hf)
    rw [h3, h1] at h4
    exact h4
/-- a place of the list for iinc -/
theorem zg_at_mem {lv : List (Nat × Value)} {i : Nat} {v : Value} (hv : zg_at lv i = some v) : ∃ k : Nat, lv[k]? = some (i, v) := by
  unfold zg_at at hv
  cases hf : lv.find? (fun q => q.1 == i) with
  | none => rw [hf] at hv; cases hv
  | some q =>
    rw [hf] at hv
    have h1 : q.2 = v := Option.some.inj hv
    have h2 := List.find?_some hf
    have h3 : q.1 = i := by simpa using h2
    obtain ⟨k, hk⟩ := List.getElem?_of_mem (List.mem_of_find?_eq_some hf)
    exact ⟨k, by rw [hk, ← h1, ← h3]⟩
def zg_st1 (lv : List (Nat × Value)) (i : Nat) (v : Value) : List (Nat × Value) := (i, v) :: lv.filter (fun q => !(q.1 == i) && !(q.1 + 1 == i && q.2.category == 2))
def zg_st2 (lv : List (Nat × Value)) (i : Nat) (v : Value) : List (Nat × Value) := (i, v) :: lv.filter (fun q => !(q.1 == i) && (!(q.1 == i + 1) && !(q.1 + 1 == i && q.2.category == 2)))
section ZG2
variable {l : Launch} {E : zg_E} {d : Nat} {M : zg_M} {pc : Nat} {lv : List (Nat × Value)} {st : List Value} {σ : zg_H} {r : zg_R}
theorem zg_iconst {n : Int} {v : Int32} (hdg : decode (zg_cc M) pc = .ok (.iconst n, 1)) (hv : Int32.ofInt n = v) (k : zg_G l E d M (pc + 1) lv (.int v :: st) σ r) : zg_G l E d M pc lv (st) σ r :=
  zg_step (fun p e R s m args below meth c H locs cells slots ls Q hx hb hl w => lv_iconst hx hb hdg hv w) k
theorem zg_bipush {n : Int} {v : Int32} (hdg : decode (zg_cc M) pc = .ok (.bipush n, 2)) (hv : (Int8.ofInt n).toInt32 = v) (k : zg_G l E d M (pc + 2) lv (.int v :: st) σ r) : zg_G l E d M pc lv (st) σ r :=
  zg_step (fun p e R s m args below meth c H locs cells slots ls Q hx hb hl w => lv_bipush hx hb hdg hv w) k
theorem zg_sipush {n : Int} {v : Int32} (hdg : decode (zg_cc M) pc = .ok (.sipush n, 3)) (hv : (Int16.ofInt n).toInt32 = v) (k : zg_G l E d M (pc + 3) lv (.int v :: st) σ r) : zg_G l E d M pc lv (st) σ r :=
  zg_step (fun p e R s m args below meth c H locs cells slots ls Q hx hb hl w => lv_sipush hx hb hdg hv w) k
theorem zg_lconst {n : Fin 2} {v : Int64} (hdg : decode (zg_cc M) pc = .ok (.lconst n, 1)) (hv : Int64.ofNat (n : Nat) = v) (k : zg_G l E d M (pc + 1) lv (.long v :: st) σ r) : zg_G l E d M pc lv (st) σ r :=
  zg_step (fun p e R s m args below meth c H locs cells slots ls Q hx hb hl w => lv_lconst hx hb hdg hv w) k
theorem zg_iadd {x y : Int32} (hdg : decode (zg_cc M) pc = .ok (.iadd, 1)) (k : zg_G l E d M (pc + 1) lv (.int (x + y) :: st) σ r) : zg_G l E d M pc lv (.int y :: .int x :: st) σ r :=
  zg_step (fun p e R s m args below meth c H locs cells slots ls Q hx hb hl w => lv_iadd hx hb hdg w) k
theorem zg_isub {x y : Int32} (hdg : decode (zg_cc M) pc = .ok (.isub, 1)) (k : zg_G l E d M (pc + 1) lv (.int (x - y) :: st) σ r) : zg_G l E d M pc lv (.int y :: .int x :: st) σ r :=
  zg_step (fun p e R s m args below meth c H locs cells slots ls Q hx hb hl w => lv_isub hx hb hdg w) k
theorem zg_imul {x y : Int32} (hdg : decode (zg_cc M) pc = .ok (.imul, 1)) (k : zg_G l E d M (pc + 1) lv (.int (x * y) :: st) σ r) : zg_G l E d M pc lv (.int y :: .int x :: st) σ r :=
  zg_step (fun p e R s m args below meth c H locs cells slots ls Q hx hb hl w => lv_imul hx hb hdg w) k
theorem zg_iand {x y : Int32} (hdg : decode (zg_cc M) pc = .ok (.iand, 1)) (k : zg_G l E d M (pc + 1) lv (.int (x &&& y) :: st) σ r) : zg_G l E d M pc lv (.int y :: .int x :: st) σ r :=
  zg_step (fun p e R s m args below meth c H locs cells slots ls Q hx hb hl w => lv_iand hx hb hdg w) k
theorem zg_ior {x y : Int32} (hdg : decode (zg_cc M) pc = .ok (.ior, 1)) (k : zg_G l E d M (pc + 1) lv (.int (x ||| y) :: st) σ r) : zg_G l E d M pc lv (.int y :: .int x :: st) σ r :=
  zg_step (fun p e R s m args below meth c H locs cells slots ls Q hx hb hl w => lv_ior hx hb hdg w) k
theorem zg_ixor {x y : Int32} (hdg : decode (zg_cc M) pc = .ok (.ixor, 1)) (k : zg_G l E d M (pc + 1) lv (.int (x ^^^ y) :: st) σ r) : zg_G l E d M pc lv (.int y :: .int x :: st) σ r :=
  zg_step (fun p e R s m args below meth c H locs cells slots ls Q hx hb hl w => lv_ixor hx hb hdg w) k
theorem zg_idiv {x y : Int32} (hdg : decode (zg_cc M) pc = .ok (.idiv, 1)) (hne : ¬ y = 0) (k : zg_G l E d M (pc + 1) lv (.int (x / y) :: st) σ r) : zg_G l E d M pc lv (.int y :: .int x :: st) σ r :=
  zg_step (fun p e R s m args below meth c H locs cells slots ls Q hx hb hl w => lv_idiv hx hb hdg hne w) k
theorem zg_irem {x y : Int32} (hdg : decode (zg_cc M) pc = .ok (.irem, 1)) (hne : ¬ y = 0) (k : zg_G l E d M (pc + 1) lv (.int (x - x / y * y) :: st) σ r) : zg_G l E d M pc lv (.int y :: .int x :: st) σ r :=
  zg_step (fun p e R s m args below meth c H locs cells slots ls Q hx hb hl w => lv_irem hx hb hdg hne w) k
theorem zg_ineg {x : Int32} (hdg : decode (zg_cc M) pc = .ok (.ineg, 1)) (k : zg_G l E d M (pc + 1) lv (.int (-x) :: st) σ r) : zg_G l E d M pc lv (.int x :: st) σ r :=
  zg_step (fun p e R s m args below meth c H locs cells slots ls Q hx hb hl w => lv_ineg hx hb hdg w) k
theorem zg_ladd {x y : Int64} (hdg : decode (zg_cc M) pc = .ok (.ladd, 1)) (k : zg_G l E d M (pc + 1) lv (.long (x + y) :: st) σ r) : zg_G l E d M pc lv (.long y :: .long x :: st) σ r :=
  zg_step (fun p e R s m args below meth c H locs cells slots ls Q hx hb hl w => lv_ladd hx hb hdg w) k
theorem zg_lsub {x y : Int64} (hdg : decode (zg_cc M) pc = .ok (.lsub, 1)) (k : zg_G l E d M (pc + 1) lv (.long (x - y) :: st) σ r) : zg_G l E d M pc lv (.long y :: .long x :: st) σ r :=
  zg_step (fun p e R s m args below meth c H locs cells slots ls Q hx hb hl w => lv_lsub hx hb hdg w) k
theorem zg_lmul {x y : Int64} (hdg : decode (zg_cc M) pc = .ok (.lmul, 1)) (k : zg_G l E d M (pc + 1) lv (.long (x * y) :: st) σ r) : zg_G l E d M pc lv (.long y :: .long x :: st) σ r :=
  zg_step (fun p e R s m args below meth c H locs cells slots ls Q hx hb hl w => lv_lmul hx hb hdg w) k
theorem zg_land {x y : Int64} (hdg : decode (zg_cc M) pc = .ok (.land, 1)) (k : zg_G l E d M (pc + 1) lv (.long (x &&& y) :: st) σ r) : zg_G l E d M pc lv (.long y :: .long x :: st) σ r :=
  zg_step (fun p e R s m args below meth c H locs cells slots ls Q hx hb hl w => lv_land hx hb hdg w) k
theorem zg_lor {x y : Int64} (hdg : decode (zg_cc M) pc = .ok (.lor, 1)) (k : zg_G l E d M (pc + 1) lv (.long (x ||| y) :: st) σ r) : zg_G l E d M pc lv (.long y :: .long x :: st) σ r :=
  zg_step (fun p e R s m args below meth c H locs cells slots ls Q hx hb hl w => lv_lor hx hb hdg w) k
theorem zg_lxor {x y : Int64} (hdg : decode (zg_cc M) pc = .ok (.lxor, 1)) (k : zg_G l E d M (pc + 1) lv (.long (x ^^^ y) :: st) σ r) : zg_G l E d M pc lv (.long y :: .long x :: st) σ r :=
  zg_step (fun p e R s m args below meth c H locs cells slots ls Q hx hb hl w => lv_lxor hx hb hdg w) k
theorem zg_ldiv {x y : Int64} (hdg : decode (zg_cc M) pc = .ok (.ldiv, 1)) (hne : ¬ y = 0) (k : zg_G l E d M (pc + 1) lv (.long (x / y) :: st) σ r) : zg_G l E d M pc lv (.long y :: .long x :: st) σ r :=
  zg_step (fun p e R s m args below meth c H locs cells slots ls Q hx hb hl w => lv_ldiv hx hb hdg hne w) k
theorem zg_lrem {x y : Int64} (hdg : decode (zg_cc M) pc = .ok (.lrem, 1)) (hne : ¬ y = 0) (k : zg_G l E d M (pc + 1) lv (.long (x - x / y * y) :: st) σ r) : zg_G l E d M pc lv (.long y :: .long x :: st) σ r :=
  zg_step (fun p e R s m args below meth c H locs cells slots ls Q hx hb hl w => lv_lrem hx hb hdg hne w) k
theorem zg_lneg {x : Int64} (hdg : decode (zg_cc M) pc = .ok (.lneg, 1)) (k : zg_G l E d M (pc + 1) lv (.long (-x) :: st) σ r) : zg_G l E d M pc lv (.long x :: st) σ r :=
  zg_step (fun p e R s m args below meth c H locs cells slots ls Q hx hb hl w => lv_lneg hx hb hdg w) k
theorem zg_ishl {x y : Int32} (hdg : decode (zg_cc M) pc = .ok (.ishl, 1)) (k : zg_G l E d M (pc + 1) lv (.int (x <<< (y &&& 31)) :: st) σ r) : zg_G l E d M pc lv (.int y :: .int x :: st) σ r :=
  zg_step (fun p e R s m args below meth c H locs cells slots ls Q hx hb hl w => lv_ishl hx hb hdg w) k
theorem zg_ishr {x y : Int32} (hdg : decode (zg_cc M) pc = .ok (.ishr, 1)) (k : zg_G l E d M (pc + 1) lv (.int (x >>> (y &&& 31)) :: st) σ r) : zg_G l E d M pc lv (.int y :: .int x :: st) σ r :=
  zg_step (fun p e R s m args below meth c H locs cells slots ls Q hx hb hl w => lv_ishr hx hb hdg w) k
theorem zg_i2l {x : Int32} {v : Int64} (hdg : decode (zg_cc M) pc = .ok (.i2l, 1)) (hv : x.toInt64 = v) (k : zg_G l E d M (pc + 1) lv (.long v :: st) σ r) : zg_G l E d M pc lv (.int x :: st) σ r :=
  zg_step (fun p e R s m args below meth c H locs cells slots ls Q hx hb hl w => lv_i2l hx hb hdg hv w) k
theorem zg_l2i {x : Int64} {v : Int32} (hdg : decode (zg_cc M) pc = .ok (.l2i, 1)) (hv : x.toInt32 = v) (k : zg_G l E d M (pc + 1) lv (.int v :: st) σ r) : zg_G l E d M pc lv (.long x :: st) σ r :=
  zg_step (fun p e R s m args below meth c H locs cells slots ls Q hx hb hl w => lv_l2i hx hb hdg hv w) k
theorem zg_lshl {x v : Int64} {y : Int32} (hdg : decode (zg_cc M) pc = .ok (.lshl, 1)) (hv : x <<< (y.toInt64 &&& 63) = v) (k : zg_G l E d M (pc + 1) lv (.long v :: st) σ r) : zg_G l E d M pc lv (.int y :: .long x :: st) σ r :=
  zg_step (fun p e R s m args below meth c H locs cells slots ls Q hx hb hl w => lv_lshl hx hb hdg hv w) k
theorem zg_lshr {x v : Int64} {y : Int32} (hdg : decode (zg_cc M) pc = .ok (.lshr, 1)) (hv : x >>> (y.toInt64 &&& 63) = v) (k : zg_G l E d M (pc + 1) lv (.long v :: st) σ r) : zg_G l E d M pc lv (.int y :: .long x :: st) σ r :=
  zg_step (fun p e R s m args below meth c H locs cells slots ls Q hx hb hl w => lv_lshr hx hb hdg hv w) k
theorem zg_iushr {x y v : Int32} (hdg : decode (zg_cc M) pc = .ok (.iushr, 1)) (hv : (x.toUInt32 >>> (y.toUInt32 &&& Int32.toUInt32 31)).toInt32 = v) (k : zg_G l E d M (pc + 1) lv (.int v :: st) σ r) : zg_G l E d M pc lv (.int y :: .int x :: st) σ r :=
  zg_step (fun p e R s m args below meth c H locs cells slots ls Q hx hb hl w => lv_iushr hx hb hdg hv w) k
theorem zg_lushr {x v : Int64} {y : Int32} (hdg : decode (zg_cc M) pc = .ok (.lushr, 1)) (hv : (x.toUInt64 >>> (y.toInt64.toUInt64 &&& Int64.toUInt64 63)).toInt64 = v) (k : zg_G l E d M (pc + 1) lv (.long v :: st) σ r) : zg_G l E d M pc lv (.int y :: .long x :: st) σ r :=
  zg_step (fun p e R s m args below meth c H locs cells slots ls Q hx hb hl w => lv_lushr hx hb hdg hv w) k
theorem zg_dup {va : Value} (hdg : decode (zg_cc M) pc = .ok (.dup, 1)) (hva : va.category = 1) (k : zg_G l E d M (pc + 1) lv (va :: va :: st) σ r) : zg_G l E d M pc lv (va :: st) σ r :=
  zg_step (fun p e R s m args below meth c H locs cells slots ls Q hx hb hl w => lv_dup hx hb hdg hva w) k
theorem zg_pop {va : Value} (hdg : decode (zg_cc M) pc = .ok (.pop, 1)) (hva : va.category = 1) (k : zg_G l E d M (pc + 1) lv (st) σ r) : zg_G l E d M pc lv (va :: st) σ r :=
  zg_step (fun p e R s m args below meth c H locs cells slots ls Q hx hb hl w => lv_pop hx hb hdg hva w) k
theorem zg_dup_x1 {va vb : Value} (hdg : decode (zg_cc M) pc = .ok (.dup_x1, 1)) (hva : va.category = 1) (hvb : vb.category = 1) (k : zg_G l E d M (pc + 1) lv (va :: vb :: va :: st) σ r) : zg_G l E d M pc lv (va :: vb :: st) σ r :=
  zg_step (fun p e R s m args below meth c H locs cells slots ls Q hx hb hl w => lv_dup_x1 hx hb hdg hva hvb w) k
theorem zg_dup_x2 {va vb vd : Value} (hdg : decode (zg_cc M) pc = .ok (.dup_x2, 1)) (hva : va.category = 1) (hvb : vb.category = 1) (hvd : vd.category = 1) (k : zg_G l E d M (pc + 1) lv (va :: vb :: vd :: va :: st) σ r) : zg_G l E d M pc lv (va :: vb :: vd :: st) σ r :=
  zg_step (fun p e R s m args below meth c H locs cells slots ls Q hx hb hl w => lv_dup_x2 hx hb hdg hva hvb hvd w) k
theorem zg_dup2_11 {va vb : Value} (hdg : decode (zg_cc M) pc = .ok (.dup2, 1)) (hva : va.category = 1) (hvb : vb.category = 1) (k : zg_G l E d M (pc + 1) lv (va :: vb :: va :: vb :: st) σ r) : zg_G l E d M pc lv (va :: vb :: st) σ r :=
  zg_step (fun p e R s m args below meth c H locs cells slots ls Q hx hb hl w => lv_dup2_11 hx hb hdg hva hvb w) k
theorem zg_dup2_2 {va : Value} (hdg : decode (zg_cc M) pc = .ok (.dup2, 1)) (hva : va.category = 2) (k : zg_G l E d M (pc + 1) lv (va :: va :: st) σ r) : zg_G l E d M pc lv (va :: st) σ r :=
  zg_step (fun p e R s m args below meth c H locs cells slots ls Q hx hb hl w => lv_dup2_2 hx hb hdg hva w) k
theorem zg_pop2_2 {va : Value} (hdg : decode (zg_cc M) pc = .ok (.pop2, 1)) (hva : va.category = 2) (k : zg_G l E d M (pc + 1) lv (st) σ r) : zg_G l E d M pc lv (va :: st) σ r :=
  zg_step (fun p e R s m args below meth c H locs cells slots ls Q hx hb hl w => lv_pop2_2 hx hb hdg hva w) k
theorem zg_dup2_x1_2 {va vb : Value} (hdg : decode (zg_cc M) pc = .ok (.dup2_x1, 1)) (hva : va.category = 2) (hvb : vb.category = 1) (k : zg_G l E d M (pc + 1) lv (va :: vb :: va :: st) σ r) : zg_G l E d M pc lv (va :: vb :: st) σ r :=
  zg_step (fun p e R s m args below meth c H locs cells slots ls Q hx hb hl w => lv_dup2_x1_2 hx hb hdg hva hvb w) k
theorem zg_dup2_x2_2 {va vb vd : Value} (hdg : decode (zg_cc M) pc = .ok (.dup2_x2, 1)) (hva : va.category = 2) (hvb : vb.category = 1) (hvd : vd.category = 1) (k : zg_G l E d M (pc + 1) lv (va :: vb :: vd :: va :: st) σ r) : zg_G l E d M pc lv (va :: vb :: vd :: st) σ r :=
  zg_step (fun p e R s m args below meth c H locs cells slots ls Q hx hb hl w => lv_dup2_x2_2 hx hb hdg hva hvb hvd w) k
theorem zg_goto {off : Int} {tgt : Nat} (hdg : decode (zg_cc M) pc = .ok (.goto off, 3)) (ht : (pc : Int) + off = (tgt : Int)) (k : zg_G l E d M tgt lv st σ r) : zg_G l E d M pc lv st σ r :=
  zg_step (fun p e R s m args below meth c H locs cells slots ls Q hx hb hl w => lv_goto hx hb hdg ht w) k
theorem zg_lcmp {x y : Int64} (hdg : decode (zg_cc M) pc = .ok (.lcmp, 1)) (k : zg_G l E d M (pc + 1) lv (.int (lg_cmp x y) :: st) σ r) : zg_G l E d M pc lv (.long y :: .long x :: st) σ r :=
  zg_step (fun p e R s m args below meth c H locs cells slots ls Q hx hb hl w => W.lcmp hx hb hdg w) k
theorem zg_if_eq {x : Int32} {off : Int} {tgt : Nat} (hdg : decode (zg_cc M) pc = .ok (.ifCond .eq off, 3)) (ht : (pc : Int) + off = (tgt : Int)) (kt : x = 0 → zg_G l E d M tgt lv st σ r) (kf : ¬ x = 0 → zg_G l E d M (pc + 3) lv st σ r) : zg_G l E d M pc lv (.int x :: st) σ r :=
  zg_stepB (P := x = 0) (fun p e R s m args below meth c H locs cells slots ls Q hx hb w1 w2 => lv_if_eq hx hb hdg ht w1 w2) kt kf
theorem zg_if_ne {x : Int32} {off : Int} {tgt : Nat} (hdg : decode (zg_cc M) pc = .ok (.ifCond .ne off, 3)) (ht : (pc : Int) + off = (tgt : Int)) (kt : ¬ x = 0 → zg_G l E d M tgt lv st σ r) (kf : x = 0 → zg_G l E d M (pc + 3) lv st σ r) : zg_G l E d M pc lv (.int x :: st) σ r :=
  zg_stepB (P := x = 0) (fun p e R s m args below meth c H locs cells slots ls Q hx hb w1 w2 => lv_if_ne hx hb hdg ht w2 w1) kf kt
theorem zg_if_lt {x : Int32} {off : Int} {tgt : Nat} (hdg : decode (zg_cc M) pc = .ok (.ifCond .lt off, 3)) (ht : (pc : Int) + off = (tgt : Int)) (kt : x < 0 → zg_G l E d M tgt lv st σ r) (kf : ¬ x < 0 → zg_G l E d M (pc + 3) lv st σ r) : zg_G l E d M pc lv (.int x :: st) σ r :=
  zg_stepB (P := x < 0) (fun p e R s m args below meth c H locs cells slots ls Q hx hb w1 w2 => lv_if_lt hx hb hdg ht w1 w2) kt kf
theorem zg_if_ge {x : Int32} {off : Int} {tgt : Nat} (hdg : decode (zg_cc M) pc = .ok (.ifCond .ge off, 3)) (ht : (pc : Int) + off = (tgt : Int)) (kt : 0 ≤ x → zg_G l E d M tgt lv st σ r) (kf : ¬ 0 ≤ x → zg_G l E d M (pc + 3) lv st σ r) : zg_G l E d M pc lv (.int x :: st) σ r :=
  zg_stepB (P := 0 ≤ x) (fun p e R s m args below meth c H locs cells slots ls Q hx hb w1 w2 => lv_if_ge hx hb hdg ht w1 w2) kt kf
theorem zg_if_gt {x : Int32} {off : Int} {tgt : Nat} (hdg : decode (zg_cc M) pc = .ok (.ifCond .gt off, 3)) (ht : (pc : Int) + off = (tgt : Int)) (kt : 0 < x → zg_G l E d M tgt lv st σ r) (kf : ¬ 0 < x → zg_G l E d M (pc + 3) lv st σ r) : zg_G l E d M pc lv (.int x :: st) σ r :=
  zg_stepB (P := 0 < x) (fun p e R s m args below meth c H locs cells slots ls Q hx hb w1 w2 => lv_if_gt hx hb hdg ht w1 w2) kt kf
theorem zg_if_le {x : Int32} {off : Int} {tgt : Nat} (hdg : decode (zg_cc M) pc = .ok (.ifCond .le off, 3)) (ht : (pc : Int) + off = (tgt : Int)) (kt : x ≤ 0 → zg_G l E d M tgt lv st σ r) (kf : ¬ x ≤ 0 → zg_G l E d M (pc + 3) lv st σ r) : zg_G l E d M pc lv (.int x :: st) σ r :=
  zg_stepB (P := x ≤ 0) (fun p e R s m args below meth c H locs cells slots ls Q hx hb w1 w2 => lv_if_le hx hb hdg ht w1 w2) kt kf
theorem zg_icmp_eq {x y : Int32} {off : Int} {tgt : Nat} (hdg : decode (zg_cc M) pc = .ok (.if_icmp .eq off, 3)) (ht : (pc : Int) + off = (tgt : Int)) (kt : x = y → zg_G l E d M tgt lv st σ r) (kf : ¬ x = y → zg_G l E d M (pc + 3) lv st σ r) : zg_G l E d M pc lv (.int y :: .int x :: st) σ r :=
  zg_stepB (P := x = y) (fun p e R s m args below meth c H locs cells slots ls Q hx hb w1 w2 => lv_icmp_eq hx hb hdg ht w1 w2) kt kf
theorem zg_icmp_ne {x y : Int32} {off : Int} {tgt : Nat} (hdg : decode (zg_cc M) pc = .ok (.if_icmp .ne off, 3)) (ht : (pc : Int) + off = (tgt : Int)) (kt : ¬ x = y → zg_G l E d M tgt lv st σ r) (kf : x = y → zg_G l E d M (pc + 3) lv st σ r) : zg_G l E d M pc lv (.int y :: .int x :: st) σ r :=
  zg_stepB (P := x = y) (fun p e R s m args below meth c H locs cells slots ls Q hx hb w1 w2 => lv_icmp_ne hx hb hdg ht w2 w1) kf kt
theorem zg_icmp_lt {x y : Int32} {off : Int} {tgt : Nat} (hdg : decode (zg_cc M) pc = .ok (.if_icmp .lt off, 3)) (ht : (pc : Int) + off = (tgt : Int)) (kt : x < y → zg_G l E d M tgt lv st σ r) (kf : ¬ x < y → zg_G l E d M (pc + 3) lv st σ r) : zg_G l E d M pc lv (.int y :: .int x :: st) σ r :=
  zg_stepB (P := x < y) (fun p e R s m args below meth c H locs cells slots ls Q hx hb w1 w2 => lv_icmp_lt hx hb hdg ht w1 w2) kt kf
theorem zg_icmp_ge {x y : Int32} {off : Int} {tgt : Nat} (hdg : decode (zg_cc M) pc = .ok (.if_icmp .ge off, 3)) (ht : (pc : Int) + off = (tgt : Int)) (kt : y ≤ x → zg_G l E d M tgt lv st σ r) (kf : ¬ y ≤ x → zg_G l E d M (pc + 3) lv st σ r) : zg_G l E d M pc lv (.int y :: .int x :: st) σ r :=
  zg_stepB (P := y ≤ x) (fun p e R s m args below meth c H locs cells slots ls Q hx hb w1 w2 => lv_icmp_ge hx hb hdg ht w1 w2) kt kf
theorem zg_icmp_gt {x y : Int32} {off : Int} {tgt : Nat} (hdg : decode (zg_cc M) pc = .ok (.if_icmp .gt off, 3)) (ht : (pc : Int) + off = (tgt : Int)) (kt : y < x → zg_G l E d M tgt lv st σ r) (kf : ¬ y < x → zg_G l E d M (pc + 3) lv st σ r) : zg_G l E d M pc lv (.int y :: .int x :: st) σ r :=
  zg_stepB (P := y < x) (fun p e R s m args below meth c H locs cells slots ls Q hx hb w1 w2 => lv_icmp_gt hx hb hdg ht w1 w2) kt kf
theorem zg_icmp_le {x y : Int32} {off : Int} {tgt : Nat} (hdg : decode (zg_cc M) pc = .ok (.if_icmp .le off, 3)) (ht : (pc : Int) + off = (tgt : Int)) (kt : x ≤ y → zg_G l E d M tgt lv st σ r) (kf : ¬ x ≤ y → zg_G l E d M (pc + 3) lv st σ r) : zg_G l E d M pc lv (.int y :: .int x :: st) σ r :=
  zg_stepB (P := x ≤ y) (fun p e R s m args below meth c H locs cells slots ls Q hx hb w1 w2 => lv_icmp_le hx hb hdg ht w1 w2) kt kf
theorem zg_iload {i : Nat} {x : Int32} (hdg : decode (zg_cc M) pc = .ok (.iload i, 2)) (hv : zg_at lv i = some (.int x)) (k : zg_G l E d M (pc + 2) lv (.int x :: st) σ r) : zg_G l E d M pc lv st σ r :=
  zg_step (fun p e R s m args below meth c H locs cells slots ls Q hx hb hl w => lv_iload hx hb hdg (zg_at_has hl hv) w) k
theorem zg_iload_n {i : Fin 4} {x : Int32} (hdg : decode (zg_cc M) pc = .ok (.iload_n i, 1)) (hv : zg_at lv (i : Nat) = some (.int x)) (k : zg_G l E d M (pc + 1) lv (.int x :: st) σ r) : zg_G l E d M pc lv st σ r :=
  zg_step (fun p e R s m args below meth c H locs cells slots ls Q hx hb hl w => lv_iload_n hx hb hdg rfl (zg_at_has hl hv) w) k
theorem zg_lload {i : Nat} {x : Int64} (hdg : decode (zg_cc M) pc = .ok (.lload i, 2)) (hv : zg_at lv i = some (.long x)) (k : zg_G l E d M (pc + 2) lv (.long x :: st) σ r) : zg_G l E d M pc lv st σ r :=
  zg_step (fun p e R s m args below meth c H locs cells slots ls Q hx hb hl w => lv_lload hx hb hdg (zg_at_has hl hv) w) k
theorem zg_lload_n {i : Fin 4} {x : Int64} (hdg : decode (zg_cc M) pc = .ok (.lload_n i, 1)) (hv : zg_at lv (i : Nat) = some (.long x)) (k : zg_G l E d M (pc + 1) lv (.long x :: st) σ r) : zg_G l E d M pc lv st σ r :=
  zg_step (fun p e R s m args below meth c H locs cells slots ls Q hx hb hl w => lv_lload_n hx hb hdg rfl (zg_at_has hl hv) w) k
theorem zg_aload {i : Nat} {x : Nat} (hdg : decode (zg_cc M) pc = .ok (.aload i, 2)) (hv : zg_at lv i = some (.ref x)) (k : zg_G l E d M (pc + 2) lv (.ref x :: st) σ r) : zg_G l E d M pc lv st σ r :=
  zg_step (fun p e R s m args below meth c H locs cells slots ls Q hx hb hl w => lv_aload hx hb hdg (zg_at_has hl hv) w) k
theorem zg_aload_n {i : Fin 4} {x : Nat} (hdg : decode (zg_cc M) pc = .ok (.aload_n i, 1)) (hv : zg_at lv (i : Nat) = some (.ref x)) (k : zg_G l E d M (pc + 1) lv (.ref x :: st) σ r) : zg_G l E d M pc lv st σ r :=
  zg_step (fun p e R s m args below meth c H locs cells slots ls Q hx hb hl w => lv_aload_n hx hb hdg rfl (zg_at_has hl hv) w) k
theorem zg_istore {i : Nat} {x : Int32} {lv2 : List (Nat × Value)} (hdg : decode (zg_cc M) pc = .ok (.istore i, 2)) (hn : i < zg_ml M) (he : zg_st1 lv i (.int x) = lv2) (k : zg_G l E d M (pc + 2) lv2 st σ r) : zg_G l E d M pc lv (.int x :: st) σ r :=
  zg_stepL (fun p e R s m args below meth c H locs cells slots ls Q hx hb hl w => lv_istore hx hb hdg hl hn he w) k
theorem zg_istore_n {i : Fin 4} {x : Int32} {lv2 : List (Nat × Value)} (hdg : decode (zg_cc M) pc = .ok (.istore_n i, 1)) (hn : (i : Nat) < zg_ml M) (he : zg_st1 lv (i : Nat) (.int x) = lv2) (k : zg_G l E d M (pc + 1) lv2 st σ r) : zg_G l E d M pc lv (.int x :: st) σ r :=
  zg_stepL (fun p e R s m args below meth c H locs cells slots ls Q hx hb hl w => lv_istore_n hx hb hdg rfl hl hn he w) k
theorem zg_lstore {i : Nat} {x : Int64} {lv2 : List (Nat × Value)} (hdg : decode (zg_cc M) pc = .ok (.lstore i, 2)) (hn : i + 1 < zg_ml M) (he : zg_st2 lv i (.long x) = lv2) (k : zg_G l E d M (pc + 2) lv2 st σ r) : zg_G l E d M pc lv (.long x :: st) σ r :=
  zg_stepL (fun p e R s m args below meth c H locs cells slots ls Q hx hb hl w => lv_lstore hx hb hdg hl hn he w) k
theorem zg_lstore_n {i : Fin 4} {x : Int64} {lv2 : List (Nat × Value)} (hdg : decode (zg_cc M) pc = .ok (.lstore_n i, 1)) (hn : (i : Nat) + 1 < zg_ml M) (he : zg_st2 lv (i : Nat) (.long x) = lv2) (k : zg_G l E d M (pc + 1) lv2 st σ r) : zg_G l E d M pc lv (.long x :: st) σ r :=
  zg_stepL (fun p e R s m args below meth c H locs cells slots ls Q hx hb hl w => lv_lstore_n hx hb hdg rfl hl hn he w) k
theorem zg_astore {i : Nat} {x : Nat} {lv2 : List (Nat × Value)} (hdg : decode (zg_cc M) pc = .ok (.astore i, 2)) (hn : i < zg_ml M) (he : zg_st1 lv i (.ref x) = lv2) (k : zg_G l E d M (pc + 2) lv2 st σ r) : zg_G l E d M pc lv (.ref x :: st) σ r :=
  zg_stepL (fun p e R s m args below meth c H locs cells slots ls Q hx hb hl w => lv_astore hx hb hdg hl hn he w) k
theorem zg_astore_n {i : Fin 4} {x : Nat} {lv2 : List (Nat × Value)} (hdg : decode (zg_cc M) pc = .ok (.astore_n i, 1)) (hn : (i : Nat) < zg_ml M) (he : zg_st1 lv (i : Nat) (.ref x) = lv2) (k : zg_G l E d M (pc + 1) lv2 st σ r) : zg_G l E d M pc lv (.ref x :: st) σ r :=
  zg_stepL (fun p e R s m args below meth c H locs cells slots ls Q hx hb hl w => lv_astore_n hx hb hdg rfl hl hn he w) k
theorem zg_iinc {i : Nat} {n : Int} {x v : Int32} {lv2 : List (Nat × Value)} (hdg : decode (zg_cc M) pc = .ok (.iinc i n, 3)) (ha : zg_at lv i = some (.int x)) (hv : x + Int32.ofInt n = v) (hn : i < zg_ml M) (he : zg_st1 lv i (.int v) = lv2) (k : zg_G l E d M (pc + 3) lv2 st σ r) : zg_G l E d M pc lv st σ r := by
  obtain ⟨j, hj⟩ := zg_at_mem ha
  exact zg_stepL (fun p e R s m args below meth c H locs cells slots ls Q hx hb hl w => lv_iinc hx hb hdg hl hj hv hn he w) k
theorem zg_tableIn {dflt lo hi : Int} {offs : Array Int} {len : Nat} {x : Int32} {off : Int} {tgt : Nat} (hdg : decode (zg_cc M) pc = .ok (.tableswitch dflt lo hi offs, len)) (h1 : ¬ x.toInt < lo) (h2 : ¬ hi < x.toInt) (ho : offs[(x.toInt - lo).toNat]? = some off) (ht : (pc : Int) + off = (tgt : Int)) (k : zg_G l E d M tgt lv st σ r) : zg_G l E d M pc lv (.int x :: st) σ r :=
  zg_step (fun p e R s m args below meth c H locs cells slots ls Q hx hb hl w => lv_tableIn hx hb hdg h1 h2 ho ht w) k
theorem zg_tableOut {dflt lo hi : Int} {offs : Array Int} {len : Nat} {x : Int32} {tgt : Nat} (hdg : decode (zg_cc M) pc = .ok (.tableswitch dflt lo hi offs, len)) (h : x.toInt < lo ∨ hi < x.toInt) (ht : (pc : Int) + dflt = (tgt : Int)) (k : zg_G l E d M tgt lv st σ r) : zg_G l E d M pc lv (.int x :: st) σ r :=
  zg_step (fun p e R s m args below meth c H locs cells slots ls Q hx hb hl w => lv_tableOut hx hb hdg h ht w) k
theorem zg_lookup {dflt : Int} {ps : Array (Int × Int)} {len : Nat} {x : Int32} {off : Int} {tgt : Nat} (hdg : decode (zg_cc M) pc = .ok (.lookupswitch dflt ps, len)) (hp : (ps.toList.zip (ps.toList.drop 1)).all (fun (a, next) => a.1 < next.1) = true) (ho : Op.lookupswitch.offset ps.toList dflt x.toInt = off) (ht : (pc : Int) + off = (tgt : Int)) (k : zg_G l E d M tgt lv st σ r) : zg_G l E d M pc lv (.int x :: st) σ r :=
  zg_step (fun p e R s m args below meth c H locs cells slots ls Q hx hb hl w => lv_lookup hx hb hdg hp ho ht w) k
end ZG2
section ZG3
variable {l : Launch} {E : zg_E} {d : Nat} {M : zg_M} {pc : Nat} {lv : List (Nat × Value)} {st : List Value} {σ : zg_H} {r : zg_R}
theorem zg_mq {p : Program} {e : Env} {R : Room} {s : State} {m : MethodId} {args : Array Value} {below : List Frame} {meth : Method} {c : Code} {H : Heap} {locs : List Loc} {cells slots mc ms : Nat} {g : JFrame}
    (w : W p l e R s m args below meth c H locs cells slots (MQ below (zg_Q E r) args s mc ms (fun q => zg_b E ≤ q)) g) : W p l e R s m args below meth c H locs cells slots (zg_end E below r args s mc ms) g := by
  intro T hT X
  obtain ⟨t, a, o, b1, b2, b3, L, ⟨hv, hW, hs⟩, hL⟩ := w T hT X
  exact ⟨t, a, o, b1, b2, b3, L, ⟨hW, hs⟩, hL⟩
theorem zg_iret {v : Int32} (hdg : decode (zg_cc M) pc = .ok (.ireturn, 1)) (hrt : zg_rt M = some .int) (hr : r = (.inl (some (.int v)), σ)) : zg_G l E d M pc lv [.int v] σ r := by
  subst hr
  refine ⟨Nat.le_refl _, Nat.le_refl _, ?_⟩
  intro p e R s m args below meth c H locs cells slots ls u0 mc ms hm1 hm2 hc h1 h2 h3 h4 h5 h6 h7 h8
  have e1 : cells = mc := by dsimp only at h3; omega
  have e2 : slots = ms := by dsimp only at h4; omega
  subst e1 e2
  exact zg_mq (W.iret hc.1 hc.2.1 (hc.2.2.2.1.trans hrt) (fun t ht hW => ⟨by rw [ht]; exact h5, fun q hq => by rw [ht]; exact h6 q hq, rfl⟩) h7 hdg hc.2.2.2.2.2.1)
theorem zg_zret {v : Int32} {ty : FieldType} (hdg : decode (zg_cc M) pc = .ok (.ireturn, 1)) (hrt : zg_rt M = some ty) (hn : narrow ty (.int v) = .int v) (hr : r = (.inl (some (.int v)), σ)) : zg_G l E d M pc lv [.int v] σ r := by
  subst hr
  refine ⟨Nat.le_refl _, Nat.le_refl _, ?_⟩
  intro p e R s m args below meth c H locs cells slots ls u0 mc ms hm1 hm2 hc h1 h2 h3 h4 h5 h6 h7 h8
  have e1 : cells = mc := by dsimp only at h3; omega
  have e2 : slots = ms := by dsimp only at h4; omega
  subst e1 e2
  exact zg_mq (W.zret hc.1 hc.2.1 (hc.2.2.2.1.trans hrt) hn (fun t ht hW => ⟨by rw [ht]; exact h5, fun q hq => by rw [ht]; exact h6 q hq, rfl⟩) h7 hdg hc.2.2.2.2.2.1)
theorem zg_lret {v : Int64} (hdg : decode (zg_cc M) pc = .ok (.lreturn, 1)) (hrt : zg_rt M = some .long) (hr : r = (.inl (some (.long v)), σ)) : zg_G l E d M pc lv [.long v] σ r := by
  subst hr
  refine ⟨Nat.le_refl _, Nat.le_refl _, ?_⟩
  intro p e R s m args below meth c H locs cells slots ls u0 mc ms hm1 hm2 hc h1 h2 h3 h4 h5 h6 h7 h8
  have e1 : cells = mc := by dsimp only at h3; omega
  have e2 : slots = ms := by dsimp only at h4; omega
  subst e1 e2
  exact zg_mq (W.lret hc.1 hc.2.1 (hc.2.2.2.1.trans hrt) (fun t ht hW => ⟨by rw [ht]; exact h5, fun q hq => by rw [ht]; exact h6 q hq, rfl⟩) h7 hdg hc.2.2.2.2.2.1)
theorem zg_vret (hdg : decode (zg_cc M) pc = .ok (.return_, 1)) (hrt : zg_rt M = none) (hr : r = (.inl none, σ)) : zg_G l E d M pc lv [] σ r := by
  subst hr
  refine ⟨Nat.le_refl _, Nat.le_refl _, ?_⟩
  intro p e R s m args below meth c H locs cells slots ls u0 mc ms hm1 hm2 hc h1 h2 h3 h4 h5 h6 h7 h8
  have e1 : cells = mc := by dsimp only at h3; omega
  have e2 : slots = ms := by dsimp only at h4; omega
  subst e1 e2
  exact zg_mq (W.vret hc.1 hc.2.1 (hc.2.2.2.1.trans hrt) (fun t ht hW => ⟨by rw [ht]; exact h5, fun q hq => by rw [ht]; exact h6 q hq, rfl⟩) h7 hdg hc.2.2.2.2.2.1)
theorem zg_one {D : va_G} {cl : List vw_C} {q : Nat × va_E} {H : Heap} (h : va_at D cl q H) : va_P D cl [q] H := by
  intro k x hk
  cases k with
  | zero =>
    have : q = x := Option.some.inj hk
    rw [← this]; exact h
  | succ k => simp at hk
/-- a field of a class of ours: what the tables say of it -/
def zg_fld (E : zg_E) (own : String) (index ci k : Nat) : Prop := ∃ (C : String) (T : u_T) (N : Nat), (zg_cl E)[ci]? = some (C, T, N) ∧ k < N ∧ Cond.fieldLink own index (T k).1 (T k).2.1 (T k).2.2.1 ∈ zg_ws E ∧ ∀ w ∈ u_ws C T N, w ∈ zg_ws E
def zg_fty (E : zg_E) (ci k : Nat) (ty : FieldType) (fin : Bool) : Prop := ∃ (C : String) (T : u_T) (N : Nat) (ty0 : Nat → FieldType), (zg_cl E)[ci]? = some (C, T, N) ∧ (∀ j, j < N → parseFieldDescriptor (T j).2.2.1 = some (ty0 j)) ∧ (∀ a, a < N → ∀ b, b < N → a ≠ b → (T a).2.1 ≠ (T b).2.1) ∧ (T k).2.2.2 = fin ∧ parseFieldDescriptor (T k).2.2.1 = some ty
theorem zg_getf {index ci k a : Nat} {fs : List Value} {v : Value} (hdg : decode (zg_cc M) pc = .ok (.getfield index, 3)) (hf : zg_fld E (zg_my M).cls index ci k) (hσ : σ.1 a = some (.inr (ci, fs))) (hv : fs[k]? = some v)
    (kk : zg_G l E d M (pc + 3) lv (v :: st) σ r) : zg_G l E d M pc lv (.ref a :: st) σ r := by
  refine ⟨kk.1, kk.2.1, ?_⟩
  intro p e R s m args below meth c H locs cells slots ls u0 mc ms hm1 hm2 hc h1 h2 h3 h4 h5 h6 h7 h8
  obtain ⟨C, T, N, c1, c2, c3, c4⟩ := hf
  obtain ⟨b1, b2, b3⟩ := hc.2.2.2.2.2.2.2.1.here
  have hts : ∀ w ∈ zg_ws E, w.before args s = true := fun w hw => b1 w hw args
  exact va_get (D := zg_D E) (cl := zg_cl E) (tys := zg_ty E) (ws := [(a, .inr (ci, fs))]) (C := C) (T := T) (N := N) (ci := ci) hc.1 hc.2.1 hts c4 hc.2.2.2.2.1 b2 (zg_one (h5.2.2 a _ hσ).1) 0 rfl c1 k c2 (hts _ c3) (fun x hx => hx) hv hdg
    (kk.2.2 p e R s m args below meth c H locs cells slots ls u0 mc ms hm1 hm2 hc h1 h2 h3 h4 h5 h6 h7 h8)
/-- the heap with another content at a -/
def zg_up (σ : zg_H) (a : Nat) (e : va_E) : zg_H := (fun q => if q = a then some e else σ.1 q, σ.2)
theorem zg_rep_up {σ : zg_H} {H H1 : Heap} {a : Nat} {e0 e : va_E} (h : zg_rep E σ H) (ha : σ.1 a = some e0) (hz : H1.size = H.size) (ho : ∀ q : Nat, q ≠ a → H1[q]? = H[q]?) (he : va_at (zg_D E) (zg_cl E) (a, e) H1) : zg_rep E (zg_up σ a e) H1 := by
  refine ⟨hz.trans h.1, by rw [hz]; exact h.2.1, fun q x hx => ?_⟩
  by_cases hq : q = a
  · subst hq
    have hx : (if q = q then some e else σ.1 q) = some x := hx
    rw [if_pos rfl] at hx
    cases hx
    exact ⟨he, (h.2.2 _ _ ha).2⟩
  · have hx : (if q = a then some e else σ.1 q) = some x := hx
    rw [if_neg hq] at hx
    exact ⟨(h.2.2 q x hx).1.kept (ho q hq), (h.2.2 q x hx).2⟩
theorem zg_old_up {σ : zg_H} {H H1 H0 : Heap} {a : Nat} {e0 : va_E} (h : zg_rep E σ H) (ha : σ.1 a = some e0) (ho : ∀ q : Nat, q ≠ a → H1[q]? = H[q]?) (h6 : ∀ q : Nat, q < zg_b E → H[q]? = H0[q]?) : ∀ q : Nat, q < zg_b E → H1[q]? = H0[q]? := by
  intro q hq
  have := (h.2.2 _ _ ha).2
  rw [ho q (by omega)]
  exact h6 q hq
theorem zg_locs_up {σ : zg_H} {H : Heap} {a i : Nat} {e0 : va_E} {locs : List Loc} (h : zg_rep E σ H) (ha : σ.1 a = some e0) (h7 : ∀ x ∈ locs, zg_b E ≤ x.base) : ∀ x ∈ locs ++ [(⟨a, i⟩ : Loc)], zg_b E ≤ x.base := by
  intro x hx
  rcases List.mem_append.mp hx with hx | hx
  · exact h7 x hx
  · rw [List.mem_singleton.mp hx]; exact (h.2.2 _ _ ha).2
theorem zg_putf {index ci k a : Nat} {fs : List Value} {v : Value} {ty : FieldType} {σ2 : zg_H} (hdg : decode (zg_cc M) pc = .ok (.putfield index, 3)) (hf : zg_fld E (zg_my M).cls index ci k) (ht : zg_fty E ci k ty false) (hσ : σ.1 a = some (.inr (ci, fs))) (hl : k < fs.length)
    (hn : narrow ty v = v) (hfit : fits ty v = true) (h2 : zg_up σ a (.inr (ci, fs.set k v)) = σ2) (kk : zg_G l E d M (pc + 3) lv st σ2 r) : zg_G l E d M pc lv (v :: .ref a :: st) σ r := by
  subst h2
  refine ⟨kk.1, kk.2.1, ?_⟩
  intro p e R s m args below meth c H locs cells slots ls u0 mc ms hm1 hm2 hc h1 h2 h3 h4 h5 h6 h7 h8
  obtain ⟨C, T, N, c1, c2, c3, c4⟩ := hf
  obtain ⟨C', T', N', ty0, g1, g2, g3, g4, g5⟩ := ht
  cases Option.some.inj (c1.symm.trans g1)
  obtain ⟨b1, b2, b3⟩ := hc.2.2.2.2.2.2.2.1.here
  have hts : ∀ w ∈ zg_ws E, w.before args s = true := fun w hw => b1 w hw args
  have hap := va_apart (own := (zg_my M).cls) hts c4 ty0 g2 g3 b2 c1
  obtain ⟨r9, h9, cell, q1, q2, q3, q4⟩ := (h5.2.2 a _ hσ).1
  have hr9 : r9 = (C, T, N) := Option.some.inj (h9.symm.trans c1)
  subst hr9
  obtain ⟨hS, hfc, kC, hkC, hkind⟩ := b2.1 ci _ c1
  obtain ⟨cf, kf, fi, f, hi, hsl⟩ := hS k c2
  have hlay := hts _ (c4 _ (u_in_lay c2))
  unfold u_lay at hlay
  rw [if_neg (by rw [g4]; decide)] at hlay
  have hst := (u_facts hfc hkC (u_lays hts c4 c2) hi).1
  have h10 := u_store hfc hkC hkind hlay hi g5 hn hfit
  refine W.putK hc.1 hc.2.1 (f := f) ⟨hc.2.2.2.2.1, hts _ c3, ⟨_, _, _, hi⟩, hst⟩ (by rw [q2]; exact h10) q1 q3 (by rw [hsl]; exact k2_hasslot (q4 k c2)) rfl rfl hdg fun H' e1 e2 e3 => ?_
  rw [hsl] at e1 ⊢
  have he : va_at (zg_D E) (zg_cl E) (a, .inr (ci, fs.set k v)) H' := ⟨_, c1, t_OB.to (V := updV (vp_V fs) k v) ⟨_, e1, q2, q3, t_set q4 hap c2 v⟩ (fun j _ => vp_updV_set hl v j)⟩
  exact kk.2.2 p e R s m args below meth c H' _ cells slots ls u0 mc ms hm1 hm2 hc h1 h2 h3 h4 (zg_rep_up h5 hσ e2 e3 he) (zg_old_up h5 hσ e3 h6) (zg_locs_up h5 hσ h7) h8
/-- a final field, in a constructor -/
theorem zg_putF {index ci k a : Nat} {fs : List Value} {v : Value} {ty : FieldType} {σ2 : zg_H} (hdg : decode (zg_cc M) pc = .ok (.putfield index, 3)) (hf : zg_fld E (zg_my M).cls index ci k) (ht : zg_fty E ci k ty true) (hown : ∀ (C : String) (T : u_T) (N : Nat), (zg_cl E)[ci]? = some (C, T, N) → (T k).1 = (zg_my M).cls) (hnm : (zg_my M).name = "<init>") (hσ : σ.1 a = some (.inr (ci, fs))) (hl : k < fs.length)
    (hn : narrow ty v = v) (hfit : fits ty v = true) (h2 : zg_up σ a (.inr (ci, fs.set k v)) = σ2) (kk : zg_G l E d M (pc + 3) lv st σ2 r) : zg_G l E d M pc lv (v :: .ref a :: st) σ r := by
  subst h2
  refine ⟨kk.1, kk.2.1, ?_⟩
  intro p e R s m args below meth c H locs cells slots ls u0 mc ms hm1 hm2 hc h1 h2 h3 h4 h5 h6 h7 h8
  obtain ⟨C, T, N, c1, c2, c3, c4⟩ := hf
  obtain ⟨C', T', N', ty0, g1, g2, g3, g4, g5⟩ := ht
  cases Option.some.inj (c1.symm.trans g1)
  obtain ⟨b1, b2, b3⟩ := hc.2.2.2.2.2.2.2.1.here
  have hts : ∀ w ∈ zg_ws E, w.before args s = true := fun w hw => b1 w hw args
  have hap := va_apart (own := (zg_my M).cls) hts c4 ty0 g2 g3 b2 c1
  obtain ⟨r9, h9, cell, q1, q2, q3, q4⟩ := (h5.2.2 a _ hσ).1
  have hr9 : r9 = (C, T, N) := Option.some.inj (h9.symm.trans c1)
  subst hr9
  obtain ⟨hS, hfc, kC, hkC, hkind⟩ := b2.1 ci _ c1
  obtain ⟨cf, kf, fi, f, hi, hsl⟩ := hS k c2
  have hlay := hts _ (c4 _ (u_in_lay c2))
  unfold u_lay at hlay
  rw [if_pos g4] at hlay
  have hst := (u_facts hfc hkC (u_lays hts c4 c2) hi).1
  have hcf : m.cls = cf := by
    obtain ⟨_, _, c', _, _, _, -, -, hf', -, -, -, hown2, -⟩ := Cond.laysFinal_spec hlay
    have e1 : c' = cf := by have := hi.symm.trans hf'; simp at this; exact this.1.symm
    rw [hown C T N c1] at hown2
    rw [← e1]; exact Option.some.inj (hc.2.2.2.2.1.symm.trans hown2)
  have h10 := u_fits hfc hkC hkind (Or.inr hlay) hi g5 hn hfit
  refine W.putFinK hc.1 hc.2.1 hc.2.2.2.2.1 (hts _ c3) hi hst hcf (hc.2.2.2.2.2.2.1.trans hnm) (by rw [q2]; exact h10) q1 q3 (by rw [hsl]; exact k2_hasslot (q4 k c2)) rfl rfl hdg fun H' e1 e2 e3 => ?_
  rw [hsl] at e1 ⊢
  have he : va_at (zg_D E) (zg_cl E) (a, .inr (ci, fs.set k v)) H' := ⟨_, c1, t_OB.to (V := updV (vp_V fs) k v) ⟨_, e1, q2, q3, t_set q4 hap c2 v⟩ (fun j _ => vp_updV_set hl v j)⟩
  exact kk.2.2 p e R s m args below meth c H' _ cells slots ls u0 mc ms hm1 hm2 hc h1 h2 h3 h4 (zg_rep_up h5 hσ e2 e3 he) (zg_old_up h5 hσ e3 h6) (zg_locs_up h5 hσ h7) h8
/-- arrays -/
theorem zg_iald {a k n t0 : Nat} {i : Int32} {cA : ClassId} {f : Nat → Int32} (hdg : decode (zg_cc M) pc = .ok (.iaload, 1)) (hσ : σ.1 a = some (.inl (cA, n, .inl f))) (ht : (zg_ty E)[t0]? = some (cA, .int)) (hi : i = nI k) (hk : k < n) (hn : n < 2 ^ 31)
    (kk : zg_G l E d M (pc + 1) lv (.int (f k) :: st) σ r) : zg_G l E d M pc lv (.int i :: .ref a :: st) σ r := by
  subst hi
  refine ⟨kk.1, kk.2.1, ?_⟩
  intro p e R s m args below meth c H locs cells slots ls u0 mc ms hm1 hm2 hc h1 h2 h3 h4 h5 h6 h7 h8
  obtain ⟨b1, b2, b3⟩ := hc.2.2.2.2.2.2.2.1.here
  refine va_iald (D := zg_D E) (cl := zg_cl E) (tys := zg_ty E) (ws := [(a, .inl (cA, n, .inl f))]) hc.1 hc.2.1 b2 (zg_one (h5.2.2 a _ hσ).1) 0 t0 rfl ht (vp_in_nI hk hn) hdg ?_
  rw [nI_clamp (Nat.lt_trans hk hn)]
  exact kk.2.2 p e R s m args below meth c H locs cells slots ls u0 mc ms hm1 hm2 hc h1 h2 h3 h4 h5 h6 h7 h8
theorem zg_zald {a k n t0 : Nat} {i : Int32} {cA : ClassId} {f : Nat → Int32} (hdg : decode (zg_cc M) pc = .ok (.baload, 1)) (hσ : σ.1 a = some (.inl (cA, n, .inl f))) (ht : (zg_ty E)[t0]? = some (cA, .boolean)) (hi : i = nI k) (hk : k < n) (hn : n < 2 ^ 31)
    (kk : zg_G l E d M (pc + 1) lv (.int (f k) :: st) σ r) : zg_G l E d M pc lv (.int i :: .ref a :: st) σ r := by
  subst hi
  refine ⟨kk.1, kk.2.1, ?_⟩
  intro p e R s m args below meth c H locs cells slots ls u0 mc ms hm1 hm2 hc h1 h2 h3 h4 h5 h6 h7 h8
  obtain ⟨b1, b2, b3⟩ := hc.2.2.2.2.2.2.2.1.here
  refine va_zald (D := zg_D E) (cl := zg_cl E) (tys := zg_ty E) (ws := [(a, .inl (cA, n, .inl f))]) hc.1 hc.2.1 b2 (zg_one (h5.2.2 a _ hσ).1) 0 t0 rfl ht (vp_in_nI hk hn) hdg ?_
  rw [nI_clamp (Nat.lt_trans hk hn)]
  exact kk.2.2 p e R s m args below meth c H locs cells slots ls u0 mc ms hm1 hm2 hc h1 h2 h3 h4 h5 h6 h7 h8
theorem zg_lald {a k n t0 : Nat} {i : Int32} {cA : ClassId} {f : Nat → Int64} (hdg : decode (zg_cc M) pc = .ok (.laload, 1)) (hσ : σ.1 a = some (.inl (cA, n, .inr (.inl f)))) (ht : (zg_ty E)[t0]? = some (cA, .long)) (hi : i = nI k) (hk : k < n) (hn : n < 2 ^ 31)
    (kk : zg_G l E d M (pc + 1) lv (.long (f k) :: st) σ r) : zg_G l E d M pc lv (.int i :: .ref a :: st) σ r := by
  subst hi
  refine ⟨kk.1, kk.2.1, ?_⟩
  intro p e R s m args below meth c H locs cells slots ls u0 mc ms hm1 hm2 hc h1 h2 h3 h4 h5 h6 h7 h8
  obtain ⟨b1, b2, b3⟩ := hc.2.2.2.2.2.2.2.1.here
  refine va_lald (D := zg_D E) (cl := zg_cl E) (tys := zg_ty E) (ws := [(a, .inl (cA, n, .inr (.inl f)))]) hc.1 hc.2.1 b2 (zg_one (h5.2.2 a _ hσ).1) 0 t0 rfl ht (vp_in_nI hk hn) hdg ?_
  rw [nI_clamp (Nat.lt_trans hk hn)]
  exact kk.2.2 p e R s m args below meth c H locs cells slots ls u0 mc ms hm1 hm2 hc h1 h2 h3 h4 h5 h6 h7 h8
theorem zg_aald {a k n t0 b : Nat} {i : Int32} {cA : ClassId} {C : String} {f : Nat → Option Nat} (hdg : decode (zg_cc M) pc = .ok (.aaload, 1)) (hσ : σ.1 a = some (.inl (cA, n, .inr (.inr (.inr (.inr f)))))) (ht : (zg_ty E)[t0]? = some (cA, .object C)) (hi : i = nI k) (hk : k < n) (hn : n < 2 ^ 31) (hb : f k = some b)
    (kk : zg_G l E d M (pc + 1) lv (.ref b :: st) σ r) : zg_G l E d M pc lv (.int i :: .ref a :: st) σ r := by
  subst hi
  refine ⟨kk.1, kk.2.1, ?_⟩
  intro p e R s m args below meth c H locs cells slots ls u0 mc ms hm1 hm2 hc h1 h2 h3 h4 h5 h6 h7 h8
  obtain ⟨b1, b2, b3⟩ := hc.2.2.2.2.2.2.2.1.here
  refine va_aldq (D := zg_D E) (cl := zg_cl E) (tys := zg_ty E) (ws := [(a, .inl (cA, n, .inr (.inr (.inr (.inr f)))))]) hc.1 hc.2.1 b2 (zg_one (h5.2.2 a _ hσ).1) 0 t0 rfl ht (vp_in_nI hk hn) hdg ?_
  rw [nI_clamp (Nat.lt_trans hk hn), hb]
  exact kk.2.2 p e R s m args below meth c H locs cells slots ls u0 mc ms hm1 hm2 hc h1 h2 h3 h4 h5 h6 h7 h8
theorem zg_iast {a k n t0 : Nat} {i x : Int32} {cA : ClassId} {f : Nat → Int32} {σ2 : zg_H} (hdg : decode (zg_cc M) pc = .ok (.iastore, 1)) (hσ : σ.1 a = some (.inl (cA, n, .inl f))) (ht : (zg_ty E)[t0]? = some (cA, .int)) (hi : i = nI k) (hk : k < n) (hn : n < 2 ^ 31)
    (h2 : zg_up σ a (.inl (cA, n, .inl (upd f k x))) = σ2) (kk : zg_G l E d M (pc + 1) lv st σ2 r) : zg_G l E d M pc lv (.int x :: .int i :: .ref a :: st) σ r := by
  subst hi h2
  refine ⟨kk.1, kk.2.1, ?_⟩
  intro p e R s m args below meth c H locs cells slots ls u0 mc ms hm1 hm2 hc h1 h2 h3 h4 h5 h6 h7 h8
  obtain ⟨b1, b2, b3⟩ := hc.2.2.2.2.2.2.2.1.here
  have hcell := (h5.2.2 a _ hσ).1
  refine W.iast hc.1 hc.2.1 hcell ((b2.2 t0 _ ht).1 n (fun j => .int (f j))) (fun q => by cases q) (by show ¬ (nI k < 0 ∨ (arrV _ _ _).slots.size ≤ _); rw [arrV_size]; exact vp_in_nI hk hn) rfl rfl hdg fun H1 e1 z oq => ?_
  have he : va_at (zg_D E) (zg_cl E) (a, .inl (cA, n, .inl (upd f k x))) H1 := by
    show H1[a]? = some (vp_cell _ _)
    rw [e1, vp_cell_i, vp_cell_i, arrV_store, nI_clamp (Nat.lt_trans hk hn)]
    congr 2
    funext q
    by_cases hq : q = k
    · subst hq; simp [updV, upd]
    · simp [updV, upd, hq]
  exact kk.2.2 p e R s m args below meth c H1 _ cells slots ls u0 mc ms hm1 hm2 hc h1 h2 h3 h4 (zg_rep_up h5 hσ z oq he) (zg_old_up h5 hσ oq h6) (zg_locs_up h5 hσ h7) h8
theorem zg_last {a k n t0 : Nat} {i : Int32} {x : Int64} {cA : ClassId} {f : Nat → Int64} {σ2 : zg_H} (hdg : decode (zg_cc M) pc = .ok (.lastore, 1)) (hσ : σ.1 a = some (.inl (cA, n, .inr (.inl f)))) (ht : (zg_ty E)[t0]? = some (cA, .long)) (hi : i = nI k) (hk : k < n) (hn : n < 2 ^ 31)
    (h2 : zg_up σ a (.inl (cA, n, .inr (.inl (vp_updL f k x)))) = σ2) (kk : zg_G l E d M (pc + 1) lv st σ2 r) : zg_G l E d M pc lv (.long x :: .int i :: .ref a :: st) σ r := by
  subst hi h2
  refine ⟨kk.1, kk.2.1, ?_⟩
  intro p e R s m args below meth c H locs cells slots ls u0 mc ms hm1 hm2 hc h1 h2 h3 h4 h5 h6 h7 h8
  obtain ⟨b1, b2, b3⟩ := hc.2.2.2.2.2.2.2.1.here
  have hcell := (h5.2.2 a _ hσ).1
  refine W.last hc.1 hc.2.1 hcell ((b2.2 t0 _ ht).1 n (fun j => .long (f j))) (fun q => by cases q) (by show ¬ (nI k < 0 ∨ (arrV _ _ _).slots.size ≤ _); rw [arrV_size]; exact vp_in_nI hk hn) rfl rfl hdg fun H1 e1 z oq => ?_
  have he : va_at (zg_D E) (zg_cl E) (a, .inl (cA, n, .inr (.inl (vp_updL f k x)))) H1 := by
    show H1[a]? = some (vp_cell _ _)
    rw [e1, vp_cell_l, vp_cell_l, arrV_store, nI_clamp (Nat.lt_trans hk hn)]
    congr 2
    funext q
    by_cases hq : q = k
    · subst hq; simp [updV, vp_updL]
    · simp [updV, vp_updL, hq]
  exact kk.2.2 p e R s m args below meth c H1 _ cells slots ls u0 mc ms hm1 hm2 hc h1 h2 h3 h4 (zg_rep_up h5 hσ z oq he) (zg_old_up h5 hσ oq h6) (zg_locs_up h5 hσ h7) h8
theorem zg_zast {a k n t0 : Nat} {i x : Int32} {cA : ClassId} {f : Nat → Int32} {σ2 : zg_H} (hdg : decode (zg_cc M) pc = .ok (.bastore, 1)) (hσ : σ.1 a = some (.inl (cA, n, .inl f))) (ht : (zg_ty E)[t0]? = some (cA, .boolean)) (hi : i = nI k) (hk : k < n) (hn : n < 2 ^ 31) (hx : narrow .boolean (.int x) = .int x)
    (h2 : zg_up σ a (.inl (cA, n, .inl (upd f k x))) = σ2) (kk : zg_G l E d M (pc + 1) lv st σ2 r) : zg_G l E d M pc lv (.int x :: .int i :: .ref a :: st) σ r := by
  subst hi h2
  refine ⟨kk.1, kk.2.1, ?_⟩
  intro p e R s m args below meth c H locs cells slots ls u0 mc ms hm1 hm2 hc h1 h2 h3 h4 h5 h6 h7 h8
  obtain ⟨b1, b2, b3⟩ := hc.2.2.2.2.2.2.2.1.here
  have hcell := (h5.2.2 a _ hσ).1
  refine W.zast hc.1 hc.2.1 hcell ((b2.2 t0 _ ht).1 n (fun j => .int (f j))) (fun q => by cases q) (by show ¬ (nI k < 0 ∨ (arrV _ _ _).slots.size ≤ _); rw [arrV_size]; exact vp_in_nI hk hn) rfl rfl hdg fun H1 e1 z oq => ?_
  have he : va_at (zg_D E) (zg_cl E) (a, .inl (cA, n, .inl (upd f k x))) H1 := by
    show H1[a]? = some (vp_cell _ _)
    rw [e1, hx, vp_cell_i, vp_cell_i, arrV_store, nI_clamp (Nat.lt_trans hk hn)]
    congr 2
    funext q
    by_cases hq : q = k
    · subst hq; simp [updV, upd]
    · simp [updV, upd, hq]
  exact kk.2.2 p e R s m args below meth c H1 _ cells slots ls u0 mc ms hm1 hm2 hc h1 h2 h3 h4 (zg_rep_up h5 hσ z oq he) (zg_old_up h5 hσ oq h6) (zg_locs_up h5 hσ h7) h8
end ZG3
