section ZG6
variable {l : Launch} {E : zg_E} {d : Nat} {M : zg_M} {pc : Nat} {lv : List (Nat × Value)} {st : List Value} {σ : zg_H} {r : zg_R}
/-- behind a call that returns -/
theorem zg_fin {M2 : zg_M} {v : Option Value} {σ2 : zg_H} {av rest : List Value} {n : Nat} (hC : zg_C l E d M2 av σ (.inl v, σ2)) (k : zg_G l E (d + 1) M (pc + 3) lv (v.toList ++ rest) σ2 r) (hm : zg_mth E M2 n) (hwt : (rest.map fun v => v.category).sum + zg_ml M2 ≤ 25)
    {p : Program} {e : Env} {R : Room} {s : State} {m : MethodId} {args : Array Value} {below : List Frame} {meth : Method} {c : Code} {H : Heap} {locs : List Loc} {cells slots : Nat} {ls : Array Slot} {u0 mc ms : Nat} (hm1 : mc ≤ R.cells) (hm2 : ms ≤ R.slots)
    (hc : zg_cx l E (d + 1) M p R s m meth c) (h1 : s.heap.size + cells = zg_sz σ) (h2 : u0 + slots = zg_us σ) (h3 : s.heap.size + mc = zg_sz r.2) (h4 : u0 + ms = zg_us r.2) (h5 : zg_rep E σ H) (h6 : ∀ q : Nat, q < zg_b E → H[q]? = s.heap[q]?) (h7 : ∀ x ∈ locs, zg_b E ≤ x.base) (h8 : lv_has ls (zg_ml M) lv)
    {T : State} {vm₁ : Vm} {mk : MethodId} (hT : T.heap = H) (X₁ : Stand p l e R s m args below meth c (T.setVm vm₁) locs cells slots) (hnamed : s.methodNamed? (zg_my M2) = some mk) {ig : Instr} (hdg : decode (zg_cc M) pc = .ok (ig, 3)) :
    ∃ t, Steps p.tables e below (doInvoke e ((T.setVm vm₁).setTop (F0 m pc ls rest)) [] mk av.toArray).1 t ∧ zg_end E below r args s mc ms t := by
  have hz : zg_sz σ ≤ zg_sz σ2 := hC.1
  have hu : zg_us σ ≤ zg_us σ2 := hC.2.1
  have k1 := k.1
  have k2 := k.2.1
  have hfr := hc.2.2.2.2.2.2.2.2.2.1
  have hlo := hc.2.2.2.2.2.2.2.2.2.2.1
  have henv : zg_env E (T.setVm vm₁) (T.setVm vm₁).heap := hc.2.2.2.2.2.2.2.1.to X₁.warmed (fun q hq => by show T.heap[q]? = _; rw [hT]; exact h6 q hq)
  have hrep : zg_rep E σ (T.setVm vm₁).heap := by show zg_rep E σ T.heap; rw [hT]; exact h5
  obtain ⟨T', L, X', hL, hr', ho', hst⟩ := zg_inv (r := (.inl v, σ2)) hC X₁ (g := F0 m pc ls rest) rfl (by rw [hc.2.2.1]; exact h8.1) (by rw [hc.2.1]; exact hdg) (by omega)
    (by show 2 * 0 + (rest.map fun v => v.category).sum + (zg_ml M2 + 11) + 36 * d ≤ R.locals; omega) (by show cells + (zg_sz σ2 - zg_sz σ) ≤ _; omega) (by show slots + (zg_us σ2 - zg_us σ) ≤ _; omega)
    (X₁.named hnamed) (fun a => henv.here.1 _ hm.1 a) (fun a => henv.here.1 _ hm.2.1 a) henv hrep
  obtain ⟨t, a1, b1⟩ := k.2.2 p e R s m args below meth c T'.heap (locs ++ L) (cells + (zg_sz σ2 - zg_sz σ)) (slots + (zg_us σ2 - zg_us σ)) ls u0 mc ms hm1 hm2 hc (by omega) (by omega) h3 h4 hr'
    (fun q hq => by rw [ho' q hq]; show T.heap[q]? = _; rw [hT]; exact h6 q hq) (fun x hx => (List.mem_append.mp hx).elim (h7 x) (hL x)) h8 T' rfl X'
  exact ⟨t, hst.trans a1, b1⟩
/-- a call that throws, and no row of the table covers it: out of the method -/
theorem zg_finT {M2 : zg_M} {x : Nat × String} {σ2 : zg_H} {av rest : List Value} {n : Nat} (hC : zg_C l E d M2 av σ (.inr x, σ2)) (hm : zg_mth E M2 n) (hwt : (rest.map fun v => v.category).sum + zg_ml M2 ≤ 25) (hcov : ∀ h ∈ zg_hh M, (decide (h.1 ≤ pc) && decide (pc < h.2.1)) = false) (hr : r = (.inr x, σ2))
    {p : Program} {e : Env} {R : Room} {s : State} {m : MethodId} {args : Array Value} {below : List Frame} {meth : Method} {c : Code} {H : Heap} {locs : List Loc} {cells slots : Nat} {ls : Array Slot} {u0 mc ms : Nat} (hm1 : mc ≤ R.cells) (hm2 : ms ≤ R.slots)
    (hc : zg_cx l E (d + 1) M p R s m meth c) (h1 : s.heap.size + cells = zg_sz σ) (h2 : u0 + slots = zg_us σ) (h3 : s.heap.size + mc = zg_sz r.2) (h4 : u0 + ms = zg_us r.2) (h5 : zg_rep E σ H) (h6 : ∀ q : Nat, q < zg_b E → H[q]? = s.heap[q]?) (h7 : ∀ x ∈ locs, zg_b E ≤ x.base) (h8 : lv_has ls (zg_ml M) lv)
    {T : State} {vm₁ : Vm} {mk : MethodId} (hT : T.heap = H) (X₁ : Stand p l e R s m args below meth c (T.setVm vm₁) locs cells slots) (hnamed : s.methodNamed? (zg_my M2) = some mk) {ig : Instr} (hdg : decode (zg_cc M) pc = .ok (ig, 3)) :
    ∃ t, Steps p.tables e below (doInvoke e ((T.setVm vm₁).setTop (F0 m pc ls rest)) [] mk av.toArray).1 t ∧ zg_end E below r args s mc ms t := by
  subst hr
  have hz : zg_sz σ ≤ zg_sz σ2 := hC.1
  have hu : zg_us σ ≤ zg_us σ2 := hC.2.1
  have h3 : s.heap.size + mc = zg_sz σ2 := h3
  have h4 : u0 + ms = zg_us σ2 := h4
  have hfr := hc.2.2.2.2.2.2.2.2.2.1
  have hlo := hc.2.2.2.2.2.2.2.2.2.2.1
  have henv : zg_env E (T.setVm vm₁) (T.setVm vm₁).heap := hc.2.2.2.2.2.2.2.1.to X₁.warmed (fun q hq => by show T.heap[q]? = _; rw [hT]; exact h6 q hq)
  have hrep : zg_rep E σ (T.setVm vm₁).heap := by show zg_rep E σ T.heap; rw [hT]; exact h5
  obtain ⟨T', L, X', hL, hr', ho', ⟨cell, hc1, hc2, hc3⟩, hst⟩ := zg_inv (r := (.inr x, σ2)) hC X₁ (g := F0 m pc ls rest) rfl (by rw [hc.2.2.1]; exact h8.1) (by rw [hc.2.1]; exact hdg) (by omega)
    (by show 2 * 0 + (rest.map fun v => v.category).sum + (zg_ml M2 + 11) + 36 * d ≤ R.locals; omega) (by show cells + (zg_sz σ2 - zg_sz σ) ≤ _; omega) (by show slots + (zg_us σ2 - zg_us σ) ≤ _; omega)
    (X₁.named hnamed) (fun a => henv.here.1 _ hm.1 a) (fun a => henv.here.1 _ hm.2.1 a) henv hrep
  have hout : ∀ y ∈ c.exceptionTable.toList, covers y (F0 m pc ls rest).pc = false := by
    intro y hy
    exact hcov (y.startPc, y.endPc, y.handlerPc, y.catchType) (by rw [← hc.2.2.2.2.2.2.2.2.2.2.2]; exact List.mem_map.mpr ⟨y, hy, rfl⟩)
  obtain ⟨hwalk, hrun, hended, hWU, hsame⟩ := X'.leaveThrown x.1 (g := F0 m pc ls rest) rfl rfl rfl hout hc.2.2.2.2.2.1
  have e1 : cells + (zg_sz σ2 - zg_sz σ) = mc := by omega
  have e2 : slots + (zg_us σ2 - zg_us σ) = ms := by omega
  rw [show cells + (zg_sz ((Sum.inr x, σ2) : zg_R).2 - zg_sz σ) = mc from e1, show slots + (zg_us ((Sum.inr x, σ2) : zg_R).2 - zg_us σ) = ms from e2] at hsame
  refine ⟨_, hst.trans hwalk, .threw x.1, hrun, hended, ⟨hr', fun q hq => ?_, rfl, cell, hc1, hc2, ?_⟩, locs ++ L, ⟨hWU, hsame⟩, fun q hq => (List.mem_append.mp hq).elim (h7 q) (hL q)⟩
  · show T'.heap[q]? = _
    rw [ho' q hq]; show T.heap[q]? = _; rw [hT]; exact h6 q hq
  · rw [← X₁.warmed.alike.findClass]; exact hc3
theorem zg_callS {M2 : zg_M} {n index : Nat} {v : Option Value} {σ2 : zg_H} {av rest : List Value} (hdg : decode (zg_cc M) pc = .ok (.invokestatic index, 3)) (hl : zg_lk E (zg_my M).cls index (zg_my M2)) (hm : zg_mth E M2 n) (hs : Cond.static (zg_my M2) ∈ zg_ws E) (hn : av.length = n) (hst : st = av.reverse ++ rest) (hwt : (rest.map fun v => v.category).sum + zg_ml M2 ≤ 25)
    (hC : zg_C l E d M2 av σ (.inl v, σ2)) (k : zg_G l E (d + 1) M (pc + 3) lv (v.toList ++ rest) σ2 r) : zg_G l E (d + 1) M pc lv st σ r := by
  subst hst
  refine ⟨Nat.le_trans hC.1 k.1, Nat.le_trans hC.2.1 k.2.1, ?_⟩
  intro p e R s m args below meth c H locs cells slots ls u0 mc ms hm1 hm2 hc h1 h2 h3 h4 h5 h6 h7 h8 T hT X
  obtain ⟨mk, vm₁, hnamed, X₁, go⟩ := zg_goS X hc hl hm hs (g := F0 m pc ls (av.reverse ++ rest)) rfl hn rfl hdg
  obtain ⟨t, a1, b1⟩ := zg_fin hC k hm hwt hm1 hm2 hc h1 h2 h3 h4 h5 h6 h7 h8 hT X₁ hnamed hdg
  exact ⟨t, go t a1, b1⟩
theorem zg_callST {M2 : zg_M} {n index : Nat} {x : Nat × String} {σ2 : zg_H} {av rest : List Value} (hdg : decode (zg_cc M) pc = .ok (.invokestatic index, 3)) (hl : zg_lk E (zg_my M).cls index (zg_my M2)) (hm : zg_mth E M2 n) (hs : Cond.static (zg_my M2) ∈ zg_ws E) (hn : av.length = n) (hst : st = av.reverse ++ rest) (hwt : (rest.map fun v => v.category).sum + zg_ml M2 ≤ 25)
    (hC : zg_C l E d M2 av σ (.inr x, σ2)) (hcov : ∀ h ∈ zg_hh M, (decide (h.1 ≤ pc) && decide (pc < h.2.1)) = false) (hr : r = (.inr x, σ2)) : zg_G l E (d + 1) M pc lv st σ r := by
  subst hst
  refine ⟨by rw [hr]; exact hC.1, by rw [hr]; exact hC.2.1, ?_⟩
  intro p e R s m args below meth c H locs cells slots ls u0 mc ms hm1 hm2 hc h1 h2 h3 h4 h5 h6 h7 h8 T hT X
  obtain ⟨mk, vm₁, hnamed, X₁, go⟩ := zg_goS X hc hl hm hs (g := F0 m pc ls (av.reverse ++ rest)) rfl hn rfl hdg
  obtain ⟨t, a1, b1⟩ := zg_finT hC hm hwt hcov hr hm1 hm2 hc h1 h2 h3 h4 h5 h6 h7 h8 hT X₁ hnamed hdg
  exact ⟨t, go t a1, b1⟩
theorem zg_recv {ci b : Nat} {q : vw_C} {fs : List Value} {H : Heap} {s : State} (hK : va_K (zg_D E) (zg_cl E) (zg_ty E) s) (h5 : zg_rep E σ H) (hσ : σ.1 b = some (.inr (ci, fs))) (hq : (zg_cl E)[ci]? = some q) : ∃ cell : Cell, H[b]? = some cell ∧ cell.vm.isStatics = false ∧ s.vm.findClass q.1 = some cell.cls :=
  va_recv (ws := [(b, .inr (ci, fs))]) (q0 := 0) hK (zg_one (h5.2.2 b _ hσ).1) hq rfl
theorem zg_callV {M2 : zg_M} {n index ci b : Nat} {q : vw_C} {fs : List Value} {v : Option Value} {σ2 : zg_H} {av rest : List Value} (hdg : decode (zg_cc M) pc = .ok (.invokevirtual index, 3)) (hl : zg_lk E (zg_my M).cls index (zg_my M2)) (hm : zg_mth E M2 n) (hi : Cond.instanceMethod (zg_my M2) ∈ zg_ws E) (hse : Cond.selects (zg_my M2).cls (zg_my M2) (zg_my M2) ∈ zg_ws E)
    (hσ : σ.1 b = some (.inr (ci, fs))) (hq : (zg_cl E)[ci]? = some q) (hqc : q.1 = (zg_my M2).cls) (hn : av.length = n) (hst : st = av.reverse ++ .ref b :: rest) (hwt : (rest.map fun v => v.category).sum + zg_ml M2 ≤ 25)
    (hC : zg_C l E d M2 (.ref b :: av) σ (.inl v, σ2)) (k : zg_G l E (d + 1) M (pc + 3) lv (v.toList ++ rest) σ2 r) : zg_G l E (d + 1) M pc lv st σ r := by
  subst hst
  refine ⟨Nat.le_trans hC.1 k.1, Nat.le_trans hC.2.1 k.2.1, ?_⟩
  intro p e R s m args below meth c H locs cells slots ls u0 mc ms hm1 hm2 hc h1 h2 h3 h4 h5 h6 h7 h8 T hT X
  obtain ⟨cellB, g1, g2, g3⟩ := zg_recv (s := s) hc.2.2.2.2.2.2.2.1.here.2.1 h5 hσ hq
  obtain ⟨mk, vm₁, hnamed, X₁, go⟩ := zg_goV X hc hl hm hi hse (b := b) (by rw [hT]; exact g1) g2 (by rw [← hqc]; exact g3) (g := F0 m pc ls (av.reverse ++ .ref b :: rest)) rfl hn rfl hdg
  obtain ⟨t, a1, b1⟩ := zg_fin hC k hm hwt hm1 hm2 hc h1 h2 h3 h4 h5 h6 h7 h8 hT X₁ hnamed hdg
  exact ⟨t, go t a1, b1⟩
theorem zg_callI {M2 : zg_M} {n index b : Nat} {v : Option Value} {σ2 : zg_H} {av rest : List Value} (hdg : decode (zg_cc M) pc = .ok (.invokespecial index, 3)) (hl : zg_lk E (zg_my M).cls index (zg_my M2)) (hm : zg_mth E M2 n) (hi : Cond.instanceMethod (zg_my M2) ∈ zg_ws E) (hnm : (zg_my M2).name = "<init>") (hrt : zg_rt M2 = none) (hhh : zg_hh M2 = [])
    (hn : av.length = n) (hst : st = av.reverse ++ .ref b :: rest) (hwt : (rest.map fun v => v.category).sum + zg_ml M2 ≤ 25)
    (hC : zg_C l E d M2 (.ref b :: av) σ (.inl v, σ2)) (k : zg_G l E (d + 1) M (pc + 3) lv (v.toList ++ rest) σ2 r) : zg_G l E (d + 1) M pc lv st σ r := by
  subst hst
  refine ⟨Nat.le_trans hC.1 k.1, Nat.le_trans hC.2.1 k.2.1, ?_⟩
  intro p e R s m args below meth c H locs cells slots ls u0 mc ms hm1 hm2 hc h1 h2 h3 h4 h5 h6 h7 h8 T hT X
  obtain ⟨mk, vm₁, hnamed, X₁, go⟩ := zg_goI X hc hl hm hi hnm hrt hhh (b := b) (g := F0 m pc ls (av.reverse ++ .ref b :: rest)) rfl hn rfl hdg
  obtain ⟨t, a1, b1⟩ := zg_fin hC k hm hwt hm1 hm2 hc h1 h2 h3 h4 h5 h6 h7 h8 hT X₁ hnamed hdg
  exact ⟨t, go t a1, b1⟩
end ZG6
section ZG7
variable {l : Launch} {E : zg_E} {d : Nat} {M : zg_M} {pc : Nat} {lv : List (Nat × Value)} {st : List Value} {σ : zg_H} {r : zg_R}
/-- the same invocation, as if it had begun with the heap of now -/
theorem zg_restart {p : Program} {e : Env} {R : Room} {s : State} {m : MethodId} {args : Array Value} {below : List Frame} {meth : Method} {c : Code} {T : State} {locs : List Loc} {cells slots : Nat} (X : Stand p l e R s m args below meth c T locs cells slots) (hce : cells ≤ R.cells) (hsl : slots ≤ R.slots) :
    Stand p l e { frames := R.frames, cells := R.cells - cells, slots := R.slots - slots, locals := R.locals } (T.setFrames (.invoking m args :: below)) m args below meth c T [] 0 0 := by
  obtain ⟨g₀, hfr⟩ := X.frames_eq
  have hcur : T.cur < T.threads.size := State.cur_lt_of_frames hfr
  have hF : (T.setFrames (.invoking m args :: below)).frames = .invoking m args :: below := State.frames_setFrames _ hcur
  have hlu : (T.setFrames (.invoking m args :: below)).localsInUse = s.localsInUse := by
    rw [State.localsInUse_invoking hF (show (T.setFrames (.invoking m args :: below)).vm.method? m = some meth from X.method') X.code, State.localsInUse_invoking X.frames X.method X.code]
  refine ⟨X.admits, X.cas, X.clock, hF, ?_, ?_, X.method', X.code, X.here, X.tail, State.WarmedH.refl _, by rw [State.stackLimits_setFrames], by rw [State.stackBytes_setFrames], ?_⟩
  · have hr := X.room
    have hz := X.heapSize
    have hu := X.used
    have hbk := X.book
    simp only [State.hasRoom, Bool.and_eq_true, decide_eq_true_eq] at hr ⊢
    rw [X.frames] at hr
    rw [hlu, hF, State.stackLimits_setFrames, State.stackBytes_setFrames, X.limits, X.bytes]
    refine ⟨⟨⟨⟨hr.1.1.1.1, hr.1.1.1.2⟩, ?_⟩, ?_⟩, hbk⟩
    · have := hr.1.1.2
      show T.heap.size + (R.cells - cells) ≤ _
      omega
    · have := hr.1.2
      show T.slotsUsed + (R.slots - slots) ≤ _
      omega
  · have h1 := X.hears
    rcases below with _ | ⟨y, rest⟩
    · simp only [State.hears] at h1 ⊢
      show (T.vm.method? m).any _ = true
      rw [X.warmed.alike.method?]; exact h1
    · cases y <;> simp only [State.hears, State.code?_eq] at h1 ⊢ <;> first | exact h1 | (show ((T.vm.method? _).bind _ |>.bind _).isSome = true; rw [X.warmed.alike.method?]; exact h1) | (show (T.vm.method? m).any _ = true; rw [X.warmed.alike.method?]; exact h1)
  · obtain ⟨t, ht, -⟩ := State.frames_cons hF
    have h := (State.sameButNew.refl (T.setFrames (.invoking m args :: below)) ht).setFrames T.frames (show (T.setFrames (.invoking m args :: below)).cur < _ from State.cur_lt_of_frames hF)
    obtain ⟨t2, ht2, -⟩ := State.frames_cons hfr
    rw [State.setFrames_setFrames, State.setFrames_self ht2] at h
    exact h
/-- new X("..") is made and thrown; no row of the table covers it -/
theorem zg_throw {X tx : String} {names : List String} {ia ib ic q : Nat} (htr : l.stackTraces = false) (hd : 6 ≤ d) (hnl : names.length ≤ 2) (hst : (st.map fun v => v.category).sum ≤ 8)
    (d1 : decode (zg_cc M) pc = .ok (.new ia, 3)) (d2 : decode (zg_cc M) (pc + 3) = .ok (.dup, 1)) (d3 : decode (zg_cc M) (pc + 4) = .ok (.ldc ib, 2)) (d4 : decode (zg_cc M) (pc + 6) = .ok (.invokespecial ic, 3)) (d5 : decode (zg_cc M) (pc + 9) = .ok (.athrow, 1))
    (hcl : Cond.classLink (zg_my M).cls ia X ∈ zg_ws E) (hini : Cond.initialized X ∈ zg_ws E) (hstr : ∀ U H, zg_x E U H → vk_R (zg_my M).cls ib tx q U) (hfit : Bundle.fit X = true) (hfits : ∀ n ∈ names, Bundle.fit n = true)
    (hat : ∀ a ∈ Bundle.ownAtoms (zg_my M).cls ic X names, a ∈ zg_ws E ∨ ∀ U H, zg_x E U H → U.heap = H → ∀ ar : Array Value, a.before ar U = true) (hins : Cond.instantiable X 6 ∈ zg_ws E) (hcov : ∀ h ∈ zg_hh M, (decide (h.1 ≤ pc + 9) && decide (pc + 9 < h.2.1)) = false)
    (hr : r = (.inr (zg_sz σ, X), (σ.1, zg_sz σ + 1, zg_us σ + 6))) : zg_G l E d M pc lv st σ r := by
  subst hr
  refine ⟨by show zg_sz σ ≤ zg_sz σ + 1; omega, by show zg_us σ ≤ zg_us σ + 6; omega, ?_⟩
  intro p e R s m args below meth c H locs cells slots ls u0 mc ms hm1 hm2 hc h1 h2 h3 h4 h5 h6 h7 h8 T hT X1
  have h3 : s.heap.size + mc = zg_sz σ + 1 := h3
  have h4 : u0 + ms = zg_us σ + 6 := h4
  have hTz : T.heap.size = zg_sz σ := by rw [hT]; exact h5.1
  have hfr := hc.2.2.2.2.2.2.2.2.2.1
  have hlo := hc.2.2.2.2.2.2.2.2.2.2.1
  have X0 := zg_restart X1 (by omega) (by omega)
  obtain ⟨s', hs'⟩ : ∃ s', s' = T.setFrames (.invoking m args :: below) := ⟨_, rfl⟩
  rw [← hs'] at X0
  have hh : s'.heap = T.heap := by rw [hs']; rfl
  have hvm : s'.vm = T.vm := by rw [hs']; rfl
  have henv : zg_env E s' s'.heap := hc.2.2.2.2.2.2.2.1.to (by rw [hvm]; exact X1.warmed) (fun q hq => by rw [hh, hT]; exact h6 q hq)
  obtain ⟨b1, b2, b3⟩ := henv.here
  have hts : ∀ w ∈ zg_ws E, w.before args s' = true := fun w hw => b1 w hw args
  have hown : s'.vm.findClass (zg_my M).cls = some m.cls := by rw [hvm, X1.warmed.alike.findClass]; exact hc.2.2.2.2.1
  have hout : ∀ y ∈ c.exceptionTable.toList, covers y (pc + 6 + 3) = false := by
    intro y hy
    exact hcov (y.startPc, y.endPc, y.handlerPc, y.catchType) (by rw [← hc.2.2.2.2.2.2.2.2.2.2.2]; exact List.mem_map.mpr ⟨y, hy, rfl⟩)
  have key : W p l e { frames := R.frames, cells := R.cells - cells, slots := R.slots - slots, locals := R.locals } s' m args below meth c T.heap [] 0 0
      (fun t => t.status = .running ∧ Ended t below (.threw T.heap.size) ∧ s'.WarmedH t.vm ∧ s'.sameButNew ({ t with vm := s'.vm } : State) [] 1 6 ∧ ∃ cell : Cell, t.heap[T.heap.size]? = some cell ∧ cell.vm.isStatics = false ∧ s'.vm.findClass X = some cell.cls) (F0 m pc ls st) := by
    obtain ⟨cX, kX, hfc, hkX, -⟩ := Cond.instantiable_spec (hts _ hins)
    refine W.newcK hc.1 hc.2.1 hown (hts _ hcl) (hts _ hins) (hts _ hini) rfl d1 (by show 0 + 1 ≤ R.cells - cells; omega) (by show 0 + 6 ≤ R.slots - slots; omega) hfc rfl fun H1 kC hkC e1 z1 o1 => ?_
    refine lv_dup hc.1 hc.2.1 d2 rfl ?_
    refine va_ldcS hc.1 hc.2.1 hown (hstr _ _ b3) d3 ?_
    intro T1 hT1 X2
    obtain ⟨U, st1, st2, st3, st4, st5, ce, hce, hO⟩ := X2.ctorThrowS hc.1 (by rw [X2.admits.platform]; exact htr) hown hfit hfits (fun a ha => (hat a ha).elim (fun h => hts a h) (fun h => h _ _ b3 rfl args)) (fun x hx => by cases hx) hfc hkC (a := T.heap.size) (by rw [hT1]; exact e1) (by rw [hh]; exact Nat.le_refl _) (msg := .ref q) rfl
      (g := F0 m (pc + 6) ls (.ref q :: .ref T.heap.size :: .ref T.heap.size :: st)) rfl (by rw [hc.2.2.1]; exact h8.1) rfl rfl rfl (by rw [hc.2.1]; exact d4) (by rw [hc.2.1]; exact d5) hout (by show names.length + 3 < R.frames; omega)
      (by show 2 * 0 + (1 + (st.map fun v => v.category).sum) + (13 * (names.length + 1) + 42) ≤ R.locals; omega) hc.2.2.2.2.2.1
    exact ⟨U, st1, st2, st3, st4, by simpa using st5, ce, hce, by rw [hO.vm]; rfl, hO.cls⟩
  obtain ⟨t, a1, g1, g2, g3, g4, cell, g5, g6, g7⟩ := key T rfl X0
  have hold : ∀ (q : Nat) (cl : Cell), T.heap[q]? = some cl → t.heap[q]? = some cl := fun q cl hq => State.sameButNew.old_cell g4 (by rw [hh]; exact hq)
  have hold2 : ∀ q : Nat, q < T.heap.size → t.heap[q]? = T.heap[q]? := fun q hq => by
    rw [Array.getElem?_eq_getElem hq]
    exact hold q _ (Array.getElem?_eq_getElem hq)
  have hsz : t.heap.size = zg_sz σ + 1 := by
    have u1 : t.heap.size ≤ s'.heap.size + 1 := g4.2.2.1
    have u2 := (Array.getElem?_eq_some_iff.mp g5).1
    rw [hh] at u1
    omega
  have hsame : T.sameButNew ({ t with vm := s'.vm } : State) [] 1 6 := by
    obtain ⟨e1, e2⟩ := g4
    refine ⟨?_, ?_⟩
    · rw [hs', State.setFrames_setFrames] at e1
      rw [hs']
      exact e1
    · rw [hh] at e2
      have hus : s'.slotsUsed = T.slotsUsed := by rw [hs']; rfl
      rw [hus] at e2
      exact e2
  have hS := X1.same.trans (hsame.setVm s.vm)
  rw [List.append_nil] at hS
  have em : cells + 1 = mc := by omega
  have es : slots + 6 = ms := by omega
  rw [em, es] at hS
  have hW : s.WarmedH t.vm := State.WarmedH.trans X1.warmed (show T.WarmedH t.vm by
    have := g3
    rw [hs'] at this
    exact this)
  rw [hTz] at g2 g5
  refine ⟨t, a1, .threw (zg_sz σ), g1, g2, ⟨⟨hsz, by have := h5.2.1; have := h5.1; omega, fun a e9 he9 => ?_⟩, fun q hq => ?_, rfl, cell, g5, g6, ?_⟩, locs, ⟨hW, hS⟩, h7⟩
  · have h9 := h5.2.2 a e9 he9
    refine ⟨h9.1.kept ?_, h9.2⟩
    rw [hold2 a (by rw [hT]; exact h9.1.lt), hT]
  · rw [hold2 q (by rw [hT]; exact Nat.lt_of_lt_of_le hq h5.2.1), hT]
    exact h6 q hq
  · rw [hvm, X1.warmed.alike.findClass] at g7
    exact g7
end ZG7
section ZG8
variable {l : Launch} {E : zg_E} {d : Nat} {M : zg_M} {pc : Nat} {lv : List (Nat × Value)} {st : List Value} {σ : zg_H} {r : zg_R}
/-- the first row of the table that takes an X thrown at pc leads to hp -/
def zg_catch (E : zg_E) (own X : String) (pc hp : Nat) : List (Nat × Nat × Nat × Nat) → Prop
  | [] => False
  | h :: t => (decide (h.1 ≤ pc) && decide (pc < h.2.1)) = true ∧ h.2.2.2 ≠ 0 ∧ ∃ Y : String, Cond.classLink own h.2.2.2 Y ∈ zg_ws E ∧
      ((Cond.castable X Y ∈ zg_ws E ∧ h.2.2.1 = hp) ∨ ((∀ U H, zg_x E U H → va_Nc X Y U) ∧ zg_catch E own X pc hp t))
theorem zg_go_cold {EE : CtlPost} {e : Env} {dd : Bool} {acts : List Action} {s : State} {f : JFrame} {a : Addr} {Q : Handler → Pre} {x : ExceptionTableEntry} {t : List ExceptionTableEntry} {cY : ClassId} {vm' : Vm} {cell : Cell} (hx : covers x f.pc = true) (h0 : x.catchType ≠ 0)
    (hg : (Jvm.resolveClass f.method.cls x.catchType).Gives e.toSetting s.vm (.ok cY) vm') (hsz : vm'.classes.size ≤ s.vm.classes.size) (hcell : s.heap[a]? = some cell) (hobj : ∀ k, cell.vm ≠ .statics k) (hk : ∃ k, vm'.classes[cell.cls]? = some k) (hc : ∃ k, vm'.classes[cY]? = some k) :
    wp (findHandler.go f a (x :: t)) Q EE e dd acts s ↔ if vm'.assignable cell.cls cY = true then Q (.found x.handlerPc) dd acts (s.setVm vm') else wp (findHandler.go f a t) Q EE e dd acts (s.setVm vm') := by
  simp only [covers] at hx
  obtain ⟨ha, ht⟩ := hg.op (op := VmOp.resolveClass f.method.cls x.catchType) rfl
  cases hfit : vm'.assignable cell.cls cY <;>
    simp [findHandler.go, hx, h0, ha, ht, hsz, hcell, hobj, hk, hc, hfit, VmOp.dirties, VmOp.acts]
theorem zg_search {e : Env} {s : State} (hpl : e.platform.magicAccessors = ({} : Platform).magicAccessors) {own X : String} {f : JFrame} {a : Addr} {cell : Cell} {args : Array Value} (hown : s.vm.findClass own = some f.method.cls) (hws : ∀ w ∈ zg_ws E, w.before args s = true) {Hx : Heap} (hxx : zg_x E s Hx)
    (hX : s.vm.findClass X = some cell.cls) (hobj : cell.vm.isStatics = false) {hp : Nat} :
    ∀ (es : List ExceptionTableEntry), zg_catch E own X f.pc hp (es.map (fun h => (h.startPc, h.endPc, h.handlerPc, h.catchType))) → ∀ (T : State), s.WarmedH T.vm → T.heap[a]? = some cell →
      ∃ vm' : Vm, s.WarmedH vm' ∧ ∀ (Q : Handler → Pre) (EE : CtlPost) (dd : Bool) (acts : List Action), wp (findHandler.go f a es) Q EE e dd acts T ↔ Q (.found hp) dd acts (T.setVm vm') := by
  intro es
  induction es with
  | nil => intro h; exact absurd h id
  | cons x t ih =>
    intro h T hW hcell
    obtain ⟨hx, h0, Y, hY, hor⟩ := h
    obtain ⟨cY, hcY, hcl⟩ := Cond.classLink_spec hown (hws _ hY) e.platform hpl
    obtain ⟨hg, hW1, -⟩ := State.classEntry (e := e) hW hcl
    generalize T.vm.noted f.method.cls x.catchType (.cls cY) = vm1 at hg hW1
    have hsz : vm1.classes.size ≤ T.vm.classes.size := by rw [hW1.2.1, hW.2.1]; exact Nat.le_refl _
    have hkX : ∃ k, vm1.classes[cell.cls]? = some k := Vm.classAt_of_findClass (name := X) (by rw [hW1.alike.findClass]; exact hX)
    have hkY : ∃ k, vm1.classes[cY]? = some k := Vm.classAt_of_findClass (name := Y) (by rw [hW1.alike.findClass]; exact hcY)
    rcases hor with ⟨hy, rfl⟩ | ⟨hn, hr⟩
    · obtain ⟨c3, t3, w1, w2, w3⟩ := Cond.castable_spec (hws _ hy)
      cases hX.symm.trans w1
      cases hcY.symm.trans w2
      refine ⟨vm1, hW1, fun Q EE dd acts => ?_⟩
      rw [zg_go_cold hx h0 hg hsz hcell (VmData.ne_statics_of hobj) hkX hkY, if_pos (by rw [hW1.alike.assignable]; exact w3)]
    · obtain ⟨c3, t3, w1, w2, w3⟩ := hn s Hx hxx
      cases hX.symm.trans w1
      cases hcY.symm.trans w2
      obtain ⟨vm2, hW2, hgo⟩ := ih hr (T.setVm vm1) hW1 hcell
      refine ⟨vm2, hW2, fun Q EE dd acts => ?_⟩
      rw [zg_go_cold hx h0 hg hsz hcell (VmData.ne_statics_of hobj) hkX hkY, if_neg (by rw [hW1.alike.assignable, w3]; decide)]
      exact hgo Q EE dd acts
theorem zg_stepCatch {e : Env} {s : State} {a : Addr} {f : JFrame} {fr : List Frame} {hp : Nat} {vm' : Vm} (hfind : ∀ (Q : Handler → Pre) (EE : CtlPost) (dd : Bool) (acts : List Action), wp (findHandler f a) Q EE e dd acts s ↔ Q (.found hp) dd acts (s.setVm vm')) :
    (stepThrowing e s a (.java f :: fr)).Is ((s.setVm vm').setFrames (.java { f with pc := hp, stack := [.ref a] } :: fr)) [] := by
  simp only [stepThrowing, searchFrame, vmDo]
  generalize hr : Sem.go _ e false [] s = res
  obtain ⟨as, rfl, ha⟩ := Sem.eq_ok_of hr (a := Handler.found hp) (s' := s.setVm vm') (acts' := []) (by simp [hfind _ _ _ _])
  exact ⟨rfl, ha⟩
theorem zg_caught {tb : Tables} {e : Env} {T target : State} {g : JFrame} {c : Code} {below : List Frame} {a : Addr} {vm' : Vm} (h : At T g.method c below) {hp : Nat}
    (hfind : ∀ (Q : Handler → Pre) (EE : CtlPost) (dd : Bool) (acts : List Action), wp (findHandler g a) Q EE e dd acts ((T.setTop g).pushFrame (.throwing a)) ↔ Q (.found hp) dd acts (((T.setTop g).pushFrame (.throwing a)).setVm vm'))
    (hrest : Steps tb e below ((T.setVm vm').setTop { g with pc := hp, stack := [.ref a] }) target) : Steps tb e below ((T.setTop g).pushFrame (.throwing a)) target := by
  obtain ⟨hgo, hw⟩ := h.throwing a
  refine Steps.head hgo hw ?_
  rw [stepThread_throwing (frames_entered h.top _), (zg_stepCatch (s := (T.setTop g).pushFrame (.throwing a)) hfind).1]
  obtain ⟨g₀, hg⟩ := Option.isSome_iff_exists.mp h.top
  obtain ⟨fr, hr⟩ := State.topJava?_eq_some.mp hg
  have hr' : (T.setVm vm').frames = .java g₀ :: fr := hr
  rw [State.setTop_of_frames _ hr'] at hrest
  rw [State.pushFrame, State.setTop_of_frames _ hr, State.setFrames_setFrames, hr]
  show Steps tb e below (((T.setVm vm').setFrames (.throwing a :: (T.setFrames (.java g :: fr)).frames)).setFrames (.java { g with pc := hp, stack := [.ref a] } :: fr)) target
  rw [State.setFrames_setFrames]
  exact hrest
/-- a call that throws an X, and a row of the table takes it -/
theorem zg_finC {M2 : zg_M} {x : Nat × String} {σ2 : zg_H} {av rest : List Value} {n hp : Nat} (hC : zg_C l E d M2 av σ (.inr x, σ2)) (k : zg_G l E (d + 1) M hp lv [.ref x.1] σ2 r) (hm : zg_mth E M2 n) (hwt : (rest.map fun v => v.category).sum + zg_ml M2 ≤ 25) (hca : zg_catch E (zg_my M).cls x.2 pc hp (zg_hh M))
    {p : Program} {e : Env} {R : Room} {s : State} {m : MethodId} {args : Array Value} {below : List Frame} {meth : Method} {c : Code} {H : Heap} {locs : List Loc} {cells slots : Nat} {ls : Array Slot} {u0 mc ms : Nat} (hm1 : mc ≤ R.cells) (hm2 : ms ≤ R.slots)
    (hc : zg_cx l E (d + 1) M p R s m meth c) (h1 : s.heap.size + cells = zg_sz σ) (h2 : u0 + slots = zg_us σ) (h3 : s.heap.size + mc = zg_sz r.2) (h4 : u0 + ms = zg_us r.2) (h5 : zg_rep E σ H) (h6 : ∀ q : Nat, q < zg_b E → H[q]? = s.heap[q]?) (h7 : ∀ x ∈ locs, zg_b E ≤ x.base) (h8 : lv_has ls (zg_ml M) lv)
    {T : State} {vm₁ : Vm} {mk : MethodId} (hT : T.heap = H) (X₁ : Stand p l e R s m args below meth c (T.setVm vm₁) locs cells slots) (hnamed : s.methodNamed? (zg_my M2) = some mk) {ig : Instr} (hdg : decode (zg_cc M) pc = .ok (ig, 3)) :
    ∃ t, Steps p.tables e below (doInvoke e ((T.setVm vm₁).setTop (F0 m pc ls rest)) [] mk av.toArray).1 t ∧ zg_end E below r args s mc ms t := by
  have hz : zg_sz σ ≤ zg_sz σ2 := hC.1
  have hu : zg_us σ ≤ zg_us σ2 := hC.2.1
  have k1 := k.1
  have k2 := k.2.1
  have hfr := hc.2.2.2.2.2.2.2.2.2.1
  have hlo := hc.2.2.2.2.2.2.2.2.2.2.1
  have henv : zg_env E (T.setVm vm₁) (T.setVm vm₁).heap := hc.2.2.2.2.2.2.2.1.to X₁.warmed (fun q hq => by show T.heap[q]? = _; rw [hT]; exact h6 q hq)
  have hrep : zg_rep E σ (T.setVm vm₁).heap := by show zg_rep E σ T.heap; rw [hT]; exact h5
  obtain ⟨T', L, X', hL, hr', ho', ⟨cell, hc1, hc2, hc3⟩, hst⟩ := zg_inv (r := (.inr x, σ2)) hC X₁ (g := F0 m pc ls rest) rfl (by rw [hc.2.2.1]; exact h8.1) (by rw [hc.2.1]; exact hdg) (by omega)
    (by show 2 * 0 + (rest.map fun v => v.category).sum + (zg_ml M2 + 11) + 36 * d ≤ R.locals; omega) (by show cells + (zg_sz σ2 - zg_sz σ) ≤ _; omega) (by show slots + (zg_us σ2 - zg_us σ) ≤ _; omega)
    (X₁.named hnamed) (fun a => henv.here.1 _ hm.1 a) (fun a => henv.here.1 _ hm.2.1 a) henv hrep
  have hpl : e.platform.magicAccessors = ({} : Platform).magicAccessors := by rw [X'.admits.platform]
  have hX : s.vm.findClass x.2 = some cell.cls := by rw [← X₁.warmed.alike.findClass]; exact hc3
  obtain ⟨vm2, hW2, hfind⟩ := zg_search (E := E) (s := s) hpl (own := (zg_my M).cls) (f := F0 m pc ls rest) (a := x.1) (args := args) hc.2.2.2.2.1 (fun w hw => hc.2.2.2.2.2.2.2.1.here.1 w hw args) hc.2.2.2.2.2.2.2.1.here.2.2 hX hc2 c.exceptionTable.toList
    (by rw [hc.2.2.2.2.2.2.2.2.2.2.2]; exact hca) ((T'.setTop (F0 m pc ls rest)).pushFrame (.throwing x.1)) (by rw [Stand.throwing_vm]; exact X'.warmed) (by rw [Stand.throwing_heap]; exact hc1)
  have X2 := X'.noted hW2
  obtain ⟨t, a1, b1⟩ := k.2.2 p e R s m args below meth c T'.heap (locs ++ L) (cells + (zg_sz σ2 - zg_sz σ)) (slots + (zg_us σ2 - zg_us σ)) ls u0 mc ms hm1 hm2 hc (by omega) (by omega) h3 h4 hr'
    (fun q hq => by rw [ho' q hq]; show T.heap[q]? = _; rw [hT]; exact h6 q hq) (fun x hx => (List.mem_append.mp hx).elim (h7 x) (hL x)) h8 (T'.setVm vm2) rfl X2
  refine ⟨t, hst.trans (zg_caught (c := c) (g := F0 m pc ls rest) X'.here (vm' := vm2) (hp := hp) (fun Q EE dd acts => ?_) a1), b1⟩
  rw [W.findHandler_eq (meth := meth) (code := c) (by rw [Stand.throwing_vm]; exact X'.method') X'.code]
  exact hfind Q EE dd acts
theorem zg_callVC {M2 : zg_M} {n index ci b hp : Nat} {q : vw_C} {fs : List Value} {x : Nat × String} {σ2 : zg_H} {av rest : List Value} (hdg : decode (zg_cc M) pc = .ok (.invokevirtual index, 3)) (hl : zg_lk E (zg_my M).cls index (zg_my M2)) (hm : zg_mth E M2 n) (hi : Cond.instanceMethod (zg_my M2) ∈ zg_ws E) (hse : Cond.selects (zg_my M2).cls (zg_my M2) (zg_my M2) ∈ zg_ws E)
    (hσ : σ.1 b = some (.inr (ci, fs))) (hq : (zg_cl E)[ci]? = some q) (hqc : q.1 = (zg_my M2).cls) (hn : av.length = n) (hst : st = av.reverse ++ .ref b :: rest) (hwt : (rest.map fun v => v.category).sum + zg_ml M2 ≤ 25)
    (hC : zg_C l E d M2 (.ref b :: av) σ (.inr x, σ2)) (hca : zg_catch E (zg_my M).cls x.2 pc hp (zg_hh M)) (k : zg_G l E (d + 1) M hp lv [.ref x.1] σ2 r) : zg_G l E (d + 1) M pc lv st σ r := by
  subst hst
  refine ⟨Nat.le_trans hC.1 k.1, Nat.le_trans hC.2.1 k.2.1, ?_⟩
  intro p e R s m args below meth c H locs cells slots ls u0 mc ms hm1 hm2 hc h1 h2 h3 h4 h5 h6 h7 h8 T hT X
  obtain ⟨cellB, g1, g2, g3⟩ := zg_recv (s := s) hc.2.2.2.2.2.2.2.1.here.2.1 h5 hσ hq
  obtain ⟨mk, vm₁, hnamed, X₁, go⟩ := zg_goV X hc hl hm hi hse (b := b) (by rw [hT]; exact g1) g2 (by rw [← hqc]; exact g3) (g := F0 m pc ls (av.reverse ++ .ref b :: rest)) rfl hn rfl hdg
  obtain ⟨t, a1, b1⟩ := zg_finC hC k hm hwt hca hm1 hm2 hc h1 h2 h3 h4 h5 h6 h7 h8 hT X₁ hnamed hdg
  exact ⟨t, go t a1, b1⟩
end ZG8
section ZG9
variable {l : Launch} {E : zg_E} {d : Nat} {M : zg_M} {pc : Nat} {lv : List (Nat × Value)} {st : List Value} {σ : zg_H} {r : zg_R}
theorem zg_getsN {index : Nat} {C n ds host : String} {v : Value} (hdg : decode (zg_cc M) pc = .ok (.getstatic index, 3)) (hx : ∀ U H, zg_x E U H → va_Z C n ds v (fun q => zg_b E ≤ q) U H) (hl : Cond.fieldLinkNest (zg_my M).cls index C n ds host ∈ zg_ws E) (kk : zg_G l E d M (pc + 3) lv (v :: st) σ r) : zg_G l E d M pc lv st σ r := by
  refine ⟨kk.1, kk.2.1, ?_⟩
  intro p e R s m args below meth c H locs cells slots ls u0 mc ms hm1 hm2 hc h1 h2 h3 h4 h5 h6 h7 h8
  obtain ⟨b1, b2, b3⟩ := hc.2.2.2.2.2.2.2.1.here
  exact va_getsN hc.1 hc.2.1 (hx _ _ b3) (zg_S h1 h5 h6 h7) hc.2.2.2.2.1 (b1 _ hl args) (fun x h => h) hdg (kk.2.2 p e R s m args below meth c H locs cells slots ls u0 mc ms hm1 hm2 hc h1 h2 h3 h4 h5 h6 h7 h8)
end ZG9
