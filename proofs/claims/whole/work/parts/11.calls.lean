section ZG4
variable {l : Launch} {E : zg_E} {d : Nat} {M : zg_M} {pc : Nat} {lv : List (Nat × Value)} {st : List Value} {σ : zg_H} {r : zg_R}
theorem zg_aast {a k n t0 v ci : Nat} {i : Int32} {cA : ClassId} {q : vw_C} {vs : List Value} {f : Nat → Option Nat} {σ2 : zg_H} (hdg : decode (zg_cc M) pc = .ok (.aastore, 1)) (hσ : σ.1 a = some (.inl (cA, n, .inr (.inr (.inr (.inr f)))))) (ht : (zg_ty E)[t0]? = some (cA, .object q.1)) (hv : σ.1 v = some (.inr (ci, vs))) (hq : (zg_cl E)[ci]? = some q)
    (hi : i = nI k) (hk : k < n) (hn : n < 2 ^ 31) (h2 : zg_up σ a (.inl (cA, n, .inr (.inr (.inr (.inr (va_up f k (some v))))))) = σ2) (kk : zg_G l E d M (pc + 1) lv st σ2 r) : zg_G l E d M pc lv (.ref v :: .int i :: .ref a :: st) σ r := by
  subst hi h2
  refine ⟨kk.1, kk.2.1, ?_⟩
  intro p e R s m args below meth c H locs cells slots ls u0 mc ms hm1 hm2 hc h1 h2 h3 h4 h5 h6 h7 h8
  obtain ⟨b1, b2, b3⟩ := hc.2.2.2.2.2.2.2.1.here
  have hcell := (h5.2.2 a _ hσ).1
  obtain ⟨r', hr', cellV, g1, g2, g3, -⟩ := (h5.2.2 v _ hv).1
  have hcls := (b2.1 ci q hq).2
  obtain ⟨kA, comp, k1, k2, k3, -⟩ := (b2.2 t0 _ ht).2
  have hcomp : comp = (zg_D E).1 ci := Option.some.inj (k3.symm.trans hcls.1)
  subst hcomp
  obtain ⟨kC, hkC, -⟩ := hcls.2
  refine W.aast hc.1 hc.2.1 hcell (fun q h => by cases h) (fun h => by cases h) k1 k2 rfl hkC ⟨nI_pos (Nat.lt_trans hk hn), by show _ < (arrV _ _ _).slots.size; rw [arrV_size, nI_clamp (Nat.lt_trans hk hn)]; exact hk⟩ g1 (fun q h => by rw [g3] at h; cases h) (by rw [g2]; exact hkC) (by rw [g2]; exact va_assign hcls) rfl rfl hdg fun H1 e1 z oq => ?_
  have he : va_at (zg_D E) (zg_cl E) (a, .inl (cA, n, .inr (.inr (.inr (.inr (va_up f k (some v))))))) H1 := by
    show H1[a]? = some (vp_cell _ _)
    rw [e1, vp_cell_q, vp_cell_q, arrV_store, nI_clamp (Nat.lt_trans hk hn)]
    congr 2
    funext x
    by_cases hx : x = k
    · subst hx; simp [updV, va_up, va_rf]
    · simp [updV, va_up, hx]
  exact kk.2.2 p e R s m args below meth c H1 _ cells slots ls u0 mc ms hm1 hm2 hc h1 h2 h3 h4 (zg_rep_up h5 hσ z oq he) (zg_old_up h5 hσ oq h6) (zg_locs_up h5 hσ h7) h8
/-- the heap with a new cell of n slots -/
def zg_al (σ : zg_H) (e : va_E) (n : Nat) : zg_H := (fun q => if q = zg_sz σ then some e else σ.1 q, zg_sz σ + 1, zg_us σ + n)
theorem zg_rep_al {σ : zg_H} {H H1 : Heap} {e : va_E} (n : Nat) (h : zg_rep E σ H) (hz : H1.size = H.size + 1) (ho : ∀ q : Nat, q < H.size → H1[q]? = H[q]?) (he : va_at (zg_D E) (zg_cl E) (H.size, e) H1) : zg_rep E (zg_al σ e n) H1 := by
  refine ⟨by rw [hz, h.1]; rfl, by have := h.2.1; omega, fun q x hx => ?_⟩
  have hx : (if q = zg_sz σ then some e else σ.1 q) = some x := hx
  by_cases hq : q = zg_sz σ
  · rw [if_pos hq] at hx
    cases hx
    rw [← h.1] at hq
    subst hq
    exact ⟨he, h.2.1⟩
  · rw [if_neg hq] at hx
    exact ⟨(h.2.2 q x hx).1.kept (ho q (h.2.2 q x hx).1.lt), (h.2.2 q x hx).2⟩
theorem zg_new {index ci N : Nat} {C : String} {T : u_T} {fs : List Value} {σ2 : zg_H} (ty : Nat → FieldType) (hdg : decode (zg_cc M) pc = .ok (.new index, 3)) (hq : (zg_cl E)[ci]? = some (C, T, N)) (hty : ∀ k, k < N → parseFieldDescriptor (T k).2.2.1 = some (ty k)) (hin : ∀ w ∈ u_ws C T N, w ∈ zg_ws E)
    (hcl : Cond.classLink (zg_my M).cls index C ∈ zg_ws E) (hins : Cond.instantiable C N ∈ zg_ws E) (hini : Cond.initialized C ∈ zg_ws E) (hfs : ∀ j, j < N → defaultValue (ty j) = vp_V fs j) (h2 : zg_al σ (.inr (ci, fs)) N = σ2)
    (kk : zg_G l E d M (pc + 3) lv (.ref (zg_sz σ) :: st) σ2 r) : zg_G l E d M pc lv st σ r := by
  subst h2
  have k1 : zg_sz σ + 1 ≤ zg_sz r.2 := kk.1
  have k2 : zg_us σ + N ≤ zg_us r.2 := kk.2.1
  refine ⟨by omega, by omega, ?_⟩
  intro p e R s m args below meth c H locs cells slots ls u0 mc ms hm1 hm2 hc h1 h2 h3 h4 h5 h6 h7 h8
  obtain ⟨b1, b2, b3⟩ := hc.2.2.2.2.2.2.2.1.here
  have hts : ∀ w ∈ zg_ws E, w.before args s = true := fun w hw => b1 w hw args
  have hKn := b2.1 ci _ hq
  refine W.newcK hc.1 hc.2.1 hc.2.2.2.2.1 (hts _ hcl) (hts _ hins) (hts _ hini) rfl hdg (by omega) (by omega) hKn.2.1 h5.1 fun H1 kC hkC e1 z1 o1 => ?_
  have o1 : ∀ q : Nat, q < H.size → H1[q]? = H[q]? := fun q hq => o1 q (by rw [← h5.1]; exact hq)
  have he : va_at (zg_D E) (zg_cl E) (H.size, .inr (ci, fs)) H1 := ⟨_, hq, by rw [h5.1]; exact (u_born ty hts hin hKn hkC e1 hty).to hfs⟩
  exact kk.2.2 p e R s m args below meth c H1 locs (cells + 1) (slots + N) ls u0 mc ms hm1 hm2 hc (by show _ = zg_sz σ + 1; omega) (by show _ = zg_us σ + N; omega) h3 h4 (zg_rep_al N h5 (by rw [z1, h5.1]) o1 he) (fun q hq => by rw [o1 q (Nat.lt_of_lt_of_le hq h5.2.1)]; exact h6 q hq) h7 h8
theorem zg_newa {atype : ArrayType} {ty : FieldType} {t0 N : Nat} {n : Int32} {cA : ClassId} {a0 : vp_A} {σ2 : zg_H} (hdg : decode (zg_cc M) pc = .ok (.newarray atype, 2)) (hty : newarray.typeOf atype = ty) (hw : Cond.arrayClass ty ∈ zg_ws E) (ht : (zg_ty E)[t0]? = some (cA, ty)) (hno : ∀ C, ty ≠ .object C) (hn : n = nI N) (hN : N ≤ 1000) (ha : ∀ cB : ClassId, vp_cell cB a0 = arrV cB N (fun _ => defaultValue ty)) (hcb : componentBytes ty ≤ 8)
    (h2 : zg_al σ (.inl (cA, a0)) N = σ2) (kk : zg_G l E d M (pc + 2) lv (.ref (zg_sz σ) :: st) σ2 r) : zg_G l E d M pc lv (.int n :: st) σ r := by
  subst h2 hn hty
  have k1 : zg_sz σ + 1 ≤ zg_sz r.2 := kk.1
  have k2 : zg_us σ + N ≤ zg_us r.2 := kk.2.1
  refine ⟨by omega, by omega, ?_⟩
  intro p e R s m args below meth c H locs cells slots ls u0 mc ms hm1 hm2 hc h1 h2 h3 h4 h5 h6 h7 h8
  obtain ⟨b1, b2, b3⟩ := hc.2.2.2.2.2.2.2.1.here
  have hts : ∀ w ∈ zg_ws E, w.before args s = true := fun w hw => b1 w hw args
  have hN2 : N < 2 ^ 31 := by omega
  have hNb : N * componentBytes (newarray.typeOf atype) ≤ 536870912 := by
    have := Nat.mul_le_mul hN hcb
    omega
  refine va_newaK hc.1 hc.2.1 (hts _ hw) rfl hdg rfl (nI_pos hN2) (nI_clamp hN2) hNb (by omega) (by omega) h5.1 fun H1 cB e1 z1 o1 hAr hNm => ?_
  have o1 : ∀ q : Nat, q < H.size → H1[q]? = H[q]? := fun q hq => o1 q (by rw [← h5.1]; exact hq)
  have hcAB : cB = cA := by
    have hra := (b2.2 t0 _ ht).2
    have : s.vm.findClass ("[" ++ (newarray.typeOf atype).toString) = some cA := by
      cases atype <;> exact hra
    exact Option.some.inj (hNm.symm.trans this)
  subst hcAB
  have he : va_at (zg_D E) (zg_cl E) (H.size, .inl (cB, a0)) H1 := by
    show H1[H.size]? = some (vp_cell cB a0)
    rw [ha, h5.1]; exact e1
  exact kk.2.2 p e R s m args below meth c H1 locs (cells + 1) (slots + N) ls u0 mc ms hm1 hm2 hc (by show _ = zg_sz σ + 1; omega) (by show _ = zg_us σ + N; omega) h3 h4 (zg_rep_al N h5 (by rw [z1, h5.1]) o1 he) (fun q hq => by rw [o1 q (Nat.lt_of_lt_of_le hq h5.2.1)]; exact h6 q hq) h7 h8
theorem zg_anew {index t0 N : Nat} {n : Int32} {C : String} {cA : ClassId} {σ2 : zg_H} (hdg : decode (zg_cc M) pc = .ok (.anewarray index, 3)) (hcl : Cond.classLink (zg_my M).cls index C ∈ zg_ws E) (hov : Cond.arrayOver (.object C) ∈ zg_ws E) (ht : (zg_ty E)[t0]? = some (cA, .object C)) (hn : n = nI N) (hN : N ≤ 1000)
    (h2 : zg_al σ (.inl (cA, N, .inr (.inr (.inr (.inr (fun _ => none)))))) N = σ2) (kk : zg_G l E d M (pc + 3) lv (.ref (zg_sz σ) :: st) σ2 r) : zg_G l E d M pc lv (.int n :: st) σ r := by
  subst h2 hn
  have k1 : zg_sz σ + 1 ≤ zg_sz r.2 := kk.1
  have k2 : zg_us σ + N ≤ zg_us r.2 := kk.2.1
  refine ⟨by omega, by omega, ?_⟩
  intro p e R s m args below meth c H locs cells slots ls u0 mc ms hm1 hm2 hc h1 h2 h3 h4 h5 h6 h7 h8
  obtain ⟨b1, b2, b3⟩ := hc.2.2.2.2.2.2.2.1.here
  have hts : ∀ w ∈ zg_ws E, w.before args s = true := fun w hw => b1 w hw args
  have hN2 : N < 2 ^ 31 := by omega
  have hcl2 : (nI N).toNatClampNeg = N := nI_clamp hN2
  refine W.anew hc.1 hc.2.1 hc.2.2.2.2.1 (hts _ hcl) (hts _ hov) rfl hdg rfl (nI_pos hN2) (by rw [hcl2]; omega) (by omega) (by rw [hcl2]; omega) fun cB kA comp f1 f2 f3 f4 => ?_
  rw [hcl2]
  generalize hH1 : H.push ({ cls := cB, slots := Array.replicate N .null, vm := .none } : Cell) = H1
  have z1 : H1.size = H.size + 1 := by rw [← hH1, Array.size_push]
  have e1 : H1[H.size]? = some (arrV cB N (fun _ => .null)) := by rw [← hH1, Array.getElem?_push_size, ← arrV_new]
  have o1 : ∀ q : Nat, q < H.size → H1[q]? = H[q]? := fun q hq => by rw [← hH1, Array.getElem?_push, if_neg (Nat.ne_of_lt hq)]
  have hcAB : cB = cA := by
    obtain ⟨kA2, comp2, g1, g2, g3, g4⟩ := (b2.2 t0 _ ht).2
    exact Option.some.inj (f1.symm.trans g4)
  subst hcAB
  have he : va_at (zg_D E) (zg_cl E) (H.size, .inl (cB, N, .inr (.inr (.inr (.inr (fun _ => none)))))) H1 := by
    show H1[H.size]? = some (vp_cell _ _)
    rw [vp_cell_q]; exact e1
  rw [h5.1]
  exact kk.2.2 p e R s m args below meth c H1 locs (cells + 1) (slots + N) ls u0 mc ms hm1 hm2 hc (by show _ = zg_sz σ + 1; omega) (by show _ = zg_us σ + N; omega) h3 h4 (zg_rep_al N h5 z1 o1 he) (fun q hq => by rw [o1 q (Nat.lt_of_lt_of_le hq h5.2.1)]; exact h6 q hq) h7 h8
/-- an int constant -/
theorem zg_ldcw {index : Nat} {v : Int32} (hdg : decode (zg_cc M) pc = .ok (.ldc_w index, 3)) (hw : Cond.constant (zg_my M).cls index v ∈ zg_ws E) (kk : zg_G l E d M (pc + 3) lv (.int v :: st) σ r) : zg_G l E d M pc lv st σ r := by
  refine ⟨kk.1, kk.2.1, ?_⟩
  intro p e R s m args below meth c H locs cells slots ls u0 mc ms hm1 hm2 hc h1 h2 h3 h4 h5 h6 h7 h8
  obtain ⟨b1, b2, b3⟩ := hc.2.2.2.2.2.2.2.1.here
  exact lv_ldcw hc.1 hc.2.1 hc.2.2.2.2.1 (b1 _ hw args) hdg (kk.2.2 p e R s m args below meth c H locs cells slots ls u0 mc ms hm1 hm2 hc h1 h2 h3 h4 h5 h6 h7 h8)
/-- a long constant -/
theorem zg_ldc2 {index : Nat} {v : Int64} (hdg : decode (zg_cc M) pc = .ok (.ldc2_w index, 3)) (hw : Cond.constantLong (zg_my M).cls index v ∈ zg_ws E) (kk : zg_G l E d M (pc + 3) lv (.long v :: st) σ r) : zg_G l E d M pc lv st σ r := by
  refine ⟨kk.1, kk.2.1, ?_⟩
  intro p e R s m args below meth c H locs cells slots ls u0 mc ms hm1 hm2 hc h1 h2 h3 h4 h5 h6 h7 h8
  obtain ⟨b1, b2, b3⟩ := hc.2.2.2.2.2.2.2.1.here
  exact W.ldc2 hc.1 hc.2.1 hc.2.2.2.2.1 (b1 _ hw args) rfl hdg (kk.2.2 p e R s m args below meth c H locs cells slots ls u0 mc ms hm1 hm2 hc h1 h2 h3 h4 h5 h6 h7 h8)
theorem zg_S {σ : zg_H} {s : State} {H : Heap} {locs : List Loc} {cells : Nat} (h1 : s.heap.size + cells = zg_sz σ) (h5 : zg_rep E σ H) (h6 : ∀ q : Nat, q < zg_b E → H[q]? = s.heap[q]?) (h7 : ∀ x ∈ locs, zg_b E ≤ x.base) : va_S (fun q => zg_b E ≤ q) s.heap H locs :=
  ⟨by rw [h5.1]; omega, fun q _ hq => h6 q (by omega), h7⟩
/-- a static that nobody writes -/
theorem zg_gets {index : Nat} {C n ds : String} {v : Value} (hdg : decode (zg_cc M) pc = .ok (.getstatic index, 3)) (hx : ∀ U H, zg_x E U H → va_Z C n ds v (fun q => zg_b E ≤ q) U H) (hl : Cond.fieldLink (zg_my M).cls index C n ds ∈ zg_ws E) (kk : zg_G l E d M (pc + 3) lv (v :: st) σ r) : zg_G l E d M pc lv st σ r := by
  refine ⟨kk.1, kk.2.1, ?_⟩
  intro p e R s m args below meth c H locs cells slots ls u0 mc ms hm1 hm2 hc h1 h2 h3 h4 h5 h6 h7 h8
  obtain ⟨b1, b2, b3⟩ := hc.2.2.2.2.2.2.2.1.here
  exact va_gets hc.1 hc.2.1 (hx _ _ b3) (zg_S h1 h5 h6 h7) hc.2.2.2.2.1 (b1 _ hl args) (fun x h => h) hdg (kk.2.2 p e R s m args below meth c H locs cells slots ls u0 mc ms hm1 hm2 hc h1 h2 h3 h4 h5 h6 h7 h8)
/-- a table that nobody writes -/
theorem zg_ti {t N k : Nat} {i : Int32} {f : Nat → Value} {v : Value} (hdg : decode (zg_cc M) pc = .ok (.iaload, 1)) (hx : ∀ U H, zg_x E U H → va_T .int t N f (fun q => zg_b E ≤ q) U H) (hi : i = nI k) (hk : k < N) (hN : N < 2 ^ 31) (hv : f k = v) (kk : zg_G l E d M (pc + 1) lv (v :: st) σ r) : zg_G l E d M pc lv (.int i :: .ref t :: st) σ r := by
  subst hi
  refine ⟨kk.1, kk.2.1, ?_⟩
  intro p e R s m args below meth c H locs cells slots ls u0 mc ms hm1 hm2 hc h1 h2 h3 h4 h5 h6 h7 h8
  obtain ⟨b1, b2, b3⟩ := hc.2.2.2.2.2.2.2.1.here
  exact va_ti hc.1 hc.2.1 (hx _ _ b3) (zg_S h1 h5 h6 h7) (vp_in_nI hk hN) (by rw [nI_clamp (Nat.lt_trans hk hN)]; exact hv) hdg (kk.2.2 p e R s m args below meth c H locs cells slots ls u0 mc ms hm1 hm2 hc h1 h2 h3 h4 h5 h6 h7 h8)
theorem zg_tl {t N k : Nat} {i : Int32} {f : Nat → Value} {v : Value} (hdg : decode (zg_cc M) pc = .ok (.laload, 1)) (hx : ∀ U H, zg_x E U H → va_T .long t N f (fun q => zg_b E ≤ q) U H) (hi : i = nI k) (hk : k < N) (hN : N < 2 ^ 31) (hv : f k = v) (kk : zg_G l E d M (pc + 1) lv (v :: st) σ r) : zg_G l E d M pc lv (.int i :: .ref t :: st) σ r := by
  subst hi
  refine ⟨kk.1, kk.2.1, ?_⟩
  intro p e R s m args below meth c H locs cells slots ls u0 mc ms hm1 hm2 hc h1 h2 h3 h4 h5 h6 h7 h8
  obtain ⟨b1, b2, b3⟩ := hc.2.2.2.2.2.2.2.1.here
  exact va_tl hc.1 hc.2.1 (hx _ _ b3) (zg_S h1 h5 h6 h7) (vp_in_nI hk hN) (by rw [nI_clamp (Nat.lt_trans hk hN)]; exact hv) hdg (kk.2.2 p e R s m args below meth c H locs cells slots ls u0 mc ms hm1 hm2 hc h1 h2 h3 h4 h5 h6 h7 h8)
theorem zg_tlen {t N : Nat} {v : Int32} {ty : FieldType} {f : Nat → Value} (hdg : decode (zg_cc M) pc = .ok (.arraylength, 1)) (hx : ∀ U H, zg_x E U H → va_T ty t N f (fun q => zg_b E ≤ q) U H) (hv : nI N = v) (kk : zg_G l E d M (pc + 1) lv (.int v :: st) σ r) : zg_G l E d M pc lv (.ref t :: st) σ r := by
  refine ⟨kk.1, kk.2.1, ?_⟩
  intro p e R s m args below meth c H locs cells slots ls u0 mc ms hm1 hm2 hc h1 h2 h3 h4 h5 h6 h7 h8
  obtain ⟨b1, b2, b3⟩ := hc.2.2.2.2.2.2.2.1.here
  exact va_tlen hc.1 hc.2.1 (hx _ _ b3) (zg_S h1 h5 h6 h7) hv hdg (kk.2.2 p e R s m args below meth c H locs cells slots ls u0 mc ms hm1 hm2 hc h1 h2 h3 h4 h5 h6 h7 h8)
/-- Object's constructor -/
theorem zg_objInit {index a : Nat} (hdg : decode (zg_cc M) pc = .ok (.invokespecial index, 3)) (hl : Cond.methodLink (zg_my M).cls index Lib.objectInit ∈ zg_ws E) (hi : Cond.instanceMethod Lib.objectInit ∈ zg_ws E) (hcd : Cond.code Lib.objectInit ⟨#[0xb1]⟩ 1 none ∈ zg_ws E) (hst : (st.map fun v => v.category).sum ≤ 20)
    (kk : zg_G l E (d + 1) M (pc + 3) lv st σ r) : zg_G l E (d + 1) M pc lv (.ref a :: st) σ r := by
  refine ⟨kk.1, kk.2.1, ?_⟩
  intro p e R s m args below meth c H locs cells slots ls u0 mc ms hm1 hm2 hc h1 h2 h3 h4 h5 h6 h7 h8
  obtain ⟨b1, b2, b3⟩ := hc.2.2.2.2.2.2.2.1.here
  have hf := hc.2.2.2.2.2.2.2.2.2.1
  have hlo := hc.2.2.2.2.2.2.2.2.2.2.1
  exact W.objInit hc.1 hc.2.1 hc.2.2.2.2.1 (b1 _ hl args) (b1 _ hi args) (b1 _ hcd args) rfl (by rw [hc.2.2.1]; exact h8.1) rfl hdg (by omega) (by show 2 * 0 + _ + 12 ≤ _; omega)
    (kk.2.2 p e R s m args below meth c H locs cells slots ls u0 mc ms hm1 hm2 hc h1 h2 h3 h4 h5 h6 h7 h8)
end ZG4
section ZG5
variable {l : Launch} {E : zg_E} {d : Nat} {M : zg_M} {pc : Nat} {lv : List (Nat × Value)} {st : List Value} {σ : zg_H} {r : zg_R}
theorem zg_w_spec {a : Array Value} {U : State} {mk : MethodId} (h : (zg_w M).before a U = true) (hn : U.methodNamed? (zg_my M) = some mk) :
    ∃ (meth : Method) (c : Code), U.vm.method? mk = some meth ∧ meth.code = some c ∧ c.code = zg_cc M ∧ c.maxLocals = zg_ml M ∧ meth.sig.returnType = zg_rt M ∧ meth.locks = false ∧
      c.exceptionTable.toList.map (fun h => (h.startPc, h.endPc, h.handlerPc, h.catchType)) = zg_hh M ∧ parseMethodDescriptor (zg_my M).desc = some meth.sig := by
  obtain ⟨y, cc, ml, rt, hh⟩ := M
  cases hh with
  | nil =>
    have h : (Cond.code y cc ml rt).before a U = true := h
    obtain ⟨meth, c, q1, q2, q3, q4, q5, q6, q7, q8⟩ := Cond.code_spec hn h
    refine ⟨meth, c, q1, q2, q3, q4, q5, q6, ?_, q8⟩
    have : c.exceptionTable = #[] := by simpa using q7
    rw [this]
    rfl
  | cons x t =>
    have h : (Cond.codeWith y cc ml rt (x :: t)).before a U = true := h
    obtain ⟨m9, meth, c, hn9, q1, q2, q3, q4, q5, q6, q7, q8⟩ := Cond.codeWith_spec h
    cases hn.symm.trans hn9
    exact ⟨meth, c, q1, q2, q3, q4, q6, q7, q5, q8⟩
theorem zg_C_of {av : List Value} (hpl : plainFor (zg_my M) = true) (hsl : (lg_sl av).length ≤ zg_ml M) (k : zg_G l E d M 0 (lv_args 0 av) [] σ r) : zg_C l E d M av σ r := by
  refine ⟨k.1, k.2.1, ?_⟩
  refine MetFree.of_bodySF (code := zg_cc M) (maxLocals := zg_ml M) (ret := zg_rt M) hpl ?_ ?_
  · intro args s m h hn
    obtain ⟨meth, c, q1, q2, q3, q4, q5, q6, -⟩ := zg_w_spec (atoms_spec (ws := [zg_w M]) h _ List.mem_cons_self) hn
    exact ⟨meth, c, q1, q2, q3, q4, q5, q6⟩
  · intro p e s m args below meth c s₁ B hml hP _
    obtain ⟨rfl, hE, hR⟩ := hP
    have hh0 : s₁.heap = s.heap := by rw [B.state]; rfl
    obtain ⟨meth', c', q1, q2, q3, q4, q5, q6, q7, q8⟩ := zg_w_spec (atoms_spec (ws := [zg_w M]) B.pre _ List.mem_cons_self) B.named
    cases B.method.symm.trans q1
    cases (Stand.of_body B).code.symm.trans q2
    have k1 := k.1
    have k2 := k.2.1
    have hr1 := hR.1
    have hcx : zg_cx l E d M p (zg_rm d (zg_sz r.2 - zg_sz σ) (zg_us r.2 - zg_us σ)) s m meth c :=
      ⟨B.exec, B.bytes, hml, B.returns, findClass_of_methodNamed B.named, B.notSynchronized, (name_of_methodNamed B.named B.method).1, hE, hR.2.1, Nat.le_refl _, Nat.le_refl _, q7⟩
    have w := k.2.2 p e (zg_rm d (zg_sz r.2 - zg_sz σ) (zg_us r.2 - zg_us σ)) s m av.toArray below meth c s.heap [] 0 0 _ (zg_us σ) (zg_sz r.2 - zg_sz σ) (zg_us r.2 - zg_us σ) (Nat.le_refl _) (Nat.le_refl _) hcx hr1 rfl
      (by show s.heap.size + (zg_sz r.2 - zg_sz σ) = zg_sz r.2; omega) (by show zg_us σ + (zg_us r.2 - zg_us σ) = zg_us r.2; omega) hR (fun _ _ => rfl) (fun x hx => by cases hx) (lv_entry av hsl)
    obtain ⟨t, a1, o, b1, b2, b3, b4⟩ := w s₁ hh0 (Stand.of_body B)
    rw [lg_entry_eq]
    exact ⟨t, o, a1, b1, b2, b3, b4⟩
/-- a call by its contract, whatever its end -/
theorem zg_inv {av : List Value} (hC : zg_C l E d M av σ r) {p : Program} {e : Env} {R : Room} {s : State} {m : MethodId} {args : Array Value} {below : List Frame} {meth : Method} {c : Code} {T : State} {locs : List Loc} {cells slots : Nat}
    (X : Stand p l e R s m args below meth c T locs cells slots) {g : JFrame} {ig : Instr} {len : Nat} {mk : MethodId} (hg : g.method = m) (hsize : g.locals.size = c.maxLocals) (hdg : decode c.code g.pc = .ok (ig, len))
    (hfr : d + 1 ≤ R.frames) (hlo : 2 * g.monitorRoom + (g.stack.map fun v => v.category).sum + (zg_ml M + 11) + 36 * d ≤ R.locals) (hce : cells + (zg_sz r.2 - zg_sz σ) ≤ R.cells) (hsl : slots + (zg_us r.2 - zg_us σ) ≤ R.slots)
    (hn : T.methodNamed? (zg_my M) = some mk) (hw : ∀ a : Array Value, (zg_w M).before a T = true) (hini : ∀ a : Array Value, (Cond.initialized (zg_my M).cls).before a T = true) (henv : zg_env E T T.heap) (hrep : zg_rep E σ T.heap) :
    ∃ (T' : State) (L : List Loc), Stand p l e R s m args below meth c T' (locs ++ L) (cells + (zg_sz r.2 - zg_sz σ)) (slots + (zg_us r.2 - zg_us σ)) ∧ (∀ q ∈ L, zg_b E ≤ q.base) ∧ zg_rep E r.2 T'.heap ∧ (∀ q : Nat, q < zg_b E → T'.heap[q]? = T.heap[q]?) ∧
      match r.1 with
      | .inl v => Steps p.tables e below (doInvoke e (T.setTop g) [] mk av.toArray).1 (T'.setTop { g with pc := g.pc + len, stack := v.toList ++ g.stack })
      | .inr x => (∃ cell : Cell, T'.heap[x.1]? = some cell ∧ cell.vm.isStatics = false ∧ T.vm.findClass x.2 = some cell.cls) ∧
          Steps p.tables e below (doInvoke e (T.setTop g) [] mk av.toArray).1 ((T'.setTop g).pushFrame (.throwing x.1)) := by
  obtain ⟨hz, hu, hM⟩ := hC
  obtain ⟨methY, cY, hmY, hcY, -, hlY, -⟩ := zg_w_spec (hw #[]) hn
  obtain ⟨kY, hkY, -⟩ := className_of_methodNamed hn
  have hinitY : kY.init = .initialized := Cond.initialized_spec (findClass_of_methodNamed hn) hkY (hini #[])
  have h : At T g.method c below := by rw [hg]; exact X.here
  have hpre : (headSpec [zg_w M] (zg_rm d (zg_sz r.2 - zg_sz σ) (zg_us r.2 - zg_us σ))).pre.before av.toArray T = true :=
    atoms_intro fun w hw' => by rw [List.mem_singleton.mp hw']; exact hw _
  have happ : (headSpec [zg_w M] (zg_rm d (zg_sz r.2 - zg_sz σ) (zg_us r.2 - zg_us σ))).appliesLoose (zg_my M) e.platform (T.calling g mk av.toArray) = true :=
    Spec.appliesLoose_calling (g := g) h hdg hn hkY hinitY
      (X.room_calling (g := g) (R' := zg_rm d (zg_sz r.2 - zg_sz σ) (zg_us r.2 - zg_us σ)) hsize hmY hcY hfr (by rw [hlY]; exact hlo) hce hsl) hpre
  obtain ⟨mid, hmid⟩ := h.above
  have hfrm : (T.setTop g).frames = (.java g :: mid) ++ below := by rw [State.frames_setTop' g h.top, hmid]; rfl
  obtain ⟨o, s₂, hsteps, -, hend, ⟨hq1, hq2, hq3⟩, L, ⟨hW₂, e2, q2, q3, q4, q5, q6⟩, hL⟩ := Steps.callFree hM p X.admits X.cas X.clock (acts := []) hfrm happ ⟨rfl, henv, hrep⟩ trivial
  rw [State.frames_setTop' g h.top] at hend
  have e3 : s₂ = ({ (T.calling g mk av.toArray).setFrames s₂.frames with heap := s₂.heap, slotsUsed := s₂.slotsUsed } : State).setVm s₂.vm := by
    have : s₂ = ({ s₂ with vm := ((T.setTop g).pushFrame (.invoking mk av.toArray)).vm } : State).setVm s₂.vm := rfl
    rw [e2] at this
    exact this
  have hW' : T.WarmedH s₂.vm := hW₂
  obtain ⟨g₀, hg0⟩ := Option.isSome_iff_exists.mp h.top
  obtain ⟨fr, hr⟩ := State.topJava?_eq_some.mp hg0
  have hsame : T.sameButNew ({ T with heap := s₂.heap, slotsUsed := s₂.slotsUsed } : State) L (zg_sz r.2 - zg_sz σ) (zg_us r.2 - zg_us σ) := by
    refine ⟨?_, q2, q3, q4, q5, q6⟩
    obtain ⟨t, ht, -⟩ := State.frames_cons hr
    show ({ T with heap := s₂.heap, slotsUsed := s₂.slotsUsed } : State) = { T.setFrames T.frames with heap := s₂.heap, slotsUsed := s₂.slotsUsed }
    rw [State.setFrames_self ht]
  have hSt : Stand p l e R s m args below meth c (({ T with heap := s₂.heap, slotsUsed := s₂.slotsUsed } : State).setVm s₂.vm) (locs ++ L) (cells + (zg_sz r.2 - zg_sz σ)) (slots + (zg_us r.2 - zg_us σ)) :=
    ⟨X.admits, X.cas, X.clock, X.frames, X.room, X.hears, X.method, X.code, (X.here.setHeapUsed s₂.heap s₂.slotsUsed).setVm hW'.alike, X.tail, State.WarmedH.trans X.warmed hW', X.limits, X.bytes, X.same.trans (hsame.setVm s.vm)⟩
  have hr' : (({ T with heap := s₂.heap, slotsUsed := s₂.slotsUsed } : State).setVm s₂.vm).frames = .java g₀ :: fr := hr
  refine ⟨(({ T with heap := s₂.heap, slotsUsed := s₂.slotsUsed } : State).setVm s₂.vm), L, hSt, hL, hq1, hq2, ?_⟩
  cases hr1 : r.1 with
  | inl v =>
    rw [hr1] at hq3
    have hq3 : o = .returned v := hq3
    subst hq3
    obtain ⟨c₂, i₂, len₂, hc₂, hd₂, hf₂⟩ := hend
    have hcc : c₂ = c := by
      have h1 : s₂.code? g.method = T.code? g.method := by
        rw [State.code?_eq, State.code?_eq, hW'.alike.method?]
      exact Option.some.inj (hc₂.symm.trans (h1.trans h.code))
    subst hcc
    have hlen : len₂ = len := by rw [hdg] at hd₂; cases hd₂; rfl
    subst hlen
    have hs₂ : s₂ = (({ T with heap := s₂.heap, slotsUsed := s₂.slotsUsed } : State).setVm s₂.vm).setTop { g with pc := g.pc + len₂, stack := v.toList ++ g.stack } := by
      refine e3.trans ?_
      rw [hf₂, State.calling_eq h.top, State.setFrames_setFrames, State.setTop_of_frames _ hr', hr]
      rfl
    show Steps p.tables e below _ ((({ T with heap := s₂.heap, slotsUsed := s₂.slotsUsed } : State).setVm s₂.vm).setTop { g with pc := g.pc + len₂, stack := v.toList ++ g.stack })
    rw [← hs₂]
    exact hsteps
  | inr x =>
    rw [hr1] at hq3
    obtain ⟨ho, hcell⟩ : o = .threw x.1 ∧ _ := hq3
    subst ho
    have hf₂ : s₂.frames = .throwing x.1 :: .java g :: T.frames.tail := hend
    have hs₂ : s₂ = ((({ T with heap := s₂.heap, slotsUsed := s₂.slotsUsed } : State).setVm s₂.vm).setTop g).pushFrame (.throwing x.1) := by
      refine e3.trans ?_
      rw [hf₂, State.calling_eq h.top, State.setFrames_setFrames, State.pushFrame, State.frames_setTop _ hr', State.setTop_of_frames _ hr', State.setFrames_setFrames, hr]
      rfl
    refine ⟨hcell, ?_⟩
    show Steps p.tables e below _ (((({ T with heap := s₂.heap, slotsUsed := s₂.slotsUsed } : State).setVm s₂.vm).setTop g).pushFrame (.throwing x.1))
    rw [← hs₂]
    exact hsteps
/-- what the tables say of a method that is called -/
def zg_mth (E : zg_E) (M2 : zg_M) (n : Nat) : Prop := zg_w M2 ∈ zg_ws E ∧ Cond.initialized (zg_my M2).cls ∈ zg_ws E ∧ (zg_my M2).cls ≠ "java/lang/invoke/MethodHandle" ∧ (zg_my M2).cls ≠ "java/lang/invoke/VarHandle" ∧ (parseMethodDescriptor (zg_my M2).desc).map (fun q => q.parameters.length) = some n
theorem zg_mth.len {E : zg_E} {M2 : zg_M} {n : Nat} (h : zg_mth E M2 n) {sig : MethodDescriptor} (hs : parseMethodDescriptor (zg_my M2).desc = some sig) : n = sig.parameters.length := by
  have h2 := h.2.2.2.2
  rw [hs] at h2
  exact (Option.some.inj h2).symm
def zg_lk (E : zg_E) (own : String) (index : Nat) (y : MethodName) : Prop := Cond.methodLink own index y ∈ zg_ws E ∨ ∃ host, Cond.methodLinkNest own index y host ∈ zg_ws E
/-- the call as far as the frame of the callee: static -/
theorem zg_goS {M2 : zg_M} {n index : Nat} {p : Program} {e : Env} {R : Room} {s : State} {m : MethodId} {args : Array Value} {below : List Frame} {meth : Method} {c : Code} {T : State} {locs : List Loc} {cells slots : Nat}
    (X : Stand p l e R s m args below meth c T locs cells slots) (hc : zg_cx l E d M p R s m meth c) (hl : zg_lk E (zg_my M).cls index (zg_my M2)) (hm : zg_mth E M2 n) (hs : Cond.static (zg_my M2) ∈ zg_ws E)
    {g : JFrame} (hg : g.method = m) {av rest : List Value} (hn : av.length = n) (hstack : g.stack = av.reverse ++ rest) (hdg : decode (zg_cc M) g.pc = .ok (.invokestatic index, 3)) :
    ∃ (mk : MethodId) (vm₁ : Vm), s.methodNamed? (zg_my M2) = some mk ∧ Stand p l e R s m args below meth c (T.setVm vm₁) locs cells slots ∧
      ∀ target, Steps p.tables e below (doInvoke e ((T.setVm vm₁).setTop { g with stack := rest }) [] mk av.toArray).1 target → Steps p.tables e below (T.setTop g) target := by
  obtain ⟨b1, b2, b3⟩ := hc.2.2.2.2.2.2.2.1.here
  have hdg' : decode c.code g.pc = .ok (.invokestatic index, 3) := by rw [hc.2.1]; exact hdg
  have hwb := b1 _ hm.1 args
  obtain ⟨mk, hnamed⟩ : ∃ mk, s.methodNamed? (zg_my M2) = some mk := by
    obtain ⟨y, cc, ml, rt, hh⟩ := M2
    cases hh with
    | nil => exact Cond.code_named (show (Cond.code y cc ml rt).before args s = true from hwb)
    | cons x t =>
      obtain ⟨m9, _, _, hn9, -⟩ := Cond.codeWith_spec (show (Cond.codeWith y cc ml rt (x :: t)).before args s = true from hwb)
      exact ⟨m9, hn9⟩
  obtain ⟨methM, cM, hmethM, -, -, -, -, -, -, hsigM⟩ := zg_w_spec hwb hnamed
  have hstatic : methM.isStatic = true := Cond.static_spec hnamed hmethM (b1 _ hs args)
  obtain ⟨kP, hkP, -⟩ := className_of_methodNamed hnamed
  have hinitP : kP.init = .initialized := Cond.initialized_spec (findClass_of_methodNamed hnamed) hkP (b1 _ hm.2.1 args)
  rcases hl with hl | ⟨host, hl⟩
  · obtain ⟨vm₁, X₁, hstep₁⟩ := X.invokestatic hc.1 hc.2.2.2.2.1 (b1 _ hl args) hnamed hmethM hstatic hkP hinitP ⟨hm.2.2.1, hm.2.2.2.1⟩ (g := g) hg (argsL := av) (rest := rest) (hn.trans (hm.len hsigM)) hstack hdg'
    exact ⟨mk, vm₁, hnamed, X₁, fun target h => hstep₁ _ fun acts => by rw [doInvoke_state]; exact h⟩
  · obtain ⟨vm₁, X₁, hstep₁⟩ := X.invokestaticNest hc.1 hc.2.2.2.2.1 (b1 _ hl args) hnamed hmethM hstatic hkP hinitP ⟨hm.2.2.1, hm.2.2.2.1⟩ (g := g) hg (argsL := av) (rest := rest) (hn.trans (hm.len hsigM)) hstack hdg'
    exact ⟨mk, vm₁, hnamed, X₁, fun target h => hstep₁ _ fun acts => by rw [doInvoke_state]; exact h⟩
/-- virtual, on an object whose class is C -/
theorem zg_goV {M2 : zg_M} {n index : Nat} {p : Program} {e : Env} {R : Room} {s : State} {m : MethodId} {args : Array Value} {below : List Frame} {meth : Method} {c : Code} {T : State} {locs : List Loc} {cells slots : Nat}
    (X : Stand p l e R s m args below meth c T locs cells slots) (hc : zg_cx l E d M p R s m meth c) (hl : zg_lk E (zg_my M).cls index (zg_my M2)) (hm : zg_mth E M2 n) (hi : Cond.instanceMethod (zg_my M2) ∈ zg_ws E) (hse : Cond.selects (zg_my M2).cls (zg_my M2) (zg_my M2) ∈ zg_ws E)
    {b : Nat} {cellB : Cell} (hcell : T.heap[b]? = some cellB) (hobj : cellB.vm.isStatics = false) (hcls : s.vm.findClass (zg_my M2).cls = some cellB.cls)
    {g : JFrame} (hg : g.method = m) {av rest : List Value} (hn : av.length = n) (hstack : g.stack = av.reverse ++ .ref b :: rest) (hdg : decode (zg_cc M) g.pc = .ok (.invokevirtual index, 3)) :
    ∃ (mk : MethodId) (vm₁ : Vm), s.methodNamed? (zg_my M2) = some mk ∧ Stand p l e R s m args below meth c (T.setVm vm₁) locs cells slots ∧
      ∀ target, Steps p.tables e below (doInvoke e ((T.setVm vm₁).setTop { g with stack := rest }) [] mk (Value.ref b :: av).toArray).1 target → Steps p.tables e below (T.setTop g) target := by
  obtain ⟨b1, b2, b3⟩ := hc.2.2.2.2.2.2.2.1.here
  have hdg' : decode c.code g.pc = .ok (.invokevirtual index, 3) := by rw [hc.2.1]; exact hdg
  obtain ⟨mk, methM, hnamed, hmethM, hstM, habM⟩ := Cond.instanceMethod_spec (b1 _ hi args)
  obtain ⟨methM', cM, hmethM', -, -, -, -, -, -, hsigM⟩ := zg_w_spec (b1 _ hm.1 args) hnamed
  cases hmethM.symm.trans hmethM'
  have hy : (zg_my M2).cls ≠ "java/lang/invoke/MethodHandle" ∧ (zg_my M2).cls ≠ "java/lang/invoke/VarHandle" := ⟨hm.2.2.1, hm.2.2.2.1⟩
  obtain ⟨c2, r2, m2, q1, q2, q3, q4, kP, hkP, hkPi⟩ := Cond.selects_spec (b1 _ hse args)
  cases hcls.symm.trans q1
  cases (State.methodFound?_of_named hnamed hy).symm.trans q2
  cases hnamed.symm.trans q3
  have hselP : selectMethod e.platform s.vm cellB.cls mk = .method mk := by rw [Launch.admits_selectMethod X.admits]; exact q4
  rcases hl with hl | ⟨host, hl⟩
  · obtain ⟨vm₁, X₁, hstep₁⟩ := X.invokevirtual hc.1 hc.2.2.2.2.1 (b1 _ hl args) hnamed hmethM hstM hkP hkPi hy (a := b) (cell := cellB) hcell
      (fun z h => by rw [h] at hobj; cases hobj) hselP hmethM habM hkP hkPi (g := g) hg (argsL := av) (rest := rest) (hn.trans (hm.len hsigM)) hstack hdg'
    exact ⟨mk, vm₁, hnamed, X₁, fun target h => hstep₁ _ fun acts => by rw [doInvoke_state]; exact h⟩
  · obtain ⟨vm₁, X₁, hstep₁⟩ := X.invokevirtualNest hc.1 hc.2.2.2.2.1 (b1 _ hl args) hnamed hmethM hstM hkP hkPi hy (a := b) (cell := cellB) hcell
      (fun z h => by rw [h] at hobj; cases hobj) hselP hmethM habM hkP hkPi (g := g) hg (argsL := av) (rest := rest) (hn.trans (hm.len hsigM)) hstack hdg'
    exact ⟨mk, vm₁, hnamed, X₁, fun target h => hstep₁ _ fun acts => by rw [doInvoke_state]; exact h⟩
/-- a constructor -/
theorem zg_goI {M2 : zg_M} {n index : Nat} {p : Program} {e : Env} {R : Room} {s : State} {m : MethodId} {args : Array Value} {below : List Frame} {meth : Method} {c : Code} {T : State} {locs : List Loc} {cells slots : Nat}
    (X : Stand p l e R s m args below meth c T locs cells slots) (hc : zg_cx l E d M p R s m meth c) (hl : zg_lk E (zg_my M).cls index (zg_my M2)) (hm : zg_mth E M2 n) (hi : Cond.instanceMethod (zg_my M2) ∈ zg_ws E) (hnm : (zg_my M2).name = "<init>") (hrt : zg_rt M2 = none) (hhh : zg_hh M2 = [])
    {b : Nat} {g : JFrame} (hg : g.method = m) {av rest : List Value} (hn : av.length = n) (hstack : g.stack = av.reverse ++ .ref b :: rest) (hdg : decode (zg_cc M) g.pc = .ok (.invokespecial index, 3)) :
    ∃ (mk : MethodId) (vm₁ : Vm), s.methodNamed? (zg_my M2) = some mk ∧ Stand p l e R s m args below meth c (T.setVm vm₁) locs cells slots ∧
      ∀ target, Steps p.tables e below (doInvoke e ((T.setVm vm₁).setTop { g with stack := rest }) [] mk (Value.ref b :: av).toArray).1 target → Steps p.tables e below (T.setTop g) target := by
  obtain ⟨b1, b2, b3⟩ := hc.2.2.2.2.2.2.2.1.here
  subst hg
  have hdg' : decode c.code g.pc = .ok (.invokespecial index, 3) := by rw [hc.2.1]; exact hdg
  have hpl : e.platform.magicAccessors = ({} : Platform).magicAccessors := by rw [X.admits.platform]
  have hcode : (Cond.code (zg_my M2) (zg_cc M2) (zg_ml M2) none).before args s = true := by
    have h := b1 _ hm.1 args
    obtain ⟨y, cc, ml, rt, hh⟩ := M2
    have hhh : hh = [] := hhh
    have hrt : rt = none := hrt
    subst hhh hrt
    exact h
  have hy : (zg_my M2).cls ≠ "java/lang/invoke/MethodHandle" ∧ (zg_my M2).cls ≠ "java/lang/invoke/VarHandle" := ⟨hm.2.2.1, hm.2.2.2.1⟩
  rcases hl with hl | ⟨host, hl⟩
  · obtain ⟨mk, methM, cM, kP, vm₁, hnamed, hmethM, hcodeM, -, hlocalsM, -, hkP, -, hW₁, hstep₁⟩ := Steps.initColdArgs (e := e) X.here hc.1 X.warmed hpl hc.2.2.2.2.1 hnm hy (b1 _ hl args) (b1 _ hi args) hcode (f := g) rfl (fun sig h => hn.trans (hm.len h)) hstack hdg'
    exact ⟨mk, vm₁, hnamed, X.noted hW₁, fun target h => hstep₁ _ fun acts => by rw [doInvoke_state]; exact h⟩
  · obtain ⟨mk, methM, cM, kP, vm₁, hnamed, hmethM, hcodeM, -, hlocalsM, -, hkP, -, hW₁, hstep₁⟩ := Steps.initColdArgsNest (e := e) X.here hc.1 X.warmed hpl hc.2.2.2.2.1 hnm hy (b1 _ hl args) (b1 _ hi args) hcode (f := g) rfl (fun sig h => hn.trans (hm.len h)) hstack hdg'
    exact ⟨mk, vm₁, hnamed, X.noted hW₁, fun target h => hstep₁ _ fun acts => by rw [doInvoke_state]; exact h⟩
end ZG5
