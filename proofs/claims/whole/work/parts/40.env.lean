/-! The tables' words, the classes, and what is there from the start -/
def zs_TU : u_T := fun k => match k with
  | 0 => ("ResidueUnit", "registers", "[LResidueUnit$Register;", true)
  | 1 => ("ResidueUnit", "program", "[LResidueUnit$Instruction;", true)
  | 2 => ("ResidueUnit", "counter", "I", false)
  | _ => ("ResidueUnit", "stopReason", "I", false)
def zs_YU : Nat → FieldType := fun k => match k with
  | 0 => (.array (.object "ResidueUnit$Register"))
  | 1 => (.array (.object "ResidueUnit$Instruction"))
  | 2 => .int
  | _ => .int
theorem zs_pU : ∀ j, j < 4 → parseFieldDescriptor (zs_TU j).2.2.1 = some (zs_YU j) := by decide +kernel
theorem zs_nU : ∀ a, a < 4 → ∀ b, b < 4 → a ≠ b → (zs_TU a).2.1 ≠ (zs_TU b).2.1 := by decide +kernel
def zs_TR : u_T := fun k => match k with
  | 0 => ("ResidueUnit$Register", "residues", "[I", true)
  | 1 => ("ResidueUnit$Register", "exact", "J", false)
  | _ => ("ResidueUnit$Register", "sure", "Z", false)
def zs_YR : Nat → FieldType := fun k => match k with
  | 0 => (.array .int)
  | 1 => .long
  | _ => .boolean
theorem zs_pR : ∀ j, j < 3 → parseFieldDescriptor (zs_TR j).2.2.1 = some (zs_YR j) := by decide +kernel
theorem zs_nR : ∀ a, a < 3 → ∀ b, b < 3 → a ≠ b → (zs_TR a).2.1 ≠ (zs_TR b).2.1 := by decide +kernel
def zs_TI : u_T := fun k => match k with
  | 0 => ("ResidueUnit$Instruction", "kind", "I", false)
  | 1 => ("ResidueUnit$Instruction", "a", "I", false)
  | 2 => ("ResidueUnit$Instruction", "b", "I", false)
  | _ => ("ResidueUnit$Instruction", "c", "I", false)
def zs_YI : Nat → FieldType := fun k => match k with
  | 0 => .int
  | 1 => .int
  | 2 => .int
  | _ => .int
theorem zs_pI : ∀ j, j < 4 → parseFieldDescriptor (zs_TI j).2.2.1 = some (zs_YI j) := by decide +kernel
theorem zs_nI : ∀ a, a < 4 → ∀ b, b < 4 → a ≠ b → (zs_TI a).2.1 ≠ (zs_TI b).2.1 := by decide +kernel
def zs_TM : u_T := fun k => match k with
  | 0 => ("ResidueUnitModel", "thrown", "I", false)
  | 1 => ("ResidueUnitModel", "moduli", "[I", true)
  | 2 => ("ResidueUnitModel", "residues", "[I", true)
  | 3 => ("ResidueUnitModel", "low", "[J", true)
  | 4 => ("ResidueUnitModel", "high", "[J", true)
  | 5 => ("ResidueUnitModel", "sure", "[Z", true)
  | 6 => ("ResidueUnitModel", "units", "[J", true)
  | 7 => ("ResidueUnitModel", "whole", "J", false)
  | 8 => ("ResidueUnitModel", "half", "J", false)
  | 9 => ("ResidueUnitModel", "program", "[I", true)
  | 10 => ("ResidueUnitModel", "counter", "I", false)
  | _ => ("ResidueUnitModel", "stopped", "I", false)
def zs_YM : Nat → FieldType := fun k => match k with
  | 0 => .int
  | 1 => (.array .int)
  | 2 => (.array .int)
  | 3 => (.array .long)
  | 4 => (.array .long)
  | 5 => (.array .boolean)
  | 6 => (.array .long)
  | 7 => .long
  | 8 => .long
  | 9 => (.array .int)
  | 10 => .int
  | _ => .int
theorem zs_pM : ∀ j, j < 12 → parseFieldDescriptor (zs_TM j).2.2.1 = some (zs_YM j) := by decide +kernel
theorem zs_nM : ∀ a, a < 12 → ∀ b, b < 12 → a ≠ b → (zs_TM a).2.1 ≠ (zs_TM b).2.1 := by decide +kernel
def zs_cl : List vw_C := [("ResidueUnit", zs_TU, 4), ("ResidueUnit$Register", zs_TR, 3), ("ResidueUnit$Instruction", zs_TI, 4), ("ResidueUnitModel", zs_TM, 12)]
def zs_gw : Cond → Bool
  | .methodLinkNest .. => true
  | .fieldLinkNest .. => true
  | .arrayOver (.object _) => true
  | w => goodWord w || (w.onTables && w.faceAtom)
def zs_ws : List Cond := lw_tbl.filter zs_gw
theorem zs_in {w : Cond} (i : Nat) (h : tables_1[i]? = some w) (hg : zs_gw w = true) : w ∈ zs_ws := List.mem_filter.mpr ⟨List.mem_append_right _ (List.mem_of_getElem? h), hg⟩
theorem zs_inP {w : Cond} (i : Nat) (h : (k2_sels lw_privs)[i]? = some w) (hg : zs_gw w = true) : w ∈ zs_ws := List.mem_filter.mpr ⟨List.mem_append_left _ (List.mem_of_getElem? h), hg⟩
theorem zs_inL {ws : List Cond} (ps : List Nat) (hp : ws = ps.filterMap (fun i => tables_1[i]?)) (hg : ws.all zs_gw = true) : ∀ w ∈ ws, w ∈ zs_ws := by
  intro w hw
  have h1 := List.all_eq_true.mp hg w hw
  rw [hp] at hw
  obtain ⟨i, -, hi⟩ := List.mem_filterMap.mp hw
  exact zs_in i hi h1
theorem zs_uw0 : ∀ w ∈ u_ws "ResidueUnit" zs_TU 4, w ∈ zs_ws := zs_inL [72, 74, 76, 78] (by decide +kernel) (by decide +kernel)
theorem zs_uw1 : ∀ w ∈ u_ws "ResidueUnit$Register" zs_TR 3, w ∈ zs_ws := zs_inL [38, 40, 42] (by decide +kernel) (by decide +kernel)
theorem zs_uw2 : ∀ w ∈ u_ws "ResidueUnit$Instruction" zs_TI 4, w ∈ zs_ws := zs_inL [59, 61, 63, 65] (by decide +kernel) (by decide +kernel)
theorem zs_uw3 : ∀ w ∈ u_ws "ResidueUnitModel" zs_TM 12, w ∈ zs_ws := zs_inL [470, 472, 474, 476, 478, 480, 482, 484, 486, 488, 490, 492] (by decide +kernel) (by decide +kernel)
/-- what differs from launch to launch: classes' numbers and slots; array classes' numbers; the first cell of ours; the tables; the texts; the script -/
abbrev zs_P : Type := va_G × (Nat → ClassId) × Nat × (Nat × Nat × Nat) × (Nat → Nat) × Nat × Nat × (Nat → Int32)
abbrev zp_ca (P : zs_P) : Nat → ClassId := P.2.1
abbrev zp_B (P : zs_P) : Nat := P.2.2.1
abbrev zp_tM (P : zs_P) : Nat := P.2.2.2.1.1
abbrev zp_tW (P : zs_P) : Nat := P.2.2.2.1.2.1
abbrev zp_tV (P : zs_P) : Nat := P.2.2.2.1.2.2
abbrev zp_q (P : zs_P) : Nat → Nat := P.2.2.2.2.1
abbrev zp_b (P : zs_P) : Nat := P.2.2.2.2.2.1
abbrev zp_L (P : zs_P) : Nat := P.2.2.2.2.2.2.1
abbrev zp_xs (P : zs_P) : Nat → Int32 := P.2.2.2.2.2.2.2
abbrev zp_A (P : zs_P) : Nat → Prop := fun q => zp_B P ≤ q
def zs_tx : List (Nat × String) := [(145, "there is no such register"), (40, "the number is not in range"), (55, "the register is not good"), (62, "there is no such op"), (72, "the moduli are not one to four of the first six"), (80, "the divisor is 0"), (147, "there is no such channel"), (98, "no single channel is the fault"), (107, "there is no such end"), (109, "the register is not sure"), (120, "there is no such instruction"), (127, "there is no such instruction to be written"), (133, "the fuel is not 0 to 2000")]
def zs_nc : List (String × String) := [("java/lang/IllegalArgumentException", "java/lang/IndexOutOfBoundsException"), ("java/lang/IllegalStateException", "java/lang/IndexOutOfBoundsException"), ("java/lang/IllegalStateException", "java/lang/IllegalArgumentException"), ("java/lang/ArithmeticException", "java/lang/IndexOutOfBoundsException")]
def zs_hw : List Cond := [.isRef (.static "java/lang/Throwable" "UNASSIGNED_STACK" "[Ljava/lang/StackTraceElement;"), .isRef (.static "java/lang/Throwable" "SUPPRESSED_SENTINEL" "Ljava/util/List;"), .laysStatic "java/lang/Throwable" "UNASSIGNED_STACK" "[Ljava/lang/StackTraceElement;", .laysStatic "java/lang/Throwable" "SUPPRESSED_SENTINEL" "Ljava/util/List;"]
def zs_X (P : zs_P) (U : State) (H : Heap) : Prop :=
  (va_Z "ResidueUnit" "MODULI" "[I" (.ref (zp_tM P)) (zp_A P) U H ∧ va_T .int (zp_tM P) 8 (fun j => .int (nI (mz_m j))) (zp_A P) U H) ∧
  (va_Z "ResidueUnit" "WEIGHTS" "[J" (.ref (zp_tW P)) (zp_A P) U H ∧ va_T .long (zp_tW P) 6 (fun j => .long (mz_L (mz_w j : Int))) (zp_A P) U H) ∧
  (va_Z "ResidueUnit" "WITNESS_INVERSES" "[I" (.ref (zp_tV P)) (zp_A P) U H ∧ va_T .int (zp_tV P) 6 (fun j => .int (nI (mz_iv j))) (zp_A P) U H) ∧
  va_T .int (zp_b P) (zp_L P) (fun j => .int (zp_xs P j)) (zp_A P) U H ∧
  (∀ q ∈ zs_tx, vk_R "ResidueUnit" q.1 q.2 (zp_q P q.1) U) ∧ (∀ q ∈ zs_nc, va_Nc q.1 q.2 U) ∧ (U.heap = H → ∀ w ∈ zs_hw, ∀ a : Array Value, w.before a U = true)
def zs_E (P : zs_P) : zg_E := (zs_ws, zs_cl, P.1, [(zp_ca P 0, .int), (zp_ca P 1, .long), (zp_ca P 2, .boolean), (zp_ca P 3, .object "ResidueUnit$Register"), (zp_ca P 4, .object "ResidueUnit$Instruction")], zp_B P, zs_X P)
theorem zt_0_0 {P : zs_P} : zg_fty (zs_E P) 0 0 (.array (.object "ResidueUnit$Register")) true := ⟨_, _, _, zs_YU, rfl, zs_pU, zs_nU, rfl, zs_pU 0 (by decide)⟩
theorem zt_0_1 {P : zs_P} : zg_fty (zs_E P) 0 1 (.array (.object "ResidueUnit$Instruction")) true := ⟨_, _, _, zs_YU, rfl, zs_pU, zs_nU, rfl, zs_pU 1 (by decide)⟩
theorem zt_0_2 {P : zs_P} : zg_fty (zs_E P) 0 2 .int false := ⟨_, _, _, zs_YU, rfl, zs_pU, zs_nU, rfl, zs_pU 2 (by decide)⟩
theorem zt_0_3 {P : zs_P} : zg_fty (zs_E P) 0 3 .int false := ⟨_, _, _, zs_YU, rfl, zs_pU, zs_nU, rfl, zs_pU 3 (by decide)⟩
theorem zt_1_0 {P : zs_P} : zg_fty (zs_E P) 1 0 (.array .int) true := ⟨_, _, _, zs_YR, rfl, zs_pR, zs_nR, rfl, zs_pR 0 (by decide)⟩
theorem zt_1_1 {P : zs_P} : zg_fty (zs_E P) 1 1 .long false := ⟨_, _, _, zs_YR, rfl, zs_pR, zs_nR, rfl, zs_pR 1 (by decide)⟩
theorem zt_1_2 {P : zs_P} : zg_fty (zs_E P) 1 2 .boolean false := ⟨_, _, _, zs_YR, rfl, zs_pR, zs_nR, rfl, zs_pR 2 (by decide)⟩
theorem zt_2_0 {P : zs_P} : zg_fty (zs_E P) 2 0 .int false := ⟨_, _, _, zs_YI, rfl, zs_pI, zs_nI, rfl, zs_pI 0 (by decide)⟩
theorem zt_2_1 {P : zs_P} : zg_fty (zs_E P) 2 1 .int false := ⟨_, _, _, zs_YI, rfl, zs_pI, zs_nI, rfl, zs_pI 1 (by decide)⟩
theorem zt_2_2 {P : zs_P} : zg_fty (zs_E P) 2 2 .int false := ⟨_, _, _, zs_YI, rfl, zs_pI, zs_nI, rfl, zs_pI 2 (by decide)⟩
theorem zt_2_3 {P : zs_P} : zg_fty (zs_E P) 2 3 .int false := ⟨_, _, _, zs_YI, rfl, zs_pI, zs_nI, rfl, zs_pI 3 (by decide)⟩
theorem zt_3_0 {P : zs_P} : zg_fty (zs_E P) 3 0 .int false := ⟨_, _, _, zs_YM, rfl, zs_pM, zs_nM, rfl, zs_pM 0 (by decide)⟩
theorem zt_3_1 {P : zs_P} : zg_fty (zs_E P) 3 1 (.array .int) true := ⟨_, _, _, zs_YM, rfl, zs_pM, zs_nM, rfl, zs_pM 1 (by decide)⟩
theorem zt_3_2 {P : zs_P} : zg_fty (zs_E P) 3 2 (.array .int) true := ⟨_, _, _, zs_YM, rfl, zs_pM, zs_nM, rfl, zs_pM 2 (by decide)⟩
theorem zt_3_3 {P : zs_P} : zg_fty (zs_E P) 3 3 (.array .long) true := ⟨_, _, _, zs_YM, rfl, zs_pM, zs_nM, rfl, zs_pM 3 (by decide)⟩
theorem zt_3_4 {P : zs_P} : zg_fty (zs_E P) 3 4 (.array .long) true := ⟨_, _, _, zs_YM, rfl, zs_pM, zs_nM, rfl, zs_pM 4 (by decide)⟩
theorem zt_3_5 {P : zs_P} : zg_fty (zs_E P) 3 5 (.array .boolean) true := ⟨_, _, _, zs_YM, rfl, zs_pM, zs_nM, rfl, zs_pM 5 (by decide)⟩
theorem zt_3_6 {P : zs_P} : zg_fty (zs_E P) 3 6 (.array .long) true := ⟨_, _, _, zs_YM, rfl, zs_pM, zs_nM, rfl, zs_pM 6 (by decide)⟩
theorem zt_3_7 {P : zs_P} : zg_fty (zs_E P) 3 7 .long false := ⟨_, _, _, zs_YM, rfl, zs_pM, zs_nM, rfl, zs_pM 7 (by decide)⟩
theorem zt_3_8 {P : zs_P} : zg_fty (zs_E P) 3 8 .long false := ⟨_, _, _, zs_YM, rfl, zs_pM, zs_nM, rfl, zs_pM 8 (by decide)⟩
theorem zt_3_9 {P : zs_P} : zg_fty (zs_E P) 3 9 (.array .int) true := ⟨_, _, _, zs_YM, rfl, zs_pM, zs_nM, rfl, zs_pM 9 (by decide)⟩
theorem zt_3_10 {P : zs_P} : zg_fty (zs_E P) 3 10 .int false := ⟨_, _, _, zs_YM, rfl, zs_pM, zs_nM, rfl, zs_pM 10 (by decide)⟩
theorem zt_3_11 {P : zs_P} : zg_fty (zs_E P) 3 11 .int false := ⟨_, _, _, zs_YM, rfl, zs_pM, zs_nM, rfl, zs_pM 11 (by decide)⟩
