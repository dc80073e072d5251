def mL_load : zg_M := (⟨"ResidueUnitLaw", "load", "(LResidueUnit;IJ)I"⟩, method_3_code, 5, (some .int), [(0, 6, 9, 13), (0, 6, 13, 15)])
def mL_binary : zg_M := (⟨"ResidueUnitLaw", "binary", "(LResidueUnit;I[J)I"⟩, method_4_code, 4, (some .int), [(0, 8, 11, 13), (0, 8, 14, 21)])
def mL_work : zg_M := (⟨"ResidueUnitLaw", "work", "(LResidueUnit;IIII)I"⟩, method_5_code, 6, (some .int), [(0, 9, 12, 13), (0, 9, 16, 15)])
def mL_compare : zg_M := (⟨"ResidueUnitLaw", "compare", "(LResidueUnit;II[J)I"⟩, method_6_code, 5, (some .int), [(0, 10, 13, 13)])
def mL_scale : zg_M := (⟨"ResidueUnitLaw", "scale", "(LResidueUnit;IIIZ)I"⟩, method_7_code, 6, (some .int), [(0, 9, 12, 13), (0, 9, 16, 15)])
def mL_divide : zg_M := (⟨"ResidueUnitLaw", "divide", "(LResidueUnit;IIII)I"⟩, method_8_code, 6, (some .int), [(0, 9, 12, 13), (0, 9, 16, 38)])
def mL_channel : zg_M := (⟨"ResidueUnitLaw", "channel", "(LResidueUnit;II[J)I"⟩, method_9_code, 5, (some .int), [(0, 10, 13, 13)])
def mL_inject : zg_M := (⟨"ResidueUnitLaw", "inject", "(LResidueUnit;III[J)I"⟩, method_10_code, 6, (some .int), [(0, 12, 15, 13)])
def mL_verify : zg_M := (⟨"ResidueUnitLaw", "verify", "(LResidueUnit;I[J)I"⟩, method_11_code, 4, (some .int), [(0, 9, 12, 13)])
def mL_repair : zg_M := (⟨"ResidueUnitLaw", "repair", "(LResidueUnit;I[J)I"⟩, method_12_code, 4, (some .int), [(0, 9, 12, 13), (0, 9, 15, 21)])
def mL_sure : zg_M := (⟨"ResidueUnitLaw", "sure", "(LResidueUnit;I[J)I"⟩, method_13_code, 4, (some .int), [(0, 16, 19, 13)])
def mL_bound : zg_M := (⟨"ResidueUnitLaw", "bound", "(LResidueUnit;II[J)I"⟩, method_14_code, 5, (some .int), [(0, 9, 12, 13), (0, 9, 16, 15), (0, 9, 20, 21)])
def mL_instruct : zg_M := (⟨"ResidueUnitLaw", "instruct", "(LResidueUnit;IIIII)I"⟩, method_15_code, 7, (some .int), [(0, 11, 14, 13), (0, 11, 18, 15)])
def mL_run : zg_M := (⟨"ResidueUnitLaw", "run", "(LResidueUnit;I[J)I"⟩, method_16_code, 4, (some .int), [(0, 9, 12, 15)])
def mL_law : zg_M := (⟨"ResidueUnitLaw", "law", "([I)Z"⟩, code, 8, (some .boolean), [])
def tmL_load : List (Nat × Instr × Nat) := [(0, .aload_n 0, 1), (1, .iload_n 1, 1), (2, .lload_n 2, 1), (3, .invokevirtual 7, 3), (6, .goto 11, 3), (9, .astore 4, 2), (11, .iconst 1, 1), (12, .ireturn, 1), (13, .astore 4, 2), (15, .iconst 2, 1), (16, .ireturn, 1), (17, .iconst 0, 1), (18, .ireturn, 1)]
theorem dmL_load : tmL_load.all (fun q => decide (decode (zg_cc mL_load) q.1 = .ok q.2)) = true := by decide +kernel
def tmL_binary : List (Nat × Instr × Nat) := [(0, .aload_n 2, 1), (1, .iconst 0, 1), (2, .aload_n 0, 1), (3, .iload_n 1, 1), (4, .invokevirtual 17, 3), (7, .lastore, 1), (8, .goto 9, 3), (11, .astore_n 3, 1), (12, .iconst 1, 1), (13, .ireturn, 1), (14, .astore_n 3, 1), (15, .iconst 2, 1), (16, .ireturn, 1), (17, .iconst 0, 1), (18, .ireturn, 1)]
theorem dmL_binary : tmL_binary.all (fun q => decide (decode (zg_cc mL_binary) q.1 = .ok q.2)) = true := by decide +kernel
def tmL_work : List (Nat × Instr × Nat) := [(0, .aload_n 0, 1), (1, .iload_n 1, 1), (2, .iload_n 2, 1), (3, .iload_n 3, 1), (4, .iload 4, 2), (6, .invokevirtual 23, 3), (9, .goto 11, 3), (12, .astore 5, 2), (14, .iconst 1, 1), (15, .ireturn, 1), (16, .astore 5, 2), (18, .iconst 2, 1), (19, .ireturn, 1), (20, .iconst 0, 1), (21, .ireturn, 1)]
theorem dmL_work : tmL_work.all (fun q => decide (decode (zg_cc mL_work) q.1 = .ok q.2)) = true := by decide +kernel
def tmL_compare : List (Nat × Instr × Nat) := [(0, .aload_n 3, 1), (1, .iconst 0, 1), (2, .aload_n 0, 1), (3, .iload_n 1, 1), (4, .iload_n 2, 1), (5, .invokevirtual 27, 3), (8, .i2l, 1), (9, .lastore, 1), (10, .goto 7, 3), (13, .astore 4, 2), (15, .iconst 1, 1), (16, .ireturn, 1), (17, .iconst 0, 1), (18, .ireturn, 1)]
theorem dmL_compare : tmL_compare.all (fun q => decide (decode (zg_cc mL_compare) q.1 = .ok q.2)) = true := by decide +kernel
def tmL_scale : List (Nat × Instr × Nat) := [(0, .aload_n 0, 1), (1, .iload_n 1, 1), (2, .iload_n 2, 1), (3, .iload_n 3, 1), (4, .iload 4, 2), (6, .invokevirtual 31, 3), (9, .goto 11, 3), (12, .astore 5, 2), (14, .iconst 1, 1), (15, .ireturn, 1), (16, .astore 5, 2), (18, .iconst 2, 1), (19, .ireturn, 1), (20, .iconst 0, 1), (21, .ireturn, 1)]
theorem dmL_scale : tmL_scale.all (fun q => decide (decode (zg_cc mL_scale) q.1 = .ok q.2)) = true := by decide +kernel
def tmL_divide : List (Nat × Instr × Nat) := [(0, .aload_n 0, 1), (1, .iload_n 1, 1), (2, .iload_n 2, 1), (3, .iload_n 3, 1), (4, .iload 4, 2), (6, .invokevirtual 35, 3), (9, .goto 11, 3), (12, .astore 5, 2), (14, .iconst 1, 1), (15, .ireturn, 1), (16, .astore 5, 2), (18, .iconst 2, 1), (19, .ireturn, 1), (20, .iconst 0, 1), (21, .ireturn, 1)]
theorem dmL_divide : tmL_divide.all (fun q => decide (decode (zg_cc mL_divide) q.1 = .ok q.2)) = true := by decide +kernel
def tmL_channel : List (Nat × Instr × Nat) := [(0, .aload_n 3, 1), (1, .iconst 0, 1), (2, .aload_n 0, 1), (3, .iload_n 1, 1), (4, .iload_n 2, 1), (5, .invokevirtual 40, 3), (8, .i2l, 1), (9, .lastore, 1), (10, .goto 7, 3), (13, .astore 4, 2), (15, .iconst 1, 1), (16, .ireturn, 1), (17, .iconst 0, 1), (18, .ireturn, 1)]
theorem dmL_channel : tmL_channel.all (fun q => decide (decode (zg_cc mL_channel) q.1 = .ok q.2)) = true := by decide +kernel
def tmL_inject : List (Nat × Instr × Nat) := [(0, .aload 4, 2), (2, .iconst 0, 1), (3, .aload_n 0, 1), (4, .iload_n 1, 1), (5, .iload_n 2, 1), (6, .iload_n 3, 1), (7, .invokevirtual 43, 3), (10, .i2l, 1), (11, .lastore, 1), (12, .goto 7, 3), (15, .astore 5, 2), (17, .iconst 1, 1), (18, .ireturn, 1), (19, .iconst 0, 1), (20, .ireturn, 1)]
theorem dmL_inject : tmL_inject.all (fun q => decide (decode (zg_cc mL_inject) q.1 = .ok q.2)) = true := by decide +kernel
def tmL_verify : List (Nat × Instr × Nat) := [(0, .aload_n 2, 1), (1, .iconst 0, 1), (2, .aload_n 0, 1), (3, .iload_n 1, 1), (4, .invokevirtual 47, 3), (7, .i2l, 1), (8, .lastore, 1), (9, .goto 6, 3), (12, .astore_n 3, 1), (13, .iconst 1, 1), (14, .ireturn, 1), (15, .iconst 0, 1), (16, .ireturn, 1)]
theorem dmL_verify : tmL_verify.all (fun q => decide (decode (zg_cc mL_verify) q.1 = .ok q.2)) = true := by decide +kernel
def tmL_repair : List (Nat × Instr × Nat) := [(0, .aload_n 2, 1), (1, .iconst 0, 1), (2, .aload_n 0, 1), (3, .iload_n 1, 1), (4, .invokevirtual 51, 3), (7, .i2l, 1), (8, .lastore, 1), (9, .goto 9, 3), (12, .astore_n 3, 1), (13, .iconst 1, 1), (14, .ireturn, 1), (15, .astore_n 3, 1), (16, .iconst 2, 1), (17, .ireturn, 1), (18, .iconst 0, 1), (19, .ireturn, 1)]
theorem dmL_repair : tmL_repair.all (fun q => decide (decode (zg_cc mL_repair) q.1 = .ok q.2)) = true := by decide +kernel
def tmL_sure : List (Nat × Instr × Nat) := [(0, .aload_n 2, 1), (1, .iconst 0, 1), (2, .aload_n 0, 1), (3, .iload_n 1, 1), (4, .invokevirtual 54, 3), (7, .ifCond .eq 7, 3), (10, .lconst 1, 1), (11, .goto 4, 3), (14, .lconst 0, 1), (15, .lastore, 1), (16, .goto 6, 3), (19, .astore_n 3, 1), (20, .iconst 1, 1), (21, .ireturn, 1), (22, .iconst 0, 1), (23, .ireturn, 1)]
theorem dmL_sure : tmL_sure.all (fun q => decide (decode (zg_cc mL_sure) q.1 = .ok q.2)) = true := by decide +kernel
def tmL_bound : List (Nat × Instr × Nat) := [(0, .aload_n 3, 1), (1, .iconst 0, 1), (2, .aload_n 0, 1), (3, .iload_n 1, 1), (4, .iload_n 2, 1), (5, .invokevirtual 58, 3), (8, .lastore, 1), (9, .goto 15, 3), (12, .astore 4, 2), (14, .iconst 1, 1), (15, .ireturn, 1), (16, .astore 4, 2), (18, .iconst 2, 1), (19, .ireturn, 1), (20, .astore 4, 2), (22, .iconst 3, 1), (23, .ireturn, 1), (24, .iconst 0, 1), (25, .ireturn, 1)]
theorem dmL_bound : tmL_bound.all (fun q => decide (decode (zg_cc mL_bound) q.1 = .ok q.2)) = true := by decide +kernel
def tmL_instruct : List (Nat × Instr × Nat) := [(0, .aload_n 0, 1), (1, .iload_n 1, 1), (2, .iload_n 2, 1), (3, .iload_n 3, 1), (4, .iload 4, 2), (6, .iload 5, 2), (8, .invokevirtual 62, 3), (11, .goto 11, 3), (14, .astore 6, 2), (16, .iconst 1, 1), (17, .ireturn, 1), (18, .astore 6, 2), (20, .iconst 2, 1), (21, .ireturn, 1), (22, .iconst 0, 1), (23, .ireturn, 1)]
theorem dmL_instruct : tmL_instruct.all (fun q => decide (decode (zg_cc mL_instruct) q.1 = .ok q.2)) = true := by decide +kernel
def tmL_run : List (Nat × Instr × Nat) := [(0, .aload_n 2, 1), (1, .iconst 0, 1), (2, .aload_n 0, 1), (3, .iload_n 1, 1), (4, .invokevirtual 66, 3), (7, .i2l, 1), (8, .lastore, 1), (9, .goto 6, 3), (12, .astore_n 3, 1), (13, .iconst 1, 1), (14, .ireturn, 1), (15, .iconst 0, 1), (16, .ireturn, 1)]
theorem dmL_run : tmL_run.all (fun q => decide (decode (zg_cc mL_run) q.1 = .ok q.2)) = true := by decide +kernel
