section ZH
variable {P : zs_P}
theorem zs_cIOB : Cond.castable "java/lang/IndexOutOfBoundsException" "java/lang/IndexOutOfBoundsException" ∈ zs_ws := zs_in 102 (by decide +kernel) (by decide +kernel)
theorem zs_cIAE : Cond.castable "java/lang/IllegalArgumentException" "java/lang/IllegalArgumentException" ∈ zs_ws := zs_in 176 (by decide +kernel) (by decide +kernel)
theorem zs_cISE : Cond.castable "java/lang/IllegalStateException" "java/lang/IllegalStateException" ∈ zs_ws := zs_in 229 (by decide +kernel) (by decide +kernel)
theorem zs_cARE : Cond.castable "java/lang/ArithmeticException" "java/lang/ArithmeticException" ∈ zs_ws := zs_in 315 (by decide +kernel) (by decide +kernel)
theorem zs_ncx {C T : String} (h : (C, T) ∈ zs_nc) : ∀ U H, zg_x (zs_E P) U H → va_Nc C T U := fun U H hx => hx.2.2.2.2.2.1 (C, T) h
theorem zh_load_IOB : zg_catch (zs_E P) "ResidueUnitLaw" "java/lang/IndexOutOfBoundsException" 3 9 (zg_hh mL_load) := ⟨rfl, by decide, _, zcl_L_13, Or.inl ⟨zs_cIOB, rfl⟩⟩
theorem zh_load_IAE : zg_catch (zs_E P) "ResidueUnitLaw" "java/lang/IllegalArgumentException" 3 13 (zg_hh mL_load) := ⟨rfl, by decide, _, zcl_L_13, Or.inr ⟨zs_ncx (by decide), ⟨rfl, by decide, _, zcl_L_15, Or.inl ⟨zs_cIAE, rfl⟩⟩⟩⟩
theorem zh_binary_IOB : zg_catch (zs_E P) "ResidueUnitLaw" "java/lang/IndexOutOfBoundsException" 4 11 (zg_hh mL_binary) := ⟨rfl, by decide, _, zcl_L_13, Or.inl ⟨zs_cIOB, rfl⟩⟩
theorem zh_binary_ISE : zg_catch (zs_E P) "ResidueUnitLaw" "java/lang/IllegalStateException" 4 14 (zg_hh mL_binary) := ⟨rfl, by decide, _, zcl_L_13, Or.inr ⟨zs_ncx (by decide), ⟨rfl, by decide, _, zcl_L_21, Or.inl ⟨zs_cISE, rfl⟩⟩⟩⟩
theorem zh_work_IOB : zg_catch (zs_E P) "ResidueUnitLaw" "java/lang/IndexOutOfBoundsException" 6 12 (zg_hh mL_work) := ⟨rfl, by decide, _, zcl_L_13, Or.inl ⟨zs_cIOB, rfl⟩⟩
theorem zh_work_IAE : zg_catch (zs_E P) "ResidueUnitLaw" "java/lang/IllegalArgumentException" 6 16 (zg_hh mL_work) := ⟨rfl, by decide, _, zcl_L_13, Or.inr ⟨zs_ncx (by decide), ⟨rfl, by decide, _, zcl_L_15, Or.inl ⟨zs_cIAE, rfl⟩⟩⟩⟩
theorem zh_compare_IOB : zg_catch (zs_E P) "ResidueUnitLaw" "java/lang/IndexOutOfBoundsException" 5 13 (zg_hh mL_compare) := ⟨rfl, by decide, _, zcl_L_13, Or.inl ⟨zs_cIOB, rfl⟩⟩
theorem zh_scale_IOB : zg_catch (zs_E P) "ResidueUnitLaw" "java/lang/IndexOutOfBoundsException" 6 12 (zg_hh mL_scale) := ⟨rfl, by decide, _, zcl_L_13, Or.inl ⟨zs_cIOB, rfl⟩⟩
theorem zh_scale_IAE : zg_catch (zs_E P) "ResidueUnitLaw" "java/lang/IllegalArgumentException" 6 16 (zg_hh mL_scale) := ⟨rfl, by decide, _, zcl_L_13, Or.inr ⟨zs_ncx (by decide), ⟨rfl, by decide, _, zcl_L_15, Or.inl ⟨zs_cIAE, rfl⟩⟩⟩⟩
theorem zh_divide_IOB : zg_catch (zs_E P) "ResidueUnitLaw" "java/lang/IndexOutOfBoundsException" 6 12 (zg_hh mL_divide) := ⟨rfl, by decide, _, zcl_L_13, Or.inl ⟨zs_cIOB, rfl⟩⟩
theorem zh_divide_ARE : zg_catch (zs_E P) "ResidueUnitLaw" "java/lang/ArithmeticException" 6 16 (zg_hh mL_divide) := ⟨rfl, by decide, _, zcl_L_13, Or.inr ⟨zs_ncx (by decide), ⟨rfl, by decide, _, zcl_L_38, Or.inl ⟨zs_cARE, rfl⟩⟩⟩⟩
theorem zh_channel_IOB : zg_catch (zs_E P) "ResidueUnitLaw" "java/lang/IndexOutOfBoundsException" 5 13 (zg_hh mL_channel) := ⟨rfl, by decide, _, zcl_L_13, Or.inl ⟨zs_cIOB, rfl⟩⟩
theorem zh_inject_IOB : zg_catch (zs_E P) "ResidueUnitLaw" "java/lang/IndexOutOfBoundsException" 7 15 (zg_hh mL_inject) := ⟨rfl, by decide, _, zcl_L_13, Or.inl ⟨zs_cIOB, rfl⟩⟩
theorem zh_verify_IOB : zg_catch (zs_E P) "ResidueUnitLaw" "java/lang/IndexOutOfBoundsException" 4 12 (zg_hh mL_verify) := ⟨rfl, by decide, _, zcl_L_13, Or.inl ⟨zs_cIOB, rfl⟩⟩
theorem zh_repair_IOB : zg_catch (zs_E P) "ResidueUnitLaw" "java/lang/IndexOutOfBoundsException" 4 12 (zg_hh mL_repair) := ⟨rfl, by decide, _, zcl_L_13, Or.inl ⟨zs_cIOB, rfl⟩⟩
theorem zh_repair_ISE : zg_catch (zs_E P) "ResidueUnitLaw" "java/lang/IllegalStateException" 4 15 (zg_hh mL_repair) := ⟨rfl, by decide, _, zcl_L_13, Or.inr ⟨zs_ncx (by decide), ⟨rfl, by decide, _, zcl_L_21, Or.inl ⟨zs_cISE, rfl⟩⟩⟩⟩
theorem zh_sure_IOB : zg_catch (zs_E P) "ResidueUnitLaw" "java/lang/IndexOutOfBoundsException" 4 19 (zg_hh mL_sure) := ⟨rfl, by decide, _, zcl_L_13, Or.inl ⟨zs_cIOB, rfl⟩⟩
theorem zh_bound_IOB : zg_catch (zs_E P) "ResidueUnitLaw" "java/lang/IndexOutOfBoundsException" 5 12 (zg_hh mL_bound) := ⟨rfl, by decide, _, zcl_L_13, Or.inl ⟨zs_cIOB, rfl⟩⟩
theorem zh_bound_IAE : zg_catch (zs_E P) "ResidueUnitLaw" "java/lang/IllegalArgumentException" 5 16 (zg_hh mL_bound) := ⟨rfl, by decide, _, zcl_L_13, Or.inr ⟨zs_ncx (by decide), ⟨rfl, by decide, _, zcl_L_15, Or.inl ⟨zs_cIAE, rfl⟩⟩⟩⟩
theorem zh_bound_ISE : zg_catch (zs_E P) "ResidueUnitLaw" "java/lang/IllegalStateException" 5 20 (zg_hh mL_bound) := ⟨rfl, by decide, _, zcl_L_13, Or.inr ⟨zs_ncx (by decide), ⟨rfl, by decide, _, zcl_L_15, Or.inr ⟨zs_ncx (by decide), ⟨rfl, by decide, _, zcl_L_21, Or.inl ⟨zs_cISE, rfl⟩⟩⟩⟩⟩⟩
theorem zh_instruct_IOB : zg_catch (zs_E P) "ResidueUnitLaw" "java/lang/IndexOutOfBoundsException" 8 14 (zg_hh mL_instruct) := ⟨rfl, by decide, _, zcl_L_13, Or.inl ⟨zs_cIOB, rfl⟩⟩
theorem zh_instruct_IAE : zg_catch (zs_E P) "ResidueUnitLaw" "java/lang/IllegalArgumentException" 8 18 (zg_hh mL_instruct) := ⟨rfl, by decide, _, zcl_L_13, Or.inr ⟨zs_ncx (by decide), ⟨rfl, by decide, _, zcl_L_15, Or.inl ⟨zs_cIAE, rfl⟩⟩⟩⟩
theorem zh_run_IAE : zg_catch (zs_E P) "ResidueUnitLaw" "java/lang/IllegalArgumentException" 4 12 (zg_hh mL_run) := ⟨rfl, by decide, _, zcl_L_15, Or.inl ⟨zs_cIAE, rfl⟩⟩
end ZH
