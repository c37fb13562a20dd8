set_option maxRecDepth 100000 in
theorem qw_801 : Cond.code yL_told cL_told 14 (Option.some Jvm.ClassFile.FieldType.boolean) ∈ zWs := zq _ 635 rfl (by decide +kernel)
set_option maxRecDepth 100000 in
theorem qw_810 : Cond.code yL_hands cL_hands 32 (Option.some Jvm.ClassFile.FieldType.boolean) ∈ zWs := zq _ 1026 rfl (by decide +kernel)
set_option maxRecDepth 100000 in
theorem qw_813 : Cond.code yL_days cL_days 28 (Option.some Jvm.ClassFile.FieldType.boolean) ∈ zWs := zq _ 1023 rfl (by decide +kernel)
