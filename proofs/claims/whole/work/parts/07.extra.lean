/-! A FEW WORDS MORE: arrays, the texts' own methods. -/
theorem aw_int : Jvm.Cond.arrayClass .int ∈ tables_1 := List.mem_of_getElem? (i := 40) (by decide +kernel)
theorem aw_bool : Jvm.Cond.arrayClass .boolean ∈ tables_1 := List.mem_of_getElem? (i := 986) (by decide +kernel)
