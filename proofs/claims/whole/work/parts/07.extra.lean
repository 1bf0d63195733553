/-! A FEW WORDS MORE: arrays, the texts' own methods. -/
theorem aw_int : Jvm.Cond.arrayClass .int ∈ tables_1 := List.mem_of_getElem? (i := 40) (by decide +kernel)
theorem aw_bool : Jvm.Cond.arrayClass .boolean ∈ tables_1 := List.mem_of_getElem? (i := 986) (by decide +kernel)
theorem ob_inst : Jvm.Cond.instanceMethod objectInit ∈ tables_1 := List.mem_of_getElem? (i := 23) (by decide +kernel)
theorem ob_code : Jvm.Cond.code objectInit ⟨#[0xb1]⟩ 1 none ∈ tables_1 := List.mem_of_getElem? (i := 24) (by decide +kernel)
def iLEN : Nat := 87
def iCHA : Nat := 91
theorem st_small : ∀ x ∈ strT, (UInt32.ofNat x.2).toNat = x.2 := by decide +kernel
def jy_len : MethodName := ⟨"java/lang/String", "length", "()I"⟩
abbrev jc_len : ByteArray := prog_14_method_54_code
theorem jw_len : Jvm.Cond.code jy_len jc_len 1 (some .int) ∈ tables_1 := List.mem_of_getElem? (i := 407) (by decide +kernel)
theorem ji_len : Jvm.Cond.initialized "java/lang/String" ∈ tables_1 := List.mem_of_getElem? (i := 11) (by decide +kernel)
theorem js_len : Jvm.Cond.instanceMethod jy_len ∈ tables_1 := List.mem_of_getElem? (i := 405) (by decide +kernel)
theorem jv_len : Jvm.Cond.selects "java/lang/String" jy_len jy_len ∈ tables_1 := List.mem_of_getElem? (i := 406) (by decide +kernel)
theorem jl_len_87 : Jvm.Cond.methodLink "ReinHall$Tokens" 87 jy_len ∈ tables_1 := List.mem_of_getElem? (i := 404) (by decide +kernel)
def jy_cod : MethodName := ⟨"java/lang/String", "coder", "()B"⟩
abbrev jc_cod : ByteArray := prog_14_method_152_code
theorem jw_cod : Jvm.Cond.code jy_cod jc_cod 1 (some .byte) ∈ tables_1 := List.mem_of_getElem? (i := 411) (by decide +kernel)
theorem ji_cod : Jvm.Cond.initialized "java/lang/String" ∈ tables_1 := List.mem_of_getElem? (i := 11) (by decide +kernel)
theorem js_cod : Jvm.Cond.instanceMethod jy_cod ∈ tables_1 := List.mem_of_getElem? (i := 409) (by decide +kernel)
theorem jv_cod : Jvm.Cond.selects "java/lang/String" jy_cod jy_cod ∈ tables_1 := List.mem_of_getElem? (i := 410) (by decide +kernel)
theorem jl_cod_335 : Jvm.Cond.methodLink "java/lang/String" 335 jy_cod ∈ tables_1 := List.mem_of_getElem? (i := 408) (by decide +kernel)
def jy_cha : MethodName := ⟨"java/lang/String", "charAt", "(I)C"⟩
abbrev jc_cha : ByteArray := prog_14_method_56_code
theorem jw_cha : Jvm.Cond.code jy_cha jc_cha 2 (some .char) ∈ tables_1 := List.mem_of_getElem? (i := 417) (by decide +kernel)
theorem ji_cha : Jvm.Cond.initialized "java/lang/String" ∈ tables_1 := List.mem_of_getElem? (i := 11) (by decide +kernel)
theorem js_cha : Jvm.Cond.instanceMethod jy_cha ∈ tables_1 := List.mem_of_getElem? (i := 415) (by decide +kernel)
theorem jv_cha : Jvm.Cond.selects "java/lang/String" jy_cha jy_cha ∈ tables_1 := List.mem_of_getElem? (i := 416) (by decide +kernel)
theorem jl_cha_91 : Jvm.Cond.methodLink "ReinHall$Tokens" 91 jy_cha ∈ tables_1 := List.mem_of_getElem? (i := 414) (by decide +kernel)
def jy_isL : MethodName := ⟨"java/lang/String", "isLatin1", "()Z"⟩
abbrev jc_isL : ByteArray := prog_14_method_154_code
theorem jw_isL : Jvm.Cond.code jy_isL jc_isL 1 (some .boolean) ∈ tables_1 := List.mem_of_getElem? (i := 421) (by decide +kernel)
theorem ji_isL : Jvm.Cond.initialized "java/lang/String" ∈ tables_1 := List.mem_of_getElem? (i := 11) (by decide +kernel)
theorem js_isL : Jvm.Cond.instanceMethod jy_isL ∈ tables_1 := List.mem_of_getElem? (i := 419) (by decide +kernel)
theorem jv_isL : Jvm.Cond.selects "java/lang/String" jy_isL jy_isL ∈ tables_1 := List.mem_of_getElem? (i := 420) (by decide +kernel)
theorem jl_isL_492 : Jvm.Cond.methodLink "java/lang/String" 492 jy_isL ∈ tables_1 := List.mem_of_getElem? (i := 418) (by decide +kernel)
def jy_chL : MethodName := ⟨"java/lang/StringLatin1", "charAt", "([BI)C"⟩
abbrev jc_chL : ByteArray := prog_15_method_2_code
theorem jw_chL : Jvm.Cond.code jy_chL jc_chL 2 (some .char) ∈ tables_1 := List.mem_of_getElem? (i := 424) (by decide +kernel)
theorem ji_chL : Jvm.Cond.initialized "java/lang/StringLatin1" ∈ tables_1 := List.mem_of_getElem? (i := 12) (by decide +kernel)
theorem js_chL : Jvm.Cond.static jy_chL ∈ tables_1 := List.mem_of_getElem? (i := 423) (by decide +kernel)
theorem jl_chL_495 : Jvm.Cond.methodLink "java/lang/String" 495 jy_chL ∈ tables_1 := List.mem_of_getElem? (i := 422) (by decide +kernel)
def jy_cki : MethodName := ⟨"java/lang/String", "checkIndex", "(II)V"⟩
abbrev jc_cki : ByteArray := prog_14_method_155_code
theorem jw_cki : Jvm.Cond.code jy_cki jc_cki 2 none ∈ tables_1 := List.mem_of_getElem? (i := 427) (by decide +kernel)
theorem ji_cki : Jvm.Cond.initialized "java/lang/String" ∈ tables_1 := List.mem_of_getElem? (i := 11) (by decide +kernel)
theorem js_cki : Jvm.Cond.static jy_cki ∈ tables_1 := List.mem_of_getElem? (i := 426) (by decide +kernel)
theorem jl_cki_9 : Jvm.Cond.methodLink "java/lang/StringLatin1" 9 jy_cki ∈ tables_1 := List.mem_of_getElem? (i := 425) (by decide +kernel)
theorem jl_cki_414 : Jvm.Cond.methodLink "java/lang/StringUTF16" 414 jy_cki ∈ tables_1 := List.mem_of_getElem? (i := 442) (by decide +kernel)
def jy_pre : MethodName := ⟨"jdk/internal/util/Preconditions", "checkIndex", "(IILjava/util/function/BiFunction;)I"⟩
abbrev jc_pre : ByteArray := prog_17_method_11_code
theorem jw_pre : Jvm.Cond.code jy_pre jc_pre 3 (some .int) ∈ tables_1 := List.mem_of_getElem? (i := 432) (by decide +kernel)
theorem ji_pre : Jvm.Cond.initialized "jdk/internal/util/Preconditions" ∈ tables_1 := List.mem_of_getElem? (i := 13) (by decide +kernel)
theorem js_pre : Jvm.Cond.static jy_pre ∈ tables_1 := List.mem_of_getElem? (i := 431) (by decide +kernel)
theorem jl_pre_1059 : Jvm.Cond.methodLink "java/lang/String" 1059 jy_pre ∈ tables_1 := List.mem_of_getElem? (i := 430) (by decide +kernel)
theorem jf_String_9 : Jvm.Cond.fieldLink "java/lang/String" 9 "java/lang/String" "value" "[B" ∈ tables_1 := List.mem_of_getElem? (i := 1278) (by decide +kernel)
theorem jf_String_15 : Jvm.Cond.fieldLink "java/lang/String" 15 "java/lang/String" "coder" "B" ∈ tables_1 := List.mem_of_getElem? (i := 1279) (by decide +kernel)
theorem jf_String_38 : Jvm.Cond.fieldLink "java/lang/String" 38 "java/lang/String" "COMPACT_STRINGS" "Z" ∈ tables_1 := List.mem_of_getElem? (i := 412) (by decide +kernel)
theorem jf_String_1053 : Jvm.Cond.fieldLink "java/lang/String" 1053 "jdk/internal/util/Preconditions" "SIOOBE_FORMATTER" "Ljava/util/function/BiFunction;" ∈ tables_1 := List.mem_of_getElem? (i := 428) (by decide +kernel)
theorem jf_StringUTF16_44 : Jvm.Cond.fieldLink "java/lang/StringUTF16" 44 "java/lang/StringUTF16" "$assertionsDisabled" "Z" ∈ tables_1 := List.mem_of_getElem? (i := 446) (by decide +kernel)
theorem jf_StringUTF16_59 : Jvm.Cond.fieldLink "java/lang/StringUTF16" 59 "java/lang/StringUTF16" "HI_BYTE_SHIFT" "I" ∈ tables_1 := List.mem_of_getElem? (i := 448) (by decide +kernel)
theorem jf_StringUTF16_63 : Jvm.Cond.fieldLink "java/lang/StringUTF16" 63 "java/lang/StringUTF16" "LO_BYTE_SHIFT" "I" ∈ tables_1 := List.mem_of_getElem? (i := 450) (by decide +kernel)
theorem jt_413 : (Jvm.Cond.laysStatic "java/lang/String" "COMPACT_STRINGS" "Z") ∈ tables_1 := List.mem_of_getElem? (i := 413) (by decide +kernel)
theorem jt_429 : (Jvm.Cond.laysStatic "jdk/internal/util/Preconditions" "SIOOBE_FORMATTER" "Ljava/util/function/BiFunction;") ∈ tables_1 := List.mem_of_getElem? (i := 429) (by decide +kernel)
theorem jt_447 : (Jvm.Cond.laysStatic "java/lang/StringUTF16" "$assertionsDisabled" "Z") ∈ tables_1 := List.mem_of_getElem? (i := 447) (by decide +kernel)
theorem jt_449 : (Jvm.Cond.laysStatic "java/lang/StringUTF16" "HI_BYTE_SHIFT" "I") ∈ tables_1 := List.mem_of_getElem? (i := 449) (by decide +kernel)
theorem jt_451 : (Jvm.Cond.laysStatic "java/lang/StringUTF16" "LO_BYTE_SHIFT" "I") ∈ tables_1 := List.mem_of_getElem? (i := 451) (by decide +kernel)
theorem jd_len_0 : decode jc_len 0 = .ok (.aload_n 0, 1) := by decide +kernel
theorem jd_len_1 : decode jc_len 1 = .ok (.getfield 9, 3) := by decide +kernel
theorem jd_len_4 : decode jc_len 4 = .ok (.arraylength, 1) := by decide +kernel
theorem jd_len_5 : decode jc_len 5 = .ok (.aload_n 0, 1) := by decide +kernel
theorem jd_len_6 : decode jc_len 6 = .ok (.invokevirtual 335, 3) := by decide +kernel
theorem jd_len_9 : decode jc_len 9 = .ok (.ishr, 1) := by decide +kernel
theorem jd_len_10 : decode jc_len 10 = .ok (.ireturn, 1) := by decide +kernel
theorem jd_cod_0 : decode jc_cod 0 = .ok (.getstatic 38, 3) := by decide +kernel
theorem jd_cod_3 : decode jc_cod 3 = .ok (.ifCond .eq (10), 3) := by decide +kernel
theorem jd_cod_6 : decode jc_cod 6 = .ok (.aload_n 0, 1) := by decide +kernel
theorem jd_cod_7 : decode jc_cod 7 = .ok (.getfield 15, 3) := by decide +kernel
theorem jd_cod_10 : decode jc_cod 10 = .ok (.goto (4), 3) := by decide +kernel
theorem jd_cod_13 : decode jc_cod 13 = .ok (.iconst 1, 1) := by decide +kernel
theorem jd_cod_14 : decode jc_cod 14 = .ok (.ireturn, 1) := by decide +kernel
theorem jd_cha_0 : decode jc_cha 0 = .ok (.aload_n 0, 1) := by decide +kernel
theorem jd_cha_1 : decode jc_cha 1 = .ok (.invokevirtual 492, 3) := by decide +kernel
theorem jd_cha_4 : decode jc_cha 4 = .ok (.ifCond .eq (12), 3) := by decide +kernel
theorem jd_cha_7 : decode jc_cha 7 = .ok (.aload_n 0, 1) := by decide +kernel
theorem jd_cha_8 : decode jc_cha 8 = .ok (.getfield 9, 3) := by decide +kernel
theorem jd_cha_11 : decode jc_cha 11 = .ok (.iload_n 1, 1) := by decide +kernel
theorem jd_cha_12 : decode jc_cha 12 = .ok (.invokestatic 495, 3) := by decide +kernel
theorem jd_cha_15 : decode jc_cha 15 = .ok (.ireturn, 1) := by decide +kernel
theorem jd_cha_16 : decode jc_cha 16 = .ok (.aload_n 0, 1) := by decide +kernel
theorem jd_cha_17 : decode jc_cha 17 = .ok (.getfield 9, 3) := by decide +kernel
theorem jd_cha_20 : decode jc_cha 20 = .ok (.iload_n 1, 1) := by decide +kernel
theorem jd_cha_21 : decode jc_cha 21 = .ok (.invokestatic 498, 3) := by decide +kernel
theorem jd_cha_24 : decode jc_cha 24 = .ok (.ireturn, 1) := by decide +kernel
theorem jd_isL_0 : decode jc_isL 0 = .ok (.getstatic 38, 3) := by decide +kernel
theorem jd_isL_3 : decode jc_isL 3 = .ok (.ifCond .eq (14), 3) := by decide +kernel
theorem jd_isL_6 : decode jc_isL 6 = .ok (.aload_n 0, 1) := by decide +kernel
theorem jd_isL_7 : decode jc_isL 7 = .ok (.getfield 15, 3) := by decide +kernel
theorem jd_isL_10 : decode jc_isL 10 = .ok (.ifCond .ne (7), 3) := by decide +kernel
theorem jd_isL_13 : decode jc_isL 13 = .ok (.iconst 1, 1) := by decide +kernel
theorem jd_isL_14 : decode jc_isL 14 = .ok (.goto (4), 3) := by decide +kernel
theorem jd_isL_17 : decode jc_isL 17 = .ok (.iconst 0, 1) := by decide +kernel
theorem jd_isL_18 : decode jc_isL 18 = .ok (.ireturn, 1) := by decide +kernel
theorem jd_chL_0 : decode jc_chL 0 = .ok (.iload_n 1, 1) := by decide +kernel
theorem jd_chL_1 : decode jc_chL 1 = .ok (.aload_n 0, 1) := by decide +kernel
theorem jd_chL_2 : decode jc_chL 2 = .ok (.arraylength, 1) := by decide +kernel
theorem jd_chL_3 : decode jc_chL 3 = .ok (.invokestatic 9, 3) := by decide +kernel
theorem jd_chL_6 : decode jc_chL 6 = .ok (.aload_n 0, 1) := by decide +kernel
theorem jd_chL_7 : decode jc_chL 7 = .ok (.iload_n 1, 1) := by decide +kernel
theorem jd_chL_8 : decode jc_chL 8 = .ok (.baload, 1) := by decide +kernel
theorem jd_chL_9 : decode jc_chL 9 = .ok (.sipush (255), 3) := by decide +kernel
theorem jd_chL_12 : decode jc_chL 12 = .ok (.iand, 1) := by decide +kernel
theorem jd_chL_13 : decode jc_chL 13 = .ok (.i2c, 1) := by decide +kernel
theorem jd_chL_14 : decode jc_chL 14 = .ok (.ireturn, 1) := by decide +kernel
theorem jd_cki_0 : decode jc_cki 0 = .ok (.iload_n 0, 1) := by decide +kernel
theorem jd_cki_1 : decode jc_cki 1 = .ok (.iload_n 1, 1) := by decide +kernel
theorem jd_cki_2 : decode jc_cki 2 = .ok (.getstatic 1053, 3) := by decide +kernel
theorem jd_cki_5 : decode jc_cki 5 = .ok (.invokestatic 1059, 3) := by decide +kernel
theorem jd_cki_8 : decode jc_cki 8 = .ok (.pop, 1) := by decide +kernel
theorem jd_cki_9 : decode jc_cki 9 = .ok (.return_, 1) := by decide +kernel
theorem jd_pre_0 : decode jc_pre 0 = .ok (.iload_n 0, 1) := by decide +kernel
theorem jd_pre_1 : decode jc_pre 1 = .ok (.ifCond .lt (8), 3) := by decide +kernel
theorem jd_pre_4 : decode jc_pre 4 = .ok (.iload_n 0, 1) := by decide +kernel
theorem jd_pre_5 : decode jc_pre 5 = .ok (.iload_n 1, 1) := by decide +kernel
theorem jd_pre_6 : decode jc_pre 6 = .ok (.if_icmp .lt (10), 3) := by decide +kernel
theorem jd_pre_9 : decode jc_pre 9 = .ok (.aload_n 2, 1) := by decide +kernel
theorem jd_pre_10 : decode jc_pre 10 = .ok (.iload_n 0, 1) := by decide +kernel
theorem jd_pre_11 : decode jc_pre 11 = .ok (.iload_n 1, 1) := by decide +kernel
theorem jd_pre_12 : decode jc_pre 12 = .ok (.invokestatic 95, 3) := by decide +kernel
theorem jd_pre_15 : decode jc_pre 15 = .ok (.athrow, 1) := by decide +kernel
theorem jd_pre_16 : decode jc_pre 16 = .ok (.iload_n 0, 1) := by decide +kernel
theorem jd_pre_17 : decode jc_pre 17 = .ok (.ireturn, 1) := by decide +kernel
