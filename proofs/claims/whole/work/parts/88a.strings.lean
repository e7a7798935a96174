def yS_len : MethodName := ⟨"java/lang/String", "length", "()I"⟩
abbrev bS_len : ByteArray := prog_22_method_54_code
theorem wS_len : Cond.code yS_len bS_len 1 (some .int) ∈ gwT := gw_6 (i := 222) rfl rfl
def yS_cod : MethodName := ⟨"java/lang/String", "coder", "()B"⟩
abbrev bS_cod : ByteArray := prog_22_method_152_code
theorem wS_cod : Cond.code yS_cod bS_cod 1 (some .byte) ∈ gwT := gw_6 (i := 226) rfl rfl
def yS_cha : MethodName := ⟨"java/lang/String", "charAt", "(I)C"⟩
abbrev bS_cha : ByteArray := prog_22_method_56_code
theorem wS_cha : Cond.code yS_cha bS_cha 2 (some .char) ∈ gwT := gw_6 (i := 232) rfl rfl
def yS_isl : MethodName := ⟨"java/lang/String", "isLatin1", "()Z"⟩
abbrev bS_isl : ByteArray := prog_22_method_154_code
theorem wS_isl : Cond.code yS_isl bS_isl 1 (some .boolean) ∈ gwT := gw_6 (i := 236) rfl rfl
def yS_lch : MethodName := ⟨"java/lang/StringLatin1", "charAt", "([BI)C"⟩
abbrev bS_lch : ByteArray := prog_23_method_2_code
theorem wS_lch : Cond.code yS_lch bS_lch 2 (some .char) ∈ gwT := gw_6 (i := 239) rfl rfl
def yS_chk : MethodName := ⟨"java/lang/String", "checkIndex", "(II)V"⟩
abbrev bS_chk : ByteArray := prog_22_method_155_code
theorem wS_chk : Cond.code yS_chk bS_chk 2 none ∈ gwT := gw_7 (i := 2) rfl rfl
def yS_pre : MethodName := ⟨"jdk/internal/util/Preconditions", "checkIndex", "(IILjava/util/function/BiFunction;)I"⟩
abbrev bS_pre : ByteArray := prog_30_method_11_code
theorem wS_pre : Cond.code yS_pre bS_pre 3 (some .int) ∈ gwT := gw_7 (i := 7) rfl rfl
theorem wS_inS : Cond.initialized "java/lang/String" ∈ gwT := gw_1 (i := 14) rfl rfl
theorem wS_inL : Cond.initialized "java/lang/StringLatin1" ∈ gwT := gw_1 (i := 15) rfl rfl
theorem wS_inP : Cond.initialized "jdk/internal/util/Preconditions" ∈ gwT := gw_1 (i := 16) rfl rfl
theorem wS_mlen : Cond.methodLink RX12 114 yS_len ∈ gwT := gw_6 (i := 219) rfl rfl
theorem wS_ilen : Cond.instanceMethod yS_len ∈ gwT := gw_6 (i := 220) rfl rfl
theorem wS_slen : Cond.selects "java/lang/String" yS_len yS_len ∈ gwT := gw_6 (i := 221) rfl rfl
theorem wS_mcod : Cond.methodLink "java/lang/String" 335 yS_cod ∈ gwT := gw_6 (i := 223) rfl rfl
theorem wS_icod : Cond.instanceMethod yS_cod ∈ gwT := gw_6 (i := 224) rfl rfl
theorem wS_scod : Cond.selects "java/lang/String" yS_cod yS_cod ∈ gwT := gw_6 (i := 225) rfl rfl
theorem wS_fcs : Cond.fieldLink "java/lang/String" 38 "java/lang/String" "COMPACT_STRINGS" "Z" ∈ gwT := gw_6 (i := 227) rfl rfl
theorem wS_mcha : Cond.methodLink RX12 120 yS_cha ∈ gwT := gw_6 (i := 229) rfl rfl
theorem wS_icha : Cond.instanceMethod yS_cha ∈ gwT := gw_6 (i := 230) rfl rfl
theorem wS_scha : Cond.selects "java/lang/String" yS_cha yS_cha ∈ gwT := gw_6 (i := 231) rfl rfl
theorem wS_misl : Cond.methodLink "java/lang/String" 492 yS_isl ∈ gwT := gw_6 (i := 233) rfl rfl
theorem wS_iisl : Cond.instanceMethod yS_isl ∈ gwT := gw_6 (i := 234) rfl rfl
theorem wS_sisl : Cond.selects "java/lang/String" yS_isl yS_isl ∈ gwT := gw_6 (i := 235) rfl rfl
theorem wS_mlch : Cond.methodLink "java/lang/String" 495 yS_lch ∈ gwT := gw_6 (i := 237) rfl rfl
theorem wS_tlch : Cond.static yS_lch ∈ gwT := gw_6 (i := 238) rfl rfl
theorem wS_mchk : Cond.methodLink "java/lang/StringLatin1" 9 yS_chk ∈ gwT := gw_7 (i := 0) rfl rfl
theorem wS_tchk : Cond.static yS_chk ∈ gwT := gw_7 (i := 1) rfl rfl
theorem wS_fsi : Cond.fieldLink "java/lang/String" 1053 "jdk/internal/util/Preconditions" "SIOOBE_FORMATTER" "Ljava/util/function/BiFunction;" ∈ gwT := gw_7 (i := 3) rfl rfl
theorem wS_mpre : Cond.methodLink "java/lang/String" 1059 yS_pre ∈ gwT := gw_7 (i := 5) rfl rfl
theorem wS_tpre : Cond.static yS_pre ∈ gwT := gw_7 (i := 6) rfl rfl
theorem wS_fval : Cond.fieldLink "java/lang/String" 9 "java/lang/String" "value" "[B" ∈ gwT := gw_8 (i := 181) rfl rfl
theorem wS_fcod : Cond.fieldLink "java/lang/String" 15 "java/lang/String" "coder" "B" ∈ gwT := gw_8 (i := 182) rfl rfl
theorem dS_len_0 : decode bS_len 0 = .ok (.aload_n 0, 1) := by decide +kernel
theorem dS_len_1 : decode bS_len 1 = .ok (.getfield 9, 3) := by decide +kernel
theorem dS_len_4 : decode bS_len 4 = .ok (.arraylength, 1) := by decide +kernel
theorem dS_len_5 : decode bS_len 5 = .ok (.aload_n 0, 1) := by decide +kernel
theorem dS_len_6 : decode bS_len 6 = .ok (.invokevirtual 335, 3) := by decide +kernel
theorem dS_len_9 : decode bS_len 9 = .ok (.ishr, 1) := by decide +kernel
theorem dS_len_10 : decode bS_len 10 = .ok (.ireturn, 1) := by decide +kernel
theorem dS_cod_0 : decode bS_cod 0 = .ok (.getstatic 38, 3) := by decide +kernel
theorem dS_cod_3 : decode bS_cod 3 = .ok (.ifCond .eq 10, 3) := by decide +kernel
theorem dS_cod_6 : decode bS_cod 6 = .ok (.aload_n 0, 1) := by decide +kernel
theorem dS_cod_7 : decode bS_cod 7 = .ok (.getfield 15, 3) := by decide +kernel
theorem dS_cod_10 : decode bS_cod 10 = .ok (.goto 4, 3) := by decide +kernel
theorem dS_cod_14 : decode bS_cod 14 = .ok (.ireturn, 1) := by decide +kernel
theorem dS_isl_0 : decode bS_isl 0 = .ok (.getstatic 38, 3) := by decide +kernel
theorem dS_isl_3 : decode bS_isl 3 = .ok (.ifCond .eq 14, 3) := by decide +kernel
theorem dS_isl_6 : decode bS_isl 6 = .ok (.aload_n 0, 1) := by decide +kernel
theorem dS_isl_7 : decode bS_isl 7 = .ok (.getfield 15, 3) := by decide +kernel
theorem dS_isl_10 : decode bS_isl 10 = .ok (.ifCond .ne 7, 3) := by decide +kernel
theorem dS_isl_13 : decode bS_isl 13 = .ok (.iconst 1, 1) := by decide +kernel
theorem dS_isl_14 : decode bS_isl 14 = .ok (.goto 4, 3) := by decide +kernel
theorem dS_isl_18 : decode bS_isl 18 = .ok (.ireturn, 1) := by decide +kernel
theorem dS_cha_0 : decode bS_cha 0 = .ok (.aload_n 0, 1) := by decide +kernel
theorem dS_cha_1 : decode bS_cha 1 = .ok (.invokevirtual 492, 3) := by decide +kernel
theorem dS_cha_4 : decode bS_cha 4 = .ok (.ifCond .eq 12, 3) := by decide +kernel
theorem dS_cha_7 : decode bS_cha 7 = .ok (.aload_n 0, 1) := by decide +kernel
theorem dS_cha_8 : decode bS_cha 8 = .ok (.getfield 9, 3) := by decide +kernel
theorem dS_cha_11 : decode bS_cha 11 = .ok (.iload_n 1, 1) := by decide +kernel
theorem dS_cha_12 : decode bS_cha 12 = .ok (.invokestatic 495, 3) := by decide +kernel
theorem dS_cha_15 : decode bS_cha 15 = .ok (.ireturn, 1) := by decide +kernel
theorem dS_lch_0 : decode bS_lch 0 = .ok (.iload_n 1, 1) := by decide +kernel
theorem dS_lch_1 : decode bS_lch 1 = .ok (.aload_n 0, 1) := by decide +kernel
theorem dS_lch_2 : decode bS_lch 2 = .ok (.arraylength, 1) := by decide +kernel
theorem dS_lch_3 : decode bS_lch 3 = .ok (.invokestatic 9, 3) := by decide +kernel
theorem dS_lch_6 : decode bS_lch 6 = .ok (.aload_n 0, 1) := by decide +kernel
theorem dS_lch_7 : decode bS_lch 7 = .ok (.iload_n 1, 1) := by decide +kernel
theorem dS_lch_8 : decode bS_lch 8 = .ok (.baload, 1) := by decide +kernel
theorem dS_lch_9 : decode bS_lch 9 = .ok (.sipush 255, 3) := by decide +kernel
theorem dS_lch_12 : decode bS_lch 12 = .ok (.iand, 1) := by decide +kernel
theorem dS_lch_13 : decode bS_lch 13 = .ok (.i2c, 1) := by decide +kernel
theorem dS_lch_14 : decode bS_lch 14 = .ok (.ireturn, 1) := by decide +kernel
theorem dS_chk_0 : decode bS_chk 0 = .ok (.iload_n 0, 1) := by decide +kernel
theorem dS_chk_1 : decode bS_chk 1 = .ok (.iload_n 1, 1) := by decide +kernel
theorem dS_chk_2 : decode bS_chk 2 = .ok (.getstatic 1053, 3) := by decide +kernel
theorem dS_chk_5 : decode bS_chk 5 = .ok (.invokestatic 1059, 3) := by decide +kernel
theorem dS_chk_8 : decode bS_chk 8 = .ok (.pop, 1) := by decide +kernel
theorem dS_chk_9 : decode bS_chk 9 = .ok (.return_, 1) := by decide +kernel
theorem dS_pre_0 : decode bS_pre 0 = .ok (.iload_n 0, 1) := by decide +kernel
theorem dS_pre_1 : decode bS_pre 1 = .ok (.ifCond .lt 8, 3) := by decide +kernel
theorem dS_pre_4 : decode bS_pre 4 = .ok (.iload_n 0, 1) := by decide +kernel
theorem dS_pre_5 : decode bS_pre 5 = .ok (.iload_n 1, 1) := by decide +kernel
theorem dS_pre_6 : decode bS_pre 6 = .ok (.if_icmp .lt 10, 3) := by decide +kernel
theorem dS_pre_16 : decode bS_pre 16 = .ok (.iload_n 0, 1) := by decide +kernel
theorem dS_pre_17 : decode bS_pre 17 = .ok (.ireturn, 1) := by decide +kernel
