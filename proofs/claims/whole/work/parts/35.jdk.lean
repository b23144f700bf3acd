def RJ0 : String := "java/lang/String"
def RJ1 : String := "java/lang/StringLatin1"
def RJ2 : String := "java/lang/StringUTF16"
def RJ3 : String := "jdk/internal/util/Preconditions"
def RJ9 : String := "java/lang/Math"
def RJ10 : String := "java/lang/System"
abbrev cJ9_floorDiv_7cf53 : ByteArray := prog_15_method_47_code
def yJ9_floorDiv_7cf53 : MethodName := ⟨RJ9, "floorDiv", "(II)I"⟩
abbrev cJ9_abs_0f7a4 : ByteArray := prog_15_method_59_code
def yJ9_abs_0f7a4 : MethodName := ⟨RJ9, "abs", "(I)I"⟩
abbrev cJ9_max_7cf53 : ByteArray := prog_15_method_65_code
def yJ9_max_7cf53 : MethodName := ⟨RJ9, "max", "(II)I"⟩
abbrev cJ9_max_f86c9 : ByteArray := prog_15_method_66_code
def yJ9_max_f86c9 : MethodName := ⟨RJ9, "max", "(JJ)J"⟩
abbrev cJ9_min_7cf53 : ByteArray := prog_15_method_69_code
def yJ9_min_7cf53 : MethodName := ⟨RJ9, "min", "(II)I"⟩
abbrev cJ0_length_8abf5 : ByteArray := prog_16_method_54_code
def yJ0_length_8abf5 : MethodName := ⟨RJ0, "length", "()I"⟩
abbrev cJ0_charAt_5068e : ByteArray := prog_16_method_56_code
def yJ0_charAt_5068e : MethodName := ⟨RJ0, "charAt", "(I)C"⟩
abbrev cJ0_coder_7d493 : ByteArray := prog_16_method_152_code
def yJ0_coder_7d493 : MethodName := ⟨RJ0, "coder", "()B"⟩
abbrev cJ0_isLatin1_aae02 : ByteArray := prog_16_method_154_code
def yJ0_isLatin1_aae02 : MethodName := ⟨RJ0, "isLatin1", "()Z"⟩
abbrev cJ0_checkIndex_df160 : ByteArray := prog_16_method_155_code
def yJ0_checkIndex_df160 : MethodName := ⟨RJ0, "checkIndex", "(II)V"⟩
abbrev cJ1_charAt_3b067 : ByteArray := prog_17_method_2_code
def yJ1_charAt_3b067 : MethodName := ⟨RJ1, "charAt", "([BI)C"⟩
abbrev cJ2_getChar_3b067 : ByteArray := prog_18_method_5_code
def yJ2_getChar_3b067 : MethodName := ⟨RJ2, "getChar", "([BI)C"⟩
abbrev cJ2_length_9d52b : ByteArray := prog_18_method_6_code
def yJ2_length_9d52b : MethodName := ⟨RJ2, "length", "([B)I"⟩
abbrev cJ2_charAt_3b067 : ByteArray := prog_18_method_83_code
def yJ2_charAt_3b067 : MethodName := ⟨RJ2, "charAt", "([BI)C"⟩
abbrev cJ2_checkIndex_2214a : ByteArray := prog_18_method_91_code
def yJ2_checkIndex_2214a : MethodName := ⟨RJ2, "checkIndex", "(I[B)V"⟩
abbrev cJ3_checkIndex_8e157 : ByteArray := prog_20_method_11_code
def yJ3_checkIndex_8e157 : MethodName := ⟨RJ3, "checkIndex", "(IILjava/util/function/BiFunction;)I"⟩
theorem wk_J9_floorDiv_7cf53 : Cond.code yJ9_floorDiv_7cf53 cJ9_floorDiv_7cf53 3 (some .int) ∈ BW := bw_mem 717 (by decide +kernel) rfl
theorem ws_J9_floorDiv_7cf53 : Cond.static yJ9_floorDiv_7cf53 ∈ BW := bw_mem 716 (by decide +kernel) rfl
theorem wk_J9_abs_0f7a4 : Cond.code yJ9_abs_0f7a4 cJ9_abs_0f7a4 1 (some .int) ∈ BW := bw_mem 688 (by decide +kernel) rfl
theorem ws_J9_abs_0f7a4 : Cond.static yJ9_abs_0f7a4 ∈ BW := bw_mem 687 (by decide +kernel) rfl
theorem wk_J9_max_7cf53 : Cond.code yJ9_max_7cf53 cJ9_max_7cf53 2 (some .int) ∈ BW := bw_mem 669 (by decide +kernel) rfl
theorem ws_J9_max_7cf53 : Cond.static yJ9_max_7cf53 ∈ BW := bw_mem 668 (by decide +kernel) rfl
theorem wk_J9_max_f86c9 : Cond.code yJ9_max_f86c9 cJ9_max_f86c9 4 (some .long) ∈ BW := bw_mem 787 (by decide +kernel) rfl
theorem ws_J9_max_f86c9 : Cond.static yJ9_max_f86c9 ∈ BW := bw_mem 786 (by decide +kernel) rfl
theorem wk_J9_min_7cf53 : Cond.code yJ9_min_7cf53 cJ9_min_7cf53 2 (some .int) ∈ BW := bw_mem 278 (by decide +kernel) rfl
theorem ws_J9_min_7cf53 : Cond.static yJ9_min_7cf53 ∈ BW := bw_mem 277 (by decide +kernel) rfl
theorem wk_J0_length_8abf5 : Cond.code yJ0_length_8abf5 cJ0_length_8abf5 1 (some .int) ∈ BW := bw_mem 312 (by decide +kernel) rfl
theorem wi_J0_length_8abf5 : Cond.instanceMethod yJ0_length_8abf5 ∈ BW := bw_mem 310 (by decide +kernel) rfl
theorem wv_J0_length_8abf5 : Cond.selects RJ0 yJ0_length_8abf5 yJ0_length_8abf5 ∈ BW := bw_mem 311 (by decide +kernel) rfl
theorem wk_J0_charAt_5068e : Cond.code yJ0_charAt_5068e cJ0_charAt_5068e 2 (some .char) ∈ BW := bw_mem 322 (by decide +kernel) rfl
theorem wi_J0_charAt_5068e : Cond.instanceMethod yJ0_charAt_5068e ∈ BW := bw_mem 320 (by decide +kernel) rfl
theorem wv_J0_charAt_5068e : Cond.selects RJ0 yJ0_charAt_5068e yJ0_charAt_5068e ∈ BW := bw_mem 321 (by decide +kernel) rfl
theorem wk_J0_coder_7d493 : Cond.code yJ0_coder_7d493 cJ0_coder_7d493 1 (some .byte) ∈ BW := bw_mem 316 (by decide +kernel) rfl
theorem wi_J0_coder_7d493 : Cond.instanceMethod yJ0_coder_7d493 ∈ BW := bw_mem 314 (by decide +kernel) rfl
theorem wv_J0_coder_7d493 : Cond.selects RJ0 yJ0_coder_7d493 yJ0_coder_7d493 ∈ BW := bw_mem 315 (by decide +kernel) rfl
theorem wk_J0_isLatin1_aae02 : Cond.code yJ0_isLatin1_aae02 cJ0_isLatin1_aae02 1 (some .boolean) ∈ BW := bw_mem 326 (by decide +kernel) rfl
theorem wi_J0_isLatin1_aae02 : Cond.instanceMethod yJ0_isLatin1_aae02 ∈ BW := bw_mem 324 (by decide +kernel) rfl
theorem wv_J0_isLatin1_aae02 : Cond.selects RJ0 yJ0_isLatin1_aae02 yJ0_isLatin1_aae02 ∈ BW := bw_mem 325 (by decide +kernel) rfl
theorem wk_J0_checkIndex_df160 : Cond.code yJ0_checkIndex_df160 cJ0_checkIndex_df160 2 none ∈ BW := bw_mem 332 (by decide +kernel) rfl
theorem ws_J0_checkIndex_df160 : Cond.static yJ0_checkIndex_df160 ∈ BW := bw_mem 331 (by decide +kernel) rfl
theorem wk_J1_charAt_3b067 : Cond.code yJ1_charAt_3b067 cJ1_charAt_3b067 2 (some .char) ∈ BW := bw_mem 329 (by decide +kernel) rfl
theorem ws_J1_charAt_3b067 : Cond.static yJ1_charAt_3b067 ∈ BW := bw_mem 328 (by decide +kernel) rfl
theorem wk_J2_getChar_3b067 : Cond.code yJ2_getChar_3b067 cJ2_getChar_3b067 2 (some .char) ∈ BW := bw_mem 350 (by decide +kernel) rfl
theorem ws_J2_getChar_3b067 : Cond.static yJ2_getChar_3b067 ∈ BW := bw_mem 349 (by decide +kernel) rfl
theorem wk_J2_length_9d52b : Cond.code yJ2_length_9d52b cJ2_length_9d52b 1 (some .int) ∈ BW := bw_mem 346 (by decide +kernel) rfl
theorem ws_J2_length_9d52b : Cond.static yJ2_length_9d52b ∈ BW := bw_mem 345 (by decide +kernel) rfl
theorem wk_J2_charAt_3b067 : Cond.code yJ2_charAt_3b067 cJ2_charAt_3b067 2 (some .char) ∈ BW := bw_mem 340 (by decide +kernel) rfl
theorem ws_J2_charAt_3b067 : Cond.static yJ2_charAt_3b067 ∈ BW := bw_mem 339 (by decide +kernel) rfl
theorem wk_J2_checkIndex_2214a : Cond.code yJ2_checkIndex_2214a cJ2_checkIndex_2214a 2 none ∈ BW := bw_mem 343 (by decide +kernel) rfl
theorem ws_J2_checkIndex_2214a : Cond.static yJ2_checkIndex_2214a ∈ BW := bw_mem 342 (by decide +kernel) rfl
theorem wk_J3_checkIndex_8e157 : Cond.code yJ3_checkIndex_8e157 cJ3_checkIndex_8e157 3 (some .int) ∈ BW := bw_mem 337 (by decide +kernel) rfl
theorem ws_J3_checkIndex_8e157 : Cond.static yJ3_checkIndex_8e157 ∈ BW := bw_mem 336 (by decide +kernel) rfl
theorem wz_J9 : Cond.initialized RJ9 ∈ BW := bw_mem 74 (by decide +kernel) rfl
theorem wz_J0 : Cond.initialized RJ0 ∈ BW := bw_mem 75 (by decide +kernel) rfl
theorem wz_J1 : Cond.initialized RJ1 ∈ BW := bw_mem 76 (by decide +kernel) rfl
theorem wz_J3 : Cond.initialized RJ3 ∈ BW := bw_mem 77 (by decide +kernel) rfl
theorem wz_J2 : Cond.initialized RJ2 ∈ BW := bw_mem 78 (by decide +kernel) rfl
theorem wz_J10 : Cond.initialized RJ10 ∈ BW := bw_mem 86 (by decide +kernel) rfl
theorem wl_X6_26 : Cond.methodLink RX6 26 yJ9_min_7cf53 ∈ BW := bw_mem 276 (by decide +kernel) rfl
theorem wl_X6_107 : Cond.methodLink RX6 107 yJ0_length_8abf5 ∈ BW := bw_mem 309 (by decide +kernel) rfl
theorem wl_J0_335 : Cond.methodLink RJ0 335 yJ0_coder_7d493 ∈ BW := bw_mem 313 (by decide +kernel) rfl
theorem wf_J0_38 : Cond.fieldLink RJ0 38 "java/lang/String" "COMPACT_STRINGS" "Z" ∈ BW := bw_mem 317 (by decide +kernel) rfl
theorem wl_X6_112 : Cond.methodLink RX6 112 yJ0_charAt_5068e ∈ BW := bw_mem 319 (by decide +kernel) rfl
theorem wl_J0_492 : Cond.methodLink RJ0 492 yJ0_isLatin1_aae02 ∈ BW := bw_mem 323 (by decide +kernel) rfl
theorem wl_J0_495 : Cond.methodLink RJ0 495 yJ1_charAt_3b067 ∈ BW := bw_mem 327 (by decide +kernel) rfl
theorem wl_J1_9 : Cond.methodLink RJ1 9 yJ0_checkIndex_df160 ∈ BW := bw_mem 330 (by decide +kernel) rfl
theorem wf_J0_1053 : Cond.fieldLink RJ0 1053 "jdk/internal/util/Preconditions" "SIOOBE_FORMATTER" "Ljava/util/function/BiFunction;" ∈ BW := bw_mem 333 (by decide +kernel) rfl
theorem wl_J0_1059 : Cond.methodLink RJ0 1059 yJ3_checkIndex_8e157 ∈ BW := bw_mem 335 (by decide +kernel) rfl
theorem wl_J0_498 : Cond.methodLink RJ0 498 yJ2_charAt_3b067 ∈ BW := bw_mem 338 (by decide +kernel) rfl
theorem wl_J2_67 : Cond.methodLink RJ2 67 yJ2_checkIndex_2214a ∈ BW := bw_mem 341 (by decide +kernel) rfl
theorem wl_J2_48 : Cond.methodLink RJ2 48 yJ2_length_9d52b ∈ BW := bw_mem 344 (by decide +kernel) rfl
theorem wl_J2_414 : Cond.methodLink RJ2 414 yJ0_checkIndex_df160 ∈ BW := bw_mem 347 (by decide +kernel) rfl
theorem wl_J2_71 : Cond.methodLink RJ2 71 yJ2_getChar_3b067 ∈ BW := bw_mem 348 (by decide +kernel) rfl
theorem wf_J2_44 : Cond.fieldLink RJ2 44 "java/lang/StringUTF16" "$assertionsDisabled" "Z" ∈ BW := bw_mem 351 (by decide +kernel) rfl
theorem wf_J2_59 : Cond.fieldLink RJ2 59 "java/lang/StringUTF16" "HI_BYTE_SHIFT" "I" ∈ BW := bw_mem 353 (by decide +kernel) rfl
theorem wf_J2_63 : Cond.fieldLink RJ2 63 "java/lang/StringUTF16" "LO_BYTE_SHIFT" "I" ∈ BW := bw_mem 355 (by decide +kernel) rfl
theorem wl_X3_42 : Cond.methodLink RX3 42 yJ9_max_7cf53 ∈ BW := bw_mem 667 (by decide +kernel) rfl
theorem wl_X4_72 : Cond.methodLink RX4 72 yJ9_abs_0f7a4 ∈ BW := bw_mem 686 (by decide +kernel) rfl
theorem wl_X5_69 : Cond.methodLink RX5 69 yJ9_abs_0f7a4 ∈ BW := bw_mem 704 (by decide +kernel) rfl
theorem wl_X5_75 : Cond.methodLink RX5 75 yJ9_min_7cf53 ∈ BW := bw_mem 705 (by decide +kernel) rfl
theorem wl_X5_79 : Cond.methodLink RX5 79 yJ9_max_7cf53 ∈ BW := bw_mem 706 (by decide +kernel) rfl
theorem wl_X4_80 : Cond.methodLink RX4 80 yJ9_floorDiv_7cf53 ∈ BW := bw_mem 715 (by decide +kernel) rfl
theorem wl_X4_83 : Cond.methodLink RX4 83 yJ9_max_7cf53 ∈ BW := bw_mem 718 (by decide +kernel) rfl
theorem wl_X4_86 : Cond.methodLink RX4 86 yJ9_min_7cf53 ∈ BW := bw_mem 719 (by decide +kernel) rfl
theorem wl_X11_191 : Cond.methodLink RX11 191 yJ9_max_7cf53 ∈ BW := bw_mem 763 (by decide +kernel) rfl
theorem wl_X11_196 : Cond.methodLink RX11 196 yJ9_min_7cf53 ∈ BW := bw_mem 764 (by decide +kernel) rfl
theorem wl_X11_297 : Cond.methodLink RX11 297 yJ9_abs_0f7a4 ∈ BW := bw_mem 784 (by decide +kernel) rfl
theorem wl_X11_294 : Cond.methodLink RX11 294 yJ9_max_f86c9 ∈ BW := bw_mem 785 (by decide +kernel) rfl
theorem wl_X12_59 : Cond.methodLink RX12 59 yJ0_length_8abf5 ∈ BW := bw_mem 1155 (by decide +kernel) rfl
theorem wl_X12_64 : Cond.methodLink RX12 64 yJ0_charAt_5068e ∈ BW := bw_mem 1156 (by decide +kernel) rfl
theorem wf_J0_9 : Cond.fieldLink RJ0 9 "java/lang/String" "value" "[B" ∈ BW := bw_mem 1495 (by decide +kernel) rfl
theorem wf_J0_15 : Cond.fieldLink RJ0 15 "java/lang/String" "coder" "B" ∈ BW := bw_mem 1496 (by decide +kernel) rfl
theorem md_J9_floorDiv_7cf53 : yJ9_floorDiv_7cf53.cls ≠ "java/lang/invoke/MethodHandle" ∧ yJ9_floorDiv_7cf53.cls ≠ "java/lang/invoke/VarHandle" ∧ (parseMethodDescriptor yJ9_floorDiv_7cf53.desc).map (fun d => d.parameters.length) = some 2 := by decide +kernel
theorem md_J9_abs_0f7a4 : yJ9_abs_0f7a4.cls ≠ "java/lang/invoke/MethodHandle" ∧ yJ9_abs_0f7a4.cls ≠ "java/lang/invoke/VarHandle" ∧ (parseMethodDescriptor yJ9_abs_0f7a4.desc).map (fun d => d.parameters.length) = some 1 := by decide +kernel
theorem md_J9_max_7cf53 : yJ9_max_7cf53.cls ≠ "java/lang/invoke/MethodHandle" ∧ yJ9_max_7cf53.cls ≠ "java/lang/invoke/VarHandle" ∧ (parseMethodDescriptor yJ9_max_7cf53.desc).map (fun d => d.parameters.length) = some 2 := by decide +kernel
theorem md_J9_max_f86c9 : yJ9_max_f86c9.cls ≠ "java/lang/invoke/MethodHandle" ∧ yJ9_max_f86c9.cls ≠ "java/lang/invoke/VarHandle" ∧ (parseMethodDescriptor yJ9_max_f86c9.desc).map (fun d => d.parameters.length) = some 2 := by decide +kernel
theorem md_J9_min_7cf53 : yJ9_min_7cf53.cls ≠ "java/lang/invoke/MethodHandle" ∧ yJ9_min_7cf53.cls ≠ "java/lang/invoke/VarHandle" ∧ (parseMethodDescriptor yJ9_min_7cf53.desc).map (fun d => d.parameters.length) = some 2 := by decide +kernel
theorem md_J0_length_8abf5 : yJ0_length_8abf5.cls ≠ "java/lang/invoke/MethodHandle" ∧ yJ0_length_8abf5.cls ≠ "java/lang/invoke/VarHandle" ∧ (parseMethodDescriptor yJ0_length_8abf5.desc).map (fun d => d.parameters.length) = some 0 := by decide +kernel
theorem md_J0_charAt_5068e : yJ0_charAt_5068e.cls ≠ "java/lang/invoke/MethodHandle" ∧ yJ0_charAt_5068e.cls ≠ "java/lang/invoke/VarHandle" ∧ (parseMethodDescriptor yJ0_charAt_5068e.desc).map (fun d => d.parameters.length) = some 1 := by decide +kernel
theorem md_J0_coder_7d493 : yJ0_coder_7d493.cls ≠ "java/lang/invoke/MethodHandle" ∧ yJ0_coder_7d493.cls ≠ "java/lang/invoke/VarHandle" ∧ (parseMethodDescriptor yJ0_coder_7d493.desc).map (fun d => d.parameters.length) = some 0 := by decide +kernel
theorem md_J0_isLatin1_aae02 : yJ0_isLatin1_aae02.cls ≠ "java/lang/invoke/MethodHandle" ∧ yJ0_isLatin1_aae02.cls ≠ "java/lang/invoke/VarHandle" ∧ (parseMethodDescriptor yJ0_isLatin1_aae02.desc).map (fun d => d.parameters.length) = some 0 := by decide +kernel
theorem md_J0_checkIndex_df160 : yJ0_checkIndex_df160.cls ≠ "java/lang/invoke/MethodHandle" ∧ yJ0_checkIndex_df160.cls ≠ "java/lang/invoke/VarHandle" ∧ (parseMethodDescriptor yJ0_checkIndex_df160.desc).map (fun d => d.parameters.length) = some 2 := by decide +kernel
theorem md_J1_charAt_3b067 : yJ1_charAt_3b067.cls ≠ "java/lang/invoke/MethodHandle" ∧ yJ1_charAt_3b067.cls ≠ "java/lang/invoke/VarHandle" ∧ (parseMethodDescriptor yJ1_charAt_3b067.desc).map (fun d => d.parameters.length) = some 2 := by decide +kernel
theorem md_J3_checkIndex_8e157 : yJ3_checkIndex_8e157.cls ≠ "java/lang/invoke/MethodHandle" ∧ yJ3_checkIndex_8e157.cls ≠ "java/lang/invoke/VarHandle" ∧ (parseMethodDescriptor yJ3_checkIndex_8e157.desc).map (fun d => d.parameters.length) = some 3 := by decide +kernel
theorem dJ9_floorDiv_7cf53_0 : decode cJ9_floorDiv_7cf53 0 = .ok (.iload_n 0, 1) := by decide +kernel
theorem dJ9_floorDiv_7cf53_1 : decode cJ9_floorDiv_7cf53 1 = .ok (.iload_n 1, 1) := by decide +kernel
theorem dJ9_floorDiv_7cf53_2 : decode cJ9_floorDiv_7cf53 2 = .ok (.idiv, 1) := by decide +kernel
theorem dJ9_floorDiv_7cf53_3 : decode cJ9_floorDiv_7cf53 3 = .ok (.istore_n 2, 1) := by decide +kernel
theorem dJ9_floorDiv_7cf53_4 : decode cJ9_floorDiv_7cf53 4 = .ok (.iload_n 0, 1) := by decide +kernel
theorem dJ9_floorDiv_7cf53_5 : decode cJ9_floorDiv_7cf53 5 = .ok (.iload_n 1, 1) := by decide +kernel
theorem dJ9_floorDiv_7cf53_6 : decode cJ9_floorDiv_7cf53 6 = .ok (.ixor, 1) := by decide +kernel
theorem dJ9_floorDiv_7cf53_7 : decode cJ9_floorDiv_7cf53 7 = .ok (.ifCond .ge 14, 3) := by decide +kernel
theorem dJ9_floorDiv_7cf53_10 : decode cJ9_floorDiv_7cf53 10 = .ok (.iload_n 2, 1) := by decide +kernel
theorem dJ9_floorDiv_7cf53_11 : decode cJ9_floorDiv_7cf53 11 = .ok (.iload_n 1, 1) := by decide +kernel
theorem dJ9_floorDiv_7cf53_12 : decode cJ9_floorDiv_7cf53 12 = .ok (.imul, 1) := by decide +kernel
theorem dJ9_floorDiv_7cf53_13 : decode cJ9_floorDiv_7cf53 13 = .ok (.iload_n 0, 1) := by decide +kernel
theorem dJ9_floorDiv_7cf53_14 : decode cJ9_floorDiv_7cf53 14 = .ok (.if_icmp .eq 7, 3) := by decide +kernel
theorem dJ9_floorDiv_7cf53_17 : decode cJ9_floorDiv_7cf53 17 = .ok (.iload_n 2, 1) := by decide +kernel
theorem dJ9_floorDiv_7cf53_18 : decode cJ9_floorDiv_7cf53 18 = .ok (.iconst 1, 1) := by decide +kernel
theorem dJ9_floorDiv_7cf53_19 : decode cJ9_floorDiv_7cf53 19 = .ok (.isub, 1) := by decide +kernel
theorem dJ9_floorDiv_7cf53_20 : decode cJ9_floorDiv_7cf53 20 = .ok (.ireturn, 1) := by decide +kernel
theorem dJ9_floorDiv_7cf53_21 : decode cJ9_floorDiv_7cf53 21 = .ok (.iload_n 2, 1) := by decide +kernel
theorem dJ9_floorDiv_7cf53_22 : decode cJ9_floorDiv_7cf53 22 = .ok (.ireturn, 1) := by decide +kernel
theorem dJ9_abs_0f7a4_0 : decode cJ9_abs_0f7a4 0 = .ok (.iload_n 0, 1) := by decide +kernel
theorem dJ9_abs_0f7a4_1 : decode cJ9_abs_0f7a4 1 = .ok (.ifCond .ge 8, 3) := by decide +kernel
theorem dJ9_abs_0f7a4_4 : decode cJ9_abs_0f7a4 4 = .ok (.iload_n 0, 1) := by decide +kernel
theorem dJ9_abs_0f7a4_5 : decode cJ9_abs_0f7a4 5 = .ok (.ineg, 1) := by decide +kernel
theorem dJ9_abs_0f7a4_6 : decode cJ9_abs_0f7a4 6 = .ok (.goto 4, 3) := by decide +kernel
theorem dJ9_abs_0f7a4_9 : decode cJ9_abs_0f7a4 9 = .ok (.iload_n 0, 1) := by decide +kernel
theorem dJ9_abs_0f7a4_10 : decode cJ9_abs_0f7a4 10 = .ok (.ireturn, 1) := by decide +kernel
theorem dJ9_max_7cf53_0 : decode cJ9_max_7cf53 0 = .ok (.iload_n 0, 1) := by decide +kernel
theorem dJ9_max_7cf53_1 : decode cJ9_max_7cf53 1 = .ok (.iload_n 1, 1) := by decide +kernel
theorem dJ9_max_7cf53_2 : decode cJ9_max_7cf53 2 = .ok (.if_icmp .lt 7, 3) := by decide +kernel
theorem dJ9_max_7cf53_5 : decode cJ9_max_7cf53 5 = .ok (.iload_n 0, 1) := by decide +kernel
theorem dJ9_max_7cf53_6 : decode cJ9_max_7cf53 6 = .ok (.goto 4, 3) := by decide +kernel
theorem dJ9_max_7cf53_9 : decode cJ9_max_7cf53 9 = .ok (.iload_n 1, 1) := by decide +kernel
theorem dJ9_max_7cf53_10 : decode cJ9_max_7cf53 10 = .ok (.ireturn, 1) := by decide +kernel
theorem dJ9_max_f86c9_0 : decode cJ9_max_f86c9 0 = .ok (.lload_n 0, 1) := by decide +kernel
theorem dJ9_max_f86c9_1 : decode cJ9_max_f86c9 1 = .ok (.lload_n 2, 1) := by decide +kernel
theorem dJ9_max_f86c9_2 : decode cJ9_max_f86c9 2 = .ok (.lcmp, 1) := by decide +kernel
theorem dJ9_max_f86c9_3 : decode cJ9_max_f86c9 3 = .ok (.ifCond .lt 7, 3) := by decide +kernel
theorem dJ9_max_f86c9_6 : decode cJ9_max_f86c9 6 = .ok (.lload_n 0, 1) := by decide +kernel
theorem dJ9_max_f86c9_7 : decode cJ9_max_f86c9 7 = .ok (.goto 4, 3) := by decide +kernel
theorem dJ9_max_f86c9_10 : decode cJ9_max_f86c9 10 = .ok (.lload_n 2, 1) := by decide +kernel
theorem dJ9_max_f86c9_11 : decode cJ9_max_f86c9 11 = .ok (.lreturn, 1) := by decide +kernel
theorem dJ9_min_7cf53_0 : decode cJ9_min_7cf53 0 = .ok (.iload_n 0, 1) := by decide +kernel
theorem dJ9_min_7cf53_1 : decode cJ9_min_7cf53 1 = .ok (.iload_n 1, 1) := by decide +kernel
theorem dJ9_min_7cf53_2 : decode cJ9_min_7cf53 2 = .ok (.if_icmp .gt 7, 3) := by decide +kernel
theorem dJ9_min_7cf53_5 : decode cJ9_min_7cf53 5 = .ok (.iload_n 0, 1) := by decide +kernel
theorem dJ9_min_7cf53_6 : decode cJ9_min_7cf53 6 = .ok (.goto 4, 3) := by decide +kernel
theorem dJ9_min_7cf53_9 : decode cJ9_min_7cf53 9 = .ok (.iload_n 1, 1) := by decide +kernel
theorem dJ9_min_7cf53_10 : decode cJ9_min_7cf53 10 = .ok (.ireturn, 1) := by decide +kernel
theorem dJ0_length_8abf5_0 : decode cJ0_length_8abf5 0 = .ok (.aload_n 0, 1) := by decide +kernel
theorem dJ0_length_8abf5_1 : decode cJ0_length_8abf5 1 = .ok (.getfield 9, 3) := by decide +kernel
theorem dJ0_length_8abf5_4 : decode cJ0_length_8abf5 4 = .ok (.arraylength, 1) := by decide +kernel
theorem dJ0_length_8abf5_5 : decode cJ0_length_8abf5 5 = .ok (.aload_n 0, 1) := by decide +kernel
theorem dJ0_length_8abf5_6 : decode cJ0_length_8abf5 6 = .ok (.invokevirtual 335, 3) := by decide +kernel
theorem dJ0_length_8abf5_9 : decode cJ0_length_8abf5 9 = .ok (.ishr, 1) := by decide +kernel
theorem dJ0_length_8abf5_10 : decode cJ0_length_8abf5 10 = .ok (.ireturn, 1) := by decide +kernel
theorem dJ0_charAt_5068e_0 : decode cJ0_charAt_5068e 0 = .ok (.aload_n 0, 1) := by decide +kernel
theorem dJ0_charAt_5068e_1 : decode cJ0_charAt_5068e 1 = .ok (.invokevirtual 492, 3) := by decide +kernel
theorem dJ0_charAt_5068e_4 : decode cJ0_charAt_5068e 4 = .ok (.ifCond .eq 12, 3) := by decide +kernel
theorem dJ0_charAt_5068e_7 : decode cJ0_charAt_5068e 7 = .ok (.aload_n 0, 1) := by decide +kernel
theorem dJ0_charAt_5068e_8 : decode cJ0_charAt_5068e 8 = .ok (.getfield 9, 3) := by decide +kernel
theorem dJ0_charAt_5068e_11 : decode cJ0_charAt_5068e 11 = .ok (.iload_n 1, 1) := by decide +kernel
theorem dJ0_charAt_5068e_12 : decode cJ0_charAt_5068e 12 = .ok (.invokestatic 495, 3) := by decide +kernel
theorem dJ0_charAt_5068e_15 : decode cJ0_charAt_5068e 15 = .ok (.ireturn, 1) := by decide +kernel
theorem dJ0_charAt_5068e_16 : decode cJ0_charAt_5068e 16 = .ok (.aload_n 0, 1) := by decide +kernel
theorem dJ0_charAt_5068e_17 : decode cJ0_charAt_5068e 17 = .ok (.getfield 9, 3) := by decide +kernel
theorem dJ0_charAt_5068e_20 : decode cJ0_charAt_5068e 20 = .ok (.iload_n 1, 1) := by decide +kernel
theorem dJ0_charAt_5068e_21 : decode cJ0_charAt_5068e 21 = .ok (.invokestatic 498, 3) := by decide +kernel
theorem dJ0_charAt_5068e_24 : decode cJ0_charAt_5068e 24 = .ok (.ireturn, 1) := by decide +kernel
theorem dJ0_coder_7d493_0 : decode cJ0_coder_7d493 0 = .ok (.getstatic 38, 3) := by decide +kernel
theorem dJ0_coder_7d493_3 : decode cJ0_coder_7d493 3 = .ok (.ifCond .eq 10, 3) := by decide +kernel
theorem dJ0_coder_7d493_6 : decode cJ0_coder_7d493 6 = .ok (.aload_n 0, 1) := by decide +kernel
theorem dJ0_coder_7d493_7 : decode cJ0_coder_7d493 7 = .ok (.getfield 15, 3) := by decide +kernel
theorem dJ0_coder_7d493_10 : decode cJ0_coder_7d493 10 = .ok (.goto 4, 3) := by decide +kernel
theorem dJ0_coder_7d493_13 : decode cJ0_coder_7d493 13 = .ok (.iconst 1, 1) := by decide +kernel
theorem dJ0_coder_7d493_14 : decode cJ0_coder_7d493 14 = .ok (.ireturn, 1) := by decide +kernel
theorem dJ0_isLatin1_aae02_0 : decode cJ0_isLatin1_aae02 0 = .ok (.getstatic 38, 3) := by decide +kernel
theorem dJ0_isLatin1_aae02_3 : decode cJ0_isLatin1_aae02 3 = .ok (.ifCond .eq 14, 3) := by decide +kernel
theorem dJ0_isLatin1_aae02_6 : decode cJ0_isLatin1_aae02 6 = .ok (.aload_n 0, 1) := by decide +kernel
theorem dJ0_isLatin1_aae02_7 : decode cJ0_isLatin1_aae02 7 = .ok (.getfield 15, 3) := by decide +kernel
theorem dJ0_isLatin1_aae02_10 : decode cJ0_isLatin1_aae02 10 = .ok (.ifCond .ne 7, 3) := by decide +kernel
theorem dJ0_isLatin1_aae02_13 : decode cJ0_isLatin1_aae02 13 = .ok (.iconst 1, 1) := by decide +kernel
theorem dJ0_isLatin1_aae02_14 : decode cJ0_isLatin1_aae02 14 = .ok (.goto 4, 3) := by decide +kernel
theorem dJ0_isLatin1_aae02_17 : decode cJ0_isLatin1_aae02 17 = .ok (.iconst 0, 1) := by decide +kernel
theorem dJ0_isLatin1_aae02_18 : decode cJ0_isLatin1_aae02 18 = .ok (.ireturn, 1) := by decide +kernel
theorem dJ0_checkIndex_df160_0 : decode cJ0_checkIndex_df160 0 = .ok (.iload_n 0, 1) := by decide +kernel
theorem dJ0_checkIndex_df160_1 : decode cJ0_checkIndex_df160 1 = .ok (.iload_n 1, 1) := by decide +kernel
theorem dJ0_checkIndex_df160_2 : decode cJ0_checkIndex_df160 2 = .ok (.getstatic 1053, 3) := by decide +kernel
theorem dJ0_checkIndex_df160_5 : decode cJ0_checkIndex_df160 5 = .ok (.invokestatic 1059, 3) := by decide +kernel
theorem dJ0_checkIndex_df160_8 : decode cJ0_checkIndex_df160 8 = .ok (.pop, 1) := by decide +kernel
theorem dJ0_checkIndex_df160_9 : decode cJ0_checkIndex_df160 9 = .ok (.return_, 1) := by decide +kernel
theorem dJ1_charAt_3b067_0 : decode cJ1_charAt_3b067 0 = .ok (.iload_n 1, 1) := by decide +kernel
theorem dJ1_charAt_3b067_1 : decode cJ1_charAt_3b067 1 = .ok (.aload_n 0, 1) := by decide +kernel
theorem dJ1_charAt_3b067_2 : decode cJ1_charAt_3b067 2 = .ok (.arraylength, 1) := by decide +kernel
theorem dJ1_charAt_3b067_3 : decode cJ1_charAt_3b067 3 = .ok (.invokestatic 9, 3) := by decide +kernel
theorem dJ1_charAt_3b067_6 : decode cJ1_charAt_3b067 6 = .ok (.aload_n 0, 1) := by decide +kernel
theorem dJ1_charAt_3b067_7 : decode cJ1_charAt_3b067 7 = .ok (.iload_n 1, 1) := by decide +kernel
theorem dJ1_charAt_3b067_8 : decode cJ1_charAt_3b067 8 = .ok (.baload, 1) := by decide +kernel
theorem dJ1_charAt_3b067_9 : decode cJ1_charAt_3b067 9 = .ok (.sipush 255, 3) := by decide +kernel
theorem dJ1_charAt_3b067_12 : decode cJ1_charAt_3b067 12 = .ok (.iand, 1) := by decide +kernel
theorem dJ1_charAt_3b067_13 : decode cJ1_charAt_3b067 13 = .ok (.i2c, 1) := by decide +kernel
theorem dJ1_charAt_3b067_14 : decode cJ1_charAt_3b067 14 = .ok (.ireturn, 1) := by decide +kernel
theorem dJ3_checkIndex_8e157_0 : decode cJ3_checkIndex_8e157 0 = .ok (.iload_n 0, 1) := by decide +kernel
theorem dJ3_checkIndex_8e157_1 : decode cJ3_checkIndex_8e157 1 = .ok (.ifCond .lt 8, 3) := by decide +kernel
theorem dJ3_checkIndex_8e157_4 : decode cJ3_checkIndex_8e157 4 = .ok (.iload_n 0, 1) := by decide +kernel
theorem dJ3_checkIndex_8e157_5 : decode cJ3_checkIndex_8e157 5 = .ok (.iload_n 1, 1) := by decide +kernel
theorem dJ3_checkIndex_8e157_6 : decode cJ3_checkIndex_8e157 6 = .ok (.if_icmp .lt 10, 3) := by decide +kernel
theorem dJ3_checkIndex_8e157_9 : decode cJ3_checkIndex_8e157 9 = .ok (.aload_n 2, 1) := by decide +kernel
theorem dJ3_checkIndex_8e157_10 : decode cJ3_checkIndex_8e157 10 = .ok (.iload_n 0, 1) := by decide +kernel
theorem dJ3_checkIndex_8e157_11 : decode cJ3_checkIndex_8e157 11 = .ok (.iload_n 1, 1) := by decide +kernel
theorem dJ3_checkIndex_8e157_12 : decode cJ3_checkIndex_8e157 12 = .ok (.invokestatic 95, 3) := by decide +kernel
theorem dJ3_checkIndex_8e157_15 : decode cJ3_checkIndex_8e157 15 = .ok (.athrow, 1) := by decide +kernel
theorem dJ3_checkIndex_8e157_16 : decode cJ3_checkIndex_8e157 16 = .ok (.iload_n 0, 1) := by decide +kernel
theorem dJ3_checkIndex_8e157_17 : decode cJ3_checkIndex_8e157 17 = .ok (.ireturn, 1) := by decide +kernel
/-! ===== String constants ===== -/
def lenS (i : Nat) : Int := ((lenK.getD i 0 : Nat) : Int)
def chS (i : Nat) (k : Int) : Int := ((bytK.getD i []).getD k.toNat 0).toInt
theorem len_b {i : Nat} (hi : i < 13) : 1 ≤ lenS i ∧ lenS i ≤ 6 := by
  have h : ∀ i, i < 13 → 1 ≤ lenS i ∧ lenS i ≤ 6 := by decide +kernel
  exact h i hi
theorem ch_b {i : Nat} {k : Int} (hi : i < 13) (hk : 0 ≤ k ∧ k < lenS i) : 0 ≤ chS i k ∧ chS i k ≤ 127 := by
  have h : ∀ i, i < 13 → ∀ k : Nat, k < 6 → 0 ≤ chS i (k : Int) ∧ chS i (k : Int) ≤ 127 := by decide +kernel
  have h2 := h i hi k.toNat (by have := len_b hi; omega)
  rwa [show ((k.toNat : Nat) : Int) = k by omega] at h2
theorem bv_small {z : Int} (h : 0 ≤ z ∧ z < 65536) : (Int32.ofInt z).toBitVec.toNat = z.toNat := by
  rw [Int32.toBitVec_ofInt, BitVec.toNat_ofInt]
  omega
theorem i2c_id {z : Int} (h : 0 ≤ z ∧ z < 65536) : ((Int32.ofInt z).toUInt32 % 65536).toInt32 = Int32.ofInt z := by
  apply Int32.toBitVec_inj.mp
  apply BitVec.eq_of_toNat_eq
  have h2 := bv_small h
  show ((Int32.ofInt z).toBitVec % 65536#32).toNat = _
  rw [BitVec.toNat_umod, h2]
  show z.toNat % 65536 = z.toNat
  omega
theorem nar_c {z : Int} (h : 0 ≤ z ∧ z < 65536) : narrow .char (.int (Int32.ofInt z)) = .int (Int32.ofInt z) := by
  show Value.int ((Int32.ofInt z).toUInt32 % 65536).toInt32 = _
  rw [i2c_id h]
theorem and_255 {z : Int} (h : 0 ≤ z ∧ z ≤ 127) : Int32.ofInt z &&& Int32.ofInt 255 = Int32.ofInt z := by
  apply Int32.toBitVec_inj.mp
  apply BitVec.eq_of_toNat_eq
  have h2 := bv_small (z := z) (by omega)
  show ((Int32.ofInt z).toBitVec &&& 255#32).toNat = _
  rw [BitVec.toNat_and, h2]
  show z.toNat &&& (2 ^ 8 - 1) = z.toNat
  rw [Nat.and_two_pow_sub_one_eq_mod]
  omega
theorem shr_0 {z : Int} (_h : 0 ≤ z ∧ z ≤ 127) : Int32.ofInt z >>> (Int32.ofInt 0 &&& 31) = Int32.ofInt z := by
  apply Int32.toBitVec_inj.mp
  show (Int32.ofInt z).toBitVec.sshiftRight 0 = _
  exact BitVec.sshiftRight_zero
section JROWS
variable {x : Cx} {cc : ByteArray} {own : String} {nL : Nat} {rm : Room} {ws : aW} {pc : Nat} {L : List (Nat × aV)} {st : List aV} {k n : Nat}
theorem v_ldcS {q : String × Nat × String × Nat} (hq : q ∈ litK) (ho : own = q.1) (hd : decode cc pc = .ok (.ldc q.2.1, 2)) (kk : V x cc own nL rm ws (pc + 2) L (ar (lK (xg x) q.2.2.2) :: st) k n) : V x cc own nL rm ws pc L st k n := fun ok H locs ls hh => by
  subst ho
  exact va_ldcS ok.1 ok.2.1 ok.2.2.2.1 (ok.2.2.2.2.2.2.1.2.2.1 q hq) hd (kk ok H locs ls hh)
theorem v_gcs {i : Nat} (hw : Cond.fieldLink own i "java/lang/String" "COMPACT_STRINGS" "Z" ∈ BW) (hd : decode cc pc = .ok (.getstatic i, 3)) (kk : V x cc own nL rm ws (pc + 3) L (ai 1 :: st) k n) : V x cc own nL rm ws pc L st k n := fun ok H locs ls hh =>
  va_gets ok.1 ok.2.1 (v := cV (ai 1)) ok.2.2.2.2.2.2.1.2.2.2.1 hh.2.2.1 ok.2.2.2.1 (ok.2.2.2.2.1 _ hw) (fun _ h => h) hd (kk ok H locs ls hh)
theorem v_gsf {i : Nat} (hw : Cond.fieldLink own i "jdk/internal/util/Preconditions" "SIOOBE_FORMATTER" "Ljava/util/function/BiFunction;" ∈ BW) (hd : decode cc pc = .ok (.getstatic i, 3)) (kk : V x cc own nL rm ws (pc + 3) L (aq (xg x).2.2 :: st) k n) : V x cc own nL rm ws pc L st k n := fun ok H locs ls hh =>
  va_gets ok.1 ok.2.1 (v := cV (aq (xg x).2.2)) ok.2.2.2.2.2.2.1.2.2.2.2.1 hh.2.2.1 ok.2.2.2.1 (ok.2.2.2.2.1 _ hw) (fun _ h => h) hd (kk ok H locs ls hh)
theorem v_gst_value {i j : Nat} (hi : i < 13) (hw : Cond.fieldLink own j "java/lang/String" "value" "[B" ∈ BW) (hd : decode cc pc = .ok (.getfield j, 3)) (kk : V x cc own nL rm ws (pc + 3) L (ar (tK (xg x) i) :: st) k n) : V x cc own nL rm ws pc L (ar (lK (xg x) i) :: st) k n := fun ok H locs ls hh =>
  vk_getf ok.1 ok.2.1 (v := cV (ar (tK (xg x) i))) (ok.2.2.2.2.2.2.1.2.1.1 i hi).2.2.1 hh.2.2.1 ok.2.2.2.1 (ok.2.2.2.2.1 _ hw) (fun _ h => h) hd (kk ok H locs ls hh)
theorem v_gst_coder {i j : Nat} (hi : i < 13) (hw : Cond.fieldLink own j "java/lang/String" "coder" "B" ∈ BW) (hd : decode cc pc = .ok (.getfield j, 3)) (kk : V x cc own nL rm ws (pc + 3) L (ai 0 :: st) k n) : V x cc own nL rm ws pc L (ar (lK (xg x) i) :: st) k n := fun ok H locs ls hh =>
  vk_getf ok.1 ok.2.1 (v := cV (ai 0)) (ok.2.2.2.2.2.2.1.2.1.1 i hi).2.1 hh.2.2.1 ok.2.2.2.1 (ok.2.2.2.2.1 _ hw) (fun _ h => h) hd (kk ok H locs ls hh)
theorem v_tlen {i : Nat} (hi : i < 13) (hd : decode cc pc = .ok (.arraylength, 1)) (kk : V x cc own nL rm ws (pc + 1) L (ai (lenS i) :: st) k n) : V x cc own nL rm ws pc L (ar (tK (xg x) i) :: st) k n := fun ok H locs ls hh =>
  va_tlen ok.1 ok.2.1 (ok.2.2.2.2.2.2.1.2.1.1 i hi).2.2.2 hh.2.2.1 (v := Int32.ofInt (lenS i)) rfl hd (kk ok H locs ls hh)
theorem v_tb {i : Nat} {z : Int} (hi : i < 13) (hz : 0 ≤ z ∧ z < lenS i) (hd : decode cc pc = .ok (.baload, 1)) (kk : V x cc own nL rm ws (pc + 1) L (ai (chS i z) :: st) k n) : V x cc own nL rm ws pc L (ai z :: ar (tK (xg x) i) :: st) k n := fun ok H locs ls hh => by
  have hl := len_b hi
  refine va_tb ok.1 ok.2.1 (ok.2.2.2.2.2.2.1.2.1.1 i hi).2.2.2 hh.2.2.1 (v := cV (ai (chS i z))) (I_in (n := lenK.getD i 0) hz.1 hz.2 (by unfold lenS at hl; omega)) ?_ hd (kk ok H locs ls hh)
  have e : (Int32.ofInt z).toNatClampNeg = z.toNat := by
    have := I_nat (i := z) hz.1 (by omega)
    omega
  rw [e]
  show Value.int _ = Value.int (Int32.ofInt (chS i z))
  unfold chS
  rw [Int32.ofInt_toInt]
theorem v_i2c {z : Int} (hz : 0 ≤ z ∧ z < 65536) (hd : decode cc pc = .ok (.i2c, 1)) (kk : V x cc own nL rm ws (pc + 1) L (ai z :: st) k n) : V x cc own nL rm ws pc L (ai z :: st) k n := fun ok H locs ls hh =>
  lv_i2c (v := Int32.ofInt z) ok.1 ok.2.1 hd (i2c_id hz) (kk ok H locs ls hh)
variable {S : Type} {y : MethodName} {bytes : ByteArray} {maxL : Nat} {ret : Option FieldType} {fr lo mc ms : Nat} {wc wr : aW} {ro : Nat × aC → Prop} {good : S → Prop} {R : S → Option aV} {W2 : S → aW}
/-- a method that is called on a String constant -/
theorem v_callT (isC isR : List Nat) (wr : aW) {i j : Nat} {As rest : List aV} (hM : Ct (xg x) y bytes maxL ret fr lo mc ms (ar (lK (xg x) j) :: As) wc ro good R W2) (hj : j < 13)
    (hlink : Cond.methodLink own i y ∈ BW) (hinst : Cond.instanceMethod y ∈ BW) (hsel : Cond.selects "java/lang/String" y y ∈ BW) (hcode : Cond.code y bytes maxL ret ∈ BW) (hini : Cond.initialized y.cls ∈ BW)
    (hd : y.cls ≠ "java/lang/invoke/MethodHandle" ∧ y.cls ≠ "java/lang/invoke/VarHandle" ∧ (parseMethodDescriptor y.desc).map (fun d => d.parameters.length) = some As.length)
    (hst : st = As.reverse ++ ar (lK (xg x) j) :: rest) (hrest : (rest.map aCat).sum ≤ 8) (hroom : fr + 1 ≤ rm.frames ∧ 8 + (maxL + 11) + lo ≤ rm.locals ∧ k + mc ≤ rm.cells ∧ n + ms ≤ rm.slots)
    (hC : isC.map (fun i => ws[i]?) = wc.map some) (hR : isR.map (fun i => ws[i]?) = wr.map some) (hnC : va_nd isC = true) (hnR : va_nd isR = true) (hdis : ∀ i ∈ isR, i ∉ isC) (hro : ∀ q, ro q → RoIn x ws isC q)
    (hdec : decode cc pc = .ok (.invokevirtual i, 3))
    (kk : ∀ u : S, good u → V x cc own nL rm (wr ++ W2 u) (pc + 3) L ((R u).toList ++ rest) (k + mc) (n + ms)) : V x cc own nL rm ws pc L st k n := fun ok H locs ls hh => by
  subst hst
  have hts := ok.2.2.2.2.1
  refine v_after (a := ((ar (lK (xg x) j) :: As).map cV).toArray) isC isR ?_ hh ok hC hR hnR hdis kk
  rw [v_stk]
  exact va_runV (As := As.map cV) (rest := rest.map cV) (n := As.length) (C := "java/lang/String") ⟨ok.1, ok.2.1, ok.2.2.1, ok.2.2.2.1, hts⟩ (hM (xl x) (xD x) (xC x) H.size)
    ⟨callB_of As.length hts (wU_good (fun _ h => h) hcode) rfl rfl rfl (hts _ hini) (hts _ hlink) hd ⟨hroom.1, hroom.2.1⟩, hts _ hinst, hts _ hsel⟩
    ⟨aPre_blind, vk_recv ok.2.2.2.2.2.2.1.2.1 hj hh.2.2.1, fun U hU hW => v_ahead (args := ar (lK (xg x) j) :: As) isC hh ok hC hnC hro U hU hW⟩ rfl (by simp) hh.2.2.2.1 rfl (lv_room (by rw [v_sum]; exact hrest)) hdec ⟨hroom.2.2.1, hroom.2.2.2⟩
end JROWS

set_option maxHeartbeats 4000000 in
set_option maxRecDepth 100000 in
theorem c_J3_checkIndex_8e157 {gS : sG} (a : Int) (n : Int) (o : Option Nat) (ha : 0 ≤ a ∧ a < n) (hn : n < 2147483648) : Ct gS (S := Unit) yJ3_checkIndex_8e157 cJ3_checkIndex_8e157 3 (some .int) 0 0 0 0 [ai a, ai n, aq o] [] (fun q => q ∈ ([] : aW)) (fun _ => True) (fun _ => some (ai a)) (fun _ => []) := by
  refine ct_I RJ3 [(0, ai a), (1, ai n), (2, aq o)] (by decide+kernel) rfl (by cases o <;> exact Nat.le_of_ble_eq_true rfl) rfl (fun x hgS hro hret => ?_)
  subst hgS
  show V x cJ3_checkIndex_8e157 RJ3 3 (rmU 0 0 0 0) [] 0 [(0, ai a), (1, ai n), (2, aq o)] [] 0 0
  refine v_iload_n (pc := 0) 0 rfl dJ3_checkIndex_8e157_0 ?_
  refine v_if_lt (pc := 1) 9 dJ3_checkIndex_8e157_1 (by decide) (by unfold iB; omega) (fun c_1 => ?_) (fun c_1 => ?_)
  · skip
    exfalso; omega
  · skip
    refine v_iload_n (pc := 4) 0 rfl dJ3_checkIndex_8e157_4 ?_
    refine v_iload_n (pc := 5) 1 rfl dJ3_checkIndex_8e157_5 ?_
    refine v_icmp_lt (pc := 6) 16 dJ3_checkIndex_8e157_6 (by decide) (by unfold iB; omega) (by unfold iB; omega) (fun c_2 => ?_) (fun c_2 => ?_)
    · skip
      refine v_iload_n (pc := 16) 0 rfl dJ3_checkIndex_8e157_16 ?_
      exact hret () _ _ _ _ _ _ trivial (congrArg (fun z => some (ai z)) (by rfl)) rfl (Nat.le_of_ble_eq_true rfl) (Nat.le_of_ble_eq_true rfl) dJ3_checkIndex_8e157_17
    · skip
      exfalso; omega
set_option maxHeartbeats 4000000 in
set_option maxRecDepth 100000 in
theorem c_J0_checkIndex_df160 {gS : sG} (a : Int) (n : Int) (ha : 0 ≤ a ∧ a < n) (hn : n < 2147483648) : Ct gS (S := Unit) yJ0_checkIndex_df160 cJ0_checkIndex_df160 2 none 1 22 0 0 [ai a, ai n] [] (fun q => q ∈ ([] : aW)) (fun _ => True) (fun _ => none) (fun _ => []) := by
  refine ct_V RJ0 [(0, ai a), (1, ai n)] (by decide+kernel) rfl (Nat.le_of_ble_eq_true rfl) rfl (fun x hgS hnm hro hret => ?_)
  subst hgS
  show V x cJ0_checkIndex_df160 RJ0 2 (rmU 1 22 0 0) [] 0 [(0, ai a), (1, ai n)] [] 0 0
  refine v_iload_n (pc := 0) 0 rfl dJ0_checkIndex_df160_0 ?_
  refine v_iload_n (pc := 1) 1 rfl dJ0_checkIndex_df160_1 ?_
  refine v_gsf (pc := 2) wf_J0_1053 dJ0_checkIndex_df160_2 ?_
  refine v_callS (pc := 5) [] [] [] (As := [ai a, ai n, aq ((xg x).2.2)]) (rest := []) (c_J3_checkIndex_8e157 a n ((xg x).2.2) (by first | omega | assumption) (by first | omega | assumption)) wl_J0_1059 ws_J3_checkIndex_8e157 wk_J3_checkIndex_8e157 wz_J3 md_J3_checkIndex_8e157 rfl (Nat.le_of_ble_eq_true rfl) ⟨Nat.le_of_ble_eq_true rfl, Nat.le_of_ble_eq_true rfl, Nat.le_of_ble_eq_true rfl, Nat.le_of_ble_eq_true rfl⟩ rfl rfl rfl rfl (by decide) ro_nil dJ0_checkIndex_df160_5 (fun u hu => ?_)
  show V x cJ0_checkIndex_df160 RJ0 2 (rmU 1 22 0 0) [] 8 [(0, ai a), (1, ai n)] [ai a] 0 0
  refine v_pop (pc := 8) rfl dJ0_checkIndex_df160_8 ?_
  exact hret () _ _ _ _ _ trivial rfl rfl (Nat.le_of_ble_eq_true rfl) (Nat.le_of_ble_eq_true rfl) dJ0_checkIndex_df160_9
set_option maxHeartbeats 4000000 in
set_option maxRecDepth 100000 in
theorem c_J0_isLatin1_aae02 {gS : sG} (i : Nat) (hi : i < 13) : Ct gS (S := Unit) yJ0_isLatin1_aae02 cJ0_isLatin1_aae02 1 (some .boolean) 0 0 0 0 [ar (lK gS i)] [] (fun q => q ∈ ([] : aW)) (fun _ => True) (fun _ => some (ai 1)) (fun _ => []) := by
  refine ct_Z RJ0 [(0, ar (lK gS i))] (by decide+kernel) rfl (Nat.le_of_ble_eq_true rfl) rfl (fun x hgS hro hret => ?_)
  subst hgS
  show V x cJ0_isLatin1_aae02 RJ0 1 (rmU 0 0 0 0) [] 0 [(0, ar (lK (xg x) i))] [] 0 0
  refine v_gcs (pc := 0) wf_J0_38 dJ0_isLatin1_aae02_0 ?_
  refine v_if_eq (pc := 3) 17 dJ0_isLatin1_aae02_3 (by decide) (by unfold iB; omega) (fun c_1 => by exfalso; omega) (fun c_1 => ?_)
  refine v_aload_n (pc := 6) 0 rfl dJ0_isLatin1_aae02_6 ?_
  refine v_gst_coder (pc := 7) (by omega) wf_J0_15 dJ0_isLatin1_aae02_7 ?_
  refine v_if_ne (pc := 10) 17 dJ0_isLatin1_aae02_10 (by decide) (by unfold iB; omega) (fun c_2 => by exfalso; omega) (fun c_2 => ?_)
  refine v_iconst (pc := 13) dJ0_isLatin1_aae02_13 ?_
  refine v_goto (pc := 14) 18 dJ0_isLatin1_aae02_14 (by decide) ?_
  exact hret () _ _ _ _ _ _ trivial (congrArg (fun z => some (ai z)) (by rfl)) (Or.inr rfl) rfl (Nat.le_of_ble_eq_true rfl) (Nat.le_of_ble_eq_true rfl) dJ0_isLatin1_aae02_18
set_option maxHeartbeats 4000000 in
set_option maxRecDepth 100000 in
theorem c_J0_coder_7d493 {gS : sG} (i : Nat) (hi : i < 13) : Ct gS (S := Unit) yJ0_coder_7d493 cJ0_coder_7d493 1 (some .byte) 0 0 0 0 [ar (lK gS i)] [] (fun q => q ∈ ([] : aW)) (fun _ => True) (fun _ => some (ai 0)) (fun _ => []) := by
  refine ct_N .byte RJ0 [(0, ar (lK gS i))] (by decide+kernel) rfl (Nat.le_of_ble_eq_true rfl) rfl (fun x hgS hro hret => ?_)
  subst hgS
  show V x cJ0_coder_7d493 RJ0 1 (rmU 0 0 0 0) [] 0 [(0, ar (lK (xg x) i))] [] 0 0
  refine v_gcs (pc := 0) wf_J0_38 dJ0_coder_7d493_0 ?_
  refine v_if_eq (pc := 3) 13 dJ0_coder_7d493_3 (by decide) (by unfold iB; omega) (fun c_1 => by exfalso; omega) (fun c_1 => ?_)
  refine v_aload_n (pc := 6) 0 rfl dJ0_coder_7d493_6 ?_
  refine v_gst_coder (pc := 7) (by omega) wf_J0_15 dJ0_coder_7d493_7 ?_
  refine v_goto (pc := 10) 14 dJ0_coder_7d493_10 (by decide) ?_
  exact hret () _ _ _ _ _ _ trivial (congrArg (fun z => some (ai z)) (by rfl)) rfl rfl (Nat.le_of_ble_eq_true rfl) (Nat.le_of_ble_eq_true rfl) dJ0_coder_7d493_14
set_option maxHeartbeats 4000000 in
set_option maxRecDepth 100000 in
theorem c_J0_length_8abf5 {gS : sG} (i : Nat) (hi : i < 13) : Ct gS (S := Unit) yJ0_length_8abf5 cJ0_length_8abf5 1 (some .int) 1 20 0 0 [ar (lK gS i)] [] (fun q => q ∈ ([] : aW)) (fun _ => True) (fun _ => some (ai (lenS i))) (fun _ => []) := by
  refine ct_I RJ0 [(0, ar (lK gS i))] (by decide+kernel) rfl (Nat.le_of_ble_eq_true rfl) rfl (fun x hgS hro hret => ?_)
  subst hgS
  have hlb := len_b hi
  show V x cJ0_length_8abf5 RJ0 1 (rmU 1 20 0 0) [] 0 [(0, ar (lK (xg x) i))] [] 0 0
  refine v_aload_n (pc := 0) 0 rfl dJ0_length_8abf5_0 ?_
  refine v_gst_value (pc := 1) (by omega) wf_J0_9 dJ0_length_8abf5_1 ?_
  refine v_tlen (pc := 4) (by omega) dJ0_length_8abf5_4 ?_
  refine v_aload_n (pc := 5) 0 rfl dJ0_length_8abf5_5 ?_
  refine v_callT (pc := 6) [] [] [] (As := []) (rest := [ai (lenS i)]) (c_J0_coder_7d493 i (by first | omega | assumption)) (by first | omega | assumption) wl_J0_335 wi_J0_coder_7d493 wv_J0_coder_7d493 wk_J0_coder_7d493 wz_J0 md_J0_coder_7d493 rfl (Nat.le_of_ble_eq_true rfl) ⟨Nat.le_of_ble_eq_true rfl, Nat.le_of_ble_eq_true rfl, Nat.le_of_ble_eq_true rfl, Nat.le_of_ble_eq_true rfl⟩ rfl rfl rfl rfl (by decide) ro_nil dJ0_length_8abf5_6 (fun u hu => ?_)
  show V x cJ0_length_8abf5 RJ0 1 (rmU 1 20 0 0) [] 9 [(0, ar (lK (xg x) i))] [ai 0, ai (lenS i)] 0 0
  refine v_ishr (pc := 9) (c := (lenS i)) (shr_0 (by omega)) dJ0_length_8abf5_9 ?_
  exact hret () _ _ _ _ _ _ trivial (congrArg (fun z => some (ai z)) (by rfl)) rfl (Nat.le_of_ble_eq_true rfl) (Nat.le_of_ble_eq_true rfl) dJ0_length_8abf5_10
set_option maxHeartbeats 4000000 in
set_option maxRecDepth 100000 in
theorem c_J1_charAt_3b067 {gS : sG} (i : Nat) (k : Int) (hi : i < 13) (hk : 0 ≤ k ∧ k < lenS i) : Ct gS (S := Unit) yJ1_charAt_3b067 cJ1_charAt_3b067 2 (some .char) 2 43 0 0 [ar (tK gS i), ai k] [] (fun q => q ∈ ([] : aW)) (fun _ => True) (fun _ => some (ai (chS i k))) (fun _ => []) := by
  refine ct_N .char RJ1 [(0, ar (tK gS i)), (1, ai k)] (by decide+kernel) rfl (Nat.le_of_ble_eq_true rfl) rfl (fun x hgS hro hret => ?_)
  subst hgS
  have hlb := len_b hi
  have hcb := ch_b hi hk
  show V x cJ1_charAt_3b067 RJ1 2 (rmU 2 43 0 0) [] 0 [(0, ar (tK (xg x) i)), (1, ai k)] [] 0 0
  refine v_iload_n (pc := 0) 1 rfl dJ1_charAt_3b067_0 ?_
  refine v_aload_n (pc := 1) 0 rfl dJ1_charAt_3b067_1 ?_
  refine v_tlen (pc := 2) (by omega) dJ1_charAt_3b067_2 ?_
  refine v_callS (pc := 3) [] [] [] (As := [ai k, ai (lenS i)]) (rest := []) (c_J0_checkIndex_df160 k (lenS i) (by first | omega | assumption) (by first | omega | assumption)) wl_J1_9 ws_J0_checkIndex_df160 wk_J0_checkIndex_df160 wz_J0 md_J0_checkIndex_df160 rfl (Nat.le_of_ble_eq_true rfl) ⟨Nat.le_of_ble_eq_true rfl, Nat.le_of_ble_eq_true rfl, Nat.le_of_ble_eq_true rfl, Nat.le_of_ble_eq_true rfl⟩ rfl rfl rfl rfl (by decide) ro_nil dJ1_charAt_3b067_3 (fun u hu => ?_)
  show V x cJ1_charAt_3b067 RJ1 2 (rmU 2 43 0 0) [] 6 [(0, ar (tK (xg x) i)), (1, ai k)] [] 0 0
  refine v_aload_n (pc := 6) 0 rfl dJ1_charAt_3b067_6 ?_
  refine v_iload_n (pc := 7) 1 rfl dJ1_charAt_3b067_7 ?_
  refine v_tb (pc := 8) (by omega) (by omega) dJ1_charAt_3b067_8 ?_
  refine v_sipush (pc := 9) dJ1_charAt_3b067_9 (by decide) ?_
  refine v_iand (pc := 12) (c := (chS i k)) (and_255 (by omega)) dJ1_charAt_3b067_12 ?_
  refine v_i2c (pc := 13) (by omega) dJ1_charAt_3b067_13 ?_
  exact hret () _ _ _ _ _ _ trivial (congrArg (fun z => some (ai z)) (by rfl)) (nar_c (by omega)) rfl (Nat.le_of_ble_eq_true rfl) (Nat.le_of_ble_eq_true rfl) dJ1_charAt_3b067_14
set_option maxHeartbeats 4000000 in
set_option maxRecDepth 100000 in
theorem c_J0_charAt_5068e {gS : sG} (i : Nat) (k : Int) (hi : i < 13) (hk : 0 ≤ k ∧ k < lenS i) : Ct gS (S := Unit) yJ0_charAt_5068e cJ0_charAt_5068e 2 (some .char) 3 64 0 0 [ar (lK gS i), ai k] [] (fun q => q ∈ ([] : aW)) (fun _ => True) (fun _ => some (ai (chS i k))) (fun _ => []) := by
  refine ct_N .char RJ0 [(0, ar (lK gS i)), (1, ai k)] (by decide+kernel) rfl (Nat.le_of_ble_eq_true rfl) rfl (fun x hgS hro hret => ?_)
  subst hgS
  have hlb := len_b hi
  have hcb := ch_b hi hk
  show V x cJ0_charAt_5068e RJ0 2 (rmU 3 64 0 0) [] 0 [(0, ar (lK (xg x) i)), (1, ai k)] [] 0 0
  refine v_aload_n (pc := 0) 0 rfl dJ0_charAt_5068e_0 ?_
  refine v_callT (pc := 1) [] [] [] (As := []) (rest := []) (c_J0_isLatin1_aae02 i (by first | omega | assumption)) (by first | omega | assumption) wl_J0_492 wi_J0_isLatin1_aae02 wv_J0_isLatin1_aae02 wk_J0_isLatin1_aae02 wz_J0 md_J0_isLatin1_aae02 rfl (Nat.le_of_ble_eq_true rfl) ⟨Nat.le_of_ble_eq_true rfl, Nat.le_of_ble_eq_true rfl, Nat.le_of_ble_eq_true rfl, Nat.le_of_ble_eq_true rfl⟩ rfl rfl rfl rfl (by decide) ro_nil dJ0_charAt_5068e_1 (fun u hu => ?_)
  show V x cJ0_charAt_5068e RJ0 2 (rmU 3 64 0 0) [] 4 [(0, ar (lK (xg x) i)), (1, ai k)] [ai 1] 0 0
  refine v_if_eq (pc := 4) 16 dJ0_charAt_5068e_4 (by decide) (by unfold iB; omega) (fun c_1 => by exfalso; omega) (fun c_1 => ?_)
  refine v_aload_n (pc := 7) 0 rfl dJ0_charAt_5068e_7 ?_
  refine v_gst_value (pc := 8) (by omega) wf_J0_9 dJ0_charAt_5068e_8 ?_
  refine v_iload_n (pc := 11) 1 rfl dJ0_charAt_5068e_11 ?_
  refine v_callS (pc := 12) [] [] [] (As := [ar (tK (xg x) i), ai k]) (rest := []) (c_J1_charAt_3b067 i k (by first | omega | assumption) (by first | omega | assumption)) wl_J0_495 ws_J1_charAt_3b067 wk_J1_charAt_3b067 wz_J1 md_J1_charAt_3b067 rfl (Nat.le_of_ble_eq_true rfl) ⟨Nat.le_of_ble_eq_true rfl, Nat.le_of_ble_eq_true rfl, Nat.le_of_ble_eq_true rfl, Nat.le_of_ble_eq_true rfl⟩ rfl rfl rfl rfl (by decide) ro_nil dJ0_charAt_5068e_12 (fun u hu => ?_)
  show V x cJ0_charAt_5068e RJ0 2 (rmU 3 64 0 0) [] 15 [(0, ar (lK (xg x) i)), (1, ai k)] [ai (chS i k)] 0 0
  exact hret () _ _ _ _ _ _ trivial (congrArg (fun z => some (ai z)) (by rfl)) (nar_c (by omega)) rfl (Nat.le_of_ble_eq_true rfl) (Nat.le_of_ble_eq_true rfl) dJ0_charAt_5068e_15
