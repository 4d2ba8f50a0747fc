/-! THE STRINGS' OWN METHODS, as the JDK has them: names, words of the tables, instructions -/
def yjLen : MethodName := ⟨"java/lang/String", "length", "()I"⟩
def yjCha : MethodName := ⟨"java/lang/String", "charAt", "(I)C"⟩
def yjIx1 : MethodName := ⟨"java/lang/String", "indexOf", "(I)I"⟩
def yjIx2 : MethodName := ⟨"java/lang/String", "indexOf", "(II)I"⟩
def yjCod : MethodName := ⟨"java/lang/String", "coder", "()B"⟩
def yjLat : MethodName := ⟨"java/lang/String", "isLatin1", "()Z"⟩
def yjChk : MethodName := ⟨"java/lang/String", "checkIndex", "(II)V"⟩
def yjLch : MethodName := ⟨"java/lang/StringLatin1", "charAt", "([BI)C"⟩
def yjEnc : MethodName := ⟨"java/lang/StringLatin1", "canEncode", "(I)Z"⟩
def yjLix : MethodName := ⟨"java/lang/StringLatin1", "indexOf", "([BIII)I"⟩
def yjLic : MethodName := ⟨"java/lang/StringLatin1", "indexOfChar", "([BIII)I"⟩
def yjPre : MethodName := ⟨"jdk/internal/util/Preconditions", "checkIndex", "(IILjava/util/function/BiFunction;)I"⟩
abbrev cJ0_length_8abf5 : ByteArray := prog_18_method_54_code
abbrev cJ0_charAt_5068e : ByteArray := prog_18_method_56_code
abbrev cJ0_indexOf_0f7a4 : ByteArray := prog_18_method_79_code
abbrev cJ0_indexOf_7cf53 : ByteArray := prog_18_method_80_code
abbrev cJ0_coder_7d493 : ByteArray := prog_18_method_152_code
abbrev cJ0_isLatin1_aae02 : ByteArray := prog_18_method_154_code
abbrev cJ0_checkIndex_df160 : ByteArray := prog_18_method_155_code
abbrev cJ1_charAt_3b067 : ByteArray := prog_19_method_2_code
abbrev cJ1_canEncode_9a6ad : ByteArray := prog_19_method_4_code
abbrev cJ1_indexOf_4cfef : ByteArray := prog_19_method_22_code
abbrev cJ1_indexOfChar_4cfef : ByteArray := prog_19_method_23_code
abbrev cJ3_checkIndex_8e157 : ByteArray := prog_23_method_11_code
theorem dJ0_length_8abf5_0 : decode cJ0_length_8abf5 0 = .ok (.aload_n 0, 1) := by decide +kernel
theorem dJ0_length_8abf5_1 : decode cJ0_length_8abf5 1 = .ok (.getfield 9, 3) := by decide +kernel
theorem dJ0_length_8abf5_4 : decode cJ0_length_8abf5 4 = .ok (.arraylength, 1) := by decide +kernel
theorem dJ0_length_8abf5_5 : decode cJ0_length_8abf5 5 = .ok (.aload_n 0, 1) := by decide +kernel
theorem dJ0_length_8abf5_6 : decode cJ0_length_8abf5 6 = .ok (.invokevirtual 335, 3) := by decide +kernel
theorem dJ0_length_8abf5_9 : decode cJ0_length_8abf5 9 = .ok (.ishr, 1) := by decide +kernel
theorem dJ0_length_8abf5_10 : decode cJ0_length_8abf5 10 = .ok (.ireturn, 1) := by decide +kernel
theorem dJ0_charAt_5068e_0 : decode cJ0_charAt_5068e 0 = .ok (.aload_n 0, 1) := by decide +kernel
theorem dJ0_charAt_5068e_1 : decode cJ0_charAt_5068e 1 = .ok (.invokevirtual 492, 3) := by decide +kernel
theorem dJ0_charAt_5068e_4 : decode cJ0_charAt_5068e 4 = .ok (.ifCond .eq 12, 3) := by decide +kernel
theorem dJ0_charAt_5068e_7 : decode cJ0_charAt_5068e 7 = .ok (.aload_n 0, 1) := by decide +kernel
theorem dJ0_charAt_5068e_8 : decode cJ0_charAt_5068e 8 = .ok (.getfield 9, 3) := by decide +kernel
theorem dJ0_charAt_5068e_11 : decode cJ0_charAt_5068e 11 = .ok (.iload_n 1, 1) := by decide +kernel
theorem dJ0_charAt_5068e_12 : decode cJ0_charAt_5068e 12 = .ok (.invokestatic 495, 3) := by decide +kernel
theorem dJ0_charAt_5068e_15 : decode cJ0_charAt_5068e 15 = .ok (.ireturn, 1) := by decide +kernel
theorem dJ0_charAt_5068e_16 : decode cJ0_charAt_5068e 16 = .ok (.aload_n 0, 1) := by decide +kernel
theorem dJ0_charAt_5068e_17 : decode cJ0_charAt_5068e 17 = .ok (.getfield 9, 3) := by decide +kernel
theorem dJ0_charAt_5068e_20 : decode cJ0_charAt_5068e 20 = .ok (.iload_n 1, 1) := by decide +kernel
theorem dJ0_charAt_5068e_21 : decode cJ0_charAt_5068e 21 = .ok (.invokestatic 498, 3) := by decide +kernel
theorem dJ0_charAt_5068e_24 : decode cJ0_charAt_5068e 24 = .ok (.ireturn, 1) := by decide +kernel
theorem dJ0_indexOf_0f7a4_0 : decode cJ0_indexOf_0f7a4 0 = .ok (.aload_n 0, 1) := by decide +kernel
theorem dJ0_indexOf_0f7a4_1 : decode cJ0_indexOf_0f7a4 1 = .ok (.iload_n 1, 1) := by decide +kernel
theorem dJ0_indexOf_0f7a4_2 : decode cJ0_indexOf_0f7a4 2 = .ok (.iconst 0, 1) := by decide +kernel
theorem dJ0_indexOf_0f7a4_3 : decode cJ0_indexOf_0f7a4 3 = .ok (.invokevirtual 633, 3) := by decide +kernel
theorem dJ0_indexOf_0f7a4_6 : decode cJ0_indexOf_0f7a4 6 = .ok (.ireturn, 1) := by decide +kernel
theorem dJ0_indexOf_7cf53_0 : decode cJ0_indexOf_7cf53 0 = .ok (.aload_n 0, 1) := by decide +kernel
theorem dJ0_indexOf_7cf53_1 : decode cJ0_indexOf_7cf53 1 = .ok (.invokevirtual 492, 3) := by decide +kernel
theorem dJ0_indexOf_7cf53_4 : decode cJ0_indexOf_7cf53 4 = .ok (.ifCond .eq 19, 3) := by decide +kernel
theorem dJ0_indexOf_7cf53_7 : decode cJ0_indexOf_7cf53 7 = .ok (.aload_n 0, 1) := by decide +kernel
theorem dJ0_indexOf_7cf53_8 : decode cJ0_indexOf_7cf53 8 = .ok (.getfield 9, 3) := by decide +kernel
theorem dJ0_indexOf_7cf53_11 : decode cJ0_indexOf_7cf53 11 = .ok (.iload_n 1, 1) := by decide +kernel
theorem dJ0_indexOf_7cf53_12 : decode cJ0_indexOf_7cf53 12 = .ok (.iload_n 2, 1) := by decide +kernel
theorem dJ0_indexOf_7cf53_13 : decode cJ0_indexOf_7cf53 13 = .ok (.aload_n 0, 1) := by decide +kernel
theorem dJ0_indexOf_7cf53_14 : decode cJ0_indexOf_7cf53 14 = .ok (.invokevirtual 505, 3) := by decide +kernel
theorem dJ0_indexOf_7cf53_17 : decode cJ0_indexOf_7cf53 17 = .ok (.invokestatic 637, 3) := by decide +kernel
theorem dJ0_indexOf_7cf53_20 : decode cJ0_indexOf_7cf53 20 = .ok (.goto 16, 3) := by decide +kernel
theorem dJ0_indexOf_7cf53_23 : decode cJ0_indexOf_7cf53 23 = .ok (.aload_n 0, 1) := by decide +kernel
theorem dJ0_indexOf_7cf53_24 : decode cJ0_indexOf_7cf53 24 = .ok (.getfield 9, 3) := by decide +kernel
theorem dJ0_indexOf_7cf53_27 : decode cJ0_indexOf_7cf53 27 = .ok (.iload_n 1, 1) := by decide +kernel
theorem dJ0_indexOf_7cf53_28 : decode cJ0_indexOf_7cf53 28 = .ok (.iload_n 2, 1) := by decide +kernel
theorem dJ0_indexOf_7cf53_29 : decode cJ0_indexOf_7cf53 29 = .ok (.aload_n 0, 1) := by decide +kernel
theorem dJ0_indexOf_7cf53_30 : decode cJ0_indexOf_7cf53 30 = .ok (.invokevirtual 505, 3) := by decide +kernel
theorem dJ0_indexOf_7cf53_33 : decode cJ0_indexOf_7cf53 33 = .ok (.invokestatic 640, 3) := by decide +kernel
theorem dJ0_indexOf_7cf53_36 : decode cJ0_indexOf_7cf53 36 = .ok (.ireturn, 1) := by decide +kernel
theorem dJ0_coder_7d493_0 : decode cJ0_coder_7d493 0 = .ok (.getstatic 38, 3) := by decide +kernel
theorem dJ0_coder_7d493_3 : decode cJ0_coder_7d493 3 = .ok (.ifCond .eq 10, 3) := by decide +kernel
theorem dJ0_coder_7d493_6 : decode cJ0_coder_7d493 6 = .ok (.aload_n 0, 1) := by decide +kernel
theorem dJ0_coder_7d493_7 : decode cJ0_coder_7d493 7 = .ok (.getfield 15, 3) := by decide +kernel
theorem dJ0_coder_7d493_10 : decode cJ0_coder_7d493 10 = .ok (.goto 4, 3) := by decide +kernel
theorem dJ0_coder_7d493_13 : decode cJ0_coder_7d493 13 = .ok (.iconst 1, 1) := by decide +kernel
theorem dJ0_coder_7d493_14 : decode cJ0_coder_7d493 14 = .ok (.ireturn, 1) := by decide +kernel
theorem dJ0_isLatin1_aae02_0 : decode cJ0_isLatin1_aae02 0 = .ok (.getstatic 38, 3) := by decide +kernel
theorem dJ0_isLatin1_aae02_3 : decode cJ0_isLatin1_aae02 3 = .ok (.ifCond .eq 14, 3) := by decide +kernel
theorem dJ0_isLatin1_aae02_6 : decode cJ0_isLatin1_aae02 6 = .ok (.aload_n 0, 1) := by decide +kernel
theorem dJ0_isLatin1_aae02_7 : decode cJ0_isLatin1_aae02 7 = .ok (.getfield 15, 3) := by decide +kernel
theorem dJ0_isLatin1_aae02_10 : decode cJ0_isLatin1_aae02 10 = .ok (.ifCond .ne 7, 3) := by decide +kernel
theorem dJ0_isLatin1_aae02_13 : decode cJ0_isLatin1_aae02 13 = .ok (.iconst 1, 1) := by decide +kernel
theorem dJ0_isLatin1_aae02_14 : decode cJ0_isLatin1_aae02 14 = .ok (.goto 4, 3) := by decide +kernel
theorem dJ0_isLatin1_aae02_17 : decode cJ0_isLatin1_aae02 17 = .ok (.iconst 0, 1) := by decide +kernel
theorem dJ0_isLatin1_aae02_18 : decode cJ0_isLatin1_aae02 18 = .ok (.ireturn, 1) := by decide +kernel
theorem dJ0_checkIndex_df160_0 : decode cJ0_checkIndex_df160 0 = .ok (.iload_n 0, 1) := by decide +kernel
theorem dJ0_checkIndex_df160_1 : decode cJ0_checkIndex_df160 1 = .ok (.iload_n 1, 1) := by decide +kernel
theorem dJ0_checkIndex_df160_2 : decode cJ0_checkIndex_df160 2 = .ok (.getstatic 1053, 3) := by decide +kernel
theorem dJ0_checkIndex_df160_5 : decode cJ0_checkIndex_df160 5 = .ok (.invokestatic 1059, 3) := by decide +kernel
theorem dJ0_checkIndex_df160_8 : decode cJ0_checkIndex_df160 8 = .ok (.pop, 1) := by decide +kernel
theorem dJ0_checkIndex_df160_9 : decode cJ0_checkIndex_df160 9 = .ok (.return_, 1) := by decide +kernel
theorem dJ1_charAt_3b067_0 : decode cJ1_charAt_3b067 0 = .ok (.iload_n 1, 1) := by decide +kernel
theorem dJ1_charAt_3b067_1 : decode cJ1_charAt_3b067 1 = .ok (.aload_n 0, 1) := by decide +kernel
theorem dJ1_charAt_3b067_2 : decode cJ1_charAt_3b067 2 = .ok (.arraylength, 1) := by decide +kernel
theorem dJ1_charAt_3b067_3 : decode cJ1_charAt_3b067 3 = .ok (.invokestatic 9, 3) := by decide +kernel
theorem dJ1_charAt_3b067_6 : decode cJ1_charAt_3b067 6 = .ok (.aload_n 0, 1) := by decide +kernel
theorem dJ1_charAt_3b067_7 : decode cJ1_charAt_3b067 7 = .ok (.iload_n 1, 1) := by decide +kernel
theorem dJ1_charAt_3b067_8 : decode cJ1_charAt_3b067 8 = .ok (.baload, 1) := by decide +kernel
theorem dJ1_charAt_3b067_9 : decode cJ1_charAt_3b067 9 = .ok (.sipush 255, 3) := by decide +kernel
theorem dJ1_charAt_3b067_12 : decode cJ1_charAt_3b067 12 = .ok (.iand, 1) := by decide +kernel
theorem dJ1_charAt_3b067_13 : decode cJ1_charAt_3b067 13 = .ok (.i2c, 1) := by decide +kernel
theorem dJ1_charAt_3b067_14 : decode cJ1_charAt_3b067 14 = .ok (.ireturn, 1) := by decide +kernel
theorem dJ1_canEncode_9a6ad_0 : decode cJ1_canEncode_9a6ad 0 = .ok (.iload_n 0, 1) := by decide +kernel
theorem dJ1_canEncode_9a6ad_1 : decode cJ1_canEncode_9a6ad 1 = .ok (.ifCond .lt 14, 3) := by decide +kernel
theorem dJ1_canEncode_9a6ad_4 : decode cJ1_canEncode_9a6ad 4 = .ok (.iload_n 0, 1) := by decide +kernel
theorem dJ1_canEncode_9a6ad_5 : decode cJ1_canEncode_9a6ad 5 = .ok (.sipush 255, 3) := by decide +kernel
theorem dJ1_canEncode_9a6ad_8 : decode cJ1_canEncode_9a6ad 8 = .ok (.if_icmp .gt 7, 3) := by decide +kernel
theorem dJ1_canEncode_9a6ad_11 : decode cJ1_canEncode_9a6ad 11 = .ok (.iconst 1, 1) := by decide +kernel
theorem dJ1_canEncode_9a6ad_12 : decode cJ1_canEncode_9a6ad 12 = .ok (.goto 4, 3) := by decide +kernel
theorem dJ1_canEncode_9a6ad_15 : decode cJ1_canEncode_9a6ad 15 = .ok (.iconst 0, 1) := by decide +kernel
theorem dJ1_canEncode_9a6ad_16 : decode cJ1_canEncode_9a6ad 16 = .ok (.ireturn, 1) := by decide +kernel
theorem dJ1_indexOf_4cfef_0 : decode cJ1_indexOf_4cfef 0 = .ok (.iload_n 1, 1) := by decide +kernel
theorem dJ1_indexOf_4cfef_1 : decode cJ1_indexOf_4cfef 1 = .ok (.invokestatic 88, 3) := by decide +kernel
theorem dJ1_indexOf_4cfef_4 : decode cJ1_indexOf_4cfef 4 = .ok (.ifCond .ne 5, 3) := by decide +kernel
theorem dJ1_indexOf_4cfef_7 : decode cJ1_indexOf_4cfef 7 = .ok (.iconst (-1), 1) := by decide +kernel
theorem dJ1_indexOf_4cfef_8 : decode cJ1_indexOf_4cfef 8 = .ok (.ireturn, 1) := by decide +kernel
theorem dJ1_indexOf_4cfef_9 : decode cJ1_indexOf_4cfef 9 = .ok (.iload_n 2, 1) := by decide +kernel
theorem dJ1_indexOf_4cfef_10 : decode cJ1_indexOf_4cfef 10 = .ok (.iconst 0, 1) := by decide +kernel
theorem dJ1_indexOf_4cfef_11 : decode cJ1_indexOf_4cfef 11 = .ok (.invokestatic 92, 3) := by decide +kernel
theorem dJ1_indexOf_4cfef_14 : decode cJ1_indexOf_4cfef 14 = .ok (.istore_n 2, 1) := by decide +kernel
theorem dJ1_indexOf_4cfef_15 : decode cJ1_indexOf_4cfef 15 = .ok (.iload_n 3, 1) := by decide +kernel
theorem dJ1_indexOf_4cfef_16 : decode cJ1_indexOf_4cfef 16 = .ok (.aload_n 0, 1) := by decide +kernel
theorem dJ1_indexOf_4cfef_17 : decode cJ1_indexOf_4cfef 17 = .ok (.arraylength, 1) := by decide +kernel
theorem dJ1_indexOf_4cfef_18 : decode cJ1_indexOf_4cfef 18 = .ok (.invokestatic 38, 3) := by decide +kernel
theorem dJ1_indexOf_4cfef_21 : decode cJ1_indexOf_4cfef 21 = .ok (.istore_n 3, 1) := by decide +kernel
theorem dJ1_indexOf_4cfef_22 : decode cJ1_indexOf_4cfef 22 = .ok (.iload_n 2, 1) := by decide +kernel
theorem dJ1_indexOf_4cfef_23 : decode cJ1_indexOf_4cfef 23 = .ok (.iload_n 3, 1) := by decide +kernel
theorem dJ1_indexOf_4cfef_24 : decode cJ1_indexOf_4cfef 24 = .ok (.if_icmp .lt 5, 3) := by decide +kernel
theorem dJ1_indexOf_4cfef_27 : decode cJ1_indexOf_4cfef 27 = .ok (.iconst (-1), 1) := by decide +kernel
theorem dJ1_indexOf_4cfef_28 : decode cJ1_indexOf_4cfef 28 = .ok (.ireturn, 1) := by decide +kernel
theorem dJ1_indexOf_4cfef_29 : decode cJ1_indexOf_4cfef 29 = .ok (.aload_n 0, 1) := by decide +kernel
theorem dJ1_indexOf_4cfef_30 : decode cJ1_indexOf_4cfef 30 = .ok (.iload_n 1, 1) := by decide +kernel
theorem dJ1_indexOf_4cfef_31 : decode cJ1_indexOf_4cfef 31 = .ok (.iload_n 2, 1) := by decide +kernel
theorem dJ1_indexOf_4cfef_32 : decode cJ1_indexOf_4cfef 32 = .ok (.iload_n 3, 1) := by decide +kernel
theorem dJ1_indexOf_4cfef_33 : decode cJ1_indexOf_4cfef 33 = .ok (.invokestatic 95, 3) := by decide +kernel
theorem dJ1_indexOf_4cfef_36 : decode cJ1_indexOf_4cfef 36 = .ok (.ireturn, 1) := by decide +kernel
theorem dJ1_indexOfChar_4cfef_0 : decode cJ1_indexOfChar_4cfef 0 = .ok (.iload_n 1, 1) := by decide +kernel
theorem dJ1_indexOfChar_4cfef_1 : decode cJ1_indexOfChar_4cfef 1 = .ok (.i2b, 1) := by decide +kernel
theorem dJ1_indexOfChar_4cfef_2 : decode cJ1_indexOfChar_4cfef 2 = .ok (.istore 4, 2) := by decide +kernel
theorem dJ1_indexOfChar_4cfef_4 : decode cJ1_indexOfChar_4cfef 4 = .ok (.iload_n 2, 1) := by decide +kernel
theorem dJ1_indexOfChar_4cfef_5 : decode cJ1_indexOfChar_4cfef 5 = .ok (.istore 5, 2) := by decide +kernel
theorem dJ1_indexOfChar_4cfef_7 : decode cJ1_indexOfChar_4cfef 7 = .ok (.iload 5, 2) := by decide +kernel
theorem dJ1_indexOfChar_4cfef_9 : decode cJ1_indexOfChar_4cfef 9 = .ok (.iload_n 3, 1) := by decide +kernel
theorem dJ1_indexOfChar_4cfef_10 : decode cJ1_indexOfChar_4cfef 10 = .ok (.if_icmp .ge 21, 3) := by decide +kernel
theorem dJ1_indexOfChar_4cfef_13 : decode cJ1_indexOfChar_4cfef 13 = .ok (.aload_n 0, 1) := by decide +kernel
theorem dJ1_indexOfChar_4cfef_14 : decode cJ1_indexOfChar_4cfef 14 = .ok (.iload 5, 2) := by decide +kernel
theorem dJ1_indexOfChar_4cfef_16 : decode cJ1_indexOfChar_4cfef 16 = .ok (.baload, 1) := by decide +kernel
theorem dJ1_indexOfChar_4cfef_17 : decode cJ1_indexOfChar_4cfef 17 = .ok (.iload 4, 2) := by decide +kernel
theorem dJ1_indexOfChar_4cfef_19 : decode cJ1_indexOfChar_4cfef 19 = .ok (.if_icmp .ne 6, 3) := by decide +kernel
theorem dJ1_indexOfChar_4cfef_22 : decode cJ1_indexOfChar_4cfef 22 = .ok (.iload 5, 2) := by decide +kernel
theorem dJ1_indexOfChar_4cfef_24 : decode cJ1_indexOfChar_4cfef 24 = .ok (.ireturn, 1) := by decide +kernel
theorem dJ1_indexOfChar_4cfef_25 : decode cJ1_indexOfChar_4cfef 25 = .ok (.iinc 5 1, 3) := by decide +kernel
theorem dJ1_indexOfChar_4cfef_28 : decode cJ1_indexOfChar_4cfef 28 = .ok (.goto (-21), 3) := by decide +kernel
theorem dJ1_indexOfChar_4cfef_31 : decode cJ1_indexOfChar_4cfef 31 = .ok (.iconst (-1), 1) := by decide +kernel
theorem dJ1_indexOfChar_4cfef_32 : decode cJ1_indexOfChar_4cfef 32 = .ok (.ireturn, 1) := by decide +kernel
theorem dJ3_checkIndex_8e157_0 : decode cJ3_checkIndex_8e157 0 = .ok (.iload_n 0, 1) := by decide +kernel
theorem dJ3_checkIndex_8e157_1 : decode cJ3_checkIndex_8e157 1 = .ok (.ifCond .lt 8, 3) := by decide +kernel
theorem dJ3_checkIndex_8e157_4 : decode cJ3_checkIndex_8e157 4 = .ok (.iload_n 0, 1) := by decide +kernel
theorem dJ3_checkIndex_8e157_5 : decode cJ3_checkIndex_8e157 5 = .ok (.iload_n 1, 1) := by decide +kernel
theorem dJ3_checkIndex_8e157_6 : decode cJ3_checkIndex_8e157 6 = .ok (.if_icmp .lt 10, 3) := by decide +kernel
theorem dJ3_checkIndex_8e157_9 : decode cJ3_checkIndex_8e157 9 = .ok (.aload_n 2, 1) := by decide +kernel
theorem dJ3_checkIndex_8e157_10 : decode cJ3_checkIndex_8e157 10 = .ok (.iload_n 0, 1) := by decide +kernel
theorem dJ3_checkIndex_8e157_11 : decode cJ3_checkIndex_8e157 11 = .ok (.iload_n 1, 1) := by decide +kernel
theorem dJ3_checkIndex_8e157_12 : decode cJ3_checkIndex_8e157 12 = .ok (.invokestatic 95, 3) := by decide +kernel
theorem dJ3_checkIndex_8e157_15 : decode cJ3_checkIndex_8e157 15 = .ok (.athrow, 1) := by decide +kernel
theorem dJ3_checkIndex_8e157_16 : decode cJ3_checkIndex_8e157 16 = .ok (.iload_n 0, 1) := by decide +kernel
theorem dJ3_checkIndex_8e157_17 : decode cJ3_checkIndex_8e157 17 = .ok (.ireturn, 1) := by decide +kernel
theorem jw_14 : Jvm.Cond.initialized "java/lang/Math" ∈ TBL := TBL_of 14 (by decide +kernel) rfl
theorem jw_15 : Jvm.Cond.initialized "java/lang/String" ∈ TBL := TBL_of 15 (by decide +kernel) rfl
theorem jw_16 : Jvm.Cond.initialized "java/lang/StringLatin1" ∈ TBL := TBL_of 16 (by decide +kernel) rfl
theorem jw_18 : Jvm.Cond.initialized "jdk/internal/util/Preconditions" ∈ TBL := TBL_of 18 (by decide +kernel) rfl
theorem jw_439 : Jvm.Cond.static Lib.Math.min.name ∈ TBL := TBL_of 439 (by decide +kernel) rfl
theorem jw_440 : Jvm.Cond.code Lib.Math.min.name Lib.Math.min.code 2 (some .int) ∈ TBL := TBL_of 440 (by decide +kernel) rfl
theorem jw_442 : Jvm.Cond.static Lib.Math.max.name ∈ TBL := TBL_of 442 (by decide +kernel) rfl
theorem jw_443 : Jvm.Cond.code Lib.Math.max.name Lib.Math.max.code 2 (some .int) ∈ TBL := TBL_of 443 (by decide +kernel) rfl
theorem jw_467 : Jvm.Cond.instanceMethod yjLen ∈ TBL := TBL_of 467 (by decide +kernel) rfl
theorem jw_468 : Jvm.Cond.selects "java/lang/String" yjLen yjLen ∈ TBL := TBL_of 468 (by decide +kernel) rfl
theorem jw_469 : Jvm.Cond.code yjLen cJ0_length_8abf5 1 (some .int) ∈ TBL := TBL_of 469 (by decide +kernel) rfl
theorem jw_470 : Jvm.Cond.methodLink "java/lang/String" 335 yjCod ∈ TBL := TBL_of 470 (by decide +kernel) rfl
theorem jw_471 : Jvm.Cond.instanceMethod yjCod ∈ TBL := TBL_of 471 (by decide +kernel) rfl
theorem jw_472 : Jvm.Cond.selects "java/lang/String" yjCod yjCod ∈ TBL := TBL_of 472 (by decide +kernel) rfl
theorem jw_473 : Jvm.Cond.code yjCod cJ0_coder_7d493 1 (some .byte) ∈ TBL := TBL_of 473 (by decide +kernel) rfl
theorem jw_464 : Jvm.Cond.fieldLink "java/lang/String" 38 "java/lang/String" "COMPACT_STRINGS" "Z" ∈ TBL := TBL_of 464 (by decide +kernel) rfl
theorem jw_545 : Jvm.Cond.instanceMethod yjCha ∈ TBL := TBL_of 545 (by decide +kernel) rfl
theorem jw_546 : Jvm.Cond.selects "java/lang/String" yjCha yjCha ∈ TBL := TBL_of 546 (by decide +kernel) rfl
theorem jw_547 : Jvm.Cond.code yjCha cJ0_charAt_5068e 2 (some .char) ∈ TBL := TBL_of 547 (by decide +kernel) rfl
theorem jw_460 : Jvm.Cond.methodLink "java/lang/String" 492 yjLat ∈ TBL := TBL_of 460 (by decide +kernel) rfl
theorem jw_461 : Jvm.Cond.instanceMethod yjLat ∈ TBL := TBL_of 461 (by decide +kernel) rfl
theorem jw_462 : Jvm.Cond.selects "java/lang/String" yjLat yjLat ∈ TBL := TBL_of 462 (by decide +kernel) rfl
theorem jw_463 : Jvm.Cond.code yjLat cJ0_isLatin1_aae02 1 (some .boolean) ∈ TBL := TBL_of 463 (by decide +kernel) rfl
theorem jw_548 : Jvm.Cond.methodLink "java/lang/String" 495 yjLch ∈ TBL := TBL_of 548 (by decide +kernel) rfl
theorem jw_549 : Jvm.Cond.static yjLch ∈ TBL := TBL_of 549 (by decide +kernel) rfl
theorem jw_550 : Jvm.Cond.code yjLch cJ1_charAt_3b067 2 (some .char) ∈ TBL := TBL_of 550 (by decide +kernel) rfl
theorem jw_551 : Jvm.Cond.methodLink "java/lang/StringLatin1" 9 yjChk ∈ TBL := TBL_of 551 (by decide +kernel) rfl
theorem jw_552 : Jvm.Cond.static yjChk ∈ TBL := TBL_of 552 (by decide +kernel) rfl
theorem jw_553 : Jvm.Cond.code yjChk cJ0_checkIndex_df160 2 none ∈ TBL := TBL_of 553 (by decide +kernel) rfl
theorem jw_503 : Jvm.Cond.fieldLink "java/lang/String" 1053 "jdk/internal/util/Preconditions" "SIOOBE_FORMATTER" "Ljava/util/function/BiFunction;" ∈ TBL := TBL_of 503 (by decide +kernel) rfl
theorem jw_554 : Jvm.Cond.methodLink "java/lang/String" 1059 yjPre ∈ TBL := TBL_of 554 (by decide +kernel) rfl
theorem jw_555 : Jvm.Cond.static yjPre ∈ TBL := TBL_of 555 (by decide +kernel) rfl
theorem jw_556 : Jvm.Cond.code yjPre cJ3_checkIndex_8e157 3 (some .int) ∈ TBL := TBL_of 556 (by decide +kernel) rfl
theorem jw_453 : Jvm.Cond.instanceMethod yjIx1 ∈ TBL := TBL_of 453 (by decide +kernel) rfl
theorem jw_454 : Jvm.Cond.selects "java/lang/String" yjIx1 yjIx1 ∈ TBL := TBL_of 454 (by decide +kernel) rfl
theorem jw_455 : Jvm.Cond.code yjIx1 cJ0_indexOf_0f7a4 2 (some .int) ∈ TBL := TBL_of 455 (by decide +kernel) rfl
theorem jw_456 : Jvm.Cond.methodLink "java/lang/String" 633 yjIx2 ∈ TBL := TBL_of 456 (by decide +kernel) rfl
theorem jw_457 : Jvm.Cond.instanceMethod yjIx2 ∈ TBL := TBL_of 457 (by decide +kernel) rfl
theorem jw_458 : Jvm.Cond.selects "java/lang/String" yjIx2 yjIx2 ∈ TBL := TBL_of 458 (by decide +kernel) rfl
theorem jw_459 : Jvm.Cond.code yjIx2 cJ0_indexOf_7cf53 3 (some .int) ∈ TBL := TBL_of 459 (by decide +kernel) rfl
theorem jw_466 : Jvm.Cond.methodLink "java/lang/String" 505 yjLen ∈ TBL := TBL_of 466 (by decide +kernel) rfl
theorem jw_474 : Jvm.Cond.methodLink "java/lang/String" 637 yjLix ∈ TBL := TBL_of 474 (by decide +kernel) rfl
theorem jw_475 : Jvm.Cond.static yjLix ∈ TBL := TBL_of 475 (by decide +kernel) rfl
theorem jw_476 : Jvm.Cond.code yjLix cJ1_indexOf_4cfef 4 (some .int) ∈ TBL := TBL_of 476 (by decide +kernel) rfl
theorem jw_477 : Jvm.Cond.methodLink "java/lang/StringLatin1" 88 yjEnc ∈ TBL := TBL_of 477 (by decide +kernel) rfl
theorem jw_478 : Jvm.Cond.static yjEnc ∈ TBL := TBL_of 478 (by decide +kernel) rfl
theorem jw_479 : Jvm.Cond.code yjEnc cJ1_canEncode_9a6ad 1 (some .boolean) ∈ TBL := TBL_of 479 (by decide +kernel) rfl
theorem jw_480 : Jvm.Cond.methodLink "java/lang/StringLatin1" 92 Lib.Math.max.name ∈ TBL := TBL_of 480 (by decide +kernel) rfl
theorem jw_481 : Jvm.Cond.methodLink "java/lang/StringLatin1" 38 Lib.Math.min.name ∈ TBL := TBL_of 481 (by decide +kernel) rfl
theorem jw_482 : Jvm.Cond.methodLink "java/lang/StringLatin1" 95 yjLic ∈ TBL := TBL_of 482 (by decide +kernel) rfl
theorem jw_483 : Jvm.Cond.static yjLic ∈ TBL := TBL_of 483 (by decide +kernel) rfl
theorem jw_484 : Jvm.Cond.code yjLic cJ1_indexOfChar_4cfef 6 (some .int) ∈ TBL := TBL_of 484 (by decide +kernel) rfl
theorem jw_1850 : Jvm.Cond.fieldLink "java/lang/String" 9 "java/lang/String" "value" "[B" ∈ TBL := TBL_of 1850 (by decide +kernel) rfl
theorem jw_1849 : Jvm.Cond.fieldLink "java/lang/String" 15 "java/lang/String" "coder" "B" ∈ TBL := TBL_of 1849 (by decide +kernel) rfl
