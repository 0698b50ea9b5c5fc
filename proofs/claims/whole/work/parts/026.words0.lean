def RJ6 : String := "java/lang/Integer"
abbrev cJ6_bitCount_0f7a4 : ByteArray := prog_10_method_49_code
def yJ6_bitCount_0f7a4 : MethodName := ⟨RJ6, "bitCount", "(I)I"⟩
def RJ0 : String := "java/lang/String"
abbrev cJ0_length_8abf5 : ByteArray := prog_12_method_54_code
def yJ0_length_8abf5 : MethodName := ⟨RJ0, "length", "()I"⟩
abbrev cJ0_charAt_5068e : ByteArray := prog_12_method_56_code
def yJ0_charAt_5068e : MethodName := ⟨RJ0, "charAt", "(I)C"⟩
abbrev cJ0_indexOf_0f7a4 : ByteArray := prog_12_method_79_code
def yJ0_indexOf_0f7a4 : MethodName := ⟨RJ0, "indexOf", "(I)I"⟩
abbrev cJ0_indexOf_7cf53 : ByteArray := prog_12_method_80_code
def yJ0_indexOf_7cf53 : MethodName := ⟨RJ0, "indexOf", "(II)I"⟩
abbrev cJ0_coder_7d493 : ByteArray := prog_12_method_152_code
def yJ0_coder_7d493 : MethodName := ⟨RJ0, "coder", "()B"⟩
abbrev cJ0_isLatin1_aae02 : ByteArray := prog_12_method_154_code
def yJ0_isLatin1_aae02 : MethodName := ⟨RJ0, "isLatin1", "()Z"⟩
abbrev cJ0_checkIndex_df160 : ByteArray := prog_12_method_155_code
def yJ0_checkIndex_df160 : MethodName := ⟨RJ0, "checkIndex", "(II)V"⟩
def RJ1 : String := "java/lang/StringLatin1"
abbrev cJ1_charAt_3b067 : ByteArray := prog_13_method_2_code
def yJ1_charAt_3b067 : MethodName := ⟨RJ1, "charAt", "([BI)C"⟩
abbrev cJ1_canEncode_9a6ad : ByteArray := prog_13_method_4_code
def yJ1_canEncode_9a6ad : MethodName := ⟨RJ1, "canEncode", "(I)Z"⟩
abbrev cJ1_indexOf_4cfef : ByteArray := prog_13_method_22_code
def yJ1_indexOf_4cfef : MethodName := ⟨RJ1, "indexOf", "([BIII)I"⟩
abbrev cJ1_indexOfChar_4cfef : ByteArray := prog_13_method_23_code
def yJ1_indexOfChar_4cfef : MethodName := ⟨RJ1, "indexOfChar", "([BIII)I"⟩
def RJ3 : String := "jdk/internal/util/Preconditions"
abbrev cJ3_checkIndex_8e157 : ByteArray := prog_16_method_11_code
def yJ3_checkIndex_8e157 : MethodName := ⟨RJ3, "checkIndex", "(IILjava/util/function/BiFunction;)I"⟩
theorem dJ6_bitCount_0f7a4_0 : decode cJ6_bitCount_0f7a4 0 = .ok (.iload_n 0, 1) := by decide +kernel
theorem dJ6_bitCount_0f7a4_1 : decode cJ6_bitCount_0f7a4 1 = .ok (.iload_n 0, 1) := by decide +kernel
theorem dJ6_bitCount_0f7a4_2 : decode cJ6_bitCount_0f7a4 2 = .ok (.iconst 1, 1) := by decide +kernel
theorem dJ6_bitCount_0f7a4_3 : decode cJ6_bitCount_0f7a4 3 = .ok (.iushr, 1) := by decide +kernel
theorem dJ6_bitCount_0f7a4_4 : decode cJ6_bitCount_0f7a4 4 = .ok (.ldc_w 265, 3) := by decide +kernel
theorem dJ6_bitCount_0f7a4_7 : decode cJ6_bitCount_0f7a4 7 = .ok (.iand, 1) := by decide +kernel
theorem dJ6_bitCount_0f7a4_8 : decode cJ6_bitCount_0f7a4 8 = .ok (.isub, 1) := by decide +kernel
theorem dJ6_bitCount_0f7a4_9 : decode cJ6_bitCount_0f7a4 9 = .ok (.istore_n 0, 1) := by decide +kernel
theorem dJ6_bitCount_0f7a4_10 : decode cJ6_bitCount_0f7a4 10 = .ok (.iload_n 0, 1) := by decide +kernel
theorem dJ6_bitCount_0f7a4_11 : decode cJ6_bitCount_0f7a4 11 = .ok (.ldc_w 266, 3) := by decide +kernel
theorem dJ6_bitCount_0f7a4_14 : decode cJ6_bitCount_0f7a4 14 = .ok (.iand, 1) := by decide +kernel
theorem dJ6_bitCount_0f7a4_15 : decode cJ6_bitCount_0f7a4 15 = .ok (.iload_n 0, 1) := by decide +kernel
theorem dJ6_bitCount_0f7a4_16 : decode cJ6_bitCount_0f7a4 16 = .ok (.iconst 2, 1) := by decide +kernel
theorem dJ6_bitCount_0f7a4_17 : decode cJ6_bitCount_0f7a4 17 = .ok (.iushr, 1) := by decide +kernel
theorem dJ6_bitCount_0f7a4_18 : decode cJ6_bitCount_0f7a4 18 = .ok (.ldc_w 266, 3) := by decide +kernel
theorem dJ6_bitCount_0f7a4_21 : decode cJ6_bitCount_0f7a4 21 = .ok (.iand, 1) := by decide +kernel
theorem dJ6_bitCount_0f7a4_22 : decode cJ6_bitCount_0f7a4 22 = .ok (.iadd, 1) := by decide +kernel
theorem dJ6_bitCount_0f7a4_23 : decode cJ6_bitCount_0f7a4 23 = .ok (.istore_n 0, 1) := by decide +kernel
theorem dJ6_bitCount_0f7a4_24 : decode cJ6_bitCount_0f7a4 24 = .ok (.iload_n 0, 1) := by decide +kernel
theorem dJ6_bitCount_0f7a4_25 : decode cJ6_bitCount_0f7a4 25 = .ok (.iload_n 0, 1) := by decide +kernel
theorem dJ6_bitCount_0f7a4_26 : decode cJ6_bitCount_0f7a4 26 = .ok (.iconst 4, 1) := by decide +kernel
theorem dJ6_bitCount_0f7a4_27 : decode cJ6_bitCount_0f7a4 27 = .ok (.iushr, 1) := by decide +kernel
theorem dJ6_bitCount_0f7a4_28 : decode cJ6_bitCount_0f7a4 28 = .ok (.iadd, 1) := by decide +kernel
theorem dJ6_bitCount_0f7a4_29 : decode cJ6_bitCount_0f7a4 29 = .ok (.ldc_w 267, 3) := by decide +kernel
theorem dJ6_bitCount_0f7a4_32 : decode cJ6_bitCount_0f7a4 32 = .ok (.iand, 1) := by decide +kernel
theorem dJ6_bitCount_0f7a4_33 : decode cJ6_bitCount_0f7a4 33 = .ok (.istore_n 0, 1) := by decide +kernel
theorem dJ6_bitCount_0f7a4_34 : decode cJ6_bitCount_0f7a4 34 = .ok (.iload_n 0, 1) := by decide +kernel
theorem dJ6_bitCount_0f7a4_35 : decode cJ6_bitCount_0f7a4 35 = .ok (.iload_n 0, 1) := by decide +kernel
theorem dJ6_bitCount_0f7a4_36 : decode cJ6_bitCount_0f7a4 36 = .ok (.bipush 8, 2) := by decide +kernel
theorem dJ6_bitCount_0f7a4_38 : decode cJ6_bitCount_0f7a4 38 = .ok (.iushr, 1) := by decide +kernel
theorem dJ6_bitCount_0f7a4_39 : decode cJ6_bitCount_0f7a4 39 = .ok (.iadd, 1) := by decide +kernel
theorem dJ6_bitCount_0f7a4_40 : decode cJ6_bitCount_0f7a4 40 = .ok (.istore_n 0, 1) := by decide +kernel
theorem dJ6_bitCount_0f7a4_41 : decode cJ6_bitCount_0f7a4 41 = .ok (.iload_n 0, 1) := by decide +kernel
theorem dJ6_bitCount_0f7a4_42 : decode cJ6_bitCount_0f7a4 42 = .ok (.iload_n 0, 1) := by decide +kernel
theorem dJ6_bitCount_0f7a4_43 : decode cJ6_bitCount_0f7a4 43 = .ok (.bipush 16, 2) := by decide +kernel
theorem dJ6_bitCount_0f7a4_45 : decode cJ6_bitCount_0f7a4 45 = .ok (.iushr, 1) := by decide +kernel
theorem dJ6_bitCount_0f7a4_46 : decode cJ6_bitCount_0f7a4 46 = .ok (.iadd, 1) := by decide +kernel
theorem dJ6_bitCount_0f7a4_47 : decode cJ6_bitCount_0f7a4 47 = .ok (.istore_n 0, 1) := by decide +kernel
theorem dJ6_bitCount_0f7a4_48 : decode cJ6_bitCount_0f7a4 48 = .ok (.iload_n 0, 1) := by decide +kernel
theorem dJ6_bitCount_0f7a4_49 : decode cJ6_bitCount_0f7a4 49 = .ok (.bipush 63, 2) := by decide +kernel
theorem dJ6_bitCount_0f7a4_51 : decode cJ6_bitCount_0f7a4 51 = .ok (.iand, 1) := by decide +kernel
theorem dJ6_bitCount_0f7a4_52 : decode cJ6_bitCount_0f7a4 52 = .ok (.ireturn, 1) := by decide +kernel
theorem dJ0_length_8abf5_0 : decode cJ0_length_8abf5 0 = .ok (.aload_n 0, 1) := by decide +kernel
theorem dJ0_length_8abf5_1 : decode cJ0_length_8abf5 1 = .ok (.getfield 9, 3) := by decide +kernel
theorem dJ0_length_8abf5_4 : decode cJ0_length_8abf5 4 = .ok (.arraylength, 1) := by decide +kernel
theorem dJ0_length_8abf5_5 : decode cJ0_length_8abf5 5 = .ok (.aload_n 0, 1) := by decide +kernel
theorem dJ0_length_8abf5_6 : decode cJ0_length_8abf5 6 = .ok (.invokevirtual 335, 3) := by decide +kernel
theorem dJ0_length_8abf5_9 : decode cJ0_length_8abf5 9 = .ok (.ishr, 1) := by decide +kernel
theorem dJ0_length_8abf5_10 : decode cJ0_length_8abf5 10 = .ok (.ireturn, 1) := by decide +kernel
theorem dJ0_charAt_5068e_0 : decode cJ0_charAt_5068e 0 = .ok (.aload_n 0, 1) := by decide +kernel
theorem dJ0_charAt_5068e_1 : decode cJ0_charAt_5068e 1 = .ok (.invokevirtual 492, 3) := by decide +kernel
theorem dJ0_charAt_5068e_4 : decode cJ0_charAt_5068e 4 = .ok (.ifCond .eq 12, 3) := by decide +kernel
theorem dJ0_charAt_5068e_7 : decode cJ0_charAt_5068e 7 = .ok (.aload_n 0, 1) := by decide +kernel
theorem dJ0_charAt_5068e_8 : decode cJ0_charAt_5068e 8 = .ok (.getfield 9, 3) := by decide +kernel
theorem dJ0_charAt_5068e_11 : decode cJ0_charAt_5068e 11 = .ok (.iload_n 1, 1) := by decide +kernel
theorem dJ0_charAt_5068e_12 : decode cJ0_charAt_5068e 12 = .ok (.invokestatic 495, 3) := by decide +kernel
theorem dJ0_charAt_5068e_15 : decode cJ0_charAt_5068e 15 = .ok (.ireturn, 1) := by decide +kernel
theorem dJ0_charAt_5068e_16 : decode cJ0_charAt_5068e 16 = .ok (.aload_n 0, 1) := by decide +kernel
theorem dJ0_charAt_5068e_17 : decode cJ0_charAt_5068e 17 = .ok (.getfield 9, 3) := by decide +kernel
theorem dJ0_charAt_5068e_20 : decode cJ0_charAt_5068e 20 = .ok (.iload_n 1, 1) := by decide +kernel
theorem dJ0_charAt_5068e_21 : decode cJ0_charAt_5068e 21 = .ok (.invokestatic 498, 3) := by decide +kernel
theorem dJ0_charAt_5068e_24 : decode cJ0_charAt_5068e 24 = .ok (.ireturn, 1) := by decide +kernel
theorem dJ0_indexOf_0f7a4_0 : decode cJ0_indexOf_0f7a4 0 = .ok (.aload_n 0, 1) := by decide +kernel
theorem dJ0_indexOf_0f7a4_1 : decode cJ0_indexOf_0f7a4 1 = .ok (.iload_n 1, 1) := by decide +kernel
theorem dJ0_indexOf_0f7a4_2 : decode cJ0_indexOf_0f7a4 2 = .ok (.iconst 0, 1) := by decide +kernel
theorem dJ0_indexOf_0f7a4_3 : decode cJ0_indexOf_0f7a4 3 = .ok (.invokevirtual 633, 3) := by decide +kernel
theorem dJ0_indexOf_0f7a4_6 : decode cJ0_indexOf_0f7a4 6 = .ok (.ireturn, 1) := by decide +kernel
theorem dJ0_indexOf_7cf53_0 : decode cJ0_indexOf_7cf53 0 = .ok (.aload_n 0, 1) := by decide +kernel
theorem dJ0_indexOf_7cf53_1 : decode cJ0_indexOf_7cf53 1 = .ok (.invokevirtual 492, 3) := by decide +kernel
theorem dJ0_indexOf_7cf53_4 : decode cJ0_indexOf_7cf53 4 = .ok (.ifCond .eq 19, 3) := by decide +kernel
theorem dJ0_indexOf_7cf53_7 : decode cJ0_indexOf_7cf53 7 = .ok (.aload_n 0, 1) := by decide +kernel
theorem dJ0_indexOf_7cf53_8 : decode cJ0_indexOf_7cf53 8 = .ok (.getfield 9, 3) := by decide +kernel
theorem dJ0_indexOf_7cf53_11 : decode cJ0_indexOf_7cf53 11 = .ok (.iload_n 1, 1) := by decide +kernel
theorem dJ0_indexOf_7cf53_12 : decode cJ0_indexOf_7cf53 12 = .ok (.iload_n 2, 1) := by decide +kernel
theorem dJ0_indexOf_7cf53_13 : decode cJ0_indexOf_7cf53 13 = .ok (.aload_n 0, 1) := by decide +kernel
theorem dJ0_indexOf_7cf53_14 : decode cJ0_indexOf_7cf53 14 = .ok (.invokevirtual 505, 3) := by decide +kernel
theorem dJ0_indexOf_7cf53_17 : decode cJ0_indexOf_7cf53 17 = .ok (.invokestatic 637, 3) := by decide +kernel
theorem dJ0_indexOf_7cf53_20 : decode cJ0_indexOf_7cf53 20 = .ok (.goto 16, 3) := by decide +kernel
theorem dJ0_indexOf_7cf53_23 : decode cJ0_indexOf_7cf53 23 = .ok (.aload_n 0, 1) := by decide +kernel
theorem dJ0_indexOf_7cf53_24 : decode cJ0_indexOf_7cf53 24 = .ok (.getfield 9, 3) := by decide +kernel
theorem dJ0_indexOf_7cf53_27 : decode cJ0_indexOf_7cf53 27 = .ok (.iload_n 1, 1) := by decide +kernel
theorem dJ0_indexOf_7cf53_28 : decode cJ0_indexOf_7cf53 28 = .ok (.iload_n 2, 1) := by decide +kernel
theorem dJ0_indexOf_7cf53_29 : decode cJ0_indexOf_7cf53 29 = .ok (.aload_n 0, 1) := by decide +kernel
theorem dJ0_indexOf_7cf53_30 : decode cJ0_indexOf_7cf53 30 = .ok (.invokevirtual 505, 3) := by decide +kernel
theorem dJ0_indexOf_7cf53_33 : decode cJ0_indexOf_7cf53 33 = .ok (.invokestatic 640, 3) := by decide +kernel
theorem dJ0_indexOf_7cf53_36 : decode cJ0_indexOf_7cf53 36 = .ok (.ireturn, 1) := by decide +kernel
theorem dJ0_coder_7d493_0 : decode cJ0_coder_7d493 0 = .ok (.getstatic 38, 3) := by decide +kernel
theorem dJ0_coder_7d493_3 : decode cJ0_coder_7d493 3 = .ok (.ifCond .eq 10, 3) := by decide +kernel
theorem dJ0_coder_7d493_6 : decode cJ0_coder_7d493 6 = .ok (.aload_n 0, 1) := by decide +kernel
theorem dJ0_coder_7d493_7 : decode cJ0_coder_7d493 7 = .ok (.getfield 15, 3) := by decide +kernel
theorem dJ0_coder_7d493_10 : decode cJ0_coder_7d493 10 = .ok (.goto 4, 3) := by decide +kernel
theorem dJ0_coder_7d493_13 : decode cJ0_coder_7d493 13 = .ok (.iconst 1, 1) := by decide +kernel
theorem dJ0_coder_7d493_14 : decode cJ0_coder_7d493 14 = .ok (.ireturn, 1) := by decide +kernel
theorem dJ0_isLatin1_aae02_0 : decode cJ0_isLatin1_aae02 0 = .ok (.getstatic 38, 3) := by decide +kernel
theorem dJ0_isLatin1_aae02_3 : decode cJ0_isLatin1_aae02 3 = .ok (.ifCond .eq 14, 3) := by decide +kernel
theorem dJ0_isLatin1_aae02_6 : decode cJ0_isLatin1_aae02 6 = .ok (.aload_n 0, 1) := by decide +kernel
theorem dJ0_isLatin1_aae02_7 : decode cJ0_isLatin1_aae02 7 = .ok (.getfield 15, 3) := by decide +kernel
theorem dJ0_isLatin1_aae02_10 : decode cJ0_isLatin1_aae02 10 = .ok (.ifCond .ne 7, 3) := by decide +kernel
theorem dJ0_isLatin1_aae02_13 : decode cJ0_isLatin1_aae02 13 = .ok (.iconst 1, 1) := by decide +kernel
theorem dJ0_isLatin1_aae02_14 : decode cJ0_isLatin1_aae02 14 = .ok (.goto 4, 3) := by decide +kernel
theorem dJ0_isLatin1_aae02_17 : decode cJ0_isLatin1_aae02 17 = .ok (.iconst 0, 1) := by decide +kernel
theorem dJ0_isLatin1_aae02_18 : decode cJ0_isLatin1_aae02 18 = .ok (.ireturn, 1) := by decide +kernel
theorem dJ0_checkIndex_df160_0 : decode cJ0_checkIndex_df160 0 = .ok (.iload_n 0, 1) := by decide +kernel
theorem dJ0_checkIndex_df160_1 : decode cJ0_checkIndex_df160 1 = .ok (.iload_n 1, 1) := by decide +kernel
theorem dJ0_checkIndex_df160_2 : decode cJ0_checkIndex_df160 2 = .ok (.getstatic 1053, 3) := by decide +kernel
theorem dJ0_checkIndex_df160_5 : decode cJ0_checkIndex_df160 5 = .ok (.invokestatic 1059, 3) := by decide +kernel
theorem dJ0_checkIndex_df160_8 : decode cJ0_checkIndex_df160 8 = .ok (.pop, 1) := by decide +kernel
theorem dJ0_checkIndex_df160_9 : decode cJ0_checkIndex_df160 9 = .ok (.return_, 1) := by decide +kernel
theorem dJ1_charAt_3b067_0 : decode cJ1_charAt_3b067 0 = .ok (.iload_n 1, 1) := by decide +kernel
theorem dJ1_charAt_3b067_1 : decode cJ1_charAt_3b067 1 = .ok (.aload_n 0, 1) := by decide +kernel
theorem dJ1_charAt_3b067_2 : decode cJ1_charAt_3b067 2 = .ok (.arraylength, 1) := by decide +kernel
theorem dJ1_charAt_3b067_3 : decode cJ1_charAt_3b067 3 = .ok (.invokestatic 9, 3) := by decide +kernel
theorem dJ1_charAt_3b067_6 : decode cJ1_charAt_3b067 6 = .ok (.aload_n 0, 1) := by decide +kernel
theorem dJ1_charAt_3b067_7 : decode cJ1_charAt_3b067 7 = .ok (.iload_n 1, 1) := by decide +kernel
theorem dJ1_charAt_3b067_8 : decode cJ1_charAt_3b067 8 = .ok (.baload, 1) := by decide +kernel
theorem dJ1_charAt_3b067_9 : decode cJ1_charAt_3b067 9 = .ok (.sipush 255, 3) := by decide +kernel
theorem dJ1_charAt_3b067_12 : decode cJ1_charAt_3b067 12 = .ok (.iand, 1) := by decide +kernel
theorem dJ1_charAt_3b067_13 : decode cJ1_charAt_3b067 13 = .ok (.i2c, 1) := by decide +kernel
theorem dJ1_charAt_3b067_14 : decode cJ1_charAt_3b067 14 = .ok (.ireturn, 1) := by decide +kernel
theorem dJ1_canEncode_9a6ad_0 : decode cJ1_canEncode_9a6ad 0 = .ok (.iload_n 0, 1) := by decide +kernel
theorem dJ1_canEncode_9a6ad_1 : decode cJ1_canEncode_9a6ad 1 = .ok (.ifCond .lt 14, 3) := by decide +kernel
theorem dJ1_canEncode_9a6ad_4 : decode cJ1_canEncode_9a6ad 4 = .ok (.iload_n 0, 1) := by decide +kernel
theorem dJ1_canEncode_9a6ad_5 : decode cJ1_canEncode_9a6ad 5 = .ok (.sipush 255, 3) := by decide +kernel
theorem dJ1_canEncode_9a6ad_8 : decode cJ1_canEncode_9a6ad 8 = .ok (.if_icmp .gt 7, 3) := by decide +kernel
theorem dJ1_canEncode_9a6ad_11 : decode cJ1_canEncode_9a6ad 11 = .ok (.iconst 1, 1) := by decide +kernel
theorem dJ1_canEncode_9a6ad_12 : decode cJ1_canEncode_9a6ad 12 = .ok (.goto 4, 3) := by decide +kernel
theorem dJ1_canEncode_9a6ad_15 : decode cJ1_canEncode_9a6ad 15 = .ok (.iconst 0, 1) := by decide +kernel
theorem dJ1_canEncode_9a6ad_16 : decode cJ1_canEncode_9a6ad 16 = .ok (.ireturn, 1) := by decide +kernel
theorem dJ1_indexOf_4cfef_0 : decode cJ1_indexOf_4cfef 0 = .ok (.iload_n 1, 1) := by decide +kernel
theorem dJ1_indexOf_4cfef_1 : decode cJ1_indexOf_4cfef 1 = .ok (.invokestatic 88, 3) := by decide +kernel
theorem dJ1_indexOf_4cfef_4 : decode cJ1_indexOf_4cfef 4 = .ok (.ifCond .ne 5, 3) := by decide +kernel
theorem dJ1_indexOf_4cfef_7 : decode cJ1_indexOf_4cfef 7 = .ok (.iconst (-1), 1) := by decide +kernel
theorem dJ1_indexOf_4cfef_8 : decode cJ1_indexOf_4cfef 8 = .ok (.ireturn, 1) := by decide +kernel
theorem dJ1_indexOf_4cfef_9 : decode cJ1_indexOf_4cfef 9 = .ok (.iload_n 2, 1) := by decide +kernel
theorem dJ1_indexOf_4cfef_10 : decode cJ1_indexOf_4cfef 10 = .ok (.iconst 0, 1) := by decide +kernel
theorem dJ1_indexOf_4cfef_11 : decode cJ1_indexOf_4cfef 11 = .ok (.invokestatic 92, 3) := by decide +kernel
theorem dJ1_indexOf_4cfef_14 : decode cJ1_indexOf_4cfef 14 = .ok (.istore_n 2, 1) := by decide +kernel
theorem dJ1_indexOf_4cfef_15 : decode cJ1_indexOf_4cfef 15 = .ok (.iload_n 3, 1) := by decide +kernel
theorem dJ1_indexOf_4cfef_16 : decode cJ1_indexOf_4cfef 16 = .ok (.aload_n 0, 1) := by decide +kernel
theorem dJ1_indexOf_4cfef_17 : decode cJ1_indexOf_4cfef 17 = .ok (.arraylength, 1) := by decide +kernel
theorem dJ1_indexOf_4cfef_18 : decode cJ1_indexOf_4cfef 18 = .ok (.invokestatic 38, 3) := by decide +kernel
theorem dJ1_indexOf_4cfef_21 : decode cJ1_indexOf_4cfef 21 = .ok (.istore_n 3, 1) := by decide +kernel
theorem dJ1_indexOf_4cfef_22 : decode cJ1_indexOf_4cfef 22 = .ok (.iload_n 2, 1) := by decide +kernel
theorem dJ1_indexOf_4cfef_23 : decode cJ1_indexOf_4cfef 23 = .ok (.iload_n 3, 1) := by decide +kernel
theorem dJ1_indexOf_4cfef_24 : decode cJ1_indexOf_4cfef 24 = .ok (.if_icmp .lt 5, 3) := by decide +kernel
theorem dJ1_indexOf_4cfef_27 : decode cJ1_indexOf_4cfef 27 = .ok (.iconst (-1), 1) := by decide +kernel
theorem dJ1_indexOf_4cfef_28 : decode cJ1_indexOf_4cfef 28 = .ok (.ireturn, 1) := by decide +kernel
theorem dJ1_indexOf_4cfef_29 : decode cJ1_indexOf_4cfef 29 = .ok (.aload_n 0, 1) := by decide +kernel
theorem dJ1_indexOf_4cfef_30 : decode cJ1_indexOf_4cfef 30 = .ok (.iload_n 1, 1) := by decide +kernel
theorem dJ1_indexOf_4cfef_31 : decode cJ1_indexOf_4cfef 31 = .ok (.iload_n 2, 1) := by decide +kernel
theorem dJ1_indexOf_4cfef_32 : decode cJ1_indexOf_4cfef 32 = .ok (.iload_n 3, 1) := by decide +kernel
theorem dJ1_indexOf_4cfef_33 : decode cJ1_indexOf_4cfef 33 = .ok (.invokestatic 95, 3) := by decide +kernel
theorem dJ1_indexOf_4cfef_36 : decode cJ1_indexOf_4cfef 36 = .ok (.ireturn, 1) := by decide +kernel
theorem dJ1_indexOfChar_4cfef_0 : decode cJ1_indexOfChar_4cfef 0 = .ok (.iload_n 1, 1) := by decide +kernel
theorem dJ1_indexOfChar_4cfef_1 : decode cJ1_indexOfChar_4cfef 1 = .ok (.i2b, 1) := by decide +kernel
theorem dJ1_indexOfChar_4cfef_2 : decode cJ1_indexOfChar_4cfef 2 = .ok (.istore 4, 2) := by decide +kernel
theorem dJ1_indexOfChar_4cfef_4 : decode cJ1_indexOfChar_4cfef 4 = .ok (.iload_n 2, 1) := by decide +kernel
theorem dJ1_indexOfChar_4cfef_5 : decode cJ1_indexOfChar_4cfef 5 = .ok (.istore 5, 2) := by decide +kernel
theorem dJ1_indexOfChar_4cfef_7 : decode cJ1_indexOfChar_4cfef 7 = .ok (.iload 5, 2) := by decide +kernel
theorem dJ1_indexOfChar_4cfef_9 : decode cJ1_indexOfChar_4cfef 9 = .ok (.iload_n 3, 1) := by decide +kernel
theorem dJ1_indexOfChar_4cfef_10 : decode cJ1_indexOfChar_4cfef 10 = .ok (.if_icmp .ge 21, 3) := by decide +kernel
theorem dJ1_indexOfChar_4cfef_13 : decode cJ1_indexOfChar_4cfef 13 = .ok (.aload_n 0, 1) := by decide +kernel
theorem dJ1_indexOfChar_4cfef_14 : decode cJ1_indexOfChar_4cfef 14 = .ok (.iload 5, 2) := by decide +kernel
theorem dJ1_indexOfChar_4cfef_16 : decode cJ1_indexOfChar_4cfef 16 = .ok (.baload, 1) := by decide +kernel
theorem dJ1_indexOfChar_4cfef_17 : decode cJ1_indexOfChar_4cfef 17 = .ok (.iload 4, 2) := by decide +kernel
theorem dJ1_indexOfChar_4cfef_19 : decode cJ1_indexOfChar_4cfef 19 = .ok (.if_icmp .ne 6, 3) := by decide +kernel
theorem dJ1_indexOfChar_4cfef_22 : decode cJ1_indexOfChar_4cfef 22 = .ok (.iload 5, 2) := by decide +kernel
theorem dJ1_indexOfChar_4cfef_24 : decode cJ1_indexOfChar_4cfef 24 = .ok (.ireturn, 1) := by decide +kernel
theorem dJ1_indexOfChar_4cfef_25 : decode cJ1_indexOfChar_4cfef 25 = .ok (.iinc 5 1, 3) := by decide +kernel
theorem dJ1_indexOfChar_4cfef_28 : decode cJ1_indexOfChar_4cfef 28 = .ok (.goto (-21), 3) := by decide +kernel
theorem dJ1_indexOfChar_4cfef_31 : decode cJ1_indexOfChar_4cfef 31 = .ok (.iconst (-1), 1) := by decide +kernel
theorem dJ1_indexOfChar_4cfef_32 : decode cJ1_indexOfChar_4cfef 32 = .ok (.ireturn, 1) := by decide +kernel
theorem dJ3_checkIndex_8e157_0 : decode cJ3_checkIndex_8e157 0 = .ok (.iload_n 0, 1) := by decide +kernel
theorem dJ3_checkIndex_8e157_1 : decode cJ3_checkIndex_8e157 1 = .ok (.ifCond .lt 8, 3) := by decide +kernel
theorem dJ3_checkIndex_8e157_4 : decode cJ3_checkIndex_8e157 4 = .ok (.iload_n 0, 1) := by decide +kernel
theorem dJ3_checkIndex_8e157_5 : decode cJ3_checkIndex_8e157 5 = .ok (.iload_n 1, 1) := by decide +kernel
theorem dJ3_checkIndex_8e157_6 : decode cJ3_checkIndex_8e157 6 = .ok (.if_icmp .lt 10, 3) := by decide +kernel
theorem dJ3_checkIndex_8e157_9 : decode cJ3_checkIndex_8e157 9 = .ok (.aload_n 2, 1) := by decide +kernel
theorem dJ3_checkIndex_8e157_10 : decode cJ3_checkIndex_8e157 10 = .ok (.iload_n 0, 1) := by decide +kernel
theorem dJ3_checkIndex_8e157_11 : decode cJ3_checkIndex_8e157 11 = .ok (.iload_n 1, 1) := by decide +kernel
theorem dJ3_checkIndex_8e157_12 : decode cJ3_checkIndex_8e157 12 = .ok (.invokestatic 95, 3) := by decide +kernel
theorem dJ3_checkIndex_8e157_15 : decode cJ3_checkIndex_8e157 15 = .ok (.athrow, 1) := by decide +kernel
theorem dJ3_checkIndex_8e157_16 : decode cJ3_checkIndex_8e157 16 = .ok (.iload_n 0, 1) := by decide +kernel
theorem dJ3_checkIndex_8e157_17 : decode cJ3_checkIndex_8e157 17 = .ok (.ireturn, 1) := by decide +kernel
theorem k_0 : (Cond.initialized RL) ∈ tb := tb_of (List.mem_append_right _ (List.mem_of_getElem? (i := 0) (by decide +kernel))) (by decide +kernel)
theorem k_1 : (Cond.initialized RX5) ∈ tb := tb_of (List.mem_append_right _ (List.mem_of_getElem? (i := 1) (by decide +kernel))) (by decide +kernel)
theorem k_2 : (Cond.initialized RX0) ∈ tb := tb_of (List.mem_append_right _ (List.mem_of_getElem? (i := 2) (by decide +kernel))) (by decide +kernel)
theorem k_3 : (Cond.initialized RX4) ∈ tb := tb_of (List.mem_append_right _ (List.mem_of_getElem? (i := 3) (by decide +kernel))) (by decide +kernel)
theorem k_4 : (Cond.initialized RX2) ∈ tb := tb_of (List.mem_append_right _ (List.mem_of_getElem? (i := 4) (by decide +kernel))) (by decide +kernel)
theorem k_5 : (Cond.initialized RX3) ∈ tb := tb_of (List.mem_append_right _ (List.mem_of_getElem? (i := 5) (by decide +kernel))) (by decide +kernel)
theorem k_6 : (Cond.initialized RX1) ∈ tb := tb_of (List.mem_append_right _ (List.mem_of_getElem? (i := 6) (by decide +kernel))) (by decide +kernel)
theorem k_7 : (Cond.initialized RX6) ∈ tb := tb_of (List.mem_append_right _ (List.mem_of_getElem? (i := 7) (by decide +kernel))) (by decide +kernel)
theorem k_8 : (Cond.initialized "java/lang/Math") ∈ tb := tb_of (List.mem_append_right _ (List.mem_of_getElem? (i := 8) (by decide +kernel))) (by decide +kernel)
theorem k_9 : (Cond.initialized RJ0) ∈ tb := tb_of (List.mem_append_right _ (List.mem_of_getElem? (i := 9) (by decide +kernel))) (by decide +kernel)
theorem k_10 : (Cond.initialized RJ1) ∈ tb := tb_of (List.mem_append_right _ (List.mem_of_getElem? (i := 10) (by decide +kernel))) (by decide +kernel)
theorem k_11 : (Cond.initialized RJ3) ∈ tb := tb_of (List.mem_append_right _ (List.mem_of_getElem? (i := 11) (by decide +kernel))) (by decide +kernel)
theorem k_12 : (Cond.initialized "java/lang/StringUTF16") ∈ tb := tb_of (List.mem_append_right _ (List.mem_of_getElem? (i := 12) (by decide +kernel))) (by decide +kernel)
theorem k_13 : (Cond.initialized "java/lang/Character") ∈ tb := tb_of (List.mem_append_right _ (List.mem_of_getElem? (i := 13) (by decide +kernel))) (by decide +kernel)
theorem k_14 : (Cond.initialized RJ6) ∈ tb := tb_of (List.mem_append_right _ (List.mem_of_getElem? (i := 14) (by decide +kernel))) (by decide +kernel)
theorem k_15 : (Cond.initialized "java/lang/System") ∈ tb := tb_of (List.mem_append_right _ (List.mem_of_getElem? (i := 15) (by decide +kernel))) (by decide +kernel)
theorem k_16 : (Cond.classLink RL 7 RX5) ∈ tb := tb_of (List.mem_append_right _ (List.mem_of_getElem? (i := 16) (by decide +kernel))) (by decide +kernel)
theorem k_17 : (Cond.instantiable RX5 13) ∈ tb := tb_of (List.mem_append_right _ (List.mem_of_getElem? (i := 17) (by decide +kernel))) (by decide +kernel)
theorem k_18 : (Cond.methodLink RL 9 yX5_init) ∈ tb := tb_of (List.mem_append_right _ (List.mem_of_getElem? (i := 18) (by decide +kernel))) (by decide +kernel)
theorem k_19 : (Cond.instanceMethod yX5_init) ∈ tb := tb_of (List.mem_append_right _ (List.mem_of_getElem? (i := 19) (by decide +kernel))) (by decide +kernel)
theorem k_20 : (Cond.code yX5_init cX5_init 2 none) ∈ tb := tb_of (List.mem_append_right _ (List.mem_of_getElem? (i := 20) (by decide +kernel))) (by decide +kernel)
theorem k_24 : (Cond.classLink RX5 7 RX0) ∈ tb := tb_of (List.mem_append_right _ (List.mem_of_getElem? (i := 24) (by decide +kernel))) (by decide +kernel)
theorem k_25 : (Cond.instantiable RX0 4) ∈ tb := tb_of (List.mem_append_right _ (List.mem_of_getElem? (i := 25) (by decide +kernel))) (by decide +kernel)
theorem k_26 : (Cond.methodLink RX5 9 yX0_init) ∈ tb := tb_of (List.mem_append_right _ (List.mem_of_getElem? (i := 26) (by decide +kernel))) (by decide +kernel)
theorem k_27 : (Cond.instanceMethod yX0_init) ∈ tb := tb_of (List.mem_append_right _ (List.mem_of_getElem? (i := 27) (by decide +kernel))) (by decide +kernel)
theorem k_28 : (Cond.code yX0_init cX0_init 2 none) ∈ tb := tb_of (List.mem_append_right _ (List.mem_of_getElem? (i := 28) (by decide +kernel))) (by decide +kernel)
theorem k_30 : (Cond.classLink RX0 15 RX4) ∈ tb := tb_of (List.mem_append_right _ (List.mem_of_getElem? (i := 30) (by decide +kernel))) (by decide +kernel)
theorem k_32 : (Cond.instantiable RX4 5) ∈ tb := tb_of (List.mem_append_right _ (List.mem_of_getElem? (i := 32) (by decide +kernel))) (by decide +kernel)
theorem k_34 : (Cond.instanceMethod yX4_init) ∈ tb := tb_of (List.mem_append_right _ (List.mem_of_getElem? (i := 34) (by decide +kernel))) (by decide +kernel)
theorem k_35 : (Cond.code yX4_init cX4_init 1 none) ∈ tb := tb_of (List.mem_append_right _ (List.mem_of_getElem? (i := 35) (by decide +kernel))) (by decide +kernel)
theorem k_37 : (Cond.fieldLink RX4 18 "SamePlace$Way" "kind" "I") ∈ tb := tb_of (List.mem_append_right _ (List.mem_of_getElem? (i := 37) (by decide +kernel))) (by decide +kernel)
theorem k_39 : (Cond.fieldLink RX4 22 "SamePlace$Way" "number" "I") ∈ tb := tb_of (List.mem_append_right _ (List.mem_of_getElem? (i := 39) (by decide +kernel))) (by decide +kernel)
theorem k_41 : (Cond.fieldLink RX4 25 "SamePlace$Way" "size" "I") ∈ tb := tb_of (List.mem_append_right _ (List.mem_of_getElem? (i := 41) (by decide +kernel))) (by decide +kernel)
theorem k_44 : (Cond.fieldLink RX4 9 "SamePlace$Way" "minutes" "[I") ∈ tb := tb_of (List.mem_append_right _ (List.mem_of_getElem? (i := 44) (by decide +kernel))) (by decide +kernel)
theorem k_46 : (Cond.fieldLink RX4 15 "SamePlace$Way" "places" "[I") ∈ tb := tb_of (List.mem_append_right _ (List.mem_of_getElem? (i := 46) (by decide +kernel))) (by decide +kernel)
theorem k_60 : (Cond.fieldLink RX0 9 "SamePlace$Path" "far" "I") ∈ tb := tb_of (List.mem_append_right _ (List.mem_of_getElem? (i := 60) (by decide +kernel))) (by decide +kernel)
theorem k_62 : (Cond.fieldLink RX0 22 "SamePlace$Path" "size" "I") ∈ tb := tb_of (List.mem_append_right _ (List.mem_of_getElem? (i := 62) (by decide +kernel))) (by decide +kernel)
theorem k_64 : (Cond.fieldLink RX0 25 "SamePlace$Path" "rule" "I") ∈ tb := tb_of (List.mem_append_right _ (List.mem_of_getElem? (i := 64) (by decide +kernel))) (by decide +kernel)
theorem k_66 : (Cond.fieldLink RX0 17 "SamePlace$Path" "ways" "[LSamePlace$Way;") ∈ tb := tb_of (List.mem_append_right _ (List.mem_of_getElem? (i := 66) (by decide +kernel))) (by decide +kernel)
theorem k_77 : (Cond.classLink RX5 19 RX2) ∈ tb := tb_of (List.mem_append_right _ (List.mem_of_getElem? (i := 77) (by decide +kernel))) (by decide +kernel)
theorem k_78 : (Cond.instantiable RX2 8) ∈ tb := tb_of (List.mem_append_right _ (List.mem_of_getElem? (i := 78) (by decide +kernel))) (by decide +kernel)
theorem k_80 : (Cond.instanceMethod yX2_init) ∈ tb := tb_of (List.mem_append_right _ (List.mem_of_getElem? (i := 80) (by decide +kernel))) (by decide +kernel)
theorem k_81 : (Cond.code yX2_init cX2_init 1 none) ∈ tb := tb_of (List.mem_append_right _ (List.mem_of_getElem? (i := 81) (by decide +kernel))) (by decide +kernel)
theorem k_83 : (Cond.fieldLink RX2 9 "SamePlace$Tape" "bytes" "[I") ∈ tb := tb_of (List.mem_append_right _ (List.mem_of_getElem? (i := 83) (by decide +kernel))) (by decide +kernel)
theorem k_84 : (Cond.fieldLink RX2 15 "SamePlace$Tape" "size" "I") ∈ tb := tb_of (List.mem_append_right _ (List.mem_of_getElem? (i := 84) (by decide +kernel))) (by decide +kernel)
theorem k_86 : (Cond.fieldLink RX2 19 "SamePlace$Tape" "next" "I") ∈ tb := tb_of (List.mem_append_right _ (List.mem_of_getElem? (i := 86) (by decide +kernel))) (by decide +kernel)
theorem k_87 : (Cond.fieldLink RX2 54 "SamePlace$Tape" "start" "I") ∈ tb := tb_of (List.mem_append_right _ (List.mem_of_getElem? (i := 87) (by decide +kernel))) (by decide +kernel)
theorem k_88 : (Cond.fieldLink RX2 48 "SamePlace$Tape" "token" "I") ∈ tb := tb_of (List.mem_append_right _ (List.mem_of_getElem? (i := 88) (by decide +kernel))) (by decide +kernel)
theorem k_89 : (Cond.fieldLink RX2 70 "SamePlace$Tape" "value" "I") ∈ tb := tb_of (List.mem_append_right _ (List.mem_of_getElem? (i := 89) (by decide +kernel))) (by decide +kernel)
theorem k_90 : (Cond.fieldLink RX2 22 "SamePlace$Tape" "fault" "I") ∈ tb := tb_of (List.mem_append_right _ (List.mem_of_getElem? (i := 90) (by decide +kernel))) (by decide +kernel)
theorem k_91 : (Cond.fieldLink RX2 25 "SamePlace$Tape" "out" "LSamePlace$Text;") ∈ tb := tb_of (List.mem_append_right _ (List.mem_of_getElem? (i := 91) (by decide +kernel))) (by decide +kernel)
theorem k_109 : (Cond.classLink RX5 26 RX3) ∈ tb := tb_of (List.mem_append_right _ (List.mem_of_getElem? (i := 109) (by decide +kernel))) (by decide +kernel)
theorem k_111 : (Cond.classLink RX5 32 RX1) ∈ tb := tb_of (List.mem_append_right _ (List.mem_of_getElem? (i := 111) (by decide +kernel))) (by decide +kernel)
theorem k_113 : (Cond.classLink RX5 54 RX4) ∈ tb := tb_of (List.mem_append_right _ (List.mem_of_getElem? (i := 113) (by decide +kernel))) (by decide +kernel)
theorem k_115 : (Cond.instantiable RX3 3) ∈ tb := tb_of (List.mem_append_right _ (List.mem_of_getElem? (i := 115) (by decide +kernel))) (by decide +kernel)
theorem k_117 : (Cond.instanceMethod yX3_init) ∈ tb := tb_of (List.mem_append_right _ (List.mem_of_getElem? (i := 117) (by decide +kernel))) (by decide +kernel)
theorem k_118 : (Cond.code yX3_init cX3_init 1 none) ∈ tb := tb_of (List.mem_append_right _ (List.mem_of_getElem? (i := 118) (by decide +kernel))) (by decide +kernel)
theorem k_120 : (Cond.fieldLink RX3 9 "SamePlace$Text" "code" "[I") ∈ tb := tb_of (List.mem_append_right _ (List.mem_of_getElem? (i := 120) (by decide +kernel))) (by decide +kernel)
theorem k_121 : (Cond.fieldLink RX3 15 "SamePlace$Text" "ends" "[I") ∈ tb := tb_of (List.mem_append_right _ (List.mem_of_getElem? (i := 121) (by decide +kernel))) (by decide +kernel)
theorem k_122 : (Cond.fieldLink RX3 18 "SamePlace$Text" "size" "I") ∈ tb := tb_of (List.mem_append_right _ (List.mem_of_getElem? (i := 122) (by decide +kernel))) (by decide +kernel)
theorem k_130 : (Cond.instantiable RX1 3) ∈ tb := tb_of (List.mem_append_right _ (List.mem_of_getElem? (i := 130) (by decide +kernel))) (by decide +kernel)
theorem k_132 : (Cond.instanceMethod yX1_init) ∈ tb := tb_of (List.mem_append_right _ (List.mem_of_getElem? (i := 132) (by decide +kernel))) (by decide +kernel)
theorem k_133 : (Cond.code yX1_init cX1_init 1 none) ∈ tb := tb_of (List.mem_append_right _ (List.mem_of_getElem? (i := 133) (by decide +kernel))) (by decide +kernel)
theorem k_135 : (Cond.fieldLink RX1 9 "SamePlace$Sheet" "sort" "I") ∈ tb := tb_of (List.mem_append_right _ (List.mem_of_getElem? (i := 135) (by decide +kernel))) (by decide +kernel)
theorem k_137 : (Cond.fieldLink RX1 25 "SamePlace$Sheet" "size" "I") ∈ tb := tb_of (List.mem_append_right _ (List.mem_of_getElem? (i := 137) (by decide +kernel))) (by decide +kernel)
theorem k_139 : (Cond.fieldLink RX1 15 "SamePlace$Sheet" "items" "[I") ∈ tb := tb_of (List.mem_append_right _ (List.mem_of_getElem? (i := 139) (by decide +kernel))) (by decide +kernel)
theorem k_148 : (Cond.methodLink RX5 63 yX3_becomeFirst) ∈ tb := tb_of (List.mem_append_right _ (List.mem_of_getElem? (i := 148) (by decide +kernel))) (by decide +kernel)
theorem k_149 : (Cond.instanceMethod yX3_becomeFirst) ∈ tb := tb_of (List.mem_append_right _ (List.mem_of_getElem? (i := 149) (by decide +kernel))) (by decide +kernel)
theorem k_150 : (Cond.selects RX3 yX3_becomeFirst yX3_becomeFirst) ∈ tb := tb_of (List.mem_append_right _ (List.mem_of_getElem? (i := 150) (by decide +kernel))) (by decide +kernel)
theorem k_151 : (Cond.code yX3_becomeFirst cX3_becomeFirst 1 none) ∈ tb := tb_of (List.mem_append_right _ (List.mem_of_getElem? (i := 151) (by decide +kernel))) (by decide +kernel)
theorem k_152 : (Cond.methodLink RX3 22 yX3_begin) ∈ tb := tb_of (List.mem_append_right _ (List.mem_of_getElem? (i := 152) (by decide +kernel))) (by decide +kernel)
theorem k_153 : (Cond.instanceMethod yX3_begin) ∈ tb := tb_of (List.mem_append_right _ (List.mem_of_getElem? (i := 153) (by decide +kernel))) (by decide +kernel)
theorem k_154 : (Cond.selects RX3 yX3_begin yX3_begin) ∈ tb := tb_of (List.mem_append_right _ (List.mem_of_getElem? (i := 154) (by decide +kernel))) (by decide +kernel)
theorem k_155 : (Cond.code yX3_begin cX3_begin 1 none) ∈ tb := tb_of (List.mem_append_right _ (List.mem_of_getElem? (i := 155) (by decide +kernel))) (by decide +kernel)
theorem k_156 : (Cond.methodLink RX3 25 yX3_put) ∈ tb := tb_of (List.mem_append_right _ (List.mem_of_getElem? (i := 156) (by decide +kernel))) (by decide +kernel)
theorem k_157 : (Cond.instanceMethod yX3_put) ∈ tb := tb_of (List.mem_append_right _ (List.mem_of_getElem? (i := 157) (by decide +kernel))) (by decide +kernel)
theorem k_158 : (Cond.selects RX3 yX3_put yX3_put) ∈ tb := tb_of (List.mem_append_right _ (List.mem_of_getElem? (i := 158) (by decide +kernel))) (by decide +kernel)
theorem k_159 : (Cond.code yX3_put cX3_put 2 none) ∈ tb := tb_of (List.mem_append_right _ (List.mem_of_getElem? (i := 159) (by decide +kernel))) (by decide +kernel)
theorem k_160 : (Cond.methodLink RX3 29 yX3_endPart) ∈ tb := tb_of (List.mem_append_right _ (List.mem_of_getElem? (i := 160) (by decide +kernel))) (by decide +kernel)
theorem k_161 : (Cond.instanceMethod yX3_endPart) ∈ tb := tb_of (List.mem_append_right _ (List.mem_of_getElem? (i := 161) (by decide +kernel))) (by decide +kernel)
theorem k_162 : (Cond.selects RX3 yX3_endPart yX3_endPart) ∈ tb := tb_of (List.mem_append_right _ (List.mem_of_getElem? (i := 162) (by decide +kernel))) (by decide +kernel)
theorem k_163 : (Cond.code yX3_endPart cX3_endPart 2 none) ∈ tb := tb_of (List.mem_append_right _ (List.mem_of_getElem? (i := 163) (by decide +kernel))) (by decide +kernel)
theorem k_164 : (Cond.fieldLink RX5 10 "SamePlace" "path" "LSamePlace$Path;") ∈ tb := tb_of (List.mem_append_right _ (List.mem_of_getElem? (i := 164) (by decide +kernel))) (by decide +kernel)
theorem k_165 : (Cond.fieldLink RX5 16 "SamePlace" "kept" "LSamePlace$Path;") ∈ tb := tb_of (List.mem_append_right _ (List.mem_of_getElem? (i := 165) (by decide +kernel))) (by decide +kernel)
theorem k_166 : (Cond.fieldLink RX5 302 "SamePlace" "hasImage" "Z") ∈ tb := tb_of (List.mem_append_right _ (List.mem_of_getElem? (i := 166) (by decide +kernel))) (by decide +kernel)
theorem k_167 : (Cond.fieldLink RX5 22 "SamePlace" "tape" "LSamePlace$Tape;") ∈ tb := tb_of (List.mem_append_right _ (List.mem_of_getElem? (i := 167) (by decide +kernel))) (by decide +kernel)
theorem k_168 : (Cond.fieldLink RX5 28 "SamePlace" "texts" "[LSamePlace$Text;") ∈ tb := tb_of (List.mem_append_right _ (List.mem_of_getElem? (i := 168) (by decide +kernel))) (by decide +kernel)
theorem k_169 : (Cond.fieldLink RX5 66 "SamePlace" "textCount" "I") ∈ tb := tb_of (List.mem_append_right _ (List.mem_of_getElem? (i := 169) (by decide +kernel))) (by decide +kernel)
theorem k_170 : (Cond.fieldLink RX5 34 "SamePlace" "sheets" "[LSamePlace$Sheet;") ∈ tb := tb_of (List.mem_append_right _ (List.mem_of_getElem? (i := 170) (by decide +kernel))) (by decide +kernel)
theorem k_171 : (Cond.fieldLink RX5 38 "SamePlace" "ones" "[I") ∈ tb := tb_of (List.mem_append_right _ (List.mem_of_getElem? (i := 171) (by decide +kernel))) (by decide +kernel)
theorem k_172 : (Cond.fieldLink RX5 42 "SamePlace" "others" "[I") ∈ tb := tb_of (List.mem_append_right _ (List.mem_of_getElem? (i := 172) (by decide +kernel))) (by decide +kernel)
theorem k_173 : (Cond.fieldLink RX5 45 "SamePlace" "names" "[I") ∈ tb := tb_of (List.mem_append_right _ (List.mem_of_getElem? (i := 173) (by decide +kernel))) (by decide +kernel)
theorem k_174 : (Cond.fieldLink RX5 48 "SamePlace" "stack" "[I") ∈ tb := tb_of (List.mem_append_right _ (List.mem_of_getElem? (i := 174) (by decide +kernel))) (by decide +kernel)
theorem k_175 : (Cond.fieldLink RX5 51 "SamePlace" "unlike" "[I") ∈ tb := tb_of (List.mem_append_right _ (List.mem_of_getElem? (i := 175) (by decide +kernel))) (by decide +kernel)
theorem k_176 : (Cond.fieldLink RX5 57 "SamePlace" "sketch" "LSamePlace$Way;") ∈ tb := tb_of (List.mem_append_right _ (List.mem_of_getElem? (i := 176) (by decide +kernel))) (by decide +kernel)
theorem k_204 : (Cond.methodLink RL 13 yX5_set) ∈ tb := tb_of (List.mem_append_right _ (List.mem_of_getElem? (i := 204) (by decide +kernel))) (by decide +kernel)
theorem k_205 : (Cond.instanceMethod yX5_set) ∈ tb := tb_of (List.mem_append_right _ (List.mem_of_getElem? (i := 205) (by decide +kernel))) (by decide +kernel)
theorem k_206 : (Cond.selects RX5 yX5_set yX5_set) ∈ tb := tb_of (List.mem_append_right _ (List.mem_of_getElem? (i := 206) (by decide +kernel))) (by decide +kernel)
theorem k_207 : (Cond.code yX5_set cX5_set 4 (some .int)) ∈ tb := tb_of (List.mem_append_right _ (List.mem_of_getElem? (i := 207) (by decide +kernel))) (by decide +kernel)
theorem k_208 : (Cond.methodLink RX5 70 yX5_changeLong) ∈ tb := tb_of (List.mem_append_right _ (List.mem_of_getElem? (i := 208) (by decide +kernel))) (by decide +kernel)
theorem k_210 : (Cond.instanceMethod yX5_changeLong) ∈ tb := tb_of (List.mem_append_right _ (List.mem_of_getElem? (i := 210) (by decide +kernel))) (by decide +kernel)
theorem k_211 : (Cond.code yX5_changeLong cX5_changeLong 3 (some .int)) ∈ tb := tb_of (List.mem_append_right _ (List.mem_of_getElem? (i := 211) (by decide +kernel))) (by decide +kernel)
theorem k_212 : (Cond.methodLink RX5 78 yX0_farthestPlace) ∈ tb := tb_of (List.mem_append_right _ (List.mem_of_getElem? (i := 212) (by decide +kernel))) (by decide +kernel)
theorem k_213 : (Cond.instanceMethod yX0_farthestPlace) ∈ tb := tb_of (List.mem_append_right _ (List.mem_of_getElem? (i := 213) (by decide +kernel))) (by decide +kernel)
theorem k_214 : (Cond.selects RX0 yX0_farthestPlace yX0_farthestPlace) ∈ tb := tb_of (List.mem_append_right _ (List.mem_of_getElem? (i := 214) (by decide +kernel))) (by decide +kernel)
theorem k_215 : (Cond.code yX0_farthestPlace cX0_farthestPlace 3 (some .int)) ∈ tb := tb_of (List.mem_append_right _ (List.mem_of_getElem? (i := 215) (by decide +kernel))) (by decide +kernel)
theorem k_216 : (Cond.methodLink RX0 33 yX4_farthestPlace) ∈ tb := tb_of (List.mem_append_right _ (List.mem_of_getElem? (i := 216) (by decide +kernel))) (by decide +kernel)
theorem k_217 : (Cond.instanceMethod yX4_farthestPlace) ∈ tb := tb_of (List.mem_append_right _ (List.mem_of_getElem? (i := 217) (by decide +kernel))) (by decide +kernel)
theorem k_218 : (Cond.selects RX4 yX4_farthestPlace yX4_farthestPlace) ∈ tb := tb_of (List.mem_append_right _ (List.mem_of_getElem? (i := 218) (by decide +kernel))) (by decide +kernel)
theorem k_219 : (Cond.code yX4_farthestPlace cX4_farthestPlace 3 (some .int)) ∈ tb := tb_of (List.mem_append_right _ (List.mem_of_getElem? (i := 219) (by decide +kernel))) (by decide +kernel)
theorem k_220 : (Cond.methodLink RX4 35 Lib.Math.max.name) ∈ tb := tb_of (List.mem_append_right _ (List.mem_of_getElem? (i := 220) (by decide +kernel))) (by decide +kernel)
theorem k_223 : (Cond.methodLink RX0 37 Lib.Math.max.name) ∈ tb := tb_of (List.mem_append_right _ (List.mem_of_getElem? (i := 223) (by decide +kernel))) (by decide +kernel)
theorem k_224 : (Cond.methodLink RX5 74 yX5_changeNumber) ∈ tb := tb_of (List.mem_append_right _ (List.mem_of_getElem? (i := 224) (by decide +kernel))) (by decide +kernel)
theorem k_226 : (Cond.instanceMethod yX5_changeNumber) ∈ tb := tb_of (List.mem_append_right _ (List.mem_of_getElem? (i := 226) (by decide +kernel))) (by decide +kernel)
theorem k_227 : (Cond.code yX5_changeNumber cX5_changeNumber 4 (some .int)) ∈ tb := tb_of (List.mem_append_right _ (List.mem_of_getElem? (i := 227) (by decide +kernel))) (by decide +kernel)
theorem k_228 : (Cond.methodLink RX5 85 yX0_has) ∈ tb := tb_of (List.mem_append_right _ (List.mem_of_getElem? (i := 228) (by decide +kernel))) (by decide +kernel)
theorem k_229 : (Cond.instanceMethod yX0_has) ∈ tb := tb_of (List.mem_append_right _ (List.mem_of_getElem? (i := 229) (by decide +kernel))) (by decide +kernel)
theorem k_230 : (Cond.selects RX0 yX0_has yX0_has) ∈ tb := tb_of (List.mem_append_right _ (List.mem_of_getElem? (i := 230) (by decide +kernel))) (by decide +kernel)
theorem k_231 : (Cond.code yX0_has cX0_has 2 (some .boolean)) ∈ tb := tb_of (List.mem_append_right _ (List.mem_of_getElem? (i := 231) (by decide +kernel))) (by decide +kernel)
theorem k_232 : (Cond.methodLink RX5 89 yX5_isNumber) ∈ tb := tb_of (List.mem_append_right _ (List.mem_of_getElem? (i := 232) (by decide +kernel))) (by decide +kernel)
theorem k_233 : (Cond.static yX5_isNumber) ∈ tb := tb_of (List.mem_append_right _ (List.mem_of_getElem? (i := 233) (by decide +kernel))) (by decide +kernel)
theorem k_234 : (Cond.code yX5_isNumber cX5_isNumber 1 (some .boolean)) ∈ tb := tb_of (List.mem_append_right _ (List.mem_of_getElem? (i := 234) (by decide +kernel))) (by decide +kernel)
theorem k_235 : (Cond.methodLink RL 18 yX5_way) ∈ tb := tb_of (List.mem_append_right _ (List.mem_of_getElem? (i := 235) (by decide +kernel))) (by decide +kernel)
theorem k_236 : (Cond.instanceMethod yX5_way) ∈ tb := tb_of (List.mem_append_right _ (List.mem_of_getElem? (i := 236) (by decide +kernel))) (by decide +kernel)
theorem k_237 : (Cond.selects RX5 yX5_way yX5_way) ∈ tb := tb_of (List.mem_append_right _ (List.mem_of_getElem? (i := 237) (by decide +kernel))) (by decide +kernel)
theorem k_238 : (Cond.code yX5_way cX5_way 3 (some .int)) ∈ tb := tb_of (List.mem_append_right _ (List.mem_of_getElem? (i := 238) (by decide +kernel))) (by decide +kernel)
theorem k_239 : (Cond.methodLink RX5 99 yX5_isKind) ∈ tb := tb_of (List.mem_append_right _ (List.mem_of_getElem? (i := 239) (by decide +kernel))) (by decide +kernel)
theorem k_240 : (Cond.static yX5_isKind) ∈ tb := tb_of (List.mem_append_right _ (List.mem_of_getElem? (i := 240) (by decide +kernel))) (by decide +kernel)
theorem k_241 : (Cond.code yX5_isKind cX5_isKind 1 (some .boolean)) ∈ tb := tb_of (List.mem_append_right _ (List.mem_of_getElem? (i := 241) (by decide +kernel))) (by decide +kernel)
theorem k_242 : (Cond.methodLink RX5 105 yX4_begin) ∈ tb := tb_of (List.mem_append_right _ (List.mem_of_getElem? (i := 242) (by decide +kernel))) (by decide +kernel)
theorem k_243 : (Cond.instanceMethod yX4_begin) ∈ tb := tb_of (List.mem_append_right _ (List.mem_of_getElem? (i := 243) (by decide +kernel))) (by decide +kernel)
theorem k_244 : (Cond.selects RX4 yX4_begin yX4_begin) ∈ tb := tb_of (List.mem_append_right _ (List.mem_of_getElem? (i := 244) (by decide +kernel))) (by decide +kernel)
theorem k_245 : (Cond.code yX4_begin cX4_begin 3 none) ∈ tb := tb_of (List.mem_append_right _ (List.mem_of_getElem? (i := 245) (by decide +kernel))) (by decide +kernel)
theorem k_246 : (Cond.methodLink RL 23 yX5_point) ∈ tb := tb_of (List.mem_append_right _ (List.mem_of_getElem? (i := 246) (by decide +kernel))) (by decide +kernel)
theorem k_247 : (Cond.instanceMethod yX5_point) ∈ tb := tb_of (List.mem_append_right _ (List.mem_of_getElem? (i := 247) (by decide +kernel))) (by decide +kernel)
theorem k_248 : (Cond.selects RX5 yX5_point yX5_point) ∈ tb := tb_of (List.mem_append_right _ (List.mem_of_getElem? (i := 248) (by decide +kernel))) (by decide +kernel)
theorem k_249 : (Cond.code yX5_point cX5_point 4 (some .int)) ∈ tb := tb_of (List.mem_append_right _ (List.mem_of_getElem? (i := 249) (by decide +kernel))) (by decide +kernel)
theorem k_250 : (Cond.methodLink RX5 109 yX5_addPoint) ∈ tb := tb_of (List.mem_append_right _ (List.mem_of_getElem? (i := 250) (by decide +kernel))) (by decide +kernel)
theorem k_252 : (Cond.instanceMethod yX5_addPoint) ∈ tb := tb_of (List.mem_append_right _ (List.mem_of_getElem? (i := 252) (by decide +kernel))) (by decide +kernel)
theorem k_253 : (Cond.code yX5_addPoint cX5_addPoint 5 (some .int)) ∈ tb := tb_of (List.mem_append_right _ (List.mem_of_getElem? (i := 253) (by decide +kernel))) (by decide +kernel)
theorem k_254 : (Cond.methodLink RX5 113 yX5_isMinute) ∈ tb := tb_of (List.mem_append_right _ (List.mem_of_getElem? (i := 254) (by decide +kernel))) (by decide +kernel)
theorem k_255 : (Cond.static yX5_isMinute) ∈ tb := tb_of (List.mem_append_right _ (List.mem_of_getElem? (i := 255) (by decide +kernel))) (by decide +kernel)
theorem k_256 : (Cond.code yX5_isMinute cX5_isMinute 1 (some .boolean)) ∈ tb := tb_of (List.mem_append_right _ (List.mem_of_getElem? (i := 256) (by decide +kernel))) (by decide +kernel)
theorem k_257 : (Cond.methodLink RX5 116 yX4_endsAhead) ∈ tb := tb_of (List.mem_append_right _ (List.mem_of_getElem? (i := 257) (by decide +kernel))) (by decide +kernel)
theorem k_258 : (Cond.instanceMethod yX4_endsAhead) ∈ tb := tb_of (List.mem_append_right _ (List.mem_of_getElem? (i := 258) (by decide +kernel))) (by decide +kernel)
theorem k_259 : (Cond.selects RX4 yX4_endsAhead yX4_endsAhead) ∈ tb := tb_of (List.mem_append_right _ (List.mem_of_getElem? (i := 259) (by decide +kernel))) (by decide +kernel)
theorem k_260 : (Cond.code yX4_endsAhead cX4_endsAhead 2 (some .boolean)) ∈ tb := tb_of (List.mem_append_right _ (List.mem_of_getElem? (i := 260) (by decide +kernel))) (by decide +kernel)
theorem k_261 : (Cond.methodLink RX5 120 yX4_add) ∈ tb := tb_of (List.mem_append_right _ (List.mem_of_getElem? (i := 261) (by decide +kernel))) (by decide +kernel)
theorem k_262 : (Cond.instanceMethod yX4_add) ∈ tb := tb_of (List.mem_append_right _ (List.mem_of_getElem? (i := 262) (by decide +kernel))) (by decide +kernel)
theorem k_263 : (Cond.selects RX4 yX4_add yX4_add) ∈ tb := tb_of (List.mem_append_right _ (List.mem_of_getElem? (i := 263) (by decide +kernel))) (by decide +kernel)
theorem k_264 : (Cond.code yX4_add cX4_add 3 none) ∈ tb := tb_of (List.mem_append_right _ (List.mem_of_getElem? (i := 264) (by decide +kernel))) (by decide +kernel)
theorem k_265 : (Cond.methodLink RL 27 yX5_clear) ∈ tb := tb_of (List.mem_append_right _ (List.mem_of_getElem? (i := 265) (by decide +kernel))) (by decide +kernel)
theorem k_266 : (Cond.instanceMethod yX5_clear) ∈ tb := tb_of (List.mem_append_right _ (List.mem_of_getElem? (i := 266) (by decide +kernel))) (by decide +kernel)
theorem k_267 : (Cond.selects RX5 yX5_clear yX5_clear) ∈ tb := tb_of (List.mem_append_right _ (List.mem_of_getElem? (i := 267) (by decide +kernel))) (by decide +kernel)
theorem k_268 : (Cond.code yX5_clear cX5_clear 3 (some .int)) ∈ tb := tb_of (List.mem_append_right _ (List.mem_of_getElem? (i := 268) (by decide +kernel))) (by decide +kernel)
theorem k_269 : (Cond.methodLink RL 32 yX5_told) ∈ tb := tb_of (List.mem_append_right _ (List.mem_of_getElem? (i := 269) (by decide +kernel))) (by decide +kernel)
theorem k_270 : (Cond.instanceMethod yX5_told) ∈ tb := tb_of (List.mem_append_right _ (List.mem_of_getElem? (i := 270) (by decide +kernel))) (by decide +kernel)
theorem k_271 : (Cond.selects RX5 yX5_told yX5_told) ∈ tb := tb_of (List.mem_append_right _ (List.mem_of_getElem? (i := 271) (by decide +kernel))) (by decide +kernel)
theorem k_272 : (Cond.code yX5_told cX5_told 5 (some .int)) ∈ tb := tb_of (List.mem_append_right _ (List.mem_of_getElem? (i := 272) (by decide +kernel))) (by decide +kernel)
theorem k_273 : (Cond.methodLink RL 36 yX5_feed) ∈ tb := tb_of (List.mem_append_right _ (List.mem_of_getElem? (i := 273) (by decide +kernel))) (by decide +kernel)
theorem k_274 : (Cond.instanceMethod yX5_feed) ∈ tb := tb_of (List.mem_append_right _ (List.mem_of_getElem? (i := 274) (by decide +kernel))) (by decide +kernel)
theorem k_275 : (Cond.selects RX5 yX5_feed yX5_feed) ∈ tb := tb_of (List.mem_append_right _ (List.mem_of_getElem? (i := 275) (by decide +kernel))) (by decide +kernel)
theorem k_276 : (Cond.code yX5_feed cX5_feed 2 (some .int)) ∈ tb := tb_of (List.mem_append_right _ (List.mem_of_getElem? (i := 276) (by decide +kernel))) (by decide +kernel)
theorem k_277 : (Cond.methodLink RX5 133 yX2_add) ∈ tb := tb_of (List.mem_append_right _ (List.mem_of_getElem? (i := 277) (by decide +kernel))) (by decide +kernel)
theorem k_278 : (Cond.instanceMethod yX2_add) ∈ tb := tb_of (List.mem_append_right _ (List.mem_of_getElem? (i := 278) (by decide +kernel))) (by decide +kernel)
theorem k_279 : (Cond.selects RX2 yX2_add yX2_add) ∈ tb := tb_of (List.mem_append_right _ (List.mem_of_getElem? (i := 279) (by decide +kernel))) (by decide +kernel)
theorem k_280 : (Cond.code yX2_add cX2_add 2 none) ∈ tb := tb_of (List.mem_append_right _ (List.mem_of_getElem? (i := 280) (by decide +kernel))) (by decide +kernel)
theorem k_281 : (Cond.methodLink RL 40 yX5_text) ∈ tb := tb_of (List.mem_append_right _ (List.mem_of_getElem? (i := 281) (by decide +kernel))) (by decide +kernel)
theorem k_282 : (Cond.instanceMethod yX5_text) ∈ tb := tb_of (List.mem_append_right _ (List.mem_of_getElem? (i := 282) (by decide +kernel))) (by decide +kernel)
theorem k_283 : (Cond.selects RX5 yX5_text yX5_text) ∈ tb := tb_of (List.mem_append_right _ (List.mem_of_getElem? (i := 283) (by decide +kernel))) (by decide +kernel)
theorem k_284 : (Cond.code yX5_text cX5_text 2 (some .int)) ∈ tb := tb_of (List.mem_append_right _ (List.mem_of_getElem? (i := 284) (by decide +kernel))) (by decide +kernel)
theorem k_285 : (Cond.methodLink RX5 136 yX2_readInto) ∈ tb := tb_of (List.mem_append_right _ (List.mem_of_getElem? (i := 285) (by decide +kernel))) (by decide +kernel)
theorem k_286 : (Cond.instanceMethod yX2_readInto) ∈ tb := tb_of (List.mem_append_right _ (List.mem_of_getElem? (i := 286) (by decide +kernel))) (by decide +kernel)
theorem k_287 : (Cond.selects RX2 yX2_readInto yX2_readInto) ∈ tb := tb_of (List.mem_append_right _ (List.mem_of_getElem? (i := 287) (by decide +kernel))) (by decide +kernel)
theorem k_288 : (Cond.code yX2_readInto cX2_readInto 3 (some .int)) ∈ tb := tb_of (List.mem_append_right _ (List.mem_of_getElem? (i := 288) (by decide +kernel))) (by decide +kernel)
theorem k_289 : (Cond.methodLink RX2 29 yX3_begin) ∈ tb := tb_of (List.mem_append_right _ (List.mem_of_getElem? (i := 289) (by decide +kernel))) (by decide +kernel)
theorem k_290 : (Cond.methodLink RX2 34 yX2_advance) ∈ tb := tb_of (List.mem_append_right _ (List.mem_of_getElem? (i := 290) (by decide +kernel))) (by decide +kernel)
theorem k_292 : (Cond.instanceMethod yX2_advance) ∈ tb := tb_of (List.mem_append_right _ (List.mem_of_getElem? (i := 292) (by decide +kernel))) (by decide +kernel)
theorem k_293 : (Cond.code yX2_advance cX2_advance 2 none) ∈ tb := tb_of (List.mem_append_right _ (List.mem_of_getElem? (i := 293) (by decide +kernel))) (by decide +kernel)
theorem k_294 : (Cond.methodLink RX2 73 yX2_isLetter) ∈ tb := tb_of (List.mem_append_right _ (List.mem_of_getElem? (i := 294) (by decide +kernel))) (by decide +kernel)
theorem k_295 : (Cond.static yX2_isLetter) ∈ tb := tb_of (List.mem_append_right _ (List.mem_of_getElem? (i := 295) (by decide +kernel))) (by decide +kernel)
theorem k_296 : (Cond.code yX2_isLetter cX2_isLetter 1 (some .boolean)) ∈ tb := tb_of (List.mem_append_right _ (List.mem_of_getElem? (i := 296) (by decide +kernel))) (by decide +kernel)
theorem k_297 : (Cond.methodLink RX2 76 yX2_readWord) ∈ tb := tb_of (List.mem_append_right _ (List.mem_of_getElem? (i := 297) (by decide +kernel))) (by decide +kernel)
theorem k_299 : (Cond.instanceMethod yX2_readWord) ∈ tb := tb_of (List.mem_append_right _ (List.mem_of_getElem? (i := 299) (by decide +kernel))) (by decide +kernel)
theorem k_300 : (Cond.code yX2_readWord cX2_readWord 4 none) ∈ tb := tb_of (List.mem_append_right _ (List.mem_of_getElem? (i := 300) (by decide +kernel))) (by decide +kernel)
theorem k_302 : (Cond.methodLink RX2 95 yJ0_length_8abf5) ∈ tb := tb_of (List.mem_append_right _ (List.mem_of_getElem? (i := 302) (by decide +kernel))) (by decide +kernel)
theorem k_303 : (Cond.instanceMethod yJ0_length_8abf5) ∈ tb := tb_of (List.mem_append_right _ (List.mem_of_getElem? (i := 303) (by decide +kernel))) (by decide +kernel)
theorem k_304 : (Cond.selects RJ0 yJ0_length_8abf5 yJ0_length_8abf5) ∈ tb := tb_of (List.mem_append_right _ (List.mem_of_getElem? (i := 304) (by decide +kernel))) (by decide +kernel)
theorem k_305 : (Cond.code yJ0_length_8abf5 cJ0_length_8abf5 1 (some .int)) ∈ tb := tb_of (List.mem_append_right _ (List.mem_of_getElem? (i := 305) (by decide +kernel))) (by decide +kernel)
theorem k_306 : (Cond.methodLink RJ0 335 yJ0_coder_7d493) ∈ tb := tb_of (List.mem_append_right _ (List.mem_of_getElem? (i := 306) (by decide +kernel))) (by decide +kernel)
theorem k_307 : (Cond.instanceMethod yJ0_coder_7d493) ∈ tb := tb_of (List.mem_append_right _ (List.mem_of_getElem? (i := 307) (by decide +kernel))) (by decide +kernel)
theorem k_308 : (Cond.selects RJ0 yJ0_coder_7d493 yJ0_coder_7d493) ∈ tb := tb_of (List.mem_append_right _ (List.mem_of_getElem? (i := 308) (by decide +kernel))) (by decide +kernel)
theorem k_309 : (Cond.code yJ0_coder_7d493 cJ0_coder_7d493 1 (some .byte)) ∈ tb := tb_of (List.mem_append_right _ (List.mem_of_getElem? (i := 309) (by decide +kernel))) (by decide +kernel)
theorem k_310 : (Cond.fieldLink RJ0 38 "java/lang/String" "COMPACT_STRINGS" "Z") ∈ tb := tb_of (List.mem_append_right _ (List.mem_of_getElem? (i := 310) (by decide +kernel))) (by decide +kernel)
theorem k_312 : (Cond.methodLink RX2 99 yJ0_charAt_5068e) ∈ tb := tb_of (List.mem_append_right _ (List.mem_of_getElem? (i := 312) (by decide +kernel))) (by decide +kernel)
theorem k_313 : (Cond.instanceMethod yJ0_charAt_5068e) ∈ tb := tb_of (List.mem_append_right _ (List.mem_of_getElem? (i := 313) (by decide +kernel))) (by decide +kernel)
theorem k_314 : (Cond.selects RJ0 yJ0_charAt_5068e yJ0_charAt_5068e) ∈ tb := tb_of (List.mem_append_right _ (List.mem_of_getElem? (i := 314) (by decide +kernel))) (by decide +kernel)
theorem k_315 : (Cond.code yJ0_charAt_5068e cJ0_charAt_5068e 2 (some .char)) ∈ tb := tb_of (List.mem_append_right _ (List.mem_of_getElem? (i := 315) (by decide +kernel))) (by decide +kernel)
theorem k_316 : (Cond.methodLink RJ0 492 yJ0_isLatin1_aae02) ∈ tb := tb_of (List.mem_append_right _ (List.mem_of_getElem? (i := 316) (by decide +kernel))) (by decide +kernel)
theorem k_317 : (Cond.instanceMethod yJ0_isLatin1_aae02) ∈ tb := tb_of (List.mem_append_right _ (List.mem_of_getElem? (i := 317) (by decide +kernel))) (by decide +kernel)
theorem k_318 : (Cond.selects RJ0 yJ0_isLatin1_aae02 yJ0_isLatin1_aae02) ∈ tb := tb_of (List.mem_append_right _ (List.mem_of_getElem? (i := 318) (by decide +kernel))) (by decide +kernel)
theorem k_319 : (Cond.code yJ0_isLatin1_aae02 cJ0_isLatin1_aae02 1 (some .boolean)) ∈ tb := tb_of (List.mem_append_right _ (List.mem_of_getElem? (i := 319) (by decide +kernel))) (by decide +kernel)
theorem k_320 : (Cond.methodLink RJ0 495 yJ1_charAt_3b067) ∈ tb := tb_of (List.mem_append_right _ (List.mem_of_getElem? (i := 320) (by decide +kernel))) (by decide +kernel)
theorem k_321 : (Cond.static yJ1_charAt_3b067) ∈ tb := tb_of (List.mem_append_right _ (List.mem_of_getElem? (i := 321) (by decide +kernel))) (by decide +kernel)
theorem k_322 : (Cond.code yJ1_charAt_3b067 cJ1_charAt_3b067 2 (some .char)) ∈ tb := tb_of (List.mem_append_right _ (List.mem_of_getElem? (i := 322) (by decide +kernel))) (by decide +kernel)
theorem k_323 : (Cond.methodLink RJ1 9 yJ0_checkIndex_df160) ∈ tb := tb_of (List.mem_append_right _ (List.mem_of_getElem? (i := 323) (by decide +kernel))) (by decide +kernel)
theorem k_324 : (Cond.static yJ0_checkIndex_df160) ∈ tb := tb_of (List.mem_append_right _ (List.mem_of_getElem? (i := 324) (by decide +kernel))) (by decide +kernel)
theorem k_325 : (Cond.code yJ0_checkIndex_df160 cJ0_checkIndex_df160 2 none) ∈ tb := tb_of (List.mem_append_right _ (List.mem_of_getElem? (i := 325) (by decide +kernel))) (by decide +kernel)
theorem k_326 : (Cond.fieldLink RJ0 1053 "jdk/internal/util/Preconditions" "SIOOBE_FORMATTER" "Ljava/util/function/BiFunction;") ∈ tb := tb_of (List.mem_append_right _ (List.mem_of_getElem? (i := 326) (by decide +kernel))) (by decide +kernel)
theorem k_328 : (Cond.methodLink RJ0 1059 yJ3_checkIndex_8e157) ∈ tb := tb_of (List.mem_append_right _ (List.mem_of_getElem? (i := 328) (by decide +kernel))) (by decide +kernel)
theorem k_329 : (Cond.static yJ3_checkIndex_8e157) ∈ tb := tb_of (List.mem_append_right _ (List.mem_of_getElem? (i := 329) (by decide +kernel))) (by decide +kernel)
theorem k_330 : (Cond.code yJ3_checkIndex_8e157 cJ3_checkIndex_8e157 3 (some .int)) ∈ tb := tb_of (List.mem_append_right _ (List.mem_of_getElem? (i := 330) (by decide +kernel))) (by decide +kernel)
theorem k_350 : (Cond.methodLink RX2 103 yX2_isWord) ∈ tb := tb_of (List.mem_append_right _ (List.mem_of_getElem? (i := 350) (by decide +kernel))) (by decide +kernel)
theorem k_352 : (Cond.instanceMethod yX2_isWord) ∈ tb := tb_of (List.mem_append_right _ (List.mem_of_getElem? (i := 352) (by decide +kernel))) (by decide +kernel)
theorem k_353 : (Cond.code yX2_isWord cX2_isWord 4 (some .boolean)) ∈ tb := tb_of (List.mem_append_right _ (List.mem_of_getElem? (i := 353) (by decide +kernel))) (by decide +kernel)
theorem k_354 : (Cond.methodLink RX2 79 yX2_isDigit) ∈ tb := tb_of (List.mem_append_right _ (List.mem_of_getElem? (i := 354) (by decide +kernel))) (by decide +kernel)
theorem k_355 : (Cond.static yX2_isDigit) ∈ tb := tb_of (List.mem_append_right _ (List.mem_of_getElem? (i := 355) (by decide +kernel))) (by decide +kernel)
theorem k_356 : (Cond.code yX2_isDigit cX2_isDigit 1 (some .boolean)) ∈ tb := tb_of (List.mem_append_right _ (List.mem_of_getElem? (i := 356) (by decide +kernel))) (by decide +kernel)
theorem k_357 : (Cond.methodLink RX2 82 yX2_readNumber) ∈ tb := tb_of (List.mem_append_right _ (List.mem_of_getElem? (i := 357) (by decide +kernel))) (by decide +kernel)
theorem k_359 : (Cond.instanceMethod yX2_readNumber) ∈ tb := tb_of (List.mem_append_right _ (List.mem_of_getElem? (i := 359) (by decide +kernel))) (by decide +kernel)
theorem k_360 : (Cond.code yX2_readNumber cX2_readNumber 1 none) ∈ tb := tb_of (List.mem_append_right _ (List.mem_of_getElem? (i := 360) (by decide +kernel))) (by decide +kernel)
theorem k_362 : (Cond.methodLink RX2 87 yJ0_indexOf_0f7a4) ∈ tb := tb_of (List.mem_append_right _ (List.mem_of_getElem? (i := 362) (by decide +kernel))) (by decide +kernel)
theorem k_363 : (Cond.instanceMethod yJ0_indexOf_0f7a4) ∈ tb := tb_of (List.mem_append_right _ (List.mem_of_getElem? (i := 363) (by decide +kernel))) (by decide +kernel)
theorem k_364 : (Cond.selects RJ0 yJ0_indexOf_0f7a4 yJ0_indexOf_0f7a4) ∈ tb := tb_of (List.mem_append_right _ (List.mem_of_getElem? (i := 364) (by decide +kernel))) (by decide +kernel)
theorem k_365 : (Cond.code yJ0_indexOf_0f7a4 cJ0_indexOf_0f7a4 2 (some .int)) ∈ tb := tb_of (List.mem_append_right _ (List.mem_of_getElem? (i := 365) (by decide +kernel))) (by decide +kernel)
theorem k_366 : (Cond.methodLink RJ0 633 yJ0_indexOf_7cf53) ∈ tb := tb_of (List.mem_append_right _ (List.mem_of_getElem? (i := 366) (by decide +kernel))) (by decide +kernel)
theorem k_367 : (Cond.instanceMethod yJ0_indexOf_7cf53) ∈ tb := tb_of (List.mem_append_right _ (List.mem_of_getElem? (i := 367) (by decide +kernel))) (by decide +kernel)
theorem k_368 : (Cond.selects RJ0 yJ0_indexOf_7cf53 yJ0_indexOf_7cf53) ∈ tb := tb_of (List.mem_append_right _ (List.mem_of_getElem? (i := 368) (by decide +kernel))) (by decide +kernel)
theorem k_369 : (Cond.code yJ0_indexOf_7cf53 cJ0_indexOf_7cf53 3 (some .int)) ∈ tb := tb_of (List.mem_append_right _ (List.mem_of_getElem? (i := 369) (by decide +kernel))) (by decide +kernel)
theorem k_370 : (Cond.methodLink RJ0 505 yJ0_length_8abf5) ∈ tb := tb_of (List.mem_append_right _ (List.mem_of_getElem? (i := 370) (by decide +kernel))) (by decide +kernel)
theorem k_371 : (Cond.methodLink RJ0 637 yJ1_indexOf_4cfef) ∈ tb := tb_of (List.mem_append_right _ (List.mem_of_getElem? (i := 371) (by decide +kernel))) (by decide +kernel)
theorem k_372 : (Cond.static yJ1_indexOf_4cfef) ∈ tb := tb_of (List.mem_append_right _ (List.mem_of_getElem? (i := 372) (by decide +kernel))) (by decide +kernel)
theorem k_373 : (Cond.code yJ1_indexOf_4cfef cJ1_indexOf_4cfef 4 (some .int)) ∈ tb := tb_of (List.mem_append_right _ (List.mem_of_getElem? (i := 373) (by decide +kernel))) (by decide +kernel)
theorem k_374 : (Cond.methodLink RJ1 88 yJ1_canEncode_9a6ad) ∈ tb := tb_of (List.mem_append_right _ (List.mem_of_getElem? (i := 374) (by decide +kernel))) (by decide +kernel)
theorem k_375 : (Cond.static yJ1_canEncode_9a6ad) ∈ tb := tb_of (List.mem_append_right _ (List.mem_of_getElem? (i := 375) (by decide +kernel))) (by decide +kernel)
theorem k_376 : (Cond.code yJ1_canEncode_9a6ad cJ1_canEncode_9a6ad 1 (some .boolean)) ∈ tb := tb_of (List.mem_append_right _ (List.mem_of_getElem? (i := 376) (by decide +kernel))) (by decide +kernel)
theorem k_377 : (Cond.methodLink RJ1 92 Lib.Math.max.name) ∈ tb := tb_of (List.mem_append_right _ (List.mem_of_getElem? (i := 377) (by decide +kernel))) (by decide +kernel)
theorem k_378 : (Cond.methodLink RJ1 38 Lib.Math.min.name) ∈ tb := tb_of (List.mem_append_right _ (List.mem_of_getElem? (i := 378) (by decide +kernel))) (by decide +kernel)
theorem k_381 : (Cond.methodLink RJ1 95 yJ1_indexOfChar_4cfef) ∈ tb := tb_of (List.mem_append_right _ (List.mem_of_getElem? (i := 381) (by decide +kernel))) (by decide +kernel)
theorem k_382 : (Cond.static yJ1_indexOfChar_4cfef) ∈ tb := tb_of (List.mem_append_right _ (List.mem_of_getElem? (i := 382) (by decide +kernel))) (by decide +kernel)
theorem k_383 : (Cond.code yJ1_indexOfChar_4cfef cJ1_indexOfChar_4cfef 6 (some .int)) ∈ tb := tb_of (List.mem_append_right _ (List.mem_of_getElem? (i := 383) (by decide +kernel))) (by decide +kernel)
theorem k_419 : (Cond.methodLink RX2 37 yX2_expect) ∈ tb := tb_of (List.mem_append_right _ (List.mem_of_getElem? (i := 419) (by decide +kernel))) (by decide +kernel)
theorem k_421 : (Cond.instanceMethod yX2_expect) ∈ tb := tb_of (List.mem_append_right _ (List.mem_of_getElem? (i := 421) (by decide +kernel))) (by decide +kernel)
theorem k_422 : (Cond.code yX2_expect cX2_expect 2 none) ∈ tb := tb_of (List.mem_append_right _ (List.mem_of_getElem? (i := 422) (by decide +kernel))) (by decide +kernel)
theorem k_423 : (Cond.methodLink RX2 51 yX2_refuse) ∈ tb := tb_of (List.mem_append_right _ (List.mem_of_getElem? (i := 423) (by decide +kernel))) (by decide +kernel)
theorem k_425 : (Cond.instanceMethod yX2_refuse) ∈ tb := tb_of (List.mem_append_right _ (List.mem_of_getElem? (i := 425) (by decide +kernel))) (by decide +kernel)
theorem k_426 : (Cond.code yX2_refuse cX2_refuse 1 none) ∈ tb := tb_of (List.mem_append_right _ (List.mem_of_getElem? (i := 426) (by decide +kernel))) (by decide +kernel)
theorem k_427 : (Cond.methodLink RX2 41 yX2_phrase) ∈ tb := tb_of (List.mem_append_right _ (List.mem_of_getElem? (i := 427) (by decide +kernel))) (by decide +kernel)
theorem k_429 : (Cond.instanceMethod yX2_phrase) ∈ tb := tb_of (List.mem_append_right _ (List.mem_of_getElem? (i := 429) (by decide +kernel))) (by decide +kernel)
theorem k_430 : (Cond.code yX2_phrase cX2_phrase 6 none) ∈ tb := tb_of (List.mem_append_right _ (List.mem_of_getElem? (i := 430) (by decide +kernel))) (by decide +kernel)
theorem k_431 : (Cond.methodLink RX2 60 yX2_one) ∈ tb := tb_of (List.mem_append_right _ (List.mem_of_getElem? (i := 431) (by decide +kernel))) (by decide +kernel)
theorem k_433 : (Cond.instanceMethod yX2_one) ∈ tb := tb_of (List.mem_append_right _ (List.mem_of_getElem? (i := 433) (by decide +kernel))) (by decide +kernel)
theorem k_434 : (Cond.code yX2_one cX2_one 5 none) ∈ tb := tb_of (List.mem_append_right _ (List.mem_of_getElem? (i := 434) (by decide +kernel))) (by decide +kernel)
theorem k_435 : (Cond.methodLink RX2 63 yX2_emit) ∈ tb := tb_of (List.mem_append_right _ (List.mem_of_getElem? (i := 435) (by decide +kernel))) (by decide +kernel)
theorem k_437 : (Cond.instanceMethod yX2_emit) ∈ tb := tb_of (List.mem_append_right _ (List.mem_of_getElem? (i := 437) (by decide +kernel))) (by decide +kernel)
theorem k_438 : (Cond.code yX2_emit cX2_emit 2 none) ∈ tb := tb_of (List.mem_append_right _ (List.mem_of_getElem? (i := 438) (by decide +kernel))) (by decide +kernel)
theorem k_439 : (Cond.methodLink RX2 57 yX3_put) ∈ tb := tb_of (List.mem_append_right _ (List.mem_of_getElem? (i := 439) (by decide +kernel))) (by decide +kernel)
theorem k_440 : (Cond.methodLink RX2 66 yX2_joins) ∈ tb := tb_of (List.mem_append_right _ (List.mem_of_getElem? (i := 440) (by decide +kernel))) (by decide +kernel)
theorem k_442 : (Cond.instanceMethod yX2_joins) ∈ tb := tb_of (List.mem_append_right _ (List.mem_of_getElem? (i := 442) (by decide +kernel))) (by decide +kernel)
theorem k_443 : (Cond.code yX2_joins cX2_joins 2 (some .boolean)) ∈ tb := tb_of (List.mem_append_right _ (List.mem_of_getElem? (i := 443) (by decide +kernel))) (by decide +kernel)
theorem k_444 : (Cond.methodLink RX2 45 yX3_endPart) ∈ tb := tb_of (List.mem_append_right _ (List.mem_of_getElem? (i := 444) (by decide +kernel))) (by decide +kernel)
theorem k_446 : (Cond.methodLink RL 45 yX5_force) ∈ tb := tb_of (List.mem_append_right _ (List.mem_of_getElem? (i := 446) (by decide +kernel))) (by decide +kernel)
theorem k_447 : (Cond.instanceMethod yX5_force) ∈ tb := tb_of (List.mem_append_right _ (List.mem_of_getElem? (i := 447) (by decide +kernel))) (by decide +kernel)
theorem k_448 : (Cond.selects RX5 yX5_force yX5_force) ∈ tb := tb_of (List.mem_append_right _ (List.mem_of_getElem? (i := 448) (by decide +kernel))) (by decide +kernel)
theorem k_449 : (Cond.code yX5_force cX5_force 3 (some .int)) ∈ tb := tb_of (List.mem_append_right _ (List.mem_of_getElem? (i := 449) (by decide +kernel))) (by decide +kernel)
theorem k_450 : (Cond.methodLink RL 49 yX5_at) ∈ tb := tb_of (List.mem_append_right _ (List.mem_of_getElem? (i := 450) (by decide +kernel))) (by decide +kernel)
theorem k_451 : (Cond.instanceMethod yX5_at) ∈ tb := tb_of (List.mem_append_right _ (List.mem_of_getElem? (i := 451) (by decide +kernel))) (by decide +kernel)
theorem k_452 : (Cond.selects RX5 yX5_at yX5_at) ∈ tb := tb_of (List.mem_append_right _ (List.mem_of_getElem? (i := 452) (by decide +kernel))) (by decide +kernel)
theorem k_453 : (Cond.code yX5_at cX5_at 3 (some .int)) ∈ tb := tb_of (List.mem_append_right _ (List.mem_of_getElem? (i := 453) (by decide +kernel))) (by decide +kernel)
theorem k_454 : (Cond.methodLink RX5 143 yX4_where) ∈ tb := tb_of (List.mem_append_right _ (List.mem_of_getElem? (i := 454) (by decide +kernel))) (by decide +kernel)
theorem k_455 : (Cond.instanceMethod yX4_where) ∈ tb := tb_of (List.mem_append_right _ (List.mem_of_getElem? (i := 455) (by decide +kernel))) (by decide +kernel)
theorem k_456 : (Cond.selects RX4 yX4_where yX4_where) ∈ tb := tb_of (List.mem_append_right _ (List.mem_of_getElem? (i := 456) (by decide +kernel))) (by decide +kernel)
theorem k_457 : (Cond.code yX4_where cX4_where 3 (some .int)) ∈ tb := tb_of (List.mem_append_right _ (List.mem_of_getElem? (i := 457) (by decide +kernel))) (by decide +kernel)
theorem k_458 : (Cond.methodLink RX4 44 yX4_unbound) ∈ tb := tb_of (List.mem_append_right _ (List.mem_of_getElem? (i := 458) (by decide +kernel))) (by decide +kernel)
theorem k_460 : (Cond.instanceMethod yX4_unbound) ∈ tb := tb_of (List.mem_append_right _ (List.mem_of_getElem? (i := 460) (by decide +kernel))) (by decide +kernel)
theorem k_461 : (Cond.code yX4_unbound cX4_unbound 3 (some .int)) ∈ tb := tb_of (List.mem_append_right _ (List.mem_of_getElem? (i := 461) (by decide +kernel))) (by decide +kernel)
theorem k_462 : (Cond.methodLink RX4 51 yX4_late) ∈ tb := tb_of (List.mem_append_right _ (List.mem_of_getElem? (i := 462) (by decide +kernel))) (by decide +kernel)
theorem k_464 : (Cond.instanceMethod yX4_late) ∈ tb := tb_of (List.mem_append_right _ (List.mem_of_getElem? (i := 464) (by decide +kernel))) (by decide +kernel)
theorem k_465 : (Cond.code yX4_late cX4_late 2 (some .int)) ∈ tb := tb_of (List.mem_append_right _ (List.mem_of_getElem? (i := 465) (by decide +kernel))) (by decide +kernel)
theorem k_466 : (Cond.methodLink RX4 61 yX4_byPoints) ∈ tb := tb_of (List.mem_append_right _ (List.mem_of_getElem? (i := 466) (by decide +kernel))) (by decide +kernel)
theorem k_468 : (Cond.instanceMethod yX4_byPoints) ∈ tb := tb_of (List.mem_append_right _ (List.mem_of_getElem? (i := 468) (by decide +kernel))) (by decide +kernel)
theorem k_469 : (Cond.code yX4_byPoints cX4_byPoints 7 (some .int)) ∈ tb := tb_of (List.mem_append_right _ (List.mem_of_getElem? (i := 469) (by decide +kernel))) (by decide +kernel)
theorem k_470 : (Cond.methodLink RX4 55 yX4_turned) ∈ tb := tb_of (List.mem_append_right _ (List.mem_of_getElem? (i := 470) (by decide +kernel))) (by decide +kernel)
theorem k_472 : (Cond.instanceMethod yX4_turned) ∈ tb := tb_of (List.mem_append_right _ (List.mem_of_getElem? (i := 472) (by decide +kernel))) (by decide +kernel)
theorem k_473 : (Cond.code yX4_turned cX4_turned 3 (some .int)) ∈ tb := tb_of (List.mem_append_right _ (List.mem_of_getElem? (i := 473) (by decide +kernel))) (by decide +kernel)
theorem k_475 : (Cond.static yX5_rest) ∈ tb := tb_of (List.mem_append_right _ (List.mem_of_getElem? (i := 475) (by decide +kernel))) (by decide +kernel)
theorem k_476 : (Cond.code yX5_rest cX5_rest 2 (some .int)) ∈ tb := tb_of (List.mem_append_right _ (List.mem_of_getElem? (i := 476) (by decide +kernel))) (by decide +kernel)
theorem k_478 : (Cond.static yX5_within) ∈ tb := tb_of (List.mem_append_right _ (List.mem_of_getElem? (i := 478) (by decide +kernel))) (by decide +kernel)
theorem k_479 : (Cond.code yX5_within cX5_within 3 (some .int)) ∈ tb := tb_of (List.mem_append_right _ (List.mem_of_getElem? (i := 479) (by decide +kernel))) (by decide +kernel)
theorem k_480 : (Cond.methodLink RX5 334 Lib.Math.min.name) ∈ tb := tb_of (List.mem_append_right _ (List.mem_of_getElem? (i := 480) (by decide +kernel))) (by decide +kernel)
theorem k_481 : (Cond.methodLink RX5 224 Lib.Math.max.name) ∈ tb := tb_of (List.mem_append_right _ (List.mem_of_getElem? (i := 481) (by decide +kernel))) (by decide +kernel)
theorem k_482 : (Cond.methodLink RL 53 yX5_asks) ∈ tb := tb_of (List.mem_append_right _ (List.mem_of_getElem? (i := 482) (by decide +kernel))) (by decide +kernel)
theorem k_483 : (Cond.instanceMethod yX5_asks) ∈ tb := tb_of (List.mem_append_right _ (List.mem_of_getElem? (i := 483) (by decide +kernel))) (by decide +kernel)
theorem k_484 : (Cond.selects RX5 yX5_asks yX5_asks) ∈ tb := tb_of (List.mem_append_right _ (List.mem_of_getElem? (i := 484) (by decide +kernel))) (by decide +kernel)
theorem k_485 : (Cond.code yX5_asks cX5_asks 4 (some .int)) ∈ tb := tb_of (List.mem_append_right _ (List.mem_of_getElem? (i := 485) (by decide +kernel))) (by decide +kernel)
theorem k_486 : (Cond.methodLink RX5 164 yX5_ruled) ∈ tb := tb_of (List.mem_append_right _ (List.mem_of_getElem? (i := 486) (by decide +kernel))) (by decide +kernel)
theorem k_488 : (Cond.instanceMethod yX5_ruled) ∈ tb := tb_of (List.mem_append_right _ (List.mem_of_getElem? (i := 488) (by decide +kernel))) (by decide +kernel)
theorem k_489 : (Cond.code yX5_ruled cX5_ruled 7 (some .int)) ∈ tb := tb_of (List.mem_append_right _ (List.mem_of_getElem? (i := 489) (by decide +kernel))) (by decide +kernel)
theorem k_490 : (Cond.methodLink RX5 146 Lib.Math.abs.name) ∈ tb := tb_of (List.mem_append_right _ (List.mem_of_getElem? (i := 490) (by decide +kernel))) (by decide +kernel)
theorem k_493 : (Cond.fieldLink RX5 151 "SamePlace" "PART_LEAST" "[I") ∈ tb := tb_of (List.mem_append_right _ (List.mem_of_getElem? (i := 493) (by decide +kernel))) (by decide +kernel)
theorem k_495 : (Cond.methodLink RX5 154 yX3_tell) ∈ tb := tb_of (List.mem_append_right _ (List.mem_of_getElem? (i := 495) (by decide +kernel))) (by decide +kernel)
theorem k_496 : (Cond.instanceMethod yX3_tell) ∈ tb := tb_of (List.mem_append_right _ (List.mem_of_getElem? (i := 496) (by decide +kernel))) (by decide +kernel)
theorem k_497 : (Cond.selects RX3 yX3_tell yX3_tell) ∈ tb := tb_of (List.mem_append_right _ (List.mem_of_getElem? (i := 497) (by decide +kernel))) (by decide +kernel)
theorem k_498 : (Cond.code yX3_tell cX3_tell 7 (some .int)) ∈ tb := tb_of (List.mem_append_right _ (List.mem_of_getElem? (i := 498) (by decide +kernel))) (by decide +kernel)
theorem k_499 : (Cond.methodLink RX3 32 yX3_truth) ∈ tb := tb_of (List.mem_append_right _ (List.mem_of_getElem? (i := 499) (by decide +kernel))) (by decide +kernel)
theorem k_500 : (Cond.static yX3_truth) ∈ tb := tb_of (List.mem_append_right _ (List.mem_of_getElem? (i := 500) (by decide +kernel))) (by decide +kernel)
theorem k_501 : (Cond.code yX3_truth cX3_truth 1 (some .int)) ∈ tb := tb_of (List.mem_append_right _ (List.mem_of_getElem? (i := 501) (by decide +kernel))) (by decide +kernel)
theorem k_502 : (Cond.methodLink RX3 36 yX3_joined) ∈ tb := tb_of (List.mem_append_right _ (List.mem_of_getElem? (i := 502) (by decide +kernel))) (by decide +kernel)
theorem k_503 : (Cond.static yX3_joined) ∈ tb := tb_of (List.mem_append_right _ (List.mem_of_getElem? (i := 503) (by decide +kernel))) (by decide +kernel)
theorem k_504 : (Cond.code yX3_joined cX3_joined 3 (some .int)) ∈ tb := tb_of (List.mem_append_right _ (List.mem_of_getElem? (i := 504) (by decide +kernel))) (by decide +kernel)
theorem k_505 : (Cond.fieldLink RX5 158 "SamePlace" "PART_MOST" "[I") ∈ tb := tb_of (List.mem_append_right _ (List.mem_of_getElem? (i := 505) (by decide +kernel))) (by decide +kernel)
theorem k_507 : (Cond.methodLink RX5 161 yX5_within) ∈ tb := tb_of (List.mem_append_right _ (List.mem_of_getElem? (i := 507) (by decide +kernel))) (by decide +kernel)
theorem k_508 : (Cond.methodLink RL 57 yX5_length) ∈ tb := tb_of (List.mem_append_right _ (List.mem_of_getElem? (i := 508) (by decide +kernel))) (by decide +kernel)
theorem k_509 : (Cond.instanceMethod yX5_length) ∈ tb := tb_of (List.mem_append_right _ (List.mem_of_getElem? (i := 509) (by decide +kernel))) (by decide +kernel)
theorem k_510 : (Cond.selects RX5 yX5_length yX5_length) ∈ tb := tb_of (List.mem_append_right _ (List.mem_of_getElem? (i := 510) (by decide +kernel))) (by decide +kernel)
theorem k_511 : (Cond.code yX5_length cX5_length 4 (some .int)) ∈ tb := tb_of (List.mem_append_right _ (List.mem_of_getElem? (i := 511) (by decide +kernel))) (by decide +kernel)
theorem k_512 : (Cond.methodLink RX5 167 yX5_layWalked) ∈ tb := tb_of (List.mem_append_right _ (List.mem_of_getElem? (i := 512) (by decide +kernel))) (by decide +kernel)
theorem k_514 : (Cond.instanceMethod yX5_layWalked) ∈ tb := tb_of (List.mem_append_right _ (List.mem_of_getElem? (i := 514) (by decide +kernel))) (by decide +kernel)
theorem k_515 : (Cond.code yX5_layWalked cX5_layWalked 6 none) ∈ tb := tb_of (List.mem_append_right _ (List.mem_of_getElem? (i := 515) (by decide +kernel))) (by decide +kernel)
theorem k_516 : (Cond.methodLink RL 61 yX5_mean) ∈ tb := tb_of (List.mem_append_right _ (List.mem_of_getElem? (i := 516) (by decide +kernel))) (by decide +kernel)
theorem k_517 : (Cond.instanceMethod yX5_mean) ∈ tb := tb_of (List.mem_append_right _ (List.mem_of_getElem? (i := 517) (by decide +kernel))) (by decide +kernel)
theorem k_518 : (Cond.selects RX5 yX5_mean yX5_mean) ∈ tb := tb_of (List.mem_append_right _ (List.mem_of_getElem? (i := 518) (by decide +kernel))) (by decide +kernel)
theorem k_519 : (Cond.code yX5_mean cX5_mean 8 (some .int)) ∈ tb := tb_of (List.mem_append_right _ (List.mem_of_getElem? (i := 519) (by decide +kernel))) (by decide +kernel)
theorem k_520 : (Cond.methodLink RX5 170 yX5_beyondMean) ∈ tb := tb_of (List.mem_append_right _ (List.mem_of_getElem? (i := 520) (by decide +kernel))) (by decide +kernel)
theorem k_522 : (Cond.instanceMethod yX5_beyondMean) ∈ tb := tb_of (List.mem_append_right _ (List.mem_of_getElem? (i := 522) (by decide +kernel))) (by decide +kernel)
theorem k_523 : (Cond.code yX5_beyondMean cX5_beyondMean 3 (some .long)) ∈ tb := tb_of (List.mem_append_right _ (List.mem_of_getElem? (i := 523) (by decide +kernel))) (by decide +kernel)
theorem k_524 : (Cond.constantLong RX5 178 (600)) ∈ tb := tb_of (List.mem_append_right _ (List.mem_of_getElem? (i := 524) (by decide +kernel))) (by decide +kernel)
theorem k_525 : (Cond.methodLink RX5 174 yX5_areOpposite) ∈ tb := tb_of (List.mem_append_right _ (List.mem_of_getElem? (i := 525) (by decide +kernel))) (by decide +kernel)
theorem k_526 : (Cond.static yX5_areOpposite) ∈ tb := tb_of (List.mem_append_right _ (List.mem_of_getElem? (i := 526) (by decide +kernel))) (by decide +kernel)
theorem k_527 : (Cond.code yX5_areOpposite cX5_areOpposite 4 (some .boolean)) ∈ tb := tb_of (List.mem_append_right _ (List.mem_of_getElem? (i := 527) (by decide +kernel))) (by decide +kernel)
theorem k_528 : (Cond.methodLink RL 65 yX5_half) ∈ tb := tb_of (List.mem_append_right _ (List.mem_of_getElem? (i := 528) (by decide +kernel))) (by decide +kernel)
theorem k_529 : (Cond.instanceMethod yX5_half) ∈ tb := tb_of (List.mem_append_right _ (List.mem_of_getElem? (i := 529) (by decide +kernel))) (by decide +kernel)
theorem k_530 : (Cond.selects RX5 yX5_half yX5_half) ∈ tb := tb_of (List.mem_append_right _ (List.mem_of_getElem? (i := 530) (by decide +kernel))) (by decide +kernel)
theorem k_531 : (Cond.code yX5_half cX5_half 4 (some .int)) ∈ tb := tb_of (List.mem_append_right _ (List.mem_of_getElem? (i := 531) (by decide +kernel))) (by decide +kernel)
theorem k_532 : (Cond.methodLink RX5 180 yX5_halfWalked) ∈ tb := tb_of (List.mem_append_right _ (List.mem_of_getElem? (i := 532) (by decide +kernel))) (by decide +kernel)
theorem k_534 : (Cond.instanceMethod yX5_halfWalked) ∈ tb := tb_of (List.mem_append_right _ (List.mem_of_getElem? (i := 534) (by decide +kernel))) (by decide +kernel)
theorem k_535 : (Cond.code yX5_halfWalked cX5_halfWalked 3 (some .int)) ∈ tb := tb_of (List.mem_append_right _ (List.mem_of_getElem? (i := 535) (by decide +kernel))) (by decide +kernel)
theorem k_536 : (Cond.methodLink RX5 183 yX5_bestMinute) ∈ tb := tb_of (List.mem_append_right _ (List.mem_of_getElem? (i := 536) (by decide +kernel))) (by decide +kernel)
theorem k_538 : (Cond.instanceMethod yX5_bestMinute) ∈ tb := tb_of (List.mem_append_right _ (List.mem_of_getElem? (i := 538) (by decide +kernel))) (by decide +kernel)
theorem k_539 : (Cond.code yX5_bestMinute cX5_bestMinute 6 (some .int)) ∈ tb := tb_of (List.mem_append_right _ (List.mem_of_getElem? (i := 539) (by decide +kernel))) (by decide +kernel)
theorem k_540 : (Cond.methodLink RL 69 yX5_meet) ∈ tb := tb_of (List.mem_append_right _ (List.mem_of_getElem? (i := 540) (by decide +kernel))) (by decide +kernel)
theorem k_541 : (Cond.instanceMethod yX5_meet) ∈ tb := tb_of (List.mem_append_right _ (List.mem_of_getElem? (i := 541) (by decide +kernel))) (by decide +kernel)
theorem k_542 : (Cond.selects RX5 yX5_meet yX5_meet) ∈ tb := tb_of (List.mem_append_right _ (List.mem_of_getElem? (i := 542) (by decide +kernel))) (by decide +kernel)
theorem k_543 : (Cond.code yX5_meet cX5_meet 4 (some .int)) ∈ tb := tb_of (List.mem_append_right _ (List.mem_of_getElem? (i := 543) (by decide +kernel))) (by decide +kernel)
theorem k_544 : (Cond.methodLink RX5 186 yX5_areTwo) ∈ tb := tb_of (List.mem_append_right _ (List.mem_of_getElem? (i := 544) (by decide +kernel))) (by decide +kernel)
theorem k_546 : (Cond.instanceMethod yX5_areTwo) ∈ tb := tb_of (List.mem_append_right _ (List.mem_of_getElem? (i := 546) (by decide +kernel))) (by decide +kernel)
theorem k_547 : (Cond.code yX5_areTwo cX5_areTwo 3 (some .boolean)) ∈ tb := tb_of (List.mem_append_right _ (List.mem_of_getElem? (i := 547) (by decide +kernel))) (by decide +kernel)
theorem k_548 : (Cond.methodLink RX5 190 yX5_layTwo) ∈ tb := tb_of (List.mem_append_right _ (List.mem_of_getElem? (i := 548) (by decide +kernel))) (by decide +kernel)
theorem k_550 : (Cond.instanceMethod yX5_layTwo) ∈ tb := tb_of (List.mem_append_right _ (List.mem_of_getElem? (i := 550) (by decide +kernel))) (by decide +kernel)
theorem k_551 : (Cond.code yX5_layTwo cX5_layTwo 3 none) ∈ tb := tb_of (List.mem_append_right _ (List.mem_of_getElem? (i := 551) (by decide +kernel))) (by decide +kernel)
theorem k_552 : (Cond.methodLink RX5 220 yX4_lay) ∈ tb := tb_of (List.mem_append_right _ (List.mem_of_getElem? (i := 552) (by decide +kernel))) (by decide +kernel)
theorem k_553 : (Cond.instanceMethod yX4_lay) ∈ tb := tb_of (List.mem_append_right _ (List.mem_of_getElem? (i := 553) (by decide +kernel))) (by decide +kernel)
theorem k_554 : (Cond.selects RX4 yX4_lay yX4_lay) ∈ tb := tb_of (List.mem_append_right _ (List.mem_of_getElem? (i := 554) (by decide +kernel))) (by decide +kernel)
theorem k_555 : (Cond.code yX4_lay cX4_lay 4 none) ∈ tb := tb_of (List.mem_append_right _ (List.mem_of_getElem? (i := 555) (by decide +kernel))) (by decide +kernel)
theorem k_556 : (Cond.methodLink RX4 41 yX4_where) ∈ tb := tb_of (List.mem_append_right _ (List.mem_of_getElem? (i := 556) (by decide +kernel))) (by decide +kernel)
theorem k_557 : (Cond.methodLink RX5 193 yX5_firstMeeting) ∈ tb := tb_of (List.mem_append_right _ (List.mem_of_getElem? (i := 557) (by decide +kernel))) (by decide +kernel)
theorem k_559 : (Cond.instanceMethod yX5_firstMeeting) ∈ tb := tb_of (List.mem_append_right _ (List.mem_of_getElem? (i := 559) (by decide +kernel))) (by decide +kernel)
theorem k_560 : (Cond.code yX5_firstMeeting cX5_firstMeeting 5 (some .int)) ∈ tb := tb_of (List.mem_append_right _ (List.mem_of_getElem? (i := 560) (by decide +kernel))) (by decide +kernel)
theorem k_561 : (Cond.methodLink RX5 207 yX5_gap) ∈ tb := tb_of (List.mem_append_right _ (List.mem_of_getElem? (i := 561) (by decide +kernel))) (by decide +kernel)
theorem k_563 : (Cond.instanceMethod yX5_gap) ∈ tb := tb_of (List.mem_append_right _ (List.mem_of_getElem? (i := 563) (by decide +kernel))) (by decide +kernel)
theorem k_564 : (Cond.code yX5_gap cX5_gap 3 (some .int)) ∈ tb := tb_of (List.mem_append_right _ (List.mem_of_getElem? (i := 564) (by decide +kernel))) (by decide +kernel)
theorem k_565 : (Cond.methodLink RX5 196 yX5_lastMeeting) ∈ tb := tb_of (List.mem_append_right _ (List.mem_of_getElem? (i := 565) (by decide +kernel))) (by decide +kernel)
theorem k_567 : (Cond.instanceMethod yX5_lastMeeting) ∈ tb := tb_of (List.mem_append_right _ (List.mem_of_getElem? (i := 567) (by decide +kernel))) (by decide +kernel)
theorem k_568 : (Cond.code yX5_lastMeeting cX5_lastMeeting 2 (some .int)) ∈ tb := tb_of (List.mem_append_right _ (List.mem_of_getElem? (i := 568) (by decide +kernel))) (by decide +kernel)
theorem k_569 : (Cond.methodLink RX5 202 yX5_meetIn) ∈ tb := tb_of (List.mem_append_right _ (List.mem_of_getElem? (i := 569) (by decide +kernel))) (by decide +kernel)
theorem k_571 : (Cond.instanceMethod yX5_meetIn) ∈ tb := tb_of (List.mem_append_right _ (List.mem_of_getElem? (i := 571) (by decide +kernel))) (by decide +kernel)
theorem k_572 : (Cond.code yX5_meetIn cX5_meetIn 3 (some .boolean)) ∈ tb := tb_of (List.mem_append_right _ (List.mem_of_getElem? (i := 572) (by decide +kernel))) (by decide +kernel)
theorem k_573 : (Cond.methodLink RX5 199 yX5_meetings) ∈ tb := tb_of (List.mem_append_right _ (List.mem_of_getElem? (i := 573) (by decide +kernel))) (by decide +kernel)
theorem k_575 : (Cond.instanceMethod yX5_meetings) ∈ tb := tb_of (List.mem_append_right _ (List.mem_of_getElem? (i := 575) (by decide +kernel))) (by decide +kernel)
theorem k_576 : (Cond.code yX5_meetings cX5_meetings 3 (some .int)) ∈ tb := tb_of (List.mem_append_right _ (List.mem_of_getElem? (i := 576) (by decide +kernel))) (by decide +kernel)
theorem k_577 : (Cond.methodLink RL 73 yX5_when) ∈ tb := tb_of (List.mem_append_right _ (List.mem_of_getElem? (i := 577) (by decide +kernel))) (by decide +kernel)
theorem k_578 : (Cond.instanceMethod yX5_when) ∈ tb := tb_of (List.mem_append_right _ (List.mem_of_getElem? (i := 578) (by decide +kernel))) (by decide +kernel)
theorem k_579 : (Cond.selects RX5 yX5_when yX5_when) ∈ tb := tb_of (List.mem_append_right _ (List.mem_of_getElem? (i := 579) (by decide +kernel))) (by decide +kernel)
theorem k_580 : (Cond.code yX5_when cX5_when 9 (some .long)) ∈ tb := tb_of (List.mem_append_right _ (List.mem_of_getElem? (i := 580) (by decide +kernel))) (by decide +kernel)
theorem k_581 : (Cond.constantLong RX5 205 (-4611686018427387904)) ∈ tb := tb_of (List.mem_append_right _ (List.mem_of_getElem? (i := 581) (by decide +kernel))) (by decide +kernel)
theorem k_582 : (Cond.methodLink RX5 210 yX5_lowest) ∈ tb := tb_of (List.mem_append_right _ (List.mem_of_getElem? (i := 582) (by decide +kernel))) (by decide +kernel)
theorem k_583 : (Cond.static yX5_lowest) ∈ tb := tb_of (List.mem_append_right _ (List.mem_of_getElem? (i := 583) (by decide +kernel))) (by decide +kernel)
theorem k_584 : (Cond.code yX5_lowest cX5_lowest 9 (some .long)) ∈ tb := tb_of (List.mem_append_right _ (List.mem_of_getElem? (i := 584) (by decide +kernel))) (by decide +kernel)
theorem k_585 : (Cond.methodLink RX5 337 yX5_commonDivisor) ∈ tb := tb_of (List.mem_append_right _ (List.mem_of_getElem? (i := 585) (by decide +kernel))) (by decide +kernel)
theorem k_586 : (Cond.static yX5_commonDivisor) ∈ tb := tb_of (List.mem_append_right _ (List.mem_of_getElem? (i := 586) (by decide +kernel))) (by decide +kernel)
theorem k_587 : (Cond.code yX5_commonDivisor cX5_commonDivisor 11 (some .long)) ∈ tb := tb_of (List.mem_append_right _ (List.mem_of_getElem? (i := 587) (by decide +kernel))) (by decide +kernel)
theorem k_588 : (Cond.methodLink RL 78 yX5_sure) ∈ tb := tb_of (List.mem_append_right _ (List.mem_of_getElem? (i := 588) (by decide +kernel))) (by decide +kernel)
theorem k_589 : (Cond.instanceMethod yX5_sure) ∈ tb := tb_of (List.mem_append_right _ (List.mem_of_getElem? (i := 589) (by decide +kernel))) (by decide +kernel)
theorem k_590 : (Cond.selects RX5 yX5_sure yX5_sure) ∈ tb := tb_of (List.mem_append_right _ (List.mem_of_getElem? (i := 590) (by decide +kernel))) (by decide +kernel)
theorem k_591 : (Cond.code yX5_sure cX5_sure 4 (some .int)) ∈ tb := tb_of (List.mem_append_right _ (List.mem_of_getElem? (i := 591) (by decide +kernel))) (by decide +kernel)
theorem k_592 : (Cond.methodLink RL 82 yX5_apart) ∈ tb := tb_of (List.mem_append_right _ (List.mem_of_getElem? (i := 592) (by decide +kernel))) (by decide +kernel)
theorem k_593 : (Cond.instanceMethod yX5_apart) ∈ tb := tb_of (List.mem_append_right _ (List.mem_of_getElem? (i := 593) (by decide +kernel))) (by decide +kernel)
theorem k_594 : (Cond.selects RX5 yX5_apart yX5_apart) ∈ tb := tb_of (List.mem_append_right _ (List.mem_of_getElem? (i := 594) (by decide +kernel))) (by decide +kernel)
theorem k_595 : (Cond.code yX5_apart cX5_apart 5 (some .int)) ∈ tb := tb_of (List.mem_append_right _ (List.mem_of_getElem? (i := 595) (by decide +kernel))) (by decide +kernel)
theorem k_596 : (Cond.methodLink RX5 214 yX5_nearMinutes) ∈ tb := tb_of (List.mem_append_right _ (List.mem_of_getElem? (i := 596) (by decide +kernel))) (by decide +kernel)
theorem k_598 : (Cond.instanceMethod yX5_nearMinutes) ∈ tb := tb_of (List.mem_append_right _ (List.mem_of_getElem? (i := 598) (by decide +kernel))) (by decide +kernel)
theorem k_599 : (Cond.code yX5_nearMinutes cX5_nearMinutes 4 (some .int)) ∈ tb := tb_of (List.mem_append_right _ (List.mem_of_getElem? (i := 599) (by decide +kernel))) (by decide +kernel)
theorem k_600 : (Cond.methodLink RX5 217 yX5_farthestMinute) ∈ tb := tb_of (List.mem_append_right _ (List.mem_of_getElem? (i := 600) (by decide +kernel))) (by decide +kernel)
theorem k_602 : (Cond.instanceMethod yX5_farthestMinute) ∈ tb := tb_of (List.mem_append_right _ (List.mem_of_getElem? (i := 602) (by decide +kernel))) (by decide +kernel)
theorem k_603 : (Cond.code yX5_farthestMinute cX5_farthestMinute 5 (some .int)) ∈ tb := tb_of (List.mem_append_right _ (List.mem_of_getElem? (i := 603) (by decide +kernel))) (by decide +kernel)
theorem k_604 : (Cond.methodLink RL 86 yX5_fits) ∈ tb := tb_of (List.mem_append_right _ (List.mem_of_getElem? (i := 604) (by decide +kernel))) (by decide +kernel)
theorem k_605 : (Cond.instanceMethod yX5_fits) ∈ tb := tb_of (List.mem_append_right _ (List.mem_of_getElem? (i := 605) (by decide +kernel))) (by decide +kernel)
theorem k_606 : (Cond.selects RX5 yX5_fits yX5_fits) ∈ tb := tb_of (List.mem_append_right _ (List.mem_of_getElem? (i := 606) (by decide +kernel))) (by decide +kernel)
theorem k_607 : (Cond.code yX5_fits cX5_fits 5 (some .int)) ∈ tb := tb_of (List.mem_append_right _ (List.mem_of_getElem? (i := 607) (by decide +kernel))) (by decide +kernel)
theorem k_608 : (Cond.methodLink RX5 227 yX5_isSheet) ∈ tb := tb_of (List.mem_append_right _ (List.mem_of_getElem? (i := 608) (by decide +kernel))) (by decide +kernel)
theorem k_609 : (Cond.static yX5_isSheet) ∈ tb := tb_of (List.mem_append_right _ (List.mem_of_getElem? (i := 609) (by decide +kernel))) (by decide +kernel)
theorem k_610 : (Cond.code yX5_isSheet cX5_isSheet 1 (some .boolean)) ∈ tb := tb_of (List.mem_append_right _ (List.mem_of_getElem? (i := 610) (by decide +kernel))) (by decide +kernel)
theorem k_611 : (Cond.methodLink RX5 230 yX1_isMissing) ∈ tb := tb_of (List.mem_append_right _ (List.mem_of_getElem? (i := 611) (by decide +kernel))) (by decide +kernel)
theorem k_612 : (Cond.instanceMethod yX1_isMissing) ∈ tb := tb_of (List.mem_append_right _ (List.mem_of_getElem? (i := 612) (by decide +kernel))) (by decide +kernel)
theorem k_613 : (Cond.selects RX1 yX1_isMissing yX1_isMissing) ∈ tb := tb_of (List.mem_append_right _ (List.mem_of_getElem? (i := 613) (by decide +kernel))) (by decide +kernel)
theorem k_614 : (Cond.code yX1_isMissing cX1_isMissing 1 (some .boolean)) ∈ tb := tb_of (List.mem_append_right _ (List.mem_of_getElem? (i := 614) (by decide +kernel))) (by decide +kernel)
theorem k_615 : (Cond.methodLink RX5 234 yX5_areNotes) ∈ tb := tb_of (List.mem_append_right _ (List.mem_of_getElem? (i := 615) (by decide +kernel))) (by decide +kernel)
theorem k_616 : (Cond.static yX5_areNotes) ∈ tb := tb_of (List.mem_append_right _ (List.mem_of_getElem? (i := 616) (by decide +kernel))) (by decide +kernel)
theorem k_617 : (Cond.code yX5_areNotes cX5_areNotes 2 (some .boolean)) ∈ tb := tb_of (List.mem_append_right _ (List.mem_of_getElem? (i := 617) (by decide +kernel))) (by decide +kernel)
theorem k_618 : (Cond.methodLink RX5 238 yX5_fitsByRule) ∈ tb := tb_of (List.mem_append_right _ (List.mem_of_getElem? (i := 618) (by decide +kernel))) (by decide +kernel)
theorem k_620 : (Cond.instanceMethod yX5_fitsByRule) ∈ tb := tb_of (List.mem_append_right _ (List.mem_of_getElem? (i := 620) (by decide +kernel))) (by decide +kernel)
theorem k_621 : (Cond.code yX5_fitsByRule cX5_fitsByRule 5 (some .boolean)) ∈ tb := tb_of (List.mem_append_right _ (List.mem_of_getElem? (i := 621) (by decide +kernel))) (by decide +kernel)
theorem k_622 : (Cond.methodLink RX5 246 yX5_agrees) ∈ tb := tb_of (List.mem_append_right _ (List.mem_of_getElem? (i := 622) (by decide +kernel))) (by decide +kernel)
theorem k_624 : (Cond.instanceMethod yX5_agrees) ∈ tb := tb_of (List.mem_append_right _ (List.mem_of_getElem? (i := 624) (by decide +kernel))) (by decide +kernel)
theorem k_625 : (Cond.code yX5_agrees cX5_agrees 8 (some .boolean)) ∈ tb := tb_of (List.mem_append_right _ (List.mem_of_getElem? (i := 625) (by decide +kernel))) (by decide +kernel)
theorem k_626 : (Cond.constantLong RX5 261 (1000)) ∈ tb := tb_of (List.mem_append_right _ (List.mem_of_getElem? (i := 626) (by decide +kernel))) (by decide +kernel)
theorem k_627 : (Cond.methodLink RX5 263 Lib.MathLoose.abs_long.x) ∈ tb := tb_of (List.mem_append_right _ (List.mem_of_getElem? (i := 627) (by decide +kernel))) (by decide +kernel)
theorem k_630 : (Cond.methodLink RL 90 yX5_wrong) ∈ tb := tb_of (List.mem_append_right _ (List.mem_of_getElem? (i := 630) (by decide +kernel))) (by decide +kernel)
theorem k_631 : (Cond.instanceMethod yX5_wrong) ∈ tb := tb_of (List.mem_append_right _ (List.mem_of_getElem? (i := 631) (by decide +kernel))) (by decide +kernel)
theorem k_632 : (Cond.selects RX5 yX5_wrong yX5_wrong) ∈ tb := tb_of (List.mem_append_right _ (List.mem_of_getElem? (i := 632) (by decide +kernel))) (by decide +kernel)
theorem k_633 : (Cond.code yX5_wrong cX5_wrong 5 (some .int)) ∈ tb := tb_of (List.mem_append_right _ (List.mem_of_getElem? (i := 633) (by decide +kernel))) (by decide +kernel)
theorem k_634 : (Cond.methodLink RX5 250 yX5_clocks) ∈ tb := tb_of (List.mem_append_right _ (List.mem_of_getElem? (i := 634) (by decide +kernel))) (by decide +kernel)
theorem k_636 : (Cond.instanceMethod yX5_clocks) ∈ tb := tb_of (List.mem_append_right _ (List.mem_of_getElem? (i := 636) (by decide +kernel))) (by decide +kernel)
theorem k_637 : (Cond.code yX5_clocks cX5_clocks 5 (some .int)) ∈ tb := tb_of (List.mem_append_right _ (List.mem_of_getElem? (i := 637) (by decide +kernel))) (by decide +kernel)
theorem k_638 : (Cond.methodLink RX5 257 yX5_fitsBy) ∈ tb := tb_of (List.mem_append_right _ (List.mem_of_getElem? (i := 638) (by decide +kernel))) (by decide +kernel)
theorem k_640 : (Cond.instanceMethod yX5_fitsBy) ∈ tb := tb_of (List.mem_append_right _ (List.mem_of_getElem? (i := 640) (by decide +kernel))) (by decide +kernel)
theorem k_641 : (Cond.code yX5_fitsBy cX5_fitsBy 5 (some .boolean)) ∈ tb := tb_of (List.mem_append_right _ (List.mem_of_getElem? (i := 641) (by decide +kernel))) (by decide +kernel)
theorem k_642 : (Cond.methodLink RX5 254 yX5_nearestClock) ∈ tb := tb_of (List.mem_append_right _ (List.mem_of_getElem? (i := 642) (by decide +kernel))) (by decide +kernel)
theorem k_644 : (Cond.instanceMethod yX5_nearestClock) ∈ tb := tb_of (List.mem_append_right _ (List.mem_of_getElem? (i := 644) (by decide +kernel))) (by decide +kernel)
theorem k_645 : (Cond.code yX5_nearestClock cX5_nearestClock 4 (some .int)) ∈ tb := tb_of (List.mem_append_right _ (List.mem_of_getElem? (i := 645) (by decide +kernel))) (by decide +kernel)
theorem k_646 : (Cond.methodLink RL 94 yX5_posts) ∈ tb := tb_of (List.mem_append_right _ (List.mem_of_getElem? (i := 646) (by decide +kernel))) (by decide +kernel)
theorem k_647 : (Cond.instanceMethod yX5_posts) ∈ tb := tb_of (List.mem_append_right _ (List.mem_of_getElem? (i := 647) (by decide +kernel))) (by decide +kernel)
theorem k_648 : (Cond.selects RX5 yX5_posts yX5_posts) ∈ tb := tb_of (List.mem_append_right _ (List.mem_of_getElem? (i := 648) (by decide +kernel))) (by decide +kernel)
theorem k_649 : (Cond.code yX5_posts cX5_posts 3 (some .int)) ∈ tb := tb_of (List.mem_append_right _ (List.mem_of_getElem? (i := 649) (by decide +kernel))) (by decide +kernel)
theorem k_650 : (Cond.methodLink RX5 266 yX5_layUnlike) ∈ tb := tb_of (List.mem_append_right _ (List.mem_of_getElem? (i := 650) (by decide +kernel))) (by decide +kernel)
theorem k_652 : (Cond.instanceMethod yX5_layUnlike) ∈ tb := tb_of (List.mem_append_right _ (List.mem_of_getElem? (i := 652) (by decide +kernel))) (by decide +kernel)
theorem k_653 : (Cond.code yX5_layUnlike cX5_layUnlike 4 (some .int)) ∈ tb := tb_of (List.mem_append_right _ (List.mem_of_getElem? (i := 653) (by decide +kernel))) (by decide +kernel)
theorem k_654 : (Cond.methodLink RX5 277 yX5_unlikePosts) ∈ tb := tb_of (List.mem_append_right _ (List.mem_of_getElem? (i := 654) (by decide +kernel))) (by decide +kernel)
theorem k_656 : (Cond.instanceMethod yX5_unlikePosts) ∈ tb := tb_of (List.mem_append_right _ (List.mem_of_getElem? (i := 656) (by decide +kernel))) (by decide +kernel)
theorem k_657 : (Cond.code yX5_unlikePosts cX5_unlikePosts 6 (some .int)) ∈ tb := tb_of (List.mem_append_right _ (List.mem_of_getElem? (i := 657) (by decide +kernel))) (by decide +kernel)
theorem k_658 : (Cond.methodLink RX5 269 yX5_fewestPosts) ∈ tb := tb_of (List.mem_append_right _ (List.mem_of_getElem? (i := 658) (by decide +kernel))) (by decide +kernel)
theorem k_660 : (Cond.instanceMethod yX5_fewestPosts) ∈ tb := tb_of (List.mem_append_right _ (List.mem_of_getElem? (i := 660) (by decide +kernel))) (by decide +kernel)
theorem k_661 : (Cond.code yX5_fewestPosts cX5_fewestPosts 6 (some .int)) ∈ tb := tb_of (List.mem_append_right _ (List.mem_of_getElem? (i := 661) (by decide +kernel))) (by decide +kernel)
theorem k_662 : (Cond.methodLink RX5 272 yJ6_bitCount_0f7a4) ∈ tb := tb_of (List.mem_append_right _ (List.mem_of_getElem? (i := 662) (by decide +kernel))) (by decide +kernel)
theorem k_663 : (Cond.static yJ6_bitCount_0f7a4) ∈ tb := tb_of (List.mem_append_right _ (List.mem_of_getElem? (i := 663) (by decide +kernel))) (by decide +kernel)
theorem k_664 : (Cond.code yJ6_bitCount_0f7a4 cJ6_bitCount_0f7a4 1 (some .int)) ∈ tb := tb_of (List.mem_append_right _ (List.mem_of_getElem? (i := 664) (by decide +kernel))) (by decide +kernel)
theorem k_665 : (Cond.constant RJ6 265 (1431655765)) ∈ tb := tb_of (List.mem_append_right _ (List.mem_of_getElem? (i := 665) (by decide +kernel))) (by decide +kernel)
theorem k_666 : (Cond.constant RJ6 266 (858993459)) ∈ tb := tb_of (List.mem_append_right _ (List.mem_of_getElem? (i := 666) (by decide +kernel))) (by decide +kernel)
theorem k_667 : (Cond.constant RJ6 267 (252645135)) ∈ tb := tb_of (List.mem_append_right _ (List.mem_of_getElem? (i := 667) (by decide +kernel))) (by decide +kernel)
theorem k_668 : (Cond.methodLink RX5 281 yX5_tellsAllApart) ∈ tb := tb_of (List.mem_append_right _ (List.mem_of_getElem? (i := 668) (by decide +kernel))) (by decide +kernel)
theorem k_670 : (Cond.instanceMethod yX5_tellsAllApart) ∈ tb := tb_of (List.mem_append_right _ (List.mem_of_getElem? (i := 670) (by decide +kernel))) (by decide +kernel)
theorem k_671 : (Cond.code yX5_tellsAllApart cX5_tellsAllApart 4 (some .boolean)) ∈ tb := tb_of (List.mem_append_right _ (List.mem_of_getElem? (i := 671) (by decide +kernel))) (by decide +kernel)
theorem k_672 : (Cond.methodLink RL 98 yX5_beads) ∈ tb := tb_of (List.mem_append_right _ (List.mem_of_getElem? (i := 672) (by decide +kernel))) (by decide +kernel)
theorem k_673 : (Cond.instanceMethod yX5_beads) ∈ tb := tb_of (List.mem_append_right _ (List.mem_of_getElem? (i := 673) (by decide +kernel))) (by decide +kernel)
theorem k_674 : (Cond.selects RX5 yX5_beads yX5_beads) ∈ tb := tb_of (List.mem_append_right _ (List.mem_of_getElem? (i := 674) (by decide +kernel))) (by decide +kernel)
theorem k_675 : (Cond.code yX5_beads cX5_beads 5 (some .int)) ∈ tb := tb_of (List.mem_append_right _ (List.mem_of_getElem? (i := 675) (by decide +kernel))) (by decide +kernel)
theorem k_676 : (Cond.methodLink RX5 284 yX1_filled) ∈ tb := tb_of (List.mem_append_right _ (List.mem_of_getElem? (i := 676) (by decide +kernel))) (by decide +kernel)
theorem k_677 : (Cond.instanceMethod yX1_filled) ∈ tb := tb_of (List.mem_append_right _ (List.mem_of_getElem? (i := 677) (by decide +kernel))) (by decide +kernel)
theorem k_678 : (Cond.selects RX1 yX1_filled yX1_filled) ∈ tb := tb_of (List.mem_append_right _ (List.mem_of_getElem? (i := 678) (by decide +kernel))) (by decide +kernel)
theorem k_679 : (Cond.code yX1_filled cX1_filled 5 (some .int)) ∈ tb := tb_of (List.mem_append_right _ (List.mem_of_getElem? (i := 679) (by decide +kernel))) (by decide +kernel)
theorem k_680 : (Cond.methodLink RX1 31 yX1_onRing) ∈ tb := tb_of (List.mem_append_right _ (List.mem_of_getElem? (i := 680) (by decide +kernel))) (by decide +kernel)
theorem k_682 : (Cond.instanceMethod yX1_onRing) ∈ tb := tb_of (List.mem_append_right _ (List.mem_of_getElem? (i := 682) (by decide +kernel))) (by decide +kernel)
theorem k_683 : (Cond.code yX1_onRing cX1_onRing 2 (some .int)) ∈ tb := tb_of (List.mem_append_right _ (List.mem_of_getElem? (i := 683) (by decide +kernel))) (by decide +kernel)
theorem k_685 : (Cond.methodLink RL 102 yX5_heat) ∈ tb := tb_of (List.mem_append_right _ (List.mem_of_getElem? (i := 685) (by decide +kernel))) (by decide +kernel)
theorem k_686 : (Cond.instanceMethod yX5_heat) ∈ tb := tb_of (List.mem_append_right _ (List.mem_of_getElem? (i := 686) (by decide +kernel))) (by decide +kernel)
theorem k_687 : (Cond.selects RX5 yX5_heat yX5_heat) ∈ tb := tb_of (List.mem_append_right _ (List.mem_of_getElem? (i := 687) (by decide +kernel))) (by decide +kernel)
theorem k_688 : (Cond.code yX5_heat cX5_heat 6 (some .int)) ∈ tb := tb_of (List.mem_append_right _ (List.mem_of_getElem? (i := 688) (by decide +kernel))) (by decide +kernel)
theorem k_689 : (Cond.methodLink RX5 287 yX1_acrossFrom) ∈ tb := tb_of (List.mem_append_right _ (List.mem_of_getElem? (i := 689) (by decide +kernel))) (by decide +kernel)
theorem k_690 : (Cond.instanceMethod yX1_acrossFrom) ∈ tb := tb_of (List.mem_append_right _ (List.mem_of_getElem? (i := 690) (by decide +kernel))) (by decide +kernel)
theorem k_691 : (Cond.selects RX1 yX1_acrossFrom yX1_acrossFrom) ∈ tb := tb_of (List.mem_append_right _ (List.mem_of_getElem? (i := 691) (by decide +kernel))) (by decide +kernel)
theorem k_692 : (Cond.code yX1_acrossFrom cX1_acrossFrom 2 (some .long)) ∈ tb := tb_of (List.mem_append_right _ (List.mem_of_getElem? (i := 692) (by decide +kernel))) (by decide +kernel)
theorem k_693 : (Cond.methodLink RL 106 yX5_drawn) ∈ tb := tb_of (List.mem_append_right _ (List.mem_of_getElem? (i := 693) (by decide +kernel))) (by decide +kernel)
theorem k_694 : (Cond.instanceMethod yX5_drawn) ∈ tb := tb_of (List.mem_append_right _ (List.mem_of_getElem? (i := 694) (by decide +kernel))) (by decide +kernel)
theorem k_695 : (Cond.selects RX5 yX5_drawn yX5_drawn) ∈ tb := tb_of (List.mem_append_right _ (List.mem_of_getElem? (i := 695) (by decide +kernel))) (by decide +kernel)
theorem k_696 : (Cond.code yX5_drawn cX5_drawn 4 (some .int)) ∈ tb := tb_of (List.mem_append_right _ (List.mem_of_getElem? (i := 696) (by decide +kernel))) (by decide +kernel)
theorem k_697 : (Cond.methodLink RX5 291 yX5_meetsDrawn) ∈ tb := tb_of (List.mem_append_right _ (List.mem_of_getElem? (i := 697) (by decide +kernel))) (by decide +kernel)
theorem k_699 : (Cond.instanceMethod yX5_meetsDrawn) ∈ tb := tb_of (List.mem_append_right _ (List.mem_of_getElem? (i := 699) (by decide +kernel))) (by decide +kernel)
theorem k_700 : (Cond.code yX5_meetsDrawn cX5_meetsDrawn 5 (some .int)) ∈ tb := tb_of (List.mem_append_right _ (List.mem_of_getElem? (i := 700) (by decide +kernel))) (by decide +kernel)
theorem k_701 : (Cond.constant RX5 294 (1103515245)) ∈ tb := tb_of (List.mem_append_right _ (List.mem_of_getElem? (i := 701) (by decide +kernel))) (by decide +kernel)
theorem k_702 : (Cond.methodLink RX5 295 yX5_rest) ∈ tb := tb_of (List.mem_append_right _ (List.mem_of_getElem? (i := 702) (by decide +kernel))) (by decide +kernel)
theorem k_703 : (Cond.methodLink RL 110 yX5_chance) ∈ tb := tb_of (List.mem_append_right _ (List.mem_of_getElem? (i := 703) (by decide +kernel))) (by decide +kernel)
theorem k_704 : (Cond.instanceMethod yX5_chance) ∈ tb := tb_of (List.mem_append_right _ (List.mem_of_getElem? (i := 704) (by decide +kernel))) (by decide +kernel)
theorem k_705 : (Cond.selects RX5 yX5_chance yX5_chance) ∈ tb := tb_of (List.mem_append_right _ (List.mem_of_getElem? (i := 705) (by decide +kernel))) (by decide +kernel)
theorem k_706 : (Cond.code yX5_chance cX5_chance 7 (some .long)) ∈ tb := tb_of (List.mem_append_right _ (List.mem_of_getElem? (i := 706) (by decide +kernel))) (by decide +kernel)
theorem k_707 : (Cond.methodLink RL 115 yX5_image) ∈ tb := tb_of (List.mem_append_right _ (List.mem_of_getElem? (i := 707) (by decide +kernel))) (by decide +kernel)
theorem k_708 : (Cond.instanceMethod yX5_image) ∈ tb := tb_of (List.mem_append_right _ (List.mem_of_getElem? (i := 708) (by decide +kernel))) (by decide +kernel)
theorem k_709 : (Cond.selects RX5 yX5_image yX5_image) ∈ tb := tb_of (List.mem_append_right _ (List.mem_of_getElem? (i := 709) (by decide +kernel))) (by decide +kernel)
theorem k_710 : (Cond.code yX5_image cX5_image 1 (some .int)) ∈ tb := tb_of (List.mem_append_right _ (List.mem_of_getElem? (i := 710) (by decide +kernel))) (by decide +kernel)
theorem k_711 : (Cond.methodLink RX5 298 yX0_become) ∈ tb := tb_of (List.mem_append_right _ (List.mem_of_getElem? (i := 711) (by decide +kernel))) (by decide +kernel)
theorem k_712 : (Cond.instanceMethod yX0_become) ∈ tb := tb_of (List.mem_append_right _ (List.mem_of_getElem? (i := 712) (by decide +kernel))) (by decide +kernel)
theorem k_713 : (Cond.selects RX0 yX0_become yX0_become) ∈ tb := tb_of (List.mem_append_right _ (List.mem_of_getElem? (i := 713) (by decide +kernel))) (by decide +kernel)
theorem k_714 : (Cond.code yX0_become cX0_become 3 none) ∈ tb := tb_of (List.mem_append_right _ (List.mem_of_getElem? (i := 714) (by decide +kernel))) (by decide +kernel)
theorem k_715 : (Cond.methodLink RX0 28 yX4_become) ∈ tb := tb_of (List.mem_append_right _ (List.mem_of_getElem? (i := 715) (by decide +kernel))) (by decide +kernel)
theorem k_716 : (Cond.instanceMethod yX4_become) ∈ tb := tb_of (List.mem_append_right _ (List.mem_of_getElem? (i := 716) (by decide +kernel))) (by decide +kernel)
theorem k_717 : (Cond.selects RX4 yX4_become yX4_become) ∈ tb := tb_of (List.mem_append_right _ (List.mem_of_getElem? (i := 717) (by decide +kernel))) (by decide +kernel)
theorem k_718 : (Cond.code yX4_become cX4_become 3 none) ∈ tb := tb_of (List.mem_append_right _ (List.mem_of_getElem? (i := 718) (by decide +kernel))) (by decide +kernel)
theorem k_719 : (Cond.methodLink RX4 28 yX4_begin) ∈ tb := tb_of (List.mem_append_right _ (List.mem_of_getElem? (i := 719) (by decide +kernel))) (by decide +kernel)
theorem k_720 : (Cond.methodLink RX4 32 yX4_add) ∈ tb := tb_of (List.mem_append_right _ (List.mem_of_getElem? (i := 720) (by decide +kernel))) (by decide +kernel)
theorem k_721 : (Cond.methodLink RL 119 yX5_back) ∈ tb := tb_of (List.mem_append_right _ (List.mem_of_getElem? (i := 721) (by decide +kernel))) (by decide +kernel)
theorem k_722 : (Cond.instanceMethod yX5_back) ∈ tb := tb_of (List.mem_append_right _ (List.mem_of_getElem? (i := 722) (by decide +kernel))) (by decide +kernel)
theorem k_723 : (Cond.selects RX5 yX5_back yX5_back) ∈ tb := tb_of (List.mem_append_right _ (List.mem_of_getElem? (i := 723) (by decide +kernel))) (by decide +kernel)
theorem k_724 : (Cond.code yX5_back cX5_back 1 (some .int)) ∈ tb := tb_of (List.mem_append_right _ (List.mem_of_getElem? (i := 724) (by decide +kernel))) (by decide +kernel)
theorem k_725 : (Cond.methodLink RL 123 yX5_count) ∈ tb := tb_of (List.mem_append_right _ (List.mem_of_getElem? (i := 725) (by decide +kernel))) (by decide +kernel)
theorem k_726 : (Cond.instanceMethod yX5_count) ∈ tb := tb_of (List.mem_append_right _ (List.mem_of_getElem? (i := 726) (by decide +kernel))) (by decide +kernel)
theorem k_727 : (Cond.selects RX5 yX5_count yX5_count) ∈ tb := tb_of (List.mem_append_right _ (List.mem_of_getElem? (i := 727) (by decide +kernel))) (by decide +kernel)
theorem k_728 : (Cond.code yX5_count cX5_count 2 (some .int)) ∈ tb := tb_of (List.mem_append_right _ (List.mem_of_getElem? (i := 728) (by decide +kernel))) (by decide +kernel)
theorem k_729 : (Cond.methodLink RX5 306 yX0_allPoints) ∈ tb := tb_of (List.mem_append_right _ (List.mem_of_getElem? (i := 729) (by decide +kernel))) (by decide +kernel)
theorem k_730 : (Cond.instanceMethod yX0_allPoints) ∈ tb := tb_of (List.mem_append_right _ (List.mem_of_getElem? (i := 730) (by decide +kernel))) (by decide +kernel)
theorem k_731 : (Cond.selects RX0 yX0_allPoints yX0_allPoints) ∈ tb := tb_of (List.mem_append_right _ (List.mem_of_getElem? (i := 731) (by decide +kernel))) (by decide +kernel)
theorem k_732 : (Cond.code yX0_allPoints cX0_allPoints 3 (some .int)) ∈ tb := tb_of (List.mem_append_right _ (List.mem_of_getElem? (i := 732) (by decide +kernel))) (by decide +kernel)
theorem k_733 : (Cond.methodLink RL 127 yX5_sheet) ∈ tb := tb_of (List.mem_append_right _ (List.mem_of_getElem? (i := 733) (by decide +kernel))) (by decide +kernel)
theorem k_734 : (Cond.instanceMethod yX5_sheet) ∈ tb := tb_of (List.mem_append_right _ (List.mem_of_getElem? (i := 734) (by decide +kernel))) (by decide +kernel)
theorem k_735 : (Cond.selects RX5 yX5_sheet yX5_sheet) ∈ tb := tb_of (List.mem_append_right _ (List.mem_of_getElem? (i := 735) (by decide +kernel))) (by decide +kernel)
theorem k_736 : (Cond.code yX5_sheet cX5_sheet 4 (some .int)) ∈ tb := tb_of (List.mem_append_right _ (List.mem_of_getElem? (i := 736) (by decide +kernel))) (by decide +kernel)
theorem k_737 : (Cond.methodLink RX5 309 yX1_begin) ∈ tb := tb_of (List.mem_append_right _ (List.mem_of_getElem? (i := 737) (by decide +kernel))) (by decide +kernel)
theorem k_738 : (Cond.instanceMethod yX1_begin) ∈ tb := tb_of (List.mem_append_right _ (List.mem_of_getElem? (i := 738) (by decide +kernel))) (by decide +kernel)
theorem k_739 : (Cond.selects RX1 yX1_begin yX1_begin) ∈ tb := tb_of (List.mem_append_right _ (List.mem_of_getElem? (i := 739) (by decide +kernel))) (by decide +kernel)
theorem k_740 : (Cond.code yX1_begin cX1_begin 4 none) ∈ tb := tb_of (List.mem_append_right _ (List.mem_of_getElem? (i := 740) (by decide +kernel))) (by decide +kernel)
theorem k_741 : (Cond.methodLink RX1 19 Lib.Math.min.name) ∈ tb := tb_of (List.mem_append_right _ (List.mem_of_getElem? (i := 741) (by decide +kernel))) (by decide +kernel)
theorem k_742 : (Cond.methodLink RX5 310 yX5_isSort) ∈ tb := tb_of (List.mem_append_right _ (List.mem_of_getElem? (i := 742) (by decide +kernel))) (by decide +kernel)
theorem k_743 : (Cond.static yX5_isSort) ∈ tb := tb_of (List.mem_append_right _ (List.mem_of_getElem? (i := 743) (by decide +kernel))) (by decide +kernel)
theorem k_744 : (Cond.code yX5_isSort cX5_isSort 1 (some .boolean)) ∈ tb := tb_of (List.mem_append_right _ (List.mem_of_getElem? (i := 744) (by decide +kernel))) (by decide +kernel)
theorem k_745 : (Cond.methodLink RL 131 yX5_cell) ∈ tb := tb_of (List.mem_append_right _ (List.mem_of_getElem? (i := 745) (by decide +kernel))) (by decide +kernel)
theorem k_746 : (Cond.instanceMethod yX5_cell) ∈ tb := tb_of (List.mem_append_right _ (List.mem_of_getElem? (i := 746) (by decide +kernel))) (by decide +kernel)
theorem k_747 : (Cond.selects RX5 yX5_cell yX5_cell) ∈ tb := tb_of (List.mem_append_right _ (List.mem_of_getElem? (i := 747) (by decide +kernel))) (by decide +kernel)
theorem k_748 : (Cond.code yX5_cell cX5_cell 4 (some .int)) ∈ tb := tb_of (List.mem_append_right _ (List.mem_of_getElem? (i := 748) (by decide +kernel))) (by decide +kernel)
theorem k_749 : (Cond.methodLink RX5 313 yX1_holds) ∈ tb := tb_of (List.mem_append_right _ (List.mem_of_getElem? (i := 749) (by decide +kernel))) (by decide +kernel)
theorem k_750 : (Cond.instanceMethod yX1_holds) ∈ tb := tb_of (List.mem_append_right _ (List.mem_of_getElem? (i := 750) (by decide +kernel))) (by decide +kernel)
theorem k_751 : (Cond.selects RX1 yX1_holds yX1_holds) ∈ tb := tb_of (List.mem_append_right _ (List.mem_of_getElem? (i := 751) (by decide +kernel))) (by decide +kernel)
theorem k_752 : (Cond.code yX1_holds cX1_holds 3 (some .boolean)) ∈ tb := tb_of (List.mem_append_right _ (List.mem_of_getElem? (i := 752) (by decide +kernel))) (by decide +kernel)
theorem k_753 : (Cond.methodLink RX5 316 yX1_put) ∈ tb := tb_of (List.mem_append_right _ (List.mem_of_getElem? (i := 753) (by decide +kernel))) (by decide +kernel)
theorem k_754 : (Cond.instanceMethod yX1_put) ∈ tb := tb_of (List.mem_append_right _ (List.mem_of_getElem? (i := 754) (by decide +kernel))) (by decide +kernel)
theorem k_755 : (Cond.selects RX1 yX1_put yX1_put) ∈ tb := tb_of (List.mem_append_right _ (List.mem_of_getElem? (i := 755) (by decide +kernel))) (by decide +kernel)
theorem k_756 : (Cond.code yX1_put cX1_put 3 none) ∈ tb := tb_of (List.mem_append_right _ (List.mem_of_getElem? (i := 756) (by decide +kernel))) (by decide +kernel)
theorem k_757 : (Cond.methodLink RL 135 yX5_copy) ∈ tb := tb_of (List.mem_append_right _ (List.mem_of_getElem? (i := 757) (by decide +kernel))) (by decide +kernel)
theorem k_758 : (Cond.instanceMethod yX5_copy) ∈ tb := tb_of (List.mem_append_right _ (List.mem_of_getElem? (i := 758) (by decide +kernel))) (by decide +kernel)
theorem k_759 : (Cond.selects RX5 yX5_copy yX5_copy) ∈ tb := tb_of (List.mem_append_right _ (List.mem_of_getElem? (i := 759) (by decide +kernel))) (by decide +kernel)
theorem k_760 : (Cond.code yX5_copy cX5_copy 8 (some .int)) ∈ tb := tb_of (List.mem_append_right _ (List.mem_of_getElem? (i := 760) (by decide +kernel))) (by decide +kernel)
theorem k_761 : (Cond.methodLink RX5 322 arraycopyName) ∈ tb := tb_of (List.mem_append_right _ (List.mem_of_getElem? (i := 761) (by decide +kernel))) (by decide +kernel)
theorem k_764 : (Cond.methodLink RL 140 yX5_points) ∈ tb := tb_of (List.mem_append_right _ (List.mem_of_getElem? (i := 764) (by decide +kernel))) (by decide +kernel)
theorem k_765 : (Cond.instanceMethod yX5_points) ∈ tb := tb_of (List.mem_append_right _ (List.mem_of_getElem? (i := 765) (by decide +kernel))) (by decide +kernel)
theorem k_766 : (Cond.selects RX5 yX5_points yX5_points) ∈ tb := tb_of (List.mem_append_right _ (List.mem_of_getElem? (i := 766) (by decide +kernel))) (by decide +kernel)
theorem k_767 : (Cond.code yX5_points cX5_points 9 (some .int)) ∈ tb := tb_of (List.mem_append_right _ (List.mem_of_getElem? (i := 767) (by decide +kernel))) (by decide +kernel)
theorem k_768 : (Cond.methodLink RL 145 yX5_taken) ∈ tb := tb_of (List.mem_append_right _ (List.mem_of_getElem? (i := 768) (by decide +kernel))) (by decide +kernel)
theorem k_769 : (Cond.instanceMethod yX5_taken) ∈ tb := tb_of (List.mem_append_right _ (List.mem_of_getElem? (i := 769) (by decide +kernel))) (by decide +kernel)
theorem k_770 : (Cond.selects RX5 yX5_taken yX5_taken) ∈ tb := tb_of (List.mem_append_right _ (List.mem_of_getElem? (i := 770) (by decide +kernel))) (by decide +kernel)
theorem k_771 : (Cond.code yX5_taken cX5_taken 3 (some .int)) ∈ tb := tb_of (List.mem_append_right _ (List.mem_of_getElem? (i := 771) (by decide +kernel))) (by decide +kernel)
theorem k_772 : (Cond.methodLink RX5 328 yX5_isUnder) ∈ tb := tb_of (List.mem_append_right _ (List.mem_of_getElem? (i := 772) (by decide +kernel))) (by decide +kernel)
theorem k_773 : (Cond.static yX5_isUnder) ∈ tb := tb_of (List.mem_append_right _ (List.mem_of_getElem? (i := 773) (by decide +kernel))) (by decide +kernel)
theorem k_774 : (Cond.code yX5_isUnder cX5_isUnder 4 (some .boolean)) ∈ tb := tb_of (List.mem_append_right _ (List.mem_of_getElem? (i := 774) (by decide +kernel))) (by decide +kernel)
theorem k_775 : (Cond.fieldLink RX5 331 "SamePlace" "UNDER" "[I") ∈ tb := tb_of (List.mem_append_right _ (List.mem_of_getElem? (i := 775) (by decide +kernel))) (by decide +kernel)
theorem k_777 : (Cond.classLink RL 10 RX6) ∈ tb := tb_of (List.mem_append_right _ (List.mem_of_getElem? (i := 777) (by decide +kernel))) (by decide +kernel)
theorem k_778 : (Cond.instantiable RX6 44) ∈ tb := tb_of (List.mem_append_right _ (List.mem_of_getElem? (i := 778) (by decide +kernel))) (by decide +kernel)
