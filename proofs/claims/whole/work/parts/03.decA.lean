theorem dJ0_length_8abf5_0 : decode cJ0_length_8abf5 0 = .ok (.aload_n 0, 1) := by decide +kernel
theorem dJ0_length_8abf5_1 : decode cJ0_length_8abf5 1 = .ok (.getfield 9, 3) := by decide +kernel
theorem dJ0_length_8abf5_4 : decode cJ0_length_8abf5 4 = .ok (.arraylength, 1) := by decide +kernel
theorem dJ0_length_8abf5_5 : decode cJ0_length_8abf5 5 = .ok (.aload_n 0, 1) := by decide +kernel
theorem dJ0_length_8abf5_6 : decode cJ0_length_8abf5 6 = .ok (.invokevirtual 335, 3) := by decide +kernel
theorem dJ0_length_8abf5_9 : decode cJ0_length_8abf5 9 = .ok (.ishr, 1) := by decide +kernel
theorem dJ0_length_8abf5_10 : decode cJ0_length_8abf5 10 = .ok (.ireturn, 1) := by decide +kernel
theorem dJ0_charAt_5068e_0 : decode cJ0_charAt_5068e 0 = .ok (.aload_n 0, 1) := by decide +kernel
theorem dJ0_charAt_5068e_1 : decode cJ0_charAt_5068e 1 = .ok (.invokevirtual 492, 3) := by decide +kernel
theorem dJ0_charAt_5068e_4 : decode cJ0_charAt_5068e 4 = .ok (.ifCond .eq 12, 3) := by decide +kernel
theorem dJ0_charAt_5068e_7 : decode cJ0_charAt_5068e 7 = .ok (.aload_n 0, 1) := by decide +kernel
theorem dJ0_charAt_5068e_8 : decode cJ0_charAt_5068e 8 = .ok (.getfield 9, 3) := by decide +kernel
theorem dJ0_charAt_5068e_11 : decode cJ0_charAt_5068e 11 = .ok (.iload_n 1, 1) := by decide +kernel
theorem dJ0_charAt_5068e_12 : decode cJ0_charAt_5068e 12 = .ok (.invokestatic 495, 3) := by decide +kernel
theorem dJ0_charAt_5068e_15 : decode cJ0_charAt_5068e 15 = .ok (.ireturn, 1) := by decide +kernel
theorem dJ0_charAt_5068e_16 : decode cJ0_charAt_5068e 16 = .ok (.aload_n 0, 1) := by decide +kernel
theorem dJ0_charAt_5068e_17 : decode cJ0_charAt_5068e 17 = .ok (.getfield 9, 3) := by decide +kernel
theorem dJ0_charAt_5068e_20 : decode cJ0_charAt_5068e 20 = .ok (.iload_n 1, 1) := by decide +kernel
theorem dJ0_charAt_5068e_21 : decode cJ0_charAt_5068e 21 = .ok (.invokestatic 498, 3) := by decide +kernel
theorem dJ0_charAt_5068e_24 : decode cJ0_charAt_5068e 24 = .ok (.ireturn, 1) := by decide +kernel
theorem dJ0_coder_7d493_0 : decode cJ0_coder_7d493 0 = .ok (.getstatic 38, 3) := by decide +kernel
theorem dJ0_coder_7d493_3 : decode cJ0_coder_7d493 3 = .ok (.ifCond .eq 10, 3) := by decide +kernel
theorem dJ0_coder_7d493_6 : decode cJ0_coder_7d493 6 = .ok (.aload_n 0, 1) := by decide +kernel
theorem dJ0_coder_7d493_7 : decode cJ0_coder_7d493 7 = .ok (.getfield 15, 3) := by decide +kernel
theorem dJ0_coder_7d493_10 : decode cJ0_coder_7d493 10 = .ok (.goto 4, 3) := by decide +kernel
theorem dJ0_coder_7d493_13 : decode cJ0_coder_7d493 13 = .ok (.iconst 1, 1) := by decide +kernel
theorem dJ0_coder_7d493_14 : decode cJ0_coder_7d493 14 = .ok (.ireturn, 1) := by decide +kernel
theorem dJ0_isLatin1_aae02_0 : decode cJ0_isLatin1_aae02 0 = .ok (.getstatic 38, 3) := by decide +kernel
theorem dJ0_isLatin1_aae02_3 : decode cJ0_isLatin1_aae02 3 = .ok (.ifCond .eq 14, 3) := by decide +kernel
theorem dJ0_isLatin1_aae02_6 : decode cJ0_isLatin1_aae02 6 = .ok (.aload_n 0, 1) := by decide +kernel
theorem dJ0_isLatin1_aae02_7 : decode cJ0_isLatin1_aae02 7 = .ok (.getfield 15, 3) := by decide +kernel
theorem dJ0_isLatin1_aae02_10 : decode cJ0_isLatin1_aae02 10 = .ok (.ifCond .ne 7, 3) := by decide +kernel
theorem dJ0_isLatin1_aae02_13 : decode cJ0_isLatin1_aae02 13 = .ok (.iconst 1, 1) := by decide +kernel
theorem dJ0_isLatin1_aae02_14 : decode cJ0_isLatin1_aae02 14 = .ok (.goto 4, 3) := by decide +kernel
theorem dJ0_isLatin1_aae02_17 : decode cJ0_isLatin1_aae02 17 = .ok (.iconst 0, 1) := by decide +kernel
theorem dJ0_isLatin1_aae02_18 : decode cJ0_isLatin1_aae02 18 = .ok (.ireturn, 1) := by decide +kernel
theorem dJ0_checkIndex_df160_0 : decode cJ0_checkIndex_df160 0 = .ok (.iload_n 0, 1) := by decide +kernel
theorem dJ0_checkIndex_df160_1 : decode cJ0_checkIndex_df160 1 = .ok (.iload_n 1, 1) := by decide +kernel
theorem dJ0_checkIndex_df160_2 : decode cJ0_checkIndex_df160 2 = .ok (.getstatic 1053, 3) := by decide +kernel
theorem dJ0_checkIndex_df160_5 : decode cJ0_checkIndex_df160 5 = .ok (.invokestatic 1059, 3) := by decide +kernel
theorem dJ0_checkIndex_df160_8 : decode cJ0_checkIndex_df160 8 = .ok (.pop, 1) := by decide +kernel
theorem dJ0_checkIndex_df160_9 : decode cJ0_checkIndex_df160 9 = .ok (.return_, 1) := by decide +kernel
theorem dJ1_charAt_3b067_0 : decode cJ1_charAt_3b067 0 = .ok (.iload_n 1, 1) := by decide +kernel
theorem dJ1_charAt_3b067_1 : decode cJ1_charAt_3b067 1 = .ok (.aload_n 0, 1) := by decide +kernel
theorem dJ1_charAt_3b067_2 : decode cJ1_charAt_3b067 2 = .ok (.arraylength, 1) := by decide +kernel
theorem dJ1_charAt_3b067_3 : decode cJ1_charAt_3b067 3 = .ok (.invokestatic 9, 3) := by decide +kernel
theorem dJ1_charAt_3b067_6 : decode cJ1_charAt_3b067 6 = .ok (.aload_n 0, 1) := by decide +kernel
theorem dJ1_charAt_3b067_7 : decode cJ1_charAt_3b067 7 = .ok (.iload_n 1, 1) := by decide +kernel
theorem dJ1_charAt_3b067_8 : decode cJ1_charAt_3b067 8 = .ok (.baload, 1) := by decide +kernel
theorem dJ1_charAt_3b067_9 : decode cJ1_charAt_3b067 9 = .ok (.sipush 255, 3) := by decide +kernel
theorem dJ1_charAt_3b067_12 : decode cJ1_charAt_3b067 12 = .ok (.iand, 1) := by decide +kernel
theorem dJ1_charAt_3b067_13 : decode cJ1_charAt_3b067 13 = .ok (.i2c, 1) := by decide +kernel
theorem dJ1_charAt_3b067_14 : decode cJ1_charAt_3b067 14 = .ok (.ireturn, 1) := by decide +kernel
theorem dJ2_getChar_3b067_0 : decode cJ2_getChar_3b067 0 = .ok (.getstatic 44, 3) := by decide +kernel
theorem dJ2_getChar_3b067_3 : decode cJ2_getChar_3b067 3 = .ok (.ifCond .ne 25, 3) := by decide +kernel
theorem dJ2_getChar_3b067_6 : decode cJ2_getChar_3b067 6 = .ok (.iload_n 1, 1) := by decide +kernel
theorem dJ2_getChar_3b067_7 : decode cJ2_getChar_3b067 7 = .ok (.ifCond .lt 11, 3) := by decide +kernel
theorem dJ2_getChar_3b067_10 : decode cJ2_getChar_3b067 10 = .ok (.iload_n 1, 1) := by decide +kernel
theorem dJ2_getChar_3b067_11 : decode cJ2_getChar_3b067 11 = .ok (.aload_n 0, 1) := by decide +kernel
theorem dJ2_getChar_3b067_12 : decode cJ2_getChar_3b067 12 = .ok (.invokestatic 48, 3) := by decide +kernel
theorem dJ2_getChar_3b067_15 : decode cJ2_getChar_3b067 15 = .ok (.if_icmp .lt 13, 3) := by decide +kernel
theorem dJ2_getChar_3b067_18 : decode cJ2_getChar_3b067 18 = .ok (.new 52, 3) := by decide +kernel
theorem dJ2_getChar_3b067_21 : decode cJ2_getChar_3b067 21 = .ok (.dup, 1) := by decide +kernel
theorem dJ2_getChar_3b067_22 : decode cJ2_getChar_3b067 22 = .ok (.ldc 54, 2) := by decide +kernel
theorem dJ2_getChar_3b067_24 : decode cJ2_getChar_3b067 24 = .ok (.invokespecial 56, 3) := by decide +kernel
theorem dJ2_getChar_3b067_27 : decode cJ2_getChar_3b067 27 = .ok (.athrow, 1) := by decide +kernel
theorem dJ2_getChar_3b067_28 : decode cJ2_getChar_3b067 28 = .ok (.iload_n 1, 1) := by decide +kernel
theorem dJ2_getChar_3b067_29 : decode cJ2_getChar_3b067 29 = .ok (.iconst 1, 1) := by decide +kernel
theorem dJ2_getChar_3b067_30 : decode cJ2_getChar_3b067 30 = .ok (.ishl, 1) := by decide +kernel
theorem dJ2_getChar_3b067_31 : decode cJ2_getChar_3b067 31 = .ok (.istore_n 1, 1) := by decide +kernel
theorem dJ2_getChar_3b067_32 : decode cJ2_getChar_3b067 32 = .ok (.aload_n 0, 1) := by decide +kernel
theorem dJ2_getChar_3b067_33 : decode cJ2_getChar_3b067 33 = .ok (.iload_n 1, 1) := by decide +kernel
theorem dJ2_getChar_3b067_34 : decode cJ2_getChar_3b067 34 = .ok (.iinc 1 1, 3) := by decide +kernel
theorem dJ2_getChar_3b067_37 : decode cJ2_getChar_3b067 37 = .ok (.baload, 1) := by decide +kernel
theorem dJ2_getChar_3b067_38 : decode cJ2_getChar_3b067 38 = .ok (.sipush 255, 3) := by decide +kernel
theorem dJ2_getChar_3b067_41 : decode cJ2_getChar_3b067 41 = .ok (.iand, 1) := by decide +kernel
theorem dJ2_getChar_3b067_42 : decode cJ2_getChar_3b067 42 = .ok (.getstatic 59, 3) := by decide +kernel
theorem dJ2_getChar_3b067_45 : decode cJ2_getChar_3b067 45 = .ok (.ishl, 1) := by decide +kernel
theorem dJ2_getChar_3b067_46 : decode cJ2_getChar_3b067 46 = .ok (.aload_n 0, 1) := by decide +kernel
theorem dJ2_getChar_3b067_47 : decode cJ2_getChar_3b067 47 = .ok (.iload_n 1, 1) := by decide +kernel
theorem dJ2_getChar_3b067_48 : decode cJ2_getChar_3b067 48 = .ok (.baload, 1) := by decide +kernel
theorem dJ2_getChar_3b067_49 : decode cJ2_getChar_3b067 49 = .ok (.sipush 255, 3) := by decide +kernel
theorem dJ2_getChar_3b067_52 : decode cJ2_getChar_3b067 52 = .ok (.iand, 1) := by decide +kernel
theorem dJ2_getChar_3b067_53 : decode cJ2_getChar_3b067 53 = .ok (.getstatic 63, 3) := by decide +kernel
theorem dJ2_getChar_3b067_56 : decode cJ2_getChar_3b067 56 = .ok (.ishl, 1) := by decide +kernel
theorem dJ2_getChar_3b067_57 : decode cJ2_getChar_3b067 57 = .ok (.ior, 1) := by decide +kernel
theorem dJ2_getChar_3b067_58 : decode cJ2_getChar_3b067 58 = .ok (.i2c, 1) := by decide +kernel
theorem dJ2_getChar_3b067_59 : decode cJ2_getChar_3b067 59 = .ok (.ireturn, 1) := by decide +kernel
theorem dJ2_length_9d52b_0 : decode cJ2_length_9d52b 0 = .ok (.aload_n 0, 1) := by decide +kernel
theorem dJ2_length_9d52b_1 : decode cJ2_length_9d52b 1 = .ok (.arraylength, 1) := by decide +kernel
theorem dJ2_length_9d52b_2 : decode cJ2_length_9d52b 2 = .ok (.iconst 1, 1) := by decide +kernel
theorem dJ2_length_9d52b_3 : decode cJ2_length_9d52b 3 = .ok (.ishr, 1) := by decide +kernel
theorem dJ2_length_9d52b_4 : decode cJ2_length_9d52b 4 = .ok (.ireturn, 1) := by decide +kernel
theorem dJ2_charAt_3b067_0 : decode cJ2_charAt_3b067 0 = .ok (.iload_n 1, 1) := by decide +kernel
theorem dJ2_charAt_3b067_1 : decode cJ2_charAt_3b067 1 = .ok (.aload_n 0, 1) := by decide +kernel
theorem dJ2_charAt_3b067_2 : decode cJ2_charAt_3b067 2 = .ok (.invokestatic 67, 3) := by decide +kernel
theorem dJ2_charAt_3b067_5 : decode cJ2_charAt_3b067 5 = .ok (.aload_n 0, 1) := by decide +kernel
theorem dJ2_charAt_3b067_6 : decode cJ2_charAt_3b067 6 = .ok (.iload_n 1, 1) := by decide +kernel
theorem dJ2_charAt_3b067_7 : decode cJ2_charAt_3b067 7 = .ok (.invokestatic 71, 3) := by decide +kernel
theorem dJ2_charAt_3b067_10 : decode cJ2_charAt_3b067 10 = .ok (.ireturn, 1) := by decide +kernel
theorem dJ2_checkIndex_2214a_0 : decode cJ2_checkIndex_2214a 0 = .ok (.iload_n 0, 1) := by decide +kernel
theorem dJ2_checkIndex_2214a_1 : decode cJ2_checkIndex_2214a 1 = .ok (.aload_n 1, 1) := by decide +kernel
theorem dJ2_checkIndex_2214a_2 : decode cJ2_checkIndex_2214a 2 = .ok (.invokestatic 48, 3) := by decide +kernel
theorem dJ2_checkIndex_2214a_5 : decode cJ2_checkIndex_2214a 5 = .ok (.invokestatic 414, 3) := by decide +kernel
theorem dJ2_checkIndex_2214a_8 : decode cJ2_checkIndex_2214a 8 = .ok (.return_, 1) := by decide +kernel
theorem dJ3_checkIndex_8e157_0 : decode cJ3_checkIndex_8e157 0 = .ok (.iload_n 0, 1) := by decide +kernel
theorem dJ3_checkIndex_8e157_1 : decode cJ3_checkIndex_8e157 1 = .ok (.ifCond .lt 8, 3) := by decide +kernel
theorem dJ3_checkIndex_8e157_4 : decode cJ3_checkIndex_8e157 4 = .ok (.iload_n 0, 1) := by decide +kernel
theorem dJ3_checkIndex_8e157_5 : decode cJ3_checkIndex_8e157 5 = .ok (.iload_n 1, 1) := by decide +kernel
theorem dJ3_checkIndex_8e157_6 : decode cJ3_checkIndex_8e157 6 = .ok (.if_icmp .lt 10, 3) := by decide +kernel
theorem dJ3_checkIndex_8e157_9 : decode cJ3_checkIndex_8e157 9 = .ok (.aload_n 2, 1) := by decide +kernel
theorem dJ3_checkIndex_8e157_10 : decode cJ3_checkIndex_8e157 10 = .ok (.iload_n 0, 1) := by decide +kernel
theorem dJ3_checkIndex_8e157_11 : decode cJ3_checkIndex_8e157 11 = .ok (.iload_n 1, 1) := by decide +kernel
theorem dJ3_checkIndex_8e157_12 : decode cJ3_checkIndex_8e157 12 = .ok (.invokestatic 95, 3) := by decide +kernel
theorem dJ3_checkIndex_8e157_15 : decode cJ3_checkIndex_8e157 15 = .ok (.athrow, 1) := by decide +kernel
theorem dJ3_checkIndex_8e157_16 : decode cJ3_checkIndex_8e157 16 = .ok (.iload_n 0, 1) := by decide +kernel
theorem dJ3_checkIndex_8e157_17 : decode cJ3_checkIndex_8e157 17 = .ok (.ireturn, 1) := by decide +kernel
theorem dJ6_bitCount_0f7a4_0 : decode cJ6_bitCount_0f7a4 0 = .ok (.iload_n 0, 1) := by decide +kernel
theorem dJ6_bitCount_0f7a4_1 : decode cJ6_bitCount_0f7a4 1 = .ok (.iload_n 0, 1) := by decide +kernel
theorem dJ6_bitCount_0f7a4_2 : decode cJ6_bitCount_0f7a4 2 = .ok (.iconst 1, 1) := by decide +kernel
theorem dJ6_bitCount_0f7a4_3 : decode cJ6_bitCount_0f7a4 3 = .ok (.iushr, 1) := by decide +kernel
theorem dJ6_bitCount_0f7a4_4 : decode cJ6_bitCount_0f7a4 4 = .ok (.ldc_w 265, 3) := by decide +kernel
theorem dJ6_bitCount_0f7a4_7 : decode cJ6_bitCount_0f7a4 7 = .ok (.iand, 1) := by decide +kernel
theorem dJ6_bitCount_0f7a4_8 : decode cJ6_bitCount_0f7a4 8 = .ok (.isub, 1) := by decide +kernel
theorem dJ6_bitCount_0f7a4_9 : decode cJ6_bitCount_0f7a4 9 = .ok (.istore_n 0, 1) := by decide +kernel
theorem dJ6_bitCount_0f7a4_10 : decode cJ6_bitCount_0f7a4 10 = .ok (.iload_n 0, 1) := by decide +kernel
theorem dJ6_bitCount_0f7a4_11 : decode cJ6_bitCount_0f7a4 11 = .ok (.ldc_w 266, 3) := by decide +kernel
theorem dJ6_bitCount_0f7a4_14 : decode cJ6_bitCount_0f7a4 14 = .ok (.iand, 1) := by decide +kernel
theorem dJ6_bitCount_0f7a4_15 : decode cJ6_bitCount_0f7a4 15 = .ok (.iload_n 0, 1) := by decide +kernel
theorem dJ6_bitCount_0f7a4_16 : decode cJ6_bitCount_0f7a4 16 = .ok (.iconst 2, 1) := by decide +kernel
theorem dJ6_bitCount_0f7a4_17 : decode cJ6_bitCount_0f7a4 17 = .ok (.iushr, 1) := by decide +kernel
theorem dJ6_bitCount_0f7a4_18 : decode cJ6_bitCount_0f7a4 18 = .ok (.ldc_w 266, 3) := by decide +kernel
theorem dJ6_bitCount_0f7a4_21 : decode cJ6_bitCount_0f7a4 21 = .ok (.iand, 1) := by decide +kernel
theorem dJ6_bitCount_0f7a4_22 : decode cJ6_bitCount_0f7a4 22 = .ok (.iadd, 1) := by decide +kernel
theorem dJ6_bitCount_0f7a4_23 : decode cJ6_bitCount_0f7a4 23 = .ok (.istore_n 0, 1) := by decide +kernel
theorem dJ6_bitCount_0f7a4_24 : decode cJ6_bitCount_0f7a4 24 = .ok (.iload_n 0, 1) := by decide +kernel
theorem dJ6_bitCount_0f7a4_25 : decode cJ6_bitCount_0f7a4 25 = .ok (.iload_n 0, 1) := by decide +kernel
theorem dJ6_bitCount_0f7a4_26 : decode cJ6_bitCount_0f7a4 26 = .ok (.iconst 4, 1) := by decide +kernel
theorem dJ6_bitCount_0f7a4_27 : decode cJ6_bitCount_0f7a4 27 = .ok (.iushr, 1) := by decide +kernel
theorem dJ6_bitCount_0f7a4_28 : decode cJ6_bitCount_0f7a4 28 = .ok (.iadd, 1) := by decide +kernel
theorem dJ6_bitCount_0f7a4_29 : decode cJ6_bitCount_0f7a4 29 = .ok (.ldc_w 267, 3) := by decide +kernel
theorem dJ6_bitCount_0f7a4_32 : decode cJ6_bitCount_0f7a4 32 = .ok (.iand, 1) := by decide +kernel
theorem dJ6_bitCount_0f7a4_33 : decode cJ6_bitCount_0f7a4 33 = .ok (.istore_n 0, 1) := by decide +kernel
theorem dJ6_bitCount_0f7a4_34 : decode cJ6_bitCount_0f7a4 34 = .ok (.iload_n 0, 1) := by decide +kernel
theorem dJ6_bitCount_0f7a4_35 : decode cJ6_bitCount_0f7a4 35 = .ok (.iload_n 0, 1) := by decide +kernel
theorem dJ6_bitCount_0f7a4_36 : decode cJ6_bitCount_0f7a4 36 = .ok (.bipush 8, 2) := by decide +kernel
theorem dJ6_bitCount_0f7a4_38 : decode cJ6_bitCount_0f7a4 38 = .ok (.iushr, 1) := by decide +kernel
theorem dJ6_bitCount_0f7a4_39 : decode cJ6_bitCount_0f7a4 39 = .ok (.iadd, 1) := by decide +kernel
theorem dJ6_bitCount_0f7a4_40 : decode cJ6_bitCount_0f7a4 40 = .ok (.istore_n 0, 1) := by decide +kernel
theorem dJ6_bitCount_0f7a4_41 : decode cJ6_bitCount_0f7a4 41 = .ok (.iload_n 0, 1) := by decide +kernel
theorem dJ6_bitCount_0f7a4_42 : decode cJ6_bitCount_0f7a4 42 = .ok (.iload_n 0, 1) := by decide +kernel
theorem dJ6_bitCount_0f7a4_43 : decode cJ6_bitCount_0f7a4 43 = .ok (.bipush 16, 2) := by decide +kernel
theorem dJ6_bitCount_0f7a4_45 : decode cJ6_bitCount_0f7a4 45 = .ok (.iushr, 1) := by decide +kernel
theorem dJ6_bitCount_0f7a4_46 : decode cJ6_bitCount_0f7a4 46 = .ok (.iadd, 1) := by decide +kernel
theorem dJ6_bitCount_0f7a4_47 : decode cJ6_bitCount_0f7a4 47 = .ok (.istore_n 0, 1) := by decide +kernel
theorem dJ6_bitCount_0f7a4_48 : decode cJ6_bitCount_0f7a4 48 = .ok (.iload_n 0, 1) := by decide +kernel
theorem dJ6_bitCount_0f7a4_49 : decode cJ6_bitCount_0f7a4 49 = .ok (.bipush 63, 2) := by decide +kernel
theorem dJ6_bitCount_0f7a4_51 : decode cJ6_bitCount_0f7a4 51 = .ok (.iand, 1) := by decide +kernel
theorem dJ6_bitCount_0f7a4_52 : decode cJ6_bitCount_0f7a4 52 = .ok (.ireturn, 1) := by decide +kernel
theorem dJ9_max_7cf53_0 : decode cJ9_max_7cf53 0 = .ok (.iload_n 0, 1) := by decide +kernel
theorem dJ9_max_7cf53_1 : decode cJ9_max_7cf53 1 = .ok (.iload_n 1, 1) := by decide +kernel
theorem dJ9_max_7cf53_2 : decode cJ9_max_7cf53 2 = .ok (.if_icmp .lt 7, 3) := by decide +kernel
theorem dJ9_max_7cf53_5 : decode cJ9_max_7cf53 5 = .ok (.iload_n 0, 1) := by decide +kernel
theorem dJ9_max_7cf53_6 : decode cJ9_max_7cf53 6 = .ok (.goto 4, 3) := by decide +kernel
theorem dJ9_max_7cf53_9 : decode cJ9_max_7cf53 9 = .ok (.iload_n 1, 1) := by decide +kernel
theorem dJ9_max_7cf53_10 : decode cJ9_max_7cf53 10 = .ok (.ireturn, 1) := by decide +kernel
theorem dJ9_min_7cf53_0 : decode cJ9_min_7cf53 0 = .ok (.iload_n 0, 1) := by decide +kernel
theorem dJ9_min_7cf53_1 : decode cJ9_min_7cf53 1 = .ok (.iload_n 1, 1) := by decide +kernel
theorem dJ9_min_7cf53_2 : decode cJ9_min_7cf53 2 = .ok (.if_icmp .gt 7, 3) := by decide +kernel
theorem dJ9_min_7cf53_5 : decode cJ9_min_7cf53 5 = .ok (.iload_n 0, 1) := by decide +kernel
theorem dJ9_min_7cf53_6 : decode cJ9_min_7cf53 6 = .ok (.goto 4, 3) := by decide +kernel
theorem dJ9_min_7cf53_9 : decode cJ9_min_7cf53 9 = .ok (.iload_n 1, 1) := by decide +kernel
theorem dJ9_min_7cf53_10 : decode cJ9_min_7cf53 10 = .ok (.ireturn, 1) := by decide +kernel
theorem dX0_init_0 : decode cX0_init 0 = .ok (.aload_n 0, 1) := by decide +kernel
theorem dX0_init_1 : decode cX0_init 1 = .ok (.invokespecial 3, 3) := by decide +kernel
theorem dX0_init_4 : decode cX0_init 4 = .ok (.aload_n 0, 1) := by decide +kernel
theorem dX0_init_5 : decode cX0_init 5 = .ok (.aload_n 1, 1) := by decide +kernel
theorem dX0_init_6 : decode cX0_init 6 = .ok (.putfield 9, 3) := by decide +kernel
theorem dX0_init_9 : decode cX0_init 9 = .ok (.aload_n 0, 1) := by decide +kernel
theorem dX0_init_10 : decode cX0_init 10 = .ok (.iload_n 2, 1) := by decide +kernel
theorem dX0_init_11 : decode cX0_init 11 = .ok (.putfield 15, 3) := by decide +kernel
theorem dX0_init_14 : decode cX0_init 14 = .ok (.aload_n 0, 1) := by decide +kernel
theorem dX0_init_15 : decode cX0_init 15 = .ok (.iload_n 3, 1) := by decide +kernel
theorem dX0_init_16 : decode cX0_init 16 = .ok (.putfield 19, 3) := by decide +kernel
theorem dX0_init_19 : decode cX0_init 19 = .ok (.aload_n 0, 1) := by decide +kernel
theorem dX0_init_20 : decode cX0_init 20 = .ok (.iload_n 2, 1) := by decide +kernel
theorem dX0_init_21 : decode cX0_init 21 = .ok (.ifCond .eq 8, 3) := by decide +kernel
theorem dX0_init_24 : decode cX0_init 24 = .ok (.bipush 6, 2) := by decide +kernel
theorem dX0_init_26 : decode cX0_init 26 = .ok (.goto 4, 3) := by decide +kernel
theorem dX0_init_29 : decode cX0_init 29 = .ok (.iconst 4, 1) := by decide +kernel
theorem dX0_init_30 : decode cX0_init 30 = .ok (.putfield 23, 3) := by decide +kernel
theorem dX0_init_33 : decode cX0_init 33 = .ok (.aload_n 0, 1) := by decide +kernel
theorem dX0_init_34 : decode cX0_init 34 = .ok (.iload_n 2, 1) := by decide +kernel
theorem dX0_init_35 : decode cX0_init 35 = .ok (.ifCond .eq 7, 3) := by decide +kernel
theorem dX0_init_38 : decode cX0_init 38 = .ok (.iconst 2, 1) := by decide +kernel
theorem dX0_init_39 : decode cX0_init 39 = .ok (.goto 4, 3) := by decide +kernel
theorem dX0_init_42 : decode cX0_init 42 = .ok (.iconst 1, 1) := by decide +kernel
theorem dX0_init_43 : decode cX0_init 43 = .ok (.putfield 26, 3) := by decide +kernel
theorem dX0_init_46 : decode cX0_init 46 = .ok (.aload_n 0, 1) := by decide +kernel
theorem dX0_init_47 : decode cX0_init 47 = .ok (.aload_n 0, 1) := by decide +kernel
theorem dX0_init_48 : decode cX0_init 48 = .ok (.getfield 23, 3) := by decide +kernel
theorem dX0_init_51 : decode cX0_init 51 = .ok (.iconst 3, 1) := by decide +kernel
theorem dX0_init_52 : decode cX0_init 52 = .ok (.aload_n 0, 1) := by decide +kernel
theorem dX0_init_53 : decode cX0_init 53 = .ok (.getfield 26, 3) := by decide +kernel
theorem dX0_init_56 : decode cX0_init 56 = .ok (.imul, 1) := by decide +kernel
theorem dX0_init_57 : decode cX0_init 57 = .ok (.iadd, 1) := by decide +kernel
theorem dX0_init_58 : decode cX0_init 58 = .ok (.iconst 2, 1) := by decide +kernel
theorem dX0_init_59 : decode cX0_init 59 = .ok (.iadd, 1) := by decide +kernel
theorem dX0_init_60 : decode cX0_init 60 = .ok (.putfield 29, 3) := by decide +kernel
theorem dX0_init_63 : decode cX0_init 63 = .ok (.aload_n 0, 1) := by decide +kernel
theorem dX0_init_64 : decode cX0_init 64 = .ok (.iconst 0, 1) := by decide +kernel
theorem dX0_init_65 : decode cX0_init 65 = .ok (.putfield 32, 3) := by decide +kernel
theorem dX0_init_68 : decode cX0_init 68 = .ok (.return_, 1) := by decide +kernel
theorem dX0_size_0 : decode cX0_size 0 = .ok (.aload_n 0, 1) := by decide +kernel
theorem dX0_size_1 : decode cX0_size 1 = .ok (.getfield 32, 3) := by decide +kernel
theorem dX0_size_4 : decode cX0_size 4 = .ok (.ireturn, 1) := by decide +kernel
theorem dX0_isFull_0 : decode cX0_isFull 0 = .ok (.aload_n 0, 1) := by decide +kernel
theorem dX0_isFull_1 : decode cX0_isFull 1 = .ok (.getfield 32, 3) := by decide +kernel
theorem dX0_isFull_4 : decode cX0_isFull 4 = .ok (.bipush 100, 2) := by decide +kernel
theorem dX0_isFull_6 : decode cX0_isFull 6 = .ok (.if_icmp .lt 7, 3) := by decide +kernel
theorem dX0_isFull_9 : decode cX0_isFull 9 = .ok (.iconst 1, 1) := by decide +kernel
theorem dX0_isFull_10 : decode cX0_isFull 10 = .ok (.goto 4, 3) := by decide +kernel
theorem dX0_isFull_13 : decode cX0_isFull 13 = .ok (.iconst 0, 1) := by decide +kernel
theorem dX0_isFull_14 : decode cX0_isFull 14 = .ok (.ireturn, 1) := by decide +kernel
theorem dX0_has_0 : decode cX0_has 0 = .ok (.iload_n 1, 1) := by decide +kernel
theorem dX0_has_1 : decode cX0_has 1 = .ok (.iconst 1, 1) := by decide +kernel
theorem dX0_has_2 : decode cX0_has 2 = .ok (.if_icmp .lt 15, 3) := by decide +kernel
theorem dX0_has_5 : decode cX0_has 5 = .ok (.iload_n 1, 1) := by decide +kernel
theorem dX0_has_6 : decode cX0_has 6 = .ok (.aload_n 0, 1) := by decide +kernel
theorem dX0_has_7 : decode cX0_has 7 = .ok (.getfield 32, 3) := by decide +kernel
theorem dX0_has_10 : decode cX0_has 10 = .ok (.if_icmp .gt 7, 3) := by decide +kernel
theorem dX0_has_13 : decode cX0_has 13 = .ok (.iconst 1, 1) := by decide +kernel
theorem dX0_has_14 : decode cX0_has 14 = .ok (.goto 4, 3) := by decide +kernel
theorem dX0_has_17 : decode cX0_has 17 = .ok (.iconst 0, 1) := by decide +kernel
theorem dX0_has_18 : decode cX0_has 18 = .ok (.ireturn, 1) := by decide +kernel
theorem dX0_attributes_0 : decode cX0_attributes 0 = .ok (.bipush 8, 2) := by decide +kernel
theorem dX0_attributes_2 : decode cX0_attributes 2 = .ok (.aload_n 0, 1) := by decide +kernel
theorem dX0_attributes_3 : decode cX0_attributes 3 = .ok (.getfield 23, 3) := by decide +kernel
theorem dX0_attributes_6 : decode cX0_attributes 6 = .ok (.imul, 1) := by decide +kernel
theorem dX0_attributes_7 : decode cX0_attributes 7 = .ok (.ireturn, 1) := by decide +kernel
theorem dX0_start_0 : decode cX0_start 0 = .ok (.aload_n 0, 1) := by decide +kernel
theorem dX0_start_1 : decode cX0_start 1 = .ok (.getfield 19, 3) := by decide +kernel
theorem dX0_start_4 : decode cX0_start 4 = .ok (.aload_n 0, 1) := by decide +kernel
theorem dX0_start_5 : decode cX0_start 5 = .ok (.getfield 29, 3) := by decide +kernel
theorem dX0_start_8 : decode cX0_start 8 = .ok (.iload_n 1, 1) := by decide +kernel
theorem dX0_start_9 : decode cX0_start 9 = .ok (.iconst 1, 1) := by decide +kernel
theorem dX0_start_10 : decode cX0_start 10 = .ok (.isub, 1) := by decide +kernel
theorem dX0_start_11 : decode cX0_start 11 = .ok (.imul, 1) := by decide +kernel
theorem dX0_start_12 : decode cX0_start 12 = .ok (.iadd, 1) := by decide +kernel
theorem dX0_start_13 : decode cX0_start 13 = .ok (.ireturn, 1) := by decide +kernel
theorem dX0_add_0 : decode cX0_add 0 = .ok (.aload_n 0, 1) := by decide +kernel
theorem dX0_add_1 : decode cX0_add 1 = .ok (.dup, 1) := by decide +kernel
theorem dX0_add_2 : decode cX0_add 2 = .ok (.getfield 32, 3) := by decide +kernel
theorem dX0_add_5 : decode cX0_add 5 = .ok (.iconst 1, 1) := by decide +kernel
theorem dX0_add_6 : decode cX0_add 6 = .ok (.iadd, 1) := by decide +kernel
theorem dX0_add_7 : decode cX0_add 7 = .ok (.putfield 32, 3) := by decide +kernel
theorem dX0_add_10 : decode cX0_add 10 = .ok (.aload_n 0, 1) := by decide +kernel
theorem dX0_add_11 : decode cX0_add 11 = .ok (.aload_n 0, 1) := by decide +kernel
theorem dX0_add_12 : decode cX0_add 12 = .ok (.getfield 32, 3) := by decide +kernel
theorem dX0_add_15 : decode cX0_add 15 = .ok (.invokevirtual 35, 3) := by decide +kernel
theorem dX0_add_18 : decode cX0_add 18 = .ok (.istore_n 2, 1) := by decide +kernel
theorem dX0_add_19 : decode cX0_add 19 = .ok (.iconst 0, 1) := by decide +kernel
theorem dX0_add_20 : decode cX0_add 20 = .ok (.istore_n 3, 1) := by decide +kernel
theorem dX0_add_21 : decode cX0_add 21 = .ok (.iload_n 3, 1) := by decide +kernel
theorem dX0_add_22 : decode cX0_add 22 = .ok (.aload_n 0, 1) := by decide +kernel
theorem dX0_add_23 : decode cX0_add 23 = .ok (.getfield 29, 3) := by decide +kernel
theorem dX0_add_26 : decode cX0_add 26 = .ok (.if_icmp .ge 20, 3) := by decide +kernel
theorem dX0_add_29 : decode cX0_add 29 = .ok (.aload_n 0, 1) := by decide +kernel
theorem dX0_add_30 : decode cX0_add 30 = .ok (.getfield 9, 3) := by decide +kernel
theorem dX0_add_33 : decode cX0_add 33 = .ok (.iload_n 2, 1) := by decide +kernel
theorem dX0_add_34 : decode cX0_add 34 = .ok (.iload_n 3, 1) := by decide +kernel
theorem dX0_add_35 : decode cX0_add 35 = .ok (.iadd, 1) := by decide +kernel
theorem dX0_add_36 : decode cX0_add 36 = .ok (.iconst 0, 1) := by decide +kernel
theorem dX0_add_37 : decode cX0_add 37 = .ok (.invokevirtual 39, 3) := by decide +kernel
theorem dX0_add_40 : decode cX0_add 40 = .ok (.iinc 3 1, 3) := by decide +kernel
theorem dX0_add_43 : decode cX0_add 43 = .ok (.goto (-22), 3) := by decide +kernel
theorem dX0_add_46 : decode cX0_add 46 = .ok (.aload_n 0, 1) := by decide +kernel
theorem dX0_add_47 : decode cX0_add 47 = .ok (.getfield 9, 3) := by decide +kernel
theorem dX0_add_50 : decode cX0_add 50 = .ok (.aload_n 0, 1) := by decide +kernel
theorem dX0_add_51 : decode cX0_add 51 = .ok (.aload_n 0, 1) := by decide +kernel
theorem dX0_add_52 : decode cX0_add 52 = .ok (.getfield 32, 3) := by decide +kernel
theorem dX0_add_55 : decode cX0_add 55 = .ok (.invokevirtual 45, 3) := by decide +kernel
theorem dX0_add_58 : decode cX0_add 58 = .ok (.iload_n 1, 1) := by decide +kernel
theorem dX0_add_59 : decode cX0_add 59 = .ok (.invokevirtual 48, 3) := by decide +kernel
theorem dX0_add_62 : decode cX0_add 62 = .ok (.return_, 1) := by decide +kernel
theorem dX0_table_0 : decode cX0_table 0 = .ok (.aload_n 0, 1) := by decide +kernel
theorem dX0_table_1 : decode cX0_table 1 = .ok (.getfield 9, 3) := by decide +kernel
theorem dX0_table_4 : decode cX0_table 4 = .ok (.aload_n 0, 1) := by decide +kernel
theorem dX0_table_5 : decode cX0_table 5 = .ok (.iload_n 1, 1) := by decide +kernel
theorem dX0_table_6 : decode cX0_table 6 = .ok (.invokevirtual 45, 3) := by decide +kernel
theorem dX0_table_9 : decode cX0_table 9 = .ok (.invokevirtual 51, 3) := by decide +kernel
theorem dX0_table_12 : decode cX0_table 12 = .ok (.ireturn, 1) := by decide +kernel
theorem dX0_link_0 : decode cX0_link 0 = .ok (.aload_n 0, 1) := by decide +kernel
theorem dX0_link_1 : decode cX0_link 1 = .ok (.iload_n 1, 1) := by decide +kernel
theorem dX0_link_2 : decode cX0_link 2 = .ok (.iload_n 2, 1) := by decide +kernel
theorem dX0_link_3 : decode cX0_link 3 = .ok (.invokevirtual 54, 3) := by decide +kernel
theorem dX0_link_6 : decode cX0_link 6 = .ok (.istore_n 3, 1) := by decide +kernel
theorem dX0_link_7 : decode cX0_link 7 = .ok (.aload_n 0, 1) := by decide +kernel
theorem dX0_link_8 : decode cX0_link 8 = .ok (.getfield 15, 3) := by decide +kernel
theorem dX0_link_11 : decode cX0_link 11 = .ok (.ifCond .eq 14, 3) := by decide +kernel
theorem dX0_link_14 : decode cX0_link 14 = .ok (.aload_n 0, 1) := by decide +kernel
theorem dX0_link_15 : decode cX0_link 15 = .ok (.getfield 9, 3) := by decide +kernel
theorem dX0_link_18 : decode cX0_link 18 = .ok (.iload_n 3, 1) := by decide +kernel
theorem dX0_link_19 : decode cX0_link 19 = .ok (.invokevirtual 51, 3) := by decide +kernel
theorem dX0_link_22 : decode cX0_link 22 = .ok (.goto 11, 3) := by decide +kernel
theorem dX0_link_25 : decode cX0_link 25 = .ok (.aload_n 0, 1) := by decide +kernel
theorem dX0_link_26 : decode cX0_link 26 = .ok (.getfield 9, 3) := by decide +kernel
theorem dX0_link_29 : decode cX0_link 29 = .ok (.iload_n 3, 1) := by decide +kernel
theorem dX0_link_30 : decode cX0_link 30 = .ok (.invokevirtual 58, 3) := by decide +kernel
theorem dX0_link_33 : decode cX0_link 33 = .ok (.ireturn, 1) := by decide +kernel
theorem dX0_setLink_0 : decode cX0_setLink 0 = .ok (.aload_n 0, 1) := by decide +kernel
theorem dX0_setLink_1 : decode cX0_setLink 1 = .ok (.iload_n 1, 1) := by decide +kernel
theorem dX0_setLink_2 : decode cX0_setLink 2 = .ok (.iload_n 2, 1) := by decide +kernel
theorem dX0_setLink_3 : decode cX0_setLink 3 = .ok (.invokevirtual 54, 3) := by decide +kernel
theorem dX0_setLink_6 : decode cX0_setLink 6 = .ok (.istore 4, 2) := by decide +kernel
theorem dX0_setLink_8 : decode cX0_setLink 8 = .ok (.aload_n 0, 1) := by decide +kernel
theorem dX0_setLink_9 : decode cX0_setLink 9 = .ok (.getfield 15, 3) := by decide +kernel
theorem dX0_setLink_12 : decode cX0_setLink 12 = .ok (.ifCond .eq 16, 3) := by decide +kernel
theorem dX0_setLink_15 : decode cX0_setLink 15 = .ok (.aload_n 0, 1) := by decide +kernel
theorem dX0_setLink_16 : decode cX0_setLink 16 = .ok (.getfield 9, 3) := by decide +kernel
theorem dX0_setLink_19 : decode cX0_setLink 19 = .ok (.iload 4, 2) := by decide +kernel
theorem dX0_setLink_21 : decode cX0_setLink 21 = .ok (.iload_n 3, 1) := by decide +kernel
theorem dX0_setLink_22 : decode cX0_setLink 22 = .ok (.invokevirtual 48, 3) := by decide +kernel
theorem dX0_setLink_25 : decode cX0_setLink 25 = .ok (.goto 13, 3) := by decide +kernel
theorem dX0_setLink_28 : decode cX0_setLink 28 = .ok (.aload_n 0, 1) := by decide +kernel
theorem dX0_setLink_29 : decode cX0_setLink 29 = .ok (.getfield 9, 3) := by decide +kernel
theorem dX0_setLink_32 : decode cX0_setLink 32 = .ok (.iload 4, 2) := by decide +kernel
theorem dX0_setLink_34 : decode cX0_setLink 34 = .ok (.iload_n 3, 1) := by decide +kernel
theorem dX0_setLink_35 : decode cX0_setLink 35 = .ok (.invokevirtual 39, 3) := by decide +kernel
theorem dX0_setLink_38 : decode cX0_setLink 38 = .ok (.return_, 1) := by decide +kernel
theorem dX0_comesTo_0 : decode cX0_comesTo 0 = .ok (.iload_n 1, 1) := by decide +kernel
theorem dX0_comesTo_1 : decode cX0_comesTo 1 = .ok (.istore 4, 2) := by decide +kernel
theorem dX0_comesTo_3 : decode cX0_comesTo 3 = .ok (.iconst 0, 1) := by decide +kernel
theorem dX0_comesTo_4 : decode cX0_comesTo 4 = .ok (.istore 5, 2) := by decide +kernel
theorem dX0_comesTo_6 : decode cX0_comesTo 6 = .ok (.iload 5, 2) := by decide +kernel
theorem dX0_comesTo_8 : decode cX0_comesTo 8 = .ok (.bipush 100, 2) := by decide +kernel
theorem dX0_comesTo_10 : decode cX0_comesTo 10 = .ok (.if_icmp .gt 35, 3) := by decide +kernel
theorem dX0_comesTo_13 : decode cX0_comesTo 13 = .ok (.aload_n 0, 1) := by decide +kernel
theorem dX0_comesTo_14 : decode cX0_comesTo 14 = .ok (.iload 4, 2) := by decide +kernel
theorem dX0_comesTo_16 : decode cX0_comesTo 16 = .ok (.invokevirtual 61, 3) := by decide +kernel
theorem dX0_comesTo_19 : decode cX0_comesTo 19 = .ok (.ifCond .eq 26, 3) := by decide +kernel
theorem dX0_comesTo_22 : decode cX0_comesTo 22 = .ok (.iload 4, 2) := by decide +kernel
theorem dX0_comesTo_24 : decode cX0_comesTo 24 = .ok (.iload_n 3, 1) := by decide +kernel
theorem dX0_comesTo_25 : decode cX0_comesTo 25 = .ok (.if_icmp .ne 5, 3) := by decide +kernel
theorem dX0_comesTo_28 : decode cX0_comesTo 28 = .ok (.iconst 1, 1) := by decide +kernel
theorem dX0_comesTo_29 : decode cX0_comesTo 29 = .ok (.ireturn, 1) := by decide +kernel
theorem dX0_comesTo_30 : decode cX0_comesTo 30 = .ok (.aload_n 0, 1) := by decide +kernel
theorem dX0_comesTo_31 : decode cX0_comesTo 31 = .ok (.iload 4, 2) := by decide +kernel
theorem dX0_comesTo_33 : decode cX0_comesTo 33 = .ok (.iload_n 2, 1) := by decide +kernel
theorem dX0_comesTo_34 : decode cX0_comesTo 34 = .ok (.invokevirtual 65, 3) := by decide +kernel
theorem dX0_comesTo_37 : decode cX0_comesTo 37 = .ok (.istore 4, 2) := by decide +kernel
theorem dX0_comesTo_39 : decode cX0_comesTo 39 = .ok (.iinc 5 1, 3) := by decide +kernel
theorem dX0_comesTo_42 : decode cX0_comesTo 42 = .ok (.goto (-36), 3) := by decide +kernel
theorem dX0_comesTo_45 : decode cX0_comesTo 45 = .ok (.iconst 0, 1) := by decide +kernel
theorem dX0_comesTo_46 : decode cX0_comesTo 46 = .ok (.ireturn, 1) := by decide +kernel
theorem dX0_isInRowOf_0 : decode cX0_isInRowOf 0 = .ok (.aload_n 0, 1) := by decide +kernel
theorem dX0_isInRowOf_1 : decode cX0_isInRowOf 1 = .ok (.aload_n 0, 1) := by decide +kernel
theorem dX0_isInRowOf_2 : decode cX0_isInRowOf 2 = .ok (.iload_n 1, 1) := by decide +kernel
theorem dX0_isInRowOf_3 : decode cX0_isInRowOf 3 = .ok (.iconst 2, 1) := by decide +kernel
theorem dX0_isInRowOf_4 : decode cX0_isInRowOf 4 = .ok (.invokevirtual 65, 3) := by decide +kernel
theorem dX0_isInRowOf_7 : decode cX0_isInRowOf 7 = .ok (.iconst 1, 1) := by decide +kernel
theorem dX0_isInRowOf_8 : decode cX0_isInRowOf 8 = .ok (.iload_n 2, 1) := by decide +kernel
theorem dX0_isInRowOf_9 : decode cX0_isInRowOf 9 = .ok (.invokevirtual 68, 3) := by decide +kernel
theorem dX0_isInRowOf_12 : decode cX0_isInRowOf 12 = .ok (.ireturn, 1) := by decide +kernel
theorem dX0_linkAt_0 : decode cX0_linkAt 0 = .ok (.aload_n 0, 1) := by decide +kernel
theorem dX0_linkAt_1 : decode cX0_linkAt 1 = .ok (.iload_n 1, 1) := by decide +kernel
theorem dX0_linkAt_2 : decode cX0_linkAt 2 = .ok (.invokevirtual 35, 3) := by decide +kernel
theorem dX0_linkAt_5 : decode cX0_linkAt 5 = .ok (.aload_n 0, 1) := by decide +kernel
theorem dX0_linkAt_6 : decode cX0_linkAt 6 = .ok (.getfield 23, 3) := by decide +kernel
theorem dX0_linkAt_9 : decode cX0_linkAt 9 = .ok (.iadd, 1) := by decide +kernel
theorem dX0_linkAt_10 : decode cX0_linkAt 10 = .ok (.iload_n 2, 1) := by decide +kernel
theorem dX0_linkAt_11 : decode cX0_linkAt 11 = .ok (.aload_n 0, 1) := by decide +kernel
theorem dX0_linkAt_12 : decode cX0_linkAt 12 = .ok (.getfield 26, 3) := by decide +kernel
theorem dX0_linkAt_15 : decode cX0_linkAt 15 = .ok (.imul, 1) := by decide +kernel
theorem dX0_linkAt_16 : decode cX0_linkAt 16 = .ok (.iadd, 1) := by decide +kernel
theorem dX0_linkAt_17 : decode cX0_linkAt 17 = .ok (.ireturn, 1) := by decide +kernel
theorem dX0_tableAt_0 : decode cX0_tableAt 0 = .ok (.aload_n 0, 1) := by decide +kernel
theorem dX0_tableAt_1 : decode cX0_tableAt 1 = .ok (.iload_n 1, 1) := by decide +kernel
theorem dX0_tableAt_2 : decode cX0_tableAt 2 = .ok (.invokevirtual 35, 3) := by decide +kernel
theorem dX0_tableAt_5 : decode cX0_tableAt 5 = .ok (.aload_n 0, 1) := by decide +kernel
theorem dX0_tableAt_6 : decode cX0_tableAt 6 = .ok (.getfield 29, 3) := by decide +kernel
theorem dX0_tableAt_9 : decode cX0_tableAt 9 = .ok (.iadd, 1) := by decide +kernel
theorem dX0_tableAt_10 : decode cX0_tableAt 10 = .ok (.iconst 2, 1) := by decide +kernel
theorem dX0_tableAt_11 : decode cX0_tableAt 11 = .ok (.isub, 1) := by decide +kernel
theorem dX0_tableAt_12 : decode cX0_tableAt 12 = .ok (.ireturn, 1) := by decide +kernel
theorem dX1_init_0 : decode cX1_init 0 = .ok (.aload_n 0, 1) := by decide +kernel
theorem dX1_init_1 : decode cX1_init 1 = .ok (.invokespecial 3, 3) := by decide +kernel
theorem dX1_init_4 : decode cX1_init 4 = .ok (.aload_n 0, 1) := by decide +kernel
theorem dX1_init_5 : decode cX1_init 5 = .ok (.aload_n 1, 1) := by decide +kernel
theorem dX1_init_6 : decode cX1_init 6 = .ok (.putfield 9, 3) := by decide +kernel
theorem dX1_init_9 : decode cX1_init 9 = .ok (.aload_n 0, 1) := by decide +kernel
theorem dX1_init_10 : decode cX1_init 10 = .ok (.aload_n 2, 1) := by decide +kernel
theorem dX1_init_11 : decode cX1_init 11 = .ok (.putfield 15, 3) := by decide +kernel
theorem dX1_init_14 : decode cX1_init 14 = .ok (.return_, 1) := by decide +kernel
theorem dX1_code_0 : decode cX1_code 0 = .ok (.iload_n 1, 1) := by decide +kernel
theorem dX1_code_1 : decode cX1_code 1 = .ok (.istore_n 2, 1) := by decide +kernel
theorem dX1_code_2 : decode cX1_code 2 = .ok (.iconst 1, 1) := by decide +kernel
theorem dX1_code_3 : decode cX1_code 3 = .ok (.istore_n 3, 1) := by decide +kernel
theorem dX1_code_4 : decode cX1_code 4 = .ok (.iload_n 3, 1) := by decide +kernel
theorem dX1_code_5 : decode cX1_code 5 = .ok (.bipush 10, 2) := by decide +kernel
theorem dX1_code_7 : decode cX1_code 7 = .ok (.if_icmp .gt 26, 3) := by decide +kernel
theorem dX1_code_10 : decode cX1_code 10 = .ok (.iload_n 0, 1) := by decide +kernel
theorem dX1_code_11 : decode cX1_code 11 = .ok (.iload_n 3, 1) := by decide +kernel
theorem dX1_code_12 : decode cX1_code 12 = .ok (.ishr, 1) := by decide +kernel
theorem dX1_code_13 : decode cX1_code 13 = .ok (.iconst 1, 1) := by decide +kernel
theorem dX1_code_14 : decode cX1_code 14 = .ok (.iand, 1) := by decide +kernel
theorem dX1_code_15 : decode cX1_code 15 = .ok (.ifCond .eq 12, 3) := by decide +kernel
theorem dX1_code_18 : decode cX1_code 18 = .ok (.iload_n 2, 1) := by decide +kernel
theorem dX1_code_19 : decode cX1_code 19 = .ok (.ifCond .ne 5, 3) := by decide +kernel
theorem dX1_code_22 : decode cX1_code 22 = .ok (.iload_n 3, 1) := by decide +kernel
theorem dX1_code_23 : decode cX1_code 23 = .ok (.ireturn, 1) := by decide +kernel
theorem dX1_code_24 : decode cX1_code 24 = .ok (.iinc 2 (-1), 3) := by decide +kernel
theorem dX1_code_27 : decode cX1_code 27 = .ok (.iinc 3 1, 3) := by decide +kernel
theorem dX1_code_30 : decode cX1_code 30 = .ok (.goto (-26), 3) := by decide +kernel
theorem dX1_code_33 : decode cX1_code 33 = .ok (.iconst 0, 1) := by decide +kernel
theorem dX1_code_34 : decode cX1_code 34 = .ok (.ireturn, 1) := by decide +kernel
theorem dX1_of_0 : decode cX1_of 0 = .ok (.aload_n 0, 1) := by decide +kernel
theorem dX1_of_1 : decode cX1_of 1 = .ok (.getfield 9, 3) := by decide +kernel
theorem dX1_of_4 : decode cX1_of 4 = .ok (.iload_n 1, 1) := by decide +kernel
theorem dX1_of_5 : decode cX1_of 5 = .ok (.iconst 0, 1) := by decide +kernel
theorem dX1_of_6 : decode cX1_of 6 = .ok (.invokevirtual 19, 3) := by decide +kernel
theorem dX1_of_9 : decode cX1_of 9 = .ok (.istore_n 2, 1) := by decide +kernel
theorem dX1_of_10 : decode cX1_of 10 = .ok (.aload_n 0, 1) := by decide +kernel
theorem dX1_of_11 : decode cX1_of 11 = .ok (.getfield 9, 3) := by decide +kernel
theorem dX1_of_14 : decode cX1_of 14 = .ok (.iload_n 1, 1) := by decide +kernel
theorem dX1_of_15 : decode cX1_of 15 = .ok (.iconst 1, 1) := by decide +kernel
theorem dX1_of_16 : decode cX1_of 16 = .ok (.invokevirtual 19, 3) := by decide +kernel
theorem dX1_of_19 : decode cX1_of 19 = .ok (.istore_n 3, 1) := by decide +kernel
theorem dX1_of_20 : decode cX1_of 20 = .ok (.aload_n 0, 1) := by decide +kernel
theorem dX1_of_21 : decode cX1_of 21 = .ok (.getfield 9, 3) := by decide +kernel
theorem dX1_of_24 : decode cX1_of 24 = .ok (.iload_n 1, 1) := by decide +kernel
theorem dX1_of_25 : decode cX1_of 25 = .ok (.iconst 2, 1) := by decide +kernel
theorem dX1_of_26 : decode cX1_of 26 = .ok (.invokevirtual 19, 3) := by decide +kernel
theorem dX1_of_29 : decode cX1_of 29 = .ok (.istore 4, 2) := by decide +kernel
theorem dX1_of_31 : decode cX1_of 31 = .ok (.iconst 1, 1) := by decide +kernel
theorem dX1_of_32 : decode cX1_of 32 = .ok (.aload_n 0, 1) := by decide +kernel
theorem dX1_of_33 : decode cX1_of 33 = .ok (.iload_n 2, 1) := by decide +kernel
theorem dX1_of_34 : decode cX1_of 34 = .ok (.invokevirtual 25, 3) := by decide +kernel
theorem dX1_of_37 : decode cX1_of 37 = .ok (.invokestatic 29, 3) := by decide +kernel
theorem dX1_of_40 : decode cX1_of 40 = .ok (.iconst 2, 1) := by decide +kernel
theorem dX1_of_41 : decode cX1_of 41 = .ok (.aload_n 0, 1) := by decide +kernel
theorem dX1_of_42 : decode cX1_of 42 = .ok (.iload_n 3, 1) := by decide +kernel
theorem dX1_of_43 : decode cX1_of 43 = .ok (.invokevirtual 25, 3) := by decide +kernel
theorem dX1_of_46 : decode cX1_of 46 = .ok (.invokestatic 29, 3) := by decide +kernel
theorem dX1_of_49 : decode cX1_of 49 = .ok (.ior, 1) := by decide +kernel
theorem dX1_of_50 : decode cX1_of 50 = .ok (.iconst 3, 1) := by decide +kernel
theorem dX1_of_51 : decode cX1_of 51 = .ok (.aload_n 0, 1) := by decide +kernel
theorem dX1_of_52 : decode cX1_of 52 = .ok (.iload 4, 2) := by decide +kernel
theorem dX1_of_54 : decode cX1_of 54 = .ok (.invokevirtual 25, 3) := by decide +kernel
theorem dX1_of_57 : decode cX1_of 57 = .ok (.invokestatic 29, 3) := by decide +kernel
theorem dX1_of_60 : decode cX1_of 60 = .ok (.ior, 1) := by decide +kernel
theorem dX1_of_61 : decode cX1_of 61 = .ok (.iconst 4, 1) := by decide +kernel
theorem dX1_of_62 : decode cX1_of 62 = .ok (.aload_n 0, 1) := by decide +kernel
theorem dX1_of_63 : decode cX1_of 63 = .ok (.getfield 9, 3) := by decide +kernel
theorem dX1_of_66 : decode cX1_of 66 = .ok (.iload_n 2, 1) := by decide +kernel
theorem dX1_of_67 : decode cX1_of 67 = .ok (.iconst 0, 1) := by decide +kernel
theorem dX1_of_68 : decode cX1_of 68 = .ok (.iload_n 1, 1) := by decide +kernel
theorem dX1_of_69 : decode cX1_of 69 = .ok (.invokevirtual 33, 3) := by decide +kernel
theorem dX1_of_72 : decode cX1_of 72 = .ok (.invokestatic 29, 3) := by decide +kernel
theorem dX1_of_75 : decode cX1_of 75 = .ok (.ior, 1) := by decide +kernel
theorem dX1_of_76 : decode cX1_of 76 = .ok (.iconst 5, 1) := by decide +kernel
theorem dX1_of_77 : decode cX1_of 77 = .ok (.aload_n 0, 1) := by decide +kernel
theorem dX1_of_78 : decode cX1_of 78 = .ok (.getfield 9, 3) := by decide +kernel
theorem dX1_of_81 : decode cX1_of 81 = .ok (.iload_n 3, 1) := by decide +kernel
theorem dX1_of_82 : decode cX1_of 82 = .ok (.iconst 1, 1) := by decide +kernel
theorem dX1_of_83 : decode cX1_of 83 = .ok (.iload_n 1, 1) := by decide +kernel
theorem dX1_of_84 : decode cX1_of 84 = .ok (.invokevirtual 33, 3) := by decide +kernel
theorem dX1_of_87 : decode cX1_of 87 = .ok (.invokestatic 29, 3) := by decide +kernel
theorem dX1_of_90 : decode cX1_of 90 = .ok (.ior, 1) := by decide +kernel
theorem dX1_of_91 : decode cX1_of 91 = .ok (.bipush 6, 2) := by decide +kernel
theorem dX1_of_93 : decode cX1_of 93 = .ok (.aload_n 0, 1) := by decide +kernel
theorem dX1_of_94 : decode cX1_of 94 = .ok (.getfield 9, 3) := by decide +kernel
theorem dX1_of_97 : decode cX1_of 97 = .ok (.iload_n 2, 1) := by decide +kernel
theorem dX1_of_98 : decode cX1_of 98 = .ok (.invokevirtual 37, 3) := by decide +kernel
theorem dX1_of_101 : decode cX1_of 101 = .ok (.ifCond .eq 19, 3) := by decide +kernel
theorem dX1_of_104 : decode cX1_of 104 = .ok (.aload_n 0, 1) := by decide +kernel
theorem dX1_of_105 : decode cX1_of 105 = .ok (.getfield 9, 3) := by decide +kernel
theorem dX1_of_108 : decode cX1_of 108 = .ok (.iload_n 2, 1) := by decide +kernel
theorem dX1_of_109 : decode cX1_of 109 = .ok (.iload_n 1, 1) := by decide +kernel
theorem dX1_of_110 : decode cX1_of 110 = .ok (.invokevirtual 40, 3) := by decide +kernel
theorem dX1_of_113 : decode cX1_of 113 = .ok (.ifCond .ne 7, 3) := by decide +kernel
theorem dX1_of_116 : decode cX1_of 116 = .ok (.iconst 1, 1) := by decide +kernel
theorem dX1_of_117 : decode cX1_of 117 = .ok (.goto 4, 3) := by decide +kernel
theorem dX1_of_120 : decode cX1_of 120 = .ok (.iconst 0, 1) := by decide +kernel
theorem dX1_of_121 : decode cX1_of 121 = .ok (.invokestatic 29, 3) := by decide +kernel
theorem dX1_of_124 : decode cX1_of 124 = .ok (.ior, 1) := by decide +kernel
theorem dX1_of_125 : decode cX1_of 125 = .ok (.bipush 7, 2) := by decide +kernel
theorem dX1_of_127 : decode cX1_of 127 = .ok (.aload_n 0, 1) := by decide +kernel
theorem dX1_of_128 : decode cX1_of 128 = .ok (.getfield 9, 3) := by decide +kernel
theorem dX1_of_131 : decode cX1_of 131 = .ok (.iload 4, 2) := by decide +kernel
theorem dX1_of_133 : decode cX1_of 133 = .ok (.invokevirtual 37, 3) := by decide +kernel
theorem dX1_of_136 : decode cX1_of 136 = .ok (.ifCond .eq 21, 3) := by decide +kernel
theorem dX1_of_139 : decode cX1_of 139 = .ok (.aload_n 0, 1) := by decide +kernel
theorem dX1_of_140 : decode cX1_of 140 = .ok (.getfield 9, 3) := by decide +kernel
theorem dX1_of_143 : decode cX1_of 143 = .ok (.iload 4, 2) := by decide +kernel
theorem dX1_of_145 : decode cX1_of 145 = .ok (.iconst 0, 1) := by decide +kernel
theorem dX1_of_146 : decode cX1_of 146 = .ok (.invokevirtual 19, 3) := by decide +kernel
theorem dX1_of_149 : decode cX1_of 149 = .ok (.iload_n 1, 1) := by decide +kernel
theorem dX1_of_150 : decode cX1_of 150 = .ok (.if_icmp .eq 7, 3) := by decide +kernel
theorem dX1_of_153 : decode cX1_of 153 = .ok (.iconst 1, 1) := by decide +kernel
theorem dX1_of_154 : decode cX1_of 154 = .ok (.goto 4, 3) := by decide +kernel
theorem dX1_of_157 : decode cX1_of 157 = .ok (.iconst 0, 1) := by decide +kernel
theorem dX1_of_158 : decode cX1_of 158 = .ok (.invokestatic 29, 3) := by decide +kernel
theorem dX1_of_161 : decode cX1_of 161 = .ok (.ior, 1) := by decide +kernel
theorem dX1_of_162 : decode cX1_of 162 = .ok (.bipush 8, 2) := by decide +kernel
theorem dX1_of_164 : decode cX1_of 164 = .ok (.iload_n 3, 1) := by decide +kernel
theorem dX1_of_165 : decode cX1_of 165 = .ok (.ifCond .eq 11, 3) := by decide +kernel
theorem dX1_of_168 : decode cX1_of 168 = .ok (.iload_n 2, 1) := by decide +kernel
theorem dX1_of_169 : decode cX1_of 169 = .ok (.ifCond .ne 7, 3) := by decide +kernel
theorem dX1_of_172 : decode cX1_of 172 = .ok (.iconst 1, 1) := by decide +kernel
theorem dX1_of_173 : decode cX1_of 173 = .ok (.goto 4, 3) := by decide +kernel
theorem dX1_of_176 : decode cX1_of 176 = .ok (.iconst 0, 1) := by decide +kernel
theorem dX1_of_177 : decode cX1_of 177 = .ok (.invokestatic 29, 3) := by decide +kernel
theorem dX1_of_180 : decode cX1_of 180 = .ok (.ior, 1) := by decide +kernel
theorem dX1_of_181 : decode cX1_of 181 = .ok (.bipush 9, 2) := by decide +kernel
theorem dX1_of_183 : decode cX1_of 183 = .ok (.aload_n 0, 1) := by decide +kernel
theorem dX1_of_184 : decode cX1_of 184 = .ok (.aload_n 0, 1) := by decide +kernel
theorem dX1_of_185 : decode cX1_of 185 = .ok (.getfield 9, 3) := by decide +kernel
theorem dX1_of_188 : decode cX1_of 188 = .ok (.iload_n 1, 1) := by decide +kernel
theorem dX1_of_189 : decode cX1_of 189 = .ok (.invokevirtual 44, 3) := by decide +kernel
theorem dX1_of_192 : decode cX1_of 192 = .ok (.invokevirtual 48, 3) := by decide +kernel
theorem dX1_of_195 : decode cX1_of 195 = .ok (.invokestatic 29, 3) := by decide +kernel
theorem dX1_of_198 : decode cX1_of 198 = .ok (.ior, 1) := by decide +kernel
theorem dX1_of_199 : decode cX1_of 199 = .ok (.bipush 10, 2) := by decide +kernel
theorem dX1_of_201 : decode cX1_of 201 = .ok (.aload_n 0, 1) := by decide +kernel
theorem dX1_of_202 : decode cX1_of 202 = .ok (.iload_n 1, 1) := by decide +kernel
theorem dX1_of_203 : decode cX1_of 203 = .ok (.invokevirtual 51, 3) := by decide +kernel
theorem dX1_of_206 : decode cX1_of 206 = .ok (.invokestatic 29, 3) := by decide +kernel
theorem dX1_of_209 : decode cX1_of 209 = .ok (.ior, 1) := by decide +kernel
theorem dX1_of_210 : decode cX1_of 210 = .ok (.ireturn, 1) := by decide +kernel
theorem dX1_fault_0 : decode cX1_fault 0 = .ok (.iload_n 1, 1) := by decide +kernel
theorem dX1_fault_1 : decode cX1_fault 1 = .ok (.ifCond .eq 9, 3) := by decide +kernel
theorem dX1_fault_4 : decode cX1_fault 4 = .ok (.iconst 1, 1) := by decide +kernel
theorem dX1_fault_5 : decode cX1_fault 5 = .ok (.iload_n 0, 1) := by decide +kernel
theorem dX1_fault_6 : decode cX1_fault 6 = .ok (.ishl, 1) := by decide +kernel
theorem dX1_fault_7 : decode cX1_fault 7 = .ok (.goto 4, 3) := by decide +kernel
theorem dX1_fault_10 : decode cX1_fault 10 = .ok (.iconst 0, 1) := by decide +kernel
theorem dX1_fault_11 : decode cX1_fault 11 = .ok (.ireturn, 1) := by decide +kernel
theorem dX1_isStray_0 : decode cX1_isStray 0 = .ok (.iload_n 1, 1) := by decide +kernel
theorem dX1_isStray_1 : decode cX1_isStray 1 = .ok (.ifCond .eq 18, 3) := by decide +kernel
theorem dX1_isStray_4 : decode cX1_isStray 4 = .ok (.aload_n 0, 1) := by decide +kernel
theorem dX1_isStray_5 : decode cX1_isStray 5 = .ok (.getfield 9, 3) := by decide +kernel
theorem dX1_isStray_8 : decode cX1_isStray 8 = .ok (.iload_n 1, 1) := by decide +kernel
theorem dX1_isStray_9 : decode cX1_isStray 9 = .ok (.invokevirtual 37, 3) := by decide +kernel
theorem dX1_isStray_12 : decode cX1_isStray 12 = .ok (.ifCond .ne 7, 3) := by decide +kernel
theorem dX1_isStray_15 : decode cX1_isStray 15 = .ok (.iconst 1, 1) := by decide +kernel
theorem dX1_isStray_16 : decode cX1_isStray 16 = .ok (.goto 4, 3) := by decide +kernel
theorem dX1_isStray_19 : decode cX1_isStray 19 = .ok (.iconst 0, 1) := by decide +kernel
theorem dX1_isStray_20 : decode cX1_isStray 20 = .ok (.ireturn, 1) := by decide +kernel
theorem dX1_isOutOfOrder_0 : decode cX1_isOutOfOrder 0 = .ok (.aload_n 0, 1) := by decide +kernel
theorem dX1_isOutOfOrder_1 : decode cX1_isOutOfOrder 1 = .ok (.getfield 15, 3) := by decide +kernel
theorem dX1_isOutOfOrder_4 : decode cX1_isOutOfOrder 4 = .ok (.iload_n 1, 1) := by decide +kernel
theorem dX1_isOutOfOrder_5 : decode cX1_isOutOfOrder 5 = .ok (.invokevirtual 54, 3) := by decide +kernel
theorem dX1_isOutOfOrder_8 : decode cX1_isOutOfOrder 8 = .ok (.bipush 64, 2) := by decide +kernel
theorem dX1_isOutOfOrder_10 : decode cX1_isOutOfOrder 10 = .ok (.istore_n 2, 1) := by decide +kernel
theorem dX1_isOutOfOrder_11 : decode cX1_isOutOfOrder 11 = .ok (.iconst 0, 1) := by decide +kernel
theorem dX1_isOutOfOrder_12 : decode cX1_isOutOfOrder 12 = .ok (.istore_n 3, 1) := by decide +kernel
theorem dX1_isOutOfOrder_13 : decode cX1_isOutOfOrder 13 = .ok (.iload_n 3, 1) := by decide +kernel
theorem dX1_isOutOfOrder_14 : decode cX1_isOutOfOrder 14 = .ok (.sipush 4096, 3) := by decide +kernel
theorem dX1_isOutOfOrder_17 : decode cX1_isOutOfOrder 17 = .ok (.if_icmp .ge 40, 3) := by decide +kernel
theorem dX1_isOutOfOrder_20 : decode cX1_isOutOfOrder 20 = .ok (.aload_n 0, 1) := by decide +kernel
theorem dX1_isOutOfOrder_21 : decode cX1_isOutOfOrder 21 = .ok (.getfield 15, 3) := by decide +kernel
theorem dX1_isOutOfOrder_24 : decode cX1_isOutOfOrder 24 = .ok (.invokevirtual 60, 3) := by decide +kernel
theorem dX1_isOutOfOrder_27 : decode cX1_isOutOfOrder 27 = .ok (.ifCond .eq 30, 3) := by decide +kernel
theorem dX1_isOutOfOrder_30 : decode cX1_isOutOfOrder 30 = .ok (.aload_n 0, 1) := by decide +kernel
theorem dX1_isOutOfOrder_31 : decode cX1_isOutOfOrder 31 = .ok (.getfield 15, 3) := by decide +kernel
theorem dX1_isOutOfOrder_34 : decode cX1_isOutOfOrder 34 = .ok (.invokevirtual 64, 3) := by decide +kernel
theorem dX1_isOutOfOrder_37 : decode cX1_isOutOfOrder 37 = .ok (.iload_n 2, 1) := by decide +kernel
theorem dX1_isOutOfOrder_38 : decode cX1_isOutOfOrder 38 = .ok (.if_icmp .lt 5, 3) := by decide +kernel
theorem dX1_isOutOfOrder_41 : decode cX1_isOutOfOrder 41 = .ok (.iconst 1, 1) := by decide +kernel
theorem dX1_isOutOfOrder_42 : decode cX1_isOutOfOrder 42 = .ok (.ireturn, 1) := by decide +kernel
theorem dX1_isOutOfOrder_43 : decode cX1_isOutOfOrder 43 = .ok (.aload_n 0, 1) := by decide +kernel
theorem dX1_isOutOfOrder_44 : decode cX1_isOutOfOrder 44 = .ok (.getfield 15, 3) := by decide +kernel
theorem dX1_isOutOfOrder_47 : decode cX1_isOutOfOrder 47 = .ok (.invokevirtual 64, 3) := by decide +kernel
theorem dX1_isOutOfOrder_50 : decode cX1_isOutOfOrder 50 = .ok (.istore_n 2, 1) := by decide +kernel
theorem dX1_isOutOfOrder_51 : decode cX1_isOutOfOrder 51 = .ok (.iinc 3 1, 3) := by decide +kernel
theorem dX1_isOutOfOrder_54 : decode cX1_isOutOfOrder 54 = .ok (.goto (-41), 3) := by decide +kernel
theorem dX1_isOutOfOrder_57 : decode cX1_isOutOfOrder 57 = .ok (.iconst 0, 1) := by decide +kernel
theorem dX1_isOutOfOrder_58 : decode cX1_isOutOfOrder 58 = .ok (.ireturn, 1) := by decide +kernel
theorem dX1_sharesTable_0 : decode cX1_sharesTable 0 = .ok (.aload_n 0, 1) := by decide +kernel
theorem dX1_sharesTable_1 : decode cX1_sharesTable 1 = .ok (.getfield 9, 3) := by decide +kernel
theorem dX1_sharesTable_4 : decode cX1_sharesTable 4 = .ok (.iload_n 1, 1) := by decide +kernel
theorem dX1_sharesTable_5 : decode cX1_sharesTable 5 = .ok (.invokevirtual 44, 3) := by decide +kernel
theorem dX1_sharesTable_8 : decode cX1_sharesTable 8 = .ok (.istore_n 2, 1) := by decide +kernel
theorem dX1_sharesTable_9 : decode cX1_sharesTable 9 = .ok (.iconst 1, 1) := by decide +kernel
theorem dX1_sharesTable_10 : decode cX1_sharesTable 10 = .ok (.istore_n 3, 1) := by decide +kernel
theorem dX1_sharesTable_11 : decode cX1_sharesTable 11 = .ok (.iload_n 3, 1) := by decide +kernel
theorem dX1_sharesTable_12 : decode cX1_sharesTable 12 = .ok (.iload_n 1, 1) := by decide +kernel
theorem dX1_sharesTable_13 : decode cX1_sharesTable 13 = .ok (.if_icmp .ge 23, 3) := by decide +kernel
theorem dX1_sharesTable_16 : decode cX1_sharesTable 16 = .ok (.aload_n 0, 1) := by decide +kernel
theorem dX1_sharesTable_17 : decode cX1_sharesTable 17 = .ok (.getfield 9, 3) := by decide +kernel
theorem dX1_sharesTable_20 : decode cX1_sharesTable 20 = .ok (.iload_n 3, 1) := by decide +kernel
theorem dX1_sharesTable_21 : decode cX1_sharesTable 21 = .ok (.invokevirtual 44, 3) := by decide +kernel
theorem dX1_sharesTable_24 : decode cX1_sharesTable 24 = .ok (.iload_n 2, 1) := by decide +kernel
theorem dX1_sharesTable_25 : decode cX1_sharesTable 25 = .ok (.if_icmp .ne 5, 3) := by decide +kernel
theorem dX1_sharesTable_28 : decode cX1_sharesTable 28 = .ok (.iconst 1, 1) := by decide +kernel
theorem dX1_sharesTable_29 : decode cX1_sharesTable 29 = .ok (.ireturn, 1) := by decide +kernel
theorem dX1_sharesTable_30 : decode cX1_sharesTable 30 = .ok (.iinc 3 1, 3) := by decide +kernel
theorem dX1_sharesTable_33 : decode cX1_sharesTable 33 = .ok (.goto (-22), 3) := by decide +kernel
theorem dX1_sharesTable_36 : decode cX1_sharesTable 36 = .ok (.iconst 0, 1) := by decide +kernel
theorem dX1_sharesTable_37 : decode cX1_sharesTable 37 = .ok (.ireturn, 1) := by decide +kernel
theorem dX2_init_0 : decode cX2_init 0 = .ok (.aload_n 0, 1) := by decide +kernel
theorem dX2_init_1 : decode cX2_init 1 = .ok (.invokespecial 3, 3) := by decide +kernel
theorem dX2_init_4 : decode cX2_init 4 = .ok (.aload_n 0, 1) := by decide +kernel
theorem dX2_init_5 : decode cX2_init 5 = .ok (.sipush 4096, 3) := by decide +kernel
theorem dX2_init_8 : decode cX2_init 8 = .ok (.newarray .byte, 2) := by decide +kernel
theorem dX2_init_10 : decode cX2_init 10 = .ok (.putfield 9, 3) := by decide +kernel
theorem dX2_init_13 : decode cX2_init 13 = .ok (.return_, 1) := by decide +kernel
theorem dX2_has_0 : decode cX2_has 0 = .ok (.iload_n 1, 1) := by decide +kernel
theorem dX2_has_1 : decode cX2_has 1 = .ok (.ifCond .lt 14, 3) := by decide +kernel
theorem dX2_has_4 : decode cX2_has 4 = .ok (.iload_n 1, 1) := by decide +kernel
theorem dX2_has_5 : decode cX2_has 5 = .ok (.sipush 4096, 3) := by decide +kernel
theorem dX2_has_8 : decode cX2_has 8 = .ok (.if_icmp .ge 7, 3) := by decide +kernel
theorem dX2_has_11 : decode cX2_has 11 = .ok (.iconst 1, 1) := by decide +kernel
theorem dX2_has_12 : decode cX2_has 12 = .ok (.goto 4, 3) := by decide +kernel
theorem dX2_has_15 : decode cX2_has 15 = .ok (.iconst 0, 1) := by decide +kernel
theorem dX2_has_16 : decode cX2_has 16 = .ok (.ireturn, 1) := by decide +kernel
theorem dX2_get_0 : decode cX2_get 0 = .ok (.iload_n 1, 1) := by decide +kernel
theorem dX2_get_1 : decode cX2_get 1 = .ok (.ifCond .lt 23, 3) := by decide +kernel
theorem dX2_get_4 : decode cX2_get 4 = .ok (.iload_n 1, 1) := by decide +kernel
theorem dX2_get_5 : decode cX2_get 5 = .ok (.sipush 4096, 3) := by decide +kernel
theorem dX2_get_8 : decode cX2_get 8 = .ok (.if_icmp .ge 16, 3) := by decide +kernel
theorem dX2_get_11 : decode cX2_get 11 = .ok (.aload_n 0, 1) := by decide +kernel
theorem dX2_get_12 : decode cX2_get 12 = .ok (.getfield 9, 3) := by decide +kernel
theorem dX2_get_15 : decode cX2_get 15 = .ok (.iload_n 1, 1) := by decide +kernel
theorem dX2_get_16 : decode cX2_get 16 = .ok (.baload, 1) := by decide +kernel
theorem dX2_get_17 : decode cX2_get 17 = .ok (.sipush 255, 3) := by decide +kernel
theorem dX2_get_20 : decode cX2_get 20 = .ok (.iand, 1) := by decide +kernel
theorem dX2_get_21 : decode cX2_get 21 = .ok (.goto 4, 3) := by decide +kernel
theorem dX2_get_24 : decode cX2_get 24 = .ok (.iconst 0, 1) := by decide +kernel
theorem dX2_get_25 : decode cX2_get 25 = .ok (.ireturn, 1) := by decide +kernel
theorem dX2_set_0 : decode cX2_set 0 = .ok (.iload_n 1, 1) := by decide +kernel
theorem dX2_set_1 : decode cX2_set 1 = .ok (.ifCond .lt 18, 3) := by decide +kernel
theorem dX2_set_4 : decode cX2_set 4 = .ok (.iload_n 1, 1) := by decide +kernel
theorem dX2_set_5 : decode cX2_set 5 = .ok (.sipush 4096, 3) := by decide +kernel
theorem dX2_set_8 : decode cX2_set 8 = .ok (.if_icmp .ge 11, 3) := by decide +kernel
theorem dX2_set_11 : decode cX2_set 11 = .ok (.aload_n 0, 1) := by decide +kernel
theorem dX2_set_12 : decode cX2_set 12 = .ok (.getfield 9, 3) := by decide +kernel
theorem dX2_set_15 : decode cX2_set 15 = .ok (.iload_n 1, 1) := by decide +kernel
theorem dX2_set_16 : decode cX2_set 16 = .ok (.iload_n 2, 1) := by decide +kernel
theorem dX2_set_17 : decode cX2_set 17 = .ok (.i2b, 1) := by decide +kernel
theorem dX2_set_18 : decode cX2_set 18 = .ok (.bastore, 1) := by decide +kernel
theorem dX2_set_19 : decode cX2_set 19 = .ok (.return_, 1) := by decide +kernel
theorem dX2_word_0 : decode cX2_word 0 = .ok (.sipush 256, 3) := by decide +kernel
theorem dX2_word_3 : decode cX2_word 3 = .ok (.aload_n 0, 1) := by decide +kernel
theorem dX2_word_4 : decode cX2_word 4 = .ok (.iload_n 1, 1) := by decide +kernel
theorem dX2_word_5 : decode cX2_word 5 = .ok (.invokevirtual 15, 3) := by decide +kernel
theorem dX2_word_8 : decode cX2_word 8 = .ok (.imul, 1) := by decide +kernel
theorem dX2_word_9 : decode cX2_word 9 = .ok (.aload_n 0, 1) := by decide +kernel
theorem dX2_word_10 : decode cX2_word 10 = .ok (.iload_n 1, 1) := by decide +kernel
theorem dX2_word_11 : decode cX2_word 11 = .ok (.iconst 1, 1) := by decide +kernel
theorem dX2_word_12 : decode cX2_word 12 = .ok (.iadd, 1) := by decide +kernel
theorem dX2_word_13 : decode cX2_word 13 = .ok (.invokevirtual 15, 3) := by decide +kernel
theorem dX2_word_16 : decode cX2_word 16 = .ok (.iadd, 1) := by decide +kernel
theorem dX2_word_17 : decode cX2_word 17 = .ok (.ireturn, 1) := by decide +kernel
theorem dX2_setWord_0 : decode cX2_setWord 0 = .ok (.aload_n 0, 1) := by decide +kernel
theorem dX2_setWord_1 : decode cX2_setWord 1 = .ok (.iload_n 1, 1) := by decide +kernel
theorem dX2_setWord_2 : decode cX2_setWord 2 = .ok (.iload_n 2, 1) := by decide +kernel
theorem dX2_setWord_3 : decode cX2_setWord 3 = .ok (.bipush 8, 2) := by decide +kernel
theorem dX2_setWord_5 : decode cX2_setWord 5 = .ok (.ishr, 1) := by decide +kernel
theorem dX2_setWord_6 : decode cX2_setWord 6 = .ok (.invokevirtual 19, 3) := by decide +kernel
theorem dX2_setWord_9 : decode cX2_setWord 9 = .ok (.aload_n 0, 1) := by decide +kernel
theorem dX2_setWord_10 : decode cX2_setWord 10 = .ok (.iload_n 1, 1) := by decide +kernel
theorem dX2_setWord_11 : decode cX2_setWord 11 = .ok (.iconst 1, 1) := by decide +kernel
theorem dX2_setWord_12 : decode cX2_setWord 12 = .ok (.iadd, 1) := by decide +kernel
theorem dX2_setWord_13 : decode cX2_setWord 13 = .ok (.iload_n 2, 1) := by decide +kernel
theorem dX2_setWord_14 : decode cX2_setWord 14 = .ok (.invokevirtual 19, 3) := by decide +kernel
theorem dX2_setWord_17 : decode cX2_setWord 17 = .ok (.return_, 1) := by decide +kernel
theorem dX3_init_0 : decode cX3_init 0 = .ok (.aload_n 0, 1) := by decide +kernel
theorem dX3_init_1 : decode cX3_init 1 = .ok (.invokespecial 3, 3) := by decide +kernel
theorem dX3_init_4 : decode cX3_init 4 = .ok (.aload_n 0, 1) := by decide +kernel
theorem dX3_init_5 : decode cX3_init 5 = .ok (.aload_n 1, 1) := by decide +kernel
theorem dX3_init_6 : decode cX3_init 6 = .ok (.putfield 9, 3) := by decide +kernel
theorem dX3_init_9 : decode cX3_init 9 = .ok (.aload_n 0, 1) := by decide +kernel
theorem dX3_init_10 : decode cX3_init 10 = .ok (.iload_n 2, 1) := by decide +kernel
theorem dX3_init_11 : decode cX3_init 11 = .ok (.putfield 15, 3) := by decide +kernel
theorem dX3_init_14 : decode cX3_init 14 = .ok (.return_, 1) := by decide +kernel
theorem dX3_begin_0 : decode cX3_begin 0 = .ok (.aload_n 0, 1) := by decide +kernel
theorem dX3_begin_1 : decode cX3_begin 1 = .ok (.iload_n 1, 1) := by decide +kernel
theorem dX3_begin_2 : decode cX3_begin 2 = .ok (.iconst 1, 1) := by decide +kernel
theorem dX3_begin_3 : decode cX3_begin 3 = .ok (.iadd, 1) := by decide +kernel
theorem dX3_begin_4 : decode cX3_begin 4 = .ok (.iconst 2, 1) := by decide +kernel
theorem dX3_begin_5 : decode cX3_begin 5 = .ok (.aload_n 0, 1) := by decide +kernel
theorem dX3_begin_6 : decode cX3_begin 6 = .ok (.getfield 9, 3) := by decide +kernel
theorem dX3_begin_9 : decode cX3_begin 9 = .ok (.iload_n 1, 1) := by decide +kernel
theorem dX3_begin_10 : decode cX3_begin 10 = .ok (.invokevirtual 19, 3) := by decide +kernel
theorem dX3_begin_13 : decode cX3_begin 13 = .ok (.imul, 1) := by decide +kernel
theorem dX3_begin_14 : decode cX3_begin 14 = .ok (.iadd, 1) := by decide +kernel
theorem dX3_begin_15 : decode cX3_begin 15 = .ok (.putfield 25, 3) := by decide +kernel
theorem dX3_begin_18 : decode cX3_begin 18 = .ok (.return_, 1) := by decide +kernel
theorem dX3_advance_0 : decode cX3_advance 0 = .ok (.aload_n 0, 1) := by decide +kernel
theorem dX3_advance_1 : decode cX3_advance 1 = .ok (.getfield 9, 3) := by decide +kernel
theorem dX3_advance_4 : decode cX3_advance 4 = .ok (.aload_n 0, 1) := by decide +kernel
theorem dX3_advance_5 : decode cX3_advance 5 = .ok (.getfield 25, 3) := by decide +kernel
theorem dX3_advance_8 : decode cX3_advance 8 = .ok (.invokevirtual 19, 3) := by decide +kernel
theorem dX3_advance_11 : decode cX3_advance 11 = .ok (.istore_n 1, 1) := by decide +kernel
theorem dX3_advance_12 : decode cX3_advance 12 = .ok (.iload_n 1, 1) := by decide +kernel
theorem dX3_advance_13 : decode cX3_advance 13 = .ok (.ifCond .ne 5, 3) := by decide +kernel
theorem dX3_advance_16 : decode cX3_advance 16 = .ok (.iconst 0, 1) := by decide +kernel
theorem dX3_advance_17 : decode cX3_advance 17 = .ok (.ireturn, 1) := by decide +kernel
theorem dX3_advance_18 : decode cX3_advance 18 = .ok (.aload_n 0, 1) := by decide +kernel
theorem dX3_advance_19 : decode cX3_advance 19 = .ok (.getfield 15, 3) := by decide +kernel
theorem dX3_advance_22 : decode cX3_advance 22 = .ok (.ifCond .eq 14, 3) := by decide +kernel
theorem dX3_advance_25 : decode cX3_advance 25 = .ok (.iload_n 1, 1) := by decide +kernel
theorem dX3_advance_26 : decode cX3_advance 26 = .ok (.sipush 128, 3) := by decide +kernel
theorem dX3_advance_29 : decode cX3_advance 29 = .ok (.if_icmp .lt 7, 3) := by decide +kernel
theorem dX3_advance_32 : decode cX3_advance 32 = .ok (.iconst 1, 1) := by decide +kernel
theorem dX3_advance_33 : decode cX3_advance 33 = .ok (.goto 4, 3) := by decide +kernel
theorem dX3_advance_36 : decode cX3_advance 36 = .ok (.iconst 0, 1) := by decide +kernel
theorem dX3_advance_37 : decode cX3_advance 37 = .ok (.istore_n 2, 1) := by decide +kernel
theorem dX3_advance_38 : decode cX3_advance 38 = .ok (.aload_n 0, 1) := by decide +kernel
theorem dX3_advance_39 : decode cX3_advance 39 = .ok (.aload_n 0, 1) := by decide +kernel
theorem dX3_advance_40 : decode cX3_advance 40 = .ok (.getfield 15, 3) := by decide +kernel
theorem dX3_advance_43 : decode cX3_advance 43 = .ok (.ifCond .eq 10, 3) := by decide +kernel
theorem dX3_advance_46 : decode cX3_advance 46 = .ok (.iload_n 1, 1) := by decide +kernel
theorem dX3_advance_47 : decode cX3_advance 47 = .ok (.bipush 64, 2) := by decide +kernel
theorem dX3_advance_49 : decode cX3_advance 49 = .ok (.irem, 1) := by decide +kernel
theorem dX3_advance_50 : decode cX3_advance 50 = .ok (.goto 7, 3) := by decide +kernel
theorem dX3_advance_53 : decode cX3_advance 53 = .ok (.iload_n 1, 1) := by decide +kernel
theorem dX3_advance_54 : decode cX3_advance 54 = .ok (.bipush 32, 2) := by decide +kernel
theorem dX3_advance_56 : decode cX3_advance 56 = .ok (.irem, 1) := by decide +kernel
theorem dX3_advance_57 : decode cX3_advance 57 = .ok (.putfield 29, 3) := by decide +kernel
theorem dX3_advance_60 : decode cX3_advance 60 = .ok (.aload_n 0, 1) := by decide +kernel
theorem dX3_advance_61 : decode cX3_advance 61 = .ok (.iload_n 2, 1) := by decide +kernel
theorem dX3_advance_62 : decode cX3_advance 62 = .ok (.ifCond .eq 12, 3) := by decide +kernel
theorem dX3_advance_65 : decode cX3_advance 65 = .ok (.aload_n 0, 1) := by decide +kernel
theorem dX3_advance_66 : decode cX3_advance 66 = .ok (.getfield 25, 3) := by decide +kernel
theorem dX3_advance_69 : decode cX3_advance 69 = .ok (.iconst 2, 1) := by decide +kernel
theorem dX3_advance_70 : decode cX3_advance 70 = .ok (.iadd, 1) := by decide +kernel
theorem dX3_advance_71 : decode cX3_advance 71 = .ok (.goto 9, 3) := by decide +kernel
theorem dX3_advance_74 : decode cX3_advance 74 = .ok (.aload_n 0, 1) := by decide +kernel
theorem dX3_advance_75 : decode cX3_advance 75 = .ok (.getfield 25, 3) := by decide +kernel
theorem dX3_advance_78 : decode cX3_advance 78 = .ok (.iconst 1, 1) := by decide +kernel
theorem dX3_advance_79 : decode cX3_advance 79 = .ok (.iadd, 1) := by decide +kernel
theorem dX3_advance_80 : decode cX3_advance 80 = .ok (.putfield 32, 3) := by decide +kernel
theorem dX3_advance_83 : decode cX3_advance 83 = .ok (.aload_n 0, 1) := by decide +kernel
theorem dX3_advance_84 : decode cX3_advance 84 = .ok (.aload_n 0, 1) := by decide +kernel
theorem dX3_advance_85 : decode cX3_advance 85 = .ok (.iload_n 2, 1) := by decide +kernel
theorem dX3_advance_86 : decode cX3_advance 86 = .ok (.ifCond .eq 23, 3) := by decide +kernel
theorem dX3_advance_89 : decode cX3_advance 89 = .ok (.aload_n 0, 1) := by decide +kernel
theorem dX3_advance_90 : decode cX3_advance 90 = .ok (.getfield 9, 3) := by decide +kernel
theorem dX3_advance_93 : decode cX3_advance 93 = .ok (.aload_n 0, 1) := by decide +kernel
theorem dX3_advance_94 : decode cX3_advance 94 = .ok (.getfield 25, 3) := by decide +kernel
theorem dX3_advance_97 : decode cX3_advance 97 = .ok (.iconst 1, 1) := by decide +kernel
theorem dX3_advance_98 : decode cX3_advance 98 = .ok (.iadd, 1) := by decide +kernel
theorem dX3_advance_99 : decode cX3_advance 99 = .ok (.invokevirtual 19, 3) := by decide +kernel
theorem dX3_advance_102 : decode cX3_advance 102 = .ok (.sipush 128, 3) := by decide +kernel
theorem dX3_advance_105 : decode cX3_advance 105 = .ok (.ior, 1) := by decide +kernel
theorem dX3_advance_106 : decode cX3_advance 106 = .ok (.goto 4, 3) := by decide +kernel
theorem dX3_advance_109 : decode cX3_advance 109 = .ok (.iload_n 1, 1) := by decide +kernel
theorem dX3_advance_110 : decode cX3_advance 110 = .ok (.invokevirtual 35, 3) := by decide +kernel
theorem dX3_advance_113 : decode cX3_advance 113 = .ok (.putfield 38, 3) := by decide +kernel
theorem dX3_advance_116 : decode cX3_advance 116 = .ok (.aload_n 0, 1) := by decide +kernel
theorem dX3_advance_117 : decode cX3_advance 117 = .ok (.aload_n 0, 1) := by decide +kernel
theorem dX3_advance_118 : decode cX3_advance 118 = .ok (.getfield 32, 3) := by decide +kernel
theorem dX3_advance_121 : decode cX3_advance 121 = .ok (.aload_n 0, 1) := by decide +kernel
theorem dX3_advance_122 : decode cX3_advance 122 = .ok (.getfield 38, 3) := by decide +kernel
theorem dX3_advance_125 : decode cX3_advance 125 = .ok (.iadd, 1) := by decide +kernel
theorem dX3_advance_126 : decode cX3_advance 126 = .ok (.putfield 25, 3) := by decide +kernel
theorem dX3_advance_129 : decode cX3_advance 129 = .ok (.iconst 1, 1) := by decide +kernel
theorem dX3_advance_130 : decode cX3_advance 130 = .ok (.ireturn, 1) := by decide +kernel
theorem dX3_find_0 : decode cX3_find 0 = .ok (.iconst 0, 1) := by decide +kernel
theorem dX3_find_1 : decode cX3_find 1 = .ok (.istore_n 2, 1) := by decide +kernel
theorem dX3_find_2 : decode cX3_find 2 = .ok (.iload_n 2, 1) := by decide +kernel
theorem dX3_find_3 : decode cX3_find 3 = .ok (.sipush 4096, 3) := by decide +kernel
theorem dX3_find_6 : decode cX3_find 6 = .ok (.if_icmp .ge 26, 3) := by decide +kernel
theorem dX3_find_9 : decode cX3_find 9 = .ok (.aload_n 0, 1) := by decide +kernel
theorem dX3_find_10 : decode cX3_find 10 = .ok (.invokevirtual 41, 3) := by decide +kernel
theorem dX3_find_13 : decode cX3_find 13 = .ok (.ifCond .eq 19, 3) := by decide +kernel
theorem dX3_find_16 : decode cX3_find 16 = .ok (.aload_n 0, 1) := by decide +kernel
theorem dX3_find_17 : decode cX3_find 17 = .ok (.getfield 29, 3) := by decide +kernel
theorem dX3_find_20 : decode cX3_find 20 = .ok (.iload_n 1, 1) := by decide +kernel
theorem dX3_find_21 : decode cX3_find 21 = .ok (.if_icmp .ne 5, 3) := by decide +kernel
theorem dX3_find_24 : decode cX3_find 24 = .ok (.iconst 1, 1) := by decide +kernel
theorem dX3_find_25 : decode cX3_find 25 = .ok (.ireturn, 1) := by decide +kernel
theorem dX3_find_26 : decode cX3_find 26 = .ok (.iinc 2 1, 3) := by decide +kernel
theorem dX3_find_29 : decode cX3_find 29 = .ok (.goto (-27), 3) := by decide +kernel
theorem dX3_find_32 : decode cX3_find 32 = .ok (.iconst 0, 1) := by decide +kernel
theorem dX3_find_33 : decode cX3_find 33 = .ok (.ireturn, 1) := by decide +kernel
theorem dX3_sizeByLastByte_0 : decode cX3_sizeByLastByte 0 = .ok (.aload_n 0, 1) := by decide +kernel
theorem dX3_sizeByLastByte_1 : decode cX3_sizeByLastByte 1 = .ok (.getfield 15, 3) := by decide +kernel
theorem dX3_sizeByLastByte_4 : decode cX3_sizeByLastByte 4 = .ok (.ifCond .ne 10, 3) := by decide +kernel
theorem dX3_sizeByLastByte_7 : decode cX3_sizeByLastByte 7 = .ok (.iload_n 1, 1) := by decide +kernel
theorem dX3_sizeByLastByte_8 : decode cX3_sizeByLastByte 8 = .ok (.bipush 32, 2) := by decide +kernel
theorem dX3_sizeByLastByte_10 : decode cX3_sizeByLastByte 10 = .ok (.idiv, 1) := by decide +kernel
theorem dX3_sizeByLastByte_11 : decode cX3_sizeByLastByte 11 = .ok (.iconst 1, 1) := by decide +kernel
theorem dX3_sizeByLastByte_12 : decode cX3_sizeByLastByte 12 = .ok (.iadd, 1) := by decide +kernel
theorem dX3_sizeByLastByte_13 : decode cX3_sizeByLastByte 13 = .ok (.ireturn, 1) := by decide +kernel
theorem dX3_sizeByLastByte_14 : decode cX3_sizeByLastByte 14 = .ok (.iload_n 1, 1) := by decide +kernel
theorem dX3_sizeByLastByte_15 : decode cX3_sizeByLastByte 15 = .ok (.sipush 128, 3) := by decide +kernel
theorem dX3_sizeByLastByte_18 : decode cX3_sizeByLastByte 18 = .ok (.if_icmp .ge 15, 3) := by decide +kernel
theorem dX3_sizeByLastByte_21 : decode cX3_sizeByLastByte 21 = .ok (.iload_n 1, 1) := by decide +kernel
theorem dX3_sizeByLastByte_22 : decode cX3_sizeByLastByte 22 = .ok (.bipush 64, 2) := by decide +kernel
theorem dX3_sizeByLastByte_24 : decode cX3_sizeByLastByte 24 = .ok (.if_icmp .lt 7, 3) := by decide +kernel
theorem dX3_sizeByLastByte_27 : decode cX3_sizeByLastByte 27 = .ok (.iconst 2, 1) := by decide +kernel
theorem dX3_sizeByLastByte_28 : decode cX3_sizeByLastByte 28 = .ok (.goto 4, 3) := by decide +kernel
theorem dX3_sizeByLastByte_31 : decode cX3_sizeByLastByte 31 = .ok (.iconst 1, 1) := by decide +kernel
theorem dX3_sizeByLastByte_32 : decode cX3_sizeByLastByte 32 = .ok (.ireturn, 1) := by decide +kernel
theorem dX3_sizeByLastByte_33 : decode cX3_sizeByLastByte 33 = .ok (.iload_n 1, 1) := by decide +kernel
theorem dX3_sizeByLastByte_34 : decode cX3_sizeByLastByte 34 = .ok (.bipush 64, 2) := by decide +kernel
theorem dX3_sizeByLastByte_36 : decode cX3_sizeByLastByte 36 = .ok (.irem, 1) := by decide +kernel
theorem dX3_sizeByLastByte_37 : decode cX3_sizeByLastByte 37 = .ok (.ifCond .ne 8, 3) := by decide +kernel
theorem dX3_sizeByLastByte_40 : decode cX3_sizeByLastByte 40 = .ok (.bipush 64, 2) := by decide +kernel
theorem dX3_sizeByLastByte_42 : decode cX3_sizeByLastByte 42 = .ok (.goto 7, 3) := by decide +kernel
theorem dX3_sizeByLastByte_45 : decode cX3_sizeByLastByte 45 = .ok (.iload_n 1, 1) := by decide +kernel
theorem dX3_sizeByLastByte_46 : decode cX3_sizeByLastByte 46 = .ok (.bipush 64, 2) := by decide +kernel
theorem dX3_sizeByLastByte_48 : decode cX3_sizeByLastByte 48 = .ok (.irem, 1) := by decide +kernel
theorem dX3_sizeByLastByte_49 : decode cX3_sizeByLastByte 49 = .ok (.ireturn, 1) := by decide +kernel
theorem dX3_number_0 : decode cX3_number 0 = .ok (.aload_n 0, 1) := by decide +kernel
theorem dX3_number_1 : decode cX3_number 1 = .ok (.getfield 29, 3) := by decide +kernel
theorem dX3_number_4 : decode cX3_number 4 = .ok (.ireturn, 1) := by decide +kernel
theorem dX3_size_0 : decode cX3_size 0 = .ok (.aload_n 0, 1) := by decide +kernel
theorem dX3_size_1 : decode cX3_size 1 = .ok (.getfield 38, 3) := by decide +kernel
theorem dX3_size_4 : decode cX3_size 4 = .ok (.ireturn, 1) := by decide +kernel
theorem dX3_data_0 : decode cX3_data 0 = .ok (.aload_n 0, 1) := by decide +kernel
theorem dX3_data_1 : decode cX3_data 1 = .ok (.getfield 32, 3) := by decide +kernel
theorem dX3_data_4 : decode cX3_data 4 = .ok (.ireturn, 1) := by decide +kernel
theorem dX4_init_0 : decode cX4_init 0 = .ok (.aload_n 0, 1) := by decide +kernel
theorem dX4_init_1 : decode cX4_init 1 = .ok (.invokespecial 1, 3) := by decide +kernel
theorem dX4_init_4 : decode cX4_init 4 = .ok (.aload_n 0, 1) := by decide +kernel
theorem dX4_init_5 : decode cX4_init 5 = .ok (.aload_n 1, 1) := by decide +kernel
theorem dX4_init_6 : decode cX4_init 6 = .ok (.putfield 7, 3) := by decide +kernel
theorem dX4_init_9 : decode cX4_init 9 = .ok (.return_, 1) := by decide +kernel
theorem dX4_begin_0 : decode cX4_begin 0 = .ok (.aload_n 0, 1) := by decide +kernel
theorem dX4_begin_1 : decode cX4_begin 1 = .ok (.iload_n 1, 1) := by decide +kernel
theorem dX4_begin_2 : decode cX4_begin 2 = .ok (.putfield 13, 3) := by decide +kernel
theorem dX4_begin_5 : decode cX4_begin 5 = .ok (.aload_n 0, 1) := by decide +kernel
theorem dX4_begin_6 : decode cX4_begin 6 = .ok (.iload_n 2, 1) := by decide +kernel
theorem dX4_begin_7 : decode cX4_begin 7 = .ok (.putfield 17, 3) := by decide +kernel
theorem dX4_begin_10 : decode cX4_begin 10 = .ok (.aload_n 0, 1) := by decide +kernel
theorem dX4_begin_11 : decode cX4_begin 11 = .ok (.iconst 0, 1) := by decide +kernel
theorem dX4_begin_12 : decode cX4_begin 12 = .ok (.putfield 20, 3) := by decide +kernel
theorem dX4_begin_15 : decode cX4_begin 15 = .ok (.aload_n 0, 1) := by decide +kernel
theorem dX4_begin_16 : decode cX4_begin 16 = .ok (.iconst 0, 1) := by decide +kernel
theorem dX4_begin_17 : decode cX4_begin 17 = .ok (.putfield 23, 3) := by decide +kernel
theorem dX4_begin_20 : decode cX4_begin 20 = .ok (.return_, 1) := by decide +kernel
theorem dX4_take_0 : decode cX4_take 0 = .ok (.aload_n 0, 1) := by decide +kernel
theorem dX4_take_1 : decode cX4_take 1 = .ok (.getfield 23, 3) := by decide +kernel
theorem dX4_take_4 : decode cX4_take 4 = .ok (.ifCond .ne 12, 3) := by decide +kernel
theorem dX4_take_7 : decode cX4_take 7 = .ok (.aload_n 0, 1) := by decide +kernel
theorem dX4_take_8 : decode cX4_take 8 = .ok (.getfield 17, 3) := by decide +kernel
theorem dX4_take_11 : decode cX4_take 11 = .ok (.ifCond .gt 5, 3) := by decide +kernel
theorem dX4_take_14 : decode cX4_take 14 = .ok (.iconst (-1), 1) := by decide +kernel
theorem dX4_take_15 : decode cX4_take 15 = .ok (.ireturn, 1) := by decide +kernel
theorem dX4_take_16 : decode cX4_take 16 = .ok (.aload_n 0, 1) := by decide +kernel
theorem dX4_take_17 : decode cX4_take 17 = .ok (.getfield 23, 3) := by decide +kernel
theorem dX4_take_20 : decode cX4_take 20 = .ok (.ifCond .ne 66, 3) := by decide +kernel
theorem dX4_take_23 : decode cX4_take 23 = .ok (.aload_n 0, 1) := by decide +kernel
theorem dX4_take_24 : decode cX4_take 24 = .ok (.aload_n 0, 1) := by decide +kernel
theorem dX4_take_25 : decode cX4_take 25 = .ok (.getfield 7, 3) := by decide +kernel
theorem dX4_take_28 : decode cX4_take 28 = .ok (.aload_n 0, 1) := by decide +kernel
theorem dX4_take_29 : decode cX4_take 29 = .ok (.getfield 13, 3) := by decide +kernel
theorem dX4_take_32 : decode cX4_take 32 = .ok (.invokevirtual 26, 3) := by decide +kernel
theorem dX4_take_35 : decode cX4_take 35 = .ok (.putfield 20, 3) := by decide +kernel
theorem dX4_take_38 : decode cX4_take 38 = .ok (.aload_n 0, 1) := by decide +kernel
theorem dX4_take_39 : decode cX4_take 39 = .ok (.dup, 1) := by decide +kernel
theorem dX4_take_40 : decode cX4_take 40 = .ok (.getfield 13, 3) := by decide +kernel
theorem dX4_take_43 : decode cX4_take 43 = .ok (.iconst 2, 1) := by decide +kernel
theorem dX4_take_44 : decode cX4_take 44 = .ok (.iadd, 1) := by decide +kernel
theorem dX4_take_45 : decode cX4_take 45 = .ok (.putfield 13, 3) := by decide +kernel
theorem dX4_take_48 : decode cX4_take 48 = .ok (.aload_n 0, 1) := by decide +kernel
theorem dX4_take_49 : decode cX4_take 49 = .ok (.getfield 20, 3) := by decide +kernel
theorem dX4_take_52 : decode cX4_take 52 = .ok (.ldc 31, 2) := by decide +kernel
theorem dX4_take_54 : decode cX4_take 54 = .ok (.if_icmp .lt 7, 3) := by decide +kernel
theorem dX4_take_57 : decode cX4_take 57 = .ok (.iconst 1, 1) := by decide +kernel
theorem dX4_take_58 : decode cX4_take 58 = .ok (.goto 4, 3) := by decide +kernel
theorem dX4_take_61 : decode cX4_take 61 = .ok (.iconst 0, 1) := by decide +kernel
theorem dX4_take_62 : decode cX4_take 62 = .ok (.istore_n 1, 1) := by decide +kernel
theorem dX4_take_63 : decode cX4_take 63 = .ok (.aload_n 0, 1) := by decide +kernel
theorem dX4_take_64 : decode cX4_take 64 = .ok (.iload_n 1, 1) := by decide +kernel
theorem dX4_take_65 : decode cX4_take 65 = .ok (.ifCond .eq 7, 3) := by decide +kernel
theorem dX4_take_68 : decode cX4_take 68 = .ok (.iconst 0, 1) := by decide +kernel
theorem dX4_take_69 : decode cX4_take 69 = .ok (.goto 9, 3) := by decide +kernel
theorem dX4_take_72 : decode cX4_take 72 = .ok (.aload_n 0, 1) := by decide +kernel
theorem dX4_take_73 : decode cX4_take 73 = .ok (.getfield 17, 3) := by decide +kernel
theorem dX4_take_76 : decode cX4_take 76 = .ok (.iconst 1, 1) := by decide +kernel
theorem dX4_take_77 : decode cX4_take 77 = .ok (.isub, 1) := by decide +kernel
theorem dX4_take_78 : decode cX4_take 78 = .ok (.putfield 17, 3) := by decide +kernel
theorem dX4_take_81 : decode cX4_take 81 = .ok (.aload_n 0, 1) := by decide +kernel
theorem dX4_take_82 : decode cX4_take 82 = .ok (.iconst 3, 1) := by decide +kernel
theorem dX4_take_83 : decode cX4_take 83 = .ok (.putfield 23, 3) := by decide +kernel
theorem dX4_take_86 : decode cX4_take 86 = .ok (.aload_n 0, 1) := by decide +kernel
theorem dX4_take_87 : decode cX4_take 87 = .ok (.dup, 1) := by decide +kernel
theorem dX4_take_88 : decode cX4_take 88 = .ok (.getfield 23, 3) := by decide +kernel
theorem dX4_take_91 : decode cX4_take 91 = .ok (.iconst 1, 1) := by decide +kernel
theorem dX4_take_92 : decode cX4_take 92 = .ok (.isub, 1) := by decide +kernel
theorem dX4_take_93 : decode cX4_take 93 = .ok (.putfield 23, 3) := by decide +kernel
theorem dX4_take_96 : decode cX4_take 96 = .ok (.aload_n 0, 1) := by decide +kernel
theorem dX4_take_97 : decode cX4_take 97 = .ok (.getfield 20, 3) := by decide +kernel
theorem dX4_take_100 : decode cX4_take 100 = .ok (.iconst 5, 1) := by decide +kernel
theorem dX4_take_101 : decode cX4_take 101 = .ok (.aload_n 0, 1) := by decide +kernel
theorem dX4_take_102 : decode cX4_take 102 = .ok (.getfield 23, 3) := by decide +kernel
theorem dX4_take_105 : decode cX4_take 105 = .ok (.imul, 1) := by decide +kernel
theorem dX4_take_106 : decode cX4_take 106 = .ok (.ishr, 1) := by decide +kernel
theorem dX4_take_107 : decode cX4_take 107 = .ok (.bipush 31, 2) := by decide +kernel
theorem dX4_take_109 : decode cX4_take 109 = .ok (.iand, 1) := by decide +kernel
theorem dX4_take_110 : decode cX4_take 110 = .ok (.ireturn, 1) := by decide +kernel
theorem dX5_init_0 : decode cX5_init 0 = .ok (.aload_n 0, 1) := by decide +kernel
theorem dX5_init_1 : decode cX5_init 1 = .ok (.invokespecial 3, 3) := by decide +kernel
theorem dX5_init_4 : decode cX5_init 4 = .ok (.aload_n 0, 1) := by decide +kernel
theorem dX5_init_5 : decode cX5_init 5 = .ok (.aload_n 1, 1) := by decide +kernel
theorem dX5_init_6 : decode cX5_init 6 = .ok (.putfield 9, 3) := by decide +kernel
theorem dX5_init_9 : decode cX5_init 9 = .ok (.aload_n 0, 1) := by decide +kernel
theorem dX5_init_10 : decode cX5_init 10 = .ok (.iload_n 2, 1) := by decide +kernel
theorem dX5_init_11 : decode cX5_init 11 = .ok (.putfield 15, 3) := by decide +kernel
theorem dX5_init_14 : decode cX5_init 14 = .ok (.aload_n 0, 1) := by decide +kernel
theorem dX5_init_15 : decode cX5_init 15 = .ok (.new 19, 3) := by decide +kernel
theorem dX5_init_18 : decode cX5_init 18 = .ok (.dup, 1) := by decide +kernel
theorem dX5_init_19 : decode cX5_init 19 = .ok (.aload_n 1, 1) := by decide +kernel
theorem dX5_init_20 : decode cX5_init 20 = .ok (.invokespecial 21, 3) := by decide +kernel
theorem dX5_init_23 : decode cX5_init 23 = .ok (.putfield 24, 3) := by decide +kernel
theorem dX5_init_26 : decode cX5_init 26 = .ok (.aload_n 0, 1) := by decide +kernel
theorem dX5_init_27 : decode cX5_init 27 = .ok (.new 19, 3) := by decide +kernel
theorem dX5_init_30 : decode cX5_init 30 = .ok (.dup, 1) := by decide +kernel
theorem dX5_init_31 : decode cX5_init 31 = .ok (.aload_n 1, 1) := by decide +kernel
theorem dX5_init_32 : decode cX5_init 32 = .ok (.invokespecial 21, 3) := by decide +kernel
theorem dX5_init_35 : decode cX5_init 35 = .ok (.putfield 28, 3) := by decide +kernel
theorem dX5_init_38 : decode cX5_init 38 = .ok (.aload_n 0, 1) := by decide +kernel
theorem dX5_init_39 : decode cX5_init 39 = .ok (.aload_n 0, 1) := by decide +kernel
theorem dX5_init_40 : decode cX5_init 40 = .ok (.getfield 24, 3) := by decide +kernel
theorem dX5_init_43 : decode cX5_init 43 = .ok (.putfield 31, 3) := by decide +kernel
theorem dX5_init_46 : decode cX5_init 46 = .ok (.aload_n 0, 1) := by decide +kernel
theorem dX5_init_47 : decode cX5_init 47 = .ok (.sipush 250, 3) := by decide +kernel
theorem dX5_init_50 : decode cX5_init 50 = .ok (.newarray .byte, 2) := by decide +kernel
theorem dX5_init_52 : decode cX5_init 52 = .ok (.putfield 34, 3) := by decide +kernel
theorem dX5_init_55 : decode cX5_init 55 = .ok (.return_, 1) := by decide +kernel
theorem dX5_byteAt_0 : decode cX5_byteAt 0 = .ok (.iload_n 1, 1) := by decide +kernel
theorem dX5_byteAt_1 : decode cX5_byteAt 1 = .ok (.ifCond .lt 24, 3) := by decide +kernel
theorem dX5_byteAt_4 : decode cX5_byteAt 4 = .ok (.iload_n 1, 1) := by decide +kernel
theorem dX5_byteAt_5 : decode cX5_byteAt 5 = .ok (.aload_n 0, 1) := by decide +kernel
theorem dX5_byteAt_6 : decode cX5_byteAt 6 = .ok (.getfield 38, 3) := by decide +kernel
theorem dX5_byteAt_9 : decode cX5_byteAt 9 = .ok (.if_icmp .ge 16, 3) := by decide +kernel
theorem dX5_byteAt_12 : decode cX5_byteAt 12 = .ok (.aload_n 0, 1) := by decide +kernel
theorem dX5_byteAt_13 : decode cX5_byteAt 13 = .ok (.getfield 34, 3) := by decide +kernel
theorem dX5_byteAt_16 : decode cX5_byteAt 16 = .ok (.iload_n 1, 1) := by decide +kernel
theorem dX5_byteAt_17 : decode cX5_byteAt 17 = .ok (.baload, 1) := by decide +kernel
theorem dX5_byteAt_18 : decode cX5_byteAt 18 = .ok (.sipush 255, 3) := by decide +kernel
theorem dX5_byteAt_21 : decode cX5_byteAt 21 = .ok (.iand, 1) := by decide +kernel
theorem dX5_byteAt_22 : decode cX5_byteAt 22 = .ok (.goto 4, 3) := by decide +kernel
theorem dX5_byteAt_25 : decode cX5_byteAt 25 = .ok (.iconst 0, 1) := by decide +kernel
theorem dX5_byteAt_26 : decode cX5_byteAt 26 = .ok (.ireturn, 1) := by decide +kernel
theorem dX5_spell_0 : decode cX5_spell 0 = .ok (.aload_n 0, 1) := by decide +kernel
theorem dX5_spell_1 : decode cX5_spell 1 = .ok (.iconst 0, 1) := by decide +kernel
theorem dX5_spell_2 : decode cX5_spell 2 = .ok (.putfield 38, 3) := by decide +kernel
theorem dX5_spell_5 : decode cX5_spell 5 = .ok (.aload_n 0, 1) := by decide +kernel
theorem dX5_spell_6 : decode cX5_spell 6 = .ok (.getfield 24, 3) := by decide +kernel
theorem dX5_spell_9 : decode cX5_spell 9 = .ok (.iload_n 1, 1) := by decide +kernel
theorem dX5_spell_10 : decode cX5_spell 10 = .ok (.iconst 1, 1) := by decide +kernel
theorem dX5_spell_11 : decode cX5_spell 11 = .ok (.iadd, 1) := by decide +kernel
theorem dX5_spell_12 : decode cX5_spell 12 = .ok (.aload_n 0, 1) := by decide +kernel
theorem dX5_spell_13 : decode cX5_spell 13 = .ok (.getfield 9, 3) := by decide +kernel
theorem dX5_spell_16 : decode cX5_spell 16 = .ok (.iload_n 1, 1) := by decide +kernel
theorem dX5_spell_17 : decode cX5_spell 17 = .ok (.invokevirtual 41, 3) := by decide +kernel
theorem dX5_spell_20 : decode cX5_spell 20 = .ok (.invokevirtual 47, 3) := by decide +kernel
theorem dX5_spell_23 : decode cX5_spell 23 = .ok (.aload_n 0, 1) := by decide +kernel
theorem dX5_spell_24 : decode cX5_spell 24 = .ok (.aload_n 0, 1) := by decide +kernel
theorem dX5_spell_25 : decode cX5_spell 25 = .ok (.getfield 24, 3) := by decide +kernel
theorem dX5_spell_28 : decode cX5_spell 28 = .ok (.iconst 0, 1) := by decide +kernel
theorem dX5_spell_29 : decode cX5_spell 29 = .ok (.invokevirtual 51, 3) := by decide +kernel
theorem dX5_spell_32 : decode cX5_spell 32 = .ok (.iconst 0, 1) := by decide +kernel
theorem dX5_spell_33 : decode cX5_spell 33 = .ok (.istore_n 2, 1) := by decide +kernel
theorem dX5_spell_34 : decode cX5_spell 34 = .ok (.iload_n 2, 1) := by decide +kernel
theorem dX5_spell_35 : decode cX5_spell 35 = .ok (.ldc 55, 2) := by decide +kernel
theorem dX5_spell_37 : decode cX5_spell 37 = .ok (.if_icmp .ge 63, 3) := by decide +kernel
theorem dX5_spell_40 : decode cX5_spell 40 = .ok (.aload_n 0, 1) := by decide +kernel
theorem dX5_spell_41 : decode cX5_spell 41 = .ok (.getfield 38, 3) := by decide +kernel
theorem dX5_spell_44 : decode cX5_spell 44 = .ok (.sipush 250, 3) := by decide +kernel
theorem dX5_spell_47 : decode cX5_spell 47 = .ok (.if_icmp .ge 53, 3) := by decide +kernel
theorem dX5_spell_50 : decode cX5_spell 50 = .ok (.aload_n 0, 1) := by decide +kernel
theorem dX5_spell_51 : decode cX5_spell 51 = .ok (.getfield 31, 3) := by decide +kernel
theorem dX5_spell_54 : decode cX5_spell 54 = .ok (.invokevirtual 56, 3) := by decide +kernel
theorem dX5_spell_57 : decode cX5_spell 57 = .ok (.istore_n 3, 1) := by decide +kernel
theorem dX5_spell_58 : decode cX5_spell 58 = .ok (.iload_n 3, 1) := by decide +kernel
theorem dX5_spell_59 : decode cX5_spell 59 = .ok (.iconst (-1), 1) := by decide +kernel
theorem dX5_spell_60 : decode cX5_spell 60 = .ok (.if_icmp .eq 11, 3) := by decide +kernel
theorem dX5_spell_63 : decode cX5_spell 63 = .ok (.aload_n 0, 1) := by decide +kernel
theorem dX5_spell_64 : decode cX5_spell 64 = .ok (.iload_n 3, 1) := by decide +kernel
theorem dX5_spell_65 : decode cX5_spell 65 = .ok (.invokevirtual 60, 3) := by decide +kernel
theorem dX5_spell_68 : decode cX5_spell 68 = .ok (.goto 26, 3) := by decide +kernel
theorem dX5_spell_71 : decode cX5_spell 71 = .ok (.aload_n 0, 1) := by decide +kernel
theorem dX5_spell_72 : decode cX5_spell 72 = .ok (.getfield 31, 3) := by decide +kernel
theorem dX5_spell_75 : decode cX5_spell 75 = .ok (.aload_n 0, 1) := by decide +kernel
theorem dX5_spell_76 : decode cX5_spell 76 = .ok (.getfield 28, 3) := by decide +kernel
theorem dX5_spell_79 : decode cX5_spell 79 = .ok (.if_acmp .ne 21, 3) := by decide +kernel
theorem dX5_spell_82 : decode cX5_spell 82 = .ok (.aload_n 0, 1) := by decide +kernel
theorem dX5_spell_83 : decode cX5_spell 83 = .ok (.aload_n 0, 1) := by decide +kernel
theorem dX5_spell_84 : decode cX5_spell 84 = .ok (.getfield 24, 3) := by decide +kernel
theorem dX5_spell_87 : decode cX5_spell 87 = .ok (.aload_n 0, 1) := by decide +kernel
theorem dX5_spell_88 : decode cX5_spell 88 = .ok (.getfield 64, 3) := by decide +kernel
theorem dX5_spell_91 : decode cX5_spell 91 = .ok (.invokevirtual 51, 3) := by decide +kernel
theorem dX5_spell_94 : decode cX5_spell 94 = .ok (.iinc 2 1, 3) := by decide +kernel
theorem dX5_spell_97 : decode cX5_spell 97 = .ok (.goto (-63), 3) := by decide +kernel
theorem dX5_spell_100 : decode cX5_spell 100 = .ok (.aload_n 0, 1) := by decide +kernel
theorem dX5_spell_101 : decode cX5_spell 101 = .ok (.getfield 38, 3) := by decide +kernel
theorem dX5_spell_104 : decode cX5_spell 104 = .ok (.ireturn, 1) := by decide +kernel
theorem dX5_read_0 : decode cX5_read 0 = .ok (.aload_n 0, 1) := by decide +kernel
theorem dX5_read_1 : decode cX5_read 1 = .ok (.aload_n 1, 1) := by decide +kernel
theorem dX5_read_2 : decode cX5_read 2 = .ok (.putfield 31, 3) := by decide +kernel
theorem dX5_read_5 : decode cX5_read 5 = .ok (.aload_n 0, 1) := by decide +kernel
theorem dX5_read_6 : decode cX5_read 6 = .ok (.iload_n 2, 1) := by decide +kernel
theorem dX5_read_7 : decode cX5_read 7 = .ok (.invokevirtual 67, 3) := by decide +kernel
theorem dX5_read_10 : decode cX5_read 10 = .ok (.return_, 1) := by decide +kernel
theorem dX5_useAlphabet_0 : decode cX5_useAlphabet 0 = .ok (.aload_n 0, 1) := by decide +kernel
theorem dX5_useAlphabet_1 : decode cX5_useAlphabet 1 = .ok (.iload_n 1, 1) := by decide +kernel
theorem dX5_useAlphabet_2 : decode cX5_useAlphabet 2 = .ok (.putfield 70, 3) := by decide +kernel
theorem dX5_useAlphabet_5 : decode cX5_useAlphabet 5 = .ok (.aload_n 0, 1) := by decide +kernel
theorem dX5_useAlphabet_6 : decode cX5_useAlphabet 6 = .ok (.iload_n 1, 1) := by decide +kernel
theorem dX5_useAlphabet_7 : decode cX5_useAlphabet 7 = .ok (.putfield 73, 3) := by decide +kernel
theorem dX5_useAlphabet_10 : decode cX5_useAlphabet 10 = .ok (.return_, 1) := by decide +kernel
theorem dX5_heed_0 : decode cX5_heed 0 = .ok (.aload_n 0, 1) := by decide +kernel
theorem dX5_heed_1 : decode cX5_heed 1 = .ok (.getfield 73, 3) := by decide +kernel
theorem dX5_heed_4 : decode cX5_heed 4 = .ok (.istore_n 2, 1) := by decide +kernel
theorem dX5_heed_5 : decode cX5_heed 5 = .ok (.aload_n 0, 1) := by decide +kernel
theorem dX5_heed_6 : decode cX5_heed 6 = .ok (.aload_n 0, 1) := by decide +kernel
theorem dX5_heed_7 : decode cX5_heed 7 = .ok (.getfield 70, 3) := by decide +kernel
theorem dX5_heed_10 : decode cX5_heed 10 = .ok (.putfield 73, 3) := by decide +kernel
theorem dX5_heed_13 : decode cX5_heed 13 = .ok (.iload_n 1, 1) := by decide +kernel
theorem dX5_heed_14 : decode cX5_heed 14 = .ok (.ifCond .ne 12, 3) := by decide +kernel
theorem dX5_heed_17 : decode cX5_heed 17 = .ok (.aload_n 0, 1) := by decide +kernel
theorem dX5_heed_18 : decode cX5_heed 18 = .ok (.bipush 32, 2) := by decide +kernel
theorem dX5_heed_20 : decode cX5_heed 20 = .ok (.invokevirtual 76, 3) := by decide +kernel
theorem dX5_heed_23 : decode cX5_heed 23 = .ok (.goto 92, 3) := by decide +kernel
theorem dX5_heed_26 : decode cX5_heed 26 = .ok (.iload_n 1, 1) := by decide +kernel
theorem dX5_heed_27 : decode cX5_heed 27 = .ok (.iconst 1, 1) := by decide +kernel
theorem dX5_heed_28 : decode cX5_heed 28 = .ok (.if_icmp .ne 20, 3) := by decide +kernel
theorem dX5_heed_31 : decode cX5_heed 31 = .ok (.aload_n 0, 1) := by decide +kernel
theorem dX5_heed_32 : decode cX5_heed 32 = .ok (.getfield 15, 3) := by decide +kernel
theorem dX5_heed_35 : decode cX5_heed 35 = .ok (.iconst 1, 1) := by decide +kernel
theorem dX5_heed_36 : decode cX5_heed 36 = .ok (.if_icmp .ne 12, 3) := by decide +kernel
theorem dX5_heed_39 : decode cX5_heed 39 = .ok (.aload_n 0, 1) := by decide +kernel
theorem dX5_heed_40 : decode cX5_heed 40 = .ok (.bipush 13, 2) := by decide +kernel
theorem dX5_heed_42 : decode cX5_heed 42 = .ok (.invokevirtual 76, 3) := by decide +kernel
theorem dX5_heed_45 : decode cX5_heed 45 = .ok (.goto 70, 3) := by decide +kernel
theorem dX5_heed_48 : decode cX5_heed 48 = .ok (.iload_n 1, 1) := by decide +kernel
theorem dX5_heed_49 : decode cX5_heed 49 = .ok (.iconst 1, 1) := by decide +kernel
theorem dX5_heed_50 : decode cX5_heed 50 = .ok (.if_icmp .eq 16, 3) := by decide +kernel
theorem dX5_heed_53 : decode cX5_heed 53 = .ok (.iload_n 1, 1) := by decide +kernel
theorem dX5_heed_54 : decode cX5_heed 54 = .ok (.iconst 3, 1) := by decide +kernel
theorem dX5_heed_55 : decode cX5_heed 55 = .ok (.if_icmp .gt 19, 3) := by decide +kernel
theorem dX5_heed_58 : decode cX5_heed 58 = .ok (.aload_n 0, 1) := by decide +kernel
theorem dX5_heed_59 : decode cX5_heed 59 = .ok (.getfield 15, 3) := by decide +kernel
theorem dX5_heed_62 : decode cX5_heed 62 = .ok (.iconst 3, 1) := by decide +kernel
theorem dX5_heed_63 : decode cX5_heed 63 = .ok (.if_icmp .lt 11, 3) := by decide +kernel
theorem dX5_heed_66 : decode cX5_heed 66 = .ok (.aload_n 0, 1) := by decide +kernel
theorem dX5_heed_67 : decode cX5_heed 67 = .ok (.iload_n 1, 1) := by decide +kernel
theorem dX5_heed_68 : decode cX5_heed 68 = .ok (.invokevirtual 79, 3) := by decide +kernel
theorem dX5_heed_71 : decode cX5_heed 71 = .ok (.goto 44, 3) := by decide +kernel
theorem dX5_heed_74 : decode cX5_heed 74 = .ok (.iload_n 1, 1) := by decide +kernel
theorem dX5_heed_75 : decode cX5_heed 75 = .ok (.iconst 5, 1) := by decide +kernel
theorem dX5_heed_76 : decode cX5_heed 76 = .ok (.if_icmp .gt 11, 3) := by decide +kernel
theorem dX5_heed_79 : decode cX5_heed 79 = .ok (.aload_n 0, 1) := by decide +kernel
theorem dX5_heed_80 : decode cX5_heed 80 = .ok (.iload_n 1, 1) := by decide +kernel
theorem dX5_heed_81 : decode cX5_heed 81 = .ok (.invokevirtual 82, 3) := by decide +kernel
theorem dX5_heed_84 : decode cX5_heed 84 = .ok (.goto 31, 3) := by decide +kernel
theorem dX5_heed_87 : decode cX5_heed 87 = .ok (.iload_n 2, 1) := by decide +kernel
theorem dX5_heed_88 : decode cX5_heed 88 = .ok (.iconst 2, 1) := by decide +kernel
theorem dX5_heed_89 : decode cX5_heed 89 = .ok (.if_icmp .ne 16, 3) := by decide +kernel
theorem dX5_heed_92 : decode cX5_heed 92 = .ok (.iload_n 1, 1) := by decide +kernel
theorem dX5_heed_93 : decode cX5_heed 93 = .ok (.bipush 6, 2) := by decide +kernel
theorem dX5_heed_95 : decode cX5_heed 95 = .ok (.if_icmp .ne 10, 3) := by decide +kernel
theorem dX5_heed_98 : decode cX5_heed 98 = .ok (.aload_n 0, 1) := by decide +kernel
theorem dX5_heed_99 : decode cX5_heed 99 = .ok (.invokevirtual 85, 3) := by decide +kernel
theorem dX5_heed_102 : decode cX5_heed 102 = .ok (.goto 13, 3) := by decide +kernel
theorem dX5_heed_105 : decode cX5_heed 105 = .ok (.aload_n 0, 1) := by decide +kernel
theorem dX5_heed_106 : decode cX5_heed 106 = .ok (.aload_n 0, 1) := by decide +kernel
theorem dX5_heed_107 : decode cX5_heed 107 = .ok (.iload_n 2, 1) := by decide +kernel
theorem dX5_heed_108 : decode cX5_heed 108 = .ok (.iload_n 1, 1) := by decide +kernel
theorem dX5_heed_109 : decode cX5_heed 109 = .ok (.invokevirtual 88, 3) := by decide +kernel
theorem dX5_heed_112 : decode cX5_heed 112 = .ok (.invokevirtual 76, 3) := by decide +kernel
theorem dX5_heed_115 : decode cX5_heed 115 = .ok (.return_, 1) := by decide +kernel
theorem dX5_shift_0 : decode cX5_shift 0 = .ok (.aload_n 0, 1) := by decide +kernel
theorem dX5_shift_1 : decode cX5_shift 1 = .ok (.getfield 15, 3) := by decide +kernel
theorem dX5_shift_4 : decode cX5_shift 4 = .ok (.iconst 3, 1) := by decide +kernel
theorem dX5_shift_5 : decode cX5_shift 5 = .ok (.if_icmp .lt 13, 3) := by decide +kernel
theorem dX5_shift_8 : decode cX5_shift 8 = .ok (.aload_n 0, 1) := by decide +kernel
theorem dX5_shift_9 : decode cX5_shift 9 = .ok (.iload_n 1, 1) := by decide +kernel
theorem dX5_shift_10 : decode cX5_shift 10 = .ok (.iconst 3, 1) := by decide +kernel
theorem dX5_shift_11 : decode cX5_shift 11 = .ok (.isub, 1) := by decide +kernel
theorem dX5_shift_12 : decode cX5_shift 12 = .ok (.putfield 73, 3) := by decide +kernel
theorem dX5_shift_15 : decode cX5_shift 15 = .ok (.goto 39, 3) := by decide +kernel
theorem dX5_shift_18 : decode cX5_shift 18 = .ok (.iload_n 1, 1) := by decide +kernel
theorem dX5_shift_19 : decode cX5_shift 19 = .ok (.iconst 3, 1) := by decide +kernel
theorem dX5_shift_20 : decode cX5_shift 20 = .ok (.if_icmp .gt 20, 3) := by decide +kernel
theorem dX5_shift_23 : decode cX5_shift 23 = .ok (.aload_n 0, 1) := by decide +kernel
theorem dX5_shift_24 : decode cX5_shift 24 = .ok (.aload_n 0, 1) := by decide +kernel
theorem dX5_shift_25 : decode cX5_shift 25 = .ok (.getfield 70, 3) := by decide +kernel
theorem dX5_shift_28 : decode cX5_shift 28 = .ok (.iload_n 1, 1) := by decide +kernel
theorem dX5_shift_29 : decode cX5_shift 29 = .ok (.iadd, 1) := by decide +kernel
theorem dX5_shift_30 : decode cX5_shift 30 = .ok (.iconst 1, 1) := by decide +kernel
theorem dX5_shift_31 : decode cX5_shift 31 = .ok (.isub, 1) := by decide +kernel
theorem dX5_shift_32 : decode cX5_shift 32 = .ok (.iconst 3, 1) := by decide +kernel
theorem dX5_shift_33 : decode cX5_shift 33 = .ok (.irem, 1) := by decide +kernel
theorem dX5_shift_34 : decode cX5_shift 34 = .ok (.putfield 73, 3) := by decide +kernel
theorem dX5_shift_37 : decode cX5_shift 37 = .ok (.goto 17, 3) := by decide +kernel
theorem dX5_shift_40 : decode cX5_shift 40 = .ok (.aload_n 0, 1) := by decide +kernel
theorem dX5_shift_41 : decode cX5_shift 41 = .ok (.aload_n 0, 1) := by decide +kernel
theorem dX5_shift_42 : decode cX5_shift 42 = .ok (.getfield 70, 3) := by decide +kernel
theorem dX5_shift_45 : decode cX5_shift 45 = .ok (.iload_n 1, 1) := by decide +kernel
theorem dX5_shift_46 : decode cX5_shift 46 = .ok (.iadd, 1) := by decide +kernel
theorem dX5_shift_47 : decode cX5_shift 47 = .ok (.iconst 3, 1) := by decide +kernel
theorem dX5_shift_48 : decode cX5_shift 48 = .ok (.isub, 1) := by decide +kernel
theorem dX5_shift_49 : decode cX5_shift 49 = .ok (.iconst 3, 1) := by decide +kernel
theorem dX5_shift_50 : decode cX5_shift 50 = .ok (.irem, 1) := by decide +kernel
theorem dX5_shift_51 : decode cX5_shift 51 = .ok (.invokevirtual 67, 3) := by decide +kernel
theorem dX5_shift_54 : decode cX5_shift 54 = .ok (.return_, 1) := by decide +kernel
theorem dX5_abbreviate_0 : decode cX5_abbreviate 0 = .ok (.aload_n 0, 1) := by decide +kernel
theorem dX5_abbreviate_1 : decode cX5_abbreviate 1 = .ok (.getfield 31, 3) := by decide +kernel
theorem dX5_abbreviate_4 : decode cX5_abbreviate 4 = .ok (.invokevirtual 56, 3) := by decide +kernel
theorem dX5_abbreviate_7 : decode cX5_abbreviate 7 = .ok (.istore_n 2, 1) := by decide +kernel
theorem dX5_abbreviate_8 : decode cX5_abbreviate 8 = .ok (.iload_n 2, 1) := by decide +kernel
theorem dX5_abbreviate_9 : decode cX5_abbreviate 9 = .ok (.iconst (-1), 1) := by decide +kernel
theorem dX5_abbreviate_10 : decode cX5_abbreviate 10 = .ok (.if_icmp .ne 4, 3) := by decide +kernel
theorem dX5_abbreviate_13 : decode cX5_abbreviate 13 = .ok (.return_, 1) := by decide +kernel
theorem dX5_abbreviate_14 : decode cX5_abbreviate 14 = .ok (.aload_n 0, 1) := by decide +kernel
theorem dX5_abbreviate_15 : decode cX5_abbreviate 15 = .ok (.getfield 31, 3) := by decide +kernel
theorem dX5_abbreviate_18 : decode cX5_abbreviate 18 = .ok (.aload_n 0, 1) := by decide +kernel
theorem dX5_abbreviate_19 : decode cX5_abbreviate 19 = .ok (.getfield 28, 3) := by decide +kernel
theorem dX5_abbreviate_22 : decode cX5_abbreviate 22 = .ok (.if_acmp .ne 10, 3) := by decide +kernel
theorem dX5_abbreviate_25 : decode cX5_abbreviate 25 = .ok (.aload_n 0, 1) := by decide +kernel
theorem dX5_abbreviate_26 : decode cX5_abbreviate 26 = .ok (.bipush 63, 2) := by decide +kernel
theorem dX5_abbreviate_28 : decode cX5_abbreviate 28 = .ok (.invokevirtual 76, 3) := by decide +kernel
theorem dX5_abbreviate_31 : decode cX5_abbreviate 31 = .ok (.return_, 1) := by decide +kernel
theorem dX5_abbreviate_32 : decode cX5_abbreviate 32 = .ok (.bipush 64, 2) := by decide +kernel
theorem dX5_abbreviate_34 : decode cX5_abbreviate 34 = .ok (.iconst 2, 1) := by decide +kernel
theorem dX5_abbreviate_35 : decode cX5_abbreviate 35 = .ok (.bipush 32, 2) := by decide +kernel
theorem dX5_abbreviate_37 : decode cX5_abbreviate 37 = .ok (.iload_n 1, 1) := by decide +kernel
theorem dX5_abbreviate_38 : decode cX5_abbreviate 38 = .ok (.iconst 1, 1) := by decide +kernel
theorem dX5_abbreviate_39 : decode cX5_abbreviate 39 = .ok (.isub, 1) := by decide +kernel
theorem dX5_abbreviate_40 : decode cX5_abbreviate 40 = .ok (.imul, 1) := by decide +kernel
theorem dX5_abbreviate_41 : decode cX5_abbreviate 41 = .ok (.iload_n 2, 1) := by decide +kernel
theorem dX5_abbreviate_42 : decode cX5_abbreviate 42 = .ok (.iadd, 1) := by decide +kernel
theorem dX5_abbreviate_43 : decode cX5_abbreviate 43 = .ok (.imul, 1) := by decide +kernel
theorem dX5_abbreviate_44 : decode cX5_abbreviate 44 = .ok (.iadd, 1) := by decide +kernel
theorem dX5_abbreviate_45 : decode cX5_abbreviate 45 = .ok (.istore_n 3, 1) := by decide +kernel
theorem dX5_abbreviate_46 : decode cX5_abbreviate 46 = .ok (.iconst 2, 1) := by decide +kernel
theorem dX5_abbreviate_47 : decode cX5_abbreviate 47 = .ok (.aload_n 0, 1) := by decide +kernel
theorem dX5_abbreviate_48 : decode cX5_abbreviate 48 = .ok (.getfield 9, 3) := by decide +kernel
theorem dX5_abbreviate_51 : decode cX5_abbreviate 51 = .ok (.iload_n 3, 1) := by decide +kernel
theorem dX5_abbreviate_52 : decode cX5_abbreviate 52 = .ok (.invokevirtual 92, 3) := by decide +kernel
theorem dX5_abbreviate_55 : decode cX5_abbreviate 55 = .ok (.imul, 1) := by decide +kernel
theorem dX5_abbreviate_56 : decode cX5_abbreviate 56 = .ok (.ldc 95, 2) := by decide +kernel
theorem dX5_abbreviate_58 : decode cX5_abbreviate 58 = .ok (.irem, 1) := by decide +kernel
theorem dX5_abbreviate_59 : decode cX5_abbreviate 59 = .ok (.istore 4, 2) := by decide +kernel
theorem dX5_abbreviate_61 : decode cX5_abbreviate 61 = .ok (.aload_n 0, 1) := by decide +kernel
theorem dX5_abbreviate_62 : decode cX5_abbreviate 62 = .ok (.getfield 28, 3) := by decide +kernel
theorem dX5_abbreviate_65 : decode cX5_abbreviate 65 = .ok (.iload 4, 2) := by decide +kernel
theorem dX5_abbreviate_67 : decode cX5_abbreviate 67 = .ok (.sipush 4096, 3) := by decide +kernel
theorem dX5_abbreviate_70 : decode cX5_abbreviate 70 = .ok (.iload 4, 2) := by decide +kernel
theorem dX5_abbreviate_72 : decode cX5_abbreviate 72 = .ok (.isub, 1) := by decide +kernel
theorem dX5_abbreviate_73 : decode cX5_abbreviate 73 = .ok (.iconst 2, 1) := by decide +kernel
theorem dX5_abbreviate_74 : decode cX5_abbreviate 74 = .ok (.idiv, 1) := by decide +kernel
theorem dX5_abbreviate_75 : decode cX5_abbreviate 75 = .ok (.invokevirtual 47, 3) := by decide +kernel
theorem dX5_abbreviate_78 : decode cX5_abbreviate 78 = .ok (.aload_n 0, 1) := by decide +kernel
theorem dX5_abbreviate_79 : decode cX5_abbreviate 79 = .ok (.aload_n 0, 1) := by decide +kernel
theorem dX5_abbreviate_80 : decode cX5_abbreviate 80 = .ok (.getfield 70, 3) := by decide +kernel
theorem dX5_abbreviate_83 : decode cX5_abbreviate 83 = .ok (.putfield 64, 3) := by decide +kernel
theorem dX5_abbreviate_86 : decode cX5_abbreviate 86 = .ok (.aload_n 0, 1) := by decide +kernel
theorem dX5_abbreviate_87 : decode cX5_abbreviate 87 = .ok (.aload_n 0, 1) := by decide +kernel
theorem dX5_abbreviate_88 : decode cX5_abbreviate 88 = .ok (.getfield 28, 3) := by decide +kernel
theorem dX5_abbreviate_91 : decode cX5_abbreviate 91 = .ok (.iconst 0, 1) := by decide +kernel
theorem dX5_abbreviate_92 : decode cX5_abbreviate 92 = .ok (.invokevirtual 51, 3) := by decide +kernel
theorem dX5_abbreviate_95 : decode cX5_abbreviate 95 = .ok (.return_, 1) := by decide +kernel
theorem dX5_sayOwn_0 : decode cX5_sayOwn 0 = .ok (.aload_n 0, 1) := by decide +kernel
theorem dX5_sayOwn_1 : decode cX5_sayOwn 1 = .ok (.getfield 31, 3) := by decide +kernel
theorem dX5_sayOwn_4 : decode cX5_sayOwn 4 = .ok (.invokevirtual 56, 3) := by decide +kernel
theorem dX5_sayOwn_7 : decode cX5_sayOwn 7 = .ok (.istore_n 1, 1) := by decide +kernel
theorem dX5_sayOwn_8 : decode cX5_sayOwn 8 = .ok (.aload_n 0, 1) := by decide +kernel
theorem dX5_sayOwn_9 : decode cX5_sayOwn 9 = .ok (.getfield 31, 3) := by decide +kernel
theorem dX5_sayOwn_12 : decode cX5_sayOwn 12 = .ok (.invokevirtual 56, 3) := by decide +kernel
theorem dX5_sayOwn_15 : decode cX5_sayOwn 15 = .ok (.istore_n 2, 1) := by decide +kernel
theorem dX5_sayOwn_16 : decode cX5_sayOwn 16 = .ok (.iload_n 1, 1) := by decide +kernel
theorem dX5_sayOwn_17 : decode cX5_sayOwn 17 = .ok (.iconst (-1), 1) := by decide +kernel
theorem dX5_sayOwn_18 : decode cX5_sayOwn 18 = .ok (.if_icmp .eq 18, 3) := by decide +kernel
theorem dX5_sayOwn_21 : decode cX5_sayOwn 21 = .ok (.iload_n 2, 1) := by decide +kernel
theorem dX5_sayOwn_22 : decode cX5_sayOwn 22 = .ok (.iconst (-1), 1) := by decide +kernel
theorem dX5_sayOwn_23 : decode cX5_sayOwn 23 = .ok (.if_icmp .eq 13, 3) := by decide +kernel
theorem dX5_sayOwn_26 : decode cX5_sayOwn 26 = .ok (.aload_n 0, 1) := by decide +kernel
theorem dX5_sayOwn_27 : decode cX5_sayOwn 27 = .ok (.bipush 32, 2) := by decide +kernel
theorem dX5_sayOwn_29 : decode cX5_sayOwn 29 = .ok (.iload_n 1, 1) := by decide +kernel
theorem dX5_sayOwn_30 : decode cX5_sayOwn 30 = .ok (.imul, 1) := by decide +kernel
theorem dX5_sayOwn_31 : decode cX5_sayOwn 31 = .ok (.iload_n 2, 1) := by decide +kernel
theorem dX5_sayOwn_32 : decode cX5_sayOwn 32 = .ok (.iadd, 1) := by decide +kernel
theorem dX5_sayOwn_33 : decode cX5_sayOwn 33 = .ok (.invokevirtual 76, 3) := by decide +kernel
theorem dX5_sayOwn_36 : decode cX5_sayOwn 36 = .ok (.return_, 1) := by decide +kernel
theorem dX5_letter_0 : decode cX5_letter 0 = .ok (.iload_n 1, 1) := by decide +kernel
theorem dX5_letter_1 : decode cX5_letter 1 = .ok (.ifCond .ne 11, 3) := by decide +kernel
theorem dX5_letter_4 : decode cX5_letter 4 = .ok (.bipush 97, 2) := by decide +kernel
theorem dX5_letter_6 : decode cX5_letter 6 = .ok (.iload_n 2, 1) := by decide +kernel
theorem dX5_letter_7 : decode cX5_letter 7 = .ok (.iadd, 1) := by decide +kernel
theorem dX5_letter_8 : decode cX5_letter 8 = .ok (.bipush 6, 2) := by decide +kernel
theorem dX5_letter_10 : decode cX5_letter 10 = .ok (.isub, 1) := by decide +kernel
theorem dX5_letter_11 : decode cX5_letter 11 = .ok (.ireturn, 1) := by decide +kernel
theorem dX5_letter_12 : decode cX5_letter 12 = .ok (.iload_n 1, 1) := by decide +kernel
theorem dX5_letter_13 : decode cX5_letter 13 = .ok (.iconst 1, 1) := by decide +kernel
theorem dX5_letter_14 : decode cX5_letter 14 = .ok (.if_icmp .ne 11, 3) := by decide +kernel
theorem dX5_letter_17 : decode cX5_letter 17 = .ok (.bipush 65, 2) := by decide +kernel
theorem dX5_letter_19 : decode cX5_letter 19 = .ok (.iload_n 2, 1) := by decide +kernel
theorem dX5_letter_20 : decode cX5_letter 20 = .ok (.iadd, 1) := by decide +kernel
theorem dX5_letter_21 : decode cX5_letter 21 = .ok (.bipush 6, 2) := by decide +kernel
theorem dX5_letter_23 : decode cX5_letter 23 = .ok (.isub, 1) := by decide +kernel
theorem dX5_letter_24 : decode cX5_letter 24 = .ok (.ireturn, 1) := by decide +kernel
theorem dX5_letter_25 : decode cX5_letter 25 = .ok (.aload_n 0, 1) := by decide +kernel
theorem dX5_letter_26 : decode cX5_letter 26 = .ok (.getfield 15, 3) := by decide +kernel
theorem dX5_letter_29 : decode cX5_letter 29 = .ok (.iconst 1, 1) := by decide +kernel
theorem dX5_letter_30 : decode cX5_letter 30 = .ok (.if_icmp .ne 13, 3) := by decide +kernel
theorem dX5_letter_33 : decode cX5_letter 33 = .ok (.ldc 96, 2) := by decide +kernel
theorem dX5_letter_35 : decode cX5_letter 35 = .ok (.iload_n 2, 1) := by decide +kernel
theorem dX5_letter_36 : decode cX5_letter 36 = .ok (.bipush 7, 2) := by decide +kernel
theorem dX5_letter_38 : decode cX5_letter 38 = .ok (.isub, 1) := by decide +kernel
theorem dX5_letter_39 : decode cX5_letter 39 = .ok (.invokestatic 98, 3) := by decide +kernel
theorem dX5_letter_42 : decode cX5_letter 42 = .ok (.ireturn, 1) := by decide +kernel
theorem dX5_letter_43 : decode cX5_letter 43 = .ok (.iload_n 2, 1) := by decide +kernel
theorem dX5_letter_44 : decode cX5_letter 44 = .ok (.bipush 7, 2) := by decide +kernel
theorem dX5_letter_46 : decode cX5_letter 46 = .ok (.if_icmp .ne 8, 3) := by decide +kernel
theorem dX5_letter_49 : decode cX5_letter 49 = .ok (.bipush 13, 2) := by decide +kernel
theorem dX5_letter_51 : decode cX5_letter 51 = .ok (.goto 12, 3) := by decide +kernel
theorem dX5_letter_54 : decode cX5_letter 54 = .ok (.ldc 102, 2) := by decide +kernel
theorem dX5_letter_56 : decode cX5_letter 56 = .ok (.iload_n 2, 1) := by decide +kernel
theorem dX5_letter_57 : decode cX5_letter 57 = .ok (.bipush 8, 2) := by decide +kernel
theorem dX5_letter_59 : decode cX5_letter 59 = .ok (.isub, 1) := by decide +kernel
theorem dX5_letter_60 : decode cX5_letter 60 = .ok (.invokestatic 98, 3) := by decide +kernel
theorem dX5_letter_63 : decode cX5_letter 63 = .ok (.ireturn, 1) := by decide +kernel
theorem dX5_charIn_0 : decode cX5_charIn 0 = .ok (.iload_n 1, 1) := by decide +kernel
theorem dX5_charIn_1 : decode cX5_charIn 1 = .ok (.ifCond .lt 19, 3) := by decide +kernel
theorem dX5_charIn_4 : decode cX5_charIn 4 = .ok (.iload_n 1, 1) := by decide +kernel
theorem dX5_charIn_5 : decode cX5_charIn 5 = .ok (.aload_n 0, 1) := by decide +kernel
theorem dX5_charIn_6 : decode cX5_charIn 6 = .ok (.invokevirtual 104, 3) := by decide +kernel
theorem dX5_charIn_9 : decode cX5_charIn 9 = .ok (.if_icmp .ge 11, 3) := by decide +kernel
theorem dX5_charIn_12 : decode cX5_charIn 12 = .ok (.aload_n 0, 1) := by decide +kernel
theorem dX5_charIn_13 : decode cX5_charIn 13 = .ok (.iload_n 1, 1) := by decide +kernel
theorem dX5_charIn_14 : decode cX5_charIn 14 = .ok (.invokevirtual 109, 3) := by decide +kernel
theorem dX5_charIn_17 : decode cX5_charIn 17 = .ok (.goto 4, 3) := by decide +kernel
theorem dX5_charIn_20 : decode cX5_charIn 20 = .ok (.iconst 0, 1) := by decide +kernel
theorem dX5_charIn_21 : decode cX5_charIn 21 = .ok (.ireturn, 1) := by decide +kernel
theorem dX5_say_0 : decode cX5_say 0 = .ok (.aload_n 0, 1) := by decide +kernel
theorem dX5_say_1 : decode cX5_say 1 = .ok (.getfield 38, 3) := by decide +kernel
theorem dX5_say_4 : decode cX5_say 4 = .ok (.sipush 250, 3) := by decide +kernel
theorem dX5_say_7 : decode cX5_say 7 = .ok (.if_icmp .ge 24, 3) := by decide +kernel
theorem dX5_say_10 : decode cX5_say 10 = .ok (.aload_n 0, 1) := by decide +kernel
theorem dX5_say_11 : decode cX5_say 11 = .ok (.getfield 34, 3) := by decide +kernel
theorem dX5_say_14 : decode cX5_say 14 = .ok (.aload_n 0, 1) := by decide +kernel
theorem dX5_say_15 : decode cX5_say 15 = .ok (.getfield 38, 3) := by decide +kernel
theorem dX5_say_18 : decode cX5_say 18 = .ok (.iload_n 1, 1) := by decide +kernel
theorem dX5_say_19 : decode cX5_say 19 = .ok (.i2b, 1) := by decide +kernel
theorem dX5_say_20 : decode cX5_say 20 = .ok (.bastore, 1) := by decide +kernel
theorem dX5_say_21 : decode cX5_say 21 = .ok (.aload_n 0, 1) := by decide +kernel
theorem dX5_say_22 : decode cX5_say 22 = .ok (.dup, 1) := by decide +kernel
theorem dX5_say_23 : decode cX5_say 23 = .ok (.getfield 38, 3) := by decide +kernel
theorem dX5_say_26 : decode cX5_say 26 = .ok (.iconst 1, 1) := by decide +kernel
theorem dX5_say_27 : decode cX5_say 27 = .ok (.iadd, 1) := by decide +kernel
theorem dX5_say_28 : decode cX5_say 28 = .ok (.putfield 38, 3) := by decide +kernel
theorem dX5_say_31 : decode cX5_say 31 = .ok (.return_, 1) := by decide +kernel
theorem dX6_init_0 : decode cX6_init 0 = .ok (.aload_n 0, 1) := by decide +kernel
theorem dX6_init_1 : decode cX6_init 1 = .ok (.invokespecial 3, 3) := by decide +kernel
theorem dX6_init_4 : decode cX6_init 4 = .ok (.aload_n 0, 1) := by decide +kernel
theorem dX6_init_5 : decode cX6_init 5 = .ok (.aload_n 1, 1) := by decide +kernel
theorem dX6_init_6 : decode cX6_init 6 = .ok (.putfield 9, 3) := by decide +kernel
theorem dX6_init_9 : decode cX6_init 9 = .ok (.aload_n 0, 1) := by decide +kernel
theorem dX6_init_10 : decode cX6_init 10 = .ok (.bipush 100, 2) := by decide +kernel
theorem dX6_init_12 : decode cX6_init 12 = .ok (.newarray .int, 2) := by decide +kernel
theorem dX6_init_14 : decode cX6_init 14 = .ok (.putfield 15, 3) := by decide +kernel
theorem dX6_init_17 : decode cX6_init 17 = .ok (.aload_n 0, 1) := by decide +kernel
theorem dX6_init_18 : decode cX6_init 18 = .ok (.bipush 101, 2) := by decide +kernel
theorem dX6_init_20 : decode cX6_init 20 = .ok (.newarray .boolean, 2) := by decide +kernel
theorem dX6_init_22 : decode cX6_init 22 = .ok (.putfield 19, 3) := by decide +kernel
theorem dX6_init_25 : decode cX6_init 25 = .ok (.return_, 1) := by decide +kernel
theorem dX6_canLeave_0 : decode cX6_canLeave 0 = .ok (.aload_n 0, 1) := by decide +kernel
theorem dX6_canLeave_1 : decode cX6_canLeave 1 = .ok (.getfield 9, 3) := by decide +kernel
theorem dX6_canLeave_4 : decode cX6_canLeave 4 = .ok (.iload_n 1, 1) := by decide +kernel
theorem dX6_canLeave_5 : decode cX6_canLeave 5 = .ok (.iconst 0, 1) := by decide +kernel
theorem dX6_canLeave_6 : decode cX6_canLeave 6 = .ok (.invokevirtual 23, 3) := by decide +kernel
theorem dX6_canLeave_9 : decode cX6_canLeave 9 = .ok (.istore_n 2, 1) := by decide +kernel
theorem dX6_canLeave_10 : decode cX6_canLeave 10 = .ok (.iload_n 2, 1) := by decide +kernel
theorem dX6_canLeave_11 : decode cX6_canLeave 11 = .ok (.ifCond .eq 26, 3) := by decide +kernel
theorem dX6_canLeave_14 : decode cX6_canLeave 14 = .ok (.aload_n 0, 1) := by decide +kernel
theorem dX6_canLeave_15 : decode cX6_canLeave 15 = .ok (.getfield 9, 3) := by decide +kernel
theorem dX6_canLeave_18 : decode cX6_canLeave 18 = .ok (.iload_n 2, 1) := by decide +kernel
theorem dX6_canLeave_19 : decode cX6_canLeave 19 = .ok (.invokevirtual 29, 3) := by decide +kernel
theorem dX6_canLeave_22 : decode cX6_canLeave 22 = .ok (.ifCond .eq 19, 3) := by decide +kernel
theorem dX6_canLeave_25 : decode cX6_canLeave 25 = .ok (.aload_n 0, 1) := by decide +kernel
theorem dX6_canLeave_26 : decode cX6_canLeave 26 = .ok (.getfield 9, 3) := by decide +kernel
theorem dX6_canLeave_29 : decode cX6_canLeave 29 = .ok (.iload_n 2, 1) := by decide +kernel
theorem dX6_canLeave_30 : decode cX6_canLeave 30 = .ok (.iload_n 1, 1) := by decide +kernel
theorem dX6_canLeave_31 : decode cX6_canLeave 31 = .ok (.invokevirtual 33, 3) := by decide +kernel
theorem dX6_canLeave_34 : decode cX6_canLeave 34 = .ok (.ifCond .eq 7, 3) := by decide +kernel
theorem dX6_canLeave_37 : decode cX6_canLeave 37 = .ok (.iconst 1, 1) := by decide +kernel
theorem dX6_canLeave_38 : decode cX6_canLeave 38 = .ok (.goto 4, 3) := by decide +kernel
theorem dX6_canLeave_41 : decode cX6_canLeave 41 = .ok (.iconst 0, 1) := by decide +kernel
theorem dX6_canLeave_42 : decode cX6_canLeave 42 = .ok (.ireturn, 1) := by decide +kernel
theorem dX6_leave_0 : decode cX6_leave 0 = .ok (.aload_n 0, 1) := by decide +kernel
theorem dX6_leave_1 : decode cX6_leave 1 = .ok (.getfield 9, 3) := by decide +kernel
theorem dX6_leave_4 : decode cX6_leave 4 = .ok (.iload_n 1, 1) := by decide +kernel
theorem dX6_leave_5 : decode cX6_leave 5 = .ok (.iconst 0, 1) := by decide +kernel
theorem dX6_leave_6 : decode cX6_leave 6 = .ok (.invokevirtual 23, 3) := by decide +kernel
theorem dX6_leave_9 : decode cX6_leave 9 = .ok (.istore_n 2, 1) := by decide +kernel
theorem dX6_leave_10 : decode cX6_leave 10 = .ok (.aload_n 0, 1) := by decide +kernel
theorem dX6_leave_11 : decode cX6_leave 11 = .ok (.getfield 9, 3) := by decide +kernel
theorem dX6_leave_14 : decode cX6_leave 14 = .ok (.iload_n 2, 1) := by decide +kernel
theorem dX6_leave_15 : decode cX6_leave 15 = .ok (.invokevirtual 29, 3) := by decide +kernel
theorem dX6_leave_18 : decode cX6_leave 18 = .ok (.ifCond .eq 9, 3) := by decide +kernel
theorem dX6_leave_21 : decode cX6_leave 21 = .ok (.aload_n 0, 1) := by decide +kernel
theorem dX6_leave_22 : decode cX6_leave 22 = .ok (.iload_n 2, 1) := by decide +kernel
theorem dX6_leave_23 : decode cX6_leave 23 = .ok (.iload_n 1, 1) := by decide +kernel
theorem dX6_leave_24 : decode cX6_leave 24 = .ok (.invokevirtual 37, 3) := by decide +kernel
theorem dX6_leave_27 : decode cX6_leave 27 = .ok (.aload_n 0, 1) := by decide +kernel
theorem dX6_leave_28 : decode cX6_leave 28 = .ok (.getfield 9, 3) := by decide +kernel
theorem dX6_leave_31 : decode cX6_leave 31 = .ok (.iload_n 1, 1) := by decide +kernel
theorem dX6_leave_32 : decode cX6_leave 32 = .ok (.iconst 0, 1) := by decide +kernel
theorem dX6_leave_33 : decode cX6_leave 33 = .ok (.iconst 0, 1) := by decide +kernel
theorem dX6_leave_34 : decode cX6_leave 34 = .ok (.invokevirtual 41, 3) := by decide +kernel
theorem dX6_leave_37 : decode cX6_leave 37 = .ok (.aload_n 0, 1) := by decide +kernel
theorem dX6_leave_38 : decode cX6_leave 38 = .ok (.getfield 9, 3) := by decide +kernel
theorem dX6_leave_41 : decode cX6_leave 41 = .ok (.iload_n 1, 1) := by decide +kernel
theorem dX6_leave_42 : decode cX6_leave 42 = .ok (.iconst 1, 1) := by decide +kernel
theorem dX6_leave_43 : decode cX6_leave 43 = .ok (.iconst 0, 1) := by decide +kernel
theorem dX6_leave_44 : decode cX6_leave 44 = .ok (.invokevirtual 41, 3) := by decide +kernel
theorem dX6_leave_47 : decode cX6_leave 47 = .ok (.return_, 1) := by decide +kernel
theorem dX6_enter_0 : decode cX6_enter 0 = .ok (.aload_n 0, 1) := by decide +kernel
theorem dX6_enter_1 : decode cX6_enter 1 = .ok (.getfield 9, 3) := by decide +kernel
theorem dX6_enter_4 : decode cX6_enter 4 = .ok (.iload_n 1, 1) := by decide +kernel
theorem dX6_enter_5 : decode cX6_enter 5 = .ok (.iconst 1, 1) := by decide +kernel
theorem dX6_enter_6 : decode cX6_enter 6 = .ok (.aload_n 0, 1) := by decide +kernel
theorem dX6_enter_7 : decode cX6_enter 7 = .ok (.getfield 9, 3) := by decide +kernel
theorem dX6_enter_10 : decode cX6_enter 10 = .ok (.iload_n 2, 1) := by decide +kernel
theorem dX6_enter_11 : decode cX6_enter 11 = .ok (.iconst 2, 1) := by decide +kernel
theorem dX6_enter_12 : decode cX6_enter 12 = .ok (.invokevirtual 23, 3) := by decide +kernel
theorem dX6_enter_15 : decode cX6_enter 15 = .ok (.invokevirtual 41, 3) := by decide +kernel
theorem dX6_enter_18 : decode cX6_enter 18 = .ok (.aload_n 0, 1) := by decide +kernel
theorem dX6_enter_19 : decode cX6_enter 19 = .ok (.getfield 9, 3) := by decide +kernel
theorem dX6_enter_22 : decode cX6_enter 22 = .ok (.iload_n 1, 1) := by decide +kernel
theorem dX6_enter_23 : decode cX6_enter 23 = .ok (.iconst 0, 1) := by decide +kernel
theorem dX6_enter_24 : decode cX6_enter 24 = .ok (.iload_n 2, 1) := by decide +kernel
theorem dX6_enter_25 : decode cX6_enter 25 = .ok (.invokevirtual 41, 3) := by decide +kernel
theorem dX6_enter_28 : decode cX6_enter 28 = .ok (.aload_n 0, 1) := by decide +kernel
theorem dX6_enter_29 : decode cX6_enter 29 = .ok (.getfield 9, 3) := by decide +kernel
theorem dX6_enter_32 : decode cX6_enter 32 = .ok (.iload_n 2, 1) := by decide +kernel
theorem dX6_enter_33 : decode cX6_enter 33 = .ok (.iconst 2, 1) := by decide +kernel
theorem dX6_enter_34 : decode cX6_enter 34 = .ok (.iload_n 1, 1) := by decide +kernel
theorem dX6_enter_35 : decode cX6_enter 35 = .ok (.invokevirtual 41, 3) := by decide +kernel
theorem dX6_enter_38 : decode cX6_enter 38 = .ok (.return_, 1) := by decide +kernel
theorem dX6_met_0 : decode cX6_met 0 = .ok (.aload_n 0, 1) := by decide +kernel
theorem dX6_met_1 : decode cX6_met 1 = .ok (.invokevirtual 45, 3) := by decide +kernel
theorem dX6_met_4 : decode cX6_met 4 = .ok (.iconst 0, 1) := by decide +kernel
theorem dX6_met_5 : decode cX6_met 5 = .ok (.istore_n 3, 1) := by decide +kernel
theorem dX6_met_6 : decode cX6_met 6 = .ok (.iconst 0, 1) := by decide +kernel
theorem dX6_met_7 : decode cX6_met 7 = .ok (.istore 4, 2) := by decide +kernel
theorem dX6_met_9 : decode cX6_met 9 = .ok (.iload_n 1, 1) := by decide +kernel
theorem dX6_met_10 : decode cX6_met 10 = .ok (.istore 5, 2) := by decide +kernel
theorem dX6_met_12 : decode cX6_met 12 = .ok (.iconst 0, 1) := by decide +kernel
theorem dX6_met_13 : decode cX6_met 13 = .ok (.istore 6, 2) := by decide +kernel
theorem dX6_met_15 : decode cX6_met 15 = .ok (.iload 6, 2) := by decide +kernel
theorem dX6_met_17 : decode cX6_met 17 = .ok (.sipush 200, 3) := by decide +kernel
theorem dX6_met_20 : decode cX6_met 20 = .ok (.if_icmp .gt 111, 3) := by decide +kernel
theorem dX6_met_23 : decode cX6_met 23 = .ok (.aload_n 0, 1) := by decide +kernel
theorem dX6_met_24 : decode cX6_met 24 = .ok (.getfield 9, 3) := by decide +kernel
theorem dX6_met_27 : decode cX6_met 27 = .ok (.iload 5, 2) := by decide +kernel
theorem dX6_met_29 : decode cX6_met 29 = .ok (.invokevirtual 29, 3) := by decide +kernel
theorem dX6_met_32 : decode cX6_met 32 = .ok (.ifCond .eq 66, 3) := by decide +kernel
theorem dX6_met_35 : decode cX6_met 35 = .ok (.aload_n 0, 1) := by decide +kernel
theorem dX6_met_36 : decode cX6_met 36 = .ok (.getfield 19, 3) := by decide +kernel
theorem dX6_met_39 : decode cX6_met 39 = .ok (.iload 5, 2) := by decide +kernel
theorem dX6_met_41 : decode cX6_met 41 = .ok (.baload, 1) := by decide +kernel
theorem dX6_met_42 : decode cX6_met 42 = .ok (.ifCond .ne 56, 3) := by decide +kernel
theorem dX6_met_45 : decode cX6_met 45 = .ok (.iload 4, 2) := by decide +kernel
theorem dX6_met_47 : decode cX6_met 47 = .ok (.bipush 100, 2) := by decide +kernel
theorem dX6_met_49 : decode cX6_met 49 = .ok (.if_icmp .ge 49, 3) := by decide +kernel
theorem dX6_met_52 : decode cX6_met 52 = .ok (.iload_n 3, 1) := by decide +kernel
theorem dX6_met_53 : decode cX6_met 53 = .ok (.iload_n 2, 1) := by decide +kernel
theorem dX6_met_54 : decode cX6_met 54 = .ok (.if_icmp .ne 6, 3) := by decide +kernel
theorem dX6_met_57 : decode cX6_met 57 = .ok (.iload 5, 2) := by decide +kernel
theorem dX6_met_59 : decode cX6_met 59 = .ok (.ireturn, 1) := by decide +kernel
theorem dX6_met_60 : decode cX6_met 60 = .ok (.iinc 3 1, 3) := by decide +kernel
theorem dX6_met_63 : decode cX6_met 63 = .ok (.aload_n 0, 1) := by decide +kernel
theorem dX6_met_64 : decode cX6_met 64 = .ok (.getfield 19, 3) := by decide +kernel
theorem dX6_met_67 : decode cX6_met 67 = .ok (.iload 5, 2) := by decide +kernel
theorem dX6_met_69 : decode cX6_met 69 = .ok (.iconst 1, 1) := by decide +kernel
theorem dX6_met_70 : decode cX6_met 70 = .ok (.bastore, 1) := by decide +kernel
theorem dX6_met_71 : decode cX6_met 71 = .ok (.aload_n 0, 1) := by decide +kernel
theorem dX6_met_72 : decode cX6_met 72 = .ok (.getfield 15, 3) := by decide +kernel
theorem dX6_met_75 : decode cX6_met 75 = .ok (.iload 4, 2) := by decide +kernel
theorem dX6_met_77 : decode cX6_met 77 = .ok (.iload 5, 2) := by decide +kernel
theorem dX6_met_79 : decode cX6_met 79 = .ok (.iastore, 1) := by decide +kernel
theorem dX6_met_80 : decode cX6_met 80 = .ok (.iinc 4 1, 3) := by decide +kernel
theorem dX6_met_83 : decode cX6_met 83 = .ok (.aload_n 0, 1) := by decide +kernel
theorem dX6_met_84 : decode cX6_met 84 = .ok (.getfield 9, 3) := by decide +kernel
theorem dX6_met_87 : decode cX6_met 87 = .ok (.iload 5, 2) := by decide +kernel
theorem dX6_met_89 : decode cX6_met 89 = .ok (.iconst 2, 1) := by decide +kernel
theorem dX6_met_90 : decode cX6_met 90 = .ok (.invokevirtual 23, 3) := by decide +kernel
theorem dX6_met_93 : decode cX6_met 93 = .ok (.istore 5, 2) := by decide +kernel
theorem dX6_met_95 : decode cX6_met 95 = .ok (.goto 30, 3) := by decide +kernel
theorem dX6_met_98 : decode cX6_met 98 = .ok (.iinc 4 (-1), 3) := by decide +kernel
theorem dX6_met_101 : decode cX6_met 101 = .ok (.iload 4, 2) := by decide +kernel
theorem dX6_met_103 : decode cX6_met 103 = .ok (.ifCond .gt 5, 3) := by decide +kernel
theorem dX6_met_106 : decode cX6_met 106 = .ok (.iconst 0, 1) := by decide +kernel
theorem dX6_met_107 : decode cX6_met 107 = .ok (.ireturn, 1) := by decide +kernel
theorem dX6_met_108 : decode cX6_met 108 = .ok (.aload_n 0, 1) := by decide +kernel
theorem dX6_met_109 : decode cX6_met 109 = .ok (.getfield 9, 3) := by decide +kernel
theorem dX6_met_112 : decode cX6_met 112 = .ok (.aload_n 0, 1) := by decide +kernel
theorem dX6_met_113 : decode cX6_met 113 = .ok (.getfield 15, 3) := by decide +kernel
theorem dX6_met_116 : decode cX6_met 116 = .ok (.iload 4, 2) := by decide +kernel
theorem dX6_met_118 : decode cX6_met 118 = .ok (.iaload, 1) := by decide +kernel
theorem dX6_met_119 : decode cX6_met 119 = .ok (.iconst 1, 1) := by decide +kernel
theorem dX6_met_120 : decode cX6_met 120 = .ok (.invokevirtual 23, 3) := by decide +kernel
theorem dX6_met_123 : decode cX6_met 123 = .ok (.istore 5, 2) := by decide +kernel
theorem dX6_met_125 : decode cX6_met 125 = .ok (.iinc 6 1, 3) := by decide +kernel
theorem dX6_met_128 : decode cX6_met 128 = .ok (.goto (-113), 3) := by decide +kernel
theorem dX6_met_131 : decode cX6_met 131 = .ok (.iconst 0, 1) := by decide +kernel
theorem dX6_met_132 : decode cX6_met 132 = .ok (.ireturn, 1) := by decide +kernel
theorem dX6_forgetMet_0 : decode cX6_forgetMet 0 = .ok (.iconst 0, 1) := by decide +kernel
theorem dX6_forgetMet_1 : decode cX6_forgetMet 1 = .ok (.istore_n 1, 1) := by decide +kernel
theorem dX6_forgetMet_2 : decode cX6_forgetMet 2 = .ok (.iload_n 1, 1) := by decide +kernel
theorem dX6_forgetMet_3 : decode cX6_forgetMet 3 = .ok (.aload_n 0, 1) := by decide +kernel
theorem dX6_forgetMet_4 : decode cX6_forgetMet 4 = .ok (.getfield 19, 3) := by decide +kernel
theorem dX6_forgetMet_7 : decode cX6_forgetMet 7 = .ok (.arraylength, 1) := by decide +kernel
theorem dX6_forgetMet_8 : decode cX6_forgetMet 8 = .ok (.if_icmp .ge 16, 3) := by decide +kernel
theorem dX6_forgetMet_11 : decode cX6_forgetMet 11 = .ok (.aload_n 0, 1) := by decide +kernel
theorem dX6_forgetMet_12 : decode cX6_forgetMet 12 = .ok (.getfield 19, 3) := by decide +kernel
theorem dX6_forgetMet_15 : decode cX6_forgetMet 15 = .ok (.iload_n 1, 1) := by decide +kernel
theorem dX6_forgetMet_16 : decode cX6_forgetMet 16 = .ok (.iconst 0, 1) := by decide +kernel
theorem dX6_forgetMet_17 : decode cX6_forgetMet 17 = .ok (.bastore, 1) := by decide +kernel
theorem dX6_forgetMet_18 : decode cX6_forgetMet 18 = .ok (.iinc 1 1, 3) := by decide +kernel
theorem dX6_forgetMet_21 : decode cX6_forgetMet 21 = .ok (.goto (-19), 3) := by decide +kernel
theorem dX6_forgetMet_24 : decode cX6_forgetMet 24 = .ok (.return_, 1) := by decide +kernel
theorem dX6_takeOut_0 : decode cX6_takeOut 0 = .ok (.aload_n 0, 1) := by decide +kernel
theorem dX6_takeOut_1 : decode cX6_takeOut 1 = .ok (.getfield 9, 3) := by decide +kernel
theorem dX6_takeOut_4 : decode cX6_takeOut 4 = .ok (.iload_n 2, 1) := by decide +kernel
theorem dX6_takeOut_5 : decode cX6_takeOut 5 = .ok (.iconst 1, 1) := by decide +kernel
theorem dX6_takeOut_6 : decode cX6_takeOut 6 = .ok (.invokevirtual 23, 3) := by decide +kernel
theorem dX6_takeOut_9 : decode cX6_takeOut 9 = .ok (.istore_n 3, 1) := by decide +kernel
theorem dX6_takeOut_10 : decode cX6_takeOut 10 = .ok (.aload_n 0, 1) := by decide +kernel
theorem dX6_takeOut_11 : decode cX6_takeOut 11 = .ok (.getfield 9, 3) := by decide +kernel
theorem dX6_takeOut_14 : decode cX6_takeOut 14 = .ok (.iload_n 1, 1) := by decide +kernel
theorem dX6_takeOut_15 : decode cX6_takeOut 15 = .ok (.iconst 2, 1) := by decide +kernel
theorem dX6_takeOut_16 : decode cX6_takeOut 16 = .ok (.invokevirtual 23, 3) := by decide +kernel
theorem dX6_takeOut_19 : decode cX6_takeOut 19 = .ok (.istore 4, 2) := by decide +kernel
theorem dX6_takeOut_21 : decode cX6_takeOut 21 = .ok (.iload 4, 2) := by decide +kernel
theorem dX6_takeOut_23 : decode cX6_takeOut 23 = .ok (.iload_n 2, 1) := by decide +kernel
theorem dX6_takeOut_24 : decode cX6_takeOut 24 = .ok (.if_icmp .ne 14, 3) := by decide +kernel
theorem dX6_takeOut_27 : decode cX6_takeOut 27 = .ok (.aload_n 0, 1) := by decide +kernel
theorem dX6_takeOut_28 : decode cX6_takeOut 28 = .ok (.getfield 9, 3) := by decide +kernel
theorem dX6_takeOut_31 : decode cX6_takeOut 31 = .ok (.iload_n 1, 1) := by decide +kernel
theorem dX6_takeOut_32 : decode cX6_takeOut 32 = .ok (.iconst 2, 1) := by decide +kernel
theorem dX6_takeOut_33 : decode cX6_takeOut 33 = .ok (.iload_n 3, 1) := by decide +kernel
theorem dX6_takeOut_34 : decode cX6_takeOut 34 = .ok (.invokevirtual 41, 3) := by decide +kernel
theorem dX6_takeOut_37 : decode cX6_takeOut 37 = .ok (.return_, 1) := by decide +kernel
theorem dX6_takeOut_38 : decode cX6_takeOut 38 = .ok (.iconst 0, 1) := by decide +kernel
theorem dX6_takeOut_39 : decode cX6_takeOut 39 = .ok (.istore 5, 2) := by decide +kernel
theorem dX6_takeOut_41 : decode cX6_takeOut 41 = .ok (.iload 5, 2) := by decide +kernel
theorem dX6_takeOut_43 : decode cX6_takeOut 43 = .ok (.bipush 100, 2) := by decide +kernel
theorem dX6_takeOut_45 : decode cX6_takeOut 45 = .ok (.if_icmp .ge 55, 3) := by decide +kernel
theorem dX6_takeOut_48 : decode cX6_takeOut 48 = .ok (.aload_n 0, 1) := by decide +kernel
theorem dX6_takeOut_49 : decode cX6_takeOut 49 = .ok (.getfield 9, 3) := by decide +kernel
theorem dX6_takeOut_52 : decode cX6_takeOut 52 = .ok (.iload 4, 2) := by decide +kernel
theorem dX6_takeOut_54 : decode cX6_takeOut 54 = .ok (.invokevirtual 29, 3) := by decide +kernel
theorem dX6_takeOut_57 : decode cX6_takeOut 57 = .ok (.ifCond .eq 43, 3) := by decide +kernel
theorem dX6_takeOut_60 : decode cX6_takeOut 60 = .ok (.aload_n 0, 1) := by decide +kernel
theorem dX6_takeOut_61 : decode cX6_takeOut 61 = .ok (.getfield 9, 3) := by decide +kernel
theorem dX6_takeOut_64 : decode cX6_takeOut 64 = .ok (.iload 4, 2) := by decide +kernel
theorem dX6_takeOut_66 : decode cX6_takeOut 66 = .ok (.iconst 1, 1) := by decide +kernel
theorem dX6_takeOut_67 : decode cX6_takeOut 67 = .ok (.invokevirtual 23, 3) := by decide +kernel
theorem dX6_takeOut_70 : decode cX6_takeOut 70 = .ok (.istore 6, 2) := by decide +kernel
theorem dX6_takeOut_72 : decode cX6_takeOut 72 = .ok (.iload 6, 2) := by decide +kernel
theorem dX6_takeOut_74 : decode cX6_takeOut 74 = .ok (.iload_n 2, 1) := by decide +kernel
theorem dX6_takeOut_75 : decode cX6_takeOut 75 = .ok (.if_icmp .ne 15, 3) := by decide +kernel
theorem dX6_takeOut_78 : decode cX6_takeOut 78 = .ok (.aload_n 0, 1) := by decide +kernel
theorem dX6_takeOut_79 : decode cX6_takeOut 79 = .ok (.getfield 9, 3) := by decide +kernel
theorem dX6_takeOut_82 : decode cX6_takeOut 82 = .ok (.iload 4, 2) := by decide +kernel
theorem dX6_takeOut_84 : decode cX6_takeOut 84 = .ok (.iconst 1, 1) := by decide +kernel
theorem dX6_takeOut_85 : decode cX6_takeOut 85 = .ok (.iload_n 3, 1) := by decide +kernel
theorem dX6_takeOut_86 : decode cX6_takeOut 86 = .ok (.invokevirtual 41, 3) := by decide +kernel
theorem dX6_takeOut_89 : decode cX6_takeOut 89 = .ok (.return_, 1) := by decide +kernel
theorem dX6_takeOut_90 : decode cX6_takeOut 90 = .ok (.iload 6, 2) := by decide +kernel
theorem dX6_takeOut_92 : decode cX6_takeOut 92 = .ok (.istore 4, 2) := by decide +kernel
theorem dX6_takeOut_94 : decode cX6_takeOut 94 = .ok (.iinc 5 1, 3) := by decide +kernel
theorem dX6_takeOut_97 : decode cX6_takeOut 97 = .ok (.goto (-56), 3) := by decide +kernel
theorem dX6_takeOut_100 : decode cX6_takeOut 100 = .ok (.return_, 1) := by decide +kernel
