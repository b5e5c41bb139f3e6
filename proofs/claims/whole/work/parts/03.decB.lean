theorem dX7_init_0 : decode cX7_init 0 = .ok (.aload_n 0, 1) := by decide +kernel
theorem dX7_init_1 : decode cX7_init 1 = .ok (.invokespecial 1, 3) := by decide +kernel
theorem dX7_init_4 : decode cX7_init 4 = .ok (.iconst 1, 1) := by decide +kernel
theorem dX7_init_5 : decode cX7_init 5 = .ok (.bipush 8, 2) := by decide +kernel
theorem dX7_init_7 : decode cX7_init 7 = .ok (.iload_n 1, 1) := by decide +kernel
theorem dX7_init_8 : decode cX7_init 8 = .ok (.invokestatic 7, 3) := by decide +kernel
theorem dX7_init_11 : decode cX7_init 11 = .ok (.invokestatic 13, 3) := by decide +kernel
theorem dX7_init_14 : decode cX7_init 14 = .ok (.istore_n 2, 1) := by decide +kernel
theorem dX7_init_15 : decode cX7_init 15 = .ok (.iload_n 2, 1) := by decide +kernel
theorem dX7_init_16 : decode cX7_init 16 = .ok (.iconst 4, 1) := by decide +kernel
theorem dX7_init_17 : decode cX7_init 17 = .ok (.if_icmp .lt 7, 3) := by decide +kernel
theorem dX7_init_20 : decode cX7_init 20 = .ok (.iconst 1, 1) := by decide +kernel
theorem dX7_init_21 : decode cX7_init 21 = .ok (.goto 4, 3) := by decide +kernel
theorem dX7_init_24 : decode cX7_init 24 = .ok (.iconst 0, 1) := by decide +kernel
theorem dX7_init_25 : decode cX7_init 25 = .ok (.istore_n 3, 1) := by decide +kernel
theorem dX7_init_26 : decode cX7_init 26 = .ok (.aload_n 0, 1) := by decide +kernel
theorem dX7_init_27 : decode cX7_init 27 = .ok (.new 16, 3) := by decide +kernel
theorem dX7_init_30 : decode cX7_init 30 = .ok (.dup, 1) := by decide +kernel
theorem dX7_init_31 : decode cX7_init 31 = .ok (.invokespecial 18, 3) := by decide +kernel
theorem dX7_init_34 : decode cX7_init 34 = .ok (.putfield 19, 3) := by decide +kernel
theorem dX7_init_37 : decode cX7_init 37 = .ok (.aload_n 0, 1) := by decide +kernel
theorem dX7_init_38 : decode cX7_init 38 = .ok (.iload_n 3, 1) := by decide +kernel
theorem dX7_init_39 : decode cX7_init 39 = .ok (.ifCond .eq 8, 3) := by decide +kernel
theorem dX7_init_42 : decode cX7_init 42 = .ok (.bipush 63, 2) := by decide +kernel
theorem dX7_init_44 : decode cX7_init 44 = .ok (.goto 5, 3) := by decide +kernel
theorem dX7_init_47 : decode cX7_init 47 = .ok (.bipush 31, 2) := by decide +kernel
theorem dX7_init_49 : decode cX7_init 49 = .ok (.putfield 25, 3) := by decide +kernel
theorem dX7_init_52 : decode cX7_init 52 = .ok (.aload_n 0, 1) := by decide +kernel
theorem dX7_init_53 : decode cX7_init 53 = .ok (.new 29, 3) := by decide +kernel
theorem dX7_init_56 : decode cX7_init 56 = .ok (.dup, 1) := by decide +kernel
theorem dX7_init_57 : decode cX7_init 57 = .ok (.aload_n 0, 1) := by decide +kernel
theorem dX7_init_58 : decode cX7_init 58 = .ok (.getfield 19, 3) := by decide +kernel
theorem dX7_init_61 : decode cX7_init 61 = .ok (.iload_n 3, 1) := by decide +kernel
theorem dX7_init_62 : decode cX7_init 62 = .ok (.sipush 256, 3) := by decide +kernel
theorem dX7_init_65 : decode cX7_init 65 = .ok (.iconst 2, 1) := by decide +kernel
theorem dX7_init_66 : decode cX7_init 66 = .ok (.aload_n 0, 1) := by decide +kernel
theorem dX7_init_67 : decode cX7_init 67 = .ok (.getfield 25, 3) := by decide +kernel
theorem dX7_init_70 : decode cX7_init 70 = .ok (.imul, 1) := by decide +kernel
theorem dX7_init_71 : decode cX7_init 71 = .ok (.iadd, 1) := by decide +kernel
theorem dX7_init_72 : decode cX7_init 72 = .ok (.invokespecial 31, 3) := by decide +kernel
theorem dX7_init_75 : decode cX7_init 75 = .ok (.putfield 34, 3) := by decide +kernel
theorem dX7_init_78 : decode cX7_init 78 = .ok (.aload_n 0, 1) := by decide +kernel
theorem dX7_init_79 : decode cX7_init 79 = .ok (.new 38, 3) := by decide +kernel
theorem dX7_init_82 : decode cX7_init 82 = .ok (.dup, 1) := by decide +kernel
theorem dX7_init_83 : decode cX7_init 83 = .ok (.aload_n 0, 1) := by decide +kernel
theorem dX7_init_84 : decode cX7_init 84 = .ok (.getfield 34, 3) := by decide +kernel
theorem dX7_init_87 : decode cX7_init 87 = .ok (.invokespecial 40, 3) := by decide +kernel
theorem dX7_init_90 : decode cX7_init 90 = .ok (.putfield 43, 3) := by decide +kernel
theorem dX7_init_93 : decode cX7_init 93 = .ok (.aload_n 0, 1) := by decide +kernel
theorem dX7_init_94 : decode cX7_init 94 = .ok (.new 47, 3) := by decide +kernel
theorem dX7_init_97 : decode cX7_init 97 = .ok (.dup, 1) := by decide +kernel
theorem dX7_init_98 : decode cX7_init 98 = .ok (.aload_n 0, 1) := by decide +kernel
theorem dX7_init_99 : decode cX7_init 99 = .ok (.getfield 19, 3) := by decide +kernel
theorem dX7_init_102 : decode cX7_init 102 = .ok (.iload_n 3, 1) := by decide +kernel
theorem dX7_init_103 : decode cX7_init 103 = .ok (.invokespecial 49, 3) := by decide +kernel
theorem dX7_init_106 : decode cX7_init 106 = .ok (.putfield 52, 3) := by decide +kernel
theorem dX7_init_109 : decode cX7_init 109 = .ok (.aload_n 0, 1) := by decide +kernel
theorem dX7_init_110 : decode cX7_init 110 = .ok (.new 56, 3) := by decide +kernel
theorem dX7_init_113 : decode cX7_init 113 = .ok (.dup, 1) := by decide +kernel
theorem dX7_init_114 : decode cX7_init 114 = .ok (.aload_n 0, 1) := by decide +kernel
theorem dX7_init_115 : decode cX7_init 115 = .ok (.getfield 19, 3) := by decide +kernel
theorem dX7_init_118 : decode cX7_init 118 = .ok (.iload_n 2, 1) := by decide +kernel
theorem dX7_init_119 : decode cX7_init 119 = .ok (.invokespecial 58, 3) := by decide +kernel
theorem dX7_init_122 : decode cX7_init 122 = .ok (.putfield 61, 3) := by decide +kernel
theorem dX7_init_125 : decode cX7_init 125 = .ok (.aload_n 0, 1) := by decide +kernel
theorem dX7_init_126 : decode cX7_init 126 = .ok (.new 65, 3) := by decide +kernel
theorem dX7_init_129 : decode cX7_init 129 = .ok (.dup, 1) := by decide +kernel
theorem dX7_init_130 : decode cX7_init 130 = .ok (.aload_n 0, 1) := by decide +kernel
theorem dX7_init_131 : decode cX7_init 131 = .ok (.getfield 34, 3) := by decide +kernel
theorem dX7_init_134 : decode cX7_init 134 = .ok (.aload_n 0, 1) := by decide +kernel
theorem dX7_init_135 : decode cX7_init 135 = .ok (.getfield 52, 3) := by decide +kernel
theorem dX7_init_138 : decode cX7_init 138 = .ok (.invokespecial 67, 3) := by decide +kernel
theorem dX7_init_141 : decode cX7_init 141 = .ok (.putfield 70, 3) := by decide +kernel
theorem dX7_init_144 : decode cX7_init 144 = .ok (.aload_n 0, 1) := by decide +kernel
theorem dX7_init_145 : decode cX7_init 145 = .ok (.sipush 250, 3) := by decide +kernel
theorem dX7_init_148 : decode cX7_init 148 = .ok (.newarray .byte, 2) := by decide +kernel
theorem dX7_init_150 : decode cX7_init 150 = .ok (.putfield 74, 3) := by decide +kernel
theorem dX7_init_153 : decode cX7_init 153 = .ok (.aload_n 0, 1) := by decide +kernel
theorem dX7_init_154 : decode cX7_init 154 = .ok (.iconst 0, 1) := by decide +kernel
theorem dX7_init_155 : decode cX7_init 155 = .ok (.putfield 78, 3) := by decide +kernel
theorem dX7_init_158 : decode cX7_init 158 = .ok (.aload_n 0, 1) := by decide +kernel
theorem dX7_init_159 : decode cX7_init 159 = .ok (.sipush 1792, 3) := by decide +kernel
theorem dX7_init_162 : decode cX7_init 162 = .ok (.putfield 81, 3) := by decide +kernel
theorem dX7_init_165 : decode cX7_init 165 = .ok (.aload_n 0, 1) := by decide +kernel
theorem dX7_init_166 : decode cX7_init 166 = .ok (.iconst 0, 1) := by decide +kernel
theorem dX7_init_167 : decode cX7_init 167 = .ok (.putfield 84, 3) := by decide +kernel
theorem dX7_init_170 : decode cX7_init 170 = .ok (.return_, 1) := by decide +kernel
theorem dX7_type_0 : decode cX7_type 0 = .ok (.iload_n 3, 1) := by decide +kernel
theorem dX7_type_1 : decode cX7_type 1 = .ok (.ifCond .lt 9, 3) := by decide +kernel
theorem dX7_type_4 : decode cX7_type 4 = .ok (.iload_n 3, 1) := by decide +kernel
theorem dX7_type_5 : decode cX7_type 5 = .ok (.bipush 8, 2) := by decide +kernel
theorem dX7_type_7 : decode cX7_type 7 = .ok (.if_icmp .le 6, 3) := by decide +kernel
theorem dX7_type_10 : decode cX7_type 10 = .ok (.bipush (-2), 2) := by decide +kernel
theorem dX7_type_12 : decode cX7_type 12 = .ok (.ireturn, 1) := by decide +kernel
theorem dX7_type_13 : decode cX7_type 13 = .ok (.iload_n 3, 1) := by decide +kernel
theorem dX7_type_14 : decode cX7_type 14 = .ok (.ifCond .ne 10, 3) := by decide +kernel
theorem dX7_type_17 : decode cX7_type 17 = .ok (.aload_n 0, 1) := by decide +kernel
theorem dX7_type_18 : decode cX7_type 18 = .ok (.iconst 0, 1) := by decide +kernel
theorem dX7_type_19 : decode cX7_type 19 = .ok (.putfield 78, 3) := by decide +kernel
theorem dX7_type_22 : decode cX7_type 22 = .ok (.iconst 0, 1) := by decide +kernel
theorem dX7_type_23 : decode cX7_type 23 = .ok (.ireturn, 1) := by decide +kernel
theorem dX7_type_24 : decode cX7_type 24 = .ok (.aload_n 0, 1) := by decide +kernel
theorem dX7_type_25 : decode cX7_type 25 = .ok (.getfield 78, 3) := by decide +kernel
theorem dX7_type_28 : decode cX7_type 28 = .ok (.iload_n 3, 1) := by decide +kernel
theorem dX7_type_29 : decode cX7_type 29 = .ok (.iadd, 1) := by decide +kernel
theorem dX7_type_30 : decode cX7_type 30 = .ok (.sipush 250, 3) := by decide +kernel
theorem dX7_type_33 : decode cX7_type 33 = .ok (.if_icmp .le 6, 3) := by decide +kernel
theorem dX7_type_36 : decode cX7_type 36 = .ok (.bipush (-4), 2) := by decide +kernel
theorem dX7_type_38 : decode cX7_type 38 = .ok (.ireturn, 1) := by decide +kernel
theorem dX7_type_39 : decode cX7_type 39 = .ok (.iload_n 3, 1) := by decide +kernel
theorem dX7_type_40 : decode cX7_type 40 = .ok (.iconst 1, 1) := by decide +kernel
theorem dX7_type_41 : decode cX7_type 41 = .ok (.isub, 1) := by decide +kernel
theorem dX7_type_42 : decode cX7_type 42 = .ok (.istore 4, 2) := by decide +kernel
theorem dX7_type_44 : decode cX7_type 44 = .ok (.iload 4, 2) := by decide +kernel
theorem dX7_type_46 : decode cX7_type 46 = .ok (.ifCond .lt 37, 3) := by decide +kernel
theorem dX7_type_49 : decode cX7_type 49 = .ok (.aload_n 0, 1) := by decide +kernel
theorem dX7_type_50 : decode cX7_type 50 = .ok (.getfield 74, 3) := by decide +kernel
theorem dX7_type_53 : decode cX7_type 53 = .ok (.aload_n 0, 1) := by decide +kernel
theorem dX7_type_54 : decode cX7_type 54 = .ok (.getfield 78, 3) := by decide +kernel
theorem dX7_type_57 : decode cX7_type 57 = .ok (.lload_n 1, 1) := by decide +kernel
theorem dX7_type_58 : decode cX7_type 58 = .ok (.bipush 8, 2) := by decide +kernel
theorem dX7_type_60 : decode cX7_type 60 = .ok (.iload 4, 2) := by decide +kernel
theorem dX7_type_62 : decode cX7_type 62 = .ok (.imul, 1) := by decide +kernel
theorem dX7_type_63 : decode cX7_type 63 = .ok (.lushr, 1) := by decide +kernel
theorem dX7_type_64 : decode cX7_type 64 = .ok (.l2i, 1) := by decide +kernel
theorem dX7_type_65 : decode cX7_type 65 = .ok (.i2b, 1) := by decide +kernel
theorem dX7_type_66 : decode cX7_type 66 = .ok (.bastore, 1) := by decide +kernel
theorem dX7_type_67 : decode cX7_type 67 = .ok (.aload_n 0, 1) := by decide +kernel
theorem dX7_type_68 : decode cX7_type 68 = .ok (.dup, 1) := by decide +kernel
theorem dX7_type_69 : decode cX7_type 69 = .ok (.getfield 78, 3) := by decide +kernel
theorem dX7_type_72 : decode cX7_type 72 = .ok (.iconst 1, 1) := by decide +kernel
theorem dX7_type_73 : decode cX7_type 73 = .ok (.iadd, 1) := by decide +kernel
theorem dX7_type_74 : decode cX7_type 74 = .ok (.putfield 78, 3) := by decide +kernel
theorem dX7_type_77 : decode cX7_type 77 = .ok (.iinc 4 (-1), 3) := by decide +kernel
theorem dX7_type_80 : decode cX7_type 80 = .ok (.goto (-36), 3) := by decide +kernel
theorem dX7_type_83 : decode cX7_type 83 = .ok (.aload_n 0, 1) := by decide +kernel
theorem dX7_type_84 : decode cX7_type 84 = .ok (.getfield 78, 3) := by decide +kernel
theorem dX7_type_87 : decode cX7_type 87 = .ok (.ireturn, 1) := by decide +kernel
theorem dX7_object_0 : decode cX7_object 0 = .ok (.aload_n 0, 1) := by decide +kernel
theorem dX7_object_1 : decode cX7_object 1 = .ok (.getfield 34, 3) := by decide +kernel
theorem dX7_object_4 : decode cX7_object 4 = .ok (.invokevirtual 88, 3) := by decide +kernel
theorem dX7_object_7 : decode cX7_object 7 = .ok (.ifCond .ne 18, 3) := by decide +kernel
theorem dX7_object_10 : decode cX7_object 10 = .ok (.aload_n 0, 1) := by decide +kernel
theorem dX7_object_11 : decode cX7_object 11 = .ok (.getfield 81, 3) := by decide +kernel
theorem dX7_object_14 : decode cX7_object 14 = .ok (.aload_n 0, 1) := by decide +kernel
theorem dX7_object_15 : decode cX7_object 15 = .ok (.getfield 78, 3) := by decide +kernel
theorem dX7_object_18 : decode cX7_object 18 = .ok (.iadd, 1) := by decide +kernel
theorem dX7_object_19 : decode cX7_object 19 = .ok (.sipush 4096, 3) := by decide +kernel
theorem dX7_object_22 : decode cX7_object 22 = .ok (.if_icmp .le 6, 3) := by decide +kernel
theorem dX7_object_25 : decode cX7_object 25 = .ok (.bipush (-4), 2) := by decide +kernel
theorem dX7_object_27 : decode cX7_object 27 = .ok (.ireturn, 1) := by decide +kernel
theorem dX7_object_28 : decode cX7_object 28 = .ok (.iconst 0, 1) := by decide +kernel
theorem dX7_object_29 : decode cX7_object 29 = .ok (.istore_n 1, 1) := by decide +kernel
theorem dX7_object_30 : decode cX7_object 30 = .ok (.iload_n 1, 1) := by decide +kernel
theorem dX7_object_31 : decode cX7_object 31 = .ok (.aload_n 0, 1) := by decide +kernel
theorem dX7_object_32 : decode cX7_object 32 = .ok (.getfield 78, 3) := by decide +kernel
theorem dX7_object_35 : decode cX7_object 35 = .ok (.if_icmp .ge 28, 3) := by decide +kernel
theorem dX7_object_38 : decode cX7_object 38 = .ok (.aload_n 0, 1) := by decide +kernel
theorem dX7_object_39 : decode cX7_object 39 = .ok (.getfield 19, 3) := by decide +kernel
theorem dX7_object_42 : decode cX7_object 42 = .ok (.aload_n 0, 1) := by decide +kernel
theorem dX7_object_43 : decode cX7_object 43 = .ok (.getfield 81, 3) := by decide +kernel
theorem dX7_object_46 : decode cX7_object 46 = .ok (.iload_n 1, 1) := by decide +kernel
theorem dX7_object_47 : decode cX7_object 47 = .ok (.iadd, 1) := by decide +kernel
theorem dX7_object_48 : decode cX7_object 48 = .ok (.aload_n 0, 1) := by decide +kernel
theorem dX7_object_49 : decode cX7_object 49 = .ok (.getfield 74, 3) := by decide +kernel
theorem dX7_object_52 : decode cX7_object 52 = .ok (.iload_n 1, 1) := by decide +kernel
theorem dX7_object_53 : decode cX7_object 53 = .ok (.baload, 1) := by decide +kernel
theorem dX7_object_54 : decode cX7_object 54 = .ok (.invokevirtual 92, 3) := by decide +kernel
theorem dX7_object_57 : decode cX7_object 57 = .ok (.iinc 1 1, 3) := by decide +kernel
theorem dX7_object_60 : decode cX7_object 60 = .ok (.goto (-30), 3) := by decide +kernel
theorem dX7_object_63 : decode cX7_object 63 = .ok (.aload_n 0, 1) := by decide +kernel
theorem dX7_object_64 : decode cX7_object 64 = .ok (.getfield 34, 3) := by decide +kernel
theorem dX7_object_67 : decode cX7_object 67 = .ok (.aload_n 0, 1) := by decide +kernel
theorem dX7_object_68 : decode cX7_object 68 = .ok (.getfield 81, 3) := by decide +kernel
theorem dX7_object_71 : decode cX7_object 71 = .ok (.invokevirtual 96, 3) := by decide +kernel
theorem dX7_object_74 : decode cX7_object 74 = .ok (.aload_n 0, 1) := by decide +kernel
theorem dX7_object_75 : decode cX7_object 75 = .ok (.dup, 1) := by decide +kernel
theorem dX7_object_76 : decode cX7_object 76 = .ok (.getfield 81, 3) := by decide +kernel
theorem dX7_object_79 : decode cX7_object 79 = .ok (.aload_n 0, 1) := by decide +kernel
theorem dX7_object_80 : decode cX7_object 80 = .ok (.getfield 78, 3) := by decide +kernel
theorem dX7_object_83 : decode cX7_object 83 = .ok (.iadd, 1) := by decide +kernel
theorem dX7_object_84 : decode cX7_object 84 = .ok (.putfield 81, 3) := by decide +kernel
theorem dX7_object_87 : decode cX7_object 87 = .ok (.aload_n 0, 1) := by decide +kernel
theorem dX7_object_88 : decode cX7_object 88 = .ok (.iconst 0, 1) := by decide +kernel
theorem dX7_object_89 : decode cX7_object 89 = .ok (.putfield 78, 3) := by decide +kernel
theorem dX7_object_92 : decode cX7_object 92 = .ok (.aload_n 0, 1) := by decide +kernel
theorem dX7_object_93 : decode cX7_object 93 = .ok (.getfield 34, 3) := by decide +kernel
theorem dX7_object_96 : decode cX7_object 96 = .ok (.invokevirtual 100, 3) := by decide +kernel
theorem dX7_object_99 : decode cX7_object 99 = .ok (.ireturn, 1) := by decide +kernel
theorem dX7_count_0 : decode cX7_count 0 = .ok (.aload_n 0, 1) := by decide +kernel
theorem dX7_count_1 : decode cX7_count 1 = .ok (.getfield 34, 3) := by decide +kernel
theorem dX7_count_4 : decode cX7_count 4 = .ok (.invokevirtual 100, 3) := by decide +kernel
theorem dX7_count_7 : decode cX7_count 7 = .ok (.ireturn, 1) := by decide +kernel
theorem dX7_peek_0 : decode cX7_peek 0 = .ok (.aload_n 0, 1) := by decide +kernel
theorem dX7_peek_1 : decode cX7_peek 1 = .ok (.getfield 19, 3) := by decide +kernel
theorem dX7_peek_4 : decode cX7_peek 4 = .ok (.iload_n 1, 1) := by decide +kernel
theorem dX7_peek_5 : decode cX7_peek 5 = .ok (.invokevirtual 104, 3) := by decide +kernel
theorem dX7_peek_8 : decode cX7_peek 8 = .ok (.ifCond .eq 14, 3) := by decide +kernel
theorem dX7_peek_11 : decode cX7_peek 11 = .ok (.aload_n 0, 1) := by decide +kernel
theorem dX7_peek_12 : decode cX7_peek 12 = .ok (.getfield 19, 3) := by decide +kernel
theorem dX7_peek_15 : decode cX7_peek 15 = .ok (.iload_n 1, 1) := by decide +kernel
theorem dX7_peek_16 : decode cX7_peek 16 = .ok (.invokevirtual 108, 3) := by decide +kernel
theorem dX7_peek_19 : decode cX7_peek 19 = .ok (.goto 5, 3) := by decide +kernel
theorem dX7_peek_22 : decode cX7_peek 22 = .ok (.bipush (-2), 2) := by decide +kernel
theorem dX7_peek_24 : decode cX7_peek 24 = .ok (.ireturn, 1) := by decide +kernel
theorem dX7_poke_0 : decode cX7_poke 0 = .ok (.aload_n 0, 1) := by decide +kernel
theorem dX7_poke_1 : decode cX7_poke 1 = .ok (.getfield 19, 3) := by decide +kernel
theorem dX7_poke_4 : decode cX7_poke 4 = .ok (.iload_n 1, 1) := by decide +kernel
theorem dX7_poke_5 : decode cX7_poke 5 = .ok (.invokevirtual 104, 3) := by decide +kernel
theorem dX7_poke_8 : decode cX7_poke 8 = .ok (.ifCond .ne 6, 3) := by decide +kernel
theorem dX7_poke_11 : decode cX7_poke 11 = .ok (.bipush (-2), 2) := by decide +kernel
theorem dX7_poke_13 : decode cX7_poke 13 = .ok (.ireturn, 1) := by decide +kernel
theorem dX7_poke_14 : decode cX7_poke 14 = .ok (.aload_n 0, 1) := by decide +kernel
theorem dX7_poke_15 : decode cX7_poke 15 = .ok (.getfield 19, 3) := by decide +kernel
theorem dX7_poke_18 : decode cX7_poke 18 = .ok (.iload_n 1, 1) := by decide +kernel
theorem dX7_poke_19 : decode cX7_poke 19 = .ok (.invokevirtual 108, 3) := by decide +kernel
theorem dX7_poke_22 : decode cX7_poke 22 = .ok (.istore_n 3, 1) := by decide +kernel
theorem dX7_poke_23 : decode cX7_poke 23 = .ok (.aload_n 0, 1) := by decide +kernel
theorem dX7_poke_24 : decode cX7_poke 24 = .ok (.getfield 19, 3) := by decide +kernel
theorem dX7_poke_27 : decode cX7_poke 27 = .ok (.iload_n 1, 1) := by decide +kernel
theorem dX7_poke_28 : decode cX7_poke 28 = .ok (.iload_n 2, 1) := by decide +kernel
theorem dX7_poke_29 : decode cX7_poke 29 = .ok (.invokevirtual 92, 3) := by decide +kernel
theorem dX7_poke_32 : decode cX7_poke 32 = .ok (.iload_n 3, 1) := by decide +kernel
theorem dX7_poke_33 : decode cX7_poke 33 = .ok (.ireturn, 1) := by decide +kernel
theorem dX7_strict_0 : decode cX7_strict 0 = .ok (.aload_n 0, 1) := by decide +kernel
theorem dX7_strict_1 : decode cX7_strict 1 = .ok (.getfield 84, 3) := by decide +kernel
theorem dX7_strict_4 : decode cX7_strict 4 = .ok (.istore_n 2, 1) := by decide +kernel
theorem dX7_strict_5 : decode cX7_strict 5 = .ok (.aload_n 0, 1) := by decide +kernel
theorem dX7_strict_6 : decode cX7_strict 6 = .ok (.iload_n 1, 1) := by decide +kernel
theorem dX7_strict_7 : decode cX7_strict 7 = .ok (.putfield 84, 3) := by decide +kernel
theorem dX7_strict_10 : decode cX7_strict 10 = .ok (.iload_n 2, 1) := by decide +kernel
theorem dX7_strict_11 : decode cX7_strict 11 = .ok (.ireturn, 1) := by decide +kernel
theorem dX7_parent_0 : decode cX7_parent 0 = .ok (.aload_n 0, 1) := by decide +kernel
theorem dX7_parent_1 : decode cX7_parent 1 = .ok (.iload_n 1, 1) := by decide +kernel
theorem dX7_parent_2 : decode cX7_parent 2 = .ok (.iconst 0, 1) := by decide +kernel
theorem dX7_parent_3 : decode cX7_parent 3 = .ok (.invokevirtual 112, 3) := by decide +kernel
theorem dX7_parent_6 : decode cX7_parent 6 = .ok (.ireturn, 1) := by decide +kernel
theorem dX7_child_0 : decode cX7_child 0 = .ok (.aload_n 0, 1) := by decide +kernel
theorem dX7_child_1 : decode cX7_child 1 = .ok (.iload_n 1, 1) := by decide +kernel
theorem dX7_child_2 : decode cX7_child 2 = .ok (.iconst 2, 1) := by decide +kernel
theorem dX7_child_3 : decode cX7_child 3 = .ok (.invokevirtual 112, 3) := by decide +kernel
theorem dX7_child_6 : decode cX7_child 6 = .ok (.ireturn, 1) := by decide +kernel
theorem dX7_sibling_0 : decode cX7_sibling 0 = .ok (.aload_n 0, 1) := by decide +kernel
theorem dX7_sibling_1 : decode cX7_sibling 1 = .ok (.iload_n 1, 1) := by decide +kernel
theorem dX7_sibling_2 : decode cX7_sibling 2 = .ok (.iconst 1, 1) := by decide +kernel
theorem dX7_sibling_3 : decode cX7_sibling 3 = .ok (.invokevirtual 112, 3) := by decide +kernel
theorem dX7_sibling_6 : decode cX7_sibling 6 = .ok (.ireturn, 1) := by decide +kernel
theorem dX7_move_0 : decode cX7_move 0 = .ok (.aload_n 0, 1) := by decide +kernel
theorem dX7_move_1 : decode cX7_move 1 = .ok (.getfield 34, 3) := by decide +kernel
theorem dX7_move_4 : decode cX7_move 4 = .ok (.iload_n 1, 1) := by decide +kernel
theorem dX7_move_5 : decode cX7_move 5 = .ok (.invokevirtual 115, 3) := by decide +kernel
theorem dX7_move_8 : decode cX7_move 8 = .ok (.ifCond .eq 14, 3) := by decide +kernel
theorem dX7_move_11 : decode cX7_move 11 = .ok (.aload_n 0, 1) := by decide +kernel
theorem dX7_move_12 : decode cX7_move 12 = .ok (.getfield 34, 3) := by decide +kernel
theorem dX7_move_15 : decode cX7_move 15 = .ok (.iload_n 2, 1) := by decide +kernel
theorem dX7_move_16 : decode cX7_move 16 = .ok (.invokevirtual 115, 3) := by decide +kernel
theorem dX7_move_19 : decode cX7_move 19 = .ok (.ifCond .ne 5, 3) := by decide +kernel
theorem dX7_move_22 : decode cX7_move 22 = .ok (.iconst (-1), 1) := by decide +kernel
theorem dX7_move_23 : decode cX7_move 23 = .ok (.ireturn, 1) := by decide +kernel
theorem dX7_move_24 : decode cX7_move 24 = .ok (.aload_n 0, 1) := by decide +kernel
theorem dX7_move_25 : decode cX7_move 25 = .ok (.getfield 84, 3) := by decide +kernel
theorem dX7_move_28 : decode cX7_move 28 = .ok (.ifCond .eq 20, 3) := by decide +kernel
theorem dX7_move_31 : decode cX7_move 31 = .ok (.aload_n 0, 1) := by decide +kernel
theorem dX7_move_32 : decode cX7_move 32 = .ok (.getfield 34, 3) := by decide +kernel
theorem dX7_move_35 : decode cX7_move 35 = .ok (.iload_n 2, 1) := by decide +kernel
theorem dX7_move_36 : decode cX7_move 36 = .ok (.iconst 0, 1) := by decide +kernel
theorem dX7_move_37 : decode cX7_move 37 = .ok (.iload_n 1, 1) := by decide +kernel
theorem dX7_move_38 : decode cX7_move 38 = .ok (.invokevirtual 116, 3) := by decide +kernel
theorem dX7_move_41 : decode cX7_move 41 = .ok (.ifCond .eq 7, 3) := by decide +kernel
theorem dX7_move_44 : decode cX7_move 44 = .ok (.iconst 1, 1) := by decide +kernel
theorem dX7_move_45 : decode cX7_move 45 = .ok (.goto 4, 3) := by decide +kernel
theorem dX7_move_48 : decode cX7_move 48 = .ok (.iconst 0, 1) := by decide +kernel
theorem dX7_move_49 : decode cX7_move 49 = .ok (.istore_n 3, 1) := by decide +kernel
theorem dX7_move_50 : decode cX7_move 50 = .ok (.iload_n 3, 1) := by decide +kernel
theorem dX7_move_51 : decode cX7_move 51 = .ok (.ifCond .ne 14, 3) := by decide +kernel
theorem dX7_move_54 : decode cX7_move 54 = .ok (.aload_n 0, 1) := by decide +kernel
theorem dX7_move_55 : decode cX7_move 55 = .ok (.getfield 43, 3) := by decide +kernel
theorem dX7_move_58 : decode cX7_move 58 = .ok (.iload_n 1, 1) := by decide +kernel
theorem dX7_move_59 : decode cX7_move 59 = .ok (.invokevirtual 120, 3) := by decide +kernel
theorem dX7_move_62 : decode cX7_move 62 = .ok (.ifCond .ne 6, 3) := by decide +kernel
theorem dX7_move_65 : decode cX7_move 65 = .ok (.bipush (-3), 2) := by decide +kernel
theorem dX7_move_67 : decode cX7_move 67 = .ok (.ireturn, 1) := by decide +kernel
theorem dX7_move_68 : decode cX7_move 68 = .ok (.aload_n 0, 1) := by decide +kernel
theorem dX7_move_69 : decode cX7_move 69 = .ok (.getfield 43, 3) := by decide +kernel
theorem dX7_move_72 : decode cX7_move 72 = .ok (.iload_n 1, 1) := by decide +kernel
theorem dX7_move_73 : decode cX7_move 73 = .ok (.invokevirtual 123, 3) := by decide +kernel
theorem dX7_move_76 : decode cX7_move 76 = .ok (.aload_n 0, 1) := by decide +kernel
theorem dX7_move_77 : decode cX7_move 77 = .ok (.getfield 43, 3) := by decide +kernel
theorem dX7_move_80 : decode cX7_move 80 = .ok (.iload_n 1, 1) := by decide +kernel
theorem dX7_move_81 : decode cX7_move 81 = .ok (.iload_n 2, 1) := by decide +kernel
theorem dX7_move_82 : decode cX7_move 82 = .ok (.invokevirtual 126, 3) := by decide +kernel
theorem dX7_move_85 : decode cX7_move 85 = .ok (.iconst 1, 1) := by decide +kernel
theorem dX7_move_86 : decode cX7_move 86 = .ok (.ireturn, 1) := by decide +kernel
theorem dX7_remove_0 : decode cX7_remove 0 = .ok (.aload_n 0, 1) := by decide +kernel
theorem dX7_remove_1 : decode cX7_remove 1 = .ok (.getfield 34, 3) := by decide +kernel
theorem dX7_remove_4 : decode cX7_remove 4 = .ok (.iload_n 1, 1) := by decide +kernel
theorem dX7_remove_5 : decode cX7_remove 5 = .ok (.invokevirtual 115, 3) := by decide +kernel
theorem dX7_remove_8 : decode cX7_remove 8 = .ok (.ifCond .ne 5, 3) := by decide +kernel
theorem dX7_remove_11 : decode cX7_remove 11 = .ok (.iconst (-1), 1) := by decide +kernel
theorem dX7_remove_12 : decode cX7_remove 12 = .ok (.ireturn, 1) := by decide +kernel
theorem dX7_remove_13 : decode cX7_remove 13 = .ok (.aload_n 0, 1) := by decide +kernel
theorem dX7_remove_14 : decode cX7_remove 14 = .ok (.getfield 43, 3) := by decide +kernel
theorem dX7_remove_17 : decode cX7_remove 17 = .ok (.iload_n 1, 1) := by decide +kernel
theorem dX7_remove_18 : decode cX7_remove 18 = .ok (.invokevirtual 120, 3) := by decide +kernel
theorem dX7_remove_21 : decode cX7_remove 21 = .ok (.ifCond .ne 6, 3) := by decide +kernel
theorem dX7_remove_24 : decode cX7_remove 24 = .ok (.bipush (-3), 2) := by decide +kernel
theorem dX7_remove_26 : decode cX7_remove 26 = .ok (.ireturn, 1) := by decide +kernel
theorem dX7_remove_27 : decode cX7_remove 27 = .ok (.aload_n 0, 1) := by decide +kernel
theorem dX7_remove_28 : decode cX7_remove 28 = .ok (.getfield 43, 3) := by decide +kernel
theorem dX7_remove_31 : decode cX7_remove 31 = .ok (.iload_n 1, 1) := by decide +kernel
theorem dX7_remove_32 : decode cX7_remove 32 = .ok (.invokevirtual 123, 3) := by decide +kernel
theorem dX7_remove_35 : decode cX7_remove 35 = .ok (.iconst 1, 1) := by decide +kernel
theorem dX7_remove_36 : decode cX7_remove 36 = .ok (.ireturn, 1) := by decide +kernel
theorem dX7_attribute_0 : decode cX7_attribute 0 = .ok (.aload_n 0, 1) := by decide +kernel
theorem dX7_attribute_1 : decode cX7_attribute 1 = .ok (.getfield 34, 3) := by decide +kernel
theorem dX7_attribute_4 : decode cX7_attribute 4 = .ok (.iload_n 1, 1) := by decide +kernel
theorem dX7_attribute_5 : decode cX7_attribute 5 = .ok (.invokevirtual 115, 3) := by decide +kernel
theorem dX7_attribute_8 : decode cX7_attribute 8 = .ok (.ifCond .ne 5, 3) := by decide +kernel
theorem dX7_attribute_11 : decode cX7_attribute 11 = .ok (.iconst (-1), 1) := by decide +kernel
theorem dX7_attribute_12 : decode cX7_attribute 12 = .ok (.ireturn, 1) := by decide +kernel
theorem dX7_attribute_13 : decode cX7_attribute 13 = .ok (.iload_n 2, 1) := by decide +kernel
theorem dX7_attribute_14 : decode cX7_attribute 14 = .ok (.ifCond .lt 23, 3) := by decide +kernel
theorem dX7_attribute_17 : decode cX7_attribute 17 = .ok (.iload_n 2, 1) := by decide +kernel
theorem dX7_attribute_18 : decode cX7_attribute 18 = .ok (.aload_n 0, 1) := by decide +kernel
theorem dX7_attribute_19 : decode cX7_attribute 19 = .ok (.getfield 34, 3) := by decide +kernel
theorem dX7_attribute_22 : decode cX7_attribute 22 = .ok (.invokevirtual 129, 3) := by decide +kernel
theorem dX7_attribute_25 : decode cX7_attribute 25 = .ok (.if_icmp .ge 12, 3) := by decide +kernel
theorem dX7_attribute_28 : decode cX7_attribute 28 = .ok (.iload_n 3, 1) := by decide +kernel
theorem dX7_attribute_29 : decode cX7_attribute 29 = .ok (.ifCond .lt 8, 3) := by decide +kernel
theorem dX7_attribute_32 : decode cX7_attribute 32 = .ok (.iload_n 3, 1) := by decide +kernel
theorem dX7_attribute_33 : decode cX7_attribute 33 = .ok (.iconst 2, 1) := by decide +kernel
theorem dX7_attribute_34 : decode cX7_attribute 34 = .ok (.if_icmp .le 6, 3) := by decide +kernel
theorem dX7_attribute_37 : decode cX7_attribute 37 = .ok (.bipush (-2), 2) := by decide +kernel
theorem dX7_attribute_39 : decode cX7_attribute 39 = .ok (.ireturn, 1) := by decide +kernel
theorem dX7_attribute_40 : decode cX7_attribute 40 = .ok (.aload_n 0, 1) := by decide +kernel
theorem dX7_attribute_41 : decode cX7_attribute 41 = .ok (.getfield 34, 3) := by decide +kernel
theorem dX7_attribute_44 : decode cX7_attribute 44 = .ok (.iload_n 1, 1) := by decide +kernel
theorem dX7_attribute_45 : decode cX7_attribute 45 = .ok (.invokevirtual 132, 3) := by decide +kernel
theorem dX7_attribute_48 : decode cX7_attribute 48 = .ok (.iload_n 2, 1) := by decide +kernel
theorem dX7_attribute_49 : decode cX7_attribute 49 = .ok (.bipush 8, 2) := by decide +kernel
theorem dX7_attribute_51 : decode cX7_attribute 51 = .ok (.idiv, 1) := by decide +kernel
theorem dX7_attribute_52 : decode cX7_attribute 52 = .ok (.iadd, 1) := by decide +kernel
theorem dX7_attribute_53 : decode cX7_attribute 53 = .ok (.istore 4, 2) := by decide +kernel
theorem dX7_attribute_55 : decode cX7_attribute 55 = .ok (.iconst 1, 1) := by decide +kernel
theorem dX7_attribute_56 : decode cX7_attribute 56 = .ok (.bipush 7, 2) := by decide +kernel
theorem dX7_attribute_58 : decode cX7_attribute 58 = .ok (.iload_n 2, 1) := by decide +kernel
theorem dX7_attribute_59 : decode cX7_attribute 59 = .ok (.bipush 8, 2) := by decide +kernel
theorem dX7_attribute_61 : decode cX7_attribute 61 = .ok (.irem, 1) := by decide +kernel
theorem dX7_attribute_62 : decode cX7_attribute 62 = .ok (.isub, 1) := by decide +kernel
theorem dX7_attribute_63 : decode cX7_attribute 63 = .ok (.ishl, 1) := by decide +kernel
theorem dX7_attribute_64 : decode cX7_attribute 64 = .ok (.istore 5, 2) := by decide +kernel
theorem dX7_attribute_66 : decode cX7_attribute 66 = .ok (.aload_n 0, 1) := by decide +kernel
theorem dX7_attribute_67 : decode cX7_attribute 67 = .ok (.getfield 19, 3) := by decide +kernel
theorem dX7_attribute_70 : decode cX7_attribute 70 = .ok (.iload 4, 2) := by decide +kernel
theorem dX7_attribute_72 : decode cX7_attribute 72 = .ok (.invokevirtual 108, 3) := by decide +kernel
theorem dX7_attribute_75 : decode cX7_attribute 75 = .ok (.istore 6, 2) := by decide +kernel
theorem dX7_attribute_77 : decode cX7_attribute 77 = .ok (.iload_n 3, 1) := by decide +kernel
theorem dX7_attribute_78 : decode cX7_attribute 78 = .ok (.ifCond .ne 17, 3) := by decide +kernel
theorem dX7_attribute_81 : decode cX7_attribute 81 = .ok (.iload 6, 2) := by decide +kernel
theorem dX7_attribute_83 : decode cX7_attribute 83 = .ok (.iload 5, 2) := by decide +kernel
theorem dX7_attribute_85 : decode cX7_attribute 85 = .ok (.iand, 1) := by decide +kernel
theorem dX7_attribute_86 : decode cX7_attribute 86 = .ok (.ifCond .eq 7, 3) := by decide +kernel
theorem dX7_attribute_89 : decode cX7_attribute 89 = .ok (.iconst 1, 1) := by decide +kernel
theorem dX7_attribute_90 : decode cX7_attribute 90 = .ok (.goto 4, 3) := by decide +kernel
theorem dX7_attribute_93 : decode cX7_attribute 93 = .ok (.iconst 0, 1) := by decide +kernel
theorem dX7_attribute_94 : decode cX7_attribute 94 = .ok (.ireturn, 1) := by decide +kernel
theorem dX7_attribute_95 : decode cX7_attribute 95 = .ok (.aload_n 0, 1) := by decide +kernel
theorem dX7_attribute_96 : decode cX7_attribute 96 = .ok (.getfield 19, 3) := by decide +kernel
theorem dX7_attribute_99 : decode cX7_attribute 99 = .ok (.iload 4, 2) := by decide +kernel
theorem dX7_attribute_101 : decode cX7_attribute 101 = .ok (.iload_n 3, 1) := by decide +kernel
theorem dX7_attribute_102 : decode cX7_attribute 102 = .ok (.iconst 1, 1) := by decide +kernel
theorem dX7_attribute_103 : decode cX7_attribute 103 = .ok (.if_icmp .ne 11, 3) := by decide +kernel
theorem dX7_attribute_106 : decode cX7_attribute 106 = .ok (.iload 6, 2) := by decide +kernel
theorem dX7_attribute_108 : decode cX7_attribute 108 = .ok (.iload 5, 2) := by decide +kernel
theorem dX7_attribute_110 : decode cX7_attribute 110 = .ok (.ior, 1) := by decide +kernel
theorem dX7_attribute_111 : decode cX7_attribute 111 = .ok (.goto 10, 3) := by decide +kernel
theorem dX7_attribute_114 : decode cX7_attribute 114 = .ok (.iload 6, 2) := by decide +kernel
theorem dX7_attribute_116 : decode cX7_attribute 116 = .ok (.iload 5, 2) := by decide +kernel
theorem dX7_attribute_118 : decode cX7_attribute 118 = .ok (.iconst (-1), 1) := by decide +kernel
theorem dX7_attribute_119 : decode cX7_attribute 119 = .ok (.ixor, 1) := by decide +kernel
theorem dX7_attribute_120 : decode cX7_attribute 120 = .ok (.iand, 1) := by decide +kernel
theorem dX7_attribute_121 : decode cX7_attribute 121 = .ok (.invokevirtual 92, 3) := by decide +kernel
theorem dX7_attribute_124 : decode cX7_attribute 124 = .ok (.iconst 1, 1) := by decide +kernel
theorem dX7_attribute_125 : decode cX7_attribute 125 = .ok (.ireturn, 1) := by decide +kernel
theorem dX7_property_0 : decode cX7_property 0 = .ok (.aload_n 0, 1) := by decide +kernel
theorem dX7_property_1 : decode cX7_property 1 = .ok (.iload_n 1, 1) := by decide +kernel
theorem dX7_property_2 : decode cX7_property 2 = .ok (.iload_n 2, 1) := by decide +kernel
theorem dX7_property_3 : decode cX7_property 3 = .ok (.iconst 1, 1) := by decide +kernel
theorem dX7_property_4 : decode cX7_property 4 = .ok (.invokevirtual 135, 3) := by decide +kernel
theorem dX7_property_7 : decode cX7_property 7 = .ok (.istore_n 3, 1) := by decide +kernel
theorem dX7_property_8 : decode cX7_property 8 = .ok (.iload_n 3, 1) := by decide +kernel
theorem dX7_property_9 : decode cX7_property 9 = .ok (.ifCond .eq 5, 3) := by decide +kernel
theorem dX7_property_12 : decode cX7_property 12 = .ok (.iload_n 3, 1) := by decide +kernel
theorem dX7_property_13 : decode cX7_property 13 = .ok (.ireturn, 1) := by decide +kernel
theorem dX7_property_14 : decode cX7_property 14 = .ok (.aload_n 0, 1) := by decide +kernel
theorem dX7_property_15 : decode cX7_property 15 = .ok (.iload_n 1, 1) := by decide +kernel
theorem dX7_property_16 : decode cX7_property 16 = .ok (.iload_n 2, 1) := by decide +kernel
theorem dX7_property_17 : decode cX7_property 17 = .ok (.invokevirtual 139, 3) := by decide +kernel
theorem dX7_property_20 : decode cX7_property 20 = .ok (.ifCond .ne 15, 3) := by decide +kernel
theorem dX7_property_23 : decode cX7_property 23 = .ok (.aload_n 0, 1) := by decide +kernel
theorem dX7_property_24 : decode cX7_property 24 = .ok (.getfield 19, 3) := by decide +kernel
theorem dX7_property_27 : decode cX7_property 27 = .ok (.iload_n 2, 1) := by decide +kernel
theorem dX7_property_28 : decode cX7_property 28 = .ok (.invokestatic 143, 3) := by decide +kernel
theorem dX7_property_31 : decode cX7_property 31 = .ok (.invokevirtual 146, 3) := by decide +kernel
theorem dX7_property_34 : decode cX7_property 34 = .ok (.ireturn, 1) := by decide +kernel
theorem dX7_property_35 : decode cX7_property 35 = .ok (.aload_n 0, 1) := by decide +kernel
theorem dX7_property_36 : decode cX7_property 36 = .ok (.getfield 52, 3) := by decide +kernel
theorem dX7_property_39 : decode cX7_property 39 = .ok (.invokevirtual 149, 3) := by decide +kernel
theorem dX7_property_42 : decode cX7_property 42 = .ok (.lookupswitch 56 #[(1, 26), (2, 41)], 26) := by decide +kernel
theorem dX7_property_68 : decode cX7_property 68 = .ok (.aload_n 0, 1) := by decide +kernel
theorem dX7_property_69 : decode cX7_property 69 = .ok (.getfield 19, 3) := by decide +kernel
theorem dX7_property_72 : decode cX7_property 72 = .ok (.aload_n 0, 1) := by decide +kernel
theorem dX7_property_73 : decode cX7_property 73 = .ok (.getfield 52, 3) := by decide +kernel
theorem dX7_property_76 : decode cX7_property 76 = .ok (.invokevirtual 150, 3) := by decide +kernel
theorem dX7_property_79 : decode cX7_property 79 = .ok (.invokevirtual 108, 3) := by decide +kernel
theorem dX7_property_82 : decode cX7_property 82 = .ok (.ireturn, 1) := by decide +kernel
theorem dX7_property_83 : decode cX7_property 83 = .ok (.aload_n 0, 1) := by decide +kernel
theorem dX7_property_84 : decode cX7_property 84 = .ok (.getfield 19, 3) := by decide +kernel
theorem dX7_property_87 : decode cX7_property 87 = .ok (.aload_n 0, 1) := by decide +kernel
theorem dX7_property_88 : decode cX7_property 88 = .ok (.getfield 52, 3) := by decide +kernel
theorem dX7_property_91 : decode cX7_property 91 = .ok (.invokevirtual 150, 3) := by decide +kernel
theorem dX7_property_94 : decode cX7_property 94 = .ok (.invokevirtual 146, 3) := by decide +kernel
theorem dX7_property_97 : decode cX7_property 97 = .ok (.ireturn, 1) := by decide +kernel
theorem dX7_property_98 : decode cX7_property 98 = .ok (.bipush (-3), 2) := by decide +kernel
theorem dX7_property_100 : decode cX7_property 100 = .ok (.ireturn, 1) := by decide +kernel
theorem dX7_put_0 : decode cX7_put 0 = .ok (.aload_n 0, 1) := by decide +kernel
theorem dX7_put_1 : decode cX7_put 1 = .ok (.iload_n 1, 1) := by decide +kernel
theorem dX7_put_2 : decode cX7_put 2 = .ok (.iload_n 2, 1) := by decide +kernel
theorem dX7_put_3 : decode cX7_put 3 = .ok (.iconst 1, 1) := by decide +kernel
theorem dX7_put_4 : decode cX7_put 4 = .ok (.invokevirtual 135, 3) := by decide +kernel
theorem dX7_put_7 : decode cX7_put 7 = .ok (.istore 4, 2) := by decide +kernel
theorem dX7_put_9 : decode cX7_put 9 = .ok (.iload 4, 2) := by decide +kernel
theorem dX7_put_11 : decode cX7_put 11 = .ok (.ifCond .eq 6, 3) := by decide +kernel
theorem dX7_put_14 : decode cX7_put 14 = .ok (.iload 4, 2) := by decide +kernel
theorem dX7_put_16 : decode cX7_put 16 = .ok (.ireturn, 1) := by decide +kernel
theorem dX7_put_17 : decode cX7_put 17 = .ok (.aload_n 0, 1) := by decide +kernel
theorem dX7_put_18 : decode cX7_put 18 = .ok (.iload_n 1, 1) := by decide +kernel
theorem dX7_put_19 : decode cX7_put 19 = .ok (.iload_n 2, 1) := by decide +kernel
theorem dX7_put_20 : decode cX7_put 20 = .ok (.invokevirtual 139, 3) := by decide +kernel
theorem dX7_put_23 : decode cX7_put 23 = .ok (.ifCond .ne 6, 3) := by decide +kernel
theorem dX7_put_26 : decode cX7_put 26 = .ok (.bipush (-3), 2) := by decide +kernel
theorem dX7_put_28 : decode cX7_put 28 = .ok (.ireturn, 1) := by decide +kernel
theorem dX7_put_29 : decode cX7_put 29 = .ok (.aload_n 0, 1) := by decide +kernel
theorem dX7_put_30 : decode cX7_put 30 = .ok (.getfield 52, 3) := by decide +kernel
theorem dX7_put_33 : decode cX7_put 33 = .ok (.invokevirtual 149, 3) := by decide +kernel
theorem dX7_put_36 : decode cX7_put 36 = .ok (.lookupswitch 62 #[(1, 28), (2, 45)], 28) := by decide +kernel
theorem dX7_put_64 : decode cX7_put 64 = .ok (.aload_n 0, 1) := by decide +kernel
theorem dX7_put_65 : decode cX7_put 65 = .ok (.getfield 19, 3) := by decide +kernel
theorem dX7_put_68 : decode cX7_put 68 = .ok (.aload_n 0, 1) := by decide +kernel
theorem dX7_put_69 : decode cX7_put 69 = .ok (.getfield 52, 3) := by decide +kernel
theorem dX7_put_72 : decode cX7_put 72 = .ok (.invokevirtual 150, 3) := by decide +kernel
theorem dX7_put_75 : decode cX7_put 75 = .ok (.iload_n 3, 1) := by decide +kernel
theorem dX7_put_76 : decode cX7_put 76 = .ok (.invokevirtual 92, 3) := by decide +kernel
theorem dX7_put_79 : decode cX7_put 79 = .ok (.iconst 1, 1) := by decide +kernel
theorem dX7_put_80 : decode cX7_put 80 = .ok (.ireturn, 1) := by decide +kernel
theorem dX7_put_81 : decode cX7_put 81 = .ok (.aload_n 0, 1) := by decide +kernel
theorem dX7_put_82 : decode cX7_put 82 = .ok (.getfield 19, 3) := by decide +kernel
theorem dX7_put_85 : decode cX7_put 85 = .ok (.aload_n 0, 1) := by decide +kernel
theorem dX7_put_86 : decode cX7_put 86 = .ok (.getfield 52, 3) := by decide +kernel
theorem dX7_put_89 : decode cX7_put 89 = .ok (.invokevirtual 150, 3) := by decide +kernel
theorem dX7_put_92 : decode cX7_put 92 = .ok (.iload_n 3, 1) := by decide +kernel
theorem dX7_put_93 : decode cX7_put 93 = .ok (.invokevirtual 153, 3) := by decide +kernel
theorem dX7_put_96 : decode cX7_put 96 = .ok (.iconst 1, 1) := by decide +kernel
theorem dX7_put_97 : decode cX7_put 97 = .ok (.ireturn, 1) := by decide +kernel
theorem dX7_put_98 : decode cX7_put 98 = .ok (.bipush (-3), 2) := by decide +kernel
theorem dX7_put_100 : decode cX7_put 100 = .ok (.ireturn, 1) := by decide +kernel
theorem dX7_next_0 : decode cX7_next 0 = .ok (.aload_n 0, 1) := by decide +kernel
theorem dX7_next_1 : decode cX7_next 1 = .ok (.iload_n 1, 1) := by decide +kernel
theorem dX7_next_2 : decode cX7_next 2 = .ok (.iload_n 2, 1) := by decide +kernel
theorem dX7_next_3 : decode cX7_next 3 = .ok (.iconst 0, 1) := by decide +kernel
theorem dX7_next_4 : decode cX7_next 4 = .ok (.invokevirtual 135, 3) := by decide +kernel
theorem dX7_next_7 : decode cX7_next 7 = .ok (.istore_n 3, 1) := by decide +kernel
theorem dX7_next_8 : decode cX7_next 8 = .ok (.iload_n 3, 1) := by decide +kernel
theorem dX7_next_9 : decode cX7_next 9 = .ok (.ifCond .eq 5, 3) := by decide +kernel
theorem dX7_next_12 : decode cX7_next 12 = .ok (.iload_n 3, 1) := by decide +kernel
theorem dX7_next_13 : decode cX7_next 13 = .ok (.ireturn, 1) := by decide +kernel
theorem dX7_next_14 : decode cX7_next 14 = .ok (.aload_n 0, 1) := by decide +kernel
theorem dX7_next_15 : decode cX7_next 15 = .ok (.getfield 52, 3) := by decide +kernel
theorem dX7_next_18 : decode cX7_next 18 = .ok (.aload_n 0, 1) := by decide +kernel
theorem dX7_next_19 : decode cX7_next 19 = .ok (.getfield 34, 3) := by decide +kernel
theorem dX7_next_22 : decode cX7_next 22 = .ok (.iload_n 1, 1) := by decide +kernel
theorem dX7_next_23 : decode cX7_next 23 = .ok (.invokevirtual 156, 3) := by decide +kernel
theorem dX7_next_26 : decode cX7_next 26 = .ok (.invokevirtual 159, 3) := by decide +kernel
theorem dX7_next_29 : decode cX7_next 29 = .ok (.iload_n 2, 1) := by decide +kernel
theorem dX7_next_30 : decode cX7_next 30 = .ok (.ifCond .eq 17, 3) := by decide +kernel
theorem dX7_next_33 : decode cX7_next 33 = .ok (.aload_n 0, 1) := by decide +kernel
theorem dX7_next_34 : decode cX7_next 34 = .ok (.getfield 52, 3) := by decide +kernel
theorem dX7_next_37 : decode cX7_next 37 = .ok (.iload_n 2, 1) := by decide +kernel
theorem dX7_next_38 : decode cX7_next 38 = .ok (.invokevirtual 162, 3) := by decide +kernel
theorem dX7_next_41 : decode cX7_next 41 = .ok (.ifCond .ne 6, 3) := by decide +kernel
theorem dX7_next_44 : decode cX7_next 44 = .ok (.bipush (-3), 2) := by decide +kernel
theorem dX7_next_46 : decode cX7_next 46 = .ok (.ireturn, 1) := by decide +kernel
theorem dX7_next_47 : decode cX7_next 47 = .ok (.aload_n 0, 1) := by decide +kernel
theorem dX7_next_48 : decode cX7_next 48 = .ok (.getfield 52, 3) := by decide +kernel
theorem dX7_next_51 : decode cX7_next 51 = .ok (.invokevirtual 165, 3) := by decide +kernel
theorem dX7_next_54 : decode cX7_next 54 = .ok (.ifCond .eq 13, 3) := by decide +kernel
theorem dX7_next_57 : decode cX7_next 57 = .ok (.aload_n 0, 1) := by decide +kernel
theorem dX7_next_58 : decode cX7_next 58 = .ok (.getfield 52, 3) := by decide +kernel
theorem dX7_next_61 : decode cX7_next 61 = .ok (.invokevirtual 168, 3) := by decide +kernel
theorem dX7_next_64 : decode cX7_next 64 = .ok (.goto 4, 3) := by decide +kernel
theorem dX7_next_67 : decode cX7_next 67 = .ok (.iconst 0, 1) := by decide +kernel
theorem dX7_next_68 : decode cX7_next 68 = .ok (.ireturn, 1) := by decide +kernel
theorem dX7_address_0 : decode cX7_address 0 = .ok (.aload_n 0, 1) := by decide +kernel
theorem dX7_address_1 : decode cX7_address 1 = .ok (.iload_n 1, 1) := by decide +kernel
theorem dX7_address_2 : decode cX7_address 2 = .ok (.iload_n 2, 1) := by decide +kernel
theorem dX7_address_3 : decode cX7_address 3 = .ok (.iconst 1, 1) := by decide +kernel
theorem dX7_address_4 : decode cX7_address 4 = .ok (.invokevirtual 135, 3) := by decide +kernel
theorem dX7_address_7 : decode cX7_address 7 = .ok (.istore_n 3, 1) := by decide +kernel
theorem dX7_address_8 : decode cX7_address 8 = .ok (.iload_n 3, 1) := by decide +kernel
theorem dX7_address_9 : decode cX7_address 9 = .ok (.ifCond .eq 5, 3) := by decide +kernel
theorem dX7_address_12 : decode cX7_address 12 = .ok (.iload_n 3, 1) := by decide +kernel
theorem dX7_address_13 : decode cX7_address 13 = .ok (.ireturn, 1) := by decide +kernel
theorem dX7_address_14 : decode cX7_address 14 = .ok (.aload_n 0, 1) := by decide +kernel
theorem dX7_address_15 : decode cX7_address 15 = .ok (.iload_n 1, 1) := by decide +kernel
theorem dX7_address_16 : decode cX7_address 16 = .ok (.iload_n 2, 1) := by decide +kernel
theorem dX7_address_17 : decode cX7_address 17 = .ok (.invokevirtual 139, 3) := by decide +kernel
theorem dX7_address_20 : decode cX7_address 20 = .ok (.ifCond .eq 13, 3) := by decide +kernel
theorem dX7_address_23 : decode cX7_address 23 = .ok (.aload_n 0, 1) := by decide +kernel
theorem dX7_address_24 : decode cX7_address 24 = .ok (.getfield 52, 3) := by decide +kernel
theorem dX7_address_27 : decode cX7_address 27 = .ok (.invokevirtual 150, 3) := by decide +kernel
theorem dX7_address_30 : decode cX7_address 30 = .ok (.goto 4, 3) := by decide +kernel
theorem dX7_address_33 : decode cX7_address 33 = .ok (.iconst 0, 1) := by decide +kernel
theorem dX7_address_34 : decode cX7_address 34 = .ok (.ireturn, 1) := by decide +kernel
theorem dX7_length_0 : decode cX7_length 0 = .ok (.iload_n 1, 1) := by decide +kernel
theorem dX7_length_1 : decode cX7_length 1 = .ok (.ifCond .lt 10, 3) := by decide +kernel
theorem dX7_length_4 : decode cX7_length 4 = .ok (.iload_n 1, 1) := by decide +kernel
theorem dX7_length_5 : decode cX7_length 5 = .ok (.sipush 4096, 3) := by decide +kernel
theorem dX7_length_8 : decode cX7_length 8 = .ok (.if_icmp .le 6, 3) := by decide +kernel
theorem dX7_length_11 : decode cX7_length 11 = .ok (.bipush (-2), 2) := by decide +kernel
theorem dX7_length_13 : decode cX7_length 13 = .ok (.ireturn, 1) := by decide +kernel
theorem dX7_length_14 : decode cX7_length 14 = .ok (.iload_n 1, 1) := by decide +kernel
theorem dX7_length_15 : decode cX7_length 15 = .ok (.ifCond .ne 7, 3) := by decide +kernel
theorem dX7_length_18 : decode cX7_length 18 = .ok (.iconst 0, 1) := by decide +kernel
theorem dX7_length_19 : decode cX7_length 19 = .ok (.goto 20, 3) := by decide +kernel
theorem dX7_length_22 : decode cX7_length 22 = .ok (.aload_n 0, 1) := by decide +kernel
theorem dX7_length_23 : decode cX7_length 23 = .ok (.getfield 52, 3) := by decide +kernel
theorem dX7_length_26 : decode cX7_length 26 = .ok (.aload_n 0, 1) := by decide +kernel
theorem dX7_length_27 : decode cX7_length 27 = .ok (.getfield 19, 3) := by decide +kernel
theorem dX7_length_30 : decode cX7_length 30 = .ok (.iload_n 1, 1) := by decide +kernel
theorem dX7_length_31 : decode cX7_length 31 = .ok (.iconst 1, 1) := by decide +kernel
theorem dX7_length_32 : decode cX7_length 32 = .ok (.isub, 1) := by decide +kernel
theorem dX7_length_33 : decode cX7_length 33 = .ok (.invokevirtual 108, 3) := by decide +kernel
theorem dX7_length_36 : decode cX7_length 36 = .ok (.invokevirtual 171, 3) := by decide +kernel
theorem dX7_length_39 : decode cX7_length 39 = .ok (.ireturn, 1) := by decide +kernel
theorem dX7_fallback_0 : decode cX7_fallback 0 = .ok (.iload_n 1, 1) := by decide +kernel
theorem dX7_fallback_1 : decode cX7_fallback 1 = .ok (.iconst 1, 1) := by decide +kernel
theorem dX7_fallback_2 : decode cX7_fallback 2 = .ok (.if_icmp .lt 11, 3) := by decide +kernel
theorem dX7_fallback_5 : decode cX7_fallback 5 = .ok (.iload_n 1, 1) := by decide +kernel
theorem dX7_fallback_6 : decode cX7_fallback 6 = .ok (.aload_n 0, 1) := by decide +kernel
theorem dX7_fallback_7 : decode cX7_fallback 7 = .ok (.getfield 25, 3) := by decide +kernel
theorem dX7_fallback_10 : decode cX7_fallback 10 = .ok (.if_icmp .le 6, 3) := by decide +kernel
theorem dX7_fallback_13 : decode cX7_fallback 13 = .ok (.bipush (-2), 2) := by decide +kernel
theorem dX7_fallback_15 : decode cX7_fallback 15 = .ok (.ireturn, 1) := by decide +kernel
theorem dX7_fallback_16 : decode cX7_fallback 16 = .ok (.aload_n 0, 1) := by decide +kernel
theorem dX7_fallback_17 : decode cX7_fallback 17 = .ok (.getfield 19, 3) := by decide +kernel
theorem dX7_fallback_20 : decode cX7_fallback 20 = .ok (.iload_n 1, 1) := by decide +kernel
theorem dX7_fallback_21 : decode cX7_fallback 21 = .ok (.invokestatic 143, 3) := by decide +kernel
theorem dX7_fallback_24 : decode cX7_fallback 24 = .ok (.invokevirtual 146, 3) := by decide +kernel
theorem dX7_fallback_27 : decode cX7_fallback 27 = .ok (.istore_n 3, 1) := by decide +kernel
theorem dX7_fallback_28 : decode cX7_fallback 28 = .ok (.aload_n 0, 1) := by decide +kernel
theorem dX7_fallback_29 : decode cX7_fallback 29 = .ok (.getfield 19, 3) := by decide +kernel
theorem dX7_fallback_32 : decode cX7_fallback 32 = .ok (.iload_n 1, 1) := by decide +kernel
theorem dX7_fallback_33 : decode cX7_fallback 33 = .ok (.invokestatic 143, 3) := by decide +kernel
theorem dX7_fallback_36 : decode cX7_fallback 36 = .ok (.iload_n 2, 1) := by decide +kernel
theorem dX7_fallback_37 : decode cX7_fallback 37 = .ok (.invokevirtual 153, 3) := by decide +kernel
theorem dX7_fallback_40 : decode cX7_fallback 40 = .ok (.iload_n 3, 1) := by decide +kernel
theorem dX7_fallback_41 : decode cX7_fallback 41 = .ok (.ireturn, 1) := by decide +kernel
theorem dX7_name_0 : decode cX7_name 0 = .ok (.aload_n 0, 1) := by decide +kernel
theorem dX7_name_1 : decode cX7_name 1 = .ok (.getfield 34, 3) := by decide +kernel
theorem dX7_name_4 : decode cX7_name 4 = .ok (.iload_n 1, 1) := by decide +kernel
theorem dX7_name_5 : decode cX7_name 5 = .ok (.invokevirtual 115, 3) := by decide +kernel
theorem dX7_name_8 : decode cX7_name 8 = .ok (.ifCond .ne 5, 3) := by decide +kernel
theorem dX7_name_11 : decode cX7_name 11 = .ok (.iconst (-1), 1) := by decide +kernel
theorem dX7_name_12 : decode cX7_name 12 = .ok (.ireturn, 1) := by decide +kernel
theorem dX7_name_13 : decode cX7_name 13 = .ok (.aload_n 0, 1) := by decide +kernel
theorem dX7_name_14 : decode cX7_name 14 = .ok (.getfield 61, 3) := by decide +kernel
theorem dX7_name_17 : decode cX7_name 17 = .ok (.aload_n 0, 1) := by decide +kernel
theorem dX7_name_18 : decode cX7_name 18 = .ok (.getfield 34, 3) := by decide +kernel
theorem dX7_name_21 : decode cX7_name 21 = .ok (.iload_n 1, 1) := by decide +kernel
theorem dX7_name_22 : decode cX7_name 22 = .ok (.invokevirtual 156, 3) := by decide +kernel
theorem dX7_name_25 : decode cX7_name 25 = .ok (.invokevirtual 174, 3) := by decide +kernel
theorem dX7_name_28 : decode cX7_name 28 = .ok (.istore_n 3, 1) := by decide +kernel
theorem dX7_name_29 : decode cX7_name 29 = .ok (.iload_n 2, 1) := by decide +kernel
theorem dX7_name_30 : decode cX7_name 30 = .ok (.ifCond .lt 19, 3) := by decide +kernel
theorem dX7_name_33 : decode cX7_name 33 = .ok (.iload_n 2, 1) := by decide +kernel
theorem dX7_name_34 : decode cX7_name 34 = .ok (.iload_n 3, 1) := by decide +kernel
theorem dX7_name_35 : decode cX7_name 35 = .ok (.if_icmp .ge 14, 3) := by decide +kernel
theorem dX7_name_38 : decode cX7_name 38 = .ok (.aload_n 0, 1) := by decide +kernel
theorem dX7_name_39 : decode cX7_name 39 = .ok (.getfield 61, 3) := by decide +kernel
theorem dX7_name_42 : decode cX7_name 42 = .ok (.iload_n 2, 1) := by decide +kernel
theorem dX7_name_43 : decode cX7_name 43 = .ok (.invokevirtual 177, 3) := by decide +kernel
theorem dX7_name_46 : decode cX7_name 46 = .ok (.goto 5, 3) := by decide +kernel
theorem dX7_name_49 : decode cX7_name 49 = .ok (.bipush (-2), 2) := by decide +kernel
theorem dX7_name_51 : decode cX7_name 51 = .ok (.ireturn, 1) := by decide +kernel
theorem dX7_named_0 : decode cX7_named 0 = .ok (.aload_n 0, 1) := by decide +kernel
theorem dX7_named_1 : decode cX7_named 1 = .ok (.getfield 34, 3) := by decide +kernel
theorem dX7_named_4 : decode cX7_named 4 = .ok (.iload_n 1, 1) := by decide +kernel
theorem dX7_named_5 : decode cX7_named 5 = .ok (.invokevirtual 115, 3) := by decide +kernel
theorem dX7_named_8 : decode cX7_named 8 = .ok (.ifCond .eq 21, 3) := by decide +kernel
theorem dX7_named_11 : decode cX7_named 11 = .ok (.aload_n 0, 1) := by decide +kernel
theorem dX7_named_12 : decode cX7_named 12 = .ok (.getfield 61, 3) := by decide +kernel
theorem dX7_named_15 : decode cX7_named 15 = .ok (.aload_n 0, 1) := by decide +kernel
theorem dX7_named_16 : decode cX7_named 16 = .ok (.getfield 34, 3) := by decide +kernel
theorem dX7_named_19 : decode cX7_named 19 = .ok (.iload_n 1, 1) := by decide +kernel
theorem dX7_named_20 : decode cX7_named 20 = .ok (.invokevirtual 156, 3) := by decide +kernel
theorem dX7_named_23 : decode cX7_named 23 = .ok (.invokevirtual 174, 3) := by decide +kernel
theorem dX7_named_26 : decode cX7_named 26 = .ok (.goto 4, 3) := by decide +kernel
theorem dX7_named_29 : decode cX7_named 29 = .ok (.iconst (-1), 1) := by decide +kernel
theorem dX7_named_30 : decode cX7_named 30 = .ok (.ireturn, 1) := by decide +kernel
theorem dX7_within_0 : decode cX7_within 0 = .ok (.aload_n 0, 1) := by decide +kernel
theorem dX7_within_1 : decode cX7_within 1 = .ok (.getfield 34, 3) := by decide +kernel
theorem dX7_within_4 : decode cX7_within 4 = .ok (.iload_n 1, 1) := by decide +kernel
theorem dX7_within_5 : decode cX7_within 5 = .ok (.invokevirtual 115, 3) := by decide +kernel
theorem dX7_within_8 : decode cX7_within 8 = .ok (.ifCond .ne 5, 3) := by decide +kernel
theorem dX7_within_11 : decode cX7_within 11 = .ok (.iconst (-1), 1) := by decide +kernel
theorem dX7_within_12 : decode cX7_within 12 = .ok (.ireturn, 1) := by decide +kernel
theorem dX7_within_13 : decode cX7_within 13 = .ok (.iload_n 2, 1) := by decide +kernel
theorem dX7_within_14 : decode cX7_within 14 = .ok (.ifCond .ge 8, 3) := by decide +kernel
theorem dX7_within_17 : decode cX7_within 17 = .ok (.bipush (-2), 2) := by decide +kernel
theorem dX7_within_19 : decode cX7_within 19 = .ok (.goto 12, 3) := by decide +kernel
theorem dX7_within_22 : decode cX7_within 22 = .ok (.aload_n 0, 1) := by decide +kernel
theorem dX7_within_23 : decode cX7_within 23 = .ok (.getfield 43, 3) := by decide +kernel
theorem dX7_within_26 : decode cX7_within 26 = .ok (.iload_n 1, 1) := by decide +kernel
theorem dX7_within_27 : decode cX7_within 27 = .ok (.iload_n 2, 1) := by decide +kernel
theorem dX7_within_28 : decode cX7_within 28 = .ok (.invokevirtual 180, 3) := by decide +kernel
theorem dX7_within_31 : decode cX7_within 31 = .ok (.ireturn, 1) := by decide +kernel
theorem dX7_judge_0 : decode cX7_judge 0 = .ok (.iconst 0, 1) := by decide +kernel
theorem dX7_judge_1 : decode cX7_judge 1 = .ok (.istore_n 1, 1) := by decide +kernel
theorem dX7_judge_2 : decode cX7_judge 2 = .ok (.iconst 1, 1) := by decide +kernel
theorem dX7_judge_3 : decode cX7_judge 3 = .ok (.istore_n 2, 1) := by decide +kernel
theorem dX7_judge_4 : decode cX7_judge 4 = .ok (.iload_n 2, 1) := by decide +kernel
theorem dX7_judge_5 : decode cX7_judge 5 = .ok (.aload_n 0, 1) := by decide +kernel
theorem dX7_judge_6 : decode cX7_judge 6 = .ok (.getfield 34, 3) := by decide +kernel
theorem dX7_judge_9 : decode cX7_judge 9 = .ok (.invokevirtual 100, 3) := by decide +kernel
theorem dX7_judge_12 : decode cX7_judge 12 = .ok (.if_icmp .gt 23, 3) := by decide +kernel
theorem dX7_judge_15 : decode cX7_judge 15 = .ok (.iload_n 1, 1) := by decide +kernel
theorem dX7_judge_16 : decode cX7_judge 16 = .ok (.aload_n 0, 1) := by decide +kernel
theorem dX7_judge_17 : decode cX7_judge 17 = .ok (.getfield 70, 3) := by decide +kernel
theorem dX7_judge_20 : decode cX7_judge 20 = .ok (.iload_n 2, 1) := by decide +kernel
theorem dX7_judge_21 : decode cX7_judge 21 = .ok (.invokevirtual 183, 3) := by decide +kernel
theorem dX7_judge_24 : decode cX7_judge 24 = .ok (.invokestatic 186, 3) := by decide +kernel
theorem dX7_judge_27 : decode cX7_judge 27 = .ok (.iadd, 1) := by decide +kernel
theorem dX7_judge_28 : decode cX7_judge 28 = .ok (.istore_n 1, 1) := by decide +kernel
theorem dX7_judge_29 : decode cX7_judge 29 = .ok (.iinc 2 1, 3) := by decide +kernel
theorem dX7_judge_32 : decode cX7_judge 32 = .ok (.goto (-28), 3) := by decide +kernel
theorem dX7_judge_35 : decode cX7_judge 35 = .ok (.iload_n 1, 1) := by decide +kernel
theorem dX7_judge_36 : decode cX7_judge 36 = .ok (.ireturn, 1) := by decide +kernel
theorem dX7_ring_0 : decode cX7_ring 0 = .ok (.iload_n 1, 1) := by decide +kernel
theorem dX7_ring_1 : decode cX7_ring 1 = .ok (.ifCond .ge 6, 3) := by decide +kernel
theorem dX7_ring_4 : decode cX7_ring 4 = .ok (.bipush (-2), 2) := by decide +kernel
theorem dX7_ring_6 : decode cX7_ring 6 = .ok (.ireturn, 1) := by decide +kernel
theorem dX7_ring_7 : decode cX7_ring 7 = .ok (.iload_n 1, 1) := by decide +kernel
theorem dX7_ring_8 : decode cX7_ring 8 = .ok (.istore_n 2, 1) := by decide +kernel
theorem dX7_ring_9 : decode cX7_ring 9 = .ok (.iconst 1, 1) := by decide +kernel
theorem dX7_ring_10 : decode cX7_ring 10 = .ok (.istore_n 3, 1) := by decide +kernel
theorem dX7_ring_11 : decode cX7_ring 11 = .ok (.iload_n 3, 1) := by decide +kernel
theorem dX7_ring_12 : decode cX7_ring 12 = .ok (.aload_n 0, 1) := by decide +kernel
theorem dX7_ring_13 : decode cX7_ring 13 = .ok (.getfield 34, 3) := by decide +kernel
theorem dX7_ring_16 : decode cX7_ring 16 = .ok (.invokevirtual 100, 3) := by decide +kernel
theorem dX7_ring_19 : decode cX7_ring 19 = .ok (.if_icmp .gt 49, 3) := by decide +kernel
theorem dX7_ring_22 : decode cX7_ring 22 = .ok (.aload_n 0, 1) := by decide +kernel
theorem dX7_ring_23 : decode cX7_ring 23 = .ok (.getfield 70, 3) := by decide +kernel
theorem dX7_ring_26 : decode cX7_ring 26 = .ok (.iload_n 3, 1) := by decide +kernel
theorem dX7_ring_27 : decode cX7_ring 27 = .ok (.invokevirtual 183, 3) := by decide +kernel
theorem dX7_ring_30 : decode cX7_ring 30 = .ok (.istore 4, 2) := by decide +kernel
theorem dX7_ring_32 : decode cX7_ring 32 = .ok (.iload 4, 2) := by decide +kernel
theorem dX7_ring_34 : decode cX7_ring 34 = .ok (.invokestatic 186, 3) := by decide +kernel
theorem dX7_ring_37 : decode cX7_ring 37 = .ok (.istore 5, 2) := by decide +kernel
theorem dX7_ring_39 : decode cX7_ring 39 = .ok (.iload_n 2, 1) := by decide +kernel
theorem dX7_ring_40 : decode cX7_ring 40 = .ok (.iload 5, 2) := by decide +kernel
theorem dX7_ring_42 : decode cX7_ring 42 = .ok (.if_icmp .ge 15, 3) := by decide +kernel
theorem dX7_ring_45 : decode cX7_ring 45 = .ok (.bipush 16, 2) := by decide +kernel
theorem dX7_ring_47 : decode cX7_ring 47 = .ok (.iload_n 3, 1) := by decide +kernel
theorem dX7_ring_48 : decode cX7_ring 48 = .ok (.imul, 1) := by decide +kernel
theorem dX7_ring_49 : decode cX7_ring 49 = .ok (.iload 4, 2) := by decide +kernel
theorem dX7_ring_51 : decode cX7_ring 51 = .ok (.iload_n 2, 1) := by decide +kernel
theorem dX7_ring_52 : decode cX7_ring 52 = .ok (.invokestatic 191, 3) := by decide +kernel
theorem dX7_ring_55 : decode cX7_ring 55 = .ok (.iadd, 1) := by decide +kernel
theorem dX7_ring_56 : decode cX7_ring 56 = .ok (.ireturn, 1) := by decide +kernel
theorem dX7_ring_57 : decode cX7_ring 57 = .ok (.iload_n 2, 1) := by decide +kernel
theorem dX7_ring_58 : decode cX7_ring 58 = .ok (.iload 5, 2) := by decide +kernel
theorem dX7_ring_60 : decode cX7_ring 60 = .ok (.isub, 1) := by decide +kernel
theorem dX7_ring_61 : decode cX7_ring 61 = .ok (.istore_n 2, 1) := by decide +kernel
theorem dX7_ring_62 : decode cX7_ring 62 = .ok (.iinc 3 1, 3) := by decide +kernel
theorem dX7_ring_65 : decode cX7_ring 65 = .ok (.goto (-54), 3) := by decide +kernel
theorem dX7_ring_68 : decode cX7_ring 68 = .ok (.bipush (-2), 2) := by decide +kernel
theorem dX7_ring_70 : decode cX7_ring 70 = .ok (.ireturn, 1) := by decide +kernel
theorem dX7_linkOf_0 : decode cX7_linkOf 0 = .ok (.iload_n 1, 1) := by decide +kernel
theorem dX7_linkOf_1 : decode cX7_linkOf 1 = .ok (.ifCond .ne 5, 3) := by decide +kernel
theorem dX7_linkOf_4 : decode cX7_linkOf 4 = .ok (.iconst 0, 1) := by decide +kernel
theorem dX7_linkOf_5 : decode cX7_linkOf 5 = .ok (.ireturn, 1) := by decide +kernel
theorem dX7_linkOf_6 : decode cX7_linkOf 6 = .ok (.aload_n 0, 1) := by decide +kernel
theorem dX7_linkOf_7 : decode cX7_linkOf 7 = .ok (.getfield 34, 3) := by decide +kernel
theorem dX7_linkOf_10 : decode cX7_linkOf 10 = .ok (.iload_n 1, 1) := by decide +kernel
theorem dX7_linkOf_11 : decode cX7_linkOf 11 = .ok (.invokevirtual 115, 3) := by decide +kernel
theorem dX7_linkOf_14 : decode cX7_linkOf 14 = .ok (.ifCond .eq 15, 3) := by decide +kernel
theorem dX7_linkOf_17 : decode cX7_linkOf 17 = .ok (.aload_n 0, 1) := by decide +kernel
theorem dX7_linkOf_18 : decode cX7_linkOf 18 = .ok (.getfield 34, 3) := by decide +kernel
theorem dX7_linkOf_21 : decode cX7_linkOf 21 = .ok (.iload_n 1, 1) := by decide +kernel
theorem dX7_linkOf_22 : decode cX7_linkOf 22 = .ok (.iload_n 2, 1) := by decide +kernel
theorem dX7_linkOf_23 : decode cX7_linkOf 23 = .ok (.invokevirtual 194, 3) := by decide +kernel
theorem dX7_linkOf_26 : decode cX7_linkOf 26 = .ok (.goto 4, 3) := by decide +kernel
theorem dX7_linkOf_29 : decode cX7_linkOf 29 = .ok (.iconst (-1), 1) := by decide +kernel
theorem dX7_linkOf_30 : decode cX7_linkOf 30 = .ok (.ireturn, 1) := by decide +kernel
theorem dX7_refuse_0 : decode cX7_refuse 0 = .ok (.aload_n 0, 1) := by decide +kernel
theorem dX7_refuse_1 : decode cX7_refuse 1 = .ok (.getfield 34, 3) := by decide +kernel
theorem dX7_refuse_4 : decode cX7_refuse 4 = .ok (.iload_n 1, 1) := by decide +kernel
theorem dX7_refuse_5 : decode cX7_refuse 5 = .ok (.invokevirtual 115, 3) := by decide +kernel
theorem dX7_refuse_8 : decode cX7_refuse 8 = .ok (.ifCond .ne 5, 3) := by decide +kernel
theorem dX7_refuse_11 : decode cX7_refuse 11 = .ok (.iconst (-1), 1) := by decide +kernel
theorem dX7_refuse_12 : decode cX7_refuse 12 = .ok (.ireturn, 1) := by decide +kernel
theorem dX7_refuse_13 : decode cX7_refuse 13 = .ok (.iload_n 2, 1) := by decide +kernel
theorem dX7_refuse_14 : decode cX7_refuse 14 = .ok (.iload_n 3, 1) := by decide +kernel
theorem dX7_refuse_15 : decode cX7_refuse 15 = .ok (.if_icmp .lt 11, 3) := by decide +kernel
theorem dX7_refuse_18 : decode cX7_refuse 18 = .ok (.iload_n 2, 1) := by decide +kernel
theorem dX7_refuse_19 : decode cX7_refuse 19 = .ok (.aload_n 0, 1) := by decide +kernel
theorem dX7_refuse_20 : decode cX7_refuse 20 = .ok (.getfield 25, 3) := by decide +kernel
theorem dX7_refuse_23 : decode cX7_refuse 23 = .ok (.if_icmp .le 8, 3) := by decide +kernel
theorem dX7_refuse_26 : decode cX7_refuse 26 = .ok (.bipush (-2), 2) := by decide +kernel
theorem dX7_refuse_28 : decode cX7_refuse 28 = .ok (.goto 4, 3) := by decide +kernel
theorem dX7_refuse_31 : decode cX7_refuse 31 = .ok (.iconst 0, 1) := by decide +kernel
theorem dX7_refuse_32 : decode cX7_refuse 32 = .ok (.ireturn, 1) := by decide +kernel
theorem dX7_findProperty_0 : decode cX7_findProperty 0 = .ok (.aload_n 0, 1) := by decide +kernel
theorem dX7_findProperty_1 : decode cX7_findProperty 1 = .ok (.getfield 52, 3) := by decide +kernel
theorem dX7_findProperty_4 : decode cX7_findProperty 4 = .ok (.aload_n 0, 1) := by decide +kernel
theorem dX7_findProperty_5 : decode cX7_findProperty 5 = .ok (.getfield 34, 3) := by decide +kernel
theorem dX7_findProperty_8 : decode cX7_findProperty 8 = .ok (.iload_n 1, 1) := by decide +kernel
theorem dX7_findProperty_9 : decode cX7_findProperty 9 = .ok (.invokevirtual 156, 3) := by decide +kernel
theorem dX7_findProperty_12 : decode cX7_findProperty 12 = .ok (.invokevirtual 159, 3) := by decide +kernel
theorem dX7_findProperty_15 : decode cX7_findProperty 15 = .ok (.aload_n 0, 1) := by decide +kernel
theorem dX7_findProperty_16 : decode cX7_findProperty 16 = .ok (.getfield 52, 3) := by decide +kernel
theorem dX7_findProperty_19 : decode cX7_findProperty 19 = .ok (.iload_n 2, 1) := by decide +kernel
theorem dX7_findProperty_20 : decode cX7_findProperty 20 = .ok (.invokevirtual 162, 3) := by decide +kernel
theorem dX7_findProperty_23 : decode cX7_findProperty 23 = .ok (.ireturn, 1) := by decide +kernel
theorem dX7_defaultAt_0 : decode cX7_defaultAt 0 = .ok (.sipush 256, 3) := by decide +kernel
theorem dX7_defaultAt_3 : decode cX7_defaultAt 3 = .ok (.iconst 2, 1) := by decide +kernel
theorem dX7_defaultAt_4 : decode cX7_defaultAt 4 = .ok (.iload_n 0, 1) := by decide +kernel
theorem dX7_defaultAt_5 : decode cX7_defaultAt 5 = .ok (.iconst 1, 1) := by decide +kernel
theorem dX7_defaultAt_6 : decode cX7_defaultAt 6 = .ok (.isub, 1) := by decide +kernel
theorem dX7_defaultAt_7 : decode cX7_defaultAt 7 = .ok (.imul, 1) := by decide +kernel
theorem dX7_defaultAt_8 : decode cX7_defaultAt 8 = .ok (.iadd, 1) := by decide +kernel
theorem dX7_defaultAt_9 : decode cX7_defaultAt 9 = .ok (.ireturn, 1) := by decide +kernel
