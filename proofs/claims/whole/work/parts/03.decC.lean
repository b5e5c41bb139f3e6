theorem dX8_init_0 : decode cX8_init 0 = .ok (.aload_n 0, 1) := by decide +kernel
theorem dX8_init_1 : decode cX8_init 1 = .ok (.invokespecial 1, 3) := by decide +kernel
theorem dX8_init_4 : decode cX8_init 4 = .ok (.aload_n 0, 1) := by decide +kernel
theorem dX8_init_5 : decode cX8_init 5 = .ok (.sipush 4096, 3) := by decide +kernel
theorem dX8_init_8 : decode cX8_init 8 = .ok (.newarray .int, 2) := by decide +kernel
theorem dX8_init_10 : decode cX8_init 10 = .ok (.putfield 7, 3) := by decide +kernel
theorem dX8_init_13 : decode cX8_init 13 = .ok (.aload_n 0, 1) := by decide +kernel
theorem dX8_init_14 : decode cX8_init 14 = .ok (.sipush 250, 3) := by decide +kernel
theorem dX8_init_17 : decode cX8_init 17 = .ok (.newarray .int, 2) := by decide +kernel
theorem dX8_init_19 : decode cX8_init 19 = .ok (.putfield 13, 3) := by decide +kernel
theorem dX8_init_22 : decode cX8_init 22 = .ok (.aload_n 0, 1) := by decide +kernel
theorem dX8_init_23 : decode cX8_init 23 = .ok (.sipush 1792, 3) := by decide +kernel
theorem dX8_init_26 : decode cX8_init 26 = .ok (.putfield 16, 3) := by decide +kernel
theorem dX8_init_29 : decode cX8_init 29 = .ok (.aload_n 0, 1) := by decide +kernel
theorem dX8_init_30 : decode cX8_init 30 = .ok (.sipush 250, 3) := by decide +kernel
theorem dX8_init_33 : decode cX8_init 33 = .ok (.newarray .int, 2) := by decide +kernel
theorem dX8_init_35 : decode cX8_init 35 = .ok (.putfield 20, 3) := by decide +kernel
theorem dX8_init_38 : decode cX8_init 38 = .ok (.aload_n 0, 1) := by decide +kernel
theorem dX8_init_39 : decode cX8_init 39 = .ok (.sipush 9000, 3) := by decide +kernel
theorem dX8_init_42 : decode cX8_init 42 = .ok (.newarray .int, 2) := by decide +kernel
theorem dX8_init_44 : decode cX8_init 44 = .ok (.putfield 23, 3) := by decide +kernel
theorem dX8_init_47 : decode cX8_init 47 = .ok (.aload_n 0, 1) := by decide +kernel
theorem dX8_init_48 : decode cX8_init 48 = .ok (.bipush 101, 2) := by decide +kernel
theorem dX8_init_50 : decode cX8_init 50 = .ok (.newarray .boolean, 2) := by decide +kernel
theorem dX8_init_52 : decode cX8_init 52 = .ok (.putfield 26, 3) := by decide +kernel
theorem dX8_init_55 : decode cX8_init 55 = .ok (.aload_n 0, 1) := by decide +kernel
theorem dX8_init_56 : decode cX8_init 56 = .ok (.bipush 101, 2) := by decide +kernel
theorem dX8_init_58 : decode cX8_init 58 = .ok (.newarray .int, 2) := by decide +kernel
theorem dX8_init_60 : decode cX8_init 60 = .ok (.putfield 30, 3) := by decide +kernel
theorem dX8_init_63 : decode cX8_init 63 = .ok (.aload_n 0, 1) := by decide +kernel
theorem dX8_init_64 : decode cX8_init 64 = .ok (.bipush 102, 2) := by decide +kernel
theorem dX8_init_66 : decode cX8_init 66 = .ok (.newarray .int, 2) := by decide +kernel
theorem dX8_init_68 : decode cX8_init 68 = .ok (.putfield 33, 3) := by decide +kernel
theorem dX8_init_71 : decode cX8_init 71 = .ok (.aload_n 0, 1) := by decide +kernel
theorem dX8_init_72 : decode cX8_init 72 = .ok (.iload_n 1, 1) := by decide +kernel
theorem dX8_init_73 : decode cX8_init 73 = .ok (.iconst 1, 1) := by decide +kernel
theorem dX8_init_74 : decode cX8_init 74 = .ok (.if_icmp .ge 7, 3) := by decide +kernel
theorem dX8_init_77 : decode cX8_init 77 = .ok (.iconst 1, 1) := by decide +kernel
theorem dX8_init_78 : decode cX8_init 78 = .ok (.goto 15, 3) := by decide +kernel
theorem dX8_init_81 : decode cX8_init 81 = .ok (.iload_n 1, 1) := by decide +kernel
theorem dX8_init_82 : decode cX8_init 82 = .ok (.bipush 8, 2) := by decide +kernel
theorem dX8_init_84 : decode cX8_init 84 = .ok (.if_icmp .le 8, 3) := by decide +kernel
theorem dX8_init_87 : decode cX8_init 87 = .ok (.bipush 8, 2) := by decide +kernel
theorem dX8_init_89 : decode cX8_init 89 = .ok (.goto 4, 3) := by decide +kernel
theorem dX8_init_92 : decode cX8_init 92 = .ok (.iload_n 1, 1) := by decide +kernel
theorem dX8_init_93 : decode cX8_init 93 = .ok (.putfield 36, 3) := by decide +kernel
theorem dX8_init_96 : decode cX8_init 96 = .ok (.aload_n 0, 1) := by decide +kernel
theorem dX8_init_97 : decode cX8_init 97 = .ok (.iload_n 1, 1) := by decide +kernel
theorem dX8_init_98 : decode cX8_init 98 = .ok (.iconst 3, 1) := by decide +kernel
theorem dX8_init_99 : decode cX8_init 99 = .ok (.if_icmp .le 7, 3) := by decide +kernel
theorem dX8_init_102 : decode cX8_init 102 = .ok (.iconst 1, 1) := by decide +kernel
theorem dX8_init_103 : decode cX8_init 103 = .ok (.goto 4, 3) := by decide +kernel
theorem dX8_init_106 : decode cX8_init 106 = .ok (.iconst 0, 1) := by decide +kernel
theorem dX8_init_107 : decode cX8_init 107 = .ok (.putfield 39, 3) := by decide +kernel
theorem dX8_init_110 : decode cX8_init 110 = .ok (.aload_n 0, 1) := by decide +kernel
theorem dX8_init_111 : decode cX8_init 111 = .ok (.iload_n 1, 1) := by decide +kernel
theorem dX8_init_112 : decode cX8_init 112 = .ok (.iconst 3, 1) := by decide +kernel
theorem dX8_init_113 : decode cX8_init 113 = .ok (.if_icmp .le 8, 3) := by decide +kernel
theorem dX8_init_116 : decode cX8_init 116 = .ok (.bipush 63, 2) := by decide +kernel
theorem dX8_init_118 : decode cX8_init 118 = .ok (.goto 5, 3) := by decide +kernel
theorem dX8_init_121 : decode cX8_init 121 = .ok (.bipush 31, 2) := by decide +kernel
theorem dX8_init_123 : decode cX8_init 123 = .ok (.putfield 43, 3) := by decide +kernel
theorem dX8_init_126 : decode cX8_init 126 = .ok (.return_, 1) := by decide +kernel
theorem dX8_at_0 : decode cX8_at 0 = .ok (.iload_n 1, 1) := by decide +kernel
theorem dX8_at_1 : decode cX8_at 1 = .ok (.ifCond .lt 19, 3) := by decide +kernel
theorem dX8_at_4 : decode cX8_at 4 = .ok (.iload_n 1, 1) := by decide +kernel
theorem dX8_at_5 : decode cX8_at 5 = .ok (.sipush 4096, 3) := by decide +kernel
theorem dX8_at_8 : decode cX8_at 8 = .ok (.if_icmp .ge 12, 3) := by decide +kernel
theorem dX8_at_11 : decode cX8_at 11 = .ok (.aload_n 0, 1) := by decide +kernel
theorem dX8_at_12 : decode cX8_at 12 = .ok (.getfield 7, 3) := by decide +kernel
theorem dX8_at_15 : decode cX8_at 15 = .ok (.iload_n 1, 1) := by decide +kernel
theorem dX8_at_16 : decode cX8_at 16 = .ok (.iaload, 1) := by decide +kernel
theorem dX8_at_17 : decode cX8_at 17 = .ok (.goto 4, 3) := by decide +kernel
theorem dX8_at_20 : decode cX8_at 20 = .ok (.iconst 0, 1) := by decide +kernel
theorem dX8_at_21 : decode cX8_at 21 = .ok (.ireturn, 1) := by decide +kernel
theorem dX8_set_0 : decode cX8_set 0 = .ok (.iload_n 1, 1) := by decide +kernel
theorem dX8_set_1 : decode cX8_set 1 = .ok (.ifCond .lt 21, 3) := by decide +kernel
theorem dX8_set_4 : decode cX8_set 4 = .ok (.iload_n 1, 1) := by decide +kernel
theorem dX8_set_5 : decode cX8_set 5 = .ok (.sipush 4096, 3) := by decide +kernel
theorem dX8_set_8 : decode cX8_set 8 = .ok (.if_icmp .ge 14, 3) := by decide +kernel
theorem dX8_set_11 : decode cX8_set 11 = .ok (.aload_n 0, 1) := by decide +kernel
theorem dX8_set_12 : decode cX8_set 12 = .ok (.getfield 7, 3) := by decide +kernel
theorem dX8_set_15 : decode cX8_set 15 = .ok (.iload_n 1, 1) := by decide +kernel
theorem dX8_set_16 : decode cX8_set 16 = .ok (.iload_n 2, 1) := by decide +kernel
theorem dX8_set_17 : decode cX8_set 17 = .ok (.sipush 255, 3) := by decide +kernel
theorem dX8_set_20 : decode cX8_set 20 = .ok (.iand, 1) := by decide +kernel
theorem dX8_set_21 : decode cX8_set 21 = .ok (.iastore, 1) := by decide +kernel
theorem dX8_set_22 : decode cX8_set 22 = .ok (.return_, 1) := by decide +kernel
theorem dX8_word_0 : decode cX8_word 0 = .ok (.sipush 256, 3) := by decide +kernel
theorem dX8_word_3 : decode cX8_word 3 = .ok (.aload_n 0, 1) := by decide +kernel
theorem dX8_word_4 : decode cX8_word 4 = .ok (.iload_n 1, 1) := by decide +kernel
theorem dX8_word_5 : decode cX8_word 5 = .ok (.invokevirtual 46, 3) := by decide +kernel
theorem dX8_word_8 : decode cX8_word 8 = .ok (.imul, 1) := by decide +kernel
theorem dX8_word_9 : decode cX8_word 9 = .ok (.aload_n 0, 1) := by decide +kernel
theorem dX8_word_10 : decode cX8_word 10 = .ok (.iload_n 1, 1) := by decide +kernel
theorem dX8_word_11 : decode cX8_word 11 = .ok (.iconst 1, 1) := by decide +kernel
theorem dX8_word_12 : decode cX8_word 12 = .ok (.iadd, 1) := by decide +kernel
theorem dX8_word_13 : decode cX8_word 13 = .ok (.invokevirtual 46, 3) := by decide +kernel
theorem dX8_word_16 : decode cX8_word 16 = .ok (.iadd, 1) := by decide +kernel
theorem dX8_word_17 : decode cX8_word 17 = .ok (.ireturn, 1) := by decide +kernel
theorem dX8_setWord_0 : decode cX8_setWord 0 = .ok (.aload_n 0, 1) := by decide +kernel
theorem dX8_setWord_1 : decode cX8_setWord 1 = .ok (.iload_n 1, 1) := by decide +kernel
theorem dX8_setWord_2 : decode cX8_setWord 2 = .ok (.iload_n 2, 1) := by decide +kernel
theorem dX8_setWord_3 : decode cX8_setWord 3 = .ok (.bipush 8, 2) := by decide +kernel
theorem dX8_setWord_5 : decode cX8_setWord 5 = .ok (.ishr, 1) := by decide +kernel
theorem dX8_setWord_6 : decode cX8_setWord 6 = .ok (.invokevirtual 50, 3) := by decide +kernel
theorem dX8_setWord_9 : decode cX8_setWord 9 = .ok (.aload_n 0, 1) := by decide +kernel
theorem dX8_setWord_10 : decode cX8_setWord 10 = .ok (.iload_n 1, 1) := by decide +kernel
theorem dX8_setWord_11 : decode cX8_setWord 11 = .ok (.iconst 1, 1) := by decide +kernel
theorem dX8_setWord_12 : decode cX8_setWord 12 = .ok (.iadd, 1) := by decide +kernel
theorem dX8_setWord_13 : decode cX8_setWord 13 = .ok (.iload_n 2, 1) := by decide +kernel
theorem dX8_setWord_14 : decode cX8_setWord 14 = .ok (.invokevirtual 50, 3) := by decide +kernel
theorem dX8_setWord_17 : decode cX8_setWord 17 = .ok (.return_, 1) := by decide +kernel
theorem dX8_entry_0 : decode cX8_entry 0 = .ok (.sipush 256, 3) := by decide +kernel
theorem dX8_entry_3 : decode cX8_entry 3 = .ok (.iconst 2, 1) := by decide +kernel
theorem dX8_entry_4 : decode cX8_entry 4 = .ok (.aload_n 0, 1) := by decide +kernel
theorem dX8_entry_5 : decode cX8_entry 5 = .ok (.getfield 43, 3) := by decide +kernel
theorem dX8_entry_8 : decode cX8_entry 8 = .ok (.imul, 1) := by decide +kernel
theorem dX8_entry_9 : decode cX8_entry 9 = .ok (.iadd, 1) := by decide +kernel
theorem dX8_entry_10 : decode cX8_entry 10 = .ok (.iload_n 1, 1) := by decide +kernel
theorem dX8_entry_11 : decode cX8_entry 11 = .ok (.iconst 1, 1) := by decide +kernel
theorem dX8_entry_12 : decode cX8_entry 12 = .ok (.isub, 1) := by decide +kernel
theorem dX8_entry_13 : decode cX8_entry 13 = .ok (.aload_n 0, 1) := by decide +kernel
theorem dX8_entry_14 : decode cX8_entry 14 = .ok (.getfield 39, 3) := by decide +kernel
theorem dX8_entry_17 : decode cX8_entry 17 = .ok (.ifCond .eq 8, 3) := by decide +kernel
theorem dX8_entry_20 : decode cX8_entry 20 = .ok (.bipush 14, 2) := by decide +kernel
theorem dX8_entry_22 : decode cX8_entry 22 = .ok (.goto 5, 3) := by decide +kernel
theorem dX8_entry_25 : decode cX8_entry 25 = .ok (.bipush 9, 2) := by decide +kernel
theorem dX8_entry_27 : decode cX8_entry 27 = .ok (.imul, 1) := by decide +kernel
theorem dX8_entry_28 : decode cX8_entry 28 = .ok (.iadd, 1) := by decide +kernel
theorem dX8_entry_29 : decode cX8_entry 29 = .ok (.ireturn, 1) := by decide +kernel
theorem dX8_link_0 : decode cX8_link 0 = .ok (.aload_n 0, 1) := by decide +kernel
theorem dX8_link_1 : decode cX8_link 1 = .ok (.getfield 39, 3) := by decide +kernel
theorem dX8_link_4 : decode cX8_link 4 = .ok (.ifCond .eq 22, 3) := by decide +kernel
theorem dX8_link_7 : decode cX8_link 7 = .ok (.aload_n 0, 1) := by decide +kernel
theorem dX8_link_8 : decode cX8_link 8 = .ok (.aload_n 0, 1) := by decide +kernel
theorem dX8_link_9 : decode cX8_link 9 = .ok (.iload_n 1, 1) := by decide +kernel
theorem dX8_link_10 : decode cX8_link 10 = .ok (.invokevirtual 54, 3) := by decide +kernel
theorem dX8_link_13 : decode cX8_link 13 = .ok (.bipush 6, 2) := by decide +kernel
theorem dX8_link_15 : decode cX8_link 15 = .ok (.iadd, 1) := by decide +kernel
theorem dX8_link_16 : decode cX8_link 16 = .ok (.iconst 2, 1) := by decide +kernel
theorem dX8_link_17 : decode cX8_link 17 = .ok (.iload_n 2, 1) := by decide +kernel
theorem dX8_link_18 : decode cX8_link 18 = .ok (.imul, 1) := by decide +kernel
theorem dX8_link_19 : decode cX8_link 19 = .ok (.iadd, 1) := by decide +kernel
theorem dX8_link_20 : decode cX8_link 20 = .ok (.invokevirtual 57, 3) := by decide +kernel
theorem dX8_link_23 : decode cX8_link 23 = .ok (.goto 16, 3) := by decide +kernel
theorem dX8_link_26 : decode cX8_link 26 = .ok (.aload_n 0, 1) := by decide +kernel
theorem dX8_link_27 : decode cX8_link 27 = .ok (.aload_n 0, 1) := by decide +kernel
theorem dX8_link_28 : decode cX8_link 28 = .ok (.iload_n 1, 1) := by decide +kernel
theorem dX8_link_29 : decode cX8_link 29 = .ok (.invokevirtual 54, 3) := by decide +kernel
theorem dX8_link_32 : decode cX8_link 32 = .ok (.iconst 4, 1) := by decide +kernel
theorem dX8_link_33 : decode cX8_link 33 = .ok (.iadd, 1) := by decide +kernel
theorem dX8_link_34 : decode cX8_link 34 = .ok (.iload_n 2, 1) := by decide +kernel
theorem dX8_link_35 : decode cX8_link 35 = .ok (.iadd, 1) := by decide +kernel
theorem dX8_link_36 : decode cX8_link 36 = .ok (.invokevirtual 46, 3) := by decide +kernel
theorem dX8_link_39 : decode cX8_link 39 = .ok (.ireturn, 1) := by decide +kernel
theorem dX8_setLink_0 : decode cX8_setLink 0 = .ok (.aload_n 0, 1) := by decide +kernel
theorem dX8_setLink_1 : decode cX8_setLink 1 = .ok (.getfield 39, 3) := by decide +kernel
theorem dX8_setLink_4 : decode cX8_setLink 4 = .ok (.ifCond .eq 23, 3) := by decide +kernel
theorem dX8_setLink_7 : decode cX8_setLink 7 = .ok (.aload_n 0, 1) := by decide +kernel
theorem dX8_setLink_8 : decode cX8_setLink 8 = .ok (.aload_n 0, 1) := by decide +kernel
theorem dX8_setLink_9 : decode cX8_setLink 9 = .ok (.iload_n 1, 1) := by decide +kernel
theorem dX8_setLink_10 : decode cX8_setLink 10 = .ok (.invokevirtual 54, 3) := by decide +kernel
theorem dX8_setLink_13 : decode cX8_setLink 13 = .ok (.bipush 6, 2) := by decide +kernel
theorem dX8_setLink_15 : decode cX8_setLink 15 = .ok (.iadd, 1) := by decide +kernel
theorem dX8_setLink_16 : decode cX8_setLink 16 = .ok (.iconst 2, 1) := by decide +kernel
theorem dX8_setLink_17 : decode cX8_setLink 17 = .ok (.iload_n 2, 1) := by decide +kernel
theorem dX8_setLink_18 : decode cX8_setLink 18 = .ok (.imul, 1) := by decide +kernel
theorem dX8_setLink_19 : decode cX8_setLink 19 = .ok (.iadd, 1) := by decide +kernel
theorem dX8_setLink_20 : decode cX8_setLink 20 = .ok (.iload_n 3, 1) := by decide +kernel
theorem dX8_setLink_21 : decode cX8_setLink 21 = .ok (.invokevirtual 60, 3) := by decide +kernel
theorem dX8_setLink_24 : decode cX8_setLink 24 = .ok (.goto 17, 3) := by decide +kernel
theorem dX8_setLink_27 : decode cX8_setLink 27 = .ok (.aload_n 0, 1) := by decide +kernel
theorem dX8_setLink_28 : decode cX8_setLink 28 = .ok (.aload_n 0, 1) := by decide +kernel
theorem dX8_setLink_29 : decode cX8_setLink 29 = .ok (.iload_n 1, 1) := by decide +kernel
theorem dX8_setLink_30 : decode cX8_setLink 30 = .ok (.invokevirtual 54, 3) := by decide +kernel
theorem dX8_setLink_33 : decode cX8_setLink 33 = .ok (.iconst 4, 1) := by decide +kernel
theorem dX8_setLink_34 : decode cX8_setLink 34 = .ok (.iadd, 1) := by decide +kernel
theorem dX8_setLink_35 : decode cX8_setLink 35 = .ok (.iload_n 2, 1) := by decide +kernel
theorem dX8_setLink_36 : decode cX8_setLink 36 = .ok (.iadd, 1) := by decide +kernel
theorem dX8_setLink_37 : decode cX8_setLink 37 = .ok (.iload_n 3, 1) := by decide +kernel
theorem dX8_setLink_38 : decode cX8_setLink 38 = .ok (.invokevirtual 50, 3) := by decide +kernel
theorem dX8_setLink_41 : decode cX8_setLink 41 = .ok (.return_, 1) := by decide +kernel
theorem dX8_tableAt_0 : decode cX8_tableAt 0 = .ok (.aload_n 0, 1) := by decide +kernel
theorem dX8_tableAt_1 : decode cX8_tableAt 1 = .ok (.iload_n 1, 1) := by decide +kernel
theorem dX8_tableAt_2 : decode cX8_tableAt 2 = .ok (.invokevirtual 54, 3) := by decide +kernel
theorem dX8_tableAt_5 : decode cX8_tableAt 5 = .ok (.aload_n 0, 1) := by decide +kernel
theorem dX8_tableAt_6 : decode cX8_tableAt 6 = .ok (.getfield 39, 3) := by decide +kernel
theorem dX8_tableAt_9 : decode cX8_tableAt 9 = .ok (.ifCond .eq 8, 3) := by decide +kernel
theorem dX8_tableAt_12 : decode cX8_tableAt 12 = .ok (.bipush 12, 2) := by decide +kernel
theorem dX8_tableAt_14 : decode cX8_tableAt 14 = .ok (.goto 5, 3) := by decide +kernel
theorem dX8_tableAt_17 : decode cX8_tableAt 17 = .ok (.bipush 7, 2) := by decide +kernel
theorem dX8_tableAt_19 : decode cX8_tableAt 19 = .ok (.iadd, 1) := by decide +kernel
theorem dX8_tableAt_20 : decode cX8_tableAt 20 = .ok (.ireturn, 1) := by decide +kernel
theorem dX8_isObject_0 : decode cX8_isObject 0 = .ok (.iload_n 1, 1) := by decide +kernel
theorem dX8_isObject_1 : decode cX8_isObject 1 = .ok (.iconst 1, 1) := by decide +kernel
theorem dX8_isObject_2 : decode cX8_isObject 2 = .ok (.if_icmp .lt 15, 3) := by decide +kernel
theorem dX8_isObject_5 : decode cX8_isObject 5 = .ok (.iload_n 1, 1) := by decide +kernel
theorem dX8_isObject_6 : decode cX8_isObject 6 = .ok (.aload_n 0, 1) := by decide +kernel
theorem dX8_isObject_7 : decode cX8_isObject 7 = .ok (.getfield 63, 3) := by decide +kernel
theorem dX8_isObject_10 : decode cX8_isObject 10 = .ok (.if_icmp .gt 7, 3) := by decide +kernel
theorem dX8_isObject_13 : decode cX8_isObject 13 = .ok (.iconst 1, 1) := by decide +kernel
theorem dX8_isObject_14 : decode cX8_isObject 14 = .ok (.goto 4, 3) := by decide +kernel
theorem dX8_isObject_17 : decode cX8_isObject 17 = .ok (.iconst 0, 1) := by decide +kernel
theorem dX8_isObject_18 : decode cX8_isObject 18 = .ok (.ireturn, 1) := by decide +kernel
theorem dX8_comes_0 : decode cX8_comes 0 = .ok (.iload_n 1, 1) := by decide +kernel
theorem dX8_comes_1 : decode cX8_comes 1 = .ok (.istore 4, 2) := by decide +kernel
theorem dX8_comes_3 : decode cX8_comes 3 = .ok (.iconst 0, 1) := by decide +kernel
theorem dX8_comes_4 : decode cX8_comes 4 = .ok (.istore 5, 2) := by decide +kernel
theorem dX8_comes_6 : decode cX8_comes 6 = .ok (.iload 5, 2) := by decide +kernel
theorem dX8_comes_8 : decode cX8_comes 8 = .ok (.bipush 100, 2) := by decide +kernel
theorem dX8_comes_10 : decode cX8_comes 10 = .ok (.if_icmp .gt 35, 3) := by decide +kernel
theorem dX8_comes_13 : decode cX8_comes 13 = .ok (.aload_n 0, 1) := by decide +kernel
theorem dX8_comes_14 : decode cX8_comes 14 = .ok (.iload 4, 2) := by decide +kernel
theorem dX8_comes_16 : decode cX8_comes 16 = .ok (.invokevirtual 66, 3) := by decide +kernel
theorem dX8_comes_19 : decode cX8_comes 19 = .ok (.ifCond .eq 26, 3) := by decide +kernel
theorem dX8_comes_22 : decode cX8_comes 22 = .ok (.iload 4, 2) := by decide +kernel
theorem dX8_comes_24 : decode cX8_comes 24 = .ok (.iload_n 3, 1) := by decide +kernel
theorem dX8_comes_25 : decode cX8_comes 25 = .ok (.if_icmp .ne 5, 3) := by decide +kernel
theorem dX8_comes_28 : decode cX8_comes 28 = .ok (.iconst 1, 1) := by decide +kernel
theorem dX8_comes_29 : decode cX8_comes 29 = .ok (.ireturn, 1) := by decide +kernel
theorem dX8_comes_30 : decode cX8_comes 30 = .ok (.aload_n 0, 1) := by decide +kernel
theorem dX8_comes_31 : decode cX8_comes 31 = .ok (.iload 4, 2) := by decide +kernel
theorem dX8_comes_33 : decode cX8_comes 33 = .ok (.iload_n 2, 1) := by decide +kernel
theorem dX8_comes_34 : decode cX8_comes 34 = .ok (.invokevirtual 70, 3) := by decide +kernel
theorem dX8_comes_37 : decode cX8_comes 37 = .ok (.istore 4, 2) := by decide +kernel
theorem dX8_comes_39 : decode cX8_comes 39 = .ok (.iinc 5 1, 3) := by decide +kernel
theorem dX8_comes_42 : decode cX8_comes 42 = .ok (.goto (-36), 3) := by decide +kernel
theorem dX8_comes_45 : decode cX8_comes 45 = .ok (.iconst 0, 1) := by decide +kernel
theorem dX8_comes_46 : decode cX8_comes 46 = .ok (.ireturn, 1) := by decide +kernel
theorem dX8_comesBack_0 : decode cX8_comesBack 0 = .ok (.aload_n 0, 1) := by decide +kernel
theorem dX8_comesBack_1 : decode cX8_comesBack 1 = .ok (.iload_n 1, 1) := by decide +kernel
theorem dX8_comesBack_2 : decode cX8_comesBack 2 = .ok (.iload_n 2, 1) := by decide +kernel
theorem dX8_comesBack_3 : decode cX8_comesBack 3 = .ok (.invokevirtual 70, 3) := by decide +kernel
theorem dX8_comesBack_6 : decode cX8_comesBack 6 = .ok (.istore_n 3, 1) := by decide +kernel
theorem dX8_comesBack_7 : decode cX8_comesBack 7 = .ok (.iconst 0, 1) := by decide +kernel
theorem dX8_comesBack_8 : decode cX8_comesBack 8 = .ok (.istore 4, 2) := by decide +kernel
theorem dX8_comesBack_10 : decode cX8_comesBack 10 = .ok (.iload 4, 2) := by decide +kernel
theorem dX8_comesBack_12 : decode cX8_comesBack 12 = .ok (.bipush 100, 2) := by decide +kernel
theorem dX8_comesBack_14 : decode cX8_comesBack 14 = .ok (.if_icmp .ge 31, 3) := by decide +kernel
theorem dX8_comesBack_17 : decode cX8_comesBack 17 = .ok (.aload_n 0, 1) := by decide +kernel
theorem dX8_comesBack_18 : decode cX8_comesBack 18 = .ok (.iload_n 3, 1) := by decide +kernel
theorem dX8_comesBack_19 : decode cX8_comesBack 19 = .ok (.invokevirtual 66, 3) := by decide +kernel
theorem dX8_comesBack_22 : decode cX8_comesBack 22 = .ok (.ifCond .eq 23, 3) := by decide +kernel
theorem dX8_comesBack_25 : decode cX8_comesBack 25 = .ok (.iload_n 3, 1) := by decide +kernel
theorem dX8_comesBack_26 : decode cX8_comesBack 26 = .ok (.iload_n 1, 1) := by decide +kernel
theorem dX8_comesBack_27 : decode cX8_comesBack 27 = .ok (.if_icmp .ne 5, 3) := by decide +kernel
theorem dX8_comesBack_30 : decode cX8_comesBack 30 = .ok (.iconst 1, 1) := by decide +kernel
theorem dX8_comesBack_31 : decode cX8_comesBack 31 = .ok (.ireturn, 1) := by decide +kernel
theorem dX8_comesBack_32 : decode cX8_comesBack 32 = .ok (.aload_n 0, 1) := by decide +kernel
theorem dX8_comesBack_33 : decode cX8_comesBack 33 = .ok (.iload_n 3, 1) := by decide +kernel
theorem dX8_comesBack_34 : decode cX8_comesBack 34 = .ok (.iload_n 2, 1) := by decide +kernel
theorem dX8_comesBack_35 : decode cX8_comesBack 35 = .ok (.invokevirtual 70, 3) := by decide +kernel
theorem dX8_comesBack_38 : decode cX8_comesBack 38 = .ok (.istore_n 3, 1) := by decide +kernel
theorem dX8_comesBack_39 : decode cX8_comesBack 39 = .ok (.iinc 4 1, 3) := by decide +kernel
theorem dX8_comesBack_42 : decode cX8_comesBack 42 = .ok (.goto (-32), 3) := by decide +kernel
theorem dX8_comesBack_45 : decode cX8_comesBack 45 = .ok (.iconst 0, 1) := by decide +kernel
theorem dX8_comesBack_46 : decode cX8_comesBack 46 = .ok (.ireturn, 1) := by decide +kernel
theorem dX8_type_0 : decode cX8_type 0 = .ok (.iload_n 3, 1) := by decide +kernel
theorem dX8_type_1 : decode cX8_type 1 = .ok (.ifCond .lt 9, 3) := by decide +kernel
theorem dX8_type_4 : decode cX8_type 4 = .ok (.iload_n 3, 1) := by decide +kernel
theorem dX8_type_5 : decode cX8_type 5 = .ok (.bipush 8, 2) := by decide +kernel
theorem dX8_type_7 : decode cX8_type 7 = .ok (.if_icmp .le 6, 3) := by decide +kernel
theorem dX8_type_10 : decode cX8_type 10 = .ok (.bipush (-2), 2) := by decide +kernel
theorem dX8_type_12 : decode cX8_type 12 = .ok (.ireturn, 1) := by decide +kernel
theorem dX8_type_13 : decode cX8_type 13 = .ok (.iload_n 3, 1) := by decide +kernel
theorem dX8_type_14 : decode cX8_type 14 = .ok (.ifCond .ne 10, 3) := by decide +kernel
theorem dX8_type_17 : decode cX8_type 17 = .ok (.aload_n 0, 1) := by decide +kernel
theorem dX8_type_18 : decode cX8_type 18 = .ok (.iconst 0, 1) := by decide +kernel
theorem dX8_type_19 : decode cX8_type 19 = .ok (.putfield 74, 3) := by decide +kernel
theorem dX8_type_22 : decode cX8_type 22 = .ok (.iconst 0, 1) := by decide +kernel
theorem dX8_type_23 : decode cX8_type 23 = .ok (.ireturn, 1) := by decide +kernel
theorem dX8_type_24 : decode cX8_type 24 = .ok (.aload_n 0, 1) := by decide +kernel
theorem dX8_type_25 : decode cX8_type 25 = .ok (.getfield 74, 3) := by decide +kernel
theorem dX8_type_28 : decode cX8_type 28 = .ok (.iload_n 3, 1) := by decide +kernel
theorem dX8_type_29 : decode cX8_type 29 = .ok (.iadd, 1) := by decide +kernel
theorem dX8_type_30 : decode cX8_type 30 = .ok (.sipush 250, 3) := by decide +kernel
theorem dX8_type_33 : decode cX8_type 33 = .ok (.if_icmp .le 6, 3) := by decide +kernel
theorem dX8_type_36 : decode cX8_type 36 = .ok (.bipush (-4), 2) := by decide +kernel
theorem dX8_type_38 : decode cX8_type 38 = .ok (.ireturn, 1) := by decide +kernel
theorem dX8_type_39 : decode cX8_type 39 = .ok (.iload_n 3, 1) := by decide +kernel
theorem dX8_type_40 : decode cX8_type 40 = .ok (.iconst 1, 1) := by decide +kernel
theorem dX8_type_41 : decode cX8_type 41 = .ok (.isub, 1) := by decide +kernel
theorem dX8_type_42 : decode cX8_type 42 = .ok (.istore 4, 2) := by decide +kernel
theorem dX8_type_44 : decode cX8_type 44 = .ok (.iload 4, 2) := by decide +kernel
theorem dX8_type_46 : decode cX8_type 46 = .ok (.ifCond .lt 40, 3) := by decide +kernel
theorem dX8_type_49 : decode cX8_type 49 = .ok (.aload_n 0, 1) := by decide +kernel
theorem dX8_type_50 : decode cX8_type 50 = .ok (.getfield 13, 3) := by decide +kernel
theorem dX8_type_53 : decode cX8_type 53 = .ok (.aload_n 0, 1) := by decide +kernel
theorem dX8_type_54 : decode cX8_type 54 = .ok (.getfield 74, 3) := by decide +kernel
theorem dX8_type_57 : decode cX8_type 57 = .ok (.lload_n 1, 1) := by decide +kernel
theorem dX8_type_58 : decode cX8_type 58 = .ok (.bipush 8, 2) := by decide +kernel
theorem dX8_type_60 : decode cX8_type 60 = .ok (.iload 4, 2) := by decide +kernel
theorem dX8_type_62 : decode cX8_type 62 = .ok (.imul, 1) := by decide +kernel
theorem dX8_type_63 : decode cX8_type 63 = .ok (.lshr, 1) := by decide +kernel
theorem dX8_type_64 : decode cX8_type 64 = .ok (.l2i, 1) := by decide +kernel
theorem dX8_type_65 : decode cX8_type 65 = .ok (.sipush 255, 3) := by decide +kernel
theorem dX8_type_68 : decode cX8_type 68 = .ok (.iand, 1) := by decide +kernel
theorem dX8_type_69 : decode cX8_type 69 = .ok (.iastore, 1) := by decide +kernel
theorem dX8_type_70 : decode cX8_type 70 = .ok (.aload_n 0, 1) := by decide +kernel
theorem dX8_type_71 : decode cX8_type 71 = .ok (.dup, 1) := by decide +kernel
theorem dX8_type_72 : decode cX8_type 72 = .ok (.getfield 74, 3) := by decide +kernel
theorem dX8_type_75 : decode cX8_type 75 = .ok (.iconst 1, 1) := by decide +kernel
theorem dX8_type_76 : decode cX8_type 76 = .ok (.iadd, 1) := by decide +kernel
theorem dX8_type_77 : decode cX8_type 77 = .ok (.putfield 74, 3) := by decide +kernel
theorem dX8_type_80 : decode cX8_type 80 = .ok (.iinc 4 (-1), 3) := by decide +kernel
theorem dX8_type_83 : decode cX8_type 83 = .ok (.goto (-39), 3) := by decide +kernel
theorem dX8_type_86 : decode cX8_type 86 = .ok (.aload_n 0, 1) := by decide +kernel
theorem dX8_type_87 : decode cX8_type 87 = .ok (.getfield 74, 3) := by decide +kernel
theorem dX8_type_90 : decode cX8_type 90 = .ok (.ireturn, 1) := by decide +kernel
theorem dX8_object_0 : decode cX8_object 0 = .ok (.aload_n 0, 1) := by decide +kernel
theorem dX8_object_1 : decode cX8_object 1 = .ok (.getfield 63, 3) := by decide +kernel
theorem dX8_object_4 : decode cX8_object 4 = .ok (.bipush 100, 2) := by decide +kernel
theorem dX8_object_6 : decode cX8_object 6 = .ok (.if_icmp .eq 18, 3) := by decide +kernel
theorem dX8_object_9 : decode cX8_object 9 = .ok (.aload_n 0, 1) := by decide +kernel
theorem dX8_object_10 : decode cX8_object 10 = .ok (.getfield 16, 3) := by decide +kernel
theorem dX8_object_13 : decode cX8_object 13 = .ok (.aload_n 0, 1) := by decide +kernel
theorem dX8_object_14 : decode cX8_object 14 = .ok (.getfield 74, 3) := by decide +kernel
theorem dX8_object_17 : decode cX8_object 17 = .ok (.iadd, 1) := by decide +kernel
theorem dX8_object_18 : decode cX8_object 18 = .ok (.sipush 4096, 3) := by decide +kernel
theorem dX8_object_21 : decode cX8_object 21 = .ok (.if_icmp .le 6, 3) := by decide +kernel
theorem dX8_object_24 : decode cX8_object 24 = .ok (.bipush (-4), 2) := by decide +kernel
theorem dX8_object_26 : decode cX8_object 26 = .ok (.ireturn, 1) := by decide +kernel
theorem dX8_object_27 : decode cX8_object 27 = .ok (.aload_n 0, 1) := by decide +kernel
theorem dX8_object_28 : decode cX8_object 28 = .ok (.dup, 1) := by decide +kernel
theorem dX8_object_29 : decode cX8_object 29 = .ok (.getfield 63, 3) := by decide +kernel
theorem dX8_object_32 : decode cX8_object 32 = .ok (.iconst 1, 1) := by decide +kernel
theorem dX8_object_33 : decode cX8_object 33 = .ok (.iadd, 1) := by decide +kernel
theorem dX8_object_34 : decode cX8_object 34 = .ok (.putfield 63, 3) := by decide +kernel
theorem dX8_object_37 : decode cX8_object 37 = .ok (.aload_n 0, 1) := by decide +kernel
theorem dX8_object_38 : decode cX8_object 38 = .ok (.aload_n 0, 1) := by decide +kernel
theorem dX8_object_39 : decode cX8_object 39 = .ok (.getfield 63, 3) := by decide +kernel
theorem dX8_object_42 : decode cX8_object 42 = .ok (.invokevirtual 54, 3) := by decide +kernel
theorem dX8_object_45 : decode cX8_object 45 = .ok (.istore_n 1, 1) := by decide +kernel
theorem dX8_object_46 : decode cX8_object 46 = .ok (.iconst 0, 1) := by decide +kernel
theorem dX8_object_47 : decode cX8_object 47 = .ok (.istore_n 2, 1) := by decide +kernel
theorem dX8_object_48 : decode cX8_object 48 = .ok (.iload_n 2, 1) := by decide +kernel
theorem dX8_object_49 : decode cX8_object 49 = .ok (.aload_n 0, 1) := by decide +kernel
theorem dX8_object_50 : decode cX8_object 50 = .ok (.getfield 39, 3) := by decide +kernel
theorem dX8_object_53 : decode cX8_object 53 = .ok (.ifCond .eq 8, 3) := by decide +kernel
theorem dX8_object_56 : decode cX8_object 56 = .ok (.bipush 14, 2) := by decide +kernel
theorem dX8_object_58 : decode cX8_object 58 = .ok (.goto 5, 3) := by decide +kernel
theorem dX8_object_61 : decode cX8_object 61 = .ok (.bipush 9, 2) := by decide +kernel
theorem dX8_object_63 : decode cX8_object 63 = .ok (.if_icmp .ge 17, 3) := by decide +kernel
theorem dX8_object_66 : decode cX8_object 66 = .ok (.aload_n 0, 1) := by decide +kernel
theorem dX8_object_67 : decode cX8_object 67 = .ok (.iload_n 1, 1) := by decide +kernel
theorem dX8_object_68 : decode cX8_object 68 = .ok (.iload_n 2, 1) := by decide +kernel
theorem dX8_object_69 : decode cX8_object 69 = .ok (.iadd, 1) := by decide +kernel
theorem dX8_object_70 : decode cX8_object 70 = .ok (.iconst 0, 1) := by decide +kernel
theorem dX8_object_71 : decode cX8_object 71 = .ok (.invokevirtual 50, 3) := by decide +kernel
theorem dX8_object_74 : decode cX8_object 74 = .ok (.iinc 2 1, 3) := by decide +kernel
theorem dX8_object_77 : decode cX8_object 77 = .ok (.goto (-29), 3) := by decide +kernel
theorem dX8_object_80 : decode cX8_object 80 = .ok (.aload_n 0, 1) := by decide +kernel
theorem dX8_object_81 : decode cX8_object 81 = .ok (.aload_n 0, 1) := by decide +kernel
theorem dX8_object_82 : decode cX8_object 82 = .ok (.aload_n 0, 1) := by decide +kernel
theorem dX8_object_83 : decode cX8_object 83 = .ok (.getfield 63, 3) := by decide +kernel
theorem dX8_object_86 : decode cX8_object 86 = .ok (.invokevirtual 77, 3) := by decide +kernel
theorem dX8_object_89 : decode cX8_object 89 = .ok (.aload_n 0, 1) := by decide +kernel
theorem dX8_object_90 : decode cX8_object 90 = .ok (.getfield 16, 3) := by decide +kernel
theorem dX8_object_93 : decode cX8_object 93 = .ok (.invokevirtual 60, 3) := by decide +kernel
theorem dX8_object_96 : decode cX8_object 96 = .ok (.iconst 0, 1) := by decide +kernel
theorem dX8_object_97 : decode cX8_object 97 = .ok (.istore_n 2, 1) := by decide +kernel
theorem dX8_object_98 : decode cX8_object 98 = .ok (.iload_n 2, 1) := by decide +kernel
theorem dX8_object_99 : decode cX8_object 99 = .ok (.aload_n 0, 1) := by decide +kernel
theorem dX8_object_100 : decode cX8_object 100 = .ok (.getfield 74, 3) := by decide +kernel
theorem dX8_object_103 : decode cX8_object 103 = .ok (.if_icmp .ge 25, 3) := by decide +kernel
theorem dX8_object_106 : decode cX8_object 106 = .ok (.aload_n 0, 1) := by decide +kernel
theorem dX8_object_107 : decode cX8_object 107 = .ok (.aload_n 0, 1) := by decide +kernel
theorem dX8_object_108 : decode cX8_object 108 = .ok (.getfield 16, 3) := by decide +kernel
theorem dX8_object_111 : decode cX8_object 111 = .ok (.iload_n 2, 1) := by decide +kernel
theorem dX8_object_112 : decode cX8_object 112 = .ok (.iadd, 1) := by decide +kernel
theorem dX8_object_113 : decode cX8_object 113 = .ok (.aload_n 0, 1) := by decide +kernel
theorem dX8_object_114 : decode cX8_object 114 = .ok (.getfield 13, 3) := by decide +kernel
theorem dX8_object_117 : decode cX8_object 117 = .ok (.iload_n 2, 1) := by decide +kernel
theorem dX8_object_118 : decode cX8_object 118 = .ok (.iaload, 1) := by decide +kernel
theorem dX8_object_119 : decode cX8_object 119 = .ok (.invokevirtual 50, 3) := by decide +kernel
theorem dX8_object_122 : decode cX8_object 122 = .ok (.iinc 2 1, 3) := by decide +kernel
theorem dX8_object_125 : decode cX8_object 125 = .ok (.goto (-27), 3) := by decide +kernel
theorem dX8_object_128 : decode cX8_object 128 = .ok (.aload_n 0, 1) := by decide +kernel
theorem dX8_object_129 : decode cX8_object 129 = .ok (.dup, 1) := by decide +kernel
theorem dX8_object_130 : decode cX8_object 130 = .ok (.getfield 16, 3) := by decide +kernel
theorem dX8_object_133 : decode cX8_object 133 = .ok (.aload_n 0, 1) := by decide +kernel
theorem dX8_object_134 : decode cX8_object 134 = .ok (.getfield 74, 3) := by decide +kernel
theorem dX8_object_137 : decode cX8_object 137 = .ok (.iadd, 1) := by decide +kernel
theorem dX8_object_138 : decode cX8_object 138 = .ok (.putfield 16, 3) := by decide +kernel
theorem dX8_object_141 : decode cX8_object 141 = .ok (.aload_n 0, 1) := by decide +kernel
theorem dX8_object_142 : decode cX8_object 142 = .ok (.iconst 0, 1) := by decide +kernel
theorem dX8_object_143 : decode cX8_object 143 = .ok (.putfield 74, 3) := by decide +kernel
theorem dX8_object_146 : decode cX8_object 146 = .ok (.aload_n 0, 1) := by decide +kernel
theorem dX8_object_147 : decode cX8_object 147 = .ok (.getfield 63, 3) := by decide +kernel
theorem dX8_object_150 : decode cX8_object 150 = .ok (.ireturn, 1) := by decide +kernel
theorem dX8_count_0 : decode cX8_count 0 = .ok (.aload_n 0, 1) := by decide +kernel
theorem dX8_count_1 : decode cX8_count 1 = .ok (.getfield 63, 3) := by decide +kernel
theorem dX8_count_4 : decode cX8_count 4 = .ok (.ireturn, 1) := by decide +kernel
theorem dX8_peek_0 : decode cX8_peek 0 = .ok (.iload_n 1, 1) := by decide +kernel
theorem dX8_peek_1 : decode cX8_peek 1 = .ok (.ifCond .lt 10, 3) := by decide +kernel
theorem dX8_peek_4 : decode cX8_peek 4 = .ok (.iload_n 1, 1) := by decide +kernel
theorem dX8_peek_5 : decode cX8_peek 5 = .ok (.sipush 4096, 3) := by decide +kernel
theorem dX8_peek_8 : decode cX8_peek 8 = .ok (.if_icmp .lt 8, 3) := by decide +kernel
theorem dX8_peek_11 : decode cX8_peek 11 = .ok (.bipush (-2), 2) := by decide +kernel
theorem dX8_peek_13 : decode cX8_peek 13 = .ok (.goto 9, 3) := by decide +kernel
theorem dX8_peek_16 : decode cX8_peek 16 = .ok (.aload_n 0, 1) := by decide +kernel
theorem dX8_peek_17 : decode cX8_peek 17 = .ok (.getfield 7, 3) := by decide +kernel
theorem dX8_peek_20 : decode cX8_peek 20 = .ok (.iload_n 1, 1) := by decide +kernel
theorem dX8_peek_21 : decode cX8_peek 21 = .ok (.iaload, 1) := by decide +kernel
theorem dX8_peek_22 : decode cX8_peek 22 = .ok (.ireturn, 1) := by decide +kernel
theorem dX8_poke_0 : decode cX8_poke 0 = .ok (.iload_n 1, 1) := by decide +kernel
theorem dX8_poke_1 : decode cX8_poke 1 = .ok (.ifCond .lt 10, 3) := by decide +kernel
theorem dX8_poke_4 : decode cX8_poke 4 = .ok (.iload_n 1, 1) := by decide +kernel
theorem dX8_poke_5 : decode cX8_poke 5 = .ok (.sipush 4096, 3) := by decide +kernel
theorem dX8_poke_8 : decode cX8_poke 8 = .ok (.if_icmp .lt 6, 3) := by decide +kernel
theorem dX8_poke_11 : decode cX8_poke 11 = .ok (.bipush (-2), 2) := by decide +kernel
theorem dX8_poke_13 : decode cX8_poke 13 = .ok (.ireturn, 1) := by decide +kernel
theorem dX8_poke_14 : decode cX8_poke 14 = .ok (.aload_n 0, 1) := by decide +kernel
theorem dX8_poke_15 : decode cX8_poke 15 = .ok (.getfield 7, 3) := by decide +kernel
theorem dX8_poke_18 : decode cX8_poke 18 = .ok (.iload_n 1, 1) := by decide +kernel
theorem dX8_poke_19 : decode cX8_poke 19 = .ok (.iaload, 1) := by decide +kernel
theorem dX8_poke_20 : decode cX8_poke 20 = .ok (.istore_n 3, 1) := by decide +kernel
theorem dX8_poke_21 : decode cX8_poke 21 = .ok (.aload_n 0, 1) := by decide +kernel
theorem dX8_poke_22 : decode cX8_poke 22 = .ok (.getfield 7, 3) := by decide +kernel
theorem dX8_poke_25 : decode cX8_poke 25 = .ok (.iload_n 1, 1) := by decide +kernel
theorem dX8_poke_26 : decode cX8_poke 26 = .ok (.iload_n 2, 1) := by decide +kernel
theorem dX8_poke_27 : decode cX8_poke 27 = .ok (.sipush 255, 3) := by decide +kernel
theorem dX8_poke_30 : decode cX8_poke 30 = .ok (.iand, 1) := by decide +kernel
theorem dX8_poke_31 : decode cX8_poke 31 = .ok (.iastore, 1) := by decide +kernel
theorem dX8_poke_32 : decode cX8_poke 32 = .ok (.iload_n 3, 1) := by decide +kernel
theorem dX8_poke_33 : decode cX8_poke 33 = .ok (.ireturn, 1) := by decide +kernel
theorem dX8_strict_0 : decode cX8_strict 0 = .ok (.aload_n 0, 1) := by decide +kernel
theorem dX8_strict_1 : decode cX8_strict 1 = .ok (.getfield 80, 3) := by decide +kernel
theorem dX8_strict_4 : decode cX8_strict 4 = .ok (.istore_n 2, 1) := by decide +kernel
theorem dX8_strict_5 : decode cX8_strict 5 = .ok (.aload_n 0, 1) := by decide +kernel
theorem dX8_strict_6 : decode cX8_strict 6 = .ok (.iload_n 1, 1) := by decide +kernel
theorem dX8_strict_7 : decode cX8_strict 7 = .ok (.putfield 80, 3) := by decide +kernel
theorem dX8_strict_10 : decode cX8_strict 10 = .ok (.iload_n 2, 1) := by decide +kernel
theorem dX8_strict_11 : decode cX8_strict 11 = .ok (.ireturn, 1) := by decide +kernel
theorem dX8_linked_0 : decode cX8_linked 0 = .ok (.iload_n 1, 1) := by decide +kernel
theorem dX8_linked_1 : decode cX8_linked 1 = .ok (.ifCond .ne 7, 3) := by decide +kernel
theorem dX8_linked_4 : decode cX8_linked 4 = .ok (.iconst 0, 1) := by decide +kernel
theorem dX8_linked_5 : decode cX8_linked 5 = .ok (.goto 21, 3) := by decide +kernel
theorem dX8_linked_8 : decode cX8_linked 8 = .ok (.aload_n 0, 1) := by decide +kernel
theorem dX8_linked_9 : decode cX8_linked 9 = .ok (.iload_n 1, 1) := by decide +kernel
theorem dX8_linked_10 : decode cX8_linked 10 = .ok (.invokevirtual 66, 3) := by decide +kernel
theorem dX8_linked_13 : decode cX8_linked 13 = .ok (.ifCond .eq 12, 3) := by decide +kernel
theorem dX8_linked_16 : decode cX8_linked 16 = .ok (.aload_n 0, 1) := by decide +kernel
theorem dX8_linked_17 : decode cX8_linked 17 = .ok (.iload_n 1, 1) := by decide +kernel
theorem dX8_linked_18 : decode cX8_linked 18 = .ok (.iload_n 2, 1) := by decide +kernel
theorem dX8_linked_19 : decode cX8_linked 19 = .ok (.invokevirtual 70, 3) := by decide +kernel
theorem dX8_linked_22 : decode cX8_linked 22 = .ok (.goto 4, 3) := by decide +kernel
theorem dX8_linked_25 : decode cX8_linked 25 = .ok (.iconst (-1), 1) := by decide +kernel
theorem dX8_linked_26 : decode cX8_linked 26 = .ok (.ireturn, 1) := by decide +kernel
theorem dX8_parent_0 : decode cX8_parent 0 = .ok (.aload_n 0, 1) := by decide +kernel
theorem dX8_parent_1 : decode cX8_parent 1 = .ok (.iload_n 1, 1) := by decide +kernel
theorem dX8_parent_2 : decode cX8_parent 2 = .ok (.iconst 0, 1) := by decide +kernel
theorem dX8_parent_3 : decode cX8_parent 3 = .ok (.invokevirtual 83, 3) := by decide +kernel
theorem dX8_parent_6 : decode cX8_parent 6 = .ok (.ireturn, 1) := by decide +kernel
theorem dX8_child_0 : decode cX8_child 0 = .ok (.aload_n 0, 1) := by decide +kernel
theorem dX8_child_1 : decode cX8_child 1 = .ok (.iload_n 1, 1) := by decide +kernel
theorem dX8_child_2 : decode cX8_child 2 = .ok (.iconst 2, 1) := by decide +kernel
theorem dX8_child_3 : decode cX8_child 3 = .ok (.invokevirtual 83, 3) := by decide +kernel
theorem dX8_child_6 : decode cX8_child 6 = .ok (.ireturn, 1) := by decide +kernel
theorem dX8_sibling_0 : decode cX8_sibling 0 = .ok (.aload_n 0, 1) := by decide +kernel
theorem dX8_sibling_1 : decode cX8_sibling 1 = .ok (.iload_n 1, 1) := by decide +kernel
theorem dX8_sibling_2 : decode cX8_sibling 2 = .ok (.iconst 1, 1) := by decide +kernel
theorem dX8_sibling_3 : decode cX8_sibling 3 = .ok (.invokevirtual 83, 3) := by decide +kernel
theorem dX8_sibling_6 : decode cX8_sibling 6 = .ok (.ireturn, 1) := by decide +kernel
theorem dX8_canLeave_0 : decode cX8_canLeave 0 = .ok (.aload_n 0, 1) := by decide +kernel
theorem dX8_canLeave_1 : decode cX8_canLeave 1 = .ok (.iload_n 1, 1) := by decide +kernel
theorem dX8_canLeave_2 : decode cX8_canLeave 2 = .ok (.iconst 0, 1) := by decide +kernel
theorem dX8_canLeave_3 : decode cX8_canLeave 3 = .ok (.invokevirtual 70, 3) := by decide +kernel
theorem dX8_canLeave_6 : decode cX8_canLeave 6 = .ok (.istore_n 2, 1) := by decide +kernel
theorem dX8_canLeave_7 : decode cX8_canLeave 7 = .ok (.iload_n 2, 1) := by decide +kernel
theorem dX8_canLeave_8 : decode cX8_canLeave 8 = .ok (.ifCond .eq 26, 3) := by decide +kernel
theorem dX8_canLeave_11 : decode cX8_canLeave 11 = .ok (.aload_n 0, 1) := by decide +kernel
theorem dX8_canLeave_12 : decode cX8_canLeave 12 = .ok (.iload_n 2, 1) := by decide +kernel
theorem dX8_canLeave_13 : decode cX8_canLeave 13 = .ok (.invokevirtual 66, 3) := by decide +kernel
theorem dX8_canLeave_16 : decode cX8_canLeave 16 = .ok (.ifCond .eq 22, 3) := by decide +kernel
theorem dX8_canLeave_19 : decode cX8_canLeave 19 = .ok (.aload_n 0, 1) := by decide +kernel
theorem dX8_canLeave_20 : decode cX8_canLeave 20 = .ok (.aload_n 0, 1) := by decide +kernel
theorem dX8_canLeave_21 : decode cX8_canLeave 21 = .ok (.iload_n 2, 1) := by decide +kernel
theorem dX8_canLeave_22 : decode cX8_canLeave 22 = .ok (.iconst 2, 1) := by decide +kernel
theorem dX8_canLeave_23 : decode cX8_canLeave 23 = .ok (.invokevirtual 70, 3) := by decide +kernel
theorem dX8_canLeave_26 : decode cX8_canLeave 26 = .ok (.iconst 1, 1) := by decide +kernel
theorem dX8_canLeave_27 : decode cX8_canLeave 27 = .ok (.iload_n 1, 1) := by decide +kernel
theorem dX8_canLeave_28 : decode cX8_canLeave 28 = .ok (.invokevirtual 86, 3) := by decide +kernel
theorem dX8_canLeave_31 : decode cX8_canLeave 31 = .ok (.ifCond .eq 7, 3) := by decide +kernel
theorem dX8_canLeave_34 : decode cX8_canLeave 34 = .ok (.iconst 1, 1) := by decide +kernel
theorem dX8_canLeave_35 : decode cX8_canLeave 35 = .ok (.goto 4, 3) := by decide +kernel
theorem dX8_canLeave_38 : decode cX8_canLeave 38 = .ok (.iconst 0, 1) := by decide +kernel
theorem dX8_canLeave_39 : decode cX8_canLeave 39 = .ok (.ireturn, 1) := by decide +kernel
theorem dX8_leave_0 : decode cX8_leave 0 = .ok (.aload_n 0, 1) := by decide +kernel
theorem dX8_leave_1 : decode cX8_leave 1 = .ok (.iload_n 1, 1) := by decide +kernel
theorem dX8_leave_2 : decode cX8_leave 2 = .ok (.iconst 0, 1) := by decide +kernel
theorem dX8_leave_3 : decode cX8_leave 3 = .ok (.invokevirtual 70, 3) := by decide +kernel
theorem dX8_leave_6 : decode cX8_leave 6 = .ok (.istore_n 2, 1) := by decide +kernel
theorem dX8_leave_7 : decode cX8_leave 7 = .ok (.iload_n 2, 1) := by decide +kernel
theorem dX8_leave_8 : decode cX8_leave 8 = .ok (.ifCond .eq 75, 3) := by decide +kernel
theorem dX8_leave_11 : decode cX8_leave 11 = .ok (.aload_n 0, 1) := by decide +kernel
theorem dX8_leave_12 : decode cX8_leave 12 = .ok (.iload_n 2, 1) := by decide +kernel
theorem dX8_leave_13 : decode cX8_leave 13 = .ok (.iconst 2, 1) := by decide +kernel
theorem dX8_leave_14 : decode cX8_leave 14 = .ok (.invokevirtual 70, 3) := by decide +kernel
theorem dX8_leave_17 : decode cX8_leave 17 = .ok (.istore_n 3, 1) := by decide +kernel
theorem dX8_leave_18 : decode cX8_leave 18 = .ok (.iload_n 3, 1) := by decide +kernel
theorem dX8_leave_19 : decode cX8_leave 19 = .ok (.iload_n 1, 1) := by decide +kernel
theorem dX8_leave_20 : decode cX8_leave 20 = .ok (.if_icmp .ne 18, 3) := by decide +kernel
theorem dX8_leave_23 : decode cX8_leave 23 = .ok (.aload_n 0, 1) := by decide +kernel
theorem dX8_leave_24 : decode cX8_leave 24 = .ok (.iload_n 2, 1) := by decide +kernel
theorem dX8_leave_25 : decode cX8_leave 25 = .ok (.iconst 2, 1) := by decide +kernel
theorem dX8_leave_26 : decode cX8_leave 26 = .ok (.aload_n 0, 1) := by decide +kernel
theorem dX8_leave_27 : decode cX8_leave 27 = .ok (.iload_n 1, 1) := by decide +kernel
theorem dX8_leave_28 : decode cX8_leave 28 = .ok (.iconst 1, 1) := by decide +kernel
theorem dX8_leave_29 : decode cX8_leave 29 = .ok (.invokevirtual 70, 3) := by decide +kernel
theorem dX8_leave_32 : decode cX8_leave 32 = .ok (.invokevirtual 90, 3) := by decide +kernel
theorem dX8_leave_35 : decode cX8_leave 35 = .ok (.goto 48, 3) := by decide +kernel
theorem dX8_leave_38 : decode cX8_leave 38 = .ok (.iconst 0, 1) := by decide +kernel
theorem dX8_leave_39 : decode cX8_leave 39 = .ok (.istore 4, 2) := by decide +kernel
theorem dX8_leave_41 : decode cX8_leave 41 = .ok (.iload 4, 2) := by decide +kernel
theorem dX8_leave_43 : decode cX8_leave 43 = .ok (.bipush 100, 2) := by decide +kernel
theorem dX8_leave_45 : decode cX8_leave 45 = .ok (.if_icmp .ge 26, 3) := by decide +kernel
theorem dX8_leave_48 : decode cX8_leave 48 = .ok (.aload_n 0, 1) := by decide +kernel
theorem dX8_leave_49 : decode cX8_leave 49 = .ok (.iload_n 3, 1) := by decide +kernel
theorem dX8_leave_50 : decode cX8_leave 50 = .ok (.iconst 1, 1) := by decide +kernel
theorem dX8_leave_51 : decode cX8_leave 51 = .ok (.invokevirtual 70, 3) := by decide +kernel
theorem dX8_leave_54 : decode cX8_leave 54 = .ok (.iload_n 1, 1) := by decide +kernel
theorem dX8_leave_55 : decode cX8_leave 55 = .ok (.if_icmp .eq 16, 3) := by decide +kernel
theorem dX8_leave_58 : decode cX8_leave 58 = .ok (.aload_n 0, 1) := by decide +kernel
theorem dX8_leave_59 : decode cX8_leave 59 = .ok (.iload_n 3, 1) := by decide +kernel
theorem dX8_leave_60 : decode cX8_leave 60 = .ok (.iconst 1, 1) := by decide +kernel
theorem dX8_leave_61 : decode cX8_leave 61 = .ok (.invokevirtual 70, 3) := by decide +kernel
theorem dX8_leave_64 : decode cX8_leave 64 = .ok (.istore_n 3, 1) := by decide +kernel
theorem dX8_leave_65 : decode cX8_leave 65 = .ok (.iinc 4 1, 3) := by decide +kernel
theorem dX8_leave_68 : decode cX8_leave 68 = .ok (.goto (-27), 3) := by decide +kernel
theorem dX8_leave_71 : decode cX8_leave 71 = .ok (.aload_n 0, 1) := by decide +kernel
theorem dX8_leave_72 : decode cX8_leave 72 = .ok (.iload_n 3, 1) := by decide +kernel
theorem dX8_leave_73 : decode cX8_leave 73 = .ok (.iconst 1, 1) := by decide +kernel
theorem dX8_leave_74 : decode cX8_leave 74 = .ok (.aload_n 0, 1) := by decide +kernel
theorem dX8_leave_75 : decode cX8_leave 75 = .ok (.iload_n 1, 1) := by decide +kernel
theorem dX8_leave_76 : decode cX8_leave 76 = .ok (.iconst 1, 1) := by decide +kernel
theorem dX8_leave_77 : decode cX8_leave 77 = .ok (.invokevirtual 70, 3) := by decide +kernel
theorem dX8_leave_80 : decode cX8_leave 80 = .ok (.invokevirtual 90, 3) := by decide +kernel
theorem dX8_leave_83 : decode cX8_leave 83 = .ok (.aload_n 0, 1) := by decide +kernel
theorem dX8_leave_84 : decode cX8_leave 84 = .ok (.iload_n 1, 1) := by decide +kernel
theorem dX8_leave_85 : decode cX8_leave 85 = .ok (.iconst 0, 1) := by decide +kernel
theorem dX8_leave_86 : decode cX8_leave 86 = .ok (.iconst 0, 1) := by decide +kernel
theorem dX8_leave_87 : decode cX8_leave 87 = .ok (.invokevirtual 90, 3) := by decide +kernel
theorem dX8_leave_90 : decode cX8_leave 90 = .ok (.aload_n 0, 1) := by decide +kernel
theorem dX8_leave_91 : decode cX8_leave 91 = .ok (.iload_n 1, 1) := by decide +kernel
theorem dX8_leave_92 : decode cX8_leave 92 = .ok (.iconst 1, 1) := by decide +kernel
theorem dX8_leave_93 : decode cX8_leave 93 = .ok (.iconst 0, 1) := by decide +kernel
theorem dX8_leave_94 : decode cX8_leave 94 = .ok (.invokevirtual 90, 3) := by decide +kernel
theorem dX8_leave_97 : decode cX8_leave 97 = .ok (.return_, 1) := by decide +kernel
theorem dX8_remove_0 : decode cX8_remove 0 = .ok (.aload_n 0, 1) := by decide +kernel
theorem dX8_remove_1 : decode cX8_remove 1 = .ok (.iload_n 1, 1) := by decide +kernel
theorem dX8_remove_2 : decode cX8_remove 2 = .ok (.invokevirtual 66, 3) := by decide +kernel
theorem dX8_remove_5 : decode cX8_remove 5 = .ok (.ifCond .ne 5, 3) := by decide +kernel
theorem dX8_remove_8 : decode cX8_remove 8 = .ok (.iconst (-1), 1) := by decide +kernel
theorem dX8_remove_9 : decode cX8_remove 9 = .ok (.ireturn, 1) := by decide +kernel
theorem dX8_remove_10 : decode cX8_remove 10 = .ok (.aload_n 0, 1) := by decide +kernel
theorem dX8_remove_11 : decode cX8_remove 11 = .ok (.iload_n 1, 1) := by decide +kernel
theorem dX8_remove_12 : decode cX8_remove 12 = .ok (.invokevirtual 94, 3) := by decide +kernel
theorem dX8_remove_15 : decode cX8_remove 15 = .ok (.ifCond .ne 6, 3) := by decide +kernel
theorem dX8_remove_18 : decode cX8_remove 18 = .ok (.bipush (-3), 2) := by decide +kernel
theorem dX8_remove_20 : decode cX8_remove 20 = .ok (.ireturn, 1) := by decide +kernel
theorem dX8_remove_21 : decode cX8_remove 21 = .ok (.aload_n 0, 1) := by decide +kernel
theorem dX8_remove_22 : decode cX8_remove 22 = .ok (.iload_n 1, 1) := by decide +kernel
theorem dX8_remove_23 : decode cX8_remove 23 = .ok (.invokevirtual 97, 3) := by decide +kernel
theorem dX8_remove_26 : decode cX8_remove 26 = .ok (.iconst 1, 1) := by decide +kernel
theorem dX8_remove_27 : decode cX8_remove 27 = .ok (.ireturn, 1) := by decide +kernel
theorem dX8_move_0 : decode cX8_move 0 = .ok (.aload_n 0, 1) := by decide +kernel
theorem dX8_move_1 : decode cX8_move 1 = .ok (.iload_n 1, 1) := by decide +kernel
theorem dX8_move_2 : decode cX8_move 2 = .ok (.invokevirtual 66, 3) := by decide +kernel
theorem dX8_move_5 : decode cX8_move 5 = .ok (.ifCond .eq 11, 3) := by decide +kernel
theorem dX8_move_8 : decode cX8_move 8 = .ok (.aload_n 0, 1) := by decide +kernel
theorem dX8_move_9 : decode cX8_move 9 = .ok (.iload_n 2, 1) := by decide +kernel
theorem dX8_move_10 : decode cX8_move 10 = .ok (.invokevirtual 66, 3) := by decide +kernel
theorem dX8_move_13 : decode cX8_move 13 = .ok (.ifCond .ne 5, 3) := by decide +kernel
theorem dX8_move_16 : decode cX8_move 16 = .ok (.iconst (-1), 1) := by decide +kernel
theorem dX8_move_17 : decode cX8_move 17 = .ok (.ireturn, 1) := by decide +kernel
theorem dX8_move_18 : decode cX8_move 18 = .ok (.aload_n 0, 1) := by decide +kernel
theorem dX8_move_19 : decode cX8_move 19 = .ok (.iload_n 1, 1) := by decide +kernel
theorem dX8_move_20 : decode cX8_move 20 = .ok (.invokevirtual 94, 3) := by decide +kernel
theorem dX8_move_23 : decode cX8_move 23 = .ok (.ifCond .eq 20, 3) := by decide +kernel
theorem dX8_move_26 : decode cX8_move 26 = .ok (.aload_n 0, 1) := by decide +kernel
theorem dX8_move_27 : decode cX8_move 27 = .ok (.getfield 80, 3) := by decide +kernel
theorem dX8_move_30 : decode cX8_move 30 = .ok (.ifCond .eq 16, 3) := by decide +kernel
theorem dX8_move_33 : decode cX8_move 33 = .ok (.aload_n 0, 1) := by decide +kernel
theorem dX8_move_34 : decode cX8_move 34 = .ok (.iload_n 2, 1) := by decide +kernel
theorem dX8_move_35 : decode cX8_move 35 = .ok (.iconst 0, 1) := by decide +kernel
theorem dX8_move_36 : decode cX8_move 36 = .ok (.iload_n 1, 1) := by decide +kernel
theorem dX8_move_37 : decode cX8_move 37 = .ok (.invokevirtual 86, 3) := by decide +kernel
theorem dX8_move_40 : decode cX8_move 40 = .ok (.ifCond .eq 6, 3) := by decide +kernel
theorem dX8_move_43 : decode cX8_move 43 = .ok (.bipush (-3), 2) := by decide +kernel
theorem dX8_move_45 : decode cX8_move 45 = .ok (.ireturn, 1) := by decide +kernel
theorem dX8_move_46 : decode cX8_move 46 = .ok (.aload_n 0, 1) := by decide +kernel
theorem dX8_move_47 : decode cX8_move 47 = .ok (.iload_n 1, 1) := by decide +kernel
theorem dX8_move_48 : decode cX8_move 48 = .ok (.invokevirtual 97, 3) := by decide +kernel
theorem dX8_move_51 : decode cX8_move 51 = .ok (.aload_n 0, 1) := by decide +kernel
theorem dX8_move_52 : decode cX8_move 52 = .ok (.iload_n 1, 1) := by decide +kernel
theorem dX8_move_53 : decode cX8_move 53 = .ok (.iconst 1, 1) := by decide +kernel
theorem dX8_move_54 : decode cX8_move 54 = .ok (.aload_n 0, 1) := by decide +kernel
theorem dX8_move_55 : decode cX8_move 55 = .ok (.iload_n 2, 1) := by decide +kernel
theorem dX8_move_56 : decode cX8_move 56 = .ok (.iconst 2, 1) := by decide +kernel
theorem dX8_move_57 : decode cX8_move 57 = .ok (.invokevirtual 70, 3) := by decide +kernel
theorem dX8_move_60 : decode cX8_move 60 = .ok (.invokevirtual 90, 3) := by decide +kernel
theorem dX8_move_63 : decode cX8_move 63 = .ok (.aload_n 0, 1) := by decide +kernel
theorem dX8_move_64 : decode cX8_move 64 = .ok (.iload_n 1, 1) := by decide +kernel
theorem dX8_move_65 : decode cX8_move 65 = .ok (.iconst 0, 1) := by decide +kernel
theorem dX8_move_66 : decode cX8_move 66 = .ok (.iload_n 2, 1) := by decide +kernel
theorem dX8_move_67 : decode cX8_move 67 = .ok (.invokevirtual 90, 3) := by decide +kernel
theorem dX8_move_70 : decode cX8_move 70 = .ok (.aload_n 0, 1) := by decide +kernel
theorem dX8_move_71 : decode cX8_move 71 = .ok (.iload_n 2, 1) := by decide +kernel
theorem dX8_move_72 : decode cX8_move 72 = .ok (.iconst 2, 1) := by decide +kernel
theorem dX8_move_73 : decode cX8_move 73 = .ok (.iload_n 1, 1) := by decide +kernel
theorem dX8_move_74 : decode cX8_move 74 = .ok (.invokevirtual 90, 3) := by decide +kernel
theorem dX8_move_77 : decode cX8_move 77 = .ok (.iconst 1, 1) := by decide +kernel
theorem dX8_move_78 : decode cX8_move 78 = .ok (.ireturn, 1) := by decide +kernel
theorem dX8_attribute_0 : decode cX8_attribute 0 = .ok (.aload_n 0, 1) := by decide +kernel
theorem dX8_attribute_1 : decode cX8_attribute 1 = .ok (.iload_n 1, 1) := by decide +kernel
theorem dX8_attribute_2 : decode cX8_attribute 2 = .ok (.invokevirtual 66, 3) := by decide +kernel
theorem dX8_attribute_5 : decode cX8_attribute 5 = .ok (.ifCond .ne 5, 3) := by decide +kernel
theorem dX8_attribute_8 : decode cX8_attribute 8 = .ok (.iconst (-1), 1) := by decide +kernel
theorem dX8_attribute_9 : decode cX8_attribute 9 = .ok (.ireturn, 1) := by decide +kernel
theorem dX8_attribute_10 : decode cX8_attribute 10 = .ok (.iload_n 2, 1) := by decide +kernel
theorem dX8_attribute_11 : decode cX8_attribute 11 = .ok (.ifCond .lt 30, 3) := by decide +kernel
theorem dX8_attribute_14 : decode cX8_attribute 14 = .ok (.iload_n 2, 1) := by decide +kernel
theorem dX8_attribute_15 : decode cX8_attribute 15 = .ok (.aload_n 0, 1) := by decide +kernel
theorem dX8_attribute_16 : decode cX8_attribute 16 = .ok (.getfield 39, 3) := by decide +kernel
theorem dX8_attribute_19 : decode cX8_attribute 19 = .ok (.ifCond .eq 8, 3) := by decide +kernel
theorem dX8_attribute_22 : decode cX8_attribute 22 = .ok (.bipush 48, 2) := by decide +kernel
theorem dX8_attribute_24 : decode cX8_attribute 24 = .ok (.goto 5, 3) := by decide +kernel
theorem dX8_attribute_27 : decode cX8_attribute 27 = .ok (.bipush 32, 2) := by decide +kernel
theorem dX8_attribute_29 : decode cX8_attribute 29 = .ok (.if_icmp .ge 12, 3) := by decide +kernel
theorem dX8_attribute_32 : decode cX8_attribute 32 = .ok (.iload_n 3, 1) := by decide +kernel
theorem dX8_attribute_33 : decode cX8_attribute 33 = .ok (.ifCond .lt 8, 3) := by decide +kernel
theorem dX8_attribute_36 : decode cX8_attribute 36 = .ok (.iload_n 3, 1) := by decide +kernel
theorem dX8_attribute_37 : decode cX8_attribute 37 = .ok (.iconst 2, 1) := by decide +kernel
theorem dX8_attribute_38 : decode cX8_attribute 38 = .ok (.if_icmp .le 6, 3) := by decide +kernel
theorem dX8_attribute_41 : decode cX8_attribute 41 = .ok (.bipush (-2), 2) := by decide +kernel
theorem dX8_attribute_43 : decode cX8_attribute 43 = .ok (.ireturn, 1) := by decide +kernel
theorem dX8_attribute_44 : decode cX8_attribute 44 = .ok (.aload_n 0, 1) := by decide +kernel
theorem dX8_attribute_45 : decode cX8_attribute 45 = .ok (.iload_n 1, 1) := by decide +kernel
theorem dX8_attribute_46 : decode cX8_attribute 46 = .ok (.invokevirtual 54, 3) := by decide +kernel
theorem dX8_attribute_49 : decode cX8_attribute 49 = .ok (.iload_n 2, 1) := by decide +kernel
theorem dX8_attribute_50 : decode cX8_attribute 50 = .ok (.bipush 8, 2) := by decide +kernel
theorem dX8_attribute_52 : decode cX8_attribute 52 = .ok (.idiv, 1) := by decide +kernel
theorem dX8_attribute_53 : decode cX8_attribute 53 = .ok (.iadd, 1) := by decide +kernel
theorem dX8_attribute_54 : decode cX8_attribute 54 = .ok (.istore 4, 2) := by decide +kernel
theorem dX8_attribute_56 : decode cX8_attribute 56 = .ok (.sipush 128, 3) := by decide +kernel
theorem dX8_attribute_59 : decode cX8_attribute 59 = .ok (.iload_n 2, 1) := by decide +kernel
theorem dX8_attribute_60 : decode cX8_attribute 60 = .ok (.bipush 8, 2) := by decide +kernel
theorem dX8_attribute_62 : decode cX8_attribute 62 = .ok (.irem, 1) := by decide +kernel
theorem dX8_attribute_63 : decode cX8_attribute 63 = .ok (.ishr, 1) := by decide +kernel
theorem dX8_attribute_64 : decode cX8_attribute 64 = .ok (.istore 5, 2) := by decide +kernel
theorem dX8_attribute_66 : decode cX8_attribute 66 = .ok (.iload_n 3, 1) := by decide +kernel
theorem dX8_attribute_67 : decode cX8_attribute 67 = .ok (.ifCond .ne 21, 3) := by decide +kernel
theorem dX8_attribute_70 : decode cX8_attribute 70 = .ok (.aload_n 0, 1) := by decide +kernel
theorem dX8_attribute_71 : decode cX8_attribute 71 = .ok (.iload 4, 2) := by decide +kernel
theorem dX8_attribute_73 : decode cX8_attribute 73 = .ok (.invokevirtual 46, 3) := by decide +kernel
theorem dX8_attribute_76 : decode cX8_attribute 76 = .ok (.iload 5, 2) := by decide +kernel
theorem dX8_attribute_78 : decode cX8_attribute 78 = .ok (.iand, 1) := by decide +kernel
theorem dX8_attribute_79 : decode cX8_attribute 79 = .ok (.ifCond .eq 7, 3) := by decide +kernel
theorem dX8_attribute_82 : decode cX8_attribute 82 = .ok (.iconst 1, 1) := by decide +kernel
theorem dX8_attribute_83 : decode cX8_attribute 83 = .ok (.goto 4, 3) := by decide +kernel
theorem dX8_attribute_86 : decode cX8_attribute 86 = .ok (.iconst 0, 1) := by decide +kernel
theorem dX8_attribute_87 : decode cX8_attribute 87 = .ok (.ireturn, 1) := by decide +kernel
theorem dX8_attribute_88 : decode cX8_attribute 88 = .ok (.aload_n 0, 1) := by decide +kernel
theorem dX8_attribute_89 : decode cX8_attribute 89 = .ok (.iload 4, 2) := by decide +kernel
theorem dX8_attribute_91 : decode cX8_attribute 91 = .ok (.iload_n 3, 1) := by decide +kernel
theorem dX8_attribute_92 : decode cX8_attribute 92 = .ok (.iconst 1, 1) := by decide +kernel
theorem dX8_attribute_93 : decode cX8_attribute 93 = .ok (.if_icmp .ne 15, 3) := by decide +kernel
theorem dX8_attribute_96 : decode cX8_attribute 96 = .ok (.aload_n 0, 1) := by decide +kernel
theorem dX8_attribute_97 : decode cX8_attribute 97 = .ok (.iload 4, 2) := by decide +kernel
theorem dX8_attribute_99 : decode cX8_attribute 99 = .ok (.invokevirtual 46, 3) := by decide +kernel
theorem dX8_attribute_102 : decode cX8_attribute 102 = .ok (.iload 5, 2) := by decide +kernel
theorem dX8_attribute_104 : decode cX8_attribute 104 = .ok (.ior, 1) := by decide +kernel
theorem dX8_attribute_105 : decode cX8_attribute 105 = .ok (.goto 14, 3) := by decide +kernel
theorem dX8_attribute_108 : decode cX8_attribute 108 = .ok (.aload_n 0, 1) := by decide +kernel
theorem dX8_attribute_109 : decode cX8_attribute 109 = .ok (.iload 4, 2) := by decide +kernel
theorem dX8_attribute_111 : decode cX8_attribute 111 = .ok (.invokevirtual 46, 3) := by decide +kernel
theorem dX8_attribute_114 : decode cX8_attribute 114 = .ok (.iload 5, 2) := by decide +kernel
theorem dX8_attribute_116 : decode cX8_attribute 116 = .ok (.iconst (-1), 1) := by decide +kernel
theorem dX8_attribute_117 : decode cX8_attribute 117 = .ok (.ixor, 1) := by decide +kernel
theorem dX8_attribute_118 : decode cX8_attribute 118 = .ok (.iand, 1) := by decide +kernel
theorem dX8_attribute_119 : decode cX8_attribute 119 = .ok (.invokevirtual 50, 3) := by decide +kernel
theorem dX8_attribute_122 : decode cX8_attribute 122 = .ok (.iconst 1, 1) := by decide +kernel
theorem dX8_attribute_123 : decode cX8_attribute 123 = .ok (.ireturn, 1) := by decide +kernel
theorem dX8_firstOf_0 : decode cX8_firstOf 0 = .ok (.aload_n 0, 1) := by decide +kernel
theorem dX8_firstOf_1 : decode cX8_firstOf 1 = .ok (.aload_n 0, 1) := by decide +kernel
theorem dX8_firstOf_2 : decode cX8_firstOf 2 = .ok (.iload_n 1, 1) := by decide +kernel
theorem dX8_firstOf_3 : decode cX8_firstOf 3 = .ok (.invokevirtual 77, 3) := by decide +kernel
theorem dX8_firstOf_6 : decode cX8_firstOf 6 = .ok (.invokevirtual 57, 3) := by decide +kernel
theorem dX8_firstOf_9 : decode cX8_firstOf 9 = .ok (.istore_n 2, 1) := by decide +kernel
theorem dX8_firstOf_10 : decode cX8_firstOf 10 = .ok (.iload_n 2, 1) := by decide +kernel
theorem dX8_firstOf_11 : decode cX8_firstOf 11 = .ok (.iconst 1, 1) := by decide +kernel
theorem dX8_firstOf_12 : decode cX8_firstOf 12 = .ok (.iadd, 1) := by decide +kernel
theorem dX8_firstOf_13 : decode cX8_firstOf 13 = .ok (.iconst 2, 1) := by decide +kernel
theorem dX8_firstOf_14 : decode cX8_firstOf 14 = .ok (.aload_n 0, 1) := by decide +kernel
theorem dX8_firstOf_15 : decode cX8_firstOf 15 = .ok (.iload_n 2, 1) := by decide +kernel
theorem dX8_firstOf_16 : decode cX8_firstOf 16 = .ok (.invokevirtual 46, 3) := by decide +kernel
theorem dX8_firstOf_19 : decode cX8_firstOf 19 = .ok (.imul, 1) := by decide +kernel
theorem dX8_firstOf_20 : decode cX8_firstOf 20 = .ok (.iadd, 1) := by decide +kernel
theorem dX8_firstOf_21 : decode cX8_firstOf 21 = .ok (.ireturn, 1) := by decide +kernel
theorem dX8_look_0 : decode cX8_look 0 = .ok (.aload_n 0, 1) := by decide +kernel
theorem dX8_look_1 : decode cX8_look 1 = .ok (.iload_n 1, 1) := by decide +kernel
theorem dX8_look_2 : decode cX8_look 2 = .ok (.invokevirtual 46, 3) := by decide +kernel
theorem dX8_look_5 : decode cX8_look 5 = .ok (.istore_n 2, 1) := by decide +kernel
theorem dX8_look_6 : decode cX8_look 6 = .ok (.iload_n 1, 1) := by decide +kernel
theorem dX8_look_7 : decode cX8_look 7 = .ok (.sipush 4096, 3) := by decide +kernel
theorem dX8_look_10 : decode cX8_look 10 = .ok (.if_icmp .ge 7, 3) := by decide +kernel
theorem dX8_look_13 : decode cX8_look 13 = .ok (.iload_n 2, 1) := by decide +kernel
theorem dX8_look_14 : decode cX8_look 14 = .ok (.ifCond .ne 5, 3) := by decide +kernel
theorem dX8_look_17 : decode cX8_look 17 = .ok (.iconst 0, 1) := by decide +kernel
theorem dX8_look_18 : decode cX8_look 18 = .ok (.ireturn, 1) := by decide +kernel
theorem dX8_look_19 : decode cX8_look 19 = .ok (.aload_n 0, 1) := by decide +kernel
theorem dX8_look_20 : decode cX8_look 20 = .ok (.getfield 39, 3) := by decide +kernel
theorem dX8_look_23 : decode cX8_look 23 = .ok (.ifCond .ne 31, 3) := by decide +kernel
theorem dX8_look_26 : decode cX8_look 26 = .ok (.aload_n 0, 1) := by decide +kernel
theorem dX8_look_27 : decode cX8_look 27 = .ok (.iload_n 2, 1) := by decide +kernel
theorem dX8_look_28 : decode cX8_look 28 = .ok (.bipush 32, 2) := by decide +kernel
theorem dX8_look_30 : decode cX8_look 30 = .ok (.irem, 1) := by decide +kernel
theorem dX8_look_31 : decode cX8_look 31 = .ok (.putfield 101, 3) := by decide +kernel
theorem dX8_look_34 : decode cX8_look 34 = .ok (.aload_n 0, 1) := by decide +kernel
theorem dX8_look_35 : decode cX8_look 35 = .ok (.iload_n 2, 1) := by decide +kernel
theorem dX8_look_36 : decode cX8_look 36 = .ok (.bipush 32, 2) := by decide +kernel
theorem dX8_look_38 : decode cX8_look 38 = .ok (.idiv, 1) := by decide +kernel
theorem dX8_look_39 : decode cX8_look 39 = .ok (.iconst 1, 1) := by decide +kernel
theorem dX8_look_40 : decode cX8_look 40 = .ok (.iadd, 1) := by decide +kernel
theorem dX8_look_41 : decode cX8_look 41 = .ok (.putfield 104, 3) := by decide +kernel
theorem dX8_look_44 : decode cX8_look 44 = .ok (.aload_n 0, 1) := by decide +kernel
theorem dX8_look_45 : decode cX8_look 45 = .ok (.iload_n 1, 1) := by decide +kernel
theorem dX8_look_46 : decode cX8_look 46 = .ok (.iconst 1, 1) := by decide +kernel
theorem dX8_look_47 : decode cX8_look 47 = .ok (.iadd, 1) := by decide +kernel
theorem dX8_look_48 : decode cX8_look 48 = .ok (.putfield 107, 3) := by decide +kernel
theorem dX8_look_51 : decode cX8_look 51 = .ok (.goto 78, 3) := by decide +kernel
theorem dX8_look_54 : decode cX8_look 54 = .ok (.iload_n 2, 1) := by decide +kernel
theorem dX8_look_55 : decode cX8_look 55 = .ok (.sipush 128, 3) := by decide +kernel
theorem dX8_look_58 : decode cX8_look 58 = .ok (.if_icmp .ge 31, 3) := by decide +kernel
theorem dX8_look_61 : decode cX8_look 61 = .ok (.aload_n 0, 1) := by decide +kernel
theorem dX8_look_62 : decode cX8_look 62 = .ok (.iload_n 2, 1) := by decide +kernel
theorem dX8_look_63 : decode cX8_look 63 = .ok (.bipush 64, 2) := by decide +kernel
theorem dX8_look_65 : decode cX8_look 65 = .ok (.irem, 1) := by decide +kernel
theorem dX8_look_66 : decode cX8_look 66 = .ok (.putfield 101, 3) := by decide +kernel
theorem dX8_look_69 : decode cX8_look 69 = .ok (.aload_n 0, 1) := by decide +kernel
theorem dX8_look_70 : decode cX8_look 70 = .ok (.iload_n 2, 1) := by decide +kernel
theorem dX8_look_71 : decode cX8_look 71 = .ok (.bipush 64, 2) := by decide +kernel
theorem dX8_look_73 : decode cX8_look 73 = .ok (.idiv, 1) := by decide +kernel
theorem dX8_look_74 : decode cX8_look 74 = .ok (.iconst 1, 1) := by decide +kernel
theorem dX8_look_75 : decode cX8_look 75 = .ok (.iadd, 1) := by decide +kernel
theorem dX8_look_76 : decode cX8_look 76 = .ok (.putfield 104, 3) := by decide +kernel
theorem dX8_look_79 : decode cX8_look 79 = .ok (.aload_n 0, 1) := by decide +kernel
theorem dX8_look_80 : decode cX8_look 80 = .ok (.iload_n 1, 1) := by decide +kernel
theorem dX8_look_81 : decode cX8_look 81 = .ok (.iconst 1, 1) := by decide +kernel
theorem dX8_look_82 : decode cX8_look 82 = .ok (.iadd, 1) := by decide +kernel
theorem dX8_look_83 : decode cX8_look 83 = .ok (.putfield 107, 3) := by decide +kernel
theorem dX8_look_86 : decode cX8_look 86 = .ok (.goto 43, 3) := by decide +kernel
theorem dX8_look_89 : decode cX8_look 89 = .ok (.aload_n 0, 1) := by decide +kernel
theorem dX8_look_90 : decode cX8_look 90 = .ok (.iload_n 1, 1) := by decide +kernel
theorem dX8_look_91 : decode cX8_look 91 = .ok (.iconst 1, 1) := by decide +kernel
theorem dX8_look_92 : decode cX8_look 92 = .ok (.iadd, 1) := by decide +kernel
theorem dX8_look_93 : decode cX8_look 93 = .ok (.invokevirtual 46, 3) := by decide +kernel
theorem dX8_look_96 : decode cX8_look 96 = .ok (.bipush 64, 2) := by decide +kernel
theorem dX8_look_98 : decode cX8_look 98 = .ok (.irem, 1) := by decide +kernel
theorem dX8_look_99 : decode cX8_look 99 = .ok (.istore_n 3, 1) := by decide +kernel
theorem dX8_look_100 : decode cX8_look 100 = .ok (.aload_n 0, 1) := by decide +kernel
theorem dX8_look_101 : decode cX8_look 101 = .ok (.iload_n 2, 1) := by decide +kernel
theorem dX8_look_102 : decode cX8_look 102 = .ok (.bipush 64, 2) := by decide +kernel
theorem dX8_look_104 : decode cX8_look 104 = .ok (.irem, 1) := by decide +kernel
theorem dX8_look_105 : decode cX8_look 105 = .ok (.putfield 101, 3) := by decide +kernel
theorem dX8_look_108 : decode cX8_look 108 = .ok (.aload_n 0, 1) := by decide +kernel
theorem dX8_look_109 : decode cX8_look 109 = .ok (.iload_n 3, 1) := by decide +kernel
theorem dX8_look_110 : decode cX8_look 110 = .ok (.ifCond .ne 8, 3) := by decide +kernel
theorem dX8_look_113 : decode cX8_look 113 = .ok (.bipush 64, 2) := by decide +kernel
theorem dX8_look_115 : decode cX8_look 115 = .ok (.goto 4, 3) := by decide +kernel
theorem dX8_look_118 : decode cX8_look 118 = .ok (.iload_n 3, 1) := by decide +kernel
theorem dX8_look_119 : decode cX8_look 119 = .ok (.putfield 104, 3) := by decide +kernel
theorem dX8_look_122 : decode cX8_look 122 = .ok (.aload_n 0, 1) := by decide +kernel
theorem dX8_look_123 : decode cX8_look 123 = .ok (.iload_n 1, 1) := by decide +kernel
theorem dX8_look_124 : decode cX8_look 124 = .ok (.iconst 2, 1) := by decide +kernel
theorem dX8_look_125 : decode cX8_look 125 = .ok (.iadd, 1) := by decide +kernel
theorem dX8_look_126 : decode cX8_look 126 = .ok (.putfield 107, 3) := by decide +kernel
theorem dX8_look_129 : decode cX8_look 129 = .ok (.iconst 1, 1) := by decide +kernel
theorem dX8_look_130 : decode cX8_look 130 = .ok (.ireturn, 1) := by decide +kernel
theorem dX8_find_0 : decode cX8_find 0 = .ok (.aload_n 0, 1) := by decide +kernel
theorem dX8_find_1 : decode cX8_find 1 = .ok (.iload_n 1, 1) := by decide +kernel
theorem dX8_find_2 : decode cX8_find 2 = .ok (.invokevirtual 110, 3) := by decide +kernel
theorem dX8_find_5 : decode cX8_find 5 = .ok (.istore_n 3, 1) := by decide +kernel
theorem dX8_find_6 : decode cX8_find 6 = .ok (.aload_n 0, 1) := by decide +kernel
theorem dX8_find_7 : decode cX8_find 7 = .ok (.iload_n 3, 1) := by decide +kernel
theorem dX8_find_8 : decode cX8_find 8 = .ok (.invokevirtual 113, 3) := by decide +kernel
theorem dX8_find_11 : decode cX8_find 11 = .ok (.ifCond .eq 26, 3) := by decide +kernel
theorem dX8_find_14 : decode cX8_find 14 = .ok (.aload_n 0, 1) := by decide +kernel
theorem dX8_find_15 : decode cX8_find 15 = .ok (.getfield 101, 3) := by decide +kernel
theorem dX8_find_18 : decode cX8_find 18 = .ok (.iload_n 2, 1) := by decide +kernel
theorem dX8_find_19 : decode cX8_find 19 = .ok (.if_icmp .ne 5, 3) := by decide +kernel
theorem dX8_find_22 : decode cX8_find 22 = .ok (.iconst 1, 1) := by decide +kernel
theorem dX8_find_23 : decode cX8_find 23 = .ok (.ireturn, 1) := by decide +kernel
theorem dX8_find_24 : decode cX8_find 24 = .ok (.aload_n 0, 1) := by decide +kernel
theorem dX8_find_25 : decode cX8_find 25 = .ok (.getfield 107, 3) := by decide +kernel
theorem dX8_find_28 : decode cX8_find 28 = .ok (.aload_n 0, 1) := by decide +kernel
theorem dX8_find_29 : decode cX8_find 29 = .ok (.getfield 104, 3) := by decide +kernel
theorem dX8_find_32 : decode cX8_find 32 = .ok (.iadd, 1) := by decide +kernel
theorem dX8_find_33 : decode cX8_find 33 = .ok (.istore_n 3, 1) := by decide +kernel
theorem dX8_find_34 : decode cX8_find 34 = .ok (.goto (-28), 3) := by decide +kernel
theorem dX8_find_37 : decode cX8_find 37 = .ok (.iconst 0, 1) := by decide +kernel
theorem dX8_find_38 : decode cX8_find 38 = .ok (.ireturn, 1) := by decide +kernel
theorem dX8_property_0 : decode cX8_property 0 = .ok (.aload_n 0, 1) := by decide +kernel
theorem dX8_property_1 : decode cX8_property 1 = .ok (.iload_n 1, 1) := by decide +kernel
theorem dX8_property_2 : decode cX8_property 2 = .ok (.invokevirtual 66, 3) := by decide +kernel
theorem dX8_property_5 : decode cX8_property 5 = .ok (.ifCond .ne 5, 3) := by decide +kernel
theorem dX8_property_8 : decode cX8_property 8 = .ok (.iconst (-1), 1) := by decide +kernel
theorem dX8_property_9 : decode cX8_property 9 = .ok (.ireturn, 1) := by decide +kernel
theorem dX8_property_10 : decode cX8_property 10 = .ok (.iload_n 2, 1) := by decide +kernel
theorem dX8_property_11 : decode cX8_property 11 = .ok (.iconst 1, 1) := by decide +kernel
theorem dX8_property_12 : decode cX8_property 12 = .ok (.if_icmp .lt 11, 3) := by decide +kernel
theorem dX8_property_15 : decode cX8_property 15 = .ok (.iload_n 2, 1) := by decide +kernel
theorem dX8_property_16 : decode cX8_property 16 = .ok (.aload_n 0, 1) := by decide +kernel
theorem dX8_property_17 : decode cX8_property 17 = .ok (.getfield 43, 3) := by decide +kernel
theorem dX8_property_20 : decode cX8_property 20 = .ok (.if_icmp .le 6, 3) := by decide +kernel
theorem dX8_property_23 : decode cX8_property 23 = .ok (.bipush (-2), 2) := by decide +kernel
theorem dX8_property_25 : decode cX8_property 25 = .ok (.ireturn, 1) := by decide +kernel
theorem dX8_property_26 : decode cX8_property 26 = .ok (.aload_n 0, 1) := by decide +kernel
theorem dX8_property_27 : decode cX8_property 27 = .ok (.iload_n 1, 1) := by decide +kernel
theorem dX8_property_28 : decode cX8_property 28 = .ok (.iload_n 2, 1) := by decide +kernel
theorem dX8_property_29 : decode cX8_property 29 = .ok (.invokevirtual 116, 3) := by decide +kernel
theorem dX8_property_32 : decode cX8_property 32 = .ok (.ifCond .ne 15, 3) := by decide +kernel
theorem dX8_property_35 : decode cX8_property 35 = .ok (.aload_n 0, 1) := by decide +kernel
theorem dX8_property_36 : decode cX8_property 36 = .ok (.sipush 254, 3) := by decide +kernel
theorem dX8_property_39 : decode cX8_property 39 = .ok (.iconst 2, 1) := by decide +kernel
theorem dX8_property_40 : decode cX8_property 40 = .ok (.iload_n 2, 1) := by decide +kernel
theorem dX8_property_41 : decode cX8_property 41 = .ok (.imul, 1) := by decide +kernel
theorem dX8_property_42 : decode cX8_property 42 = .ok (.iadd, 1) := by decide +kernel
theorem dX8_property_43 : decode cX8_property 43 = .ok (.invokevirtual 57, 3) := by decide +kernel
theorem dX8_property_46 : decode cX8_property 46 = .ok (.ireturn, 1) := by decide +kernel
theorem dX8_property_47 : decode cX8_property 47 = .ok (.aload_n 0, 1) := by decide +kernel
theorem dX8_property_48 : decode cX8_property 48 = .ok (.getfield 104, 3) := by decide +kernel
theorem dX8_property_51 : decode cX8_property 51 = .ok (.iconst 1, 1) := by decide +kernel
theorem dX8_property_52 : decode cX8_property 52 = .ok (.if_icmp .ne 14, 3) := by decide +kernel
theorem dX8_property_55 : decode cX8_property 55 = .ok (.aload_n 0, 1) := by decide +kernel
theorem dX8_property_56 : decode cX8_property 56 = .ok (.aload_n 0, 1) := by decide +kernel
theorem dX8_property_57 : decode cX8_property 57 = .ok (.getfield 107, 3) := by decide +kernel
theorem dX8_property_60 : decode cX8_property 60 = .ok (.invokevirtual 46, 3) := by decide +kernel
theorem dX8_property_63 : decode cX8_property 63 = .ok (.goto 24, 3) := by decide +kernel
theorem dX8_property_66 : decode cX8_property 66 = .ok (.aload_n 0, 1) := by decide +kernel
theorem dX8_property_67 : decode cX8_property 67 = .ok (.getfield 104, 3) := by decide +kernel
theorem dX8_property_70 : decode cX8_property 70 = .ok (.iconst 2, 1) := by decide +kernel
theorem dX8_property_71 : decode cX8_property 71 = .ok (.if_icmp .ne 14, 3) := by decide +kernel
theorem dX8_property_74 : decode cX8_property 74 = .ok (.aload_n 0, 1) := by decide +kernel
theorem dX8_property_75 : decode cX8_property 75 = .ok (.aload_n 0, 1) := by decide +kernel
theorem dX8_property_76 : decode cX8_property 76 = .ok (.getfield 107, 3) := by decide +kernel
theorem dX8_property_79 : decode cX8_property 79 = .ok (.invokevirtual 57, 3) := by decide +kernel
theorem dX8_property_82 : decode cX8_property 82 = .ok (.goto 5, 3) := by decide +kernel
theorem dX8_property_85 : decode cX8_property 85 = .ok (.bipush (-3), 2) := by decide +kernel
theorem dX8_property_87 : decode cX8_property 87 = .ok (.ireturn, 1) := by decide +kernel
theorem dX8_put_0 : decode cX8_put 0 = .ok (.aload_n 0, 1) := by decide +kernel
theorem dX8_put_1 : decode cX8_put 1 = .ok (.iload_n 1, 1) := by decide +kernel
theorem dX8_put_2 : decode cX8_put 2 = .ok (.invokevirtual 66, 3) := by decide +kernel
theorem dX8_put_5 : decode cX8_put 5 = .ok (.ifCond .ne 5, 3) := by decide +kernel
theorem dX8_put_8 : decode cX8_put 8 = .ok (.iconst (-1), 1) := by decide +kernel
theorem dX8_put_9 : decode cX8_put 9 = .ok (.ireturn, 1) := by decide +kernel
theorem dX8_put_10 : decode cX8_put 10 = .ok (.iload_n 2, 1) := by decide +kernel
theorem dX8_put_11 : decode cX8_put 11 = .ok (.iconst 1, 1) := by decide +kernel
theorem dX8_put_12 : decode cX8_put 12 = .ok (.if_icmp .lt 11, 3) := by decide +kernel
theorem dX8_put_15 : decode cX8_put 15 = .ok (.iload_n 2, 1) := by decide +kernel
theorem dX8_put_16 : decode cX8_put 16 = .ok (.aload_n 0, 1) := by decide +kernel
theorem dX8_put_17 : decode cX8_put 17 = .ok (.getfield 43, 3) := by decide +kernel
theorem dX8_put_20 : decode cX8_put 20 = .ok (.if_icmp .le 6, 3) := by decide +kernel
theorem dX8_put_23 : decode cX8_put 23 = .ok (.bipush (-2), 2) := by decide +kernel
theorem dX8_put_25 : decode cX8_put 25 = .ok (.ireturn, 1) := by decide +kernel
theorem dX8_put_26 : decode cX8_put 26 = .ok (.aload_n 0, 1) := by decide +kernel
theorem dX8_put_27 : decode cX8_put 27 = .ok (.iload_n 1, 1) := by decide +kernel
theorem dX8_put_28 : decode cX8_put 28 = .ok (.iload_n 2, 1) := by decide +kernel
theorem dX8_put_29 : decode cX8_put 29 = .ok (.invokevirtual 116, 3) := by decide +kernel
theorem dX8_put_32 : decode cX8_put 32 = .ok (.ifCond .eq 11, 3) := by decide +kernel
theorem dX8_put_35 : decode cX8_put 35 = .ok (.aload_n 0, 1) := by decide +kernel
theorem dX8_put_36 : decode cX8_put 36 = .ok (.getfield 104, 3) := by decide +kernel
theorem dX8_put_39 : decode cX8_put 39 = .ok (.iconst 2, 1) := by decide +kernel
theorem dX8_put_40 : decode cX8_put 40 = .ok (.if_icmp .le 6, 3) := by decide +kernel
theorem dX8_put_43 : decode cX8_put 43 = .ok (.bipush (-3), 2) := by decide +kernel
theorem dX8_put_45 : decode cX8_put 45 = .ok (.ireturn, 1) := by decide +kernel
theorem dX8_put_46 : decode cX8_put 46 = .ok (.aload_n 0, 1) := by decide +kernel
theorem dX8_put_47 : decode cX8_put 47 = .ok (.getfield 104, 3) := by decide +kernel
theorem dX8_put_50 : decode cX8_put 50 = .ok (.iconst 1, 1) := by decide +kernel
theorem dX8_put_51 : decode cX8_put 51 = .ok (.if_icmp .ne 15, 3) := by decide +kernel
theorem dX8_put_54 : decode cX8_put 54 = .ok (.aload_n 0, 1) := by decide +kernel
theorem dX8_put_55 : decode cX8_put 55 = .ok (.aload_n 0, 1) := by decide +kernel
theorem dX8_put_56 : decode cX8_put 56 = .ok (.getfield 107, 3) := by decide +kernel
theorem dX8_put_59 : decode cX8_put 59 = .ok (.iload_n 3, 1) := by decide +kernel
theorem dX8_put_60 : decode cX8_put 60 = .ok (.invokevirtual 50, 3) := by decide +kernel
theorem dX8_put_63 : decode cX8_put 63 = .ok (.goto 12, 3) := by decide +kernel
theorem dX8_put_66 : decode cX8_put 66 = .ok (.aload_n 0, 1) := by decide +kernel
theorem dX8_put_67 : decode cX8_put 67 = .ok (.aload_n 0, 1) := by decide +kernel
theorem dX8_put_68 : decode cX8_put 68 = .ok (.getfield 107, 3) := by decide +kernel
theorem dX8_put_71 : decode cX8_put 71 = .ok (.iload_n 3, 1) := by decide +kernel
theorem dX8_put_72 : decode cX8_put 72 = .ok (.invokevirtual 60, 3) := by decide +kernel
theorem dX8_put_75 : decode cX8_put 75 = .ok (.iconst 1, 1) := by decide +kernel
theorem dX8_put_76 : decode cX8_put 76 = .ok (.ireturn, 1) := by decide +kernel
theorem dX8_next_0 : decode cX8_next 0 = .ok (.aload_n 0, 1) := by decide +kernel
theorem dX8_next_1 : decode cX8_next 1 = .ok (.iload_n 1, 1) := by decide +kernel
theorem dX8_next_2 : decode cX8_next 2 = .ok (.invokevirtual 66, 3) := by decide +kernel
theorem dX8_next_5 : decode cX8_next 5 = .ok (.ifCond .ne 5, 3) := by decide +kernel
theorem dX8_next_8 : decode cX8_next 8 = .ok (.iconst (-1), 1) := by decide +kernel
theorem dX8_next_9 : decode cX8_next 9 = .ok (.ireturn, 1) := by decide +kernel
theorem dX8_next_10 : decode cX8_next 10 = .ok (.iload_n 2, 1) := by decide +kernel
theorem dX8_next_11 : decode cX8_next 11 = .ok (.ifCond .lt 11, 3) := by decide +kernel
theorem dX8_next_14 : decode cX8_next 14 = .ok (.iload_n 2, 1) := by decide +kernel
theorem dX8_next_15 : decode cX8_next 15 = .ok (.aload_n 0, 1) := by decide +kernel
theorem dX8_next_16 : decode cX8_next 16 = .ok (.getfield 43, 3) := by decide +kernel
theorem dX8_next_19 : decode cX8_next 19 = .ok (.if_icmp .le 6, 3) := by decide +kernel
theorem dX8_next_22 : decode cX8_next 22 = .ok (.bipush (-2), 2) := by decide +kernel
theorem dX8_next_24 : decode cX8_next 24 = .ok (.ireturn, 1) := by decide +kernel
theorem dX8_next_25 : decode cX8_next 25 = .ok (.iload_n 2, 1) := by decide +kernel
theorem dX8_next_26 : decode cX8_next 26 = .ok (.ifCond .le 15, 3) := by decide +kernel
theorem dX8_next_29 : decode cX8_next 29 = .ok (.aload_n 0, 1) := by decide +kernel
theorem dX8_next_30 : decode cX8_next 30 = .ok (.iload_n 1, 1) := by decide +kernel
theorem dX8_next_31 : decode cX8_next 31 = .ok (.iload_n 2, 1) := by decide +kernel
theorem dX8_next_32 : decode cX8_next 32 = .ok (.invokevirtual 116, 3) := by decide +kernel
theorem dX8_next_35 : decode cX8_next 35 = .ok (.ifCond .ne 6, 3) := by decide +kernel
theorem dX8_next_38 : decode cX8_next 38 = .ok (.bipush (-3), 2) := by decide +kernel
theorem dX8_next_40 : decode cX8_next 40 = .ok (.ireturn, 1) := by decide +kernel
theorem dX8_next_41 : decode cX8_next 41 = .ok (.aload_n 0, 1) := by decide +kernel
theorem dX8_next_42 : decode cX8_next 42 = .ok (.iload_n 2, 1) := by decide +kernel
theorem dX8_next_43 : decode cX8_next 43 = .ok (.ifCond .ne 11, 3) := by decide +kernel
theorem dX8_next_46 : decode cX8_next 46 = .ok (.aload_n 0, 1) := by decide +kernel
theorem dX8_next_47 : decode cX8_next 47 = .ok (.iload_n 1, 1) := by decide +kernel
theorem dX8_next_48 : decode cX8_next 48 = .ok (.invokevirtual 110, 3) := by decide +kernel
theorem dX8_next_51 : decode cX8_next 51 = .ok (.goto 12, 3) := by decide +kernel
theorem dX8_next_54 : decode cX8_next 54 = .ok (.aload_n 0, 1) := by decide +kernel
theorem dX8_next_55 : decode cX8_next 55 = .ok (.getfield 107, 3) := by decide +kernel
theorem dX8_next_58 : decode cX8_next 58 = .ok (.aload_n 0, 1) := by decide +kernel
theorem dX8_next_59 : decode cX8_next 59 = .ok (.getfield 104, 3) := by decide +kernel
theorem dX8_next_62 : decode cX8_next 62 = .ok (.iadd, 1) := by decide +kernel
theorem dX8_next_63 : decode cX8_next 63 = .ok (.invokevirtual 113, 3) := by decide +kernel
theorem dX8_next_66 : decode cX8_next 66 = .ok (.ifCond .eq 10, 3) := by decide +kernel
theorem dX8_next_69 : decode cX8_next 69 = .ok (.aload_n 0, 1) := by decide +kernel
theorem dX8_next_70 : decode cX8_next 70 = .ok (.getfield 101, 3) := by decide +kernel
theorem dX8_next_73 : decode cX8_next 73 = .ok (.goto 4, 3) := by decide +kernel
theorem dX8_next_76 : decode cX8_next 76 = .ok (.iconst 0, 1) := by decide +kernel
theorem dX8_next_77 : decode cX8_next 77 = .ok (.ireturn, 1) := by decide +kernel
theorem dX8_address_0 : decode cX8_address 0 = .ok (.aload_n 0, 1) := by decide +kernel
theorem dX8_address_1 : decode cX8_address 1 = .ok (.iload_n 1, 1) := by decide +kernel
theorem dX8_address_2 : decode cX8_address 2 = .ok (.invokevirtual 66, 3) := by decide +kernel
theorem dX8_address_5 : decode cX8_address 5 = .ok (.ifCond .ne 5, 3) := by decide +kernel
theorem dX8_address_8 : decode cX8_address 8 = .ok (.iconst (-1), 1) := by decide +kernel
theorem dX8_address_9 : decode cX8_address 9 = .ok (.ireturn, 1) := by decide +kernel
theorem dX8_address_10 : decode cX8_address 10 = .ok (.iload_n 2, 1) := by decide +kernel
theorem dX8_address_11 : decode cX8_address 11 = .ok (.iconst 1, 1) := by decide +kernel
theorem dX8_address_12 : decode cX8_address 12 = .ok (.if_icmp .lt 11, 3) := by decide +kernel
theorem dX8_address_15 : decode cX8_address 15 = .ok (.iload_n 2, 1) := by decide +kernel
theorem dX8_address_16 : decode cX8_address 16 = .ok (.aload_n 0, 1) := by decide +kernel
theorem dX8_address_17 : decode cX8_address 17 = .ok (.getfield 43, 3) := by decide +kernel
theorem dX8_address_20 : decode cX8_address 20 = .ok (.if_icmp .le 6, 3) := by decide +kernel
theorem dX8_address_23 : decode cX8_address 23 = .ok (.bipush (-2), 2) := by decide +kernel
theorem dX8_address_25 : decode cX8_address 25 = .ok (.ireturn, 1) := by decide +kernel
theorem dX8_address_26 : decode cX8_address 26 = .ok (.aload_n 0, 1) := by decide +kernel
theorem dX8_address_27 : decode cX8_address 27 = .ok (.iload_n 1, 1) := by decide +kernel
theorem dX8_address_28 : decode cX8_address 28 = .ok (.iload_n 2, 1) := by decide +kernel
theorem dX8_address_29 : decode cX8_address 29 = .ok (.invokevirtual 116, 3) := by decide +kernel
theorem dX8_address_32 : decode cX8_address 32 = .ok (.ifCond .eq 10, 3) := by decide +kernel
theorem dX8_address_35 : decode cX8_address 35 = .ok (.aload_n 0, 1) := by decide +kernel
theorem dX8_address_36 : decode cX8_address 36 = .ok (.getfield 107, 3) := by decide +kernel
theorem dX8_address_39 : decode cX8_address 39 = .ok (.goto 4, 3) := by decide +kernel
theorem dX8_address_42 : decode cX8_address 42 = .ok (.iconst 0, 1) := by decide +kernel
theorem dX8_address_43 : decode cX8_address 43 = .ok (.ireturn, 1) := by decide +kernel
theorem dX8_length_0 : decode cX8_length 0 = .ok (.iload_n 1, 1) := by decide +kernel
theorem dX8_length_1 : decode cX8_length 1 = .ok (.ifCond .lt 10, 3) := by decide +kernel
theorem dX8_length_4 : decode cX8_length 4 = .ok (.iload_n 1, 1) := by decide +kernel
theorem dX8_length_5 : decode cX8_length 5 = .ok (.sipush 4096, 3) := by decide +kernel
theorem dX8_length_8 : decode cX8_length 8 = .ok (.if_icmp .le 6, 3) := by decide +kernel
theorem dX8_length_11 : decode cX8_length 11 = .ok (.bipush (-2), 2) := by decide +kernel
theorem dX8_length_13 : decode cX8_length 13 = .ok (.ireturn, 1) := by decide +kernel
theorem dX8_length_14 : decode cX8_length 14 = .ok (.iload_n 1, 1) := by decide +kernel
theorem dX8_length_15 : decode cX8_length 15 = .ok (.ifCond .ne 5, 3) := by decide +kernel
theorem dX8_length_18 : decode cX8_length 18 = .ok (.iconst 0, 1) := by decide +kernel
theorem dX8_length_19 : decode cX8_length 19 = .ok (.ireturn, 1) := by decide +kernel
theorem dX8_length_20 : decode cX8_length 20 = .ok (.aload_n 0, 1) := by decide +kernel
theorem dX8_length_21 : decode cX8_length 21 = .ok (.iload_n 1, 1) := by decide +kernel
theorem dX8_length_22 : decode cX8_length 22 = .ok (.iconst 1, 1) := by decide +kernel
theorem dX8_length_23 : decode cX8_length 23 = .ok (.isub, 1) := by decide +kernel
theorem dX8_length_24 : decode cX8_length 24 = .ok (.invokevirtual 46, 3) := by decide +kernel
theorem dX8_length_27 : decode cX8_length 27 = .ok (.istore_n 2, 1) := by decide +kernel
theorem dX8_length_28 : decode cX8_length 28 = .ok (.aload_n 0, 1) := by decide +kernel
theorem dX8_length_29 : decode cX8_length 29 = .ok (.getfield 39, 3) := by decide +kernel
theorem dX8_length_32 : decode cX8_length 32 = .ok (.ifCond .ne 10, 3) := by decide +kernel
theorem dX8_length_35 : decode cX8_length 35 = .ok (.iload_n 2, 1) := by decide +kernel
theorem dX8_length_36 : decode cX8_length 36 = .ok (.bipush 32, 2) := by decide +kernel
theorem dX8_length_38 : decode cX8_length 38 = .ok (.idiv, 1) := by decide +kernel
theorem dX8_length_39 : decode cX8_length 39 = .ok (.iconst 1, 1) := by decide +kernel
theorem dX8_length_40 : decode cX8_length 40 = .ok (.iadd, 1) := by decide +kernel
theorem dX8_length_41 : decode cX8_length 41 = .ok (.ireturn, 1) := by decide +kernel
theorem dX8_length_42 : decode cX8_length 42 = .ok (.iload_n 2, 1) := by decide +kernel
theorem dX8_length_43 : decode cX8_length 43 = .ok (.sipush 128, 3) := by decide +kernel
theorem dX8_length_46 : decode cX8_length 46 = .ok (.if_icmp .lt 22, 3) := by decide +kernel
theorem dX8_length_49 : decode cX8_length 49 = .ok (.iload_n 2, 1) := by decide +kernel
theorem dX8_length_50 : decode cX8_length 50 = .ok (.bipush 64, 2) := by decide +kernel
theorem dX8_length_52 : decode cX8_length 52 = .ok (.irem, 1) := by decide +kernel
theorem dX8_length_53 : decode cX8_length 53 = .ok (.ifCond .ne 8, 3) := by decide +kernel
theorem dX8_length_56 : decode cX8_length 56 = .ok (.bipush 64, 2) := by decide +kernel
theorem dX8_length_58 : decode cX8_length 58 = .ok (.goto 16, 3) := by decide +kernel
theorem dX8_length_61 : decode cX8_length 61 = .ok (.iload_n 2, 1) := by decide +kernel
theorem dX8_length_62 : decode cX8_length 62 = .ok (.bipush 64, 2) := by decide +kernel
theorem dX8_length_64 : decode cX8_length 64 = .ok (.irem, 1) := by decide +kernel
theorem dX8_length_65 : decode cX8_length 65 = .ok (.goto 9, 3) := by decide +kernel
theorem dX8_length_68 : decode cX8_length 68 = .ok (.iload_n 2, 1) := by decide +kernel
theorem dX8_length_69 : decode cX8_length 69 = .ok (.bipush 64, 2) := by decide +kernel
theorem dX8_length_71 : decode cX8_length 71 = .ok (.idiv, 1) := by decide +kernel
theorem dX8_length_72 : decode cX8_length 72 = .ok (.iconst 1, 1) := by decide +kernel
theorem dX8_length_73 : decode cX8_length 73 = .ok (.iadd, 1) := by decide +kernel
theorem dX8_length_74 : decode cX8_length 74 = .ok (.ireturn, 1) := by decide +kernel
theorem dX8_fallback_0 : decode cX8_fallback 0 = .ok (.iload_n 1, 1) := by decide +kernel
theorem dX8_fallback_1 : decode cX8_fallback 1 = .ok (.iconst 1, 1) := by decide +kernel
theorem dX8_fallback_2 : decode cX8_fallback 2 = .ok (.if_icmp .lt 11, 3) := by decide +kernel
theorem dX8_fallback_5 : decode cX8_fallback 5 = .ok (.iload_n 1, 1) := by decide +kernel
theorem dX8_fallback_6 : decode cX8_fallback 6 = .ok (.aload_n 0, 1) := by decide +kernel
theorem dX8_fallback_7 : decode cX8_fallback 7 = .ok (.getfield 43, 3) := by decide +kernel
theorem dX8_fallback_10 : decode cX8_fallback 10 = .ok (.if_icmp .le 6, 3) := by decide +kernel
theorem dX8_fallback_13 : decode cX8_fallback 13 = .ok (.bipush (-2), 2) := by decide +kernel
theorem dX8_fallback_15 : decode cX8_fallback 15 = .ok (.ireturn, 1) := by decide +kernel
theorem dX8_fallback_16 : decode cX8_fallback 16 = .ok (.aload_n 0, 1) := by decide +kernel
theorem dX8_fallback_17 : decode cX8_fallback 17 = .ok (.sipush 254, 3) := by decide +kernel
theorem dX8_fallback_20 : decode cX8_fallback 20 = .ok (.iconst 2, 1) := by decide +kernel
theorem dX8_fallback_21 : decode cX8_fallback 21 = .ok (.iload_n 1, 1) := by decide +kernel
theorem dX8_fallback_22 : decode cX8_fallback 22 = .ok (.imul, 1) := by decide +kernel
theorem dX8_fallback_23 : decode cX8_fallback 23 = .ok (.iadd, 1) := by decide +kernel
theorem dX8_fallback_24 : decode cX8_fallback 24 = .ok (.invokevirtual 57, 3) := by decide +kernel
theorem dX8_fallback_27 : decode cX8_fallback 27 = .ok (.istore_n 3, 1) := by decide +kernel
theorem dX8_fallback_28 : decode cX8_fallback 28 = .ok (.aload_n 0, 1) := by decide +kernel
theorem dX8_fallback_29 : decode cX8_fallback 29 = .ok (.sipush 254, 3) := by decide +kernel
theorem dX8_fallback_32 : decode cX8_fallback 32 = .ok (.iconst 2, 1) := by decide +kernel
theorem dX8_fallback_33 : decode cX8_fallback 33 = .ok (.iload_n 1, 1) := by decide +kernel
theorem dX8_fallback_34 : decode cX8_fallback 34 = .ok (.imul, 1) := by decide +kernel
theorem dX8_fallback_35 : decode cX8_fallback 35 = .ok (.iadd, 1) := by decide +kernel
theorem dX8_fallback_36 : decode cX8_fallback 36 = .ok (.iload_n 2, 1) := by decide +kernel
theorem dX8_fallback_37 : decode cX8_fallback 37 = .ok (.invokevirtual 60, 3) := by decide +kernel
theorem dX8_fallback_40 : decode cX8_fallback 40 = .ok (.iload_n 3, 1) := by decide +kernel
theorem dX8_fallback_41 : decode cX8_fallback 41 = .ok (.ireturn, 1) := by decide +kernel
theorem dX8_read_0 : decode cX8_read 0 = .ok (.iload_n 1, 1) := by decide +kernel
theorem dX8_read_1 : decode cX8_read 1 = .ok (.istore 4, 2) := by decide +kernel
theorem dX8_read_3 : decode cX8_read 3 = .ok (.iconst 1, 1) := by decide +kernel
theorem dX8_read_4 : decode cX8_read 4 = .ok (.istore 5, 2) := by decide +kernel
theorem dX8_read_6 : decode cX8_read 6 = .ok (.iconst 0, 1) := by decide +kernel
theorem dX8_read_7 : decode cX8_read 7 = .ok (.istore 6, 2) := by decide +kernel
theorem dX8_read_9 : decode cX8_read 9 = .ok (.iload 5, 2) := by decide +kernel
theorem dX8_read_11 : decode cX8_read 11 = .ok (.ifCond .eq 89, 3) := by decide +kernel
theorem dX8_read_14 : decode cX8_read 14 = .ok (.iload 6, 2) := by decide +kernel
theorem dX8_read_16 : decode cX8_read 16 = .ok (.iload_n 3, 1) := by decide +kernel
theorem dX8_read_17 : decode cX8_read 17 = .ok (.if_icmp .ge 83, 3) := by decide +kernel
theorem dX8_read_20 : decode cX8_read 20 = .ok (.aload_n 0, 1) := by decide +kernel
theorem dX8_read_21 : decode cX8_read 21 = .ok (.iload_n 2, 1) := by decide +kernel
theorem dX8_read_22 : decode cX8_read 22 = .ok (.iconst 2, 1) := by decide +kernel
theorem dX8_read_23 : decode cX8_read 23 = .ok (.iload 6, 2) := by decide +kernel
theorem dX8_read_25 : decode cX8_read 25 = .ok (.imul, 1) := by decide +kernel
theorem dX8_read_26 : decode cX8_read 26 = .ok (.iadd, 1) := by decide +kernel
theorem dX8_read_27 : decode cX8_read 27 = .ok (.invokevirtual 57, 3) := by decide +kernel
theorem dX8_read_30 : decode cX8_read 30 = .ok (.istore 7, 2) := by decide +kernel
theorem dX8_read_32 : decode cX8_read 32 = .ok (.aload_n 0, 1) := by decide +kernel
theorem dX8_read_33 : decode cX8_read 33 = .ok (.getfield 23, 3) := by decide +kernel
theorem dX8_read_36 : decode cX8_read 36 = .ok (.iload 4, 2) := by decide +kernel
theorem dX8_read_38 : decode cX8_read 38 = .ok (.iload 7, 2) := by decide +kernel
theorem dX8_read_40 : decode cX8_read 40 = .ok (.bipush 10, 2) := by decide +kernel
theorem dX8_read_42 : decode cX8_read 42 = .ok (.ishr, 1) := by decide +kernel
theorem dX8_read_43 : decode cX8_read 43 = .ok (.bipush 31, 2) := by decide +kernel
theorem dX8_read_45 : decode cX8_read 45 = .ok (.iand, 1) := by decide +kernel
theorem dX8_read_46 : decode cX8_read 46 = .ok (.iastore, 1) := by decide +kernel
theorem dX8_read_47 : decode cX8_read 47 = .ok (.aload_n 0, 1) := by decide +kernel
theorem dX8_read_48 : decode cX8_read 48 = .ok (.getfield 23, 3) := by decide +kernel
theorem dX8_read_51 : decode cX8_read 51 = .ok (.iload 4, 2) := by decide +kernel
theorem dX8_read_53 : decode cX8_read 53 = .ok (.iconst 1, 1) := by decide +kernel
theorem dX8_read_54 : decode cX8_read 54 = .ok (.iadd, 1) := by decide +kernel
theorem dX8_read_55 : decode cX8_read 55 = .ok (.iload 7, 2) := by decide +kernel
theorem dX8_read_57 : decode cX8_read 57 = .ok (.iconst 5, 1) := by decide +kernel
theorem dX8_read_58 : decode cX8_read 58 = .ok (.ishr, 1) := by decide +kernel
theorem dX8_read_59 : decode cX8_read 59 = .ok (.bipush 31, 2) := by decide +kernel
theorem dX8_read_61 : decode cX8_read 61 = .ok (.iand, 1) := by decide +kernel
theorem dX8_read_62 : decode cX8_read 62 = .ok (.iastore, 1) := by decide +kernel
theorem dX8_read_63 : decode cX8_read 63 = .ok (.aload_n 0, 1) := by decide +kernel
theorem dX8_read_64 : decode cX8_read 64 = .ok (.getfield 23, 3) := by decide +kernel
theorem dX8_read_67 : decode cX8_read 67 = .ok (.iload 4, 2) := by decide +kernel
theorem dX8_read_69 : decode cX8_read 69 = .ok (.iconst 2, 1) := by decide +kernel
theorem dX8_read_70 : decode cX8_read 70 = .ok (.iadd, 1) := by decide +kernel
theorem dX8_read_71 : decode cX8_read 71 = .ok (.iload 7, 2) := by decide +kernel
theorem dX8_read_73 : decode cX8_read 73 = .ok (.bipush 31, 2) := by decide +kernel
theorem dX8_read_75 : decode cX8_read 75 = .ok (.iand, 1) := by decide +kernel
theorem dX8_read_76 : decode cX8_read 76 = .ok (.iastore, 1) := by decide +kernel
theorem dX8_read_77 : decode cX8_read 77 = .ok (.iinc 4 3, 3) := by decide +kernel
theorem dX8_read_80 : decode cX8_read 80 = .ok (.iload 7, 2) := by decide +kernel
theorem dX8_read_82 : decode cX8_read 82 = .ok (.ldc 120, 2) := by decide +kernel
theorem dX8_read_84 : decode cX8_read 84 = .ok (.if_icmp .ge 7, 3) := by decide +kernel
theorem dX8_read_87 : decode cX8_read 87 = .ok (.iconst 1, 1) := by decide +kernel
theorem dX8_read_88 : decode cX8_read 88 = .ok (.goto 4, 3) := by decide +kernel
theorem dX8_read_91 : decode cX8_read 91 = .ok (.iconst 0, 1) := by decide +kernel
theorem dX8_read_92 : decode cX8_read 92 = .ok (.istore 5, 2) := by decide +kernel
theorem dX8_read_94 : decode cX8_read 94 = .ok (.iinc 6 1, 3) := by decide +kernel
theorem dX8_read_97 : decode cX8_read 97 = .ok (.goto (-88), 3) := by decide +kernel
theorem dX8_read_100 : decode cX8_read 100 = .ok (.iload 4, 2) := by decide +kernel
theorem dX8_read_102 : decode cX8_read 102 = .ok (.ireturn, 1) := by decide +kernel
theorem dX8_say_0 : decode cX8_say 0 = .ok (.aload_n 0, 1) := by decide +kernel
theorem dX8_say_1 : decode cX8_say 1 = .ok (.getfield 121, 3) := by decide +kernel
theorem dX8_say_4 : decode cX8_say 4 = .ok (.sipush 250, 3) := by decide +kernel
theorem dX8_say_7 : decode cX8_say 7 = .ok (.if_icmp .ge 27, 3) := by decide +kernel
theorem dX8_say_10 : decode cX8_say 10 = .ok (.aload_n 0, 1) := by decide +kernel
theorem dX8_say_11 : decode cX8_say 11 = .ok (.getfield 20, 3) := by decide +kernel
theorem dX8_say_14 : decode cX8_say 14 = .ok (.aload_n 0, 1) := by decide +kernel
theorem dX8_say_15 : decode cX8_say 15 = .ok (.getfield 121, 3) := by decide +kernel
theorem dX8_say_18 : decode cX8_say 18 = .ok (.iload_n 1, 1) := by decide +kernel
theorem dX8_say_19 : decode cX8_say 19 = .ok (.sipush 255, 3) := by decide +kernel
theorem dX8_say_22 : decode cX8_say 22 = .ok (.iand, 1) := by decide +kernel
theorem dX8_say_23 : decode cX8_say 23 = .ok (.iastore, 1) := by decide +kernel
theorem dX8_say_24 : decode cX8_say 24 = .ok (.aload_n 0, 1) := by decide +kernel
theorem dX8_say_25 : decode cX8_say 25 = .ok (.dup, 1) := by decide +kernel
theorem dX8_say_26 : decode cX8_say 26 = .ok (.getfield 121, 3) := by decide +kernel
theorem dX8_say_29 : decode cX8_say 29 = .ok (.iconst 1, 1) := by decide +kernel
theorem dX8_say_30 : decode cX8_say 30 = .ok (.iadd, 1) := by decide +kernel
theorem dX8_say_31 : decode cX8_say 31 = .ok (.putfield 121, 3) := by decide +kernel
theorem dX8_say_34 : decode cX8_say 34 = .ok (.return_, 1) := by decide +kernel
theorem dX8_abbreviation_0 : decode cX8_abbreviation 0 = .ok (.aload_n 0, 1) := by decide +kernel
theorem dX8_abbreviation_1 : decode cX8_abbreviation 1 = .ok (.getfield 124, 3) := by decide +kernel
theorem dX8_abbreviation_4 : decode cX8_abbreviation 4 = .ok (.ifCond .eq 10, 3) := by decide +kernel
theorem dX8_abbreviation_7 : decode cX8_abbreviation 7 = .ok (.aload_n 0, 1) := by decide +kernel
theorem dX8_abbreviation_8 : decode cX8_abbreviation 8 = .ok (.bipush 63, 2) := by decide +kernel
theorem dX8_abbreviation_10 : decode cX8_abbreviation 10 = .ok (.invokevirtual 127, 3) := by decide +kernel
theorem dX8_abbreviation_13 : decode cX8_abbreviation 13 = .ok (.return_, 1) := by decide +kernel
theorem dX8_abbreviation_14 : decode cX8_abbreviation 14 = .ok (.iconst 2, 1) := by decide +kernel
theorem dX8_abbreviation_15 : decode cX8_abbreviation 15 = .ok (.aload_n 0, 1) := by decide +kernel
theorem dX8_abbreviation_16 : decode cX8_abbreviation 16 = .ok (.bipush 64, 2) := by decide +kernel
theorem dX8_abbreviation_18 : decode cX8_abbreviation 18 = .ok (.iconst 2, 1) := by decide +kernel
theorem dX8_abbreviation_19 : decode cX8_abbreviation 19 = .ok (.iload_n 1, 1) := by decide +kernel
theorem dX8_abbreviation_20 : decode cX8_abbreviation 20 = .ok (.imul, 1) := by decide +kernel
theorem dX8_abbreviation_21 : decode cX8_abbreviation 21 = .ok (.iadd, 1) := by decide +kernel
theorem dX8_abbreviation_22 : decode cX8_abbreviation 22 = .ok (.invokevirtual 57, 3) := by decide +kernel
theorem dX8_abbreviation_25 : decode cX8_abbreviation 25 = .ok (.imul, 1) := by decide +kernel
theorem dX8_abbreviation_26 : decode cX8_abbreviation 26 = .ok (.ldc 130, 2) := by decide +kernel
theorem dX8_abbreviation_28 : decode cX8_abbreviation 28 = .ok (.irem, 1) := by decide +kernel
theorem dX8_abbreviation_29 : decode cX8_abbreviation 29 = .ok (.istore_n 2, 1) := by decide +kernel
theorem dX8_abbreviation_30 : decode cX8_abbreviation 30 = .ok (.aload_n 0, 1) := by decide +kernel
theorem dX8_abbreviation_31 : decode cX8_abbreviation 31 = .ok (.iconst 1, 1) := by decide +kernel
theorem dX8_abbreviation_32 : decode cX8_abbreviation 32 = .ok (.putfield 124, 3) := by decide +kernel
theorem dX8_abbreviation_35 : decode cX8_abbreviation 35 = .ok (.aload_n 0, 1) := by decide +kernel
theorem dX8_abbreviation_36 : decode cX8_abbreviation 36 = .ok (.aload_n 0, 1) := by decide +kernel
theorem dX8_abbreviation_37 : decode cX8_abbreviation 37 = .ok (.getfield 131, 3) := by decide +kernel
theorem dX8_abbreviation_40 : decode cX8_abbreviation 40 = .ok (.putfield 134, 3) := by decide +kernel
theorem dX8_abbreviation_43 : decode cX8_abbreviation 43 = .ok (.aload_n 0, 1) := by decide +kernel
theorem dX8_abbreviation_44 : decode cX8_abbreviation 44 = .ok (.aload_n 0, 1) := by decide +kernel
theorem dX8_abbreviation_45 : decode cX8_abbreviation 45 = .ok (.getfield 137, 3) := by decide +kernel
theorem dX8_abbreviation_48 : decode cX8_abbreviation 48 = .ok (.putfield 140, 3) := by decide +kernel
theorem dX8_abbreviation_51 : decode cX8_abbreviation 51 = .ok (.aload_n 0, 1) := by decide +kernel
theorem dX8_abbreviation_52 : decode cX8_abbreviation 52 = .ok (.aload_n 0, 1) := by decide +kernel
theorem dX8_abbreviation_53 : decode cX8_abbreviation 53 = .ok (.getfield 143, 3) := by decide +kernel
theorem dX8_abbreviation_56 : decode cX8_abbreviation 56 = .ok (.putfield 146, 3) := by decide +kernel
theorem dX8_abbreviation_59 : decode cX8_abbreviation 59 = .ok (.aload_n 0, 1) := by decide +kernel
theorem dX8_abbreviation_60 : decode cX8_abbreviation 60 = .ok (.aload_n 0, 1) := by decide +kernel
theorem dX8_abbreviation_61 : decode cX8_abbreviation 61 = .ok (.getfield 137, 3) := by decide +kernel
theorem dX8_abbreviation_64 : decode cX8_abbreviation 64 = .ok (.putfield 131, 3) := by decide +kernel
theorem dX8_abbreviation_67 : decode cX8_abbreviation 67 = .ok (.aload_n 0, 1) := by decide +kernel
theorem dX8_abbreviation_68 : decode cX8_abbreviation 68 = .ok (.aload_n 0, 1) := by decide +kernel
theorem dX8_abbreviation_69 : decode cX8_abbreviation 69 = .ok (.aload_n 0, 1) := by decide +kernel
theorem dX8_abbreviation_70 : decode cX8_abbreviation 70 = .ok (.getfield 137, 3) := by decide +kernel
theorem dX8_abbreviation_73 : decode cX8_abbreviation 73 = .ok (.iload_n 2, 1) := by decide +kernel
theorem dX8_abbreviation_74 : decode cX8_abbreviation 74 = .ok (.iload_n 2, 1) := by decide +kernel
theorem dX8_abbreviation_75 : decode cX8_abbreviation 75 = .ok (.sipush 4096, 3) := by decide +kernel
theorem dX8_abbreviation_78 : decode cX8_abbreviation 78 = .ok (.if_icmp .ge 15, 3) := by decide +kernel
theorem dX8_abbreviation_81 : decode cX8_abbreviation 81 = .ok (.sipush 4096, 3) := by decide +kernel
theorem dX8_abbreviation_84 : decode cX8_abbreviation 84 = .ok (.iload_n 2, 1) := by decide +kernel
theorem dX8_abbreviation_85 : decode cX8_abbreviation 85 = .ok (.isub, 1) := by decide +kernel
theorem dX8_abbreviation_86 : decode cX8_abbreviation 86 = .ok (.iconst 1, 1) := by decide +kernel
theorem dX8_abbreviation_87 : decode cX8_abbreviation 87 = .ok (.iadd, 1) := by decide +kernel
theorem dX8_abbreviation_88 : decode cX8_abbreviation 88 = .ok (.iconst 2, 1) := by decide +kernel
theorem dX8_abbreviation_89 : decode cX8_abbreviation 89 = .ok (.idiv, 1) := by decide +kernel
theorem dX8_abbreviation_90 : decode cX8_abbreviation 90 = .ok (.goto 4, 3) := by decide +kernel
theorem dX8_abbreviation_93 : decode cX8_abbreviation 93 = .ok (.iconst 0, 1) := by decide +kernel
theorem dX8_abbreviation_94 : decode cX8_abbreviation 94 = .ok (.invokevirtual 149, 3) := by decide +kernel
theorem dX8_abbreviation_97 : decode cX8_abbreviation 97 = .ok (.putfield 137, 3) := by decide +kernel
theorem dX8_abbreviation_100 : decode cX8_abbreviation 100 = .ok (.aload_n 0, 1) := by decide +kernel
theorem dX8_abbreviation_101 : decode cX8_abbreviation 101 = .ok (.iconst 0, 1) := by decide +kernel
theorem dX8_abbreviation_102 : decode cX8_abbreviation 102 = .ok (.putfield 143, 3) := by decide +kernel
theorem dX8_abbreviation_105 : decode cX8_abbreviation 105 = .ok (.aload_n 0, 1) := by decide +kernel
theorem dX8_abbreviation_106 : decode cX8_abbreviation 106 = .ok (.iconst 0, 1) := by decide +kernel
theorem dX8_abbreviation_107 : decode cX8_abbreviation 107 = .ok (.putfield 153, 3) := by decide +kernel
theorem dX8_abbreviation_110 : decode cX8_abbreviation 110 = .ok (.return_, 1) := by decide +kernel
theorem dX8_decode_0 : decode cX8_decode 0 = .ok (.aload_n 0, 1) := by decide +kernel
theorem dX8_decode_1 : decode cX8_decode 1 = .ok (.aload_n 0, 1) := by decide +kernel
theorem dX8_decode_2 : decode cX8_decode 2 = .ok (.iload_n 1, 1) := by decide +kernel
theorem dX8_decode_3 : decode cX8_decode 3 = .ok (.invokevirtual 77, 3) := by decide +kernel
theorem dX8_decode_6 : decode cX8_decode 6 = .ok (.invokevirtual 57, 3) := by decide +kernel
theorem dX8_decode_9 : decode cX8_decode 9 = .ok (.istore_n 2, 1) := by decide +kernel
theorem dX8_decode_10 : decode cX8_decode 10 = .ok (.aload_n 0, 1) := by decide +kernel
theorem dX8_decode_11 : decode cX8_decode 11 = .ok (.iconst 0, 1) := by decide +kernel
theorem dX8_decode_12 : decode cX8_decode 12 = .ok (.putfield 121, 3) := by decide +kernel
theorem dX8_decode_15 : decode cX8_decode 15 = .ok (.aload_n 0, 1) := by decide +kernel
theorem dX8_decode_16 : decode cX8_decode 16 = .ok (.iconst 0, 1) := by decide +kernel
theorem dX8_decode_17 : decode cX8_decode 17 = .ok (.putfield 131, 3) := by decide +kernel
theorem dX8_decode_20 : decode cX8_decode 20 = .ok (.aload_n 0, 1) := by decide +kernel
theorem dX8_decode_21 : decode cX8_decode 21 = .ok (.aload_n 0, 1) := by decide +kernel
theorem dX8_decode_22 : decode cX8_decode 22 = .ok (.iconst 0, 1) := by decide +kernel
theorem dX8_decode_23 : decode cX8_decode 23 = .ok (.iload_n 2, 1) := by decide +kernel
theorem dX8_decode_24 : decode cX8_decode 24 = .ok (.iconst 1, 1) := by decide +kernel
theorem dX8_decode_25 : decode cX8_decode 25 = .ok (.iadd, 1) := by decide +kernel
theorem dX8_decode_26 : decode cX8_decode 26 = .ok (.aload_n 0, 1) := by decide +kernel
theorem dX8_decode_27 : decode cX8_decode 27 = .ok (.iload_n 2, 1) := by decide +kernel
theorem dX8_decode_28 : decode cX8_decode 28 = .ok (.invokevirtual 46, 3) := by decide +kernel
theorem dX8_decode_31 : decode cX8_decode 31 = .ok (.invokevirtual 149, 3) := by decide +kernel
theorem dX8_decode_34 : decode cX8_decode 34 = .ok (.putfield 137, 3) := by decide +kernel
theorem dX8_decode_37 : decode cX8_decode 37 = .ok (.aload_n 0, 1) := by decide +kernel
theorem dX8_decode_38 : decode cX8_decode 38 = .ok (.iconst 0, 1) := by decide +kernel
theorem dX8_decode_39 : decode cX8_decode 39 = .ok (.putfield 143, 3) := by decide +kernel
theorem dX8_decode_42 : decode cX8_decode 42 = .ok (.aload_n 0, 1) := by decide +kernel
theorem dX8_decode_43 : decode cX8_decode 43 = .ok (.iconst 0, 1) := by decide +kernel
theorem dX8_decode_44 : decode cX8_decode 44 = .ok (.putfield 153, 3) := by decide +kernel
theorem dX8_decode_47 : decode cX8_decode 47 = .ok (.aload_n 0, 1) := by decide +kernel
theorem dX8_decode_48 : decode cX8_decode 48 = .ok (.iconst 0, 1) := by decide +kernel
theorem dX8_decode_49 : decode cX8_decode 49 = .ok (.putfield 124, 3) := by decide +kernel
theorem dX8_decode_52 : decode cX8_decode 52 = .ok (.aload_n 0, 1) := by decide +kernel
theorem dX8_decode_53 : decode cX8_decode 53 = .ok (.getfield 131, 3) := by decide +kernel
theorem dX8_decode_56 : decode cX8_decode 56 = .ok (.aload_n 0, 1) := by decide +kernel
theorem dX8_decode_57 : decode cX8_decode 57 = .ok (.getfield 137, 3) := by decide +kernel
theorem dX8_decode_60 : decode cX8_decode 60 = .ok (.if_icmp .lt 10, 3) := by decide +kernel
theorem dX8_decode_63 : decode cX8_decode 63 = .ok (.aload_n 0, 1) := by decide +kernel
theorem dX8_decode_64 : decode cX8_decode 64 = .ok (.getfield 124, 3) := by decide +kernel
theorem dX8_decode_67 : decode cX8_decode 67 = .ok (.ifCond .eq 95, 3) := by decide +kernel
theorem dX8_decode_70 : decode cX8_decode 70 = .ok (.aload_n 0, 1) := by decide +kernel
theorem dX8_decode_71 : decode cX8_decode 71 = .ok (.getfield 131, 3) := by decide +kernel
theorem dX8_decode_74 : decode cX8_decode 74 = .ok (.aload_n 0, 1) := by decide +kernel
theorem dX8_decode_75 : decode cX8_decode 75 = .ok (.getfield 137, 3) := by decide +kernel
theorem dX8_decode_78 : decode cX8_decode 78 = .ok (.if_icmp .lt 40, 3) := by decide +kernel
theorem dX8_decode_81 : decode cX8_decode 81 = .ok (.aload_n 0, 1) := by decide +kernel
theorem dX8_decode_82 : decode cX8_decode 82 = .ok (.iconst 0, 1) := by decide +kernel
theorem dX8_decode_83 : decode cX8_decode 83 = .ok (.putfield 124, 3) := by decide +kernel
theorem dX8_decode_86 : decode cX8_decode 86 = .ok (.aload_n 0, 1) := by decide +kernel
theorem dX8_decode_87 : decode cX8_decode 87 = .ok (.aload_n 0, 1) := by decide +kernel
theorem dX8_decode_88 : decode cX8_decode 88 = .ok (.getfield 134, 3) := by decide +kernel
theorem dX8_decode_91 : decode cX8_decode 91 = .ok (.putfield 131, 3) := by decide +kernel
theorem dX8_decode_94 : decode cX8_decode 94 = .ok (.aload_n 0, 1) := by decide +kernel
theorem dX8_decode_95 : decode cX8_decode 95 = .ok (.aload_n 0, 1) := by decide +kernel
theorem dX8_decode_96 : decode cX8_decode 96 = .ok (.getfield 140, 3) := by decide +kernel
theorem dX8_decode_99 : decode cX8_decode 99 = .ok (.putfield 137, 3) := by decide +kernel
theorem dX8_decode_102 : decode cX8_decode 102 = .ok (.aload_n 0, 1) := by decide +kernel
theorem dX8_decode_103 : decode cX8_decode 103 = .ok (.aload_n 0, 1) := by decide +kernel
theorem dX8_decode_104 : decode cX8_decode 104 = .ok (.getfield 146, 3) := by decide +kernel
theorem dX8_decode_107 : decode cX8_decode 107 = .ok (.putfield 143, 3) := by decide +kernel
theorem dX8_decode_110 : decode cX8_decode 110 = .ok (.aload_n 0, 1) := by decide +kernel
theorem dX8_decode_111 : decode cX8_decode 111 = .ok (.iconst 0, 1) := by decide +kernel
theorem dX8_decode_112 : decode cX8_decode 112 = .ok (.putfield 153, 3) := by decide +kernel
theorem dX8_decode_115 : decode cX8_decode 115 = .ok (.goto (-63), 3) := by decide +kernel
theorem dX8_decode_118 : decode cX8_decode 118 = .ok (.aload_n 0, 1) := by decide +kernel
theorem dX8_decode_119 : decode cX8_decode 119 = .ok (.getfield 23, 3) := by decide +kernel
theorem dX8_decode_122 : decode cX8_decode 122 = .ok (.aload_n 0, 1) := by decide +kernel
theorem dX8_decode_123 : decode cX8_decode 123 = .ok (.getfield 131, 3) := by decide +kernel
theorem dX8_decode_126 : decode cX8_decode 126 = .ok (.iaload, 1) := by decide +kernel
theorem dX8_decode_127 : decode cX8_decode 127 = .ok (.istore_n 3, 1) := by decide +kernel
theorem dX8_decode_128 : decode cX8_decode 128 = .ok (.aload_n 0, 1) := by decide +kernel
theorem dX8_decode_129 : decode cX8_decode 129 = .ok (.dup, 1) := by decide +kernel
theorem dX8_decode_130 : decode cX8_decode 130 = .ok (.getfield 131, 3) := by decide +kernel
theorem dX8_decode_133 : decode cX8_decode 133 = .ok (.iconst 1, 1) := by decide +kernel
theorem dX8_decode_134 : decode cX8_decode 134 = .ok (.iadd, 1) := by decide +kernel
theorem dX8_decode_135 : decode cX8_decode 135 = .ok (.putfield 131, 3) := by decide +kernel
theorem dX8_decode_138 : decode cX8_decode 138 = .ok (.aload_n 0, 1) := by decide +kernel
theorem dX8_decode_139 : decode cX8_decode 139 = .ok (.getfield 36, 3) := by decide +kernel
theorem dX8_decode_142 : decode cX8_decode 142 = .ok (.iconst 2, 1) := by decide +kernel
theorem dX8_decode_143 : decode cX8_decode 143 = .ok (.if_icmp .le 11, 3) := by decide +kernel
theorem dX8_decode_146 : decode cX8_decode 146 = .ok (.aload_n 0, 1) := by decide +kernel
theorem dX8_decode_147 : decode cX8_decode 147 = .ok (.iload_n 3, 1) := by decide +kernel
theorem dX8_decode_148 : decode cX8_decode 148 = .ok (.invokevirtual 156, 3) := by decide +kernel
theorem dX8_decode_151 : decode cX8_decode 151 = .ok (.goto 8, 3) := by decide +kernel
theorem dX8_decode_154 : decode cX8_decode 154 = .ok (.aload_n 0, 1) := by decide +kernel
theorem dX8_decode_155 : decode cX8_decode 155 = .ok (.iload_n 3, 1) := by decide +kernel
theorem dX8_decode_156 : decode cX8_decode 156 = .ok (.invokevirtual 159, 3) := by decide +kernel
theorem dX8_decode_159 : decode cX8_decode 159 = .ok (.goto (-107), 3) := by decide +kernel
theorem dX8_decode_162 : decode cX8_decode 162 = .ok (.return_, 1) := by decide +kernel
theorem dX8_sign_0 : decode cX8_sign 0 = .ok (.aload_n 0, 1) := by decide +kernel
theorem dX8_sign_1 : decode cX8_sign 1 = .ok (.getfield 153, 3) := by decide +kernel
theorem dX8_sign_4 : decode cX8_sign 4 = .ok (.istore_n 2, 1) := by decide +kernel
theorem dX8_sign_5 : decode cX8_sign 5 = .ok (.aload_n 0, 1) := by decide +kernel
theorem dX8_sign_6 : decode cX8_sign 6 = .ok (.iconst 0, 1) := by decide +kernel
theorem dX8_sign_7 : decode cX8_sign 7 = .ok (.putfield 153, 3) := by decide +kernel
theorem dX8_sign_10 : decode cX8_sign 10 = .ok (.iload_n 1, 1) := by decide +kernel
theorem dX8_sign_11 : decode cX8_sign 11 = .ok (.ifCond .ne 12, 3) := by decide +kernel
theorem dX8_sign_14 : decode cX8_sign 14 = .ok (.aload_n 0, 1) := by decide +kernel
theorem dX8_sign_15 : decode cX8_sign 15 = .ok (.bipush 32, 2) := by decide +kernel
theorem dX8_sign_17 : decode cX8_sign 17 = .ok (.invokevirtual 127, 3) := by decide +kernel
theorem dX8_sign_20 : decode cX8_sign 20 = .ok (.goto 76, 3) := by decide +kernel
theorem dX8_sign_23 : decode cX8_sign 23 = .ok (.iload_n 1, 1) := by decide +kernel
theorem dX8_sign_24 : decode cX8_sign 24 = .ok (.iconst 4, 1) := by decide +kernel
theorem dX8_sign_25 : decode cX8_sign 25 = .ok (.if_icmp .ge 49, 3) := by decide +kernel
theorem dX8_sign_28 : decode cX8_sign 28 = .ok (.aload_n 0, 1) := by decide +kernel
theorem dX8_sign_29 : decode cX8_sign 29 = .ok (.getfield 131, 3) := by decide +kernel
theorem dX8_sign_32 : decode cX8_sign 32 = .ok (.aload_n 0, 1) := by decide +kernel
theorem dX8_sign_33 : decode cX8_sign 33 = .ok (.getfield 137, 3) := by decide +kernel
theorem dX8_sign_36 : decode cX8_sign 36 = .ok (.if_icmp .ge 60, 3) := by decide +kernel
theorem dX8_sign_39 : decode cX8_sign 39 = .ok (.aload_n 0, 1) := by decide +kernel
theorem dX8_sign_40 : decode cX8_sign 40 = .ok (.getfield 23, 3) := by decide +kernel
theorem dX8_sign_43 : decode cX8_sign 43 = .ok (.aload_n 0, 1) := by decide +kernel
theorem dX8_sign_44 : decode cX8_sign 44 = .ok (.getfield 131, 3) := by decide +kernel
theorem dX8_sign_47 : decode cX8_sign 47 = .ok (.iaload, 1) := by decide +kernel
theorem dX8_sign_48 : decode cX8_sign 48 = .ok (.istore_n 3, 1) := by decide +kernel
theorem dX8_sign_49 : decode cX8_sign 49 = .ok (.aload_n 0, 1) := by decide +kernel
theorem dX8_sign_50 : decode cX8_sign 50 = .ok (.dup, 1) := by decide +kernel
theorem dX8_sign_51 : decode cX8_sign 51 = .ok (.getfield 131, 3) := by decide +kernel
theorem dX8_sign_54 : decode cX8_sign 54 = .ok (.iconst 1, 1) := by decide +kernel
theorem dX8_sign_55 : decode cX8_sign 55 = .ok (.iadd, 1) := by decide +kernel
theorem dX8_sign_56 : decode cX8_sign 56 = .ok (.putfield 131, 3) := by decide +kernel
theorem dX8_sign_59 : decode cX8_sign 59 = .ok (.aload_n 0, 1) := by decide +kernel
theorem dX8_sign_60 : decode cX8_sign 60 = .ok (.bipush 32, 2) := by decide +kernel
theorem dX8_sign_62 : decode cX8_sign 62 = .ok (.iload_n 1, 1) := by decide +kernel
theorem dX8_sign_63 : decode cX8_sign 63 = .ok (.iconst 1, 1) := by decide +kernel
theorem dX8_sign_64 : decode cX8_sign 64 = .ok (.isub, 1) := by decide +kernel
theorem dX8_sign_65 : decode cX8_sign 65 = .ok (.imul, 1) := by decide +kernel
theorem dX8_sign_66 : decode cX8_sign 66 = .ok (.iload_n 3, 1) := by decide +kernel
theorem dX8_sign_67 : decode cX8_sign 67 = .ok (.iadd, 1) := by decide +kernel
theorem dX8_sign_68 : decode cX8_sign 68 = .ok (.invokevirtual 162, 3) := by decide +kernel
theorem dX8_sign_71 : decode cX8_sign 71 = .ok (.goto 25, 3) := by decide +kernel
theorem dX8_sign_74 : decode cX8_sign 74 = .ok (.iload_n 1, 1) := by decide +kernel
theorem dX8_sign_75 : decode cX8_sign 75 = .ok (.bipush 6, 2) := by decide +kernel
theorem dX8_sign_77 : decode cX8_sign 77 = .ok (.if_icmp .ge 13, 3) := by decide +kernel
theorem dX8_sign_80 : decode cX8_sign 80 = .ok (.aload_n 0, 1) := by decide +kernel
theorem dX8_sign_81 : decode cX8_sign 81 = .ok (.iload_n 1, 1) := by decide +kernel
theorem dX8_sign_82 : decode cX8_sign 82 = .ok (.iconst 3, 1) := by decide +kernel
theorem dX8_sign_83 : decode cX8_sign 83 = .ok (.isub, 1) := by decide +kernel
theorem dX8_sign_84 : decode cX8_sign 84 = .ok (.putfield 153, 3) := by decide +kernel
theorem dX8_sign_87 : decode cX8_sign 87 = .ok (.goto 9, 3) := by decide +kernel
theorem dX8_sign_90 : decode cX8_sign 90 = .ok (.aload_n 0, 1) := by decide +kernel
theorem dX8_sign_91 : decode cX8_sign 91 = .ok (.iload_n 1, 1) := by decide +kernel
theorem dX8_sign_92 : decode cX8_sign 92 = .ok (.iload_n 2, 1) := by decide +kernel
theorem dX8_sign_93 : decode cX8_sign 93 = .ok (.invokevirtual 165, 3) := by decide +kernel
theorem dX8_sign_96 : decode cX8_sign 96 = .ok (.return_, 1) := by decide +kernel
theorem dX8_elderSign_0 : decode cX8_elderSign 0 = .ok (.aload_n 0, 1) := by decide +kernel
theorem dX8_elderSign_1 : decode cX8_elderSign 1 = .ok (.getfield 143, 3) := by decide +kernel
theorem dX8_elderSign_4 : decode cX8_elderSign 4 = .ok (.aload_n 0, 1) := by decide +kernel
theorem dX8_elderSign_5 : decode cX8_elderSign 5 = .ok (.getfield 153, 3) := by decide +kernel
theorem dX8_elderSign_8 : decode cX8_elderSign 8 = .ok (.iadd, 1) := by decide +kernel
theorem dX8_elderSign_9 : decode cX8_elderSign 9 = .ok (.iconst 3, 1) := by decide +kernel
theorem dX8_elderSign_10 : decode cX8_elderSign 10 = .ok (.irem, 1) := by decide +kernel
theorem dX8_elderSign_11 : decode cX8_elderSign 11 = .ok (.istore_n 2, 1) := by decide +kernel
theorem dX8_elderSign_12 : decode cX8_elderSign 12 = .ok (.aload_n 0, 1) := by decide +kernel
theorem dX8_elderSign_13 : decode cX8_elderSign 13 = .ok (.iconst 0, 1) := by decide +kernel
theorem dX8_elderSign_14 : decode cX8_elderSign 14 = .ok (.putfield 153, 3) := by decide +kernel
theorem dX8_elderSign_17 : decode cX8_elderSign 17 = .ok (.iload_n 1, 1) := by decide +kernel
theorem dX8_elderSign_18 : decode cX8_elderSign 18 = .ok (.ifCond .ne 12, 3) := by decide +kernel
theorem dX8_elderSign_21 : decode cX8_elderSign 21 = .ok (.aload_n 0, 1) := by decide +kernel
theorem dX8_elderSign_22 : decode cX8_elderSign 22 = .ok (.bipush 32, 2) := by decide +kernel
theorem dX8_elderSign_24 : decode cX8_elderSign 24 = .ok (.invokevirtual 127, 3) := by decide +kernel
theorem dX8_elderSign_27 : decode cX8_elderSign 27 = .ok (.goto 113, 3) := by decide +kernel
theorem dX8_elderSign_30 : decode cX8_elderSign 30 = .ok (.iload_n 1, 1) := by decide +kernel
theorem dX8_elderSign_31 : decode cX8_elderSign 31 = .ok (.iconst 1, 1) := by decide +kernel
theorem dX8_elderSign_32 : decode cX8_elderSign 32 = .ok (.if_icmp .ne 20, 3) := by decide +kernel
theorem dX8_elderSign_35 : decode cX8_elderSign 35 = .ok (.aload_n 0, 1) := by decide +kernel
theorem dX8_elderSign_36 : decode cX8_elderSign 36 = .ok (.getfield 36, 3) := by decide +kernel
theorem dX8_elderSign_39 : decode cX8_elderSign 39 = .ok (.iconst 1, 1) := by decide +kernel
theorem dX8_elderSign_40 : decode cX8_elderSign 40 = .ok (.if_icmp .ne 12, 3) := by decide +kernel
theorem dX8_elderSign_43 : decode cX8_elderSign 43 = .ok (.aload_n 0, 1) := by decide +kernel
theorem dX8_elderSign_44 : decode cX8_elderSign 44 = .ok (.bipush 13, 2) := by decide +kernel
theorem dX8_elderSign_46 : decode cX8_elderSign 46 = .ok (.invokevirtual 127, 3) := by decide +kernel
theorem dX8_elderSign_49 : decode cX8_elderSign 49 = .ok (.goto 91, 3) := by decide +kernel
theorem dX8_elderSign_52 : decode cX8_elderSign 52 = .ok (.iload_n 1, 1) := by decide +kernel
theorem dX8_elderSign_53 : decode cX8_elderSign 53 = .ok (.iconst 1, 1) := by decide +kernel
theorem dX8_elderSign_54 : decode cX8_elderSign 54 = .ok (.if_icmp .ne 42, 3) := by decide +kernel
theorem dX8_elderSign_57 : decode cX8_elderSign 57 = .ok (.aload_n 0, 1) := by decide +kernel
theorem dX8_elderSign_58 : decode cX8_elderSign 58 = .ok (.getfield 131, 3) := by decide +kernel
theorem dX8_elderSign_61 : decode cX8_elderSign 61 = .ok (.aload_n 0, 1) := by decide +kernel
theorem dX8_elderSign_62 : decode cX8_elderSign 62 = .ok (.getfield 137, 3) := by decide +kernel
theorem dX8_elderSign_65 : decode cX8_elderSign 65 = .ok (.if_icmp .ge 75, 3) := by decide +kernel
theorem dX8_elderSign_68 : decode cX8_elderSign 68 = .ok (.aload_n 0, 1) := by decide +kernel
theorem dX8_elderSign_69 : decode cX8_elderSign 69 = .ok (.getfield 23, 3) := by decide +kernel
theorem dX8_elderSign_72 : decode cX8_elderSign 72 = .ok (.aload_n 0, 1) := by decide +kernel
theorem dX8_elderSign_73 : decode cX8_elderSign 73 = .ok (.getfield 131, 3) := by decide +kernel
theorem dX8_elderSign_76 : decode cX8_elderSign 76 = .ok (.iaload, 1) := by decide +kernel
theorem dX8_elderSign_77 : decode cX8_elderSign 77 = .ok (.istore_n 3, 1) := by decide +kernel
theorem dX8_elderSign_78 : decode cX8_elderSign 78 = .ok (.aload_n 0, 1) := by decide +kernel
theorem dX8_elderSign_79 : decode cX8_elderSign 79 = .ok (.dup, 1) := by decide +kernel
theorem dX8_elderSign_80 : decode cX8_elderSign 80 = .ok (.getfield 131, 3) := by decide +kernel
theorem dX8_elderSign_83 : decode cX8_elderSign 83 = .ok (.iconst 1, 1) := by decide +kernel
theorem dX8_elderSign_84 : decode cX8_elderSign 84 = .ok (.iadd, 1) := by decide +kernel
theorem dX8_elderSign_85 : decode cX8_elderSign 85 = .ok (.putfield 131, 3) := by decide +kernel
theorem dX8_elderSign_88 : decode cX8_elderSign 88 = .ok (.aload_n 0, 1) := by decide +kernel
theorem dX8_elderSign_89 : decode cX8_elderSign 89 = .ok (.iload_n 3, 1) := by decide +kernel
theorem dX8_elderSign_90 : decode cX8_elderSign 90 = .ok (.invokevirtual 162, 3) := by decide +kernel
theorem dX8_elderSign_93 : decode cX8_elderSign 93 = .ok (.goto 47, 3) := by decide +kernel
theorem dX8_elderSign_96 : decode cX8_elderSign 96 = .ok (.iload_n 1, 1) := by decide +kernel
theorem dX8_elderSign_97 : decode cX8_elderSign 97 = .ok (.iconst 4, 1) := by decide +kernel
theorem dX8_elderSign_98 : decode cX8_elderSign 98 = .ok (.if_icmp .ge 13, 3) := by decide +kernel
theorem dX8_elderSign_101 : decode cX8_elderSign 101 = .ok (.aload_n 0, 1) := by decide +kernel
theorem dX8_elderSign_102 : decode cX8_elderSign 102 = .ok (.iload_n 1, 1) := by decide +kernel
theorem dX8_elderSign_103 : decode cX8_elderSign 103 = .ok (.iconst 1, 1) := by decide +kernel
theorem dX8_elderSign_104 : decode cX8_elderSign 104 = .ok (.isub, 1) := by decide +kernel
theorem dX8_elderSign_105 : decode cX8_elderSign 105 = .ok (.putfield 153, 3) := by decide +kernel
theorem dX8_elderSign_108 : decode cX8_elderSign 108 = .ok (.goto 32, 3) := by decide +kernel
theorem dX8_elderSign_111 : decode cX8_elderSign 111 = .ok (.iload_n 1, 1) := by decide +kernel
theorem dX8_elderSign_112 : decode cX8_elderSign 112 = .ok (.bipush 6, 2) := by decide +kernel
theorem dX8_elderSign_114 : decode cX8_elderSign 114 = .ok (.if_icmp .ge 20, 3) := by decide +kernel
theorem dX8_elderSign_117 : decode cX8_elderSign 117 = .ok (.aload_n 0, 1) := by decide +kernel
theorem dX8_elderSign_118 : decode cX8_elderSign 118 = .ok (.aload_n 0, 1) := by decide +kernel
theorem dX8_elderSign_119 : decode cX8_elderSign 119 = .ok (.getfield 143, 3) := by decide +kernel
theorem dX8_elderSign_122 : decode cX8_elderSign 122 = .ok (.iload_n 1, 1) := by decide +kernel
theorem dX8_elderSign_123 : decode cX8_elderSign 123 = .ok (.iadd, 1) := by decide +kernel
theorem dX8_elderSign_124 : decode cX8_elderSign 124 = .ok (.iconst 3, 1) := by decide +kernel
theorem dX8_elderSign_125 : decode cX8_elderSign 125 = .ok (.isub, 1) := by decide +kernel
theorem dX8_elderSign_126 : decode cX8_elderSign 126 = .ok (.iconst 3, 1) := by decide +kernel
theorem dX8_elderSign_127 : decode cX8_elderSign 127 = .ok (.irem, 1) := by decide +kernel
theorem dX8_elderSign_128 : decode cX8_elderSign 128 = .ok (.putfield 143, 3) := by decide +kernel
theorem dX8_elderSign_131 : decode cX8_elderSign 131 = .ok (.goto 9, 3) := by decide +kernel
theorem dX8_elderSign_134 : decode cX8_elderSign 134 = .ok (.aload_n 0, 1) := by decide +kernel
theorem dX8_elderSign_135 : decode cX8_elderSign 135 = .ok (.iload_n 1, 1) := by decide +kernel
theorem dX8_elderSign_136 : decode cX8_elderSign 136 = .ok (.iload_n 2, 1) := by decide +kernel
theorem dX8_elderSign_137 : decode cX8_elderSign 137 = .ok (.invokevirtual 165, 3) := by decide +kernel
theorem dX8_elderSign_140 : decode cX8_elderSign 140 = .ok (.return_, 1) := by decide +kernel
theorem dX8_letter_0 : decode cX8_letter 0 = .ok (.iload_n 2, 1) := by decide +kernel
theorem dX8_letter_1 : decode cX8_letter 1 = .ok (.iconst 2, 1) := by decide +kernel
theorem dX8_letter_2 : decode cX8_letter 2 = .ok (.if_icmp .ge 26, 3) := by decide +kernel
theorem dX8_letter_5 : decode cX8_letter 5 = .ok (.aload_n 0, 1) := by decide +kernel
theorem dX8_letter_6 : decode cX8_letter 6 = .ok (.iload_n 2, 1) := by decide +kernel
theorem dX8_letter_7 : decode cX8_letter 7 = .ok (.ifCond .ne 8, 3) := by decide +kernel
theorem dX8_letter_10 : decode cX8_letter 10 = .ok (.bipush 97, 2) := by decide +kernel
theorem dX8_letter_12 : decode cX8_letter 12 = .ok (.goto 5, 3) := by decide +kernel
theorem dX8_letter_15 : decode cX8_letter 15 = .ok (.bipush 65, 2) := by decide +kernel
theorem dX8_letter_17 : decode cX8_letter 17 = .ok (.iload_n 1, 1) := by decide +kernel
theorem dX8_letter_18 : decode cX8_letter 18 = .ok (.iadd, 1) := by decide +kernel
theorem dX8_letter_19 : decode cX8_letter 19 = .ok (.bipush 6, 2) := by decide +kernel
theorem dX8_letter_21 : decode cX8_letter 21 = .ok (.isub, 1) := by decide +kernel
theorem dX8_letter_22 : decode cX8_letter 22 = .ok (.invokevirtual 127, 3) := by decide +kernel
theorem dX8_letter_25 : decode cX8_letter 25 = .ok (.goto 120, 3) := by decide +kernel
theorem dX8_letter_28 : decode cX8_letter 28 = .ok (.iload_n 1, 1) := by decide +kernel
theorem dX8_letter_29 : decode cX8_letter 29 = .ok (.bipush 6, 2) := by decide +kernel
theorem dX8_letter_31 : decode cX8_letter 31 = .ok (.if_icmp .ne 68, 3) := by decide +kernel
theorem dX8_letter_34 : decode cX8_letter 34 = .ok (.aload_n 0, 1) := by decide +kernel
theorem dX8_letter_35 : decode cX8_letter 35 = .ok (.getfield 131, 3) := by decide +kernel
theorem dX8_letter_38 : decode cX8_letter 38 = .ok (.iconst 1, 1) := by decide +kernel
theorem dX8_letter_39 : decode cX8_letter 39 = .ok (.iadd, 1) := by decide +kernel
theorem dX8_letter_40 : decode cX8_letter 40 = .ok (.aload_n 0, 1) := by decide +kernel
theorem dX8_letter_41 : decode cX8_letter 41 = .ok (.getfield 137, 3) := by decide +kernel
theorem dX8_letter_44 : decode cX8_letter 44 = .ok (.if_icmp .ge 44, 3) := by decide +kernel
theorem dX8_letter_47 : decode cX8_letter 47 = .ok (.aload_n 0, 1) := by decide +kernel
theorem dX8_letter_48 : decode cX8_letter 48 = .ok (.bipush 32, 2) := by decide +kernel
theorem dX8_letter_50 : decode cX8_letter 50 = .ok (.aload_n 0, 1) := by decide +kernel
theorem dX8_letter_51 : decode cX8_letter 51 = .ok (.getfield 23, 3) := by decide +kernel
theorem dX8_letter_54 : decode cX8_letter 54 = .ok (.aload_n 0, 1) := by decide +kernel
theorem dX8_letter_55 : decode cX8_letter 55 = .ok (.getfield 131, 3) := by decide +kernel
theorem dX8_letter_58 : decode cX8_letter 58 = .ok (.iaload, 1) := by decide +kernel
theorem dX8_letter_59 : decode cX8_letter 59 = .ok (.imul, 1) := by decide +kernel
theorem dX8_letter_60 : decode cX8_letter 60 = .ok (.aload_n 0, 1) := by decide +kernel
theorem dX8_letter_61 : decode cX8_letter 61 = .ok (.getfield 23, 3) := by decide +kernel
theorem dX8_letter_64 : decode cX8_letter 64 = .ok (.aload_n 0, 1) := by decide +kernel
theorem dX8_letter_65 : decode cX8_letter 65 = .ok (.getfield 131, 3) := by decide +kernel
theorem dX8_letter_68 : decode cX8_letter 68 = .ok (.iconst 1, 1) := by decide +kernel
theorem dX8_letter_69 : decode cX8_letter 69 = .ok (.iadd, 1) := by decide +kernel
theorem dX8_letter_70 : decode cX8_letter 70 = .ok (.iaload, 1) := by decide +kernel
theorem dX8_letter_71 : decode cX8_letter 71 = .ok (.iadd, 1) := by decide +kernel
theorem dX8_letter_72 : decode cX8_letter 72 = .ok (.invokevirtual 127, 3) := by decide +kernel
theorem dX8_letter_75 : decode cX8_letter 75 = .ok (.aload_n 0, 1) := by decide +kernel
theorem dX8_letter_76 : decode cX8_letter 76 = .ok (.dup, 1) := by decide +kernel
theorem dX8_letter_77 : decode cX8_letter 77 = .ok (.getfield 131, 3) := by decide +kernel
theorem dX8_letter_80 : decode cX8_letter 80 = .ok (.iconst 2, 1) := by decide +kernel
theorem dX8_letter_81 : decode cX8_letter 81 = .ok (.iadd, 1) := by decide +kernel
theorem dX8_letter_82 : decode cX8_letter 82 = .ok (.putfield 131, 3) := by decide +kernel
theorem dX8_letter_85 : decode cX8_letter 85 = .ok (.goto 60, 3) := by decide +kernel
theorem dX8_letter_88 : decode cX8_letter 88 = .ok (.aload_n 0, 1) := by decide +kernel
theorem dX8_letter_89 : decode cX8_letter 89 = .ok (.aload_n 0, 1) := by decide +kernel
theorem dX8_letter_90 : decode cX8_letter 90 = .ok (.getfield 137, 3) := by decide +kernel
theorem dX8_letter_93 : decode cX8_letter 93 = .ok (.putfield 131, 3) := by decide +kernel
theorem dX8_letter_96 : decode cX8_letter 96 = .ok (.goto 49, 3) := by decide +kernel
theorem dX8_letter_99 : decode cX8_letter 99 = .ok (.aload_n 0, 1) := by decide +kernel
theorem dX8_letter_100 : decode cX8_letter 100 = .ok (.getfield 36, 3) := by decide +kernel
theorem dX8_letter_103 : decode cX8_letter 103 = .ok (.iconst 1, 1) := by decide +kernel
theorem dX8_letter_104 : decode cX8_letter 104 = .ok (.if_icmp .ne 18, 3) := by decide +kernel
theorem dX8_letter_107 : decode cX8_letter 107 = .ok (.aload_n 0, 1) := by decide +kernel
theorem dX8_letter_108 : decode cX8_letter 108 = .ok (.iload_n 1, 1) := by decide +kernel
theorem dX8_letter_109 : decode cX8_letter 109 = .ok (.bipush 7, 2) := by decide +kernel
theorem dX8_letter_111 : decode cX8_letter 111 = .ok (.isub, 1) := by decide +kernel
theorem dX8_letter_112 : decode cX8_letter 112 = .ok (.iconst 1, 1) := by decide +kernel
theorem dX8_letter_113 : decode cX8_letter 113 = .ok (.invokestatic 168, 3) := by decide +kernel
theorem dX8_letter_116 : decode cX8_letter 116 = .ok (.invokevirtual 127, 3) := by decide +kernel
theorem dX8_letter_119 : decode cX8_letter 119 = .ok (.goto 26, 3) := by decide +kernel
theorem dX8_letter_122 : decode cX8_letter 122 = .ok (.aload_n 0, 1) := by decide +kernel
theorem dX8_letter_123 : decode cX8_letter 123 = .ok (.iload_n 1, 1) := by decide +kernel
theorem dX8_letter_124 : decode cX8_letter 124 = .ok (.bipush 7, 2) := by decide +kernel
theorem dX8_letter_126 : decode cX8_letter 126 = .ok (.if_icmp .ne 8, 3) := by decide +kernel
theorem dX8_letter_129 : decode cX8_letter 129 = .ok (.bipush 13, 2) := by decide +kernel
theorem dX8_letter_131 : decode cX8_letter 131 = .ok (.goto 11, 3) := by decide +kernel
theorem dX8_letter_134 : decode cX8_letter 134 = .ok (.iload_n 1, 1) := by decide +kernel
theorem dX8_letter_135 : decode cX8_letter 135 = .ok (.bipush 8, 2) := by decide +kernel
theorem dX8_letter_137 : decode cX8_letter 137 = .ok (.isub, 1) := by decide +kernel
theorem dX8_letter_138 : decode cX8_letter 138 = .ok (.iconst 0, 1) := by decide +kernel
theorem dX8_letter_139 : decode cX8_letter 139 = .ok (.invokestatic 168, 3) := by decide +kernel
theorem dX8_letter_142 : decode cX8_letter 142 = .ok (.invokevirtual 127, 3) := by decide +kernel
theorem dX8_letter_145 : decode cX8_letter 145 = .ok (.return_, 1) := by decide +kernel
theorem dX8_third_0 : decode cX8_third 0 = .ok (.iload_n 0, 1) := by decide +kernel
theorem dX8_third_1 : decode cX8_third 1 = .ok (.bipush 10, 2) := by decide +kernel
theorem dX8_third_3 : decode cX8_third 3 = .ok (.if_icmp .ge 8, 3) := by decide +kernel
theorem dX8_third_6 : decode cX8_third 6 = .ok (.bipush 48, 2) := by decide +kernel
theorem dX8_third_8 : decode cX8_third 8 = .ok (.iload_n 0, 1) := by decide +kernel
theorem dX8_third_9 : decode cX8_third 9 = .ok (.iadd, 1) := by decide +kernel
theorem dX8_third_10 : decode cX8_third 10 = .ok (.ireturn, 1) := by decide +kernel
theorem dX8_third_11 : decode cX8_third 11 = .ok (.iload_n 1, 1) := by decide +kernel
theorem dX8_third_12 : decode cX8_third 12 = .ok (.ifCond .ne 9, 3) := by decide +kernel
theorem dX8_third_15 : decode cX8_third 15 = .ok (.iload_n 0, 1) := by decide +kernel
theorem dX8_third_16 : decode cX8_third 16 = .ok (.bipush 20, 2) := by decide +kernel
theorem dX8_third_18 : decode cX8_third 18 = .ok (.if_icmp .ge 7, 3) := by decide +kernel
theorem dX8_third_21 : decode cX8_third 21 = .ok (.iload_n 0, 1) := by decide +kernel
theorem dX8_third_22 : decode cX8_third 22 = .ok (.goto 6, 3) := by decide +kernel
theorem dX8_third_25 : decode cX8_third 25 = .ok (.iload_n 0, 1) := by decide +kernel
theorem dX8_third_26 : decode cX8_third 26 = .ok (.iconst 1, 1) := by decide +kernel
theorem dX8_third_27 : decode cX8_third 27 = .ok (.iadd, 1) := by decide +kernel
theorem dX8_third_28 : decode cX8_third 28 = .ok (.istore_n 2, 1) := by decide +kernel
theorem dX8_third_29 : decode cX8_third 29 = .ok (.iload_n 2, 1) := by decide +kernel
theorem dX8_third_30 : decode cX8_third 30 = .ok (.tableswitch 112 10 23 #[70, 73, 76, 79, 82, 85, 88, 91, 94, 97, 100, 103, 106, 109], 70) := by decide +kernel
theorem dX8_third_100 : decode cX8_third 100 = .ok (.bipush 46, 2) := by decide +kernel
theorem dX8_third_102 : decode cX8_third 102 = .ok (.ireturn, 1) := by decide +kernel
theorem dX8_third_103 : decode cX8_third 103 = .ok (.bipush 44, 2) := by decide +kernel
theorem dX8_third_105 : decode cX8_third 105 = .ok (.ireturn, 1) := by decide +kernel
theorem dX8_third_106 : decode cX8_third 106 = .ok (.bipush 33, 2) := by decide +kernel
theorem dX8_third_108 : decode cX8_third 108 = .ok (.ireturn, 1) := by decide +kernel
theorem dX8_third_109 : decode cX8_third 109 = .ok (.bipush 63, 2) := by decide +kernel
theorem dX8_third_111 : decode cX8_third 111 = .ok (.ireturn, 1) := by decide +kernel
theorem dX8_third_112 : decode cX8_third 112 = .ok (.bipush 95, 2) := by decide +kernel
theorem dX8_third_114 : decode cX8_third 114 = .ok (.ireturn, 1) := by decide +kernel
theorem dX8_third_115 : decode cX8_third 115 = .ok (.bipush 35, 2) := by decide +kernel
theorem dX8_third_117 : decode cX8_third 117 = .ok (.ireturn, 1) := by decide +kernel
theorem dX8_third_118 : decode cX8_third 118 = .ok (.bipush 39, 2) := by decide +kernel
theorem dX8_third_120 : decode cX8_third 120 = .ok (.ireturn, 1) := by decide +kernel
theorem dX8_third_121 : decode cX8_third 121 = .ok (.bipush 34, 2) := by decide +kernel
theorem dX8_third_123 : decode cX8_third 123 = .ok (.ireturn, 1) := by decide +kernel
theorem dX8_third_124 : decode cX8_third 124 = .ok (.bipush 47, 2) := by decide +kernel
theorem dX8_third_126 : decode cX8_third 126 = .ok (.ireturn, 1) := by decide +kernel
theorem dX8_third_127 : decode cX8_third 127 = .ok (.bipush 92, 2) := by decide +kernel
theorem dX8_third_129 : decode cX8_third 129 = .ok (.ireturn, 1) := by decide +kernel
theorem dX8_third_130 : decode cX8_third 130 = .ok (.bipush 60, 2) := by decide +kernel
theorem dX8_third_132 : decode cX8_third 132 = .ok (.ireturn, 1) := by decide +kernel
theorem dX8_third_133 : decode cX8_third 133 = .ok (.bipush 45, 2) := by decide +kernel
theorem dX8_third_135 : decode cX8_third 135 = .ok (.ireturn, 1) := by decide +kernel
theorem dX8_third_136 : decode cX8_third 136 = .ok (.bipush 58, 2) := by decide +kernel
theorem dX8_third_138 : decode cX8_third 138 = .ok (.ireturn, 1) := by decide +kernel
theorem dX8_third_139 : decode cX8_third 139 = .ok (.bipush 40, 2) := by decide +kernel
theorem dX8_third_141 : decode cX8_third 141 = .ok (.ireturn, 1) := by decide +kernel
theorem dX8_third_142 : decode cX8_third 142 = .ok (.bipush 41, 2) := by decide +kernel
theorem dX8_third_144 : decode cX8_third 144 = .ok (.ireturn, 1) := by decide +kernel
theorem dX8_name_0 : decode cX8_name 0 = .ok (.aload_n 0, 1) := by decide +kernel
theorem dX8_name_1 : decode cX8_name 1 = .ok (.iload_n 1, 1) := by decide +kernel
theorem dX8_name_2 : decode cX8_name 2 = .ok (.invokevirtual 66, 3) := by decide +kernel
theorem dX8_name_5 : decode cX8_name 5 = .ok (.ifCond .ne 5, 3) := by decide +kernel
theorem dX8_name_8 : decode cX8_name 8 = .ok (.iconst (-1), 1) := by decide +kernel
theorem dX8_name_9 : decode cX8_name 9 = .ok (.ireturn, 1) := by decide +kernel
theorem dX8_name_10 : decode cX8_name 10 = .ok (.aload_n 0, 1) := by decide +kernel
theorem dX8_name_11 : decode cX8_name 11 = .ok (.iload_n 1, 1) := by decide +kernel
theorem dX8_name_12 : decode cX8_name 12 = .ok (.invokevirtual 172, 3) := by decide +kernel
theorem dX8_name_15 : decode cX8_name 15 = .ok (.iload_n 2, 1) := by decide +kernel
theorem dX8_name_16 : decode cX8_name 16 = .ok (.ifCond .lt 11, 3) := by decide +kernel
theorem dX8_name_19 : decode cX8_name 19 = .ok (.iload_n 2, 1) := by decide +kernel
theorem dX8_name_20 : decode cX8_name 20 = .ok (.aload_n 0, 1) := by decide +kernel
theorem dX8_name_21 : decode cX8_name 21 = .ok (.getfield 121, 3) := by decide +kernel
theorem dX8_name_24 : decode cX8_name 24 = .ok (.if_icmp .lt 8, 3) := by decide +kernel
theorem dX8_name_27 : decode cX8_name 27 = .ok (.bipush (-2), 2) := by decide +kernel
theorem dX8_name_29 : decode cX8_name 29 = .ok (.goto 9, 3) := by decide +kernel
theorem dX8_name_32 : decode cX8_name 32 = .ok (.aload_n 0, 1) := by decide +kernel
theorem dX8_name_33 : decode cX8_name 33 = .ok (.getfield 20, 3) := by decide +kernel
theorem dX8_name_36 : decode cX8_name 36 = .ok (.iload_n 2, 1) := by decide +kernel
theorem dX8_name_37 : decode cX8_name 37 = .ok (.iaload, 1) := by decide +kernel
theorem dX8_name_38 : decode cX8_name 38 = .ok (.ireturn, 1) := by decide +kernel
theorem dX8_named_0 : decode cX8_named 0 = .ok (.aload_n 0, 1) := by decide +kernel
theorem dX8_named_1 : decode cX8_named 1 = .ok (.iload_n 1, 1) := by decide +kernel
theorem dX8_named_2 : decode cX8_named 2 = .ok (.invokevirtual 66, 3) := by decide +kernel
theorem dX8_named_5 : decode cX8_named 5 = .ok (.ifCond .ne 5, 3) := by decide +kernel
theorem dX8_named_8 : decode cX8_named 8 = .ok (.iconst (-1), 1) := by decide +kernel
theorem dX8_named_9 : decode cX8_named 9 = .ok (.ireturn, 1) := by decide +kernel
theorem dX8_named_10 : decode cX8_named 10 = .ok (.aload_n 0, 1) := by decide +kernel
theorem dX8_named_11 : decode cX8_named 11 = .ok (.iload_n 1, 1) := by decide +kernel
theorem dX8_named_12 : decode cX8_named 12 = .ok (.invokevirtual 172, 3) := by decide +kernel
theorem dX8_named_15 : decode cX8_named 15 = .ok (.aload_n 0, 1) := by decide +kernel
theorem dX8_named_16 : decode cX8_named 16 = .ok (.getfield 121, 3) := by decide +kernel
theorem dX8_named_19 : decode cX8_named 19 = .ok (.ireturn, 1) := by decide +kernel
theorem dX8_within_0 : decode cX8_within 0 = .ok (.aload_n 0, 1) := by decide +kernel
theorem dX8_within_1 : decode cX8_within 1 = .ok (.iload_n 1, 1) := by decide +kernel
theorem dX8_within_2 : decode cX8_within 2 = .ok (.invokevirtual 66, 3) := by decide +kernel
theorem dX8_within_5 : decode cX8_within 5 = .ok (.ifCond .ne 5, 3) := by decide +kernel
theorem dX8_within_8 : decode cX8_within 8 = .ok (.iconst (-1), 1) := by decide +kernel
theorem dX8_within_9 : decode cX8_within 9 = .ok (.ireturn, 1) := by decide +kernel
theorem dX8_within_10 : decode cX8_within 10 = .ok (.iload_n 2, 1) := by decide +kernel
theorem dX8_within_11 : decode cX8_within 11 = .ok (.ifCond .ge 6, 3) := by decide +kernel
theorem dX8_within_14 : decode cX8_within 14 = .ok (.bipush (-2), 2) := by decide +kernel
theorem dX8_within_16 : decode cX8_within 16 = .ok (.ireturn, 1) := by decide +kernel
theorem dX8_within_17 : decode cX8_within 17 = .ok (.iconst 0, 1) := by decide +kernel
theorem dX8_within_18 : decode cX8_within 18 = .ok (.istore_n 3, 1) := by decide +kernel
theorem dX8_within_19 : decode cX8_within 19 = .ok (.iload_n 3, 1) := by decide +kernel
theorem dX8_within_20 : decode cX8_within 20 = .ok (.bipush 100, 2) := by decide +kernel
theorem dX8_within_22 : decode cX8_within 22 = .ok (.if_icmp .gt 16, 3) := by decide +kernel
theorem dX8_within_25 : decode cX8_within 25 = .ok (.aload_n 0, 1) := by decide +kernel
theorem dX8_within_26 : decode cX8_within 26 = .ok (.getfield 26, 3) := by decide +kernel
theorem dX8_within_29 : decode cX8_within 29 = .ok (.iload_n 3, 1) := by decide +kernel
theorem dX8_within_30 : decode cX8_within 30 = .ok (.iconst 0, 1) := by decide +kernel
theorem dX8_within_31 : decode cX8_within 31 = .ok (.bastore, 1) := by decide +kernel
theorem dX8_within_32 : decode cX8_within 32 = .ok (.iinc 3 1, 3) := by decide +kernel
theorem dX8_within_35 : decode cX8_within 35 = .ok (.goto (-16), 3) := by decide +kernel
theorem dX8_within_38 : decode cX8_within 38 = .ok (.aload_n 0, 1) := by decide +kernel
theorem dX8_within_39 : decode cX8_within 39 = .ok (.getfield 26, 3) := by decide +kernel
theorem dX8_within_42 : decode cX8_within 42 = .ok (.iload_n 1, 1) := by decide +kernel
theorem dX8_within_43 : decode cX8_within 43 = .ok (.iconst 1, 1) := by decide +kernel
theorem dX8_within_44 : decode cX8_within 44 = .ok (.bastore, 1) := by decide +kernel
theorem dX8_within_45 : decode cX8_within 45 = .ok (.aload_n 0, 1) := by decide +kernel
theorem dX8_within_46 : decode cX8_within 46 = .ok (.getfield 30, 3) := by decide +kernel
theorem dX8_within_49 : decode cX8_within 49 = .ok (.iconst 0, 1) := by decide +kernel
theorem dX8_within_50 : decode cX8_within 50 = .ok (.iload_n 1, 1) := by decide +kernel
theorem dX8_within_51 : decode cX8_within 51 = .ok (.iastore, 1) := by decide +kernel
theorem dX8_within_52 : decode cX8_within 52 = .ok (.iconst 1, 1) := by decide +kernel
theorem dX8_within_53 : decode cX8_within 53 = .ok (.istore_n 3, 1) := by decide +kernel
theorem dX8_within_54 : decode cX8_within 54 = .ok (.iconst 1, 1) := by decide +kernel
theorem dX8_within_55 : decode cX8_within 55 = .ok (.istore 4, 2) := by decide +kernel
theorem dX8_within_57 : decode cX8_within 57 = .ok (.aload_n 0, 1) := by decide +kernel
theorem dX8_within_58 : decode cX8_within 58 = .ok (.getfield 33, 3) := by decide +kernel
theorem dX8_within_61 : decode cX8_within 61 = .ok (.iconst 0, 1) := by decide +kernel
theorem dX8_within_62 : decode cX8_within 62 = .ok (.aload_n 0, 1) := by decide +kernel
theorem dX8_within_63 : decode cX8_within 63 = .ok (.iload_n 1, 1) := by decide +kernel
theorem dX8_within_64 : decode cX8_within 64 = .ok (.iconst 2, 1) := by decide +kernel
theorem dX8_within_65 : decode cX8_within 65 = .ok (.invokevirtual 70, 3) := by decide +kernel
theorem dX8_within_68 : decode cX8_within 68 = .ok (.iastore, 1) := by decide +kernel
theorem dX8_within_69 : decode cX8_within 69 = .ok (.iload 4, 2) := by decide +kernel
theorem dX8_within_71 : decode cX8_within 71 = .ok (.ifCond .le 94, 3) := by decide +kernel
theorem dX8_within_74 : decode cX8_within 74 = .ok (.aload_n 0, 1) := by decide +kernel
theorem dX8_within_75 : decode cX8_within 75 = .ok (.getfield 33, 3) := by decide +kernel
theorem dX8_within_78 : decode cX8_within 78 = .ok (.iload 4, 2) := by decide +kernel
theorem dX8_within_80 : decode cX8_within 80 = .ok (.iconst 1, 1) := by decide +kernel
theorem dX8_within_81 : decode cX8_within 81 = .ok (.isub, 1) := by decide +kernel
theorem dX8_within_82 : decode cX8_within 82 = .ok (.iaload, 1) := by decide +kernel
theorem dX8_within_83 : decode cX8_within 83 = .ok (.istore 5, 2) := by decide +kernel
theorem dX8_within_85 : decode cX8_within 85 = .ok (.aload_n 0, 1) := by decide +kernel
theorem dX8_within_86 : decode cX8_within 86 = .ok (.iload 5, 2) := by decide +kernel
theorem dX8_within_88 : decode cX8_within 88 = .ok (.invokevirtual 66, 3) := by decide +kernel
theorem dX8_within_91 : decode cX8_within 91 = .ok (.ifCond .eq 13, 3) := by decide +kernel
theorem dX8_within_94 : decode cX8_within 94 = .ok (.aload_n 0, 1) := by decide +kernel
theorem dX8_within_95 : decode cX8_within 95 = .ok (.getfield 26, 3) := by decide +kernel
theorem dX8_within_98 : decode cX8_within 98 = .ok (.iload 5, 2) := by decide +kernel
theorem dX8_within_100 : decode cX8_within 100 = .ok (.baload, 1) := by decide +kernel
theorem dX8_within_101 : decode cX8_within 101 = .ok (.ifCond .eq 9, 3) := by decide +kernel
theorem dX8_within_104 : decode cX8_within 104 = .ok (.iinc 4 (-1), 3) := by decide +kernel
theorem dX8_within_107 : decode cX8_within 107 = .ok (.goto 55, 3) := by decide +kernel
theorem dX8_within_110 : decode cX8_within 110 = .ok (.aload_n 0, 1) := by decide +kernel
theorem dX8_within_111 : decode cX8_within 111 = .ok (.getfield 26, 3) := by decide +kernel
theorem dX8_within_114 : decode cX8_within 114 = .ok (.iload 5, 2) := by decide +kernel
theorem dX8_within_116 : decode cX8_within 116 = .ok (.iconst 1, 1) := by decide +kernel
theorem dX8_within_117 : decode cX8_within 117 = .ok (.bastore, 1) := by decide +kernel
theorem dX8_within_118 : decode cX8_within 118 = .ok (.aload_n 0, 1) := by decide +kernel
theorem dX8_within_119 : decode cX8_within 119 = .ok (.getfield 30, 3) := by decide +kernel
theorem dX8_within_122 : decode cX8_within 122 = .ok (.iload_n 3, 1) := by decide +kernel
theorem dX8_within_123 : decode cX8_within 123 = .ok (.iload 5, 2) := by decide +kernel
theorem dX8_within_125 : decode cX8_within 125 = .ok (.iastore, 1) := by decide +kernel
theorem dX8_within_126 : decode cX8_within 126 = .ok (.iinc 3 1, 3) := by decide +kernel
theorem dX8_within_129 : decode cX8_within 129 = .ok (.aload_n 0, 1) := by decide +kernel
theorem dX8_within_130 : decode cX8_within 130 = .ok (.getfield 33, 3) := by decide +kernel
theorem dX8_within_133 : decode cX8_within 133 = .ok (.iload 4, 2) := by decide +kernel
theorem dX8_within_135 : decode cX8_within 135 = .ok (.iconst 1, 1) := by decide +kernel
theorem dX8_within_136 : decode cX8_within 136 = .ok (.isub, 1) := by decide +kernel
theorem dX8_within_137 : decode cX8_within 137 = .ok (.aload_n 0, 1) := by decide +kernel
theorem dX8_within_138 : decode cX8_within 138 = .ok (.iload 5, 2) := by decide +kernel
theorem dX8_within_140 : decode cX8_within 140 = .ok (.iconst 1, 1) := by decide +kernel
theorem dX8_within_141 : decode cX8_within 141 = .ok (.invokevirtual 70, 3) := by decide +kernel
theorem dX8_within_144 : decode cX8_within 144 = .ok (.iastore, 1) := by decide +kernel
theorem dX8_within_145 : decode cX8_within 145 = .ok (.aload_n 0, 1) := by decide +kernel
theorem dX8_within_146 : decode cX8_within 146 = .ok (.getfield 33, 3) := by decide +kernel
theorem dX8_within_149 : decode cX8_within 149 = .ok (.iload 4, 2) := by decide +kernel
theorem dX8_within_151 : decode cX8_within 151 = .ok (.aload_n 0, 1) := by decide +kernel
theorem dX8_within_152 : decode cX8_within 152 = .ok (.iload 5, 2) := by decide +kernel
theorem dX8_within_154 : decode cX8_within 154 = .ok (.iconst 2, 1) := by decide +kernel
theorem dX8_within_155 : decode cX8_within 155 = .ok (.invokevirtual 70, 3) := by decide +kernel
theorem dX8_within_158 : decode cX8_within 158 = .ok (.iastore, 1) := by decide +kernel
theorem dX8_within_159 : decode cX8_within 159 = .ok (.iinc 4 1, 3) := by decide +kernel
theorem dX8_within_162 : decode cX8_within 162 = .ok (.goto (-93), 3) := by decide +kernel
theorem dX8_within_165 : decode cX8_within 165 = .ok (.iload_n 2, 1) := by decide +kernel
theorem dX8_within_166 : decode cX8_within 166 = .ok (.iload_n 3, 1) := by decide +kernel
theorem dX8_within_167 : decode cX8_within 167 = .ok (.if_icmp .ge 12, 3) := by decide +kernel
theorem dX8_within_170 : decode cX8_within 170 = .ok (.aload_n 0, 1) := by decide +kernel
theorem dX8_within_171 : decode cX8_within 171 = .ok (.getfield 30, 3) := by decide +kernel
theorem dX8_within_174 : decode cX8_within 174 = .ok (.iload_n 2, 1) := by decide +kernel
theorem dX8_within_175 : decode cX8_within 175 = .ok (.iaload, 1) := by decide +kernel
theorem dX8_within_176 : decode cX8_within 176 = .ok (.goto 4, 3) := by decide +kernel
theorem dX8_within_179 : decode cX8_within 179 = .ok (.iconst 0, 1) := by decide +kernel
theorem dX8_within_180 : decode cX8_within 180 = .ok (.ireturn, 1) := by decide +kernel
theorem dX8_rises_0 : decode cX8_rises 0 = .ok (.aload_n 0, 1) := by decide +kernel
theorem dX8_rises_1 : decode cX8_rises 1 = .ok (.iload_n 1, 1) := by decide +kernel
theorem dX8_rises_2 : decode cX8_rises 2 = .ok (.invokevirtual 110, 3) := by decide +kernel
theorem dX8_rises_5 : decode cX8_rises 5 = .ok (.istore_n 2, 1) := by decide +kernel
theorem dX8_rises_6 : decode cX8_rises 6 = .ok (.bipush 64, 2) := by decide +kernel
theorem dX8_rises_8 : decode cX8_rises 8 = .ok (.istore_n 3, 1) := by decide +kernel
theorem dX8_rises_9 : decode cX8_rises 9 = .ok (.aload_n 0, 1) := by decide +kernel
theorem dX8_rises_10 : decode cX8_rises 10 = .ok (.iload_n 2, 1) := by decide +kernel
theorem dX8_rises_11 : decode cX8_rises 11 = .ok (.invokevirtual 113, 3) := by decide +kernel
theorem dX8_rises_14 : decode cX8_rises 14 = .ok (.ifCond .eq 31, 3) := by decide +kernel
theorem dX8_rises_17 : decode cX8_rises 17 = .ok (.aload_n 0, 1) := by decide +kernel
theorem dX8_rises_18 : decode cX8_rises 18 = .ok (.getfield 101, 3) := by decide +kernel
theorem dX8_rises_21 : decode cX8_rises 21 = .ok (.iload_n 3, 1) := by decide +kernel
theorem dX8_rises_22 : decode cX8_rises 22 = .ok (.if_icmp .lt 5, 3) := by decide +kernel
theorem dX8_rises_25 : decode cX8_rises 25 = .ok (.iconst 1, 1) := by decide +kernel
theorem dX8_rises_26 : decode cX8_rises 26 = .ok (.ireturn, 1) := by decide +kernel
theorem dX8_rises_27 : decode cX8_rises 27 = .ok (.aload_n 0, 1) := by decide +kernel
theorem dX8_rises_28 : decode cX8_rises 28 = .ok (.getfield 101, 3) := by decide +kernel
theorem dX8_rises_31 : decode cX8_rises 31 = .ok (.istore_n 3, 1) := by decide +kernel
theorem dX8_rises_32 : decode cX8_rises 32 = .ok (.aload_n 0, 1) := by decide +kernel
theorem dX8_rises_33 : decode cX8_rises 33 = .ok (.getfield 107, 3) := by decide +kernel
theorem dX8_rises_36 : decode cX8_rises 36 = .ok (.aload_n 0, 1) := by decide +kernel
theorem dX8_rises_37 : decode cX8_rises 37 = .ok (.getfield 104, 3) := by decide +kernel
theorem dX8_rises_40 : decode cX8_rises 40 = .ok (.iadd, 1) := by decide +kernel
theorem dX8_rises_41 : decode cX8_rises 41 = .ok (.istore_n 2, 1) := by decide +kernel
theorem dX8_rises_42 : decode cX8_rises 42 = .ok (.goto (-33), 3) := by decide +kernel
theorem dX8_rises_45 : decode cX8_rises 45 = .ok (.iconst 0, 1) := by decide +kernel
theorem dX8_rises_46 : decode cX8_rises 46 = .ok (.ireturn, 1) := by decide +kernel
theorem dX8_sharesTable_0 : decode cX8_sharesTable 0 = .ok (.iconst 1, 1) := by decide +kernel
theorem dX8_sharesTable_1 : decode cX8_sharesTable 1 = .ok (.istore_n 2, 1) := by decide +kernel
theorem dX8_sharesTable_2 : decode cX8_sharesTable 2 = .ok (.iload_n 2, 1) := by decide +kernel
theorem dX8_sharesTable_3 : decode cX8_sharesTable 3 = .ok (.iload_n 1, 1) := by decide +kernel
theorem dX8_sharesTable_4 : decode cX8_sharesTable 4 = .ok (.if_icmp .ge 32, 3) := by decide +kernel
theorem dX8_sharesTable_7 : decode cX8_sharesTable 7 = .ok (.aload_n 0, 1) := by decide +kernel
theorem dX8_sharesTable_8 : decode cX8_sharesTable 8 = .ok (.aload_n 0, 1) := by decide +kernel
theorem dX8_sharesTable_9 : decode cX8_sharesTable 9 = .ok (.iload_n 2, 1) := by decide +kernel
theorem dX8_sharesTable_10 : decode cX8_sharesTable 10 = .ok (.invokevirtual 77, 3) := by decide +kernel
theorem dX8_sharesTable_13 : decode cX8_sharesTable 13 = .ok (.invokevirtual 57, 3) := by decide +kernel
theorem dX8_sharesTable_16 : decode cX8_sharesTable 16 = .ok (.aload_n 0, 1) := by decide +kernel
theorem dX8_sharesTable_17 : decode cX8_sharesTable 17 = .ok (.aload_n 0, 1) := by decide +kernel
theorem dX8_sharesTable_18 : decode cX8_sharesTable 18 = .ok (.iload_n 1, 1) := by decide +kernel
theorem dX8_sharesTable_19 : decode cX8_sharesTable 19 = .ok (.invokevirtual 77, 3) := by decide +kernel
theorem dX8_sharesTable_22 : decode cX8_sharesTable 22 = .ok (.invokevirtual 57, 3) := by decide +kernel
theorem dX8_sharesTable_25 : decode cX8_sharesTable 25 = .ok (.if_icmp .ne 5, 3) := by decide +kernel
theorem dX8_sharesTable_28 : decode cX8_sharesTable 28 = .ok (.iconst 1, 1) := by decide +kernel
theorem dX8_sharesTable_29 : decode cX8_sharesTable 29 = .ok (.ireturn, 1) := by decide +kernel
theorem dX8_sharesTable_30 : decode cX8_sharesTable 30 = .ok (.iinc 2 1, 3) := by decide +kernel
theorem dX8_sharesTable_33 : decode cX8_sharesTable 33 = .ok (.goto (-31), 3) := by decide +kernel
theorem dX8_sharesTable_36 : decode cX8_sharesTable 36 = .ok (.iconst 0, 1) := by decide +kernel
theorem dX8_sharesTable_37 : decode cX8_sharesTable 37 = .ok (.ireturn, 1) := by decide +kernel
theorem dX8_has_0 : decode cX8_has 0 = .ok (.aload_n 0, 1) := by decide +kernel
theorem dX8_has_1 : decode cX8_has 1 = .ok (.iload_n 1, 1) := by decide +kernel
theorem dX8_has_2 : decode cX8_has 2 = .ok (.iconst 0, 1) := by decide +kernel
theorem dX8_has_3 : decode cX8_has 3 = .ok (.invokevirtual 70, 3) := by decide +kernel
theorem dX8_has_6 : decode cX8_has 6 = .ok (.istore_n 3, 1) := by decide +kernel
theorem dX8_has_7 : decode cX8_has 7 = .ok (.aload_n 0, 1) := by decide +kernel
theorem dX8_has_8 : decode cX8_has 8 = .ok (.iload_n 1, 1) := by decide +kernel
theorem dX8_has_9 : decode cX8_has 9 = .ok (.iconst 1, 1) := by decide +kernel
theorem dX8_has_10 : decode cX8_has 10 = .ok (.invokevirtual 70, 3) := by decide +kernel
theorem dX8_has_13 : decode cX8_has 13 = .ok (.istore 4, 2) := by decide +kernel
theorem dX8_has_15 : decode cX8_has 15 = .ok (.aload_n 0, 1) := by decide +kernel
theorem dX8_has_16 : decode cX8_has 16 = .ok (.iload_n 1, 1) := by decide +kernel
theorem dX8_has_17 : decode cX8_has 17 = .ok (.iconst 2, 1) := by decide +kernel
theorem dX8_has_18 : decode cX8_has 18 = .ok (.invokevirtual 70, 3) := by decide +kernel
theorem dX8_has_21 : decode cX8_has 21 = .ok (.istore 5, 2) := by decide +kernel
theorem dX8_has_23 : decode cX8_has 23 = .ok (.iload_n 2, 1) := by decide +kernel
theorem dX8_has_24 : decode cX8_has 24 = .ok (.tableswitch 200 1 9 #[52, 70, 90, 110, 117, 124, 153, 179, 194], 52) := by decide +kernel
theorem dX8_has_76 : decode cX8_has 76 = .ok (.iload_n 3, 1) := by decide +kernel
theorem dX8_has_77 : decode cX8_has 77 = .ok (.ifCond .eq 15, 3) := by decide +kernel
theorem dX8_has_80 : decode cX8_has 80 = .ok (.aload_n 0, 1) := by decide +kernel
theorem dX8_has_81 : decode cX8_has 81 = .ok (.iload_n 3, 1) := by decide +kernel
theorem dX8_has_82 : decode cX8_has 82 = .ok (.invokevirtual 66, 3) := by decide +kernel
theorem dX8_has_85 : decode cX8_has 85 = .ok (.ifCond .ne 7, 3) := by decide +kernel
theorem dX8_has_88 : decode cX8_has 88 = .ok (.iconst 1, 1) := by decide +kernel
theorem dX8_has_89 : decode cX8_has 89 = .ok (.goto 4, 3) := by decide +kernel
theorem dX8_has_92 : decode cX8_has 92 = .ok (.iconst 0, 1) := by decide +kernel
theorem dX8_has_93 : decode cX8_has 93 = .ok (.ireturn, 1) := by decide +kernel
theorem dX8_has_94 : decode cX8_has 94 = .ok (.iload 4, 2) := by decide +kernel
theorem dX8_has_96 : decode cX8_has 96 = .ok (.ifCond .eq 16, 3) := by decide +kernel
theorem dX8_has_99 : decode cX8_has 99 = .ok (.aload_n 0, 1) := by decide +kernel
theorem dX8_has_100 : decode cX8_has 100 = .ok (.iload 4, 2) := by decide +kernel
theorem dX8_has_102 : decode cX8_has 102 = .ok (.invokevirtual 66, 3) := by decide +kernel
theorem dX8_has_105 : decode cX8_has 105 = .ok (.ifCond .ne 7, 3) := by decide +kernel
theorem dX8_has_108 : decode cX8_has 108 = .ok (.iconst 1, 1) := by decide +kernel
theorem dX8_has_109 : decode cX8_has 109 = .ok (.goto 4, 3) := by decide +kernel
theorem dX8_has_112 : decode cX8_has 112 = .ok (.iconst 0, 1) := by decide +kernel
theorem dX8_has_113 : decode cX8_has 113 = .ok (.ireturn, 1) := by decide +kernel
theorem dX8_has_114 : decode cX8_has 114 = .ok (.iload 5, 2) := by decide +kernel
theorem dX8_has_116 : decode cX8_has 116 = .ok (.ifCond .eq 16, 3) := by decide +kernel
theorem dX8_has_119 : decode cX8_has 119 = .ok (.aload_n 0, 1) := by decide +kernel
theorem dX8_has_120 : decode cX8_has 120 = .ok (.iload 5, 2) := by decide +kernel
theorem dX8_has_122 : decode cX8_has 122 = .ok (.invokevirtual 66, 3) := by decide +kernel
theorem dX8_has_125 : decode cX8_has 125 = .ok (.ifCond .ne 7, 3) := by decide +kernel
theorem dX8_has_128 : decode cX8_has 128 = .ok (.iconst 1, 1) := by decide +kernel
theorem dX8_has_129 : decode cX8_has 129 = .ok (.goto 4, 3) := by decide +kernel
theorem dX8_has_132 : decode cX8_has 132 = .ok (.iconst 0, 1) := by decide +kernel
theorem dX8_has_133 : decode cX8_has 133 = .ok (.ireturn, 1) := by decide +kernel
theorem dX8_has_134 : decode cX8_has 134 = .ok (.aload_n 0, 1) := by decide +kernel
theorem dX8_has_135 : decode cX8_has 135 = .ok (.iload_n 1, 1) := by decide +kernel
theorem dX8_has_136 : decode cX8_has 136 = .ok (.iconst 0, 1) := by decide +kernel
theorem dX8_has_137 : decode cX8_has 137 = .ok (.invokevirtual 175, 3) := by decide +kernel
theorem dX8_has_140 : decode cX8_has 140 = .ok (.ireturn, 1) := by decide +kernel
theorem dX8_has_141 : decode cX8_has 141 = .ok (.aload_n 0, 1) := by decide +kernel
theorem dX8_has_142 : decode cX8_has 142 = .ok (.iload_n 1, 1) := by decide +kernel
theorem dX8_has_143 : decode cX8_has 143 = .ok (.iconst 1, 1) := by decide +kernel
theorem dX8_has_144 : decode cX8_has 144 = .ok (.invokevirtual 175, 3) := by decide +kernel
theorem dX8_has_147 : decode cX8_has 147 = .ok (.ireturn, 1) := by decide +kernel
theorem dX8_has_148 : decode cX8_has 148 = .ok (.aload_n 0, 1) := by decide +kernel
theorem dX8_has_149 : decode cX8_has 149 = .ok (.iload_n 3, 1) := by decide +kernel
theorem dX8_has_150 : decode cX8_has 150 = .ok (.invokevirtual 66, 3) := by decide +kernel
theorem dX8_has_153 : decode cX8_has 153 = .ok (.ifCond .eq 22, 3) := by decide +kernel
theorem dX8_has_156 : decode cX8_has 156 = .ok (.aload_n 0, 1) := by decide +kernel
theorem dX8_has_157 : decode cX8_has 157 = .ok (.aload_n 0, 1) := by decide +kernel
theorem dX8_has_158 : decode cX8_has 158 = .ok (.iload_n 3, 1) := by decide +kernel
theorem dX8_has_159 : decode cX8_has 159 = .ok (.iconst 2, 1) := by decide +kernel
theorem dX8_has_160 : decode cX8_has 160 = .ok (.invokevirtual 70, 3) := by decide +kernel
theorem dX8_has_163 : decode cX8_has 163 = .ok (.iconst 1, 1) := by decide +kernel
theorem dX8_has_164 : decode cX8_has 164 = .ok (.iload_n 1, 1) := by decide +kernel
theorem dX8_has_165 : decode cX8_has 165 = .ok (.invokevirtual 86, 3) := by decide +kernel
theorem dX8_has_168 : decode cX8_has 168 = .ok (.ifCond .ne 7, 3) := by decide +kernel
theorem dX8_has_171 : decode cX8_has 171 = .ok (.iconst 1, 1) := by decide +kernel
theorem dX8_has_172 : decode cX8_has 172 = .ok (.goto 4, 3) := by decide +kernel
theorem dX8_has_175 : decode cX8_has 175 = .ok (.iconst 0, 1) := by decide +kernel
theorem dX8_has_176 : decode cX8_has 176 = .ok (.ireturn, 1) := by decide +kernel
theorem dX8_has_177 : decode cX8_has 177 = .ok (.aload_n 0, 1) := by decide +kernel
theorem dX8_has_178 : decode cX8_has 178 = .ok (.iload 5, 2) := by decide +kernel
theorem dX8_has_180 : decode cX8_has 180 = .ok (.invokevirtual 66, 3) := by decide +kernel
theorem dX8_has_183 : decode cX8_has 183 = .ok (.ifCond .eq 18, 3) := by decide +kernel
theorem dX8_has_186 : decode cX8_has 186 = .ok (.aload_n 0, 1) := by decide +kernel
theorem dX8_has_187 : decode cX8_has 187 = .ok (.iload 5, 2) := by decide +kernel
theorem dX8_has_189 : decode cX8_has 189 = .ok (.iconst 0, 1) := by decide +kernel
theorem dX8_has_190 : decode cX8_has 190 = .ok (.invokevirtual 70, 3) := by decide +kernel
theorem dX8_has_193 : decode cX8_has 193 = .ok (.iload_n 1, 1) := by decide +kernel
theorem dX8_has_194 : decode cX8_has 194 = .ok (.if_icmp .eq 7, 3) := by decide +kernel
theorem dX8_has_197 : decode cX8_has 197 = .ok (.iconst 1, 1) := by decide +kernel
theorem dX8_has_198 : decode cX8_has 198 = .ok (.goto 4, 3) := by decide +kernel
theorem dX8_has_201 : decode cX8_has 201 = .ok (.iconst 0, 1) := by decide +kernel
theorem dX8_has_202 : decode cX8_has 202 = .ok (.ireturn, 1) := by decide +kernel
theorem dX8_has_203 : decode cX8_has 203 = .ok (.iload 4, 2) := by decide +kernel
theorem dX8_has_205 : decode cX8_has 205 = .ok (.ifCond .eq 11, 3) := by decide +kernel
theorem dX8_has_208 : decode cX8_has 208 = .ok (.iload_n 3, 1) := by decide +kernel
theorem dX8_has_209 : decode cX8_has 209 = .ok (.ifCond .ne 7, 3) := by decide +kernel
theorem dX8_has_212 : decode cX8_has 212 = .ok (.iconst 1, 1) := by decide +kernel
theorem dX8_has_213 : decode cX8_has 213 = .ok (.goto 4, 3) := by decide +kernel
theorem dX8_has_216 : decode cX8_has 216 = .ok (.iconst 0, 1) := by decide +kernel
theorem dX8_has_217 : decode cX8_has 217 = .ok (.ireturn, 1) := by decide +kernel
theorem dX8_has_218 : decode cX8_has 218 = .ok (.aload_n 0, 1) := by decide +kernel
theorem dX8_has_219 : decode cX8_has 219 = .ok (.iload_n 1, 1) := by decide +kernel
theorem dX8_has_220 : decode cX8_has 220 = .ok (.invokevirtual 178, 3) := by decide +kernel
theorem dX8_has_223 : decode cX8_has 223 = .ok (.ireturn, 1) := by decide +kernel
theorem dX8_has_224 : decode cX8_has 224 = .ok (.aload_n 0, 1) := by decide +kernel
theorem dX8_has_225 : decode cX8_has 225 = .ok (.iload_n 1, 1) := by decide +kernel
theorem dX8_has_226 : decode cX8_has 226 = .ok (.invokevirtual 181, 3) := by decide +kernel
theorem dX8_has_229 : decode cX8_has 229 = .ok (.ireturn, 1) := by decide +kernel
theorem dX8_fault_0 : decode cX8_fault 0 = .ok (.iconst 0, 1) := by decide +kernel
theorem dX8_fault_1 : decode cX8_fault 1 = .ok (.istore_n 2, 1) := by decide +kernel
theorem dX8_fault_2 : decode cX8_fault 2 = .ok (.iconst 1, 1) := by decide +kernel
theorem dX8_fault_3 : decode cX8_fault 3 = .ok (.istore_n 3, 1) := by decide +kernel
theorem dX8_fault_4 : decode cX8_fault 4 = .ok (.iload_n 3, 1) := by decide +kernel
theorem dX8_fault_5 : decode cX8_fault 5 = .ok (.aload_n 0, 1) := by decide +kernel
theorem dX8_fault_6 : decode cX8_fault 6 = .ok (.getfield 63, 3) := by decide +kernel
theorem dX8_fault_9 : decode cX8_fault 9 = .ok (.if_icmp .gt 51, 3) := by decide +kernel
theorem dX8_fault_12 : decode cX8_fault 12 = .ok (.iconst 1, 1) := by decide +kernel
theorem dX8_fault_13 : decode cX8_fault 13 = .ok (.istore 4, 2) := by decide +kernel
theorem dX8_fault_15 : decode cX8_fault 15 = .ok (.iload 4, 2) := by decide +kernel
theorem dX8_fault_17 : decode cX8_fault 17 = .ok (.bipush 10, 2) := by decide +kernel
theorem dX8_fault_19 : decode cX8_fault 19 = .ok (.if_icmp .gt 35, 3) := by decide +kernel
theorem dX8_fault_22 : decode cX8_fault 22 = .ok (.aload_n 0, 1) := by decide +kernel
theorem dX8_fault_23 : decode cX8_fault 23 = .ok (.iload_n 3, 1) := by decide +kernel
theorem dX8_fault_24 : decode cX8_fault 24 = .ok (.iload 4, 2) := by decide +kernel
theorem dX8_fault_26 : decode cX8_fault 26 = .ok (.invokevirtual 184, 3) := by decide +kernel
theorem dX8_fault_29 : decode cX8_fault 29 = .ok (.ifCond .eq 19, 3) := by decide +kernel
theorem dX8_fault_32 : decode cX8_fault 32 = .ok (.iload_n 2, 1) := by decide +kernel
theorem dX8_fault_33 : decode cX8_fault 33 = .ok (.iload_n 1, 1) := by decide +kernel
theorem dX8_fault_34 : decode cX8_fault 34 = .ok (.if_icmp .ne 11, 3) := by decide +kernel
theorem dX8_fault_37 : decode cX8_fault 37 = .ok (.bipush 16, 2) := by decide +kernel
theorem dX8_fault_39 : decode cX8_fault 39 = .ok (.iload_n 3, 1) := by decide +kernel
theorem dX8_fault_40 : decode cX8_fault 40 = .ok (.imul, 1) := by decide +kernel
theorem dX8_fault_41 : decode cX8_fault 41 = .ok (.iload 4, 2) := by decide +kernel
theorem dX8_fault_43 : decode cX8_fault 43 = .ok (.iadd, 1) := by decide +kernel
theorem dX8_fault_44 : decode cX8_fault 44 = .ok (.ireturn, 1) := by decide +kernel
theorem dX8_fault_45 : decode cX8_fault 45 = .ok (.iinc 2 1, 3) := by decide +kernel
theorem dX8_fault_48 : decode cX8_fault 48 = .ok (.iinc 4 1, 3) := by decide +kernel
theorem dX8_fault_51 : decode cX8_fault 51 = .ok (.goto (-36), 3) := by decide +kernel
theorem dX8_fault_54 : decode cX8_fault 54 = .ok (.iinc 3 1, 3) := by decide +kernel
theorem dX8_fault_57 : decode cX8_fault 57 = .ok (.goto (-53), 3) := by decide +kernel
theorem dX8_fault_60 : decode cX8_fault 60 = .ok (.iconst (-1), 1) := by decide +kernel
theorem dX8_fault_61 : decode cX8_fault 61 = .ok (.iload_n 2, 1) := by decide +kernel
theorem dX8_fault_62 : decode cX8_fault 62 = .ok (.isub, 1) := by decide +kernel
theorem dX8_fault_63 : decode cX8_fault 63 = .ok (.ireturn, 1) := by decide +kernel
theorem dX8_judge_0 : decode cX8_judge 0 = .ok (.iconst (-1), 1) := by decide +kernel
theorem dX8_judge_1 : decode cX8_judge 1 = .ok (.aload_n 0, 1) := by decide +kernel
theorem dX8_judge_2 : decode cX8_judge 2 = .ok (.iconst (-1), 1) := by decide +kernel
theorem dX8_judge_3 : decode cX8_judge 3 = .ok (.invokevirtual 187, 3) := by decide +kernel
theorem dX8_judge_6 : decode cX8_judge 6 = .ok (.isub, 1) := by decide +kernel
theorem dX8_judge_7 : decode cX8_judge 7 = .ok (.ireturn, 1) := by decide +kernel
theorem dX8_ring_0 : decode cX8_ring 0 = .ok (.iload_n 1, 1) := by decide +kernel
theorem dX8_ring_1 : decode cX8_ring 1 = .ok (.ifCond .ge 7, 3) := by decide +kernel
theorem dX8_ring_4 : decode cX8_ring 4 = .ok (.iconst (-1), 1) := by decide +kernel
theorem dX8_ring_5 : decode cX8_ring 5 = .ok (.goto 8, 3) := by decide +kernel
theorem dX8_ring_8 : decode cX8_ring 8 = .ok (.aload_n 0, 1) := by decide +kernel
theorem dX8_ring_9 : decode cX8_ring 9 = .ok (.iload_n 1, 1) := by decide +kernel
theorem dX8_ring_10 : decode cX8_ring 10 = .ok (.invokevirtual 187, 3) := by decide +kernel
theorem dX8_ring_13 : decode cX8_ring 13 = .ok (.istore_n 2, 1) := by decide +kernel
theorem dX8_ring_14 : decode cX8_ring 14 = .ok (.iload_n 2, 1) := by decide +kernel
theorem dX8_ring_15 : decode cX8_ring 15 = .ok (.ifCond .ge 8, 3) := by decide +kernel
theorem dX8_ring_18 : decode cX8_ring 18 = .ok (.bipush (-2), 2) := by decide +kernel
theorem dX8_ring_20 : decode cX8_ring 20 = .ok (.goto 4, 3) := by decide +kernel
theorem dX8_ring_23 : decode cX8_ring 23 = .ok (.iload_n 2, 1) := by decide +kernel
theorem dX8_ring_24 : decode cX8_ring 24 = .ok (.ireturn, 1) := by decide +kernel
