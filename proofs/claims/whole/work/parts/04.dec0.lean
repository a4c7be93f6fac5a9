theorem dX0_init_0 : decode cX0_init 0 = .ok (.aload_n 0, 1) := by decide +kernel
theorem dX0_init_1 : decode cX0_init 1 = .ok (.invokespecial 3, 3) := by decide +kernel
theorem dX0_init_4 : decode cX0_init 4 = .ok (.aload_n 0, 1) := by decide +kernel
theorem dX0_init_5 : decode cX0_init 5 = .ok (.aload_n 1, 1) := by decide +kernel
theorem dX0_init_6 : decode cX0_init 6 = .ok (.putfield 9, 3) := by decide +kernel
theorem dX0_init_9 : decode cX0_init 9 = .ok (.aload_n 0, 1) := by decide +kernel
theorem dX0_init_10 : decode cX0_init 10 = .ok (.bipush 40, 2) := by decide +kernel
theorem dX0_init_12 : decode cX0_init 12 = .ok (.newarray .long, 2) := by decide +kernel
theorem dX0_init_14 : decode cX0_init 14 = .ok (.putfield 15, 3) := by decide +kernel
theorem dX0_init_17 : decode cX0_init 17 = .ok (.aload_n 0, 1) := by decide +kernel
theorem dX0_init_18 : decode cX0_init 18 = .ok (.lconst 0, 1) := by decide +kernel
theorem dX0_init_19 : decode cX0_init 19 = .ok (.putfield 19, 3) := by decide +kernel
theorem dX0_init_22 : decode cX0_init 22 = .ok (.aload_n 0, 1) := by decide +kernel
theorem dX0_init_23 : decode cX0_init 23 = .ok (.iconst 0, 1) := by decide +kernel
theorem dX0_init_24 : decode cX0_init 24 = .ok (.putfield 23, 3) := by decide +kernel
theorem dX0_init_27 : decode cX0_init 27 = .ok (.aload_n 0, 1) := by decide +kernel
theorem dX0_init_28 : decode cX0_init 28 = .ok (.iconst 0, 1) := by decide +kernel
theorem dX0_init_29 : decode cX0_init 29 = .ok (.putfield 27, 3) := by decide +kernel
theorem dX0_init_32 : decode cX0_init 32 = .ok (.return_, 1) := by decide +kernel
theorem dX0_start_0 : decode cX0_start 0 = .ok (.aload_n 0, 1) := by decide +kernel
theorem dX0_start_1 : decode cX0_start 1 = .ok (.iload_n 1, 1) := by decide +kernel
theorem dX0_start_2 : decode cX0_start 2 = .ok (.putfield 23, 3) := by decide +kernel
theorem dX0_start_5 : decode cX0_start 5 = .ok (.aload_n 0, 1) := by decide +kernel
theorem dX0_start_6 : decode cX0_start 6 = .ok (.iload_n 2, 1) := by decide +kernel
theorem dX0_start_7 : decode cX0_start 7 = .ok (.putfield 27, 3) := by decide +kernel
theorem dX0_start_10 : decode cX0_start 10 = .ok (.aload_n 0, 1) := by decide +kernel
theorem dX0_start_11 : decode cX0_start 11 = .ok (.lconst 0, 1) := by decide +kernel
theorem dX0_start_12 : decode cX0_start 12 = .ok (.putfield 19, 3) := by decide +kernel
theorem dX0_start_15 : decode cX0_start 15 = .ok (.iconst 0, 1) := by decide +kernel
theorem dX0_start_16 : decode cX0_start 16 = .ok (.istore_n 3, 1) := by decide +kernel
theorem dX0_start_17 : decode cX0_start 17 = .ok (.iload_n 3, 1) := by decide +kernel
theorem dX0_start_18 : decode cX0_start 18 = .ok (.bipush 40, 2) := by decide +kernel
theorem dX0_start_20 : decode cX0_start 20 = .ok (.if_icmp .ge 16, 3) := by decide +kernel
theorem dX0_start_23 : decode cX0_start 23 = .ok (.aload_n 0, 1) := by decide +kernel
theorem dX0_start_24 : decode cX0_start 24 = .ok (.getfield 15, 3) := by decide +kernel
theorem dX0_start_27 : decode cX0_start 27 = .ok (.iload_n 3, 1) := by decide +kernel
theorem dX0_start_28 : decode cX0_start 28 = .ok (.lconst 0, 1) := by decide +kernel
theorem dX0_start_29 : decode cX0_start 29 = .ok (.lastore, 1) := by decide +kernel
theorem dX0_start_30 : decode cX0_start 30 = .ok (.iinc 3 1, 3) := by decide +kernel
theorem dX0_start_33 : decode cX0_start 33 = .ok (.goto (-16), 3) := by decide +kernel
theorem dX0_start_36 : decode cX0_start 36 = .ok (.return_, 1) := by decide +kernel
theorem dX0_add_0 : decode cX0_add 0 = .ok (.aload_n 0, 1) := by decide +kernel
theorem dX0_add_1 : decode cX0_add 1 = .ok (.iload_n 1, 1) := by decide +kernel
theorem dX0_add_2 : decode cX0_add 2 = .ok (.iload_n 2, 1) := by decide +kernel
theorem dX0_add_3 : decode cX0_add 3 = .ok (.iconst 0, 1) := by decide +kernel
theorem dX0_add_4 : decode cX0_add 4 = .ok (.invokestatic 30, 3) := by decide +kernel
theorem dX0_add_7 : decode cX0_add 7 = .ok (.return_, 1) := by decide +kernel
theorem dX0_stayingOn_0 : decode cX0_stayingOn 0 = .ok (.aload_n 0, 1) := by decide +kernel
theorem dX0_stayingOn_1 : decode cX0_stayingOn 1 = .ok (.getfield 15, 3) := by decide +kernel
theorem dX0_stayingOn_4 : decode cX0_stayingOn 4 = .ok (.iload_n 1, 1) := by decide +kernel
theorem dX0_stayingOn_5 : decode cX0_stayingOn 5 = .ok (.laload, 1) := by decide +kernel
theorem dX0_stayingOn_6 : decode cX0_stayingOn 6 = .ok (.lreturn, 1) := by decide +kernel
theorem dX0_nowhere_0 : decode cX0_nowhere 0 = .ok (.aload_n 0, 1) := by decide +kernel
theorem dX0_nowhere_1 : decode cX0_nowhere 1 = .ok (.getfield 19, 3) := by decide +kernel
theorem dX0_nowhere_4 : decode cX0_nowhere 4 = .ok (.lreturn, 1) := by decide +kernel
theorem dX0_carry_0 : decode cX0_carry 0 = .ok (.aload_n 0, 1) := by decide +kernel
theorem dX0_carry_1 : decode cX0_carry 1 = .ok (.getfield 9, 3) := by decide +kernel
theorem dX0_carry_4 : decode cX0_carry 4 = .ok (.astore 4, 2) := by decide +kernel
theorem dX0_carry_6 : decode cX0_carry 6 = .ok (.iload_n 2, 1) := by decide +kernel
theorem dX0_carry_7 : decode cX0_carry 7 = .ok (.ifCond .eq 18, 3) := by decide +kernel
theorem dX0_carry_10 : decode cX0_carry 10 = .ok (.iload_n 3, 1) := by decide +kernel
theorem dX0_carry_11 : decode cX0_carry 11 = .ok (.bipush 40, 2) := by decide +kernel
theorem dX0_carry_13 : decode cX0_carry 13 = .ok (.if_icmp .ge 12, 3) := by decide +kernel
theorem dX0_carry_16 : decode cX0_carry 16 = .ok (.aload 4, 2) := by decide +kernel
theorem dX0_carry_18 : decode cX0_carry 18 = .ok (.iload_n 1, 1) := by decide +kernel
theorem dX0_carry_19 : decode cX0_carry 19 = .ok (.invokevirtual 34, 3) := by decide +kernel
theorem dX0_carry_22 : decode cX0_carry 22 = .ok (.ifCond .ne 4, 3) := by decide +kernel
theorem dX0_carry_25 : decode cX0_carry 25 = .ok (.return_, 1) := by decide +kernel
theorem dX0_carry_26 : decode cX0_carry 26 = .ok (.aload 4, 2) := by decide +kernel
theorem dX0_carry_28 : decode cX0_carry 28 = .ok (.iload_n 1, 1) := by decide +kernel
theorem dX0_carry_29 : decode cX0_carry 29 = .ok (.aload_n 0, 1) := by decide +kernel
theorem dX0_carry_30 : decode cX0_carry 30 = .ok (.getfield 23, 3) := by decide +kernel
theorem dX0_carry_33 : decode cX0_carry 33 = .ok (.aload_n 0, 1) := by decide +kernel
theorem dX0_carry_34 : decode cX0_carry 34 = .ok (.getfield 27, 3) := by decide +kernel
theorem dX0_carry_37 : decode cX0_carry 37 = .ok (.invokevirtual 40, 3) := by decide +kernel
theorem dX0_carry_40 : decode cX0_carry 40 = .ok (.ifCond .eq 15, 3) := by decide +kernel
theorem dX0_carry_43 : decode cX0_carry 43 = .ok (.aload_n 0, 1) := by decide +kernel
theorem dX0_carry_44 : decode cX0_carry 44 = .ok (.getfield 15, 3) := by decide +kernel
theorem dX0_carry_47 : decode cX0_carry 47 = .ok (.iload_n 1, 1) := by decide +kernel
theorem dX0_carry_48 : decode cX0_carry 48 = .ok (.dup2, 1) := by decide +kernel
theorem dX0_carry_49 : decode cX0_carry 49 = .ok (.laload, 1) := by decide +kernel
theorem dX0_carry_50 : decode cX0_carry 50 = .ok (.iload_n 2, 1) := by decide +kernel
theorem dX0_carry_51 : decode cX0_carry 51 = .ok (.i2l, 1) := by decide +kernel
theorem dX0_carry_52 : decode cX0_carry 52 = .ok (.ladd, 1) := by decide +kernel
theorem dX0_carry_53 : decode cX0_carry 53 = .ok (.lastore, 1) := by decide +kernel
theorem dX0_carry_54 : decode cX0_carry 54 = .ok (.return_, 1) := by decide +kernel
theorem dX0_carry_55 : decode cX0_carry 55 = .ok (.aload_n 0, 1) := by decide +kernel
theorem dX0_carry_56 : decode cX0_carry 56 = .ok (.getfield 23, 3) := by decide +kernel
theorem dX0_carry_59 : decode cX0_carry 59 = .ok (.aload 4, 2) := by decide +kernel
theorem dX0_carry_61 : decode cX0_carry 61 = .ok (.iload_n 1, 1) := by decide +kernel
theorem dX0_carry_62 : decode cX0_carry 62 = .ok (.invokevirtual 44, 3) := by decide +kernel
theorem dX0_carry_65 : decode cX0_carry 65 = .ok (.if_icmp .ge 7, 3) := by decide +kernel
theorem dX0_carry_68 : decode cX0_carry 68 = .ok (.iconst 1, 1) := by decide +kernel
theorem dX0_carry_69 : decode cX0_carry 69 = .ok (.goto 13, 3) := by decide +kernel
theorem dX0_carry_72 : decode cX0_carry 72 = .ok (.aload 4, 2) := by decide +kernel
theorem dX0_carry_74 : decode cX0_carry 74 = .ok (.iload_n 1, 1) := by decide +kernel
theorem dX0_carry_75 : decode cX0_carry 75 = .ok (.aload_n 0, 1) := by decide +kernel
theorem dX0_carry_76 : decode cX0_carry 76 = .ok (.getfield 27, 3) := by decide +kernel
theorem dX0_carry_79 : decode cX0_carry 79 = .ok (.invokevirtual 48, 3) := by decide +kernel
theorem dX0_carry_82 : decode cX0_carry 82 = .ok (.istore 5, 2) := by decide +kernel
theorem dX0_carry_84 : decode cX0_carry 84 = .ok (.aload 4, 2) := by decide +kernel
theorem dX0_carry_86 : decode cX0_carry 86 = .ok (.iload_n 1, 1) := by decide +kernel
theorem dX0_carry_87 : decode cX0_carry 87 = .ok (.aload_n 0, 1) := by decide +kernel
theorem dX0_carry_88 : decode cX0_carry 88 = .ok (.getfield 27, 3) := by decide +kernel
theorem dX0_carry_91 : decode cX0_carry 91 = .ok (.invokevirtual 52, 3) := by decide +kernel
theorem dX0_carry_94 : decode cX0_carry 94 = .ok (.istore 6, 2) := by decide +kernel
theorem dX0_carry_96 : decode cX0_carry 96 = .ok (.iload 5, 2) := by decide +kernel
theorem dX0_carry_98 : decode cX0_carry 98 = .ok (.iconst 2, 1) := by decide +kernel
theorem dX0_carry_99 : decode cX0_carry 99 = .ok (.if_icmp .ne 41, 3) := by decide +kernel
theorem dX0_carry_102 : decode cX0_carry 102 = .ok (.aload 4, 2) := by decide +kernel
theorem dX0_carry_104 : decode cX0_carry 104 = .ok (.iload_n 1, 1) := by decide +kernel
theorem dX0_carry_105 : decode cX0_carry 105 = .ok (.iload_n 2, 1) := by decide +kernel
theorem dX0_carry_106 : decode cX0_carry 106 = .ok (.invokevirtual 55, 3) := by decide +kernel
theorem dX0_carry_109 : decode cX0_carry 109 = .ok (.istore 7, 2) := by decide +kernel
theorem dX0_carry_111 : decode cX0_carry 111 = .ok (.aload_n 0, 1) := by decide +kernel
theorem dX0_carry_112 : decode cX0_carry 112 = .ok (.iload 6, 2) := by decide +kernel
theorem dX0_carry_114 : decode cX0_carry 114 = .ok (.iload 7, 2) := by decide +kernel
theorem dX0_carry_116 : decode cX0_carry 116 = .ok (.iload_n 3, 1) := by decide +kernel
theorem dX0_carry_117 : decode cX0_carry 117 = .ok (.iconst 1, 1) := by decide +kernel
theorem dX0_carry_118 : decode cX0_carry 118 = .ok (.iadd, 1) := by decide +kernel
theorem dX0_carry_119 : decode cX0_carry 119 = .ok (.invokestatic 30, 3) := by decide +kernel
theorem dX0_carry_122 : decode cX0_carry 122 = .ok (.aload_n 0, 1) := by decide +kernel
theorem dX0_carry_123 : decode cX0_carry 123 = .ok (.iload 6, 2) := by decide +kernel
theorem dX0_carry_125 : decode cX0_carry 125 = .ok (.iconst 1, 1) := by decide +kernel
theorem dX0_carry_126 : decode cX0_carry 126 = .ok (.iadd, 1) := by decide +kernel
theorem dX0_carry_127 : decode cX0_carry 127 = .ok (.iload_n 2, 1) := by decide +kernel
theorem dX0_carry_128 : decode cX0_carry 128 = .ok (.iload 7, 2) := by decide +kernel
theorem dX0_carry_130 : decode cX0_carry 130 = .ok (.isub, 1) := by decide +kernel
theorem dX0_carry_131 : decode cX0_carry 131 = .ok (.iload_n 3, 1) := by decide +kernel
theorem dX0_carry_132 : decode cX0_carry 132 = .ok (.iconst 1, 1) := by decide +kernel
theorem dX0_carry_133 : decode cX0_carry 133 = .ok (.iadd, 1) := by decide +kernel
theorem dX0_carry_134 : decode cX0_carry 134 = .ok (.invokestatic 30, 3) := by decide +kernel
theorem dX0_carry_137 : decode cX0_carry 137 = .ok (.goto 33, 3) := by decide +kernel
theorem dX0_carry_140 : decode cX0_carry 140 = .ok (.iload 5, 2) := by decide +kernel
theorem dX0_carry_142 : decode cX0_carry 142 = .ok (.iconst 3, 1) := by decide +kernel
theorem dX0_carry_143 : decode cX0_carry 143 = .ok (.if_icmp .ne 16, 3) := by decide +kernel
theorem dX0_carry_146 : decode cX0_carry 146 = .ok (.aload_n 0, 1) := by decide +kernel
theorem dX0_carry_147 : decode cX0_carry 147 = .ok (.iload 6, 2) := by decide +kernel
theorem dX0_carry_149 : decode cX0_carry 149 = .ok (.iload_n 2, 1) := by decide +kernel
theorem dX0_carry_150 : decode cX0_carry 150 = .ok (.iload_n 3, 1) := by decide +kernel
theorem dX0_carry_151 : decode cX0_carry 151 = .ok (.iconst 1, 1) := by decide +kernel
theorem dX0_carry_152 : decode cX0_carry 152 = .ok (.iadd, 1) := by decide +kernel
theorem dX0_carry_153 : decode cX0_carry 153 = .ok (.invokestatic 30, 3) := by decide +kernel
theorem dX0_carry_156 : decode cX0_carry 156 = .ok (.goto 14, 3) := by decide +kernel
theorem dX0_carry_159 : decode cX0_carry 159 = .ok (.aload_n 0, 1) := by decide +kernel
theorem dX0_carry_160 : decode cX0_carry 160 = .ok (.dup, 1) := by decide +kernel
theorem dX0_carry_161 : decode cX0_carry 161 = .ok (.getfield 19, 3) := by decide +kernel
theorem dX0_carry_164 : decode cX0_carry 164 = .ok (.iload_n 2, 1) := by decide +kernel
theorem dX0_carry_165 : decode cX0_carry 165 = .ok (.i2l, 1) := by decide +kernel
theorem dX0_carry_166 : decode cX0_carry 166 = .ok (.ladd, 1) := by decide +kernel
theorem dX0_carry_167 : decode cX0_carry 167 = .ok (.putfield 19, 3) := by decide +kernel
theorem dX0_carry_170 : decode cX0_carry 170 = .ok (.return_, 1) := by decide +kernel
theorem dX1_init_0 : decode cX1_init 0 = .ok (.aload_n 0, 1) := by decide +kernel
theorem dX1_init_1 : decode cX1_init 1 = .ok (.invokespecial 3, 3) := by decide +kernel
theorem dX1_init_4 : decode cX1_init 4 = .ok (.aload_n 0, 1) := by decide +kernel
theorem dX1_init_5 : decode cX1_init 5 = .ok (.new 9, 3) := by decide +kernel
theorem dX1_init_8 : decode cX1_init 8 = .ok (.dup, 1) := by decide +kernel
theorem dX1_init_9 : decode cX1_init 9 = .ok (.aload_n 1, 1) := by decide +kernel
theorem dX1_init_10 : decode cX1_init 10 = .ok (.sipush 200, 3) := by decide +kernel
theorem dX1_init_13 : decode cX1_init 13 = .ok (.invokespecial 11, 3) := by decide +kernel
theorem dX1_init_16 : decode cX1_init 16 = .ok (.putfield 14, 3) := by decide +kernel
theorem dX1_init_19 : decode cX1_init 19 = .ok (.aload_n 0, 1) := by decide +kernel
theorem dX1_init_20 : decode cX1_init 20 = .ok (.sipush 200, 3) := by decide +kernel
theorem dX1_init_23 : decode cX1_init 23 = .ok (.newarray .int, 2) := by decide +kernel
theorem dX1_init_25 : decode cX1_init 25 = .ok (.putfield 20, 3) := by decide +kernel
theorem dX1_init_28 : decode cX1_init 28 = .ok (.aload_n 0, 1) := by decide +kernel
theorem dX1_init_29 : decode cX1_init 29 = .ok (.sipush 200, 3) := by decide +kernel
theorem dX1_init_32 : decode cX1_init 32 = .ok (.newarray .int, 2) := by decide +kernel
theorem dX1_init_34 : decode cX1_init 34 = .ok (.putfield 24, 3) := by decide +kernel
theorem dX1_init_37 : decode cX1_init 37 = .ok (.aload_n 0, 1) := by decide +kernel
theorem dX1_init_38 : decode cX1_init 38 = .ok (.sipush 200, 3) := by decide +kernel
theorem dX1_init_41 : decode cX1_init 41 = .ok (.newarray .int, 2) := by decide +kernel
theorem dX1_init_43 : decode cX1_init 43 = .ok (.putfield 27, 3) := by decide +kernel
theorem dX1_init_46 : decode cX1_init 46 = .ok (.return_, 1) := by decide +kernel
theorem dX1_size_0 : decode cX1_size 0 = .ok (.aload_n 0, 1) := by decide +kernel
theorem dX1_size_1 : decode cX1_size 1 = .ok (.getfield 14, 3) := by decide +kernel
theorem dX1_size_4 : decode cX1_size 4 = .ok (.invokevirtual 30, 3) := by decide +kernel
theorem dX1_size_7 : decode cX1_size 7 = .ok (.ireturn, 1) := by decide +kernel
theorem dX1_isFull_0 : decode cX1_isFull 0 = .ok (.aload_n 0, 1) := by decide +kernel
theorem dX1_isFull_1 : decode cX1_isFull 1 = .ok (.getfield 14, 3) := by decide +kernel
theorem dX1_isFull_4 : decode cX1_isFull 4 = .ok (.invokevirtual 34, 3) := by decide +kernel
theorem dX1_isFull_7 : decode cX1_isFull 7 = .ok (.ireturn, 1) := by decide +kernel
theorem dX1_sizeOfLoad_0 : decode cX1_sizeOfLoad 0 = .ok (.aload_n 0, 1) := by decide +kernel
theorem dX1_sizeOfLoad_1 : decode cX1_sizeOfLoad 1 = .ok (.getfield 14, 3) := by decide +kernel
theorem dX1_sizeOfLoad_4 : decode cX1_sizeOfLoad 4 = .ok (.iload_n 1, 1) := by decide +kernel
theorem dX1_sizeOfLoad_5 : decode cX1_sizeOfLoad 5 = .ok (.invokevirtual 38, 3) := by decide +kernel
theorem dX1_sizeOfLoad_8 : decode cX1_sizeOfLoad 8 = .ok (.ireturn, 1) := by decide +kernel
theorem dX1_isKnown_0 : decode cX1_isKnown 0 = .ok (.aload_n 0, 1) := by decide +kernel
theorem dX1_isKnown_1 : decode cX1_isKnown 1 = .ok (.getfield 14, 3) := by decide +kernel
theorem dX1_isKnown_4 : decode cX1_isKnown 4 = .ok (.iload_n 1, 1) := by decide +kernel
theorem dX1_isKnown_5 : decode cX1_isKnown 5 = .ok (.iload_n 2, 1) := by decide +kernel
theorem dX1_isKnown_6 : decode cX1_isKnown 6 = .ok (.invokevirtual 42, 3) := by decide +kernel
theorem dX1_isKnown_9 : decode cX1_isKnown 9 = .ok (.ireturn, 1) := by decide +kernel
theorem dX1_add_0 : decode cX1_add 0 = .ok (.aload_n 0, 1) := by decide +kernel
theorem dX1_add_1 : decode cX1_add 1 = .ok (.getfield 14, 3) := by decide +kernel
theorem dX1_add_4 : decode cX1_add 4 = .ok (.iload 4, 2) := by decide +kernel
theorem dX1_add_6 : decode cX1_add 6 = .ok (.invokevirtual 46, 3) := by decide +kernel
theorem dX1_add_9 : decode cX1_add 9 = .ok (.istore 5, 2) := by decide +kernel
theorem dX1_add_11 : decode cX1_add 11 = .ok (.iload 5, 2) := by decide +kernel
theorem dX1_add_13 : decode cX1_add 13 = .ok (.iconst (-1), 1) := by decide +kernel
theorem dX1_add_14 : decode cX1_add 14 = .ok (.if_icmp .ne 5, 3) := by decide +kernel
theorem dX1_add_17 : decode cX1_add 17 = .ok (.iconst (-1), 1) := by decide +kernel
theorem dX1_add_18 : decode cX1_add 18 = .ok (.ireturn, 1) := by decide +kernel
theorem dX1_add_19 : decode cX1_add 19 = .ok (.aload_n 0, 1) := by decide +kernel
theorem dX1_add_20 : decode cX1_add 20 = .ok (.getfield 20, 3) := by decide +kernel
theorem dX1_add_23 : decode cX1_add 23 = .ok (.iload 5, 2) := by decide +kernel
theorem dX1_add_25 : decode cX1_add 25 = .ok (.iload_n 1, 1) := by decide +kernel
theorem dX1_add_26 : decode cX1_add 26 = .ok (.iastore, 1) := by decide +kernel
theorem dX1_add_27 : decode cX1_add 27 = .ok (.aload_n 0, 1) := by decide +kernel
theorem dX1_add_28 : decode cX1_add 28 = .ok (.getfield 24, 3) := by decide +kernel
theorem dX1_add_31 : decode cX1_add 31 = .ok (.iload 5, 2) := by decide +kernel
theorem dX1_add_33 : decode cX1_add 33 = .ok (.iload_n 2, 1) := by decide +kernel
theorem dX1_add_34 : decode cX1_add 34 = .ok (.iastore, 1) := by decide +kernel
theorem dX1_add_35 : decode cX1_add 35 = .ok (.aload_n 0, 1) := by decide +kernel
theorem dX1_add_36 : decode cX1_add 36 = .ok (.getfield 27, 3) := by decide +kernel
theorem dX1_add_39 : decode cX1_add 39 = .ok (.iload 5, 2) := by decide +kernel
theorem dX1_add_41 : decode cX1_add 41 = .ok (.iload_n 3, 1) := by decide +kernel
theorem dX1_add_42 : decode cX1_add 42 = .ok (.iastore, 1) := by decide +kernel
theorem dX1_add_43 : decode cX1_add 43 = .ok (.iload 5, 2) := by decide +kernel
theorem dX1_add_45 : decode cX1_add 45 = .ok (.ireturn, 1) := by decide +kernel
theorem dX1_codeOf_0 : decode cX1_codeOf 0 = .ok (.aload_n 0, 1) := by decide +kernel
theorem dX1_codeOf_1 : decode cX1_codeOf 1 = .ok (.getfield 20, 3) := by decide +kernel
theorem dX1_codeOf_4 : decode cX1_codeOf 4 = .ok (.iload_n 1, 1) := by decide +kernel
theorem dX1_codeOf_5 : decode cX1_codeOf 5 = .ok (.iaload, 1) := by decide +kernel
theorem dX1_codeOf_6 : decode cX1_codeOf 6 = .ok (.ireturn, 1) := by decide +kernel
theorem dX1_dayOf_0 : decode cX1_dayOf 0 = .ok (.aload_n 0, 1) := by decide +kernel
theorem dX1_dayOf_1 : decode cX1_dayOf 1 = .ok (.getfield 24, 3) := by decide +kernel
theorem dX1_dayOf_4 : decode cX1_dayOf 4 = .ok (.iload_n 1, 1) := by decide +kernel
theorem dX1_dayOf_5 : decode cX1_dayOf 5 = .ok (.iaload, 1) := by decide +kernel
theorem dX1_dayOf_6 : decode cX1_dayOf 6 = .ok (.ireturn, 1) := by decide +kernel
theorem dX1_amountOf_0 : decode cX1_amountOf 0 = .ok (.aload_n 0, 1) := by decide +kernel
theorem dX1_amountOf_1 : decode cX1_amountOf 1 = .ok (.getfield 27, 3) := by decide +kernel
theorem dX1_amountOf_4 : decode cX1_amountOf 4 = .ok (.iload_n 1, 1) := by decide +kernel
theorem dX1_amountOf_5 : decode cX1_amountOf 5 = .ok (.iaload, 1) := by decide +kernel
theorem dX1_amountOf_6 : decode cX1_amountOf 6 = .ok (.ireturn, 1) := by decide +kernel
theorem dX2_init_0 : decode cX2_init 0 = .ok (.aload_n 0, 1) := by decide +kernel
theorem dX2_init_1 : decode cX2_init 1 = .ok (.invokespecial 3, 3) := by decide +kernel
theorem dX2_init_4 : decode cX2_init 4 = .ok (.aload_n 0, 1) := by decide +kernel
theorem dX2_init_5 : decode cX2_init 5 = .ok (.bipush 40, 2) := by decide +kernel
theorem dX2_init_7 : decode cX2_init 7 = .ok (.newarray .int, 2) := by decide +kernel
theorem dX2_init_9 : decode cX2_init 9 = .ok (.putfield 9, 3) := by decide +kernel
theorem dX2_init_12 : decode cX2_init 12 = .ok (.aload_n 0, 1) := by decide +kernel
theorem dX2_init_13 : decode cX2_init 13 = .ok (.getfield 9, 3) := by decide +kernel
theorem dX2_init_16 : decode cX2_init 16 = .ok (.iconst 0, 1) := by decide +kernel
theorem dX2_init_17 : decode cX2_init 17 = .ok (.sipush 2001, 3) := by decide +kernel
theorem dX2_init_20 : decode cX2_init 20 = .ok (.iastore, 1) := by decide +kernel
theorem dX2_init_21 : decode cX2_init 21 = .ok (.aload_n 0, 1) := by decide +kernel
theorem dX2_init_22 : decode cX2_init 22 = .ok (.iconst 1, 1) := by decide +kernel
theorem dX2_init_23 : decode cX2_init 23 = .ok (.putfield 15, 3) := by decide +kernel
theorem dX2_init_26 : decode cX2_init 26 = .ok (.aload_n 0, 1) := by decide +kernel
theorem dX2_init_27 : decode cX2_init 27 = .ok (.iconst 0, 1) := by decide +kernel
theorem dX2_init_28 : decode cX2_init 28 = .ok (.putfield 19, 3) := by decide +kernel
theorem dX2_init_31 : decode cX2_init 31 = .ok (.return_, 1) := by decide +kernel
theorem dX2_open_0 : decode cX2_open 0 = .ok (.aload_n 0, 1) := by decide +kernel
theorem dX2_open_1 : decode cX2_open 1 = .ok (.getfield 15, 3) := by decide +kernel
theorem dX2_open_4 : decode cX2_open 4 = .ok (.iconst 1, 1) := by decide +kernel
theorem dX2_open_5 : decode cX2_open 5 = .ok (.isub, 1) := by decide +kernel
theorem dX2_open_6 : decode cX2_open 6 = .ok (.ireturn, 1) := by decide +kernel
theorem dX2_openNext_0 : decode cX2_openNext 0 = .ok (.aload_n 0, 1) := by decide +kernel
theorem dX2_openNext_1 : decode cX2_openNext 1 = .ok (.getfield 15, 3) := by decide +kernel
theorem dX2_openNext_4 : decode cX2_openNext 4 = .ok (.bipush 40, 2) := by decide +kernel
theorem dX2_openNext_6 : decode cX2_openNext 6 = .ok (.if_icmp .lt 5, 3) := by decide +kernel
theorem dX2_openNext_9 : decode cX2_openNext 9 = .ok (.iconst (-1), 1) := by decide +kernel
theorem dX2_openNext_10 : decode cX2_openNext 10 = .ok (.ireturn, 1) := by decide +kernel
theorem dX2_openNext_11 : decode cX2_openNext 11 = .ok (.aload_n 0, 1) := by decide +kernel
theorem dX2_openNext_12 : decode cX2_openNext 12 = .ok (.getfield 9, 3) := by decide +kernel
theorem dX2_openNext_15 : decode cX2_openNext 15 = .ok (.aload_n 0, 1) := by decide +kernel
theorem dX2_openNext_16 : decode cX2_openNext 16 = .ok (.getfield 15, 3) := by decide +kernel
theorem dX2_openNext_19 : decode cX2_openNext 19 = .ok (.sipush 2001, 3) := by decide +kernel
theorem dX2_openNext_22 : decode cX2_openNext 22 = .ok (.iastore, 1) := by decide +kernel
theorem dX2_openNext_23 : decode cX2_openNext 23 = .ok (.aload_n 0, 1) := by decide +kernel
theorem dX2_openNext_24 : decode cX2_openNext 24 = .ok (.dup, 1) := by decide +kernel
theorem dX2_openNext_25 : decode cX2_openNext 25 = .ok (.getfield 15, 3) := by decide +kernel
theorem dX2_openNext_28 : decode cX2_openNext 28 = .ok (.iconst 1, 1) := by decide +kernel
theorem dX2_openNext_29 : decode cX2_openNext 29 = .ok (.iadd, 1) := by decide +kernel
theorem dX2_openNext_30 : decode cX2_openNext 30 = .ok (.putfield 15, 3) := by decide +kernel
theorem dX2_openNext_33 : decode cX2_openNext 33 = .ok (.aload_n 0, 1) := by decide +kernel
theorem dX2_openNext_34 : decode cX2_openNext 34 = .ok (.invokevirtual 22, 3) := by decide +kernel
theorem dX2_openNext_37 : decode cX2_openNext 37 = .ok (.ireturn, 1) := by decide +kernel
theorem dX2_canBeUndone_0 : decode cX2_canBeUndone 0 = .ok (.iload_n 1, 1) := by decide +kernel
theorem dX2_canBeUndone_1 : decode cX2_canBeUndone 1 = .ok (.ifCond .lt 27, 3) := by decide +kernel
theorem dX2_canBeUndone_4 : decode cX2_canBeUndone 4 = .ok (.iload_n 1, 1) := by decide +kernel
theorem dX2_canBeUndone_5 : decode cX2_canBeUndone 5 = .ok (.aload_n 0, 1) := by decide +kernel
theorem dX2_canBeUndone_6 : decode cX2_canBeUndone 6 = .ok (.invokevirtual 22, 3) := by decide +kernel
theorem dX2_canBeUndone_9 : decode cX2_canBeUndone 9 = .ok (.if_icmp .ge 19, 3) := by decide +kernel
theorem dX2_canBeUndone_12 : decode cX2_canBeUndone 12 = .ok (.aload_n 0, 1) := by decide +kernel
theorem dX2_canBeUndone_13 : decode cX2_canBeUndone 13 = .ok (.getfield 9, 3) := by decide +kernel
theorem dX2_canBeUndone_16 : decode cX2_canBeUndone 16 = .ok (.iload_n 1, 1) := by decide +kernel
theorem dX2_canBeUndone_17 : decode cX2_canBeUndone 17 = .ok (.iaload, 1) := by decide +kernel
theorem dX2_canBeUndone_18 : decode cX2_canBeUndone 18 = .ok (.sipush 2001, 3) := by decide +kernel
theorem dX2_canBeUndone_21 : decode cX2_canBeUndone 21 = .ok (.if_icmp .ne 7, 3) := by decide +kernel
theorem dX2_canBeUndone_24 : decode cX2_canBeUndone 24 = .ok (.iconst 1, 1) := by decide +kernel
theorem dX2_canBeUndone_25 : decode cX2_canBeUndone 25 = .ok (.goto 4, 3) := by decide +kernel
theorem dX2_canBeUndone_28 : decode cX2_canBeUndone 28 = .ok (.iconst 0, 1) := by decide +kernel
theorem dX2_canBeUndone_29 : decode cX2_canBeUndone 29 = .ok (.ireturn, 1) := by decide +kernel
theorem dX2_setUndone_0 : decode cX2_setUndone 0 = .ok (.aload_n 0, 1) := by decide +kernel
theorem dX2_setUndone_1 : decode cX2_setUndone 1 = .ok (.getfield 9, 3) := by decide +kernel
theorem dX2_setUndone_4 : decode cX2_setUndone 4 = .ok (.iload_n 1, 1) := by decide +kernel
theorem dX2_setUndone_5 : decode cX2_setUndone 5 = .ok (.iload_n 2, 1) := by decide +kernel
theorem dX2_setUndone_6 : decode cX2_setUndone 6 = .ok (.iastore, 1) := by decide +kernel
theorem dX2_setUndone_7 : decode cX2_setUndone 7 = .ok (.aload_n 0, 1) := by decide +kernel
theorem dX2_setUndone_8 : decode cX2_setUndone 8 = .ok (.dup, 1) := by decide +kernel
theorem dX2_setUndone_9 : decode cX2_setUndone 9 = .ok (.getfield 19, 3) := by decide +kernel
theorem dX2_setUndone_12 : decode cX2_setUndone 12 = .ok (.iconst 1, 1) := by decide +kernel
theorem dX2_setUndone_13 : decode cX2_setUndone 13 = .ok (.iadd, 1) := by decide +kernel
theorem dX2_setUndone_14 : decode cX2_setUndone 14 = .ok (.putfield 19, 3) := by decide +kernel
theorem dX2_setUndone_17 : decode cX2_setUndone 17 = .ok (.return_, 1) := by decide +kernel
theorem dX2_isUndone_0 : decode cX2_isUndone 0 = .ok (.aload_n 0, 1) := by decide +kernel
theorem dX2_isUndone_1 : decode cX2_isUndone 1 = .ok (.getfield 9, 3) := by decide +kernel
theorem dX2_isUndone_4 : decode cX2_isUndone 4 = .ok (.iload_n 1, 1) := by decide +kernel
theorem dX2_isUndone_5 : decode cX2_isUndone 5 = .ok (.iaload, 1) := by decide +kernel
theorem dX2_isUndone_6 : decode cX2_isUndone 6 = .ok (.iload_n 2, 1) := by decide +kernel
theorem dX2_isUndone_7 : decode cX2_isUndone 7 = .ok (.if_icmp .gt 7, 3) := by decide +kernel
theorem dX2_isUndone_10 : decode cX2_isUndone 10 = .ok (.iconst 1, 1) := by decide +kernel
theorem dX2_isUndone_11 : decode cX2_isUndone 11 = .ok (.goto 4, 3) := by decide +kernel
theorem dX2_isUndone_14 : decode cX2_isUndone 14 = .ok (.iconst 0, 1) := by decide +kernel
theorem dX2_isUndone_15 : decode cX2_isUndone 15 = .ok (.ireturn, 1) := by decide +kernel
theorem dX2_undoneCount_0 : decode cX2_undoneCount 0 = .ok (.aload_n 0, 1) := by decide +kernel
theorem dX2_undoneCount_1 : decode cX2_undoneCount 1 = .ok (.getfield 19, 3) := by decide +kernel
theorem dX2_undoneCount_4 : decode cX2_undoneCount 4 = .ok (.ireturn, 1) := by decide +kernel
theorem dX3_init_0 : decode cX3_init 0 = .ok (.aload_n 0, 1) := by decide +kernel
theorem dX3_init_1 : decode cX3_init 1 = .ok (.invokespecial 3, 3) := by decide +kernel
theorem dX3_init_4 : decode cX3_init 4 = .ok (.aload_n 0, 1) := by decide +kernel
theorem dX3_init_5 : decode cX3_init 5 = .ok (.aload_n 1, 1) := by decide +kernel
theorem dX3_init_6 : decode cX3_init 6 = .ok (.putfield 9, 3) := by decide +kernel
theorem dX3_init_9 : decode cX3_init 9 = .ok (.aload_n 0, 1) := by decide +kernel
theorem dX3_init_10 : decode cX3_init 10 = .ok (.iconst 0, 1) := by decide +kernel
theorem dX3_init_11 : decode cX3_init 11 = .ok (.iload_n 2, 1) := by decide +kernel
theorem dX3_init_12 : decode cX3_init 12 = .ok (.invokestatic 15, 3) := by decide +kernel
theorem dX3_init_15 : decode cX3_init 15 = .ok (.putfield 21, 3) := by decide +kernel
theorem dX3_init_18 : decode cX3_init 18 = .ok (.aload_n 0, 1) := by decide +kernel
theorem dX3_init_19 : decode cX3_init 19 = .ok (.aload_n 0, 1) := by decide +kernel
theorem dX3_init_20 : decode cX3_init 20 = .ok (.getfield 21, 3) := by decide +kernel
theorem dX3_init_23 : decode cX3_init 23 = .ok (.newarray .int, 2) := by decide +kernel
theorem dX3_init_25 : decode cX3_init 25 = .ok (.putfield 25, 3) := by decide +kernel
theorem dX3_init_28 : decode cX3_init 28 = .ok (.aload_n 0, 1) := by decide +kernel
theorem dX3_init_29 : decode cX3_init 29 = .ok (.aload_n 0, 1) := by decide +kernel
theorem dX3_init_30 : decode cX3_init 30 = .ok (.getfield 21, 3) := by decide +kernel
theorem dX3_init_33 : decode cX3_init 33 = .ok (.newarray .int, 2) := by decide +kernel
theorem dX3_init_35 : decode cX3_init 35 = .ok (.putfield 29, 3) := by decide +kernel
theorem dX3_init_38 : decode cX3_init 38 = .ok (.aload_n 0, 1) := by decide +kernel
theorem dX3_init_39 : decode cX3_init 39 = .ok (.iconst 0, 1) := by decide +kernel
theorem dX3_init_40 : decode cX3_init 40 = .ok (.putfield 32, 3) := by decide +kernel
theorem dX3_init_43 : decode cX3_init 43 = .ok (.return_, 1) := by decide +kernel
theorem dX3_size_0 : decode cX3_size 0 = .ok (.aload_n 0, 1) := by decide +kernel
theorem dX3_size_1 : decode cX3_size 1 = .ok (.getfield 32, 3) := by decide +kernel
theorem dX3_size_4 : decode cX3_size 4 = .ok (.ireturn, 1) := by decide +kernel
theorem dX3_isFull_0 : decode cX3_isFull 0 = .ok (.aload_n 0, 1) := by decide +kernel
theorem dX3_isFull_1 : decode cX3_isFull 1 = .ok (.getfield 32, 3) := by decide +kernel
theorem dX3_isFull_4 : decode cX3_isFull 4 = .ok (.aload_n 0, 1) := by decide +kernel
theorem dX3_isFull_5 : decode cX3_isFull 5 = .ok (.getfield 21, 3) := by decide +kernel
theorem dX3_isFull_8 : decode cX3_isFull 8 = .ok (.if_icmp .lt 7, 3) := by decide +kernel
theorem dX3_isFull_11 : decode cX3_isFull 11 = .ok (.iconst 1, 1) := by decide +kernel
theorem dX3_isFull_12 : decode cX3_isFull 12 = .ok (.goto 4, 3) := by decide +kernel
theorem dX3_isFull_15 : decode cX3_isFull 15 = .ok (.iconst 0, 1) := by decide +kernel
theorem dX3_isFull_16 : decode cX3_isFull 16 = .ok (.ireturn, 1) := by decide +kernel
theorem dX3_add_0 : decode cX3_add 0 = .ok (.aload_n 0, 1) := by decide +kernel
theorem dX3_add_1 : decode cX3_add 1 = .ok (.invokevirtual 35, 3) := by decide +kernel
theorem dX3_add_4 : decode cX3_add 4 = .ok (.ifCond .eq 5, 3) := by decide +kernel
theorem dX3_add_7 : decode cX3_add 7 = .ok (.iconst (-1), 1) := by decide +kernel
theorem dX3_add_8 : decode cX3_add 8 = .ok (.ireturn, 1) := by decide +kernel
theorem dX3_add_9 : decode cX3_add 9 = .ok (.aload_n 0, 1) := by decide +kernel
theorem dX3_add_10 : decode cX3_add 10 = .ok (.getfield 25, 3) := by decide +kernel
theorem dX3_add_13 : decode cX3_add 13 = .ok (.aload_n 0, 1) := by decide +kernel
theorem dX3_add_14 : decode cX3_add 14 = .ok (.getfield 32, 3) := by decide +kernel
theorem dX3_add_17 : decode cX3_add 17 = .ok (.iload_n 1, 1) := by decide +kernel
theorem dX3_add_18 : decode cX3_add 18 = .ok (.iastore, 1) := by decide +kernel
theorem dX3_add_19 : decode cX3_add 19 = .ok (.aload_n 0, 1) := by decide +kernel
theorem dX3_add_20 : decode cX3_add 20 = .ok (.getfield 29, 3) := by decide +kernel
theorem dX3_add_23 : decode cX3_add 23 = .ok (.aload_n 0, 1) := by decide +kernel
theorem dX3_add_24 : decode cX3_add 24 = .ok (.getfield 32, 3) := by decide +kernel
theorem dX3_add_27 : decode cX3_add 27 = .ok (.aload_n 0, 1) := by decide +kernel
theorem dX3_add_28 : decode cX3_add 28 = .ok (.getfield 9, 3) := by decide +kernel
theorem dX3_add_31 : decode cX3_add 31 = .ok (.invokevirtual 39, 3) := by decide +kernel
theorem dX3_add_34 : decode cX3_add 34 = .ok (.iastore, 1) := by decide +kernel
theorem dX3_add_35 : decode cX3_add 35 = .ok (.aload_n 0, 1) := by decide +kernel
theorem dX3_add_36 : decode cX3_add 36 = .ok (.dup, 1) := by decide +kernel
theorem dX3_add_37 : decode cX3_add 37 = .ok (.getfield 32, 3) := by decide +kernel
theorem dX3_add_40 : decode cX3_add 40 = .ok (.iconst 1, 1) := by decide +kernel
theorem dX3_add_41 : decode cX3_add 41 = .ok (.iadd, 1) := by decide +kernel
theorem dX3_add_42 : decode cX3_add 42 = .ok (.putfield 32, 3) := by decide +kernel
theorem dX3_add_45 : decode cX3_add 45 = .ok (.aload_n 0, 1) := by decide +kernel
theorem dX3_add_46 : decode cX3_add 46 = .ok (.getfield 32, 3) := by decide +kernel
theorem dX3_add_49 : decode cX3_add 49 = .ok (.iconst 1, 1) := by decide +kernel
theorem dX3_add_50 : decode cX3_add 50 = .ok (.isub, 1) := by decide +kernel
theorem dX3_add_51 : decode cX3_add 51 = .ok (.ireturn, 1) := by decide +kernel
theorem dX3_isKnown_0 : decode cX3_isKnown 0 = .ok (.iload_n 1, 1) := by decide +kernel
theorem dX3_isKnown_1 : decode cX3_isKnown 1 = .ok (.ifCond .lt 42, 3) := by decide +kernel
theorem dX3_isKnown_4 : decode cX3_isKnown 4 = .ok (.iload_n 1, 1) := by decide +kernel
theorem dX3_isKnown_5 : decode cX3_isKnown 5 = .ok (.aload_n 0, 1) := by decide +kernel
theorem dX3_isKnown_6 : decode cX3_isKnown 6 = .ok (.getfield 32, 3) := by decide +kernel
theorem dX3_isKnown_9 : decode cX3_isKnown 9 = .ok (.if_icmp .ge 34, 3) := by decide +kernel
theorem dX3_isKnown_12 : decode cX3_isKnown 12 = .ok (.aload_n 0, 1) := by decide +kernel
theorem dX3_isKnown_13 : decode cX3_isKnown 13 = .ok (.getfield 25, 3) := by decide +kernel
theorem dX3_isKnown_16 : decode cX3_isKnown 16 = .ok (.iload_n 1, 1) := by decide +kernel
theorem dX3_isKnown_17 : decode cX3_isKnown 17 = .ok (.iaload, 1) := by decide +kernel
theorem dX3_isKnown_18 : decode cX3_isKnown 18 = .ok (.iload_n 2, 1) := by decide +kernel
theorem dX3_isKnown_19 : decode cX3_isKnown 19 = .ok (.if_icmp .gt 24, 3) := by decide +kernel
theorem dX3_isKnown_22 : decode cX3_isKnown 22 = .ok (.aload_n 0, 1) := by decide +kernel
theorem dX3_isKnown_23 : decode cX3_isKnown 23 = .ok (.getfield 9, 3) := by decide +kernel
theorem dX3_isKnown_26 : decode cX3_isKnown 26 = .ok (.aload_n 0, 1) := by decide +kernel
theorem dX3_isKnown_27 : decode cX3_isKnown 27 = .ok (.getfield 29, 3) := by decide +kernel
theorem dX3_isKnown_30 : decode cX3_isKnown 30 = .ok (.iload_n 1, 1) := by decide +kernel
theorem dX3_isKnown_31 : decode cX3_isKnown 31 = .ok (.iaload, 1) := by decide +kernel
theorem dX3_isKnown_32 : decode cX3_isKnown 32 = .ok (.iload_n 2, 1) := by decide +kernel
theorem dX3_isKnown_33 : decode cX3_isKnown 33 = .ok (.invokevirtual 45, 3) := by decide +kernel
theorem dX3_isKnown_36 : decode cX3_isKnown 36 = .ok (.ifCond .ne 7, 3) := by decide +kernel
theorem dX3_isKnown_39 : decode cX3_isKnown 39 = .ok (.iconst 1, 1) := by decide +kernel
theorem dX3_isKnown_40 : decode cX3_isKnown 40 = .ok (.goto 4, 3) := by decide +kernel
theorem dX3_isKnown_43 : decode cX3_isKnown 43 = .ok (.iconst 0, 1) := by decide +kernel
theorem dX3_isKnown_44 : decode cX3_isKnown 44 = .ok (.ireturn, 1) := by decide +kernel
theorem dX3_sizeOfLoad_0 : decode cX3_sizeOfLoad 0 = .ok (.iconst 0, 1) := by decide +kernel
theorem dX3_sizeOfLoad_1 : decode cX3_sizeOfLoad 1 = .ok (.istore_n 2, 1) := by decide +kernel
theorem dX3_sizeOfLoad_2 : decode cX3_sizeOfLoad 2 = .ok (.iconst 0, 1) := by decide +kernel
theorem dX3_sizeOfLoad_3 : decode cX3_sizeOfLoad 3 = .ok (.istore_n 3, 1) := by decide +kernel
theorem dX3_sizeOfLoad_4 : decode cX3_sizeOfLoad 4 = .ok (.iload_n 3, 1) := by decide +kernel
theorem dX3_sizeOfLoad_5 : decode cX3_sizeOfLoad 5 = .ok (.aload_n 0, 1) := by decide +kernel
theorem dX3_sizeOfLoad_6 : decode cX3_sizeOfLoad 6 = .ok (.getfield 32, 3) := by decide +kernel
theorem dX3_sizeOfLoad_9 : decode cX3_sizeOfLoad 9 = .ok (.if_icmp .ge 22, 3) := by decide +kernel
theorem dX3_sizeOfLoad_12 : decode cX3_sizeOfLoad 12 = .ok (.aload_n 0, 1) := by decide +kernel
theorem dX3_sizeOfLoad_13 : decode cX3_sizeOfLoad 13 = .ok (.getfield 29, 3) := by decide +kernel
theorem dX3_sizeOfLoad_16 : decode cX3_sizeOfLoad 16 = .ok (.iload_n 3, 1) := by decide +kernel
theorem dX3_sizeOfLoad_17 : decode cX3_sizeOfLoad 17 = .ok (.iaload, 1) := by decide +kernel
theorem dX3_sizeOfLoad_18 : decode cX3_sizeOfLoad 18 = .ok (.iload_n 1, 1) := by decide +kernel
theorem dX3_sizeOfLoad_19 : decode cX3_sizeOfLoad 19 = .ok (.if_icmp .ne 6, 3) := by decide +kernel
theorem dX3_sizeOfLoad_22 : decode cX3_sizeOfLoad 22 = .ok (.iinc 2 1, 3) := by decide +kernel
theorem dX3_sizeOfLoad_25 : decode cX3_sizeOfLoad 25 = .ok (.iinc 3 1, 3) := by decide +kernel
theorem dX3_sizeOfLoad_28 : decode cX3_sizeOfLoad 28 = .ok (.goto (-24), 3) := by decide +kernel
theorem dX3_sizeOfLoad_31 : decode cX3_sizeOfLoad 31 = .ok (.iload_n 2, 1) := by decide +kernel
theorem dX3_sizeOfLoad_32 : decode cX3_sizeOfLoad 32 = .ok (.ireturn, 1) := by decide +kernel
theorem dX4_init_0 : decode cX4_init 0 = .ok (.aload_n 0, 1) := by decide +kernel
theorem dX4_init_1 : decode cX4_init 1 = .ok (.invokespecial 3, 3) := by decide +kernel
theorem dX4_init_4 : decode cX4_init 4 = .ok (.aload_n 0, 1) := by decide +kernel
theorem dX4_init_5 : decode cX4_init 5 = .ok (.new 9, 3) := by decide +kernel
theorem dX4_init_8 : decode cX4_init 8 = .ok (.dup, 1) := by decide +kernel
theorem dX4_init_9 : decode cX4_init 9 = .ok (.aload_n 1, 1) := by decide +kernel
theorem dX4_init_10 : decode cX4_init 10 = .ok (.sipush 300, 3) := by decide +kernel
theorem dX4_init_13 : decode cX4_init 13 = .ok (.invokespecial 11, 3) := by decide +kernel
theorem dX4_init_16 : decode cX4_init 16 = .ok (.putfield 14, 3) := by decide +kernel
theorem dX4_init_19 : decode cX4_init 19 = .ok (.aload_n 0, 1) := by decide +kernel
theorem dX4_init_20 : decode cX4_init 20 = .ok (.sipush 300, 3) := by decide +kernel
theorem dX4_init_23 : decode cX4_init 23 = .ok (.newarray .int, 2) := by decide +kernel
theorem dX4_init_25 : decode cX4_init 25 = .ok (.putfield 20, 3) := by decide +kernel
theorem dX4_init_28 : decode cX4_init 28 = .ok (.aload_n 0, 1) := by decide +kernel
theorem dX4_init_29 : decode cX4_init 29 = .ok (.sipush 300, 3) := by decide +kernel
theorem dX4_init_32 : decode cX4_init 32 = .ok (.newarray .int, 2) := by decide +kernel
theorem dX4_init_34 : decode cX4_init 34 = .ok (.putfield 24, 3) := by decide +kernel
theorem dX4_init_37 : decode cX4_init 37 = .ok (.aload_n 0, 1) := by decide +kernel
theorem dX4_init_38 : decode cX4_init 38 = .ok (.sipush 300, 3) := by decide +kernel
theorem dX4_init_41 : decode cX4_init 41 = .ok (.newarray .int, 2) := by decide +kernel
theorem dX4_init_43 : decode cX4_init 43 = .ok (.putfield 27, 3) := by decide +kernel
theorem dX4_init_46 : decode cX4_init 46 = .ok (.aload_n 0, 1) := by decide +kernel
theorem dX4_init_47 : decode cX4_init 47 = .ok (.sipush 300, 3) := by decide +kernel
theorem dX4_init_50 : decode cX4_init 50 = .ok (.newarray .int, 2) := by decide +kernel
theorem dX4_init_52 : decode cX4_init 52 = .ok (.putfield 30, 3) := by decide +kernel
theorem dX4_init_55 : decode cX4_init 55 = .ok (.return_, 1) := by decide +kernel
theorem dX4_size_0 : decode cX4_size 0 = .ok (.aload_n 0, 1) := by decide +kernel
theorem dX4_size_1 : decode cX4_size 1 = .ok (.getfield 14, 3) := by decide +kernel
theorem dX4_size_4 : decode cX4_size 4 = .ok (.invokevirtual 33, 3) := by decide +kernel
theorem dX4_size_7 : decode cX4_size 7 = .ok (.ireturn, 1) := by decide +kernel
theorem dX4_isFull_0 : decode cX4_isFull 0 = .ok (.aload_n 0, 1) := by decide +kernel
theorem dX4_isFull_1 : decode cX4_isFull 1 = .ok (.getfield 14, 3) := by decide +kernel
theorem dX4_isFull_4 : decode cX4_isFull 4 = .ok (.invokevirtual 37, 3) := by decide +kernel
theorem dX4_isFull_7 : decode cX4_isFull 7 = .ok (.ireturn, 1) := by decide +kernel
theorem dX4_sizeOfLoad_0 : decode cX4_sizeOfLoad 0 = .ok (.aload_n 0, 1) := by decide +kernel
theorem dX4_sizeOfLoad_1 : decode cX4_sizeOfLoad 1 = .ok (.getfield 14, 3) := by decide +kernel
theorem dX4_sizeOfLoad_4 : decode cX4_sizeOfLoad 4 = .ok (.iload_n 1, 1) := by decide +kernel
theorem dX4_sizeOfLoad_5 : decode cX4_sizeOfLoad 5 = .ok (.invokevirtual 41, 3) := by decide +kernel
theorem dX4_sizeOfLoad_8 : decode cX4_sizeOfLoad 8 = .ok (.ireturn, 1) := by decide +kernel
theorem dX4_add_0 : decode cX4_add 0 = .ok (.aload_n 0, 1) := by decide +kernel
theorem dX4_add_1 : decode cX4_add 1 = .ok (.getfield 14, 3) := by decide +kernel
theorem dX4_add_4 : decode cX4_add 4 = .ok (.iload 5, 2) := by decide +kernel
theorem dX4_add_6 : decode cX4_add 6 = .ok (.invokevirtual 45, 3) := by decide +kernel
theorem dX4_add_9 : decode cX4_add 9 = .ok (.istore 6, 2) := by decide +kernel
theorem dX4_add_11 : decode cX4_add 11 = .ok (.iload 6, 2) := by decide +kernel
theorem dX4_add_13 : decode cX4_add 13 = .ok (.iconst (-1), 1) := by decide +kernel
theorem dX4_add_14 : decode cX4_add 14 = .ok (.if_icmp .ne 4, 3) := by decide +kernel
theorem dX4_add_17 : decode cX4_add 17 = .ok (.return_, 1) := by decide +kernel
theorem dX4_add_18 : decode cX4_add 18 = .ok (.aload_n 0, 1) := by decide +kernel
theorem dX4_add_19 : decode cX4_add 19 = .ok (.getfield 20, 3) := by decide +kernel
theorem dX4_add_22 : decode cX4_add 22 = .ok (.iload 6, 2) := by decide +kernel
theorem dX4_add_24 : decode cX4_add 24 = .ok (.iload_n 1, 1) := by decide +kernel
theorem dX4_add_25 : decode cX4_add 25 = .ok (.iastore, 1) := by decide +kernel
theorem dX4_add_26 : decode cX4_add 26 = .ok (.aload_n 0, 1) := by decide +kernel
theorem dX4_add_27 : decode cX4_add 27 = .ok (.getfield 24, 3) := by decide +kernel
theorem dX4_add_30 : decode cX4_add 30 = .ok (.iload 6, 2) := by decide +kernel
theorem dX4_add_32 : decode cX4_add 32 = .ok (.iload_n 2, 1) := by decide +kernel
theorem dX4_add_33 : decode cX4_add 33 = .ok (.iastore, 1) := by decide +kernel
theorem dX4_add_34 : decode cX4_add 34 = .ok (.aload_n 0, 1) := by decide +kernel
theorem dX4_add_35 : decode cX4_add 35 = .ok (.getfield 27, 3) := by decide +kernel
theorem dX4_add_38 : decode cX4_add 38 = .ok (.iload 6, 2) := by decide +kernel
theorem dX4_add_40 : decode cX4_add 40 = .ok (.iload_n 3, 1) := by decide +kernel
theorem dX4_add_41 : decode cX4_add 41 = .ok (.iastore, 1) := by decide +kernel
theorem dX4_add_42 : decode cX4_add 42 = .ok (.aload_n 0, 1) := by decide +kernel
theorem dX4_add_43 : decode cX4_add 43 = .ok (.getfield 30, 3) := by decide +kernel
theorem dX4_add_46 : decode cX4_add 46 = .ok (.iload 6, 2) := by decide +kernel
theorem dX4_add_48 : decode cX4_add 48 = .ok (.iload 4, 2) := by decide +kernel
theorem dX4_add_50 : decode cX4_add 50 = .ok (.iastore, 1) := by decide +kernel
theorem dX4_add_51 : decode cX4_add 51 = .ok (.return_, 1) := by decide +kernel
theorem dX4_valueOn_0 : decode cX4_valueOn 0 = .ok (.iconst (-1), 1) := by decide +kernel
theorem dX4_valueOn_1 : decode cX4_valueOn 1 = .ok (.istore 5, 2) := by decide +kernel
theorem dX4_valueOn_3 : decode cX4_valueOn 3 = .ok (.iconst 0, 1) := by decide +kernel
theorem dX4_valueOn_4 : decode cX4_valueOn 4 = .ok (.istore 6, 2) := by decide +kernel
theorem dX4_valueOn_6 : decode cX4_valueOn 6 = .ok (.iload 6, 2) := by decide +kernel
theorem dX4_valueOn_8 : decode cX4_valueOn 8 = .ok (.aload_n 0, 1) := by decide +kernel
theorem dX4_valueOn_9 : decode cX4_valueOn 9 = .ok (.getfield 14, 3) := by decide +kernel
theorem dX4_valueOn_12 : decode cX4_valueOn 12 = .ok (.invokevirtual 33, 3) := by decide +kernel
theorem dX4_valueOn_15 : decode cX4_valueOn 15 = .ok (.if_icmp .ge 50, 3) := by decide +kernel
theorem dX4_valueOn_18 : decode cX4_valueOn 18 = .ok (.aload_n 0, 1) := by decide +kernel
theorem dX4_valueOn_19 : decode cX4_valueOn 19 = .ok (.iload 6, 2) := by decide +kernel
theorem dX4_valueOn_21 : decode cX4_valueOn 21 = .ok (.iload_n 1, 1) := by decide +kernel
theorem dX4_valueOn_22 : decode cX4_valueOn 22 = .ok (.iload_n 2, 1) := by decide +kernel
theorem dX4_valueOn_23 : decode cX4_valueOn 23 = .ok (.invokevirtual 48, 3) := by decide +kernel
theorem dX4_valueOn_26 : decode cX4_valueOn 26 = .ok (.ifCond .eq 33, 3) := by decide +kernel
theorem dX4_valueOn_29 : decode cX4_valueOn 29 = .ok (.aload_n 0, 1) := by decide +kernel
theorem dX4_valueOn_30 : decode cX4_valueOn 30 = .ok (.getfield 14, 3) := by decide +kernel
theorem dX4_valueOn_33 : decode cX4_valueOn 33 = .ok (.iload 6, 2) := by decide +kernel
theorem dX4_valueOn_35 : decode cX4_valueOn 35 = .ok (.iload 4, 2) := by decide +kernel
theorem dX4_valueOn_37 : decode cX4_valueOn 37 = .ok (.invokevirtual 52, 3) := by decide +kernel
theorem dX4_valueOn_40 : decode cX4_valueOn 40 = .ok (.ifCond .eq 19, 3) := by decide +kernel
theorem dX4_valueOn_43 : decode cX4_valueOn 43 = .ok (.aload_n 0, 1) := by decide +kernel
theorem dX4_valueOn_44 : decode cX4_valueOn 44 = .ok (.iload 6, 2) := by decide +kernel
theorem dX4_valueOn_46 : decode cX4_valueOn 46 = .ok (.iload 5, 2) := by decide +kernel
theorem dX4_valueOn_48 : decode cX4_valueOn 48 = .ok (.iload_n 3, 1) := by decide +kernel
theorem dX4_valueOn_49 : decode cX4_valueOn 49 = .ok (.invokevirtual 56, 3) := by decide +kernel
theorem dX4_valueOn_52 : decode cX4_valueOn 52 = .ok (.ifCond .eq 7, 3) := by decide +kernel
theorem dX4_valueOn_55 : decode cX4_valueOn 55 = .ok (.iload 6, 2) := by decide +kernel
theorem dX4_valueOn_57 : decode cX4_valueOn 57 = .ok (.istore 5, 2) := by decide +kernel
theorem dX4_valueOn_59 : decode cX4_valueOn 59 = .ok (.iinc 6 1, 3) := by decide +kernel
theorem dX4_valueOn_62 : decode cX4_valueOn 62 = .ok (.goto (-56), 3) := by decide +kernel
theorem dX4_valueOn_65 : decode cX4_valueOn 65 = .ok (.iload 5, 2) := by decide +kernel
theorem dX4_valueOn_67 : decode cX4_valueOn 67 = .ok (.iconst (-1), 1) := by decide +kernel
theorem dX4_valueOn_68 : decode cX4_valueOn 68 = .ok (.if_icmp .ne 8, 3) := by decide +kernel
theorem dX4_valueOn_71 : decode cX4_valueOn 71 = .ok (.bipush 100, 2) := by decide +kernel
theorem dX4_valueOn_73 : decode cX4_valueOn 73 = .ok (.goto 10, 3) := by decide +kernel
theorem dX4_valueOn_76 : decode cX4_valueOn 76 = .ok (.aload_n 0, 1) := by decide +kernel
theorem dX4_valueOn_77 : decode cX4_valueOn 77 = .ok (.getfield 30, 3) := by decide +kernel
theorem dX4_valueOn_80 : decode cX4_valueOn 80 = .ok (.iload 5, 2) := by decide +kernel
theorem dX4_valueOn_82 : decode cX4_valueOn 82 = .ok (.iaload, 1) := by decide +kernel
theorem dX4_valueOn_83 : decode cX4_valueOn 83 = .ok (.ireturn, 1) := by decide +kernel
theorem dX4_timesToldOver_0 : decode cX4_timesToldOver 0 = .ok (.iconst 0, 1) := by decide +kernel
theorem dX4_timesToldOver_1 : decode cX4_timesToldOver 1 = .ok (.istore_n 3, 1) := by decide +kernel
theorem dX4_timesToldOver_2 : decode cX4_timesToldOver 2 = .ok (.bipush 100, 2) := by decide +kernel
theorem dX4_timesToldOver_4 : decode cX4_timesToldOver 4 = .ok (.istore 4, 2) := by decide +kernel
theorem dX4_timesToldOver_6 : decode cX4_timesToldOver 6 = .ok (.iconst 0, 1) := by decide +kernel
theorem dX4_timesToldOver_7 : decode cX4_timesToldOver 7 = .ok (.istore 5, 2) := by decide +kernel
theorem dX4_timesToldOver_9 : decode cX4_timesToldOver 9 = .ok (.iload 5, 2) := by decide +kernel
theorem dX4_timesToldOver_11 : decode cX4_timesToldOver 11 = .ok (.aload_n 0, 1) := by decide +kernel
theorem dX4_timesToldOver_12 : decode cX4_timesToldOver 12 = .ok (.getfield 14, 3) := by decide +kernel
theorem dX4_timesToldOver_15 : decode cX4_timesToldOver 15 = .ok (.invokevirtual 33, 3) := by decide +kernel
theorem dX4_timesToldOver_18 : decode cX4_timesToldOver 18 = .ok (.if_icmp .ge 64, 3) := by decide +kernel
theorem dX4_timesToldOver_21 : decode cX4_timesToldOver 21 = .ok (.aload_n 0, 1) := by decide +kernel
theorem dX4_timesToldOver_22 : decode cX4_timesToldOver 22 = .ok (.iload 5, 2) := by decide +kernel
theorem dX4_timesToldOver_24 : decode cX4_timesToldOver 24 = .ok (.iload_n 1, 1) := by decide +kernel
theorem dX4_timesToldOver_25 : decode cX4_timesToldOver 25 = .ok (.iconst 1, 1) := by decide +kernel
theorem dX4_timesToldOver_26 : decode cX4_timesToldOver 26 = .ok (.invokevirtual 48, 3) := by decide +kernel
theorem dX4_timesToldOver_29 : decode cX4_timesToldOver 29 = .ok (.ifCond .eq 47, 3) := by decide +kernel
theorem dX4_timesToldOver_32 : decode cX4_timesToldOver 32 = .ok (.aload_n 0, 1) := by decide +kernel
theorem dX4_timesToldOver_33 : decode cX4_timesToldOver 33 = .ok (.getfield 14, 3) := by decide +kernel
theorem dX4_timesToldOver_36 : decode cX4_timesToldOver 36 = .ok (.iload 5, 2) := by decide +kernel
theorem dX4_timesToldOver_38 : decode cX4_timesToldOver 38 = .ok (.iload_n 2, 1) := by decide +kernel
theorem dX4_timesToldOver_39 : decode cX4_timesToldOver 39 = .ok (.invokevirtual 52, 3) := by decide +kernel
theorem dX4_timesToldOver_42 : decode cX4_timesToldOver 42 = .ok (.ifCond .eq 34, 3) := by decide +kernel
theorem dX4_timesToldOver_45 : decode cX4_timesToldOver 45 = .ok (.iload 4, 2) := by decide +kernel
theorem dX4_timesToldOver_47 : decode cX4_timesToldOver 47 = .ok (.bipush 100, 2) := by decide +kernel
theorem dX4_timesToldOver_49 : decode cX4_timesToldOver 49 = .ok (.if_icmp .eq 18, 3) := by decide +kernel
theorem dX4_timesToldOver_52 : decode cX4_timesToldOver 52 = .ok (.iload 4, 2) := by decide +kernel
theorem dX4_timesToldOver_54 : decode cX4_timesToldOver 54 = .ok (.aload_n 0, 1) := by decide +kernel
theorem dX4_timesToldOver_55 : decode cX4_timesToldOver 55 = .ok (.getfield 30, 3) := by decide +kernel
theorem dX4_timesToldOver_58 : decode cX4_timesToldOver 58 = .ok (.iload 5, 2) := by decide +kernel
theorem dX4_timesToldOver_60 : decode cX4_timesToldOver 60 = .ok (.iaload, 1) := by decide +kernel
theorem dX4_timesToldOver_61 : decode cX4_timesToldOver 61 = .ok (.if_icmp .eq 6, 3) := by decide +kernel
theorem dX4_timesToldOver_64 : decode cX4_timesToldOver 64 = .ok (.iinc 3 1, 3) := by decide +kernel
theorem dX4_timesToldOver_67 : decode cX4_timesToldOver 67 = .ok (.aload_n 0, 1) := by decide +kernel
theorem dX4_timesToldOver_68 : decode cX4_timesToldOver 68 = .ok (.getfield 30, 3) := by decide +kernel
theorem dX4_timesToldOver_71 : decode cX4_timesToldOver 71 = .ok (.iload 5, 2) := by decide +kernel
theorem dX4_timesToldOver_73 : decode cX4_timesToldOver 73 = .ok (.iaload, 1) := by decide +kernel
theorem dX4_timesToldOver_74 : decode cX4_timesToldOver 74 = .ok (.istore 4, 2) := by decide +kernel
theorem dX4_timesToldOver_76 : decode cX4_timesToldOver 76 = .ok (.iinc 5 1, 3) := by decide +kernel
theorem dX4_timesToldOver_79 : decode cX4_timesToldOver 79 = .ok (.goto (-70), 3) := by decide +kernel
theorem dX4_timesToldOver_82 : decode cX4_timesToldOver 82 = .ok (.iload_n 3, 1) := by decide +kernel
theorem dX4_timesToldOver_83 : decode cX4_timesToldOver 83 = .ok (.ireturn, 1) := by decide +kernel
theorem dX4_isOf_0 : decode cX4_isOf 0 = .ok (.aload_n 0, 1) := by decide +kernel
theorem dX4_isOf_1 : decode cX4_isOf 1 = .ok (.getfield 20, 3) := by decide +kernel
theorem dX4_isOf_4 : decode cX4_isOf 4 = .ok (.iload_n 1, 1) := by decide +kernel
theorem dX4_isOf_5 : decode cX4_isOf 5 = .ok (.iaload, 1) := by decide +kernel
theorem dX4_isOf_6 : decode cX4_isOf 6 = .ok (.iload_n 2, 1) := by decide +kernel
theorem dX4_isOf_7 : decode cX4_isOf 7 = .ok (.if_icmp .ne 17, 3) := by decide +kernel
theorem dX4_isOf_10 : decode cX4_isOf 10 = .ok (.aload_n 0, 1) := by decide +kernel
theorem dX4_isOf_11 : decode cX4_isOf 11 = .ok (.getfield 24, 3) := by decide +kernel
theorem dX4_isOf_14 : decode cX4_isOf 14 = .ok (.iload_n 1, 1) := by decide +kernel
theorem dX4_isOf_15 : decode cX4_isOf 15 = .ok (.iaload, 1) := by decide +kernel
theorem dX4_isOf_16 : decode cX4_isOf 16 = .ok (.iload_n 3, 1) := by decide +kernel
theorem dX4_isOf_17 : decode cX4_isOf 17 = .ok (.if_icmp .ne 7, 3) := by decide +kernel
theorem dX4_isOf_20 : decode cX4_isOf 20 = .ok (.iconst 1, 1) := by decide +kernel
theorem dX4_isOf_21 : decode cX4_isOf 21 = .ok (.goto 4, 3) := by decide +kernel
theorem dX4_isOf_24 : decode cX4_isOf 24 = .ok (.iconst 0, 1) := by decide +kernel
theorem dX4_isOf_25 : decode cX4_isOf 25 = .ok (.ireturn, 1) := by decide +kernel
theorem dX4_outdoes_0 : decode cX4_outdoes 0 = .ok (.aload_n 0, 1) := by decide +kernel
theorem dX4_outdoes_1 : decode cX4_outdoes 1 = .ok (.getfield 24, 3) := by decide +kernel
theorem dX4_outdoes_4 : decode cX4_outdoes 4 = .ok (.iload_n 1, 1) := by decide +kernel
theorem dX4_outdoes_5 : decode cX4_outdoes 5 = .ok (.iaload, 1) := by decide +kernel
theorem dX4_outdoes_6 : decode cX4_outdoes 6 = .ok (.iconst 1, 1) := by decide +kernel
theorem dX4_outdoes_7 : decode cX4_outdoes 7 = .ok (.if_icmp .gt 5, 3) := by decide +kernel
theorem dX4_outdoes_10 : decode cX4_outdoes 10 = .ok (.iconst 1, 1) := by decide +kernel
theorem dX4_outdoes_11 : decode cX4_outdoes 11 = .ok (.ireturn, 1) := by decide +kernel
theorem dX4_outdoes_12 : decode cX4_outdoes 12 = .ok (.aload_n 0, 1) := by decide +kernel
theorem dX4_outdoes_13 : decode cX4_outdoes 13 = .ok (.getfield 27, 3) := by decide +kernel
theorem dX4_outdoes_16 : decode cX4_outdoes 16 = .ok (.iload_n 1, 1) := by decide +kernel
theorem dX4_outdoes_17 : decode cX4_outdoes 17 = .ok (.iaload, 1) := by decide +kernel
theorem dX4_outdoes_18 : decode cX4_outdoes 18 = .ok (.iload_n 3, 1) := by decide +kernel
theorem dX4_outdoes_19 : decode cX4_outdoes 19 = .ok (.if_icmp .gt 27, 3) := by decide +kernel
theorem dX4_outdoes_22 : decode cX4_outdoes 22 = .ok (.iload_n 2, 1) := by decide +kernel
theorem dX4_outdoes_23 : decode cX4_outdoes 23 = .ok (.iconst (-1), 1) := by decide +kernel
theorem dX4_outdoes_24 : decode cX4_outdoes 24 = .ok (.if_icmp .eq 18, 3) := by decide +kernel
theorem dX4_outdoes_27 : decode cX4_outdoes 27 = .ok (.aload_n 0, 1) := by decide +kernel
theorem dX4_outdoes_28 : decode cX4_outdoes 28 = .ok (.getfield 27, 3) := by decide +kernel
theorem dX4_outdoes_31 : decode cX4_outdoes 31 = .ok (.iload_n 1, 1) := by decide +kernel
theorem dX4_outdoes_32 : decode cX4_outdoes 32 = .ok (.iaload, 1) := by decide +kernel
theorem dX4_outdoes_33 : decode cX4_outdoes 33 = .ok (.aload_n 0, 1) := by decide +kernel
theorem dX4_outdoes_34 : decode cX4_outdoes 34 = .ok (.getfield 27, 3) := by decide +kernel
theorem dX4_outdoes_37 : decode cX4_outdoes 37 = .ok (.iload_n 2, 1) := by decide +kernel
theorem dX4_outdoes_38 : decode cX4_outdoes 38 = .ok (.iaload, 1) := by decide +kernel
theorem dX4_outdoes_39 : decode cX4_outdoes 39 = .ok (.if_icmp .lt 7, 3) := by decide +kernel
theorem dX4_outdoes_42 : decode cX4_outdoes 42 = .ok (.iconst 1, 1) := by decide +kernel
theorem dX4_outdoes_43 : decode cX4_outdoes 43 = .ok (.goto 4, 3) := by decide +kernel
theorem dX4_outdoes_46 : decode cX4_outdoes 46 = .ok (.iconst 0, 1) := by decide +kernel
theorem dX4_outdoes_47 : decode cX4_outdoes 47 = .ok (.ireturn, 1) := by decide +kernel
theorem dX5_init_0 : decode cX5_init 0 = .ok (.aload_n 0, 1) := by decide +kernel
theorem dX5_init_1 : decode cX5_init 1 = .ok (.invokespecial 3, 3) := by decide +kernel
theorem dX5_init_4 : decode cX5_init 4 = .ok (.aload_n 0, 1) := by decide +kernel
theorem dX5_init_5 : decode cX5_init 5 = .ok (.bipush 40, 2) := by decide +kernel
theorem dX5_init_7 : decode cX5_init 7 = .ok (.newarray .int, 2) := by decide +kernel
theorem dX5_init_9 : decode cX5_init 9 = .ok (.putfield 9, 3) := by decide +kernel
theorem dX5_init_12 : decode cX5_init 12 = .ok (.aload_n 0, 1) := by decide +kernel
theorem dX5_init_13 : decode cX5_init 13 = .ok (.bipush 40, 2) := by decide +kernel
theorem dX5_init_15 : decode cX5_init 15 = .ok (.newarray .int, 2) := by decide +kernel
theorem dX5_init_17 : decode cX5_init 17 = .ok (.putfield 15, 3) := by decide +kernel
theorem dX5_init_20 : decode cX5_init 20 = .ok (.aload_n 0, 1) := by decide +kernel
theorem dX5_init_21 : decode cX5_init 21 = .ok (.bipush 40, 2) := by decide +kernel
theorem dX5_init_23 : decode cX5_init 23 = .ok (.newarray .int, 2) := by decide +kernel
theorem dX5_init_25 : decode cX5_init 25 = .ok (.putfield 18, 3) := by decide +kernel
theorem dX5_init_28 : decode cX5_init 28 = .ok (.aload_n 0, 1) := by decide +kernel
theorem dX5_init_29 : decode cX5_init 29 = .ok (.bipush 40, 2) := by decide +kernel
theorem dX5_init_31 : decode cX5_init 31 = .ok (.newarray .int, 2) := by decide +kernel
theorem dX5_init_33 : decode cX5_init 33 = .ok (.putfield 21, 3) := by decide +kernel
theorem dX5_init_36 : decode cX5_init 36 = .ok (.aload_n 0, 1) := by decide +kernel
theorem dX5_init_37 : decode cX5_init 37 = .ok (.bipush 40, 2) := by decide +kernel
theorem dX5_init_39 : decode cX5_init 39 = .ok (.newarray .int, 2) := by decide +kernel
theorem dX5_init_41 : decode cX5_init 41 = .ok (.putfield 24, 3) := by decide +kernel
theorem dX5_init_44 : decode cX5_init 44 = .ok (.aload_n 0, 1) := by decide +kernel
theorem dX5_init_45 : decode cX5_init 45 = .ok (.bipush 40, 2) := by decide +kernel
theorem dX5_init_47 : decode cX5_init 47 = .ok (.newarray .int, 2) := by decide +kernel
theorem dX5_init_49 : decode cX5_init 49 = .ok (.putfield 27, 3) := by decide +kernel
theorem dX5_init_52 : decode cX5_init 52 = .ok (.aload_n 0, 1) := by decide +kernel
theorem dX5_init_53 : decode cX5_init 53 = .ok (.bipush 40, 2) := by decide +kernel
theorem dX5_init_55 : decode cX5_init 55 = .ok (.newarray .int, 2) := by decide +kernel
theorem dX5_init_57 : decode cX5_init 57 = .ok (.putfield 30, 3) := by decide +kernel
theorem dX5_init_60 : decode cX5_init 60 = .ok (.aload_n 0, 1) := by decide +kernel
theorem dX5_init_61 : decode cX5_init 61 = .ok (.bipush 40, 2) := by decide +kernel
theorem dX5_init_63 : decode cX5_init 63 = .ok (.newarray .int, 2) := by decide +kernel
theorem dX5_init_65 : decode cX5_init 65 = .ok (.putfield 33, 3) := by decide +kernel
theorem dX5_init_68 : decode cX5_init 68 = .ok (.aload_n 0, 1) := by decide +kernel
theorem dX5_init_69 : decode cX5_init 69 = .ok (.bipush 40, 2) := by decide +kernel
theorem dX5_init_71 : decode cX5_init 71 = .ok (.newarray .int, 2) := by decide +kernel
theorem dX5_init_73 : decode cX5_init 73 = .ok (.putfield 36, 3) := by decide +kernel
theorem dX5_init_76 : decode cX5_init 76 = .ok (.aload_n 0, 1) := by decide +kernel
theorem dX5_init_77 : decode cX5_init 77 = .ok (.iconst 0, 1) := by decide +kernel
theorem dX5_init_78 : decode cX5_init 78 = .ok (.putfield 39, 3) := by decide +kernel
theorem dX5_init_81 : decode cX5_init 81 = .ok (.return_, 1) := by decide +kernel
theorem dX5_size_0 : decode cX5_size 0 = .ok (.aload_n 0, 1) := by decide +kernel
theorem dX5_size_1 : decode cX5_size 1 = .ok (.getfield 39, 3) := by decide +kernel
theorem dX5_size_4 : decode cX5_size 4 = .ok (.ireturn, 1) := by decide +kernel
theorem dX5_room_0 : decode cX5_room 0 = .ok (.bipush 40, 2) := by decide +kernel
theorem dX5_room_2 : decode cX5_room 2 = .ok (.aload_n 0, 1) := by decide +kernel
theorem dX5_room_3 : decode cX5_room 3 = .ok (.getfield 39, 3) := by decide +kernel
theorem dX5_room_6 : decode cX5_room 6 = .ok (.isub, 1) := by decide +kernel
theorem dX5_room_7 : decode cX5_room 7 = .ok (.ireturn, 1) := by decide +kernel
theorem dX5_has_0 : decode cX5_has 0 = .ok (.iload_n 1, 1) := by decide +kernel
theorem dX5_has_1 : decode cX5_has 1 = .ok (.ifCond .lt 15, 3) := by decide +kernel
theorem dX5_has_4 : decode cX5_has 4 = .ok (.iload_n 1, 1) := by decide +kernel
theorem dX5_has_5 : decode cX5_has 5 = .ok (.aload_n 0, 1) := by decide +kernel
theorem dX5_has_6 : decode cX5_has 6 = .ok (.getfield 39, 3) := by decide +kernel
theorem dX5_has_9 : decode cX5_has 9 = .ok (.if_icmp .ge 7, 3) := by decide +kernel
theorem dX5_has_12 : decode cX5_has 12 = .ok (.iconst 1, 1) := by decide +kernel
theorem dX5_has_13 : decode cX5_has 13 = .ok (.goto 4, 3) := by decide +kernel
theorem dX5_has_16 : decode cX5_has 16 = .ok (.iconst 0, 1) := by decide +kernel
theorem dX5_has_17 : decode cX5_has 17 = .ok (.ireturn, 1) := by decide +kernel
theorem dX5_add_0 : decode cX5_add 0 = .ok (.aload_n 0, 1) := by decide +kernel
theorem dX5_add_1 : decode cX5_add 1 = .ok (.invokevirtual 43, 3) := by decide +kernel
theorem dX5_add_4 : decode cX5_add 4 = .ok (.iconst 1, 1) := by decide +kernel
theorem dX5_add_5 : decode cX5_add 5 = .ok (.if_icmp .ge 5, 3) := by decide +kernel
theorem dX5_add_8 : decode cX5_add 8 = .ok (.iconst (-1), 1) := by decide +kernel
theorem dX5_add_9 : decode cX5_add 9 = .ok (.ireturn, 1) := by decide +kernel
theorem dX5_add_10 : decode cX5_add 10 = .ok (.aload_n 0, 1) := by decide +kernel
theorem dX5_add_11 : decode cX5_add 11 = .ok (.getfield 9, 3) := by decide +kernel
theorem dX5_add_14 : decode cX5_add 14 = .ok (.aload_n 0, 1) := by decide +kernel
theorem dX5_add_15 : decode cX5_add 15 = .ok (.getfield 39, 3) := by decide +kernel
theorem dX5_add_18 : decode cX5_add 18 = .ok (.iload_n 1, 1) := by decide +kernel
theorem dX5_add_19 : decode cX5_add 19 = .ok (.iastore, 1) := by decide +kernel
