theorem dX5_add_20 : decode cX5_add 20 = .ok (.aload_n 0, 1) := by decide +kernel
theorem dX5_add_21 : decode cX5_add 21 = .ok (.getfield 15, 3) := by decide +kernel
theorem dX5_add_24 : decode cX5_add 24 = .ok (.aload_n 0, 1) := by decide +kernel
theorem dX5_add_25 : decode cX5_add 25 = .ok (.getfield 39, 3) := by decide +kernel
theorem dX5_add_28 : decode cX5_add 28 = .ok (.iload_n 2, 1) := by decide +kernel
theorem dX5_add_29 : decode cX5_add 29 = .ok (.iastore, 1) := by decide +kernel
theorem dX5_add_30 : decode cX5_add 30 = .ok (.aload_n 0, 1) := by decide +kernel
theorem dX5_add_31 : decode cX5_add 31 = .ok (.getfield 18, 3) := by decide +kernel
theorem dX5_add_34 : decode cX5_add 34 = .ok (.aload_n 0, 1) := by decide +kernel
theorem dX5_add_35 : decode cX5_add 35 = .ok (.getfield 39, 3) := by decide +kernel
theorem dX5_add_38 : decode cX5_add 38 = .ok (.iload_n 3, 1) := by decide +kernel
theorem dX5_add_39 : decode cX5_add 39 = .ok (.iastore, 1) := by decide +kernel
theorem dX5_add_40 : decode cX5_add 40 = .ok (.aload_n 0, 1) := by decide +kernel
theorem dX5_add_41 : decode cX5_add 41 = .ok (.getfield 21, 3) := by decide +kernel
theorem dX5_add_44 : decode cX5_add 44 = .ok (.aload_n 0, 1) := by decide +kernel
theorem dX5_add_45 : decode cX5_add 45 = .ok (.getfield 39, 3) := by decide +kernel
theorem dX5_add_48 : decode cX5_add 48 = .ok (.sipush 2001, 3) := by decide +kernel
theorem dX5_add_51 : decode cX5_add 51 = .ok (.iastore, 1) := by decide +kernel
theorem dX5_add_52 : decode cX5_add 52 = .ok (.aload_n 0, 1) := by decide +kernel
theorem dX5_add_53 : decode cX5_add 53 = .ok (.getfield 24, 3) := by decide +kernel
theorem dX5_add_56 : decode cX5_add 56 = .ok (.aload_n 0, 1) := by decide +kernel
theorem dX5_add_57 : decode cX5_add 57 = .ok (.getfield 39, 3) := by decide +kernel
theorem dX5_add_60 : decode cX5_add 60 = .ok (.sipush 2001, 3) := by decide +kernel
theorem dX5_add_63 : decode cX5_add 63 = .ok (.iastore, 1) := by decide +kernel
theorem dX5_add_64 : decode cX5_add 64 = .ok (.aload_n 0, 1) := by decide +kernel
theorem dX5_add_65 : decode cX5_add 65 = .ok (.getfield 27, 3) := by decide +kernel
theorem dX5_add_68 : decode cX5_add 68 = .ok (.aload_n 0, 1) := by decide +kernel
theorem dX5_add_69 : decode cX5_add 69 = .ok (.getfield 39, 3) := by decide +kernel
theorem dX5_add_72 : decode cX5_add 72 = .ok (.iconst 0, 1) := by decide +kernel
theorem dX5_add_73 : decode cX5_add 73 = .ok (.iastore, 1) := by decide +kernel
theorem dX5_add_74 : decode cX5_add 74 = .ok (.aload_n 0, 1) := by decide +kernel
theorem dX5_add_75 : decode cX5_add 75 = .ok (.getfield 30, 3) := by decide +kernel
theorem dX5_add_78 : decode cX5_add 78 = .ok (.aload_n 0, 1) := by decide +kernel
theorem dX5_add_79 : decode cX5_add 79 = .ok (.getfield 39, 3) := by decide +kernel
theorem dX5_add_82 : decode cX5_add 82 = .ok (.iconst (-1), 1) := by decide +kernel
theorem dX5_add_83 : decode cX5_add 83 = .ok (.iastore, 1) := by decide +kernel
theorem dX5_add_84 : decode cX5_add 84 = .ok (.aload_n 0, 1) := by decide +kernel
theorem dX5_add_85 : decode cX5_add 85 = .ok (.getfield 33, 3) := by decide +kernel
theorem dX5_add_88 : decode cX5_add 88 = .ok (.aload_n 0, 1) := by decide +kernel
theorem dX5_add_89 : decode cX5_add 89 = .ok (.getfield 39, 3) := by decide +kernel
theorem dX5_add_92 : decode cX5_add 92 = .ok (.iconst 0, 1) := by decide +kernel
theorem dX5_add_93 : decode cX5_add 93 = .ok (.iastore, 1) := by decide +kernel
theorem dX5_add_94 : decode cX5_add 94 = .ok (.aload_n 0, 1) := by decide +kernel
theorem dX5_add_95 : decode cX5_add 95 = .ok (.getfield 36, 3) := by decide +kernel
theorem dX5_add_98 : decode cX5_add 98 = .ok (.aload_n 0, 1) := by decide +kernel
theorem dX5_add_99 : decode cX5_add 99 = .ok (.getfield 39, 3) := by decide +kernel
theorem dX5_add_102 : decode cX5_add 102 = .ok (.iconst 1, 1) := by decide +kernel
theorem dX5_add_103 : decode cX5_add 103 = .ok (.iastore, 1) := by decide +kernel
theorem dX5_add_104 : decode cX5_add 104 = .ok (.aload_n 0, 1) := by decide +kernel
theorem dX5_add_105 : decode cX5_add 105 = .ok (.dup, 1) := by decide +kernel
theorem dX5_add_106 : decode cX5_add 106 = .ok (.getfield 39, 3) := by decide +kernel
theorem dX5_add_109 : decode cX5_add 109 = .ok (.iconst 1, 1) := by decide +kernel
theorem dX5_add_110 : decode cX5_add 110 = .ok (.iadd, 1) := by decide +kernel
theorem dX5_add_111 : decode cX5_add 111 = .ok (.putfield 39, 3) := by decide +kernel
theorem dX5_add_114 : decode cX5_add 114 = .ok (.aload_n 0, 1) := by decide +kernel
theorem dX5_add_115 : decode cX5_add 115 = .ok (.getfield 39, 3) := by decide +kernel
theorem dX5_add_118 : decode cX5_add 118 = .ok (.iconst 1, 1) := by decide +kernel
theorem dX5_add_119 : decode cX5_add 119 = .ok (.isub, 1) := by decide +kernel
theorem dX5_add_120 : decode cX5_add 120 = .ok (.ireturn, 1) := by decide +kernel
theorem dX5_finish_0 : decode cX5_finish 0 = .ok (.aload_n 0, 1) := by decide +kernel
theorem dX5_finish_1 : decode cX5_finish 1 = .ok (.getfield 21, 3) := by decide +kernel
theorem dX5_finish_4 : decode cX5_finish 4 = .ok (.iload_n 1, 1) := by decide +kernel
theorem dX5_finish_5 : decode cX5_finish 5 = .ok (.iload_n 2, 1) := by decide +kernel
theorem dX5_finish_6 : decode cX5_finish 6 = .ok (.iastore, 1) := by decide +kernel
theorem dX5_finish_7 : decode cX5_finish 7 = .ok (.aload_n 0, 1) := by decide +kernel
theorem dX5_finish_8 : decode cX5_finish 8 = .ok (.getfield 24, 3) := by decide +kernel
theorem dX5_finish_11 : decode cX5_finish 11 = .ok (.iload_n 1, 1) := by decide +kernel
theorem dX5_finish_12 : decode cX5_finish 12 = .ok (.iload_n 3, 1) := by decide +kernel
theorem dX5_finish_13 : decode cX5_finish 13 = .ok (.iastore, 1) := by decide +kernel
theorem dX5_finish_14 : decode cX5_finish 14 = .ok (.aload_n 0, 1) := by decide +kernel
theorem dX5_finish_15 : decode cX5_finish 15 = .ok (.getfield 27, 3) := by decide +kernel
theorem dX5_finish_18 : decode cX5_finish 18 = .ok (.iload_n 1, 1) := by decide +kernel
theorem dX5_finish_19 : decode cX5_finish 19 = .ok (.iload 4, 2) := by decide +kernel
theorem dX5_finish_21 : decode cX5_finish 21 = .ok (.iastore, 1) := by decide +kernel
theorem dX5_finish_22 : decode cX5_finish 22 = .ok (.aload_n 0, 1) := by decide +kernel
theorem dX5_finish_23 : decode cX5_finish 23 = .ok (.getfield 30, 3) := by decide +kernel
theorem dX5_finish_26 : decode cX5_finish 26 = .ok (.iload_n 1, 1) := by decide +kernel
theorem dX5_finish_27 : decode cX5_finish 27 = .ok (.iload 5, 2) := by decide +kernel
theorem dX5_finish_29 : decode cX5_finish 29 = .ok (.iastore, 1) := by decide +kernel
theorem dX5_finish_30 : decode cX5_finish 30 = .ok (.return_, 1) := by decide +kernel
theorem dX5_setShare_0 : decode cX5_setShare 0 = .ok (.aload_n 0, 1) := by decide +kernel
theorem dX5_setShare_1 : decode cX5_setShare 1 = .ok (.getfield 33, 3) := by decide +kernel
theorem dX5_setShare_4 : decode cX5_setShare 4 = .ok (.iload_n 1, 1) := by decide +kernel
theorem dX5_setShare_5 : decode cX5_setShare 5 = .ok (.iload_n 2, 1) := by decide +kernel
theorem dX5_setShare_6 : decode cX5_setShare 6 = .ok (.iastore, 1) := by decide +kernel
theorem dX5_setShare_7 : decode cX5_setShare 7 = .ok (.aload_n 0, 1) := by decide +kernel
theorem dX5_setShare_8 : decode cX5_setShare 8 = .ok (.getfield 36, 3) := by decide +kernel
theorem dX5_setShare_11 : decode cX5_setShare 11 = .ok (.iload_n 1, 1) := by decide +kernel
theorem dX5_setShare_12 : decode cX5_setShare 12 = .ok (.iload_n 3, 1) := by decide +kernel
theorem dX5_setShare_13 : decode cX5_setShare 13 = .ok (.iastore, 1) := by decide +kernel
theorem dX5_setShare_14 : decode cX5_setShare 14 = .ok (.return_, 1) := by decide +kernel
theorem dX5_isTaken_0 : decode cX5_isTaken 0 = .ok (.iconst 0, 1) := by decide +kernel
theorem dX5_isTaken_1 : decode cX5_isTaken 1 = .ok (.istore 5, 2) := by decide +kernel
theorem dX5_isTaken_3 : decode cX5_isTaken 3 = .ok (.iload 5, 2) := by decide +kernel
theorem dX5_isTaken_5 : decode cX5_isTaken 5 = .ok (.aload_n 0, 1) := by decide +kernel
theorem dX5_isTaken_6 : decode cX5_isTaken 6 = .ok (.getfield 39, 3) := by decide +kernel
theorem dX5_isTaken_9 : decode cX5_isTaken 9 = .ok (.if_icmp .ge 46, 3) := by decide +kernel
theorem dX5_isTaken_12 : decode cX5_isTaken 12 = .ok (.iload 5, 2) := by decide +kernel
theorem dX5_isTaken_14 : decode cX5_isTaken 14 = .ok (.iload_n 3, 1) := by decide +kernel
theorem dX5_isTaken_15 : decode cX5_isTaken 15 = .ok (.if_icmp .eq 34, 3) := by decide +kernel
theorem dX5_isTaken_18 : decode cX5_isTaken 18 = .ok (.iload 5, 2) := by decide +kernel
theorem dX5_isTaken_20 : decode cX5_isTaken 20 = .ok (.iload 4, 2) := by decide +kernel
theorem dX5_isTaken_22 : decode cX5_isTaken 22 = .ok (.if_icmp .eq 27, 3) := by decide +kernel
theorem dX5_isTaken_25 : decode cX5_isTaken 25 = .ok (.aload_n 0, 1) := by decide +kernel
theorem dX5_isTaken_26 : decode cX5_isTaken 26 = .ok (.getfield 9, 3) := by decide +kernel
theorem dX5_isTaken_29 : decode cX5_isTaken 29 = .ok (.iload 5, 2) := by decide +kernel
theorem dX5_isTaken_31 : decode cX5_isTaken 31 = .ok (.iaload, 1) := by decide +kernel
theorem dX5_isTaken_32 : decode cX5_isTaken 32 = .ok (.iload_n 1, 1) := by decide +kernel
theorem dX5_isTaken_33 : decode cX5_isTaken 33 = .ok (.if_icmp .ne 16, 3) := by decide +kernel
theorem dX5_isTaken_36 : decode cX5_isTaken 36 = .ok (.aload_n 0, 1) := by decide +kernel
theorem dX5_isTaken_37 : decode cX5_isTaken 37 = .ok (.getfield 21, 3) := by decide +kernel
theorem dX5_isTaken_40 : decode cX5_isTaken 40 = .ok (.iload 5, 2) := by decide +kernel
theorem dX5_isTaken_42 : decode cX5_isTaken 42 = .ok (.iaload, 1) := by decide +kernel
theorem dX5_isTaken_43 : decode cX5_isTaken 43 = .ok (.iload_n 2, 1) := by decide +kernel
theorem dX5_isTaken_44 : decode cX5_isTaken 44 = .ok (.if_icmp .le 5, 3) := by decide +kernel
theorem dX5_isTaken_47 : decode cX5_isTaken 47 = .ok (.iconst 1, 1) := by decide +kernel
theorem dX5_isTaken_48 : decode cX5_isTaken 48 = .ok (.ireturn, 1) := by decide +kernel
theorem dX5_isTaken_49 : decode cX5_isTaken 49 = .ok (.iinc 5 1, 3) := by decide +kernel
theorem dX5_isTaken_52 : decode cX5_isTaken 52 = .ok (.goto (-49), 3) := by decide +kernel
theorem dX5_isTaken_55 : decode cX5_isTaken 55 = .ok (.iconst 0, 1) := by decide +kernel
theorem dX5_isTaken_56 : decode cX5_isTaken 56 = .ok (.ireturn, 1) := by decide +kernel
theorem dX5_hasEnd_0 : decode cX5_hasEnd 0 = .ok (.aload_n 0, 1) := by decide +kernel
theorem dX5_hasEnd_1 : decode cX5_hasEnd 1 = .ok (.getfield 21, 3) := by decide +kernel
theorem dX5_hasEnd_4 : decode cX5_hasEnd 4 = .ok (.iload_n 1, 1) := by decide +kernel
theorem dX5_hasEnd_5 : decode cX5_hasEnd 5 = .ok (.iaload, 1) := by decide +kernel
theorem dX5_hasEnd_6 : decode cX5_hasEnd 6 = .ok (.sipush 2001, 3) := by decide +kernel
theorem dX5_hasEnd_9 : decode cX5_hasEnd 9 = .ok (.if_icmp .eq 7, 3) := by decide +kernel
theorem dX5_hasEnd_12 : decode cX5_hasEnd 12 = .ok (.iconst 1, 1) := by decide +kernel
theorem dX5_hasEnd_13 : decode cX5_hasEnd 13 = .ok (.goto 4, 3) := by decide +kernel
theorem dX5_hasEnd_16 : decode cX5_hasEnd 16 = .ok (.iconst 0, 1) := by decide +kernel
theorem dX5_hasEnd_17 : decode cX5_hasEnd 17 = .ok (.ireturn, 1) := by decide +kernel
theorem dX5_isKnown_0 : decode cX5_isKnown 0 = .ok (.aload_n 0, 1) := by decide +kernel
theorem dX5_isKnown_1 : decode cX5_isKnown 1 = .ok (.iload_n 1, 1) := by decide +kernel
theorem dX5_isKnown_2 : decode cX5_isKnown 2 = .ok (.invokevirtual 47, 3) := by decide +kernel
theorem dX5_isKnown_5 : decode cX5_isKnown 5 = .ok (.ifCond .eq 17, 3) := by decide +kernel
theorem dX5_isKnown_8 : decode cX5_isKnown 8 = .ok (.aload_n 0, 1) := by decide +kernel
theorem dX5_isKnown_9 : decode cX5_isKnown 9 = .ok (.getfield 18, 3) := by decide +kernel
theorem dX5_isKnown_12 : decode cX5_isKnown 12 = .ok (.iload_n 1, 1) := by decide +kernel
theorem dX5_isKnown_13 : decode cX5_isKnown 13 = .ok (.iaload, 1) := by decide +kernel
theorem dX5_isKnown_14 : decode cX5_isKnown 14 = .ok (.iload_n 2, 1) := by decide +kernel
theorem dX5_isKnown_15 : decode cX5_isKnown 15 = .ok (.if_icmp .gt 7, 3) := by decide +kernel
theorem dX5_isKnown_18 : decode cX5_isKnown 18 = .ok (.iconst 1, 1) := by decide +kernel
theorem dX5_isKnown_19 : decode cX5_isKnown 19 = .ok (.goto 4, 3) := by decide +kernel
theorem dX5_isKnown_22 : decode cX5_isKnown 22 = .ok (.iconst 0, 1) := by decide +kernel
theorem dX5_isKnown_23 : decode cX5_isKnown 23 = .ok (.ireturn, 1) := by decide +kernel
theorem dX5_codeOf_0 : decode cX5_codeOf 0 = .ok (.aload_n 0, 1) := by decide +kernel
theorem dX5_codeOf_1 : decode cX5_codeOf 1 = .ok (.getfield 9, 3) := by decide +kernel
theorem dX5_codeOf_4 : decode cX5_codeOf 4 = .ok (.iload_n 1, 1) := by decide +kernel
theorem dX5_codeOf_5 : decode cX5_codeOf 5 = .ok (.iaload, 1) := by decide +kernel
theorem dX5_codeOf_6 : decode cX5_codeOf 6 = .ok (.ireturn, 1) := by decide +kernel
theorem dX5_birthOf_0 : decode cX5_birthOf 0 = .ok (.aload_n 0, 1) := by decide +kernel
theorem dX5_birthOf_1 : decode cX5_birthOf 1 = .ok (.getfield 15, 3) := by decide +kernel
theorem dX5_birthOf_4 : decode cX5_birthOf 4 = .ok (.iload_n 1, 1) := by decide +kernel
theorem dX5_birthOf_5 : decode cX5_birthOf 5 = .ok (.iaload, 1) := by decide +kernel
theorem dX5_birthOf_6 : decode cX5_birthOf 6 = .ok (.ireturn, 1) := by decide +kernel
theorem dX5_endOf_0 : decode cX5_endOf 0 = .ok (.aload_n 0, 1) := by decide +kernel
theorem dX5_endOf_1 : decode cX5_endOf 1 = .ok (.iload_n 1, 1) := by decide +kernel
theorem dX5_endOf_2 : decode cX5_endOf 2 = .ok (.iload_n 2, 1) := by decide +kernel
theorem dX5_endOf_3 : decode cX5_endOf 3 = .ok (.invokevirtual 51, 3) := by decide +kernel
theorem dX5_endOf_6 : decode cX5_endOf 6 = .ok (.ifCond .eq 12, 3) := by decide +kernel
theorem dX5_endOf_9 : decode cX5_endOf 9 = .ok (.aload_n 0, 1) := by decide +kernel
theorem dX5_endOf_10 : decode cX5_endOf 10 = .ok (.getfield 21, 3) := by decide +kernel
theorem dX5_endOf_13 : decode cX5_endOf 13 = .ok (.iload_n 1, 1) := by decide +kernel
theorem dX5_endOf_14 : decode cX5_endOf 14 = .ok (.iaload, 1) := by decide +kernel
theorem dX5_endOf_15 : decode cX5_endOf 15 = .ok (.goto 6, 3) := by decide +kernel
theorem dX5_endOf_18 : decode cX5_endOf 18 = .ok (.sipush 2001, 3) := by decide +kernel
theorem dX5_endOf_21 : decode cX5_endOf 21 = .ok (.ireturn, 1) := by decide +kernel
theorem dX5_endingOf_0 : decode cX5_endingOf 0 = .ok (.aload_n 0, 1) := by decide +kernel
theorem dX5_endingOf_1 : decode cX5_endingOf 1 = .ok (.iload_n 1, 1) := by decide +kernel
theorem dX5_endingOf_2 : decode cX5_endingOf 2 = .ok (.iload_n 2, 1) := by decide +kernel
theorem dX5_endingOf_3 : decode cX5_endingOf 3 = .ok (.invokevirtual 51, 3) := by decide +kernel
theorem dX5_endingOf_6 : decode cX5_endingOf 6 = .ok (.ifCond .eq 12, 3) := by decide +kernel
theorem dX5_endingOf_9 : decode cX5_endingOf 9 = .ok (.aload_n 0, 1) := by decide +kernel
theorem dX5_endingOf_10 : decode cX5_endingOf 10 = .ok (.getfield 27, 3) := by decide +kernel
theorem dX5_endingOf_13 : decode cX5_endingOf 13 = .ok (.iload_n 1, 1) := by decide +kernel
theorem dX5_endingOf_14 : decode cX5_endingOf 14 = .ok (.iaload, 1) := by decide +kernel
theorem dX5_endingOf_15 : decode cX5_endingOf 15 = .ok (.goto 4, 3) := by decide +kernel
theorem dX5_endingOf_18 : decode cX5_endingOf 18 = .ok (.iconst 0, 1) := by decide +kernel
theorem dX5_endingOf_19 : decode cX5_endingOf 19 = .ok (.ireturn, 1) := by decide +kernel
theorem dX5_heirOf_0 : decode cX5_heirOf 0 = .ok (.aload_n 0, 1) := by decide +kernel
theorem dX5_heirOf_1 : decode cX5_heirOf 1 = .ok (.iload_n 1, 1) := by decide +kernel
theorem dX5_heirOf_2 : decode cX5_heirOf 2 = .ok (.iload_n 2, 1) := by decide +kernel
theorem dX5_heirOf_3 : decode cX5_heirOf 3 = .ok (.invokevirtual 51, 3) := by decide +kernel
theorem dX5_heirOf_6 : decode cX5_heirOf 6 = .ok (.ifCond .eq 12, 3) := by decide +kernel
theorem dX5_heirOf_9 : decode cX5_heirOf 9 = .ok (.aload_n 0, 1) := by decide +kernel
theorem dX5_heirOf_10 : decode cX5_heirOf 10 = .ok (.getfield 30, 3) := by decide +kernel
theorem dX5_heirOf_13 : decode cX5_heirOf 13 = .ok (.iload_n 1, 1) := by decide +kernel
theorem dX5_heirOf_14 : decode cX5_heirOf 14 = .ok (.iaload, 1) := by decide +kernel
theorem dX5_heirOf_15 : decode cX5_heirOf 15 = .ok (.goto 4, 3) := by decide +kernel
theorem dX5_heirOf_18 : decode cX5_heirOf 18 = .ok (.iconst (-1), 1) := by decide +kernel
theorem dX5_heirOf_19 : decode cX5_heirOf 19 = .ok (.ireturn, 1) := by decide +kernel
theorem dX5_livesOn_0 : decode cX5_livesOn 0 = .ok (.aload_n 0, 1) := by decide +kernel
theorem dX5_livesOn_1 : decode cX5_livesOn 1 = .ok (.iload_n 1, 1) := by decide +kernel
theorem dX5_livesOn_2 : decode cX5_livesOn 2 = .ok (.iload_n 3, 1) := by decide +kernel
theorem dX5_livesOn_3 : decode cX5_livesOn 3 = .ok (.invokevirtual 55, 3) := by decide +kernel
theorem dX5_livesOn_6 : decode cX5_livesOn 6 = .ok (.ifCond .eq 27, 3) := by decide +kernel
theorem dX5_livesOn_9 : decode cX5_livesOn 9 = .ok (.aload_n 0, 1) := by decide +kernel
theorem dX5_livesOn_10 : decode cX5_livesOn 10 = .ok (.getfield 15, 3) := by decide +kernel
theorem dX5_livesOn_13 : decode cX5_livesOn 13 = .ok (.iload_n 1, 1) := by decide +kernel
theorem dX5_livesOn_14 : decode cX5_livesOn 14 = .ok (.iaload, 1) := by decide +kernel
theorem dX5_livesOn_15 : decode cX5_livesOn 15 = .ok (.iload_n 2, 1) := by decide +kernel
theorem dX5_livesOn_16 : decode cX5_livesOn 16 = .ok (.if_icmp .gt 17, 3) := by decide +kernel
theorem dX5_livesOn_19 : decode cX5_livesOn 19 = .ok (.iload_n 2, 1) := by decide +kernel
theorem dX5_livesOn_20 : decode cX5_livesOn 20 = .ok (.aload_n 0, 1) := by decide +kernel
theorem dX5_livesOn_21 : decode cX5_livesOn 21 = .ok (.iload_n 1, 1) := by decide +kernel
theorem dX5_livesOn_22 : decode cX5_livesOn 22 = .ok (.iload_n 3, 1) := by decide +kernel
theorem dX5_livesOn_23 : decode cX5_livesOn 23 = .ok (.invokevirtual 58, 3) := by decide +kernel
theorem dX5_livesOn_26 : decode cX5_livesOn 26 = .ok (.if_icmp .ge 7, 3) := by decide +kernel
theorem dX5_livesOn_29 : decode cX5_livesOn 29 = .ok (.iconst 1, 1) := by decide +kernel
theorem dX5_livesOn_30 : decode cX5_livesOn 30 = .ok (.goto 4, 3) := by decide +kernel
theorem dX5_livesOn_33 : decode cX5_livesOn 33 = .ok (.iconst 0, 1) := by decide +kernel
theorem dX5_livesOn_34 : decode cX5_livesOn 34 = .ok (.ireturn, 1) := by decide +kernel
theorem dX5_livingOn_0 : decode cX5_livingOn 0 = .ok (.iconst 0, 1) := by decide +kernel
theorem dX5_livingOn_1 : decode cX5_livingOn 1 = .ok (.istore 4, 2) := by decide +kernel
theorem dX5_livingOn_3 : decode cX5_livingOn 3 = .ok (.iload 4, 2) := by decide +kernel
theorem dX5_livingOn_5 : decode cX5_livingOn 5 = .ok (.aload_n 0, 1) := by decide +kernel
theorem dX5_livingOn_6 : decode cX5_livingOn 6 = .ok (.getfield 39, 3) := by decide +kernel
theorem dX5_livingOn_9 : decode cX5_livingOn 9 = .ok (.if_icmp .ge 34, 3) := by decide +kernel
theorem dX5_livingOn_12 : decode cX5_livingOn 12 = .ok (.aload_n 0, 1) := by decide +kernel
theorem dX5_livingOn_13 : decode cX5_livingOn 13 = .ok (.getfield 9, 3) := by decide +kernel
theorem dX5_livingOn_16 : decode cX5_livingOn 16 = .ok (.iload 4, 2) := by decide +kernel
theorem dX5_livingOn_18 : decode cX5_livingOn 18 = .ok (.iaload, 1) := by decide +kernel
theorem dX5_livingOn_19 : decode cX5_livingOn 19 = .ok (.iload_n 1, 1) := by decide +kernel
theorem dX5_livingOn_20 : decode cX5_livingOn 20 = .ok (.if_icmp .ne 17, 3) := by decide +kernel
theorem dX5_livingOn_23 : decode cX5_livingOn 23 = .ok (.aload_n 0, 1) := by decide +kernel
theorem dX5_livingOn_24 : decode cX5_livingOn 24 = .ok (.iload 4, 2) := by decide +kernel
theorem dX5_livingOn_26 : decode cX5_livingOn 26 = .ok (.iload_n 2, 1) := by decide +kernel
theorem dX5_livingOn_27 : decode cX5_livingOn 27 = .ok (.iload_n 3, 1) := by decide +kernel
theorem dX5_livingOn_28 : decode cX5_livingOn 28 = .ok (.invokevirtual 62, 3) := by decide +kernel
theorem dX5_livingOn_31 : decode cX5_livingOn 31 = .ok (.ifCond .eq 6, 3) := by decide +kernel
theorem dX5_livingOn_34 : decode cX5_livingOn 34 = .ok (.iload 4, 2) := by decide +kernel
theorem dX5_livingOn_36 : decode cX5_livingOn 36 = .ok (.ireturn, 1) := by decide +kernel
theorem dX5_livingOn_37 : decode cX5_livingOn 37 = .ok (.iinc 4 1, 3) := by decide +kernel
theorem dX5_livingOn_40 : decode cX5_livingOn 40 = .ok (.goto (-37), 3) := by decide +kernel
theorem dX5_livingOn_43 : decode cX5_livingOn 43 = .ok (.iconst (-1), 1) := by decide +kernel
theorem dX5_livingOn_44 : decode cX5_livingOn 44 = .ok (.ireturn, 1) := by decide +kernel
theorem dX5_firstShareOf_0 : decode cX5_firstShareOf 0 = .ok (.aload_n 0, 1) := by decide +kernel
theorem dX5_firstShareOf_1 : decode cX5_firstShareOf 1 = .ok (.getfield 36, 3) := by decide +kernel
theorem dX5_firstShareOf_4 : decode cX5_firstShareOf 4 = .ok (.iload_n 1, 1) := by decide +kernel
theorem dX5_firstShareOf_5 : decode cX5_firstShareOf 5 = .ok (.iaload, 1) := by decide +kernel
theorem dX5_firstShareOf_6 : decode cX5_firstShareOf 6 = .ok (.istore_n 3, 1) := by decide +kernel
theorem dX5_firstShareOf_7 : decode cX5_firstShareOf 7 = .ok (.iload_n 3, 1) := by decide +kernel
theorem dX5_firstShareOf_8 : decode cX5_firstShareOf 8 = .ok (.iconst 1, 1) := by decide +kernel
theorem dX5_firstShareOf_9 : decode cX5_firstShareOf 9 = .ok (.if_icmp .ge 7, 3) := by decide +kernel
theorem dX5_firstShareOf_12 : decode cX5_firstShareOf 12 = .ok (.iconst 0, 1) := by decide +kernel
theorem dX5_firstShareOf_13 : decode cX5_firstShareOf 13 = .ok (.goto 13, 3) := by decide +kernel
theorem dX5_firstShareOf_16 : decode cX5_firstShareOf 16 = .ok (.iload_n 2, 1) := by decide +kernel
theorem dX5_firstShareOf_17 : decode cX5_firstShareOf 17 = .ok (.aload_n 0, 1) := by decide +kernel
theorem dX5_firstShareOf_18 : decode cX5_firstShareOf 18 = .ok (.getfield 33, 3) := by decide +kernel
theorem dX5_firstShareOf_21 : decode cX5_firstShareOf 21 = .ok (.iload_n 1, 1) := by decide +kernel
theorem dX5_firstShareOf_22 : decode cX5_firstShareOf 22 = .ok (.iaload, 1) := by decide +kernel
theorem dX5_firstShareOf_23 : decode cX5_firstShareOf 23 = .ok (.imul, 1) := by decide +kernel
theorem dX5_firstShareOf_24 : decode cX5_firstShareOf 24 = .ok (.iload_n 3, 1) := by decide +kernel
theorem dX5_firstShareOf_25 : decode cX5_firstShareOf 25 = .ok (.idiv, 1) := by decide +kernel
theorem dX5_firstShareOf_26 : decode cX5_firstShareOf 26 = .ok (.ireturn, 1) := by decide +kernel
theorem dX5_isEndKnown_0 : decode cX5_isEndKnown 0 = .ok (.aload_n 0, 1) := by decide +kernel
theorem dX5_isEndKnown_1 : decode cX5_isEndKnown 1 = .ok (.getfield 24, 3) := by decide +kernel
theorem dX5_isEndKnown_4 : decode cX5_isEndKnown 4 = .ok (.iload_n 1, 1) := by decide +kernel
theorem dX5_isEndKnown_5 : decode cX5_isEndKnown 5 = .ok (.iaload, 1) := by decide +kernel
theorem dX5_isEndKnown_6 : decode cX5_isEndKnown 6 = .ok (.iload_n 2, 1) := by decide +kernel
theorem dX5_isEndKnown_7 : decode cX5_isEndKnown 7 = .ok (.if_icmp .gt 7, 3) := by decide +kernel
theorem dX5_isEndKnown_10 : decode cX5_isEndKnown 10 = .ok (.iconst 1, 1) := by decide +kernel
theorem dX5_isEndKnown_11 : decode cX5_isEndKnown 11 = .ok (.goto 4, 3) := by decide +kernel
theorem dX5_isEndKnown_14 : decode cX5_isEndKnown 14 = .ok (.iconst 0, 1) := by decide +kernel
theorem dX5_isEndKnown_15 : decode cX5_isEndKnown 15 = .ok (.ireturn, 1) := by decide +kernel
theorem dX6_init_0 : decode cX6_init 0 = .ok (.aload_n 0, 1) := by decide +kernel
theorem dX6_init_1 : decode cX6_init 1 = .ok (.invokespecial 3, 3) := by decide +kernel
theorem dX6_init_4 : decode cX6_init 4 = .ok (.aload_n 0, 1) := by decide +kernel
theorem dX6_init_5 : decode cX6_init 5 = .ok (.new 9, 3) := by decide +kernel
theorem dX6_init_8 : decode cX6_init 8 = .ok (.dup, 1) := by decide +kernel
theorem dX6_init_9 : decode cX6_init 9 = .ok (.invokespecial 11, 3) := by decide +kernel
theorem dX6_init_12 : decode cX6_init 12 = .ok (.putfield 12, 3) := by decide +kernel
theorem dX6_init_15 : decode cX6_init 15 = .ok (.aload_n 0, 1) := by decide +kernel
theorem dX6_init_16 : decode cX6_init 16 = .ok (.new 16, 3) := by decide +kernel
theorem dX6_init_19 : decode cX6_init 19 = .ok (.dup, 1) := by decide +kernel
theorem dX6_init_20 : decode cX6_init 20 = .ok (.invokespecial 18, 3) := by decide +kernel
theorem dX6_init_23 : decode cX6_init 23 = .ok (.putfield 19, 3) := by decide +kernel
theorem dX6_init_26 : decode cX6_init 26 = .ok (.aload_n 0, 1) := by decide +kernel
theorem dX6_init_27 : decode cX6_init 27 = .ok (.new 23, 3) := by decide +kernel
theorem dX6_init_30 : decode cX6_init 30 = .ok (.dup, 1) := by decide +kernel
theorem dX6_init_31 : decode cX6_init 31 = .ok (.aload_n 0, 1) := by decide +kernel
theorem dX6_init_32 : decode cX6_init 32 = .ok (.getfield 12, 3) := by decide +kernel
theorem dX6_init_35 : decode cX6_init 35 = .ok (.invokespecial 25, 3) := by decide +kernel
theorem dX6_init_38 : decode cX6_init 38 = .ok (.putfield 28, 3) := by decide +kernel
theorem dX6_init_41 : decode cX6_init 41 = .ok (.aload_n 0, 1) := by decide +kernel
theorem dX6_init_42 : decode cX6_init 42 = .ok (.new 32, 3) := by decide +kernel
theorem dX6_init_45 : decode cX6_init 45 = .ok (.dup, 1) := by decide +kernel
theorem dX6_init_46 : decode cX6_init 46 = .ok (.aload_n 0, 1) := by decide +kernel
theorem dX6_init_47 : decode cX6_init 47 = .ok (.getfield 12, 3) := by decide +kernel
theorem dX6_init_50 : decode cX6_init 50 = .ok (.invokespecial 34, 3) := by decide +kernel
theorem dX6_init_53 : decode cX6_init 53 = .ok (.putfield 35, 3) := by decide +kernel
theorem dX6_init_56 : decode cX6_init 56 = .ok (.aload_n 0, 1) := by decide +kernel
theorem dX6_init_57 : decode cX6_init 57 = .ok (.new 39, 3) := by decide +kernel
theorem dX6_init_60 : decode cX6_init 60 = .ok (.dup, 1) := by decide +kernel
theorem dX6_init_61 : decode cX6_init 61 = .ok (.aload_n 0, 1) := by decide +kernel
theorem dX6_init_62 : decode cX6_init 62 = .ok (.getfield 19, 3) := by decide +kernel
theorem dX6_init_65 : decode cX6_init 65 = .ok (.invokespecial 41, 3) := by decide +kernel
theorem dX6_init_68 : decode cX6_init 68 = .ok (.putfield 44, 3) := by decide +kernel
theorem dX6_init_71 : decode cX6_init 71 = .ok (.aload_n 0, 1) := by decide +kernel
theorem dX6_init_72 : decode cX6_init 72 = .ok (.iconst 0, 1) := by decide +kernel
theorem dX6_init_73 : decode cX6_init 73 = .ok (.putfield 48, 3) := by decide +kernel
theorem dX6_init_76 : decode cX6_init 76 = .ok (.return_, 1) := by decide +kernel
theorem dX6_day_0 : decode cX6_day 0 = .ok (.iload_n 1, 1) := by decide +kernel
theorem dX6_day_1 : decode cX6_day 1 = .ok (.aload_n 0, 1) := by decide +kernel
theorem dX6_day_2 : decode cX6_day 2 = .ok (.getfield 48, 3) := by decide +kernel
theorem dX6_day_5 : decode cX6_day 5 = .ok (.if_icmp .le 10, 3) := by decide +kernel
theorem dX6_day_8 : decode cX6_day 8 = .ok (.iload_n 1, 1) := by decide +kernel
theorem dX6_day_9 : decode cX6_day 9 = .ok (.sipush 2000, 3) := by decide +kernel
theorem dX6_day_12 : decode cX6_day 12 = .ok (.if_icmp .le 5, 3) := by decide +kernel
theorem dX6_day_15 : decode cX6_day 15 = .ok (.iconst 0, 1) := by decide +kernel
theorem dX6_day_16 : decode cX6_day 16 = .ok (.ireturn, 1) := by decide +kernel
theorem dX6_day_17 : decode cX6_day 17 = .ok (.aload_n 0, 1) := by decide +kernel
theorem dX6_day_18 : decode cX6_day 18 = .ok (.iload_n 1, 1) := by decide +kernel
theorem dX6_day_19 : decode cX6_day 19 = .ok (.putfield 48, 3) := by decide +kernel
theorem dX6_day_22 : decode cX6_day 22 = .ok (.iconst 1, 1) := by decide +kernel
theorem dX6_day_23 : decode cX6_day 23 = .ok (.ireturn, 1) := by decide +kernel
theorem dX6_born_0 : decode cX6_born 0 = .ok (.iload_n 1, 1) := by decide +kernel
theorem dX6_born_1 : decode cX6_born 1 = .ok (.invokestatic 52, 3) := by decide +kernel
theorem dX6_born_4 : decode cX6_born 4 = .ok (.ifCond .eq 10, 3) := by decide +kernel
theorem dX6_born_7 : decode cX6_born 7 = .ok (.iload_n 2, 1) := by decide +kernel
theorem dX6_born_8 : decode cX6_born 8 = .ok (.invokestatic 56, 3) := by decide +kernel
theorem dX6_born_11 : decode cX6_born 11 = .ok (.ifCond .ne 6, 3) := by decide +kernel
theorem dX6_born_14 : decode cX6_born 14 = .ok (.bipush (-2), 2) := by decide +kernel
theorem dX6_born_16 : decode cX6_born 16 = .ok (.ireturn, 1) := by decide +kernel
theorem dX6_born_17 : decode cX6_born 17 = .ok (.aload_n 0, 1) := by decide +kernel
theorem dX6_born_18 : decode cX6_born 18 = .ok (.getfield 19, 3) := by decide +kernel
theorem dX6_born_21 : decode cX6_born 21 = .ok (.iload_n 1, 1) := by decide +kernel
theorem dX6_born_22 : decode cX6_born 22 = .ok (.iload_n 2, 1) := by decide +kernel
theorem dX6_born_23 : decode cX6_born 23 = .ok (.iconst (-1), 1) := by decide +kernel
theorem dX6_born_24 : decode cX6_born 24 = .ok (.iconst (-1), 1) := by decide +kernel
theorem dX6_born_25 : decode cX6_born 25 = .ok (.invokevirtual 59, 3) := by decide +kernel
theorem dX6_born_28 : decode cX6_born 28 = .ok (.ifCond .eq 6, 3) := by decide +kernel
theorem dX6_born_31 : decode cX6_born 31 = .ok (.bipush (-3), 2) := by decide +kernel
theorem dX6_born_33 : decode cX6_born 33 = .ok (.ireturn, 1) := by decide +kernel
theorem dX6_born_34 : decode cX6_born 34 = .ok (.aload_n 0, 1) := by decide +kernel
theorem dX6_born_35 : decode cX6_born 35 = .ok (.getfield 19, 3) := by decide +kernel
theorem dX6_born_38 : decode cX6_born 38 = .ok (.invokevirtual 63, 3) := by decide +kernel
theorem dX6_born_41 : decode cX6_born 41 = .ok (.iconst 1, 1) := by decide +kernel
theorem dX6_born_42 : decode cX6_born 42 = .ok (.if_icmp .ge 6, 3) := by decide +kernel
theorem dX6_born_45 : decode cX6_born 45 = .ok (.bipush (-4), 2) := by decide +kernel
theorem dX6_born_47 : decode cX6_born 47 = .ok (.ireturn, 1) := by decide +kernel
theorem dX6_born_48 : decode cX6_born 48 = .ok (.aload_n 0, 1) := by decide +kernel
theorem dX6_born_49 : decode cX6_born 49 = .ok (.getfield 19, 3) := by decide +kernel
theorem dX6_born_52 : decode cX6_born 52 = .ok (.iload_n 1, 1) := by decide +kernel
theorem dX6_born_53 : decode cX6_born 53 = .ok (.iload_n 2, 1) := by decide +kernel
theorem dX6_born_54 : decode cX6_born 54 = .ok (.aload_n 0, 1) := by decide +kernel
theorem dX6_born_55 : decode cX6_born 55 = .ok (.getfield 48, 3) := by decide +kernel
theorem dX6_born_58 : decode cX6_born 58 = .ok (.invokevirtual 67, 3) := by decide +kernel
theorem dX6_born_61 : decode cX6_born 61 = .ok (.ireturn, 1) := by decide +kernel
theorem dX6_ends_0 : decode cX6_ends 0 = .ok (.aload_n 0, 1) := by decide +kernel
theorem dX6_ends_1 : decode cX6_ends 1 = .ok (.iload_n 1, 1) := by decide +kernel
theorem dX6_ends_2 : decode cX6_ends 2 = .ok (.iload_n 2, 1) := by decide +kernel
theorem dX6_ends_3 : decode cX6_ends 3 = .ok (.invokevirtual 71, 3) := by decide +kernel
theorem dX6_ends_6 : decode cX6_ends 6 = .ok (.ifCond .ne 5, 3) := by decide +kernel
theorem dX6_ends_9 : decode cX6_ends 9 = .ok (.iconst 0, 1) := by decide +kernel
theorem dX6_ends_10 : decode cX6_ends 10 = .ok (.ireturn, 1) := by decide +kernel
theorem dX6_ends_11 : decode cX6_ends 11 = .ok (.aload_n 0, 1) := by decide +kernel
theorem dX6_ends_12 : decode cX6_ends 12 = .ok (.getfield 19, 3) := by decide +kernel
theorem dX6_ends_15 : decode cX6_ends 15 = .ok (.iload_n 1, 1) := by decide +kernel
theorem dX6_ends_16 : decode cX6_ends 16 = .ok (.iload_n 2, 1) := by decide +kernel
theorem dX6_ends_17 : decode cX6_ends 17 = .ok (.aload_n 0, 1) := by decide +kernel
theorem dX6_ends_18 : decode cX6_ends 18 = .ok (.getfield 48, 3) := by decide +kernel
theorem dX6_ends_21 : decode cX6_ends 21 = .ok (.iconst 1, 1) := by decide +kernel
theorem dX6_ends_22 : decode cX6_ends 22 = .ok (.iconst (-1), 1) := by decide +kernel
theorem dX6_ends_23 : decode cX6_ends 23 = .ok (.invokevirtual 75, 3) := by decide +kernel
theorem dX6_ends_26 : decode cX6_ends 26 = .ok (.iconst 1, 1) := by decide +kernel
theorem dX6_ends_27 : decode cX6_ends 27 = .ok (.ireturn, 1) := by decide +kernel
theorem dX6_split_0 : decode cX6_split 0 = .ok (.aload_n 0, 1) := by decide +kernel
theorem dX6_split_1 : decode cX6_split 1 = .ok (.iload_n 1, 1) := by decide +kernel
theorem dX6_split_2 : decode cX6_split 2 = .ok (.iload_n 2, 1) := by decide +kernel
theorem dX6_split_3 : decode cX6_split 3 = .ok (.invokevirtual 71, 3) := by decide +kernel
theorem dX6_split_6 : decode cX6_split 6 = .ok (.ifCond .eq 34, 3) := by decide +kernel
theorem dX6_split_9 : decode cX6_split 9 = .ok (.iload_n 3, 1) := by decide +kernel
theorem dX6_split_10 : decode cX6_split 10 = .ok (.invokestatic 52, 3) := by decide +kernel
theorem dX6_split_13 : decode cX6_split 13 = .ok (.ifCond .eq 27, 3) := by decide +kernel
theorem dX6_split_16 : decode cX6_split 16 = .ok (.iload 4, 2) := by decide +kernel
theorem dX6_split_18 : decode cX6_split 18 = .ok (.invokestatic 52, 3) := by decide +kernel
theorem dX6_split_21 : decode cX6_split 21 = .ok (.ifCond .eq 19, 3) := by decide +kernel
theorem dX6_split_24 : decode cX6_split 24 = .ok (.iload_n 3, 1) := by decide +kernel
theorem dX6_split_25 : decode cX6_split 25 = .ok (.iload 4, 2) := by decide +kernel
theorem dX6_split_27 : decode cX6_split 27 = .ok (.if_icmp .eq 13, 3) := by decide +kernel
theorem dX6_split_30 : decode cX6_split 30 = .ok (.iload 5, 2) := by decide +kernel
theorem dX6_split_32 : decode cX6_split 32 = .ok (.iload 6, 2) := by decide +kernel
theorem dX6_split_34 : decode cX6_split 34 = .ok (.invokestatic 79, 3) := by decide +kernel
theorem dX6_split_37 : decode cX6_split 37 = .ok (.ifCond .ne 6, 3) := by decide +kernel
theorem dX6_split_40 : decode cX6_split 40 = .ok (.bipush (-2), 2) := by decide +kernel
theorem dX6_split_42 : decode cX6_split 42 = .ok (.ireturn, 1) := by decide +kernel
theorem dX6_split_43 : decode cX6_split 43 = .ok (.aload_n 0, 1) := by decide +kernel
theorem dX6_split_44 : decode cX6_split 44 = .ok (.getfield 19, 3) := by decide +kernel
theorem dX6_split_47 : decode cX6_split 47 = .ok (.iload_n 3, 1) := by decide +kernel
theorem dX6_split_48 : decode cX6_split 48 = .ok (.iload_n 2, 1) := by decide +kernel
theorem dX6_split_49 : decode cX6_split 49 = .ok (.iload_n 1, 1) := by decide +kernel
theorem dX6_split_50 : decode cX6_split 50 = .ok (.iconst (-1), 1) := by decide +kernel
theorem dX6_split_51 : decode cX6_split 51 = .ok (.invokevirtual 59, 3) := by decide +kernel
theorem dX6_split_54 : decode cX6_split 54 = .ok (.ifCond .ne 18, 3) := by decide +kernel
theorem dX6_split_57 : decode cX6_split 57 = .ok (.aload_n 0, 1) := by decide +kernel
theorem dX6_split_58 : decode cX6_split 58 = .ok (.getfield 19, 3) := by decide +kernel
theorem dX6_split_61 : decode cX6_split 61 = .ok (.iload 4, 2) := by decide +kernel
theorem dX6_split_63 : decode cX6_split 63 = .ok (.iload_n 2, 1) := by decide +kernel
theorem dX6_split_64 : decode cX6_split 64 = .ok (.iload_n 1, 1) := by decide +kernel
theorem dX6_split_65 : decode cX6_split 65 = .ok (.iconst (-1), 1) := by decide +kernel
theorem dX6_split_66 : decode cX6_split 66 = .ok (.invokevirtual 59, 3) := by decide +kernel
theorem dX6_split_69 : decode cX6_split 69 = .ok (.ifCond .eq 6, 3) := by decide +kernel
theorem dX6_split_72 : decode cX6_split 72 = .ok (.bipush (-3), 2) := by decide +kernel
theorem dX6_split_74 : decode cX6_split 74 = .ok (.ireturn, 1) := by decide +kernel
theorem dX6_split_75 : decode cX6_split 75 = .ok (.aload_n 0, 1) := by decide +kernel
theorem dX6_split_76 : decode cX6_split 76 = .ok (.getfield 19, 3) := by decide +kernel
theorem dX6_split_79 : decode cX6_split 79 = .ok (.invokevirtual 63, 3) := by decide +kernel
theorem dX6_split_82 : decode cX6_split 82 = .ok (.iconst 2, 1) := by decide +kernel
theorem dX6_split_83 : decode cX6_split 83 = .ok (.if_icmp .ge 6, 3) := by decide +kernel
theorem dX6_split_86 : decode cX6_split 86 = .ok (.bipush (-4), 2) := by decide +kernel
theorem dX6_split_88 : decode cX6_split 88 = .ok (.ireturn, 1) := by decide +kernel
theorem dX6_split_89 : decode cX6_split 89 = .ok (.aload_n 0, 1) := by decide +kernel
theorem dX6_split_90 : decode cX6_split 90 = .ok (.getfield 19, 3) := by decide +kernel
theorem dX6_split_93 : decode cX6_split 93 = .ok (.iload_n 3, 1) := by decide +kernel
theorem dX6_split_94 : decode cX6_split 94 = .ok (.iload_n 2, 1) := by decide +kernel
theorem dX6_split_95 : decode cX6_split 95 = .ok (.aload_n 0, 1) := by decide +kernel
theorem dX6_split_96 : decode cX6_split 96 = .ok (.getfield 48, 3) := by decide +kernel
theorem dX6_split_99 : decode cX6_split 99 = .ok (.invokevirtual 67, 3) := by decide +kernel
theorem dX6_split_102 : decode cX6_split 102 = .ok (.istore 7, 2) := by decide +kernel
theorem dX6_split_104 : decode cX6_split 104 = .ok (.aload_n 0, 1) := by decide +kernel
theorem dX6_split_105 : decode cX6_split 105 = .ok (.getfield 19, 3) := by decide +kernel
theorem dX6_split_108 : decode cX6_split 108 = .ok (.iload 4, 2) := by decide +kernel
theorem dX6_split_110 : decode cX6_split 110 = .ok (.iload_n 2, 1) := by decide +kernel
theorem dX6_split_111 : decode cX6_split 111 = .ok (.aload_n 0, 1) := by decide +kernel
theorem dX6_split_112 : decode cX6_split 112 = .ok (.getfield 48, 3) := by decide +kernel
theorem dX6_split_115 : decode cX6_split 115 = .ok (.invokevirtual 67, 3) := by decide +kernel
theorem dX6_split_118 : decode cX6_split 118 = .ok (.pop, 1) := by decide +kernel
theorem dX6_split_119 : decode cX6_split 119 = .ok (.aload_n 0, 1) := by decide +kernel
theorem dX6_split_120 : decode cX6_split 120 = .ok (.getfield 19, 3) := by decide +kernel
theorem dX6_split_123 : decode cX6_split 123 = .ok (.iload_n 1, 1) := by decide +kernel
theorem dX6_split_124 : decode cX6_split 124 = .ok (.iload_n 2, 1) := by decide +kernel
theorem dX6_split_125 : decode cX6_split 125 = .ok (.aload_n 0, 1) := by decide +kernel
theorem dX6_split_126 : decode cX6_split 126 = .ok (.getfield 48, 3) := by decide +kernel
theorem dX6_split_129 : decode cX6_split 129 = .ok (.iconst 2, 1) := by decide +kernel
theorem dX6_split_130 : decode cX6_split 130 = .ok (.iload 7, 2) := by decide +kernel
theorem dX6_split_132 : decode cX6_split 132 = .ok (.invokevirtual 75, 3) := by decide +kernel
theorem dX6_split_135 : decode cX6_split 135 = .ok (.aload_n 0, 1) := by decide +kernel
theorem dX6_split_136 : decode cX6_split 136 = .ok (.getfield 19, 3) := by decide +kernel
theorem dX6_split_139 : decode cX6_split 139 = .ok (.iload_n 1, 1) := by decide +kernel
theorem dX6_split_140 : decode cX6_split 140 = .ok (.iload 5, 2) := by decide +kernel
theorem dX6_split_142 : decode cX6_split 142 = .ok (.iload 6, 2) := by decide +kernel
theorem dX6_split_144 : decode cX6_split 144 = .ok (.invokevirtual 82, 3) := by decide +kernel
theorem dX6_split_147 : decode cX6_split 147 = .ok (.iload 7, 2) := by decide +kernel
theorem dX6_split_149 : decode cX6_split 149 = .ok (.ireturn, 1) := by decide +kernel
theorem dX6_join_0 : decode cX6_join 0 = .ok (.iload_n 1, 1) := by decide +kernel
theorem dX6_join_1 : decode cX6_join 1 = .ok (.iload_n 2, 1) := by decide +kernel
theorem dX6_join_2 : decode cX6_join 2 = .ok (.if_icmp .eq 29, 3) := by decide +kernel
theorem dX6_join_5 : decode cX6_join 5 = .ok (.aload_n 0, 1) := by decide +kernel
theorem dX6_join_6 : decode cX6_join 6 = .ok (.iload_n 1, 1) := by decide +kernel
theorem dX6_join_7 : decode cX6_join 7 = .ok (.iload_n 3, 1) := by decide +kernel
theorem dX6_join_8 : decode cX6_join 8 = .ok (.invokevirtual 71, 3) := by decide +kernel
theorem dX6_join_11 : decode cX6_join 11 = .ok (.ifCond .eq 20, 3) := by decide +kernel
theorem dX6_join_14 : decode cX6_join 14 = .ok (.aload_n 0, 1) := by decide +kernel
theorem dX6_join_15 : decode cX6_join 15 = .ok (.iload_n 2, 1) := by decide +kernel
theorem dX6_join_16 : decode cX6_join 16 = .ok (.iload_n 3, 1) := by decide +kernel
theorem dX6_join_17 : decode cX6_join 17 = .ok (.invokevirtual 71, 3) := by decide +kernel
theorem dX6_join_20 : decode cX6_join 20 = .ok (.ifCond .eq 11, 3) := by decide +kernel
theorem dX6_join_23 : decode cX6_join 23 = .ok (.iload 4, 2) := by decide +kernel
theorem dX6_join_25 : decode cX6_join 25 = .ok (.invokestatic 52, 3) := by decide +kernel
theorem dX6_join_28 : decode cX6_join 28 = .ok (.ifCond .ne 6, 3) := by decide +kernel
theorem dX6_join_31 : decode cX6_join 31 = .ok (.bipush (-2), 2) := by decide +kernel
theorem dX6_join_33 : decode cX6_join 33 = .ok (.ireturn, 1) := by decide +kernel
theorem dX6_join_34 : decode cX6_join 34 = .ok (.aload_n 0, 1) := by decide +kernel
theorem dX6_join_35 : decode cX6_join 35 = .ok (.getfield 19, 3) := by decide +kernel
theorem dX6_join_38 : decode cX6_join 38 = .ok (.iload 4, 2) := by decide +kernel
theorem dX6_join_40 : decode cX6_join 40 = .ok (.iload_n 3, 1) := by decide +kernel
theorem dX6_join_41 : decode cX6_join 41 = .ok (.iload_n 1, 1) := by decide +kernel
theorem dX6_join_42 : decode cX6_join 42 = .ok (.iload_n 2, 1) := by decide +kernel
theorem dX6_join_43 : decode cX6_join 43 = .ok (.invokevirtual 59, 3) := by decide +kernel
theorem dX6_join_46 : decode cX6_join 46 = .ok (.ifCond .eq 6, 3) := by decide +kernel
theorem dX6_join_49 : decode cX6_join 49 = .ok (.bipush (-3), 2) := by decide +kernel
theorem dX6_join_51 : decode cX6_join 51 = .ok (.ireturn, 1) := by decide +kernel
theorem dX6_join_52 : decode cX6_join 52 = .ok (.aload_n 0, 1) := by decide +kernel
theorem dX6_join_53 : decode cX6_join 53 = .ok (.getfield 19, 3) := by decide +kernel
theorem dX6_join_56 : decode cX6_join 56 = .ok (.invokevirtual 63, 3) := by decide +kernel
theorem dX6_join_59 : decode cX6_join 59 = .ok (.iconst 1, 1) := by decide +kernel
theorem dX6_join_60 : decode cX6_join 60 = .ok (.if_icmp .ge 6, 3) := by decide +kernel
theorem dX6_join_63 : decode cX6_join 63 = .ok (.bipush (-4), 2) := by decide +kernel
theorem dX6_join_65 : decode cX6_join 65 = .ok (.ireturn, 1) := by decide +kernel
theorem dX6_join_66 : decode cX6_join 66 = .ok (.aload_n 0, 1) := by decide +kernel
theorem dX6_join_67 : decode cX6_join 67 = .ok (.getfield 19, 3) := by decide +kernel
theorem dX6_join_70 : decode cX6_join 70 = .ok (.iload 4, 2) := by decide +kernel
theorem dX6_join_72 : decode cX6_join 72 = .ok (.iload_n 3, 1) := by decide +kernel
theorem dX6_join_73 : decode cX6_join 73 = .ok (.aload_n 0, 1) := by decide +kernel
theorem dX6_join_74 : decode cX6_join 74 = .ok (.getfield 48, 3) := by decide +kernel
theorem dX6_join_77 : decode cX6_join 77 = .ok (.invokevirtual 67, 3) := by decide +kernel
theorem dX6_join_80 : decode cX6_join 80 = .ok (.istore 5, 2) := by decide +kernel
theorem dX6_join_82 : decode cX6_join 82 = .ok (.aload_n 0, 1) := by decide +kernel
theorem dX6_join_83 : decode cX6_join 83 = .ok (.getfield 19, 3) := by decide +kernel
theorem dX6_join_86 : decode cX6_join 86 = .ok (.iload_n 1, 1) := by decide +kernel
theorem dX6_join_87 : decode cX6_join 87 = .ok (.iload_n 3, 1) := by decide +kernel
theorem dX6_join_88 : decode cX6_join 88 = .ok (.aload_n 0, 1) := by decide +kernel
theorem dX6_join_89 : decode cX6_join 89 = .ok (.getfield 48, 3) := by decide +kernel
theorem dX6_join_92 : decode cX6_join 92 = .ok (.iconst 3, 1) := by decide +kernel
theorem dX6_join_93 : decode cX6_join 93 = .ok (.iload 5, 2) := by decide +kernel
theorem dX6_join_95 : decode cX6_join 95 = .ok (.invokevirtual 75, 3) := by decide +kernel
theorem dX6_join_98 : decode cX6_join 98 = .ok (.aload_n 0, 1) := by decide +kernel
theorem dX6_join_99 : decode cX6_join 99 = .ok (.getfield 19, 3) := by decide +kernel
theorem dX6_join_102 : decode cX6_join 102 = .ok (.iload_n 2, 1) := by decide +kernel
theorem dX6_join_103 : decode cX6_join 103 = .ok (.iload_n 3, 1) := by decide +kernel
theorem dX6_join_104 : decode cX6_join 104 = .ok (.aload_n 0, 1) := by decide +kernel
theorem dX6_join_105 : decode cX6_join 105 = .ok (.getfield 48, 3) := by decide +kernel
theorem dX6_join_108 : decode cX6_join 108 = .ok (.iconst 3, 1) := by decide +kernel
theorem dX6_join_109 : decode cX6_join 109 = .ok (.iload 5, 2) := by decide +kernel
theorem dX6_join_111 : decode cX6_join 111 = .ok (.invokevirtual 75, 3) := by decide +kernel
theorem dX6_join_114 : decode cX6_join 114 = .ok (.iload 5, 2) := by decide +kernel
theorem dX6_join_116 : decode cX6_join 116 = .ok (.ireturn, 1) := by decide +kernel
theorem dX6_mark_0 : decode cX6_mark 0 = .ok (.aload_n 0, 1) := by decide +kernel
theorem dX6_mark_1 : decode cX6_mark 1 = .ok (.getfield 19, 3) := by decide +kernel
theorem dX6_mark_4 : decode cX6_mark 4 = .ok (.iload_n 1, 1) := by decide +kernel
theorem dX6_mark_5 : decode cX6_mark 5 = .ok (.invokevirtual 86, 3) := by decide +kernel
theorem dX6_mark_8 : decode cX6_mark 8 = .ok (.ifCond .eq 29, 3) := by decide +kernel
theorem dX6_mark_11 : decode cX6_mark 11 = .ok (.iload_n 2, 1) := by decide +kernel
theorem dX6_mark_12 : decode cX6_mark 12 = .ok (.invokestatic 89, 3) := by decide +kernel
theorem dX6_mark_15 : decode cX6_mark 15 = .ok (.ifCond .eq 22, 3) := by decide +kernel
theorem dX6_mark_18 : decode cX6_mark 18 = .ok (.iload_n 3, 1) := by decide +kernel
theorem dX6_mark_19 : decode cX6_mark 19 = .ok (.invokestatic 56, 3) := by decide +kernel
theorem dX6_mark_22 : decode cX6_mark 22 = .ok (.ifCond .eq 15, 3) := by decide +kernel
theorem dX6_mark_25 : decode cX6_mark 25 = .ok (.iload 4, 2) := by decide +kernel
theorem dX6_mark_27 : decode cX6_mark 27 = .ok (.ifCond .lt 10, 3) := by decide +kernel
theorem dX6_mark_30 : decode cX6_mark 30 = .ok (.iload 4, 2) := by decide +kernel
theorem dX6_mark_32 : decode cX6_mark 32 = .ok (.bipush 99, 2) := by decide +kernel
theorem dX6_mark_34 : decode cX6_mark 34 = .ok (.if_icmp .le 5, 3) := by decide +kernel
theorem dX6_mark_37 : decode cX6_mark 37 = .ok (.iconst 0, 1) := by decide +kernel
theorem dX6_mark_38 : decode cX6_mark 38 = .ok (.ireturn, 1) := by decide +kernel
theorem dX6_mark_39 : decode cX6_mark 39 = .ok (.aload_n 0, 1) := by decide +kernel
theorem dX6_mark_40 : decode cX6_mark 40 = .ok (.getfield 28, 3) := by decide +kernel
theorem dX6_mark_43 : decode cX6_mark 43 = .ok (.invokevirtual 92, 3) := by decide +kernel
theorem dX6_mark_46 : decode cX6_mark 46 = .ok (.ifCond .ne 15, 3) := by decide +kernel
theorem dX6_mark_49 : decode cX6_mark 49 = .ok (.iload_n 2, 1) := by decide +kernel
theorem dX6_mark_50 : decode cX6_mark 50 = .ok (.ifCond .ne 13, 3) := by decide +kernel
theorem dX6_mark_53 : decode cX6_mark 53 = .ok (.aload_n 0, 1) := by decide +kernel
theorem dX6_mark_54 : decode cX6_mark 54 = .ok (.iload_n 1, 1) := by decide +kernel
theorem dX6_mark_55 : decode cX6_mark 55 = .ok (.invokevirtual 96, 3) := by decide +kernel
theorem dX6_mark_58 : decode cX6_mark 58 = .ok (.ifCond .eq 5, 3) := by decide +kernel
theorem dX6_mark_61 : decode cX6_mark 61 = .ok (.iconst 0, 1) := by decide +kernel
theorem dX6_mark_62 : decode cX6_mark 62 = .ok (.ireturn, 1) := by decide +kernel
theorem dX6_mark_63 : decode cX6_mark 63 = .ok (.aload_n 0, 1) := by decide +kernel
theorem dX6_mark_64 : decode cX6_mark 64 = .ok (.getfield 28, 3) := by decide +kernel
theorem dX6_mark_67 : decode cX6_mark 67 = .ok (.iload_n 1, 1) := by decide +kernel
theorem dX6_mark_68 : decode cX6_mark 68 = .ok (.iload_n 2, 1) := by decide +kernel
theorem dX6_mark_69 : decode cX6_mark 69 = .ok (.iload_n 3, 1) := by decide +kernel
theorem dX6_mark_70 : decode cX6_mark 70 = .ok (.iload 4, 2) := by decide +kernel
theorem dX6_mark_72 : decode cX6_mark 72 = .ok (.aload_n 0, 1) := by decide +kernel
theorem dX6_mark_73 : decode cX6_mark 73 = .ok (.getfield 48, 3) := by decide +kernel
theorem dX6_mark_76 : decode cX6_mark 76 = .ok (.invokevirtual 99, 3) := by decide +kernel
theorem dX6_mark_79 : decode cX6_mark 79 = .ok (.iconst 1, 1) := by decide +kernel
theorem dX6_mark_80 : decode cX6_mark 80 = .ok (.ireturn, 1) := by decide +kernel
theorem dX6_fact_0 : decode cX6_fact 0 = .ok (.iload_n 1, 1) := by decide +kernel
theorem dX6_fact_1 : decode cX6_fact 1 = .ok (.invokestatic 52, 3) := by decide +kernel
theorem dX6_fact_4 : decode cX6_fact 4 = .ok (.ifCond .eq 34, 3) := by decide +kernel
theorem dX6_fact_7 : decode cX6_fact 7 = .ok (.iload_n 2, 1) := by decide +kernel
theorem dX6_fact_8 : decode cX6_fact 8 = .ok (.invokestatic 56, 3) := by decide +kernel
theorem dX6_fact_11 : decode cX6_fact 11 = .ok (.ifCond .eq 27, 3) := by decide +kernel
theorem dX6_fact_14 : decode cX6_fact 14 = .ok (.iload_n 3, 1) := by decide +kernel
theorem dX6_fact_15 : decode cX6_fact 15 = .ok (.sipush (-10000), 3) := by decide +kernel
theorem dX6_fact_18 : decode cX6_fact 18 = .ok (.if_icmp .lt 20, 3) := by decide +kernel
theorem dX6_fact_21 : decode cX6_fact 21 = .ok (.iload_n 3, 1) := by decide +kernel
theorem dX6_fact_22 : decode cX6_fact 22 = .ok (.sipush 10000, 3) := by decide +kernel
theorem dX6_fact_25 : decode cX6_fact 25 = .ok (.if_icmp .gt 13, 3) := by decide +kernel
theorem dX6_fact_28 : decode cX6_fact 28 = .ok (.aload_n 0, 1) := by decide +kernel
theorem dX6_fact_29 : decode cX6_fact 29 = .ok (.getfield 35, 3) := by decide +kernel
theorem dX6_fact_32 : decode cX6_fact 32 = .ok (.invokevirtual 101, 3) := by decide +kernel
theorem dX6_fact_35 : decode cX6_fact 35 = .ok (.ifCond .eq 5, 3) := by decide +kernel
theorem dX6_fact_38 : decode cX6_fact 38 = .ok (.iconst (-1), 1) := by decide +kernel
theorem dX6_fact_39 : decode cX6_fact 39 = .ok (.ireturn, 1) := by decide +kernel
theorem dX6_fact_40 : decode cX6_fact 40 = .ok (.aload_n 0, 1) := by decide +kernel
theorem dX6_fact_41 : decode cX6_fact 41 = .ok (.getfield 35, 3) := by decide +kernel
theorem dX6_fact_44 : decode cX6_fact 44 = .ok (.iload_n 1, 1) := by decide +kernel
theorem dX6_fact_45 : decode cX6_fact 45 = .ok (.iload_n 2, 1) := by decide +kernel
theorem dX6_fact_46 : decode cX6_fact 46 = .ok (.iload_n 3, 1) := by decide +kernel
theorem dX6_fact_47 : decode cX6_fact 47 = .ok (.aload_n 0, 1) := by decide +kernel
theorem dX6_fact_48 : decode cX6_fact 48 = .ok (.getfield 48, 3) := by decide +kernel
theorem dX6_fact_51 : decode cX6_fact 51 = .ok (.invokevirtual 102, 3) := by decide +kernel
theorem dX6_fact_54 : decode cX6_fact 54 = .ok (.ireturn, 1) := by decide +kernel
theorem dX6_load_0 : decode cX6_load 0 = .ok (.aload_n 0, 1) := by decide +kernel
theorem dX6_load_1 : decode cX6_load 1 = .ok (.getfield 12, 3) := by decide +kernel
theorem dX6_load_4 : decode cX6_load 4 = .ok (.invokevirtual 105, 3) := by decide +kernel
theorem dX6_load_7 : decode cX6_load 7 = .ok (.ireturn, 1) := by decide +kernel
theorem dX6_undo_0 : decode cX6_undo 0 = .ok (.aload_n 0, 1) := by decide +kernel
theorem dX6_undo_1 : decode cX6_undo 1 = .ok (.getfield 12, 3) := by decide +kernel
theorem dX6_undo_4 : decode cX6_undo 4 = .ok (.iload_n 1, 1) := by decide +kernel
theorem dX6_undo_5 : decode cX6_undo 5 = .ok (.invokevirtual 108, 3) := by decide +kernel
theorem dX6_undo_8 : decode cX6_undo 8 = .ok (.ifCond .ne 5, 3) := by decide +kernel
theorem dX6_undo_11 : decode cX6_undo 11 = .ok (.iconst (-1), 1) := by decide +kernel
theorem dX6_undo_12 : decode cX6_undo 12 = .ok (.ireturn, 1) := by decide +kernel
theorem dX6_undo_13 : decode cX6_undo 13 = .ok (.aload_n 0, 1) := by decide +kernel
theorem dX6_undo_14 : decode cX6_undo 14 = .ok (.getfield 12, 3) := by decide +kernel
theorem dX6_undo_17 : decode cX6_undo 17 = .ok (.iload_n 1, 1) := by decide +kernel
theorem dX6_undo_18 : decode cX6_undo 18 = .ok (.aload_n 0, 1) := by decide +kernel
theorem dX6_undo_19 : decode cX6_undo 19 = .ok (.getfield 48, 3) := by decide +kernel
theorem dX6_undo_22 : decode cX6_undo 22 = .ok (.invokevirtual 111, 3) := by decide +kernel
theorem dX6_undo_25 : decode cX6_undo 25 = .ok (.aload_n 0, 1) := by decide +kernel
theorem dX6_undo_26 : decode cX6_undo 26 = .ok (.getfield 28, 3) := by decide +kernel
theorem dX6_undo_29 : decode cX6_undo 29 = .ok (.iload_n 1, 1) := by decide +kernel
theorem dX6_undo_30 : decode cX6_undo 30 = .ok (.invokevirtual 115, 3) := by decide +kernel
theorem dX6_undo_33 : decode cX6_undo 33 = .ok (.aload_n 0, 1) := by decide +kernel
theorem dX6_undo_34 : decode cX6_undo 34 = .ok (.getfield 35, 3) := by decide +kernel
theorem dX6_undo_37 : decode cX6_undo 37 = .ok (.iload_n 1, 1) := by decide +kernel
theorem dX6_undo_38 : decode cX6_undo 38 = .ok (.invokevirtual 119, 3) := by decide +kernel
theorem dX6_undo_41 : decode cX6_undo 41 = .ok (.iadd, 1) := by decide +kernel
theorem dX6_undo_42 : decode cX6_undo 42 = .ok (.ireturn, 1) := by decide +kernel
theorem dX6_told_0 : decode cX6_told 0 = .ok (.iload_n 2, 1) := by decide +kernel
theorem dX6_told_1 : decode cX6_told 1 = .ok (.invokestatic 89, 3) := by decide +kernel
theorem dX6_told_4 : decode cX6_told 4 = .ok (.ifCond .eq 31, 3) := by decide +kernel
theorem dX6_told_7 : decode cX6_told 7 = .ok (.iload_n 3, 1) := by decide +kernel
theorem dX6_told_8 : decode cX6_told 8 = .ok (.invokestatic 56, 3) := by decide +kernel
theorem dX6_told_11 : decode cX6_told 11 = .ok (.ifCond .eq 24, 3) := by decide +kernel
theorem dX6_told_14 : decode cX6_told 14 = .ok (.iload 4, 2) := by decide +kernel
theorem dX6_told_16 : decode cX6_told 16 = .ok (.invokestatic 56, 3) := by decide +kernel
theorem dX6_told_19 : decode cX6_told 19 = .ok (.ifCond .eq 16, 3) := by decide +kernel
theorem dX6_told_22 : decode cX6_told 22 = .ok (.aload_n 0, 1) := by decide +kernel
theorem dX6_told_23 : decode cX6_told 23 = .ok (.getfield 19, 3) := by decide +kernel
theorem dX6_told_26 : decode cX6_told 26 = .ok (.iload_n 1, 1) := by decide +kernel
theorem dX6_told_27 : decode cX6_told 27 = .ok (.iload 4, 2) := by decide +kernel
theorem dX6_told_29 : decode cX6_told 29 = .ok (.invokevirtual 120, 3) := by decide +kernel
theorem dX6_told_32 : decode cX6_told 32 = .ok (.ifCond .ne 5, 3) := by decide +kernel
theorem dX6_told_35 : decode cX6_told 35 = .ok (.iconst (-1), 1) := by decide +kernel
theorem dX6_told_36 : decode cX6_told 36 = .ok (.ireturn, 1) := by decide +kernel
theorem dX6_told_37 : decode cX6_told 37 = .ok (.aload_n 0, 1) := by decide +kernel
theorem dX6_told_38 : decode cX6_told 38 = .ok (.getfield 28, 3) := by decide +kernel
theorem dX6_told_41 : decode cX6_told 41 = .ok (.iload_n 1, 1) := by decide +kernel
theorem dX6_told_42 : decode cX6_told 42 = .ok (.iload_n 2, 1) := by decide +kernel
theorem dX6_told_43 : decode cX6_told 43 = .ok (.iload_n 3, 1) := by decide +kernel
theorem dX6_told_44 : decode cX6_told 44 = .ok (.iload 4, 2) := by decide +kernel
theorem dX6_told_46 : decode cX6_told 46 = .ok (.invokevirtual 123, 3) := by decide +kernel
theorem dX6_told_49 : decode cX6_told 49 = .ok (.ireturn, 1) := by decide +kernel
theorem dX6_thing_0 : decode cX6_thing 0 = .ok (.iload_n 2, 1) := by decide +kernel
theorem dX6_thing_1 : decode cX6_thing 1 = .ok (.invokestatic 56, 3) := by decide +kernel
theorem dX6_thing_4 : decode cX6_thing 4 = .ok (.ifCond .eq 15, 3) := by decide +kernel
theorem dX6_thing_7 : decode cX6_thing 7 = .ok (.aload_n 0, 1) := by decide +kernel
theorem dX6_thing_8 : decode cX6_thing 8 = .ok (.getfield 19, 3) := by decide +kernel
theorem dX6_thing_11 : decode cX6_thing 11 = .ok (.iload_n 1, 1) := by decide +kernel
theorem dX6_thing_12 : decode cX6_thing 12 = .ok (.iload_n 2, 1) := by decide +kernel
theorem dX6_thing_13 : decode cX6_thing 13 = .ok (.invokevirtual 120, 3) := by decide +kernel
theorem dX6_thing_16 : decode cX6_thing 16 = .ok (.ifCond .ne 5, 3) := by decide +kernel
theorem dX6_thing_19 : decode cX6_thing 19 = .ok (.iconst (-1), 1) := by decide +kernel
theorem dX6_thing_20 : decode cX6_thing 20 = .ok (.ireturn, 1) := by decide +kernel
theorem dX6_thing_21 : decode cX6_thing 21 = .ok (.iload_n 3, 1) := by decide +kernel
theorem dX6_thing_22 : decode cX6_thing 22 = .ok (.tableswitch 96 0 5 #[38, 47, 56, 66, 76, 86], 38) := by decide +kernel
theorem dX6_thing_60 : decode cX6_thing 60 = .ok (.aload_n 0, 1) := by decide +kernel
theorem dX6_thing_61 : decode cX6_thing 61 = .ok (.getfield 19, 3) := by decide +kernel
theorem dX6_thing_64 : decode cX6_thing 64 = .ok (.iload_n 1, 1) := by decide +kernel
theorem dX6_thing_65 : decode cX6_thing 65 = .ok (.invokevirtual 126, 3) := by decide +kernel
theorem dX6_thing_68 : decode cX6_thing 68 = .ok (.ireturn, 1) := by decide +kernel
theorem dX6_thing_69 : decode cX6_thing 69 = .ok (.aload_n 0, 1) := by decide +kernel
theorem dX6_thing_70 : decode cX6_thing 70 = .ok (.getfield 19, 3) := by decide +kernel
theorem dX6_thing_73 : decode cX6_thing 73 = .ok (.iload_n 1, 1) := by decide +kernel
theorem dX6_thing_74 : decode cX6_thing 74 = .ok (.invokevirtual 129, 3) := by decide +kernel
theorem dX6_thing_77 : decode cX6_thing 77 = .ok (.ireturn, 1) := by decide +kernel
theorem dX6_thing_78 : decode cX6_thing 78 = .ok (.aload_n 0, 1) := by decide +kernel
theorem dX6_thing_79 : decode cX6_thing 79 = .ok (.getfield 19, 3) := by decide +kernel
theorem dX6_thing_82 : decode cX6_thing 82 = .ok (.iload_n 1, 1) := by decide +kernel
theorem dX6_thing_83 : decode cX6_thing 83 = .ok (.iload_n 2, 1) := by decide +kernel
theorem dX6_thing_84 : decode cX6_thing 84 = .ok (.invokevirtual 132, 3) := by decide +kernel
theorem dX6_thing_87 : decode cX6_thing 87 = .ok (.ireturn, 1) := by decide +kernel
theorem dX6_thing_88 : decode cX6_thing 88 = .ok (.aload_n 0, 1) := by decide +kernel
theorem dX6_thing_89 : decode cX6_thing 89 = .ok (.getfield 19, 3) := by decide +kernel
theorem dX6_thing_92 : decode cX6_thing 92 = .ok (.iload_n 1, 1) := by decide +kernel
theorem dX6_thing_93 : decode cX6_thing 93 = .ok (.iload_n 2, 1) := by decide +kernel
theorem dX6_thing_94 : decode cX6_thing 94 = .ok (.invokevirtual 136, 3) := by decide +kernel
theorem dX6_thing_97 : decode cX6_thing 97 = .ok (.ireturn, 1) := by decide +kernel
theorem dX6_thing_98 : decode cX6_thing 98 = .ok (.aload_n 0, 1) := by decide +kernel
theorem dX6_thing_99 : decode cX6_thing 99 = .ok (.getfield 19, 3) := by decide +kernel
theorem dX6_thing_102 : decode cX6_thing 102 = .ok (.iload_n 1, 1) := by decide +kernel
theorem dX6_thing_103 : decode cX6_thing 103 = .ok (.iload_n 2, 1) := by decide +kernel
theorem dX6_thing_104 : decode cX6_thing 104 = .ok (.invokevirtual 139, 3) := by decide +kernel
theorem dX6_thing_107 : decode cX6_thing 107 = .ok (.ireturn, 1) := by decide +kernel
theorem dX6_thing_108 : decode cX6_thing 108 = .ok (.aload_n 0, 1) := by decide +kernel
theorem dX6_thing_109 : decode cX6_thing 109 = .ok (.getfield 28, 3) := by decide +kernel
theorem dX6_thing_112 : decode cX6_thing 112 = .ok (.iload_n 1, 1) := by decide +kernel
theorem dX6_thing_113 : decode cX6_thing 113 = .ok (.iload_n 2, 1) := by decide +kernel
theorem dX6_thing_114 : decode cX6_thing 114 = .ok (.invokevirtual 142, 3) := by decide +kernel
theorem dX6_thing_117 : decode cX6_thing 117 = .ok (.ireturn, 1) := by decide +kernel
theorem dX6_thing_118 : decode cX6_thing 118 = .ok (.iconst (-1), 1) := by decide +kernel
theorem dX6_thing_119 : decode cX6_thing 119 = .ok (.ireturn, 1) := by decide +kernel
theorem dX6_hangs_0 : decode cX6_hangs 0 = .ok (.iload_n 2, 1) := by decide +kernel
theorem dX6_hangs_1 : decode cX6_hangs 1 = .ok (.invokestatic 56, 3) := by decide +kernel
theorem dX6_hangs_4 : decode cX6_hangs 4 = .ok (.ifCond .eq 15, 3) := by decide +kernel
theorem dX6_hangs_7 : decode cX6_hangs 7 = .ok (.aload_n 0, 1) := by decide +kernel
theorem dX6_hangs_8 : decode cX6_hangs 8 = .ok (.getfield 35, 3) := by decide +kernel
theorem dX6_hangs_11 : decode cX6_hangs 11 = .ok (.iload_n 1, 1) := by decide +kernel
theorem dX6_hangs_12 : decode cX6_hangs 12 = .ok (.iload_n 2, 1) := by decide +kernel
theorem dX6_hangs_13 : decode cX6_hangs 13 = .ok (.invokevirtual 145, 3) := by decide +kernel
theorem dX6_hangs_16 : decode cX6_hangs 16 = .ok (.ifCond .ne 6, 3) := by decide +kernel
theorem dX6_hangs_19 : decode cX6_hangs 19 = .ok (.bipush (-2), 2) := by decide +kernel
theorem dX6_hangs_21 : decode cX6_hangs 21 = .ok (.ireturn, 1) := by decide +kernel
theorem dX6_hangs_22 : decode cX6_hangs 22 = .ok (.aload_n 0, 1) := by decide +kernel
theorem dX6_hangs_23 : decode cX6_hangs 23 = .ok (.iload_n 1, 1) := by decide +kernel
theorem dX6_hangs_24 : decode cX6_hangs 24 = .ok (.iload_n 2, 1) := by decide +kernel
theorem dX6_hangs_25 : decode cX6_hangs 25 = .ok (.invokevirtual 146, 3) := by decide +kernel
theorem dX6_hangs_28 : decode cX6_hangs 28 = .ok (.ireturn, 1) := by decide +kernel
theorem dX6_find_0 : decode cX6_find 0 = .ok (.iload_n 1, 1) := by decide +kernel
theorem dX6_find_1 : decode cX6_find 1 = .ok (.invokestatic 52, 3) := by decide +kernel
theorem dX6_find_4 : decode cX6_find 4 = .ok (.ifCond .eq 17, 3) := by decide +kernel
theorem dX6_find_7 : decode cX6_find 7 = .ok (.iload_n 2, 1) := by decide +kernel
theorem dX6_find_8 : decode cX6_find 8 = .ok (.invokestatic 56, 3) := by decide +kernel
theorem dX6_find_11 : decode cX6_find 11 = .ok (.ifCond .eq 10, 3) := by decide +kernel
theorem dX6_find_14 : decode cX6_find 14 = .ok (.iload_n 3, 1) := by decide +kernel
