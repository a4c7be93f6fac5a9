theorem dX7_isTaken_74 : decode cX7_isTaken 74 = .ok (.istore 5, 2) := by decide +kernel
theorem dX7_isTaken_76 : decode cX7_isTaken 76 = .ok (.iinc 6 1, 3) := by decide +kernel
theorem dX7_isTaken_79 : decode cX7_isTaken 79 = .ok (.goto (-73), 3) := by decide +kernel
theorem dX7_isTaken_82 : decode cX7_isTaken 82 = .ok (.iload 5, 2) := by decide +kernel
theorem dX7_isTaken_84 : decode cX7_isTaken 84 = .ok (.ireturn, 1) := by decide +kernel
theorem dX7_comes_0 : decode cX7_comes 0 = .ok (.aload_n 0, 1) := by decide +kernel
theorem dX7_comes_1 : decode cX7_comes 1 = .ok (.getfield 77, 3) := by decide +kernel
theorem dX7_comes_4 : decode cX7_comes 4 = .ok (.istore_n 3, 1) := by decide +kernel
theorem dX7_comes_5 : decode cX7_comes 5 = .ok (.aload_n 0, 1) := by decide +kernel
theorem dX7_comes_6 : decode cX7_comes 6 = .ok (.dup, 1) := by decide +kernel
theorem dX7_comes_7 : decode cX7_comes 7 = .ok (.getfield 77, 3) := by decide +kernel
theorem dX7_comes_10 : decode cX7_comes 10 = .ok (.iconst 1, 1) := by decide +kernel
theorem dX7_comes_11 : decode cX7_comes 11 = .ok (.iadd, 1) := by decide +kernel
theorem dX7_comes_12 : decode cX7_comes 12 = .ok (.putfield 77, 3) := by decide +kernel
theorem dX7_comes_15 : decode cX7_comes 15 = .ok (.aload_n 0, 1) := by decide +kernel
theorem dX7_comes_16 : decode cX7_comes 16 = .ok (.getfield 7, 3) := by decide +kernel
theorem dX7_comes_19 : decode cX7_comes 19 = .ok (.iload_n 3, 1) := by decide +kernel
theorem dX7_comes_20 : decode cX7_comes 20 = .ok (.iload_n 1, 1) := by decide +kernel
theorem dX7_comes_21 : decode cX7_comes 21 = .ok (.iastore, 1) := by decide +kernel
theorem dX7_comes_22 : decode cX7_comes 22 = .ok (.aload_n 0, 1) := by decide +kernel
theorem dX7_comes_23 : decode cX7_comes 23 = .ok (.getfield 13, 3) := by decide +kernel
theorem dX7_comes_26 : decode cX7_comes 26 = .ok (.iload_n 3, 1) := by decide +kernel
theorem dX7_comes_27 : decode cX7_comes 27 = .ok (.iload_n 2, 1) := by decide +kernel
theorem dX7_comes_28 : decode cX7_comes 28 = .ok (.iastore, 1) := by decide +kernel
theorem dX7_comes_29 : decode cX7_comes 29 = .ok (.aload_n 0, 1) := by decide +kernel
theorem dX7_comes_30 : decode cX7_comes 30 = .ok (.getfield 16, 3) := by decide +kernel
theorem dX7_comes_33 : decode cX7_comes 33 = .ok (.iload_n 3, 1) := by decide +kernel
theorem dX7_comes_34 : decode cX7_comes 34 = .ok (.aload_n 0, 1) := by decide +kernel
theorem dX7_comes_35 : decode cX7_comes 35 = .ok (.getfield 81, 3) := by decide +kernel
theorem dX7_comes_38 : decode cX7_comes 38 = .ok (.iastore, 1) := by decide +kernel
theorem dX7_comes_39 : decode cX7_comes 39 = .ok (.aload_n 0, 1) := by decide +kernel
theorem dX7_comes_40 : decode cX7_comes 40 = .ok (.getfield 19, 3) := by decide +kernel
theorem dX7_comes_43 : decode cX7_comes 43 = .ok (.iload_n 3, 1) := by decide +kernel
theorem dX7_comes_44 : decode cX7_comes 44 = .ok (.sipush 2001, 3) := by decide +kernel
theorem dX7_comes_47 : decode cX7_comes 47 = .ok (.iastore, 1) := by decide +kernel
theorem dX7_comes_48 : decode cX7_comes 48 = .ok (.aload_n 0, 1) := by decide +kernel
theorem dX7_comes_49 : decode cX7_comes 49 = .ok (.getfield 22, 3) := by decide +kernel
theorem dX7_comes_52 : decode cX7_comes 52 = .ok (.iload_n 3, 1) := by decide +kernel
theorem dX7_comes_53 : decode cX7_comes 53 = .ok (.sipush 2001, 3) := by decide +kernel
theorem dX7_comes_56 : decode cX7_comes 56 = .ok (.iastore, 1) := by decide +kernel
theorem dX7_comes_57 : decode cX7_comes 57 = .ok (.aload_n 0, 1) := by decide +kernel
theorem dX7_comes_58 : decode cX7_comes 58 = .ok (.getfield 28, 3) := by decide +kernel
theorem dX7_comes_61 : decode cX7_comes 61 = .ok (.iload_n 3, 1) := by decide +kernel
theorem dX7_comes_62 : decode cX7_comes 62 = .ok (.iconst (-1), 1) := by decide +kernel
theorem dX7_comes_63 : decode cX7_comes 63 = .ok (.iastore, 1) := by decide +kernel
theorem dX7_comes_64 : decode cX7_comes 64 = .ok (.iload_n 3, 1) := by decide +kernel
theorem dX7_comes_65 : decode cX7_comes 65 = .ok (.ireturn, 1) := by decide +kernel
theorem dX7_goes_0 : decode cX7_goes 0 = .ok (.aload_n 0, 1) := by decide +kernel
theorem dX7_goes_1 : decode cX7_goes 1 = .ok (.getfield 19, 3) := by decide +kernel
theorem dX7_goes_4 : decode cX7_goes 4 = .ok (.iload_n 1, 1) := by decide +kernel
theorem dX7_goes_5 : decode cX7_goes 5 = .ok (.iload_n 2, 1) := by decide +kernel
theorem dX7_goes_6 : decode cX7_goes 6 = .ok (.iastore, 1) := by decide +kernel
theorem dX7_goes_7 : decode cX7_goes 7 = .ok (.aload_n 0, 1) := by decide +kernel
theorem dX7_goes_8 : decode cX7_goes 8 = .ok (.getfield 22, 3) := by decide +kernel
theorem dX7_goes_11 : decode cX7_goes 11 = .ok (.iload_n 1, 1) := by decide +kernel
theorem dX7_goes_12 : decode cX7_goes 12 = .ok (.aload_n 0, 1) := by decide +kernel
theorem dX7_goes_13 : decode cX7_goes 13 = .ok (.getfield 81, 3) := by decide +kernel
theorem dX7_goes_16 : decode cX7_goes 16 = .ok (.iastore, 1) := by decide +kernel
theorem dX7_goes_17 : decode cX7_goes 17 = .ok (.aload_n 0, 1) := by decide +kernel
theorem dX7_goes_18 : decode cX7_goes 18 = .ok (.getfield 25, 3) := by decide +kernel
theorem dX7_goes_21 : decode cX7_goes 21 = .ok (.iload_n 1, 1) := by decide +kernel
theorem dX7_goes_22 : decode cX7_goes 22 = .ok (.iload_n 3, 1) := by decide +kernel
theorem dX7_goes_23 : decode cX7_goes 23 = .ok (.iastore, 1) := by decide +kernel
theorem dX7_goes_24 : decode cX7_goes 24 = .ok (.aload_n 0, 1) := by decide +kernel
theorem dX7_goes_25 : decode cX7_goes 25 = .ok (.getfield 28, 3) := by decide +kernel
theorem dX7_goes_28 : decode cX7_goes 28 = .ok (.iload_n 1, 1) := by decide +kernel
theorem dX7_goes_29 : decode cX7_goes 29 = .ok (.iload 4, 2) := by decide +kernel
theorem dX7_goes_31 : decode cX7_goes 31 = .ok (.iastore, 1) := by decide +kernel
theorem dX7_goes_32 : decode cX7_goes 32 = .ok (.aload_n 0, 1) := by decide +kernel
theorem dX7_goes_33 : decode cX7_goes 33 = .ok (.getfield 31, 3) := by decide +kernel
theorem dX7_goes_36 : decode cX7_goes 36 = .ok (.iload_n 1, 1) := by decide +kernel
theorem dX7_goes_37 : decode cX7_goes 37 = .ok (.iload 5, 2) := by decide +kernel
theorem dX7_goes_39 : decode cX7_goes 39 = .ok (.iastore, 1) := by decide +kernel
theorem dX7_goes_40 : decode cX7_goes 40 = .ok (.aload_n 0, 1) := by decide +kernel
theorem dX7_goes_41 : decode cX7_goes 41 = .ok (.getfield 34, 3) := by decide +kernel
theorem dX7_goes_44 : decode cX7_goes 44 = .ok (.iload_n 1, 1) := by decide +kernel
theorem dX7_goes_45 : decode cX7_goes 45 = .ok (.iload 6, 2) := by decide +kernel
theorem dX7_goes_47 : decode cX7_goes 47 = .ok (.iastore, 1) := by decide +kernel
theorem dX7_goes_48 : decode cX7_goes 48 = .ok (.return_, 1) := by decide +kernel
theorem dX7_born_0 : decode cX7_born 0 = .ok (.iload_n 1, 1) := by decide +kernel
theorem dX7_born_1 : decode cX7_born 1 = .ok (.invokestatic 91, 3) := by decide +kernel
theorem dX7_born_4 : decode cX7_born 4 = .ok (.ifCond .eq 10, 3) := by decide +kernel
theorem dX7_born_7 : decode cX7_born 7 = .ok (.iload_n 2, 1) := by decide +kernel
theorem dX7_born_8 : decode cX7_born 8 = .ok (.invokestatic 95, 3) := by decide +kernel
theorem dX7_born_11 : decode cX7_born 11 = .ok (.ifCond .ne 6, 3) := by decide +kernel
theorem dX7_born_14 : decode cX7_born 14 = .ok (.bipush (-2), 2) := by decide +kernel
theorem dX7_born_16 : decode cX7_born 16 = .ok (.ireturn, 1) := by decide +kernel
theorem dX7_born_17 : decode cX7_born 17 = .ok (.aload_n 0, 1) := by decide +kernel
theorem dX7_born_18 : decode cX7_born 18 = .ok (.iload_n 1, 1) := by decide +kernel
theorem dX7_born_19 : decode cX7_born 19 = .ok (.iload_n 2, 1) := by decide +kernel
theorem dX7_born_20 : decode cX7_born 20 = .ok (.iconst (-1), 1) := by decide +kernel
theorem dX7_born_21 : decode cX7_born 21 = .ok (.iconst (-1), 1) := by decide +kernel
theorem dX7_born_22 : decode cX7_born 22 = .ok (.invokevirtual 98, 3) := by decide +kernel
theorem dX7_born_25 : decode cX7_born 25 = .ok (.ifCond .eq 6, 3) := by decide +kernel
theorem dX7_born_28 : decode cX7_born 28 = .ok (.bipush (-3), 2) := by decide +kernel
theorem dX7_born_30 : decode cX7_born 30 = .ok (.ireturn, 1) := by decide +kernel
theorem dX7_born_31 : decode cX7_born 31 = .ok (.aload_n 0, 1) := by decide +kernel
theorem dX7_born_32 : decode cX7_born 32 = .ok (.getfield 77, 3) := by decide +kernel
theorem dX7_born_35 : decode cX7_born 35 = .ok (.bipush 40, 2) := by decide +kernel
theorem dX7_born_37 : decode cX7_born 37 = .ok (.if_icmp .ne 8, 3) := by decide +kernel
theorem dX7_born_40 : decode cX7_born 40 = .ok (.bipush (-4), 2) := by decide +kernel
theorem dX7_born_42 : decode cX7_born 42 = .ok (.goto 9, 3) := by decide +kernel
theorem dX7_born_45 : decode cX7_born 45 = .ok (.aload_n 0, 1) := by decide +kernel
theorem dX7_born_46 : decode cX7_born 46 = .ok (.iload_n 1, 1) := by decide +kernel
theorem dX7_born_47 : decode cX7_born 47 = .ok (.iload_n 2, 1) := by decide +kernel
theorem dX7_born_48 : decode cX7_born 48 = .ok (.invokevirtual 102, 3) := by decide +kernel
theorem dX7_born_51 : decode cX7_born 51 = .ok (.ireturn, 1) := by decide +kernel
theorem dX7_mayEnd_0 : decode cX7_mayEnd 0 = .ok (.aload_n 0, 1) := by decide +kernel
theorem dX7_mayEnd_1 : decode cX7_mayEnd 1 = .ok (.iload_n 1, 1) := by decide +kernel
theorem dX7_mayEnd_2 : decode cX7_mayEnd 2 = .ok (.invokevirtual 105, 3) := by decide +kernel
theorem dX7_mayEnd_5 : decode cX7_mayEnd 5 = .ok (.ifCond .eq 36, 3) := by decide +kernel
theorem dX7_mayEnd_8 : decode cX7_mayEnd 8 = .ok (.aload_n 0, 1) := by decide +kernel
theorem dX7_mayEnd_9 : decode cX7_mayEnd 9 = .ok (.getfield 19, 3) := by decide +kernel
theorem dX7_mayEnd_12 : decode cX7_mayEnd 12 = .ok (.iload_n 1, 1) := by decide +kernel
theorem dX7_mayEnd_13 : decode cX7_mayEnd 13 = .ok (.iaload, 1) := by decide +kernel
theorem dX7_mayEnd_14 : decode cX7_mayEnd 14 = .ok (.sipush 2001, 3) := by decide +kernel
theorem dX7_mayEnd_17 : decode cX7_mayEnd 17 = .ok (.if_icmp .ne 24, 3) := by decide +kernel
theorem dX7_mayEnd_20 : decode cX7_mayEnd 20 = .ok (.iload_n 2, 1) := by decide +kernel
theorem dX7_mayEnd_21 : decode cX7_mayEnd 21 = .ok (.invokestatic 95, 3) := by decide +kernel
theorem dX7_mayEnd_24 : decode cX7_mayEnd 24 = .ok (.ifCond .eq 17, 3) := by decide +kernel
theorem dX7_mayEnd_27 : decode cX7_mayEnd 27 = .ok (.iload_n 2, 1) := by decide +kernel
theorem dX7_mayEnd_28 : decode cX7_mayEnd 28 = .ok (.aload_n 0, 1) := by decide +kernel
theorem dX7_mayEnd_29 : decode cX7_mayEnd 29 = .ok (.getfield 13, 3) := by decide +kernel
theorem dX7_mayEnd_32 : decode cX7_mayEnd 32 = .ok (.iload_n 1, 1) := by decide +kernel
theorem dX7_mayEnd_33 : decode cX7_mayEnd 33 = .ok (.iaload, 1) := by decide +kernel
theorem dX7_mayEnd_34 : decode cX7_mayEnd 34 = .ok (.if_icmp .le 7, 3) := by decide +kernel
theorem dX7_mayEnd_37 : decode cX7_mayEnd 37 = .ok (.iconst 1, 1) := by decide +kernel
theorem dX7_mayEnd_38 : decode cX7_mayEnd 38 = .ok (.goto 4, 3) := by decide +kernel
theorem dX7_mayEnd_41 : decode cX7_mayEnd 41 = .ok (.iconst 0, 1) := by decide +kernel
theorem dX7_mayEnd_42 : decode cX7_mayEnd 42 = .ok (.ireturn, 1) := by decide +kernel
theorem dX7_ends_0 : decode cX7_ends 0 = .ok (.aload_n 0, 1) := by decide +kernel
theorem dX7_ends_1 : decode cX7_ends 1 = .ok (.iload_n 1, 1) := by decide +kernel
theorem dX7_ends_2 : decode cX7_ends 2 = .ok (.iload_n 2, 1) := by decide +kernel
theorem dX7_ends_3 : decode cX7_ends 3 = .ok (.invokevirtual 108, 3) := by decide +kernel
theorem dX7_ends_6 : decode cX7_ends 6 = .ok (.ifCond .ne 5, 3) := by decide +kernel
theorem dX7_ends_9 : decode cX7_ends 9 = .ok (.iconst 0, 1) := by decide +kernel
theorem dX7_ends_10 : decode cX7_ends 10 = .ok (.ireturn, 1) := by decide +kernel
theorem dX7_ends_11 : decode cX7_ends 11 = .ok (.aload_n 0, 1) := by decide +kernel
theorem dX7_ends_12 : decode cX7_ends 12 = .ok (.iload_n 1, 1) := by decide +kernel
theorem dX7_ends_13 : decode cX7_ends 13 = .ok (.iload_n 2, 1) := by decide +kernel
theorem dX7_ends_14 : decode cX7_ends 14 = .ok (.iconst 1, 1) := by decide +kernel
theorem dX7_ends_15 : decode cX7_ends 15 = .ok (.iconst (-1), 1) := by decide +kernel
theorem dX7_ends_16 : decode cX7_ends 16 = .ok (.iconst 0, 1) := by decide +kernel
theorem dX7_ends_17 : decode cX7_ends 17 = .ok (.iconst 1, 1) := by decide +kernel
theorem dX7_ends_18 : decode cX7_ends 18 = .ok (.invokevirtual 112, 3) := by decide +kernel
theorem dX7_ends_21 : decode cX7_ends 21 = .ok (.iconst 1, 1) := by decide +kernel
theorem dX7_ends_22 : decode cX7_ends 22 = .ok (.ireturn, 1) := by decide +kernel
theorem dX7_split_0 : decode cX7_split 0 = .ok (.aload_n 0, 1) := by decide +kernel
theorem dX7_split_1 : decode cX7_split 1 = .ok (.iload_n 1, 1) := by decide +kernel
theorem dX7_split_2 : decode cX7_split 2 = .ok (.iload_n 2, 1) := by decide +kernel
theorem dX7_split_3 : decode cX7_split 3 = .ok (.invokevirtual 108, 3) := by decide +kernel
theorem dX7_split_6 : decode cX7_split 6 = .ok (.ifCond .eq 46, 3) := by decide +kernel
theorem dX7_split_9 : decode cX7_split 9 = .ok (.iload_n 3, 1) := by decide +kernel
theorem dX7_split_10 : decode cX7_split 10 = .ok (.invokestatic 91, 3) := by decide +kernel
theorem dX7_split_13 : decode cX7_split 13 = .ok (.ifCond .eq 39, 3) := by decide +kernel
theorem dX7_split_16 : decode cX7_split 16 = .ok (.iload 4, 2) := by decide +kernel
theorem dX7_split_18 : decode cX7_split 18 = .ok (.invokestatic 91, 3) := by decide +kernel
theorem dX7_split_21 : decode cX7_split 21 = .ok (.ifCond .eq 31, 3) := by decide +kernel
theorem dX7_split_24 : decode cX7_split 24 = .ok (.iload_n 3, 1) := by decide +kernel
theorem dX7_split_25 : decode cX7_split 25 = .ok (.iload 4, 2) := by decide +kernel
theorem dX7_split_27 : decode cX7_split 27 = .ok (.if_icmp .eq 25, 3) := by decide +kernel
theorem dX7_split_30 : decode cX7_split 30 = .ok (.iload 6, 2) := by decide +kernel
theorem dX7_split_32 : decode cX7_split 32 = .ok (.iconst 1, 1) := by decide +kernel
theorem dX7_split_33 : decode cX7_split 33 = .ok (.bipush 100, 2) := by decide +kernel
theorem dX7_split_35 : decode cX7_split 35 = .ok (.invokestatic 73, 3) := by decide +kernel
theorem dX7_split_38 : decode cX7_split 38 = .ok (.ifCond .eq 14, 3) := by decide +kernel
theorem dX7_split_41 : decode cX7_split 41 = .ok (.iload 5, 2) := by decide +kernel
theorem dX7_split_43 : decode cX7_split 43 = .ok (.iconst 0, 1) := by decide +kernel
theorem dX7_split_44 : decode cX7_split 44 = .ok (.iload 6, 2) := by decide +kernel
theorem dX7_split_46 : decode cX7_split 46 = .ok (.invokestatic 73, 3) := by decide +kernel
theorem dX7_split_49 : decode cX7_split 49 = .ok (.ifCond .ne 6, 3) := by decide +kernel
theorem dX7_split_52 : decode cX7_split 52 = .ok (.bipush (-2), 2) := by decide +kernel
theorem dX7_split_54 : decode cX7_split 54 = .ok (.ireturn, 1) := by decide +kernel
theorem dX7_split_55 : decode cX7_split 55 = .ok (.aload_n 0, 1) := by decide +kernel
theorem dX7_split_56 : decode cX7_split 56 = .ok (.iload_n 3, 1) := by decide +kernel
theorem dX7_split_57 : decode cX7_split 57 = .ok (.iload_n 2, 1) := by decide +kernel
theorem dX7_split_58 : decode cX7_split 58 = .ok (.iload_n 1, 1) := by decide +kernel
theorem dX7_split_59 : decode cX7_split 59 = .ok (.iconst (-1), 1) := by decide +kernel
theorem dX7_split_60 : decode cX7_split 60 = .ok (.invokevirtual 98, 3) := by decide +kernel
theorem dX7_split_63 : decode cX7_split 63 = .ok (.ifCond .ne 15, 3) := by decide +kernel
theorem dX7_split_66 : decode cX7_split 66 = .ok (.aload_n 0, 1) := by decide +kernel
theorem dX7_split_67 : decode cX7_split 67 = .ok (.iload 4, 2) := by decide +kernel
theorem dX7_split_69 : decode cX7_split 69 = .ok (.iload_n 2, 1) := by decide +kernel
theorem dX7_split_70 : decode cX7_split 70 = .ok (.iload_n 1, 1) := by decide +kernel
theorem dX7_split_71 : decode cX7_split 71 = .ok (.iconst (-1), 1) := by decide +kernel
theorem dX7_split_72 : decode cX7_split 72 = .ok (.invokevirtual 98, 3) := by decide +kernel
theorem dX7_split_75 : decode cX7_split 75 = .ok (.ifCond .eq 6, 3) := by decide +kernel
theorem dX7_split_78 : decode cX7_split 78 = .ok (.bipush (-3), 2) := by decide +kernel
theorem dX7_split_80 : decode cX7_split 80 = .ok (.ireturn, 1) := by decide +kernel
theorem dX7_split_81 : decode cX7_split 81 = .ok (.aload_n 0, 1) := by decide +kernel
theorem dX7_split_82 : decode cX7_split 82 = .ok (.getfield 77, 3) := by decide +kernel
theorem dX7_split_85 : decode cX7_split 85 = .ok (.bipush 38, 2) := by decide +kernel
theorem dX7_split_87 : decode cX7_split 87 = .ok (.if_icmp .le 6, 3) := by decide +kernel
theorem dX7_split_90 : decode cX7_split 90 = .ok (.bipush (-4), 2) := by decide +kernel
theorem dX7_split_92 : decode cX7_split 92 = .ok (.ireturn, 1) := by decide +kernel
theorem dX7_split_93 : decode cX7_split 93 = .ok (.aload_n 0, 1) := by decide +kernel
theorem dX7_split_94 : decode cX7_split 94 = .ok (.iload_n 3, 1) := by decide +kernel
theorem dX7_split_95 : decode cX7_split 95 = .ok (.iload_n 2, 1) := by decide +kernel
theorem dX7_split_96 : decode cX7_split 96 = .ok (.invokevirtual 102, 3) := by decide +kernel
theorem dX7_split_99 : decode cX7_split 99 = .ok (.istore 7, 2) := by decide +kernel
theorem dX7_split_101 : decode cX7_split 101 = .ok (.aload_n 0, 1) := by decide +kernel
theorem dX7_split_102 : decode cX7_split 102 = .ok (.iload 4, 2) := by decide +kernel
theorem dX7_split_104 : decode cX7_split 104 = .ok (.iload_n 2, 1) := by decide +kernel
theorem dX7_split_105 : decode cX7_split 105 = .ok (.invokevirtual 102, 3) := by decide +kernel
theorem dX7_split_108 : decode cX7_split 108 = .ok (.pop, 1) := by decide +kernel
theorem dX7_split_109 : decode cX7_split 109 = .ok (.aload_n 0, 1) := by decide +kernel
theorem dX7_split_110 : decode cX7_split 110 = .ok (.iload_n 1, 1) := by decide +kernel
theorem dX7_split_111 : decode cX7_split 111 = .ok (.iload_n 2, 1) := by decide +kernel
theorem dX7_split_112 : decode cX7_split 112 = .ok (.iconst 2, 1) := by decide +kernel
theorem dX7_split_113 : decode cX7_split 113 = .ok (.iload 7, 2) := by decide +kernel
theorem dX7_split_115 : decode cX7_split 115 = .ok (.iload 5, 2) := by decide +kernel
theorem dX7_split_117 : decode cX7_split 117 = .ok (.iload 6, 2) := by decide +kernel
theorem dX7_split_119 : decode cX7_split 119 = .ok (.invokevirtual 112, 3) := by decide +kernel
theorem dX7_split_122 : decode cX7_split 122 = .ok (.iload 7, 2) := by decide +kernel
theorem dX7_split_124 : decode cX7_split 124 = .ok (.ireturn, 1) := by decide +kernel
theorem dX7_join_0 : decode cX7_join 0 = .ok (.aload_n 0, 1) := by decide +kernel
theorem dX7_join_1 : decode cX7_join 1 = .ok (.iload_n 1, 1) := by decide +kernel
theorem dX7_join_2 : decode cX7_join 2 = .ok (.iload_n 3, 1) := by decide +kernel
theorem dX7_join_3 : decode cX7_join 3 = .ok (.invokevirtual 108, 3) := by decide +kernel
theorem dX7_join_6 : decode cX7_join 6 = .ok (.ifCond .eq 25, 3) := by decide +kernel
theorem dX7_join_9 : decode cX7_join 9 = .ok (.aload_n 0, 1) := by decide +kernel
theorem dX7_join_10 : decode cX7_join 10 = .ok (.iload_n 2, 1) := by decide +kernel
theorem dX7_join_11 : decode cX7_join 11 = .ok (.iload_n 3, 1) := by decide +kernel
theorem dX7_join_12 : decode cX7_join 12 = .ok (.invokevirtual 108, 3) := by decide +kernel
theorem dX7_join_15 : decode cX7_join 15 = .ok (.ifCond .eq 16, 3) := by decide +kernel
theorem dX7_join_18 : decode cX7_join 18 = .ok (.iload_n 1, 1) := by decide +kernel
theorem dX7_join_19 : decode cX7_join 19 = .ok (.iload_n 2, 1) := by decide +kernel
theorem dX7_join_20 : decode cX7_join 20 = .ok (.if_icmp .eq 11, 3) := by decide +kernel
theorem dX7_join_23 : decode cX7_join 23 = .ok (.iload 4, 2) := by decide +kernel
theorem dX7_join_25 : decode cX7_join 25 = .ok (.invokestatic 91, 3) := by decide +kernel
theorem dX7_join_28 : decode cX7_join 28 = .ok (.ifCond .ne 6, 3) := by decide +kernel
theorem dX7_join_31 : decode cX7_join 31 = .ok (.bipush (-2), 2) := by decide +kernel
theorem dX7_join_33 : decode cX7_join 33 = .ok (.ireturn, 1) := by decide +kernel
theorem dX7_join_34 : decode cX7_join 34 = .ok (.aload_n 0, 1) := by decide +kernel
theorem dX7_join_35 : decode cX7_join 35 = .ok (.iload 4, 2) := by decide +kernel
theorem dX7_join_37 : decode cX7_join 37 = .ok (.iload_n 3, 1) := by decide +kernel
theorem dX7_join_38 : decode cX7_join 38 = .ok (.iload_n 1, 1) := by decide +kernel
theorem dX7_join_39 : decode cX7_join 39 = .ok (.iload_n 2, 1) := by decide +kernel
theorem dX7_join_40 : decode cX7_join 40 = .ok (.invokevirtual 98, 3) := by decide +kernel
theorem dX7_join_43 : decode cX7_join 43 = .ok (.ifCond .eq 6, 3) := by decide +kernel
theorem dX7_join_46 : decode cX7_join 46 = .ok (.bipush (-3), 2) := by decide +kernel
theorem dX7_join_48 : decode cX7_join 48 = .ok (.ireturn, 1) := by decide +kernel
theorem dX7_join_49 : decode cX7_join 49 = .ok (.aload_n 0, 1) := by decide +kernel
theorem dX7_join_50 : decode cX7_join 50 = .ok (.getfield 77, 3) := by decide +kernel
theorem dX7_join_53 : decode cX7_join 53 = .ok (.bipush 40, 2) := by decide +kernel
theorem dX7_join_55 : decode cX7_join 55 = .ok (.if_icmp .ne 6, 3) := by decide +kernel
theorem dX7_join_58 : decode cX7_join 58 = .ok (.bipush (-4), 2) := by decide +kernel
theorem dX7_join_60 : decode cX7_join 60 = .ok (.ireturn, 1) := by decide +kernel
theorem dX7_join_61 : decode cX7_join 61 = .ok (.aload_n 0, 1) := by decide +kernel
theorem dX7_join_62 : decode cX7_join 62 = .ok (.iload 4, 2) := by decide +kernel
theorem dX7_join_64 : decode cX7_join 64 = .ok (.iload_n 3, 1) := by decide +kernel
theorem dX7_join_65 : decode cX7_join 65 = .ok (.invokevirtual 102, 3) := by decide +kernel
theorem dX7_join_68 : decode cX7_join 68 = .ok (.istore 5, 2) := by decide +kernel
theorem dX7_join_70 : decode cX7_join 70 = .ok (.aload_n 0, 1) := by decide +kernel
theorem dX7_join_71 : decode cX7_join 71 = .ok (.iload_n 1, 1) := by decide +kernel
theorem dX7_join_72 : decode cX7_join 72 = .ok (.iload_n 3, 1) := by decide +kernel
theorem dX7_join_73 : decode cX7_join 73 = .ok (.iconst 3, 1) := by decide +kernel
theorem dX7_join_74 : decode cX7_join 74 = .ok (.iload 5, 2) := by decide +kernel
theorem dX7_join_76 : decode cX7_join 76 = .ok (.iconst 1, 1) := by decide +kernel
theorem dX7_join_77 : decode cX7_join 77 = .ok (.iconst 1, 1) := by decide +kernel
theorem dX7_join_78 : decode cX7_join 78 = .ok (.invokevirtual 112, 3) := by decide +kernel
theorem dX7_join_81 : decode cX7_join 81 = .ok (.aload_n 0, 1) := by decide +kernel
theorem dX7_join_82 : decode cX7_join 82 = .ok (.iload_n 2, 1) := by decide +kernel
theorem dX7_join_83 : decode cX7_join 83 = .ok (.iload_n 3, 1) := by decide +kernel
theorem dX7_join_84 : decode cX7_join 84 = .ok (.iconst 3, 1) := by decide +kernel
theorem dX7_join_85 : decode cX7_join 85 = .ok (.iload 5, 2) := by decide +kernel
theorem dX7_join_87 : decode cX7_join 87 = .ok (.iconst 1, 1) := by decide +kernel
theorem dX7_join_88 : decode cX7_join 88 = .ok (.iconst 1, 1) := by decide +kernel
theorem dX7_join_89 : decode cX7_join 89 = .ok (.invokevirtual 112, 3) := by decide +kernel
theorem dX7_join_92 : decode cX7_join 92 = .ok (.iload 5, 2) := by decide +kernel
theorem dX7_join_94 : decode cX7_join 94 = .ok (.ireturn, 1) := by decide +kernel
theorem dX7_isKnown_0 : decode cX7_isKnown 0 = .ok (.iload_n 1, 1) := by decide +kernel
theorem dX7_isKnown_1 : decode cX7_isKnown 1 = .ok (.iload_n 3, 1) := by decide +kernel
theorem dX7_isKnown_2 : decode cX7_isKnown 2 = .ok (.if_icmp .gt 17, 3) := by decide +kernel
theorem dX7_isKnown_5 : decode cX7_isKnown 5 = .ok (.aload_n 0, 1) := by decide +kernel
theorem dX7_isKnown_6 : decode cX7_isKnown 6 = .ok (.getfield 70, 3) := by decide +kernel
theorem dX7_isKnown_9 : decode cX7_isKnown 9 = .ok (.iload_n 2, 1) := by decide +kernel
theorem dX7_isKnown_10 : decode cX7_isKnown 10 = .ok (.iaload, 1) := by decide +kernel
theorem dX7_isKnown_11 : decode cX7_isKnown 11 = .ok (.iload_n 3, 1) := by decide +kernel
theorem dX7_isKnown_12 : decode cX7_isKnown 12 = .ok (.if_icmp .le 7, 3) := by decide +kernel
theorem dX7_isKnown_15 : decode cX7_isKnown 15 = .ok (.iconst 1, 1) := by decide +kernel
theorem dX7_isKnown_16 : decode cX7_isKnown 16 = .ok (.goto 4, 3) := by decide +kernel
theorem dX7_isKnown_19 : decode cX7_isKnown 19 = .ok (.iconst 0, 1) := by decide +kernel
theorem dX7_isKnown_20 : decode cX7_isKnown 20 = .ok (.ireturn, 1) := by decide +kernel
theorem dX7_isTelling_0 : decode cX7_isTelling 0 = .ok (.aload_n 0, 1) := by decide +kernel
theorem dX7_isTelling_1 : decode cX7_isTelling 1 = .ok (.getfield 52, 3) := by decide +kernel
theorem dX7_isTelling_4 : decode cX7_isTelling 4 = .ok (.iload_n 1, 1) := by decide +kernel
theorem dX7_isTelling_5 : decode cX7_isTelling 5 = .ok (.iaload, 1) := by decide +kernel
theorem dX7_isTelling_6 : decode cX7_isTelling 6 = .ok (.iload_n 2, 1) := by decide +kernel
theorem dX7_isTelling_7 : decode cX7_isTelling 7 = .ok (.if_icmp .ne 38, 3) := by decide +kernel
theorem dX7_isTelling_10 : decode cX7_isTelling 10 = .ok (.aload_n 0, 1) := by decide +kernel
theorem dX7_isTelling_11 : decode cX7_isTelling 11 = .ok (.getfield 55, 3) := by decide +kernel
theorem dX7_isTelling_14 : decode cX7_isTelling 14 = .ok (.iload_n 1, 1) := by decide +kernel
theorem dX7_isTelling_15 : decode cX7_isTelling 15 = .ok (.iaload, 1) := by decide +kernel
theorem dX7_isTelling_16 : decode cX7_isTelling 16 = .ok (.iload_n 3, 1) := by decide +kernel
theorem dX7_isTelling_17 : decode cX7_isTelling 17 = .ok (.if_icmp .ne 28, 3) := by decide +kernel
theorem dX7_isTelling_20 : decode cX7_isTelling 20 = .ok (.aload_n 0, 1) := by decide +kernel
theorem dX7_isTelling_21 : decode cX7_isTelling 21 = .ok (.aload_n 0, 1) := by decide +kernel
theorem dX7_isTelling_22 : decode cX7_isTelling 22 = .ok (.getfield 64, 3) := by decide +kernel
theorem dX7_isTelling_25 : decode cX7_isTelling 25 = .ok (.iload_n 1, 1) := by decide +kernel
theorem dX7_isTelling_26 : decode cX7_isTelling 26 = .ok (.iaload, 1) := by decide +kernel
theorem dX7_isTelling_27 : decode cX7_isTelling 27 = .ok (.aload_n 0, 1) := by decide +kernel
theorem dX7_isTelling_28 : decode cX7_isTelling 28 = .ok (.getfield 67, 3) := by decide +kernel
theorem dX7_isTelling_31 : decode cX7_isTelling 31 = .ok (.iload_n 1, 1) := by decide +kernel
theorem dX7_isTelling_32 : decode cX7_isTelling 32 = .ok (.iaload, 1) := by decide +kernel
theorem dX7_isTelling_33 : decode cX7_isTelling 33 = .ok (.iload 4, 2) := by decide +kernel
theorem dX7_isTelling_35 : decode cX7_isTelling 35 = .ok (.invokevirtual 116, 3) := by decide +kernel
theorem dX7_isTelling_38 : decode cX7_isTelling 38 = .ok (.ifCond .eq 7, 3) := by decide +kernel
theorem dX7_isTelling_41 : decode cX7_isTelling 41 = .ok (.iconst 1, 1) := by decide +kernel
theorem dX7_isTelling_42 : decode cX7_isTelling 42 = .ok (.goto 4, 3) := by decide +kernel
theorem dX7_isTelling_45 : decode cX7_isTelling 45 = .ok (.iconst 0, 1) := by decide +kernel
theorem dX7_isTelling_46 : decode cX7_isTelling 46 = .ok (.ireturn, 1) := by decide +kernel
theorem dX7_mark_0 : decode cX7_mark 0 = .ok (.aload_n 0, 1) := by decide +kernel
theorem dX7_mark_1 : decode cX7_mark 1 = .ok (.iload_n 1, 1) := by decide +kernel
theorem dX7_mark_2 : decode cX7_mark 2 = .ok (.invokevirtual 105, 3) := by decide +kernel
theorem dX7_mark_5 : decode cX7_mark 5 = .ok (.ifCond .eq 38, 3) := by decide +kernel
theorem dX7_mark_8 : decode cX7_mark 8 = .ok (.iload_n 2, 1) := by decide +kernel
theorem dX7_mark_9 : decode cX7_mark 9 = .ok (.invokestatic 119, 3) := by decide +kernel
theorem dX7_mark_12 : decode cX7_mark 12 = .ok (.ifCond .eq 31, 3) := by decide +kernel
theorem dX7_mark_15 : decode cX7_mark 15 = .ok (.iload_n 3, 1) := by decide +kernel
theorem dX7_mark_16 : decode cX7_mark 16 = .ok (.invokestatic 95, 3) := by decide +kernel
theorem dX7_mark_19 : decode cX7_mark 19 = .ok (.ifCond .eq 24, 3) := by decide +kernel
theorem dX7_mark_22 : decode cX7_mark 22 = .ok (.iload 4, 2) := by decide +kernel
theorem dX7_mark_24 : decode cX7_mark 24 = .ok (.iconst 0, 1) := by decide +kernel
theorem dX7_mark_25 : decode cX7_mark 25 = .ok (.bipush 99, 2) := by decide +kernel
theorem dX7_mark_27 : decode cX7_mark 27 = .ok (.invokestatic 73, 3) := by decide +kernel
theorem dX7_mark_30 : decode cX7_mark 30 = .ok (.ifCond .eq 13, 3) := by decide +kernel
theorem dX7_mark_33 : decode cX7_mark 33 = .ok (.aload_n 0, 1) := by decide +kernel
theorem dX7_mark_34 : decode cX7_mark 34 = .ok (.getfield 122, 3) := by decide +kernel
theorem dX7_mark_37 : decode cX7_mark 37 = .ok (.sipush 300, 3) := by decide +kernel
theorem dX7_mark_40 : decode cX7_mark 40 = .ok (.if_icmp .ne 5, 3) := by decide +kernel
theorem dX7_mark_43 : decode cX7_mark 43 = .ok (.iconst 0, 1) := by decide +kernel
theorem dX7_mark_44 : decode cX7_mark 44 = .ok (.ireturn, 1) := by decide +kernel
theorem dX7_mark_45 : decode cX7_mark 45 = .ok (.iconst 0, 1) := by decide +kernel
theorem dX7_mark_46 : decode cX7_mark 46 = .ok (.istore 5, 2) := by decide +kernel
theorem dX7_mark_48 : decode cX7_mark 48 = .ok (.iload 5, 2) := by decide +kernel
theorem dX7_mark_50 : decode cX7_mark 50 = .ok (.aload_n 0, 1) := by decide +kernel
theorem dX7_mark_51 : decode cX7_mark 51 = .ok (.getfield 122, 3) := by decide +kernel
theorem dX7_mark_54 : decode cX7_mark 54 = .ok (.if_icmp .ge 30, 3) := by decide +kernel
theorem dX7_mark_57 : decode cX7_mark 57 = .ok (.iload_n 2, 1) := by decide +kernel
theorem dX7_mark_58 : decode cX7_mark 58 = .ok (.ifCond .ne 20, 3) := by decide +kernel
theorem dX7_mark_61 : decode cX7_mark 61 = .ok (.aload_n 0, 1) := by decide +kernel
theorem dX7_mark_62 : decode cX7_mark 62 = .ok (.iload 5, 2) := by decide +kernel
theorem dX7_mark_64 : decode cX7_mark 64 = .ok (.iload_n 1, 1) := by decide +kernel
theorem dX7_mark_65 : decode cX7_mark 65 = .ok (.iconst 0, 1) := by decide +kernel
theorem dX7_mark_66 : decode cX7_mark 66 = .ok (.aload_n 0, 1) := by decide +kernel
theorem dX7_mark_67 : decode cX7_mark 67 = .ok (.getfield 81, 3) := by decide +kernel
theorem dX7_mark_70 : decode cX7_mark 70 = .ok (.invokevirtual 125, 3) := by decide +kernel
theorem dX7_mark_73 : decode cX7_mark 73 = .ok (.ifCond .eq 5, 3) := by decide +kernel
theorem dX7_mark_76 : decode cX7_mark 76 = .ok (.iconst 0, 1) := by decide +kernel
theorem dX7_mark_77 : decode cX7_mark 77 = .ok (.ireturn, 1) := by decide +kernel
theorem dX7_mark_78 : decode cX7_mark 78 = .ok (.iinc 5 1, 3) := by decide +kernel
theorem dX7_mark_81 : decode cX7_mark 81 = .ok (.goto (-33), 3) := by decide +kernel
theorem dX7_mark_84 : decode cX7_mark 84 = .ok (.aload_n 0, 1) := by decide +kernel
theorem dX7_mark_85 : decode cX7_mark 85 = .ok (.getfield 52, 3) := by decide +kernel
theorem dX7_mark_88 : decode cX7_mark 88 = .ok (.aload_n 0, 1) := by decide +kernel
theorem dX7_mark_89 : decode cX7_mark 89 = .ok (.getfield 122, 3) := by decide +kernel
theorem dX7_mark_92 : decode cX7_mark 92 = .ok (.iload_n 1, 1) := by decide +kernel
theorem dX7_mark_93 : decode cX7_mark 93 = .ok (.iastore, 1) := by decide +kernel
theorem dX7_mark_94 : decode cX7_mark 94 = .ok (.aload_n 0, 1) := by decide +kernel
theorem dX7_mark_95 : decode cX7_mark 95 = .ok (.getfield 55, 3) := by decide +kernel
theorem dX7_mark_98 : decode cX7_mark 98 = .ok (.aload_n 0, 1) := by decide +kernel
theorem dX7_mark_99 : decode cX7_mark 99 = .ok (.getfield 122, 3) := by decide +kernel
theorem dX7_mark_102 : decode cX7_mark 102 = .ok (.iload_n 2, 1) := by decide +kernel
theorem dX7_mark_103 : decode cX7_mark 103 = .ok (.iastore, 1) := by decide +kernel
theorem dX7_mark_104 : decode cX7_mark 104 = .ok (.aload_n 0, 1) := by decide +kernel
theorem dX7_mark_105 : decode cX7_mark 105 = .ok (.getfield 58, 3) := by decide +kernel
theorem dX7_mark_108 : decode cX7_mark 108 = .ok (.aload_n 0, 1) := by decide +kernel
theorem dX7_mark_109 : decode cX7_mark 109 = .ok (.getfield 122, 3) := by decide +kernel
theorem dX7_mark_112 : decode cX7_mark 112 = .ok (.iload_n 3, 1) := by decide +kernel
theorem dX7_mark_113 : decode cX7_mark 113 = .ok (.iastore, 1) := by decide +kernel
theorem dX7_mark_114 : decode cX7_mark 114 = .ok (.aload_n 0, 1) := by decide +kernel
theorem dX7_mark_115 : decode cX7_mark 115 = .ok (.getfield 61, 3) := by decide +kernel
theorem dX7_mark_118 : decode cX7_mark 118 = .ok (.aload_n 0, 1) := by decide +kernel
theorem dX7_mark_119 : decode cX7_mark 119 = .ok (.getfield 122, 3) := by decide +kernel
theorem dX7_mark_122 : decode cX7_mark 122 = .ok (.iload 4, 2) := by decide +kernel
theorem dX7_mark_124 : decode cX7_mark 124 = .ok (.iastore, 1) := by decide +kernel
theorem dX7_mark_125 : decode cX7_mark 125 = .ok (.aload_n 0, 1) := by decide +kernel
theorem dX7_mark_126 : decode cX7_mark 126 = .ok (.getfield 64, 3) := by decide +kernel
theorem dX7_mark_129 : decode cX7_mark 129 = .ok (.aload_n 0, 1) := by decide +kernel
theorem dX7_mark_130 : decode cX7_mark 130 = .ok (.getfield 122, 3) := by decide +kernel
theorem dX7_mark_133 : decode cX7_mark 133 = .ok (.aload_n 0, 1) := by decide +kernel
theorem dX7_mark_134 : decode cX7_mark 134 = .ok (.getfield 81, 3) := by decide +kernel
theorem dX7_mark_137 : decode cX7_mark 137 = .ok (.iastore, 1) := by decide +kernel
theorem dX7_mark_138 : decode cX7_mark 138 = .ok (.aload_n 0, 1) := by decide +kernel
theorem dX7_mark_139 : decode cX7_mark 139 = .ok (.getfield 67, 3) := by decide +kernel
theorem dX7_mark_142 : decode cX7_mark 142 = .ok (.aload_n 0, 1) := by decide +kernel
theorem dX7_mark_143 : decode cX7_mark 143 = .ok (.getfield 122, 3) := by decide +kernel
theorem dX7_mark_146 : decode cX7_mark 146 = .ok (.aload_n 0, 1) := by decide +kernel
theorem dX7_mark_147 : decode cX7_mark 147 = .ok (.getfield 128, 3) := by decide +kernel
theorem dX7_mark_150 : decode cX7_mark 150 = .ok (.iastore, 1) := by decide +kernel
theorem dX7_mark_151 : decode cX7_mark 151 = .ok (.aload_n 0, 1) := by decide +kernel
theorem dX7_mark_152 : decode cX7_mark 152 = .ok (.dup, 1) := by decide +kernel
theorem dX7_mark_153 : decode cX7_mark 153 = .ok (.getfield 122, 3) := by decide +kernel
theorem dX7_mark_156 : decode cX7_mark 156 = .ok (.iconst 1, 1) := by decide +kernel
theorem dX7_mark_157 : decode cX7_mark 157 = .ok (.iadd, 1) := by decide +kernel
theorem dX7_mark_158 : decode cX7_mark 158 = .ok (.putfield 122, 3) := by decide +kernel
theorem dX7_mark_161 : decode cX7_mark 161 = .ok (.iconst 1, 1) := by decide +kernel
theorem dX7_mark_162 : decode cX7_mark 162 = .ok (.ireturn, 1) := by decide +kernel
theorem dX7_valueOf_0 : decode cX7_valueOf 0 = .ok (.iconst (-1), 1) := by decide +kernel
theorem dX7_valueOf_1 : decode cX7_valueOf 1 = .ok (.istore 5, 2) := by decide +kernel
theorem dX7_valueOf_3 : decode cX7_valueOf 3 = .ok (.iconst 0, 1) := by decide +kernel
theorem dX7_valueOf_4 : decode cX7_valueOf 4 = .ok (.istore 6, 2) := by decide +kernel
theorem dX7_valueOf_6 : decode cX7_valueOf 6 = .ok (.iload 6, 2) := by decide +kernel
theorem dX7_valueOf_8 : decode cX7_valueOf 8 = .ok (.aload_n 0, 1) := by decide +kernel
theorem dX7_valueOf_9 : decode cX7_valueOf 9 = .ok (.getfield 122, 3) := by decide +kernel
theorem dX7_valueOf_12 : decode cX7_valueOf 12 = .ok (.if_icmp .ge 73, 3) := by decide +kernel
theorem dX7_valueOf_15 : decode cX7_valueOf 15 = .ok (.aload_n 0, 1) := by decide +kernel
theorem dX7_valueOf_16 : decode cX7_valueOf 16 = .ok (.iload 6, 2) := by decide +kernel
theorem dX7_valueOf_18 : decode cX7_valueOf 18 = .ok (.iload_n 1, 1) := by decide +kernel
theorem dX7_valueOf_19 : decode cX7_valueOf 19 = .ok (.iload_n 2, 1) := by decide +kernel
theorem dX7_valueOf_20 : decode cX7_valueOf 20 = .ok (.iload 4, 2) := by decide +kernel
theorem dX7_valueOf_22 : decode cX7_valueOf 22 = .ok (.invokevirtual 125, 3) := by decide +kernel
theorem dX7_valueOf_25 : decode cX7_valueOf 25 = .ok (.ifCond .eq 54, 3) := by decide +kernel
theorem dX7_valueOf_28 : decode cX7_valueOf 28 = .ok (.iload_n 2, 1) := by decide +kernel
theorem dX7_valueOf_29 : decode cX7_valueOf 29 = .ok (.iconst 1, 1) := by decide +kernel
theorem dX7_valueOf_30 : decode cX7_valueOf 30 = .ok (.if_icmp .le 17, 3) := by decide +kernel
theorem dX7_valueOf_33 : decode cX7_valueOf 33 = .ok (.aload_n 0, 1) := by decide +kernel
theorem dX7_valueOf_34 : decode cX7_valueOf 34 = .ok (.getfield 58, 3) := by decide +kernel
theorem dX7_valueOf_37 : decode cX7_valueOf 37 = .ok (.iload 6, 2) := by decide +kernel
theorem dX7_valueOf_39 : decode cX7_valueOf 39 = .ok (.iaload, 1) := by decide +kernel
theorem dX7_valueOf_40 : decode cX7_valueOf 40 = .ok (.iload_n 3, 1) := by decide +kernel
theorem dX7_valueOf_41 : decode cX7_valueOf 41 = .ok (.if_icmp .le 6, 3) := by decide +kernel
theorem dX7_valueOf_44 : decode cX7_valueOf 44 = .ok (.goto 35, 3) := by decide +kernel
theorem dX7_valueOf_47 : decode cX7_valueOf 47 = .ok (.iload 5, 2) := by decide +kernel
theorem dX7_valueOf_49 : decode cX7_valueOf 49 = .ok (.iconst (-1), 1) := by decide +kernel
theorem dX7_valueOf_50 : decode cX7_valueOf 50 = .ok (.if_icmp .eq 25, 3) := by decide +kernel
theorem dX7_valueOf_53 : decode cX7_valueOf 53 = .ok (.iload_n 2, 1) := by decide +kernel
theorem dX7_valueOf_54 : decode cX7_valueOf 54 = .ok (.iconst 2, 1) := by decide +kernel
theorem dX7_valueOf_55 : decode cX7_valueOf 55 = .ok (.if_icmp .lt 20, 3) := by decide +kernel
theorem dX7_valueOf_58 : decode cX7_valueOf 58 = .ok (.aload_n 0, 1) := by decide +kernel
theorem dX7_valueOf_59 : decode cX7_valueOf 59 = .ok (.getfield 58, 3) := by decide +kernel
theorem dX7_valueOf_62 : decode cX7_valueOf 62 = .ok (.iload 6, 2) := by decide +kernel
theorem dX7_valueOf_64 : decode cX7_valueOf 64 = .ok (.iaload, 1) := by decide +kernel
theorem dX7_valueOf_65 : decode cX7_valueOf 65 = .ok (.aload_n 0, 1) := by decide +kernel
theorem dX7_valueOf_66 : decode cX7_valueOf 66 = .ok (.getfield 58, 3) := by decide +kernel
theorem dX7_valueOf_69 : decode cX7_valueOf 69 = .ok (.iload 5, 2) := by decide +kernel
theorem dX7_valueOf_71 : decode cX7_valueOf 71 = .ok (.iaload, 1) := by decide +kernel
theorem dX7_valueOf_72 : decode cX7_valueOf 72 = .ok (.if_icmp .lt 7, 3) := by decide +kernel
theorem dX7_valueOf_75 : decode cX7_valueOf 75 = .ok (.iload 6, 2) := by decide +kernel
theorem dX7_valueOf_77 : decode cX7_valueOf 77 = .ok (.istore 5, 2) := by decide +kernel
theorem dX7_valueOf_79 : decode cX7_valueOf 79 = .ok (.iinc 6 1, 3) := by decide +kernel
theorem dX7_valueOf_82 : decode cX7_valueOf 82 = .ok (.goto (-76), 3) := by decide +kernel
theorem dX7_valueOf_85 : decode cX7_valueOf 85 = .ok (.iload 5, 2) := by decide +kernel
theorem dX7_valueOf_87 : decode cX7_valueOf 87 = .ok (.iconst (-1), 1) := by decide +kernel
theorem dX7_valueOf_88 : decode cX7_valueOf 88 = .ok (.if_icmp .ne 8, 3) := by decide +kernel
theorem dX7_valueOf_91 : decode cX7_valueOf 91 = .ok (.bipush 100, 2) := by decide +kernel
theorem dX7_valueOf_93 : decode cX7_valueOf 93 = .ok (.goto 10, 3) := by decide +kernel
theorem dX7_valueOf_96 : decode cX7_valueOf 96 = .ok (.aload_n 0, 1) := by decide +kernel
theorem dX7_valueOf_97 : decode cX7_valueOf 97 = .ok (.getfield 61, 3) := by decide +kernel
theorem dX7_valueOf_100 : decode cX7_valueOf 100 = .ok (.iload 5, 2) := by decide +kernel
theorem dX7_valueOf_102 : decode cX7_valueOf 102 = .ok (.iaload, 1) := by decide +kernel
theorem dX7_valueOf_103 : decode cX7_valueOf 103 = .ok (.ireturn, 1) := by decide +kernel
theorem dX7_told_0 : decode cX7_told 0 = .ok (.aload_n 0, 1) := by decide +kernel
theorem dX7_told_1 : decode cX7_told 1 = .ok (.iload_n 1, 1) := by decide +kernel
theorem dX7_told_2 : decode cX7_told 2 = .ok (.invokevirtual 105, 3) := by decide +kernel
theorem dX7_told_5 : decode cX7_told 5 = .ok (.ifCond .eq 48, 3) := by decide +kernel
theorem dX7_told_8 : decode cX7_told 8 = .ok (.iload_n 2, 1) := by decide +kernel
theorem dX7_told_9 : decode cX7_told 9 = .ok (.invokestatic 119, 3) := by decide +kernel
theorem dX7_told_12 : decode cX7_told 12 = .ok (.ifCond .eq 41, 3) := by decide +kernel
theorem dX7_told_15 : decode cX7_told 15 = .ok (.iload_n 3, 1) := by decide +kernel
theorem dX7_told_16 : decode cX7_told 16 = .ok (.invokestatic 95, 3) := by decide +kernel
theorem dX7_told_19 : decode cX7_told 19 = .ok (.ifCond .eq 34, 3) := by decide +kernel
theorem dX7_told_22 : decode cX7_told 22 = .ok (.iload 4, 2) := by decide +kernel
theorem dX7_told_24 : decode cX7_told 24 = .ok (.invokestatic 95, 3) := by decide +kernel
theorem dX7_told_27 : decode cX7_told 27 = .ok (.ifCond .eq 26, 3) := by decide +kernel
theorem dX7_told_30 : decode cX7_told 30 = .ok (.aload_n 0, 1) := by decide +kernel
theorem dX7_told_31 : decode cX7_told 31 = .ok (.getfield 16, 3) := by decide +kernel
theorem dX7_told_34 : decode cX7_told 34 = .ok (.iload_n 1, 1) := by decide +kernel
theorem dX7_told_35 : decode cX7_told 35 = .ok (.iaload, 1) := by decide +kernel
theorem dX7_told_36 : decode cX7_told 36 = .ok (.iload 4, 2) := by decide +kernel
theorem dX7_told_38 : decode cX7_told 38 = .ok (.if_icmp .gt 15, 3) := by decide +kernel
theorem dX7_told_41 : decode cX7_told 41 = .ok (.aload_n 0, 1) := by decide +kernel
theorem dX7_told_42 : decode cX7_told 42 = .ok (.iload_n 1, 1) := by decide +kernel
theorem dX7_told_43 : decode cX7_told 43 = .ok (.iload_n 2, 1) := by decide +kernel
theorem dX7_told_44 : decode cX7_told 44 = .ok (.iload_n 3, 1) := by decide +kernel
theorem dX7_told_45 : decode cX7_told 45 = .ok (.iload 4, 2) := by decide +kernel
theorem dX7_told_47 : decode cX7_told 47 = .ok (.invokevirtual 131, 3) := by decide +kernel
theorem dX7_told_50 : decode cX7_told 50 = .ok (.goto 4, 3) := by decide +kernel
theorem dX7_told_53 : decode cX7_told 53 = .ok (.iconst (-1), 1) := by decide +kernel
theorem dX7_told_54 : decode cX7_told 54 = .ok (.ireturn, 1) := by decide +kernel
theorem dX7_turns_0 : decode cX7_turns 0 = .ok (.iconst 0, 1) := by decide +kernel
theorem dX7_turns_1 : decode cX7_turns 1 = .ok (.istore_n 3, 1) := by decide +kernel
theorem dX7_turns_2 : decode cX7_turns 2 = .ok (.iconst (-1), 1) := by decide +kernel
theorem dX7_turns_3 : decode cX7_turns 3 = .ok (.istore 4, 2) := by decide +kernel
theorem dX7_turns_5 : decode cX7_turns 5 = .ok (.iconst 0, 1) := by decide +kernel
theorem dX7_turns_6 : decode cX7_turns 6 = .ok (.istore 5, 2) := by decide +kernel
theorem dX7_turns_8 : decode cX7_turns 8 = .ok (.iload 5, 2) := by decide +kernel
theorem dX7_turns_10 : decode cX7_turns 10 = .ok (.aload_n 0, 1) := by decide +kernel
theorem dX7_turns_11 : decode cX7_turns 11 = .ok (.getfield 122, 3) := by decide +kernel
theorem dX7_turns_14 : decode cX7_turns 14 = .ok (.if_icmp .ge 62, 3) := by decide +kernel
theorem dX7_turns_17 : decode cX7_turns 17 = .ok (.aload_n 0, 1) := by decide +kernel
theorem dX7_turns_18 : decode cX7_turns 18 = .ok (.iload 5, 2) := by decide +kernel
theorem dX7_turns_20 : decode cX7_turns 20 = .ok (.iload_n 1, 1) := by decide +kernel
theorem dX7_turns_21 : decode cX7_turns 21 = .ok (.iconst 1, 1) := by decide +kernel
theorem dX7_turns_22 : decode cX7_turns 22 = .ok (.iload_n 2, 1) := by decide +kernel
theorem dX7_turns_23 : decode cX7_turns 23 = .ok (.invokevirtual 125, 3) := by decide +kernel
theorem dX7_turns_26 : decode cX7_turns 26 = .ok (.ifCond .ne 6, 3) := by decide +kernel
theorem dX7_turns_29 : decode cX7_turns 29 = .ok (.goto 41, 3) := by decide +kernel
theorem dX7_turns_32 : decode cX7_turns 32 = .ok (.iload_n 3, 1) := by decide +kernel
theorem dX7_turns_33 : decode cX7_turns 33 = .ok (.iload 4, 2) := by decide +kernel
theorem dX7_turns_35 : decode cX7_turns 35 = .ok (.iconst (-1), 1) := by decide +kernel
theorem dX7_turns_36 : decode cX7_turns 36 = .ok (.if_icmp .eq 19, 3) := by decide +kernel
theorem dX7_turns_39 : decode cX7_turns 39 = .ok (.aload_n 0, 1) := by decide +kernel
theorem dX7_turns_40 : decode cX7_turns 40 = .ok (.getfield 61, 3) := by decide +kernel
theorem dX7_turns_43 : decode cX7_turns 43 = .ok (.iload 5, 2) := by decide +kernel
theorem dX7_turns_45 : decode cX7_turns 45 = .ok (.iaload, 1) := by decide +kernel
theorem dX7_turns_46 : decode cX7_turns 46 = .ok (.iload 4, 2) := by decide +kernel
theorem dX7_turns_48 : decode cX7_turns 48 = .ok (.if_icmp .eq 7, 3) := by decide +kernel
theorem dX7_turns_51 : decode cX7_turns 51 = .ok (.iconst 1, 1) := by decide +kernel
theorem dX7_turns_52 : decode cX7_turns 52 = .ok (.goto 4, 3) := by decide +kernel
theorem dX7_turns_55 : decode cX7_turns 55 = .ok (.iconst 0, 1) := by decide +kernel
theorem dX7_turns_56 : decode cX7_turns 56 = .ok (.invokestatic 135, 3) := by decide +kernel
theorem dX7_turns_59 : decode cX7_turns 59 = .ok (.iadd, 1) := by decide +kernel
theorem dX7_turns_60 : decode cX7_turns 60 = .ok (.istore_n 3, 1) := by decide +kernel
theorem dX7_turns_61 : decode cX7_turns 61 = .ok (.aload_n 0, 1) := by decide +kernel
theorem dX7_turns_62 : decode cX7_turns 62 = .ok (.getfield 61, 3) := by decide +kernel
theorem dX7_turns_65 : decode cX7_turns 65 = .ok (.iload 5, 2) := by decide +kernel
theorem dX7_turns_67 : decode cX7_turns 67 = .ok (.iaload, 1) := by decide +kernel
theorem dX7_turns_68 : decode cX7_turns 68 = .ok (.istore 4, 2) := by decide +kernel
theorem dX7_turns_70 : decode cX7_turns 70 = .ok (.iinc 5 1, 3) := by decide +kernel
theorem dX7_turns_73 : decode cX7_turns 73 = .ok (.goto (-65), 3) := by decide +kernel
theorem dX7_turns_76 : decode cX7_turns 76 = .ok (.iload_n 3, 1) := by decide +kernel
theorem dX7_turns_77 : decode cX7_turns 77 = .ok (.ireturn, 1) := by decide +kernel
theorem dX7_thing_0 : decode cX7_thing 0 = .ok (.aload_n 0, 1) := by decide +kernel
theorem dX7_thing_1 : decode cX7_thing 1 = .ok (.iload_n 1, 1) := by decide +kernel
theorem dX7_thing_2 : decode cX7_thing 2 = .ok (.invokevirtual 105, 3) := by decide +kernel
theorem dX7_thing_5 : decode cX7_thing 5 = .ok (.ifCond .eq 20, 3) := by decide +kernel
theorem dX7_thing_8 : decode cX7_thing 8 = .ok (.iload_n 2, 1) := by decide +kernel
theorem dX7_thing_9 : decode cX7_thing 9 = .ok (.invokestatic 95, 3) := by decide +kernel
theorem dX7_thing_12 : decode cX7_thing 12 = .ok (.ifCond .eq 13, 3) := by decide +kernel
theorem dX7_thing_15 : decode cX7_thing 15 = .ok (.aload_n 0, 1) := by decide +kernel
theorem dX7_thing_16 : decode cX7_thing 16 = .ok (.getfield 16, 3) := by decide +kernel
theorem dX7_thing_19 : decode cX7_thing 19 = .ok (.iload_n 1, 1) := by decide +kernel
theorem dX7_thing_20 : decode cX7_thing 20 = .ok (.iaload, 1) := by decide +kernel
theorem dX7_thing_21 : decode cX7_thing 21 = .ok (.iload_n 2, 1) := by decide +kernel
theorem dX7_thing_22 : decode cX7_thing 22 = .ok (.if_icmp .le 5, 3) := by decide +kernel
theorem dX7_thing_25 : decode cX7_thing 25 = .ok (.iconst (-1), 1) := by decide +kernel
theorem dX7_thing_26 : decode cX7_thing 26 = .ok (.ireturn, 1) := by decide +kernel
theorem dX7_thing_27 : decode cX7_thing 27 = .ok (.aload_n 0, 1) := by decide +kernel
theorem dX7_thing_28 : decode cX7_thing 28 = .ok (.getfield 22, 3) := by decide +kernel
theorem dX7_thing_31 : decode cX7_thing 31 = .ok (.iload_n 1, 1) := by decide +kernel
theorem dX7_thing_32 : decode cX7_thing 32 = .ok (.iaload, 1) := by decide +kernel
theorem dX7_thing_33 : decode cX7_thing 33 = .ok (.iload_n 2, 1) := by decide +kernel
theorem dX7_thing_34 : decode cX7_thing 34 = .ok (.if_icmp .gt 7, 3) := by decide +kernel
theorem dX7_thing_37 : decode cX7_thing 37 = .ok (.iconst 1, 1) := by decide +kernel
theorem dX7_thing_38 : decode cX7_thing 38 = .ok (.goto 4, 3) := by decide +kernel
theorem dX7_thing_41 : decode cX7_thing 41 = .ok (.iconst 0, 1) := by decide +kernel
theorem dX7_thing_42 : decode cX7_thing 42 = .ok (.istore 4, 2) := by decide +kernel
theorem dX7_thing_44 : decode cX7_thing 44 = .ok (.iload_n 3, 1) := by decide +kernel
theorem dX7_thing_45 : decode cX7_thing 45 = .ok (.tableswitch 99 0 5 #[39, 46, 53, 60, 76, 92], 39) := by decide +kernel
theorem dX7_thing_84 : decode cX7_thing 84 = .ok (.aload_n 0, 1) := by decide +kernel
theorem dX7_thing_85 : decode cX7_thing 85 = .ok (.getfield 7, 3) := by decide +kernel
theorem dX7_thing_88 : decode cX7_thing 88 = .ok (.iload_n 1, 1) := by decide +kernel
theorem dX7_thing_89 : decode cX7_thing 89 = .ok (.iaload, 1) := by decide +kernel
theorem dX7_thing_90 : decode cX7_thing 90 = .ok (.ireturn, 1) := by decide +kernel
theorem dX7_thing_91 : decode cX7_thing 91 = .ok (.aload_n 0, 1) := by decide +kernel
theorem dX7_thing_92 : decode cX7_thing 92 = .ok (.getfield 13, 3) := by decide +kernel
theorem dX7_thing_95 : decode cX7_thing 95 = .ok (.iload_n 1, 1) := by decide +kernel
theorem dX7_thing_96 : decode cX7_thing 96 = .ok (.iaload, 1) := by decide +kernel
theorem dX7_thing_97 : decode cX7_thing 97 = .ok (.ireturn, 1) := by decide +kernel
theorem dX7_thing_98 : decode cX7_thing 98 = .ok (.aload_n 0, 1) := by decide +kernel
theorem dX7_thing_99 : decode cX7_thing 99 = .ok (.iload_n 1, 1) := by decide +kernel
theorem dX7_thing_100 : decode cX7_thing 100 = .ok (.iload_n 2, 1) := by decide +kernel
theorem dX7_thing_101 : decode cX7_thing 101 = .ok (.invokevirtual 84, 3) := by decide +kernel
theorem dX7_thing_104 : decode cX7_thing 104 = .ok (.ireturn, 1) := by decide +kernel
theorem dX7_thing_105 : decode cX7_thing 105 = .ok (.iload 4, 2) := by decide +kernel
theorem dX7_thing_107 : decode cX7_thing 107 = .ok (.ifCond .eq 12, 3) := by decide +kernel
theorem dX7_thing_110 : decode cX7_thing 110 = .ok (.aload_n 0, 1) := by decide +kernel
theorem dX7_thing_111 : decode cX7_thing 111 = .ok (.getfield 25, 3) := by decide +kernel
theorem dX7_thing_114 : decode cX7_thing 114 = .ok (.iload_n 1, 1) := by decide +kernel
theorem dX7_thing_115 : decode cX7_thing 115 = .ok (.iaload, 1) := by decide +kernel
theorem dX7_thing_116 : decode cX7_thing 116 = .ok (.goto 4, 3) := by decide +kernel
theorem dX7_thing_119 : decode cX7_thing 119 = .ok (.iconst 0, 1) := by decide +kernel
theorem dX7_thing_120 : decode cX7_thing 120 = .ok (.ireturn, 1) := by decide +kernel
theorem dX7_thing_121 : decode cX7_thing 121 = .ok (.iload 4, 2) := by decide +kernel
theorem dX7_thing_123 : decode cX7_thing 123 = .ok (.ifCond .eq 12, 3) := by decide +kernel
theorem dX7_thing_126 : decode cX7_thing 126 = .ok (.aload_n 0, 1) := by decide +kernel
theorem dX7_thing_127 : decode cX7_thing 127 = .ok (.getfield 28, 3) := by decide +kernel
theorem dX7_thing_130 : decode cX7_thing 130 = .ok (.iload_n 1, 1) := by decide +kernel
theorem dX7_thing_131 : decode cX7_thing 131 = .ok (.iaload, 1) := by decide +kernel
theorem dX7_thing_132 : decode cX7_thing 132 = .ok (.goto 4, 3) := by decide +kernel
theorem dX7_thing_135 : decode cX7_thing 135 = .ok (.iconst (-1), 1) := by decide +kernel
theorem dX7_thing_136 : decode cX7_thing 136 = .ok (.ireturn, 1) := by decide +kernel
theorem dX7_thing_137 : decode cX7_thing 137 = .ok (.aload_n 0, 1) := by decide +kernel
theorem dX7_thing_138 : decode cX7_thing 138 = .ok (.iload_n 1, 1) := by decide +kernel
theorem dX7_thing_139 : decode cX7_thing 139 = .ok (.iload_n 2, 1) := by decide +kernel
theorem dX7_thing_140 : decode cX7_thing 140 = .ok (.invokevirtual 139, 3) := by decide +kernel
theorem dX7_thing_143 : decode cX7_thing 143 = .ok (.ireturn, 1) := by decide +kernel
theorem dX7_thing_144 : decode cX7_thing 144 = .ok (.iconst (-1), 1) := by decide +kernel
theorem dX7_thing_145 : decode cX7_thing 145 = .ok (.ireturn, 1) := by decide +kernel
theorem dX7_fact_0 : decode cX7_fact 0 = .ok (.iload_n 1, 1) := by decide +kernel
theorem dX7_fact_1 : decode cX7_fact 1 = .ok (.invokestatic 91, 3) := by decide +kernel
theorem dX7_fact_4 : decode cX7_fact 4 = .ok (.ifCond .eq 33, 3) := by decide +kernel
theorem dX7_fact_7 : decode cX7_fact 7 = .ok (.iload_n 2, 1) := by decide +kernel
theorem dX7_fact_8 : decode cX7_fact 8 = .ok (.invokestatic 95, 3) := by decide +kernel
theorem dX7_fact_11 : decode cX7_fact 11 = .ok (.ifCond .eq 26, 3) := by decide +kernel
theorem dX7_fact_14 : decode cX7_fact 14 = .ok (.iload_n 3, 1) := by decide +kernel
theorem dX7_fact_15 : decode cX7_fact 15 = .ok (.sipush (-10000), 3) := by decide +kernel
theorem dX7_fact_18 : decode cX7_fact 18 = .ok (.sipush 10000, 3) := by decide +kernel
theorem dX7_fact_21 : decode cX7_fact 21 = .ok (.invokestatic 73, 3) := by decide +kernel
theorem dX7_fact_24 : decode cX7_fact 24 = .ok (.ifCond .eq 13, 3) := by decide +kernel
theorem dX7_fact_27 : decode cX7_fact 27 = .ok (.aload_n 0, 1) := by decide +kernel
theorem dX7_fact_28 : decode cX7_fact 28 = .ok (.getfield 142, 3) := by decide +kernel
theorem dX7_fact_31 : decode cX7_fact 31 = .ok (.sipush 200, 3) := by decide +kernel
theorem dX7_fact_34 : decode cX7_fact 34 = .ok (.if_icmp .ne 5, 3) := by decide +kernel
theorem dX7_fact_37 : decode cX7_fact 37 = .ok (.iconst (-1), 1) := by decide +kernel
theorem dX7_fact_38 : decode cX7_fact 38 = .ok (.ireturn, 1) := by decide +kernel
theorem dX7_fact_39 : decode cX7_fact 39 = .ok (.aload_n 0, 1) := by decide +kernel
theorem dX7_fact_40 : decode cX7_fact 40 = .ok (.getfield 37, 3) := by decide +kernel
theorem dX7_fact_43 : decode cX7_fact 43 = .ok (.aload_n 0, 1) := by decide +kernel
theorem dX7_fact_44 : decode cX7_fact 44 = .ok (.getfield 142, 3) := by decide +kernel
theorem dX7_fact_47 : decode cX7_fact 47 = .ok (.iload_n 1, 1) := by decide +kernel
theorem dX7_fact_48 : decode cX7_fact 48 = .ok (.iastore, 1) := by decide +kernel
theorem dX7_fact_49 : decode cX7_fact 49 = .ok (.aload_n 0, 1) := by decide +kernel
theorem dX7_fact_50 : decode cX7_fact 50 = .ok (.getfield 40, 3) := by decide +kernel
theorem dX7_fact_53 : decode cX7_fact 53 = .ok (.aload_n 0, 1) := by decide +kernel
theorem dX7_fact_54 : decode cX7_fact 54 = .ok (.getfield 142, 3) := by decide +kernel
theorem dX7_fact_57 : decode cX7_fact 57 = .ok (.iload_n 2, 1) := by decide +kernel
theorem dX7_fact_58 : decode cX7_fact 58 = .ok (.iastore, 1) := by decide +kernel
theorem dX7_fact_59 : decode cX7_fact 59 = .ok (.aload_n 0, 1) := by decide +kernel
theorem dX7_fact_60 : decode cX7_fact 60 = .ok (.getfield 43, 3) := by decide +kernel
theorem dX7_fact_63 : decode cX7_fact 63 = .ok (.aload_n 0, 1) := by decide +kernel
theorem dX7_fact_64 : decode cX7_fact 64 = .ok (.getfield 142, 3) := by decide +kernel
theorem dX7_fact_67 : decode cX7_fact 67 = .ok (.iload_n 3, 1) := by decide +kernel
theorem dX7_fact_68 : decode cX7_fact 68 = .ok (.iastore, 1) := by decide +kernel
theorem dX7_fact_69 : decode cX7_fact 69 = .ok (.aload_n 0, 1) := by decide +kernel
theorem dX7_fact_70 : decode cX7_fact 70 = .ok (.getfield 46, 3) := by decide +kernel
theorem dX7_fact_73 : decode cX7_fact 73 = .ok (.aload_n 0, 1) := by decide +kernel
theorem dX7_fact_74 : decode cX7_fact 74 = .ok (.getfield 142, 3) := by decide +kernel
theorem dX7_fact_77 : decode cX7_fact 77 = .ok (.aload_n 0, 1) := by decide +kernel
theorem dX7_fact_78 : decode cX7_fact 78 = .ok (.getfield 81, 3) := by decide +kernel
theorem dX7_fact_81 : decode cX7_fact 81 = .ok (.iastore, 1) := by decide +kernel
theorem dX7_fact_82 : decode cX7_fact 82 = .ok (.aload_n 0, 1) := by decide +kernel
theorem dX7_fact_83 : decode cX7_fact 83 = .ok (.getfield 49, 3) := by decide +kernel
theorem dX7_fact_86 : decode cX7_fact 86 = .ok (.aload_n 0, 1) := by decide +kernel
theorem dX7_fact_87 : decode cX7_fact 87 = .ok (.getfield 142, 3) := by decide +kernel
theorem dX7_fact_90 : decode cX7_fact 90 = .ok (.aload_n 0, 1) := by decide +kernel
theorem dX7_fact_91 : decode cX7_fact 91 = .ok (.getfield 128, 3) := by decide +kernel
theorem dX7_fact_94 : decode cX7_fact 94 = .ok (.iastore, 1) := by decide +kernel
theorem dX7_fact_95 : decode cX7_fact 95 = .ok (.aload_n 0, 1) := by decide +kernel
theorem dX7_fact_96 : decode cX7_fact 96 = .ok (.dup, 1) := by decide +kernel
theorem dX7_fact_97 : decode cX7_fact 97 = .ok (.getfield 142, 3) := by decide +kernel
theorem dX7_fact_100 : decode cX7_fact 100 = .ok (.iconst 1, 1) := by decide +kernel
theorem dX7_fact_101 : decode cX7_fact 101 = .ok (.iadd, 1) := by decide +kernel
theorem dX7_fact_102 : decode cX7_fact 102 = .ok (.putfield 142, 3) := by decide +kernel
theorem dX7_fact_105 : decode cX7_fact 105 = .ok (.aload_n 0, 1) := by decide +kernel
theorem dX7_fact_106 : decode cX7_fact 106 = .ok (.getfield 142, 3) := by decide +kernel
theorem dX7_fact_109 : decode cX7_fact 109 = .ok (.iconst 1, 1) := by decide +kernel
theorem dX7_fact_110 : decode cX7_fact 110 = .ok (.isub, 1) := by decide +kernel
theorem dX7_fact_111 : decode cX7_fact 111 = .ok (.ireturn, 1) := by decide +kernel
theorem dX7_load_0 : decode cX7_load 0 = .ok (.aload_n 0, 1) := by decide +kernel
theorem dX7_load_1 : decode cX7_load 1 = .ok (.getfield 128, 3) := by decide +kernel
theorem dX7_load_4 : decode cX7_load 4 = .ok (.bipush 39, 2) := by decide +kernel
theorem dX7_load_6 : decode cX7_load 6 = .ok (.if_icmp .ne 5, 3) := by decide +kernel
theorem dX7_load_9 : decode cX7_load 9 = .ok (.iconst (-1), 1) := by decide +kernel
theorem dX7_load_10 : decode cX7_load 10 = .ok (.ireturn, 1) := by decide +kernel
theorem dX7_load_11 : decode cX7_load 11 = .ok (.aload_n 0, 1) := by decide +kernel
theorem dX7_load_12 : decode cX7_load 12 = .ok (.dup, 1) := by decide +kernel
theorem dX7_load_13 : decode cX7_load 13 = .ok (.getfield 128, 3) := by decide +kernel
theorem dX7_load_16 : decode cX7_load 16 = .ok (.iconst 1, 1) := by decide +kernel
theorem dX7_load_17 : decode cX7_load 17 = .ok (.iadd, 1) := by decide +kernel
theorem dX7_load_18 : decode cX7_load 18 = .ok (.putfield 128, 3) := by decide +kernel
theorem dX7_load_21 : decode cX7_load 21 = .ok (.aload_n 0, 1) := by decide +kernel
theorem dX7_load_22 : decode cX7_load 22 = .ok (.getfield 128, 3) := by decide +kernel
theorem dX7_load_25 : decode cX7_load 25 = .ok (.ireturn, 1) := by decide +kernel
theorem dX7_undo_0 : decode cX7_undo 0 = .ok (.iload_n 1, 1) := by decide +kernel
theorem dX7_undo_1 : decode cX7_undo 1 = .ok (.iconst 0, 1) := by decide +kernel
theorem dX7_undo_2 : decode cX7_undo 2 = .ok (.aload_n 0, 1) := by decide +kernel
theorem dX7_undo_3 : decode cX7_undo 3 = .ok (.getfield 128, 3) := by decide +kernel
theorem dX7_undo_6 : decode cX7_undo 6 = .ok (.iconst 1, 1) := by decide +kernel
theorem dX7_undo_7 : decode cX7_undo 7 = .ok (.isub, 1) := by decide +kernel
theorem dX7_undo_8 : decode cX7_undo 8 = .ok (.invokestatic 73, 3) := by decide +kernel
theorem dX7_undo_11 : decode cX7_undo 11 = .ok (.ifCond .eq 15, 3) := by decide +kernel
theorem dX7_undo_14 : decode cX7_undo 14 = .ok (.aload_n 0, 1) := by decide +kernel
theorem dX7_undo_15 : decode cX7_undo 15 = .ok (.getfield 70, 3) := by decide +kernel
theorem dX7_undo_18 : decode cX7_undo 18 = .ok (.iload_n 1, 1) := by decide +kernel
theorem dX7_undo_19 : decode cX7_undo 19 = .ok (.iaload, 1) := by decide +kernel
theorem dX7_undo_20 : decode cX7_undo 20 = .ok (.sipush 2001, 3) := by decide +kernel
theorem dX7_undo_23 : decode cX7_undo 23 = .ok (.if_icmp .eq 5, 3) := by decide +kernel
theorem dX7_undo_26 : decode cX7_undo 26 = .ok (.iconst (-1), 1) := by decide +kernel
theorem dX7_undo_27 : decode cX7_undo 27 = .ok (.ireturn, 1) := by decide +kernel
theorem dX7_undo_28 : decode cX7_undo 28 = .ok (.aload_n 0, 1) := by decide +kernel
theorem dX7_undo_29 : decode cX7_undo 29 = .ok (.getfield 70, 3) := by decide +kernel
theorem dX7_undo_32 : decode cX7_undo 32 = .ok (.iload_n 1, 1) := by decide +kernel
theorem dX7_undo_33 : decode cX7_undo 33 = .ok (.aload_n 0, 1) := by decide +kernel
theorem dX7_undo_34 : decode cX7_undo 34 = .ok (.getfield 81, 3) := by decide +kernel
theorem dX7_undo_37 : decode cX7_undo 37 = .ok (.iastore, 1) := by decide +kernel
theorem dX7_undo_38 : decode cX7_undo 38 = .ok (.iconst 0, 1) := by decide +kernel
theorem dX7_undo_39 : decode cX7_undo 39 = .ok (.istore_n 2, 1) := by decide +kernel
theorem dX7_undo_40 : decode cX7_undo 40 = .ok (.iconst 0, 1) := by decide +kernel
theorem dX7_undo_41 : decode cX7_undo 41 = .ok (.istore_n 3, 1) := by decide +kernel
theorem dX7_undo_42 : decode cX7_undo 42 = .ok (.iload_n 3, 1) := by decide +kernel
theorem dX7_undo_43 : decode cX7_undo 43 = .ok (.aload_n 0, 1) := by decide +kernel
theorem dX7_undo_44 : decode cX7_undo 44 = .ok (.getfield 122, 3) := by decide +kernel
theorem dX7_undo_47 : decode cX7_undo 47 = .ok (.if_icmp .ge 30, 3) := by decide +kernel
theorem dX7_undo_50 : decode cX7_undo 50 = .ok (.iload_n 2, 1) := by decide +kernel
theorem dX7_undo_51 : decode cX7_undo 51 = .ok (.aload_n 0, 1) := by decide +kernel
theorem dX7_undo_52 : decode cX7_undo 52 = .ok (.getfield 67, 3) := by decide +kernel
theorem dX7_undo_55 : decode cX7_undo 55 = .ok (.iload_n 3, 1) := by decide +kernel
